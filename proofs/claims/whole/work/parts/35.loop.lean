-- THE LAW'S LOOP
theorem isC_i {c : Int32} {ex : Nat} (h1 : ex ≤ 3) (h2 : c = nI (2 ^ ex)) : isC c = true := by
  subst h2
  rcases (show ex = 0 ∨ ex = 1 ∨ ex = 2 ∨ ex = 3 by omega) with q | q | q | q <;> subst q <;> decide
theorem ex_u {a b : Nat} (h1 : a ≤ 3) (h2 : b ≤ 3) (h : nI (2 ^ a) = nI (2 ^ b)) : a = b := by
  rcases (show a = 0 ∨ a = 1 ∨ a = 2 ∨ a = 3 by omega) with q | q | q | q <;> rcases (show b = 0 ∨ b = 1 ∨ b = 2 ∨ b = 3 by omega) with r | r | r | r <;> subst q <;> subst r <;> first | rfl | exact absurd h (by decide)
theorem lC_i {z : Int32} {r : Nat} (h1 : r ≤ 15) (h2 : z = nI (2 * r + 1)) : lC z = true := by
  subst h2
  refine decide_eq_true ⟨fun q => ?_, fun q => ?_, fun q => ?_⟩
  · have := (nI_ltI (by omega) (by omega)).mp q; omega
  · have := (nI_ltI (by omega) (by omega)).mp q; omega
  · rw [pk_rem (by omega) (by decide) (by decide), nI_z (by omega)] at q; omega
theorem nI_u {a b : Nat} (h1 : a ≤ 1000) (h2 : b ≤ 1000) (h : nI a = nI b) : a = b := (nI_eq (by omega) (by omega)).mp h
theorem isP_i {a c : Int32} {x y n : Nat} (h1 : a = nI x) (h2 : c = nI y) (hn : n ≤ 16) (hx : x ≤ n) (hy : y ≤ n - x) : isP a c (nI n) = true := by
  subst h1; subst h2
  refine decide_eq_true ⟨Int32.not_lt.mp (nI_pos (by omega)), (nI_leI (by omega) (by omega)).mpr hx, Int32.not_lt.mp (nI_pos (by omega)), ?_⟩
  rw [pk_sub hx]; exact (nI_leI (by omega) (by omega)).mpr hy
theorem put_lt {n : Nat} {sam : Nat → Nat} {p : Nat} {v : Int32} (hs : ∀ k, k < n → sam k < 256) (h1 : ¬ v < 0) (h2 : ¬ nI 255 < v) : ∀ k, k < n → va_up sam p v.toNatClampNeg k < 256 := by
  intro k hk
  obtain ⟨j, hj, rfl⟩ := nI_of h1
  have := mt (nI_ltI (a := 255) (b := j) (by decide) hj).mpr h2
  by_cases e : k = p
  · rw [e, va_up_self, nI_clamp hj]; omega
  · rw [va_up_ne _ _ e]; exact hs k hk
theorem sw_o {v : Int32} (h : ∀ k, k ≤ 15 → ¬ v = nI k) : v.toInt < 0 ∨ 15 < v.toInt := by
  by_cases z : v.toInt < 0
  · exact Or.inl z
  · right
    have hn : ¬ v < 0 := by rw [Int32.lt_iff_toInt_lt, Int32.toInt_zero]; omega
    obtain ⟨j, hj, rfl⟩ := nI_of hn
    rw [nI_toInt hj]
    rcases Nat.lt_or_ge 15 j with q | q
    · omega
    · exact absurd rfl (h j q)
set_option maxHeartbeats 1000000 in
set_option maxRecDepth 20000 in
theorem law_put {x : q_X} {L : Nat} {xs : Nat → Int32} (hL : L ≤ 3074) (okx : ∀ k n, k ≤ 601024 → n ≤ 7293000 → q_ok (q_cs x k n) cL_law RL 10 354) (rl : q_rl x L xs) (fit : q_fit x 601024 7293000) {w h : Nat} (g : q_g w h) {d i : Nat} (ih : (∀ d2, d2 < d → ∀ (i : Nat) (sam : Nat → Nat) (blk : Nat → Bool) (lost : Int64) (ogr : Nat → Nat) (came : Nat → Int32) (sums sqs : Nat → Int64) (mrk : Nat → Bool) (que : Nat → Nat) (qd : Nat) (out : Nat → Int64) (thr : Nat) (nxt : Nat → Bool) (came2 part : Nat → Int32) (o5 o6 o7 : Option q_V), d2 = L + 6 - i → i ≤ L → (∀ k, k < w * h → sam k < 256) → bS w h sums → bS w h sqs → q_W (q_cs x (50 + i) (5000 + 6 * i)) 43 [some (.inr (.inr (some 16))), some (.inr (.inr (some 0))), some (.inr (.inr (some 10))), some (.inr (.inr (some 9))), some (.inl (nI i)), o5, o6, o7] [] (lW w h sam blk lost ogr came sums sqs mrk que qd out w h thr sam blk nxt came2 part lost))) (sam : Nat → Nat) (blk : Nat → Bool) (lost : Int64) (ogr : Nat → Nat) (came : Nat → Int32) (sums sqs : Nat → Int64) (mrk : Nat → Bool) (que : Nat → Nat) (qd : Nat) (out : Nat → Int64) (thr : Nat) (nxt : Nat → Bool) (came2 part : Nat → Int32) (o5 o6 o7 : Option q_V) (hd : d = L + 6 - i) (hi : i + 6 ≤ L) (hs : ∀ k, k < w * h → sam k < 256) (hb1 : bS w h sums) (hb2 : bS w h sqs) : q_W (q_cs x (50 + i) (5000 + 6 * i)) 140 [some (.inr (.inr (some 16))), some (.inr (.inr (some 0))), some (.inr (.inr (some 10))), some (.inr (.inr (some 9))), some (.inl (nI i)), o5, o6, o7] [] (lW w h sam blk lost ogr came sums sqs mrk que qd out w h thr sam blk nxt came2 part lost) := by
  have okc := okx (50 + i) (5000 + 6 * i) (by omega) (by omega)
  have okd := okx (50 + i + 1) (5000 + 6 * i + 6) (by omega) (by omega)
  refine q_aload_n okc rfl dL_law_140 ?_
  refine q_aload_n okc rfl dL_law_141 ?_
  refine q_iload okc rfl dL_law_142 ?_
  refine q_iconstv (nI 1) okc (by decide) dL_law_144 ?_
  refine q_iaddN okc dL_law_145 ?_
  refine q_sld okc rl (by omega) hL dL_law_146 ?_
  refine q_aload_n okc rfl dL_law_147 ?_
  refine q_iload okc rfl dL_law_148 ?_
  refine q_iconstv (nI 2) okc (by decide) dL_law_150 ?_
  refine q_iaddN okc dL_law_151 ?_
  refine q_sld okc rl (by omega) hL dL_law_152 ?_
  refine q_aload_n okc rfl dL_law_153 ?_
  refine q_iload okc rfl dL_law_154 ?_
  refine q_iconstv (nI 3) okc (by decide) dL_law_156 ?_
  refine q_iaddN okc dL_law_157 ?_
  refine q_sld okc rl (by omega) hL dL_law_158 ?_
  refine q_aload_n okc rfl dL_law_159 ?_
  rw [lw_L]
  refine lL_put g (Nat.le_of_ble_eq_true rfl) okc rl (q_fit_le fit (by omega) (by omega)) dL_law_160 ?_ ?_ ?_
  · intro y0 y1 y2
    rw [← lw_L]
    refine q_istore_5 okd rfl dL_law_163 ?_
    refine q_aload_n okd rfl dL_law_165 ?_
    refine q_aload_n okd rfl dL_law_166 ?_
    refine q_iload okd rfl dL_law_167 ?_
    refine q_iconstv (nI 1) okd (by decide) dL_law_169 ?_
    refine q_iaddN okd dL_law_170 ?_
    refine q_sld okd rl (by omega) hL dL_law_171 ?_
    refine q_aload_n okd rfl dL_law_172 ?_
    refine q_iload okd rfl dL_law_173 ?_
    refine q_iconstv (nI 2) okd (by decide) dL_law_175 ?_
    refine q_iaddN okd dL_law_176 ?_
    refine q_sld okd rl (by omega) hL dL_law_177 ?_
    refine q_aload_n okd rfl dL_law_178 ?_
    refine q_iload okd rfl dL_law_179 ?_
    refine q_iconstv (nI 3) okd (by decide) dL_law_181 ?_
    refine q_iaddN okd dL_law_182 ?_
    refine q_sld okd rl (by omega) hL dL_law_183 ?_
    rw [lw_X1]
    refine lX1_put rfl g (Nat.le_of_ble_eq_true rfl) okd dL_law_184 ?_ ?_ ?_
    · intro z0 z1 z2
      rw [← lw_X1]
      refine q_istore_6 okd rfl dL_law_187 ?_
      refine q_aload_n okd rfl dL_law_189 ?_
      rw [lw_X1]
      refine lX1_thrown rfl (Nat.le_of_ble_eq_true rfl) okd dL_law_190 ?_
      rw [← lw_X1]
      refine q_iload okd rfl dL_law_193 ?_
      refine q_icmp_eq 200 okd dL_law_195 (by decide) (fun _ => ?_) (fun q => absurd rfl q)
      refine q_iload okd rfl dL_law_200 ?_
      refine q_if_ne 217 okd dL_law_202 (by decide) (fun q => absurd (by decide) q) (fun _ => ?_)
      refine q_aload_n okd rfl dL_law_205 ?_
      refine q_iconstv (nI 0) okd (by decide) dL_law_206 ?_
      refine lw_out okd dL_law_207 ?_
      refine q_iload okd rfl dL_law_208 ?_
      refine q_i2l okd dL_law_210 ?_
      refine q_lcmp okd dL_law_211 ?_
      refine q_if_eq 217 okd dL_law_212 (by decide) (fun _ => ?_) (fun q => absurd ((lg_cmp_eq _ _).mpr (by rw [va_up_self])) q)
      refine q_goto 924 okd dL_law_217 (by decide) ?_
      refine q_iincN_4 6 okd rfl (by decide) dL_law_924 ?_
      refine q_goto 43 okd dL_law_927 (by decide) ?_
      exact q_wide (by omega) (by omega) (ih _ (by omega) (i + 6) _ _ _ _ _ _ _ _ _ _ _ _ _ _ _ _ _ _ rfl (by omega) (put_lt hs y1 y2) hb1 hb2)
    · intro z0
      exact absurd (y0.symm.trans z0) (by decide)
    · intro z0 z1
      exact False.elim (z1.elim y1 y2)
  · intro y0
    rw [← lw_L]
    refine q_istore_5 okd rfl dL_law_163 ?_
    refine q_aload_n okd rfl dL_law_165 ?_
    refine q_aload_n okd rfl dL_law_166 ?_
    refine q_iload okd rfl dL_law_167 ?_
    refine q_iconstv (nI 1) okd (by decide) dL_law_169 ?_
    refine q_iaddN okd dL_law_170 ?_
    refine q_sld okd rl (by omega) hL dL_law_171 ?_
    refine q_aload_n okd rfl dL_law_172 ?_
    refine q_iload okd rfl dL_law_173 ?_
    refine q_iconstv (nI 2) okd (by decide) dL_law_175 ?_
    refine q_iaddN okd dL_law_176 ?_
    refine q_sld okd rl (by omega) hL dL_law_177 ?_
    refine q_aload_n okd rfl dL_law_178 ?_
    refine q_iload okd rfl dL_law_179 ?_
    refine q_iconstv (nI 3) okd (by decide) dL_law_181 ?_
    refine q_iaddN okd dL_law_182 ?_
    refine q_sld okd rl (by omega) hL dL_law_183 ?_
    rw [lw_X1]
    refine lX1_put rfl g (Nat.le_of_ble_eq_true rfl) okd dL_law_184 ?_ ?_ ?_
    · intro z0 z1 z2
      exact absurd (z0.symm.trans y0) (by decide)
    · intro z0
      rw [← lw_X1]
      refine q_istore_6 okd rfl dL_law_187 ?_
      refine q_aload_n okd rfl dL_law_189 ?_
      rw [lw_X1]
      refine lX1_thrown rfl (Nat.le_of_ble_eq_true rfl) okd dL_law_190 ?_
      rw [← lw_X1]
      refine q_iload okd rfl dL_law_193 ?_
      refine q_icmp_eq 200 okd dL_law_195 (by decide) (fun _ => ?_) (fun q => absurd rfl q)
      refine q_iload okd rfl dL_law_200 ?_
      refine q_if_ne 217 okd dL_law_202 (by decide) (fun _ => ?_) (fun q => absurd q (by decide))
      refine q_goto 924 okd dL_law_217 (by decide) ?_
      refine q_iincN_4 6 okd rfl (by decide) dL_law_924 ?_
      refine q_goto 43 okd dL_law_927 (by decide) ?_
      exact q_wide (by omega) (by omega) (ih _ (by omega) (i + 6) _ _ _ _ _ _ _ _ _ _ _ _ _ _ _ _ _ _ rfl (by omega) hs hb1 hb2)
    · intro z0 z1
      exact absurd (z0.symm.trans y0) (by decide)
  · intro y0
    rw [← lw_L]
    refine q_istore_5 okd rfl dL_law_163 ?_
    refine q_aload_n okd rfl dL_law_165 ?_
    refine q_aload_n okd rfl dL_law_166 ?_
    refine q_iload okd rfl dL_law_167 ?_
    refine q_iconstv (nI 1) okd (by decide) dL_law_169 ?_
    refine q_iaddN okd dL_law_170 ?_
    refine q_sld okd rl (by omega) hL dL_law_171 ?_
    refine q_aload_n okd rfl dL_law_172 ?_
    refine q_iload okd rfl dL_law_173 ?_
    refine q_iconstv (nI 2) okd (by decide) dL_law_175 ?_
    refine q_iaddN okd dL_law_176 ?_
    refine q_sld okd rl (by omega) hL dL_law_177 ?_
    refine q_aload_n okd rfl dL_law_178 ?_
    refine q_iload okd rfl dL_law_179 ?_
    refine q_iconstv (nI 3) okd (by decide) dL_law_181 ?_
    refine q_iaddN okd dL_law_182 ?_
    refine q_sld okd rl (by omega) hL dL_law_183 ?_
    rw [lw_X1]
    refine lX1_put rfl g (Nat.le_of_ble_eq_true rfl) okd dL_law_184 ?_ ?_ ?_
    · intro z0 z1 z2
      exact False.elim (y0.2.elim z1 z2)
    · intro z0
      exact absurd (y0.1.symm.trans z0) (by decide)
    · intro z0 z1
      rw [← lw_X1]
      refine q_istore_6 okd rfl dL_law_187 ?_
      refine q_aload_n okd rfl dL_law_189 ?_
      rw [lw_X1]
      refine lX1_thrown rfl (Nat.le_of_ble_eq_true rfl) okd dL_law_190 ?_
      rw [← lw_X1]
      refine q_iload okd rfl dL_law_193 ?_
      refine q_icmp_eq 200 okd dL_law_195 (by decide) (fun _ => ?_) (fun q => absurd rfl q)
      refine q_iload okd rfl dL_law_200 ?_
      refine q_if_ne 217 okd dL_law_202 (by decide) (fun _ => ?_) (fun q => absurd q (by decide))
      refine q_goto 924 okd dL_law_217 (by decide) ?_
      refine q_iincN_4 6 okd rfl (by decide) dL_law_924 ?_
      refine q_goto 43 okd dL_law_927 (by decide) ?_
      exact q_wide (by omega) (by omega) (ih _ (by omega) (i + 6) _ _ _ _ _ _ _ _ _ _ _ _ _ _ _ _ _ _ rfl (by omega) hs hb1 hb2)
set_option maxHeartbeats 1000000 in
set_option maxRecDepth 20000 in
theorem law_paint {x : q_X} {L : Nat} {xs : Nat → Int32} (hL : L ≤ 3074) (okx : ∀ k n, k ≤ 601024 → n ≤ 7293000 → q_ok (q_cs x k n) cL_law RL 10 354) (rl : q_rl x L xs) (fit : q_fit x 601024 7293000) {w h : Nat} (g : q_g w h) {d i : Nat} (ih : (∀ d2, d2 < d → ∀ (i : Nat) (sam : Nat → Nat) (blk : Nat → Bool) (lost : Int64) (ogr : Nat → Nat) (came : Nat → Int32) (sums sqs : Nat → Int64) (mrk : Nat → Bool) (que : Nat → Nat) (qd : Nat) (out : Nat → Int64) (thr : Nat) (nxt : Nat → Bool) (came2 part : Nat → Int32) (o5 o6 o7 : Option q_V), d2 = L + 6 - i → i ≤ L → (∀ k, k < w * h → sam k < 256) → bS w h sums → bS w h sqs → q_W (q_cs x (50 + i) (5000 + 6 * i)) 43 [some (.inr (.inr (some 16))), some (.inr (.inr (some 0))), some (.inr (.inr (some 10))), some (.inr (.inr (some 9))), some (.inl (nI i)), o5, o6, o7] [] (lW w h sam blk lost ogr came sums sqs mrk que qd out w h thr sam blk nxt came2 part lost))) (sam : Nat → Nat) (blk : Nat → Bool) (lost : Int64) (ogr : Nat → Nat) (came : Nat → Int32) (sums sqs : Nat → Int64) (mrk : Nat → Bool) (que : Nat → Nat) (qd : Nat) (out : Nat → Int64) (thr : Nat) (nxt : Nat → Bool) (came2 part : Nat → Int32) (o5 o6 o7 : Option q_V) (hd : d = L + 6 - i) (hi : i + 6 ≤ L) (hs : ∀ k, k < w * h → sam k < 256) (hb1 : bS w h sums) (hb2 : bS w h sqs) : q_W (q_cs x (50 + i) (5000 + 6 * i)) 220 [some (.inr (.inr (some 16))), some (.inr (.inr (some 0))), some (.inr (.inr (some 10))), some (.inr (.inr (some 9))), some (.inl (nI i)), o5, o6, o7] [] (lW w h sam blk lost ogr came sums sqs mrk que qd out w h thr sam blk nxt came2 part lost) := by
  have okc := okx (50 + i) (5000 + 6 * i) (by omega) (by omega)
  have okd := okx (50 + i + 1) (5000 + 6 * i + 6) (by omega) (by omega)
  refine q_aload_n okc rfl dL_law_220 ?_
  refine q_aload_n okc rfl dL_law_221 ?_
  refine q_iload okc rfl dL_law_222 ?_
  refine q_iconstv (nI 1) okc (by decide) dL_law_224 ?_
  refine q_iaddN okc dL_law_225 ?_
  refine q_sld okc rl (by omega) hL dL_law_226 ?_
  refine q_aload_n okc rfl dL_law_227 ?_
  refine q_iload okc rfl dL_law_228 ?_
  refine q_iconstv (nI 2) okc (by decide) dL_law_230 ?_
  refine q_iaddN okc dL_law_231 ?_
  refine q_sld okc rl (by omega) hL dL_law_232 ?_
  rw [lw_X0]
  refine lX0_paint g hs (Nat.le_of_ble_eq_true rfl) okc dL_law_233 ?_
  rw [← lw_X0]
  refine q_aload_n okc rfl dL_law_236 ?_
  refine q_aload_n okc rfl dL_law_237 ?_
  refine q_iload okc rfl dL_law_238 ?_
  refine q_iconstv (nI 1) okc (by decide) dL_law_240 ?_
  refine q_iaddN okc dL_law_241 ?_
  refine q_sld okc rl (by omega) hL dL_law_242 ?_
  refine q_aload_n okc rfl dL_law_243 ?_
  refine q_iload okc rfl dL_law_244 ?_
  refine q_iconstv (nI 2) okc (by decide) dL_law_246 ?_
  refine q_iaddN okc dL_law_247 ?_
  refine q_sld okc rl (by omega) hL dL_law_248 ?_
  rw [lw_X1]
  refine lX1_paint rfl g hs (Nat.le_of_ble_eq_true rfl) okc dL_law_249 ?_
  rw [← lw_X1]
  refine q_icmp_eq 924 okc dL_law_252 (by decide) (fun _ => ?_) (fun q => absurd rfl q)
  refine q_iincN_4 6 okc rfl (by decide) dL_law_924 ?_
  refine q_goto 43 okc dL_law_927 (by decide) ?_
  exact q_wide (by omega) (by omega) (ih _ (by omega) (i + 6) _ _ _ _ _ _ _ _ _ _ _ _ _ _ _ _ _ _ rfl (by omega) (fun k hk => by show (if k < w * h then lo8 _ else sam k) < 256; rw [if_pos hk]; exact lo8_lt _) hb1 hb2)
set_option maxHeartbeats 1000000 in
set_option maxRecDepth 20000 in
theorem law_global {x : q_X} {L : Nat} {xs : Nat → Int32} (hL : L ≤ 3074) (okx : ∀ k n, k ≤ 601024 → n ≤ 7293000 → q_ok (q_cs x k n) cL_law RL 10 354) (rl : q_rl x L xs) (fit : q_fit x 601024 7293000) {w h : Nat} (g : q_g w h) {d i : Nat} (ih : (∀ d2, d2 < d → ∀ (i : Nat) (sam : Nat → Nat) (blk : Nat → Bool) (lost : Int64) (ogr : Nat → Nat) (came : Nat → Int32) (sums sqs : Nat → Int64) (mrk : Nat → Bool) (que : Nat → Nat) (qd : Nat) (out : Nat → Int64) (thr : Nat) (nxt : Nat → Bool) (came2 part : Nat → Int32) (o5 o6 o7 : Option q_V), d2 = L + 6 - i → i ≤ L → (∀ k, k < w * h → sam k < 256) → bS w h sums → bS w h sqs → q_W (q_cs x (50 + i) (5000 + 6 * i)) 43 [some (.inr (.inr (some 16))), some (.inr (.inr (some 0))), some (.inr (.inr (some 10))), some (.inr (.inr (some 9))), some (.inl (nI i)), o5, o6, o7] [] (lW w h sam blk lost ogr came sums sqs mrk que qd out w h thr sam blk nxt came2 part lost))) (sam : Nat → Nat) (blk : Nat → Bool) (lost : Int64) (ogr : Nat → Nat) (came : Nat → Int32) (sums sqs : Nat → Int64) (mrk : Nat → Bool) (que : Nat → Nat) (qd : Nat) (out : Nat → Int64) (thr : Nat) (nxt : Nat → Bool) (came2 part : Nat → Int32) (o5 o6 o7 : Option q_V) (hd : d = L + 6 - i) (hi : i + 6 ≤ L) (hs : ∀ k, k < w * h → sam k < 256) (hb1 : bS w h sums) (hb2 : bS w h sqs) : q_W (q_cs x (50 + i) (5000 + 6 * i)) 257 [some (.inr (.inr (some 16))), some (.inr (.inr (some 0))), some (.inr (.inr (some 10))), some (.inr (.inr (some 9))), some (.inl (nI i)), o5, o6, o7] [] (lW w h sam blk lost ogr came sums sqs mrk que qd out w h thr sam blk nxt came2 part lost) := by
  have okc := okx (50 + i) (5000 + 6 * i) (by omega) (by omega)
  have okd := okx (50 + i + 1) (5000 + 6 * i + 6) (by omega) (by omega)
  refine q_aload_n okc rfl dL_law_257 ?_
  rw [lw_X0]
  refine lX0_global g hs (Nat.le_of_ble_eq_true rfl) okc dL_law_258 ?_
  rw [← lw_X0]
  refine q_aload_n okc rfl dL_law_261 ?_
  rw [lw_X1]
  refine lX1_global rfl g hs (Nat.le_of_ble_eq_true rfl) okc dL_law_262 ?_
  rw [← lw_X1]
  refine q_icmp_eq 924 okc dL_law_265 (by decide) (fun _ => ?_) (fun q => absurd rfl q)
  refine q_iincN_4 6 okc rfl (by decide) dL_law_924 ?_
  refine q_goto 43 okc dL_law_927 (by decide) ?_
  exact q_wide (by omega) (by omega) (ih _ (by omega) (i + 6) _ _ _ _ _ _ _ _ _ _ _ _ _ _ _ _ _ _ rfl (by omega) hs hb1 hb2)
set_option maxHeartbeats 1000000 in
set_option maxRecDepth 20000 in
theorem law_rest {x : q_X} {L : Nat} {xs : Nat → Int32} (hL : L ≤ 3074) (okx : ∀ k n, k ≤ 601024 → n ≤ 7293000 → q_ok (q_cs x k n) cL_law RL 10 354) (rl : q_rl x L xs) (fit : q_fit x 601024 7293000) {w h : Nat} (g : q_g w h) {d i : Nat} (ih : (∀ d2, d2 < d → ∀ (i : Nat) (sam : Nat → Nat) (blk : Nat → Bool) (lost : Int64) (ogr : Nat → Nat) (came : Nat → Int32) (sums sqs : Nat → Int64) (mrk : Nat → Bool) (que : Nat → Nat) (qd : Nat) (out : Nat → Int64) (thr : Nat) (nxt : Nat → Bool) (came2 part : Nat → Int32) (o5 o6 o7 : Option q_V), d2 = L + 6 - i → i ≤ L → (∀ k, k < w * h → sam k < 256) → bS w h sums → bS w h sqs → q_W (q_cs x (50 + i) (5000 + 6 * i)) 43 [some (.inr (.inr (some 16))), some (.inr (.inr (some 0))), some (.inr (.inr (some 10))), some (.inr (.inr (some 9))), some (.inl (nI i)), o5, o6, o7] [] (lW w h sam blk lost ogr came sums sqs mrk que qd out w h thr sam blk nxt came2 part lost))) (sam : Nat → Nat) (blk : Nat → Bool) (lost : Int64) (ogr : Nat → Nat) (came : Nat → Int32) (sums sqs : Nat → Int64) (mrk : Nat → Bool) (que : Nat → Nat) (qd : Nat) (out : Nat → Int64) (thr : Nat) (nxt : Nat → Bool) (came2 part : Nat → Int32) (o5 o6 o7 : Option q_V) (hd : d = L + 6 - i) (hi : i + 6 ≤ L) (hs : ∀ k, k < w * h → sam k < 256) (hb1 : bS w h sums) (hb2 : bS w h sqs) : q_W (q_cs x (50 + i) (5000 + 6 * i)) 394 [some (.inr (.inr (some 16))), some (.inr (.inr (some 0))), some (.inr (.inr (some 10))), some (.inr (.inr (some 9))), some (.inl (nI i)), o5, o6, o7] [] (lW w h sam blk lost ogr came sums sqs mrk que qd out w h thr sam blk nxt came2 part lost) := by
  have okc := okx (50 + i) (5000 + 6 * i) (by omega) (by omega)
  have okd := okx (50 + i + 1) (5000 + 6 * i + 6) (by omega) (by omega)
  refine q_aload_n okc rfl dL_law_394 ?_
  rw [lw_X0]
  refine lX0_rest (Nat.le_of_ble_eq_true rfl) okc dL_law_395 ?_
  rw [← lw_X0]
  refine q_aload_n okc rfl dL_law_398 ?_
  rw [lw_X1]
  refine lX1_rest rfl (Nat.le_of_ble_eq_true rfl) okc dL_law_399 ?_
  rw [← lw_X1]
  refine q_lcmp okc dL_law_402 ?_
  refine q_if_eq 924 okc dL_law_403 (by decide) (fun _ => ?_) (fun q => absurd ((lg_cmp_eq _ _).mpr (rfl)) q)
  refine q_iincN_4 6 okc rfl (by decide) dL_law_924 ?_
  refine q_goto 43 okc dL_law_927 (by decide) ?_
  exact q_wide (by omega) (by omega) (ih _ (by omega) (i + 6) _ _ _ _ _ _ _ _ _ _ _ _ _ _ _ _ _ _ rfl (by omega) hs hb1 hb2)
set_option maxHeartbeats 1000000 in
set_option maxRecDepth 20000 in
theorem law_edges {x : q_X} {L : Nat} {xs : Nat → Int32} (hL : L ≤ 3074) (okx : ∀ k n, k ≤ 601024 → n ≤ 7293000 → q_ok (q_cs x k n) cL_law RL 10 354) (rl : q_rl x L xs) (fit : q_fit x 601024 7293000) {w h : Nat} (g : q_g w h) {d i : Nat} (ih : (∀ d2, d2 < d → ∀ (i : Nat) (sam : Nat → Nat) (blk : Nat → Bool) (lost : Int64) (ogr : Nat → Nat) (came : Nat → Int32) (sums sqs : Nat → Int64) (mrk : Nat → Bool) (que : Nat → Nat) (qd : Nat) (out : Nat → Int64) (thr : Nat) (nxt : Nat → Bool) (came2 part : Nat → Int32) (o5 o6 o7 : Option q_V), d2 = L + 6 - i → i ≤ L → (∀ k, k < w * h → sam k < 256) → bS w h sums → bS w h sqs → q_W (q_cs x (50 + i) (5000 + 6 * i)) 43 [some (.inr (.inr (some 16))), some (.inr (.inr (some 0))), some (.inr (.inr (some 10))), some (.inr (.inr (some 9))), some (.inl (nI i)), o5, o6, o7] [] (lW w h sam blk lost ogr came sums sqs mrk que qd out w h thr sam blk nxt came2 part lost))) (sam : Nat → Nat) (blk : Nat → Bool) (lost : Int64) (ogr : Nat → Nat) (came : Nat → Int32) (sums sqs : Nat → Int64) (mrk : Nat → Bool) (que : Nat → Nat) (qd : Nat) (out : Nat → Int64) (thr : Nat) (nxt : Nat → Bool) (came2 part : Nat → Int32) (o5 o6 o7 : Option q_V) (hd : d = L + 6 - i) (hi : i + 6 ≤ L) (hs : ∀ k, k < w * h → sam k < 256) (hb1 : bS w h sums) (hb2 : bS w h sqs) : q_W (q_cs x (50 + i) (5000 + 6 * i)) 588 [some (.inr (.inr (some 16))), some (.inr (.inr (some 0))), some (.inr (.inr (some 10))), some (.inr (.inr (some 9))), some (.inl (nI i)), o5, o6, o7] [] (lW w h sam blk lost ogr came sums sqs mrk que qd out w h thr sam blk nxt came2 part lost) := by
  have okc := okx (50 + i) (5000 + 6 * i) (by omega) (by omega)
  have okd := okx (50 + i + 1) (5000 + 6 * i + 6) (by omega) (by omega)
  refine q_aload_n okc rfl dL_law_588 ?_
  rw [lw_X0]
  refine lX0_edges g (Nat.le_of_ble_eq_true rfl) okc dL_law_589 ?_
  rw [← lw_X0]
  refine q_aload_n okc rfl dL_law_592 ?_
  rw [lw_X1]
  refine lX1_edges rfl g (Nat.le_of_ble_eq_true rfl) okc dL_law_593 ?_
  rw [← lw_X1]
  refine q_icmp_eq 924 okc dL_law_596 (by decide) (fun _ => ?_) (fun q => absurd rfl q)
  refine q_iincN_4 6 okc rfl (by decide) dL_law_924 ?_
  refine q_goto 43 okc dL_law_927 (by decide) ?_
  exact q_wide (by omega) (by omega) (ih _ (by omega) (i + 6) _ _ _ _ _ _ _ _ _ _ _ _ _ _ _ _ _ _ rfl (by omega) hs hb1 hb2)
set_option maxHeartbeats 1000000 in
set_option maxRecDepth 20000 in
theorem law_invert {x : q_X} {L : Nat} {xs : Nat → Int32} (hL : L ≤ 3074) (okx : ∀ k n, k ≤ 601024 → n ≤ 7293000 → q_ok (q_cs x k n) cL_law RL 10 354) (rl : q_rl x L xs) (fit : q_fit x 601024 7293000) {w h : Nat} (g : q_g w h) {d i : Nat} (ih : (∀ d2, d2 < d → ∀ (i : Nat) (sam : Nat → Nat) (blk : Nat → Bool) (lost : Int64) (ogr : Nat → Nat) (came : Nat → Int32) (sums sqs : Nat → Int64) (mrk : Nat → Bool) (que : Nat → Nat) (qd : Nat) (out : Nat → Int64) (thr : Nat) (nxt : Nat → Bool) (came2 part : Nat → Int32) (o5 o6 o7 : Option q_V), d2 = L + 6 - i → i ≤ L → (∀ k, k < w * h → sam k < 256) → bS w h sums → bS w h sqs → q_W (q_cs x (50 + i) (5000 + 6 * i)) 43 [some (.inr (.inr (some 16))), some (.inr (.inr (some 0))), some (.inr (.inr (some 10))), some (.inr (.inr (some 9))), some (.inl (nI i)), o5, o6, o7] [] (lW w h sam blk lost ogr came sums sqs mrk que qd out w h thr sam blk nxt came2 part lost))) (sam : Nat → Nat) (blk : Nat → Bool) (lost : Int64) (ogr : Nat → Nat) (came : Nat → Int32) (sums sqs : Nat → Int64) (mrk : Nat → Bool) (que : Nat → Nat) (qd : Nat) (out : Nat → Int64) (thr : Nat) (nxt : Nat → Bool) (came2 part : Nat → Int32) (o5 o6 o7 : Option q_V) (hd : d = L + 6 - i) (hi : i + 6 ≤ L) (hs : ∀ k, k < w * h → sam k < 256) (hb1 : bS w h sums) (hb2 : bS w h sqs) : q_W (q_cs x (50 + i) (5000 + 6 * i)) 601 [some (.inr (.inr (some 16))), some (.inr (.inr (some 0))), some (.inr (.inr (some 10))), some (.inr (.inr (some 9))), some (.inl (nI i)), o5, o6, o7] [] (lW w h sam blk lost ogr came sums sqs mrk que qd out w h thr sam blk nxt came2 part lost) := by
  have okc := okx (50 + i) (5000 + 6 * i) (by omega) (by omega)
  have okd := okx (50 + i + 1) (5000 + 6 * i + 6) (by omega) (by omega)
  refine q_aload_n okc rfl dL_law_601 ?_
  rw [lw_X0]
  refine lX0_invert g (Nat.le_of_ble_eq_true rfl) okc dL_law_602 ?_
  rw [← lw_X0]
  refine q_aload_n okc rfl dL_law_605 ?_
  rw [lw_X1]
  refine lX1_invert rfl g (Nat.le_of_ble_eq_true rfl) okc dL_law_606 ?_
  rw [← lw_X1]
  refine q_icmp_eq 924 okc dL_law_609 (by decide) (fun _ => ?_) (fun q => absurd rfl q)
  refine q_iincN_4 6 okc rfl (by decide) dL_law_924 ?_
  refine q_goto 43 okc dL_law_927 (by decide) ?_
  exact q_wide (by omega) (by omega) (ih _ (by omega) (i + 6) _ _ _ _ _ _ _ _ _ _ _ _ _ _ _ _ _ _ rfl (by omega) hs hb1 hb2)
set_option maxHeartbeats 1000000 in
set_option maxRecDepth 20000 in
theorem law_told {x : q_X} {L : Nat} {xs : Nat → Int32} (hL : L ≤ 3074) (okx : ∀ k n, k ≤ 601024 → n ≤ 7293000 → q_ok (q_cs x k n) cL_law RL 10 354) (rl : q_rl x L xs) (fit : q_fit x 601024 7293000) {w h : Nat} (g : q_g w h) {d i : Nat} (ih : (∀ d2, d2 < d → ∀ (i : Nat) (sam : Nat → Nat) (blk : Nat → Bool) (lost : Int64) (ogr : Nat → Nat) (came : Nat → Int32) (sums sqs : Nat → Int64) (mrk : Nat → Bool) (que : Nat → Nat) (qd : Nat) (out : Nat → Int64) (thr : Nat) (nxt : Nat → Bool) (came2 part : Nat → Int32) (o5 o6 o7 : Option q_V), d2 = L + 6 - i → i ≤ L → (∀ k, k < w * h → sam k < 256) → bS w h sums → bS w h sqs → q_W (q_cs x (50 + i) (5000 + 6 * i)) 43 [some (.inr (.inr (some 16))), some (.inr (.inr (some 0))), some (.inr (.inr (some 10))), some (.inr (.inr (some 9))), some (.inl (nI i)), o5, o6, o7] [] (lW w h sam blk lost ogr came sums sqs mrk que qd out w h thr sam blk nxt came2 part lost))) (sam : Nat → Nat) (blk : Nat → Bool) (lost : Int64) (ogr : Nat → Nat) (came : Nat → Int32) (sums sqs : Nat → Int64) (mrk : Nat → Bool) (que : Nat → Nat) (qd : Nat) (out : Nat → Int64) (thr : Nat) (nxt : Nat → Bool) (came2 part : Nat → Int32) (o5 o6 o7 : Option q_V) (hd : d = L + 6 - i) (hi : i + 6 ≤ L) (hs : ∀ k, k < w * h → sam k < 256) (hb1 : bS w h sums) (hb2 : bS w h sqs) : q_W (q_cs x (50 + i) (5000 + 6 * i)) 888 [some (.inr (.inr (some 16))), some (.inr (.inr (some 0))), some (.inr (.inr (some 10))), some (.inr (.inr (some 9))), some (.inl (nI i)), o5, o6, o7] [] (lW w h sam blk lost ogr came sums sqs mrk que qd out w h thr sam blk nxt came2 part lost) := by
  have okc := okx (50 + i) (5000 + 6 * i) (by omega) (by omega)
  have okd := okx (50 + i + 1) (5000 + 6 * i + 6) (by omega) (by omega)
  refine q_aload_n okc rfl dL_law_888 ?_
  refine q_aload_n okc rfl dL_law_889 ?_
  refine q_iload okc rfl dL_law_890 ?_
  refine q_iconstv (nI 1) okc (by decide) dL_law_892 ?_
  refine q_iaddN okc dL_law_893 ?_
  refine q_sld okc rl (by omega) hL dL_law_894 ?_
  rw [lw_X0]
  refine lX0_told g hs (Nat.le_of_ble_eq_true rfl) okc dL_law_895 ?_
  intro ogr2 mrk2 que2 qd2
  rw [← lw_X0]
  refine q_aload_n okc rfl dL_law_898 ?_
  refine q_aload_n okc rfl dL_law_899 ?_
  refine q_iload okc rfl dL_law_900 ?_
  refine q_iconstv (nI 1) okc (by decide) dL_law_902 ?_
  refine q_iaddN okc dL_law_903 ?_
  refine q_sld okc rl (by omega) hL dL_law_904 ?_
  rw [lw_X1]
  refine lX1_told rfl g hs (Nat.le_of_ble_eq_true rfl) okc dL_law_905 ?_
  intro part2
  rw [← lw_X1]
  refine q_icmp_eq 924 okc dL_law_908 (by decide) (fun _ => ?_) (fun q => absurd rfl q)
  refine q_iincN_4 6 okc rfl (by decide) dL_law_924 ?_
  refine q_goto 43 okc dL_law_927 (by decide) ?_
  exact q_wide (by omega) (by omega) (ih _ (by omega) (i + 6) _ _ _ _ _ _ _ _ _ _ _ _ _ _ _ _ _ _ rfl (by omega) hs hb1 hb2)
set_option maxHeartbeats 1000000 in
set_option maxRecDepth 20000 in
theorem law_clear {x : q_X} {L : Nat} {xs : Nat → Int32} (hL : L ≤ 3074) (okx : ∀ k n, k ≤ 601024 → n ≤ 7293000 → q_ok (q_cs x k n) cL_law RL 10 354) (rl : q_rl x L xs) (fit : q_fit x 601024 7293000) {w h : Nat} (g : q_g w h) {d i : Nat} (ih : (∀ d2, d2 < d → ∀ (i : Nat) (sam : Nat → Nat) (blk : Nat → Bool) (lost : Int64) (ogr : Nat → Nat) (came : Nat → Int32) (sums sqs : Nat → Int64) (mrk : Nat → Bool) (que : Nat → Nat) (qd : Nat) (out : Nat → Int64) (thr : Nat) (nxt : Nat → Bool) (came2 part : Nat → Int32) (o5 o6 o7 : Option q_V), d2 = L + 6 - i → i ≤ L → (∀ k, k < w * h → sam k < 256) → bS w h sums → bS w h sqs → q_W (q_cs x (50 + i) (5000 + 6 * i)) 43 [some (.inr (.inr (some 16))), some (.inr (.inr (some 0))), some (.inr (.inr (some 10))), some (.inr (.inr (some 9))), some (.inl (nI i)), o5, o6, o7] [] (lW w h sam blk lost ogr came sums sqs mrk que qd out w h thr sam blk nxt came2 part lost))) (sam : Nat → Nat) (blk : Nat → Bool) (lost : Int64) (ogr : Nat → Nat) (came : Nat → Int32) (sums sqs : Nat → Int64) (mrk : Nat → Bool) (que : Nat → Nat) (qd : Nat) (out : Nat → Int64) (thr : Nat) (nxt : Nat → Bool) (came2 part : Nat → Int32) (o5 o6 o7 : Option q_V) (hd : d = L + 6 - i) (hi : i + 6 ≤ L) (hs : ∀ k, k < w * h → sam k < 256) (hb1 : bS w h sums) (hb2 : bS w h sqs) : q_W (q_cs x (50 + i) (5000 + 6 * i)) 913 [some (.inr (.inr (some 16))), some (.inr (.inr (some 0))), some (.inr (.inr (some 10))), some (.inr (.inr (some 9))), some (.inl (nI i)), o5, o6, o7] [] (lW w h sam blk lost ogr came sums sqs mrk que qd out w h thr sam blk nxt came2 part lost) := by
  have okc := okx (50 + i) (5000 + 6 * i) (by omega) (by omega)
  have okd := okx (50 + i + 1) (5000 + 6 * i + 6) (by omega) (by omega)
  refine q_aload_n okc rfl dL_law_913 ?_
  rw [lw_X0]
  refine lX0_clear g (Nat.le_of_ble_eq_true rfl) okc dL_law_914 ?_
  rw [← lw_X0]
  refine q_aload_n okc rfl dL_law_917 ?_
  rw [lw_X1]
  refine lX1_clear rfl g (Nat.le_of_ble_eq_true rfl) okc dL_law_918 ?_
  rw [← lw_X1]
  refine q_goto 924 okc dL_law_921 (by decide) ?_
  refine q_iincN_4 6 okc rfl (by decide) dL_law_924 ?_
  refine q_goto 43 okc dL_law_927 (by decide) ?_
  refine lW_cg (samN := fun k => if k < 256 then 0 else sam k) (blkN := fun k => if k < 256 then false else blk k) (fun k hk => by have := q_gn g; rw [if_pos hk, if_pos (by omega)]) (fun k hk => by have := q_gn g; rw [if_pos hk, if_pos (by omega)]) (fun _ _ => rfl) ?_
  exact q_wide (by omega) (by omega) (ih _ (by omega) (i + 6) _ _ _ _ _ _ _ _ _ _ _ _ _ _ _ _ _ _ rfl (by omega) (fun k hk => by show (if k < 256 then 0 else sam k) < 256; split <;> first | decide | (have := hs k hk; omega)) hb1 hb2)
set_option maxHeartbeats 1000000 in
set_option maxRecDepth 20000 in
theorem law_spread {x : q_X} {L : Nat} {xs : Nat → Int32} (hL : L ≤ 3074) (okx : ∀ k n, k ≤ 601024 → n ≤ 7293000 → q_ok (q_cs x k n) cL_law RL 10 354) (rl : q_rl x L xs) (fit : q_fit x 601024 7293000) {w h : Nat} (g : q_g w h) {d i : Nat} (ih : (∀ d2, d2 < d → ∀ (i : Nat) (sam : Nat → Nat) (blk : Nat → Bool) (lost : Int64) (ogr : Nat → Nat) (came : Nat → Int32) (sums sqs : Nat → Int64) (mrk : Nat → Bool) (que : Nat → Nat) (qd : Nat) (out : Nat → Int64) (thr : Nat) (nxt : Nat → Bool) (came2 part : Nat → Int32) (o5 o6 o7 : Option q_V), d2 = L + 6 - i → i ≤ L → (∀ k, k < w * h → sam k < 256) → bS w h sums → bS w h sqs → q_W (q_cs x (50 + i) (5000 + 6 * i)) 43 [some (.inr (.inr (some 16))), some (.inr (.inr (some 0))), some (.inr (.inr (some 10))), some (.inr (.inr (some 9))), some (.inl (nI i)), o5, o6, o7] [] (lW w h sam blk lost ogr came sums sqs mrk que qd out w h thr sam blk nxt came2 part lost))) (sam : Nat → Nat) (blk : Nat → Bool) (lost : Int64) (ogr : Nat → Nat) (came : Nat → Int32) (sums sqs : Nat → Int64) (mrk : Nat → Bool) (que : Nat → Nat) (qd : Nat) (out : Nat → Int64) (thr : Nat) (nxt : Nat → Bool) (came2 part : Nat → Int32) (o5 o6 o7 : Option q_V) (hd : d = L + 6 - i) (hi : i + 6 ≤ L) (hs : ∀ k, k < w * h → sam k < 256) (hb1 : bS w h sums) (hb2 : bS w h sqs) : q_W (q_cs x (50 + i) (5000 + 6 * i)) 338 [some (.inr (.inr (some 16))), some (.inr (.inr (some 0))), some (.inr (.inr (some 10))), some (.inr (.inr (some 9))), some (.inl (nI i)), o5, o6, o7] [] (lW w h sam blk lost ogr came sums sqs mrk que qd out w h thr sam blk nxt came2 part lost) := by
  have okc := okx (50 + i) (5000 + 6 * i) (by omega) (by omega)
  have okd := okx (50 + i + 1) (5000 + 6 * i + 6) (by omega) (by omega)
  obtain ⟨cm, hcm⟩ : ∃ f : Nat → Int32, (∀ j, j < w * h → came j = f j) ∧ (fun j => if j < w * h then nI 0 else f j) = (fun j => if j < 256 then nI 0 else came2 j) := by
    refine ⟨fun j => if j < w * h then came j else if j < 256 then nI 0 else came2 j, fun j hj => (if_pos hj).symm, ?_⟩
    funext j
    have := q_gn g
    by_cases h1 : j < w * h
    · rw [if_pos h1, if_pos (by omega)]
    · rw [if_neg h1, if_neg h1]
  refine lW_cg (fun _ _ => rfl) (fun _ _ => rfl) hcm.1 ?_
  refine q_aload_n okc rfl dL_law_338 ?_
  refine q_aload_n okc rfl dL_law_339 ?_
  refine q_iload okc rfl dL_law_340 ?_
  refine q_iconstv (nI 1) okc (by decide) dL_law_342 ?_
  refine q_iaddN okc dL_law_343 ?_
  refine q_sld okc rl (by omega) hL dL_law_344 ?_
  refine q_aload_n okc rfl dL_law_345 ?_
  rw [lw_L]
  refine lL_spread g (Nat.le_of_ble_eq_true rfl) okc rl (q_fit_le fit (by omega) (by omega)) dL_law_346 ?_ ?_
  · intro y0 y1
    rw [hcm.2]
    rw [← lw_L]
    refine q_istore_5 okd rfl dL_law_349 ?_
    refine q_aload_n okd rfl dL_law_351 ?_
    refine q_aload_n okd rfl dL_law_352 ?_
    refine q_iload okd rfl dL_law_353 ?_
    refine q_iconstv (nI 1) okd (by decide) dL_law_355 ?_
    refine q_iaddN okd dL_law_356 ?_
    refine q_sld okd rl (by omega) hL dL_law_357 ?_
    rw [lw_X1]
    refine lX1_spread rfl g (Nat.le_of_ble_eq_true rfl) okd dL_law_358 ?_ ?_
    · intro z0 z1
      rw [← lw_X1]
      refine q_istore_6 okd rfl dL_law_361 ?_
      refine q_aload_n okd rfl dL_law_363 ?_
      rw [lw_X1]
      refine lX1_thrown rfl (Nat.le_of_ble_eq_true rfl) okd dL_law_364 ?_
      rw [← lw_X1]
      refine q_iload okd rfl dL_law_367 ?_
      refine q_icmp_eq 374 okd dL_law_369 (by decide) (fun _ => ?_) (fun q => absurd rfl q)
      refine q_iload okd rfl dL_law_374 ?_
      refine q_if_ne 391 okd dL_law_376 (by decide) (fun q => absurd (by decide) q) (fun _ => ?_)
      refine q_aload_n okd rfl dL_law_379 ?_
      refine q_iconstv (nI 0) okd (by decide) dL_law_380 ?_
      refine lw_out okd dL_law_381 ?_
      refine q_iload okd rfl dL_law_382 ?_
      refine q_i2l okd dL_law_384 ?_
      refine q_lcmp okd dL_law_385 ?_
      refine q_if_eq 391 okd dL_law_386 (by decide) (fun _ => ?_) (fun q => absurd ((lg_cmp_eq _ _).mpr (by rw [va_up_self])) q)
      refine q_goto 924 okd dL_law_391 (by decide) ?_
      refine q_iincN_4 6 okd rfl (by decide) dL_law_924 ?_
      refine q_goto 43 okd dL_law_927 (by decide) ?_
      exact q_wide (by omega) (by omega) (ih _ (by omega) (i + 6) _ _ _ _ _ _ _ _ _ _ _ _ _ _ _ _ _ _ rfl (by omega) hs hb1 hb2)
    · intro z0
      exact False.elim (z0.elim y0 y1)
  · intro y0
    rw [← lw_L]
    refine q_istore_5 okd rfl dL_law_349 ?_
    refine q_aload_n okd rfl dL_law_351 ?_
    refine q_aload_n okd rfl dL_law_352 ?_
    refine q_iload okd rfl dL_law_353 ?_
    refine q_iconstv (nI 1) okd (by decide) dL_law_355 ?_
    refine q_iaddN okd dL_law_356 ?_
    refine q_sld okd rl (by omega) hL dL_law_357 ?_
    rw [lw_X1]
    refine lX1_spread rfl g (Nat.le_of_ble_eq_true rfl) okd dL_law_358 ?_ ?_
    · intro z0 z1
      exact False.elim (y0.elim z0 z1)
    · intro z0
      rw [← lw_X1]
      refine q_istore_6 okd rfl dL_law_361 ?_
      refine q_aload_n okd rfl dL_law_363 ?_
      rw [lw_X1]
      refine lX1_thrown rfl (Nat.le_of_ble_eq_true rfl) okd dL_law_364 ?_
      rw [← lw_X1]
      refine q_iload okd rfl dL_law_367 ?_
      refine q_icmp_eq 374 okd dL_law_369 (by decide) (fun _ => ?_) (fun q => absurd rfl q)
      refine q_iload okd rfl dL_law_374 ?_
      refine q_if_ne 391 okd dL_law_376 (by decide) (fun _ => ?_) (fun q => absurd q (by decide))
      refine q_goto 924 okd dL_law_391 (by decide) ?_
      refine q_iincN_4 6 okd rfl (by decide) dL_law_924 ?_
      refine q_goto 43 okd dL_law_927 (by decide) ?_
      exact q_wide (by omega) (by omega) (ih _ (by omega) (i + 6) _ _ _ _ _ _ _ _ _ _ _ _ _ _ _ _ _ _ rfl (by omega) hs hb1 hb2)
set_option maxHeartbeats 1000000 in
set_option maxRecDepth 20000 in
theorem law_ordered {x : q_X} {L : Nat} {xs : Nat → Int32} (hL : L ≤ 3074) (okx : ∀ k n, k ≤ 601024 → n ≤ 7293000 → q_ok (q_cs x k n) cL_law RL 10 354) (rl : q_rl x L xs) (fit : q_fit x 601024 7293000) {w h : Nat} (g : q_g w h) {d i : Nat} (ih : (∀ d2, d2 < d → ∀ (i : Nat) (sam : Nat → Nat) (blk : Nat → Bool) (lost : Int64) (ogr : Nat → Nat) (came : Nat → Int32) (sums sqs : Nat → Int64) (mrk : Nat → Bool) (que : Nat → Nat) (qd : Nat) (out : Nat → Int64) (thr : Nat) (nxt : Nat → Bool) (came2 part : Nat → Int32) (o5 o6 o7 : Option q_V), d2 = L + 6 - i → i ≤ L → (∀ k, k < w * h → sam k < 256) → bS w h sums → bS w h sqs → q_W (q_cs x (50 + i) (5000 + 6 * i)) 43 [some (.inr (.inr (some 16))), some (.inr (.inr (some 0))), some (.inr (.inr (some 10))), some (.inr (.inr (some 9))), some (.inl (nI i)), o5, o6, o7] [] (lW w h sam blk lost ogr came sums sqs mrk que qd out w h thr sam blk nxt came2 part lost))) (sam : Nat → Nat) (blk : Nat → Bool) (lost : Int64) (ogr : Nat → Nat) (came : Nat → Int32) (sums sqs : Nat → Int64) (mrk : Nat → Bool) (que : Nat → Nat) (qd : Nat) (out : Nat → Int64) (thr : Nat) (nxt : Nat → Bool) (came2 part : Nat → Int32) (o5 o6 o7 : Option q_V) (hd : d = L + 6 - i) (hi : i + 6 ≤ L) (hs : ∀ k, k < w * h → sam k < 256) (hb1 : bS w h sums) (hb2 : bS w h sqs) : q_W (q_cs x (50 + i) (5000 + 6 * i)) 408 [some (.inr (.inr (some 16))), some (.inr (.inr (some 0))), some (.inr (.inr (some 10))), some (.inr (.inr (some 9))), some (.inl (nI i)), o5, o6, o7] [] (lW w h sam blk lost ogr came sums sqs mrk que qd out w h thr sam blk nxt came2 part lost) := by
  have okc := okx (50 + i) (5000 + 6 * i) (by omega) (by omega)
  have okd := okx (50 + i + 1) (5000 + 6 * i + 6) (by omega) (by omega)
  refine q_aload_n okc rfl dL_law_408 ?_
  refine q_aload_n okc rfl dL_law_409 ?_
  refine q_iload okc rfl dL_law_410 ?_
  refine q_iconstv (nI 1) okc (by decide) dL_law_412 ?_
  refine q_iaddN okc dL_law_413 ?_
  refine q_sld okc rl (by omega) hL dL_law_414 ?_
  refine q_aload_n okc rfl dL_law_415 ?_
  rw [lw_L]
  refine lL_ordered g hs (Nat.le_of_ble_eq_true rfl) okc rl (q_fit_le fit (by omega) (by omega)) dL_law_416 ?_ ?_
  · intro y0 y1 y2
    rw [← lw_L]
    refine q_istore_5 okd rfl dL_law_419 ?_
    refine q_aload_n okd rfl dL_law_421 ?_
    refine q_aload_n okd rfl dL_law_422 ?_
    refine q_iload okd rfl dL_law_423 ?_
    refine q_iconstv (nI 1) okd (by decide) dL_law_425 ?_
    refine q_iaddN okd dL_law_426 ?_
    refine q_sld okd rl (by omega) hL dL_law_427 ?_
    rw [lw_X1]
    refine lX1_ordered rfl g hs (Nat.le_of_ble_eq_true rfl) okd dL_law_428 ?_ ?_
    · intro z0 z1 z2
      obtain rfl := ex_u y1 z1 (y2.symm.trans z2)
      rw [← lw_X1]
      refine q_istore_6 okd rfl dL_law_431 ?_
      refine q_aload_n okd rfl dL_law_433 ?_
      rw [lw_X1]
      refine lX1_thrown rfl (Nat.le_of_ble_eq_true rfl) okd dL_law_434 ?_
      rw [← lw_X1]
      refine q_iload okd rfl dL_law_437 ?_
      refine q_icmp_eq 444 okd dL_law_439 (by decide) (fun _ => ?_) (fun q => absurd rfl q)
      refine q_iload okd rfl dL_law_444 ?_
      refine q_if_ne 461 okd dL_law_446 (by decide) (fun q => absurd (by decide) q) (fun _ => ?_)
      refine q_aload_n okd rfl dL_law_449 ?_
      refine q_iconstv (nI 0) okd (by decide) dL_law_450 ?_
      refine lw_out okd dL_law_451 ?_
      refine q_iload okd rfl dL_law_452 ?_
      refine q_i2l okd dL_law_454 ?_
      refine q_lcmp okd dL_law_455 ?_
      refine q_if_eq 461 okd dL_law_456 (by decide) (fun _ => ?_) (fun q => absurd ((lg_cmp_eq _ _).mpr (by rw [va_up_self])) q)
      refine q_goto 924 okd dL_law_461 (by decide) ?_
      refine q_iincN_4 6 okd rfl (by decide) dL_law_924 ?_
      refine q_goto 43 okd dL_law_927 (by decide) ?_
      exact q_wide (by omega) (by omega) (ih _ (by omega) (i + 6) _ _ _ _ _ _ _ _ _ _ _ _ _ _ _ _ _ _ rfl (by omega) hs hb1 hb2)
    · intro z0
      exact absurd z0 (by rw [isC_i y1 y2]; decide)
  · intro y0
    rw [← lw_L]
    refine q_istore_5 okd rfl dL_law_419 ?_
    refine q_aload_n okd rfl dL_law_421 ?_
    refine q_aload_n okd rfl dL_law_422 ?_
    refine q_iload okd rfl dL_law_423 ?_
    refine q_iconstv (nI 1) okd (by decide) dL_law_425 ?_
    refine q_iaddN okd dL_law_426 ?_
    refine q_sld okd rl (by omega) hL dL_law_427 ?_
    rw [lw_X1]
    refine lX1_ordered rfl g hs (Nat.le_of_ble_eq_true rfl) okd dL_law_428 ?_ ?_
    · intro z0 z1 z2
      exact absurd y0 (by rw [isC_i z1 z2]; decide)
    · intro z0
      rw [← lw_X1]
      refine q_istore_6 okd rfl dL_law_431 ?_
      refine q_aload_n okd rfl dL_law_433 ?_
      rw [lw_X1]
      refine lX1_thrown rfl (Nat.le_of_ble_eq_true rfl) okd dL_law_434 ?_
      rw [← lw_X1]
      refine q_iload okd rfl dL_law_437 ?_
      refine q_icmp_eq 444 okd dL_law_439 (by decide) (fun _ => ?_) (fun q => absurd rfl q)
      refine q_iload okd rfl dL_law_444 ?_
      refine q_if_ne 461 okd dL_law_446 (by decide) (fun _ => ?_) (fun q => absurd q (by decide))
      refine q_goto 924 okd dL_law_461 (by decide) ?_
      refine q_iincN_4 6 okd rfl (by decide) dL_law_924 ?_
      refine q_goto 43 okd dL_law_927 (by decide) ?_
      exact q_wide (by omega) (by omega) (ih _ (by omega) (i + 6) _ _ _ _ _ _ _ _ _ _ _ _ _ _ _ _ _ _ rfl (by omega) hs hb1 hb2)
