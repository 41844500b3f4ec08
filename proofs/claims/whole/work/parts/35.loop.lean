-- THE LAW'S LOOP
theorem isC_i {c : Int32} {ex : Nat} (h1 : ex ≤ 3) (h2 : c = nI (2 ^ ex)) : isC c = true := by
  subst h2
  rcases (show ex = 0 ∨ ex = 1 ∨ ex = 2 ∨ ex = 3 by omega) with q | q | q | q <;> subst q <;> decide
theorem ex_u {a b : Nat} (h1 : a ≤ 3) (h2 : b ≤ 3) (h : nI (2 ^ a) = nI (2 ^ b)) : a = b := by
  rcases (show a = 0 ∨ a = 1 ∨ a = 2 ∨ a = 3 by omega) with q | q | q | q <;> rcases (show b = 0 ∨ b = 1 ∨ b = 2 ∨ b = 3 by omega) with r | r | r | r <;> subst q <;> subst r <;> first | rfl | exact absurd h (by decide)
theorem lC_i {z : Int32} {r : Nat} (h1 : r ≤ 15) (h2 : z = nI (2 * r + 1)) : lC z = true := by
  subst h2
  refine decide_eq_true ⟨fun q => ?_, fun q => ?_, fun q => ?_⟩
  · have := (nI_ltI (by omega) (by omega)).mp q; omega
  · have := (nI_ltI (by omega) (by omega)).mp q; omega
  · rw [pk_rem (by omega) (by decide) (by decide), nI_z (by omega)] at q; omega
theorem nI_u {a b : Nat} (h1 : a ≤ 1000) (h2 : b ≤ 1000) (h : nI a = nI b) : a = b := (nI_eq (by omega) (by omega)).mp h
theorem isP_i {a c : Int32} {x y n : Nat} (h1 : a = nI x) (h2 : c = nI y) (hn : n ≤ 16) (hx : x ≤ n) (hy : y ≤ n - x) : isP a c (nI n) = true := by
  subst h1; subst h2
  refine decide_eq_true ⟨Int32.not_lt.mp (nI_pos (by omega)), (nI_leI (by omega) (by omega)).mpr hx, Int32.not_lt.mp (nI_pos (by omega)), ?_⟩
  rw [pk_sub hx]; exact (nI_leI (by omega) (by omega)).mpr hy
theorem put_lt {n : Nat} {sam : Nat → Nat} {p : Nat} {v : Int32} (hs : ∀ k, k < n → sam k < 256) (h1 : ¬ v < 0) (h2 : ¬ nI 255 < v) : ∀ k, k < n → va_up sam p v.toNatClampNeg k < 256 := by
  intro k hk
  obtain ⟨j, hj, rfl⟩ := nI_of h1
  have := mt (nI_ltI (a := 255) (b := j) (by decide) hj).mpr h2
  by_cases e : k = p
  · rw [e, va_up_self, nI_clamp hj]; omega
  · rw [va_up_ne _ _ e]; exact hs k hk
theorem sw_o {v : Int32} (h : ∀ k, k ≤ 15 → ¬ v = nI k) : v.toInt < 0 ∨ 15 < v.toInt := by
  by_cases z : v.toInt < 0
  · exact Or.inl z
  · right
    have hn : ¬ v < 0 := by rw [Int32.lt_iff_toInt_lt, Int32.toInt_zero]; omega
    obtain ⟨j, hj, rfl⟩ := nI_of hn
    rw [nI_toInt hj]
    rcases Nat.lt_or_ge 15 j with q | q
    · omega
    · exact absurd rfl (h j q)
set_option maxHeartbeats 1000000 in
set_option maxRecDepth 20000 in
theorem law_put {x : q_X} {L : Nat} {xs : Nat → Int32} (hL : L ≤ 3074) (okx : ∀ k n, k ≤ 601024 → n ≤ 7293000 → q_ok (q_cs x k n) cL_law RL 10 354) (rl : q_rl x L xs) (fit : q_fit x 601024 7293000) {w h : Nat} (g : q_g w h) {d i : Nat} (ih : (∀ d2, d2 < d → ∀ (i : Nat) (sam : Nat → Nat) (blk : Nat → Bool) (lost : Int64) (ogr : Nat → Nat) (came : Nat → Int32) (sums sqs : Nat → Int64) (mrk : Nat → Bool) (que : Nat → Nat) (qd : Nat) (out : Nat → Int64) (thr : Nat) (nxt : Nat → Bool) (came2 part : Nat → Int32) (o5 o6 o7 : Option q_V), d2 = L + 6 - i → i ≤ L → (∀ k, k < w * h → sam k < 256) → bS w h sums → bS w h sqs → q_W (q_cs x (50 + i) (5000 + 6 * i)) 43 [some (.inr (.inr (some 16))), some (.inr (.inr (some 0))), some (.inr (.inr (some 10))), some (.inr (.inr (some 9))), some (.inl (nI i)), o5, o6, o7] [] (lW w h sam blk lost ogr came sums sqs mrk que qd out w h thr sam blk nxt came2 part lost))) (sam : Nat → Nat) (blk : Nat → Bool) (lost : Int64) (ogr : Nat → Nat) (came : Nat → Int32) (sums sqs : Nat → Int64) (mrk : Nat → Bool) (que : Nat → Nat) (qd : Nat) (out : Nat → Int64) (thr : Nat) (nxt : Nat → Bool) (came2 part : Nat → Int32) (o5 o6 o7 : Option q_V) (hd : d = L + 6 - i) (hi : i + 6 ≤ L) (hs : ∀ k, k < w * h → sam k < 256) (hb1 : bS w h sums) (hb2 : bS w h sqs) : q_W (q_cs x (50 + i) (5000 + 6 * i)) 140 [some (.inr (.inr (some 16))), some (.inr (.inr (some 0))), some (.inr (.inr (some 10))), some (.inr (.inr (some 9))), some (.inl (nI i)), o5, o6, o7] [] (lW w h sam blk lost ogr came sums sqs mrk que qd out w h thr sam blk nxt came2 part lost) := by
  have okc := okx (50 + i) (5000 + 6 * i) (by omega) (by omega)
  have okd := okx (50 + i + 1) (5000 + 6 * i + 6) (by omega) (by omega)
  refine q_aload_n okc rfl dL_law_140 ?_
  refine q_aload_n okc rfl dL_law_141 ?_
  refine q_iload okc rfl dL_law_142 ?_
  refine q_iconstv (nI 1) okc (by decide) dL_law_144 ?_
  refine q_iaddN okc dL_law_145 ?_
  refine q_sld okc rl (by omega) hL dL_law_146 ?_
  refine q_aload_n okc rfl dL_law_147 ?_
  refine q_iload okc rfl dL_law_148 ?_
  refine q_iconstv (nI 2) okc (by decide) dL_law_150 ?_
  refine q_iaddN okc dL_law_151 ?_
  refine q_sld okc rl (by omega) hL dL_law_152 ?_
  refine q_aload_n okc rfl dL_law_153 ?_
  refine q_iload okc rfl dL_law_154 ?_
  refine q_iconstv (nI 3) okc (by decide) dL_law_156 ?_
  refine q_iaddN okc dL_law_157 ?_
  refine q_sld okc rl (by omega) hL dL_law_158 ?_
  refine q_aload_n okc rfl dL_law_159 ?_
  rw [lw_L]
  refine lL_put g (Nat.le_of_ble_eq_true rfl) okc rl (q_fit_le fit (by omega) (by omega)) dL_law_160 ?_ ?_ ?_
  · intro y0 y1 y2
    rw [← lw_L]
    refine q_istore_5 okd rfl dL_law_163 ?_
    refine q_aload_n okd rfl dL_law_165 ?_
    refine q_aload_n okd rfl dL_law_166 ?_
    refine q_iload okd rfl dL_law_167 ?_
    refine q_iconstv (nI 1) okd (by decide) dL_law_169 ?_
    refine q_iaddN okd dL_law_170 ?_
    refine q_sld okd rl (by omega) hL dL_law_171 ?_
    refine q_aload_n okd rfl dL_law_172 ?_
    refine q_iload okd rfl dL_law_173 ?_
    refine q_iconstv (nI 2) okd (by decide) dL_law_175 ?_
    refine q_iaddN okd dL_law_176 ?_
    refine q_sld okd rl (by omega) hL dL_law_177 ?_
    refine q_aload_n okd rfl dL_law_178 ?_
    refine q_iload okd rfl dL_law_179 ?_
    refine q_iconstv (nI 3) okd (by decide) dL_law_181 ?_
    refine q_iaddN okd dL_law_182 ?_
    refine q_sld okd rl (by omega) hL dL_law_183 ?_
    rw [lw_X1]
    refine lX1_put rfl g (Nat.le_of_ble_eq_true rfl) okd dL_law_184 ?_ ?_ ?_
    · intro z0 z1 z2
      rw [← lw_X1]
      refine q_istore_6 okd rfl dL_law_187 ?_
      refine q_aload_n okd rfl dL_law_189 ?_
      rw [lw_X1]
      refine lX1_thrown rfl (Nat.le_of_ble_eq_true rfl) okd dL_law_190 ?_
      rw [← lw_X1]
      refine q_iload okd rfl dL_law_193 ?_
      refine q_icmp_eq 200 okd dL_law_195 (by decide) (fun _ => ?_) (fun q => absurd rfl q)
      refine q_iload okd rfl dL_law_200 ?_
      refine q_if_ne 217 okd dL_law_202 (by decide) (fun q => absurd (by decide) q) (fun _ => ?_)
      refine q_aload_n okd rfl dL_law_205 ?_
      refine q_iconstv (nI 0) okd (by decide) dL_law_206 ?_
      refine lw_out okd dL_law_207 ?_
      refine q_iload okd rfl dL_law_208 ?_
      refine q_i2l okd dL_law_210 ?_
      refine q_lcmp okd dL_law_211 ?_
      refine q_if_eq 217 okd dL_law_212 (by decide) (fun _ => ?_) (fun q => absurd ((lg_cmp_eq _ _).mpr (by rw [va_up_self])) q)
      refine q_goto 924 okd dL_law_217 (by decide) ?_
      refine q_iincN_4 6 okd rfl (by decide) dL_law_924 ?_
      refine q_goto 43 okd dL_law_927 (by decide) ?_
      exact q_wide (by omega) (by omega) (ih _ (by omega) (i + 6) _ _ _ _ _ _ _ _ _ _ _ _ _ _ _ _ _ _ rfl (by omega) (put_lt hs y1 y2) hb1 hb2)
    · intro z0
      exact absurd (y0.symm.trans z0) (by decide)
    · intro z0 z1
      exact False.elim (z1.elim y1 y2)
  · intro y0
    rw [← lw_L]
    refine q_istore_5 okd rfl dL_law_163 ?_
    refine q_aload_n okd rfl dL_law_165 ?_
    refine q_aload_n okd rfl dL_law_166 ?_
    refine q_iload okd rfl dL_law_167 ?_
    refine q_iconstv (nI 1) okd (by decide) dL_law_169 ?_
    refine q_iaddN okd dL_law_170 ?_
    refine q_sld okd rl (by omega) hL dL_law_171 ?_
    refine q_aload_n okd rfl dL_law_172 ?_
    refine q_iload okd rfl dL_law_173 ?_
    refine q_iconstv (nI 2) okd (by decide) dL_law_175 ?_
    refine q_iaddN okd dL_law_176 ?_
    refine q_sld okd rl (by omega) hL dL_law_177 ?_
    refine q_aload_n okd rfl dL_law_178 ?_
    refine q_iload okd rfl dL_law_179 ?_
    refine q_iconstv (nI 3) okd (by decide) dL_law_181 ?_
    refine q_iaddN okd dL_law_182 ?_
    refine q_sld okd rl (by omega) hL dL_law_183 ?_
    rw [lw_X1]
    refine lX1_put rfl g (Nat.le_of_ble_eq_true rfl) okd dL_law_184 ?_ ?_ ?_
    · intro z0 z1 z2
      exact absurd (z0.symm.trans y0) (by decide)
    · intro z0
      rw [← lw_X1]
      refine q_istore_6 okd rfl dL_law_187 ?_
      refine q_aload_n okd rfl dL_law_189 ?_
      rw [lw_X1]
      refine lX1_thrown rfl (Nat.le_of_ble_eq_true rfl) okd dL_law_190 ?_
      rw [← lw_X1]
      refine q_iload okd rfl dL_law_193 ?_
      refine q_icmp_eq 200 okd dL_law_195 (by decide) (fun _ => ?_) (fun q => absurd rfl q)
      refine q_iload okd rfl dL_law_200 ?_
      refine q_if_ne 217 okd dL_law_202 (by decide) (fun _ => ?_) (fun q => absurd q (by decide))
      refine q_goto 924 okd dL_law_217 (by decide) ?_
      refine q_iincN_4 6 okd rfl (by decide) dL_law_924 ?_
      refine q_goto 43 okd dL_law_927 (by decide) ?_
      exact q_wide (by omega) (by omega) (ih _ (by omega) (i + 6) _ _ _ _ _ _ _ _ _ _ _ _ _ _ _ _ _ _ rfl (by omega) hs hb1 hb2)
    · intro z0 z1
      exact absurd (z0.symm.trans y0) (by decide)
  · intro y0
    rw [← lw_L]
    refine q_istore_5 okd rfl dL_law_163 ?_
    refine q_aload_n okd rfl dL_law_165 ?_
    refine q_aload_n okd rfl dL_law_166 ?_
    refine q_iload okd rfl dL_law_167 ?_
    refine q_iconstv (nI 1) okd (by decide) dL_law_169 ?_
    refine q_iaddN okd dL_law_170 ?_
    refine q_sld okd rl (by omega) hL dL_law_171 ?_
    refine q_aload_n okd rfl dL_law_172 ?_
    refine q_iload okd rfl dL_law_173 ?_
    refine q_iconstv (nI 2) okd (by decide) dL_law_175 ?_
    refine q_iaddN okd dL_law_176 ?_
    refine q_sld okd rl (by omega) hL dL_law_177 ?_
    refine q_aload_n okd rfl dL_law_178 ?_
    refine q_iload okd rfl dL_law_179 ?_
    refine q_iconstv (nI 3) okd (by decide) dL_law_181 ?_
    refine q_iaddN okd dL_law_182 ?_
    refine q_sld okd rl (by omega) hL dL_law_183 ?_
    rw [lw_X1]
    refine lX1_put rfl g (Nat.le_of_ble_eq_true rfl) okd dL_law_184 ?_ ?_ ?_
    · intro z0 z1 z2
      exact False.elim (y0.2.elim z1 z2)
    · intro z0
      exact absurd (y0.1.symm.trans z0) (by decide)
    · intro z0 z1
      rw [← lw_X1]
      refine q_istore_6 okd rfl dL_law_187 ?_
      refine q_aload_n okd rfl dL_law_189 ?_
      rw [lw_X1]
      refine lX1_thrown rfl (Nat.le_of_ble_eq_true rfl) okd dL_law_190 ?_
      rw [← lw_X1]
      refine q_iload okd rfl dL_law_193 ?_
      refine q_icmp_eq 200 okd dL_law_195 (by decide) (fun _ => ?_) (fun q => absurd rfl q)
      refine q_iload okd rfl dL_law_200 ?_
      refine q_if_ne 217 okd dL_law_202 (by decide) (fun _ => ?_) (fun q => absurd q (by decide))
      refine q_goto 924 okd dL_law_217 (by decide) ?_
      refine q_iincN_4 6 okd rfl (by decide) dL_law_924 ?_
      refine q_goto 43 okd dL_law_927 (by decide) ?_
      exact q_wide (by omega) (by omega) (ih _ (by omega) (i + 6) _ _ _ _ _ _ _ _ _ _ _ _ _ _ _ _ _ _ rfl (by omega) hs hb1 hb2)
set_option maxHeartbeats 1000000 in
set_option maxRecDepth 20000 in
theorem law_paint {x : q_X} {L : Nat} {xs : Nat → Int32} (hL : L ≤ 3074) (okx : ∀ k n, k ≤ 601024 → n ≤ 7293000 → q_ok (q_cs x k n) cL_law RL 10 354) (rl : q_rl x L xs) (fit : q_fit x 601024 7293000) {w h : Nat} (g : q_g w h) {d i : Nat} (ih : (∀ d2, d2 < d → ∀ (i : Nat) (sam : Nat → Nat) (blk : Nat → Bool) (lost : Int64) (ogr : Nat → Nat) (came : Nat → Int32) (sums sqs : Nat → Int64) (mrk : Nat → Bool) (que : Nat → Nat) (qd : Nat) (out : Nat → Int64) (thr : Nat) (nxt : Nat → Bool) (came2 part : Nat → Int32) (o5 o6 o7 : Option q_V), d2 = L + 6 - i → i ≤ L → (∀ k, k < w * h → sam k < 256) → bS w h sums → bS w h sqs → q_W (q_cs x (50 + i) (5000 + 6 * i)) 43 [some (.inr (.inr (some 16))), some (.inr (.inr (some 0))), some (.inr (.inr (some 10))), some (.inr (.inr (some 9))), some (.inl (nI i)), o5, o6, o7] [] (lW w h sam blk lost ogr came sums sqs mrk que qd out w h thr sam blk nxt came2 part lost))) (sam : Nat → Nat) (blk : Nat → Bool) (lost : Int64) (ogr : Nat → Nat) (came : Nat → Int32) (sums sqs : Nat → Int64) (mrk : Nat → Bool) (que : Nat → Nat) (qd : Nat) (out : Nat → Int64) (thr : Nat) (nxt : Nat → Bool) (came2 part : Nat → Int32) (o5 o6 o7 : Option q_V) (hd : d = L + 6 - i) (hi : i + 6 ≤ L) (hs : ∀ k, k < w * h → sam k < 256) (hb1 : bS w h sums) (hb2 : bS w h sqs) : q_W (q_cs x (50 + i) (5000 + 6 * i)) 220 [some (.inr (.inr (some 16))), some (.inr (.inr (some 0))), some (.inr (.inr (some 10))), some (.inr (.inr (some 9))), some (.inl (nI i)), o5, o6, o7] [] (lW w h sam blk lost ogr came sums sqs mrk que qd out w h thr sam blk nxt came2 part lost) := by
  have okc := okx (50 + i) (5000 + 6 * i) (by omega) (by omega)
  have okd := okx (50 + i + 1) (5000 + 6 * i + 6) (by omega) (by omega)
  refine q_aload_n okc rfl dL_law_220 ?_
  refine q_aload_n okc rfl dL_law_221 ?_
  refine q_iload okc rfl dL_law_222 ?_
  refine q_iconstv (nI 1) okc (by decide) dL_law_224 ?_
  refine q_iaddN okc dL_law_225 ?_
  refine q_sld okc rl (by omega) hL dL_law_226 ?_
  refine q_aload_n okc rfl dL_law_227 ?_
  refine q_iload okc rfl dL_law_228 ?_
  refine q_iconstv (nI 2) okc (by decide) dL_law_230 ?_
  refine q_iaddN okc dL_law_231 ?_
  refine q_sld okc rl (by omega) hL dL_law_232 ?_
  rw [lw_X0]
  refine lX0_paint g hs (Nat.le_of_ble_eq_true rfl) okc dL_law_233 ?_
  rw [← lw_X0]
  refine q_aload_n okc rfl dL_law_236 ?_
  refine q_aload_n okc rfl dL_law_237 ?_
  refine q_iload okc rfl dL_law_238 ?_
  refine q_iconstv (nI 1) okc (by decide) dL_law_240 ?_
  refine q_iaddN okc dL_law_241 ?_
  refine q_sld okc rl (by omega) hL dL_law_242 ?_
  refine q_aload_n okc rfl dL_law_243 ?_
  refine q_iload okc rfl dL_law_244 ?_
  refine q_iconstv (nI 2) okc (by decide) dL_law_246 ?_
  refine q_iaddN okc dL_law_247 ?_
  refine q_sld okc rl (by omega) hL dL_law_248 ?_
  rw [lw_X1]
  refine lX1_paint rfl g hs (Nat.le_of_ble_eq_true rfl) okc dL_law_249 ?_
  rw [← lw_X1]
  refine q_icmp_eq 924 okc dL_law_252 (by decide) (fun _ => ?_) (fun q => absurd rfl q)
  refine q_iincN_4 6 okc rfl (by decide) dL_law_924 ?_
  refine q_goto 43 okc dL_law_927 (by decide) ?_
  exact q_wide (by omega) (by omega) (ih _ (by omega) (i + 6) _ _ _ _ _ _ _ _ _ _ _ _ _ _ _ _ _ _ rfl (by omega) (fun k hk => by show (if k < w * h then lo8 _ else sam k) < 256; rw [if_pos hk]; exact lo8_lt _) hb1 hb2)
set_option maxHeartbeats 1000000 in
set_option maxRecDepth 20000 in
theorem law_global {x : q_X} {L : Nat} {xs : Nat → Int32} (hL : L ≤ 3074) (okx : ∀ k n, k ≤ 601024 → n ≤ 7293000 → q_ok (q_cs x k n) cL_law RL 10 354) (rl : q_rl x L xs) (fit : q_fit x 601024 7293000) {w h : Nat} (g : q_g w h) {d i : Nat} (ih : (∀ d2, d2 < d → ∀ (i : Nat) (sam : Nat → Nat) (blk : Nat → Bool) (lost : Int64) (ogr : Nat → Nat) (came : Nat → Int32) (sums sqs : Nat → Int64) (mrk : Nat → Bool) (que : Nat → Nat) (qd : Nat) (out : Nat → Int64) (thr : Nat) (nxt : Nat → Bool) (came2 part : Nat → Int32) (o5 o6 o7 : Option q_V), d2 = L + 6 - i → i ≤ L → (∀ k, k < w * h → sam k < 256) → bS w h sums → bS w h sqs → q_W (q_cs x (50 + i) (5000 + 6 * i)) 43 [some (.inr (.inr (some 16))), some (.inr (.inr (some 0))), some (.inr (.inr (some 10))), some (.inr (.inr (some 9))), some (.inl (nI i)), o5, o6, o7] [] (lW w h sam blk lost ogr came sums sqs mrk que qd out w h thr sam blk nxt came2 part lost))) (sam : Nat → Nat) (blk : Nat → Bool) (lost : Int64) (ogr : Nat → Nat) (came : Nat → Int32) (sums sqs : Nat → Int64) (mrk : Nat → Bool) (que : Nat → Nat) (qd : Nat) (out : Nat → Int64) (thr : Nat) (nxt : Nat → Bool) (came2 part : Nat → Int32) (o5 o6 o7 : Option q_V) (hd : d = L + 6 - i) (hi : i + 6 ≤ L) (hs : ∀ k, k < w * h → sam k < 256) (hb1 : bS w h sums) (hb2 : bS w h sqs) : q_W (q_cs x (50 + i) (5000 + 6 * i)) 257 [some (.inr (.inr (some 16))), some (.inr (.inr (some 0))), some (.inr (.inr (some 10))), some (.inr (.inr (some 9))), some (.inl (nI i)), o5, o6, o7] [] (lW w h sam blk lost ogr came sums sqs mrk que qd out w h thr sam blk nxt came2 part lost) := by
  have okc := okx (50 + i) (5000 + 6 * i) (by omega) (by omega)
  have okd := okx (50 + i + 1) (5000 + 6 * i + 6) (by omega) (by omega)
  refine q_aload_n okc rfl dL_law_257 ?_
  rw [lw_X0]
  refine lX0_global g hs (Nat.le_of_ble_eq_true rfl) okc dL_law_258 ?_
  rw [← lw_X0]
  refine q_aload_n okc rfl dL_law_261 ?_
  rw [lw_X1]
  refine lX1_global rfl g hs (Nat.le_of_ble_eq_true rfl) okc dL_law_262 ?_
  rw [← lw_X1]
  refine q_icmp_eq 924 okc dL_law_265 (by decide) (fun _ => ?_) (fun q => absurd rfl q)
  refine q_iincN_4 6 okc rfl (by decide) dL_law_924 ?_
  refine q_goto 43 okc dL_law_927 (by decide) ?_
  exact q_wide (by omega) (by omega) (ih _ (by omega) (i + 6) _ _ _ _ _ _ _ _ _ _ _ _ _ _ _ _ _ _ rfl (by omega) hs hb1 hb2)
set_option maxHeartbeats 1000000 in
set_option maxRecDepth 20000 in
theorem law_local {x : q_X} {L : Nat} {xs : Nat → Int32} (hL : L ≤ 3074) (okx : ∀ k n, k ≤ 601024 → n ≤ 7293000 → q_ok (q_cs x k n) cL_law RL 10 354) (rl : q_rl x L xs) (fit : q_fit x 601024 7293000) {w h : Nat} (g : q_g w h) {d i : Nat} (ih : (∀ d2, d2 < d → ∀ (i : Nat) (sam : Nat → Nat) (blk : Nat → Bool) (lost : Int64) (ogr : Nat → Nat) (came : Nat → Int32) (sums sqs : Nat → Int64) (mrk : Nat → Bool) (que : Nat → Nat) (qd : Nat) (out : Nat → Int64) (thr : Nat) (nxt : Nat → Bool) (came2 part : Nat → Int32) (o5 o6 o7 : Option q_V), d2 = L + 6 - i → i ≤ L → (∀ k, k < w * h → sam k < 256) → bS w h sums → bS w h sqs → q_W (q_cs x (50 + i) (5000 + 6 * i)) 43 [some (.inr (.inr (some 16))), some (.inr (.inr (some 0))), some (.inr (.inr (some 10))), some (.inr (.inr (some 9))), some (.inl (nI i)), o5, o6, o7] [] (lW w h sam blk lost ogr came sums sqs mrk que qd out w h thr sam blk nxt came2 part lost))) (sam : Nat → Nat) (blk : Nat → Bool) (lost : Int64) (ogr : Nat → Nat) (came : Nat → Int32) (sums sqs : Nat → Int64) (mrk : Nat → Bool) (que : Nat → Nat) (qd : Nat) (out : Nat → Int64) (thr : Nat) (nxt : Nat → Bool) (came2 part : Nat → Int32) (o5 o6 o7 : Option q_V) (hd : d = L + 6 - i) (hi : i + 6 ≤ L) (hs : ∀ k, k < w * h → sam k < 256) (hb1 : bS w h sums) (hb2 : bS w h sqs) : q_W (q_cs x (50 + i) (5000 + 6 * i)) 270 [some (.inr (.inr (some 16))), some (.inr (.inr (some 0))), some (.inr (.inr (some 10))), some (.inr (.inr (some 9))), some (.inl (nI i)), o5, o6, o7] [] (lW w h sam blk lost ogr came sums sqs mrk que qd out w h thr sam blk nxt came2 part lost) := by
  have okc := okx (50 + i) (5000 + 6 * i) (by omega) (by omega)
  have okd := okx (50 + i + 1) (5000 + 6 * i + 6) (by omega) (by omega)
  refine q_aload_n okc rfl dL_law_270 ?_
  refine q_aload_n okc rfl dL_law_271 ?_
  refine q_iload okc rfl dL_law_272 ?_
  refine q_iconstv (nI 1) okc (by decide) dL_law_274 ?_
  refine q_iaddN okc dL_law_275 ?_
  refine q_sld okc rl (by omega) hL dL_law_276 ?_
  refine q_aload_n okc rfl dL_law_277 ?_
  refine q_iload okc rfl dL_law_278 ?_
  refine q_iconstv (nI 2) okc (by decide) dL_law_280 ?_
  refine q_iaddN okc dL_law_281 ?_
  refine q_sld okc rl (by omega) hL dL_law_282 ?_
  refine q_aload_n okc rfl dL_law_283 ?_
  rw [lw_L]
  refine lL_local g hs hb1 hb2 (Nat.le_of_ble_eq_true rfl) okc rl (q_fit_le fit (by omega) (by omega)) dL_law_284 ?_ ?_ ?_
  · intro y0 y1 y2 y3 y4 y5 y6 y7 y8
    rw [← lw_L]
    refine q_istore_5 okd rfl dL_law_287 ?_
    refine q_aload_n okd rfl dL_law_289 ?_
    refine q_aload_n okd rfl dL_law_290 ?_
    refine q_iload okd rfl dL_law_291 ?_
    refine q_iconstv (nI 1) okd (by decide) dL_law_293 ?_
    refine q_iaddN okd dL_law_294 ?_
    refine q_sld okd rl (by omega) hL dL_law_295 ?_
    refine q_aload_n okd rfl dL_law_296 ?_
    refine q_iload okd rfl dL_law_297 ?_
    refine q_iconstv (nI 2) okd (by decide) dL_law_299 ?_
    refine q_iaddN okd dL_law_300 ?_
    refine q_sld okd rl (by omega) hL dL_law_301 ?_
    rw [lw_X1]
    refine lX1_local rfl g hs (Nat.le_of_ble_eq_true rfl) okd dL_law_302 ?_ ?_ ?_
    · intro z0 z1 z2 z3 z4
      obtain rfl : y0 = z0 := by have := nI_u (by omega) (by omega) (y2.symm.trans z2); omega
      rw [← lw_X1]
      refine q_istore_6 okd rfl dL_law_305 ?_
      refine q_aload_n okd rfl dL_law_307 ?_
      rw [lw_X1]
      refine lX1_thrown rfl (Nat.le_of_ble_eq_true rfl) okd dL_law_308 ?_
      rw [← lw_X1]
      refine q_iload okd rfl dL_law_311 ?_
      refine q_icmp_eq 318 okd dL_law_313 (by decide) (fun _ => ?_) (fun q => absurd rfl q)
      refine q_iload okd rfl dL_law_318 ?_
      refine q_if_ne 335 okd dL_law_320 (by decide) (fun q => absurd (by decide) q) (fun _ => ?_)
      refine q_aload_n okd rfl dL_law_323 ?_
      refine q_iconstv (nI 0) okd (by decide) dL_law_324 ?_
      refine lw_out okd dL_law_325 ?_
      refine q_iload okd rfl dL_law_326 ?_
      refine q_i2l okd dL_law_328 ?_
      refine q_lcmp okd dL_law_329 ?_
      refine q_if_eq 335 okd dL_law_330 (by decide) (fun _ => ?_) (fun q => absurd ((lg_cmp_eq _ _).mpr (by rw [va_up_self])) q)
      refine q_goto 924 okd dL_law_335 (by decide) ?_
      refine q_iincN_4 6 okd rfl (by decide) dL_law_924 ?_
      refine q_goto 43 okd dL_law_927 (by decide) ?_
      exact q_wide (by omega) (by omega) (ih _ (by omega) (i + 6) _ _ _ _ _ _ _ _ _ _ _ _ _ _ _ _ _ _ rfl (by omega) hs (SS_bS y7) (SS_bS y8))
    · intro z0
      exact absurd z0 (by rw [lC_i y1 y2]; decide)
    · intro z0 z1
      exact False.elim (z1.elim y3 y4)
  · intro y0
    rw [← lw_L]
    refine q_istore_5 okd rfl dL_law_287 ?_
    refine q_aload_n okd rfl dL_law_289 ?_
    refine q_aload_n okd rfl dL_law_290 ?_
    refine q_iload okd rfl dL_law_291 ?_
    refine q_iconstv (nI 1) okd (by decide) dL_law_293 ?_
    refine q_iaddN okd dL_law_294 ?_
    refine q_sld okd rl (by omega) hL dL_law_295 ?_
    refine q_aload_n okd rfl dL_law_296 ?_
    refine q_iload okd rfl dL_law_297 ?_
    refine q_iconstv (nI 2) okd (by decide) dL_law_299 ?_
    refine q_iaddN okd dL_law_300 ?_
    refine q_sld okd rl (by omega) hL dL_law_301 ?_
    rw [lw_X1]
    refine lX1_local rfl g hs (Nat.le_of_ble_eq_true rfl) okd dL_law_302 ?_ ?_ ?_
    · intro z0 z1 z2 z3 z4
      exact absurd y0 (by rw [lC_i z1 z2]; decide)
    · intro z0
      rw [← lw_X1]
      refine q_istore_6 okd rfl dL_law_305 ?_
      refine q_aload_n okd rfl dL_law_307 ?_
      rw [lw_X1]
      refine lX1_thrown rfl (Nat.le_of_ble_eq_true rfl) okd dL_law_308 ?_
      rw [← lw_X1]
      refine q_iload okd rfl dL_law_311 ?_
      refine q_icmp_eq 318 okd dL_law_313 (by decide) (fun _ => ?_) (fun q => absurd rfl q)
      refine q_iload okd rfl dL_law_318 ?_
      refine q_if_ne 335 okd dL_law_320 (by decide) (fun _ => ?_) (fun q => absurd q (by decide))
      refine q_goto 924 okd dL_law_335 (by decide) ?_
      refine q_iincN_4 6 okd rfl (by decide) dL_law_924 ?_
      refine q_goto 43 okd dL_law_927 (by decide) ?_
      exact q_wide (by omega) (by omega) (ih _ (by omega) (i + 6) _ _ _ _ _ _ _ _ _ _ _ _ _ _ _ _ _ _ rfl (by omega) hs hb1 hb2)
    · intro z0 z1
      exact absurd (z0.symm.trans y0) (by decide)
  · intro y0
    rw [← lw_L]
    refine q_istore_5 okd rfl dL_law_287 ?_
    refine q_aload_n okd rfl dL_law_289 ?_
    refine q_aload_n okd rfl dL_law_290 ?_
    refine q_iload okd rfl dL_law_291 ?_
    refine q_iconstv (nI 1) okd (by decide) dL_law_293 ?_
    refine q_iaddN okd dL_law_294 ?_
    refine q_sld okd rl (by omega) hL dL_law_295 ?_
    refine q_aload_n okd rfl dL_law_296 ?_
    refine q_iload okd rfl dL_law_297 ?_
    refine q_iconstv (nI 2) okd (by decide) dL_law_299 ?_
    refine q_iaddN okd dL_law_300 ?_
    refine q_sld okd rl (by omega) hL dL_law_301 ?_
    rw [lw_X1]
    refine lX1_local rfl g hs (Nat.le_of_ble_eq_true rfl) okd dL_law_302 ?_ ?_ ?_
    · intro z0 z1 z2 z3 z4
      exact False.elim (y0.2.elim z3 z4)
    · intro z0
      exact absurd (y0.1.symm.trans z0) (by decide)
    · intro z0 z1
      rw [← lw_X1]
      refine q_istore_6 okd rfl dL_law_305 ?_
      refine q_aload_n okd rfl dL_law_307 ?_
      rw [lw_X1]
      refine lX1_thrown rfl (Nat.le_of_ble_eq_true rfl) okd dL_law_308 ?_
      rw [← lw_X1]
      refine q_iload okd rfl dL_law_311 ?_
      refine q_icmp_eq 318 okd dL_law_313 (by decide) (fun _ => ?_) (fun q => absurd rfl q)
      refine q_iload okd rfl dL_law_318 ?_
      refine q_if_ne 335 okd dL_law_320 (by decide) (fun _ => ?_) (fun q => absurd q (by decide))
      refine q_goto 924 okd dL_law_335 (by decide) ?_
      refine q_iincN_4 6 okd rfl (by decide) dL_law_924 ?_
      refine q_goto 43 okd dL_law_927 (by decide) ?_
      exact q_wide (by omega) (by omega) (ih _ (by omega) (i + 6) _ _ _ _ _ _ _ _ _ _ _ _ _ _ _ _ _ _ rfl (by omega) hs hb1 hb2)
set_option maxHeartbeats 1000000 in
set_option maxRecDepth 20000 in
theorem law_spread {x : q_X} {L : Nat} {xs : Nat → Int32} (hL : L ≤ 3074) (okx : ∀ k n, k ≤ 601024 → n ≤ 7293000 → q_ok (q_cs x k n) cL_law RL 10 354) (rl : q_rl x L xs) (fit : q_fit x 601024 7293000) {w h : Nat} (g : q_g w h) {d i : Nat} (ih : (∀ d2, d2 < d → ∀ (i : Nat) (sam : Nat → Nat) (blk : Nat → Bool) (lost : Int64) (ogr : Nat → Nat) (came : Nat → Int32) (sums sqs : Nat → Int64) (mrk : Nat → Bool) (que : Nat → Nat) (qd : Nat) (out : Nat → Int64) (thr : Nat) (nxt : Nat → Bool) (came2 part : Nat → Int32) (o5 o6 o7 : Option q_V), d2 = L + 6 - i → i ≤ L → (∀ k, k < w * h → sam k < 256) → bS w h sums → bS w h sqs → q_W (q_cs x (50 + i) (5000 + 6 * i)) 43 [some (.inr (.inr (some 16))), some (.inr (.inr (some 0))), some (.inr (.inr (some 10))), some (.inr (.inr (some 9))), some (.inl (nI i)), o5, o6, o7] [] (lW w h sam blk lost ogr came sums sqs mrk que qd out w h thr sam blk nxt came2 part lost))) (sam : Nat → Nat) (blk : Nat → Bool) (lost : Int64) (ogr : Nat → Nat) (came : Nat → Int32) (sums sqs : Nat → Int64) (mrk : Nat → Bool) (que : Nat → Nat) (qd : Nat) (out : Nat → Int64) (thr : Nat) (nxt : Nat → Bool) (came2 part : Nat → Int32) (o5 o6 o7 : Option q_V) (hd : d = L + 6 - i) (hi : i + 6 ≤ L) (hs : ∀ k, k < w * h → sam k < 256) (hb1 : bS w h sums) (hb2 : bS w h sqs) : q_W (q_cs x (50 + i) (5000 + 6 * i)) 338 [some (.inr (.inr (some 16))), some (.inr (.inr (some 0))), some (.inr (.inr (some 10))), some (.inr (.inr (some 9))), some (.inl (nI i)), o5, o6, o7] [] (lW w h sam blk lost ogr came sums sqs mrk que qd out w h thr sam blk nxt came2 part lost) := by
  have okc := okx (50 + i) (5000 + 6 * i) (by omega) (by omega)
  have okd := okx (50 + i + 1) (5000 + 6 * i + 6) (by omega) (by omega)
  obtain ⟨cm, hcm⟩ : ∃ f : Nat → Int32, (∀ j, j < w * h → came j = f j) ∧ (fun j => if j < w * h then nI 0 else f j) = (fun j => if j < 256 then nI 0 else came2 j) := by
    refine ⟨fun j => if j < w * h then came j else if j < 256 then nI 0 else came2 j, fun j hj => (if_pos hj).symm, ?_⟩
    funext j
    have := q_gn g
    by_cases h1 : j < w * h
    · rw [if_pos h1, if_pos (by omega)]
    · rw [if_neg h1]; exact if_neg h1
  refine lW_cg (fun _ _ => rfl) (fun _ _ => rfl) hcm.1 ?_
  refine q_aload_n okc rfl dL_law_338 ?_
  refine q_aload_n okc rfl dL_law_339 ?_
  refine q_iload okc rfl dL_law_340 ?_
  refine q_iconstv (nI 1) okc (by decide) dL_law_342 ?_
  refine q_iaddN okc dL_law_343 ?_
  refine q_sld okc rl (by omega) hL dL_law_344 ?_
  refine q_aload_n okc rfl dL_law_345 ?_
  rw [lw_L]
  refine lL_spread g (Nat.le_of_ble_eq_true rfl) okc rl (q_fit_le fit (by omega) (by omega)) dL_law_346 ?_ ?_
  · intro y0 y1
    rw [hcm.2]
    rw [← lw_L]
    refine q_istore_5 okd rfl dL_law_349 ?_
    refine q_aload_n okd rfl dL_law_351 ?_
    refine q_aload_n okd rfl dL_law_352 ?_
    refine q_iload okd rfl dL_law_353 ?_
    refine q_iconstv (nI 1) okd (by decide) dL_law_355 ?_
    refine q_iaddN okd dL_law_356 ?_
    refine q_sld okd rl (by omega) hL dL_law_357 ?_
    rw [lw_X1]
    refine lX1_spread rfl g (Nat.le_of_ble_eq_true rfl) okd dL_law_358 ?_ ?_
    · intro z0 z1
      rw [← lw_X1]
      refine q_istore_6 okd rfl dL_law_361 ?_
      refine q_aload_n okd rfl dL_law_363 ?_
      rw [lw_X1]
      refine lX1_thrown rfl (Nat.le_of_ble_eq_true rfl) okd dL_law_364 ?_
      rw [← lw_X1]
      refine q_iload okd rfl dL_law_367 ?_
      refine q_icmp_eq 374 okd dL_law_369 (by decide) (fun _ => ?_) (fun q => absurd rfl q)
      refine q_iload okd rfl dL_law_374 ?_
      refine q_if_ne 391 okd dL_law_376 (by decide) (fun q => absurd (by decide) q) (fun _ => ?_)
      refine q_aload_n okd rfl dL_law_379 ?_
      refine q_iconstv (nI 0) okd (by decide) dL_law_380 ?_
      refine lw_out okd dL_law_381 ?_
      refine q_iload okd rfl dL_law_382 ?_
      refine q_i2l okd dL_law_384 ?_
      refine q_lcmp okd dL_law_385 ?_
      refine q_if_eq 391 okd dL_law_386 (by decide) (fun _ => ?_) (fun q => absurd ((lg_cmp_eq _ _).mpr (by rw [va_up_self])) q)
      refine q_goto 924 okd dL_law_391 (by decide) ?_
      refine q_iincN_4 6 okd rfl (by decide) dL_law_924 ?_
      refine q_goto 43 okd dL_law_927 (by decide) ?_
      exact q_wide (by omega) (by omega) (ih _ (by omega) (i + 6) _ _ _ _ _ _ _ _ _ _ _ _ _ _ _ _ _ _ rfl (by omega) hs hb1 hb2)
    · intro z0
      exact False.elim (z0.elim y0 y1)
  · intro y0
    rw [← lw_L]
    refine q_istore_5 okd rfl dL_law_349 ?_
    refine q_aload_n okd rfl dL_law_351 ?_
    refine q_aload_n okd rfl dL_law_352 ?_
    refine q_iload okd rfl dL_law_353 ?_
    refine q_iconstv (nI 1) okd (by decide) dL_law_355 ?_
    refine q_iaddN okd dL_law_356 ?_
    refine q_sld okd rl (by omega) hL dL_law_357 ?_
    rw [lw_X1]
    refine lX1_spread rfl g (Nat.le_of_ble_eq_true rfl) okd dL_law_358 ?_ ?_
    · intro z0 z1
      exact False.elim (y0.elim z0 z1)
    · intro z0
      rw [← lw_X1]
      refine q_istore_6 okd rfl dL_law_361 ?_
      refine q_aload_n okd rfl dL_law_363 ?_
      rw [lw_X1]
      refine lX1_thrown rfl (Nat.le_of_ble_eq_true rfl) okd dL_law_364 ?_
      rw [← lw_X1]
      refine q_iload okd rfl dL_law_367 ?_
      refine q_icmp_eq 374 okd dL_law_369 (by decide) (fun _ => ?_) (fun q => absurd rfl q)
      refine q_iload okd rfl dL_law_374 ?_
      refine q_if_ne 391 okd dL_law_376 (by decide) (fun _ => ?_) (fun q => absurd q (by decide))
      refine q_goto 924 okd dL_law_391 (by decide) ?_
      refine q_iincN_4 6 okd rfl (by decide) dL_law_924 ?_
      refine q_goto 43 okd dL_law_927 (by decide) ?_
      exact q_wide (by omega) (by omega) (ih _ (by omega) (i + 6) _ _ _ _ _ _ _ _ _ _ _ _ _ _ _ _ _ _ rfl (by omega) hs hb1 hb2)
set_option maxHeartbeats 1000000 in
set_option maxRecDepth 20000 in
theorem law_rest {x : q_X} {L : Nat} {xs : Nat → Int32} (hL : L ≤ 3074) (okx : ∀ k n, k ≤ 601024 → n ≤ 7293000 → q_ok (q_cs x k n) cL_law RL 10 354) (rl : q_rl x L xs) (fit : q_fit x 601024 7293000) {w h : Nat} (g : q_g w h) {d i : Nat} (ih : (∀ d2, d2 < d → ∀ (i : Nat) (sam : Nat → Nat) (blk : Nat → Bool) (lost : Int64) (ogr : Nat → Nat) (came : Nat → Int32) (sums sqs : Nat → Int64) (mrk : Nat → Bool) (que : Nat → Nat) (qd : Nat) (out : Nat → Int64) (thr : Nat) (nxt : Nat → Bool) (came2 part : Nat → Int32) (o5 o6 o7 : Option q_V), d2 = L + 6 - i → i ≤ L → (∀ k, k < w * h → sam k < 256) → bS w h sums → bS w h sqs → q_W (q_cs x (50 + i) (5000 + 6 * i)) 43 [some (.inr (.inr (some 16))), some (.inr (.inr (some 0))), some (.inr (.inr (some 10))), some (.inr (.inr (some 9))), some (.inl (nI i)), o5, o6, o7] [] (lW w h sam blk lost ogr came sums sqs mrk que qd out w h thr sam blk nxt came2 part lost))) (sam : Nat → Nat) (blk : Nat → Bool) (lost : Int64) (ogr : Nat → Nat) (came : Nat → Int32) (sums sqs : Nat → Int64) (mrk : Nat → Bool) (que : Nat → Nat) (qd : Nat) (out : Nat → Int64) (thr : Nat) (nxt : Nat → Bool) (came2 part : Nat → Int32) (o5 o6 o7 : Option q_V) (hd : d = L + 6 - i) (hi : i + 6 ≤ L) (hs : ∀ k, k < w * h → sam k < 256) (hb1 : bS w h sums) (hb2 : bS w h sqs) : q_W (q_cs x (50 + i) (5000 + 6 * i)) 394 [some (.inr (.inr (some 16))), some (.inr (.inr (some 0))), some (.inr (.inr (some 10))), some (.inr (.inr (some 9))), some (.inl (nI i)), o5, o6, o7] [] (lW w h sam blk lost ogr came sums sqs mrk que qd out w h thr sam blk nxt came2 part lost) := by
  have okc := okx (50 + i) (5000 + 6 * i) (by omega) (by omega)
  have okd := okx (50 + i + 1) (5000 + 6 * i + 6) (by omega) (by omega)
  refine q_aload_n okc rfl dL_law_394 ?_
  rw [lw_X0]
  refine lX0_rest (Nat.le_of_ble_eq_true rfl) okc dL_law_395 ?_
  rw [← lw_X0]
  refine q_aload_n okc rfl dL_law_398 ?_
  rw [lw_X1]
  refine lX1_rest rfl (Nat.le_of_ble_eq_true rfl) okc dL_law_399 ?_
  rw [← lw_X1]
  refine q_lcmp okc dL_law_402 ?_
  refine q_if_eq 924 okc dL_law_403 (by decide) (fun _ => ?_) (fun q => absurd ((lg_cmp_eq _ _).mpr (rfl)) q)
  refine q_iincN_4 6 okc rfl (by decide) dL_law_924 ?_
  refine q_goto 43 okc dL_law_927 (by decide) ?_
  exact q_wide (by omega) (by omega) (ih _ (by omega) (i + 6) _ _ _ _ _ _ _ _ _ _ _ _ _ _ _ _ _ _ rfl (by omega) hs hb1 hb2)
set_option maxHeartbeats 1000000 in
set_option maxRecDepth 20000 in
theorem law_ordered {x : q_X} {L : Nat} {xs : Nat → Int32} (hL : L ≤ 3074) (okx : ∀ k n, k ≤ 601024 → n ≤ 7293000 → q_ok (q_cs x k n) cL_law RL 10 354) (rl : q_rl x L xs) (fit : q_fit x 601024 7293000) {w h : Nat} (g : q_g w h) {d i : Nat} (ih : (∀ d2, d2 < d → ∀ (i : Nat) (sam : Nat → Nat) (blk : Nat → Bool) (lost : Int64) (ogr : Nat → Nat) (came : Nat → Int32) (sums sqs : Nat → Int64) (mrk : Nat → Bool) (que : Nat → Nat) (qd : Nat) (out : Nat → Int64) (thr : Nat) (nxt : Nat → Bool) (came2 part : Nat → Int32) (o5 o6 o7 : Option q_V), d2 = L + 6 - i → i ≤ L → (∀ k, k < w * h → sam k < 256) → bS w h sums → bS w h sqs → q_W (q_cs x (50 + i) (5000 + 6 * i)) 43 [some (.inr (.inr (some 16))), some (.inr (.inr (some 0))), some (.inr (.inr (some 10))), some (.inr (.inr (some 9))), some (.inl (nI i)), o5, o6, o7] [] (lW w h sam blk lost ogr came sums sqs mrk que qd out w h thr sam blk nxt came2 part lost))) (sam : Nat → Nat) (blk : Nat → Bool) (lost : Int64) (ogr : Nat → Nat) (came : Nat → Int32) (sums sqs : Nat → Int64) (mrk : Nat → Bool) (que : Nat → Nat) (qd : Nat) (out : Nat → Int64) (thr : Nat) (nxt : Nat → Bool) (came2 part : Nat → Int32) (o5 o6 o7 : Option q_V) (hd : d = L + 6 - i) (hi : i + 6 ≤ L) (hs : ∀ k, k < w * h → sam k < 256) (hb1 : bS w h sums) (hb2 : bS w h sqs) : q_W (q_cs x (50 + i) (5000 + 6 * i)) 408 [some (.inr (.inr (some 16))), some (.inr (.inr (some 0))), some (.inr (.inr (some 10))), some (.inr (.inr (some 9))), some (.inl (nI i)), o5, o6, o7] [] (lW w h sam blk lost ogr came sums sqs mrk que qd out w h thr sam blk nxt came2 part lost) := by
  have okc := okx (50 + i) (5000 + 6 * i) (by omega) (by omega)
  have okd := okx (50 + i + 1) (5000 + 6 * i + 6) (by omega) (by omega)
  refine q_aload_n okc rfl dL_law_408 ?_
  refine q_aload_n okc rfl dL_law_409 ?_
  refine q_iload okc rfl dL_law_410 ?_
  refine q_iconstv (nI 1) okc (by decide) dL_law_412 ?_
  refine q_iaddN okc dL_law_413 ?_
  refine q_sld okc rl (by omega) hL dL_law_414 ?_
  refine q_aload_n okc rfl dL_law_415 ?_
  rw [lw_L]
  refine lL_ordered g hs (Nat.le_of_ble_eq_true rfl) okc rl (q_fit_le fit (by omega) (by omega)) dL_law_416 ?_ ?_
  · intro y0 y1 y2
    rw [← lw_L]
    refine q_istore_5 okd rfl dL_law_419 ?_
    refine q_aload_n okd rfl dL_law_421 ?_
    refine q_aload_n okd rfl dL_law_422 ?_
    refine q_iload okd rfl dL_law_423 ?_
    refine q_iconstv (nI 1) okd (by decide) dL_law_425 ?_
    refine q_iaddN okd dL_law_426 ?_
    refine q_sld okd rl (by omega) hL dL_law_427 ?_
    rw [lw_X1]
    refine lX1_ordered rfl g hs (Nat.le_of_ble_eq_true rfl) okd dL_law_428 ?_ ?_
    · intro z0 z1 z2
      obtain rfl := ex_u y1 z1 (y2.symm.trans z2)
      rw [← lw_X1]
      refine q_istore_6 okd rfl dL_law_431 ?_
      refine q_aload_n okd rfl dL_law_433 ?_
      rw [lw_X1]
      refine lX1_thrown rfl (Nat.le_of_ble_eq_true rfl) okd dL_law_434 ?_
      rw [← lw_X1]
      refine q_iload okd rfl dL_law_437 ?_
      refine q_icmp_eq 444 okd dL_law_439 (by decide) (fun _ => ?_) (fun q => absurd rfl q)
      refine q_iload okd rfl dL_law_444 ?_
      refine q_if_ne 461 okd dL_law_446 (by decide) (fun q => absurd (by decide) q) (fun _ => ?_)
      refine q_aload_n okd rfl dL_law_449 ?_
      refine q_iconstv (nI 0) okd (by decide) dL_law_450 ?_
      refine lw_out okd dL_law_451 ?_
      refine q_iload okd rfl dL_law_452 ?_
      refine q_i2l okd dL_law_454 ?_
      refine q_lcmp okd dL_law_455 ?_
      refine q_if_eq 461 okd dL_law_456 (by decide) (fun _ => ?_) (fun q => absurd ((lg_cmp_eq _ _).mpr (by rw [va_up_self])) q)
      refine q_goto 924 okd dL_law_461 (by decide) ?_
      refine q_iincN_4 6 okd rfl (by decide) dL_law_924 ?_
      refine q_goto 43 okd dL_law_927 (by decide) ?_
      exact q_wide (by omega) (by omega) (ih _ (by omega) (i + 6) _ _ _ _ _ _ _ _ _ _ _ _ _ _ _ _ _ _ rfl (by omega) hs hb1 hb2)
    · intro z0
      exact absurd z0 (by rw [isC_i y1 y2]; decide)
  · intro y0
    rw [← lw_L]
    refine q_istore_5 okd rfl dL_law_419 ?_
    refine q_aload_n okd rfl dL_law_421 ?_
    refine q_aload_n okd rfl dL_law_422 ?_
    refine q_iload okd rfl dL_law_423 ?_
    refine q_iconstv (nI 1) okd (by decide) dL_law_425 ?_
    refine q_iaddN okd dL_law_426 ?_
    refine q_sld okd rl (by omega) hL dL_law_427 ?_
    rw [lw_X1]
    refine lX1_ordered rfl g hs (Nat.le_of_ble_eq_true rfl) okd dL_law_428 ?_ ?_
    · intro z0 z1 z2
      exact absurd y0 (by rw [isC_i z1 z2]; decide)
    · intro z0
      rw [← lw_X1]
      refine q_istore_6 okd rfl dL_law_431 ?_
      refine q_aload_n okd rfl dL_law_433 ?_
      rw [lw_X1]
      refine lX1_thrown rfl (Nat.le_of_ble_eq_true rfl) okd dL_law_434 ?_
      rw [← lw_X1]
      refine q_iload okd rfl dL_law_437 ?_
      refine q_icmp_eq 444 okd dL_law_439 (by decide) (fun _ => ?_) (fun q => absurd rfl q)
      refine q_iload okd rfl dL_law_444 ?_
      refine q_if_ne 461 okd dL_law_446 (by decide) (fun _ => ?_) (fun q => absurd q (by decide))
      refine q_goto 924 okd dL_law_461 (by decide) ?_
      refine q_iincN_4 6 okd rfl (by decide) dL_law_924 ?_
      refine q_goto 43 okd dL_law_927 (by decide) ?_
      exact q_wide (by omega) (by omega) (ih _ (by omega) (i + 6) _ _ _ _ _ _ _ _ _ _ _ _ _ _ _ _ _ _ rfl (by omega) hs hb1 hb2)
set_option maxHeartbeats 1000000 in
set_option maxRecDepth 20000 in
theorem law_join {x : q_X} {L : Nat} {xs : Nat → Int32} (hL : L ≤ 3074) (okx : ∀ k n, k ≤ 601024 → n ≤ 7293000 → q_ok (q_cs x k n) cL_law RL 10 354) (rl : q_rl x L xs) (fit : q_fit x 601024 7293000) {w h : Nat} (g : q_g w h) {d i : Nat} (ih : (∀ d2, d2 < d → ∀ (i : Nat) (sam : Nat → Nat) (blk : Nat → Bool) (lost : Int64) (ogr : Nat → Nat) (came : Nat → Int32) (sums sqs : Nat → Int64) (mrk : Nat → Bool) (que : Nat → Nat) (qd : Nat) (out : Nat → Int64) (thr : Nat) (nxt : Nat → Bool) (came2 part : Nat → Int32) (o5 o6 o7 : Option q_V), d2 = L + 6 - i → i ≤ L → (∀ k, k < w * h → sam k < 256) → bS w h sums → bS w h sqs → q_W (q_cs x (50 + i) (5000 + 6 * i)) 43 [some (.inr (.inr (some 16))), some (.inr (.inr (some 0))), some (.inr (.inr (some 10))), some (.inr (.inr (some 9))), some (.inl (nI i)), o5, o6, o7] [] (lW w h sam blk lost ogr came sums sqs mrk que qd out w h thr sam blk nxt came2 part lost))) (sam : Nat → Nat) (blk : Nat → Bool) (lost : Int64) (ogr : Nat → Nat) (came : Nat → Int32) (sums sqs : Nat → Int64) (mrk : Nat → Bool) (que : Nat → Nat) (qd : Nat) (out : Nat → Int64) (thr : Nat) (nxt : Nat → Bool) (came2 part : Nat → Int32) (o5 o6 o7 : Option q_V) (hd : d = L + 6 - i) (hi : i + 6 ≤ L) (hs : ∀ k, k < w * h → sam k < 256) (hb1 : bS w h sums) (hb2 : bS w h sqs) : q_W (q_cs x (50 + i) (5000 + 6 * i)) 464 [some (.inr (.inr (some 16))), some (.inr (.inr (some 0))), some (.inr (.inr (some 10))), some (.inr (.inr (some 9))), some (.inl (nI i)), o5, o6, o7] [] (lW w h sam blk lost ogr came sums sqs mrk que qd out w h thr sam blk nxt came2 part lost) := by
  have okc := okx (50 + i) (5000 + 6 * i) (by omega) (by omega)
  have okd := okx (50 + i + 1) (5000 + 6 * i + 6) (by omega) (by omega)
  refine q_aload_n okc rfl dL_law_464 ?_
  refine q_aload_n okc rfl dL_law_465 ?_
  refine q_iload okc rfl dL_law_466 ?_
  refine q_iconstv (nI 1) okc (by decide) dL_law_468 ?_
  refine q_iaddN okc dL_law_469 ?_
  refine q_sld okc rl (by omega) hL dL_law_470 ?_
  refine q_aload_n okc rfl dL_law_471 ?_
  refine q_iload okc rfl dL_law_472 ?_
  refine q_iconstv (nI 2) okc (by decide) dL_law_474 ?_
  refine q_iaddN okc dL_law_475 ?_
  refine q_sld okc rl (by omega) hL dL_law_476 ?_
  refine q_aload_n okc rfl dL_law_477 ?_
  rw [lw_L]
  refine lL_join g (Nat.le_of_ble_eq_true rfl) okc rl (q_fit_le fit (by omega) (by omega)) dL_law_478 ?_ ?_
  · intro y0 y1 y2 y3 y4 y5 y6
    rw [← lw_L]
    refine q_istore_5 okd rfl dL_law_481 ?_
    refine q_aload_n okd rfl dL_law_483 ?_
    refine q_aload_n okd rfl dL_law_484 ?_
    refine q_iload okd rfl dL_law_485 ?_
    refine q_iconstv (nI 1) okd (by decide) dL_law_487 ?_
    refine q_iaddN okd dL_law_488 ?_
    refine q_sld okd rl (by omega) hL dL_law_489 ?_
    refine q_aload_n okd rfl dL_law_490 ?_
    refine q_iload okd rfl dL_law_491 ?_
    refine q_iconstv (nI 2) okd (by decide) dL_law_493 ?_
    refine q_iaddN okd dL_law_494 ?_
    refine q_sld okd rl (by omega) hL dL_law_495 ?_
    rw [lw_X1]
    refine lX1_join rfl g hs (Nat.le_of_ble_eq_true rfl) okd dL_law_496 ?_ ?_
    · intro z0 z1 z2 z3 z4
      rw [← lw_X1]
      refine q_istore_6 okd rfl dL_law_499 ?_
      refine q_aload_n okd rfl dL_law_501 ?_
      rw [lw_X1]
      refine lX1_thrown rfl (Nat.le_of_ble_eq_true rfl) okd dL_law_502 ?_
      rw [← lw_X1]
      refine q_iload okd rfl dL_law_505 ?_
      refine q_icmp_eq 512 okd dL_law_507 (by decide) (fun _ => ?_) (fun q => absurd rfl q)
      refine q_iload okd rfl dL_law_512 ?_
      refine q_if_ne 529 okd dL_law_514 (by decide) (fun q => absurd (by decide) q) (fun _ => ?_)
      refine q_aload_n okd rfl dL_law_517 ?_
      refine q_iconstv (nI 0) okd (by decide) dL_law_518 ?_
      refine lw_out okd dL_law_519 ?_
      refine q_iload okd rfl dL_law_520 ?_
      refine q_i2l okd dL_law_522 ?_
      refine q_lcmp okd dL_law_523 ?_
      refine q_if_eq 529 okd dL_law_524 (by decide) (fun _ => ?_) (fun q => absurd ((lg_cmp_eq _ _).mpr (by rw [va_up_self, cntB_congr (jPost_cg y6 z4)])) q)
      refine q_goto 924 okd dL_law_529 (by decide) ?_
      refine q_iincN_4 6 okd rfl (by decide) dL_law_924 ?_
      refine q_goto 43 okd dL_law_927 (by decide) ?_
      refine lW_cg (fun _ _ => rfl) (jPost_cg y6 z4) (fun _ _ => rfl) ?_
      exact q_wide (by omega) (by omega) (ih _ (by omega) (i + 6) _ _ _ _ _ _ _ _ _ _ _ _ _ _ _ _ _ _ rfl (by omega) hs hb1 hb2)
    · intro z0
      exact False.elim (z0.elim y0 (fun q => q.elim y1 y2))
  · intro y0
    rw [← lw_L]
    refine q_istore_5 okd rfl dL_law_481 ?_
    refine q_aload_n okd rfl dL_law_483 ?_
    refine q_aload_n okd rfl dL_law_484 ?_
    refine q_iload okd rfl dL_law_485 ?_
    refine q_iconstv (nI 1) okd (by decide) dL_law_487 ?_
    refine q_iaddN okd dL_law_488 ?_
    refine q_sld okd rl (by omega) hL dL_law_489 ?_
    refine q_aload_n okd rfl dL_law_490 ?_
    refine q_iload okd rfl dL_law_491 ?_
    refine q_iconstv (nI 2) okd (by decide) dL_law_493 ?_
    refine q_iaddN okd dL_law_494 ?_
    refine q_sld okd rl (by omega) hL dL_law_495 ?_
    rw [lw_X1]
    refine lX1_join rfl g hs (Nat.le_of_ble_eq_true rfl) okd dL_law_496 ?_ ?_
    · intro z0 z1 z2 z3 z4
      exact False.elim (y0.elim z0 (fun q => q.elim z1 z2))
    · intro z0
      rw [← lw_X1]
      refine q_istore_6 okd rfl dL_law_499 ?_
      refine q_aload_n okd rfl dL_law_501 ?_
      rw [lw_X1]
      refine lX1_thrown rfl (Nat.le_of_ble_eq_true rfl) okd dL_law_502 ?_
      rw [← lw_X1]
      refine q_iload okd rfl dL_law_505 ?_
      refine q_icmp_eq 512 okd dL_law_507 (by decide) (fun _ => ?_) (fun q => absurd rfl q)
      refine q_iload okd rfl dL_law_512 ?_
      refine q_if_ne 529 okd dL_law_514 (by decide) (fun _ => ?_) (fun q => absurd q (by decide))
      refine q_goto 924 okd dL_law_529 (by decide) ?_
      refine q_iincN_4 6 okd rfl (by decide) dL_law_924 ?_
      refine q_goto 43 okd dL_law_927 (by decide) ?_
      exact q_wide (by omega) (by omega) (ih _ (by omega) (i + 6) _ _ _ _ _ _ _ _ _ _ _ _ _ _ _ _ _ _ rfl (by omega) hs hb1 hb2)
set_option maxHeartbeats 1000000 in
set_option maxRecDepth 20000 in
theorem law_clean {x : q_X} {L : Nat} {xs : Nat → Int32} (hL : L ≤ 3074) (okx : ∀ k n, k ≤ 601024 → n ≤ 7293000 → q_ok (q_cs x k n) cL_law RL 10 354) (rl : q_rl x L xs) (fit : q_fit x 601024 7293000) {w h : Nat} (g : q_g w h) {d i : Nat} (ih : (∀ d2, d2 < d → ∀ (i : Nat) (sam : Nat → Nat) (blk : Nat → Bool) (lost : Int64) (ogr : Nat → Nat) (came : Nat → Int32) (sums sqs : Nat → Int64) (mrk : Nat → Bool) (que : Nat → Nat) (qd : Nat) (out : Nat → Int64) (thr : Nat) (nxt : Nat → Bool) (came2 part : Nat → Int32) (o5 o6 o7 : Option q_V), d2 = L + 6 - i → i ≤ L → (∀ k, k < w * h → sam k < 256) → bS w h sums → bS w h sqs → q_W (q_cs x (50 + i) (5000 + 6 * i)) 43 [some (.inr (.inr (some 16))), some (.inr (.inr (some 0))), some (.inr (.inr (some 10))), some (.inr (.inr (some 9))), some (.inl (nI i)), o5, o6, o7] [] (lW w h sam blk lost ogr came sums sqs mrk que qd out w h thr sam blk nxt came2 part lost))) (sam : Nat → Nat) (blk : Nat → Bool) (lost : Int64) (ogr : Nat → Nat) (came : Nat → Int32) (sums sqs : Nat → Int64) (mrk : Nat → Bool) (que : Nat → Nat) (qd : Nat) (out : Nat → Int64) (thr : Nat) (nxt : Nat → Bool) (came2 part : Nat → Int32) (o5 o6 o7 : Option q_V) (hd : d = L + 6 - i) (hi : i + 6 ≤ L) (hs : ∀ k, k < w * h → sam k < 256) (hb1 : bS w h sums) (hb2 : bS w h sqs) : q_W (q_cs x (50 + i) (5000 + 6 * i)) 532 [some (.inr (.inr (some 16))), some (.inr (.inr (some 0))), some (.inr (.inr (some 10))), some (.inr (.inr (some 9))), some (.inl (nI i)), o5, o6, o7] [] (lW w h sam blk lost ogr came sums sqs mrk que qd out w h thr sam blk nxt came2 part lost) := by
  have okc := okx (50 + i) (5000 + 6 * i) (by omega) (by omega)
  have okd := okx (50 + i + 1) (5000 + 6 * i + 6) (by omega) (by omega)
  refine q_aload_n okc rfl dL_law_532 ?_
  refine q_aload_n okc rfl dL_law_533 ?_
  refine q_iload okc rfl dL_law_534 ?_
  refine q_iconstv (nI 1) okc (by decide) dL_law_536 ?_
  refine q_iaddN okc dL_law_537 ?_
  refine q_sld okc rl (by omega) hL dL_law_538 ?_
  refine q_aload_n okc rfl dL_law_539 ?_
  rw [lw_L]
  refine lL_clean g (Nat.le_of_ble_eq_true rfl) okc rl (q_fit_le fit (by omega) (by omega)) dL_law_540 ?_ ?_
  · intro y0 y1 y2 y3 y4 y5 y6 y7 y8
    rw [← lw_L]
    refine q_istore_5 okd rfl dL_law_543 ?_
    refine q_aload_n okd rfl dL_law_545 ?_
    refine q_aload_n okd rfl dL_law_546 ?_
    refine q_iload okd rfl dL_law_547 ?_
    refine q_iconstv (nI 1) okd (by decide) dL_law_549 ?_
    refine q_iaddN okd dL_law_550 ?_
    refine q_sld okd rl (by omega) hL dL_law_551 ?_
    rw [lw_X1]
    refine lX1_clean rfl g (Nat.le_of_ble_eq_true rfl) okd dL_law_552 ?_ ?_
    · intro z0 z1 z2 z3 z4 z5 z6
      rw [← lw_X1]
      refine q_istore_6 okd rfl dL_law_555 ?_
      refine q_aload_n okd rfl dL_law_557 ?_
      rw [lw_X1]
      refine lX1_thrown rfl (Nat.le_of_ble_eq_true rfl) okd dL_law_558 ?_
      rw [← lw_X1]
      refine q_iload okd rfl dL_law_561 ?_
      refine q_icmp_eq 568 okd dL_law_563 (by decide) (fun _ => ?_) (fun q => absurd rfl q)
      refine q_iload okd rfl dL_law_568 ?_
      refine q_if_ne 585 okd dL_law_570 (by decide) (fun q => absurd (by decide) q) (fun _ => ?_)
      refine q_aload_n okd rfl dL_law_573 ?_
      refine q_iconstv (nI 0) okd (by decide) dL_law_574 ?_
      refine lw_out okd dL_law_575 ?_
      refine q_iload okd rfl dL_law_576 ?_
      refine q_i2l okd dL_law_578 ?_
      refine q_lcmp okd dL_law_579 ?_
      refine q_if_eq 585 okd dL_law_580 (by decide) (fun _ => ?_) (fun q => absurd ((lg_cmp_eq _ _).mpr (by rw [va_up_self, cB_congr (fun k hk => Sp_cg (tPost_cg (fun _ _ => rfl) y7 z5) hk)])) q)
      refine q_goto 924 okd dL_law_585 (by decide) ?_
      refine q_iincN_4 6 okd rfl (by decide) dL_law_924 ?_
      refine q_goto 43 okd dL_law_927 (by decide) ?_
      refine lW_cg (fun _ _ => rfl) (tPost_cg (tPost_cg (fun _ _ => rfl) y7 z5) y8 z6) (fun _ _ => rfl) ?_
      exact q_wide (by omega) (by omega) (ih _ (by omega) (i + 6) _ _ _ _ _ _ _ _ _ _ _ _ _ _ _ _ _ _ rfl (by omega) hs hb1 hb2)
    · intro z0
      exact False.elim (z0.elim y0 y1)
  · intro y0
    rw [← lw_L]
    refine q_istore_5 okd rfl dL_law_543 ?_
    refine q_aload_n okd rfl dL_law_545 ?_
    refine q_aload_n okd rfl dL_law_546 ?_
    refine q_iload okd rfl dL_law_547 ?_
    refine q_iconstv (nI 1) okd (by decide) dL_law_549 ?_
    refine q_iaddN okd dL_law_550 ?_
    refine q_sld okd rl (by omega) hL dL_law_551 ?_
    rw [lw_X1]
    refine lX1_clean rfl g (Nat.le_of_ble_eq_true rfl) okd dL_law_552 ?_ ?_
    · intro z0 z1 z2 z3 z4 z5 z6
      exact False.elim (y0.elim z0 z1)
    · intro z0
      rw [← lw_X1]
      refine q_istore_6 okd rfl dL_law_555 ?_
      refine q_aload_n okd rfl dL_law_557 ?_
      rw [lw_X1]
      refine lX1_thrown rfl (Nat.le_of_ble_eq_true rfl) okd dL_law_558 ?_
      rw [← lw_X1]
      refine q_iload okd rfl dL_law_561 ?_
      refine q_icmp_eq 568 okd dL_law_563 (by decide) (fun _ => ?_) (fun q => absurd rfl q)
      refine q_iload okd rfl dL_law_568 ?_
      refine q_if_ne 585 okd dL_law_570 (by decide) (fun _ => ?_) (fun q => absurd q (by decide))
      refine q_goto 924 okd dL_law_585 (by decide) ?_
      refine q_iincN_4 6 okd rfl (by decide) dL_law_924 ?_
      refine q_goto 43 okd dL_law_927 (by decide) ?_
      exact q_wide (by omega) (by omega) (ih _ (by omega) (i + 6) _ _ _ _ _ _ _ _ _ _ _ _ _ _ _ _ _ _ rfl (by omega) hs hb1 hb2)
set_option maxHeartbeats 1000000 in
set_option maxRecDepth 20000 in
theorem law_edges {x : q_X} {L : Nat} {xs : Nat → Int32} (hL : L ≤ 3074) (okx : ∀ k n, k ≤ 601024 → n ≤ 7293000 → q_ok (q_cs x k n) cL_law RL 10 354) (rl : q_rl x L xs) (fit : q_fit x 601024 7293000) {w h : Nat} (g : q_g w h) {d i : Nat} (ih : (∀ d2, d2 < d → ∀ (i : Nat) (sam : Nat → Nat) (blk : Nat → Bool) (lost : Int64) (ogr : Nat → Nat) (came : Nat → Int32) (sums sqs : Nat → Int64) (mrk : Nat → Bool) (que : Nat → Nat) (qd : Nat) (out : Nat → Int64) (thr : Nat) (nxt : Nat → Bool) (came2 part : Nat → Int32) (o5 o6 o7 : Option q_V), d2 = L + 6 - i → i ≤ L → (∀ k, k < w * h → sam k < 256) → bS w h sums → bS w h sqs → q_W (q_cs x (50 + i) (5000 + 6 * i)) 43 [some (.inr (.inr (some 16))), some (.inr (.inr (some 0))), some (.inr (.inr (some 10))), some (.inr (.inr (some 9))), some (.inl (nI i)), o5, o6, o7] [] (lW w h sam blk lost ogr came sums sqs mrk que qd out w h thr sam blk nxt came2 part lost))) (sam : Nat → Nat) (blk : Nat → Bool) (lost : Int64) (ogr : Nat → Nat) (came : Nat → Int32) (sums sqs : Nat → Int64) (mrk : Nat → Bool) (que : Nat → Nat) (qd : Nat) (out : Nat → Int64) (thr : Nat) (nxt : Nat → Bool) (came2 part : Nat → Int32) (o5 o6 o7 : Option q_V) (hd : d = L + 6 - i) (hi : i + 6 ≤ L) (hs : ∀ k, k < w * h → sam k < 256) (hb1 : bS w h sums) (hb2 : bS w h sqs) : q_W (q_cs x (50 + i) (5000 + 6 * i)) 588 [some (.inr (.inr (some 16))), some (.inr (.inr (some 0))), some (.inr (.inr (some 10))), some (.inr (.inr (some 9))), some (.inl (nI i)), o5, o6, o7] [] (lW w h sam blk lost ogr came sums sqs mrk que qd out w h thr sam blk nxt came2 part lost) := by
  have okc := okx (50 + i) (5000 + 6 * i) (by omega) (by omega)
  have okd := okx (50 + i + 1) (5000 + 6 * i + 6) (by omega) (by omega)
  refine q_aload_n okc rfl dL_law_588 ?_
  rw [lw_X0]
  refine lX0_edges g (Nat.le_of_ble_eq_true rfl) okc dL_law_589 ?_
  rw [← lw_X0]
  refine q_aload_n okc rfl dL_law_592 ?_
  rw [lw_X1]
  refine lX1_edges rfl g (Nat.le_of_ble_eq_true rfl) okc dL_law_593 ?_
  rw [← lw_X1]
  refine q_icmp_eq 924 okc dL_law_596 (by decide) (fun _ => ?_) (fun q => absurd rfl q)
  refine q_iincN_4 6 okc rfl (by decide) dL_law_924 ?_
  refine q_goto 43 okc dL_law_927 (by decide) ?_
  exact q_wide (by omega) (by omega) (ih _ (by omega) (i + 6) _ _ _ _ _ _ _ _ _ _ _ _ _ _ _ _ _ _ rfl (by omega) hs hb1 hb2)
set_option maxHeartbeats 1000000 in
set_option maxRecDepth 20000 in
theorem law_invert {x : q_X} {L : Nat} {xs : Nat → Int32} (hL : L ≤ 3074) (okx : ∀ k n, k ≤ 601024 → n ≤ 7293000 → q_ok (q_cs x k n) cL_law RL 10 354) (rl : q_rl x L xs) (fit : q_fit x 601024 7293000) {w h : Nat} (g : q_g w h) {d i : Nat} (ih : (∀ d2, d2 < d → ∀ (i : Nat) (sam : Nat → Nat) (blk : Nat → Bool) (lost : Int64) (ogr : Nat → Nat) (came : Nat → Int32) (sums sqs : Nat → Int64) (mrk : Nat → Bool) (que : Nat → Nat) (qd : Nat) (out : Nat → Int64) (thr : Nat) (nxt : Nat → Bool) (came2 part : Nat → Int32) (o5 o6 o7 : Option q_V), d2 = L + 6 - i → i ≤ L → (∀ k, k < w * h → sam k < 256) → bS w h sums → bS w h sqs → q_W (q_cs x (50 + i) (5000 + 6 * i)) 43 [some (.inr (.inr (some 16))), some (.inr (.inr (some 0))), some (.inr (.inr (some 10))), some (.inr (.inr (some 9))), some (.inl (nI i)), o5, o6, o7] [] (lW w h sam blk lost ogr came sums sqs mrk que qd out w h thr sam blk nxt came2 part lost))) (sam : Nat → Nat) (blk : Nat → Bool) (lost : Int64) (ogr : Nat → Nat) (came : Nat → Int32) (sums sqs : Nat → Int64) (mrk : Nat → Bool) (que : Nat → Nat) (qd : Nat) (out : Nat → Int64) (thr : Nat) (nxt : Nat → Bool) (came2 part : Nat → Int32) (o5 o6 o7 : Option q_V) (hd : d = L + 6 - i) (hi : i + 6 ≤ L) (hs : ∀ k, k < w * h → sam k < 256) (hb1 : bS w h sums) (hb2 : bS w h sqs) : q_W (q_cs x (50 + i) (5000 + 6 * i)) 601 [some (.inr (.inr (some 16))), some (.inr (.inr (some 0))), some (.inr (.inr (some 10))), some (.inr (.inr (some 9))), some (.inl (nI i)), o5, o6, o7] [] (lW w h sam blk lost ogr came sums sqs mrk que qd out w h thr sam blk nxt came2 part lost) := by
  have okc := okx (50 + i) (5000 + 6 * i) (by omega) (by omega)
  have okd := okx (50 + i + 1) (5000 + 6 * i + 6) (by omega) (by omega)
  refine q_aload_n okc rfl dL_law_601 ?_
  rw [lw_X0]
  refine lX0_invert g (Nat.le_of_ble_eq_true rfl) okc dL_law_602 ?_
  rw [← lw_X0]
  refine q_aload_n okc rfl dL_law_605 ?_
  rw [lw_X1]
  refine lX1_invert rfl g (Nat.le_of_ble_eq_true rfl) okc dL_law_606 ?_
  rw [← lw_X1]
  refine q_icmp_eq 924 okc dL_law_609 (by decide) (fun _ => ?_) (fun q => absurd rfl q)
  refine q_iincN_4 6 okc rfl (by decide) dL_law_924 ?_
  refine q_goto 43 okc dL_law_927 (by decide) ?_
  exact q_wide (by omega) (by omega) (ih _ (by omega) (i + 6) _ _ _ _ _ _ _ _ _ _ _ _ _ _ _ _ _ _ rfl (by omega) hs hb1 hb2)
set_option maxHeartbeats 1000000 in
set_option maxRecDepth 20000 in
theorem law_at {x : q_X} {L : Nat} {xs : Nat → Int32} (hL : L ≤ 3074) (okx : ∀ k n, k ≤ 601024 → n ≤ 7293000 → q_ok (q_cs x k n) cL_law RL 10 354) (rl : q_rl x L xs) (fit : q_fit x 601024 7293000) {w h : Nat} (g : q_g w h) {d i : Nat} (ih : (∀ d2, d2 < d → ∀ (i : Nat) (sam : Nat → Nat) (blk : Nat → Bool) (lost : Int64) (ogr : Nat → Nat) (came : Nat → Int32) (sums sqs : Nat → Int64) (mrk : Nat → Bool) (que : Nat → Nat) (qd : Nat) (out : Nat → Int64) (thr : Nat) (nxt : Nat → Bool) (came2 part : Nat → Int32) (o5 o6 o7 : Option q_V), d2 = L + 6 - i → i ≤ L → (∀ k, k < w * h → sam k < 256) → bS w h sums → bS w h sqs → q_W (q_cs x (50 + i) (5000 + 6 * i)) 43 [some (.inr (.inr (some 16))), some (.inr (.inr (some 0))), some (.inr (.inr (some 10))), some (.inr (.inr (some 9))), some (.inl (nI i)), o5, o6, o7] [] (lW w h sam blk lost ogr came sums sqs mrk que qd out w h thr sam blk nxt came2 part lost))) (sam : Nat → Nat) (blk : Nat → Bool) (lost : Int64) (ogr : Nat → Nat) (came : Nat → Int32) (sums sqs : Nat → Int64) (mrk : Nat → Bool) (que : Nat → Nat) (qd : Nat) (out : Nat → Int64) (thr : Nat) (nxt : Nat → Bool) (came2 part : Nat → Int32) (o5 o6 o7 : Option q_V) (hd : d = L + 6 - i) (hi : i + 6 ≤ L) (hs : ∀ k, k < w * h → sam k < 256) (hb1 : bS w h sums) (hb2 : bS w h sqs) : q_W (q_cs x (50 + i) (5000 + 6 * i)) 614 [some (.inr (.inr (some 16))), some (.inr (.inr (some 0))), some (.inr (.inr (some 10))), some (.inr (.inr (some 9))), some (.inl (nI i)), o5, o6, o7] [] (lW w h sam blk lost ogr came sums sqs mrk que qd out w h thr sam blk nxt came2 part lost) := by
  have okc := okx (50 + i) (5000 + 6 * i) (by omega) (by omega)
  have okd := okx (50 + i + 1) (5000 + 6 * i + 6) (by omega) (by omega)
  refine q_aload_n okc rfl dL_law_614 ?_
  refine q_aload_n okc rfl dL_law_615 ?_
  refine q_iload okc rfl dL_law_616 ?_
  refine q_iconstv (nI 1) okc (by decide) dL_law_618 ?_
  refine q_iaddN okc dL_law_619 ?_
  refine q_sld okc rl (by omega) hL dL_law_620 ?_
  refine q_aload_n okc rfl dL_law_621 ?_
  refine q_iload okc rfl dL_law_622 ?_
  refine q_iconstv (nI 2) okc (by decide) dL_law_624 ?_
  refine q_iaddN okc dL_law_625 ?_
  refine q_sld okc rl (by omega) hL dL_law_626 ?_
  refine q_aload_n okc rfl dL_law_627 ?_
  rw [lw_L]
  refine lL_at g (Nat.le_of_ble_eq_true rfl) okc rl (q_fit_le fit (by omega) (by omega)) dL_law_628 ?_ ?_
  · intro y0
    rw [← lw_L]
    refine q_istore_5 okd rfl dL_law_631 ?_
    refine q_aload_n okd rfl dL_law_633 ?_
    refine q_aload_n okd rfl dL_law_634 ?_
    refine q_iload okd rfl dL_law_635 ?_
    refine q_iconstv (nI 1) okd (by decide) dL_law_637 ?_
    refine q_iaddN okd dL_law_638 ?_
    refine q_sld okd rl (by omega) hL dL_law_639 ?_
    refine q_aload_n okd rfl dL_law_640 ?_
    refine q_iload okd rfl dL_law_641 ?_
    refine q_iconstv (nI 2) okd (by decide) dL_law_643 ?_
    refine q_iaddN okd dL_law_644 ?_
    refine q_sld okd rl (by omega) hL dL_law_645 ?_
    rw [lw_X1]
    refine lX1_at rfl g (Nat.le_of_ble_eq_true rfl) okd dL_law_646 ?_ ?_
    · intro z0
      rw [← lw_X1]
      refine q_istore_6 okd rfl dL_law_649 ?_
      refine q_aload_n okd rfl dL_law_651 ?_
      rw [lw_X1]
      refine lX1_thrown rfl (Nat.le_of_ble_eq_true rfl) okd dL_law_652 ?_
      rw [← lw_X1]
      refine q_iload okd rfl dL_law_655 ?_
      refine q_icmp_eq 662 okd dL_law_657 (by decide) (fun _ => ?_) (fun q => absurd rfl q)
      refine q_iload okd rfl dL_law_662 ?_
      refine q_if_ne 686 okd dL_law_664 (by decide) (fun q => absurd (by decide) q) (fun _ => ?_)
      refine q_aload_n okd rfl dL_law_667 ?_
      refine q_iconstv (nI 0) okd (by decide) dL_law_668 ?_
      refine lw_out okd dL_law_669 ?_
      refine q_iload okd rfl dL_law_670 ?_
      refine q_ifb_eq 679 okd dL_law_672 (by decide) (fun hb => ?_) (fun hb => ?_)
      · refine q_lconstv (0 : Int64) okd (by decide) dL_law_679 ?_
        refine q_lcmp okd dL_law_680 ?_
        refine q_if_eq 686 okd dL_law_681 (by decide) (fun _ => ?_) (fun q => absurd ((lg_cmp_eq _ _).mpr (by rw [va_up_self, hb]; rfl)) q)
        refine q_goto 924 okd dL_law_686 (by decide) ?_
        refine q_iincN_4 6 okd rfl (by decide) dL_law_924 ?_
        refine q_goto 43 okd dL_law_927 (by decide) ?_
        exact q_wide (by omega) (by omega) (ih _ (by omega) (i + 6) _ _ _ _ _ _ _ _ _ _ _ _ _ _ _ _ _ _ rfl (by omega) hs hb1 hb2)
      · refine q_lconstv (1 : Int64) okd (by decide) dL_law_675 ?_
        refine q_goto 680 okd dL_law_676 (by decide) ?_
        refine q_lcmp okd dL_law_680 ?_
        refine q_if_eq 686 okd dL_law_681 (by decide) (fun _ => ?_) (fun q => absurd ((lg_cmp_eq _ _).mpr (by rw [va_up_self, hb]; rfl)) q)
        refine q_goto 924 okd dL_law_686 (by decide) ?_
        refine q_iincN_4 6 okd rfl (by decide) dL_law_924 ?_
        refine q_goto 43 okd dL_law_927 (by decide) ?_
        exact q_wide (by omega) (by omega) (ih _ (by omega) (i + 6) _ _ _ _ _ _ _ _ _ _ _ _ _ _ _ _ _ _ rfl (by omega) hs hb1 hb2)
    · intro z0
      exact absurd (y0.symm.trans z0) (by decide)
  · intro y0
    rw [← lw_L]
    refine q_istore_5 okd rfl dL_law_631 ?_
    refine q_aload_n okd rfl dL_law_633 ?_
    refine q_aload_n okd rfl dL_law_634 ?_
    refine q_iload okd rfl dL_law_635 ?_
    refine q_iconstv (nI 1) okd (by decide) dL_law_637 ?_
    refine q_iaddN okd dL_law_638 ?_
    refine q_sld okd rl (by omega) hL dL_law_639 ?_
    refine q_aload_n okd rfl dL_law_640 ?_
    refine q_iload okd rfl dL_law_641 ?_
    refine q_iconstv (nI 2) okd (by decide) dL_law_643 ?_
    refine q_iaddN okd dL_law_644 ?_
    refine q_sld okd rl (by omega) hL dL_law_645 ?_
    rw [lw_X1]
    refine lX1_at rfl g (Nat.le_of_ble_eq_true rfl) okd dL_law_646 ?_ ?_
    · intro z0
      exact absurd (z0.symm.trans y0) (by decide)
    · intro z0
      rw [← lw_X1]
      refine q_istore_6 okd rfl dL_law_649 ?_
      refine q_aload_n okd rfl dL_law_651 ?_
      rw [lw_X1]
      refine lX1_thrown rfl (Nat.le_of_ble_eq_true rfl) okd dL_law_652 ?_
      rw [← lw_X1]
      refine q_iload okd rfl dL_law_655 ?_
      refine q_icmp_eq 662 okd dL_law_657 (by decide) (fun _ => ?_) (fun q => absurd rfl q)
      refine q_iload okd rfl dL_law_662 ?_
      refine q_if_ne 686 okd dL_law_664 (by decide) (fun _ => ?_) (fun q => absurd q (by decide))
      refine q_goto 924 okd dL_law_686 (by decide) ?_
      refine q_iincN_4 6 okd rfl (by decide) dL_law_924 ?_
      refine q_goto 43 okd dL_law_927 (by decide) ?_
      exact q_wide (by omega) (by omega) (ih _ (by omega) (i + 6) _ _ _ _ _ _ _ _ _ _ _ _ _ _ _ _ _ _ rfl (by omega) hs hb1 hb2)
set_option maxHeartbeats 1000000 in
set_option maxRecDepth 20000 in
theorem law_sum {x : q_X} {L : Nat} {xs : Nat → Int32} (hL : L ≤ 3074) (okx : ∀ k n, k ≤ 601024 → n ≤ 7293000 → q_ok (q_cs x k n) cL_law RL 10 354) (rl : q_rl x L xs) (fit : q_fit x 601024 7293000) {w h : Nat} (g : q_g w h) {d i : Nat} (ih : (∀ d2, d2 < d → ∀ (i : Nat) (sam : Nat → Nat) (blk : Nat → Bool) (lost : Int64) (ogr : Nat → Nat) (came : Nat → Int32) (sums sqs : Nat → Int64) (mrk : Nat → Bool) (que : Nat → Nat) (qd : Nat) (out : Nat → Int64) (thr : Nat) (nxt : Nat → Bool) (came2 part : Nat → Int32) (o5 o6 o7 : Option q_V), d2 = L + 6 - i → i ≤ L → (∀ k, k < w * h → sam k < 256) → bS w h sums → bS w h sqs → q_W (q_cs x (50 + i) (5000 + 6 * i)) 43 [some (.inr (.inr (some 16))), some (.inr (.inr (some 0))), some (.inr (.inr (some 10))), some (.inr (.inr (some 9))), some (.inl (nI i)), o5, o6, o7] [] (lW w h sam blk lost ogr came sums sqs mrk que qd out w h thr sam blk nxt came2 part lost))) (sam : Nat → Nat) (blk : Nat → Bool) (lost : Int64) (ogr : Nat → Nat) (came : Nat → Int32) (sums sqs : Nat → Int64) (mrk : Nat → Bool) (que : Nat → Nat) (qd : Nat) (out : Nat → Int64) (thr : Nat) (nxt : Nat → Bool) (came2 part : Nat → Int32) (o5 o6 o7 : Option q_V) (hd : d = L + 6 - i) (hi : i + 6 ≤ L) (hs : ∀ k, k < w * h → sam k < 256) (hb1 : bS w h sums) (hb2 : bS w h sqs) : q_W (q_cs x (50 + i) (5000 + 6 * i)) 689 [some (.inr (.inr (some 16))), some (.inr (.inr (some 0))), some (.inr (.inr (some 10))), some (.inr (.inr (some 9))), some (.inl (nI i)), o5, o6, o7] [] (lW w h sam blk lost ogr came sums sqs mrk que qd out w h thr sam blk nxt came2 part lost) := by
  have okc := okx (50 + i) (5000 + 6 * i) (by omega) (by omega)
  have okd := okx (50 + i + 1) (5000 + 6 * i + 6) (by omega) (by omega)
  refine q_aload_n okc rfl dL_law_689 ?_
  refine q_aload_n okc rfl dL_law_690 ?_
  refine q_iload okc rfl dL_law_691 ?_
  refine q_iconstv (nI 1) okc (by decide) dL_law_693 ?_
  refine q_iaddN okc dL_law_694 ?_
  refine q_sld okc rl (by omega) hL dL_law_695 ?_
  refine q_aload_n okc rfl dL_law_696 ?_
  refine q_iload okc rfl dL_law_697 ?_
  refine q_iconstv (nI 2) okc (by decide) dL_law_699 ?_
  refine q_iaddN okc dL_law_700 ?_
  refine q_sld okc rl (by omega) hL dL_law_701 ?_
  refine q_aload_n okc rfl dL_law_702 ?_
  refine q_iload okc rfl dL_law_703 ?_
  refine q_iconstv (nI 3) okc (by decide) dL_law_705 ?_
  refine q_iaddN okc dL_law_706 ?_
  refine q_sld okc rl (by omega) hL dL_law_707 ?_
  refine q_aload_n okc rfl dL_law_708 ?_
  refine q_iload okc rfl dL_law_709 ?_
  refine q_iconstv (nI 4) okc (by decide) dL_law_711 ?_
  refine q_iaddN okc dL_law_712 ?_
  refine q_sld okc rl (by omega) hL dL_law_713 ?_
  refine q_aload_n okc rfl dL_law_714 ?_
  refine q_iload okc rfl dL_law_715 ?_
  refine q_iconstv (nI 5) okc (by decide) dL_law_717 ?_
  refine q_iaddN okc dL_law_718 ?_
  refine q_sld okc rl (by omega) hL dL_law_719 ?_
  refine q_if_eq 727 okc dL_law_720 (by decide) (fun he => ?_) (fun he => ?_)
  · refine q_iconstv (nI 0) okc (by decide) dL_law_727 ?_
    refine q_aload_n okc rfl dL_law_728 ?_
    rw [lw_L]
    refine lL_sum (e := false) g hs hb1 hb2 (Nat.le_of_ble_eq_true rfl) okc rl (q_fit_le fit (by omega) (by omega)) dL_law_729 ?_ ?_
    · intro y0 y1 y2 y3 y4 y5 y6 y7 y8 y9 y10 y11 y12 y13 y14 y15
      rw [← lw_L]
      refine q_istore_5 okd rfl dL_law_732 ?_
      refine q_aload_n okd rfl dL_law_734 ?_
      refine q_aload_n okd rfl dL_law_735 ?_
      refine q_iload okd rfl dL_law_736 ?_
      refine q_iconstv (nI 1) okd (by decide) dL_law_738 ?_
      refine q_iaddN okd dL_law_739 ?_
      refine q_sld okd rl (by omega) hL dL_law_740 ?_
      refine q_aload_n okd rfl dL_law_741 ?_
      refine q_iload okd rfl dL_law_742 ?_
      refine q_iconstv (nI 2) okd (by decide) dL_law_744 ?_
      refine q_iaddN okd dL_law_745 ?_
      refine q_sld okd rl (by omega) hL dL_law_746 ?_
      refine q_aload_n okd rfl dL_law_747 ?_
      refine q_iload okd rfl dL_law_748 ?_
      refine q_iconstv (nI 3) okd (by decide) dL_law_750 ?_
      refine q_iaddN okd dL_law_751 ?_
      refine q_sld okd rl (by omega) hL dL_law_752 ?_
      refine q_aload_n okd rfl dL_law_753 ?_
      refine q_iload okd rfl dL_law_754 ?_
      refine q_iconstv (nI 4) okd (by decide) dL_law_756 ?_
      refine q_iaddN okd dL_law_757 ?_
      refine q_sld okd rl (by omega) hL dL_law_758 ?_
      refine q_aload_n okd rfl dL_law_759 ?_
      refine q_iload okd rfl dL_law_760 ?_
      refine q_iconstv (nI 5) okd (by decide) dL_law_762 ?_
      refine q_iaddN okd dL_law_763 ?_
      refine q_sld okd rl (by omega) hL dL_law_764 ?_
      refine q_if_eq 772 okd dL_law_765 (by decide) (fun _ => ?_) (fun q => absurd he q)
      refine q_iconstv (nI 0) okd (by decide) dL_law_772 ?_
      rw [lw_X1]
      refine lX1_sum (e := false) rfl g hs (Nat.le_of_ble_eq_true rfl) okd dL_law_773 ?_ ?_
      · intro z0 z1 z2 z3 z4 z5 z6 z7 z8 z9 z10 z11
        have gw := g.2.1
        have gh := g.2.2.2
        obtain rfl := nI_u (by omega) (by omega) (y4.symm.trans z4)
        obtain rfl := nI_u (by omega) (by omega) (y5.symm.trans z5)
        obtain rfl := nI_u (by omega) (by omega) (y6.symm.trans z6)
        obtain rfl := nI_u (by omega) (by omega) (y7.symm.trans z7)
        rw [← lw_X1]
        refine q_lstore_6 okd rfl dL_law_776 ?_
        refine q_aload_n okd rfl dL_law_778 ?_
        rw [lw_X1]
        refine lX1_thrown rfl (Nat.le_of_ble_eq_true rfl) okd dL_law_779 ?_
        rw [← lw_X1]
        refine q_iload okd rfl dL_law_782 ?_
        refine q_icmp_eq 789 okd dL_law_784 (by decide) (fun _ => ?_) (fun q => absurd rfl q)
        refine q_iload okd rfl dL_law_789 ?_
        refine q_if_ne 805 okd dL_law_791 (by decide) (fun q => absurd (by decide) q) (fun _ => ?_)
        refine q_aload_n okd rfl dL_law_794 ?_
        refine q_iconstv (nI 0) okd (by decide) dL_law_795 ?_
        refine lw_out okd dL_law_796 ?_
        refine q_lload okd rfl dL_law_797 ?_
        refine q_lcmp okd dL_law_799 ?_
        refine q_if_eq 805 okd dL_law_800 (by decide) (fun _ => ?_) (fun q => absurd ((lg_cmp_eq _ _).mpr (by rw [va_up_self])) q)
        refine q_goto 924 okd dL_law_805 (by decide) ?_
        refine q_iincN_4 6 okd rfl (by decide) dL_law_924 ?_
        refine q_goto 43 okd dL_law_927 (by decide) ?_
        exact q_wide (by omega) (by omega) (ih _ (by omega) (i + 6) _ _ _ _ _ _ _ _ _ _ _ _ _ _ _ _ _ _ rfl (by omega) hs (SS_bS y14) (SS_bS y15))
      · intro z0
        exact False.elim (z0.elim (fun q => absurd q (by rw [isP_i y4 y6 g.2.1 y8 y9]; decide)) (fun q => absurd q (by rw [isP_i y5 y7 g.2.2.2 y10 y11]; decide)))
    · intro y0
      rw [← lw_L]
      refine q_istore_5 okd rfl dL_law_732 ?_
      refine q_aload_n okd rfl dL_law_734 ?_
      refine q_aload_n okd rfl dL_law_735 ?_
      refine q_iload okd rfl dL_law_736 ?_
      refine q_iconstv (nI 1) okd (by decide) dL_law_738 ?_
      refine q_iaddN okd dL_law_739 ?_
      refine q_sld okd rl (by omega) hL dL_law_740 ?_
      refine q_aload_n okd rfl dL_law_741 ?_
      refine q_iload okd rfl dL_law_742 ?_
      refine q_iconstv (nI 2) okd (by decide) dL_law_744 ?_
      refine q_iaddN okd dL_law_745 ?_
      refine q_sld okd rl (by omega) hL dL_law_746 ?_
      refine q_aload_n okd rfl dL_law_747 ?_
      refine q_iload okd rfl dL_law_748 ?_
      refine q_iconstv (nI 3) okd (by decide) dL_law_750 ?_
      refine q_iaddN okd dL_law_751 ?_
      refine q_sld okd rl (by omega) hL dL_law_752 ?_
      refine q_aload_n okd rfl dL_law_753 ?_
      refine q_iload okd rfl dL_law_754 ?_
      refine q_iconstv (nI 4) okd (by decide) dL_law_756 ?_
      refine q_iaddN okd dL_law_757 ?_
      refine q_sld okd rl (by omega) hL dL_law_758 ?_
      refine q_aload_n okd rfl dL_law_759 ?_
      refine q_iload okd rfl dL_law_760 ?_
      refine q_iconstv (nI 5) okd (by decide) dL_law_762 ?_
      refine q_iaddN okd dL_law_763 ?_
      refine q_sld okd rl (by omega) hL dL_law_764 ?_
      refine q_if_eq 772 okd dL_law_765 (by decide) (fun _ => ?_) (fun q => absurd he q)
      refine q_iconstv (nI 0) okd (by decide) dL_law_772 ?_
      rw [lw_X1]
      refine lX1_sum (e := false) rfl g hs (Nat.le_of_ble_eq_true rfl) okd dL_law_773 ?_ ?_
      · intro z0 z1 z2 z3 z4 z5 z6 z7 z8 z9 z10 z11
        exact False.elim (y0.elim (fun q => absurd q (by rw [isP_i z4 z6 g.2.1 z8 z9]; decide)) (fun q => absurd q (by rw [isP_i z5 z7 g.2.2.2 z10 z11]; decide)))
      · intro z0
        rw [← lw_X1]
        refine q_lstore_6 okd rfl dL_law_776 ?_
        refine q_aload_n okd rfl dL_law_778 ?_
        rw [lw_X1]
        refine lX1_thrown rfl (Nat.le_of_ble_eq_true rfl) okd dL_law_779 ?_
        rw [← lw_X1]
        refine q_iload okd rfl dL_law_782 ?_
        refine q_icmp_eq 789 okd dL_law_784 (by decide) (fun _ => ?_) (fun q => absurd rfl q)
        refine q_iload okd rfl dL_law_789 ?_
        refine q_if_ne 805 okd dL_law_791 (by decide) (fun _ => ?_) (fun q => absurd q (by decide))
        refine q_goto 924 okd dL_law_805 (by decide) ?_
        refine q_iincN_4 6 okd rfl (by decide) dL_law_924 ?_
        refine q_goto 43 okd dL_law_927 (by decide) ?_
        exact q_wide (by omega) (by omega) (ih _ (by omega) (i + 6) _ _ _ _ _ _ _ _ _ _ _ _ _ _ _ _ _ _ rfl (by omega) hs hb1 hb2)
  · refine q_iconstv (nI 1) okc (by decide) dL_law_723 ?_
    refine q_goto 728 okc dL_law_724 (by decide) ?_
    refine q_aload_n okc rfl dL_law_728 ?_
    rw [lw_L]
    refine lL_sum (e := true) g hs hb1 hb2 (Nat.le_of_ble_eq_true rfl) okc rl (q_fit_le fit (by omega) (by omega)) dL_law_729 ?_ ?_
    · intro y0 y1 y2 y3 y4 y5 y6 y7 y8 y9 y10 y11 y12 y13 y14 y15
      rw [← lw_L]
      refine q_istore_5 okd rfl dL_law_732 ?_
      refine q_aload_n okd rfl dL_law_734 ?_
      refine q_aload_n okd rfl dL_law_735 ?_
      refine q_iload okd rfl dL_law_736 ?_
      refine q_iconstv (nI 1) okd (by decide) dL_law_738 ?_
      refine q_iaddN okd dL_law_739 ?_
      refine q_sld okd rl (by omega) hL dL_law_740 ?_
      refine q_aload_n okd rfl dL_law_741 ?_
      refine q_iload okd rfl dL_law_742 ?_
      refine q_iconstv (nI 2) okd (by decide) dL_law_744 ?_
      refine q_iaddN okd dL_law_745 ?_
      refine q_sld okd rl (by omega) hL dL_law_746 ?_
      refine q_aload_n okd rfl dL_law_747 ?_
      refine q_iload okd rfl dL_law_748 ?_
      refine q_iconstv (nI 3) okd (by decide) dL_law_750 ?_
      refine q_iaddN okd dL_law_751 ?_
      refine q_sld okd rl (by omega) hL dL_law_752 ?_
      refine q_aload_n okd rfl dL_law_753 ?_
      refine q_iload okd rfl dL_law_754 ?_
      refine q_iconstv (nI 4) okd (by decide) dL_law_756 ?_
      refine q_iaddN okd dL_law_757 ?_
      refine q_sld okd rl (by omega) hL dL_law_758 ?_
      refine q_aload_n okd rfl dL_law_759 ?_
      refine q_iload okd rfl dL_law_760 ?_
      refine q_iconstv (nI 5) okd (by decide) dL_law_762 ?_
      refine q_iaddN okd dL_law_763 ?_
      refine q_sld okd rl (by omega) hL dL_law_764 ?_
      refine q_if_eq 772 okd dL_law_765 (by decide) (fun q => absurd q he) (fun _ => ?_)
      refine q_iconstv (nI 1) okd (by decide) dL_law_768 ?_
      refine q_goto 773 okd dL_law_769 (by decide) ?_
      rw [lw_X1]
      refine lX1_sum (e := true) rfl g hs (Nat.le_of_ble_eq_true rfl) okd dL_law_773 ?_ ?_
      · intro z0 z1 z2 z3 z4 z5 z6 z7 z8 z9 z10 z11
        have gw := g.2.1
        have gh := g.2.2.2
        obtain rfl := nI_u (by omega) (by omega) (y4.symm.trans z4)
        obtain rfl := nI_u (by omega) (by omega) (y5.symm.trans z5)
        obtain rfl := nI_u (by omega) (by omega) (y6.symm.trans z6)
        obtain rfl := nI_u (by omega) (by omega) (y7.symm.trans z7)
        rw [← lw_X1]
        refine q_lstore_6 okd rfl dL_law_776 ?_
        refine q_aload_n okd rfl dL_law_778 ?_
        rw [lw_X1]
        refine lX1_thrown rfl (Nat.le_of_ble_eq_true rfl) okd dL_law_779 ?_
        rw [← lw_X1]
        refine q_iload okd rfl dL_law_782 ?_
        refine q_icmp_eq 789 okd dL_law_784 (by decide) (fun _ => ?_) (fun q => absurd rfl q)
        refine q_iload okd rfl dL_law_789 ?_
        refine q_if_ne 805 okd dL_law_791 (by decide) (fun q => absurd (by decide) q) (fun _ => ?_)
        refine q_aload_n okd rfl dL_law_794 ?_
        refine q_iconstv (nI 0) okd (by decide) dL_law_795 ?_
        refine lw_out okd dL_law_796 ?_
        refine q_lload okd rfl dL_law_797 ?_
        refine q_lcmp okd dL_law_799 ?_
        refine q_if_eq 805 okd dL_law_800 (by decide) (fun _ => ?_) (fun q => absurd ((lg_cmp_eq _ _).mpr (by rw [va_up_self])) q)
        refine q_goto 924 okd dL_law_805 (by decide) ?_
        refine q_iincN_4 6 okd rfl (by decide) dL_law_924 ?_
        refine q_goto 43 okd dL_law_927 (by decide) ?_
        exact q_wide (by omega) (by omega) (ih _ (by omega) (i + 6) _ _ _ _ _ _ _ _ _ _ _ _ _ _ _ _ _ _ rfl (by omega) hs (SS_bS y14) (SS_bS y15))
      · intro z0
        exact False.elim (z0.elim (fun q => absurd q (by rw [isP_i y4 y6 g.2.1 y8 y9]; decide)) (fun q => absurd q (by rw [isP_i y5 y7 g.2.2.2 y10 y11]; decide)))
    · intro y0
      rw [← lw_L]
      refine q_istore_5 okd rfl dL_law_732 ?_
      refine q_aload_n okd rfl dL_law_734 ?_
      refine q_aload_n okd rfl dL_law_735 ?_
      refine q_iload okd rfl dL_law_736 ?_
      refine q_iconstv (nI 1) okd (by decide) dL_law_738 ?_
      refine q_iaddN okd dL_law_739 ?_
      refine q_sld okd rl (by omega) hL dL_law_740 ?_
      refine q_aload_n okd rfl dL_law_741 ?_
      refine q_iload okd rfl dL_law_742 ?_
      refine q_iconstv (nI 2) okd (by decide) dL_law_744 ?_
      refine q_iaddN okd dL_law_745 ?_
      refine q_sld okd rl (by omega) hL dL_law_746 ?_
      refine q_aload_n okd rfl dL_law_747 ?_
      refine q_iload okd rfl dL_law_748 ?_
      refine q_iconstv (nI 3) okd (by decide) dL_law_750 ?_
      refine q_iaddN okd dL_law_751 ?_
      refine q_sld okd rl (by omega) hL dL_law_752 ?_
      refine q_aload_n okd rfl dL_law_753 ?_
      refine q_iload okd rfl dL_law_754 ?_
      refine q_iconstv (nI 4) okd (by decide) dL_law_756 ?_
      refine q_iaddN okd dL_law_757 ?_
      refine q_sld okd rl (by omega) hL dL_law_758 ?_
      refine q_aload_n okd rfl dL_law_759 ?_
      refine q_iload okd rfl dL_law_760 ?_
      refine q_iconstv (nI 5) okd (by decide) dL_law_762 ?_
      refine q_iaddN okd dL_law_763 ?_
      refine q_sld okd rl (by omega) hL dL_law_764 ?_
      refine q_if_eq 772 okd dL_law_765 (by decide) (fun q => absurd q he) (fun _ => ?_)
      refine q_iconstv (nI 1) okd (by decide) dL_law_768 ?_
      refine q_goto 773 okd dL_law_769 (by decide) ?_
      rw [lw_X1]
      refine lX1_sum (e := true) rfl g hs (Nat.le_of_ble_eq_true rfl) okd dL_law_773 ?_ ?_
      · intro z0 z1 z2 z3 z4 z5 z6 z7 z8 z9 z10 z11
        exact False.elim (y0.elim (fun q => absurd q (by rw [isP_i z4 z6 g.2.1 z8 z9]; decide)) (fun q => absurd q (by rw [isP_i z5 z7 g.2.2.2 z10 z11]; decide)))
      · intro z0
        rw [← lw_X1]
        refine q_lstore_6 okd rfl dL_law_776 ?_
        refine q_aload_n okd rfl dL_law_778 ?_
        rw [lw_X1]
        refine lX1_thrown rfl (Nat.le_of_ble_eq_true rfl) okd dL_law_779 ?_
        rw [← lw_X1]
        refine q_iload okd rfl dL_law_782 ?_
        refine q_icmp_eq 789 okd dL_law_784 (by decide) (fun _ => ?_) (fun q => absurd rfl q)
        refine q_iload okd rfl dL_law_789 ?_
        refine q_if_ne 805 okd dL_law_791 (by decide) (fun _ => ?_) (fun q => absurd q (by decide))
        refine q_goto 924 okd dL_law_805 (by decide) ?_
        refine q_iincN_4 6 okd rfl (by decide) dL_law_924 ?_
        refine q_goto 43 okd dL_law_927 (by decide) ?_
        exact q_wide (by omega) (by omega) (ih _ (by omega) (i + 6) _ _ _ _ _ _ _ _ _ _ _ _ _ _ _ _ _ _ rfl (by omega) hs hb1 hb2)
set_option maxHeartbeats 1000000 in
set_option maxRecDepth 20000 in
theorem law_cell {x : q_X} {L : Nat} {xs : Nat → Int32} (hL : L ≤ 3074) (okx : ∀ k n, k ≤ 601024 → n ≤ 7293000 → q_ok (q_cs x k n) cL_law RL 10 354) (rl : q_rl x L xs) (fit : q_fit x 601024 7293000) {w h : Nat} (g : q_g w h) {d i : Nat} (ih : (∀ d2, d2 < d → ∀ (i : Nat) (sam : Nat → Nat) (blk : Nat → Bool) (lost : Int64) (ogr : Nat → Nat) (came : Nat → Int32) (sums sqs : Nat → Int64) (mrk : Nat → Bool) (que : Nat → Nat) (qd : Nat) (out : Nat → Int64) (thr : Nat) (nxt : Nat → Bool) (came2 part : Nat → Int32) (o5 o6 o7 : Option q_V), d2 = L + 6 - i → i ≤ L → (∀ k, k < w * h → sam k < 256) → bS w h sums → bS w h sqs → q_W (q_cs x (50 + i) (5000 + 6 * i)) 43 [some (.inr (.inr (some 16))), some (.inr (.inr (some 0))), some (.inr (.inr (some 10))), some (.inr (.inr (some 9))), some (.inl (nI i)), o5, o6, o7] [] (lW w h sam blk lost ogr came sums sqs mrk que qd out w h thr sam blk nxt came2 part lost))) (sam : Nat → Nat) (blk : Nat → Bool) (lost : Int64) (ogr : Nat → Nat) (came : Nat → Int32) (sums sqs : Nat → Int64) (mrk : Nat → Bool) (que : Nat → Nat) (qd : Nat) (out : Nat → Int64) (thr : Nat) (nxt : Nat → Bool) (came2 part : Nat → Int32) (o5 o6 o7 : Option q_V) (hd : d = L + 6 - i) (hi : i + 6 ≤ L) (hs : ∀ k, k < w * h → sam k < 256) (hb1 : bS w h sums) (hb2 : bS w h sqs) : q_W (q_cs x (50 + i) (5000 + 6 * i)) 808 [some (.inr (.inr (some 16))), some (.inr (.inr (some 0))), some (.inr (.inr (some 10))), some (.inr (.inr (some 9))), some (.inl (nI i)), o5, o6, o7] [] (lW w h sam blk lost ogr came sums sqs mrk que qd out w h thr sam blk nxt came2 part lost) := by
  have okc := okx (50 + i) (5000 + 6 * i) (by omega) (by omega)
  have okd := okx (50 + i + 1) (5000 + 6 * i + 6) (by omega) (by omega)
  refine q_aload_n okc rfl dL_law_808 ?_
  refine q_aload_n okc rfl dL_law_809 ?_
  refine q_iload okc rfl dL_law_810 ?_
  refine q_iconstv (nI 1) okc (by decide) dL_law_812 ?_
  refine q_iaddN okc dL_law_813 ?_
  refine q_sld okc rl (by omega) hL dL_law_814 ?_
  refine q_aload_n okc rfl dL_law_815 ?_
  refine q_iload okc rfl dL_law_816 ?_
  refine q_iconstv (nI 2) okc (by decide) dL_law_818 ?_
  refine q_iaddN okc dL_law_819 ?_
  refine q_sld okc rl (by omega) hL dL_law_820 ?_
  refine q_aload_n okc rfl dL_law_821 ?_
  refine q_iload okc rfl dL_law_822 ?_
  refine q_iconstv (nI 3) okc (by decide) dL_law_824 ?_
  refine q_iaddN okc dL_law_825 ?_
  refine q_sld okc rl (by omega) hL dL_law_826 ?_
  refine q_aload_n okc rfl dL_law_827 ?_
  rw [lw_L]
  refine lL_cell_ (Nat.le_of_ble_eq_true rfl) okc rl (q_fit_le fit (by omega) (by omega)) dL_law_828 ?_ ?_ ?_
  · intro y0 y1 y2 y3 y4
    rw [← lw_L]
    refine q_istore_5 okd rfl dL_law_831 ?_
    refine q_aload_n okd rfl dL_law_833 ?_
    refine q_aload_n okd rfl dL_law_834 ?_
    refine q_iload okd rfl dL_law_835 ?_
    refine q_iconstv (nI 1) okd (by decide) dL_law_837 ?_
    refine q_iaddN okd dL_law_838 ?_
    refine q_sld okd rl (by omega) hL dL_law_839 ?_
    refine q_aload_n okd rfl dL_law_840 ?_
    refine q_iload okd rfl dL_law_841 ?_
    refine q_iconstv (nI 2) okd (by decide) dL_law_843 ?_
    refine q_iaddN okd dL_law_844 ?_
    refine q_sld okd rl (by omega) hL dL_law_845 ?_
    refine q_aload_n okd rfl dL_law_846 ?_
    refine q_iload okd rfl dL_law_847 ?_
    refine q_iconstv (nI 3) okd (by decide) dL_law_849 ?_
    refine q_iaddN okd dL_law_850 ?_
    refine q_sld okd rl (by omega) hL dL_law_851 ?_
    rw [lw_X1]
    refine lX1_cell rfl (Nat.le_of_ble_eq_true rfl) okd dL_law_852 ?_ ?_ ?_
    · intro z0 z1 z2 z3 z4
      obtain rfl := ex_u y1 z1 (y2.symm.trans z2)
      rw [← lw_X1]
      refine q_istore_6 okd rfl dL_law_855 ?_
      refine q_aload_n okd rfl dL_law_857 ?_
      rw [lw_X1]
      refine lX1_thrown rfl (Nat.le_of_ble_eq_true rfl) okd dL_law_858 ?_
      rw [← lw_X1]
      refine q_iload okd rfl dL_law_861 ?_
      refine q_icmp_eq 868 okd dL_law_863 (by decide) (fun _ => ?_) (fun q => absurd rfl q)
      refine q_iload okd rfl dL_law_868 ?_
      refine q_if_ne 885 okd dL_law_870 (by decide) (fun q => absurd (by decide) q) (fun _ => ?_)
      refine q_aload_n okd rfl dL_law_873 ?_
      refine q_iconstv (nI 0) okd (by decide) dL_law_874 ?_
      refine lw_out okd dL_law_875 ?_
      refine q_iload okd rfl dL_law_876 ?_
      refine q_i2l okd dL_law_878 ?_
      refine q_lcmp okd dL_law_879 ?_
      refine q_if_eq 885 okd dL_law_880 (by decide) (fun _ => ?_) (fun q => absurd ((lg_cmp_eq _ _).mpr (by rw [va_up_self])) q)
      refine q_goto 924 okd dL_law_885 (by decide) ?_
      refine q_iincN_4 6 okd rfl (by decide) dL_law_924 ?_
      refine q_goto 43 okd dL_law_927 (by decide) ?_
      exact q_wide (by omega) (by omega) (ih _ (by omega) (i + 6) _ _ _ _ _ _ _ _ _ _ _ _ _ _ _ _ _ _ rfl (by omega) hs hb1 hb2)
    · intro z0
      exact absurd z0 (by rw [isC_i y1 y2]; decide)
    · intro z0 z1
      exact False.elim (z1.elim y3 y4)
  · intro y0
    rw [← lw_L]
    refine q_istore_5 okd rfl dL_law_831 ?_
    refine q_aload_n okd rfl dL_law_833 ?_
    refine q_aload_n okd rfl dL_law_834 ?_
    refine q_iload okd rfl dL_law_835 ?_
    refine q_iconstv (nI 1) okd (by decide) dL_law_837 ?_
    refine q_iaddN okd dL_law_838 ?_
    refine q_sld okd rl (by omega) hL dL_law_839 ?_
    refine q_aload_n okd rfl dL_law_840 ?_
    refine q_iload okd rfl dL_law_841 ?_
    refine q_iconstv (nI 2) okd (by decide) dL_law_843 ?_
    refine q_iaddN okd dL_law_844 ?_
    refine q_sld okd rl (by omega) hL dL_law_845 ?_
    refine q_aload_n okd rfl dL_law_846 ?_
    refine q_iload okd rfl dL_law_847 ?_
    refine q_iconstv (nI 3) okd (by decide) dL_law_849 ?_
    refine q_iaddN okd dL_law_850 ?_
    refine q_sld okd rl (by omega) hL dL_law_851 ?_
    rw [lw_X1]
    refine lX1_cell rfl (Nat.le_of_ble_eq_true rfl) okd dL_law_852 ?_ ?_ ?_
    · intro z0 z1 z2 z3 z4
      exact absurd y0 (by rw [isC_i z1 z2]; decide)
    · intro z0
      rw [← lw_X1]
      refine q_istore_6 okd rfl dL_law_855 ?_
      refine q_aload_n okd rfl dL_law_857 ?_
      rw [lw_X1]
      refine lX1_thrown rfl (Nat.le_of_ble_eq_true rfl) okd dL_law_858 ?_
      rw [← lw_X1]
      refine q_iload okd rfl dL_law_861 ?_
      refine q_icmp_eq 868 okd dL_law_863 (by decide) (fun _ => ?_) (fun q => absurd rfl q)
      refine q_iload okd rfl dL_law_868 ?_
      refine q_if_ne 885 okd dL_law_870 (by decide) (fun _ => ?_) (fun q => absurd q (by decide))
      refine q_goto 924 okd dL_law_885 (by decide) ?_
      refine q_iincN_4 6 okd rfl (by decide) dL_law_924 ?_
      refine q_goto 43 okd dL_law_927 (by decide) ?_
      exact q_wide (by omega) (by omega) (ih _ (by omega) (i + 6) _ _ _ _ _ _ _ _ _ _ _ _ _ _ _ _ _ _ rfl (by omega) hs hb1 hb2)
    · intro z0 z1
      exact absurd (z0.symm.trans y0) (by decide)
  · intro y0
    rw [← lw_L]
    refine q_istore_5 okd rfl dL_law_831 ?_
    refine q_aload_n okd rfl dL_law_833 ?_
    refine q_aload_n okd rfl dL_law_834 ?_
    refine q_iload okd rfl dL_law_835 ?_
    refine q_iconstv (nI 1) okd (by decide) dL_law_837 ?_
    refine q_iaddN okd dL_law_838 ?_
    refine q_sld okd rl (by omega) hL dL_law_839 ?_
    refine q_aload_n okd rfl dL_law_840 ?_
    refine q_iload okd rfl dL_law_841 ?_
    refine q_iconstv (nI 2) okd (by decide) dL_law_843 ?_
    refine q_iaddN okd dL_law_844 ?_
    refine q_sld okd rl (by omega) hL dL_law_845 ?_
    refine q_aload_n okd rfl dL_law_846 ?_
    refine q_iload okd rfl dL_law_847 ?_
    refine q_iconstv (nI 3) okd (by decide) dL_law_849 ?_
    refine q_iaddN okd dL_law_850 ?_
    refine q_sld okd rl (by omega) hL dL_law_851 ?_
    rw [lw_X1]
    refine lX1_cell rfl (Nat.le_of_ble_eq_true rfl) okd dL_law_852 ?_ ?_ ?_
    · intro z0 z1 z2 z3 z4
      exact False.elim (y0.2.elim z3 z4)
    · intro z0
      exact absurd (y0.1.symm.trans z0) (by decide)
    · intro z0 z1
      rw [← lw_X1]
      refine q_istore_6 okd rfl dL_law_855 ?_
      refine q_aload_n okd rfl dL_law_857 ?_
      rw [lw_X1]
      refine lX1_thrown rfl (Nat.le_of_ble_eq_true rfl) okd dL_law_858 ?_
      rw [← lw_X1]
      refine q_iload okd rfl dL_law_861 ?_
      refine q_icmp_eq 868 okd dL_law_863 (by decide) (fun _ => ?_) (fun q => absurd rfl q)
      refine q_iload okd rfl dL_law_868 ?_
      refine q_if_ne 885 okd dL_law_870 (by decide) (fun _ => ?_) (fun q => absurd q (by decide))
      refine q_goto 924 okd dL_law_885 (by decide) ?_
      refine q_iincN_4 6 okd rfl (by decide) dL_law_924 ?_
      refine q_goto 43 okd dL_law_927 (by decide) ?_
      exact q_wide (by omega) (by omega) (ih _ (by omega) (i + 6) _ _ _ _ _ _ _ _ _ _ _ _ _ _ _ _ _ _ rfl (by omega) hs hb1 hb2)
set_option maxHeartbeats 1000000 in
set_option maxRecDepth 20000 in
theorem law_told {x : q_X} {L : Nat} {xs : Nat → Int32} (hL : L ≤ 3074) (okx : ∀ k n, k ≤ 601024 → n ≤ 7293000 → q_ok (q_cs x k n) cL_law RL 10 354) (rl : q_rl x L xs) (fit : q_fit x 601024 7293000) {w h : Nat} (g : q_g w h) {d i : Nat} (ih : (∀ d2, d2 < d → ∀ (i : Nat) (sam : Nat → Nat) (blk : Nat → Bool) (lost : Int64) (ogr : Nat → Nat) (came : Nat → Int32) (sums sqs : Nat → Int64) (mrk : Nat → Bool) (que : Nat → Nat) (qd : Nat) (out : Nat → Int64) (thr : Nat) (nxt : Nat → Bool) (came2 part : Nat → Int32) (o5 o6 o7 : Option q_V), d2 = L + 6 - i → i ≤ L → (∀ k, k < w * h → sam k < 256) → bS w h sums → bS w h sqs → q_W (q_cs x (50 + i) (5000 + 6 * i)) 43 [some (.inr (.inr (some 16))), some (.inr (.inr (some 0))), some (.inr (.inr (some 10))), some (.inr (.inr (some 9))), some (.inl (nI i)), o5, o6, o7] [] (lW w h sam blk lost ogr came sums sqs mrk que qd out w h thr sam blk nxt came2 part lost))) (sam : Nat → Nat) (blk : Nat → Bool) (lost : Int64) (ogr : Nat → Nat) (came : Nat → Int32) (sums sqs : Nat → Int64) (mrk : Nat → Bool) (que : Nat → Nat) (qd : Nat) (out : Nat → Int64) (thr : Nat) (nxt : Nat → Bool) (came2 part : Nat → Int32) (o5 o6 o7 : Option q_V) (hd : d = L + 6 - i) (hi : i + 6 ≤ L) (hs : ∀ k, k < w * h → sam k < 256) (hb1 : bS w h sums) (hb2 : bS w h sqs) : q_W (q_cs x (50 + i) (5000 + 6 * i)) 888 [some (.inr (.inr (some 16))), some (.inr (.inr (some 0))), some (.inr (.inr (some 10))), some (.inr (.inr (some 9))), some (.inl (nI i)), o5, o6, o7] [] (lW w h sam blk lost ogr came sums sqs mrk que qd out w h thr sam blk nxt came2 part lost) := by
  have okc := okx (50 + i) (5000 + 6 * i) (by omega) (by omega)
  have okd := okx (50 + i + 1) (5000 + 6 * i + 6) (by omega) (by omega)
  refine q_aload_n okc rfl dL_law_888 ?_
  refine q_aload_n okc rfl dL_law_889 ?_
  refine q_iload okc rfl dL_law_890 ?_
  refine q_iconstv (nI 1) okc (by decide) dL_law_892 ?_
  refine q_iaddN okc dL_law_893 ?_
  refine q_sld okc rl (by omega) hL dL_law_894 ?_
  rw [lw_X0]
  refine lX0_told g hs (Nat.le_of_ble_eq_true rfl) okc dL_law_895 ?_
  intro ogr2 mrk2 que2 qd2
  rw [← lw_X0]
  refine q_aload_n okc rfl dL_law_898 ?_
  refine q_aload_n okc rfl dL_law_899 ?_
  refine q_iload okc rfl dL_law_900 ?_
  refine q_iconstv (nI 1) okc (by decide) dL_law_902 ?_
  refine q_iaddN okc dL_law_903 ?_
  refine q_sld okc rl (by omega) hL dL_law_904 ?_
  rw [lw_X1]
  refine lX1_told rfl g hs (Nat.le_of_ble_eq_true rfl) okc dL_law_905 ?_
  intro part2
  rw [← lw_X1]
  refine q_icmp_eq 924 okc dL_law_908 (by decide) (fun _ => ?_) (fun q => absurd rfl q)
  refine q_iincN_4 6 okc rfl (by decide) dL_law_924 ?_
  refine q_goto 43 okc dL_law_927 (by decide) ?_
  exact q_wide (by omega) (by omega) (ih _ (by omega) (i + 6) _ _ _ _ _ _ _ _ _ _ _ _ _ _ _ _ _ _ rfl (by omega) hs hb1 hb2)
set_option maxHeartbeats 1000000 in
set_option maxRecDepth 20000 in
theorem law_clear {x : q_X} {L : Nat} {xs : Nat → Int32} (hL : L ≤ 3074) (okx : ∀ k n, k ≤ 601024 → n ≤ 7293000 → q_ok (q_cs x k n) cL_law RL 10 354) (rl : q_rl x L xs) (fit : q_fit x 601024 7293000) {w h : Nat} (g : q_g w h) {d i : Nat} (ih : (∀ d2, d2 < d → ∀ (i : Nat) (sam : Nat → Nat) (blk : Nat → Bool) (lost : Int64) (ogr : Nat → Nat) (came : Nat → Int32) (sums sqs : Nat → Int64) (mrk : Nat → Bool) (que : Nat → Nat) (qd : Nat) (out : Nat → Int64) (thr : Nat) (nxt : Nat → Bool) (came2 part : Nat → Int32) (o5 o6 o7 : Option q_V), d2 = L + 6 - i → i ≤ L → (∀ k, k < w * h → sam k < 256) → bS w h sums → bS w h sqs → q_W (q_cs x (50 + i) (5000 + 6 * i)) 43 [some (.inr (.inr (some 16))), some (.inr (.inr (some 0))), some (.inr (.inr (some 10))), some (.inr (.inr (some 9))), some (.inl (nI i)), o5, o6, o7] [] (lW w h sam blk lost ogr came sums sqs mrk que qd out w h thr sam blk nxt came2 part lost))) (sam : Nat → Nat) (blk : Nat → Bool) (lost : Int64) (ogr : Nat → Nat) (came : Nat → Int32) (sums sqs : Nat → Int64) (mrk : Nat → Bool) (que : Nat → Nat) (qd : Nat) (out : Nat → Int64) (thr : Nat) (nxt : Nat → Bool) (came2 part : Nat → Int32) (o5 o6 o7 : Option q_V) (hd : d = L + 6 - i) (hi : i + 6 ≤ L) (hs : ∀ k, k < w * h → sam k < 256) (hb1 : bS w h sums) (hb2 : bS w h sqs) : q_W (q_cs x (50 + i) (5000 + 6 * i)) 913 [some (.inr (.inr (some 16))), some (.inr (.inr (some 0))), some (.inr (.inr (some 10))), some (.inr (.inr (some 9))), some (.inl (nI i)), o5, o6, o7] [] (lW w h sam blk lost ogr came sums sqs mrk que qd out w h thr sam blk nxt came2 part lost) := by
  have okc := okx (50 + i) (5000 + 6 * i) (by omega) (by omega)
  have okd := okx (50 + i + 1) (5000 + 6 * i + 6) (by omega) (by omega)
  refine q_aload_n okc rfl dL_law_913 ?_
  rw [lw_X0]
  refine lX0_clear g (Nat.le_of_ble_eq_true rfl) okc dL_law_914 ?_
  rw [← lw_X0]
  refine q_aload_n okc rfl dL_law_917 ?_
  rw [lw_X1]
  refine lX1_clear rfl g (Nat.le_of_ble_eq_true rfl) okc dL_law_918 ?_
  rw [← lw_X1]
  refine q_goto 924 okc dL_law_921 (by decide) ?_
  refine q_iincN_4 6 okc rfl (by decide) dL_law_924 ?_
  refine q_goto 43 okc dL_law_927 (by decide) ?_
  refine lW_cg (samN := fun k => if k < 256 then 0 else sam k) (blkN := fun k => if k < 256 then false else blk k) (fun k hk => by have := q_gn g; rw [if_pos hk, if_pos (by omega)]) (fun k hk => by have := q_gn g; rw [if_pos hk, if_pos (by omega)]) (fun _ _ => rfl) ?_
  exact q_wide (by omega) (by omega) (ih _ (by omega) (i + 6) _ _ _ _ _ _ _ _ _ _ _ _ _ _ _ _ _ _ rfl (by omega) (fun k hk => by show (if k < 256 then 0 else sam k) < 256; split <;> first | decide | (have := hs k hk; omega)) hb1 hb2)
