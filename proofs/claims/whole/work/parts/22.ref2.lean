-- THE REFERENCE, second part: windows, sums, errors, the best bound
theorem sumN_ind (G : Nat → Nat) {p q n : Nat} (h1 : p ≤ q) (h2 : q ≤ n) : sumN (fun s => if p ≤ s ∧ s < q then G s else 0) n = sumN (fun i => G (p + i)) (q - p) := by
  have e1 := sumN_split (fun s => if p ≤ s ∧ s < q then G s else 0) p (n - p)
  rw [show p + (n - p) = n by omega] at e1
  have e2 := sumN_split (fun i => if p ≤ p + i ∧ p + i < q then G (p + i) else 0) (q - p) (n - q)
  rw [show q - p + (n - q) = n - p by omega] at e2
  have z1 : sumN (fun s => if p ≤ s ∧ s < q then G s else 0) p = 0 := by
    rw [sumN_congr (g := fun _ => 0) (fun k hk => if_neg (by omega))]; exact sumN_0 p
  have z2 : sumN (fun i => if p ≤ p + (q - p + i) ∧ p + (q - p + i) < q then G (p + (q - p + i)) else 0) (n - q) = 0 := by
    rw [sumN_congr (g := fun _ => 0) (fun k hk => if_neg (by omega))]; exact sumN_0 _
  have z3 : sumN (fun i => if p ≤ p + i ∧ p + i < q then G (p + i) else 0) (q - p) = sumN (fun i => G (p + i)) (q - p) := sumN_congr (fun k hk => if_pos (by omega))
  rw [e1, z1, Nat.zero_add]
  show sumN (fun i => if p ≤ p + i ∧ p + i < q then G (p + i) else 0) (n - p) = _
  rw [e2, z3]
  have : sumN (fun i => if p ≤ p + (q - p + i) ∧ p + (q - p + i) < q then G (p + (q - p + i)) else 0) (n - q) = 0 := z2
  rw [this]; rfl
theorem iT {a r s : Nat} (ha : a < 1000) (hr : r < 1000) (hs : s < 1000) : (nI a - nI r + nI s).toInt = (a : Int) - r + s := by
  rw [Int32.toInt_add, pk_sub_toInt (by omega) (by omega), nI_toInt (by omega), Int.bmod_eq_of_le (by omega) (by omega)]
theorem iT_n {a r s : Nat} (ha : a < 1000) (hr : r < 1000) (hs : s < 1000) (h : r ≤ a + s) : nI a - nI r + nI s = nI (a + s - r) := by
  rw [← Int32.toInt_inj, iT ha hr hs, nI_toInt (by omega)]; omega
theorem iT_in {w h i j r s t : Nat} (g : q_g w h) (hi : i < 100) (hj : j < 100) (hr : r < 100) (hs : s < 100) (ht : t < 100) : inI w h (nI i - nI r + nI s) (nI j - nI r + nI t) = true ↔ (r ≤ i + s ∧ i + s < w + r) ∧ (r ≤ j + t ∧ j + t < h + r) := by
  have hw := g.2.1
  have hh := g.2.2.2
  have e1 := iT (a := i) (r := r) (s := s) (by omega) (by omega) (by omega)
  have e2 := iT (a := j) (r := r) (s := t) (by omega) (by omega) (by omega)
  unfold inI
  rw [decide_eq_true_iff, Int32.le_iff_toInt_le, Int32.lt_iff_toInt_lt, Int32.le_iff_toInt_le, Int32.lt_iff_toInt_lt, e1, e2, Int32.toInt_zero, nI_toInt (n := w) (by omega), nI_toInt (n := h) (by omega)]
  omega
def wc (F : Nat → Nat) (w h i j r t s : Nat) : Nat := if inI w h (nI i - nI r + nI s) (nI j - nI r + nI t) = true then F (pI w (nI i - nI r + nI s) (nI j - nI r + nI t)) else 0
def wR (F : Nat → Nat) (w h i j r t n : Nat) : Nat := sumN (fun s => wc F w h i j r t s) n
def wA (F : Nat → Nat) (w h i j r n : Nat) : Nat := sumN (fun t => wR F w h i j r t (2 * r + 1)) n
theorem wA_eq {F : Nat → Nat} {w h i j r : Nat} (g : q_g w h) (hi : i < w) (hj : j < h) (hr : r ≤ 15) : wA F w h i j r (2 * r + 1) = RS F w (i - r) (j - r) (min (i + r + 1) w) (min (j + r + 1) h) := by
  have hw := g.2.1
  have hh := g.2.2.2
  have hc : ∀ t, t < 2 * r + 1 → ∀ s, s < 2 * r + 1 → wc F w h i j r t s = if r - j ≤ t ∧ t < min (2 * r + 1) (h + r - j) then (if r - i ≤ s ∧ s < min (2 * r + 1) (w + r - i) then F ((j + t - r) * w + (i + s - r)) else 0) else 0 := by
    intro t ht s hs
    unfold wc
    by_cases hin : inI w h (nI i - nI r + nI s) (nI j - nI r + nI t) = true
    · obtain ⟨⟨a1, a2⟩, a3, a4⟩ := (iT_in g (by omega) (by omega) (by omega) (by omega) (by omega)).mp hin
      rw [if_pos hin, if_pos (by omega), if_pos (by omega), iT_n (by omega) (by omega) (by omega) a1, iT_n (by omega) (by omega) (by omega) a3, pI_n (by omega) (by omega)]
    · rw [if_neg hin]
      by_cases b1 : r - j ≤ t ∧ t < min (2 * r + 1) (h + r - j)
      · rw [if_pos b1, if_neg (fun b2 => hin ((iT_in g (by omega) (by omega) (by omega) (by omega) (by omega)).mpr (by omega)))]
      · rw [if_neg b1]
  have hR : ∀ t, t < 2 * r + 1 → wR F w h i j r t (2 * r + 1) = if r - j ≤ t ∧ t < min (2 * r + 1) (h + r - j) then sumN (fun k => F ((j + t - r) * w + (i - r + k))) (min (i + r + 1) w - (i - r)) else 0 := by
    intro t ht
    unfold wR
    rw [sumN_congr (fun s hs => hc t ht s hs)]
    by_cases b1 : r - j ≤ t ∧ t < min (2 * r + 1) (h + r - j)
    · rw [if_pos b1, sumN_congr (g := fun s => if r - i ≤ s ∧ s < min (2 * r + 1) (w + r - i) then F ((j + t - r) * w + (i + s - r)) else 0) (fun s _ => if_pos b1), sumN_ind (fun s => F ((j + t - r) * w + (i + s - r))) (by omega) (by omega), show min (2 * r + 1) (w + r - i) - (r - i) = min (i + r + 1) w - (i - r) by omega]
      exact sumN_congr (fun k _ => by rw [show i + (r - i + k) - r = i - r + k by omega])
    · rw [if_neg b1, sumN_congr (g := fun _ => 0) (fun s _ => if_neg b1)]; exact sumN_0 _
  unfold wA RS
  rw [sumN_congr hR, sumN_ind (fun t => sumN (fun k => F ((j + t - r) * w + (i - r + k))) (min (i + r + 1) w - (i - r))) (by omega) (by omega), show min (2 * r + 1) (h + r - j) - (r - j) = min (j + r + 1) h - (j - r) by omega]
  exact sumN_congr (fun k _ => sumN_congr (fun k2 _ => by rw [show j + (r - j + k) - r = j - r + k by omega]))
theorem sumN_c (c : Nat) : ∀ n : Nat, sumN (fun _ => c) n = c * n
  | 0 => rfl
  | n + 1 => by show sumN (fun _ => c) n + c = c * (n + 1); rw [sumN_c c n, Nat.mul_succ]
theorem wA_1 {w h i j r : Nat} (g : q_g w h) (hi : i < w) (hj : j < h) (hr : r ≤ 15) : wA (fun _ => 1) w h i j r (2 * r + 1) = dN w h i j r := by
  rw [wA_eq g hi hj hr]
  unfold RS dN
  rw [sumN_congr (g := fun _ => min (i + r + 1) w - (i - r)) (fun k _ => by rw [sumN_c, Nat.one_mul]), sumN_c]
theorem wR_s (F : Nat → Nat) (w h i j r t s : Nat) : wR F w h i j r t (s + 1) = wR F w h i j r t s + wc F w h i j r t s := rfl
theorem wc_f {F : Nat → Nat} {w h i j r t s : Nat} {a b : Int32} (h1 : nI i - nI r + nI s = a) (h2 : nI j - nI r + nI t = b) (h3 : inI w h a b = false) : wc F w h i j r t s = 0 := by
  unfold wc; rw [h1, h2, if_neg (by rw [h3]; decide)]
theorem wc_t {F : Nat → Nat} {w h i j r t s k : Nat} {a b : Int32} (h1 : nI i - nI r + nI s = a) (h2 : nI j - nI r + nI t = b) (h3 : inI w h a b = true) (h4 : pI w a b = k) : wc F w h i j r t s = F k := by
  unfold wc; rw [h1, h2, if_pos h3, h4]
theorem cmpR {a r s : Nat} (ha : a < 100) (hr : r < 100) (hs : s < 100) : nI (a + r) < nI a - nI r + nI s ↔ 2 * r + 1 ≤ s := by
  rw [Int32.lt_iff_toInt_lt, iT (by omega) (by omega) (by omega), nI_toInt (by omega)]; omega
theorem lN128 : (128 : Int64) = lN 128 := by decide +kernel

def sp_X1_isDark : List q_V → List q_E → (Option q_V → List q_E → Prop) → Prop := fun as Wd K => ∃ (w : Nat) (h : Nat) (thr : Nat) (sam : Nat → Nat) (blk : Nat → Bool) (nxt : Nat → Bool) (came : Nat → Int32) (part : Nat → Int32) (rst : Int64) (i : Nat) (j : Nat) (r : Nat) (sh : Int32), (q_g w h) ∧ (∀ k, k < w * h → sam k < 256) ∧ (i < w) ∧ (j < h) ∧ (r ≤ 15) ∧ as = [.inr (.inr (some 0)), .inl (nI i), .inl (nI j), .inl (nI r), .inl sh] ∧ Wd = (mw w h thr sam blk nxt came part rst) ∧ (K (some (.inl (bI (drk sam w h i j r sh)))) (mw w h thr sam blk nxt came part rst))
set_option maxHeartbeats 4000000 in
set_option maxRecDepth 20000 in
theorem ct_X1_isDark : q_Ct yX1_isDark cX1_isDark 17 (some .boolean) 1 22 sp_X1_isDark := by
  refine q_met (by decide) ?_
  intro x as Wd K hs ok fn
  obtain ⟨w, h, thr, sam, blk, nxt, came, part, rst, i, j, r, sh, g, hs2, hi, hj, hr, rfl, rfl, hk⟩ := hs
  show q_W x 0 [some (.inr (.inr (some 0))), some (.inl (nI i)), some (.inl (nI j)), some (.inl (nI r)), some (.inl sh), none, none, none, none, none, none, none, none, none, none, none, none] [] (mw w h thr sam blk nxt came part rst)
  have hw := g.2.1
  have hw1 := g.1
  have hh := g.2.2.2
  have hn := q_gn g
  have L : ∀ (dL t : Nat) (b : Int32) (o12 o13 o15 : Option q_V), dL = 2 * r + 1 - t → t ≤ 2 * r + 1 → nI j - nI r + nI t = b → q_nol o13 = q_nol o13 → q_nol o15 = q_nol o15 → q_W x 14 [some (.inr (.inr (some 0))), some (.inl (nI (i))), some (.inl (nI (j))), some (.inl (nI (r))), some (.inl (sh)), some (.inr (.inl (lN (wA (fun _ => 1) w h i j r t)))), none, some (.inr (.inl (lN (wA sam w h i j r t)))), none, some (.inr (.inl (lN (wA (sq sam) w h i j r t)))), none, some (.inl b), o12, o13, none, o15, none] [] (mw w h thr sam blk nxt came part rst) := by
    intro dL
    induction dL using Nat.strongRecOn with
    | _ dL ihL =>
      intro t b o12 o13 o15 hdL hiL hb hp ho15
      refine q_iload ok rfl dX1_isDark_14 ?_
      refine q_iload_n ok rfl dX1_isDark_16 ?_
      refine q_iload_n ok rfl dX1_isDark_17 ?_
      refine q_iaddN ok dX1_isDark_18 ?_
      refine q_icmp_gt 99 ok dX1_isDark_19 (by decide) (fun h19 => ?_) (fun h19 => ?_)
      · have : t = 2 * r + 1 := by
          have := (cmpR (a := j) (r := r) (s := t) (by omega) (by omega) (by omega)).mp (by rw [hb]; exact h19)
          omega
        subst this
        rw [wA_1 g hi hj hr, wA_eq g hi hj hr, wA_eq g hi hj hr, show RS sam w (i - r) (j - r) (min (i + r + 1) w) (min (j + r + 1) h) = dS sam w h i j r from rfl, show RS (sq sam) w (i - r) (j - r) (min (i + r + 1) w) (min (j + r + 1) h) = dS (sq sam) w h i j r from rfl]
        have hlt := pm_lt g hi hj
        have hlt2 := hs2 _ (pl_lt hi hj)
        refine q_aload_n ok rfl dX1_isDark_99 ?_
        refine mg_samples ok dX1_isDark_100 ?_
        refine q_aload_n ok rfl dX1_isDark_103 ?_
        refine mg_width ok dX1_isDark_104 ?_
        refine q_iload_n ok rfl dX1_isDark_107 ?_
        refine q_imulN ok dX1_isDark_108 ?_
        refine q_iload_n ok rfl dX1_isDark_109 ?_
        refine q_iaddN ok dX1_isDark_110 ?_
        refine ml_sam g hlt ok dX1_isDark_111 ?_
        rw [Nat.mul_comm w j]
        refine q_i2lN (by omega) ok dX1_isDark_112 ?_
        refine q_lstore_11 ok rfl dX1_isDark_113 ?_
        refine q_lload ok rfl dX1_isDark_115 ?_
        refine q_lload ok rfl dX1_isDark_117 ?_
        refine q_lmulN ok dX1_isDark_119 ?_
        refine q_lload ok rfl dX1_isDark_120 ?_
        refine q_lload ok rfl dX1_isDark_122 ?_
        refine q_lmulN ok dX1_isDark_124 ?_
        refine q_lsub ok dX1_isDark_125 ?_
        refine q_lstore_13 ok rfl dX1_isDark_126 ?_
        refine q_lload ok rfl dX1_isDark_128 ?_
        refine q_lload ok rfl dX1_isDark_130 ?_
        refine q_lload ok rfl dX1_isDark_132 ?_
        refine q_lmulN ok dX1_isDark_134 ?_
        refine q_lsub ok dX1_isDark_135 ?_
        refine q_lstore_15 ok rfl dX1_isDark_136 ?_
        refine q_lload ok rfl dX1_isDark_138 ?_
        refine q_lconstv (lN 0) ok rfl dX1_isDark_140 ?_
        refine q_lcmp ok dX1_isDark_141 ?_
        refine q_if_ne 162 ok dX1_isDark_142 (by decide) (fun h142 => ?_) (fun h142 => ?_)
        · refine q_lload ok rfl dX1_isDark_162 ?_
          refine q_lconstv (lN 0) ok rfl dX1_isDark_164 ?_
          refine q_lcmp ok dX1_isDark_165 ?_
          refine q_if_lt 196 ok dX1_isDark_166 (by decide) (fun h166 => ?_) (fun h166 => ?_)
          · refine q_iconstv (nI 0) ok (by decide) dX1_isDark_196 ?_
            exact q_zret ok fn dX1_isDark_197 (by decide) (by have ee : drk sam w h i j r sh = false := (if_neg h142).trans (decide_eq_false (fun q => absurd q.1 (Int64.not_le.mpr ((lg_cmp_lt _ _).mp h166)))); rw [ee] at hk; exact hk)
          · refine q_ldc2 256 ok (by decide +kernel) dX1_isDark_169 ?_
            refine q_lload ok rfl dX1_isDark_172 ?_
            refine q_lmul ok dX1_isDark_174 ?_
            refine q_lload ok rfl dX1_isDark_175 ?_
            refine q_lmul ok dX1_isDark_177 ?_
            refine q_iload ok rfl dX1_isDark_178 ?_
            refine q_i2l ok dX1_isDark_180 ?_
            refine q_iload ok rfl dX1_isDark_181 ?_
            refine q_i2l ok dX1_isDark_183 ?_
            refine q_lmul ok dX1_isDark_184 ?_
            refine q_lload ok rfl dX1_isDark_185 ?_
            refine q_lmul ok dX1_isDark_187 ?_
            refine q_lcmp ok dX1_isDark_188 ?_
            refine q_if_lt 196 ok dX1_isDark_189 (by decide) (fun h189 => ?_) (fun h189 => ?_)
            · refine q_iconstv (nI 0) ok (by decide) dX1_isDark_196 ?_
              exact q_zret ok fn dX1_isDark_197 (by decide) (by have ee : drk sam w h i j r sh = false := (if_neg h142).trans (decide_eq_false (fun q => absurd q.2 (Int64.not_le.mpr ((lg_cmp_lt _ _).mp h189)))); rw [ee] at hk; exact hk)
            · refine q_iconstv (nI 1) ok (by decide) dX1_isDark_192 ?_
              refine q_goto 197 ok dX1_isDark_193 (by decide) ?_
              exact q_zret ok fn dX1_isDark_197 (by decide) (by have ee : drk sam w h i j r sh = true := (if_neg h142).trans (decide_eq_true ⟨Int64.not_lt.mp (mt (lg_cmp_lt _ _).mpr h166), Int64.not_lt.mp (mt (lg_cmp_lt _ _).mpr h189)⟩); rw [ee] at hk; exact hk)
        · refine q_lload ok rfl dX1_isDark_145 ?_
          refine q_ldc2 128 ok (by decide +kernel) dX1_isDark_147 ?_
          refine q_lcmp ok dX1_isDark_150 ?_
          refine q_if_ge 158 ok dX1_isDark_151 (by decide) (fun h151 => ?_) (fun h151 => ?_)
          · refine q_iconstv (nI 0) ok (by decide) dX1_isDark_158 ?_
            refine q_goto 197 ok dX1_isDark_159 (by decide) ?_
            exact q_zret ok fn dX1_isDark_197 (by decide) (by have ee : drk sam w h i j r sh = false := (if_pos h142).trans (decide_eq_false (fun q => absurd ((lN_le (a := 128) (b := sam (j * w + i)) (by decide) (by omega)).mp (lN128 ▸ (lg_cmp_ge _ _).mp h151)) (by omega))); rw [ee] at hk; exact hk)
          · refine q_iconstv (nI 1) ok (by decide) dX1_isDark_154 ?_
            refine q_goto 197 ok dX1_isDark_155 (by decide) ?_
            exact q_zret ok fn dX1_isDark_197 (by decide) (by have ee : drk sam w h i j r sh = true := (if_pos h142).trans (decide_eq_true (Nat.not_le.mp (fun q => h151 ((lg_cmp_ge _ _).mpr (lN128 ▸ (lN_le (a := 128) (b := sam (j * w + i)) (by decide) (by omega)).mpr q))))); rw [ee] at hk; exact hk)
      · refine q_iload_n ok rfl dX1_isDark_22 ?_
        refine q_iload_n ok rfl dX1_isDark_23 ?_
        refine q_isub ok dX1_isDark_24 ?_
        refine q_istore_12 ok rfl dX1_isDark_25 ?_
        have ht3 : t < 2 * r + 1 := by
          have := mt (cmpR (a := j) (r := r) (s := t) (by omega) (by omega) (by omega)).mpr (by rw [hb]; exact h19)
          omega
        have LI : ∀ (dLI s : Nat) (z : Int32) (o13 o15 : Option q_V), dLI = 2 * r + 1 - s → s ≤ 2 * r + 1 → nI i - nI r + nI s = z → q_nol o13 = q_nol o13 → q_W x 27 [some (.inr (.inr (some 0))), some (.inl (nI (i))), some (.inl (nI (j))), some (.inl (nI (r))), some (.inl (sh)), some (.inr (.inl (lN (wA (fun _ => 1) w h i j r t + wR (fun _ => 1) w h i j r t s)))), none, some (.inr (.inl (lN (wA sam w h i j r t + wR sam w h i j r t s)))), none, some (.inr (.inl (lN (wA (sq sam) w h i j r t + wR (sq sam) w h i j r t s)))), none, some (.inl b), some (.inl z), o13, none, o15, none] [] (mw w h thr sam blk nxt came part rst) := by
          intro dLI
          induction dLI using Nat.strongRecOn with
          | _ dLI ihLI =>
            intro s z o13 o15 hdLI hiLI hz hp
            refine q_iload ok rfl dX1_isDark_27 ?_
            refine q_iload_n ok rfl dX1_isDark_29 ?_
            refine q_iload_n ok rfl dX1_isDark_30 ?_
            refine q_iaddN ok dX1_isDark_31 ?_
            refine q_icmp_gt 93 ok dX1_isDark_32 (by decide) (fun h32 => ?_) (fun h32 => ?_)
            · refine q_iinc_11 (nI 1) ok rfl (by decide) dX1_isDark_93 ?_
              refine q_goto 14 ok dX1_isDark_96 (by decide) ?_
              have : s = 2 * r + 1 := by
                have := (cmpR (a := i) (r := r) (s := s) (by omega) (by omega) (by omega)).mp (by rw [hz]; exact h32)
                omega
              subst this
              rw [← hb, Int32.add_assoc, nI_add t 1]
              exact ihL _ (by omega) (t + 1) _ _ _ _ rfl (by omega) rfl rfl rfl
            · have hs3 : s < 2 * r + 1 := by
                have := mt (cmpR (a := i) (r := r) (s := s) (by omega) (by omega) (by omega)).mpr (by rw [hz]; exact h32)
                omega
              refine q_aload_n ok rfl dX1_isDark_35 ?_
              refine q_iload ok rfl dX1_isDark_36 ?_
              refine q_iload ok rfl dX1_isDark_38 ?_
              refine kX1_isIn (by decide) (Nat.le_of_ble_eq_true rfl) ok dX1_isDark_40 ?_
              refine q_ifb_eq 87 ok dX1_isDark_43 (by decide) (fun h43 => ?_) (fun h43 => ?_)
              · refine q_iinc_12 (nI 1) ok rfl (by decide) dX1_isDark_87 ?_
                refine q_goto 27 ok dX1_isDark_90 (by decide) ?_
                rw [← hz, Int32.add_assoc, nI_add s 1, ← Nat.add_zero (wA (fun _ => 1) w h i j r t + wR (fun _ => 1) w h i j r t s), ← Nat.add_zero (wA sam w h i j r t + wR sam w h i j r t s), ← Nat.add_zero (wA (sq sam) w h i j r t + wR (sq sam) w h i j r t s), Nat.add_assoc, Nat.add_assoc, Nat.add_assoc]
                have e : ∀ F : Nat → Nat, wR F w h i j r t s + 0 = wR F w h i j r t (s + 1) := fun F => by rw [wR_s, wc_f hz hb h43]
                rw [e, e, e]
                exact ihLI _ (by omega) (s + 1) _ _ _ rfl (by omega) rfl hp
              · obtain ⟨i2, j2, hi2, hj2, rfl, rfl⟩ := inI_o g h43
                have hlt := pm_lt g hi2 hj2
                have hlt2 := hs2 _ (pl_lt2 hi2 hj2)
                have ep : pI w (nI i2) (nI j2) = w * j2 + i2 := by rw [pI_n (by omega) (by omega), Nat.mul_comm]
                refine q_aload_n ok rfl dX1_isDark_46 ?_
                refine mg_samples ok dX1_isDark_47 ?_
                refine q_aload_n ok rfl dX1_isDark_50 ?_
                refine mg_width ok dX1_isDark_51 ?_
                refine q_iload ok rfl dX1_isDark_54 ?_
                refine q_imulN ok dX1_isDark_56 ?_
                refine q_iload ok rfl dX1_isDark_57 ?_
                refine q_iaddN ok dX1_isDark_59 ?_
                refine ml_sam g hlt ok dX1_isDark_60 ?_
                refine q_i2lN (by omega) ok dX1_isDark_61 ?_
                refine q_lstore_13 ok rfl dX1_isDark_62 ?_
                refine q_lload ok rfl dX1_isDark_64 ?_
                refine q_lconstv (lN 1) ok rfl dX1_isDark_66 ?_
                refine q_laddN ok dX1_isDark_67 ?_
                refine q_lstore_5 ok rfl dX1_isDark_68 ?_
                refine q_lload ok rfl dX1_isDark_70 ?_
                refine q_lload ok rfl dX1_isDark_72 ?_
                refine q_laddN ok dX1_isDark_74 ?_
                refine q_lstore_7 ok rfl dX1_isDark_75 ?_
                refine q_lload ok rfl dX1_isDark_77 ?_
                refine q_lload ok rfl dX1_isDark_79 ?_
                refine q_lload ok rfl dX1_isDark_81 ?_
                refine q_lmulN ok dX1_isDark_83 ?_
                refine q_laddN ok dX1_isDark_84 ?_
                refine q_lstore_9 ok rfl dX1_isDark_85 ?_
                refine q_iincN_12 1 ok rfl (by decide) dX1_isDark_87 ?_
                refine q_goto 27 ok dX1_isDark_90 (by decide) ?_
                rw [← nI_add i2 1, ← hz, Int32.add_assoc, nI_add s 1, Nat.add_assoc, Nat.add_assoc, Nat.add_assoc]
                have e1 : wR (fun _ => 1) w h i j r t s + 1 = wR (fun _ => 1) w h i j r t (s + 1) := by rw [wR_s, wc_t (F := (fun _ => 1)) hz hb h43 ep]
                have e2 : wR sam w h i j r t s + sam (w * j2 + i2) = wR sam w h i j r t (s + 1) := by rw [wR_s, wc_t (F := sam) hz hb h43 ep]
                have e3 : wR (sq sam) w h i j r t s + sam (w * j2 + i2) * sam (w * j2 + i2) = wR (sq sam) w h i j r t (s + 1) := by rw [wR_s, wc_t (F := sq sam) hz hb h43 ep]; rfl
                rw [e1, e2, e3]
                exact ihLI _ (by omega) (s + 1) _ _ _ rfl (by omega) rfl rfl
        exact LI _ 0 (nI i - nI r) o13 o15 rfl (Nat.zero_le _) (by rw [nI_0, Int32.add_zero]) rfl
  refine q_lconstv (lN 0) ok rfl dX1_isDark_0 ?_
  refine q_lstore_5 ok rfl dX1_isDark_1 ?_
  refine q_lconstv (lN 0) ok rfl dX1_isDark_3 ?_
  refine q_lstore_7 ok rfl dX1_isDark_4 ?_
  refine q_lconstv (lN 0) ok rfl dX1_isDark_6 ?_
  refine q_lstore_9 ok rfl dX1_isDark_7 ?_
  refine q_iload_n ok rfl dX1_isDark_9 ?_
  refine q_iload_n ok rfl dX1_isDark_10 ?_
  refine q_isub ok dX1_isDark_11 ?_
  refine q_istore_11 ok rfl dX1_isDark_12 ?_
  exact L _ 0 (nI j - nI r) none none none rfl (Nat.zero_le _) (by rw [nI_0, Int32.add_zero]) rfl rfl
theorem kX1_isDark {x : q_X} {cc : ByteArray} {fr lo pc : Nat} {lv : List (Option q_V)} {st : List q_V} {w : Nat} {h : Nat} {thr : Nat} {sam : Nat → Nat} {blk : Nat → Bool} {nxt : Nat → Bool} {came : Nat → Int32} {part : Nat → Int32} {rst : Int64} {i : Nat} {j : Nat} {r : Nat} {sh : Int32} (g : q_g w h) (hs2 : ∀ k, k < w * h → sam k < 256) (hi : i < w) (hj : j < h) (hr : r ≤ 15) (hR : 1 + 1 ≤ fr ∧ 8 + (17 + 11) + 22 ≤ lo) (hst : (st.map (fun v => if q_nol (some v) then 1 else 2)).sum ≤ 8) (ok : q_ok x cc RX1 fr lo) (hd : decode cc pc = .ok (.invokevirtual 48, 3)) (kk : q_W x (pc + 3) lv ((.inl (bI (drk sam w h i j r sh))) :: st) (mw w h thr sam blk nxt came part rst)) : q_W x pc lv (.inl sh :: .inl (nI r) :: .inl (nI j) :: .inl (nI i) :: .inr (.inr (some 0)) :: st) (mw w h thr sam blk nxt came part rst) :=
  q_callV [.inl (nI i), .inl (nI j), .inl (nI r), .inl sh] ct_X1_isDark lkX1_X1_isDark dc_X1_isDark rfl ok rfl hR hst (Nat.le_of_ble_eq_true rfl) hd ⟨w, h, thr, sam, blk, nxt, came, part, rst, i, j, r, sh, g, hs2, hi, hj, hr, rfl, rfl, kk⟩
