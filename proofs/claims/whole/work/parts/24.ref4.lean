-- THE REFERENCE, fourth part: the best bound, sums of rectangles
def BL (n : Nat) (sam : Nat → Nat) (t : Nat) : Nat := sumN (fun k => if sam k < t then 0 else sam k) n
theorem BL_eq (n : Nat) (sam : Nat → Nat) (t : Nat) : BL n sam t = sumN sam n - AL n sam t := by
  have h : AL n sam t + BL n sam t = sumN sam n := by
    unfold AL BL
    rw [← sumN_add]
    exact sumN_congr (fun k _ => by by_cases e : sam k < t <;> simp [e])
  omega
def mSt (n all N A t : Nat) (s : q_K) : q_K := if lN 0 < lN N ∧ lN 0 < lN (n - N) ∧ (s.2.2 = lN 0 ∨ s.2.1 * lN (N * (n - N)) < gAp n all N A * gAp n all N A * s.2.2) then (nI t, (gAp n all N A * gAp n all N A, lN (N * (n - N)))) else s
def mBest (n : Nat) (sam : Nat → Nat) : Nat → q_K
  | 0 => (nI (sam 0) - nI 1, (lN 0, lN 0))
  | t + 1 => mSt n (sumN sam n) (NL n sam (t + 1)) (AL n sam (t + 1)) t (mBest n sam t)
theorem AL_up {sam : Nat → Nat} {t : Nat} : ∀ n : Nat, AL n sam (t + 1) ≤ t * NL n sam (t + 1)
  | 0 => by simp [AL, sumN]
  | n + 1 => by
    have ih := AL_up (sam := sam) (t := t) n
    unfold AL NL at ih ⊢
    simp only [sumN]
    by_cases e : sam n < t + 1
    · rw [if_pos e, cntB_t (by simp [e]), Nat.mul_succ]; omega
    · rw [if_neg e, cntB_f (by simp; omega)]; omega
theorem BL_lo {sam : Nat → Nat} {t : Nat} : ∀ n : Nat, (t + 1) * (n - NL n sam (t + 1)) ≤ BL n sam (t + 1)
  | 0 => by simp [NL, cntB]
  | n + 1 => by
    have ih := BL_lo (sam := sam) (t := t) n
    have hle := NL_le n sam (t + 1)
    unfold BL NL at ih ⊢
    unfold NL at hle
    simp only [sumN]
    by_cases e : sam n < t + 1
    · rw [if_pos e, cntB_t (by simp [e]), show n + 1 - (cntB (fun k => decide (sam k < t + 1)) n + 1) = n - cntB (fun k => decide (sam k < t + 1)) n by omega]; omega
    · rw [if_neg e, cntB_f (by simp; omega), show n + 1 - cntB (fun k => decide (sam k < t + 1)) n = n - cntB (fun k => decide (sam k < t + 1)) n + 1 by omega, Nat.mul_succ]; omega
theorem sumN_255 {sam : Nat → Nat} : ∀ {n : Nat}, (∀ k, k < n → sam k < 256) → sumN sam n ≤ 255 * n
  | 0, _ => Nat.le_refl _
  | n + 1, h => by
    have ih := sumN_255 (n := n) (fun k hk => h k (by omega))
    have := h n (by omega)
    simp only [sumN]; omega
theorem lN_t {a : Nat} (ha : a < 2 ^ 63) : (lN a).toInt = (a : Int) := pk_lT ha
theorem lN_z {a : Nat} (ha : a < 2 ^ 31) : lN 0 < lN a ↔ 0 < a := lN_lt (by decide) ha
theorem gAp_p {n : Nat} {sam : Nat → Nat} {t : Nat} (hn : n ≤ 256) (hs : ∀ k, k < n → sam k < 256) (h1 : 0 < NL n sam (t + 1)) (h2 : 0 < n - NL n sam (t + 1)) : lN 0 < gAp n (sumN sam n) (NL n sam (t + 1)) (AL n sam (t + 1)) * gAp n (sumN sam n) (NL n sam (t + 1)) (AL n sam (t + 1)) := by
  have a1 := AL_up (sam := sam) (t := t) n
  have a2 := BL_lo (sam := sam) (t := t) n
  have a3 := sumN_255 hs
  have a4 := BL_eq n sam (t + 1)
  have a5 := NL_le n sam (t + 1)
  have a6 := AL_le n sam (t + 1)
  unfold gAp
  rw [← a4]
  generalize NL n sam (t + 1) = N at *
  generalize AL n sam (t + 1) = A at *
  generalize BL n sam (t + 1) = B at *
  generalize sumN sam n = S at *
  have b1 : A * (n - N) ≤ t * N * (n - N) := Nat.mul_le_mul_right _ a1
  have b2 : (t + 1) * (n - N) * N ≤ B * N := Nat.mul_le_mul_right _ a2
  have b3 : t * N * (n - N) + (n - N) * N = (t + 1) * (n - N) * N := by rw [Nat.succ_mul, Nat.add_mul, Nat.mul_assoc t N, Nat.mul_comm N (n - N), Nat.mul_assoc t]
  have b4 : 0 < (n - N) * N := Nat.mul_pos h2 h1
  have b5 : B * N ≤ 65280 * 256 := Nat.mul_le_mul (by omega) (by omega)
  have c1 : A * (n - N) < B * N := by omega
  generalize A * (n - N) = X at *
  generalize B * N = Y at *
  have e1 : (lN X - lN Y).toInt = (X : Int) - Y := by
    rw [Int64.toInt_sub, lN_t (by omega), lN_t (by omega), Int.bmod_eq_of_le (by omega) (by omega)]
  have e2 : ((lN X - lN Y) * (lN X - lN Y)).toInt = ((X : Int) - Y) * ((X : Int) - Y) := by
    have z1 : ((X : Int) - Y) * ((X : Int) - Y) = ((Y - X : Nat) : Int) * ((Y - X : Nat) : Int) := by
      rw [show ((Y - X : Nat) : Int) = -((X : Int) - Y) by omega, Int.neg_mul_neg]
    have z2 : (Y - X) * (Y - X) ≤ 16711680 * 16711680 := Nat.mul_le_mul (by omega) (by omega)
    rw [Int64.toInt_mul, e1, z1, ← Int.natCast_mul, Int.bmod_eq_of_le (by omega) (by omega)]
  rw [Int64.lt_iff_toInt_lt, e2, lN_t (by decide)]
  have z3 : ((X : Int) - Y) * ((X : Int) - Y) = ((Y - X : Nat) : Int) * ((Y - X : Nat) : Int) := by
    rw [show ((Y - X : Nat) : Int) = -((X : Int) - Y) by omega, Int.neg_mul_neg]
  rw [z3, ← Int.natCast_mul]
  have z4 : 0 < (Y - X) * (Y - X) := Nat.mul_pos (by omega) (by omega)
  omega
theorem mB_eq {n : Nat} {sam : Nat → Nat} (hn : n ≤ 256) (hs : ∀ k, k < n → sam k < 256) : ∀ t : Nat, (mBest n sam t = gBest n sam t ∧ ¬ (mBest n sam t).2.2 = lN 0) ∨ (mBest n sam t = (nI (sam 0) - nI 1, (lN 0, lN 0)) ∧ gBest n sam t = (nI (sam 0) - nI 1, (lN 0, lN 1)))
  | 0 => Or.inr ⟨rfl, rfl⟩
  | t + 1 => by
    have ih := mB_eq hn hs t
    have hle := NL_le n sam (t + 1)
    have hb : NL n sam (t + 1) * (n - NL n sam (t + 1)) ≤ 256 * 256 := Nat.mul_le_mul (by omega) (by omega)
    have hpos : lN 0 < lN (NL n sam (t + 1) * (n - NL n sam (t + 1))) ↔ lN 0 < lN (NL n sam (t + 1)) ∧ lN 0 < lN (n - NL n sam (t + 1)) := by
      rw [lN_z (by omega), lN_z (by omega), lN_z (by omega)]
      exact ⟨fun q => ⟨(by rcases Nat.eq_zero_or_pos (NL n sam (t + 1)) with z | z; (rw [z, Nat.zero_mul] at q; exact absurd q (by decide)); exact z), (by rcases Nat.eq_zero_or_pos (n - NL n sam (t + 1)) with z | z; (rw [z, Nat.mul_zero] at q; exact absurd q (by decide)); exact z)⟩, fun q => Nat.mul_pos q.1 q.2⟩
    have hne : lN 0 < lN (NL n sam (t + 1) * (n - NL n sam (t + 1))) → ¬ lN (NL n sam (t + 1) * (n - NL n sam (t + 1))) = lN 0 := fun q e => by rw [e] at q; exact absurd q (by decide +kernel)
    show (mSt n (sumN sam n) (NL n sam (t + 1)) (AL n sam (t + 1)) t (mBest n sam t) = gSt n (sumN sam n) (NL n sam (t + 1)) (AL n sam (t + 1)) t (gBest n sam t) ∧ ¬ (mSt n (sumN sam n) (NL n sam (t + 1)) (AL n sam (t + 1)) t (mBest n sam t)).2.2 = lN 0) ∨ (mSt n (sumN sam n) (NL n sam (t + 1)) (AL n sam (t + 1)) t (mBest n sam t) = _ ∧ gSt n (sumN sam n) (NL n sam (t + 1)) (AL n sam (t + 1)) t (gBest n sam t) = _)
    rcases ih with ⟨e, hz⟩ | ⟨e1, e2⟩
    · left
      rw [e] at hz ⊢
      unfold mSt gSt
      by_cases hp : lN 0 < lN (NL n sam (t + 1) * (n - NL n sam (t + 1)))
      · by_cases hc : (gBest n sam t).2.1 * lN (NL n sam (t + 1) * (n - NL n sam (t + 1))) < gAp n (sumN sam n) (NL n sam (t + 1)) (AL n sam (t + 1)) * gAp n (sumN sam n) (NL n sam (t + 1)) (AL n sam (t + 1)) * (gBest n sam t).2.2
        · rw [if_pos ⟨(hpos.mp hp).1, (hpos.mp hp).2, Or.inr hc⟩, if_pos ⟨hp, hc⟩]
          exact ⟨rfl, hne hp⟩
        · rw [if_neg (fun q => q.2.2.elim hz hc), if_neg (fun q => hc q.2)]
          exact ⟨rfl, hz⟩
      · rw [if_neg (fun q => hp (hpos.mpr ⟨q.1, q.2.1⟩)), if_neg (fun q => hp q.1)]
        exact ⟨rfl, hz⟩
    · rw [e1, e2]
      unfold mSt gSt
      by_cases hp : lN 0 < lN (NL n sam (t + 1) * (n - NL n sam (t + 1)))
      · left
        have hq := hpos.mp hp
        have hg := gAp_p hn hs ((lN_z (by omega)).mp hq.1) ((lN_z (by omega)).mp hq.2)
        rw [if_pos ⟨hq.1, hq.2, Or.inl rfl⟩, if_pos ⟨hp, by
          show lN 0 * _ < _ * lN 1
          rw [show lN 0 = 0 from rfl, show lN 1 = 1 from rfl, Int64.zero_mul, Int64.mul_one]; exact hg⟩]
        exact ⟨rfl, hne hp⟩
      · right
        rw [if_neg (fun q => hp (hpos.mpr ⟨q.1, q.2.1⟩)), if_neg (fun q => hp q.1)]
        exact ⟨rfl, rfl⟩
theorem mB_g {n : Nat} {sam : Nat → Nat} (hn : n ≤ 256) (hs : ∀ k, k < n → sam k < 256) (t : Nat) : (mBest n sam t).1 = (gBest n sam t).1 := by
  rcases mB_eq hn hs t with ⟨e, -⟩ | ⟨e1, e2⟩
  · rw [e]
  · rw [e1, e2]

def sp_X1_global : List q_V → List q_E → (Option q_V → List q_E → Prop) → Prop := fun as Wd K => ∃ (w : Nat) (h : Nat) (thr : Nat) (sam : Nat → Nat) (blk : Nat → Bool) (nxt : Nat → Bool) (came : Nat → Int32) (part : Nat → Int32) (rst : Int64), (q_g w h) ∧ (∀ k, k < w * h → sam k < 256) ∧ as = [.inr (.inr (some 0))] ∧ Wd = (mw w h thr sam blk nxt came part rst) ∧ (K (some (.inl ((gBest (w * h) sam 255).1))) (mw w h (0) sam (fun k => if k < w * h then decide (nI (sam k) ≤ (gBest (w * h) sam 255).1) else blk k) nxt came part rst))
set_option maxHeartbeats 4000000 in
set_option maxRecDepth 20000 in
theorem ct_X1_global : q_Ct yX1_global cX1_global 17 (some .int) 1 20 sp_X1_global := by
  refine q_met (by decide) ?_
  intro x as Wd K hs ok fn
  obtain ⟨w, h, thr, sam, blk, nxt, came, part, rst, g, hs, rfl, rfl, hk⟩ := hs
  show q_W x 0 [some (.inr (.inr (some 0))), none, none, none, none, none, none, none, none, none, none, none, none, none, none, none, none] [] (mw w h thr sam blk nxt came part rst)
  have hn := q_gn g
  have hn1 := q_gn1 g
  have L3 : ∀ (dL3 i : Nat) (u7 u9 u11 u13 u15 : Option q_V), dL3 = w * h - i → i ≤ w * h → q_W x 228 [some (.inr (.inr (some 0))), some (.inl ((mBest (w * h) sam 255).1)), some (.inr (.inl ((mBest (w * h) sam 255).2.1))), none, some (.inr (.inl ((mBest (w * h) sam 255).2.2))), none, some (.inl (nI (i))), u7, none, u9, none, u11, none, u13, none, u15, none] [] (mw w h (0) sam (fun k => if k < i then decide (nI (sam k) ≤ (mBest (w * h) sam 255).1) else blk k) nxt came part rst) := by
    intro dL3
    induction dL3 using Nat.strongRecOn with
    | _ dL3 ihL3 =>
      intro i u7 u9 u11 u13 u15 hdL3 hiL3 
      refine q_iload ok rfl dX1_global_228 ?_
      refine q_aload_n ok rfl dX1_global_230 ?_
      refine kX1_all (by decide) (Nat.le_of_ble_eq_true rfl) ok dX1_global_231 ?_
      refine q_icmpN_ge 266 (by omega) (by omega) ok dX1_global_234 (by decide) (fun h234 => ?_) (fun h234 => ?_)
      · refine q_iload_n ok rfl dX1_global_266 ?_
        exact q_iret ok fn dX1_global_267 (by rw [show i = w * h by omega, mB_g hn hs]; exact hk)
      · refine q_aload_n ok rfl dX1_global_237 ?_
        refine mg_black ok dX1_global_238 ?_
        refine q_iload ok rfl dX1_global_241 ?_
        refine q_aload_n ok rfl dX1_global_243 ?_
        refine mg_samples ok dX1_global_244 ?_
        refine q_iload ok rfl dX1_global_247 ?_
        refine ml_sam g (by omega) ok dX1_global_249 ?_
        refine q_iload_n ok rfl dX1_global_250 ?_
        refine q_icmp_gt 258 ok dX1_global_251 (by decide) (fun h251 => ?_) (fun h251 => ?_)
        · refine q_iconstv (nI 0) ok (by decide) dX1_global_258 ?_
          refine ms_blk (v := false) g (by omega) ok dX1_global_259 ?_
          refine q_iincN_6 1 ok rfl (by decide) dX1_global_260 ?_
          refine q_goto 228 ok dX1_global_263 (by decide) ?_
          rw [show false = (fun k => decide (nI (sam k) ≤ (mBest (w * h) sam 255).1)) i from (decide_eq_false (Int32.not_le.mpr h251)).symm, pu_step (F := fun k => decide (nI (sam k) ≤ (mBest (w * h) sam 255).1))]
          exact ihL3 _ (by omega) (i + 1) _ _ _ _ _ rfl (by omega)
        · refine q_iconstv (nI 1) ok (by decide) dX1_global_254 ?_
          refine q_goto 259 ok dX1_global_255 (by decide) ?_
          refine ms_blk (v := true) g (by omega) ok dX1_global_259 ?_
          refine q_iincN_6 1 ok rfl (by decide) dX1_global_260 ?_
          refine q_goto 228 ok dX1_global_263 (by decide) ?_
          rw [show true = (fun k => decide (nI (sam k) ≤ (mBest (w * h) sam 255).1)) i from (decide_eq_true (Int32.not_lt.mp h251)).symm, pu_step (F := fun k => decide (nI (sam k) ≤ (mBest (w * h) sam 255).1))]
          exact ihL3 _ (by omega) (i + 1) _ _ _ _ _ rfl (by omega)
  have L : ∀ (dL t : Nat) (u7 u9 u11 u13 u15 : Option q_V), dL = 255 - t → t ≤ 255 → q_W x 22 [some (.inr (.inr (some 0))), some (.inl ((mBest (w * h) sam t).1)), some (.inr (.inl ((mBest (w * h) sam t).2.1))), none, some (.inr (.inl ((mBest (w * h) sam t).2.2))), none, some (.inl (nI (t))), u7, none, u9, none, u11, none, u13, none, u15, none] [] (mw w h (0) sam blk nxt came part rst) := by
    intro dL
    induction dL using Nat.strongRecOn with
    | _ dL ihL =>
      intro t u7 u9 u11 u13 u15 hdL hiL 
      refine q_iload ok rfl dX1_global_22 ?_
      refine q_sipushv (nI 255) ok (by decide) dX1_global_24 ?_
      refine q_icmpN_ge 225 (by omega) (by omega) ok dX1_global_27 (by decide) (fun h27 => ?_) (fun h27 => ?_)
      · refine q_iconstv (nI 0) ok (by decide) dX1_global_225 ?_
        refine q_istore_6 ok rfl dX1_global_226 ?_
        have ht : t = 255 := by omega
        subst ht
        have := L3 _ 0 u7 u9 u11 u13 u15 rfl (Nat.zero_le _)
        rw [pu_0 (F := fun k => decide (nI (sam k) ≤ (mBest (w * h) sam 255).1))] at this
        exact this
      · refine q_lconstv (lN 0) ok rfl dX1_global_30 ?_
        refine q_lstore_7 ok rfl dX1_global_31 ?_
        refine q_lconstv (lN 0) ok rfl dX1_global_33 ?_
        refine q_lstore_9 ok rfl dX1_global_34 ?_
        refine q_lconstv (lN 0) ok rfl dX1_global_36 ?_
        refine q_lstore_11 ok rfl dX1_global_37 ?_
        refine q_iconstv (nI 0) ok (by decide) dX1_global_39 ?_
        refine q_istore_13 ok rfl dX1_global_40 ?_
        have LI : ∀ (dLI i : Nat) (u15 : Option q_V), dLI = w * h - i → i ≤ w * h → q_W x 42 [some (.inr (.inr (some 0))), some (.inl ((mBest (w * h) sam t).1)), some (.inr (.inl ((mBest (w * h) sam t).2.1))), none, some (.inr (.inl ((mBest (w * h) sam t).2.2))), none, some (.inl (nI (t))), some (.inr (.inl (lN (NL i sam (t + 1))))), none, some (.inr (.inl (lN (AL i sam (t + 1))))), none, some (.inr (.inl (lN (BL i sam (t + 1))))), none, some (.inl (nI (i))), none, u15, none] [] (mw w h (0) sam blk nxt came part rst) := by
          intro dLI
          induction dLI using Nat.strongRecOn with
          | _ dLI ihLI =>
            intro i u15 hdLI hiLI 
            refine q_iload ok rfl dX1_global_42 ?_
            refine q_aload_n ok rfl dX1_global_44 ?_
            refine kX1_all (by decide) (Nat.le_of_ble_eq_true rfl) ok dX1_global_45 ?_
            refine q_icmpN_ge 140 (by omega) (by omega) ok dX1_global_48 (by decide) (fun h48 => ?_) (fun h48 => ?_)
            · rw [show i = w * h by omega, BL_eq]
              refine q_aload_n ok rfl dX1_global_140 ?_
              refine kX1_all (by decide) (Nat.le_of_ble_eq_true rfl) ok dX1_global_141 ?_
              refine q_i2lN (by omega) ok dX1_global_144 ?_
              refine q_lload ok rfl dX1_global_145 ?_
              refine q_lsubN (NL_le _ _ _) ok dX1_global_147 ?_
              refine q_lstore_13 ok rfl dX1_global_148 ?_
              refine q_lload ok rfl dX1_global_150 ?_
              refine q_lload ok rfl dX1_global_152 ?_
              refine q_lmulN ok dX1_global_154 ?_
              refine q_lload ok rfl dX1_global_155 ?_
              refine q_lload ok rfl dX1_global_157 ?_
              refine q_lmulN ok dX1_global_159 ?_
              refine q_lsub ok dX1_global_160 ?_
              refine q_lstore_15 ok rfl dX1_global_161 ?_
              refine q_lload ok rfl dX1_global_163 ?_
              refine q_lconstv (lN 0) ok rfl dX1_global_165 ?_
              refine q_lcmp ok dX1_global_166 ?_
              refine q_if_le 219 ok dX1_global_167 (by decide) (fun h167 => ?_) (fun h167 => ?_)
              · refine q_iincN_6 1 ok rfl (by decide) dX1_global_219 ?_
                refine q_goto 22 ok dX1_global_222 (by decide) ?_
                have e : mBest (w * h) sam (t + 1) = _ := (if_neg (fun q => absurd q.1 (Int64.not_lt.mpr ((lg_cmp_le _ _).mp h167))))
                have hz := fun u7 u9 u11 u13 u15 : Option q_V => ihL _ (by omega) (t + 1) u7 u9 u11 u13 u15 rfl (by omega)
                rw [e] at hz
                exact hz _ _ _ _ _
              · refine q_lload ok rfl dX1_global_170 ?_
                refine q_lconstv (lN 0) ok rfl dX1_global_172 ?_
                refine q_lcmp ok dX1_global_173 ?_
                refine q_if_le 219 ok dX1_global_174 (by decide) (fun h174 => ?_) (fun h174 => ?_)
                · refine q_iincN_6 1 ok rfl (by decide) dX1_global_219 ?_
                  refine q_goto 22 ok dX1_global_222 (by decide) ?_
                  have e : mBest (w * h) sam (t + 1) = _ := (if_neg (fun q => absurd q.2.1 (Int64.not_lt.mpr ((lg_cmp_le _ _).mp h174))))
                  have hz := fun u7 u9 u11 u13 u15 : Option q_V => ihL _ (by omega) (t + 1) u7 u9 u11 u13 u15 rfl (by omega)
                  rw [e] at hz
                  exact hz _ _ _ _ _
                · refine q_lload ok rfl dX1_global_177 ?_
                  refine q_lconstv (lN 0) ok rfl dX1_global_179 ?_
                  refine q_lcmp ok dX1_global_180 ?_
                  refine q_if_eq 203 ok dX1_global_181 (by decide) (fun h181 => ?_) (fun h181 => ?_)
                  · refine q_iload ok rfl dX1_global_203 ?_
                    refine q_istore_1 ok rfl dX1_global_205 ?_
                    refine q_lload ok rfl dX1_global_206 ?_
                    refine q_lload ok rfl dX1_global_208 ?_
                    refine q_lmul ok dX1_global_210 ?_
                    refine q_lstore_2 ok rfl dX1_global_211 ?_
                    refine q_lload ok rfl dX1_global_212 ?_
                    refine q_lload ok rfl dX1_global_214 ?_
                    refine q_lmulN ok dX1_global_216 ?_
                    refine q_lstore_4 ok rfl dX1_global_217 ?_
                    refine q_iincN_6 1 ok rfl (by decide) dX1_global_219 ?_
                    refine q_goto 22 ok dX1_global_222 (by decide) ?_
                    have e : mBest (w * h) sam (t + 1) = _ := (if_pos ⟨Int64.not_le.mp (mt (lg_cmp_le _ _).mpr h167), Int64.not_le.mp (mt (lg_cmp_le _ _).mpr h174), Or.inl ((lg_cmp_eq _ _).mp h181)⟩)
                    have hz := fun u7 u9 u11 u13 u15 : Option q_V => ihL _ (by omega) (t + 1) u7 u9 u11 u13 u15 rfl (by omega)
                    rw [e] at hz
                    exact hz _ _ _ _ _
                  · refine q_lload ok rfl dX1_global_184 ?_
                    refine q_lload ok rfl dX1_global_186 ?_
                    refine q_lmul ok dX1_global_188 ?_
                    refine q_lload ok rfl dX1_global_189 ?_
                    refine q_lmul ok dX1_global_191 ?_
                    refine q_lload_n ok rfl dX1_global_192 ?_
                    refine q_lload ok rfl dX1_global_193 ?_
                    refine q_lload ok rfl dX1_global_195 ?_
                    refine q_lmulN ok dX1_global_197 ?_
                    refine q_lmul ok dX1_global_198 ?_
                    refine q_lcmp ok dX1_global_199 ?_
                    refine q_if_le 219 ok dX1_global_200 (by decide) (fun h200 => ?_) (fun h200 => ?_)
                    · refine q_iincN_6 1 ok rfl (by decide) dX1_global_219 ?_
                      refine q_goto 22 ok dX1_global_222 (by decide) ?_
                      have e : mBest (w * h) sam (t + 1) = _ := (if_neg (fun q => q.2.2.elim (mt (lg_cmp_eq _ _).mpr h181) (fun z => absurd z (Int64.not_lt.mpr ((lg_cmp_le _ _).mp h200)))))
                      have hz := fun u7 u9 u11 u13 u15 : Option q_V => ihL _ (by omega) (t + 1) u7 u9 u11 u13 u15 rfl (by omega)
                      rw [e] at hz
                      exact hz _ _ _ _ _
                    · refine q_iload ok rfl dX1_global_203 ?_
                      refine q_istore_1 ok rfl dX1_global_205 ?_
                      refine q_lload ok rfl dX1_global_206 ?_
                      refine q_lload ok rfl dX1_global_208 ?_
                      refine q_lmul ok dX1_global_210 ?_
                      refine q_lstore_2 ok rfl dX1_global_211 ?_
                      refine q_lload ok rfl dX1_global_212 ?_
                      refine q_lload ok rfl dX1_global_214 ?_
                      refine q_lmulN ok dX1_global_216 ?_
                      refine q_lstore_4 ok rfl dX1_global_217 ?_
                      refine q_iincN_6 1 ok rfl (by decide) dX1_global_219 ?_
                      refine q_goto 22 ok dX1_global_222 (by decide) ?_
                      have e : mBest (w * h) sam (t + 1) = _ := (if_pos ⟨Int64.not_le.mp (mt (lg_cmp_le _ _).mpr h167), Int64.not_le.mp (mt (lg_cmp_le _ _).mpr h174), Or.inr (Int64.not_le.mp (mt (lg_cmp_le _ _).mpr h200))⟩)
                      have hz := fun u7 u9 u11 u13 u15 : Option q_V => ihL _ (by omega) (t + 1) u7 u9 u11 u13 u15 rfl (by omega)
                      rw [e] at hz
                      exact hz _ _ _ _ _
            · refine q_aload_n ok rfl dX1_global_51 ?_
              refine mg_samples ok dX1_global_52 ?_
              refine q_iload ok rfl dX1_global_55 ?_
              refine ml_sam g (by omega) ok dX1_global_57 ?_
              refine q_iload ok rfl dX1_global_58 ?_
              refine q_icmpN_gt 70 (by have := hs i (by omega); omega) (by omega) ok dX1_global_60 (by decide) (fun h60 => ?_) (fun h60 => ?_)
              · refine q_lload ok rfl dX1_global_70 ?_
                refine q_lstore_7 ok rfl dX1_global_72 ?_
                refine q_aload_n ok rfl dX1_global_74 ?_
                refine mg_samples ok dX1_global_75 ?_
                refine q_iload ok rfl dX1_global_78 ?_
                refine ml_sam g (by omega) ok dX1_global_80 ?_
                refine q_iload ok rfl dX1_global_81 ?_
                refine q_icmpN_gt 100 (by have := hs i (by omega); omega) (by omega) ok dX1_global_83 (by decide) (fun h83 => ?_) (fun h83 => ?_)
                · refine q_lload ok rfl dX1_global_100 ?_
                  refine q_lstore_9 ok rfl dX1_global_102 ?_
                  refine q_aload_n ok rfl dX1_global_104 ?_
                  refine mg_samples ok dX1_global_105 ?_
                  refine q_iload ok rfl dX1_global_108 ?_
                  refine ml_sam g (by omega) ok dX1_global_110 ?_
                  refine q_iload ok rfl dX1_global_111 ?_
                  refine q_icmpN_gt 121 (by have := hs i (by omega); omega) (by omega) ok dX1_global_113 (by decide) (fun h113 => ?_) (fun h113 => ?_)
                  · refine q_lload ok rfl dX1_global_121 ?_
                    refine q_aload_n ok rfl dX1_global_123 ?_
                    refine mg_samples ok dX1_global_124 ?_
                    refine q_iload ok rfl dX1_global_127 ?_
                    refine ml_sam g (by omega) ok dX1_global_129 ?_
                    refine q_i2lN (by have := hs i (by omega); omega) ok dX1_global_130 ?_
                    refine q_laddN ok dX1_global_131 ?_
                    refine q_lstore_11 ok rfl dX1_global_132 ?_
                    refine q_iincN_13 1 ok rfl (by decide) dX1_global_134 ?_
                    refine q_goto 42 ok dX1_global_137 (by decide) ?_
                    have e1 : NL (i + 1) sam (t + 1) = NL i sam (t + 1) := cntB_f (decide_eq_false (by omega))
                    have e2 : AL (i + 1) sam (t + 1) = AL i sam (t + 1) := by show _ + (if sam i < t + 1 then sam i else 0) = _; rw [if_neg (by omega)]; rfl
                    have e3 : BL (i + 1) sam (t + 1) = BL i sam (t + 1) + sam i := by show _ + (if sam i < t + 1 then 0 else sam i) = _; rw [if_neg (by omega)]; rfl
                    rw [← e1, ← e2, ← e3]
                    exact ihLI _ (by omega) (i + 1) _ rfl (by omega)
                  · exact absurd h60 h113
                · exact absurd h60 h83
              · refine q_lload ok rfl dX1_global_63 ?_
                refine q_lconstv (lN 1) ok rfl dX1_global_65 ?_
                refine q_laddN ok dX1_global_66 ?_
                refine q_goto 72 ok dX1_global_67 (by decide) ?_
                refine q_lstore_7 ok rfl dX1_global_72 ?_
                refine q_aload_n ok rfl dX1_global_74 ?_
                refine mg_samples ok dX1_global_75 ?_
                refine q_iload ok rfl dX1_global_78 ?_
                refine ml_sam g (by omega) ok dX1_global_80 ?_
                refine q_iload ok rfl dX1_global_81 ?_
                refine q_icmpN_gt 100 (by have := hs i (by omega); omega) (by omega) ok dX1_global_83 (by decide) (fun h83 => ?_) (fun h83 => ?_)
                · exact absurd h83 h60
                · refine q_lload ok rfl dX1_global_86 ?_
                  refine q_aload_n ok rfl dX1_global_88 ?_
                  refine mg_samples ok dX1_global_89 ?_
                  refine q_iload ok rfl dX1_global_92 ?_
                  refine ml_sam g (by omega) ok dX1_global_94 ?_
                  refine q_i2lN (by have := hs i (by omega); omega) ok dX1_global_95 ?_
                  refine q_laddN ok dX1_global_96 ?_
                  refine q_goto 102 ok dX1_global_97 (by decide) ?_
                  refine q_lstore_9 ok rfl dX1_global_102 ?_
                  refine q_aload_n ok rfl dX1_global_104 ?_
                  refine mg_samples ok dX1_global_105 ?_
                  refine q_iload ok rfl dX1_global_108 ?_
                  refine ml_sam g (by omega) ok dX1_global_110 ?_
                  refine q_iload ok rfl dX1_global_111 ?_
                  refine q_icmpN_gt 121 (by have := hs i (by omega); omega) (by omega) ok dX1_global_113 (by decide) (fun h113 => ?_) (fun h113 => ?_)
                  · exact absurd h113 h60
                  · refine q_lload ok rfl dX1_global_116 ?_
                    refine q_goto 132 ok dX1_global_118 (by decide) ?_
                    refine q_lstore_11 ok rfl dX1_global_132 ?_
                    refine q_iincN_13 1 ok rfl (by decide) dX1_global_134 ?_
                    refine q_goto 42 ok dX1_global_137 (by decide) ?_
                    have e1 : NL (i + 1) sam (t + 1) = NL i sam (t + 1) + 1 := cntB_t (decide_eq_true (by omega))
                    have e2 : AL (i + 1) sam (t + 1) = AL i sam (t + 1) + sam i := by show _ + (if sam i < t + 1 then sam i else 0) = _; rw [if_pos (by omega)]; rfl
                    have e3 : BL (i + 1) sam (t + 1) = BL i sam (t + 1) := by show _ + (if sam i < t + 1 then 0 else sam i) = _; rw [if_pos (by omega)]; rfl
                    rw [← e1, ← e2, ← e3]
                    exact ihLI _ (by omega) (i + 1) _ rfl (by omega)
        exact LI _ 0 u15 rfl (Nat.zero_le _)
  refine q_aload_n ok rfl dX1_global_0 ?_
  refine q_iconstv (nI 0) ok (by decide) dX1_global_1 ?_
  refine mp_thrown ok dX1_global_2 ?_
  refine q_aload_n ok rfl dX1_global_5 ?_
  refine mg_samples ok dX1_global_6 ?_
  refine q_iconstv (nI 0) ok (by decide) dX1_global_9 ?_
  refine ml_sam g (by omega) ok dX1_global_10 ?_
  refine q_iconstv (nI 1) ok (by decide) dX1_global_11 ?_
  refine q_isub ok dX1_global_12 ?_
  refine q_istore_1 ok rfl dX1_global_13 ?_
  refine q_lconstv (lN 0) ok rfl dX1_global_14 ?_
  refine q_lstore_2 ok rfl dX1_global_15 ?_
  refine q_lconstv (lN 0) ok rfl dX1_global_16 ?_
  refine q_lstore_4 ok rfl dX1_global_17 ?_
  refine q_iconstv (nI 0) ok (by decide) dX1_global_19 ?_
  refine q_istore_6 ok rfl dX1_global_20 ?_
  exact L _ 0 none none none none none rfl (Nat.zero_le _)
def rC (F : Nat → Nat) (w a c b d k : Nat) : Nat := if (a ≤ k % w ∧ k % w < a + c) ∧ (b ≤ k / w ∧ k / w < b + d) then F k else 0
theorem rC_t {F : Nat → Nat} {w a c b d k : Nat} (h : (a ≤ k % w ∧ k % w < a + c) ∧ (b ≤ k / w ∧ k / w < b + d)) : rC F w a c b d k = F k := if_pos h
theorem rC_f {F : Nat → Nat} {w a c b d k : Nat} (h : ¬ ((a ≤ k % w ∧ k % w < a + c) ∧ (b ≤ k / w ∧ k / w < b + d))) : rC F w a c b d k = 0 := if_neg h
theorem rC_RS {F : Nat → Nat} {w h a b c d : Nat} (h1 : a + c ≤ w) (h2 : b + d ≤ h) : sumN (rC F w a c b d) (w * h) = RS F w a b (a + c) (b + d) := RS_ind h1 h2
theorem fit_o {a c : Int32} {w : Nat} (hw : w ≤ 16) (h1 : ¬ a < 0) (h2 : ¬ c < 0) (h3 : ¬ 0 < lg_cmp (a.toInt64 + c.toInt64) (lN w)) : ∃ x y : Nat, x ≤ w ∧ y ≤ w - x ∧ a = nI x ∧ c = nI y := by
  obtain ⟨x, hx, rfl⟩ := nI_of h1
  obtain ⟨y, hy, rfl⟩ := nI_of h2
  rw [lg_cmp_gt, nI_l hx, nI_l hy, lN_add, pk_lLT (by omega) (by omega)] at h3
  exact ⟨x, y, by omega, by omega, rfl, rfl⟩
theorem fit_n {a c : Int32} {w : Nat} (hw : w ≤ 16) (h : a < 0 ∨ c < 0 ∨ 0 < lg_cmp (a.toInt64 + c.toInt64) (lN w)) : isP a c (nI w) = false := by
  refine decide_eq_false (fun q => ?_)
  obtain ⟨q1, q2, q3, q4⟩ := q
  have h1 := Int32.not_lt.mpr q1
  have h2 := Int32.not_lt.mpr q3
  obtain ⟨x, hx, rfl⟩ := nI_of h1
  obtain ⟨y, hy, rfl⟩ := nI_of h2
  have z1 := (nI_leI hx (by omega)).mp q2
  rw [pk_sub z1] at q4
  have z2 := (nI_leI hy (by omega)).mp q4
  rcases h with h | h | h
  · exact h1 h
  · exact h2 h
  · rw [lg_cmp_gt, nI_l hx, nI_l hy, lN_add, pk_lLT (by omega) (by omega)] at h
    omega
def sp_X1_sum : List q_V → List q_E → (Option q_V → List q_E → Prop) → Prop := fun as Wd K => ∃ (w : Nat) (h : Nat) (thr : Nat) (sam : Nat → Nat) (blk : Nat → Bool) (nxt : Nat → Bool) (came : Nat → Int32) (part : Nat → Int32) (rst : Int64) (a : Int32) (b : Int32) (c : Int32) (d : Int32) (e : Bool), (q_g w h) ∧ (∀ k, k < w * h → sam k < 256) ∧ as = [.inr (.inr (some 0)), .inl a, .inl b, .inl c, .inl d, .inl (bI e)] ∧ Wd = (mw w h thr sam blk nxt came part rst) ∧ (∀ (a2 b2 c2 d2 : Nat), a = nI a2 → b = nI b2 → c = nI c2 → d = nI d2 → a2 ≤ w → c2 ≤ w - a2 → b2 ≤ h → d2 ≤ h - b2 → K (some (.inr (.inl (lN (RS (if e = true then sq sam else sam) w a2 b2 (a2 + c2) (b2 + d2)))))) (mw w h (0) sam blk nxt came part rst)) ∧ ((isP a c (nI w) = false ∨ isP b d (nI h) = false) → K (some (.inr (.inl (lN 0)))) (mw w h (1) sam blk nxt came part rst))
set_option maxHeartbeats 4000000 in
set_option maxRecDepth 20000 in
theorem ct_X1_sum : q_Ct yX1_sum cX1_sum 13 (some .long) 1 20 sp_X1_sum := by
  refine q_met (by decide) ?_
  intro x as Wd K hs ok fn
  obtain ⟨w, h, thr, sam, blk, nxt, came, part, rst, a, b, c, d, e, g, hs, rfl, rfl, hk0, hk1⟩ := hs
  show q_W x 0 [some (.inr (.inr (some 0))), some (.inl a), some (.inl b), some (.inl c), some (.inl d), some (.inl (bI e)), none, none, none, none, none, none, none] [] (mw w h thr sam blk nxt came part rst)
  have hn := q_gn g
  have hn1 := q_gn1 g
  have hw := g.2.1
  have hw1 := g.1
  have hh := g.2.2.2
  refine q_iload_n ok rfl dX1_sum_0 ?_
  refine q_if_lt 50 ok dX1_sum_1 (by decide) (fun h1 => ?_) (fun h1 => ?_)
  · refine q_iconstv (nI 0) ok (by decide) dX1_sum_50 ?_
    refine q_istore_6 ok rfl dX1_sum_51 ?_
    refine q_aload_n ok rfl dX1_sum_53 ?_
    refine q_iload ok rfl dX1_sum_54 ?_
    refine q_if_eq 63 ok dX1_sum_56 (by decide) (fun _ => ?_) (fun hh => absurd (by decide) hh)
    refine q_iconstv (nI 1) ok (by decide) dX1_sum_63 ?_
    refine mp_thrown ok dX1_sum_64 ?_
    refine q_lconstv (lN 0) ok rfl dX1_sum_67 ?_
    refine q_lstore_7 ok rfl dX1_sum_68 ?_
    refine q_iconstv (nI 0) ok (by decide) dX1_sum_70 ?_
    refine q_istore_9 ok rfl dX1_sum_71 ?_
    refine q_iload ok rfl dX1_sum_73 ?_
    refine q_aload_n ok rfl dX1_sum_75 ?_
    refine kX1_all (by decide) (Nat.le_of_ble_eq_true rfl) ok dX1_sum_76 ?_
    refine q_icmpN_ge 193 (by omega) (by omega) ok dX1_sum_79 (by decide) (fun h79 => ?_) (fun h79 => ?_)
    · exact absurd h79 (by omega)
    · refine q_iload ok rfl dX1_sum_82 ?_
      refine q_if_eq 193 ok dX1_sum_84 (by decide) (fun _ => ?_) (fun hh => absurd (by decide) hh)
      refine q_lload ok rfl dX1_sum_193 ?_
      exact q_lret ok fn dX1_sum_195 (hk1 (Or.inl (fit_n hw (Or.inr (Or.inl h1)))))
  · refine q_iload ok rfl dX1_sum_4 ?_
    refine q_if_lt 50 ok dX1_sum_6 (by decide) (fun h6 => ?_) (fun h6 => ?_)
    · refine q_iconstv (nI 0) ok (by decide) dX1_sum_50 ?_
      refine q_istore_6 ok rfl dX1_sum_51 ?_
      refine q_aload_n ok rfl dX1_sum_53 ?_
      refine q_iload ok rfl dX1_sum_54 ?_
      refine q_if_eq 63 ok dX1_sum_56 (by decide) (fun _ => ?_) (fun hh => absurd (by decide) hh)
      refine q_iconstv (nI 1) ok (by decide) dX1_sum_63 ?_
      refine mp_thrown ok dX1_sum_64 ?_
      refine q_lconstv (lN 0) ok rfl dX1_sum_67 ?_
      refine q_lstore_7 ok rfl dX1_sum_68 ?_
      refine q_iconstv (nI 0) ok (by decide) dX1_sum_70 ?_
      refine q_istore_9 ok rfl dX1_sum_71 ?_
      refine q_iload ok rfl dX1_sum_73 ?_
      refine q_aload_n ok rfl dX1_sum_75 ?_
      refine kX1_all (by decide) (Nat.le_of_ble_eq_true rfl) ok dX1_sum_76 ?_
      refine q_icmpN_ge 193 (by omega) (by omega) ok dX1_sum_79 (by decide) (fun h79 => ?_) (fun h79 => ?_)
      · exact absurd h79 (by omega)
      · refine q_iload ok rfl dX1_sum_82 ?_
        refine q_if_eq 193 ok dX1_sum_84 (by decide) (fun _ => ?_) (fun hh => absurd (by decide) hh)
        refine q_lload ok rfl dX1_sum_193 ?_
        exact q_lret ok fn dX1_sum_195 (hk1 (Or.inr (fit_n hh (Or.inr (Or.inl h6)))))
    · refine q_iload_n ok rfl dX1_sum_9 ?_
      refine q_if_lt 50 ok dX1_sum_10 (by decide) (fun h10 => ?_) (fun h10 => ?_)
      · refine q_iconstv (nI 0) ok (by decide) dX1_sum_50 ?_
        refine q_istore_6 ok rfl dX1_sum_51 ?_
        refine q_aload_n ok rfl dX1_sum_53 ?_
        refine q_iload ok rfl dX1_sum_54 ?_
        refine q_if_eq 63 ok dX1_sum_56 (by decide) (fun _ => ?_) (fun hh => absurd (by decide) hh)
        refine q_iconstv (nI 1) ok (by decide) dX1_sum_63 ?_
        refine mp_thrown ok dX1_sum_64 ?_
        refine q_lconstv (lN 0) ok rfl dX1_sum_67 ?_
        refine q_lstore_7 ok rfl dX1_sum_68 ?_
        refine q_iconstv (nI 0) ok (by decide) dX1_sum_70 ?_
        refine q_istore_9 ok rfl dX1_sum_71 ?_
        refine q_iload ok rfl dX1_sum_73 ?_
        refine q_aload_n ok rfl dX1_sum_75 ?_
        refine kX1_all (by decide) (Nat.le_of_ble_eq_true rfl) ok dX1_sum_76 ?_
        refine q_icmpN_ge 193 (by omega) (by omega) ok dX1_sum_79 (by decide) (fun h79 => ?_) (fun h79 => ?_)
        · exact absurd h79 (by omega)
        · refine q_iload ok rfl dX1_sum_82 ?_
          refine q_if_eq 193 ok dX1_sum_84 (by decide) (fun _ => ?_) (fun hh => absurd (by decide) hh)
          refine q_lload ok rfl dX1_sum_193 ?_
          exact q_lret ok fn dX1_sum_195 (hk1 (Or.inl (fit_n hw (Or.inl h10))))
      · refine q_iload_n ok rfl dX1_sum_13 ?_
        refine q_if_lt 50 ok dX1_sum_14 (by decide) (fun h14 => ?_) (fun h14 => ?_)
        · refine q_iconstv (nI 0) ok (by decide) dX1_sum_50 ?_
          refine q_istore_6 ok rfl dX1_sum_51 ?_
          refine q_aload_n ok rfl dX1_sum_53 ?_
          refine q_iload ok rfl dX1_sum_54 ?_
          refine q_if_eq 63 ok dX1_sum_56 (by decide) (fun _ => ?_) (fun hh => absurd (by decide) hh)
          refine q_iconstv (nI 1) ok (by decide) dX1_sum_63 ?_
          refine mp_thrown ok dX1_sum_64 ?_
          refine q_lconstv (lN 0) ok rfl dX1_sum_67 ?_
          refine q_lstore_7 ok rfl dX1_sum_68 ?_
          refine q_iconstv (nI 0) ok (by decide) dX1_sum_70 ?_
          refine q_istore_9 ok rfl dX1_sum_71 ?_
          refine q_iload ok rfl dX1_sum_73 ?_
          refine q_aload_n ok rfl dX1_sum_75 ?_
          refine kX1_all (by decide) (Nat.le_of_ble_eq_true rfl) ok dX1_sum_76 ?_
          refine q_icmpN_ge 193 (by omega) (by omega) ok dX1_sum_79 (by decide) (fun h79 => ?_) (fun h79 => ?_)
          · exact absurd h79 (by omega)
          · refine q_iload ok rfl dX1_sum_82 ?_
            refine q_if_eq 193 ok dX1_sum_84 (by decide) (fun _ => ?_) (fun hh => absurd (by decide) hh)
            refine q_lload ok rfl dX1_sum_193 ?_
            exact q_lret ok fn dX1_sum_195 (hk1 (Or.inr (fit_n hh (Or.inl h14))))
        · refine q_iload_n ok rfl dX1_sum_17 ?_
          refine q_i2l ok dX1_sum_18 ?_
          refine q_iload_n ok rfl dX1_sum_19 ?_
          refine q_i2l ok dX1_sum_20 ?_
          refine q_ladd ok dX1_sum_21 ?_
          refine q_aload_n ok rfl dX1_sum_22 ?_
          refine mg_width ok dX1_sum_23 ?_
          refine q_i2lN (by omega) ok dX1_sum_26 ?_
          refine q_lcmp ok dX1_sum_27 ?_
          refine q_if_gt 50 ok dX1_sum_28 (by decide) (fun h28 => ?_) (fun h28 => ?_)
          · refine q_iconstv (nI 0) ok (by decide) dX1_sum_50 ?_
            refine q_istore_6 ok rfl dX1_sum_51 ?_
            refine q_aload_n ok rfl dX1_sum_53 ?_
            refine q_iload ok rfl dX1_sum_54 ?_
            refine q_if_eq 63 ok dX1_sum_56 (by decide) (fun _ => ?_) (fun hh => absurd (by decide) hh)
            refine q_iconstv (nI 1) ok (by decide) dX1_sum_63 ?_
            refine mp_thrown ok dX1_sum_64 ?_
            refine q_lconstv (lN 0) ok rfl dX1_sum_67 ?_
            refine q_lstore_7 ok rfl dX1_sum_68 ?_
            refine q_iconstv (nI 0) ok (by decide) dX1_sum_70 ?_
            refine q_istore_9 ok rfl dX1_sum_71 ?_
            refine q_iload ok rfl dX1_sum_73 ?_
            refine q_aload_n ok rfl dX1_sum_75 ?_
            refine kX1_all (by decide) (Nat.le_of_ble_eq_true rfl) ok dX1_sum_76 ?_
            refine q_icmpN_ge 193 (by omega) (by omega) ok dX1_sum_79 (by decide) (fun h79 => ?_) (fun h79 => ?_)
            · exact absurd h79 (by omega)
            · refine q_iload ok rfl dX1_sum_82 ?_
              refine q_if_eq 193 ok dX1_sum_84 (by decide) (fun _ => ?_) (fun hh => absurd (by decide) hh)
              refine q_lload ok rfl dX1_sum_193 ?_
              exact q_lret ok fn dX1_sum_195 (hk1 (Or.inl (fit_n hw (Or.inr (Or.inr h28)))))
          · refine q_iload_n ok rfl dX1_sum_31 ?_
            refine q_i2l ok dX1_sum_32 ?_
            refine q_iload ok rfl dX1_sum_33 ?_
            refine q_i2l ok dX1_sum_35 ?_
            refine q_ladd ok dX1_sum_36 ?_
            refine q_aload_n ok rfl dX1_sum_37 ?_
            refine mg_height ok dX1_sum_38 ?_
            refine q_i2lN (by omega) ok dX1_sum_41 ?_
            refine q_lcmp ok dX1_sum_42 ?_
            refine q_if_gt 50 ok dX1_sum_43 (by decide) (fun h43 => ?_) (fun h43 => ?_)
            · refine q_iconstv (nI 0) ok (by decide) dX1_sum_50 ?_
              refine q_istore_6 ok rfl dX1_sum_51 ?_
              refine q_aload_n ok rfl dX1_sum_53 ?_
              refine q_iload ok rfl dX1_sum_54 ?_
              refine q_if_eq 63 ok dX1_sum_56 (by decide) (fun _ => ?_) (fun hh => absurd (by decide) hh)
              refine q_iconstv (nI 1) ok (by decide) dX1_sum_63 ?_
              refine mp_thrown ok dX1_sum_64 ?_
              refine q_lconstv (lN 0) ok rfl dX1_sum_67 ?_
              refine q_lstore_7 ok rfl dX1_sum_68 ?_
              refine q_iconstv (nI 0) ok (by decide) dX1_sum_70 ?_
              refine q_istore_9 ok rfl dX1_sum_71 ?_
              refine q_iload ok rfl dX1_sum_73 ?_
              refine q_aload_n ok rfl dX1_sum_75 ?_
              refine kX1_all (by decide) (Nat.le_of_ble_eq_true rfl) ok dX1_sum_76 ?_
              refine q_icmpN_ge 193 (by omega) (by omega) ok dX1_sum_79 (by decide) (fun h79 => ?_) (fun h79 => ?_)
              · exact absurd h79 (by omega)
              · refine q_iload ok rfl dX1_sum_82 ?_
                refine q_if_eq 193 ok dX1_sum_84 (by decide) (fun _ => ?_) (fun hh => absurd (by decide) hh)
                refine q_lload ok rfl dX1_sum_193 ?_
                exact q_lret ok fn dX1_sum_195 (hk1 (Or.inr (fit_n hh (Or.inr (Or.inr h43)))))
            · refine q_iconstv (nI 1) ok (by decide) dX1_sum_46 ?_
              refine q_goto 51 ok dX1_sum_47 (by decide) ?_
              refine q_istore_6 ok rfl dX1_sum_51 ?_
              refine q_aload_n ok rfl dX1_sum_53 ?_
              refine q_iload ok rfl dX1_sum_54 ?_
              refine q_if_eq 63 ok dX1_sum_56 (by decide) (fun hh => absurd hh (by decide)) (fun _ => ?_)
              refine q_iconstv (nI 0) ok (by decide) dX1_sum_59 ?_
              refine q_goto 64 ok dX1_sum_60 (by decide) ?_
              refine mp_thrown ok dX1_sum_64 ?_
              refine q_lconstv (lN 0) ok rfl dX1_sum_67 ?_
              refine q_lstore_7 ok rfl dX1_sum_68 ?_
              refine q_iconstv (nI 0) ok (by decide) dX1_sum_70 ?_
              refine q_istore_9 ok rfl dX1_sum_71 ?_
              obtain ⟨a2, c2, ha2, hc2, rfl, rfl⟩ := fit_o hw h10 h1 h28
              obtain ⟨b2, d2, hb2, hd2, rfl, rfl⟩ := fit_o hh h14 h6 h43
              have hk0 := hk0 a2 b2 c2 d2 rfl rfl rfl rfl ha2 hc2 hb2 hd2
              have L : ∀ (dL i : Nat) (u10 u11 u12 : Option q_V), dL = w * h - i → i ≤ w * h → q_W x 73 [some (.inr (.inr (some 0))), some (.inl (nI (a2))), some (.inl (nI (b2))), some (.inl (nI (c2))), some (.inl (nI (d2))), some (.inl (bI (e))), some (.inl (nI (1))), some (.inr (.inl (lN (sumN (rC (if e = true then sq sam else sam) w a2 c2 b2 d2) i)))), none, some (.inl (nI (i))), u10, u11, u12] [] (mw w h (0) sam blk nxt came part rst) := by
                intro dL
                induction dL using Nat.strongRecOn with
                | _ dL ihL =>
                  intro i u10 u11 u12 hdL hiL 
                  refine q_iload ok rfl dX1_sum_73 ?_
                  refine q_aload_n ok rfl dX1_sum_75 ?_
                  refine kX1_all (by decide) (Nat.le_of_ble_eq_true rfl) ok dX1_sum_76 ?_
                  refine q_icmpN_ge 193 (by omega) (by omega) ok dX1_sum_79 (by decide) (fun h79 => ?_) (fun h79 => ?_)
                  · refine q_lload ok rfl dX1_sum_193 ?_
                    exact q_lret ok fn dX1_sum_195 (by rw [show i = w * h by omega, rC_RS (by omega) (by omega)]; exact hk0)
                  · refine q_iload ok rfl dX1_sum_82 ?_
                    refine q_if_eq 193 ok dX1_sum_84 (by decide) (fun hh => absurd hh (by decide)) (fun _ => ?_)
                    have hil : i < w * h := by omega
                    have hmi := Nat.mod_lt i (show w > 0 by omega)
                    have hdi : i / w < h := Nat.div_lt_of_lt_mul hil
                    have hsi := hs i hil
                    have hq2 : sam i * sam i ≤ 255 * 255 := Nat.mul_le_mul (by omega) (by omega)
                    refine q_iload ok rfl dX1_sum_87 ?_
                    refine q_aload_n ok rfl dX1_sum_89 ?_
                    refine mg_width ok dX1_sum_90 ?_
                    refine q_iremN (by omega) (by omega) (by omega) ok dX1_sum_93 ?_
                    refine q_istore_10 ok rfl dX1_sum_94 ?_
                    refine q_iload ok rfl dX1_sum_96 ?_
                    refine q_aload_n ok rfl dX1_sum_98 ?_
                    refine mg_width ok dX1_sum_99 ?_
                    refine q_idivN (by omega) (by omega) (by omega) ok dX1_sum_102 ?_
                    refine q_istore_11 ok rfl dX1_sum_103 ?_
                    refine q_iload ok rfl dX1_sum_105 ?_
                    refine q_iload_n ok rfl dX1_sum_107 ?_
                    refine q_icmpN_lt 138 (by omega) (by omega) ok dX1_sum_108 (by decide) (fun h108 => ?_) (fun h108 => ?_)
                    · refine q_iconstv (nI 0) ok (by decide) dX1_sum_138 ?_
                      refine q_istore_12 ok rfl dX1_sum_139 ?_
                      refine q_iload ok rfl dX1_sum_141 ?_
                      refine q_if_eq 183 ok dX1_sum_143 (by decide) (fun _ => ?_) (fun hh => absurd (by decide) hh)
                      refine q_lload ok rfl dX1_sum_183 ?_
                      refine q_lstore_7 ok rfl dX1_sum_185 ?_
                      refine q_iincN_9 1 ok rfl (by decide) dX1_sum_187 ?_
                      refine q_goto 73 ok dX1_sum_190 (by decide) ?_
                      have e1 : sumN (rC (if e = true then sq sam else sam) w a2 c2 b2 d2) (i + 1) = sumN (rC (if e = true then sq sam else sam) w a2 c2 b2 d2) i := by show sumN _ i + rC (if e = true then sq sam else sam) w a2 c2 b2 d2 i = _; rw [rC_f (by omega)]; rfl
                      rw [← e1]
                      exact ihL _ (by omega) (i + 1) _ _ _ rfl (by omega)
                    · refine q_iload ok rfl dX1_sum_111 ?_
                      refine q_iload_n ok rfl dX1_sum_113 ?_
                      refine q_iload_n ok rfl dX1_sum_114 ?_
                      refine q_iaddN ok dX1_sum_115 ?_
                      refine q_icmpN_ge 138 (by omega) (by omega) ok dX1_sum_116 (by decide) (fun h116 => ?_) (fun h116 => ?_)
                      · refine q_iconstv (nI 0) ok (by decide) dX1_sum_138 ?_
                        refine q_istore_12 ok rfl dX1_sum_139 ?_
                        refine q_iload ok rfl dX1_sum_141 ?_
                        refine q_if_eq 183 ok dX1_sum_143 (by decide) (fun _ => ?_) (fun hh => absurd (by decide) hh)
                        refine q_lload ok rfl dX1_sum_183 ?_
                        refine q_lstore_7 ok rfl dX1_sum_185 ?_
                        refine q_iincN_9 1 ok rfl (by decide) dX1_sum_187 ?_
                        refine q_goto 73 ok dX1_sum_190 (by decide) ?_
                        have e1 : sumN (rC (if e = true then sq sam else sam) w a2 c2 b2 d2) (i + 1) = sumN (rC (if e = true then sq sam else sam) w a2 c2 b2 d2) i := by show sumN _ i + rC (if e = true then sq sam else sam) w a2 c2 b2 d2 i = _; rw [rC_f (by omega)]; rfl
                        rw [← e1]
                        exact ihL _ (by omega) (i + 1) _ _ _ rfl (by omega)
                      · refine q_iload ok rfl dX1_sum_119 ?_
                        refine q_iload_n ok rfl dX1_sum_121 ?_
                        refine q_icmpN_lt 138 (by omega) (by omega) ok dX1_sum_122 (by decide) (fun h122 => ?_) (fun h122 => ?_)
                        · refine q_iconstv (nI 0) ok (by decide) dX1_sum_138 ?_
                          refine q_istore_12 ok rfl dX1_sum_139 ?_
                          refine q_iload ok rfl dX1_sum_141 ?_
                          refine q_if_eq 183 ok dX1_sum_143 (by decide) (fun _ => ?_) (fun hh => absurd (by decide) hh)
                          refine q_lload ok rfl dX1_sum_183 ?_
                          refine q_lstore_7 ok rfl dX1_sum_185 ?_
                          refine q_iincN_9 1 ok rfl (by decide) dX1_sum_187 ?_
                          refine q_goto 73 ok dX1_sum_190 (by decide) ?_
                          have e1 : sumN (rC (if e = true then sq sam else sam) w a2 c2 b2 d2) (i + 1) = sumN (rC (if e = true then sq sam else sam) w a2 c2 b2 d2) i := by show sumN _ i + rC (if e = true then sq sam else sam) w a2 c2 b2 d2 i = _; rw [rC_f (by omega)]; rfl
                          rw [← e1]
                          exact ihL _ (by omega) (i + 1) _ _ _ rfl (by omega)
                        · refine q_iload ok rfl dX1_sum_125 ?_
                          refine q_iload_n ok rfl dX1_sum_127 ?_
                          refine q_iload ok rfl dX1_sum_128 ?_
                          refine q_iaddN ok dX1_sum_130 ?_
                          refine q_icmpN_ge 138 (by omega) (by omega) ok dX1_sum_131 (by decide) (fun h131 => ?_) (fun h131 => ?_)
                          · refine q_iconstv (nI 0) ok (by decide) dX1_sum_138 ?_
                            refine q_istore_12 ok rfl dX1_sum_139 ?_
                            refine q_iload ok rfl dX1_sum_141 ?_
                            refine q_if_eq 183 ok dX1_sum_143 (by decide) (fun _ => ?_) (fun hh => absurd (by decide) hh)
                            refine q_lload ok rfl dX1_sum_183 ?_
                            refine q_lstore_7 ok rfl dX1_sum_185 ?_
                            refine q_iincN_9 1 ok rfl (by decide) dX1_sum_187 ?_
                            refine q_goto 73 ok dX1_sum_190 (by decide) ?_
                            have e1 : sumN (rC (if e = true then sq sam else sam) w a2 c2 b2 d2) (i + 1) = sumN (rC (if e = true then sq sam else sam) w a2 c2 b2 d2) i := by show sumN _ i + rC (if e = true then sq sam else sam) w a2 c2 b2 d2 i = _; rw [rC_f (by omega)]; rfl
                            rw [← e1]
                            exact ihL _ (by omega) (i + 1) _ _ _ rfl (by omega)
                          · refine q_iconstv (nI 1) ok (by decide) dX1_sum_134 ?_
                            refine q_goto 139 ok dX1_sum_135 (by decide) ?_
                            refine q_istore_12 ok rfl dX1_sum_139 ?_
                            refine q_iload ok rfl dX1_sum_141 ?_
                            refine q_if_eq 183 ok dX1_sum_143 (by decide) (fun hh => absurd hh (by decide)) (fun _ => ?_)
                            refine q_lload ok rfl dX1_sum_146 ?_
                            refine q_iload ok rfl dX1_sum_148 ?_
                            refine q_ifb_eq 171 ok dX1_sum_150 (by decide) (fun h150 => ?_) (fun h150 => ?_)
                            · refine q_aload_n ok rfl dX1_sum_171 ?_
                              refine mg_samples ok dX1_sum_172 ?_
                              refine q_iload ok rfl dX1_sum_175 ?_
                              refine ml_sam g (by omega) ok dX1_sum_177 ?_
                              refine q_i2lN (by omega) ok dX1_sum_178 ?_
                              refine q_laddN ok dX1_sum_179 ?_
                              refine q_goto 185 ok dX1_sum_180 (by decide) ?_
                              refine q_lstore_7 ok rfl dX1_sum_185 ?_
                              refine q_iincN_9 1 ok rfl (by decide) dX1_sum_187 ?_
                              refine q_goto 73 ok dX1_sum_190 (by decide) ?_
                              have e1 : sumN (rC (if e = true then sq sam else sam) w a2 c2 b2 d2) (i + 1) = sumN (rC (if e = true then sq sam else sam) w a2 c2 b2 d2) i + sam i := by show sumN _ i + rC (if e = true then sq sam else sam) w a2 c2 b2 d2 i = _; rw [rC_t (by omega), h150]; rfl
                              rw [← e1]
                              exact ihL _ (by omega) (i + 1) _ _ _ rfl (by omega)
                            · refine q_aload_n ok rfl dX1_sum_153 ?_
                              refine mg_samples ok dX1_sum_154 ?_
                              refine q_iload ok rfl dX1_sum_157 ?_
                              refine ml_sam g (by omega) ok dX1_sum_159 ?_
                              refine q_aload_n ok rfl dX1_sum_160 ?_
                              refine mg_samples ok dX1_sum_161 ?_
                              refine q_iload ok rfl dX1_sum_164 ?_
                              refine ml_sam g (by omega) ok dX1_sum_166 ?_
                              refine q_imulN ok dX1_sum_167 ?_
                              refine q_goto 178 ok dX1_sum_168 (by decide) ?_
                              refine q_i2lN (by omega) ok dX1_sum_178 ?_
                              refine q_laddN ok dX1_sum_179 ?_
                              refine q_goto 185 ok dX1_sum_180 (by decide) ?_
                              refine q_lstore_7 ok rfl dX1_sum_185 ?_
                              refine q_iincN_9 1 ok rfl (by decide) dX1_sum_187 ?_
                              refine q_goto 73 ok dX1_sum_190 (by decide) ?_
                              have e1 : sumN (rC (if e = true then sq sam else sam) w a2 c2 b2 d2) (i + 1) = sumN (rC (if e = true then sq sam else sam) w a2 c2 b2 d2) i + sam i * sam i := by show sumN _ i + rC (if e = true then sq sam else sam) w a2 c2 b2 d2 i = _; rw [rC_t (by omega), h150]; rfl
                              rw [← e1]
                              exact ihL _ (by omega) (i + 1) _ _ _ rfl (by omega)
              exact L _ 0 none none none rfl (Nat.zero_le _)
