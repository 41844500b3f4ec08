-- FIFTH LEVEL of the class: round a sample, the best bound, sums of rectangles, windows, cells
theorem bUp_inv {n : Nat} {sam : Nat → Nat} {hi : Int32} {p : Nat} {t : q_U} (hp : p < n) (h1 : t.2.2 = cntB t.1 n) : (bUp sam hi p t).2.2 = cntB (bUp sam hi p t).1 n := by
  unfold bUp
  split
  · rename_i h2
    have h3 : t.1 p = false := by
      unfold bUpC at h2
      rw [Bool.and_eq_true] at h2
      simpa using h2.1
    dsimp only
    rw [cntB_up h3 hp, h1]
  · exact h1
theorem bUp_q {n : Nat} {t : q_U} (h1 : t.2.2 = cntB t.1 n) : ∀ k, k < n → t.1 k = false → t.2.2 < n := fun k hk hf => by rw [h1]; exact cntB_lt hf hk

def sp_X0_blackenRound : List q_V → List q_E → (Option q_V → List q_E → Prop) → Prop := fun as Wd K => ∃ (w : Nat) (h : Nat) (sam : Nat → Nat) (blk : Nat → Bool) (lost : Int64) (ogr : Nat → Nat) (came : Nat → Int32) (sums : Nat → Int64) (sqs : Nat → Int64) (mrk : Nat → Bool) (que : Nat → Nat) (qd : Nat) (i : Nat) (j : Nat) (hi : Int32), (q_g w h) ∧ (i < w) ∧ (j < h) ∧ (qd = cntB blk (w * h)) ∧ as = [.inr (.inr (some 0)), .inl (nI i), .inl (nI j), .inl hi] ∧ Wd = (xw w h sam blk lost ogr came sums sqs mrk que qd) ∧ (K none (xw w h sam ((bRnd w h sam hi (nI i - nI 1) (nI j - nI 1) 3 (blk, que, qd)).1) lost ogr came sums sqs mrk ((bRnd w h sam hi (nI i - nI 1) (nI j - nI 1) 3 (blk, que, qd)).2.1) ((bRnd w h sam hi (nI i - nI 1) (nI j - nI 1) 3 (blk, que, qd)).2.2)))
set_option maxHeartbeats 4000000 in
set_option maxRecDepth 20000 in
theorem ct_X0_blackenRound : q_Ct yX0_blackenRound cX0_blackenRound 6 none 2 43 sp_X0_blackenRound := by
  refine q_met (by decide) ?_
  intro x as Wd K hs ok fn
  obtain ⟨w, h, sam, blk, lost, ogr, came, sums, sqs, mrk, que, qd, i, j, hi, g, h1, h2, hq, rfl, rfl, hk⟩ := hs
  show q_W x 0 [some (.inr (.inr (some 0))), some (.inl (nI i)), some (.inl (nI j)), some (.inl hi), none, none] [] (xw w h sam blk lost ogr came sums sqs mrk que qd)
  have hw := g.2.1
  have hh := g.2.2.2
  have hn := q_gn g
  have L : ∀ (dL t : Nat) (T : q_U) (b : Int32), dL = 3 - t → t ≤ 3 → T = bRnd w h sam hi (nI i - nI 1) (nI j - nI 1) t (blk, que, qd) → T.2.2 = cntB T.1 (w * h) → nI j - nI 1 + nI t = b → ∀ o5 : Option q_V, q_W x 5 [some (.inr (.inr (some 0))), some (.inl (nI (i))), some (.inl (nI (j))), some (.inl (hi)), some (.inl b), o5] [] (xw w h sam (T.1) lost ogr came sums sqs mrk (T.2.1) (T.2.2)) := by
    intro dL
    induction dL using Nat.strongRecOn with
    | _ dL ihL =>
      intro t T b hdL hiL hT hI0 hb o5
      refine q_iload ok rfl dX0_blackenRound_5 ?_
      refine q_iload_n ok rfl dX0_blackenRound_7 ?_
      refine q_iconstv (nI 1) ok (by decide) dX0_blackenRound_8 ?_
      refine q_iaddN ok dX0_blackenRound_9 ?_
      refine q_icmp_gt 62 ok dX0_blackenRound_10 (by decide) (fun h10 => ?_) (fun h10 => ?_)
      · exact q_vret ok fn dX0_blackenRound_62 (by
          have : t = 3 := by
            have := (cmp3 j (by omega) t (by omega)).mp (by rw [hb]; exact h10)
            omega
          subst this; rw [← hT] at hk; exact hk)
      · refine q_iload_n ok rfl dX0_blackenRound_13 ?_
        refine q_iconstv (nI 1) ok (by decide) dX0_blackenRound_14 ?_
        refine q_isub ok dX0_blackenRound_15 ?_
        refine q_istore_5 ok rfl dX0_blackenRound_16 ?_
        have ht3 : t < 3 := by
          have := mt (cmp3 j (by omega) t (by omega)).mpr (by rw [hb]; exact h10)
          omega
        have LI : ∀ (dLI s : Nat) (U : q_U) (z : Int32), dLI = 3 - s → s ≤ 3 → U = bRow w h sam hi (nI i - nI 1) b s T → U.2.2 = cntB U.1 (w * h) → nI i - nI 1 + nI s = z → q_W x 18 [some (.inr (.inr (some 0))), some (.inl (nI (i))), some (.inl (nI (j))), some (.inl (hi)), some (.inl (b)), some (.inl z)] [] (xw w h sam (U.1) lost ogr came sums sqs mrk (U.2.1) (U.2.2)) := by
          intro dLI
          induction dLI using Nat.strongRecOn with
          | _ dLI ihLI =>
            intro s U z hdLI hiLI hU hI hz
            refine q_iload ok rfl dX0_blackenRound_18 ?_
            refine q_iload_n ok rfl dX0_blackenRound_20 ?_
            refine q_iconstv (nI 1) ok (by decide) dX0_blackenRound_21 ?_
            refine q_iaddN ok dX0_blackenRound_22 ?_
            refine q_icmp_gt 56 ok dX0_blackenRound_23 (by decide) (fun h23 => ?_) (fun h23 => ?_)
            · refine q_iinc_4 (nI 1) ok rfl (by decide) dX0_blackenRound_56 ?_
              refine q_goto 5 ok dX0_blackenRound_59 (by decide) ?_
              have : s = 3 := by
                have := (cmp3 i (by omega) s (by omega)).mp (by rw [hz]; exact h23)
                omega
              subst this
              rw [← hb, Int32.add_assoc, nI_add t 1]
              exact ihL _ (by omega) (t + 1) U _ rfl (by omega) (by rw [hU, hT, ← hb]; rfl) hI rfl (some (.inl z))
            · have hs3 : s < 3 := by
                have := mt (cmp3 i (by omega) s (by omega)).mpr (by rw [hz]; exact h23)
                omega
              refine q_aload_n ok rfl dX0_blackenRound_26 ?_
              refine q_iload ok rfl dX0_blackenRound_27 ?_
              refine q_iload ok rfl dX0_blackenRound_29 ?_
              refine kX0_isInside (by decide) (Nat.le_of_ble_eq_true rfl) ok dX0_blackenRound_31 ?_
              refine q_ifb_eq 50 ok dX0_blackenRound_34 (by decide) (fun h34 => ?_) (fun h34 => ?_)
              · refine q_iinc_5 (nI 1) ok rfl (by decide) dX0_blackenRound_50 ?_
                refine q_goto 18 ok dX0_blackenRound_53 (by decide) ?_
                have e : bRow w h sam hi (nI i - nI 1) b (s + 1) T = U := by
                  simp only [bRow, bUpI]; rw [hz, h34, hU]; rfl
                rw [← hz, Int32.add_assoc, nI_add s 1]
                exact ihLI _ (by omega) (s + 1) U _ rfl (by omega) e.symm hI rfl
              · obtain ⟨i2, j2, hi2, hj2, rfl, rfl⟩ := inI_o g h34
                have hp := pl_lt hi2 hj2
                have hq := bUp_q hI
                refine q_aload_n ok rfl dX0_blackenRound_37 ?_
                refine q_aload_n ok rfl dX0_blackenRound_38 ?_
                refine q_iload ok rfl dX0_blackenRound_39 ?_
                refine q_iload ok rfl dX0_blackenRound_41 ?_
                refine kX0_placeOf (by decide) (Nat.le_of_ble_eq_true rfl) ok dX0_blackenRound_43 ?_
                refine q_iload_n ok rfl dX0_blackenRound_46 ?_
                refine kX0_blackenUpTo g hp hq (by decide) (Nat.le_of_ble_eq_true rfl) ok dX0_blackenRound_47 ?_
                refine q_iincN_5 1 ok rfl (by decide) dX0_blackenRound_50 ?_
                refine q_goto 18 ok dX0_blackenRound_53 (by decide) ?_
                have e : bRow w h sam hi (nI i - nI 1) (nI j2) (s + 1) T = bUp sam hi (j2 * w + i2) U := by
                  simp only [bRow, bUpI]; rw [hz, if_pos h34, pI_n (by omega) (by omega), hU]
                rw [← nI_add i2 1, ← hz, Int32.add_assoc, nI_add s 1]
                exact ihLI _ (by omega) (s + 1) (bUp sam hi (j2 * w + i2) U) _ rfl (by omega) e.symm (bUp_inv hp hI) rfl
        have := LI _ 0 T (nI i - nI 1) rfl (Nat.zero_le _) rfl hI0 (by rw [nI_0, Int32.add_zero])
        exact this
  refine q_iload_n ok rfl dX0_blackenRound_0 ?_
  refine q_iconstv (nI 1) ok (by decide) dX0_blackenRound_1 ?_
  refine q_isub ok dX0_blackenRound_2 ?_
  refine q_istore_4 ok rfl dX0_blackenRound_3 ?_
  exact L _ 0 (blk, que, qd) (nI j - nI 1) rfl (Nat.zero_le _) rfl hq (by rw [nI_0, Int32.add_zero]) none
theorem kX0_blackenRound {x : q_X} {cc : ByteArray} {fr lo pc : Nat} {lv : List (Option q_V)} {st : List q_V} {w : Nat} {h : Nat} {sam : Nat → Nat} {blk : Nat → Bool} {lost : Int64} {ogr : Nat → Nat} {came : Nat → Int32} {sums : Nat → Int64} {sqs : Nat → Int64} {mrk : Nat → Bool} {que : Nat → Nat} {qd : Nat} {i : Nat} {j : Nat} {hi : Int32} (g : q_g w h) (h1 : i < w) (h2 : j < h) (hq : qd = cntB blk (w * h)) (hR : 2 + 1 ≤ fr ∧ 8 + (6 + 11) + 43 ≤ lo) (hst : (st.map (fun v => if q_nol (some v) then 1 else 2)).sum ≤ 8) (ok : q_ok x cc RX0 fr lo) (hd : decode cc pc = .ok (.invokevirtual 134, 3)) (kk : q_W x (pc + 3) lv (st) (xw w h sam ((bRnd w h sam hi (nI i - nI 1) (nI j - nI 1) 3 (blk, que, qd)).1) lost ogr came sums sqs mrk ((bRnd w h sam hi (nI i - nI 1) (nI j - nI 1) 3 (blk, que, qd)).2.1) ((bRnd w h sam hi (nI i - nI 1) (nI j - nI 1) 3 (blk, que, qd)).2.2))) : q_W x pc lv (.inl hi :: .inl (nI j) :: .inl (nI i) :: .inr (.inr (some 0)) :: st) (xw w h sam blk lost ogr came sums sqs mrk que qd) :=
  q_callV [.inl (nI i), .inl (nI j), .inl hi] ct_X0_blackenRound lkX0_X0_blackenRound dc_X0_blackenRound rfl ok rfl hR hst (Nat.le_of_ble_eq_true rfl) hd ⟨w, h, sam, blk, lost, ogr, came, sums, sqs, mrk, que, qd, i, j, hi, g, h1, h2, hq, rfl, rfl, kk⟩
def NL (n : Nat) (sam : Nat → Nat) (t : Nat) : Nat := cntB (fun k => decide (sam k < t)) n
def AL (n : Nat) (sam : Nat → Nat) (t : Nat) : Nat := sumN (fun k => if sam k < t then sam k else 0) n
theorem NL_0 (n : Nat) (sam : Nat → Nat) : NL n sam 0 = 0 := cntB_0 (fun k _ => by simp)
theorem NL_s (n : Nat) (sam : Nat → Nat) (t : Nat) : NL n sam (t + 1) = NL n sam t + cntB (fun k => sam k == t) n := by
  unfold NL
  rw [← cntB_or (f := fun k => decide (sam k < t)) (g := fun k => sam k == t) (fun k _ h => by simp at h ⊢; omega)]
  refine cntB_congr (fun k _ => ?_)
  rw [Bool.eq_iff_iff, Bool.or_eq_true, decide_eq_true_iff, decide_eq_true_iff, beq_iff_eq]
  omega
theorem NL_le (n : Nat) (sam : Nat → Nat) (t : Nat) : NL n sam t ≤ n := cntB_le _ _
theorem sumN_le {f g : Nat → Nat} : ∀ {n : Nat}, (∀ k, k < n → f k ≤ g k) → sumN f n ≤ sumN g n
  | 0, _ => Nat.le_refl _
  | n + 1, h => Nat.add_le_add (sumN_le (fun k hk => h k (by omega))) (h n (by omega))
theorem sumN_congr {f g : Nat → Nat} : ∀ {n : Nat}, (∀ k, k < n → f k = g k) → sumN f n = sumN g n
  | 0, _ => rfl
  | n + 1, h => by simp only [sumN]; rw [sumN_congr (fun k hk => h k (by omega)), h n (by omega)]
theorem AL_le (n : Nat) (sam : Nat → Nat) (t : Nat) : AL n sam t ≤ sumN sam n := sumN_le (fun k _ => by split <;> omega)
theorem AL_0 (sam : Nat → Nat) : ∀ n : Nat, AL n sam 0 = 0
  | 0 => rfl
  | n + 1 => by have := AL_0 sam n; unfold AL at this ⊢; simp only [sumN]; rw [this]; simp
theorem AL_s (sam : Nat → Nat) (t : Nat) : ∀ n : Nat, AL n sam (t + 1) = AL n sam t + t * cntB (fun k => sam k == t) n
  | 0 => by simp [AL, sumN, cntB]
  | n + 1 => by
    have ih := AL_s sam t n
    unfold AL at ih ⊢
    simp only [sumN]
    rw [ih]
    by_cases h2 : sam n = t
    · rw [cntB_t (f := fun k => sam k == t) (n := n) (by simp [h2]), if_pos (by omega), if_neg (by omega), Nat.mul_add, Nat.mul_one]; omega
    · rw [cntB_f (f := fun k => sam k == t) (n := n) (by simp [h2])]
      by_cases h1 : sam n < t
      · rw [if_pos (by omega), if_pos h1]; omega
      · rw [if_neg (by omega), if_neg h1]; omega
def gAp (n all N A : Nat) : Int64 := lN (A * (n - N)) - lN ((all - A) * N)
abbrev q_K : Type := Int32 × (Int64 × Int64)
def gSt (n all N A t : Nat) (s : q_K) : q_K := if lN 0 < lN (N * (n - N)) ∧ s.2.1 * lN (N * (n - N)) < gAp n all N A * gAp n all N A * s.2.2 then (nI t, (gAp n all N A * gAp n all N A, lN (N * (n - N)))) else s
def gBest (n : Nat) (sam : Nat → Nat) : Nat → q_K
  | 0 => (nI (sam 0) - nI 1, (lN 0, lN 1))
  | t + 1 => gSt n (sumN sam n) (NL n sam (t + 1)) (AL n sam (t + 1)) t (gBest n sam t)

def sp_X0_bestBound : List q_V → List q_E → (Option q_V → List q_E → Prop) → Prop := fun as Wd K => ∃ (w : Nat) (h : Nat) (sam : Nat → Nat) (blk : Nat → Bool) (lost : Int64) (ogr : Nat → Nat) (came : Nat → Int32) (sums : Nat → Int64) (sqs : Nat → Int64) (mrk : Nat → Bool) (que : Nat → Nat) (qd : Nat), (q_g w h) ∧ (∀ k, k < w * h → sam k < 256) ∧ as = [.inr (.inr (some 0))] ∧ Wd = (xw w h sam blk lost ogr came sums sqs mrk que qd) ∧ (K (some (.inl ((gBest (w * h) sam 255).1))) (xw w h sam blk lost (fun g => if g < 256 then cntB (fun k => sam k == g) (w * h) else ogr g) came sums sqs mrk que qd))
set_option maxHeartbeats 4000000 in
set_option maxRecDepth 20000 in
theorem ct_X0_bestBound : q_Ct yX0_bestBound cX0_bestBound 21 (some .int) 2 45 sp_X0_bestBound := by
  refine q_met (by decide) ?_
  intro x as Wd K hs ok fn
  obtain ⟨w, h, sam, blk, lost, ogr, came, sums, sqs, mrk, que, qd, g, hs, rfl, rfl, hk⟩ := hs
  show q_W x 0 [some (.inr (.inr (some 0))), none, none, none, none, none, none, none, none, none, none, none, none, none, none, none, none, none, none, none, none] [] (xw w h sam blk lost ogr came sums sqs mrk que qd)
  have hn := q_gn g
  have hn1 := q_gn1 g
  have L : ∀ (dL t : Nat) (u1 u2 u3 u4 u5 u6 u7 u8 : Option q_V), dL = 255 - t → t ≤ 255 → q_nol u2 = true → q_nol u4 = true → q_nol u6 = true → q_nol u8 = true → q_W x 33 [some (.inr (.inr (some 0))), some (.inr (.inl (lN (sumN sam (w * h))))), none, some (.inl ((gBest (w * h) sam t).1)), some (.inr (.inl ((gBest (w * h) sam t).2.1))), none, some (.inr (.inl ((gBest (w * h) sam t).2.2))), none, some (.inr (.inl (lN (NL (w * h) sam t)))), none, some (.inr (.inl (lN (AL (w * h) sam t)))), none, some (.inl (nI (t))), u1, u2, u3, u4, u5, u6, u7, u8] [] (xw w h sam blk lost (fun g => if g < 256 then cntB (fun k => sam k == g) (w * h) else ogr g) came sums sqs mrk que qd) := by
    intro dL
    induction dL using Nat.strongRecOn with
    | _ dL ihL =>
      intro t u1 u2 u3 u4 u5 u6 u7 u8 hdL hiL k2 k4 k6 k8
      refine q_iload ok rfl dX0_bestBound_33 ?_
      refine q_sipushv (nI 255) ok (by decide) dX0_bestBound_35 ?_
      refine q_icmpN_ge 148 (by omega) (by omega) ok dX0_bestBound_38 (by decide) (fun h38 => ?_) (fun h38 => ?_)
      · refine q_iload_n ok rfl dX0_bestBound_148 ?_
        exact q_iret ok fn dX0_bestBound_149 (by rw [show t = 255 by omega]; exact hk)
      · refine q_lload ok rfl dX0_bestBound_41 ?_
        refine q_aload_n ok rfl dX0_bestBound_43 ?_
        refine xg_ofGrey ok dX0_bestBound_44 ?_
        refine q_iload ok rfl dX0_bestBound_47 ?_
        refine xl_ogr g (by omega) ok dX0_bestBound_49 ?_
        rw [if_pos (show t < 256 by omega)]
        have hcl := cntB_le (fun k => sam k == t) (w * h)
        refine q_i2lN (by omega) ok dX0_bestBound_50 ?_
        refine q_laddN ok dX0_bestBound_51 ?_
        rw [← NL_s]
        refine q_lstore_8 ok rfl dX0_bestBound_52 ?_
        refine q_lload ok rfl dX0_bestBound_54 ?_
        refine q_iload ok rfl dX0_bestBound_56 ?_
        refine q_i2lN (by omega) ok dX0_bestBound_58 ?_
        refine q_aload_n ok rfl dX0_bestBound_59 ?_
        refine xg_ofGrey ok dX0_bestBound_60 ?_
        refine q_iload ok rfl dX0_bestBound_63 ?_
        refine xl_ogr g (by omega) ok dX0_bestBound_65 ?_
        rw [if_pos (show t < 256 by omega)]
        refine q_i2lN (by omega) ok dX0_bestBound_66 ?_
        refine q_lmulN ok dX0_bestBound_67 ?_
        refine q_laddN ok dX0_bestBound_68 ?_
        rw [← AL_s]
        refine q_lstore_10 ok rfl dX0_bestBound_69 ?_
        refine q_aload_n ok rfl dX0_bestBound_71 ?_
        refine xg_count ok dX0_bestBound_72 ?_
        refine q_i2lN (by omega) ok dX0_bestBound_75 ?_
        refine q_lload ok rfl dX0_bestBound_76 ?_
        refine q_lsubN (NL_le _ _ _) ok dX0_bestBound_78 ?_
        refine q_lstore_13 ok rfl dX0_bestBound_79 ?_
        refine q_lload ok rfl dX0_bestBound_81 ?_
        refine q_lload ok rfl dX0_bestBound_83 ?_
        refine q_lmulN ok dX0_bestBound_85 ?_
        refine q_lload_n ok rfl dX0_bestBound_86 ?_
        refine q_lload ok rfl dX0_bestBound_87 ?_
        refine q_lsubN (AL_le _ _ _) ok dX0_bestBound_89 ?_
        refine q_lload ok rfl dX0_bestBound_90 ?_
        refine q_lmulN ok dX0_bestBound_92 ?_
        refine q_lsub ok dX0_bestBound_93 ?_
        refine q_lstore_15 ok rfl dX0_bestBound_94 ?_
        refine q_lload ok rfl dX0_bestBound_96 ?_
        refine q_lload ok rfl dX0_bestBound_98 ?_
        refine q_lmul ok dX0_bestBound_100 ?_
        refine q_lstore_17 ok rfl dX0_bestBound_101 ?_
        refine q_lload ok rfl dX0_bestBound_103 ?_
        refine q_lload ok rfl dX0_bestBound_105 ?_
        refine q_lmulN ok dX0_bestBound_107 ?_
        refine q_lstore_19 ok rfl dX0_bestBound_108 ?_
        refine q_lload ok rfl dX0_bestBound_110 ?_
        refine q_lconstv (lN 0) ok rfl dX0_bestBound_112 ?_
        refine q_lcmp ok dX0_bestBound_113 ?_
        refine q_if_le 142 ok dX0_bestBound_114 (by decide) (fun h114 => ?_) (fun h114 => ?_)
        · refine q_iincN_12 1 ok rfl (by decide) dX0_bestBound_142 ?_
          refine q_goto 33 ok dX0_bestBound_145 (by decide) ?_
          have e : gBest (w * h) sam (t + 1) = _ := (if_neg (fun q => absurd q.1 (Int64.not_lt.mpr ((lg_cmp_le _ _).mp h114))))
          have hz := fun u1 u3 u5 u7 : Option q_V => ihL _ (by omega) (t + 1) u1 none u3 none u5 none u7 none rfl (by omega) rfl rfl rfl rfl
          rw [e] at hz
          exact hz _ _ _ _
        · refine q_lload ok rfl dX0_bestBound_117 ?_
          refine q_lload ok rfl dX0_bestBound_119 ?_
          refine q_lmul ok dX0_bestBound_121 ?_
          refine q_lload ok rfl dX0_bestBound_122 ?_
          refine q_lload ok rfl dX0_bestBound_124 ?_
          refine q_lmul ok dX0_bestBound_126 ?_
          refine q_lcmp ok dX0_bestBound_127 ?_
          refine q_if_le 142 ok dX0_bestBound_128 (by decide) (fun h128 => ?_) (fun h128 => ?_)
          · refine q_iincN_12 1 ok rfl (by decide) dX0_bestBound_142 ?_
            refine q_goto 33 ok dX0_bestBound_145 (by decide) ?_
            have e : gBest (w * h) sam (t + 1) = _ := (if_neg (fun q => absurd q.2 (Int64.not_lt.mpr ((lg_cmp_le _ _).mp h128))))
            have hz := fun u1 u3 u5 u7 : Option q_V => ihL _ (by omega) (t + 1) u1 none u3 none u5 none u7 none rfl (by omega) rfl rfl rfl rfl
            rw [e] at hz
            exact hz _ _ _ _
          · refine q_iload ok rfl dX0_bestBound_131 ?_
            refine q_istore_3 ok rfl dX0_bestBound_133 ?_
            refine q_lload ok rfl dX0_bestBound_134 ?_
            refine q_lstore_4 ok rfl dX0_bestBound_136 ?_
            refine q_lload ok rfl dX0_bestBound_138 ?_
            refine q_lstore_6 ok rfl dX0_bestBound_140 ?_
            refine q_iincN_12 1 ok rfl (by decide) dX0_bestBound_142 ?_
            refine q_goto 33 ok dX0_bestBound_145 (by decide) ?_
            have e : gBest (w * h) sam (t + 1) = _ := (if_pos ⟨Int64.not_le.mp (mt (lg_cmp_le _ _).mpr h114), Int64.not_le.mp (mt (lg_cmp_le _ _).mpr h128)⟩)
            have hz := fun u1 u3 u5 u7 : Option q_V => ihL _ (by omega) (t + 1) u1 none u3 none u5 none u7 none rfl (by omega) rfl rfl rfl rfl
            rw [e] at hz
            exact hz _ _ _ _
  refine q_aload_n ok rfl dX0_bestBound_0 ?_
  refine kX0_fillOfGrey g hs (by decide) (Nat.le_of_ble_eq_true rfl) ok dX0_bestBound_1 ?_
  refine q_aload_n ok rfl dX0_bestBound_4 ?_
  refine kX0_sumOfSamples g hs (by decide) (Nat.le_of_ble_eq_true rfl) ok dX0_bestBound_5 ?_
  refine q_lstore_1 ok rfl dX0_bestBound_8 ?_
  refine q_aload_n ok rfl dX0_bestBound_9 ?_
  refine xg_samples ok dX0_bestBound_10 ?_
  refine q_iconstv (nI 0) ok (by decide) dX0_bestBound_13 ?_
  refine xl_sam g (by omega) ok dX0_bestBound_14 ?_
  refine q_iconstv (nI 1) ok (by decide) dX0_bestBound_15 ?_
  refine q_isub ok dX0_bestBound_16 ?_
  refine q_istore_3 ok rfl dX0_bestBound_17 ?_
  refine q_lconstv (lN 0) ok rfl dX0_bestBound_18 ?_
  refine q_lstore_4 ok rfl dX0_bestBound_19 ?_
  refine q_lconstv (lN 1) ok rfl dX0_bestBound_21 ?_
  refine q_lstore_6 ok rfl dX0_bestBound_22 ?_
  refine q_lconstv (lN 0) ok rfl dX0_bestBound_24 ?_
  refine q_lstore_8 ok rfl dX0_bestBound_25 ?_
  refine q_lconstv (lN 0) ok rfl dX0_bestBound_27 ?_
  refine q_lstore_10 ok rfl dX0_bestBound_28 ?_
  refine q_iconstv (nI 0) ok (by decide) dX0_bestBound_30 ?_
  refine q_istore_12 ok rfl dX0_bestBound_31 ?_
  have := L _ 0 none none none none none none none none rfl (Nat.zero_le _) rfl rfl rfl rfl
  rw [NL_0, AL_0] at this
  exact this
theorem kX0_bestBound {x : q_X} {cc : ByteArray} {fr lo pc : Nat} {lv : List (Option q_V)} {st : List q_V} {w : Nat} {h : Nat} {sam : Nat → Nat} {blk : Nat → Bool} {lost : Int64} {ogr : Nat → Nat} {came : Nat → Int32} {sums : Nat → Int64} {sqs : Nat → Int64} {mrk : Nat → Bool} {que : Nat → Nat} {qd : Nat} (g : q_g w h) (hs : ∀ k, k < w * h → sam k < 256) (hR : 2 + 1 ≤ fr ∧ 8 + (21 + 11) + 45 ≤ lo) (hst : (st.map (fun v => if q_nol (some v) then 1 else 2)).sum ≤ 8) (ok : q_ok x cc RX0 fr lo) (hd : decode cc pc = .ok (.invokevirtual 75, 3)) (kk : q_W x (pc + 3) lv ((.inl ((gBest (w * h) sam 255).1)) :: st) (xw w h sam blk lost (fun g => if g < 256 then cntB (fun k => sam k == g) (w * h) else ogr g) came sums sqs mrk que qd)) : q_W x pc lv (.inr (.inr (some 0)) :: st) (xw w h sam blk lost ogr came sums sqs mrk que qd) :=
  q_callV [] ct_X0_bestBound lkX0_X0_bestBound dc_X0_bestBound rfl ok rfl hR hst (Nat.le_of_ble_eq_true rfl) hd ⟨w, h, sam, blk, lost, ogr, came, sums, sqs, mrk, que, qd, g, hs, rfl, rfl, kk⟩
def sp_X0_global : List q_V → List q_E → (Option q_V → List q_E → Prop) → Prop := fun as Wd K => ∃ (w : Nat) (h : Nat) (sam : Nat → Nat) (blk : Nat → Bool) (lost : Int64) (ogr : Nat → Nat) (came : Nat → Int32) (sums : Nat → Int64) (sqs : Nat → Int64) (mrk : Nat → Bool) (que : Nat → Nat) (qd : Nat), (q_g w h) ∧ (∀ k, k < w * h → sam k < 256) ∧ as = [.inr (.inr (some 0))] ∧ Wd = (xw w h sam blk lost ogr came sums sqs mrk que qd) ∧ (K (some (.inl ((gBest (w * h) sam 255).1))) (xw w h sam (fun k => if k < w * h then decide (nI (sam k) ≤ (gBest (w * h) sam 255).1) else blk k) lost (fun g => if g < 256 then cntB (fun k => sam k == g) (w * h) else ogr g) came sums sqs mrk que qd))
set_option maxHeartbeats 4000000 in
set_option maxRecDepth 20000 in
theorem ct_X0_global : q_Ct yX0_global cX0_global 3 (some .int) 3 85 sp_X0_global := by
  refine q_met (by decide) ?_
  intro x as Wd K hs ok fn
  obtain ⟨w, h, sam, blk, lost, ogr, came, sums, sqs, mrk, que, qd, g, hs, rfl, rfl, hk⟩ := hs
  show q_W x 0 [some (.inr (.inr (some 0))), none, none] [] (xw w h sam blk lost ogr came sums sqs mrk que qd)
  have hn := q_gn g
  have L : ∀ (dL i : Nat) , dL = w * h - i → i ≤ w * h → q_W x 7 [some (.inr (.inr (some 0))), some (.inl ((gBest (w * h) sam 255).1)), some (.inl (nI (i)))] [] (xw w h sam (fun k => if k < i then decide (nI (sam k) ≤ (gBest (w * h) sam 255).1) else blk k) lost (fun g => if g < 256 then cntB (fun k => sam k == g) (w * h) else ogr g) came sums sqs mrk que qd) := by
    intro dL
    induction dL using Nat.strongRecOn with
    | _ dL ihL =>
      intro i  hdL hiL 
      refine q_iload_n ok rfl dX0_global_7 ?_
      refine q_aload_n ok rfl dX0_global_8 ?_
      refine xg_count ok dX0_global_9 ?_
      refine q_icmpN_ge 42 (by omega) (by omega) ok dX0_global_12 (by decide) (fun h12 => ?_) (fun h12 => ?_)
      · refine q_iload_n ok rfl dX0_global_42 ?_
        exact q_iret ok fn dX0_global_43 (by rw [show i = w * h by omega]; exact hk)
      · refine q_aload_n ok rfl dX0_global_15 ?_
        refine xg_black ok dX0_global_16 ?_
        refine q_iload_n ok rfl dX0_global_19 ?_
        refine q_aload_n ok rfl dX0_global_20 ?_
        refine xg_samples ok dX0_global_21 ?_
        refine q_iload_n ok rfl dX0_global_24 ?_
        refine xl_sam g (by omega) ok dX0_global_25 ?_
        refine q_iload_n ok rfl dX0_global_26 ?_
        refine q_icmp_gt 34 ok dX0_global_27 (by decide) (fun h27 => ?_) (fun h27 => ?_)
        · refine q_iconstv (nI 0) ok (by decide) dX0_global_34 ?_
          refine xs_blk (v := false) g (by omega) ok dX0_global_35 ?_
          refine q_iincN_2 1 ok rfl (by decide) dX0_global_36 ?_
          refine q_goto 7 ok dX0_global_39 (by decide) ?_
          rw [show false = (fun k => decide (nI (sam k) ≤ (gBest (w * h) sam 255).1)) i from (decide_eq_false (Int32.not_le.mpr h27)).symm, pu_step (F := fun k => decide (nI (sam k) ≤ (gBest (w * h) sam 255).1))]
          exact ihL _ (by omega) (i + 1) rfl (by omega)
        · refine q_iconstv (nI 1) ok (by decide) dX0_global_30 ?_
          refine q_goto 35 ok dX0_global_31 (by decide) ?_
          refine xs_blk (v := true) g (by omega) ok dX0_global_35 ?_
          refine q_iincN_2 1 ok rfl (by decide) dX0_global_36 ?_
          refine q_goto 7 ok dX0_global_39 (by decide) ?_
          rw [show true = (fun k => decide (nI (sam k) ≤ (gBest (w * h) sam 255).1)) i from (decide_eq_true (Int32.not_lt.mp h27)).symm, pu_step (F := fun k => decide (nI (sam k) ≤ (gBest (w * h) sam 255).1))]
          exact ihL _ (by omega) (i + 1) rfl (by omega)
  refine q_aload_n ok rfl dX0_global_0 ?_
  refine kX0_bestBound g hs (by decide) (Nat.le_of_ble_eq_true rfl) ok dX0_global_1 ?_
  refine q_istore_1 ok rfl dX0_global_4 ?_
  refine q_iconstv (nI 0) ok (by decide) dX0_global_5 ?_
  refine q_istore_2 ok rfl dX0_global_6 ?_
  have := L _ 0 rfl (Nat.zero_le _)
  rw [pu_0 (F := fun k => decide (nI (sam k) ≤ (gBest (w * h) sam 255).1))] at this
  exact this
theorem kX0_global {x : q_X} {cc : ByteArray} {fr lo pc : Nat} {lv : List (Option q_V)} {st : List q_V} {w : Nat} {h : Nat} {sam : Nat → Nat} {blk : Nat → Bool} {lost : Int64} {ogr : Nat → Nat} {came : Nat → Int32} {sums : Nat → Int64} {sqs : Nat → Int64} {mrk : Nat → Bool} {que : Nat → Nat} {qd : Nat} (g : q_g w h) (hs : ∀ k, k < w * h → sam k < 256) (hR : 3 + 1 ≤ fr ∧ 8 + (3 + 11) + 85 ≤ lo) (hst : (st.map (fun v => if q_nol (some v) then 1 else 2)).sum ≤ 8) (ok : q_ok x cc RL fr lo) (hd : decode cc pc = .ok (.invokevirtual 68, 3)) (kk : q_W x (pc + 3) lv ((.inl ((gBest (w * h) sam 255).1)) :: st) (xw w h sam (fun k => if k < w * h then decide (nI (sam k) ≤ (gBest (w * h) sam 255).1) else blk k) lost (fun g => if g < 256 then cntB (fun k => sam k == g) (w * h) else ogr g) came sums sqs mrk que qd)) : q_W x pc lv (.inr (.inr (some 0)) :: st) (xw w h sam blk lost ogr came sums sqs mrk que qd) :=
  q_callV [] ct_X0_global lkL_X0_global dc_X0_global rfl ok rfl hR hst (Nat.le_of_ble_eq_true rfl) hd ⟨w, h, sam, blk, lost, ogr, came, sums, sqs, mrk, que, qd, g, hs, rfl, rfl, kk⟩
