-- THE LOOP ITSELF
set_option maxHeartbeats 4000000 in
set_option maxRecDepth 20000 in
theorem law_loop {x : q_X} {L : Nat} {xs : Nat → Int32} (hL : L ≤ 3074) (okx : ∀ k n, k ≤ 601024 → n ≤ 7293000 → q_ok (q_cs x k n) cL_law RL 10 354) (rl : q_rl x L xs) (fit : q_fit x 601024 7293000) {w h : Nat} (g : q_g w h) (hend : ∀ k n lv Wd, k ≤ 601024 → n ≤ 7293000 → lv.length = 8 → q_W (q_cs x k n) 931 lv [.inl (nI 1)] Wd) : ∀ (d i : Nat) (sam : Nat → Nat) (blk : Nat → Bool) (lost : Int64) (ogr : Nat → Nat) (came : Nat → Int32) (sums sqs : Nat → Int64) (mrk : Nat → Bool) (que : Nat → Nat) (qd : Nat) (out : Nat → Int64) (thr : Nat) (nxt : Nat → Bool) (came2 part : Nat → Int32) (o5 o6 o7 : Option q_V), d = L + 6 - i → i ≤ L + 6 → (∀ k, k < w * h → sam k < 256) → bS w h sums → bS w h sqs → q_W (q_cs x (50 + i) (5000 + 6 * i)) 43 [some (.inr (.inr (some 16))), some (.inr (.inr (some 0))), some (.inr (.inr (some 10))), some (.inr (.inr (some 9))), some (.inl (nI i)), o5, o6, o7] [] (lW w h sam blk lost ogr came sums sqs mrk que qd out w h thr sam blk nxt came2 part lost) := by
  intro d
  induction d using Nat.strongRecOn with
  | _ d ih =>
    intro i sam blk lost ogr came sums sqs mrk que qd out thr nxt came2 part o5 o6 o7 hd hi hs hb1 hb2
    have okc := okx (50 + i) (5000 + 6 * i) (by omega) (by omega)
    refine q_iload okc rfl dL_law_43 ?_
    refine q_aload_n okc rfl dL_law_45 ?_
    refine q_sln okc rl dL_law_46 ?_
    refine q_bipushv (nI 6) okc (by decide) dL_law_47 ?_
    refine q_isub okc dL_law_49 ?_
    refine q_icmp_gt 930 okc dL_law_50 (by decide) (fun h50 => ?_) (fun h50 => ?_)
    · refine q_iconstv (nI 1) okc (by decide) dL_law_930 ?_
      exact hend _ _ _ _ (by omega) (by omega) rfl
    · have h6 : i + 6 ≤ L := lw_le hL (by omega) h50
      refine q_aload_n okc rfl dL_law_53 ?_
      refine q_iload okc rfl dL_law_54 ?_
      refine q_sld okc rl (by omega) hL dL_law_56 ?_
      refine q_bipushv (nI 15) okc (by decide) dL_law_57 ?_
      refine q_iand okc dL_law_59 ?_
      generalize xs i &&& nI 15 = v
      have ih2 : (∀ d2, d2 < d → ∀ (i : Nat) (sam : Nat → Nat) (blk : Nat → Bool) (lost : Int64) (ogr : Nat → Nat) (came : Nat → Int32) (sums sqs : Nat → Int64) (mrk : Nat → Bool) (que : Nat → Nat) (qd : Nat) (out : Nat → Int64) (thr : Nat) (nxt : Nat → Bool) (came2 part : Nat → Int32) (o5 o6 o7 : Option q_V), d2 = L + 6 - i → i ≤ L → (∀ k, k < w * h → sam k < 256) → bS w h sums → bS w h sqs → q_W (q_cs x (50 + i) (5000 + 6 * i)) 43 [some (.inr (.inr (some 16))), some (.inr (.inr (some 0))), some (.inr (.inr (some 10))), some (.inr (.inr (some 9))), some (.inl (nI i)), o5, o6, o7] [] (lW w h sam blk lost ogr came sums sqs mrk que qd out w h thr sam blk nxt came2 part lost)) := fun d2 hd2 i sam blk lost ogr came sums sqs mrk que qd out thr nxt came2 part o5 o6 o7 e1 e2 e3 e4 e5 => ih d2 hd2 i sam blk lost ogr came sums sqs mrk que qd out thr nxt came2 part o5 o6 o7 e1 (by omega) e3 e4 e5
      by_cases e0 : v = nI 0
      · subst e0
        refine q_tabIn 140 okc dL_law_60 (by decide) (by decide) (by rfl) (by decide) ?_
        exact law_put hL okx rl fit g ih2 sam blk lost ogr came sums sqs mrk que qd out thr nxt came2 part o5 o6 o7 hd h6 hs hb1 hb2
      by_cases e1 : v = nI 1
      · subst e1
        refine q_tabIn 220 okc dL_law_60 (by decide) (by decide) (by rfl) (by decide) ?_
        exact law_paint hL okx rl fit g ih2 sam blk lost ogr came sums sqs mrk que qd out thr nxt came2 part o5 o6 o7 hd h6 hs hb1 hb2
      by_cases e2 : v = nI 2
      · subst e2
        refine q_tabIn 257 okc dL_law_60 (by decide) (by decide) (by rfl) (by decide) ?_
        exact law_global hL okx rl fit g ih2 sam blk lost ogr came sums sqs mrk que qd out thr nxt came2 part o5 o6 o7 hd h6 hs hb1 hb2
      by_cases e3 : v = nI 3
      · subst e3
        refine q_tabIn 270 okc dL_law_60 (by decide) (by decide) (by rfl) (by decide) ?_
        exact law_local hL okx rl fit g ih2 sam blk lost ogr came sums sqs mrk que qd out thr nxt came2 part o5 o6 o7 hd h6 hs hb1 hb2
      by_cases e4 : v = nI 4
      · subst e4
        refine q_tabIn 338 okc dL_law_60 (by decide) (by decide) (by rfl) (by decide) ?_
        exact law_spread hL okx rl fit g ih2 sam blk lost ogr came sums sqs mrk que qd out thr nxt came2 part o5 o6 o7 hd h6 hs hb1 hb2
      by_cases e5 : v = nI 5
      · subst e5
        refine q_tabIn 394 okc dL_law_60 (by decide) (by decide) (by rfl) (by decide) ?_
        exact law_rest hL okx rl fit g ih2 sam blk lost ogr came sums sqs mrk que qd out thr nxt came2 part o5 o6 o7 hd h6 hs hb1 hb2
      by_cases e6 : v = nI 6
      · subst e6
        refine q_tabIn 408 okc dL_law_60 (by decide) (by decide) (by rfl) (by decide) ?_
        exact law_ordered hL okx rl fit g ih2 sam blk lost ogr came sums sqs mrk que qd out thr nxt came2 part o5 o6 o7 hd h6 hs hb1 hb2
      by_cases e7 : v = nI 7
      · subst e7
        refine q_tabIn 464 okc dL_law_60 (by decide) (by decide) (by rfl) (by decide) ?_
        exact law_join hL okx rl fit g ih2 sam blk lost ogr came sums sqs mrk que qd out thr nxt came2 part o5 o6 o7 hd h6 hs hb1 hb2
      by_cases e8 : v = nI 8
      · subst e8
        refine q_tabIn 532 okc dL_law_60 (by decide) (by decide) (by rfl) (by decide) ?_
        exact law_clean hL okx rl fit g ih2 sam blk lost ogr came sums sqs mrk que qd out thr nxt came2 part o5 o6 o7 hd h6 hs hb1 hb2
      by_cases e9 : v = nI 9
      · subst e9
        refine q_tabIn 588 okc dL_law_60 (by decide) (by decide) (by rfl) (by decide) ?_
        exact law_edges hL okx rl fit g ih2 sam blk lost ogr came sums sqs mrk que qd out thr nxt came2 part o5 o6 o7 hd h6 hs hb1 hb2
      by_cases e10 : v = nI 10
      · subst e10
        refine q_tabIn 601 okc dL_law_60 (by decide) (by decide) (by rfl) (by decide) ?_
        exact law_invert hL okx rl fit g ih2 sam blk lost ogr came sums sqs mrk que qd out thr nxt came2 part o5 o6 o7 hd h6 hs hb1 hb2
      by_cases e11 : v = nI 11
      · subst e11
        refine q_tabIn 614 okc dL_law_60 (by decide) (by decide) (by rfl) (by decide) ?_
        exact law_at hL okx rl fit g ih2 sam blk lost ogr came sums sqs mrk que qd out thr nxt came2 part o5 o6 o7 hd h6 hs hb1 hb2
      by_cases e12 : v = nI 12
      · subst e12
        refine q_tabIn 689 okc dL_law_60 (by decide) (by decide) (by rfl) (by decide) ?_
        exact law_sum hL okx rl fit g ih2 sam blk lost ogr came sums sqs mrk que qd out thr nxt came2 part o5 o6 o7 hd h6 hs hb1 hb2
      by_cases e13 : v = nI 13
      · subst e13
        refine q_tabIn 808 okc dL_law_60 (by decide) (by decide) (by rfl) (by decide) ?_
        exact law_cell hL okx rl fit g ih2 sam blk lost ogr came sums sqs mrk que qd out thr nxt came2 part o5 o6 o7 hd h6 hs hb1 hb2
      by_cases e14 : v = nI 14
      · subst e14
        refine q_tabIn 888 okc dL_law_60 (by decide) (by decide) (by rfl) (by decide) ?_
        exact law_told hL okx rl fit g ih2 sam blk lost ogr came sums sqs mrk que qd out thr nxt came2 part o5 o6 o7 hd h6 hs hb1 hb2
      by_cases e15 : v = nI 15
      · subst e15
        refine q_tabIn 913 okc dL_law_60 (by decide) (by decide) (by rfl) (by decide) ?_
        exact law_clear hL okx rl fit g ih2 sam blk lost ogr came sums sqs mrk que qd out thr nxt came2 part o5 o6 o7 hd h6 hs hb1 hb2
      refine q_tabOut 924 okc dL_law_60 (sw_o (fun k hk => ?_)) (by decide) ?_
      · rcases (show k = 0 ∨ k = 1 ∨ k = 2 ∨ k = 3 ∨ k = 4 ∨ k = 5 ∨ k = 6 ∨ k = 7 ∨ k = 8 ∨ k = 9 ∨ k = 10 ∨ k = 11 ∨ k = 12 ∨ k = 13 ∨ k = 14 ∨ k = 15 by omega) with q | q | q | q | q | q | q | q | q | q | q | q | q | q | q | q <;> subst q <;> assumption
      · refine q_iincN_4 6 okc rfl (by decide) dL_law_924 ?_
        refine q_goto 43 okc dL_law_927 (by decide) ?_
        exact q_wide (by omega) (by omega) (ih2 _ (by omega) (i + 6) _ _ _ _ _ _ _ _ _ _ _ _ _ _ _ _ _ _ rfl (by omega) hs hb1 hb2)
