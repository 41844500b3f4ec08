-- WHAT IS TOLD, by both
theorem nw_up {sam : Nat → Nat} : ∀ {n : Nat}, (∀ k, k < n → sam k < 256) → cntB (nwS sam) n = cntB (fun g => decide (0 < cntB (fun k => sam k == g) n)) 256
  | 0, _ => (cntB_0 (fun g _ => decide_eq_false (by show ¬ 0 < 0; omega))).symm
  | n + 1, hs => by
    have ih := nw_up (sam := sam) (n := n) (fun k hk => hs k (by omega))
    have hsn := hs n (by omega)
    have hany : ∀ m, m ≤ n → (anyB (fun j => sam j == sam n) m = true ↔ 0 < cntB (fun k => sam k == sam n) m) := fun m => by
      induction m with
      | zero => intro _; exact ⟨fun q => (by cases q), fun q => absurd q (by show ¬ 0 < 0; omega)⟩
      | succ m ihm =>
        intro hm
        have ihm := ihm (by omega)
        cases e : (sam m == sam n)
        · rw [cntB_f (f := fun k => sam k == sam n) (n := m) e, ← ihm]
          show (anyB (fun j => sam j == sam n) m || (sam m == sam n)) = true ↔ _
          rw [e, Bool.or_false]
        · rw [cntB_t (f := fun k => sam k == sam n) (n := m) e]
          show (anyB (fun j => sam j == sam n) m || (sam m == sam n)) = true ↔ _
          rw [e, Bool.or_true]
          exact ⟨fun _ => by omega, fun _ => rfl⟩
    by_cases hc : 0 < cntB (fun k => sam k == sam n) n
    · have h1 : nwS sam n = false := by unfold nwS; rw [(hany n (Nat.le_refl n)).mpr hc]; rfl
      rw [cntB_f h1, ih]
      refine cntB_congr (fun g _ => ?_)
      by_cases e : sam n = g
      · subst e
        rw [cntB_t (f := fun k => sam k == sam n) (n := n) (by simp), decide_eq_true hc]
        exact (decide_eq_true (by omega)).symm
      · rw [cntB_f (f := fun k => sam k == g) (n := n) (by simpa using e)]
    · have h1 : nwS sam n = true := by
        unfold nwS
        cases e : anyB (fun j => sam j == sam n) n
        · rfl
        · exact absurd ((hany n (Nat.le_refl n)).mp e) hc
      rw [cntB_t h1, ih]
      have h2 : cntB (va_up (fun g => decide (0 < cntB (fun k => sam k == g) n)) (sam n) true) 256 = cntB (fun g => decide (0 < cntB (fun k => sam k == g) n)) 256 + 1 := cntB_up (decide_eq_false hc) hsn
      rw [← h2]
      refine cntB_congr (fun g _ => ?_)
      by_cases e : g = sam n
      · subst e
        rw [va_up_self]
        exact (decide_eq_true (by rw [cntB_t (f := fun k => sam k == sam n) (n := n) (by simp)]; omega)).symm
      · rw [va_up_ne _ _ e, cntB_f (f := fun k => sam k == g) (n := n) (by simpa using fun q => e q.symm)]
noncomputable def tV (w h : Nat) (sam : Nat → Nat) (blk : Nat → Bool) (v : Int32) : Int32 := if v = nI 0 then nI w else if v = nI 1 then nI h else if v = nI 2 then nI (cntB blk (w * h)) else if v = nI 3 then nI (cntB (cB (fst_ w h blk)) (w * h)) else if v = nI 4 then nI (cntB (nwS sam) (w * h)) else -1
theorem tV_0 {w h : Nat} {sam : Nat → Nat} {blk : Nat → Bool} : tV w h sam blk (nI 0) = nI w := if_pos rfl
theorem tV_1 {w h : Nat} {sam : Nat → Nat} {blk : Nat → Bool} : tV w h sam blk (nI 1) = nI h := (if_neg (by decide)).trans (if_pos rfl)
theorem tV_2 {w h : Nat} {sam : Nat → Nat} {blk : Nat → Bool} : tV w h sam blk (nI 2) = nI (cntB blk (w * h)) := (if_neg (by decide)).trans ((if_neg (by decide)).trans (if_pos rfl))
theorem tV_3 {w h : Nat} {sam : Nat → Nat} {blk : Nat → Bool} : tV w h sam blk (nI 3) = nI (cntB (cB (fst_ w h blk)) (w * h)) := (if_neg (by decide)).trans ((if_neg (by decide)).trans ((if_neg (by decide)).trans (if_pos rfl)))
theorem tV_4 {w h : Nat} {sam : Nat → Nat} {blk : Nat → Bool} : tV w h sam blk (nI 4) = nI (cntB (nwS sam) (w * h)) := (if_neg (by decide)).trans ((if_neg (by decide)).trans ((if_neg (by decide)).trans ((if_neg (by decide)).trans (if_pos rfl))))
theorem tV_5 {w h : Nat} {sam : Nat → Nat} {blk : Nat → Bool} {v : Int32} (h0 : ¬ v = nI 0) (h1 : ¬ v = nI 1) (h2 : ¬ v = nI 2) (h3 : ¬ v = nI 3) (h4 : ¬ v = nI 4) : tV w h sam blk v = -1 := (if_neg h0).trans ((if_neg h1).trans ((if_neg h2).trans ((if_neg h3).trans (if_neg h4))))
theorem tV_o {v : Int32} (h0 : ¬ v = nI 0) (h1 : ¬ v = nI 1) (h2 : ¬ v = nI 2) (h3 : ¬ v = nI 3) (h4 : ¬ v = nI 4) : v.toInt < 0 ∨ 4 < v.toInt := by
  by_cases z : v.toInt < 0
  · exact Or.inl z
  · right
    have hn : ¬ v < 0 := by rw [Int32.lt_iff_toInt_lt, Int32.toInt_zero]; omega
    obtain ⟨j, hj, rfl⟩ := nI_of hn
    rw [nI_toInt hj] at z ⊢
    have n0 : ¬ j = 0 := fun q => h0 (by rw [q])
    have n1 : ¬ j = 1 := fun q => h1 (by rw [q])
    have n2 : ¬ j = 2 := fun q => h2 (by rw [q])
    have n3 : ¬ j = 3 := fun q => h3 (by rw [q])
    have n4 : ¬ j = 4 := fun q => h4 (by rw [q])
    omega
def sp_X0_told : List q_V → List q_E → (Option q_V → List q_E → Prop) → Prop := fun as Wd K => ∃ (w : Nat) (h : Nat) (sam : Nat → Nat) (blk : Nat → Bool) (lost : Int64) (ogr : Nat → Nat) (came : Nat → Int32) (sums : Nat → Int64) (sqs : Nat → Int64) (mrk : Nat → Bool) (que : Nat → Nat) (qd : Nat) (v : Int32), (q_g w h) ∧ (∀ k, k < w * h → sam k < 256) ∧ as = [.inr (.inr (some 0)), .inl v] ∧ Wd = (xw w h sam blk lost ogr came sums sqs mrk que qd) ∧ (∀ (ogr2 : Nat → Nat) (mrk2 : Nat → Bool) (que2 : Nat → Nat) (qd2 : Nat), K (some (.inl (tV w h sam blk v))) (xw w h sam blk lost (ogr2) came sums sqs (mrk2) (que2) (qd2)))
set_option maxHeartbeats 4000000 in
set_option maxRecDepth 20000 in
theorem ct_X0_told : q_Ct yX0_told cX0_told 2 (some .int) 4 93 sp_X0_told := by
  refine q_met (by decide) ?_
  intro x as Wd K hs ok fn
  obtain ⟨w, h, sam, blk, lost, ogr, came, sums, sqs, mrk, que, qd, v, g, hs, rfl, rfl, hk⟩ := hs
  show q_W x 0 [some (.inr (.inr (some 0))), some (.inl v)] [] (xw w h sam blk lost ogr came sums sqs mrk que qd)
  have hn := q_gn g
  refine q_iload_n ok rfl dX0_told_0 ?_
  by_cases e0 : v = nI 0
  · subst e0
    refine q_tabIn 36 ok dX0_told_1 (by decide) (by decide) (by rfl) (by decide) ?_
    refine q_aload_n ok rfl dX0_told_36 ?_
    refine xg_width ok dX0_told_37 ?_
    exact q_iret ok fn dX0_told_40 (by have z := hk ogr mrk que qd; rw [tV_0] at z; exact z)
  by_cases e1 : v = nI 1
  · subst e1
    refine q_tabIn 41 ok dX0_told_1 (by decide) (by decide) (by rfl) (by decide) ?_
    refine q_aload_n ok rfl dX0_told_41 ?_
    refine xg_height ok dX0_told_42 ?_
    exact q_iret ok fn dX0_told_45 (by have z := hk ogr mrk que qd; rw [tV_1] at z; exact z)
  by_cases e2 : v = nI 2
  · subst e2
    refine q_tabIn 46 ok dX0_told_1 (by decide) (by decide) (by rfl) (by decide) ?_
    refine q_aload_n ok rfl dX0_told_46 ?_
    refine kX0_countBlack g (by decide) (Nat.le_of_ble_eq_true rfl) ok dX0_told_47 ?_
    exact q_iret ok fn dX0_told_50 (by have z := hk ogr mrk que qd; rw [tV_2] at z; exact z)
  by_cases e3 : v = nI 3
  · subst e3
    refine q_tabIn 51 ok dX0_told_1 (by decide) (by decide) (by rfl) (by decide) ?_
    refine q_aload_n ok rfl dX0_told_51 ?_
    refine kX0_countBlackParts g (by decide) (Nat.le_of_ble_eq_true rfl) ok dX0_told_52 ?_
    intro mrk2 que2 qd2
    exact q_iret ok fn dX0_told_55 (by have z := hk ogr mrk2 que2 qd2; rw [tV_3] at z; exact z)
  by_cases e4 : v = nI 4
  · subst e4
    refine q_tabIn 56 ok dX0_told_1 (by decide) (by decide) (by rfl) (by decide) ?_
    refine q_aload_n ok rfl dX0_told_56 ?_
    refine kX0_countGreys g hs (by decide) (Nat.le_of_ble_eq_true rfl) ok dX0_told_57 ?_
    exact q_iret ok fn dX0_told_60 (by have z := hk (fun g => if g < 256 then cntB (fun k => sam k == g) (w * h) else ogr g) mrk que qd; rw [tV_4, nw_up hs] at z; exact z)
  refine q_tabOut 61 ok dX0_told_1 (tV_o e0 e1 e2 e3 e4) (by decide) ?_
  refine q_iconstv (-1) ok (by decide) dX0_told_61 ?_
  exact q_iret ok fn dX0_told_62 (by have z := hk ogr mrk que qd; rw [tV_5 e0 e1 e2 e3 e4] at z; exact z)
theorem kX0_told {x : q_X} {cc : ByteArray} {fr lo pc : Nat} {lv : List (Option q_V)} {st : List q_V} {w : Nat} {h : Nat} {sam : Nat → Nat} {blk : Nat → Bool} {lost : Int64} {ogr : Nat → Nat} {came : Nat → Int32} {sums : Nat → Int64} {sqs : Nat → Int64} {mrk : Nat → Bool} {que : Nat → Nat} {qd : Nat} {v : Int32} (g : q_g w h) (hs : ∀ k, k < w * h → sam k < 256) (hR : 4 + 1 ≤ fr ∧ 8 + (2 + 11) + 93 ≤ lo) (hst : (st.map (fun v => if q_nol (some v) then 1 else 2)).sum ≤ 8) (ok : q_ok x cc RL fr lo) (hd : decode cc pc = .ok (.invokevirtual 112, 3)) (kk : ∀ (ogr2 : Nat → Nat) (mrk2 : Nat → Bool) (que2 : Nat → Nat) (qd2 : Nat), q_W x (pc + 3) lv ((.inl (tV w h sam blk v)) :: st) (xw w h sam blk lost (ogr2) came sums sqs (mrk2) (que2) (qd2))) : q_W x pc lv (.inl v :: .inr (.inr (some 0)) :: st) (xw w h sam blk lost ogr came sums sqs mrk que qd) :=
  q_callV [.inl v] ct_X0_told lkL_X0_told dc_X0_told rfl ok rfl hR hst (Nat.le_of_ble_eq_true rfl) hd ⟨w, h, sam, blk, lost, ogr, came, sums, sqs, mrk, que, qd, v, g, hs, rfl, rfl, kk⟩
def sp_X1_told : List q_V → List q_E → (Option q_V → List q_E → Prop) → Prop := fun as Wd K => ∃ (w : Nat) (h : Nat) (thr : Nat) (sam : Nat → Nat) (blk : Nat → Bool) (nxt : Nat → Bool) (came : Nat → Int32) (part : Nat → Int32) (rst : Int64) (v : Int32), (q_g w h) ∧ (∀ k, k < w * h → sam k < 256) ∧ as = [.inr (.inr (some 0)), .inl v] ∧ Wd = (mw w h thr sam blk nxt came part rst) ∧ (∀ (part2 : Nat → Int32), K (some (.inl (tV w h sam blk v))) (mw w h (0) sam blk nxt came (part2) rst))
set_option maxHeartbeats 4000000 in
set_option maxRecDepth 20000 in
theorem ct_X1_told : q_Ct yX1_told cX1_told 2 (some .int) 4 94 sp_X1_told := by
  refine q_met (by decide) ?_
  intro x as Wd K hs ok fn
  obtain ⟨w, h, thr, sam, blk, nxt, came, part, rst, v, g, hs, rfl, rfl, hk⟩ := hs
  show q_W x 0 [some (.inr (.inr (some 0))), some (.inl v)] [] (mw w h thr sam blk nxt came part rst)
  have hn := q_gn g
  refine q_aload_n ok rfl dX1_told_0 ?_
  refine q_iconstv (nI 0) ok (by decide) dX1_told_1 ?_
  refine mp_thrown ok dX1_told_2 ?_
  refine q_iload_n ok rfl dX1_told_5 ?_
  by_cases e0 : v = nI 0
  · subst e0
    refine q_tabIn 40 ok dX1_told_6 (by decide) (by decide) (by rfl) (by decide) ?_
    refine q_aload_n ok rfl dX1_told_40 ?_
    refine mg_width ok dX1_told_41 ?_
    exact q_iret ok fn dX1_told_44 (by have z := hk part; rw [tV_0] at z; exact z)
  by_cases e1 : v = nI 1
  · subst e1
    refine q_tabIn 45 ok dX1_told_6 (by decide) (by decide) (by rfl) (by decide) ?_
    refine q_aload_n ok rfl dX1_told_45 ?_
    refine mg_height ok dX1_told_46 ?_
    exact q_iret ok fn dX1_told_49 (by have z := hk part; rw [tV_1] at z; exact z)
  by_cases e2 : v = nI 2
  · subst e2
    refine q_tabIn 50 ok dX1_told_6 (by decide) (by decide) (by rfl) (by decide) ?_
    refine q_aload_n ok rfl dX1_told_50 ?_
    refine kX1_blacks g (by decide) (Nat.le_of_ble_eq_true rfl) ok dX1_told_51 ?_
    exact q_iret ok fn dX1_told_54 (by have z := hk part; rw [tV_2] at z; exact z)
  by_cases e3 : v = nI 3
  · subst e3
    refine q_tabIn 55 ok dX1_told_6 (by decide) (by decide) (by rfl) (by decide) ?_
    refine q_aload_n ok rfl dX1_told_55 ?_
    refine kX1_parts g (by decide) (Nat.le_of_ble_eq_true rfl) ok dX1_told_56 ?_
    intro part2
    exact q_iret ok fn dX1_told_59 (by have z := hk part2; rw [tV_3] at z; exact z)
  by_cases e4 : v = nI 4
  · subst e4
    refine q_tabIn 60 ok dX1_told_6 (by decide) (by decide) (by rfl) (by decide) ?_
    refine q_aload_n ok rfl dX1_told_60 ?_
    refine kX1_different g hs (by decide) (Nat.le_of_ble_eq_true rfl) ok dX1_told_61 ?_
    exact q_iret ok fn dX1_told_64 (by have z := hk part; rw [tV_4] at z; exact z)
  refine q_tabOut 65 ok dX1_told_6 (tV_o e0 e1 e2 e3 e4) (by decide) ?_
  refine q_iconstv (-1) ok (by decide) dX1_told_65 ?_
  exact q_iret ok fn dX1_told_66 (by have z := hk part; rw [tV_5 e0 e1 e2 e3 e4] at z; exact z)
theorem kX1_told {x : q_X} {cc : ByteArray} {fr lo pc : Nat} {lv : List (Option q_V)} {st : List q_V} {w : Nat} {h : Nat} {thr : Nat} {sam : Nat → Nat} {blk : Nat → Bool} {nxt : Nat → Bool} {came : Nat → Int32} {part : Nat → Int32} {rst : Int64} {v : Int32} (g : q_g w h) (hs : ∀ k, k < w * h → sam k < 256) (hR : 4 + 1 ≤ fr ∧ 8 + (2 + 11) + 94 ≤ lo) (hst : (st.map (fun v => if q_nol (some v) then 1 else 2)).sum ≤ 8) (ok : q_ok x cc RL fr lo) (hd : decode cc pc = .ok (.invokevirtual 115, 3)) (kk : ∀ (part2 : Nat → Int32), q_W x (pc + 3) lv ((.inl (tV w h sam blk v)) :: st) (mw w h (0) sam blk nxt came (part2) rst)) : q_W x pc lv (.inl v :: .inr (.inr (some 0)) :: st) (mw w h thr sam blk nxt came part rst) :=
  q_callV [.inl v] ct_X1_told lkL_X1_told dc_X1_told rfl ok rfl hR hst (Nat.le_of_ble_eq_true rfl) hd ⟨w, h, thr, sam, blk, nxt, came, part, rst, v, g, hs, rfl, rfl, kk⟩
