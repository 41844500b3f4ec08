-- LEAVES of the class
def inI (w h : Nat) (a b : Int32) : Bool := decide (0 ≤ a ∧ a < nI w ∧ 0 ≤ b ∧ b < nI h)
theorem inI_f1 {w h : Nat} {a b : Int32} (h1 : a < 0) : inI w h a b = false := decide_eq_false (fun q => absurd q.1 (Int32.not_le.mpr h1))
theorem inI_f2 {w h : Nat} {a b : Int32} (h1 : nI w ≤ a) : inI w h a b = false := decide_eq_false (fun q => absurd q.2.1 (Int32.not_lt.mpr h1))
theorem inI_f3 {w h : Nat} {a b : Int32} (h1 : b < 0) : inI w h a b = false := decide_eq_false (fun q => absurd q.2.2.1 (Int32.not_le.mpr h1))
theorem inI_f4 {w h : Nat} {a b : Int32} (h1 : nI h ≤ b) : inI w h a b = false := decide_eq_false (fun q => absurd q.2.2.2 (Int32.not_lt.mpr h1))
theorem inI_t {w h : Nat} {a b : Int32} (h1 : ¬ a < 0) (h2 : ¬ nI w ≤ a) (h3 : ¬ b < 0) (h4 : ¬ nI h ≤ b) : inI w h a b = true := decide_eq_true ⟨Int32.not_lt.mp h1, Int32.not_le.mp h2, Int32.not_lt.mp h3, Int32.not_le.mp h4⟩
theorem inI_o {w h : Nat} {a b : Int32} (g : q_g w h) (h1 : inI w h a b = true) : ∃ i j : Nat, i < w ∧ j < h ∧ a = nI i ∧ b = nI j := by
  obtain ⟨h1, h2, h3, h4⟩ := of_decide_eq_true h1
  obtain ⟨i, hi, rfl⟩ := nI_of (Int32.not_lt.mpr h1)
  obtain ⟨j, hj, rfl⟩ := nI_of (Int32.not_lt.mpr h3)
  have hw := g.2.1
  have hh := g.2.2.2
  exact ⟨i, j, (nI_ltI hi (by omega)).mp h2, (nI_ltI hj (by omega)).mp h4, rfl, rfl⟩
theorem inI_n {w h i j : Nat} (g : q_g w h) (hi : i < w) (hj : j < h) : inI w h (nI i) (nI j) = true := by
  have hw := g.2.1
  have hh := g.2.2.2
  exact decide_eq_true ⟨nI_pos' (by omega), nI_lt hi (by omega), nI_pos' (by omega), nI_lt hj (by omega)⟩
def sp_X0_isInside : List q_V → List q_E → (Option q_V → List q_E → Prop) → Prop := fun as Wd K => ∃ (w : Nat) (h : Nat) (sam : Nat → Nat) (blk : Nat → Bool) (lost : Int64) (ogr : Nat → Nat) (came : Nat → Int32) (sums : Nat → Int64) (sqs : Nat → Int64) (mrk : Nat → Bool) (que : Nat → Nat) (qd : Nat) (a : Int32) (b : Int32), as = [.inr (.inr (some 0)), .inl a, .inl b] ∧ Wd = (xw w h sam blk lost ogr came sums sqs mrk que qd) ∧ (K (some (.inl (bI (inI w h a b)))) (xw w h sam blk lost ogr came sums sqs mrk que qd))
set_option maxHeartbeats 4000000 in
set_option maxRecDepth 20000 in
theorem ct_X0_isInside : q_Ct yX0_isInside cX0_isInside 3 (some .boolean) 0 0 sp_X0_isInside := by
  refine q_met (by decide) ?_
  intro x as Wd K hs ok fn
  obtain ⟨w, h, sam, blk, lost, ogr, came, sums, sqs, mrk, que, qd, a, b, rfl, rfl, hk⟩ := hs
  show q_W x 0 [some (.inr (.inr (some 0))), some (.inl a), some (.inl b)] [] (xw w h sam blk lost ogr came sums sqs mrk que qd)
  refine q_iload_n ok rfl dX0_isInside_0 ?_
  refine q_if_lt 28 ok dX0_isInside_1 (by decide) (fun h1 => ?_) (fun h1 => ?_)
  · refine q_iconstv (nI 0) ok (by decide) dX0_isInside_28 ?_
    exact q_zret ok fn dX0_isInside_29 (by decide) (by have ee : inI w h a b = false := (by first | exact inI_f1 h1 | exact inI_f2 h9 | exact inI_f3 h13 | exact inI_f4 h21); rw [ee] at hk; exact hk)
  · refine q_iload_n ok rfl dX0_isInside_4 ?_
    refine q_aload_n ok rfl dX0_isInside_5 ?_
    refine xg_width ok dX0_isInside_6 ?_
    refine q_icmp_ge 28 ok dX0_isInside_9 (by decide) (fun h9 => ?_) (fun h9 => ?_)
    · refine q_iconstv (nI 0) ok (by decide) dX0_isInside_28 ?_
      exact q_zret ok fn dX0_isInside_29 (by decide) (by have ee : inI w h a b = false := (by first | exact inI_f1 h1 | exact inI_f2 h9 | exact inI_f3 h13 | exact inI_f4 h21); rw [ee] at hk; exact hk)
    · refine q_iload_n ok rfl dX0_isInside_12 ?_
      refine q_if_lt 28 ok dX0_isInside_13 (by decide) (fun h13 => ?_) (fun h13 => ?_)
      · refine q_iconstv (nI 0) ok (by decide) dX0_isInside_28 ?_
        exact q_zret ok fn dX0_isInside_29 (by decide) (by have ee : inI w h a b = false := (by first | exact inI_f1 h1 | exact inI_f2 h9 | exact inI_f3 h13 | exact inI_f4 h21); rw [ee] at hk; exact hk)
      · refine q_iload_n ok rfl dX0_isInside_16 ?_
        refine q_aload_n ok rfl dX0_isInside_17 ?_
        refine xg_height ok dX0_isInside_18 ?_
        refine q_icmp_ge 28 ok dX0_isInside_21 (by decide) (fun h21 => ?_) (fun h21 => ?_)
        · refine q_iconstv (nI 0) ok (by decide) dX0_isInside_28 ?_
          exact q_zret ok fn dX0_isInside_29 (by decide) (by have ee : inI w h a b = false := (by first | exact inI_f1 h1 | exact inI_f2 h9 | exact inI_f3 h13 | exact inI_f4 h21); rw [ee] at hk; exact hk)
        · refine q_iconstv (nI 1) ok (by decide) dX0_isInside_24 ?_
          refine q_goto 29 ok dX0_isInside_25 (by decide) ?_
          exact q_zret ok fn dX0_isInside_29 (by decide) (by have ee := inI_t h1 h9 h13 h21; rw [ee] at hk; exact hk)
theorem kX0_isInside {x : q_X} {cc : ByteArray} {fr lo pc : Nat} {lv : List (Option q_V)} {st : List q_V} {w : Nat} {h : Nat} {sam : Nat → Nat} {blk : Nat → Bool} {lost : Int64} {ogr : Nat → Nat} {came : Nat → Int32} {sums : Nat → Int64} {sqs : Nat → Int64} {mrk : Nat → Bool} {que : Nat → Nat} {qd : Nat} {a : Int32} {b : Int32} (hR : 0 + 1 ≤ fr ∧ 8 + (3 + 11) + 0 ≤ lo) (hst : (st.map (fun v => if q_nol (some v) then 1 else 2)).sum ≤ 8) (ok : q_ok x cc RX0 fr lo) (hd : decode cc pc = .ok (.invokevirtual 50, 3)) (kk : q_W x (pc + 3) lv ((.inl (bI (inI w h a b))) :: st) (xw w h sam blk lost ogr came sums sqs mrk que qd)) : q_W x pc lv (.inl b :: .inl a :: .inr (.inr (some 0)) :: st) (xw w h sam blk lost ogr came sums sqs mrk que qd) :=
  q_callV [.inl a, .inl b] ct_X0_isInside lkX0_X0_isInside dc_X0_isInside rfl ok rfl hR hst (Nat.le_of_ble_eq_true rfl) hd ⟨w, h, sam, blk, lost, ogr, came, sums, sqs, mrk, que, qd, a, b, rfl, rfl, kk⟩
def sp_X0_placeOf : List q_V → List q_E → (Option q_V → List q_E → Prop) → Prop := fun as Wd K => ∃ (w : Nat) (h : Nat) (sam : Nat → Nat) (blk : Nat → Bool) (lost : Int64) (ogr : Nat → Nat) (came : Nat → Int32) (sums : Nat → Int64) (sqs : Nat → Int64) (mrk : Nat → Bool) (que : Nat → Nat) (qd : Nat) (a : Nat) (b : Nat), as = [.inr (.inr (some 0)), .inl (nI a), .inl (nI b)] ∧ Wd = (xw w h sam blk lost ogr came sums sqs mrk que qd) ∧ (K (some (.inl (nI (b * w + a)))) (xw w h sam blk lost ogr came sums sqs mrk que qd))
set_option maxHeartbeats 4000000 in
set_option maxRecDepth 20000 in
theorem ct_X0_placeOf : q_Ct yX0_placeOf cX0_placeOf 3 (some .int) 0 0 sp_X0_placeOf := by
  refine q_met (by decide) ?_
  intro x as Wd K hs ok fn
  obtain ⟨w, h, sam, blk, lost, ogr, came, sums, sqs, mrk, que, qd, a, b, rfl, rfl, hk⟩ := hs
  show q_W x 0 [some (.inr (.inr (some 0))), some (.inl (nI a)), some (.inl (nI b))] [] (xw w h sam blk lost ogr came sums sqs mrk que qd)
  refine q_iload_n ok rfl dX0_placeOf_0 ?_
  refine q_aload_n ok rfl dX0_placeOf_1 ?_
  refine xg_width ok dX0_placeOf_2 ?_
  refine q_imulN ok dX0_placeOf_5 ?_
  refine q_iload_n ok rfl dX0_placeOf_6 ?_
  refine q_iaddN ok dX0_placeOf_7 ?_
  exact q_iret ok fn dX0_placeOf_8 hk
theorem kX0_placeOf {x : q_X} {cc : ByteArray} {fr lo pc : Nat} {lv : List (Option q_V)} {st : List q_V} {w : Nat} {h : Nat} {sam : Nat → Nat} {blk : Nat → Bool} {lost : Int64} {ogr : Nat → Nat} {came : Nat → Int32} {sums : Nat → Int64} {sqs : Nat → Int64} {mrk : Nat → Bool} {que : Nat → Nat} {qd : Nat} {a : Nat} {b : Nat} (hR : 0 + 1 ≤ fr ∧ 8 + (3 + 11) + 0 ≤ lo) (hst : (st.map (fun v => if q_nol (some v) then 1 else 2)).sum ≤ 8) (ok : q_ok x cc RX0 fr lo) (hd : decode cc pc = .ok (.invokevirtual 66, 3)) (kk : q_W x (pc + 3) lv ((.inl (nI (b * w + a))) :: st) (xw w h sam blk lost ogr came sums sqs mrk que qd)) : q_W x pc lv (.inl (nI b) :: .inl (nI a) :: .inr (.inr (some 0)) :: st) (xw w h sam blk lost ogr came sums sqs mrk que qd) :=
  q_callV [.inl (nI a), .inl (nI b)] ct_X0_placeOf lkX0_X0_placeOf dc_X0_placeOf rfl ok rfl hR hst (Nat.le_of_ble_eq_true rfl) hd ⟨w, h, sam, blk, lost, ogr, came, sums, sqs, mrk, que, qd, a, b, rfl, rfl, kk⟩
def sp_X0_cornerOf : List q_V → List q_E → (Option q_V → List q_E → Prop) → Prop := fun as Wd K => ∃ (w : Nat) (h : Nat) (sam : Nat → Nat) (blk : Nat → Bool) (lost : Int64) (ogr : Nat → Nat) (came : Nat → Int32) (sums : Nat → Int64) (sqs : Nat → Int64) (mrk : Nat → Bool) (que : Nat → Nat) (qd : Nat) (a : Nat) (b : Nat), as = [.inr (.inr (some 0)), .inl (nI a), .inl (nI b)] ∧ Wd = (xw w h sam blk lost ogr came sums sqs mrk que qd) ∧ (K (some (.inl (nI (b * (w + 1) + a)))) (xw w h sam blk lost ogr came sums sqs mrk que qd))
set_option maxHeartbeats 4000000 in
set_option maxRecDepth 20000 in
theorem ct_X0_cornerOf : q_Ct yX0_cornerOf cX0_cornerOf 3 (some .int) 0 0 sp_X0_cornerOf := by
  refine q_met (by decide) ?_
  intro x as Wd K hs ok fn
  obtain ⟨w, h, sam, blk, lost, ogr, came, sums, sqs, mrk, que, qd, a, b, rfl, rfl, hk⟩ := hs
  show q_W x 0 [some (.inr (.inr (some 0))), some (.inl (nI a)), some (.inl (nI b))] [] (xw w h sam blk lost ogr came sums sqs mrk que qd)
  refine q_iload_n ok rfl dX0_cornerOf_0 ?_
  refine q_aload_n ok rfl dX0_cornerOf_1 ?_
  refine xg_width ok dX0_cornerOf_2 ?_
  refine q_iconstv (nI 1) ok (by decide) dX0_cornerOf_5 ?_
  refine q_iaddN ok dX0_cornerOf_6 ?_
  refine q_imulN ok dX0_cornerOf_7 ?_
  refine q_iload_n ok rfl dX0_cornerOf_8 ?_
  refine q_iaddN ok dX0_cornerOf_9 ?_
  exact q_iret ok fn dX0_cornerOf_10 hk
theorem kX0_cornerOf {x : q_X} {cc : ByteArray} {fr lo pc : Nat} {lv : List (Option q_V)} {st : List q_V} {w : Nat} {h : Nat} {sam : Nat → Nat} {blk : Nat → Bool} {lost : Int64} {ogr : Nat → Nat} {came : Nat → Int32} {sums : Nat → Int64} {sqs : Nat → Int64} {mrk : Nat → Bool} {que : Nat → Nat} {qd : Nat} {a : Nat} {b : Nat} (hR : 0 + 1 ≤ fr ∧ 8 + (3 + 11) + 0 ≤ lo) (hst : (st.map (fun v => if q_nol (some v) then 1 else 2)).sum ≤ 8) (ok : q_ok x cc RX0 fr lo) (hd : decode cc pc = .ok (.invokevirtual 178, 3)) (kk : q_W x (pc + 3) lv ((.inl (nI (b * (w + 1) + a))) :: st) (xw w h sam blk lost ogr came sums sqs mrk que qd)) : q_W x pc lv (.inl (nI b) :: .inl (nI a) :: .inr (.inr (some 0)) :: st) (xw w h sam blk lost ogr came sums sqs mrk que qd) :=
  q_callV [.inl (nI a), .inl (nI b)] ct_X0_cornerOf lkX0_X0_cornerOf dc_X0_cornerOf rfl ok rfl hR hst (Nat.le_of_ble_eq_true rfl) hd ⟨w, h, sam, blk, lost, ogr, came, sums, sqs, mrk, que, qd, a, b, rfl, rfl, kk⟩
