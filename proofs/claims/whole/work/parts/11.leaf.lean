-- LEAVES
def inI (w h : Nat) (a b : Int32) : Bool := decide (0 ≤ a ∧ a < nI w ∧ 0 ≤ b ∧ b < nI h)
theorem inI_f1 {w h : Nat} {a b : Int32} (h1 : a < 0) : inI w h a b = false := decide_eq_false (fun q => absurd q.1 (Int32.not_le.mpr h1))
theorem inI_f2 {w h : Nat} {a b : Int32} (h1 : nI w ≤ a) : inI w h a b = false := decide_eq_false (fun q => absurd q.2.1 (Int32.not_lt.mpr h1))
theorem inI_f3 {w h : Nat} {a b : Int32} (h1 : b < 0) : inI w h a b = false := decide_eq_false (fun q => absurd q.2.2.1 (Int32.not_le.mpr h1))
theorem inI_f4 {w h : Nat} {a b : Int32} (h1 : nI h ≤ b) : inI w h a b = false := decide_eq_false (fun q => absurd q.2.2.2 (Int32.not_lt.mpr h1))
theorem inI_t {w h : Nat} {a b : Int32} (h1 : ¬ a < 0) (h2 : ¬ nI w ≤ a) (h3 : ¬ b < 0) (h4 : ¬ nI h ≤ b) : inI w h a b = true := decide_eq_true ⟨Int32.not_lt.mp h1, Int32.not_le.mp h2, Int32.not_lt.mp h3, Int32.not_le.mp h4⟩
theorem inI_o {w h : Nat} {a b : Int32} (g : q_g w h) (h1 : inI w h a b = true) : ∃ i j : Nat, i < w ∧ j < h ∧ a = nI i ∧ b = nI j := by
  obtain ⟨h1, h2, h3, h4⟩ := of_decide_eq_true h1
  obtain ⟨i, hi, rfl⟩ := nI_of (Int32.not_lt.mpr h1)
  obtain ⟨j, hj, rfl⟩ := nI_of (Int32.not_lt.mpr h3)
  have hw := g.2.1
  have hh := g.2.2.2
  exact ⟨i, j, (nI_ltI hi (by omega)).mp h2, (nI_ltI hj (by omega)).mp h4, rfl, rfl⟩
theorem inI_n {w h i j : Nat} (g : q_g w h) (hi : i < w) (hj : j < h) : inI w h (nI i) (nI j) = true := by
  have hw := g.2.1
  have hh := g.2.2.2
  exact decide_eq_true ⟨nI_pos' (by omega), nI_lt hi (by omega), nI_pos' (by omega), nI_lt hj (by omega)⟩
theorem pl_lt {w h i j : Nat} (hi : i < w) (hj : j < h) : j * w + i < w * h := by
  have h1 : (j + 1) * w ≤ h * w := Nat.mul_le_mul_right _ hj
  rw [Nat.succ_mul, Nat.mul_comm h w] at h1
  omega
theorem pl_lt2 {w h i j : Nat} (hi : i < w) (hj : j < h) : w * j + i < w * h := by
  rw [Nat.mul_comm w j]; exact pl_lt hi hj
theorem pm_lt {w h i j : Nat} (g : q_g w h) (hi : i < w) (hj : j < h) : w * j + i < 256 := Nat.lt_of_lt_of_le (pl_lt2 hi hj) (q_gn g)
def pI (w : Nat) (a b : Int32) : Nat := b.toNatClampNeg * w + a.toNatClampNeg
theorem pI_n {w i j : Nat} (hi : i < 2 ^ 31) (hj : j < 2 ^ 31) : pI w (nI i) (nI j) = j * w + i := by unfold pI; rw [nI_clamp hi, nI_clamp hj]
def cntB (f : Nat → Bool) : Nat → Nat
  | 0 => 0
  | n + 1 => cntB f n + (if f n = true then 1 else 0)
theorem cntB_le (f : Nat → Bool) : ∀ n, cntB f n ≤ n
  | 0 => Nat.le_refl 0
  | n + 1 => by have := cntB_le f n; simp only [cntB]; split <;> omega
theorem cntB_t {f : Nat → Bool} {n : Nat} (h : f n = true) : cntB f (n + 1) = cntB f n + 1 := by simp [cntB, h]
theorem cntB_f {f : Nat → Bool} {n : Nat} (h : f n = false) : cntB f (n + 1) = cntB f n := by simp [cntB, h]
theorem cntB_congr {f g : Nat → Bool} : ∀ {n : Nat}, (∀ k, k < n → f k = g k) → cntB f n = cntB g n
  | 0, _ => rfl
  | n + 1, h => by simp only [cntB]; rw [cntB_congr (fun k hk => h k (by omega)), h n (by omega)]
def sumN (f : Nat → Nat) : Nat → Nat
  | 0 => 0
  | n + 1 => sumN f n + f n
def isP (a b c : Int32) : Bool := decide (0 ≤ a ∧ a ≤ c ∧ 0 ≤ b ∧ b ≤ c - a)
def clampS (a : Int32) : Nat := if a.toInt ≤ 1 then 1 else if 16 ≤ a.toInt then 16 else a.toInt.toNat
theorem clampS_in (a : Int32) : 1 ≤ clampS a ∧ clampS a ≤ 16 := by unfold clampS; split <;> (try split) <;> omega
theorem clampS_X (a : Int32) : (if nI 1 < (if a < nI 16 then a else nI 16) then (if a < nI 16 then a else nI 16) else nI 1) = nI (clampS a) := by
  have h1 : (nI 1).toInt = 1 := by decide +kernel
  have h16 : (nI 16).toInt = 16 := by decide +kernel
  have hc := clampS_in a
  by_cases hA : a.toInt < 16
  · rw [if_pos (show a < nI 16 by rw [Int32.lt_iff_toInt_lt, h16]; exact hA)]
    by_cases hB : 1 < a.toInt
    · rw [if_pos (show nI 1 < a by rw [Int32.lt_iff_toInt_lt, h1]; exact hB), ← Int32.toInt_inj, nI_toInt (by omega)]
      unfold clampS
      rw [if_neg (by omega), if_neg (by omega)]
      omega
    · rw [if_neg (show ¬ nI 1 < a by rw [Int32.lt_iff_toInt_lt, h1]; exact hB)]
      unfold clampS
      rw [if_pos (by omega)]
  · rw [if_neg (show ¬ a < nI 16 by rw [Int32.lt_iff_toInt_lt, h16]; exact hA), if_pos (by decide +kernel)]
    unfold clampS
    rw [if_neg (by omega), if_pos (by omega)]
def sp_X0_isInside : List q_V → List q_E → (Option q_V → List q_E → Prop) → Prop := fun as Wd K => ∃ (w : Nat) (h : Nat) (sam : Nat → Nat) (blk : Nat → Bool) (lost : Int64) (ogr : Nat → Nat) (came : Nat → Int32) (sums : Nat → Int64) (sqs : Nat → Int64) (mrk : Nat → Bool) (que : Nat → Nat) (qd : Nat) (a : Int32) (b : Int32), as = [.inr (.inr (some 0)), .inl a, .inl b] ∧ Wd = (xw w h sam blk lost ogr came sums sqs mrk que qd) ∧ (K (some (.inl (bI (inI w h a b)))) (xw w h sam blk lost ogr came sums sqs mrk que qd))
set_option maxHeartbeats 4000000 in
set_option maxRecDepth 20000 in
theorem ct_X0_isInside : q_Ct yX0_isInside cX0_isInside 3 (some .boolean) 0 0 sp_X0_isInside := by
  refine q_met (by decide) ?_
  intro x as Wd K hs ok fn
  obtain ⟨w, h, sam, blk, lost, ogr, came, sums, sqs, mrk, que, qd, a, b, rfl, rfl, hk⟩ := hs
  show q_W x 0 [some (.inr (.inr (some 0))), some (.inl a), some (.inl b)] [] (xw w h sam blk lost ogr came sums sqs mrk que qd)
  refine q_iload_n ok rfl dX0_isInside_0 ?_
  refine q_if_lt 28 ok dX0_isInside_1 (by decide) (fun h1 => ?_) (fun h1 => ?_)
  · refine q_iconstv (nI 0) ok (by decide) dX0_isInside_28 ?_
    exact q_zret ok fn dX0_isInside_29 (by decide) (by have ee := (by first | exact inI_f1 h1 | exact inI_f2 h9 | exact inI_f3 h13 | exact inI_f4 h21 : inI w h a b = false); rw [ee] at hk; exact hk)
  · refine q_iload_n ok rfl dX0_isInside_4 ?_
    refine q_aload_n ok rfl dX0_isInside_5 ?_
    refine xg_width ok dX0_isInside_6 ?_
    refine q_icmp_ge 28 ok dX0_isInside_9 (by decide) (fun h9 => ?_) (fun h9 => ?_)
    · refine q_iconstv (nI 0) ok (by decide) dX0_isInside_28 ?_
      exact q_zret ok fn dX0_isInside_29 (by decide) (by have ee := (by first | exact inI_f1 h1 | exact inI_f2 h9 | exact inI_f3 h13 | exact inI_f4 h21 : inI w h a b = false); rw [ee] at hk; exact hk)
    · refine q_iload_n ok rfl dX0_isInside_12 ?_
      refine q_if_lt 28 ok dX0_isInside_13 (by decide) (fun h13 => ?_) (fun h13 => ?_)
      · refine q_iconstv (nI 0) ok (by decide) dX0_isInside_28 ?_
        exact q_zret ok fn dX0_isInside_29 (by decide) (by have ee := (by first | exact inI_f1 h1 | exact inI_f2 h9 | exact inI_f3 h13 | exact inI_f4 h21 : inI w h a b = false); rw [ee] at hk; exact hk)
      · refine q_iload_n ok rfl dX0_isInside_16 ?_
        refine q_aload_n ok rfl dX0_isInside_17 ?_
        refine xg_height ok dX0_isInside_18 ?_
        refine q_icmp_ge 28 ok dX0_isInside_21 (by decide) (fun h21 => ?_) (fun h21 => ?_)
        · refine q_iconstv (nI 0) ok (by decide) dX0_isInside_28 ?_
          exact q_zret ok fn dX0_isInside_29 (by decide) (by have ee := (by first | exact inI_f1 h1 | exact inI_f2 h9 | exact inI_f3 h13 | exact inI_f4 h21 : inI w h a b = false); rw [ee] at hk; exact hk)
        · refine q_iconstv (nI 1) ok (by decide) dX0_isInside_24 ?_
          refine q_goto 29 ok dX0_isInside_25 (by decide) ?_
          exact q_zret ok fn dX0_isInside_29 (by decide) (by have ee : inI w h a b = true := inI_t h1 h9 h13 h21; rw [ee] at hk; exact hk)
theorem kX0_isInside {x : q_X} {cc : ByteArray} {fr lo pc : Nat} {lv : List (Option q_V)} {st : List q_V} {w : Nat} {h : Nat} {sam : Nat → Nat} {blk : Nat → Bool} {lost : Int64} {ogr : Nat → Nat} {came : Nat → Int32} {sums : Nat → Int64} {sqs : Nat → Int64} {mrk : Nat → Bool} {que : Nat → Nat} {qd : Nat} {a : Int32} {b : Int32} (hR : 0 + 1 ≤ fr ∧ 8 + (3 + 11) + 0 ≤ lo) (hst : (st.map (fun v => if q_nol (some v) then 1 else 2)).sum ≤ 8) (ok : q_ok x cc RX0 fr lo) (hd : decode cc pc = .ok (.invokevirtual 50, 3)) (kk : q_W x (pc + 3) lv ((.inl (bI (inI w h a b))) :: st) (xw w h sam blk lost ogr came sums sqs mrk que qd)) : q_W x pc lv (.inl b :: .inl a :: .inr (.inr (some 0)) :: st) (xw w h sam blk lost ogr came sums sqs mrk que qd) :=
  q_callV [.inl a, .inl b] ct_X0_isInside lkX0_X0_isInside dc_X0_isInside rfl ok rfl hR hst (Nat.le_of_ble_eq_true rfl) hd ⟨w, h, sam, blk, lost, ogr, came, sums, sqs, mrk, que, qd, a, b, rfl, rfl, kk⟩
def sp_X1_isIn : List q_V → List q_E → (Option q_V → List q_E → Prop) → Prop := fun as Wd K => ∃ (w : Nat) (h : Nat) (thr : Nat) (sam : Nat → Nat) (blk : Nat → Bool) (nxt : Nat → Bool) (came : Nat → Int32) (part : Nat → Int32) (rst : Int64) (a : Int32) (b : Int32), as = [.inr (.inr (some 0)), .inl a, .inl b] ∧ Wd = (mw w h thr sam blk nxt came part rst) ∧ (K (some (.inl (bI (inI w h a b)))) (mw w h thr sam blk nxt came part rst))
set_option maxHeartbeats 4000000 in
set_option maxRecDepth 20000 in
theorem ct_X1_isIn : q_Ct yX1_isIn cX1_isIn 3 (some .boolean) 0 0 sp_X1_isIn := by
  refine q_met (by decide) ?_
  intro x as Wd K hs ok fn
  obtain ⟨w, h, thr, sam, blk, nxt, came, part, rst, a, b, rfl, rfl, hk⟩ := hs
  show q_W x 0 [some (.inr (.inr (some 0))), some (.inl a), some (.inl b)] [] (mw w h thr sam blk nxt came part rst)
  refine q_iload_n ok rfl dX1_isIn_0 ?_
  refine q_if_lt 28 ok dX1_isIn_1 (by decide) (fun h1 => ?_) (fun h1 => ?_)
  · refine q_iconstv (nI 0) ok (by decide) dX1_isIn_28 ?_
    exact q_zret ok fn dX1_isIn_29 (by decide) (by have ee := (by first | exact inI_f1 h1 | exact inI_f2 h9 | exact inI_f3 h13 | exact inI_f4 h21 : inI w h a b = false); rw [ee] at hk; exact hk)
  · refine q_iload_n ok rfl dX1_isIn_4 ?_
    refine q_aload_n ok rfl dX1_isIn_5 ?_
    refine mg_width ok dX1_isIn_6 ?_
    refine q_icmp_ge 28 ok dX1_isIn_9 (by decide) (fun h9 => ?_) (fun h9 => ?_)
    · refine q_iconstv (nI 0) ok (by decide) dX1_isIn_28 ?_
      exact q_zret ok fn dX1_isIn_29 (by decide) (by have ee := (by first | exact inI_f1 h1 | exact inI_f2 h9 | exact inI_f3 h13 | exact inI_f4 h21 : inI w h a b = false); rw [ee] at hk; exact hk)
    · refine q_iload_n ok rfl dX1_isIn_12 ?_
      refine q_if_lt 28 ok dX1_isIn_13 (by decide) (fun h13 => ?_) (fun h13 => ?_)
      · refine q_iconstv (nI 0) ok (by decide) dX1_isIn_28 ?_
        exact q_zret ok fn dX1_isIn_29 (by decide) (by have ee := (by first | exact inI_f1 h1 | exact inI_f2 h9 | exact inI_f3 h13 | exact inI_f4 h21 : inI w h a b = false); rw [ee] at hk; exact hk)
      · refine q_iload_n ok rfl dX1_isIn_16 ?_
        refine q_aload_n ok rfl dX1_isIn_17 ?_
        refine mg_height ok dX1_isIn_18 ?_
        refine q_icmp_ge 28 ok dX1_isIn_21 (by decide) (fun h21 => ?_) (fun h21 => ?_)
        · refine q_iconstv (nI 0) ok (by decide) dX1_isIn_28 ?_
          exact q_zret ok fn dX1_isIn_29 (by decide) (by have ee := (by first | exact inI_f1 h1 | exact inI_f2 h9 | exact inI_f3 h13 | exact inI_f4 h21 : inI w h a b = false); rw [ee] at hk; exact hk)
        · refine q_iconstv (nI 1) ok (by decide) dX1_isIn_24 ?_
          refine q_goto 29 ok dX1_isIn_25 (by decide) ?_
          exact q_zret ok fn dX1_isIn_29 (by decide) (by have ee : inI w h a b = true := inI_t h1 h9 h13 h21; rw [ee] at hk; exact hk)
theorem kX1_isIn {x : q_X} {cc : ByteArray} {fr lo pc : Nat} {lv : List (Option q_V)} {st : List q_V} {w : Nat} {h : Nat} {thr : Nat} {sam : Nat → Nat} {blk : Nat → Bool} {nxt : Nat → Bool} {came : Nat → Int32} {part : Nat → Int32} {rst : Int64} {a : Int32} {b : Int32} (hR : 0 + 1 ≤ fr ∧ 8 + (3 + 11) + 0 ≤ lo) (hst : (st.map (fun v => if q_nol (some v) then 1 else 2)).sum ≤ 8) (ok : q_ok x cc RX1 fr lo) (hd : decode cc pc = .ok (.invokevirtual 36, 3)) (kk : q_W x (pc + 3) lv ((.inl (bI (inI w h a b))) :: st) (mw w h thr sam blk nxt came part rst)) : q_W x pc lv (.inl b :: .inl a :: .inr (.inr (some 0)) :: st) (mw w h thr sam blk nxt came part rst) :=
  q_callV [.inl a, .inl b] ct_X1_isIn lkX1_X1_isIn dc_X1_isIn rfl ok rfl hR hst (Nat.le_of_ble_eq_true rfl) hd ⟨w, h, thr, sam, blk, nxt, came, part, rst, a, b, rfl, rfl, kk⟩
def sp_X0_placeOf : List q_V → List q_E → (Option q_V → List q_E → Prop) → Prop := fun as Wd K => ∃ (w : Nat) (h : Nat) (sam : Nat → Nat) (blk : Nat → Bool) (lost : Int64) (ogr : Nat → Nat) (came : Nat → Int32) (sums : Nat → Int64) (sqs : Nat → Int64) (mrk : Nat → Bool) (que : Nat → Nat) (qd : Nat) (a : Nat) (b : Nat), as = [.inr (.inr (some 0)), .inl (nI a), .inl (nI b)] ∧ Wd = (xw w h sam blk lost ogr came sums sqs mrk que qd) ∧ (K (some (.inl (nI (b * w + a)))) (xw w h sam blk lost ogr came sums sqs mrk que qd))
set_option maxHeartbeats 4000000 in
set_option maxRecDepth 20000 in
theorem ct_X0_placeOf : q_Ct yX0_placeOf cX0_placeOf 3 (some .int) 0 0 sp_X0_placeOf := by
  refine q_met (by decide) ?_
  intro x as Wd K hs ok fn
  obtain ⟨w, h, sam, blk, lost, ogr, came, sums, sqs, mrk, que, qd, a, b, rfl, rfl, hk⟩ := hs
  show q_W x 0 [some (.inr (.inr (some 0))), some (.inl (nI a)), some (.inl (nI b))] [] (xw w h sam blk lost ogr came sums sqs mrk que qd)
  refine q_iload_n ok rfl dX0_placeOf_0 ?_
  refine q_aload_n ok rfl dX0_placeOf_1 ?_
  refine xg_width ok dX0_placeOf_2 ?_
  refine q_imulN ok dX0_placeOf_5 ?_
  refine q_iload_n ok rfl dX0_placeOf_6 ?_
  refine q_iaddN ok dX0_placeOf_7 ?_
  exact q_iret ok fn dX0_placeOf_8 hk
theorem kX0_placeOf {x : q_X} {cc : ByteArray} {fr lo pc : Nat} {lv : List (Option q_V)} {st : List q_V} {w : Nat} {h : Nat} {sam : Nat → Nat} {blk : Nat → Bool} {lost : Int64} {ogr : Nat → Nat} {came : Nat → Int32} {sums : Nat → Int64} {sqs : Nat → Int64} {mrk : Nat → Bool} {que : Nat → Nat} {qd : Nat} {a : Nat} {b : Nat} (hR : 0 + 1 ≤ fr ∧ 8 + (3 + 11) + 0 ≤ lo) (hst : (st.map (fun v => if q_nol (some v) then 1 else 2)).sum ≤ 8) (ok : q_ok x cc RX0 fr lo) (hd : decode cc pc = .ok (.invokevirtual 66, 3)) (kk : q_W x (pc + 3) lv ((.inl (nI (b * w + a))) :: st) (xw w h sam blk lost ogr came sums sqs mrk que qd)) : q_W x pc lv (.inl (nI b) :: .inl (nI a) :: .inr (.inr (some 0)) :: st) (xw w h sam blk lost ogr came sums sqs mrk que qd) :=
  q_callV [.inl (nI a), .inl (nI b)] ct_X0_placeOf lkX0_X0_placeOf dc_X0_placeOf rfl ok rfl hR hst (Nat.le_of_ble_eq_true rfl) hd ⟨w, h, sam, blk, lost, ogr, came, sums, sqs, mrk, que, qd, a, b, rfl, rfl, kk⟩
def sp_X0_cornerOf : List q_V → List q_E → (Option q_V → List q_E → Prop) → Prop := fun as Wd K => ∃ (w : Nat) (h : Nat) (sam : Nat → Nat) (blk : Nat → Bool) (lost : Int64) (ogr : Nat → Nat) (came : Nat → Int32) (sums : Nat → Int64) (sqs : Nat → Int64) (mrk : Nat → Bool) (que : Nat → Nat) (qd : Nat) (a : Nat) (b : Nat), as = [.inr (.inr (some 0)), .inl (nI a), .inl (nI b)] ∧ Wd = (xw w h sam blk lost ogr came sums sqs mrk que qd) ∧ (K (some (.inl (nI (b * (w + 1) + a)))) (xw w h sam blk lost ogr came sums sqs mrk que qd))
set_option maxHeartbeats 4000000 in
set_option maxRecDepth 20000 in
theorem ct_X0_cornerOf : q_Ct yX0_cornerOf cX0_cornerOf 3 (some .int) 0 0 sp_X0_cornerOf := by
  refine q_met (by decide) ?_
  intro x as Wd K hs ok fn
  obtain ⟨w, h, sam, blk, lost, ogr, came, sums, sqs, mrk, que, qd, a, b, rfl, rfl, hk⟩ := hs
  show q_W x 0 [some (.inr (.inr (some 0))), some (.inl (nI a)), some (.inl (nI b))] [] (xw w h sam blk lost ogr came sums sqs mrk que qd)
  refine q_iload_n ok rfl dX0_cornerOf_0 ?_
  refine q_aload_n ok rfl dX0_cornerOf_1 ?_
  refine xg_width ok dX0_cornerOf_2 ?_
  refine q_iconstv (nI 1) ok (by decide) dX0_cornerOf_5 ?_
  refine q_iaddN ok dX0_cornerOf_6 ?_
  refine q_imulN ok dX0_cornerOf_7 ?_
  refine q_iload_n ok rfl dX0_cornerOf_8 ?_
  refine q_iaddN ok dX0_cornerOf_9 ?_
  exact q_iret ok fn dX0_cornerOf_10 hk
theorem kX0_cornerOf {x : q_X} {cc : ByteArray} {fr lo pc : Nat} {lv : List (Option q_V)} {st : List q_V} {w : Nat} {h : Nat} {sam : Nat → Nat} {blk : Nat → Bool} {lost : Int64} {ogr : Nat → Nat} {came : Nat → Int32} {sums : Nat → Int64} {sqs : Nat → Int64} {mrk : Nat → Bool} {que : Nat → Nat} {qd : Nat} {a : Nat} {b : Nat} (hR : 0 + 1 ≤ fr ∧ 8 + (3 + 11) + 0 ≤ lo) (hst : (st.map (fun v => if q_nol (some v) then 1 else 2)).sum ≤ 8) (ok : q_ok x cc RX0 fr lo) (hd : decode cc pc = .ok (.invokevirtual 178, 3)) (kk : q_W x (pc + 3) lv ((.inl (nI (b * (w + 1) + a))) :: st) (xw w h sam blk lost ogr came sums sqs mrk que qd)) : q_W x pc lv (.inl (nI b) :: .inl (nI a) :: .inr (.inr (some 0)) :: st) (xw w h sam blk lost ogr came sums sqs mrk que qd) :=
  q_callV [.inl (nI a), .inl (nI b)] ct_X0_cornerOf lkX0_X0_cornerOf dc_X0_cornerOf rfl ok rfl hR hst (Nat.le_of_ble_eq_true rfl) hd ⟨w, h, sam, blk, lost, ogr, came, sums, sqs, mrk, que, qd, a, b, rfl, rfl, kk⟩
def sp_X0_columnOf : List q_V → List q_E → (Option q_V → List q_E → Prop) → Prop := fun as Wd K => ∃ (w : Nat) (h : Nat) (sam : Nat → Nat) (blk : Nat → Bool) (lost : Int64) (ogr : Nat → Nat) (came : Nat → Int32) (sums : Nat → Int64) (sqs : Nat → Int64) (mrk : Nat → Bool) (que : Nat → Nat) (qd : Nat) (a : Nat), (q_g w h) ∧ (a < 2 ^ 31) ∧ as = [.inr (.inr (some 0)), .inl (nI a)] ∧ Wd = (xw w h sam blk lost ogr came sums sqs mrk que qd) ∧ (K (some (.inl (nI (a % w)))) (xw w h sam blk lost ogr came sums sqs mrk que qd))
set_option maxHeartbeats 4000000 in
set_option maxRecDepth 20000 in
theorem ct_X0_columnOf : q_Ct yX0_columnOf cX0_columnOf 2 (some .int) 0 0 sp_X0_columnOf := by
  refine q_met (by decide) ?_
  intro x as Wd K hs ok fn
  obtain ⟨w, h, sam, blk, lost, ogr, came, sums, sqs, mrk, que, qd, a, g, ha, rfl, rfl, hk⟩ := hs
  show q_W x 0 [some (.inr (.inr (some 0))), some (.inl (nI a))] [] (xw w h sam blk lost ogr came sums sqs mrk que qd)
  have g1 := g.1; have g2 := g.2.1
  refine q_iload_n ok rfl dX0_columnOf_0 ?_
  refine q_aload_n ok rfl dX0_columnOf_1 ?_
  refine xg_width ok dX0_columnOf_2 ?_
  refine q_iremN (by omega) (by omega) (by omega) ok dX0_columnOf_5 ?_
  exact q_iret ok fn dX0_columnOf_6 hk
theorem kX0_columnOf {x : q_X} {cc : ByteArray} {fr lo pc : Nat} {lv : List (Option q_V)} {st : List q_V} {w : Nat} {h : Nat} {sam : Nat → Nat} {blk : Nat → Bool} {lost : Int64} {ogr : Nat → Nat} {came : Nat → Int32} {sums : Nat → Int64} {sqs : Nat → Int64} {mrk : Nat → Bool} {que : Nat → Nat} {qd : Nat} {a : Nat} (g : q_g w h) (ha : a < 2 ^ 31) (hR : 0 + 1 ≤ fr ∧ 8 + (2 + 11) + 0 ≤ lo) (hst : (st.map (fun v => if q_nol (some v) then 1 else 2)).sum ≤ 8) (ok : q_ok x cc RX0 fr lo) (hd : decode cc pc = .ok (.invokevirtual 128, 3)) (kk : q_W x (pc + 3) lv ((.inl (nI (a % w))) :: st) (xw w h sam blk lost ogr came sums sqs mrk que qd)) : q_W x pc lv (.inl (nI a) :: .inr (.inr (some 0)) :: st) (xw w h sam blk lost ogr came sums sqs mrk que qd) :=
  q_callV [.inl (nI a)] ct_X0_columnOf lkX0_X0_columnOf dc_X0_columnOf rfl ok rfl hR hst (Nat.le_of_ble_eq_true rfl) hd ⟨w, h, sam, blk, lost, ogr, came, sums, sqs, mrk, que, qd, a, g, ha, rfl, rfl, kk⟩
def sp_X0_rowOf : List q_V → List q_E → (Option q_V → List q_E → Prop) → Prop := fun as Wd K => ∃ (w : Nat) (h : Nat) (sam : Nat → Nat) (blk : Nat → Bool) (lost : Int64) (ogr : Nat → Nat) (came : Nat → Int32) (sums : Nat → Int64) (sqs : Nat → Int64) (mrk : Nat → Bool) (que : Nat → Nat) (qd : Nat) (a : Nat), (q_g w h) ∧ (a < 2 ^ 31) ∧ as = [.inr (.inr (some 0)), .inl (nI a)] ∧ Wd = (xw w h sam blk lost ogr came sums sqs mrk que qd) ∧ (K (some (.inl (nI (a / w)))) (xw w h sam blk lost ogr came sums sqs mrk que qd))
set_option maxHeartbeats 4000000 in
set_option maxRecDepth 20000 in
theorem ct_X0_rowOf : q_Ct yX0_rowOf cX0_rowOf 2 (some .int) 0 0 sp_X0_rowOf := by
  refine q_met (by decide) ?_
  intro x as Wd K hs ok fn
  obtain ⟨w, h, sam, blk, lost, ogr, came, sums, sqs, mrk, que, qd, a, g, ha, rfl, rfl, hk⟩ := hs
  show q_W x 0 [some (.inr (.inr (some 0))), some (.inl (nI a))] [] (xw w h sam blk lost ogr came sums sqs mrk que qd)
  have g1 := g.1; have g2 := g.2.1
  refine q_iload_n ok rfl dX0_rowOf_0 ?_
  refine q_aload_n ok rfl dX0_rowOf_1 ?_
  refine xg_width ok dX0_rowOf_2 ?_
  refine q_idivN (by omega) (by omega) (by omega) ok dX0_rowOf_5 ?_
  exact q_iret ok fn dX0_rowOf_6 hk
theorem kX0_rowOf {x : q_X} {cc : ByteArray} {fr lo pc : Nat} {lv : List (Option q_V)} {st : List q_V} {w : Nat} {h : Nat} {sam : Nat → Nat} {blk : Nat → Bool} {lost : Int64} {ogr : Nat → Nat} {came : Nat → Int32} {sums : Nat → Int64} {sqs : Nat → Int64} {mrk : Nat → Bool} {que : Nat → Nat} {qd : Nat} {a : Nat} (g : q_g w h) (ha : a < 2 ^ 31) (hR : 0 + 1 ≤ fr ∧ 8 + (2 + 11) + 0 ≤ lo) (hst : (st.map (fun v => if q_nol (some v) then 1 else 2)).sum ≤ 8) (ok : q_ok x cc RX0 fr lo) (hd : decode cc pc = .ok (.invokevirtual 131, 3)) (kk : q_W x (pc + 3) lv ((.inl (nI (a / w))) :: st) (xw w h sam blk lost ogr came sums sqs mrk que qd)) : q_W x pc lv (.inl (nI a) :: .inr (.inr (some 0)) :: st) (xw w h sam blk lost ogr came sums sqs mrk que qd) :=
  q_callV [.inl (nI a)] ct_X0_rowOf lkX0_X0_rowOf dc_X0_rowOf rfl ok rfl hR hst (Nat.le_of_ble_eq_true rfl) hd ⟨w, h, sam, blk, lost, ogr, came, sums, sqs, mrk, que, qd, a, g, ha, rfl, rfl, kk⟩
def sp_X0_nearestSide : List q_V → List q_E → (Option q_V → List q_E → Prop) → Prop := fun as Wd K => ∃ (a : Int32), as = [.inl a] ∧ (K (some (.inl (nI (clampS a)))) Wd)
set_option maxHeartbeats 4000000 in
set_option maxRecDepth 20000 in
theorem ct_X0_nearestSide : q_Ct yX0_nearestSide cX0_nearestSide 1 (some .int) 1 21 sp_X0_nearestSide := by
  refine q_met (by decide) ?_
  intro x as Wd K hs ok fn
  obtain ⟨a, rfl, hk⟩ := hs
  show q_W x 0 [some (.inl a)] [] Wd
  refine q_iconstv (nI 1) ok (by decide) dX0_nearestSide_0 ?_
  refine q_bipushv (nI 16) ok (by decide) dX0_nearestSide_1 ?_
  refine q_iload_n ok rfl dX0_nearestSide_3 ?_
  refine q_mmin lkX0_min (by decide) (Nat.le_of_ble_eq_true rfl) ok dX0_nearestSide_4 ?_
  refine q_mmax lkX0_max (by decide) (Nat.le_of_ble_eq_true rfl) ok dX0_nearestSide_7 ?_
  exact q_iret ok fn dX0_nearestSide_10 (by rw [clampS_X]; exact hk)
theorem kX0_nearestSide {x : q_X} {cc : ByteArray} {fr lo pc : Nat} {lv : List (Option q_V)} {st : List q_V} {a : Int32} {Wd : List q_E} (hR : 1 + 1 ≤ fr ∧ 8 + (1 + 11) + 21 ≤ lo) (hst : (st.map (fun v => if q_nol (some v) then 1 else 2)).sum ≤ 8) (ok : q_ok x cc RX0 fr lo) (hd : decode cc pc = .ok (.invokestatic 7, 3)) (kk : q_W x (pc + 3) lv ((.inl (nI (clampS a))) :: st) Wd) : q_W x pc lv (.inl a :: st) Wd :=
  q_callS [.inl a] ct_X0_nearestSide lkX0_X0_nearestSide dc_X0_nearestSide ok hR hst (Nat.le_of_ble_eq_true rfl) hd ⟨a, rfl, kk⟩
def sp_X0_isPart : List q_V → List q_E → (Option q_V → List q_E → Prop) → Prop := fun as Wd K => ∃ (a : Int32) (b : Int32) (c : Int32), as = [.inl a, .inl b, .inl c] ∧ (K (some (.inl (bI (isP a b c)))) Wd)
set_option maxHeartbeats 4000000 in
set_option maxRecDepth 20000 in
theorem ct_X0_isPart : q_Ct yX0_isPart cX0_isPart 3 (some .boolean) 0 0 sp_X0_isPart := by
  refine q_met (by decide) ?_
  intro x as Wd K hs ok fn
  obtain ⟨a, b, c, rfl, hk⟩ := hs
  show q_W x 0 [some (.inl a), some (.inl b), some (.inl c)] [] Wd
  refine q_iload_n ok rfl dX0_isPart_0 ?_
  refine q_if_lt 24 ok dX0_isPart_1 (by decide) (fun h1 => ?_) (fun h1 => ?_)
  · refine q_iconstv (nI 0) ok (by decide) dX0_isPart_24 ?_
    exact q_zret ok fn dX0_isPart_25 (by decide) (by have ee := (by first | exact decide_eq_false (fun q => absurd q.1 (Int32.not_le.mpr h1)) | exact decide_eq_false (fun q => absurd q.2.1 (Int32.not_le.mpr h6)) | exact decide_eq_false (fun q => absurd q.2.2.1 (Int32.not_le.mpr h10)) | exact decide_eq_false (fun q => absurd q.2.2.2 (Int32.not_le.mpr h17)) : isP a b c = false); rw [ee] at hk; exact hk)
  · refine q_iload_n ok rfl dX0_isPart_4 ?_
    refine q_iload_n ok rfl dX0_isPart_5 ?_
    refine q_icmp_gt 24 ok dX0_isPart_6 (by decide) (fun h6 => ?_) (fun h6 => ?_)
    · refine q_iconstv (nI 0) ok (by decide) dX0_isPart_24 ?_
      exact q_zret ok fn dX0_isPart_25 (by decide) (by have ee := (by first | exact decide_eq_false (fun q => absurd q.1 (Int32.not_le.mpr h1)) | exact decide_eq_false (fun q => absurd q.2.1 (Int32.not_le.mpr h6)) | exact decide_eq_false (fun q => absurd q.2.2.1 (Int32.not_le.mpr h10)) | exact decide_eq_false (fun q => absurd q.2.2.2 (Int32.not_le.mpr h17)) : isP a b c = false); rw [ee] at hk; exact hk)
    · refine q_iload_n ok rfl dX0_isPart_9 ?_
      refine q_if_lt 24 ok dX0_isPart_10 (by decide) (fun h10 => ?_) (fun h10 => ?_)
      · refine q_iconstv (nI 0) ok (by decide) dX0_isPart_24 ?_
        exact q_zret ok fn dX0_isPart_25 (by decide) (by have ee := (by first | exact decide_eq_false (fun q => absurd q.1 (Int32.not_le.mpr h1)) | exact decide_eq_false (fun q => absurd q.2.1 (Int32.not_le.mpr h6)) | exact decide_eq_false (fun q => absurd q.2.2.1 (Int32.not_le.mpr h10)) | exact decide_eq_false (fun q => absurd q.2.2.2 (Int32.not_le.mpr h17)) : isP a b c = false); rw [ee] at hk; exact hk)
      · refine q_iload_n ok rfl dX0_isPart_13 ?_
        refine q_iload_n ok rfl dX0_isPart_14 ?_
        refine q_iload_n ok rfl dX0_isPart_15 ?_
        refine q_isub ok dX0_isPart_16 ?_
        refine q_icmp_gt 24 ok dX0_isPart_17 (by decide) (fun h17 => ?_) (fun h17 => ?_)
        · refine q_iconstv (nI 0) ok (by decide) dX0_isPart_24 ?_
          exact q_zret ok fn dX0_isPart_25 (by decide) (by have ee := (by first | exact decide_eq_false (fun q => absurd q.1 (Int32.not_le.mpr h1)) | exact decide_eq_false (fun q => absurd q.2.1 (Int32.not_le.mpr h6)) | exact decide_eq_false (fun q => absurd q.2.2.1 (Int32.not_le.mpr h10)) | exact decide_eq_false (fun q => absurd q.2.2.2 (Int32.not_le.mpr h17)) : isP a b c = false); rw [ee] at hk; exact hk)
        · refine q_iconstv (nI 1) ok (by decide) dX0_isPart_20 ?_
          refine q_goto 25 ok dX0_isPart_21 (by decide) ?_
          exact q_zret ok fn dX0_isPart_25 (by decide) (by have ee : isP a b c = true := (decide_eq_true ⟨Int32.not_lt.mp h1, Int32.not_lt.mp h6, Int32.not_lt.mp h10, Int32.not_lt.mp h17⟩ : isP a b c = true); rw [ee] at hk; exact hk)
theorem kX0_isPart {x : q_X} {cc : ByteArray} {fr lo pc : Nat} {lv : List (Option q_V)} {st : List q_V} {a : Int32} {b : Int32} {c : Int32} {Wd : List q_E} (hR : 0 + 1 ≤ fr ∧ 8 + (3 + 11) + 0 ≤ lo) (hst : (st.map (fun v => if q_nol (some v) then 1 else 2)).sum ≤ 8) (ok : q_ok x cc RX0 fr lo) (hd : decode cc pc = .ok (.invokestatic 147, 3)) (kk : q_W x (pc + 3) lv ((.inl (bI (isP a b c))) :: st) Wd) : q_W x pc lv (.inl c :: .inl b :: .inl a :: st) Wd :=
  q_callS [.inl a, .inl b, .inl c] ct_X0_isPart lkX0_X0_isPart dc_X0_isPart ok hR hst (Nat.le_of_ble_eq_true rfl) hd ⟨a, b, c, rfl, kk⟩
def sp_J9_floorMod_7cf53 : List q_V → List q_E → (Option q_V → List q_E → Prop) → Prop := fun as Wd K => ∃ (a : Int32), as = [.inl a, .inl (nI 256)] ∧ (K (some (.inl (nI (lo8 a)))) Wd)
set_option maxHeartbeats 4000000 in
set_option maxRecDepth 20000 in
theorem ct_J9_floorMod_7cf53 : q_Ct yJ9_floorMod_7cf53 cJ9_floorMod_7cf53 3 (some .int) 0 0 sp_J9_floorMod_7cf53 := by
  refine q_metF (by decide +kernel) ?_
  intro x as Wd K hs ok fn
  obtain ⟨a, rfl, hk⟩ := hs
  show q_W x 0 [some (.inl a), some (.inl (nI 256)), none] [] Wd
  refine q_iload_n ok rfl dJ9_floorMod_7cf53_0 ?_
  refine q_iload_n ok rfl dJ9_floorMod_7cf53_1 ?_
  refine q_irem ok (by decide) dJ9_floorMod_7cf53_2 ?_
  refine q_istore_2 ok rfl dJ9_floorMod_7cf53_3 ?_
  refine q_iload_n ok rfl dJ9_floorMod_7cf53_4 ?_
  refine q_iload_n ok rfl dJ9_floorMod_7cf53_5 ?_
  refine q_ixor ok dJ9_floorMod_7cf53_6 ?_
  refine q_if_ge 18 ok dJ9_floorMod_7cf53_7 (by decide) (fun h7 => ?_) (fun h7 => ?_)
  · refine q_iload_n ok rfl dJ9_floorMod_7cf53_18 ?_
    exact q_iret ok fn dJ9_floorMod_7cf53_19 (by first | (rw [fm_pos (fun q => absurd h7 (Int32.not_le.mpr ((fm_sgn a).mpr q)))]; exact hk) | (rw [fm_zero h11]; exact hk) | (rw [fm_neg ((fm_sgn a).mp (Int32.not_le.mp h7)) h11]; exact hk))
  · refine q_iload_n ok rfl dJ9_floorMod_7cf53_10 ?_
    refine q_if_eq 18 ok dJ9_floorMod_7cf53_11 (by decide) (fun h11 => ?_) (fun h11 => ?_)
    · refine q_iload_n ok rfl dJ9_floorMod_7cf53_18 ?_
      exact q_iret ok fn dJ9_floorMod_7cf53_19 (by first | (rw [fm_pos (fun q => absurd h7 (Int32.not_le.mpr ((fm_sgn a).mpr q)))]; exact hk) | (rw [fm_zero h11]; exact hk) | (rw [fm_neg ((fm_sgn a).mp (Int32.not_le.mp h7)) h11]; exact hk))
    · refine q_iload_n ok rfl dJ9_floorMod_7cf53_14 ?_
      refine q_iload_n ok rfl dJ9_floorMod_7cf53_15 ?_
      refine q_iadd ok dJ9_floorMod_7cf53_16 ?_
      exact q_iret ok fn dJ9_floorMod_7cf53_17 (by first | (rw [fm_pos (fun q => absurd h7 (Int32.not_le.mpr ((fm_sgn a).mpr q)))]; exact hk) | (rw [fm_zero h11]; exact hk) | (rw [fm_neg ((fm_sgn a).mp (Int32.not_le.mp h7)) h11]; exact hk))
theorem kJ9_floorMod_7cf53 {x : q_X} {cc : ByteArray} {fr lo pc : Nat} {lv : List (Option q_V)} {st : List q_V} {a : Int32} {Wd : List q_E} (hR : 0 + 1 ≤ fr ∧ 8 + (3 + 11) + 0 ≤ lo) (hst : (st.map (fun v => if q_nol (some v) then 1 else 2)).sum ≤ 8) (ok : q_ok x cc RX0 fr lo) (hd : decode cc pc = .ok (.invokestatic 70, 3)) (kk : q_W x (pc + 3) lv ((.inl (nI (lo8 a))) :: st) Wd) : q_W x pc lv (.inl (nI 256) :: .inl a :: st) Wd :=
  q_callS [.inl a, .inl (nI 256)] ct_J9_floorMod_7cf53 lkX0_J9_floorMod_7cf53 dc_J9_floorMod_7cf53 ok hR hst (Nat.le_of_ble_eq_true rfl) hd ⟨a, rfl, kk⟩
def sp_X1_all : List q_V → List q_E → (Option q_V → List q_E → Prop) → Prop := fun as Wd K => ∃ (w : Nat) (h : Nat) (thr : Nat) (sam : Nat → Nat) (blk : Nat → Bool) (nxt : Nat → Bool) (came : Nat → Int32) (part : Nat → Int32) (rst : Int64), as = [.inr (.inr (some 0))] ∧ Wd = (mw w h thr sam blk nxt came part rst) ∧ (K (some (.inl (nI (w * h)))) (mw w h thr sam blk nxt came part rst))
set_option maxHeartbeats 4000000 in
set_option maxRecDepth 20000 in
theorem ct_X1_all : q_Ct yX1_all cX1_all 1 (some .int) 0 0 sp_X1_all := by
  refine q_met (by decide) ?_
  intro x as Wd K hs ok fn
  obtain ⟨w, h, thr, sam, blk, nxt, came, part, rst, rfl, rfl, hk⟩ := hs
  show q_W x 0 [some (.inr (.inr (some 0)))] [] (mw w h thr sam blk nxt came part rst)
  refine q_aload_n ok rfl dX1_all_0 ?_
  refine mg_width ok dX1_all_1 ?_
  refine q_aload_n ok rfl dX1_all_4 ?_
  refine mg_height ok dX1_all_5 ?_
  refine q_imulN ok dX1_all_8 ?_
  exact q_iret ok fn dX1_all_9 hk
theorem kX1_all {x : q_X} {cc : ByteArray} {fr lo pc : Nat} {lv : List (Option q_V)} {st : List q_V} {w : Nat} {h : Nat} {thr : Nat} {sam : Nat → Nat} {blk : Nat → Bool} {nxt : Nat → Bool} {came : Nat → Int32} {part : Nat → Int32} {rst : Int64} (hR : 0 + 1 ≤ fr ∧ 8 + (1 + 11) + 0 ≤ lo) (hst : (st.map (fun v => if q_nol (some v) then 1 else 2)).sum ≤ 8) (ok : q_ok x cc RX1 fr lo) (hd : decode cc pc = .ok (.invokevirtual 40, 3)) (kk : q_W x (pc + 3) lv ((.inl (nI (w * h))) :: st) (mw w h thr sam blk nxt came part rst)) : q_W x pc lv (.inr (.inr (some 0)) :: st) (mw w h thr sam blk nxt came part rst) :=
  q_callV [] ct_X1_all lkX1_X1_all dc_X1_all rfl ok rfl hR hst (Nat.le_of_ble_eq_true rfl) hd ⟨w, h, thr, sam, blk, nxt, came, part, rst, rfl, rfl, kk⟩
def sp_X1_thrown : List q_V → List q_E → (Option q_V → List q_E → Prop) → Prop := fun as Wd K => ∃ (w : Nat) (h : Nat) (thr : Nat) (sam : Nat → Nat) (blk : Nat → Bool) (nxt : Nat → Bool) (came : Nat → Int32) (part : Nat → Int32) (rst : Int64), as = [.inr (.inr (some 0))] ∧ Wd = (mw w h thr sam blk nxt came part rst) ∧ (K (some (.inl (nI thr))) (mw w h thr sam blk nxt came part rst))
set_option maxHeartbeats 4000000 in
set_option maxRecDepth 20000 in
theorem ct_X1_thrown : q_Ct yX1_thrown cX1_thrown 1 (some .int) 0 0 sp_X1_thrown := by
  refine q_met (by decide) ?_
  intro x as Wd K hs ok fn
  obtain ⟨w, h, thr, sam, blk, nxt, came, part, rst, rfl, rfl, hk⟩ := hs
  show q_W x 0 [some (.inr (.inr (some 0)))] [] (mw w h thr sam blk nxt came part rst)
  refine q_aload_n ok rfl dX1_thrown_0 ?_
  refine mg_thrown ok dX1_thrown_1 ?_
  exact q_iret ok fn dX1_thrown_4 hk
theorem kX1_thrown {x : q_X} {cc : ByteArray} {fr lo pc : Nat} {lv : List (Option q_V)} {st : List q_V} {w : Nat} {h : Nat} {thr : Nat} {sam : Nat → Nat} {blk : Nat → Bool} {nxt : Nat → Bool} {came : Nat → Int32} {part : Nat → Int32} {rst : Int64} (hR : 0 + 1 ≤ fr ∧ 8 + (1 + 11) + 0 ≤ lo) (hst : (st.map (fun v => if q_nol (some v) then 1 else 2)).sum ≤ 8) (ok : q_ok x cc RL fr lo) (hd : decode cc pc = .ok (.invokevirtual 60, 3)) (kk : q_W x (pc + 3) lv ((.inl (nI thr)) :: st) (mw w h thr sam blk nxt came part rst)) : q_W x pc lv (.inr (.inr (some 0)) :: st) (mw w h thr sam blk nxt came part rst) :=
  q_callV [] ct_X1_thrown lkL_X1_thrown dc_X1_thrown rfl ok rfl hR hst (Nat.le_of_ble_eq_true rfl) hd ⟨w, h, thr, sam, blk, nxt, came, part, rst, rfl, rfl, kk⟩
def sp_X0_rest : List q_V → List q_E → (Option q_V → List q_E → Prop) → Prop := fun as Wd K => ∃ (w : Nat) (h : Nat) (sam : Nat → Nat) (blk : Nat → Bool) (lost : Int64) (ogr : Nat → Nat) (came : Nat → Int32) (sums : Nat → Int64) (sqs : Nat → Int64) (mrk : Nat → Bool) (que : Nat → Nat) (qd : Nat), as = [.inr (.inr (some 0))] ∧ Wd = (xw w h sam blk lost ogr came sums sqs mrk que qd) ∧ (K (some (.inr (.inl lost))) (xw w h sam blk lost ogr came sums sqs mrk que qd))
set_option maxHeartbeats 4000000 in
set_option maxRecDepth 20000 in
theorem ct_X0_rest : q_Ct yX0_rest cX0_rest 1 (some .long) 0 0 sp_X0_rest := by
  refine q_met (by decide) ?_
  intro x as Wd K hs ok fn
  obtain ⟨w, h, sam, blk, lost, ogr, came, sums, sqs, mrk, que, qd, rfl, rfl, hk⟩ := hs
  show q_W x 0 [some (.inr (.inr (some 0)))] [] (xw w h sam blk lost ogr came sums sqs mrk que qd)
  refine q_aload_n ok rfl dX0_rest_0 ?_
  refine xg_lost ok dX0_rest_1 ?_
  exact q_lret ok fn dX0_rest_4 hk
theorem kX0_rest {x : q_X} {cc : ByteArray} {fr lo pc : Nat} {lv : List (Option q_V)} {st : List q_V} {w : Nat} {h : Nat} {sam : Nat → Nat} {blk : Nat → Bool} {lost : Int64} {ogr : Nat → Nat} {came : Nat → Int32} {sums : Nat → Int64} {sqs : Nat → Int64} {mrk : Nat → Bool} {que : Nat → Nat} {qd : Nat} (hR : 0 + 1 ≤ fr ∧ 8 + (1 + 11) + 0 ≤ lo) (hst : (st.map (fun v => if q_nol (some v) then 1 else 2)).sum ≤ 8) (ok : q_ok x cc RL fr lo) (hd : decode cc pc = .ok (.invokevirtual 80, 3)) (kk : q_W x (pc + 3) lv ((.inr (.inl lost)) :: st) (xw w h sam blk lost ogr came sums sqs mrk que qd)) : q_W x pc lv (.inr (.inr (some 0)) :: st) (xw w h sam blk lost ogr came sums sqs mrk que qd) :=
  q_callV [] ct_X0_rest lkL_X0_rest dc_X0_rest rfl ok rfl hR hst (Nat.le_of_ble_eq_true rfl) hd ⟨w, h, sam, blk, lost, ogr, came, sums, sqs, mrk, que, qd, rfl, rfl, kk⟩
def sp_X0_countBlack : List q_V → List q_E → (Option q_V → List q_E → Prop) → Prop := fun as Wd K => ∃ (w : Nat) (h : Nat) (sam : Nat → Nat) (blk : Nat → Bool) (lost : Int64) (ogr : Nat → Nat) (came : Nat → Int32) (sums : Nat → Int64) (sqs : Nat → Int64) (mrk : Nat → Bool) (que : Nat → Nat) (qd : Nat), (q_g w h) ∧ as = [.inr (.inr (some 0))] ∧ Wd = (xw w h sam blk lost ogr came sums sqs mrk que qd) ∧ (K (some (.inl (nI (cntB blk (w * h))))) (xw w h sam blk lost ogr came sums sqs mrk que qd))
set_option maxHeartbeats 4000000 in
set_option maxRecDepth 20000 in
theorem ct_X0_countBlack : q_Ct yX0_countBlack cX0_countBlack 3 (some .int) 0 0 sp_X0_countBlack := by
  refine q_met (by decide) ?_
  intro x as Wd K hs ok fn
  obtain ⟨w, h, sam, blk, lost, ogr, came, sums, sqs, mrk, que, qd, g, rfl, rfl, hk⟩ := hs
  show q_W x 0 [some (.inr (.inr (some 0))), none, none] [] (xw w h sam blk lost ogr came sums sqs mrk que qd)
  have hn := q_gn g
  have L : ∀ (d i : Nat), d = w * h - i → i ≤ w * h → q_W x 4 [some (.inr (.inr (some 0))), some (.inl (nI (cntB blk i))), some (.inl (nI i))] [] (xw w h sam blk lost ogr came sums sqs mrk que qd) := by
    intro d
    induction d using Nat.strongRecOn with
    | _ d ih =>
      intro i hd hi
      refine q_iload_n ok rfl dX0_countBlack_4 ?_
      refine q_aload_n ok rfl dX0_countBlack_5 ?_
      refine xg_count ok dX0_countBlack_6 ?_
      refine q_icmpN_ge 30 (by omega) (by omega) ok dX0_countBlack_9 (by decide) (fun h9 => ?_) (fun h9 => ?_)
      · refine q_iload_n ok rfl dX0_countBlack_30 ?_
        exact q_iret ok fn dX0_countBlack_31 (by rw [show i = w * h by omega] ; exact hk)
      · refine q_aload_n ok rfl dX0_countBlack_12 ?_
        refine xg_black ok dX0_countBlack_13 ?_
        refine q_iload_n ok rfl dX0_countBlack_16 ?_
        refine xl_blk g (by omega) ok dX0_countBlack_17 ?_
        refine q_ifb_eq 24 ok dX0_countBlack_18 (by decide) (fun h18 => ?_) (fun h18 => ?_)
        · refine q_iincN_2 1 ok rfl (by decide) dX0_countBlack_24 ?_
          refine q_goto 4 ok dX0_countBlack_27 (by decide) ?_
          first | (rw [← cntB_t h18]; exact ih _ (by omega) (i + 1) rfl (by omega)) | (rw [← cntB_f h18]; exact ih _ (by omega) (i + 1) rfl (by omega))
        · refine q_iincN_1 1 ok rfl (by decide) dX0_countBlack_21 ?_
          refine q_iincN_2 1 ok rfl (by decide) dX0_countBlack_24 ?_
          refine q_goto 4 ok dX0_countBlack_27 (by decide) ?_
          first | (rw [← cntB_t h18]; exact ih _ (by omega) (i + 1) rfl (by omega)) | (rw [← cntB_f h18]; exact ih _ (by omega) (i + 1) rfl (by omega))
  refine q_iconstv (nI 0) ok (by decide) dX0_countBlack_0 ?_
  refine q_istore_1 ok rfl dX0_countBlack_1 ?_
  refine q_iconstv (nI 0) ok (by decide) dX0_countBlack_2 ?_
  refine q_istore_2 ok rfl dX0_countBlack_3 ?_
  exact L _ 0 rfl (Nat.zero_le _)
theorem kX0_countBlack {x : q_X} {cc : ByteArray} {fr lo pc : Nat} {lv : List (Option q_V)} {st : List q_V} {w : Nat} {h : Nat} {sam : Nat → Nat} {blk : Nat → Bool} {lost : Int64} {ogr : Nat → Nat} {came : Nat → Int32} {sums : Nat → Int64} {sqs : Nat → Int64} {mrk : Nat → Bool} {que : Nat → Nat} {qd : Nat} (g : q_g w h) (hR : 0 + 1 ≤ fr ∧ 8 + (3 + 11) + 0 ≤ lo) (hst : (st.map (fun v => if q_nol (some v) then 1 else 2)).sum ≤ 8) (ok : q_ok x cc RX0 fr lo) (hd : decode cc pc = .ok (.invokevirtual 90, 3)) (kk : q_W x (pc + 3) lv ((.inl (nI (cntB blk (w * h)))) :: st) (xw w h sam blk lost ogr came sums sqs mrk que qd)) : q_W x pc lv (.inr (.inr (some 0)) :: st) (xw w h sam blk lost ogr came sums sqs mrk que qd) :=
  q_callV [] ct_X0_countBlack lkX0_X0_countBlack dc_X0_countBlack rfl ok rfl hR hst (Nat.le_of_ble_eq_true rfl) hd ⟨w, h, sam, blk, lost, ogr, came, sums, sqs, mrk, que, qd, g, rfl, rfl, kk⟩
def sp_X1_blacks : List q_V → List q_E → (Option q_V → List q_E → Prop) → Prop := fun as Wd K => ∃ (w : Nat) (h : Nat) (thr : Nat) (sam : Nat → Nat) (blk : Nat → Bool) (nxt : Nat → Bool) (came : Nat → Int32) (part : Nat → Int32) (rst : Int64), (q_g w h) ∧ as = [.inr (.inr (some 0))] ∧ Wd = (mw w h thr sam blk nxt came part rst) ∧ (K (some (.inl (nI (cntB blk (w * h))))) (mw w h thr sam blk nxt came part rst))
set_option maxHeartbeats 4000000 in
set_option maxRecDepth 20000 in
theorem ct_X1_blacks : q_Ct yX1_blacks cX1_blacks 3 (some .int) 1 20 sp_X1_blacks := by
  refine q_met (by decide) ?_
  intro x as Wd K hs ok fn
  obtain ⟨w, h, thr, sam, blk, nxt, came, part, rst, g, rfl, rfl, hk⟩ := hs
  show q_W x 0 [some (.inr (.inr (some 0))), none, none] [] (mw w h thr sam blk nxt came part rst)
  have hn := q_gn g
  have L : ∀ (d i : Nat), d = w * h - i → i ≤ w * h → q_W x 4 [some (.inr (.inr (some 0))), some (.inl (nI (cntB blk i))), some (.inl (nI i))] [] (mw w h thr sam blk nxt came part rst) := by
    intro d
    induction d using Nat.strongRecOn with
    | _ d ih =>
      intro i hd hi
      refine q_iload_n ok rfl dX1_blacks_4 ?_
      refine q_aload_n ok rfl dX1_blacks_5 ?_
      refine kX1_all (by decide) (Nat.le_of_ble_eq_true rfl) ok dX1_blacks_6 ?_
      refine q_icmpN_ge 35 (by omega) (by omega) ok dX1_blacks_9 (by decide) (fun h9 => ?_) (fun h9 => ?_)
      · refine q_iload_n ok rfl dX1_blacks_35 ?_
        exact q_iret ok fn dX1_blacks_36 (by rw [show i = w * h by omega] ; exact hk)
      · refine q_aload_n ok rfl dX1_blacks_12 ?_
        refine mg_black ok dX1_blacks_13 ?_
        refine q_iload_n ok rfl dX1_blacks_16 ?_
        refine ml_blk g (by omega) ok dX1_blacks_17 ?_
        refine q_ifb_eq 27 ok dX1_blacks_18 (by decide) (fun h18 => ?_) (fun h18 => ?_)
        · refine q_iload_n ok rfl dX1_blacks_27 ?_
          refine q_istore_1 ok rfl dX1_blacks_28 ?_
          refine q_iincN_2 1 ok rfl (by decide) dX1_blacks_29 ?_
          refine q_goto 4 ok dX1_blacks_32 (by decide) ?_
          first | (rw [← cntB_t h18]; exact ih _ (by omega) (i + 1) rfl (by omega)) | (rw [← cntB_f h18]; exact ih _ (by omega) (i + 1) rfl (by omega))
        · refine q_iload_n ok rfl dX1_blacks_21 ?_
          refine q_iconstv (nI 1) ok (by decide) dX1_blacks_22 ?_
          refine q_iaddN ok dX1_blacks_23 ?_
          refine q_goto 28 ok dX1_blacks_24 (by decide) ?_
          refine q_istore_1 ok rfl dX1_blacks_28 ?_
          refine q_iincN_2 1 ok rfl (by decide) dX1_blacks_29 ?_
          refine q_goto 4 ok dX1_blacks_32 (by decide) ?_
          first | (rw [← cntB_t h18]; exact ih _ (by omega) (i + 1) rfl (by omega)) | (rw [← cntB_f h18]; exact ih _ (by omega) (i + 1) rfl (by omega))
  refine q_iconstv (nI 0) ok (by decide) dX1_blacks_0 ?_
  refine q_istore_1 ok rfl dX1_blacks_1 ?_
  refine q_iconstv (nI 0) ok (by decide) dX1_blacks_2 ?_
  refine q_istore_2 ok rfl dX1_blacks_3 ?_
  exact L _ 0 rfl (Nat.zero_le _)
theorem kX1_blacks {x : q_X} {cc : ByteArray} {fr lo pc : Nat} {lv : List (Option q_V)} {st : List q_V} {w : Nat} {h : Nat} {thr : Nat} {sam : Nat → Nat} {blk : Nat → Bool} {nxt : Nat → Bool} {came : Nat → Int32} {part : Nat → Int32} {rst : Int64} (g : q_g w h) (hR : 1 + 1 ≤ fr ∧ 8 + (3 + 11) + 20 ≤ lo) (hst : (st.map (fun v => if q_nol (some v) then 1 else 2)).sum ≤ 8) (ok : q_ok x cc RX1 fr lo) (hd : decode cc pc = .ok (.invokevirtual 52, 3)) (kk : q_W x (pc + 3) lv ((.inl (nI (cntB blk (w * h)))) :: st) (mw w h thr sam blk nxt came part rst)) : q_W x pc lv (.inr (.inr (some 0)) :: st) (mw w h thr sam blk nxt came part rst) :=
  q_callV [] ct_X1_blacks lkX1_X1_blacks dc_X1_blacks rfl ok rfl hR hst (Nat.le_of_ble_eq_true rfl) hd ⟨w, h, thr, sam, blk, nxt, came, part, rst, g, rfl, rfl, kk⟩
