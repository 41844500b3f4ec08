-- THE METHODS OF THE CLASS THAT THROW
def lC (z : Int32) : Bool := decide (¬ z < nI 1 ∧ ¬ nI 31 < z ∧ ¬ z - z / nI 2 * nI 2 = 0)
theorem lC_o {z : Int32} (h1 : ¬ z < nI 1) (h2 : ¬ nI 31 < z) (h3 : ¬ z - z / nI 2 * nI 2 = 0) : ∃ r : Nat, r ≤ 15 ∧ z = nI (2 * r + 1) := by
  have h0 : ¬ z < 0 := by
    rw [Int32.lt_iff_toInt_lt, nI_toInt (by decide)] at h1
    rw [Int32.lt_iff_toInt_lt, Int32.toInt_zero]; omega
  obtain ⟨j, hj, rfl⟩ := nI_of h0
  have hj2 : j ≤ 31 := Nat.not_lt.mp (mt (nI_ltI (by decide) hj).mpr h2)
  rw [pk_rem hj (by decide) (by decide), nI_z (by omega)] at h3
  exact ⟨j / 2, by omega, by rw [show 2 * (j / 2) + 1 = j by omega]⟩
def oF (sam : Nat → Nat) (w ex k : Nat) : Bool := decide (2 * 2 ^ ex * 2 ^ ex * sam k < 256 * (2 * cN (k % w) (k / w) ex + 1))

def sp_X0_put : List q_V → List q_E → (Option q_V → List q_E → Prop) → (String → List q_E → Prop) → Prop := fun as Wd K KX => ∃ (w : Nat) (h : Nat) (sam : Nat → Nat) (blk : Nat → Bool) (lost : Int64) (ogr : Nat → Nat) (came : Nat → Int32) (sums : Nat → Int64) (sqs : Nat → Int64) (mrk : Nat → Bool) (que : Nat → Nat) (qd : Nat) (a : Int32) (b : Int32) (v : Int32), (q_g w h) ∧ as = [.inr (.inr (some 0)), .inl a, .inl b, .inl v] ∧ Wd = (xw w h sam blk lost ogr came sums sqs mrk que qd) ∧ (inI w h a b = true → ¬ v < 0 → ¬ nI 255 < v → K (some (.inl (nI (sam (pI w a b))))) (xw w h (va_up sam (pI w a b) v.toNatClampNeg) blk lost ogr came sums sqs mrk que qd)) ∧ (inI w h a b = false → KX exX (xw w h sam blk lost ogr came sums sqs mrk que qd)) ∧ ((inI w h a b = true ∧ (v < 0 ∨ nI 255 < v)) → KX exI (xw w h sam blk lost ogr came sums sqs mrk que qd))
set_option maxHeartbeats 4000000 in
set_option maxRecDepth 20000 in
theorem ct_X0_put : q_CtX yX0_put cX0_put 6 (some .int) 6 82 sp_X0_put := by
  refine q_metX (by decide) ?_
  intro x as Wd K KX hs ok fn
  obtain ⟨w, h, sam, blk, lost, ogr, came, sums, sqs, mrk, que, qd, a, b, v, g, rfl, rfl, hk0, hk1, hk2⟩ := hs
  show q_W x 0 [some (.inr (.inr (some 0))), some (.inl a), some (.inl b), some (.inl v), none, none] [] (xw w h sam blk lost ogr came sums sqs mrk que qd)
  refine q_aload_n ok rfl dX0_put_0 ?_
  refine q_iload_n ok rfl dX0_put_1 ?_
  refine q_iload_n ok rfl dX0_put_2 ?_
  refine kX0_isInside (by decide) (Nat.le_of_ble_eq_true rfl) ok dX0_put_3 ?_
  refine q_ifb_ne 19 ok dX0_put_6 (by decide) (fun h6 => ?_) (fun h6 => ?_)
  · refine q_iload_n ok rfl dX0_put_19 ?_
    refine q_if_lt 30 ok dX0_put_20 (by decide) (fun h20 => ?_) (fun h20 => ?_)
    · exact q_thG (text := "a sample is 0 .. 255") ok fn q_exf.1 q_exIk q_exIn (fun s h => h.1) q_exIw q_exIg (by decide +kernel) (by decide) dX0_put_30 dX0_put_33 dX0_put_34 dX0_put_36 dX0_put_39 (hk2 ⟨h6, Or.inl h20⟩)
    · refine q_iload_n ok rfl dX0_put_23 ?_
      refine q_sipushv (nI 255) ok (by decide) dX0_put_24 ?_
      refine q_icmp_le 40 ok dX0_put_27 (by decide) (fun h27 => ?_) (fun h27 => ?_)
      · obtain ⟨i, j, hi, hj, rfl, rfl⟩ := inI_o g h6
        have hlt := pl_lt hi hj
        have hw := g.2.1
        have hh := g.2.2.2
        have ep := pI_n (w := w) (i := i) (j := j) (by omega) (by omega)
        have h27b : ¬ nI 255 < v := Int32.not_lt.mpr h27
        obtain ⟨vv, hvv, rfl⟩ := nI_of h20
        refine q_aload_n ok rfl dX0_put_40 ?_
        refine q_iload_n ok rfl dX0_put_41 ?_
        refine q_iload_n ok rfl dX0_put_42 ?_
        refine kX0_placeOf (by decide) (Nat.le_of_ble_eq_true rfl) ok dX0_put_43 ?_
        refine q_istore_4 ok rfl dX0_put_46 ?_
        refine q_aload_n ok rfl dX0_put_48 ?_
        refine xg_samples ok dX0_put_49 ?_
        refine q_iload ok rfl dX0_put_52 ?_
        refine xl_sam g (by omega) ok dX0_put_54 ?_
        refine q_istore_5 ok rfl dX0_put_55 ?_
        refine q_aload_n ok rfl dX0_put_57 ?_
        refine xg_samples ok dX0_put_58 ?_
        refine q_iload ok rfl dX0_put_61 ?_
        refine q_iload_n ok rfl dX0_put_63 ?_
        refine xs_sam g (by omega) ok dX0_put_64 ?_
        refine q_iload ok rfl dX0_put_65 ?_
        exact q_iretX ok fn dX0_put_67 (by have z := hk0 h6 h20 h27b; rw [ep, nI_clamp hvv] at z; exact z)
      · exact q_thG (text := "a sample is 0 .. 255") ok fn q_exf.1 q_exIk q_exIn (fun s h => h.1) q_exIw q_exIg (by decide +kernel) (by decide) dX0_put_30 dX0_put_33 dX0_put_34 dX0_put_36 dX0_put_39 (hk2 ⟨h6, Or.inr (Int32.not_le.mp h27)⟩)
  · exact q_thG (text := "there is no such sample") ok fn q_exf.2.1 q_exXk q_exXn (fun s h => h.2.1) q_exXw q_exXg (by decide +kernel) (by decide) dX0_put_9 dX0_put_12 dX0_put_13 dX0_put_15 dX0_put_18 (hk1 h6)
def sp_X0_at : List q_V → List q_E → (Option q_V → List q_E → Prop) → (String → List q_E → Prop) → Prop := fun as Wd K KX => ∃ (w : Nat) (h : Nat) (sam : Nat → Nat) (blk : Nat → Bool) (lost : Int64) (ogr : Nat → Nat) (came : Nat → Int32) (sums : Nat → Int64) (sqs : Nat → Int64) (mrk : Nat → Bool) (que : Nat → Nat) (qd : Nat) (a : Int32) (b : Int32), (q_g w h) ∧ as = [.inr (.inr (some 0)), .inl a, .inl b] ∧ Wd = (xw w h sam blk lost ogr came sums sqs mrk que qd) ∧ (inI w h a b = true → K (some (.inl (bI (blk (pI w a b))))) (xw w h sam blk lost ogr came sums sqs mrk que qd)) ∧ (inI w h a b = false → KX exX (xw w h sam blk lost ogr came sums sqs mrk que qd))
set_option maxHeartbeats 4000000 in
set_option maxRecDepth 20000 in
theorem ct_X0_at : q_CtX yX0_at cX0_at 3 (some .boolean) 6 82 sp_X0_at := by
  refine q_metX (by decide) ?_
  intro x as Wd K KX hs ok fn
  obtain ⟨w, h, sam, blk, lost, ogr, came, sums, sqs, mrk, que, qd, a, b, g, rfl, rfl, hk0, hk1⟩ := hs
  show q_W x 0 [some (.inr (.inr (some 0))), some (.inl a), some (.inl b)] [] (xw w h sam blk lost ogr came sums sqs mrk que qd)
  refine q_aload_n ok rfl dX0_at_0 ?_
  refine q_iload_n ok rfl dX0_at_1 ?_
  refine q_iload_n ok rfl dX0_at_2 ?_
  refine kX0_isInside (by decide) (Nat.le_of_ble_eq_true rfl) ok dX0_at_3 ?_
  refine q_ifb_ne 19 ok dX0_at_6 (by decide) (fun h6 => ?_) (fun h6 => ?_)
  · obtain ⟨i, j, hi, hj, rfl, rfl⟩ := inI_o g h6
    have hlt := pl_lt hi hj
    have hw := g.2.1
    have hh := g.2.2.2
    have ep := pI_n (w := w) (i := i) (j := j) (by omega) (by omega)
    refine q_aload_n ok rfl dX0_at_19 ?_
    refine xg_black ok dX0_at_20 ?_
    refine q_aload_n ok rfl dX0_at_23 ?_
    refine q_iload_n ok rfl dX0_at_24 ?_
    refine q_iload_n ok rfl dX0_at_25 ?_
    refine kX0_placeOf (by decide) (Nat.le_of_ble_eq_true rfl) ok dX0_at_26 ?_
    refine xl_blk g (by omega) ok dX0_at_29 ?_
    exact q_zretX ok fn dX0_at_30 (bI_01 _) (by have z := hk0 h6; rw [ep] at z; exact z)
  · exact q_thG (text := "there is no such sample") ok fn q_exf.2.1 q_exXk q_exXn (fun s h => h.2.1) q_exXw q_exXg (by decide +kernel) (by decide) dX0_at_9 dX0_at_12 dX0_at_13 dX0_at_15 dX0_at_18 (hk1 h6)
def sp_X0_cell : List q_V → List q_E → (Option q_V → List q_E → Prop) → (String → List q_E → Prop) → Prop := fun as Wd K KX => ∃ (w : Nat) (h : Nat) (sam : Nat → Nat) (blk : Nat → Bool) (lost : Int64) (ogr : Nat → Nat) (came : Nat → Int32) (sums : Nat → Int64) (sqs : Nat → Int64) (mrk : Nat → Bool) (que : Nat → Nat) (qd : Nat) (c : Int32) (a : Int32) (b : Int32), as = [.inr (.inr (some 0)), .inl c, .inl a, .inl b] ∧ Wd = (xw w h sam blk lost ogr came sums sqs mrk que qd) ∧ (∀ ex : Nat, ex ≤ 3 → c = nI (2 ^ ex) → ¬ a < 0 → ¬ b < 0 → K (some (.inl (nI (cN a.toNatClampNeg b.toNatClampNeg ex)))) (xw w h sam blk lost ogr came sums sqs mrk que qd)) ∧ (isC c = false → KX exI (xw w h sam blk lost ogr came sums sqs mrk que qd)) ∧ ((isC c = true ∧ (a < 0 ∨ b < 0)) → KX exI (xw w h sam blk lost ogr came sums sqs mrk que qd))
set_option maxHeartbeats 4000000 in
set_option maxRecDepth 20000 in
theorem ct_X0_cell : q_CtX yX0_cell cX0_cell 4 (some .int) 6 82 sp_X0_cell := by
  refine q_metX (by decide) ?_
  intro x as Wd K KX hs ok fn
  obtain ⟨w, h, sam, blk, lost, ogr, came, sums, sqs, mrk, que, qd, c, a, b, rfl, rfl, hk0, hk1, hk2⟩ := hs
  show q_W x 0 [some (.inr (.inr (some 0))), some (.inl c), some (.inl a), some (.inl b)] [] (xw w h sam blk lost ogr came sums sqs mrk que qd)
  refine q_iload_n ok rfl dX0_cell_0 ?_
  refine kX0_isCells (by decide) (Nat.le_of_ble_eq_true rfl) ok dX0_cell_1 ?_
  refine q_ifb_ne 17 ok dX0_cell_4 (by decide) (fun h4 => ?_) (fun h4 => ?_)
  · refine q_iload_n ok rfl dX0_cell_17 ?_
    refine q_if_lt 25 ok dX0_cell_18 (by decide) (fun h18 => ?_) (fun h18 => ?_)
    · exact q_thG (text := "x and y are not below 0") ok fn q_exf.1 q_exIk q_exIn (fun s h => h.1) q_exIw q_exIg (by decide +kernel) (by decide) dX0_cell_25 dX0_cell_28 dX0_cell_29 dX0_cell_31 dX0_cell_34 (hk2 ⟨h4, Or.inl h18⟩)
    · refine q_iload_n ok rfl dX0_cell_21 ?_
      refine q_if_ge 35 ok dX0_cell_22 (by decide) (fun h22 => ?_) (fun h22 => ?_)
      · obtain ⟨ex, hex, rfl⟩ := isC_o h4
        have h22b := Int32.not_lt.mpr h22
        obtain ⟨a2, ha2, rfl⟩ := nI_of h18
        obtain ⟨b2, hb2, rfl⟩ := nI_of h22b
        refine q_iload_n ok rfl dX0_cell_35 ?_
        refine q_iload_n ok rfl dX0_cell_36 ?_
        refine q_iload_n ok rfl dX0_cell_37 ?_
        refine kX0_cellNumber (ex := ex) hex rfl ha2 hb2 (by decide) (Nat.le_of_ble_eq_true rfl) ok dX0_cell_38 ?_
        exact q_iretX ok fn dX0_cell_41 (by have z := hk0 ex hex rfl h18 h22b; rw [nI_clamp ha2, nI_clamp hb2] at z; exact z)
      · exact q_thG (text := "x and y are not below 0") ok fn q_exf.1 q_exIk q_exIn (fun s h => h.1) q_exIw q_exIg (by decide +kernel) (by decide) dX0_cell_25 dX0_cell_28 dX0_cell_29 dX0_cell_31 dX0_cell_34 (hk2 ⟨h4, Or.inr (Int32.not_le.mp h22)⟩)
  · exact q_thG (text := "cells are 1, 2, 4 or 8") ok fn q_exf.1 q_exIk q_exIn (fun s h => h.1) q_exIw q_exIg (by decide +kernel) (by decide) dX0_cell_7 dX0_cell_10 dX0_cell_11 dX0_cell_13 dX0_cell_16 (hk1 h4)
def sp_X0_ordered : List q_V → List q_E → (Option q_V → List q_E → Prop) → (String → List q_E → Prop) → Prop := fun as Wd K KX => ∃ (w : Nat) (h : Nat) (sam : Nat → Nat) (blk : Nat → Bool) (lost : Int64) (ogr : Nat → Nat) (came : Nat → Int32) (sums : Nat → Int64) (sqs : Nat → Int64) (mrk : Nat → Bool) (que : Nat → Nat) (qd : Nat) (c : Int32), (q_g w h) ∧ (∀ k, k < w * h → sam k < 256) ∧ as = [.inr (.inr (some 0)), .inl c] ∧ Wd = (xw w h sam blk lost ogr came sums sqs mrk que qd) ∧ (∀ ex : Nat, ex ≤ 3 → c = nI (2 ^ ex) → K (some (.inl (nI (cntB (fun k => if k < w * h then oF sam w ex k else blk k) (w * h))))) (xw w h sam (fun k => if k < w * h then oF sam w ex k else blk k) lost ogr came sums sqs mrk que qd)) ∧ (isC c = false → KX exI (xw w h sam blk lost ogr came sums sqs mrk que qd))
set_option maxHeartbeats 4000000 in
set_option maxRecDepth 20000 in
theorem ct_X0_ordered : q_CtX yX0_ordered cX0_ordered 6 (some .int) 6 82 sp_X0_ordered := by
  refine q_metX (by decide) ?_
  intro x as Wd K KX hs ok fn
  obtain ⟨w, h, sam, blk, lost, ogr, came, sums, sqs, mrk, que, qd, c, g, hs, rfl, rfl, hk0, hk1⟩ := hs
  show q_W x 0 [some (.inr (.inr (some 0))), some (.inl c), none, none, none, none] [] (xw w h sam blk lost ogr came sums sqs mrk que qd)
  refine q_iload_n ok rfl dX0_ordered_0 ?_
  refine kX0_isCells (by decide) (Nat.le_of_ble_eq_true rfl) ok dX0_ordered_1 ?_
  refine q_ifb_ne 17 ok dX0_ordered_4 (by decide) (fun h4 => ?_) (fun h4 => ?_)
  · refine q_iconstv (nI 0) ok (by decide) dX0_ordered_17 ?_
    refine q_istore_2 ok rfl dX0_ordered_18 ?_
    obtain ⟨ex, hex, rfl⟩ := isC_o h4
    have hp2 := p2le hex
    have hn := q_gn g
    have hw := g.2.1
    have hh := g.2.2.2
    have hk0 := hk0 ex hex rfl
    have L : ∀ (dL y : Nat) (u0 u1 u2 : Option q_V), dL = h - y → y ≤ h → q_W x 19 [some (.inr (.inr (some 0))), some (.inl (nI (2 ^ ex))), some (.inl (nI (y))), u0, u1, u2] [] (xw w h sam (fun k => if k < y * w then oF sam w ex k else blk k) lost ogr came sums sqs mrk que qd) := by
      intro dL
      induction dL using Nat.strongRecOn with
      | _ dL ihL =>
        intro y u0 u1 u2 hdL hiL 
        refine q_iload_n ok rfl dX0_ordered_19 ?_
        refine q_aload_n ok rfl dX0_ordered_20 ?_
        refine xg_height ok dX0_ordered_21 ?_
        refine q_icmpN_ge 103 (by omega) (by omega) ok dX0_ordered_24 (by decide) (fun h24 => ?_) (fun h24 => ?_)
        · rw [show y * w = w * h by rw [show y = h by omega, Nat.mul_comm]]
          refine q_aload_n ok rfl dX0_ordered_103 ?_
          refine kX0_countBlack g (by decide) (Nat.le_of_ble_eq_true rfl) ok dX0_ordered_104 ?_
          exact q_iretX ok fn dX0_ordered_107 hk0
        · refine q_iconstv (nI 0) ok (by decide) dX0_ordered_27 ?_
          refine q_istore_3 ok rfl dX0_ordered_28 ?_
          have LI : ∀ (dLI x0 : Nat) (u1 u2 : Option q_V), dLI = w - x0 → x0 ≤ w → q_W x 29 [some (.inr (.inr (some 0))), some (.inl (nI (2 ^ ex))), some (.inl (nI (y))), some (.inl (nI (x0))), u1, u2] [] (xw w h sam (fun k => if k < y * w + x0 then oF sam w ex k else blk k) lost ogr came sums sqs mrk que qd) := by
            intro dLI
            induction dLI using Nat.strongRecOn with
            | _ dLI ihLI =>
              intro x0 u1 u2 hdLI hiLI 
              refine q_iload_n ok rfl dX0_ordered_29 ?_
              refine q_aload_n ok rfl dX0_ordered_30 ?_
              refine xg_width ok dX0_ordered_31 ?_
              refine q_icmpN_ge 97 (by omega) (by omega) ok dX0_ordered_34 (by decide) (fun h34 => ?_) (fun h34 => ?_)
              · refine q_iincN_2 1 ok rfl (by decide) dX0_ordered_97 ?_
                refine q_goto 19 ok dX0_ordered_100 (by decide) ?_
                rw [ix_y (show x0 = w by omega)]
                exact ihL _ (by omega) (y + 1) _ _ _ rfl (by omega)
              · refine q_aload_n ok rfl dX0_ordered_37 ?_
                refine q_iload_n ok rfl dX0_ordered_38 ?_
                refine q_iload_n ok rfl dX0_ordered_39 ?_
                refine kX0_placeOf (by decide) (Nat.le_of_ble_eq_true rfl) ok dX0_ordered_40 ?_
                refine q_istore_4 ok rfl dX0_ordered_43 ?_
                refine q_sipushv (nI 256) ok (by decide) dX0_ordered_45 ?_
                have hlt := pl_lt (show x0 < w by omega) (show y < h by omega)
                have hsl := hs _ hlt
                have hcl := Nat.lt_of_lt_of_le (cN_lt (x := x0) (y := y) (k := ex)) (Nat.pow_le_pow_right (show 4 > 0 by decide) hex)
                have hm1 : 2 * 2 ^ ex * 2 ^ ex ≤ 2 * 8 * 8 := Nat.mul_le_mul (Nat.mul_le_mul (Nat.le_refl 2) hp2.2) hp2.2
                have hm2 : 2 * 2 ^ ex * 2 ^ ex * sam (y * w + x0) ≤ 2 * 8 * 8 * 255 := Nat.mul_le_mul hm1 (by omega)
                refine q_iconstv (nI 2) ok (by decide) dX0_ordered_48 ?_
                refine q_iload_n ok rfl dX0_ordered_49 ?_
                refine q_iload_n ok rfl dX0_ordered_50 ?_
                refine q_iload_n ok rfl dX0_ordered_51 ?_
                refine kX0_cellNumber (ex := ex) hex rfl (by omega) (by omega) (by decide) (Nat.le_of_ble_eq_true rfl) ok dX0_ordered_52 ?_
                refine q_imulN ok dX0_ordered_55 ?_
                refine q_iconstv (nI 1) ok (by decide) dX0_ordered_56 ?_
                refine q_iaddN ok dX0_ordered_57 ?_
                refine q_imulN ok dX0_ordered_58 ?_
                refine q_istore_5 ok rfl dX0_ordered_59 ?_
                refine q_aload_n ok rfl dX0_ordered_61 ?_
                refine xg_black ok dX0_ordered_62 ?_
                refine q_iload ok rfl dX0_ordered_65 ?_
                refine q_iconstv (nI 2) ok (by decide) dX0_ordered_67 ?_
                refine q_iload_n ok rfl dX0_ordered_68 ?_
                refine q_imulN ok dX0_ordered_69 ?_
                refine q_iload_n ok rfl dX0_ordered_70 ?_
                refine q_imulN ok dX0_ordered_71 ?_
                refine q_aload_n ok rfl dX0_ordered_72 ?_
                refine xg_samples ok dX0_ordered_73 ?_
                refine q_iload ok rfl dX0_ordered_76 ?_
                refine xl_sam g hlt ok dX0_ordered_78 ?_
                refine q_imulN ok dX0_ordered_79 ?_
                refine q_iload ok rfl dX0_ordered_80 ?_
                refine q_icmpN_ge 89 (by omega) (by omega) ok dX0_ordered_82 (by decide) (fun h82 => ?_) (fun h82 => ?_)
                · refine q_iconstv (nI 0) ok (by decide) dX0_ordered_89 ?_
                  refine xs_blk (v := false) g hlt ok dX0_ordered_90 ?_
                  refine q_iincN_3 1 ok rfl (by decide) dX0_ordered_91 ?_
                  refine q_goto 29 ok dX0_ordered_94 (by decide) ?_
                  rw [show false = oF sam w ex (y * w + x0) from (by unfold oF; rw [ix_mod (show x0 < w by omega), ix_div (show x0 < w by omega)]; exact (decide_eq_false (by omega)).symm), pu_step (F := oF sam w ex)]
                  exact ihLI _ (by omega) (x0 + 1) _ _ rfl (by omega)
                · refine q_iconstv (nI 1) ok (by decide) dX0_ordered_85 ?_
                  refine q_goto 90 ok dX0_ordered_86 (by decide) ?_
                  refine xs_blk (v := true) g hlt ok dX0_ordered_90 ?_
                  refine q_iincN_3 1 ok rfl (by decide) dX0_ordered_91 ?_
                  refine q_goto 29 ok dX0_ordered_94 (by decide) ?_
                  rw [show true = oF sam w ex (y * w + x0) from (by unfold oF; rw [ix_mod (show x0 < w by omega), ix_div (show x0 < w by omega)]; exact (decide_eq_true (by omega)).symm), pu_step (F := oF sam w ex)]
                  exact ihLI _ (by omega) (x0 + 1) _ _ rfl (by omega)
          exact LI _ 0 _ _ rfl (Nat.zero_le _)
    have := L _ 0 none none none rfl (Nat.zero_le _)
    rw [Nat.zero_mul, pu_0 (F := oF sam w ex)] at this
    exact this
  · exact q_thG (text := "cells are 1, 2, 4 or 8") ok fn q_exf.1 q_exIk q_exIn (fun s h => h.1) q_exIw q_exIg (by decide +kernel) (by decide) dX0_ordered_7 dX0_ordered_10 dX0_ordered_11 dX0_ordered_13 dX0_ordered_16 (hk1 h4)
def sp_X0_local : List q_V → List q_E → (Option q_V → List q_E → Prop) → (String → List q_E → Prop) → Prop := fun as Wd K KX => ∃ (w : Nat) (h : Nat) (sam : Nat → Nat) (blk : Nat → Bool) (lost : Int64) (ogr : Nat → Nat) (came : Nat → Int32) (sums : Nat → Int64) (sqs : Nat → Int64) (mrk : Nat → Bool) (que : Nat → Nat) (qd : Nat) (z : Int32) (sh : Int32), (q_g w h) ∧ (∀ k, k < w * h → sam k < 256) ∧ (bS w h sums) ∧ (bS w h sqs) ∧ as = [.inr (.inr (some 0)), .inl z, .inl sh] ∧ Wd = (xw w h sam blk lost ogr came sums sqs mrk que qd) ∧ (∀ r : Nat, r ≤ 15 → z = nI (2 * r + 1) → ¬ sh < 0 → ¬ nI 64 < sh → ∀ (s1 s2 : Nat → Int64), SS sam w h s1 → SS (sq sam) w h s2 → K (some (.inl (nI (cntB (fun k => if k < w * h then drk sam w h (k % w) (k / w) r sh else blk k) (w * h))))) (xw w h sam (fun k => if k < w * h then drk sam w h (k % w) (k / w) r sh else blk k) lost ogr came (s1) (s2) mrk que qd)) ∧ (lC z = false → KX exI (xw w h sam blk lost ogr came sums sqs mrk que qd)) ∧ ((lC z = true ∧ (sh < 0 ∨ nI 64 < sh)) → KX exI (xw w h sam blk lost ogr came sums sqs mrk que qd))
set_option maxHeartbeats 4000000 in
set_option maxRecDepth 20000 in
theorem ct_X0_local : q_CtX yX0_local cX0_local 6 (some .int) 6 90 sp_X0_local := by
  refine q_metX (by decide) ?_
  intro x as Wd K KX hs ok fn
  obtain ⟨w, h, sam, blk, lost, ogr, came, sums, sqs, mrk, que, qd, z, sh, g, hs, hb1, hb2, rfl, rfl, hk0, hk1, hk2⟩ := hs
  show q_W x 0 [some (.inr (.inr (some 0))), some (.inl z), some (.inl sh), none, none, none] [] (xw w h sam blk lost ogr came sums sqs mrk que qd)
  refine q_iload_n ok rfl dX0_local_0 ?_
  refine q_iconstv (nI 1) ok (by decide) dX0_local_1 ?_
  refine q_icmp_lt 17 ok dX0_local_2 (by decide) (fun h2 => ?_) (fun h2 => ?_)
  · exact q_thG (text := "a size is odd, and 1 .. 31") ok fn q_exf.1 q_exIk q_exIn (fun s h => h.1) q_exIw q_exIg (by decide +kernel) (by decide) dX0_local_17 dX0_local_20 dX0_local_21 dX0_local_23 dX0_local_26 (hk1 (decide_eq_false (fun q => q.1 h2)))
  · refine q_iload_n ok rfl dX0_local_5 ?_
    refine q_bipushv (nI 31) ok (by decide) dX0_local_6 ?_
    refine q_icmp_gt 17 ok dX0_local_8 (by decide) (fun h8 => ?_) (fun h8 => ?_)
    · exact q_thG (text := "a size is odd, and 1 .. 31") ok fn q_exf.1 q_exIk q_exIn (fun s h => h.1) q_exIw q_exIg (by decide +kernel) (by decide) dX0_local_17 dX0_local_20 dX0_local_21 dX0_local_23 dX0_local_26 (hk1 (decide_eq_false (fun q => q.2.1 h8)))
    · refine q_iload_n ok rfl dX0_local_11 ?_
      refine q_iconstv (nI 2) ok (by decide) dX0_local_12 ?_
      refine q_irem ok (by decide) dX0_local_13 ?_
      refine q_if_ne 27 ok dX0_local_14 (by decide) (fun h14 => ?_) (fun h14 => ?_)
      · refine q_iload_n ok rfl dX0_local_27 ?_
        refine q_if_lt 37 ok dX0_local_28 (by decide) (fun h28 => ?_) (fun h28 => ?_)
        · exact q_thG (text := "a share is 0 .. 64") ok fn q_exf.1 q_exIk q_exIn (fun s h => h.1) q_exIw q_exIg (by decide +kernel) (by decide) dX0_local_37 dX0_local_40 dX0_local_41 dX0_local_43 dX0_local_46 (hk2 ⟨(decide_eq_true ⟨h2, h8, h14⟩), Or.inl h28⟩)
        · refine q_iload_n ok rfl dX0_local_31 ?_
          refine q_bipushv (nI 64) ok (by decide) dX0_local_32 ?_
          refine q_icmp_le 47 ok dX0_local_34 (by decide) (fun h34 => ?_) (fun h34 => ?_)
          · have h34b : ¬ nI 64 < sh := Int32.not_lt.mpr h34
            obtain ⟨r, hr, rfl⟩ := lC_o h2 h8 h14
            refine q_aload_n ok rfl dX0_local_47 ?_
            refine kX0_fillSums g hs hb1 hb2 (by decide) (Nat.le_of_ble_eq_true rfl) ok dX0_local_48 ?_
            intro s1 s2 hS1 hS2
            refine q_iload_n ok rfl dX0_local_51 ?_
            refine q_iconstv (nI 1) ok (by decide) dX0_local_52 ?_
            refine q_isubN (by omega) ok dX0_local_53 ?_
            refine q_iconstv (nI 2) ok (by decide) dX0_local_54 ?_
            refine q_idivN (by omega) (by omega) (by omega) ok dX0_local_55 ?_
            rw [show (2 * r + 1 - 1) / 2 = r by omega]
            refine q_istore_3 ok rfl dX0_local_56 ?_
            refine q_iconstv (nI 0) ok (by decide) dX0_local_57 ?_
            refine q_istore_4 ok rfl dX0_local_58 ?_
            have hn := q_gn g
            have hw := g.2.1
            have hh := g.2.2.2
            have hk0 := hk0 r hr rfl h28 h34b s1 s2 hS1 hS2
            have L : ∀ (dL y : Nat) (u0 u1 u2 : Option q_V), dL = h - y → y ≤ h → q_W x 60 [some (.inr (.inr (some 0))), some (.inl (nI (2 * r + 1))), some (.inl (sh)), some (.inl (nI (r))), some (.inl (nI (y))), u0] [] (xw w h sam (fun k => if k < y * w then drk sam w h (k % w) (k / w) r sh else blk k) lost ogr came (s1) (s2) mrk que qd) := by
              intro dL
              induction dL using Nat.strongRecOn with
              | _ dL ihL =>
                intro y u0 u1 u2 hdL hiL 
                refine q_iload ok rfl dX0_local_60 ?_
                refine q_aload_n ok rfl dX0_local_62 ?_
                refine xg_height ok dX0_local_63 ?_
                refine q_icmpN_ge 116 (by omega) (by omega) ok dX0_local_66 (by decide) (fun h66 => ?_) (fun h66 => ?_)
                · rw [show y * w = w * h by rw [show y = h by omega, Nat.mul_comm]]
                  refine q_aload_n ok rfl dX0_local_116 ?_
                  refine kX0_countBlack g (by decide) (Nat.le_of_ble_eq_true rfl) ok dX0_local_117 ?_
                  exact q_iretX ok fn dX0_local_120 hk0
                · refine q_iconstv (nI 0) ok (by decide) dX0_local_69 ?_
                  refine q_istore_5 ok rfl dX0_local_70 ?_
                  have LI : ∀ (dLI x0 : Nat) (u1 u2 : Option q_V), dLI = w - x0 → x0 ≤ w → q_W x 72 [some (.inr (.inr (some 0))), some (.inl (nI (2 * r + 1))), some (.inl (sh)), some (.inl (nI (r))), some (.inl (nI (y))), some (.inl (nI (x0)))] [] (xw w h sam (fun k => if k < y * w + x0 then drk sam w h (k % w) (k / w) r sh else blk k) lost ogr came (s1) (s2) mrk que qd) := by
                    intro dLI
                    induction dLI using Nat.strongRecOn with
                    | _ dLI ihLI =>
                      intro x0 u1 u2 hdLI hiLI 
                      refine q_iload ok rfl dX0_local_72 ?_
                      refine q_aload_n ok rfl dX0_local_74 ?_
                      refine xg_width ok dX0_local_75 ?_
                      refine q_icmpN_ge 110 (by omega) (by omega) ok dX0_local_78 (by decide) (fun h78 => ?_) (fun h78 => ?_)
                      · refine q_iincN_4 1 ok rfl (by decide) dX0_local_110 ?_
                        refine q_goto 60 ok dX0_local_113 (by decide) ?_
                        rw [ix_y (show x0 = w by omega)]
                        exact ihL _ (by omega) (y + 1) _ none none rfl (by omega)
                      · refine q_aload_n ok rfl dX0_local_81 ?_
                        refine xg_black ok dX0_local_82 ?_
                        refine q_aload_n ok rfl dX0_local_85 ?_
                        refine q_iload ok rfl dX0_local_86 ?_
                        refine q_iload ok rfl dX0_local_88 ?_
                        refine kX0_placeOf (by decide) (Nat.le_of_ble_eq_true rfl) ok dX0_local_90 ?_
                        refine q_aload_n ok rfl dX0_local_93 ?_
                        refine q_iload ok rfl dX0_local_94 ?_
                        refine q_iload ok rfl dX0_local_96 ?_
                        refine q_iload_n ok rfl dX0_local_98 ?_
                        refine q_iload_n ok rfl dX0_local_99 ?_
                        refine kX0_isDarkInWindow g hs (by omega) (by omega) hr hS1 hS2 (by decide) (Nat.le_of_ble_eq_true rfl) ok dX0_local_100 ?_
                        refine xs_blk g (pl_lt (by omega) (by omega)) ok dX0_local_103 ?_
                        refine q_iincN_5 1 ok rfl (by decide) dX0_local_104 ?_
                        refine q_goto 72 ok dX0_local_107 (by decide) ?_
                        have e : drk sam w h x0 y r sh = (fun k => drk sam w h (k % w) (k / w) r sh) (y * w + x0) := by show _ = drk sam w h ((y * w + x0) % w) ((y * w + x0) / w) r sh; rw [ix_mod (show x0 < w by omega), ix_div (show x0 < w by omega)]
                        rw [e, pu_step (F := (fun k => drk sam w h (k % w) (k / w) r sh))]
                        exact ihLI _ (by omega) (x0 + 1) none none rfl (by omega)
                  exact LI _ 0 none none rfl (Nat.zero_le _)
            have := L _ 0 none none none rfl (Nat.zero_le _)
            rw [Nat.zero_mul, pu_0 (F := (fun k => drk sam w h (k % w) (k / w) r sh))] at this
            exact this
          · exact q_thG (text := "a share is 0 .. 64") ok fn q_exf.1 q_exIk q_exIn (fun s h => h.1) q_exIw q_exIg (by decide +kernel) (by decide) dX0_local_37 dX0_local_40 dX0_local_41 dX0_local_43 dX0_local_46 (hk2 ⟨(decide_eq_true ⟨h2, h8, h14⟩), Or.inr (Int32.not_le.mp h34)⟩)
      · exact q_thG (text := "a size is odd, and 1 .. 31") ok fn q_exf.1 q_exIk q_exIn (fun s h => h.1) q_exIw q_exIg (by decide +kernel) (by decide) dX0_local_17 dX0_local_20 dX0_local_21 dX0_local_23 dX0_local_26 (hk1 (decide_eq_false (fun q => q.2.2 h14)))
def sp_X0_spread : List q_V → List q_E → (Option q_V → List q_E → Prop) → (String → List q_E → Prop) → Prop := fun as Wd K KX => ∃ (w : Nat) (h : Nat) (sam : Nat → Nat) (blk : Nat → Bool) (lost : Int64) (ogr : Nat → Nat) (came : Nat → Int32) (sums : Nat → Int64) (sqs : Nat → Int64) (mrk : Nat → Bool) (que : Nat → Nat) (qd : Nat) (kd : Int32), (q_g w h) ∧ as = [.inr (.inr (some 0)), .inl kd] ∧ Wd = (xw w h sam blk lost ogr came sums sqs mrk que qd) ∧ (¬ kd < 0 → ¬ nI 2 < kd → K (some (.inl (nI (cntB (sAll w h sam kd h (blk, lN 0, fun j => if j < w * h then nI 0 else came j)).1 (w * h))))) (xw w h sam ((sAll w h sam kd h (blk, lN 0, fun j => if j < w * h then nI 0 else came j)).1) ((sAll w h sam kd h (blk, lN 0, fun j => if j < w * h then nI 0 else came j)).2.1) ogr ((sAll w h sam kd h (blk, lN 0, fun j => if j < w * h then nI 0 else came j)).2.2) sums sqs mrk que qd)) ∧ ((kd < 0 ∨ nI 2 < kd) → KX exI (xw w h sam blk lost ogr came sums sqs mrk que qd))
set_option maxHeartbeats 4000000 in
set_option maxRecDepth 20000 in
theorem ct_X0_spread : q_CtX yX0_spread cX0_spread 3 (some .int) 6 101 sp_X0_spread := by
  refine q_metX (by decide) ?_
  intro x as Wd K KX hs ok fn
  obtain ⟨w, h, sam, blk, lost, ogr, came, sums, sqs, mrk, que, qd, kd, g, rfl, rfl, hk0, hk1⟩ := hs
  show q_W x 0 [some (.inr (.inr (some 0))), some (.inl kd), none] [] (xw w h sam blk lost ogr came sums sqs mrk que qd)
  refine q_iload_n ok rfl dX0_spread_0 ?_
  refine q_if_lt 9 ok dX0_spread_1 (by decide) (fun h1 => ?_) (fun h1 => ?_)
  · exact q_thG (text := "a kind is 0 .. 2") ok fn q_exf.1 q_exIk q_exIn (fun s h => h.1) q_exIw q_exIg (by decide +kernel) (by decide) dX0_spread_9 dX0_spread_12 dX0_spread_13 dX0_spread_15 dX0_spread_18 (hk1 (Or.inl h1))
  · refine q_iload_n ok rfl dX0_spread_4 ?_
    refine q_iconstv (nI 2) ok (by decide) dX0_spread_5 ?_
    refine q_icmp_le 19 ok dX0_spread_6 (by decide) (fun h6 => ?_) (fun h6 => ?_)
    · refine q_aload_n ok rfl dX0_spread_19 ?_
      refine xg_came ok dX0_spread_20 ?_
      refine q_iconstv (nI 0) ok (by decide) dX0_spread_23 ?_
      refine kfill_came g (by decide) (Nat.le_of_ble_eq_true rfl) ok dX0_spread_24 ?_
      refine q_aload_n ok rfl dX0_spread_27 ?_
      refine q_lconstv (lN 0) ok rfl dX0_spread_28 ?_
      refine xp_lost ok dX0_spread_29 ?_
      refine q_iconstv (nI 0) ok (by decide) dX0_spread_32 ?_
      refine q_istore_2 ok rfl dX0_spread_33 ?_
      have hn := q_gn g
      have hw := g.2.1
      have hh := g.2.2.2
      have h6b : ¬ nI 2 < kd := Int32.not_lt.mpr h6
      have hk0 := hk0 h1 h6b
      have L : ∀ (dL y : Nat) , dL = h - y → y ≤ h → q_W x 34 [some (.inr (.inr (some 0))), some (.inl (kd)), some (.inl (nI (y)))] [] (xw w h sam ((sAll w h sam kd y (blk, lN 0, fun j => if j < w * h then nI 0 else came j)).1) ((sAll w h sam kd y (blk, lN 0, fun j => if j < w * h then nI 0 else came j)).2.1) ogr ((sAll w h sam kd y (blk, lN 0, fun j => if j < w * h then nI 0 else came j)).2.2) sums sqs mrk que qd) := by
        intro dL
        induction dL using Nat.strongRecOn with
        | _ dL ihL =>
          intro y  hdL hiL 
          refine q_iload_n ok rfl dX0_spread_34 ?_
          refine q_aload_n ok rfl dX0_spread_35 ?_
          refine xg_height ok dX0_spread_36 ?_
          refine q_icmpN_ge 54 (by omega) (by omega) ok dX0_spread_39 (by decide) (fun h39 => ?_) (fun h39 => ?_)
          · refine q_aload_n ok rfl dX0_spread_54 ?_
            refine kX0_countBlack g (by decide) (Nat.le_of_ble_eq_true rfl) ok dX0_spread_55 ?_
            exact q_iretX ok fn dX0_spread_58 (by rw [show y = h by omega]; exact hk0)
          · refine q_aload_n ok rfl dX0_spread_42 ?_
            refine q_iload_n ok rfl dX0_spread_43 ?_
            refine q_iload_n ok rfl dX0_spread_44 ?_
            refine kX0_spreadRow g (by omega) (by decide) (Nat.le_of_ble_eq_true rfl) ok dX0_spread_45 ?_
            refine q_iincN_2 1 ok rfl (by decide) dX0_spread_48 ?_
            refine q_goto 34 ok dX0_spread_51 (by decide) ?_
            exact ihL _ (by omega) (y + 1) rfl (by omega)
      exact L _ 0 rfl (Nat.zero_le _)
    · exact q_thG (text := "a kind is 0 .. 2") ok fn q_exf.1 q_exIk q_exIn (fun s h => h.1) q_exIw q_exIg (by decide +kernel) (by decide) dX0_spread_9 dX0_spread_12 dX0_spread_13 dX0_spread_15 dX0_spread_18 (hk1 (Or.inr (Int32.not_le.mp h6)))
def sp_X0_join : List q_V → List q_E → (Option q_V → List q_E → Prop) → (String → List q_E → Prop) → Prop := fun as Wd K KX => ∃ (w : Nat) (h : Nat) (sam : Nat → Nat) (blk : Nat → Bool) (lost : Int64) (ogr : Nat → Nat) (came : Nat → Int32) (sums : Nat → Int64) (sqs : Nat → Int64) (mrk : Nat → Bool) (que : Nat → Nat) (qd : Nat) (lw : Int32) (hi : Int32), (q_g w h) ∧ as = [.inr (.inr (some 0)), .inl lw, .inl hi] ∧ Wd = (xw w h sam blk lost ogr came sums sqs mrk que qd) ∧ (¬ lw < -1 → ¬ hi < lw → ¬ nI 255 < hi → ∀ (blk2 : Nat → Bool) (que2 : Nat → Nat) (qd2 : Nat), jPost w h sam lw hi blk2 → K (some (.inl (nI (cntB blk2 (w * h))))) (xw w h sam (blk2) lost ogr came sums sqs mrk (que2) (qd2))) ∧ ((lw < -1 ∨ hi < lw ∨ nI 255 < hi) → KX exI (xw w h sam blk lost ogr came sums sqs mrk que qd))
set_option maxHeartbeats 4000000 in
set_option maxRecDepth 20000 in
theorem ct_X0_join : q_CtX yX0_join cX0_join 4 (some .int) 6 82 sp_X0_join := by
  refine q_metX (by decide) ?_
  intro x as Wd K KX hs ok fn
  obtain ⟨w, h, sam, blk, lost, ogr, came, sums, sqs, mrk, que, qd, lw, hi, g, rfl, rfl, hk0, hk1⟩ := hs
  show q_W x 0 [some (.inr (.inr (some 0))), some (.inl lw), some (.inl hi), none] [] (xw w h sam blk lost ogr came sums sqs mrk que qd)
  refine q_iload_n ok rfl dX0_join_0 ?_
  refine q_iconstv (-1) ok (by decide) dX0_join_1 ?_
  refine q_icmp_lt 17 ok dX0_join_2 (by decide) (fun h2 => ?_) (fun h2 => ?_)
  · exact q_thG (text := "bounds are -1 .. 255, and low is not above high") ok fn q_exf.1 q_exIk q_exIn (fun s h => h.1) q_exIw q_exIg (by decide +kernel) (by decide) dX0_join_17 dX0_join_20 dX0_join_21 dX0_join_23 dX0_join_26 (hk1 (Or.inl h2))
  · refine q_iload_n ok rfl dX0_join_5 ?_
    refine q_iload_n ok rfl dX0_join_6 ?_
    refine q_icmp_gt 17 ok dX0_join_7 (by decide) (fun h7 => ?_) (fun h7 => ?_)
    · exact q_thG (text := "bounds are -1 .. 255, and low is not above high") ok fn q_exf.1 q_exIk q_exIn (fun s h => h.1) q_exIw q_exIg (by decide +kernel) (by decide) dX0_join_17 dX0_join_20 dX0_join_21 dX0_join_23 dX0_join_26 (hk1 (Or.inr (Or.inl h7)))
    · refine q_iload_n ok rfl dX0_join_10 ?_
      refine q_sipushv (nI 255) ok (by decide) dX0_join_11 ?_
      refine q_icmp_le 27 ok dX0_join_14 (by decide) (fun h14 => ?_) (fun h14 => ?_)
      · refine q_aload_n ok rfl dX0_join_27 ?_
        refine q_iconstv (nI 0) ok (by decide) dX0_join_28 ?_
        refine xp_queued ok dX0_join_29 ?_
        refine q_iconstv (nI 0) ok (by decide) dX0_join_32 ?_
        refine q_istore_3 ok rfl dX0_join_33 ?_
        have hn := q_gn g
        have hw := g.2.1
        have hh := g.2.2.2
        have L2 : ∀ (dL2 nx : Nat) (t : q_U), dL2 = w * h - nx → nx ≤ w * h → jI w h sam lw hi nx t → q_W x 85 [some (.inr (.inr (some 0))), some (.inl (lw)), some (.inl (hi)), some (.inl (nI (nx)))] [] (xw w h sam (t.1) lost ogr came sums sqs mrk (t.2.1) (t.2.2)) := by
          intro dL2
          induction dL2 using Nat.strongRecOn with
          | _ dL2 ihL2 =>
            intro nx t hdL2 hiL2 H
            refine q_iload_n ok rfl dX0_join_85 ?_
            refine q_aload_n ok rfl dX0_join_86 ?_
            refine xg_count ok dX0_join_87 ?_
            refine q_icmpN_ge 132 (by omega) (by omega) ok dX0_join_90 (by decide) (fun h90 => ?_) (fun h90 => ?_)
            · refine q_aload_n ok rfl dX0_join_132 ?_
              refine kX0_countBlack g (by decide) (Nat.le_of_ble_eq_true rfl) ok dX0_join_133 ?_
              exact q_iretX ok fn dX0_join_136 (hk0 h2 h7 (Int32.not_lt.mpr h14) _ _ _ (jI_end H (by first | omega | (have := cntB_le t.1 (w * h); have := H.1; omega))))
            · refine q_iload_n ok rfl dX0_join_93 ?_
              refine q_aload_n ok rfl dX0_join_94 ?_
              refine xg_queued ok dX0_join_95 ?_
              refine q_icmpN_ge 132 (by omega) (Nat.lt_of_le_of_lt (show t.2.2 ≤ w * h by rw [H.1]; exact cntB_le _ _) (by omega)) ok dX0_join_98 (by decide) (fun h98 => ?_) (fun h98 => ?_)
              · refine q_aload_n ok rfl dX0_join_132 ?_
                refine kX0_countBlack g (by decide) (Nat.le_of_ble_eq_true rfl) ok dX0_join_133 ?_
                exact q_iretX ok fn dX0_join_136 (hk0 h2 h7 (Int32.not_lt.mpr h14) _ _ _ (jI_end H (by first | omega | (have := cntB_le t.1 (w * h); have := H.1; omega))))
              · have hle : t.2.2 ≤ w * h := by rw [H.1]; exact cntB_le _ _
                have hnx : nx < t.2.2 := by omega
                obtain ⟨hq1, hq2⟩ := H.2.1 nx hnx
                refine q_aload_n ok rfl dX0_join_101 ?_
                refine q_aload_n ok rfl dX0_join_102 ?_
                refine q_aload_n ok rfl dX0_join_103 ?_
                refine xg_queue ok dX0_join_104 ?_
                refine q_iload_n ok rfl dX0_join_107 ?_
                refine xl_que g (by omega) ok dX0_join_108 ?_
                generalize hqe : t.2.1 nx = q at hq1 hq2 ⊢
                refine kX0_columnOf g (by omega) (by decide) (Nat.le_of_ble_eq_true rfl) ok dX0_join_109 ?_
                refine q_aload_n ok rfl dX0_join_112 ?_
                refine q_aload_n ok rfl dX0_join_113 ?_
                refine xg_queue ok dX0_join_114 ?_
                refine q_iload_n ok rfl dX0_join_117 ?_
                refine xl_que g (by omega) ok dX0_join_118 ?_
                rw [hqe]
                have hm := Nat.mod_lt q (show w > 0 by have := g.1; omega)
                have hd2 : q / w < h := Nat.div_lt_of_lt_mul hq1
                refine kX0_rowOf g (by omega) (by decide) (Nat.le_of_ble_eq_true rfl) ok dX0_join_119 ?_
                refine q_iload_n ok rfl dX0_join_122 ?_
                refine kX0_blackenRound g hm hd2 H.1 (by decide) (Nat.le_of_ble_eq_true rfl) ok dX0_join_123 ?_
                refine q_iincN_3 1 ok rfl (by decide) dX0_join_126 ?_
                refine q_goto 85 ok dX0_join_129 (by decide) ?_
                exact ihL2 _ (by omega) (nx + 1) _ rfl (by omega) (jI_go g H hnx hqe)
        have L1 : ∀ (dL1 i : Nat) (que1 : Nat → Nat) (qd1 : Nat), dL1 = w * h - i → i ≤ w * h → jS sam lw i que1 qd1 → q_W x 34 [some (.inr (.inr (some 0))), some (.inl (lw)), some (.inl (hi)), some (.inl (nI (i)))] [] (xw w h sam (fun k => if k < i then decide (nI (sam k) ≤ lw) else blk k) lost ogr came sums sqs mrk (que1) (qd1)) := by
          intro dL1
          induction dL1 using Nat.strongRecOn with
          | _ dL1 ihL1 =>
            intro i que1 qd1 hdL1 hiL1 H
            refine q_iload_n ok rfl dX0_join_34 ?_
            refine q_aload_n ok rfl dX0_join_35 ?_
            refine xg_count ok dX0_join_36 ?_
            refine q_icmpN_ge 83 (by omega) (by omega) ok dX0_join_39 (by decide) (fun h39 => ?_) (fun h39 => ?_)
            · refine q_iconstv (nI 0) ok (by decide) dX0_join_83 ?_
              refine q_istore_3 ok rfl dX0_join_84 ?_
              exact L2 _ 0 (_, que1, qd1) rfl (Nat.zero_le _) (jI_0 (show jS sam lw (w * h) que1 qd1 by rw [show w * h = i by omega]; exact H) (fun k hk2 => if_pos (show k < i by omega)))
            · refine q_aload_n ok rfl dX0_join_42 ?_
              refine xg_black ok dX0_join_43 ?_
              refine q_iload_n ok rfl dX0_join_46 ?_
              refine q_aload_n ok rfl dX0_join_47 ?_
              refine xg_samples ok dX0_join_48 ?_
              refine q_iload_n ok rfl dX0_join_51 ?_
              refine xl_sam g (by omega) ok dX0_join_52 ?_
              refine q_iload_n ok rfl dX0_join_53 ?_
              refine q_icmp_gt 61 ok dX0_join_54 (by decide) (fun h54 => ?_) (fun h54 => ?_)
              · refine q_iconstv (nI 0) ok (by decide) dX0_join_61 ?_
                refine xs_blk (v := false) g (by omega) ok dX0_join_62 ?_
                refine q_aload_n ok rfl dX0_join_63 ?_
                refine xg_black ok dX0_join_64 ?_
                refine q_iload_n ok rfl dX0_join_67 ?_
                refine xl_blk g (by omega) ok dX0_join_68 ?_
                refine q_ifb_eq 77 ok dX0_join_69 (by decide) (fun h69 => ?_) (fun h69 => ?_)
                · refine q_iincN_3 1 ok rfl (by decide) dX0_join_77 ?_
                  refine q_goto 34 ok dX0_join_80 (by decide) ?_
                  rw [show false = (fun k => decide (nI (sam k) ≤ lw)) i from (decide_eq_false (Int32.not_le.mpr h54)).symm, pu_step (F := (fun k => decide (nI (sam k) ≤ lw)))]
                  exact ihL1 _ (by omega) (i + 1) _ _ rfl (by omega) (jS_f H (Int32.not_le.mpr h54))
                · exact absurd h69 (by rw [va_up_self]; decide)
              · refine q_iconstv (nI 1) ok (by decide) dX0_join_57 ?_
                refine q_goto 62 ok dX0_join_58 (by decide) ?_
                refine xs_blk (v := true) g (by omega) ok dX0_join_62 ?_
                refine q_aload_n ok rfl dX0_join_63 ?_
                refine xg_black ok dX0_join_64 ?_
                refine q_iload_n ok rfl dX0_join_67 ?_
                refine xl_blk g (by omega) ok dX0_join_68 ?_
                refine q_ifb_eq 77 ok dX0_join_69 (by decide) (fun h69 => ?_) (fun h69 => ?_)
                · exact absurd h69 (by rw [va_up_self]; decide)
                · refine q_aload_n ok rfl dX0_join_72 ?_
                  refine q_iload_n ok rfl dX0_join_73 ?_
                  refine kX0_enqueue g (by have := jS_le H; omega) (by decide) (Nat.le_of_ble_eq_true rfl) ok dX0_join_74 ?_
                  refine q_iincN_3 1 ok rfl (by decide) dX0_join_77 ?_
                  refine q_goto 34 ok dX0_join_80 (by decide) ?_
                  rw [show true = (fun k => decide (nI (sam k) ≤ lw)) i from (decide_eq_true (Int32.not_lt.mp h54)).symm, pu_step (F := (fun k => decide (nI (sam k) ≤ lw)))]
                  exact ihL1 _ (by omega) (i + 1) _ _ rfl (by omega) (jS_t H (Int32.not_lt.mp h54))
        have := L1 _ 0 que 0 rfl (Nat.zero_le _) jS_0
        rw [pu_0 (F := (fun k => decide (nI (sam k) ≤ lw)))] at this
        exact this
      · exact q_thG (text := "bounds are -1 .. 255, and low is not above high") ok fn q_exf.1 q_exIk q_exIn (fun s h => h.1) q_exIw q_exIg (by decide +kernel) (by decide) dX0_join_17 dX0_join_20 dX0_join_21 dX0_join_23 dX0_join_26 (hk1 (Or.inr (Or.inr (Int32.not_le.mp h14))))
def sp_X0_clean : List q_V → List q_E → (Option q_V → List q_E → Prop) → (String → List q_E → Prop) → Prop := fun as Wd K KX => ∃ (w : Nat) (h : Nat) (sam : Nat → Nat) (blk : Nat → Bool) (lost : Int64) (ogr : Nat → Nat) (came : Nat → Int32) (sums : Nat → Int64) (sqs : Nat → Int64) (mrk : Nat → Bool) (que : Nat → Nat) (qd : Nat) (m : Int32), (q_g w h) ∧ as = [.inr (.inr (some 0)), .inl m] ∧ Wd = (xw w h sam blk lost ogr came sums sqs mrk que qd) ∧ (¬ m < 0 → ¬ nI 256 < m → ∀ (blk1 blk2 mrk2 : Nat → Bool) (que2 : Nat → Nat) (qd2 : Nat), tPost w h blk true m.toNatClampNeg blk1 → tPost w h blk1 false m.toNatClampNeg blk2 → K (some (.inl (nI (cntB (cB (Sp w h blk true m.toNatClampNeg)) (w * h) + cntB (cB (Sp w h blk1 false m.toNatClampNeg)) (w * h))))) (xw w h sam (blk2) lost ogr came sums sqs (mrk2) (que2) (qd2))) ∧ ((m < 0 ∨ nI 256 < m) → KX exI (xw w h sam blk lost ogr came sums sqs mrk que qd))
set_option maxHeartbeats 4000000 in
set_option maxRecDepth 20000 in
theorem ct_X0_clean : q_CtX yX0_clean cX0_clean 4 (some .int) 6 95 sp_X0_clean := by
  refine q_metX (by decide) ?_
  intro x as Wd K KX hs ok fn
  obtain ⟨w, h, sam, blk, lost, ogr, came, sums, sqs, mrk, que, qd, m, g, rfl, rfl, hk0, hk1⟩ := hs
  show q_W x 0 [some (.inr (.inr (some 0))), some (.inl m), none, none] [] (xw w h sam blk lost ogr came sums sqs mrk que qd)
  refine q_iload_n ok rfl dX0_clean_0 ?_
  refine q_if_lt 11 ok dX0_clean_1 (by decide) (fun h1 => ?_) (fun h1 => ?_)
  · exact q_thG (text := "a number of samples is 0 .. 256") ok fn q_exf.1 q_exIk q_exIn (fun s h => h.1) q_exIw q_exIg (by decide +kernel) (by decide) dX0_clean_11 dX0_clean_14 dX0_clean_15 dX0_clean_17 dX0_clean_20 (hk1 (Or.inl h1))
  · refine q_iload_n ok rfl dX0_clean_4 ?_
    refine q_sipushv (nI 256) ok (by decide) dX0_clean_5 ?_
    refine q_icmp_le 21 ok dX0_clean_8 (by decide) (fun h8 => ?_) (fun h8 => ?_)
    · have h8b : ¬ nI 256 < m := Int32.not_lt.mpr h8
      obtain ⟨mo, hmo, rfl⟩ := nI_of h1
      have hm : mo ≤ 256 := (nI_leI hmo (by decide)).mp h8
      refine q_aload_n ok rfl dX0_clean_21 ?_
      refine q_iconstv (nI 1) ok (by decide) dX0_clean_22 ?_
      refine q_iload_n ok rfl dX0_clean_23 ?_
      refine kX0_turnSpecks (col := true) g hm (by decide) (Nat.le_of_ble_eq_true rfl) ok dX0_clean_24 ?_
      intro blk1 mrk1 que1 qd1 hT1
      refine q_istore_2 ok rfl dX0_clean_27 ?_
      refine q_aload_n ok rfl dX0_clean_28 ?_
      refine q_iconstv (nI 0) ok (by decide) dX0_clean_29 ?_
      refine q_iload_n ok rfl dX0_clean_30 ?_
      refine kX0_turnSpecks (col := false) g hm (by decide) (Nat.le_of_ble_eq_true rfl) ok dX0_clean_31 ?_
      intro blk2 mrk2 que2 qd2 hT2
      refine q_istore_3 ok rfl dX0_clean_34 ?_
      refine q_iload_n ok rfl dX0_clean_35 ?_
      refine q_iload_n ok rfl dX0_clean_36 ?_
      refine q_iaddN ok dX0_clean_37 ?_
      exact q_iretX ok fn dX0_clean_38 (by have z := hk0 h1 h8b blk1 blk2 mrk2 que2 qd2; rw [nI_clamp hmo] at z; exact z hT1 hT2)
    · exact q_thG (text := "a number of samples is 0 .. 256") ok fn q_exf.1 q_exIk q_exIn (fun s h => h.1) q_exIw q_exIg (by decide +kernel) (by decide) dX0_clean_11 dX0_clean_14 dX0_clean_15 dX0_clean_17 dX0_clean_20 (hk1 (Or.inr (Int32.not_le.mp h8)))
theorem isP_o {a b : Int32} {c : Nat} (hc : c ≤ 16) (h : isP a b (nI c) = true) : ∃ x y : Nat, x ≤ c ∧ y ≤ c - x ∧ a = nI x ∧ b = nI y := by
  obtain ⟨h1, h2, h3, h4⟩ := of_decide_eq_true h
  obtain ⟨x, hx, rfl⟩ := nI_of (Int32.not_lt.mpr h1)
  obtain ⟨y, hy, rfl⟩ := nI_of (Int32.not_lt.mpr h3)
  have hxc := (nI_leI hx (by omega)).mp h2
  rw [pk_sub hxc] at h4
  exact ⟨x, y, hxc, (nI_leI hy (by omega)).mp h4, rfl, rfl⟩
def sp_X0_sum : List q_V → List q_E → (Option q_V → List q_E → Prop) → (String → List q_E → Prop) → Prop := fun as Wd K KX => ∃ (w : Nat) (h : Nat) (sam : Nat → Nat) (blk : Nat → Bool) (lost : Int64) (ogr : Nat → Nat) (came : Nat → Int32) (sums : Nat → Int64) (sqs : Nat → Int64) (mrk : Nat → Bool) (que : Nat → Nat) (qd : Nat) (a : Int32) (b : Int32) (c : Int32) (d : Int32) (e : Bool), (q_g w h) ∧ (∀ k, k < w * h → sam k < 256) ∧ (bS w h sums) ∧ (bS w h sqs) ∧ as = [.inr (.inr (some 0)), .inl a, .inl b, .inl c, .inl d, .inl (bI e)] ∧ Wd = (xw w h sam blk lost ogr came sums sqs mrk que qd) ∧ (∀ (a2 b2 c2 d2 : Nat), a = nI a2 → b = nI b2 → c = nI c2 → d = nI d2 → a2 ≤ w → c2 ≤ w - a2 → b2 ≤ h → d2 ≤ h - b2 → ∀ (s1 s2 : Nat → Int64), SS sam w h s1 → SS (sq sam) w h s2 → K (some (.inr (.inl (lN (RS (if e = true then sq sam else sam) w a2 b2 (a2 + c2) (b2 + d2)))))) (xw w h sam blk lost ogr came (s1) (s2) mrk que qd)) ∧ ((isP a c (nI w) = false ∨ isP b d (nI h) = false) → KX exI (xw w h sam blk lost ogr came sums sqs mrk que qd))
set_option maxHeartbeats 4000000 in
set_option maxRecDepth 20000 in
theorem ct_X0_sum : q_CtX yX0_sum cX0_sum 6 (some .long) 6 82 sp_X0_sum := by
  refine q_metX (by decide) ?_
  intro x as Wd K KX hs ok fn
  obtain ⟨w, h, sam, blk, lost, ogr, came, sums, sqs, mrk, que, qd, a, b, c, d, e, g, hs, hb1, hb2, rfl, rfl, hk0, hk1⟩ := hs
  show q_W x 0 [some (.inr (.inr (some 0))), some (.inl a), some (.inl b), some (.inl c), some (.inl d), some (.inl (bI e))] [] (xw w h sam blk lost ogr came sums sqs mrk que qd)
  refine q_iload_n ok rfl dX0_sum_0 ?_
  refine q_iload_n ok rfl dX0_sum_1 ?_
  refine q_aload_n ok rfl dX0_sum_2 ?_
  refine xg_width ok dX0_sum_3 ?_
  refine kX0_isPart (by decide) (Nat.le_of_ble_eq_true rfl) ok dX0_sum_6 ?_
  refine q_ifb_eq 25 ok dX0_sum_9 (by decide) (fun h9 => ?_) (fun h9 => ?_)
  · exact q_thG (text := "the rectangle is not in the picture") ok fn q_exf.1 q_exIk q_exIn (fun s h => h.1) q_exIw q_exIg (by decide +kernel) (by decide) dX0_sum_25 dX0_sum_28 dX0_sum_29 dX0_sum_31 dX0_sum_34 (hk1 (Or.inl h9))
  · refine q_iload_n ok rfl dX0_sum_12 ?_
    refine q_iload ok rfl dX0_sum_13 ?_
    refine q_aload_n ok rfl dX0_sum_15 ?_
    refine xg_height ok dX0_sum_16 ?_
    refine kX0_isPart (by decide) (Nat.le_of_ble_eq_true rfl) ok dX0_sum_19 ?_
    refine q_ifb_ne 35 ok dX0_sum_22 (by decide) (fun h22 => ?_) (fun h22 => ?_)
    · have hw := g.2.1
      have hh := g.2.2.2
      obtain ⟨a2, c2, ha2, hc2, rfl, rfl⟩ := isP_o hw h9
      obtain ⟨b2, d2, hbb2, hd2, rfl, rfl⟩ := isP_o hh h22
      refine q_aload_n ok rfl dX0_sum_35 ?_
      refine kX0_fillSums g hs hb1 hb2 (by decide) (Nat.le_of_ble_eq_true rfl) ok dX0_sum_36 ?_
      intro s1 s2 hS1 hS2
      refine q_aload_n ok rfl dX0_sum_39 ?_
      refine q_iload ok rfl dX0_sum_40 ?_
      refine q_ifb_eq 52 ok dX0_sum_42 (by decide) (fun h42 => ?_) (fun h42 => ?_)
      · refine q_aload_n ok rfl dX0_sum_52 ?_
        refine xg_sums ok dX0_sum_53 ?_
        refine q_iload_n ok rfl dX0_sum_56 ?_
        refine q_iload_n ok rfl dX0_sum_57 ?_
        refine q_iload_n ok rfl dX0_sum_58 ?_
        refine q_iload_n ok rfl dX0_sum_59 ?_
        refine q_iaddN ok dX0_sum_60 ?_
        refine q_iload_n ok rfl dX0_sum_61 ?_
        refine q_iload ok rfl dX0_sum_62 ?_
        refine q_iaddN ok dX0_sum_64 ?_
        refine kX0_sumBetween_5 g (by omega) (by omega) (by omega) (by omega) (by decide) (Nat.le_of_ble_eq_true rfl) ok dX0_sum_65 ?_
        exact q_lretX ok fn dX0_sum_68 (by have z := hk0 a2 b2 c2 d2 rfl rfl rfl rfl (by omega) (by omega) (by omega) (by omega) s1 s2 hS1 hS2; rw [hS1 _ (by omega) _ (by omega), hS1 _ (by omega) _ (by omega), hS1 _ (by omega) _ (by omega), hS1 _ (by omega) _ (by omega), RS_eq (by omega) (by omega)]; rw [h42] at z; exact z)
      · refine q_aload_n ok rfl dX0_sum_45 ?_
        refine xg_squareSums ok dX0_sum_46 ?_
        refine q_goto 56 ok dX0_sum_49 (by decide) ?_
        refine q_iload_n ok rfl dX0_sum_56 ?_
        refine q_iload_n ok rfl dX0_sum_57 ?_
        refine q_iload_n ok rfl dX0_sum_58 ?_
        refine q_iload_n ok rfl dX0_sum_59 ?_
        refine q_iaddN ok dX0_sum_60 ?_
        refine q_iload_n ok rfl dX0_sum_61 ?_
        refine q_iload ok rfl dX0_sum_62 ?_
        refine q_iaddN ok dX0_sum_64 ?_
        refine kX0_sumBetween_6 g (by omega) (by omega) (by omega) (by omega) (by decide) (Nat.le_of_ble_eq_true rfl) ok dX0_sum_65 ?_
        exact q_lretX ok fn dX0_sum_68 (by have z := hk0 a2 b2 c2 d2 rfl rfl rfl rfl (by omega) (by omega) (by omega) (by omega) s1 s2 hS1 hS2; rw [hS2 _ (by omega) _ (by omega), hS2 _ (by omega) _ (by omega), hS2 _ (by omega) _ (by omega), hS2 _ (by omega) _ (by omega), RS_eq (by omega) (by omega)]; rw [h42] at z; exact z)
    · exact q_thG (text := "the rectangle is not in the picture") ok fn q_exf.1 q_exIk q_exIn (fun s h => h.1) q_exIw q_exIg (by decide +kernel) (by decide) dX0_sum_25 dX0_sum_28 dX0_sum_29 dX0_sum_31 dX0_sum_34 (hk1 (Or.inr h22))
theorem q_tabIn {x : q_X} {cc : ByteArray} {own : String} {fr lo pc : Nat} {lv : List (Option q_V)} {st : List q_V} {Wd : List q_E} {dflt lw hi : Int} {offs : Array Int} {len : Nat} {v : Int32} {off : Int} (tgt : Nat) (ok : q_ok x cc own fr lo) (hd : decode cc pc = .ok (.tableswitch dflt lw hi offs, len)) (h1 : ¬ v.toInt < lw) (h2 : ¬ hi < v.toInt) (ho : offs[(v.toInt - lw).toNat]? = some off) (ht : (pc : Int) + off = (tgt : Int)) (kk : q_W x tgt lv st Wd) : q_W x pc lv (.inl v :: st) Wd := by
  obtain ⟨p, l, e, R, s, m, args, below, meth, c, A, H0, cells, slots, Q, D, cA, ad⟩ := x
  obtain ⟨hx, hb, hown, hts, hK, hA, hfr, hlo, hce, hsl⟩ := ok
  intro H locs ls hl hn hP hD hS
  exact lv_tableIn hx hb hd h1 h2 ho ht (kk H locs ls hl hn hP hD hS)
theorem q_tabOut {x : q_X} {cc : ByteArray} {own : String} {fr lo pc : Nat} {lv : List (Option q_V)} {st : List q_V} {Wd : List q_E} {dflt lw hi : Int} {offs : Array Int} {len : Nat} {v : Int32} (tgt : Nat) (ok : q_ok x cc own fr lo) (hd : decode cc pc = .ok (.tableswitch dflt lw hi offs, len)) (h : v.toInt < lw ∨ hi < v.toInt) (ht : (pc : Int) + dflt = (tgt : Int)) (kk : q_W x tgt lv st Wd) : q_W x pc lv (.inl v :: st) Wd := by
  obtain ⟨p, l, e, R, s, m, args, below, meth, c, A, H0, cells, slots, Q, D, cA, ad⟩ := x
  obtain ⟨hx, hb, hown, hts, hK, hA, hfr, hlo, hce, hsl⟩ := ok
  intro H locs ls hl hn hP hD hS
  exact lv_tableOut hx hb hd h ht (kk H locs ls hl hn hP hD hS)
