-- THE REFERENCE, first part
def sp_X1_pass : List q_V → List q_E → (Option q_V → List q_E → Prop) → Prop := fun as Wd K => ∃ (w : Nat) (h : Nat) (thr : Nat) (sam : Nat → Nat) (blk : Nat → Bool) (nxt : Nat → Bool) (came : Nat → Int32) (part : Nat → Int32) (rst : Int64) (a : Int32) (b : Int32) (e : Int32), (q_g w h) ∧ as = [.inr (.inr (some 0)), .inl a, .inl b, .inl e] ∧ Wd = (mw w h thr sam blk nxt came part rst) ∧ (K none (mw w h thr sam blk nxt (pT w h a b e came) part (lT w h a b e rst)))
set_option maxHeartbeats 4000000 in
set_option maxRecDepth 20000 in
theorem ct_X1_pass : q_Ct yX1_pass cX1_pass 4 none 1 22 sp_X1_pass := by
  refine q_met (by decide) ?_
  intro x as Wd K hs ok fn
  obtain ⟨w, h, thr, sam, blk, nxt, came, part, rst, a, b, e, g, rfl, rfl, hk⟩ := hs
  show q_W x 0 [some (.inr (.inr (some 0))), some (.inl a), some (.inl b), some (.inl e)] [] (mw w h thr sam blk nxt came part rst)
  refine q_aload_n ok rfl dX1_pass_0 ?_
  refine q_iload_n ok rfl dX1_pass_1 ?_
  refine q_iload_n ok rfl dX1_pass_2 ?_
  refine kX1_isIn (by decide) (Nat.le_of_ble_eq_true rfl) ok dX1_pass_3 ?_
  refine q_ifb_eq 40 ok dX1_pass_6 (by decide) (fun h6 => ?_) (fun h6 => ?_)
  · refine q_aload_n ok rfl dX1_pass_40 ?_
    refine q_aload_n ok rfl dX1_pass_41 ?_
    refine mg_rest ok dX1_pass_42 ?_
    refine q_iload_n ok rfl dX1_pass_45 ?_
    refine q_i2l ok dX1_pass_46 ?_
    refine q_ladd ok dX1_pass_47 ?_
    refine mp_rest ok dX1_pass_48 ?_
    exact q_vret ok fn dX1_pass_51 (by unfold lT pT at hk; rw [if_neg (by rw [h6]; decide), if_neg (by rw [h6]; decide)] at hk; exact hk)
  · obtain ⟨i, j, hi, hj, rfl, rfl⟩ := inI_o g h6
    have hlt := pm_lt g hi hj
    have hw := g.2.1
    have hh := g.2.2.2
    have ep : pI w (nI i) (nI j) = w * j + i := by rw [pI_n (by omega) (by omega), Nat.mul_comm]
    refine q_aload_n ok rfl dX1_pass_9 ?_
    refine mg_came ok dX1_pass_10 ?_
    refine q_aload_n ok rfl dX1_pass_13 ?_
    refine mg_width ok dX1_pass_14 ?_
    refine q_iload_n ok rfl dX1_pass_17 ?_
    refine q_imulN ok dX1_pass_18 ?_
    refine q_iload_n ok rfl dX1_pass_19 ?_
    refine q_iaddN ok dX1_pass_20 ?_
    refine q_aload_n ok rfl dX1_pass_21 ?_
    refine mg_came ok dX1_pass_22 ?_
    refine q_aload_n ok rfl dX1_pass_25 ?_
    refine mg_width ok dX1_pass_26 ?_
    refine q_iload_n ok rfl dX1_pass_29 ?_
    refine q_imulN ok dX1_pass_30 ?_
    refine q_iload_n ok rfl dX1_pass_31 ?_
    refine q_iaddN ok dX1_pass_32 ?_
    refine ml_came g hlt ok dX1_pass_33 ?_
    refine q_iload_n ok rfl dX1_pass_34 ?_
    refine q_iadd ok dX1_pass_35 ?_
    refine ms_came g hlt ok dX1_pass_36 ?_
    refine q_goto 51 ok dX1_pass_37 (by decide) ?_
    exact q_vret ok fn dX1_pass_51 (by unfold lT pT at hk; rw [if_pos h6, if_pos h6, ep] at hk; exact hk)
theorem kX1_pass {x : q_X} {cc : ByteArray} {fr lo pc : Nat} {lv : List (Option q_V)} {st : List q_V} {w : Nat} {h : Nat} {thr : Nat} {sam : Nat → Nat} {blk : Nat → Bool} {nxt : Nat → Bool} {came : Nat → Int32} {part : Nat → Int32} {rst : Int64} {a : Int32} {b : Int32} {e : Int32} (g : q_g w h) (hR : 1 + 1 ≤ fr ∧ 8 + (4 + 11) + 22 ≤ lo) (hst : (st.map (fun v => if q_nol (some v) then 1 else 2)).sum ≤ 8) (ok : q_ok x cc RX1 fr lo) (hd : decode cc pc = .ok (.invokevirtual 59, 3)) (kk : q_W x (pc + 3) lv (st) (mw w h thr sam blk nxt (pT w h a b e came) part (lT w h a b e rst))) : q_W x pc lv (.inl e :: .inl b :: .inl a :: .inr (.inr (some 0)) :: st) (mw w h thr sam blk nxt came part rst) :=
  q_callV [.inl a, .inl b, .inl e] ct_X1_pass lkX1_X1_pass dc_X1_pass rfl ok rfl hR hst (Nat.le_of_ble_eq_true rfl) hd ⟨w, h, thr, sam, blk, nxt, came, part, rst, a, b, e, g, rfl, rfl, kk⟩
def sp_X1_put : List q_V → List q_E → (Option q_V → List q_E → Prop) → Prop := fun as Wd K => ∃ (w : Nat) (h : Nat) (thr : Nat) (sam : Nat → Nat) (blk : Nat → Bool) (nxt : Nat → Bool) (came : Nat → Int32) (part : Nat → Int32) (rst : Int64) (a : Int32) (b : Int32) (v : Int32), (q_g w h) ∧ as = [.inr (.inr (some 0)), .inl a, .inl b, .inl v] ∧ Wd = (mw w h thr sam blk nxt came part rst) ∧ (inI w h a b = true → ¬ v < 0 → ¬ nI 255 < v → K (some (.inl (nI (sam (pI w a b))))) (mw w h (0) (va_up sam (pI w a b) v.toNatClampNeg) blk nxt came part rst)) ∧ (inI w h a b = false → K (some (.inl (nI 0))) (mw w h (1) sam blk nxt came part rst)) ∧ (inI w h a b = true → (v < 0 ∨ nI 255 < v) → K (some (.inl (nI 0))) (mw w h (2) sam blk nxt came part rst))
set_option maxHeartbeats 4000000 in
set_option maxRecDepth 20000 in
theorem ct_X1_put : q_Ct yX1_put cX1_put 5 (some .int) 1 22 sp_X1_put := by
  refine q_met (by decide) ?_
  intro x as Wd K hs ok fn
  obtain ⟨w, h, thr, sam, blk, nxt, came, part, rst, a, b, v, g, rfl, rfl, hk0, hk1, hk2⟩ := hs
  show q_W x 0 [some (.inr (.inr (some 0))), some (.inl a), some (.inl b), some (.inl v), none] [] (mw w h thr sam blk nxt came part rst)
  refine q_aload_n ok rfl dX1_put_0 ?_
  refine q_aload_n ok rfl dX1_put_1 ?_
  refine q_iload_n ok rfl dX1_put_2 ?_
  refine q_iload_n ok rfl dX1_put_3 ?_
  refine kX1_isIn (by decide) (Nat.le_of_ble_eq_true rfl) ok dX1_put_4 ?_
  refine q_ifb_ne 14 ok dX1_put_7 (by decide) (fun h7 => ?_) (fun h7 => ?_)
  · refine q_iload_n ok rfl dX1_put_14 ?_
    refine q_if_lt 25 ok dX1_put_15 (by decide) (fun h15 => ?_) (fun h15 => ?_)
    · refine q_iconstv (nI 2) ok (by decide) dX1_put_25 ?_
      refine q_goto 30 ok dX1_put_26 (by decide) ?_
      refine mp_thrown ok dX1_put_30 ?_
      refine q_aload_n ok rfl dX1_put_33 ?_
      refine mg_thrown ok dX1_put_34 ?_
      refine q_if_le 42 ok dX1_put_37 (by decide) (fun hh => absurd hh (by decide)) (fun _ => ?_)
      refine q_iconstv (nI 0) ok (by decide) dX1_put_40 ?_
      exact q_iret ok fn dX1_put_41 (hk2 h7 (Or.inl h15))
    · refine q_iload_n ok rfl dX1_put_18 ?_
      refine q_sipushv (nI 255) ok (by decide) dX1_put_19 ?_
      refine q_icmp_le 29 ok dX1_put_22 (by decide) (fun h22 => ?_) (fun h22 => ?_)
      · refine q_iconstv (nI 0) ok (by decide) dX1_put_29 ?_
        refine mp_thrown ok dX1_put_30 ?_
        refine q_aload_n ok rfl dX1_put_33 ?_
        refine mg_thrown ok dX1_put_34 ?_
        refine q_if_le 42 ok dX1_put_37 (by decide) (fun _ => ?_) (fun hh => absurd (by decide) hh)
        have h22b : ¬ nI 255 < v := Int32.not_lt.mpr h22
        obtain ⟨i, j, hi, hj, rfl, rfl⟩ := inI_o g h7
        have hlt := pm_lt g hi hj
        have hw := g.2.1
        have hh := g.2.2.2
        have ep : pI w (nI i) (nI j) = w * j + i := by rw [pI_n (by omega) (by omega), Nat.mul_comm]
        obtain ⟨vv, hvv, rfl⟩ := nI_of h15
        refine q_aload_n ok rfl dX1_put_42 ?_
        refine mg_samples ok dX1_put_43 ?_
        refine q_aload_n ok rfl dX1_put_46 ?_
        refine mg_width ok dX1_put_47 ?_
        refine q_iload_n ok rfl dX1_put_50 ?_
        refine q_imulN ok dX1_put_51 ?_
        refine q_iload_n ok rfl dX1_put_52 ?_
        refine q_iaddN ok dX1_put_53 ?_
        refine ml_sam g hlt ok dX1_put_54 ?_
        refine q_istore_4 ok rfl dX1_put_55 ?_
        refine q_aload_n ok rfl dX1_put_57 ?_
        refine mg_samples ok dX1_put_58 ?_
        refine q_aload_n ok rfl dX1_put_61 ?_
        refine mg_width ok dX1_put_62 ?_
        refine q_iload_n ok rfl dX1_put_65 ?_
        refine q_imulN ok dX1_put_66 ?_
        refine q_iload_n ok rfl dX1_put_67 ?_
        refine q_iaddN ok dX1_put_68 ?_
        refine q_iload_n ok rfl dX1_put_69 ?_
        refine ms_sam g hlt ok dX1_put_70 ?_
        refine q_iload ok rfl dX1_put_71 ?_
        exact q_iret ok fn dX1_put_73 (by have z := hk0 h7 h15 h22b; rw [ep, nI_clamp hvv] at z; exact z)
      · refine q_iconstv (nI 2) ok (by decide) dX1_put_25 ?_
        refine q_goto 30 ok dX1_put_26 (by decide) ?_
        refine mp_thrown ok dX1_put_30 ?_
        refine q_aload_n ok rfl dX1_put_33 ?_
        refine mg_thrown ok dX1_put_34 ?_
        refine q_if_le 42 ok dX1_put_37 (by decide) (fun hh => absurd hh (by decide)) (fun _ => ?_)
        refine q_iconstv (nI 0) ok (by decide) dX1_put_40 ?_
        exact q_iret ok fn dX1_put_41 (hk2 h7 (Or.inr (Int32.not_le.mp h22)))
  · refine q_iconstv (nI 1) ok (by decide) dX1_put_10 ?_
    refine q_goto 30 ok dX1_put_11 (by decide) ?_
    refine mp_thrown ok dX1_put_30 ?_
    refine q_aload_n ok rfl dX1_put_33 ?_
    refine mg_thrown ok dX1_put_34 ?_
    refine q_if_le 42 ok dX1_put_37 (by decide) (fun hh => absurd hh (by decide)) (fun _ => ?_)
    refine q_iconstv (nI 0) ok (by decide) dX1_put_40 ?_
    exact q_iret ok fn dX1_put_41 (hk1 h7)
theorem lo8_and (x : Int32) : x &&& nI 255 = nI (lo8 x) := by
  have := pk_and x (m := nI 255) 8 (by decide +kernel)
  exact this
def sp_X1_paint : List q_V → List q_E → (Option q_V → List q_E → Prop) → Prop := fun as Wd K => ∃ (w : Nat) (h : Nat) (thr : Nat) (sam : Nat → Nat) (blk : Nat → Bool) (nxt : Nat → Bool) (came : Nat → Int32) (part : Nat → Int32) (rst : Int64) (v : Int32) (stp : Int32), (q_g w h) ∧ (∀ k, k < w * h → sam k < 256) ∧ as = [.inr (.inr (some 0)), .inl v, .inl stp] ∧ Wd = (mw w h thr sam blk nxt came part rst) ∧ (K (some (.inl (nI (cntB (fun k => sam k != lo8 (v + nI k * stp)) (w * h))))) (mw w h (0) (fun k => if k < w * h then lo8 (v + nI k * stp) else sam k) blk nxt came part rst))
set_option maxHeartbeats 4000000 in
set_option maxRecDepth 20000 in
theorem ct_X1_paint : q_Ct yX1_paint cX1_paint 6 (some .int) 1 20 sp_X1_paint := by
  refine q_met (by decide) ?_
  intro x as Wd K hs ok fn
  obtain ⟨w, h, thr, sam, blk, nxt, came, part, rst, v, stp, g, hs, rfl, rfl, hk⟩ := hs
  show q_W x 0 [some (.inr (.inr (some 0))), some (.inl v), some (.inl stp), none, none, none] [] (mw w h thr sam blk nxt came part rst)
  have hn := q_gn g
  have L : ∀ (dL i : Nat) (o5 : Option q_V), dL = w * h - i → i ≤ w * h → q_W x 10 [some (.inr (.inr (some 0))), some (.inl (v)), some (.inl (stp)), some (.inl (nI (cntB (fun k => sam k != lo8 (v + nI k * stp)) (i)))), some (.inl (nI (i))), o5] [] (mw w h (0) (fun k => if k < i then lo8 (v + nI k * stp) else sam k) blk nxt came part rst) := by
    intro dL
    induction dL using Nat.strongRecOn with
    | _ dL ihL =>
      intro i o5 hdL hiL 
      refine q_iload ok rfl dX1_paint_10 ?_
      refine q_aload_n ok rfl dX1_paint_12 ?_
      refine kX1_all (by decide) (Nat.le_of_ble_eq_true rfl) ok dX1_paint_13 ?_
      refine q_icmpN_ge 66 (by omega) (by omega) ok dX1_paint_16 (by decide) (fun h16 => ?_) (fun h16 => ?_)
      · refine q_iload_n ok rfl dX1_paint_66 ?_
        exact q_iret ok fn dX1_paint_67 (by rw [show i = w * h by omega]; exact hk)
      · refine q_iload_n ok rfl dX1_paint_19 ?_
        refine q_iload ok rfl dX1_paint_20 ?_
        refine q_iload_n ok rfl dX1_paint_22 ?_
        refine q_imul ok dX1_paint_23 ?_
        refine q_iadd ok dX1_paint_24 ?_
        refine q_sipushv (nI 255) ok (by decide) dX1_paint_25 ?_
        refine q_iand ok dX1_paint_28 ?_
        rw [lo8_and]
        refine q_istore_5 ok rfl dX1_paint_29 ?_
        refine q_aload_n ok rfl dX1_paint_31 ?_
        refine mg_samples ok dX1_paint_32 ?_
        refine q_iload ok rfl dX1_paint_35 ?_
        refine ml_sam g (by omega) ok dX1_paint_37 ?_
        rw [if_neg (Nat.lt_irrefl i)]
        refine q_iload ok rfl dX1_paint_38 ?_
        refine q_icmpN_eq 49 (by have := hs i (by omega); omega) (by have := lo8_lt (v + nI i * stp); omega) ok dX1_paint_40 (by decide) (fun h40 => ?_) (fun h40 => ?_)
        · refine q_iload_n ok rfl dX1_paint_49 ?_
          refine q_istore_3 ok rfl dX1_paint_50 ?_
          refine q_aload_n ok rfl dX1_paint_51 ?_
          refine mg_samples ok dX1_paint_52 ?_
          refine q_iload ok rfl dX1_paint_55 ?_
          refine q_iload ok rfl dX1_paint_57 ?_
          refine ms_sam g (by omega) ok dX1_paint_59 ?_
          refine q_iincN_4 1 ok rfl (by decide) dX1_paint_60 ?_
          refine q_goto 10 ok dX1_paint_63 (by decide) ?_
          rw [pu_step (F := fun k => lo8 (v + nI k * stp)), ← cntB_f (f := (fun k => sam k != lo8 (v + nI k * stp))) (n := i) (by simp [h40])]
          exact ihL _ (by omega) (i + 1) _ rfl (by omega)
        · refine q_iload_n ok rfl dX1_paint_43 ?_
          refine q_iconstv (nI 1) ok (by decide) dX1_paint_44 ?_
          refine q_iaddN ok dX1_paint_45 ?_
          refine q_goto 50 ok dX1_paint_46 (by decide) ?_
          refine q_istore_3 ok rfl dX1_paint_50 ?_
          refine q_aload_n ok rfl dX1_paint_51 ?_
          refine mg_samples ok dX1_paint_52 ?_
          refine q_iload ok rfl dX1_paint_55 ?_
          refine q_iload ok rfl dX1_paint_57 ?_
          refine ms_sam g (by omega) ok dX1_paint_59 ?_
          refine q_iincN_4 1 ok rfl (by decide) dX1_paint_60 ?_
          refine q_goto 10 ok dX1_paint_63 (by decide) ?_
          rw [pu_step (F := fun k => lo8 (v + nI k * stp)), ← cntB_t (f := (fun k => sam k != lo8 (v + nI k * stp))) (n := i) (by simp [h40])]
          exact ihL _ (by omega) (i + 1) _ rfl (by omega)
  refine q_aload_n ok rfl dX1_paint_0 ?_
  refine q_iconstv (nI 0) ok (by decide) dX1_paint_1 ?_
  refine mp_thrown ok dX1_paint_2 ?_
  refine q_iconstv (nI 0) ok (by decide) dX1_paint_5 ?_
  refine q_istore_3 ok rfl dX1_paint_6 ?_
  refine q_iconstv (nI 0) ok (by decide) dX1_paint_7 ?_
  refine q_istore_4 ok rfl dX1_paint_8 ?_
  have := L _ 0 none rfl (Nat.zero_le _)
  rw [pu_0 (F := fun k => lo8 (v + nI k * stp))] at this
  exact this
def sp_X1_rest : List q_V → List q_E → (Option q_V → List q_E → Prop) → Prop := fun as Wd K => ∃ (w : Nat) (h : Nat) (thr : Nat) (sam : Nat → Nat) (blk : Nat → Bool) (nxt : Nat → Bool) (came : Nat → Int32) (part : Nat → Int32) (rst : Int64), as = [.inr (.inr (some 0))] ∧ Wd = (mw w h thr sam blk nxt came part rst) ∧ (K (some (.inr (.inl rst))) (mw w h (0) sam blk nxt came part rst))
set_option maxHeartbeats 4000000 in
set_option maxRecDepth 20000 in
theorem ct_X1_rest : q_Ct yX1_rest cX1_rest 1 (some .long) 0 0 sp_X1_rest := by
  refine q_met (by decide) ?_
  intro x as Wd K hs ok fn
  obtain ⟨w, h, thr, sam, blk, nxt, came, part, rst, rfl, rfl, hk⟩ := hs
  show q_W x 0 [some (.inr (.inr (some 0)))] [] (mw w h thr sam blk nxt came part rst)
  refine q_aload_n ok rfl dX1_rest_0 ?_
  refine q_iconstv (nI 0) ok (by decide) dX1_rest_1 ?_
  refine mp_thrown ok dX1_rest_2 ?_
  refine q_aload_n ok rfl dX1_rest_5 ?_
  refine mg_rest ok dX1_rest_6 ?_
  exact q_lret ok fn dX1_rest_9 hk
def sp_X1_isCells : List q_V → List q_E → (Option q_V → List q_E → Prop) → Prop := fun as Wd K => ∃ (c : Int32), as = [.inl c] ∧ (K (some (.inl (bI (isC c)))) Wd)
set_option maxHeartbeats 4000000 in
set_option maxRecDepth 20000 in
theorem ct_X1_isCells : q_Ct yX1_isCells cX1_isCells 1 (some .boolean) 0 0 sp_X1_isCells := by
  refine q_met (by decide) ?_
  intro x as Wd K hs ok fn
  obtain ⟨c, rfl, hk⟩ := hs
  show q_W x 0 [some (.inl c)] [] Wd
  refine q_iload_n ok rfl dX1_isCells_0 ?_
  refine q_iconstv (nI 1) ok (by decide) dX1_isCells_1 ?_
  refine q_icmp_eq 21 ok dX1_isCells_2 (by decide) (fun h2 => ?_) (fun h2 => ?_)
  · refine q_iconstv (nI 1) ok (by decide) dX1_isCells_21 ?_
    refine q_goto 26 ok dX1_isCells_22 (by decide) ?_
    exact q_zret ok fn dX1_isCells_26 (by decide) (by have ee : isC c = true := decide_eq_true (Or.inl h2); rw [ee] at hk; exact hk)
  · refine q_iload_n ok rfl dX1_isCells_5 ?_
    refine q_iconstv (nI 2) ok (by decide) dX1_isCells_6 ?_
    refine q_icmp_eq 21 ok dX1_isCells_7 (by decide) (fun h7 => ?_) (fun h7 => ?_)
    · refine q_iconstv (nI 1) ok (by decide) dX1_isCells_21 ?_
      refine q_goto 26 ok dX1_isCells_22 (by decide) ?_
      exact q_zret ok fn dX1_isCells_26 (by decide) (by have ee : isC c = true := decide_eq_true (Or.inr (Or.inl h7)); rw [ee] at hk; exact hk)
    · refine q_iload_n ok rfl dX1_isCells_10 ?_
      refine q_iconstv (nI 4) ok (by decide) dX1_isCells_11 ?_
      refine q_icmp_eq 21 ok dX1_isCells_12 (by decide) (fun h12 => ?_) (fun h12 => ?_)
      · refine q_iconstv (nI 1) ok (by decide) dX1_isCells_21 ?_
        refine q_goto 26 ok dX1_isCells_22 (by decide) ?_
        exact q_zret ok fn dX1_isCells_26 (by decide) (by have ee : isC c = true := decide_eq_true (Or.inr (Or.inr (Or.inl h12))); rw [ee] at hk; exact hk)
      · refine q_iload_n ok rfl dX1_isCells_15 ?_
        refine q_bipushv (nI 8) ok (by decide) dX1_isCells_16 ?_
        refine q_icmp_ne 25 ok dX1_isCells_18 (by decide) (fun h18 => ?_) (fun h18 => ?_)
        · refine q_iconstv (nI 0) ok (by decide) dX1_isCells_25 ?_
          exact q_zret ok fn dX1_isCells_26 (by decide) (by have ee : isC c = false := decide_eq_false (fun q => q.elim h2 (fun q => q.elim h7 (fun q => q.elim h12 h18))); rw [ee] at hk; exact hk)
        · refine q_iconstv (nI 1) ok (by decide) dX1_isCells_21 ?_
          refine q_goto 26 ok dX1_isCells_22 (by decide) ?_
          exact q_zret ok fn dX1_isCells_26 (by decide) (by have ee : isC c = true := decide_eq_true (Or.inr (Or.inr (Or.inr h18))); rw [ee] at hk; exact hk)
theorem kX1_isCells {x : q_X} {cc : ByteArray} {fr lo pc : Nat} {lv : List (Option q_V)} {st : List q_V} {c : Int32} {Wd : List q_E} (hR : 0 + 1 ≤ fr ∧ 8 + (1 + 11) + 0 ≤ lo) (hst : (st.map (fun v => if q_nol (some v) then 1 else 2)).sum ≤ 8) (ok : q_ok x cc RX1 fr lo) (hd : decode cc pc = .ok (.invokestatic 63, 3)) (kk : q_W x (pc + 3) lv ((.inl (bI (isC c))) :: st) Wd) : q_W x pc lv (.inl c :: st) Wd :=
  q_callS [.inl c] ct_X1_isCells lkX1_X1_isCells dc_X1_isCells ok hR hst (Nat.le_of_ble_eq_true rfl) hd ⟨c, rfl, kk⟩
def sp_X1_cellOf : List q_V → List q_E → (Option q_V → List q_E → Prop) → Prop := fun as Wd K => ∃ (c : Nat) (a : Nat) (b : Nat) (ex : Nat), (ex ≤ 3) ∧ (c = 2 ^ ex) ∧ (a < 2 ^ 31) ∧ (b < 2 ^ 31) ∧ as = [.inl (nI c), .inl (nI a), .inl (nI b)] ∧ (K (some (.inl (nI (cN a b ex)))) Wd)
set_option maxHeartbeats 4000000 in
set_option maxRecDepth 20000 in
theorem ct_X1_cellOf : q_Ct yX1_cellOf cX1_cellOf 7 (some .int) 0 0 sp_X1_cellOf := by
  refine q_met (by decide) ?_
  intro x as Wd K hs ok fn
  obtain ⟨c, a, b, ex, hK, hc, ha, hb, rfl, hk⟩ := hs
  show q_W x 0 [some (.inl (nI c)), some (.inl (nI a)), some (.inl (nI b)), none, none, none, none] [] Wd
  have hp := p2le hK
  subst hc
  have L : ∀ (dL k : Nat) (o5 o6 : Option q_V), dL = ex - k → k ≤ ex → q_W x 5 [some (.inl (nI (2 ^ ex))), some (.inl (nI (a))), some (.inl (nI (b))), some (.inl (nI (cN a b k))), some (.inl (nI (2 ^ k))), o5, o6] [] Wd := by
    intro dL
    induction dL using Nat.strongRecOn with
    | _ dL ihL =>
      intro k o5 o6 hdL hiL 
      have hpk := p2le (show k ≤ 3 by omega)
      refine q_iload ok rfl dX1_cellOf_5 ?_
      refine q_iload_n ok rfl dX1_cellOf_7 ?_
      refine q_icmpN_ge 87 (by omega) (by omega) ok dX1_cellOf_8 (by decide) (fun h8 => ?_) (fun h8 => ?_)
      · refine q_iload_n ok rfl dX1_cellOf_87 ?_
        exact q_iret ok fn dX1_cellOf_88 (by rw [show k = ex from Nat.le_antisymm hiL ((Nat.pow_le_pow_iff_right (by decide)).mp h8)]; exact hk)
      · have hkK : k < ex := (Nat.pow_lt_pow_iff_right (by decide)).mp (Nat.not_le.mp h8)
        have hda := Nat.div_le_self a (2 ^ k)
        have hdb := Nat.div_le_self b (2 ^ k)
        refine q_iload_n ok rfl dX1_cellOf_11 ?_
        refine q_iload ok rfl dX1_cellOf_12 ?_
        refine q_idivN (by omega) (by omega) (by omega) ok dX1_cellOf_14 ?_
        refine q_iconstv (nI 2) ok (by decide) dX1_cellOf_15 ?_
        refine q_iremN (by omega) (by omega) (by omega) ok dX1_cellOf_16 ?_
        refine q_iconstv (nI 1) ok (by decide) dX1_cellOf_17 ?_
        refine q_icmpN_ne 25 (by omega) (by omega) ok dX1_cellOf_18 (by decide) (fun h18 => ?_) (fun h18 => ?_)
        · refine q_iconstv (nI 0) ok (by decide) dX1_cellOf_25 ?_
          refine q_istore_5 ok rfl dX1_cellOf_26 ?_
          refine q_iload_n ok rfl dX1_cellOf_28 ?_
          refine q_iload ok rfl dX1_cellOf_29 ?_
          refine q_idivN (by omega) (by omega) (by omega) ok dX1_cellOf_31 ?_
          refine q_iconstv (nI 2) ok (by decide) dX1_cellOf_32 ?_
          refine q_iremN (by omega) (by omega) (by omega) ok dX1_cellOf_33 ?_
          refine q_iconstv (nI 1) ok (by decide) dX1_cellOf_34 ?_
          refine q_icmpN_ne 42 (by omega) (by omega) ok dX1_cellOf_35 (by decide) (fun h35 => ?_) (fun h35 => ?_)
          · refine q_iconstv (nI 0) ok (by decide) dX1_cellOf_42 ?_
            refine q_istore_6 ok rfl dX1_cellOf_43 ?_
            refine q_iconstv (nI 4) ok (by decide) dX1_cellOf_45 ?_
            refine q_iload_n ok rfl dX1_cellOf_46 ?_
            refine q_imulN ok dX1_cellOf_47 ?_
            refine q_iload ok rfl dX1_cellOf_48 ?_
            refine q_if_eq 66 ok dX1_cellOf_50 (by decide) (fun _ => ?_) (fun hh => absurd (by decide) hh)
            refine q_iload ok rfl dX1_cellOf_66 ?_
            refine q_if_eq 75 ok dX1_cellOf_68 (by decide) (fun _ => ?_) (fun hh => absurd (by decide) hh)
            refine q_iconstv (nI 0) ok (by decide) dX1_cellOf_75 ?_
            refine q_iaddN ok dX1_cellOf_76 ?_
            refine q_istore_3 ok rfl dX1_cellOf_77 ?_
            refine q_iconstv (nI 2) ok (by decide) dX1_cellOf_78 ?_
            refine q_iload ok rfl dX1_cellOf_79 ?_
            refine q_imulN ok dX1_cellOf_81 ?_
            refine q_istore_4 ok rfl dX1_cellOf_82 ?_
            refine q_goto 5 ok dX1_cellOf_84 (by decide) ?_
            have e : cN a b (k + 1) = 4 * cN a b k + 0 := by
              simp only [cN]; rw [decide_eq_false h18, decide_eq_false h35]; rfl
            rw [← e, Nat.mul_comm 2 (2 ^ k)]
            exact ihL _ (by omega) (k + 1) _ _ rfl (by omega)
          · refine q_iconstv (nI 1) ok (by decide) dX1_cellOf_38 ?_
            refine q_goto 43 ok dX1_cellOf_39 (by decide) ?_
            refine q_istore_6 ok rfl dX1_cellOf_43 ?_
            refine q_iconstv (nI 4) ok (by decide) dX1_cellOf_45 ?_
            refine q_iload_n ok rfl dX1_cellOf_46 ?_
            refine q_imulN ok dX1_cellOf_47 ?_
            refine q_iload ok rfl dX1_cellOf_48 ?_
            refine q_if_eq 66 ok dX1_cellOf_50 (by decide) (fun _ => ?_) (fun hh => absurd (by decide) hh)
            refine q_iload ok rfl dX1_cellOf_66 ?_
            refine q_if_eq 75 ok dX1_cellOf_68 (by decide) (fun hh => absurd hh (by decide)) (fun _ => ?_)
            refine q_iconstv (nI 3) ok (by decide) dX1_cellOf_71 ?_
            refine q_goto 76 ok dX1_cellOf_72 (by decide) ?_
            refine q_iaddN ok dX1_cellOf_76 ?_
            refine q_istore_3 ok rfl dX1_cellOf_77 ?_
            refine q_iconstv (nI 2) ok (by decide) dX1_cellOf_78 ?_
            refine q_iload ok rfl dX1_cellOf_79 ?_
            refine q_imulN ok dX1_cellOf_81 ?_
            refine q_istore_4 ok rfl dX1_cellOf_82 ?_
            refine q_goto 5 ok dX1_cellOf_84 (by decide) ?_
            have e : cN a b (k + 1) = 4 * cN a b k + 3 := by
              simp only [cN]; rw [decide_eq_false h18, decide_eq_true h35]; rfl
            rw [← e, Nat.mul_comm 2 (2 ^ k)]
            exact ihL _ (by omega) (k + 1) _ _ rfl (by omega)
        · refine q_iconstv (nI 1) ok (by decide) dX1_cellOf_21 ?_
          refine q_goto 26 ok dX1_cellOf_22 (by decide) ?_
          refine q_istore_5 ok rfl dX1_cellOf_26 ?_
          refine q_iload_n ok rfl dX1_cellOf_28 ?_
          refine q_iload ok rfl dX1_cellOf_29 ?_
          refine q_idivN (by omega) (by omega) (by omega) ok dX1_cellOf_31 ?_
          refine q_iconstv (nI 2) ok (by decide) dX1_cellOf_32 ?_
          refine q_iremN (by omega) (by omega) (by omega) ok dX1_cellOf_33 ?_
          refine q_iconstv (nI 1) ok (by decide) dX1_cellOf_34 ?_
          refine q_icmpN_ne 42 (by omega) (by omega) ok dX1_cellOf_35 (by decide) (fun h35 => ?_) (fun h35 => ?_)
          · refine q_iconstv (nI 0) ok (by decide) dX1_cellOf_42 ?_
            refine q_istore_6 ok rfl dX1_cellOf_43 ?_
            refine q_iconstv (nI 4) ok (by decide) dX1_cellOf_45 ?_
            refine q_iload_n ok rfl dX1_cellOf_46 ?_
            refine q_imulN ok dX1_cellOf_47 ?_
            refine q_iload ok rfl dX1_cellOf_48 ?_
            refine q_if_eq 66 ok dX1_cellOf_50 (by decide) (fun hh => absurd hh (by decide)) (fun _ => ?_)
            refine q_iload ok rfl dX1_cellOf_53 ?_
            refine q_if_eq 62 ok dX1_cellOf_55 (by decide) (fun _ => ?_) (fun hh => absurd (by decide) hh)
            refine q_iconstv (nI 2) ok (by decide) dX1_cellOf_62 ?_
            refine q_goto 76 ok dX1_cellOf_63 (by decide) ?_
            refine q_iaddN ok dX1_cellOf_76 ?_
            refine q_istore_3 ok rfl dX1_cellOf_77 ?_
            refine q_iconstv (nI 2) ok (by decide) dX1_cellOf_78 ?_
            refine q_iload ok rfl dX1_cellOf_79 ?_
            refine q_imulN ok dX1_cellOf_81 ?_
            refine q_istore_4 ok rfl dX1_cellOf_82 ?_
            refine q_goto 5 ok dX1_cellOf_84 (by decide) ?_
            have e : cN a b (k + 1) = 4 * cN a b k + 2 := by
              simp only [cN]; rw [decide_eq_true h18, decide_eq_false h35]; rfl
            rw [← e, Nat.mul_comm 2 (2 ^ k)]
            exact ihL _ (by omega) (k + 1) _ _ rfl (by omega)
          · refine q_iconstv (nI 1) ok (by decide) dX1_cellOf_38 ?_
            refine q_goto 43 ok dX1_cellOf_39 (by decide) ?_
            refine q_istore_6 ok rfl dX1_cellOf_43 ?_
            refine q_iconstv (nI 4) ok (by decide) dX1_cellOf_45 ?_
            refine q_iload_n ok rfl dX1_cellOf_46 ?_
            refine q_imulN ok dX1_cellOf_47 ?_
            refine q_iload ok rfl dX1_cellOf_48 ?_
            refine q_if_eq 66 ok dX1_cellOf_50 (by decide) (fun hh => absurd hh (by decide)) (fun _ => ?_)
            refine q_iload ok rfl dX1_cellOf_53 ?_
            refine q_if_eq 62 ok dX1_cellOf_55 (by decide) (fun hh => absurd hh (by decide)) (fun _ => ?_)
            refine q_iconstv (nI 1) ok (by decide) dX1_cellOf_58 ?_
            refine q_goto 76 ok dX1_cellOf_59 (by decide) ?_
            refine q_iaddN ok dX1_cellOf_76 ?_
            refine q_istore_3 ok rfl dX1_cellOf_77 ?_
            refine q_iconstv (nI 2) ok (by decide) dX1_cellOf_78 ?_
            refine q_iload ok rfl dX1_cellOf_79 ?_
            refine q_imulN ok dX1_cellOf_81 ?_
            refine q_istore_4 ok rfl dX1_cellOf_82 ?_
            refine q_goto 5 ok dX1_cellOf_84 (by decide) ?_
            have e : cN a b (k + 1) = 4 * cN a b k + 1 := by
              simp only [cN]; rw [decide_eq_true h18, decide_eq_true h35]; rfl
            rw [← e, Nat.mul_comm 2 (2 ^ k)]
            exact ihL _ (by omega) (k + 1) _ _ rfl (by omega)
  refine q_iconstv (nI 0) ok (by decide) dX1_cellOf_0 ?_
  refine q_istore_3 ok rfl dX1_cellOf_1 ?_
  refine q_iconstv (nI 1) ok (by decide) dX1_cellOf_2 ?_
  refine q_istore_4 ok rfl dX1_cellOf_3 ?_
  exact L _ 0 none none rfl (Nat.zero_le _)
theorem kX1_cellOf {x : q_X} {cc : ByteArray} {fr lo pc : Nat} {lv : List (Option q_V)} {st : List q_V} {c : Nat} {a : Nat} {b : Nat} {ex : Nat} {Wd : List q_E} (hK : ex ≤ 3) (hc : c = 2 ^ ex) (ha : a < 2 ^ 31) (hb : b < 2 ^ 31) (hR : 0 + 1 ≤ fr ∧ 8 + (7 + 11) + 0 ≤ lo) (hst : (st.map (fun v => if q_nol (some v) then 1 else 2)).sum ≤ 8) (ok : q_ok x cc RX1 fr lo) (hd : decode cc pc = .ok (.invokestatic 67, 3)) (kk : q_W x (pc + 3) lv ((.inl (nI (cN a b ex))) :: st) Wd) : q_W x pc lv (.inl (nI b) :: .inl (nI a) :: .inl (nI c) :: st) Wd :=
  q_callS [.inl (nI c), .inl (nI a), .inl (nI b)] ct_X1_cellOf lkX1_X1_cellOf dc_X1_cellOf ok hR hst (Nat.le_of_ble_eq_true rfl) hd ⟨c, a, b, ex, hK, hc, ha, hb, rfl, kk⟩
def sp_X1_cell : List q_V → List q_E → (Option q_V → List q_E → Prop) → Prop := fun as Wd K => ∃ (w : Nat) (h : Nat) (thr : Nat) (sam : Nat → Nat) (blk : Nat → Bool) (nxt : Nat → Bool) (came : Nat → Int32) (part : Nat → Int32) (rst : Int64) (c : Int32) (a : Int32) (b : Int32), as = [.inr (.inr (some 0)), .inl c, .inl a, .inl b] ∧ Wd = (mw w h thr sam blk nxt came part rst) ∧ (∀ ex : Nat, ex ≤ 3 → c = nI (2 ^ ex) → ¬ a < 0 → ¬ b < 0 → K (some (.inl (nI (cN a.toNatClampNeg b.toNatClampNeg ex)))) (mw w h (0) sam blk nxt came part rst)) ∧ (isC c = false → K (some (.inl (nI 0))) (mw w h (1) sam blk nxt came part rst)) ∧ (isC c = true → (a < 0 ∨ b < 0) → K (some (.inl (nI 0))) (mw w h (1) sam blk nxt came part rst))
set_option maxHeartbeats 4000000 in
set_option maxRecDepth 20000 in
theorem ct_X1_cell : q_Ct yX1_cell cX1_cell 4 (some .int) 1 26 sp_X1_cell := by
  refine q_met (by decide) ?_
  intro x as Wd K hs ok fn
  obtain ⟨w, h, thr, sam, blk, nxt, came, part, rst, c, a, b, rfl, rfl, hk0, hk1, hk2⟩ := hs
  show q_W x 0 [some (.inr (.inr (some 0))), some (.inl c), some (.inl a), some (.inl b)] [] (mw w h thr sam blk nxt came part rst)
  refine q_aload_n ok rfl dX1_cell_0 ?_
  refine q_iload_n ok rfl dX1_cell_1 ?_
  refine kX1_isCells (by decide) (Nat.le_of_ble_eq_true rfl) ok dX1_cell_2 ?_
  refine q_ifb_eq 20 ok dX1_cell_5 (by decide) (fun h5 => ?_) (fun h5 => ?_)
  · refine q_iconstv (nI 1) ok (by decide) dX1_cell_20 ?_
    refine mp_thrown ok dX1_cell_21 ?_
    refine q_aload_n ok rfl dX1_cell_24 ?_
    refine mg_thrown ok dX1_cell_25 ?_
    refine q_if_le 35 ok dX1_cell_28 (by decide) (fun hh => absurd hh (by decide)) (fun _ => ?_)
    refine q_iconstv (nI 0) ok (by decide) dX1_cell_31 ?_
    refine q_goto 41 ok dX1_cell_32 (by decide) ?_
    exact q_iret ok fn dX1_cell_41 (hk1 h5)
  · refine q_iload_n ok rfl dX1_cell_8 ?_
    refine q_if_lt 20 ok dX1_cell_9 (by decide) (fun h9 => ?_) (fun h9 => ?_)
    · refine q_iconstv (nI 1) ok (by decide) dX1_cell_20 ?_
      refine mp_thrown ok dX1_cell_21 ?_
      refine q_aload_n ok rfl dX1_cell_24 ?_
      refine mg_thrown ok dX1_cell_25 ?_
      refine q_if_le 35 ok dX1_cell_28 (by decide) (fun hh => absurd hh (by decide)) (fun _ => ?_)
      refine q_iconstv (nI 0) ok (by decide) dX1_cell_31 ?_
      refine q_goto 41 ok dX1_cell_32 (by decide) ?_
      exact q_iret ok fn dX1_cell_41 (hk2 h5 (Or.inl h9))
    · refine q_iload_n ok rfl dX1_cell_12 ?_
      refine q_if_lt 20 ok dX1_cell_13 (by decide) (fun h13 => ?_) (fun h13 => ?_)
      · refine q_iconstv (nI 1) ok (by decide) dX1_cell_20 ?_
        refine mp_thrown ok dX1_cell_21 ?_
        refine q_aload_n ok rfl dX1_cell_24 ?_
        refine mg_thrown ok dX1_cell_25 ?_
        refine q_if_le 35 ok dX1_cell_28 (by decide) (fun hh => absurd hh (by decide)) (fun _ => ?_)
        refine q_iconstv (nI 0) ok (by decide) dX1_cell_31 ?_
        refine q_goto 41 ok dX1_cell_32 (by decide) ?_
        exact q_iret ok fn dX1_cell_41 (hk2 h5 (Or.inr h13))
      · refine q_iconstv (nI 0) ok (by decide) dX1_cell_16 ?_
        refine q_goto 21 ok dX1_cell_17 (by decide) ?_
        refine mp_thrown ok dX1_cell_21 ?_
        refine q_aload_n ok rfl dX1_cell_24 ?_
        refine mg_thrown ok dX1_cell_25 ?_
        refine q_if_le 35 ok dX1_cell_28 (by decide) (fun _ => ?_) (fun hh => absurd (by decide) hh)
        obtain ⟨ex, hex, rfl⟩ := isC_o h5
        obtain ⟨a2, ha2, rfl⟩ := nI_of h9
        obtain ⟨b2, hb2, rfl⟩ := nI_of h13
        refine q_iload_n ok rfl dX1_cell_35 ?_
        refine q_iload_n ok rfl dX1_cell_36 ?_
        refine q_iload_n ok rfl dX1_cell_37 ?_
        refine kX1_cellOf (ex := ex) hex rfl ha2 hb2 (by decide) (Nat.le_of_ble_eq_true rfl) ok dX1_cell_38 ?_
        exact q_iret ok fn dX1_cell_41 (by have z := hk0 ex hex rfl h9 h13; rw [nI_clamp ha2, nI_clamp hb2] at z; exact z)
def sp_X1_ordered : List q_V → List q_E → (Option q_V → List q_E → Prop) → Prop := fun as Wd K => ∃ (w : Nat) (h : Nat) (thr : Nat) (sam : Nat → Nat) (blk : Nat → Bool) (nxt : Nat → Bool) (came : Nat → Int32) (part : Nat → Int32) (rst : Int64) (c : Int32), (q_g w h) ∧ (∀ k, k < w * h → sam k < 256) ∧ as = [.inr (.inr (some 0)), .inl c] ∧ Wd = (mw w h thr sam blk nxt came part rst) ∧ (∀ ex : Nat, ex ≤ 3 → c = nI (2 ^ ex) → K (some (.inl (nI (cntB (fun k => if k < w * h then oF sam w ex k else blk k) (w * h))))) (mw w h (0) sam (fun k => if k < w * h then oF sam w ex k else blk k) nxt came part rst)) ∧ (isC c = false → K (some (.inl (nI 0))) (mw w h (1) sam blk nxt came part rst))
set_option maxHeartbeats 4000000 in
set_option maxRecDepth 20000 in
theorem ct_X1_ordered : q_Ct yX1_ordered cX1_ordered 4 (some .int) 2 42 sp_X1_ordered := by
  refine q_met (by decide) ?_
  intro x as Wd K hs ok fn
  obtain ⟨w, h, thr, sam, blk, nxt, came, part, rst, c, g, hs, rfl, rfl, hk0, hk1⟩ := hs
  show q_W x 0 [some (.inr (.inr (some 0))), some (.inl c), none, none] [] (mw w h thr sam blk nxt came part rst)
  refine q_aload_n ok rfl dX1_ordered_0 ?_
  refine q_iload_n ok rfl dX1_ordered_1 ?_
  refine kX1_isCells (by decide) (Nat.le_of_ble_eq_true rfl) ok dX1_ordered_2 ?_
  refine q_ifb_eq 12 ok dX1_ordered_5 (by decide) (fun h5 => ?_) (fun h5 => ?_)
  · refine q_iconstv (nI 1) ok (by decide) dX1_ordered_12 ?_
    refine mp_thrown ok dX1_ordered_13 ?_
    refine q_aload_n ok rfl dX1_ordered_16 ?_
    refine mg_thrown ok dX1_ordered_17 ?_
    refine q_if_le 25 ok dX1_ordered_20 (by decide) (fun hh => absurd hh (by decide)) (fun _ => ?_)
    refine q_iconstv (nI 0) ok (by decide) dX1_ordered_23 ?_
    exact q_iret ok fn dX1_ordered_24 (hk1 h5)
  · refine q_iconstv (nI 0) ok (by decide) dX1_ordered_8 ?_
    refine q_goto 13 ok dX1_ordered_9 (by decide) ?_
    refine mp_thrown ok dX1_ordered_13 ?_
    refine q_aload_n ok rfl dX1_ordered_16 ?_
    refine mg_thrown ok dX1_ordered_17 ?_
    refine q_if_le 25 ok dX1_ordered_20 (by decide) (fun _ => ?_) (fun hh => absurd (by decide) hh)
    refine q_iconstv (nI 0) ok (by decide) dX1_ordered_25 ?_
    refine q_istore_2 ok rfl dX1_ordered_26 ?_
    obtain ⟨ex, hex, rfl⟩ := isC_o h5
    have hp2 := p2le hex
    have hn := q_gn g
    have hw := g.2.1
    have hw1 := g.1
    have hh := g.2.2.2
    have hk0 := hk0 ex hex rfl
    have L : ∀ (dL i : Nat) (o3 : Option q_V), dL = w * h - i → i ≤ w * h → q_W x 27 [some (.inr (.inr (some 0))), some (.inl (nI (2 ^ ex))), some (.inl (nI (i))), o3] [] (mw w h (0) sam (fun k => if k < i then oF sam w ex k else blk k) nxt came part rst) := by
      intro dL
      induction dL using Nat.strongRecOn with
      | _ dL ihL =>
        intro i o3 hdL hiL 
        refine q_iload_n ok rfl dX1_ordered_27 ?_
        refine q_aload_n ok rfl dX1_ordered_28 ?_
        refine kX1_all (by decide) (Nat.le_of_ble_eq_true rfl) ok dX1_ordered_29 ?_
        refine q_icmpN_ge 93 (by omega) (by omega) ok dX1_ordered_32 (by decide) (fun h32 => ?_) (fun h32 => ?_)
        · rw [show i = w * h by omega]
          refine q_aload_n ok rfl dX1_ordered_93 ?_
          refine kX1_blacks g (by decide) (Nat.le_of_ble_eq_true rfl) ok dX1_ordered_94 ?_
          exact q_iret ok fn dX1_ordered_97 hk0
        · have hil : i < w * h := by omega
          have hsl := hs _ hil
          have hmi := Nat.mod_lt i (show w > 0 by omega)
          have hdi : i / w < h := Nat.div_lt_of_lt_mul hil
          have hcl := Nat.lt_of_lt_of_le (cN_lt (x := i % w) (y := i / w) (k := ex)) (Nat.pow_le_pow_right (show 4 > 0 by decide) hex)
          have hm1 : 2 * 2 ^ ex * 2 ^ ex ≤ 2 * 8 * 8 := Nat.mul_le_mul (Nat.mul_le_mul (Nat.le_refl 2) hp2.2) hp2.2
          have hm2 : 2 * 2 ^ ex * 2 ^ ex * sam i ≤ 2 * 8 * 8 * 255 := Nat.mul_le_mul hm1 (by omega)
          refine q_iload_n ok rfl dX1_ordered_35 ?_
          refine q_iload_n ok rfl dX1_ordered_36 ?_
          refine q_aload_n ok rfl dX1_ordered_37 ?_
          refine mg_width ok dX1_ordered_38 ?_
          refine q_iremN (by omega) (by omega) (by omega) ok dX1_ordered_41 ?_
          refine q_iload_n ok rfl dX1_ordered_42 ?_
          refine q_aload_n ok rfl dX1_ordered_43 ?_
          refine mg_width ok dX1_ordered_44 ?_
          refine q_idivN (by omega) (by omega) (by omega) ok dX1_ordered_47 ?_
          refine kX1_cellOf (ex := ex) hex rfl (by omega) (by omega) (by decide) (Nat.le_of_ble_eq_true rfl) ok dX1_ordered_48 ?_
          refine q_istore_3 ok rfl dX1_ordered_51 ?_
          refine q_aload_n ok rfl dX1_ordered_52 ?_
          refine mg_black ok dX1_ordered_53 ?_
          refine q_iload_n ok rfl dX1_ordered_56 ?_
          refine q_iconstv (nI 2) ok (by decide) dX1_ordered_57 ?_
          refine q_iload_n ok rfl dX1_ordered_58 ?_
          refine q_imulN ok dX1_ordered_59 ?_
          refine q_iload_n ok rfl dX1_ordered_60 ?_
          refine q_imulN ok dX1_ordered_61 ?_
          refine q_aload_n ok rfl dX1_ordered_62 ?_
          refine mg_samples ok dX1_ordered_63 ?_
          refine q_iload_n ok rfl dX1_ordered_66 ?_
          refine ml_sam g (by omega) ok dX1_ordered_67 ?_
          refine q_imulN ok dX1_ordered_68 ?_
          refine q_sipushv (nI 256) ok (by decide) dX1_ordered_69 ?_
          refine q_iconstv (nI 2) ok (by decide) dX1_ordered_72 ?_
          refine q_iload_n ok rfl dX1_ordered_73 ?_
          refine q_imulN ok dX1_ordered_74 ?_
          refine q_iconstv (nI 1) ok (by decide) dX1_ordered_75 ?_
          refine q_iaddN ok dX1_ordered_76 ?_
          refine q_imulN ok dX1_ordered_77 ?_
          refine q_icmpN_ge 85 (by omega) (by omega) ok dX1_ordered_78 (by decide) (fun h78 => ?_) (fun h78 => ?_)
          · refine q_iconstv (nI 0) ok (by decide) dX1_ordered_85 ?_
            refine ms_blk (v := false) g (by omega) ok dX1_ordered_86 ?_
            refine q_iincN_2 1 ok rfl (by decide) dX1_ordered_87 ?_
            refine q_goto 27 ok dX1_ordered_90 (by decide) ?_
            rw [show false = oF sam w ex i from (decide_eq_false (by omega) : decide _ = _).symm, pu_step (F := oF sam w ex)]
            exact ihL _ (by omega) (i + 1) _ rfl (by omega)
          · refine q_iconstv (nI 1) ok (by decide) dX1_ordered_81 ?_
            refine q_goto 86 ok dX1_ordered_82 (by decide) ?_
            refine ms_blk (v := true) g (by omega) ok dX1_ordered_86 ?_
            refine q_iincN_2 1 ok rfl (by decide) dX1_ordered_87 ?_
            refine q_goto 27 ok dX1_ordered_90 (by decide) ?_
            rw [show true = oF sam w ex i from (decide_eq_true (by omega) : decide _ = _).symm, pu_step (F := oF sam w ex)]
            exact ihL _ (by omega) (i + 1) _ rfl (by omega)
    have := L _ 0 none rfl (Nat.zero_le _)
    rw [pu_0 (F := oF sam w ex)] at this
    exact this
def sp_X1_isBlackAt : List q_V → List q_E → (Option q_V → List q_E → Prop) → Prop := fun as Wd K => ∃ (w : Nat) (h : Nat) (thr : Nat) (sam : Nat → Nat) (blk : Nat → Bool) (nxt : Nat → Bool) (came : Nat → Int32) (part : Nat → Int32) (rst : Int64) (a : Int32) (b : Int32), (q_g w h) ∧ as = [.inr (.inr (some 0)), .inl a, .inl b] ∧ Wd = (mw w h thr sam blk nxt came part rst) ∧ (K (some (.inl (bI (bB w h blk a b)))) (mw w h thr sam blk nxt came part rst))
set_option maxHeartbeats 4000000 in
set_option maxRecDepth 20000 in
theorem ct_X1_isBlackAt : q_Ct yX1_isBlackAt cX1_isBlackAt 3 (some .boolean) 1 22 sp_X1_isBlackAt := by
  refine q_met (by decide) ?_
  intro x as Wd K hs ok fn
  obtain ⟨w, h, thr, sam, blk, nxt, came, part, rst, a, b, g, rfl, rfl, hk⟩ := hs
  show q_W x 0 [some (.inr (.inr (some 0))), some (.inl a), some (.inl b)] [] (mw w h thr sam blk nxt came part rst)
  refine q_aload_n ok rfl dX1_isBlackAt_0 ?_
  refine q_iload_n ok rfl dX1_isBlackAt_1 ?_
  refine q_iload_n ok rfl dX1_isBlackAt_2 ?_
  refine kX1_isIn (by decide) (Nat.le_of_ble_eq_true rfl) ok dX1_isBlackAt_3 ?_
  refine q_ifb_eq 29 ok dX1_isBlackAt_6 (by decide) (fun h6 => ?_) (fun h6 => ?_)
  · refine q_iconstv (nI 0) ok (by decide) dX1_isBlackAt_29 ?_
    exact q_zret ok fn dX1_isBlackAt_30 (by decide) (by have ee : bB w h blk a b = false := (by unfold bB; rw [h6]; rfl); rw [ee] at hk; exact hk)
  · obtain ⟨i, j, hi, hj, rfl, rfl⟩ := inI_o g h6
    have hlt := pm_lt g hi hj
    have hw := g.2.1
    have hh := g.2.2.2
    have ep : pI w (nI i) (nI j) = w * j + i := by rw [pI_n (by omega) (by omega), Nat.mul_comm]
    refine q_aload_n ok rfl dX1_isBlackAt_9 ?_
    refine mg_black ok dX1_isBlackAt_10 ?_
    refine q_aload_n ok rfl dX1_isBlackAt_13 ?_
    refine mg_width ok dX1_isBlackAt_14 ?_
    refine q_iload_n ok rfl dX1_isBlackAt_17 ?_
    refine q_imulN ok dX1_isBlackAt_18 ?_
    refine q_iload_n ok rfl dX1_isBlackAt_19 ?_
    refine q_iaddN ok dX1_isBlackAt_20 ?_
    refine ml_blk g hlt ok dX1_isBlackAt_21 ?_
    refine q_ifb_eq 29 ok dX1_isBlackAt_22 (by decide) (fun h22 => ?_) (fun h22 => ?_)
    · refine q_iconstv (nI 0) ok (by decide) dX1_isBlackAt_29 ?_
      exact q_zret ok fn dX1_isBlackAt_30 (by decide) (by have ee : bB w h blk (nI i) (nI j) = false := (by unfold bB; rw [h6, ep, h22]; rfl); rw [ee] at hk; exact hk)
    · refine q_iconstv (nI 1) ok (by decide) dX1_isBlackAt_25 ?_
      refine q_goto 30 ok dX1_isBlackAt_26 (by decide) ?_
      exact q_zret ok fn dX1_isBlackAt_30 (by decide) (by have ee : bB w h blk (nI i) (nI j) = true := (by unfold bB; rw [h6, ep, h22]; rfl); rw [ee] at hk; exact hk)
theorem kX1_isBlackAt {x : q_X} {cc : ByteArray} {fr lo pc : Nat} {lv : List (Option q_V)} {st : List q_V} {w : Nat} {h : Nat} {thr : Nat} {sam : Nat → Nat} {blk : Nat → Bool} {nxt : Nat → Bool} {came : Nat → Int32} {part : Nat → Int32} {rst : Int64} {a : Int32} {b : Int32} (g : q_g w h) (hR : 1 + 1 ≤ fr ∧ 8 + (3 + 11) + 22 ≤ lo) (hst : (st.map (fun v => if q_nol (some v) then 1 else 2)).sum ≤ 8) (ok : q_ok x cc RX1 fr lo) (hd : decode cc pc = .ok (.invokevirtual 86, 3)) (kk : q_W x (pc + 3) lv ((.inl (bI (bB w h blk a b))) :: st) (mw w h thr sam blk nxt came part rst)) : q_W x pc lv (.inl b :: .inl a :: .inr (.inr (some 0)) :: st) (mw w h thr sam blk nxt came part rst) :=
  q_callV [.inl a, .inl b] ct_X1_isBlackAt lkX1_X1_isBlackAt dc_X1_isBlackAt rfl ok rfl hR hst (Nat.le_of_ble_eq_true rfl) hd ⟨w, h, thr, sam, blk, nxt, came, part, rst, a, b, g, rfl, rfl, kk⟩
def sp_X1_edges : List q_V → List q_E → (Option q_V → List q_E → Prop) → Prop := fun as Wd K => ∃ (w : Nat) (h : Nat) (thr : Nat) (sam : Nat → Nat) (blk : Nat → Bool) (nxt : Nat → Bool) (came : Nat → Int32) (part : Nat → Int32) (rst : Int64), (q_g w h) ∧ as = [.inr (.inr (some 0))] ∧ Wd = (mw w h thr sam blk nxt came part rst) ∧ (K (some (.inl (nI (cntB (fun k => if k < w * h then eF w h blk k else blk k) (w * h))))) (mw w h (0) sam (fun k => if k < w * h then eF w h blk k else blk k) (fun k => if k < w * h then eF w h blk k else nxt k) came part rst))
set_option maxHeartbeats 4000000 in
set_option maxRecDepth 20000 in
theorem ct_X1_edges : q_Ct yX1_edges cX1_edges 5 (some .int) 2 44 sp_X1_edges := by
  refine q_met (by decide) ?_
  intro x as Wd K hs ok fn
  obtain ⟨w, h, thr, sam, blk, nxt, came, part, rst, g, rfl, rfl, hk⟩ := hs
  show q_W x 0 [some (.inr (.inr (some 0))), none, none, none, none] [] (mw w h thr sam blk nxt came part rst)
  have hn := q_gn g
  have hw := g.2.1
  have hw1 := g.1
  have hh := g.2.2.2
  have L3 : ∀ (dL3 i : Nat) (o2 o3 o4 : Option q_V), dL3 = w * h - i → i ≤ w * h → q_W x 113 [some (.inr (.inr (some 0))), some (.inl (nI (i))), o2, o3, o4] [] (mw w h (0) sam (fun k => if k < i then eF w h blk k else blk k) (fun k => if k < w * h then eF w h blk k else nxt k) came part rst) := by
    intro dL3
    induction dL3 using Nat.strongRecOn with
    | _ dL3 ihL3 =>
      intro i o2 o3 o4 hdL3 hiL3 
      refine q_iload_n ok rfl dX1_edges_113 ?_
      refine q_aload_n ok rfl dX1_edges_114 ?_
      refine kX1_all (by decide) (Nat.le_of_ble_eq_true rfl) ok dX1_edges_115 ?_
      refine q_icmpN_ge 139 (by omega) (by omega) ok dX1_edges_118 (by decide) (fun h118 => ?_) (fun h118 => ?_)
      · refine q_aload_n ok rfl dX1_edges_139 ?_
        refine kX1_blacks g (by decide) (Nat.le_of_ble_eq_true rfl) ok dX1_edges_140 ?_
        exact q_iret ok fn dX1_edges_143 (by rw [show i = w * h by omega]; exact hk)
      · refine q_aload_n ok rfl dX1_edges_121 ?_
        refine mg_black ok dX1_edges_122 ?_
        refine q_iload_n ok rfl dX1_edges_125 ?_
        refine q_aload_n ok rfl dX1_edges_126 ?_
        refine mg_next ok dX1_edges_127 ?_
        refine q_iload_n ok rfl dX1_edges_130 ?_
        refine ml_nxt g (by omega) ok dX1_edges_131 ?_
        rw [if_pos (show i < w * h by omega)]
        refine ms_blk g (by omega) ok dX1_edges_132 ?_
        refine q_iincN_1 1 ok rfl (by decide) dX1_edges_133 ?_
        refine q_goto 113 ok dX1_edges_136 (by decide) ?_
        rw [pu_step (F := eF w h blk)]
        exact ihL3 _ (by omega) (i + 1) _ _ _ rfl (by omega)
  have L : ∀ (dL i : Nat) (o2 o3 o4 : Option q_V), dL = w * h - i → i ≤ w * h → q_W x 7 [some (.inr (.inr (some 0))), some (.inl (nI (i))), o2, o3, o4] [] (mw w h (0) sam blk (fun k => if k < i then eF w h blk k else nxt k) came part rst) := by
    intro dL
    induction dL using Nat.strongRecOn with
    | _ dL ihL =>
      intro i o2 o3 o4 hdL hiL 
      refine q_iload_n ok rfl dX1_edges_7 ?_
      refine q_aload_n ok rfl dX1_edges_8 ?_
      refine kX1_all (by decide) (Nat.le_of_ble_eq_true rfl) ok dX1_edges_9 ?_
      refine q_icmpN_ge 111 (by omega) (by omega) ok dX1_edges_12 (by decide) (fun h12 => ?_) (fun h12 => ?_)
      · refine q_iconstv (nI 0) ok (by decide) dX1_edges_111 ?_
        refine q_istore_1 ok rfl dX1_edges_112 ?_
        rw [show i = w * h by omega]
        have := L3 _ 0 o2 o3 o4 rfl (Nat.zero_le _)
        rw [pu_0 (F := eF w h blk)] at this
        exact this
      · have hil : i < w * h := by omega
        have hmi := Nat.mod_lt i (show w > 0 by omega)
        have hdi : i / w < h := Nat.div_lt_of_lt_mul hil
        have hbi : bB w h blk (nI (i % w)) (nI (i / w)) = blk i := by unfold bB; rw [inI_n g hmi hdi, pI_n (by omega) (by omega), ix_self]; rfl
        refine q_iload_n ok rfl dX1_edges_15 ?_
        refine q_aload_n ok rfl dX1_edges_16 ?_
        refine mg_width ok dX1_edges_17 ?_
        refine q_iremN (by omega) (by omega) (by omega) ok dX1_edges_20 ?_
        refine q_istore_2 ok rfl dX1_edges_21 ?_
        refine q_iload_n ok rfl dX1_edges_22 ?_
        refine q_aload_n ok rfl dX1_edges_23 ?_
        refine mg_width ok dX1_edges_24 ?_
        refine q_idivN (by omega) (by omega) (by omega) ok dX1_edges_27 ?_
        refine q_istore_3 ok rfl dX1_edges_28 ?_
        refine q_aload_n ok rfl dX1_edges_29 ?_
        refine q_iload_n ok rfl dX1_edges_30 ?_
        refine q_iconstv (nI 1) ok (by decide) dX1_edges_31 ?_
        refine q_isub ok dX1_edges_32 ?_
        refine q_iload_n ok rfl dX1_edges_33 ?_
        refine kX1_isBlackAt g (by decide) (Nat.le_of_ble_eq_true rfl) ok dX1_edges_34 ?_
        refine q_ifb_eq 77 ok dX1_edges_37 (by decide) (fun h37 => ?_) (fun h37 => ?_)
        · refine q_iconstv (nI 0) ok (by decide) dX1_edges_77 ?_
          refine q_istore_4 ok rfl dX1_edges_78 ?_
          refine q_aload_n ok rfl dX1_edges_80 ?_
          refine mg_next ok dX1_edges_81 ?_
          refine q_iload_n ok rfl dX1_edges_84 ?_
          refine q_aload_n ok rfl dX1_edges_85 ?_
          refine mg_black ok dX1_edges_86 ?_
          refine q_iload_n ok rfl dX1_edges_89 ?_
          refine ml_blk g (by omega) ok dX1_edges_90 ?_
          refine q_ifb_eq 103 ok dX1_edges_91 (by decide) (fun h91 => ?_) (fun h91 => ?_)
          · refine q_iconstv (nI 0) ok (by decide) dX1_edges_103 ?_
            refine ms_nxt (v := false) g (by omega) ok dX1_edges_104 ?_
            refine q_iincN_1 1 ok rfl (by decide) dX1_edges_105 ?_
            refine q_goto 7 ok dX1_edges_108 (by decide) ?_
            have e : eF w h blk i = false := by
              unfold eF isE
              rw [hbi, h91]
              rfl
            rw [show false = eF w h blk i from e.symm, pu_step (F := eF w h blk)]
            exact ihL _ (by omega) (i + 1) _ _ _ rfl (by omega)
          · refine q_iload ok rfl dX1_edges_94 ?_
            refine q_if_ne 103 ok dX1_edges_96 (by decide) (fun hh => absurd (by decide) hh) (fun _ => ?_)
            refine q_iconstv (nI 1) ok (by decide) dX1_edges_99 ?_
            refine q_goto 104 ok dX1_edges_100 (by decide) ?_
            refine ms_nxt (v := true) g (by omega) ok dX1_edges_104 ?_
            refine q_iincN_1 1 ok rfl (by decide) dX1_edges_105 ?_
            refine q_goto 7 ok dX1_edges_108 (by decide) ?_
            have e : eF w h blk i = true := by
              unfold eF isE
              rw [hbi, h91]
              rw [h37]; rfl
            rw [show true = eF w h blk i from e.symm, pu_step (F := eF w h blk)]
            exact ihL _ (by omega) (i + 1) _ _ _ rfl (by omega)
        · refine q_aload_n ok rfl dX1_edges_40 ?_
          refine q_iload_n ok rfl dX1_edges_41 ?_
          refine q_iconstv (nI 1) ok (by decide) dX1_edges_42 ?_
          refine q_iaddN ok dX1_edges_43 ?_
          refine q_iload_n ok rfl dX1_edges_44 ?_
          refine kX1_isBlackAt g (by decide) (Nat.le_of_ble_eq_true rfl) ok dX1_edges_45 ?_
          refine q_ifb_eq 77 ok dX1_edges_48 (by decide) (fun h48 => ?_) (fun h48 => ?_)
          · refine q_iconstv (nI 0) ok (by decide) dX1_edges_77 ?_
            refine q_istore_4 ok rfl dX1_edges_78 ?_
            refine q_aload_n ok rfl dX1_edges_80 ?_
            refine mg_next ok dX1_edges_81 ?_
            refine q_iload_n ok rfl dX1_edges_84 ?_
            refine q_aload_n ok rfl dX1_edges_85 ?_
            refine mg_black ok dX1_edges_86 ?_
            refine q_iload_n ok rfl dX1_edges_89 ?_
            refine ml_blk g (by omega) ok dX1_edges_90 ?_
            refine q_ifb_eq 103 ok dX1_edges_91 (by decide) (fun h91 => ?_) (fun h91 => ?_)
            · refine q_iconstv (nI 0) ok (by decide) dX1_edges_103 ?_
              refine ms_nxt (v := false) g (by omega) ok dX1_edges_104 ?_
              refine q_iincN_1 1 ok rfl (by decide) dX1_edges_105 ?_
              refine q_goto 7 ok dX1_edges_108 (by decide) ?_
              have e : eF w h blk i = false := by
                unfold eF isE
                rw [hbi, h91]
                rfl
              rw [show false = eF w h blk i from e.symm, pu_step (F := eF w h blk)]
              exact ihL _ (by omega) (i + 1) _ _ _ rfl (by omega)
            · refine q_iload ok rfl dX1_edges_94 ?_
              refine q_if_ne 103 ok dX1_edges_96 (by decide) (fun hh => absurd (by decide) hh) (fun _ => ?_)
              refine q_iconstv (nI 1) ok (by decide) dX1_edges_99 ?_
              refine q_goto 104 ok dX1_edges_100 (by decide) ?_
              refine ms_nxt (v := true) g (by omega) ok dX1_edges_104 ?_
              refine q_iincN_1 1 ok rfl (by decide) dX1_edges_105 ?_
              refine q_goto 7 ok dX1_edges_108 (by decide) ?_
              have e : eF w h blk i = true := by
                unfold eF isE
                rw [hbi, h91]
                rw [h37, h48]; rfl
              rw [show true = eF w h blk i from e.symm, pu_step (F := eF w h blk)]
              exact ihL _ (by omega) (i + 1) _ _ _ rfl (by omega)
          · refine q_aload_n ok rfl dX1_edges_51 ?_
            refine q_iload_n ok rfl dX1_edges_52 ?_
            refine q_iload_n ok rfl dX1_edges_53 ?_
            refine q_iconstv (nI 1) ok (by decide) dX1_edges_54 ?_
            refine q_isub ok dX1_edges_55 ?_
            refine kX1_isBlackAt g (by decide) (Nat.le_of_ble_eq_true rfl) ok dX1_edges_56 ?_
            refine q_ifb_eq 77 ok dX1_edges_59 (by decide) (fun h59 => ?_) (fun h59 => ?_)
            · refine q_iconstv (nI 0) ok (by decide) dX1_edges_77 ?_
              refine q_istore_4 ok rfl dX1_edges_78 ?_
              refine q_aload_n ok rfl dX1_edges_80 ?_
              refine mg_next ok dX1_edges_81 ?_
              refine q_iload_n ok rfl dX1_edges_84 ?_
              refine q_aload_n ok rfl dX1_edges_85 ?_
              refine mg_black ok dX1_edges_86 ?_
              refine q_iload_n ok rfl dX1_edges_89 ?_
              refine ml_blk g (by omega) ok dX1_edges_90 ?_
              refine q_ifb_eq 103 ok dX1_edges_91 (by decide) (fun h91 => ?_) (fun h91 => ?_)
              · refine q_iconstv (nI 0) ok (by decide) dX1_edges_103 ?_
                refine ms_nxt (v := false) g (by omega) ok dX1_edges_104 ?_
                refine q_iincN_1 1 ok rfl (by decide) dX1_edges_105 ?_
                refine q_goto 7 ok dX1_edges_108 (by decide) ?_
                have e : eF w h blk i = false := by
                  unfold eF isE
                  rw [hbi, h91]
                  rfl
                rw [show false = eF w h blk i from e.symm, pu_step (F := eF w h blk)]
                exact ihL _ (by omega) (i + 1) _ _ _ rfl (by omega)
              · refine q_iload ok rfl dX1_edges_94 ?_
                refine q_if_ne 103 ok dX1_edges_96 (by decide) (fun hh => absurd (by decide) hh) (fun _ => ?_)
                refine q_iconstv (nI 1) ok (by decide) dX1_edges_99 ?_
                refine q_goto 104 ok dX1_edges_100 (by decide) ?_
                refine ms_nxt (v := true) g (by omega) ok dX1_edges_104 ?_
                refine q_iincN_1 1 ok rfl (by decide) dX1_edges_105 ?_
                refine q_goto 7 ok dX1_edges_108 (by decide) ?_
                have e : eF w h blk i = true := by
                  unfold eF isE
                  rw [hbi, h91]
                  rw [h37, h48, h59]; rfl
                rw [show true = eF w h blk i from e.symm, pu_step (F := eF w h blk)]
                exact ihL _ (by omega) (i + 1) _ _ _ rfl (by omega)
            · refine q_aload_n ok rfl dX1_edges_62 ?_
              refine q_iload_n ok rfl dX1_edges_63 ?_
              refine q_iload_n ok rfl dX1_edges_64 ?_
              refine q_iconstv (nI 1) ok (by decide) dX1_edges_65 ?_
              refine q_iaddN ok dX1_edges_66 ?_
              refine kX1_isBlackAt g (by decide) (Nat.le_of_ble_eq_true rfl) ok dX1_edges_67 ?_
              refine q_ifb_eq 77 ok dX1_edges_70 (by decide) (fun h70 => ?_) (fun h70 => ?_)
              · refine q_iconstv (nI 0) ok (by decide) dX1_edges_77 ?_
                refine q_istore_4 ok rfl dX1_edges_78 ?_
                refine q_aload_n ok rfl dX1_edges_80 ?_
                refine mg_next ok dX1_edges_81 ?_
                refine q_iload_n ok rfl dX1_edges_84 ?_
                refine q_aload_n ok rfl dX1_edges_85 ?_
                refine mg_black ok dX1_edges_86 ?_
                refine q_iload_n ok rfl dX1_edges_89 ?_
                refine ml_blk g (by omega) ok dX1_edges_90 ?_
                refine q_ifb_eq 103 ok dX1_edges_91 (by decide) (fun h91 => ?_) (fun h91 => ?_)
                · refine q_iconstv (nI 0) ok (by decide) dX1_edges_103 ?_
                  refine ms_nxt (v := false) g (by omega) ok dX1_edges_104 ?_
                  refine q_iincN_1 1 ok rfl (by decide) dX1_edges_105 ?_
                  refine q_goto 7 ok dX1_edges_108 (by decide) ?_
                  have e : eF w h blk i = false := by
                    unfold eF isE
                    rw [hbi, h91]
                    rfl
                  rw [show false = eF w h blk i from e.symm, pu_step (F := eF w h blk)]
                  exact ihL _ (by omega) (i + 1) _ _ _ rfl (by omega)
                · refine q_iload ok rfl dX1_edges_94 ?_
                  refine q_if_ne 103 ok dX1_edges_96 (by decide) (fun hh => absurd (by decide) hh) (fun _ => ?_)
                  refine q_iconstv (nI 1) ok (by decide) dX1_edges_99 ?_
                  refine q_goto 104 ok dX1_edges_100 (by decide) ?_
                  refine ms_nxt (v := true) g (by omega) ok dX1_edges_104 ?_
                  refine q_iincN_1 1 ok rfl (by decide) dX1_edges_105 ?_
                  refine q_goto 7 ok dX1_edges_108 (by decide) ?_
                  have e : eF w h blk i = true := by
                    unfold eF isE
                    rw [hbi, h91]
                    rw [h37, h48, h59, h70]; rfl
                  rw [show true = eF w h blk i from e.symm, pu_step (F := eF w h blk)]
                  exact ihL _ (by omega) (i + 1) _ _ _ rfl (by omega)
              · refine q_iconstv (nI 1) ok (by decide) dX1_edges_73 ?_
                refine q_goto 78 ok dX1_edges_74 (by decide) ?_
                refine q_istore_4 ok rfl dX1_edges_78 ?_
                refine q_aload_n ok rfl dX1_edges_80 ?_
                refine mg_next ok dX1_edges_81 ?_
                refine q_iload_n ok rfl dX1_edges_84 ?_
                refine q_aload_n ok rfl dX1_edges_85 ?_
                refine mg_black ok dX1_edges_86 ?_
                refine q_iload_n ok rfl dX1_edges_89 ?_
                refine ml_blk g (by omega) ok dX1_edges_90 ?_
                refine q_ifb_eq 103 ok dX1_edges_91 (by decide) (fun h91 => ?_) (fun h91 => ?_)
                · refine q_iconstv (nI 0) ok (by decide) dX1_edges_103 ?_
                  refine ms_nxt (v := false) g (by omega) ok dX1_edges_104 ?_
                  refine q_iincN_1 1 ok rfl (by decide) dX1_edges_105 ?_
                  refine q_goto 7 ok dX1_edges_108 (by decide) ?_
                  have e : eF w h blk i = false := by
                    unfold eF isE
                    rw [hbi, h91]
                    rfl
                  rw [show false = eF w h blk i from e.symm, pu_step (F := eF w h blk)]
                  exact ihL _ (by omega) (i + 1) _ _ _ rfl (by omega)
                · refine q_iload ok rfl dX1_edges_94 ?_
                  refine q_if_ne 103 ok dX1_edges_96 (by decide) (fun _ => ?_) (fun hh => absurd hh (by decide))
                  refine q_iconstv (nI 0) ok (by decide) dX1_edges_103 ?_
                  refine ms_nxt (v := false) g (by omega) ok dX1_edges_104 ?_
                  refine q_iincN_1 1 ok rfl (by decide) dX1_edges_105 ?_
                  refine q_goto 7 ok dX1_edges_108 (by decide) ?_
                  have e : eF w h blk i = false := by
                    unfold eF isE
                    rw [hbi, h91]
                    rw [h37, h48, h59, h70]; rfl
                  rw [show false = eF w h blk i from e.symm, pu_step (F := eF w h blk)]
                  exact ihL _ (by omega) (i + 1) _ _ _ rfl (by omega)
  refine q_aload_n ok rfl dX1_edges_0 ?_
  refine q_iconstv (nI 0) ok (by decide) dX1_edges_1 ?_
  refine mp_thrown ok dX1_edges_2 ?_
  refine q_iconstv (nI 0) ok (by decide) dX1_edges_5 ?_
  refine q_istore_1 ok rfl dX1_edges_6 ?_
  have := L _ 0 none none none rfl (Nat.zero_le _)
  rw [pu_0 (F := eF w h blk)] at this
  exact this
def sp_X1_invert : List q_V → List q_E → (Option q_V → List q_E → Prop) → Prop := fun as Wd K => ∃ (w : Nat) (h : Nat) (thr : Nat) (sam : Nat → Nat) (blk : Nat → Bool) (nxt : Nat → Bool) (came : Nat → Int32) (part : Nat → Int32) (rst : Int64), (q_g w h) ∧ as = [.inr (.inr (some 0))] ∧ Wd = (mw w h thr sam blk nxt came part rst) ∧ (K (some (.inl (nI (cntB (fun k => if k < w * h then !blk k else blk k) (w * h))))) (mw w h (0) sam (fun k => if k < w * h then !blk k else blk k) nxt came part rst))
set_option maxHeartbeats 4000000 in
set_option maxRecDepth 20000 in
theorem ct_X1_invert : q_Ct yX1_invert cX1_invert 2 (some .int) 2 42 sp_X1_invert := by
  refine q_met (by decide) ?_
  intro x as Wd K hs ok fn
  obtain ⟨w, h, thr, sam, blk, nxt, came, part, rst, g, rfl, rfl, hk⟩ := hs
  show q_W x 0 [some (.inr (.inr (some 0))), none] [] (mw w h thr sam blk nxt came part rst)
  have hn := q_gn g
  have L : ∀ (dL i : Nat) , dL = w * h - i → i ≤ w * h → q_W x 7 [some (.inr (.inr (some 0))), some (.inl (nI (i)))] [] (mw w h (0) sam (fun k => if k < i then !blk k else blk k) nxt came part rst) := by
    intro dL
    induction dL using Nat.strongRecOn with
    | _ dL ihL =>
      intro i  hdL hiL 
      refine q_iload_n ok rfl dX1_invert_7 ?_
      refine q_aload_n ok rfl dX1_invert_8 ?_
      refine kX1_all (by decide) (Nat.le_of_ble_eq_true rfl) ok dX1_invert_9 ?_
      refine q_icmpN_ge 41 (by omega) (by omega) ok dX1_invert_12 (by decide) (fun h12 => ?_) (fun h12 => ?_)
      · refine q_aload_n ok rfl dX1_invert_41 ?_
        refine kX1_blacks g (by decide) (Nat.le_of_ble_eq_true rfl) ok dX1_invert_42 ?_
        exact q_iret ok fn dX1_invert_45 (by rw [show i = w * h by omega]; exact hk)
      · refine q_aload_n ok rfl dX1_invert_15 ?_
        refine mg_black ok dX1_invert_16 ?_
        refine q_iload_n ok rfl dX1_invert_19 ?_
        refine q_aload_n ok rfl dX1_invert_20 ?_
        refine mg_black ok dX1_invert_21 ?_
        refine q_iload_n ok rfl dX1_invert_24 ?_
        refine ml_blk g (by omega) ok dX1_invert_25 ?_
        rw [if_neg (Nat.lt_irrefl i)]
        refine q_ifb_ne 33 ok dX1_invert_26 (by decide) (fun h26 => ?_) (fun h26 => ?_)
        · refine q_iconstv (nI 0) ok (by decide) dX1_invert_33 ?_
          refine ms_blk (v := false) g (by omega) ok dX1_invert_34 ?_
          refine q_iincN_1 1 ok rfl (by decide) dX1_invert_35 ?_
          refine q_goto 7 ok dX1_invert_38 (by decide) ?_
          rw [show false = !blk i by rw [h26]; rfl, pu_step (F := fun k => !blk k)]
          exact ihL _ (by omega) (i + 1) rfl (by omega)
        · refine q_iconstv (nI 1) ok (by decide) dX1_invert_29 ?_
          refine q_goto 34 ok dX1_invert_30 (by decide) ?_
          refine ms_blk (v := true) g (by omega) ok dX1_invert_34 ?_
          refine q_iincN_1 1 ok rfl (by decide) dX1_invert_35 ?_
          refine q_goto 7 ok dX1_invert_38 (by decide) ?_
          rw [show true = !blk i by rw [h26]; rfl, pu_step (F := fun k => !blk k)]
          exact ihL _ (by omega) (i + 1) rfl (by omega)
  refine q_aload_n ok rfl dX1_invert_0 ?_
  refine q_iconstv (nI 0) ok (by decide) dX1_invert_1 ?_
  refine mp_thrown ok dX1_invert_2 ?_
  refine q_iconstv (nI 0) ok (by decide) dX1_invert_5 ?_
  refine q_istore_1 ok rfl dX1_invert_6 ?_
  have := L _ 0 rfl (Nat.zero_le _)
  rw [pu_0 (F := fun k => !blk k)] at this
  exact this
def sp_X1_at : List q_V → List q_E → (Option q_V → List q_E → Prop) → Prop := fun as Wd K => ∃ (w : Nat) (h : Nat) (thr : Nat) (sam : Nat → Nat) (blk : Nat → Bool) (nxt : Nat → Bool) (came : Nat → Int32) (part : Nat → Int32) (rst : Int64) (a : Int32) (b : Int32), (q_g w h) ∧ as = [.inr (.inr (some 0)), .inl a, .inl b] ∧ Wd = (mw w h thr sam blk nxt came part rst) ∧ (inI w h a b = true → K (some (.inl (bI (blk (pI w a b))))) (mw w h (0) sam blk nxt came part rst)) ∧ (inI w h a b = false → K (some (.inl (nI 0))) (mw w h (1) sam blk nxt came part rst))
set_option maxHeartbeats 4000000 in
set_option maxRecDepth 20000 in
theorem ct_X1_at : q_Ct yX1_at cX1_at 3 (some .boolean) 1 22 sp_X1_at := by
  refine q_met (by decide) ?_
  intro x as Wd K hs ok fn
  obtain ⟨w, h, thr, sam, blk, nxt, came, part, rst, a, b, g, rfl, rfl, hk0, hk1⟩ := hs
  show q_W x 0 [some (.inr (.inr (some 0))), some (.inl a), some (.inl b)] [] (mw w h thr sam blk nxt came part rst)
  refine q_aload_n ok rfl dX1_at_0 ?_
  refine q_aload_n ok rfl dX1_at_1 ?_
  refine q_iload_n ok rfl dX1_at_2 ?_
  refine q_iload_n ok rfl dX1_at_3 ?_
  refine kX1_isIn (by decide) (Nat.le_of_ble_eq_true rfl) ok dX1_at_4 ?_
  refine q_ifb_eq 14 ok dX1_at_7 (by decide) (fun h7 => ?_) (fun h7 => ?_)
  · refine q_iconstv (nI 1) ok (by decide) dX1_at_14 ?_
    refine mp_thrown ok dX1_at_15 ?_
    refine q_aload_n ok rfl dX1_at_18 ?_
    refine mg_thrown ok dX1_at_19 ?_
    refine q_if_ne 45 ok dX1_at_22 (by decide) (fun _ => ?_) (fun hh => absurd hh (by decide))
    refine q_iconstv (nI 0) ok (by decide) dX1_at_45 ?_
    exact q_zret ok fn dX1_at_46 (by decide) (hk1 h7)
  · refine q_iconstv (nI 0) ok (by decide) dX1_at_10 ?_
    refine q_goto 15 ok dX1_at_11 (by decide) ?_
    refine mp_thrown ok dX1_at_15 ?_
    refine q_aload_n ok rfl dX1_at_18 ?_
    refine mg_thrown ok dX1_at_19 ?_
    refine q_if_ne 45 ok dX1_at_22 (by decide) (fun hh => absurd (by decide) hh) (fun _ => ?_)
    obtain ⟨i, j, hi, hj, rfl, rfl⟩ := inI_o g h7
    have hlt := pm_lt g hi hj
    have hw := g.2.1
    have hh := g.2.2.2
    have ep : pI w (nI i) (nI j) = w * j + i := by rw [pI_n (by omega) (by omega), Nat.mul_comm]
    refine q_aload_n ok rfl dX1_at_25 ?_
    refine mg_black ok dX1_at_26 ?_
    refine q_aload_n ok rfl dX1_at_29 ?_
    refine mg_width ok dX1_at_30 ?_
    refine q_iload_n ok rfl dX1_at_33 ?_
    refine q_imulN ok dX1_at_34 ?_
    refine q_iload_n ok rfl dX1_at_35 ?_
    refine q_iaddN ok dX1_at_36 ?_
    refine ml_blk g hlt ok dX1_at_37 ?_
    refine q_ifb_eq 45 ok dX1_at_38 (by decide) (fun h38 => ?_) (fun h38 => ?_)
    · refine q_iconstv (nI 0) ok (by decide) dX1_at_45 ?_
      exact q_zret ok fn dX1_at_46 (by decide) (by have z := hk0 h7; rw [ep, h38] at z; exact z)
    · refine q_iconstv (nI 1) ok (by decide) dX1_at_41 ?_
      refine q_goto 46 ok dX1_at_42 (by decide) ?_
      exact q_zret ok fn dX1_at_46 (by decide) (by have z := hk0 h7; rw [ep, h38] at z; exact z)
def sp_X1_clear : List q_V → List q_E → (Option q_V → List q_E → Prop) → Prop := fun as Wd K => ∃ (w : Nat) (h : Nat) (thr : Nat) (sam : Nat → Nat) (blk : Nat → Bool) (nxt : Nat → Bool) (came : Nat → Int32) (part : Nat → Int32) (rst : Int64), (q_g w h) ∧ as = [.inr (.inr (some 0))] ∧ Wd = (mw w h thr sam blk nxt came part rst) ∧ (K none (mw w h (0) (fun k => if k < 256 then 0 else sam k) (fun k => if k < 256 then false else blk k) nxt came part (lN 0)))
set_option maxHeartbeats 4000000 in
set_option maxRecDepth 20000 in
theorem ct_X1_clear : q_Ct yX1_clear cX1_clear 2 none 0 0 sp_X1_clear := by
  refine q_met (by decide) ?_
  intro x as Wd K hs ok fn
  obtain ⟨w, h, thr, sam, blk, nxt, came, part, rst, g, rfl, rfl, hk⟩ := hs
  show q_W x 0 [some (.inr (.inr (some 0))), none] [] (mw w h thr sam blk nxt came part rst)
  have hn := q_gn g
  have L : ∀ (dL i : Nat) , dL = 256 - i → i ≤ 256 → q_W x 12 [some (.inr (.inr (some 0))), some (.inl (nI (i)))] [] (mw w h (0) (fun k => if k < i then 0 else sam k) (fun k => if k < i then false else blk k) nxt came part (lN 0)) := by
    intro dL
    induction dL using Nat.strongRecOn with
    | _ dL ihL =>
      intro i  hdL hiL 
      refine q_iload_n ok rfl dX1_clear_12 ?_
      refine q_sipushv (nI 256) ok (by decide) dX1_clear_13 ?_
      refine q_icmpN_ge 39 (by omega) (by omega) ok dX1_clear_16 (by decide) (fun h16 => ?_) (fun h16 => ?_)
      · exact q_vret ok fn dX1_clear_39 (by rw [show i = 256 by omega] ; exact hk)
      · refine q_aload_n ok rfl dX1_clear_19 ?_
        refine mg_samples ok dX1_clear_20 ?_
        refine q_iload_n ok rfl dX1_clear_23 ?_
        refine q_iconstv (nI 0) ok (by decide) dX1_clear_24 ?_
        refine ms_sam g (by omega) ok dX1_clear_25 ?_
        refine q_aload_n ok rfl dX1_clear_26 ?_
        refine mg_black ok dX1_clear_27 ?_
        refine q_iload_n ok rfl dX1_clear_30 ?_
        refine q_iconstv (nI 0) ok (by decide) dX1_clear_31 ?_
        refine ms_blk (v := false) g (by omega) ok dX1_clear_32 ?_
        refine q_iincN_1 1 ok rfl (by decide) dX1_clear_33 ?_
        refine q_goto 12 ok dX1_clear_36 (by decide) ?_
        rw [pu_step (F := fun _ => 0), pu_step (F := fun _ => false)]
        exact ihL _ (by omega) (i + 1) rfl (by omega)
  refine q_aload_n ok rfl dX1_clear_0 ?_
  refine q_iconstv (nI 0) ok (by decide) dX1_clear_1 ?_
  refine mp_thrown ok dX1_clear_2 ?_
  refine q_aload_n ok rfl dX1_clear_5 ?_
  refine q_lconstv (lN 0) ok rfl dX1_clear_6 ?_
  refine mp_rest ok dX1_clear_7 ?_
  refine q_iconstv (nI 0) ok (by decide) dX1_clear_10 ?_
  refine q_istore_1 ok rfl dX1_clear_11 ?_
  have := L _ 0 rfl (Nat.zero_le _)
  rw [pu_0 (F := fun _ => 0), pu_0 (F := fun _ => false)] at this
  exact this
def nwS (sam : Nat → Nat) (k : Nat) : Bool := !anyB (fun j => sam j == sam k) k
def sp_X1_different : List q_V → List q_E → (Option q_V → List q_E → Prop) → Prop := fun as Wd K => ∃ (w : Nat) (h : Nat) (thr : Nat) (sam : Nat → Nat) (blk : Nat → Bool) (nxt : Nat → Bool) (came : Nat → Int32) (part : Nat → Int32) (rst : Int64), (q_g w h) ∧ (∀ k, k < w * h → sam k < 256) ∧ as = [.inr (.inr (some 0))] ∧ Wd = (mw w h thr sam blk nxt came part rst) ∧ (K (some (.inl (nI (cntB (nwS sam) (w * h))))) (mw w h thr sam blk nxt came part rst))
set_option maxHeartbeats 4000000 in
set_option maxRecDepth 20000 in
theorem ct_X1_different : q_Ct yX1_different cX1_different 5 (some .int) 1 20 sp_X1_different := by
  refine q_met (by decide) ?_
  intro x as Wd K hs ok fn
  obtain ⟨w, h, thr, sam, blk, nxt, came, part, rst, g, hs, rfl, rfl, hk⟩ := hs
  show q_W x 0 [some (.inr (.inr (some 0))), none, none, none, none] [] (mw w h thr sam blk nxt came part rst)
  have hn := q_gn g
  have L : ∀ (dL i : Nat) (o3 o4 : Option q_V), dL = w * h - i → i ≤ w * h → q_W x 4 [some (.inr (.inr (some 0))), some (.inl (nI (cntB (nwS sam) i))), some (.inl (nI (i))), o3, o4] [] (mw w h thr sam blk nxt came part rst) := by
    intro dL
    induction dL using Nat.strongRecOn with
    | _ dL ihL =>
      intro i o3 o4 hdL hiL 
      refine q_iload_n ok rfl dX1_different_4 ?_
      refine q_aload_n ok rfl dX1_different_5 ?_
      refine kX1_all (by decide) (Nat.le_of_ble_eq_true rfl) ok dX1_different_6 ?_
      refine q_icmpN_ge 73 (by omega) (by omega) ok dX1_different_9 (by decide) (fun h9 => ?_) (fun h9 => ?_)
      · refine q_iload_n ok rfl dX1_different_73 ?_
        exact q_iret ok fn dX1_different_74 (by rw [show i = w * h by omega]; exact hk)
      · refine q_iconstv (nI 1) ok (by decide) dX1_different_12 ?_
        refine q_istore_3 ok rfl dX1_different_13 ?_
        refine q_iconstv (nI 0) ok (by decide) dX1_different_14 ?_
        refine q_istore_4 ok rfl dX1_different_15 ?_
        have LI : ∀ (dLI j : Nat) , dLI = i - j → j ≤ i → q_W x 17 [some (.inr (.inr (some 0))), some (.inl (nI (cntB (nwS sam) i))), some (.inl (nI (i))), some (.inl (bI (!anyB (fun j => sam j == sam i) j))), some (.inl (nI (j)))] [] (mw w h thr sam blk nxt came part rst) := by
          intro dLI
          induction dLI using Nat.strongRecOn with
          | _ dLI ihLI =>
            intro j  hdLI hiLI 
            refine q_iload ok rfl dX1_different_17 ?_
            refine q_iload_n ok rfl dX1_different_19 ?_
            refine q_icmpN_ge 55 (by omega) (by omega) ok dX1_different_20 (by decide) (fun h20 => ?_) (fun h20 => ?_)
            · refine q_iload_n ok rfl dX1_different_55 ?_
              refine q_ifb_eq 65 ok dX1_different_56 (by decide) (fun h56 => ?_) (fun h56 => ?_)
              · refine q_iload_n ok rfl dX1_different_65 ?_
                refine q_istore_1 ok rfl dX1_different_66 ?_
                refine q_iincN_2 1 ok rfl (by decide) dX1_different_67 ?_
                refine q_goto 4 ok dX1_different_70 (by decide) ?_
                rw [← cntB_f (f := nwS sam) (n := i) (by unfold nwS; rw [show i = j by omega] at h56 ⊢; exact h56)]
                exact ihL _ (by omega) (i + 1) _ _ rfl (by omega)
              · refine q_iload_n ok rfl dX1_different_59 ?_
                refine q_iconstv (nI 1) ok (by decide) dX1_different_60 ?_
                refine q_iaddN ok dX1_different_61 ?_
                refine q_goto 66 ok dX1_different_62 (by decide) ?_
                refine q_istore_1 ok rfl dX1_different_66 ?_
                refine q_iincN_2 1 ok rfl (by decide) dX1_different_67 ?_
                refine q_goto 4 ok dX1_different_70 (by decide) ?_
                rw [← cntB_t (f := nwS sam) (n := i) (by unfold nwS; rw [show i = j by omega] at h56 ⊢; exact h56)]
                exact ihL _ (by omega) (i + 1) _ _ rfl (by omega)
            · refine q_iload_n ok rfl dX1_different_23 ?_
              refine q_ifb_eq 47 ok dX1_different_24 (by decide) (fun h24 => ?_) (fun h24 => ?_)
              · refine q_iconstv (nI 0) ok (by decide) dX1_different_47 ?_
                refine q_istore_3 ok rfl dX1_different_48 ?_
                refine q_iincN_4 1 ok rfl (by decide) dX1_different_49 ?_
                refine q_goto 17 ok dX1_different_52 (by decide) ?_
                rw [show nI 0 = bI (!anyB (fun j => sam j == sam i) (j + 1)) from (by simp only [anyB]; rw [show anyB (fun j => sam j == sam i) j = true by simpa using h24]; rfl)]
                exact ihLI _ (by omega) (j + 1) rfl (by omega)
              · refine q_aload_n ok rfl dX1_different_27 ?_
                refine mg_samples ok dX1_different_28 ?_
                refine q_iload ok rfl dX1_different_31 ?_
                refine ml_sam g (by omega) ok dX1_different_33 ?_
                refine q_aload_n ok rfl dX1_different_34 ?_
                refine mg_samples ok dX1_different_35 ?_
                refine q_iload_n ok rfl dX1_different_38 ?_
                refine ml_sam g (by omega) ok dX1_different_39 ?_
                refine q_icmpN_eq 47 (by have := hs j (by omega); omega) (by have := hs i (by omega); omega) ok dX1_different_40 (by decide) (fun h40 => ?_) (fun h40 => ?_)
                · refine q_iconstv (nI 0) ok (by decide) dX1_different_47 ?_
                  refine q_istore_3 ok rfl dX1_different_48 ?_
                  refine q_iincN_4 1 ok rfl (by decide) dX1_different_49 ?_
                  refine q_goto 17 ok dX1_different_52 (by decide) ?_
                  rw [show nI 0 = bI (!anyB (fun j => sam j == sam i) (j + 1)) from (by simp only [anyB]; rw [show anyB (fun j => sam j == sam i) j = false by simpa using h24, h40]; simp; rfl)]
                  exact ihLI _ (by omega) (j + 1) rfl (by omega)
                · refine q_iconstv (nI 1) ok (by decide) dX1_different_43 ?_
                  refine q_goto 48 ok dX1_different_44 (by decide) ?_
                  refine q_istore_3 ok rfl dX1_different_48 ?_
                  refine q_iincN_4 1 ok rfl (by decide) dX1_different_49 ?_
                  refine q_goto 17 ok dX1_different_52 (by decide) ?_
                  rw [show nI 1 = bI (!anyB (fun j => sam j == sam i) (j + 1)) from (by simp only [anyB]; rw [show anyB (fun j => sam j == sam i) j = false by simpa using h24, show (sam j == sam i) = false by simpa using h40]; rfl)]
                  exact ihLI _ (by omega) (j + 1) rfl (by omega)
        exact LI _ 0 rfl (Nat.zero_le _)
  refine q_iconstv (nI 0) ok (by decide) dX1_different_0 ?_
  refine q_istore_1 ok rfl dX1_different_1 ?_
  refine q_iconstv (nI 0) ok (by decide) dX1_different_2 ?_
  refine q_istore_2 ok rfl dX1_different_3 ?_
  exact L _ 0 none none rfl (Nat.zero_le _)
theorem kX1_different {x : q_X} {cc : ByteArray} {fr lo pc : Nat} {lv : List (Option q_V)} {st : List q_V} {w : Nat} {h : Nat} {thr : Nat} {sam : Nat → Nat} {blk : Nat → Bool} {nxt : Nat → Bool} {came : Nat → Int32} {part : Nat → Int32} {rst : Int64} (g : q_g w h) (hs : ∀ k, k < w * h → sam k < 256) (hR : 1 + 1 ≤ fr ∧ 8 + (5 + 11) + 20 ≤ lo) (hst : (st.map (fun v => if q_nol (some v) then 1 else 2)).sum ≤ 8) (ok : q_ok x cc RX1 fr lo) (hd : decode cc pc = .ok (.invokevirtual 92, 3)) (kk : q_W x (pc + 3) lv ((.inl (nI (cntB (nwS sam) (w * h)))) :: st) (mw w h thr sam blk nxt came part rst)) : q_W x pc lv (.inr (.inr (some 0)) :: st) (mw w h thr sam blk nxt came part rst) :=
  q_callV [] ct_X1_different lkX1_X1_different dc_X1_different rfl ok rfl hR hst (Nat.le_of_ble_eq_true rfl) hd ⟨w, h, thr, sam, blk, nxt, came, part, rst, g, hs, rfl, rfl, kk⟩
