-- FOURTH LEVEL of the class: parts, specks, the best bound, sums
def sp_X0_gatherPart : List q_V → List q_E → (Option q_V → List q_E → Prop) → Prop := fun as Wd K => ∃ (w : Nat) (h : Nat) (sam : Nat → Nat) (blk : Nat → Bool) (lost : Int64) (ogr : Nat → Nat) (came : Nat → Int32) (sums : Nat → Int64) (sqs : Nat → Int64) (mrk : Nat → Bool) (que : Nat → Nat) (qd : Nat) (s0 : Nat) (col : Bool), (q_g w h) ∧ (s0 < w * h) ∧ (mrk s0 = false) ∧ (blk s0 = col) ∧ (gCl w h blk col mrk) ∧ as = [.inr (.inr (some 0)), .inl (nI s0), .inl (bI col)] ∧ Wd = (xw w h sam blk lost ogr came sums sqs mrk que qd) ∧ (∀ (mrk2 : Nat → Bool) (que2 : Nat → Nat) (qd2 : Nat), gPost w h blk col s0 mrk mrk2 que2 qd2 → K none (xw w h sam blk lost ogr came sums sqs (mrk2) (que2) (qd2)))
set_option maxHeartbeats 4000000 in
set_option maxRecDepth 20000 in
theorem ct_X0_gatherPart : q_Ct yX0_gatherPart cX0_gatherPart 6 none 2 46 sp_X0_gatherPart := by
  refine q_met (by decide) ?_
  intro x as Wd K hs ok fn
  obtain ⟨w, h, sam, blk, lost, ogr, came, sums, sqs, mrk, que, qd, s0, col, g, hs0, h0, hbs, hcl, rfl, rfl, hk⟩ := hs
  show q_W x 0 [some (.inr (.inr (some 0))), some (.inl (nI s0)), some (.inl (bI col)), none, none, none] [] (xw w h sam blk lost ogr came sums sqs mrk que qd)
  have hn := q_gn g
  have L : ∀ (dL nx : Nat) (t : q_G) (o4 o5 : Option q_V), dL = w * h - nx → nx ≤ w * h → gI w h blk col s0 mrk nx t → q_nol o4 = true → q_nol o5 = true → q_W x 19 [some (.inr (.inr (some 0))), some (.inl (nI (s0))), some (.inl (bI (col))), some (.inl (nI (nx))), o4, o5] [] (xw w h sam blk lost ogr came sums sqs (t.1) (t.2.1) (t.2.2)) := by
    intro dL
    induction dL using Nat.strongRecOn with
    | _ dL ihL =>
      intro nx t o4 o5 hdL hiL H ho4 ho5
      refine q_iload_n ok rfl dX0_gatherPart_19 ?_
      refine q_aload_n ok rfl dX0_gatherPart_20 ?_
      refine xg_count ok dX0_gatherPart_21 ?_
      refine q_icmpN_ge 109 (by omega) (by omega) ok dX0_gatherPart_24 (by decide) (fun h24 => ?_) (fun h24 => ?_)
      · exact q_vret ok fn dX0_gatherPart_109 (hk _ _ _ (gI_end H hs0 h0 hbs hcl (by first | omega | (have := gI_le H; omega))))
      · refine q_iload_n ok rfl dX0_gatherPart_27 ?_
        refine q_aload_n ok rfl dX0_gatherPart_28 ?_
        refine xg_queued ok dX0_gatherPart_29 ?_
        refine q_icmpN_ge 109 (by omega) (by have := gI_le H; omega) ok dX0_gatherPart_32 (by decide) (fun h32 => ?_) (fun h32 => ?_)
        · exact q_vret ok fn dX0_gatherPart_109 (hk _ _ _ (gI_end H hs0 h0 hbs hcl (by first | omega | (have := gI_le H; omega))))
        · have hle := gI_le H
          obtain ⟨hq1, hq2, hq3⟩ := H.2.1 nx (by omega)
          have hnx : nx < t.2.2 := by omega
          have hw := g.2.1
          have hG := gI_q H
          refine q_aload_n ok rfl dX0_gatherPart_35 ?_
          refine q_aload_n ok rfl dX0_gatherPart_36 ?_
          refine xg_queue ok dX0_gatherPart_37 ?_
          refine q_iload_n ok rfl dX0_gatherPart_40 ?_
          refine xl_que g (by omega) ok dX0_gatherPart_41 ?_
          generalize hqe : t.2.1 nx = q at hq1 hq2 hq3 ⊢
          refine kX0_columnOf g (by omega) (by decide) (Nat.le_of_ble_eq_true rfl) ok dX0_gatherPart_42 ?_
          refine q_istore_4 ok rfl dX0_gatherPart_45 ?_
          refine q_aload_n ok rfl dX0_gatherPart_47 ?_
          refine q_aload_n ok rfl dX0_gatherPart_48 ?_
          refine xg_queue ok dX0_gatherPart_49 ?_
          refine q_iload_n ok rfl dX0_gatherPart_52 ?_
          refine xl_que g (by omega) ok dX0_gatherPart_53 ?_
          rw [hqe]
          refine kX0_rowOf g (by omega) (by decide) (Nat.le_of_ble_eq_true rfl) ok dX0_gatherPart_54 ?_
          refine q_istore_5 ok rfl dX0_gatherPart_57 ?_
          refine q_aload_n ok rfl dX0_gatherPart_59 ?_
          refine q_iload ok rfl dX0_gatherPart_60 ?_
          refine q_iconstv (nI 1) ok (by decide) dX0_gatherPart_62 ?_
          refine q_isub ok dX0_gatherPart_63 ?_
          refine q_iload ok rfl dX0_gatherPart_64 ?_
          refine q_iload_n ok rfl dX0_gatherPart_66 ?_
          refine kX0_gather g hG (by decide) (Nat.le_of_ble_eq_true rfl) ok dX0_gatherPart_67 ?_
          generalize e1 : gS w h blk col (nI (q % w) - nI 1) (nI (q / w)) (t.1, t.2.1, t.2.2) = t1
          have A := gI_s g H hnx (a := nI (q % w) - nI 1) (b := nI (q / w)) (fun hi => by rw [hqe]; exact nb_o g hq1 hi (Or.inl ⟨rfl, rfl⟩))
          rw [show gS w h blk col (nI (q % w) - nI 1) (nI (q / w)) t = t1 from e1] at A
          obtain ⟨A1, A2, A3, A4, A5⟩ := A
          clear hG
          have hG := gI_q A1
          refine q_aload_n ok rfl dX0_gatherPart_70 ?_
          refine q_iload ok rfl dX0_gatherPart_71 ?_
          refine q_iconstv (nI 1) ok (by decide) dX0_gatherPart_73 ?_
          refine q_iaddN ok dX0_gatherPart_74 ?_
          refine q_iload ok rfl dX0_gatherPart_75 ?_
          refine q_iload_n ok rfl dX0_gatherPart_77 ?_
          refine kX0_gather g hG (by decide) (Nat.le_of_ble_eq_true rfl) ok dX0_gatherPart_78 ?_
          generalize e2 : gS w h blk col (nI (q % w + 1)) (nI (q / w)) (t1.1, t1.2.1, t1.2.2) = t2
          have B := gI_s g A1 A2 (a := nI (q % w + 1)) (b := nI (q / w)) (fun hi => by rw [A3, hqe]; exact nb_o g hq1 hi (Or.inr (Or.inl ⟨rfl, rfl⟩)))
          rw [show gS w h blk col (nI (q % w + 1)) (nI (q / w)) t1 = t2 from e2] at B
          obtain ⟨B1, B2, B3, B4, B5⟩ := B
          clear hG
          have hG := gI_q B1
          refine q_aload_n ok rfl dX0_gatherPart_81 ?_
          refine q_iload ok rfl dX0_gatherPart_82 ?_
          refine q_iload ok rfl dX0_gatherPart_84 ?_
          refine q_iconstv (nI 1) ok (by decide) dX0_gatherPart_86 ?_
          refine q_isub ok dX0_gatherPart_87 ?_
          refine q_iload_n ok rfl dX0_gatherPart_88 ?_
          refine kX0_gather g hG (by decide) (Nat.le_of_ble_eq_true rfl) ok dX0_gatherPart_89 ?_
          generalize e3 : gS w h blk col (nI (q % w)) (nI (q / w) - nI 1) (t2.1, t2.2.1, t2.2.2) = t3
          have C := gI_s g B1 B2 (a := nI (q % w)) (b := nI (q / w) - nI 1) (fun hi => by rw [B3, A3, hqe]; exact nb_o g hq1 hi (Or.inr (Or.inr (Or.inl ⟨rfl, rfl⟩))))
          rw [show gS w h blk col (nI (q % w)) (nI (q / w) - nI 1) t2 = t3 from e3] at C
          obtain ⟨C1, C2, C3, C4, C5⟩ := C
          clear hG
          have hG := gI_q C1
          refine q_aload_n ok rfl dX0_gatherPart_92 ?_
          refine q_iload ok rfl dX0_gatherPart_93 ?_
          refine q_iload ok rfl dX0_gatherPart_95 ?_
          refine q_iconstv (nI 1) ok (by decide) dX0_gatherPart_97 ?_
          refine q_iaddN ok dX0_gatherPart_98 ?_
          refine q_iload_n ok rfl dX0_gatherPart_99 ?_
          refine kX0_gather g hG (by decide) (Nat.le_of_ble_eq_true rfl) ok dX0_gatherPart_100 ?_
          generalize e4 : gS w h blk col (nI (q % w)) (nI (q / w + 1)) (t3.1, t3.2.1, t3.2.2) = t4
          have D := (gI_4 g H hnx hqe e1 e2 e3 e4).2
          refine q_iincN_3 1 ok rfl (by decide) dX0_gatherPart_103 ?_
          refine q_goto 19 ok dX0_gatherPart_106 (by decide) ?_
          exact ihL _ (by omega) (nx + 1) t4 _ _ rfl (by omega) D rfl rfl
  refine q_aload_n ok rfl dX0_gatherPart_0 ?_
  refine q_iconstv (nI 0) ok (by decide) dX0_gatherPart_1 ?_
  refine xp_queued ok dX0_gatherPart_2 ?_
  refine q_aload_n ok rfl dX0_gatherPart_5 ?_
  refine xg_marked ok dX0_gatherPart_6 ?_
  refine q_iload_n ok rfl dX0_gatherPart_9 ?_
  refine q_iconstv (nI 1) ok (by decide) dX0_gatherPart_10 ?_
  refine xs_mrk (v := true) g (by omega) ok dX0_gatherPart_11 ?_
  refine q_aload_n ok rfl dX0_gatherPart_12 ?_
  refine q_iload_n ok rfl dX0_gatherPart_13 ?_
  refine kX0_enqueue g (by omega) (by decide) (Nat.le_of_ble_eq_true rfl) ok dX0_gatherPart_14 ?_
  refine q_iconstv (nI 0) ok (by decide) dX0_gatherPart_17 ?_
  refine q_istore_3 ok rfl dX0_gatherPart_18 ?_
  exact L _ 0 (va_up mrk s0 true, va_up que 0 s0, 0 + 1) none none rfl (Nat.zero_le _) (gI_0 hs0 h0) rfl rfl
theorem kX0_gatherPart {x : q_X} {cc : ByteArray} {fr lo pc : Nat} {lv : List (Option q_V)} {st : List q_V} {w : Nat} {h : Nat} {sam : Nat → Nat} {blk : Nat → Bool} {lost : Int64} {ogr : Nat → Nat} {came : Nat → Int32} {sums : Nat → Int64} {sqs : Nat → Int64} {mrk : Nat → Bool} {que : Nat → Nat} {qd : Nat} {s0 : Nat} {col : Bool} (g : q_g w h) (hs0 : s0 < w * h) (h0 : mrk s0 = false) (hbs : blk s0 = col) (hcl : gCl w h blk col mrk) (hR : 2 + 1 ≤ fr ∧ 8 + (6 + 11) + 46 ≤ lo) (hst : (st.map (fun v => if q_nol (some v) then 1 else 2)).sum ≤ 8) (ok : q_ok x cc RX0 fr lo) (hd : decode cc pc = .ok (.invokevirtual 204, 3)) (kk : ∀ (mrk2 : Nat → Bool) (que2 : Nat → Nat) (qd2 : Nat), gPost w h blk col s0 mrk mrk2 que2 qd2 → q_W x (pc + 3) lv (st) (xw w h sam blk lost ogr came sums sqs (mrk2) (que2) (qd2))) : q_W x pc lv (.inl (bI col) :: .inl (nI s0) :: .inr (.inr (some 0)) :: st) (xw w h sam blk lost ogr came sums sqs mrk que qd) :=
  q_callV [.inl (nI s0), .inl (bI col)] ct_X0_gatherPart lkX0_X0_gatherPart dc_X0_gatherPart rfl ok rfl hR hst (Nat.le_of_ble_eq_true rfl) hd ⟨w, h, sam, blk, lost, ogr, came, sums, sqs, mrk, que, qd, s0, col, g, hs0, h0, hbs, hcl, rfl, rfl, kk⟩
def sp_X0_countBlackParts : List q_V → List q_E → (Option q_V → List q_E → Prop) → Prop := fun as Wd K => ∃ (w : Nat) (h : Nat) (sam : Nat → Nat) (blk : Nat → Bool) (lost : Int64) (ogr : Nat → Nat) (came : Nat → Int32) (sums : Nat → Int64) (sqs : Nat → Int64) (mrk : Nat → Bool) (que : Nat → Nat) (qd : Nat), (q_g w h) ∧ as = [.inr (.inr (some 0))] ∧ Wd = (xw w h sam blk lost ogr came sums sqs mrk que qd) ∧ (∀ (mrk2 : Nat → Bool) (que2 : Nat → Nat) (qd2 : Nat), K (some (.inl (nI (cntB (cB (fst_ w h blk)) (w * h))))) (xw w h sam blk lost ogr came sums sqs (mrk2) (que2) (qd2)))
set_option maxHeartbeats 4000000 in
set_option maxRecDepth 20000 in
theorem ct_X0_countBlackParts : q_Ct yX0_countBlackParts cX0_countBlackParts 3 (some .int) 3 71 sp_X0_countBlackParts := by
  refine q_met (by decide) ?_
  intro x as Wd K hs ok fn
  obtain ⟨w, h, sam, blk, lost, ogr, came, sums, sqs, mrk, que, qd, g, rfl, rfl, hk⟩ := hs
  show q_W x 0 [some (.inr (.inr (some 0))), none, none] [] (xw w h sam blk lost ogr came sums sqs mrk que qd)
  have hn := q_gn g
  have L : ∀ (dL i : Nat) (mrk : Nat → Bool) (que : Nat → Nat) (qd : Nat), dL = w * h - i → i ≤ w * h → pI_ w h blk i mrk → q_W x 8 [some (.inr (.inr (some 0))), some (.inl (nI (cntB (cB (fst_ w h blk)) i))), some (.inl (nI (i)))] [] (xw w h sam blk lost ogr came sums sqs mrk que qd) := by
    intro dL
    induction dL using Nat.strongRecOn with
    | _ dL ihL =>
      intro i mrk que qd hdL hiL H
      refine q_iload_n ok rfl dX0_countBlackParts_8 ?_
      refine q_aload_n ok rfl dX0_countBlackParts_9 ?_
      refine xg_count ok dX0_countBlackParts_10 ?_
      refine q_icmpN_ge 49 (by omega) (by omega) ok dX0_countBlackParts_13 (by decide) (fun h13 => ?_) (fun h13 => ?_)
      · refine q_iload_n ok rfl dX0_countBlackParts_49 ?_
        exact q_iret ok fn dX0_countBlackParts_50 (by rw [show i = w * h by omega]; exact hk _ _ _)
      · refine q_aload_n ok rfl dX0_countBlackParts_16 ?_
        refine xg_black ok dX0_countBlackParts_17 ?_
        refine q_iload_n ok rfl dX0_countBlackParts_20 ?_
        refine xl_blk g (by omega) ok dX0_countBlackParts_21 ?_
        refine q_ifb_eq 43 ok dX0_countBlackParts_22 (by decide) (fun h22 => ?_) (fun h22 => ?_)
        · refine q_iincN_2 1 ok rfl (by decide) dX0_countBlackParts_43 ?_
          refine q_goto 8 ok dX0_countBlackParts_46 (by decide) ?_
          rw [← cntB_f (f := cB (fst_ w h blk)) (n := i) (cB_f.mpr (fun z => by have := (pI_fst H (by omega)).mpr z; rw [h22] at this; exact absurd this.1 (by decide)))]
          exact ihL _ (by omega) (i + 1) _ _ _ rfl (by omega) (pI_skip H (by omega) (Or.inl h22))
        · refine q_aload_n ok rfl dX0_countBlackParts_25 ?_
          refine xg_marked ok dX0_countBlackParts_26 ?_
          refine q_iload_n ok rfl dX0_countBlackParts_29 ?_
          refine xl_mrk g (by omega) ok dX0_countBlackParts_30 ?_
          refine q_ifb_ne 43 ok dX0_countBlackParts_31 (by decide) (fun h31 => ?_) (fun h31 => ?_)
          · refine q_iincN_2 1 ok rfl (by decide) dX0_countBlackParts_43 ?_
            refine q_goto 8 ok dX0_countBlackParts_46 (by decide) ?_
            rw [← cntB_f (f := cB (fst_ w h blk)) (n := i) (cB_f.mpr (fun z => by have := (pI_fst H (by omega)).mpr z; rw [h31] at this; exact absurd this.2 (by decide)))]
            exact ihL _ (by omega) (i + 1) _ _ _ rfl (by omega) (pI_skip H (by omega) (Or.inr h31))
          · refine q_aload_n ok rfl dX0_countBlackParts_34 ?_
            refine q_iload_n ok rfl dX0_countBlackParts_35 ?_
            refine q_iconstv (nI 1) ok (by decide) dX0_countBlackParts_36 ?_
            refine kX0_gatherPart (col := true) g (by omega) h31 h22 (pI_cl H) (by decide) (Nat.le_of_ble_eq_true rfl) ok dX0_countBlackParts_37 ?_
            intro mrk2 que2 qd2 G
            refine q_iincN_1 1 ok rfl (by decide) dX0_countBlackParts_40 ?_
            refine q_iincN_2 1 ok rfl (by decide) dX0_countBlackParts_43 ?_
            refine q_goto 8 ok dX0_countBlackParts_46 (by decide) ?_
            rw [← cntB_t (f := cB (fst_ w h blk)) (n := i) (cB_t.mpr ((pI_fst H (by omega)).mp ⟨h22, h31⟩))]
            exact ihL _ (by omega) (i + 1) _ _ _ rfl (by omega) (pI_go H h22 G)
  refine q_aload_n ok rfl dX0_countBlackParts_0 ?_
  refine kX0_unmarkAll g (by decide) (Nat.le_of_ble_eq_true rfl) ok dX0_countBlackParts_1 ?_
  refine q_iconstv (nI 0) ok (by decide) dX0_countBlackParts_4 ?_
  refine q_istore_1 ok rfl dX0_countBlackParts_5 ?_
  refine q_iconstv (nI 0) ok (by decide) dX0_countBlackParts_6 ?_
  refine q_istore_2 ok rfl dX0_countBlackParts_7 ?_
  exact L _ 0 _ _ _ rfl (Nat.zero_le _) (fun k hk2 => by simp [hk2])
theorem kX0_countBlackParts {x : q_X} {cc : ByteArray} {fr lo pc : Nat} {lv : List (Option q_V)} {st : List q_V} {w : Nat} {h : Nat} {sam : Nat → Nat} {blk : Nat → Bool} {lost : Int64} {ogr : Nat → Nat} {came : Nat → Int32} {sums : Nat → Int64} {sqs : Nat → Int64} {mrk : Nat → Bool} {que : Nat → Nat} {qd : Nat} (g : q_g w h) (hR : 3 + 1 ≤ fr ∧ 8 + (3 + 11) + 71 ≤ lo) (hst : (st.map (fun v => if q_nol (some v) then 1 else 2)).sum ≤ 8) (ok : q_ok x cc RX0 fr lo) (hd : decode cc pc = .ok (.invokevirtual 159, 3)) (kk : ∀ (mrk2 : Nat → Bool) (que2 : Nat → Nat) (qd2 : Nat), q_W x (pc + 3) lv ((.inl (nI (cntB (cB (fst_ w h blk)) (w * h)))) :: st) (xw w h sam blk lost ogr came sums sqs (mrk2) (que2) (qd2))) : q_W x pc lv (.inr (.inr (some 0)) :: st) (xw w h sam blk lost ogr came sums sqs mrk que qd) :=
  q_callV [] ct_X0_countBlackParts lkX0_X0_countBlackParts dc_X0_countBlackParts rfl ok rfl hR hst (Nat.le_of_ble_eq_true rfl) hd ⟨w, h, sam, blk, lost, ogr, came, sums, sqs, mrk, que, qd, g, rfl, rfl, kk⟩
def sp_X0_turnSpecks : List q_V → List q_E → (Option q_V → List q_E → Prop) → Prop := fun as Wd K => ∃ (w : Nat) (h : Nat) (sam : Nat → Nat) (blk : Nat → Bool) (lost : Int64) (ogr : Nat → Nat) (came : Nat → Int32) (sums : Nat → Int64) (sqs : Nat → Int64) (mrk : Nat → Bool) (que : Nat → Nat) (qd : Nat) (col : Bool) (mo : Nat), (q_g w h) ∧ (mo ≤ 256) ∧ as = [.inr (.inr (some 0)), .inl (bI col), .inl (nI mo)] ∧ Wd = (xw w h sam blk lost ogr came sums sqs mrk que qd) ∧ (∀ (blk2 mrk2 : Nat → Bool) (que2 : Nat → Nat) (qd2 : Nat), tPost w h blk col mo blk2 → K (some (.inl (nI (cntB (cB (Sp w h blk col mo)) (w * h))))) (xw w h sam (blk2) lost ogr came sums sqs (mrk2) (que2) (qd2)))
set_option maxHeartbeats 4000000 in
set_option maxRecDepth 20000 in
theorem ct_X0_turnSpecks : q_Ct yX0_turnSpecks cX0_turnSpecks 5 (some .int) 3 71 sp_X0_turnSpecks := by
  refine q_met (by decide) ?_
  intro x as Wd K hs ok fn
  obtain ⟨w, h, sam, blk, lost, ogr, came, sums, sqs, mrk, que, qd, col, mo, g, hm, rfl, rfl, hk⟩ := hs
  show q_W x 0 [some (.inr (.inr (some 0))), some (.inl (bI col)), some (.inl (nI mo)), none, none] [] (xw w h sam blk lost ogr came sums sqs mrk que qd)
  have hn := q_gn g
  have L : ∀ (dL i : Nat) (cur mrk : Nat → Bool) (que : Nat → Nat) (qd tn : Nat), dL = w * h - i → i ≤ w * h → tI w h blk col mo i cur mrk tn → q_W x 9 [some (.inr (.inr (some 0))), some (.inl (bI (col))), some (.inl (nI (mo))), some (.inl (nI (tn))), some (.inl (nI (i)))] [] (xw w h sam (cur) lost ogr came sums sqs mrk que qd) := by
    intro dL
    induction dL using Nat.strongRecOn with
    | _ dL ihL =>
      intro i cur mrk que qd tn hdL hiL H
      refine q_iload ok rfl dX0_turnSpecks_9 ?_
      refine q_aload_n ok rfl dX0_turnSpecks_11 ?_
      refine xg_count ok dX0_turnSpecks_12 ?_
      refine q_icmpN_ge 77 (by omega) (by omega) ok dX0_turnSpecks_15 (by decide) (fun h15 => ?_) (fun h15 => ?_)
      · refine q_iload_n ok rfl dX0_turnSpecks_77 ?_
        exact q_iret ok fn dX0_turnSpecks_78 (by obtain ⟨H1, H2⟩ := tI_end H (show w * h ≤ i by omega); rw [H2]; exact hk _ _ _ _ H1)
      · refine q_aload_n ok rfl dX0_turnSpecks_18 ?_
        refine xg_black ok dX0_turnSpecks_19 ?_
        refine q_iload ok rfl dX0_turnSpecks_22 ?_
        refine xl_blk g (by omega) ok dX0_turnSpecks_24 ?_
        refine q_iload_n ok rfl dX0_turnSpecks_25 ?_
        refine q_icmpb_ne 71 ok dX0_turnSpecks_26 (by decide) (fun h26 => ?_) (fun h26 => ?_)
        · refine q_iincN_4 1 ok rfl (by decide) dX0_turnSpecks_71 ?_
          refine q_goto 9 ok dX0_turnSpecks_74 (by decide) ?_
          exact ihL _ (by omega) (i + 1) _ _ _ _ _ rfl (by omega) (tI_skip H (by omega) (Or.inl h26))
        · refine q_aload_n ok rfl dX0_turnSpecks_29 ?_
          refine xg_marked ok dX0_turnSpecks_30 ?_
          refine q_iload ok rfl dX0_turnSpecks_33 ?_
          refine xl_mrk g (by omega) ok dX0_turnSpecks_35 ?_
          refine q_ifb_ne 71 ok dX0_turnSpecks_36 (by decide) (fun h36 => ?_) (fun h36 => ?_)
          · refine q_iincN_4 1 ok rfl (by decide) dX0_turnSpecks_71 ?_
            refine q_goto 9 ok dX0_turnSpecks_74 (by decide) ?_
            exact ihL _ (by omega) (i + 1) _ _ _ _ _ rfl (by omega) (tI_skip H (by omega) (Or.inr h36))
          · refine q_aload_n ok rfl dX0_turnSpecks_39 ?_
            refine q_iload ok rfl dX0_turnSpecks_40 ?_
            refine q_iload_n ok rfl dX0_turnSpecks_42 ?_
            refine kX0_gatherPart g (by omega) h36 h26 (tI_cl H) (by decide) (Nat.le_of_ble_eq_true rfl) ok dX0_turnSpecks_43 ?_
            intro mrk2 que2 qd2 G
            refine q_aload_n ok rfl dX0_turnSpecks_46 ?_
            refine q_iload_n ok rfl dX0_turnSpecks_47 ?_
            refine q_iload_n ok rfl dX0_turnSpecks_48 ?_
            refine kX0_isSpeck g G.2.2.2.2 (fun j hj => (G.2.1 j hj).1) hm (by decide) (Nat.le_of_ble_eq_true rfl) ok dX0_turnSpecks_49 ?_
            refine q_ifb_eq 71 ok dX0_turnSpecks_52 (by decide) (fun h52 => ?_) (fun h52 => ?_)
            · refine q_iincN_4 1 ok rfl (by decide) dX0_turnSpecks_71 ?_
              refine q_goto 9 ok dX0_turnSpecks_74 (by decide) ?_
              exact ihL _ (by omega) (i + 1) _ _ _ _ _ rfl (by omega) ((tI_go H (by omega) h26 h36 G).2 h52)
            · refine q_iload_n ok rfl dX0_turnSpecks_55 ?_
              refine q_aload_n ok rfl dX0_turnSpecks_56 ?_
              refine q_iload_n ok rfl dX0_turnSpecks_57 ?_
              refine q_ifb_ne 65 ok dX0_turnSpecks_58 (by decide) (fun h58 => ?_) (fun h58 => ?_)
              · refine q_iconstv (nI 0) ok (by decide) dX0_turnSpecks_65 ?_
                refine kX0_turnQueued (col := false) g G.2.2.2.2 (fun j hj => (G.2.1 j hj).1) (by decide) (Nat.le_of_ble_eq_true rfl) ok dX0_turnSpecks_66 ?_
                refine q_iaddN ok dX0_turnSpecks_69 ?_
                refine q_istore_3 ok rfl dX0_turnSpecks_70 ?_
                refine q_iincN_4 1 ok rfl (by decide) dX0_turnSpecks_71 ?_
                refine q_goto 9 ok dX0_turnSpecks_74 (by decide) ?_
                exact ihL _ (by omega) (i + 1) _ _ _ _ _ rfl (by omega) (by have := (tI_go H (by omega) h26 h36 G).1 h52; rw [show (!col) = false by rw [h58]; rfl] at this; exact this)
              · refine q_iconstv (nI 1) ok (by decide) dX0_turnSpecks_61 ?_
                refine q_goto 66 ok dX0_turnSpecks_62 (by decide) ?_
                refine kX0_turnQueued (col := true) g G.2.2.2.2 (fun j hj => (G.2.1 j hj).1) (by decide) (Nat.le_of_ble_eq_true rfl) ok dX0_turnSpecks_66 ?_
                refine q_iaddN ok dX0_turnSpecks_69 ?_
                refine q_istore_3 ok rfl dX0_turnSpecks_70 ?_
                refine q_iincN_4 1 ok rfl (by decide) dX0_turnSpecks_71 ?_
                refine q_goto 9 ok dX0_turnSpecks_74 (by decide) ?_
                exact ihL _ (by omega) (i + 1) _ _ _ _ _ rfl (by omega) (by have := (tI_go H (by omega) h26 h36 G).1 h52; rw [show (!col) = true by rw [h58]; rfl] at this; exact this)
  refine q_aload_n ok rfl dX0_turnSpecks_0 ?_
  refine kX0_unmarkAll g (by decide) (Nat.le_of_ble_eq_true rfl) ok dX0_turnSpecks_1 ?_
  refine q_iconstv (nI 0) ok (by decide) dX0_turnSpecks_4 ?_
  refine q_istore_3 ok rfl dX0_turnSpecks_5 ?_
  refine q_iconstv (nI 0) ok (by decide) dX0_turnSpecks_6 ?_
  refine q_istore_4 ok rfl dX0_turnSpecks_7 ?_
  exact L _ 0 _ _ _ _ 0 rfl (Nat.zero_le _) (tI_0 (fun k hk2 => by simp [hk2]))
theorem kX0_turnSpecks {x : q_X} {cc : ByteArray} {fr lo pc : Nat} {lv : List (Option q_V)} {st : List q_V} {w : Nat} {h : Nat} {sam : Nat → Nat} {blk : Nat → Bool} {lost : Int64} {ogr : Nat → Nat} {came : Nat → Int32} {sums : Nat → Int64} {sqs : Nat → Int64} {mrk : Nat → Bool} {que : Nat → Nat} {qd : Nat} {col : Bool} {mo : Nat} (g : q_g w h) (hm : mo ≤ 256) (hR : 3 + 1 ≤ fr ∧ 8 + (5 + 11) + 71 ≤ lo) (hst : (st.map (fun v => if q_nol (some v) then 1 else 2)).sum ≤ 8) (ok : q_ok x cc RX0 fr lo) (hd : decode cc pc = .ok (.invokevirtual 140, 3)) (kk : ∀ (blk2 mrk2 : Nat → Bool) (que2 : Nat → Nat) (qd2 : Nat), tPost w h blk col mo blk2 → q_W x (pc + 3) lv ((.inl (nI (cntB (cB (Sp w h blk col mo)) (w * h)))) :: st) (xw w h sam (blk2) lost ogr came sums sqs (mrk2) (que2) (qd2))) : q_W x pc lv (.inl (nI mo) :: .inl (bI col) :: .inr (.inr (some 0)) :: st) (xw w h sam blk lost ogr came sums sqs mrk que qd) :=
  q_callV [.inl (bI col), .inl (nI mo)] ct_X0_turnSpecks lkX0_X0_turnSpecks dc_X0_turnSpecks rfl ok rfl hR hst (Nat.le_of_ble_eq_true rfl) hd ⟨w, h, sam, blk, lost, ogr, came, sums, sqs, mrk, que, qd, col, mo, g, hm, rfl, rfl, kk⟩
