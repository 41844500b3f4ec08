-- THE REFERENCE, third part: bounds of what is round, sums of rectangles, errors, the best bound
theorem sumN_rows (f : Nat → Nat) (w : Nat) : ∀ h : Nat, sumN f (h * w) = sumN (fun y => sumN (fun x => f (y * w + x)) w) h
  | 0 => by rw [Nat.zero_mul]; rfl
  | h + 1 => by
    rw [Nat.succ_mul, sumN_split, sumN_rows f w h]; rfl
theorem RS_ind {F : Nat → Nat} {w h a b c d : Nat} (h1 : a + c ≤ w) (h2 : b + d ≤ h) : sumN (fun k => if (a ≤ k % w ∧ k % w < a + c) ∧ (b ≤ k / w ∧ k / w < b + d) then F k else 0) (w * h) = RS F w a b (a + c) (b + d) := by
  rw [Nat.mul_comm w h, sumN_rows]
  have e1 : ∀ y, y < h → sumN (fun x => if (a ≤ (y * w + x) % w ∧ (y * w + x) % w < a + c) ∧ (b ≤ (y * w + x) / w ∧ (y * w + x) / w < b + d) then F (y * w + x) else 0) w = if b ≤ y ∧ y < b + d then sumN (fun k => F (y * w + (a + k))) (a + c - a) else 0 := by
    intro y hy
    by_cases b1 : b ≤ y ∧ y < b + d
    · rw [if_pos b1, sumN_congr (g := fun x => if a ≤ x ∧ x < a + c then F (y * w + x) else 0) (fun x hx => by
        rw [ix_mod hx, ix_div hx]
        by_cases b2 : a ≤ x ∧ x < a + c
        · rw [if_pos ⟨b2, b1⟩, if_pos b2]
        · rw [if_neg (fun q => b2 q.1), if_neg b2]), sumN_ind (fun x => F (y * w + x)) (by omega) h1]
    · rw [if_neg b1, sumN_congr (g := fun _ => 0) (fun x hx => by rw [ix_mod hx, ix_div hx]; exact if_neg (fun q => b1 q.2))]; exact sumN_0 _
  rw [sumN_congr e1, sumN_ind (fun y => sumN (fun k => F (y * w + (a + k))) (a + c - a)) (by omega) h2]
  rfl
theorem i64n {a : Nat} (ha : a < 2 ^ 31) : (nI a).toInt64 = lN a := nI_l ha

theorem lC_f {z : Int32} (h1 : ¬ z < nI 1) (h2 : ¬ nI 31 < z) (h3 : ¬ z - z / nI 2 * nI 2 = nI 1) : lC z = false := by
  refine decide_eq_false (fun q => ?_)
  have h0 : ¬ z < 0 := by
    rw [Int32.lt_iff_toInt_lt, nI_toInt (by decide)] at h1
    rw [Int32.lt_iff_toInt_lt, Int32.toInt_zero]; omega
  obtain ⟨j, hj, rfl⟩ := nI_of h0
  have hj2 : j ≤ 31 := Nat.not_lt.mp (mt (nI_ltI (by decide) hj).mpr h2)
  have q3 := q.2.2
  rw [pk_rem hj (by decide) (by decide)] at h3 q3
  rw [nI_z (by omega)] at q3
  exact h3 (by rw [show j % 2 = 1 by omega])
def sp_X1_local : List q_V → List q_E → (Option q_V → List q_E → Prop) → Prop := fun as Wd K => ∃ (w : Nat) (h : Nat) (thr : Nat) (sam : Nat → Nat) (blk : Nat → Bool) (nxt : Nat → Bool) (came : Nat → Int32) (part : Nat → Int32) (rst : Int64) (z : Int32) (sh : Int32), (q_g w h) ∧ (∀ k, k < w * h → sam k < 256) ∧ as = [.inr (.inr (some 0)), .inl z, .inl sh] ∧ Wd = (mw w h thr sam blk nxt came part rst) ∧ (∀ r : Nat, r ≤ 15 → z = nI (2 * r + 1) → ¬ sh < 0 → ¬ nI 64 < sh → K (some (.inl (nI (cntB (fun k => if k < w * h then drk sam w h (k % w) (k / w) r sh else blk k) (w * h))))) (mw w h (0) sam (fun k => if k < w * h then drk sam w h (k % w) (k / w) r sh else blk k) nxt came part rst)) ∧ (lC z = false → K (some (.inl (nI 0))) (mw w h (1) sam blk nxt came part rst)) ∧ (lC z = true → (sh < 0 ∨ nI 64 < sh) → K (some (.inl (nI 0))) (mw w h (1) sam blk nxt came part rst))
set_option maxHeartbeats 4000000 in
set_option maxRecDepth 20000 in
theorem ct_X1_local : q_Ct yX1_local cX1_local 5 (some .int) 2 58 sp_X1_local := by
  refine q_met (by decide) ?_
  intro x as Wd K hs ok fn
  obtain ⟨w, h, thr, sam, blk, nxt, came, part, rst, z, sh, g, hs, rfl, rfl, hk0, hk1, hk2⟩ := hs
  show q_W x 0 [some (.inr (.inr (some 0))), some (.inl z), some (.inl sh), none, none] [] (mw w h thr sam blk nxt came part rst)
  refine q_iload_n ok rfl dX1_local_0 ?_
  refine q_iconstv (nI 1) ok (by decide) dX1_local_1 ?_
  refine q_icmp_lt 32 ok dX1_local_2 (by decide) (fun h2 => ?_) (fun h2 => ?_)
  · refine q_iconstv (nI 0) ok (by decide) dX1_local_32 ?_
    refine q_istore_3 ok rfl dX1_local_33 ?_
    refine q_aload_n ok rfl dX1_local_34 ?_
    refine q_iload_n ok rfl dX1_local_35 ?_
    refine q_if_eq 43 ok dX1_local_36 (by decide) (fun _ => ?_) (fun hh => absurd (by decide) hh)
    refine q_iconstv (nI 1) ok (by decide) dX1_local_43 ?_
    refine mp_thrown ok dX1_local_44 ?_
    refine q_aload_n ok rfl dX1_local_47 ?_
    refine mg_thrown ok dX1_local_48 ?_
    refine q_if_le 56 ok dX1_local_51 (by decide) (fun hh => absurd hh (by decide)) (fun _ => ?_)
    refine q_iconstv (nI 0) ok (by decide) dX1_local_54 ?_
    exact q_iret ok fn dX1_local_55 (hk1 (decide_eq_false (fun q => q.1 h2)))
  · refine q_iload_n ok rfl dX1_local_5 ?_
    refine q_bipushv (nI 31) ok (by decide) dX1_local_6 ?_
    refine q_icmp_gt 32 ok dX1_local_8 (by decide) (fun h8 => ?_) (fun h8 => ?_)
    · refine q_iconstv (nI 0) ok (by decide) dX1_local_32 ?_
      refine q_istore_3 ok rfl dX1_local_33 ?_
      refine q_aload_n ok rfl dX1_local_34 ?_
      refine q_iload_n ok rfl dX1_local_35 ?_
      refine q_if_eq 43 ok dX1_local_36 (by decide) (fun _ => ?_) (fun hh => absurd (by decide) hh)
      refine q_iconstv (nI 1) ok (by decide) dX1_local_43 ?_
      refine mp_thrown ok dX1_local_44 ?_
      refine q_aload_n ok rfl dX1_local_47 ?_
      refine mg_thrown ok dX1_local_48 ?_
      refine q_if_le 56 ok dX1_local_51 (by decide) (fun hh => absurd hh (by decide)) (fun _ => ?_)
      refine q_iconstv (nI 0) ok (by decide) dX1_local_54 ?_
      exact q_iret ok fn dX1_local_55 (hk1 (decide_eq_false (fun q => q.2.1 h8)))
    · refine q_iload_n ok rfl dX1_local_11 ?_
      refine q_iconstv (nI 2) ok (by decide) dX1_local_12 ?_
      refine q_irem ok (by decide) dX1_local_13 ?_
      refine q_iconstv (nI 1) ok (by decide) dX1_local_14 ?_
      refine q_icmp_ne 32 ok dX1_local_15 (by decide) (fun h15 => ?_) (fun h15 => ?_)
      · refine q_iconstv (nI 0) ok (by decide) dX1_local_32 ?_
        refine q_istore_3 ok rfl dX1_local_33 ?_
        refine q_aload_n ok rfl dX1_local_34 ?_
        refine q_iload_n ok rfl dX1_local_35 ?_
        refine q_if_eq 43 ok dX1_local_36 (by decide) (fun _ => ?_) (fun hh => absurd (by decide) hh)
        refine q_iconstv (nI 1) ok (by decide) dX1_local_43 ?_
        refine mp_thrown ok dX1_local_44 ?_
        refine q_aload_n ok rfl dX1_local_47 ?_
        refine mg_thrown ok dX1_local_48 ?_
        refine q_if_le 56 ok dX1_local_51 (by decide) (fun hh => absurd hh (by decide)) (fun _ => ?_)
        refine q_iconstv (nI 0) ok (by decide) dX1_local_54 ?_
        exact q_iret ok fn dX1_local_55 (hk1 (lC_f h2 h8 h15))
      · refine q_iload_n ok rfl dX1_local_18 ?_
        refine q_if_lt 32 ok dX1_local_19 (by decide) (fun h19 => ?_) (fun h19 => ?_)
        · refine q_iconstv (nI 0) ok (by decide) dX1_local_32 ?_
          refine q_istore_3 ok rfl dX1_local_33 ?_
          refine q_aload_n ok rfl dX1_local_34 ?_
          refine q_iload_n ok rfl dX1_local_35 ?_
          refine q_if_eq 43 ok dX1_local_36 (by decide) (fun _ => ?_) (fun hh => absurd (by decide) hh)
          refine q_iconstv (nI 1) ok (by decide) dX1_local_43 ?_
          refine mp_thrown ok dX1_local_44 ?_
          refine q_aload_n ok rfl dX1_local_47 ?_
          refine mg_thrown ok dX1_local_48 ?_
          refine q_if_le 56 ok dX1_local_51 (by decide) (fun hh => absurd hh (by decide)) (fun _ => ?_)
          refine q_iconstv (nI 0) ok (by decide) dX1_local_54 ?_
          exact q_iret ok fn dX1_local_55 (hk2 (decide_eq_true ⟨h2, h8, by rw [h15]; decide⟩) (Or.inl h19))
        · refine q_iload_n ok rfl dX1_local_22 ?_
          refine q_bipushv (nI 64) ok (by decide) dX1_local_23 ?_
          refine q_icmp_gt 32 ok dX1_local_25 (by decide) (fun h25 => ?_) (fun h25 => ?_)
          · refine q_iconstv (nI 0) ok (by decide) dX1_local_32 ?_
            refine q_istore_3 ok rfl dX1_local_33 ?_
            refine q_aload_n ok rfl dX1_local_34 ?_
            refine q_iload_n ok rfl dX1_local_35 ?_
            refine q_if_eq 43 ok dX1_local_36 (by decide) (fun _ => ?_) (fun hh => absurd (by decide) hh)
            refine q_iconstv (nI 1) ok (by decide) dX1_local_43 ?_
            refine mp_thrown ok dX1_local_44 ?_
            refine q_aload_n ok rfl dX1_local_47 ?_
            refine mg_thrown ok dX1_local_48 ?_
            refine q_if_le 56 ok dX1_local_51 (by decide) (fun hh => absurd hh (by decide)) (fun _ => ?_)
            refine q_iconstv (nI 0) ok (by decide) dX1_local_54 ?_
            exact q_iret ok fn dX1_local_55 (hk2 (decide_eq_true ⟨h2, h8, by rw [h15]; decide⟩) (Or.inr h25))
          · refine q_iconstv (nI 1) ok (by decide) dX1_local_28 ?_
            refine q_goto 33 ok dX1_local_29 (by decide) ?_
            refine q_istore_3 ok rfl dX1_local_33 ?_
            refine q_aload_n ok rfl dX1_local_34 ?_
            refine q_iload_n ok rfl dX1_local_35 ?_
            refine q_if_eq 43 ok dX1_local_36 (by decide) (fun hh => absurd hh (by decide)) (fun _ => ?_)
            refine q_iconstv (nI 0) ok (by decide) dX1_local_39 ?_
            refine q_goto 44 ok dX1_local_40 (by decide) ?_
            refine mp_thrown ok dX1_local_44 ?_
            refine q_aload_n ok rfl dX1_local_47 ?_
            refine mg_thrown ok dX1_local_48 ?_
            refine q_if_le 56 ok dX1_local_51 (by decide) (fun _ => ?_) (fun hh => absurd (by decide) hh)
            refine q_iconstv (nI 0) ok (by decide) dX1_local_56 ?_
            refine q_istore_4 ok rfl dX1_local_57 ?_
            obtain ⟨r, hr, rfl⟩ := lC_o h2 h8 (by rw [h15]; decide)
            have hn := q_gn g
            have hw := g.2.1
            have hw1 := g.1
            have hh := g.2.2.2
            have hk0 := hk0 r hr rfl h19 h25
            have L : ∀ (dL i : Nat) , dL = w * h - i → i ≤ w * h → q_W x 59 [some (.inr (.inr (some 0))), some (.inl (nI (2 * r + 1))), some (.inl (sh)), some (.inl (nI (1))), some (.inl (nI (i)))] [] (mw w h (0) sam (fun k => if k < i then drk sam w h (k % w) (k / w) r sh else blk k) nxt came part rst) := by
              intro dL
              induction dL using Nat.strongRecOn with
              | _ dL ihL =>
                intro i  hdL hiL 
                refine q_iload ok rfl dX1_local_59 ?_
                refine q_aload_n ok rfl dX1_local_61 ?_
                refine kX1_all (by decide) (Nat.le_of_ble_eq_true rfl) ok dX1_local_62 ?_
                refine q_icmpN_ge 105 (by omega) (by omega) ok dX1_local_65 (by decide) (fun h65 => ?_) (fun h65 => ?_)
                · rw [show i = w * h by omega]
                  refine q_aload_n ok rfl dX1_local_105 ?_
                  refine kX1_blacks g (by decide) (Nat.le_of_ble_eq_true rfl) ok dX1_local_106 ?_
                  exact q_iret ok fn dX1_local_109 hk0
                · have hil : i < w * h := by omega
                  have hmi := Nat.mod_lt i (show w > 0 by omega)
                  have hdi : i / w < h := Nat.div_lt_of_lt_mul hil
                  refine q_aload_n ok rfl dX1_local_68 ?_
                  refine mg_black ok dX1_local_69 ?_
                  refine q_iload ok rfl dX1_local_72 ?_
                  refine q_aload_n ok rfl dX1_local_74 ?_
                  refine q_iload ok rfl dX1_local_75 ?_
                  refine q_aload_n ok rfl dX1_local_77 ?_
                  refine mg_width ok dX1_local_78 ?_
                  refine q_iremN (by omega) (by omega) (by omega) ok dX1_local_81 ?_
                  refine q_iload ok rfl dX1_local_82 ?_
                  refine q_aload_n ok rfl dX1_local_84 ?_
                  refine mg_width ok dX1_local_85 ?_
                  refine q_idivN (by omega) (by omega) (by omega) ok dX1_local_88 ?_
                  refine q_iload_n ok rfl dX1_local_89 ?_
                  refine q_iconstv (nI 1) ok (by decide) dX1_local_90 ?_
                  refine q_isubN (by omega) ok dX1_local_91 ?_
                  refine q_iconstv (nI 2) ok (by decide) dX1_local_92 ?_
                  refine q_idivN (by omega) (by omega) (by omega) ok dX1_local_93 ?_
                  rw [show (2 * r + 1 - 1) / 2 = r by omega]
                  refine q_iload_n ok rfl dX1_local_94 ?_
                  refine kX1_isDark g hs hmi hdi hr (by decide) (Nat.le_of_ble_eq_true rfl) ok dX1_local_95 ?_
                  refine ms_blk g (by omega) ok dX1_local_98 ?_
                  refine q_iincN_4 1 ok rfl (by decide) dX1_local_99 ?_
                  refine q_goto 59 ok dX1_local_102 (by decide) ?_
                  rw [pu_step (F := (fun k => drk sam w h (k % w) (k / w) r sh))]
                  exact ihL _ (by omega) (i + 1) rfl (by omega)
            have := L _ 0 rfl (Nat.zero_le _)
            rw [pu_0 (F := (fun k => drk sam w h (k % w) (k / w) r sh))] at this
            exact this
theorem pT_0 {w h : Nat} {a b : Int32} {came : Nat → Int32} : pT w h a b 0 came = came := by
  unfold pT
  split
  · rw [Int32.add_zero]; funext k
    by_cases e : k = pI w a b
    · rw [e, va_up_self]
    · rw [va_up_ne _ _ e]
  · rfl
theorem lT_0 {w h : Nat} {a b : Int32} {lost : Int64} : lT w h a b 0 lost = lost := by
  unfold lT
  split
  · rfl
  · rw [show (0 : Int32).toInt64 = 0 from by decide +kernel, Int64.add_zero]
theorem sS_m2 {w h : Nat} {sam : Nat → Nat} {knd : Int32} {x y : Nat} {blk : Nat → Bool} {lost : Int64} {came : Nat → Int32} {v e : Int32} {bl : Bool} (h2 : knd = nI 2) (hv : nI (sam (y * w + x)) + came (y * w + x) = v) (he : sE v = e) (hl : (if v < nI 128 then true else false) = bl) :
    sS w h sam (nI 1) knd x y (blk, lost, came) = (va_up blk (y * w + x) bl, lT w h (nI x - nI 1) (nI (y + 1)) (e - e / nI 2 - e / nI 4) (lT w h (nI x) (nI (y + 1)) (e / nI 4) (lT w h (nI (x + 1)) (nI y) (e / nI 2) lost)), pT w h (nI x - nI 1) (nI (y + 1)) (e - e / nI 2 - e / nI 4) (pT w h (nI x) (nI (y + 1)) (e / nI 4) (pT w h (nI (x + 1)) (nI y) (e / nI 2) came))) := by
  rw [sS_c hv he (be := e / nI 4) (if_pos h2) hl, nI_add]
theorem sS_m0 {w h : Nat} {sam : Nat → Nat} {stp knd a : Int32} {x y : Nat} {blk : Nat → Bool} {lost : Int64} {came : Nat → Int32} {v e : Int32} {bl : Bool} (h2 : ¬ knd = nI 2) (ha : nI x + stp = a) (hv : nI (sam (y * w + x)) + came (y * w + x) = v) (he : sE v = e) (hl : (if v < nI 128 then true else false) = bl) :
    sS w h sam stp knd x y (blk, lost, came) = (va_up blk (y * w + x) bl, lT w h (nI x) (nI (y + 1)) (e - e / nI 2) (lT w h a (nI y) (e / nI 2) lost), pT w h (nI x) (nI (y + 1)) (e - e / nI 2) (pT w h a (nI y) (e / nI 2) came)) := by
  rw [sS_c hv he (be := e - e / nI 2) (if_neg h2) hl, ha, Int32.sub_self, pT_0, lT_0]
def sp_X1_spread : List q_V → List q_E → (Option q_V → List q_E → Prop) → Prop := fun as Wd K => ∃ (w : Nat) (h : Nat) (thr : Nat) (sam : Nat → Nat) (blk : Nat → Bool) (nxt : Nat → Bool) (came : Nat → Int32) (part : Nat → Int32) (rst : Int64) (kd : Int32), (q_g w h) ∧ as = [.inr (.inr (some 0)), .inl kd] ∧ Wd = (mw w h thr sam blk nxt came part rst) ∧ (¬ kd < 0 → ¬ nI 2 < kd → K (some (.inl (nI (cntB (sAll w h sam kd h (blk, lN 0, fun j => if j < 256 then nI 0 else came j)).1 (w * h))))) (mw w h (0) sam ((sAll w h sam kd h (blk, lN 0, fun j => if j < 256 then nI 0 else came j)).1) nxt ((sAll w h sam kd h (blk, lN 0, fun j => if j < 256 then nI 0 else came j)).2.2) part ((sAll w h sam kd h (blk, lN 0, fun j => if j < 256 then nI 0 else came j)).2.1))) ∧ ((kd < 0 ∨ nI 2 < kd) → K (some (.inl (nI 0))) (mw w h (1) sam blk nxt came part rst))
set_option maxHeartbeats 4000000 in
set_option maxRecDepth 20000 in
theorem ct_X1_spread : q_Ct yX1_spread cX1_spread 11 (some .int) 2 45 sp_X1_spread := by
  refine q_met (by decide) ?_
  intro x as Wd K hs ok fn
  obtain ⟨w, h, thr, sam, blk, nxt, came, part, rst, kd, g, rfl, rfl, hk0, hk1⟩ := hs
  show q_W x 0 [some (.inr (.inr (some 0))), some (.inl kd), none, none, none, none, none, none, none, none, none] [] (mw w h thr sam blk nxt came part rst)
  refine q_aload_n ok rfl dX1_spread_0 ?_
  refine q_iload_n ok rfl dX1_spread_1 ?_
  refine q_if_lt 14 ok dX1_spread_2 (by decide) (fun h2 => ?_) (fun h2 => ?_)
  · refine q_iconstv (nI 1) ok (by decide) dX1_spread_14 ?_
    refine mp_thrown ok dX1_spread_15 ?_
    refine q_aload_n ok rfl dX1_spread_18 ?_
    refine mg_thrown ok dX1_spread_19 ?_
    refine q_if_le 27 ok dX1_spread_22 (by decide) (fun hh => absurd hh (by decide)) (fun _ => ?_)
    refine q_iconstv (nI 0) ok (by decide) dX1_spread_25 ?_
    exact q_iret ok fn dX1_spread_26 (hk1 (Or.inl h2))
  · refine q_iload_n ok rfl dX1_spread_5 ?_
    refine q_iconstv (nI 2) ok (by decide) dX1_spread_6 ?_
    refine q_icmp_gt 14 ok dX1_spread_7 (by decide) (fun h7 => ?_) (fun h7 => ?_)
    · refine q_iconstv (nI 1) ok (by decide) dX1_spread_14 ?_
      refine mp_thrown ok dX1_spread_15 ?_
      refine q_aload_n ok rfl dX1_spread_18 ?_
      refine mg_thrown ok dX1_spread_19 ?_
      refine q_if_le 27 ok dX1_spread_22 (by decide) (fun hh => absurd hh (by decide)) (fun _ => ?_)
      refine q_iconstv (nI 0) ok (by decide) dX1_spread_25 ?_
      exact q_iret ok fn dX1_spread_26 (hk1 (Or.inr h7))
    · refine q_iconstv (nI 0) ok (by decide) dX1_spread_10 ?_
      refine q_goto 15 ok dX1_spread_11 (by decide) ?_
      refine mp_thrown ok dX1_spread_15 ?_
      refine q_aload_n ok rfl dX1_spread_18 ?_
      refine mg_thrown ok dX1_spread_19 ?_
      refine q_if_le 27 ok dX1_spread_22 (by decide) (fun _ => ?_) (fun hh => absurd (by decide) hh)
      refine q_aload_n ok rfl dX1_spread_27 ?_
      refine q_lconstv (lN 0) ok rfl dX1_spread_28 ?_
      refine mp_rest ok dX1_spread_29 ?_
      refine q_iconstv (nI 0) ok (by decide) dX1_spread_32 ?_
      refine q_istore_2 ok rfl dX1_spread_33 ?_
      have hn := q_gn g
      have hw := g.2.1
      have hw1 := g.1
      have hh := g.2.2.2
      have hk0 := hk0 h2 h7
      have L : ∀ (dL y : Nat) (T : q_T) (u3 u4 u5 u6 u7 u8 u9 u10 : Option q_V), dL = h - y → y ≤ h → (sAll w h sam kd y (blk, lN 0, fun j => if j < 256 then nI 0 else came j)) = T → q_W x 56 [some (.inr (.inr (some 0))), some (.inl (kd)), some (.inl (nI (y))), u3, u4, u5, u6, u7, u8, u9, u10] [] (mw w h (0) sam (T.1) nxt (T.2.2) part (T.2.1)) := by
        intro dL
        induction dL using Nat.strongRecOn with
        | _ dL ihL =>
          intro y T u3 u4 u5 u6 u7 u8 u9 u10 hdL hiL hT
          refine q_iload_n ok rfl dX1_spread_56 ?_
          refine q_aload_n ok rfl dX1_spread_57 ?_
          refine mg_height ok dX1_spread_58 ?_
          refine q_icmpN_ge 288 (by omega) (by omega) ok dX1_spread_61 (by decide) (fun h61 => ?_) (fun h61 => ?_)
          · rw [show y = h by omega] at hT
            rw [← hT]
            refine q_aload_n ok rfl dX1_spread_288 ?_
            refine kX1_blacks g (by decide) (Nat.le_of_ble_eq_true rfl) ok dX1_spread_289 ?_
            exact q_iret ok fn dX1_spread_292 hk0
          · have LI : ∀ b : Bool, b = sBk kd y → ∀ (dLI i : Nat) (T : q_T) (u5 u6 u7 u8 u9 u10 : Option q_V), dLI = w - i → i ≤ w → sRow w h sam kd y i (sAll w h sam kd y (blk, lN 0, fun j => if j < 256 then nI 0 else came j)) = T → q_W x 85 [some (.inr (.inr (some 0))), some (.inl (kd)), some (.inl (nI (y))), some (.inl (bI (b))), some (.inl (nI (i))), u5, u6, u7, u8, u9, u10] [] (mw w h (0) sam (T.1) nxt (T.2.2) part (T.2.1)) := by
              intro b hB
              intro dLI
              induction dLI using Nat.strongRecOn with
              | _ dLI ihLI =>
                intro i T u5 u6 u7 u8 u9 u10 hdLI hiLI hT
                refine q_iload ok rfl dX1_spread_85 ?_
                refine q_aload_n ok rfl dX1_spread_87 ?_
                refine mg_width ok dX1_spread_88 ?_
                refine q_icmpN_ge 282 (by omega) (by omega) ok dX1_spread_91 (by decide) (fun h91 => ?_) (fun h91 => ?_)
                · refine q_iincN_2 1 ok rfl (by decide) dX1_spread_282 ?_
                  refine q_goto 56 ok dX1_spread_285 (by decide) ?_
                  exact ihL _ (by omega) (y + 1) T _ _ _ _ _ _ _ _ rfl (by omega) (by rw [← hT, show i = w by omega]; rfl)
                · have hiw : i < w := by omega
                  refine q_iload_n ok rfl dX1_spread_94 ?_
                  refine q_ifb_eq 110 ok dX1_spread_95 (by decide) (fun h95 => ?_) (fun h95 => ?_)
                  · refine q_iload ok rfl dX1_spread_110 ?_
                    refine q_istore_5 ok rfl dX1_spread_112 ?_
                    refine q_aload_n ok rfl dX1_spread_114 ?_
                    refine mg_width ok dX1_spread_115 ?_
                    refine q_iload_n ok rfl dX1_spread_118 ?_
                    refine q_imulN ok dX1_spread_119 ?_
                    refine q_iload ok rfl dX1_spread_120 ?_
                    refine q_iaddN ok dX1_spread_122 ?_
                    rw [Nat.mul_comm w y]
                    have hlt := pl_lt (w := w) (h := h) (i := i) (j := y) (by omega) (by omega)
                    refine q_istore_6 ok rfl dX1_spread_123 ?_
                    refine q_aload_n ok rfl dX1_spread_125 ?_
                    refine mg_samples ok dX1_spread_126 ?_
                    refine q_iload ok rfl dX1_spread_129 ?_
                    refine ml_sam g (by omega) ok dX1_spread_131 ?_
                    refine q_aload_n ok rfl dX1_spread_132 ?_
                    refine mg_came ok dX1_spread_133 ?_
                    refine q_iload ok rfl dX1_spread_136 ?_
                    refine ml_came g (by omega) ok dX1_spread_138 ?_
                    refine q_iadd ok dX1_spread_139 ?_
                    refine q_istore_7 ok rfl dX1_spread_140 ?_
                    refine q_aload_n ok rfl dX1_spread_142 ?_
                    refine mg_black ok dX1_spread_143 ?_
                    refine q_iload ok rfl dX1_spread_146 ?_
                    refine q_iload ok rfl dX1_spread_148 ?_
                    refine q_sipushv (nI 128) ok (by decide) dX1_spread_150 ?_
                    refine q_icmp_ge 160 ok dX1_spread_153 (by decide) (fun h153 => ?_) (fun h153 => ?_)
                    · refine q_iconstv (nI 0) ok (by decide) dX1_spread_160 ?_
                      refine ms_blk (v := false) g (by omega) ok dX1_spread_161 ?_
                      refine q_aload_n ok rfl dX1_spread_162 ?_
                      refine mg_black ok dX1_spread_163 ?_
                      refine q_iload ok rfl dX1_spread_166 ?_
                      refine ml_blk g (by omega) ok dX1_spread_168 ?_
                      refine q_ifb_eq 177 ok dX1_spread_169 (by decide) (fun h169 => ?_) (fun h169 => ?_)
                      · refine q_iload ok rfl dX1_spread_177 ?_
                        refine q_sipushv (nI 255) ok (by decide) dX1_spread_179 ?_
                        refine q_isub ok dX1_spread_182 ?_
                        refine q_istore_8 ok rfl dX1_spread_183 ?_
                        refine q_iload ok rfl dX1_spread_185 ?_
                        refine q_iconstv (nI 2) ok (by decide) dX1_spread_187 ?_
                        refine q_idiv ok (by decide) dX1_spread_188 ?_
                        refine q_istore_9 ok rfl dX1_spread_189 ?_
                        refine q_iload_n ok rfl dX1_spread_191 ?_
                        refine q_iconstv (nI 2) ok (by decide) dX1_spread_192 ?_
                        refine q_icmp_ne 203 ok dX1_spread_193 (by decide) (fun h193 => ?_) (fun h193 => ?_)
                        · refine q_iconstv (nI 0) ok (by decide) dX1_spread_203 ?_
                          refine q_istore_10 ok rfl dX1_spread_204 ?_
                          refine q_aload_n ok rfl dX1_spread_206 ?_
                          refine q_iload_n ok rfl dX1_spread_207 ?_
                          refine q_ifb_eq 218 ok dX1_spread_208 (by decide) (fun h208 => ?_) (fun h208 => ?_)
                          · refine q_iload ok rfl dX1_spread_218 ?_
                            refine q_iconstv (nI 1) ok (by decide) dX1_spread_220 ?_
                            refine q_iaddN ok dX1_spread_221 ?_
                            refine q_iload_n ok rfl dX1_spread_222 ?_
                            refine q_iload ok rfl dX1_spread_223 ?_
                            refine kX1_pass g (by decide) (Nat.le_of_ble_eq_true rfl) ok dX1_spread_225 ?_
                            refine q_aload_n ok rfl dX1_spread_228 ?_
                            refine q_iload ok rfl dX1_spread_229 ?_
                            refine q_iload_n ok rfl dX1_spread_231 ?_
                            refine q_iconstv (nI 1) ok (by decide) dX1_spread_232 ?_
                            refine q_iaddN ok dX1_spread_233 ?_
                            refine q_iload_n ok rfl dX1_spread_234 ?_
                            refine q_iconstv (nI 2) ok (by decide) dX1_spread_235 ?_
                            refine q_icmp_ne 244 ok dX1_spread_236 (by decide) (fun h236 => ?_) (fun h236 => ?_)
                            · refine q_iload ok rfl dX1_spread_244 ?_
                              refine q_iload ok rfl dX1_spread_246 ?_
                              refine q_isub ok dX1_spread_248 ?_
                              refine kX1_pass g (by decide) (Nat.le_of_ble_eq_true rfl) ok dX1_spread_249 ?_
                              refine q_iload_n ok rfl dX1_spread_252 ?_
                              refine q_iconstv (nI 2) ok (by decide) dX1_spread_253 ?_
                              refine q_icmp_ne 276 ok dX1_spread_254 (by decide) (fun h254 => ?_) (fun h254 => ?_)
                              · refine q_iincN_4 1 ok rfl (by decide) dX1_spread_276 ?_
                                refine q_goto 85 ok dX1_spread_279 (by decide) ?_
                                have ec := sS_m0 (x := i) (y := y) (blk := T.1) (lost := T.2.1) (came := T.2.2) (w := w) (h := h) (sam := sam) (stp := nI 1) h193 (nI_add i 1) rfl (if_neg (Int32.not_lt.mpr h153)) (if_neg (Int32.not_lt.mpr h153))
                                have e2 : sRow w h sam kd y (i + 1) (sAll w h sam kd y (blk, lN 0, fun j => if j < 256 then nI 0 else came j)) = sS w h sam (nI 1) kd i y T := by
                                  show sS w h sam (sSt (sBk kd y)) kd (sX w (sBk kd y) i) y (sRow w h sam kd y i (sAll w h sam kd y (blk, lN 0, fun j => if j < 256 then nI 0 else came j))) = _
                                  rw [hT, ← hB, h95]; rfl
                                rw [show (T.1, T.2.1, T.2.2) = T from rfl] at ec
                                rw [ec] at e2
                                exact ihLI _ (by omega) (i + 1) _ _ _ _ _ _ _ rfl (by omega) e2
                              · exact absurd h254 h193
                            · exact absurd h236 h193
                          · exact absurd (h95.symm.trans h208) (by decide)
                        · refine q_iload ok rfl dX1_spread_196 ?_
                          refine q_iconstv (nI 4) ok (by decide) dX1_spread_198 ?_
                          refine q_idiv ok (by decide) dX1_spread_199 ?_
                          refine q_goto 204 ok dX1_spread_200 (by decide) ?_
                          refine q_istore_10 ok rfl dX1_spread_204 ?_
                          refine q_aload_n ok rfl dX1_spread_206 ?_
                          refine q_iload_n ok rfl dX1_spread_207 ?_
                          refine q_ifb_eq 218 ok dX1_spread_208 (by decide) (fun h208 => ?_) (fun h208 => ?_)
                          · refine q_iload ok rfl dX1_spread_218 ?_
                            refine q_iconstv (nI 1) ok (by decide) dX1_spread_220 ?_
                            refine q_iaddN ok dX1_spread_221 ?_
                            refine q_iload_n ok rfl dX1_spread_222 ?_
                            refine q_iload ok rfl dX1_spread_223 ?_
                            refine kX1_pass g (by decide) (Nat.le_of_ble_eq_true rfl) ok dX1_spread_225 ?_
                            refine q_aload_n ok rfl dX1_spread_228 ?_
                            refine q_iload ok rfl dX1_spread_229 ?_
                            refine q_iload_n ok rfl dX1_spread_231 ?_
                            refine q_iconstv (nI 1) ok (by decide) dX1_spread_232 ?_
                            refine q_iaddN ok dX1_spread_233 ?_
                            refine q_iload_n ok rfl dX1_spread_234 ?_
                            refine q_iconstv (nI 2) ok (by decide) dX1_spread_235 ?_
                            refine q_icmp_ne 244 ok dX1_spread_236 (by decide) (fun h236 => ?_) (fun h236 => ?_)
                            · exact absurd h193 h236
                            · refine q_iload ok rfl dX1_spread_239 ?_
                              refine q_goto 249 ok dX1_spread_241 (by decide) ?_
                              refine kX1_pass g (by decide) (Nat.le_of_ble_eq_true rfl) ok dX1_spread_249 ?_
                              refine q_iload_n ok rfl dX1_spread_252 ?_
                              refine q_iconstv (nI 2) ok (by decide) dX1_spread_253 ?_
                              refine q_icmp_ne 276 ok dX1_spread_254 (by decide) (fun h254 => ?_) (fun h254 => ?_)
                              · exact absurd h193 h254
                              · refine q_aload_n ok rfl dX1_spread_257 ?_
                                refine q_iload ok rfl dX1_spread_258 ?_
                                refine q_iconstv (nI 1) ok (by decide) dX1_spread_260 ?_
                                refine q_isub ok dX1_spread_261 ?_
                                refine q_iload_n ok rfl dX1_spread_262 ?_
                                refine q_iconstv (nI 1) ok (by decide) dX1_spread_263 ?_
                                refine q_iaddN ok dX1_spread_264 ?_
                                refine q_iload ok rfl dX1_spread_265 ?_
                                refine q_iload ok rfl dX1_spread_267 ?_
                                refine q_isub ok dX1_spread_269 ?_
                                refine q_iload ok rfl dX1_spread_270 ?_
                                refine q_isub ok dX1_spread_272 ?_
                                refine kX1_pass g (by decide) (Nat.le_of_ble_eq_true rfl) ok dX1_spread_273 ?_
                                refine q_iincN_4 1 ok rfl (by decide) dX1_spread_276 ?_
                                refine q_goto 85 ok dX1_spread_279 (by decide) ?_
                                have ec := sS_m2 (x := i) (y := y) (blk := T.1) (lost := T.2.1) (came := T.2.2) (w := w) (h := h) (sam := sam) h193 rfl (if_neg (Int32.not_lt.mpr h153)) (if_neg (Int32.not_lt.mpr h153))
                                have e2 : sRow w h sam kd y (i + 1) (sAll w h sam kd y (blk, lN 0, fun j => if j < 256 then nI 0 else came j)) = sS w h sam (nI 1) kd i y T := by
                                  show sS w h sam (sSt (sBk kd y)) kd (sX w (sBk kd y) i) y (sRow w h sam kd y i (sAll w h sam kd y (blk, lN 0, fun j => if j < 256 then nI 0 else came j))) = _
                                  rw [hT, ← hB, h95]; rfl
                                rw [show (T.1, T.2.1, T.2.2) = T from rfl] at ec
                                rw [ec] at e2
                                exact ihLI _ (by omega) (i + 1) _ _ _ _ _ _ _ rfl (by omega) e2
                          · exact absurd (h95.symm.trans h208) (by decide)
                      · exact absurd h169 (by rw [va_up_self]; decide)
                    · refine q_iconstv (nI 1) ok (by decide) dX1_spread_156 ?_
                      refine q_goto 161 ok dX1_spread_157 (by decide) ?_
                      refine ms_blk (v := true) g (by omega) ok dX1_spread_161 ?_
                      refine q_aload_n ok rfl dX1_spread_162 ?_
                      refine mg_black ok dX1_spread_163 ?_
                      refine q_iload ok rfl dX1_spread_166 ?_
                      refine ml_blk g (by omega) ok dX1_spread_168 ?_
                      refine q_ifb_eq 177 ok dX1_spread_169 (by decide) (fun h169 => ?_) (fun h169 => ?_)
                      · exact absurd h169 (by rw [va_up_self]; decide)
                      · refine q_iload ok rfl dX1_spread_172 ?_
                        refine q_goto 183 ok dX1_spread_174 (by decide) ?_
                        refine q_istore_8 ok rfl dX1_spread_183 ?_
                        refine q_iload ok rfl dX1_spread_185 ?_
                        refine q_iconstv (nI 2) ok (by decide) dX1_spread_187 ?_
                        refine q_idiv ok (by decide) dX1_spread_188 ?_
                        refine q_istore_9 ok rfl dX1_spread_189 ?_
                        refine q_iload_n ok rfl dX1_spread_191 ?_
                        refine q_iconstv (nI 2) ok (by decide) dX1_spread_192 ?_
                        refine q_icmp_ne 203 ok dX1_spread_193 (by decide) (fun h193 => ?_) (fun h193 => ?_)
                        · refine q_iconstv (nI 0) ok (by decide) dX1_spread_203 ?_
                          refine q_istore_10 ok rfl dX1_spread_204 ?_
                          refine q_aload_n ok rfl dX1_spread_206 ?_
                          refine q_iload_n ok rfl dX1_spread_207 ?_
                          refine q_ifb_eq 218 ok dX1_spread_208 (by decide) (fun h208 => ?_) (fun h208 => ?_)
                          · refine q_iload ok rfl dX1_spread_218 ?_
                            refine q_iconstv (nI 1) ok (by decide) dX1_spread_220 ?_
                            refine q_iaddN ok dX1_spread_221 ?_
                            refine q_iload_n ok rfl dX1_spread_222 ?_
                            refine q_iload ok rfl dX1_spread_223 ?_
                            refine kX1_pass g (by decide) (Nat.le_of_ble_eq_true rfl) ok dX1_spread_225 ?_
                            refine q_aload_n ok rfl dX1_spread_228 ?_
                            refine q_iload ok rfl dX1_spread_229 ?_
                            refine q_iload_n ok rfl dX1_spread_231 ?_
                            refine q_iconstv (nI 1) ok (by decide) dX1_spread_232 ?_
                            refine q_iaddN ok dX1_spread_233 ?_
                            refine q_iload_n ok rfl dX1_spread_234 ?_
                            refine q_iconstv (nI 2) ok (by decide) dX1_spread_235 ?_
                            refine q_icmp_ne 244 ok dX1_spread_236 (by decide) (fun h236 => ?_) (fun h236 => ?_)
                            · refine q_iload ok rfl dX1_spread_244 ?_
                              refine q_iload ok rfl dX1_spread_246 ?_
                              refine q_isub ok dX1_spread_248 ?_
                              refine kX1_pass g (by decide) (Nat.le_of_ble_eq_true rfl) ok dX1_spread_249 ?_
                              refine q_iload_n ok rfl dX1_spread_252 ?_
                              refine q_iconstv (nI 2) ok (by decide) dX1_spread_253 ?_
                              refine q_icmp_ne 276 ok dX1_spread_254 (by decide) (fun h254 => ?_) (fun h254 => ?_)
                              · refine q_iincN_4 1 ok rfl (by decide) dX1_spread_276 ?_
                                refine q_goto 85 ok dX1_spread_279 (by decide) ?_
                                have ec := sS_m0 (x := i) (y := y) (blk := T.1) (lost := T.2.1) (came := T.2.2) (w := w) (h := h) (sam := sam) (stp := nI 1) h193 (nI_add i 1) rfl (if_pos (Int32.not_le.mp h153)) (if_pos (Int32.not_le.mp h153))
                                have e2 : sRow w h sam kd y (i + 1) (sAll w h sam kd y (blk, lN 0, fun j => if j < 256 then nI 0 else came j)) = sS w h sam (nI 1) kd i y T := by
                                  show sS w h sam (sSt (sBk kd y)) kd (sX w (sBk kd y) i) y (sRow w h sam kd y i (sAll w h sam kd y (blk, lN 0, fun j => if j < 256 then nI 0 else came j))) = _
                                  rw [hT, ← hB, h95]; rfl
                                rw [show (T.1, T.2.1, T.2.2) = T from rfl] at ec
                                rw [ec] at e2
                                exact ihLI _ (by omega) (i + 1) _ _ _ _ _ _ _ rfl (by omega) e2
                              · exact absurd h254 h193
                            · exact absurd h236 h193
                          · exact absurd (h95.symm.trans h208) (by decide)
                        · refine q_iload ok rfl dX1_spread_196 ?_
                          refine q_iconstv (nI 4) ok (by decide) dX1_spread_198 ?_
                          refine q_idiv ok (by decide) dX1_spread_199 ?_
                          refine q_goto 204 ok dX1_spread_200 (by decide) ?_
                          refine q_istore_10 ok rfl dX1_spread_204 ?_
                          refine q_aload_n ok rfl dX1_spread_206 ?_
                          refine q_iload_n ok rfl dX1_spread_207 ?_
                          refine q_ifb_eq 218 ok dX1_spread_208 (by decide) (fun h208 => ?_) (fun h208 => ?_)
                          · refine q_iload ok rfl dX1_spread_218 ?_
                            refine q_iconstv (nI 1) ok (by decide) dX1_spread_220 ?_
                            refine q_iaddN ok dX1_spread_221 ?_
                            refine q_iload_n ok rfl dX1_spread_222 ?_
                            refine q_iload ok rfl dX1_spread_223 ?_
                            refine kX1_pass g (by decide) (Nat.le_of_ble_eq_true rfl) ok dX1_spread_225 ?_
                            refine q_aload_n ok rfl dX1_spread_228 ?_
                            refine q_iload ok rfl dX1_spread_229 ?_
                            refine q_iload_n ok rfl dX1_spread_231 ?_
                            refine q_iconstv (nI 1) ok (by decide) dX1_spread_232 ?_
                            refine q_iaddN ok dX1_spread_233 ?_
                            refine q_iload_n ok rfl dX1_spread_234 ?_
                            refine q_iconstv (nI 2) ok (by decide) dX1_spread_235 ?_
                            refine q_icmp_ne 244 ok dX1_spread_236 (by decide) (fun h236 => ?_) (fun h236 => ?_)
                            · exact absurd h193 h236
                            · refine q_iload ok rfl dX1_spread_239 ?_
                              refine q_goto 249 ok dX1_spread_241 (by decide) ?_
                              refine kX1_pass g (by decide) (Nat.le_of_ble_eq_true rfl) ok dX1_spread_249 ?_
                              refine q_iload_n ok rfl dX1_spread_252 ?_
                              refine q_iconstv (nI 2) ok (by decide) dX1_spread_253 ?_
                              refine q_icmp_ne 276 ok dX1_spread_254 (by decide) (fun h254 => ?_) (fun h254 => ?_)
                              · exact absurd h193 h254
                              · refine q_aload_n ok rfl dX1_spread_257 ?_
                                refine q_iload ok rfl dX1_spread_258 ?_
                                refine q_iconstv (nI 1) ok (by decide) dX1_spread_260 ?_
                                refine q_isub ok dX1_spread_261 ?_
                                refine q_iload_n ok rfl dX1_spread_262 ?_
                                refine q_iconstv (nI 1) ok (by decide) dX1_spread_263 ?_
                                refine q_iaddN ok dX1_spread_264 ?_
                                refine q_iload ok rfl dX1_spread_265 ?_
                                refine q_iload ok rfl dX1_spread_267 ?_
                                refine q_isub ok dX1_spread_269 ?_
                                refine q_iload ok rfl dX1_spread_270 ?_
                                refine q_isub ok dX1_spread_272 ?_
                                refine kX1_pass g (by decide) (Nat.le_of_ble_eq_true rfl) ok dX1_spread_273 ?_
                                refine q_iincN_4 1 ok rfl (by decide) dX1_spread_276 ?_
                                refine q_goto 85 ok dX1_spread_279 (by decide) ?_
                                have ec := sS_m2 (x := i) (y := y) (blk := T.1) (lost := T.2.1) (came := T.2.2) (w := w) (h := h) (sam := sam) h193 rfl (if_pos (Int32.not_le.mp h153)) (if_pos (Int32.not_le.mp h153))
                                have e2 : sRow w h sam kd y (i + 1) (sAll w h sam kd y (blk, lN 0, fun j => if j < 256 then nI 0 else came j)) = sS w h sam (nI 1) kd i y T := by
                                  show sS w h sam (sSt (sBk kd y)) kd (sX w (sBk kd y) i) y (sRow w h sam kd y i (sAll w h sam kd y (blk, lN 0, fun j => if j < 256 then nI 0 else came j))) = _
                                  rw [hT, ← hB, h95]; rfl
                                rw [show (T.1, T.2.1, T.2.2) = T from rfl] at ec
                                rw [ec] at e2
                                exact ihLI _ (by omega) (i + 1) _ _ _ _ _ _ _ rfl (by omega) e2
                          · exact absurd (h95.symm.trans h208) (by decide)
                  · refine q_aload_n ok rfl dX1_spread_98 ?_
                    refine mg_width ok dX1_spread_99 ?_
                    refine q_iconstv (nI 1) ok (by decide) dX1_spread_102 ?_
                    refine q_isubN (by omega) ok dX1_spread_103 ?_
                    refine q_iload ok rfl dX1_spread_104 ?_
                    refine q_isubN (by omega) ok dX1_spread_106 ?_
                    refine q_goto 112 ok dX1_spread_107 (by decide) ?_
                    refine q_istore_5 ok rfl dX1_spread_112 ?_
                    refine q_aload_n ok rfl dX1_spread_114 ?_
                    refine mg_width ok dX1_spread_115 ?_
                    refine q_iload_n ok rfl dX1_spread_118 ?_
                    refine q_imulN ok dX1_spread_119 ?_
                    refine q_iload ok rfl dX1_spread_120 ?_
                    refine q_iaddN ok dX1_spread_122 ?_
                    rw [Nat.mul_comm w y]
                    have hlt := pl_lt (w := w) (h := h) (i := w - 1 - i) (j := y) (by omega) (by omega)
                    refine q_istore_6 ok rfl dX1_spread_123 ?_
                    refine q_aload_n ok rfl dX1_spread_125 ?_
                    refine mg_samples ok dX1_spread_126 ?_
                    refine q_iload ok rfl dX1_spread_129 ?_
                    refine ml_sam g (by omega) ok dX1_spread_131 ?_
                    refine q_aload_n ok rfl dX1_spread_132 ?_
                    refine mg_came ok dX1_spread_133 ?_
                    refine q_iload ok rfl dX1_spread_136 ?_
                    refine ml_came g (by omega) ok dX1_spread_138 ?_
                    refine q_iadd ok dX1_spread_139 ?_
                    refine q_istore_7 ok rfl dX1_spread_140 ?_
                    refine q_aload_n ok rfl dX1_spread_142 ?_
                    refine mg_black ok dX1_spread_143 ?_
                    refine q_iload ok rfl dX1_spread_146 ?_
                    refine q_iload ok rfl dX1_spread_148 ?_
                    refine q_sipushv (nI 128) ok (by decide) dX1_spread_150 ?_
                    refine q_icmp_ge 160 ok dX1_spread_153 (by decide) (fun h153 => ?_) (fun h153 => ?_)
                    · refine q_iconstv (nI 0) ok (by decide) dX1_spread_160 ?_
                      refine ms_blk (v := false) g (by omega) ok dX1_spread_161 ?_
                      refine q_aload_n ok rfl dX1_spread_162 ?_
                      refine mg_black ok dX1_spread_163 ?_
                      refine q_iload ok rfl dX1_spread_166 ?_
                      refine ml_blk g (by omega) ok dX1_spread_168 ?_
                      refine q_ifb_eq 177 ok dX1_spread_169 (by decide) (fun h169 => ?_) (fun h169 => ?_)
                      · refine q_iload ok rfl dX1_spread_177 ?_
                        refine q_sipushv (nI 255) ok (by decide) dX1_spread_179 ?_
                        refine q_isub ok dX1_spread_182 ?_
                        refine q_istore_8 ok rfl dX1_spread_183 ?_
                        refine q_iload ok rfl dX1_spread_185 ?_
                        refine q_iconstv (nI 2) ok (by decide) dX1_spread_187 ?_
                        refine q_idiv ok (by decide) dX1_spread_188 ?_
                        refine q_istore_9 ok rfl dX1_spread_189 ?_
                        refine q_iload_n ok rfl dX1_spread_191 ?_
                        refine q_iconstv (nI 2) ok (by decide) dX1_spread_192 ?_
                        refine q_icmp_ne 203 ok dX1_spread_193 (by decide) (fun h193 => ?_) (fun h193 => ?_)
                        · refine q_iconstv (nI 0) ok (by decide) dX1_spread_203 ?_
                          refine q_istore_10 ok rfl dX1_spread_204 ?_
                          refine q_aload_n ok rfl dX1_spread_206 ?_
                          refine q_iload_n ok rfl dX1_spread_207 ?_
                          refine q_ifb_eq 218 ok dX1_spread_208 (by decide) (fun h208 => ?_) (fun h208 => ?_)
                          · exact absurd (h95.symm.trans h208) (by decide)
                          · refine q_iload ok rfl dX1_spread_211 ?_
                            refine q_iconstv (nI 1) ok (by decide) dX1_spread_213 ?_
                            refine q_isub ok dX1_spread_214 ?_
                            refine q_goto 222 ok dX1_spread_215 (by decide) ?_
                            refine q_iload_n ok rfl dX1_spread_222 ?_
                            refine q_iload ok rfl dX1_spread_223 ?_
                            refine kX1_pass g (by decide) (Nat.le_of_ble_eq_true rfl) ok dX1_spread_225 ?_
                            refine q_aload_n ok rfl dX1_spread_228 ?_
                            refine q_iload ok rfl dX1_spread_229 ?_
                            refine q_iload_n ok rfl dX1_spread_231 ?_
                            refine q_iconstv (nI 1) ok (by decide) dX1_spread_232 ?_
                            refine q_iaddN ok dX1_spread_233 ?_
                            refine q_iload_n ok rfl dX1_spread_234 ?_
                            refine q_iconstv (nI 2) ok (by decide) dX1_spread_235 ?_
                            refine q_icmp_ne 244 ok dX1_spread_236 (by decide) (fun h236 => ?_) (fun h236 => ?_)
                            · refine q_iload ok rfl dX1_spread_244 ?_
                              refine q_iload ok rfl dX1_spread_246 ?_
                              refine q_isub ok dX1_spread_248 ?_
                              refine kX1_pass g (by decide) (Nat.le_of_ble_eq_true rfl) ok dX1_spread_249 ?_
                              refine q_iload_n ok rfl dX1_spread_252 ?_
                              refine q_iconstv (nI 2) ok (by decide) dX1_spread_253 ?_
                              refine q_icmp_ne 276 ok dX1_spread_254 (by decide) (fun h254 => ?_) (fun h254 => ?_)
                              · refine q_iincN_4 1 ok rfl (by decide) dX1_spread_276 ?_
                                refine q_goto 85 ok dX1_spread_279 (by decide) ?_
                                have ec := sS_m0 (x := (w - 1 - i)) (y := y) (blk := T.1) (lost := T.2.1) (came := T.2.2) (w := w) (h := h) (sam := sam) (stp := -1) h193 (show nI (w - 1 - i) + (-1) = nI (w - 1 - i) - nI 1 from (Int32.sub_eq_add_neg _ _).symm) rfl (if_neg (Int32.not_lt.mpr h153)) (if_neg (Int32.not_lt.mpr h153))
                                have e2 : sRow w h sam kd y (i + 1) (sAll w h sam kd y (blk, lN 0, fun j => if j < 256 then nI 0 else came j)) = sS w h sam (-1) kd (w - 1 - i) y T := by
                                  show sS w h sam (sSt (sBk kd y)) kd (sX w (sBk kd y) i) y (sRow w h sam kd y i (sAll w h sam kd y (blk, lN 0, fun j => if j < 256 then nI 0 else came j))) = _
                                  rw [hT, ← hB, h95]; rfl
                                rw [show (T.1, T.2.1, T.2.2) = T from rfl] at ec
                                rw [ec] at e2
                                exact ihLI _ (by omega) (i + 1) _ _ _ _ _ _ _ rfl (by omega) e2
                              · exact absurd h254 h193
                            · exact absurd h236 h193
                        · refine q_iload ok rfl dX1_spread_196 ?_
                          refine q_iconstv (nI 4) ok (by decide) dX1_spread_198 ?_
                          refine q_idiv ok (by decide) dX1_spread_199 ?_
                          refine q_goto 204 ok dX1_spread_200 (by decide) ?_
                          refine q_istore_10 ok rfl dX1_spread_204 ?_
                          refine q_aload_n ok rfl dX1_spread_206 ?_
                          refine q_iload_n ok rfl dX1_spread_207 ?_
                          refine q_ifb_eq 218 ok dX1_spread_208 (by decide) (fun h208 => ?_) (fun h208 => ?_)
                          · exact absurd (h95.symm.trans h208) (by decide)
                          · refine q_iload ok rfl dX1_spread_211 ?_
                            refine q_iconstv (nI 1) ok (by decide) dX1_spread_213 ?_
                            refine q_isub ok dX1_spread_214 ?_
                            refine q_goto 222 ok dX1_spread_215 (by decide) ?_
                            refine q_iload_n ok rfl dX1_spread_222 ?_
                            refine q_iload ok rfl dX1_spread_223 ?_
                            refine kX1_pass g (by decide) (Nat.le_of_ble_eq_true rfl) ok dX1_spread_225 ?_
                            refine q_aload_n ok rfl dX1_spread_228 ?_
                            refine q_iload ok rfl dX1_spread_229 ?_
                            refine q_iload_n ok rfl dX1_spread_231 ?_
                            refine q_iconstv (nI 1) ok (by decide) dX1_spread_232 ?_
                            refine q_iaddN ok dX1_spread_233 ?_
                            refine q_iload_n ok rfl dX1_spread_234 ?_
                            refine q_iconstv (nI 2) ok (by decide) dX1_spread_235 ?_
                            refine q_icmp_ne 244 ok dX1_spread_236 (by decide) (fun h236 => ?_) (fun h236 => ?_)
                            · exact absurd h193 h236
                            · refine q_iload ok rfl dX1_spread_239 ?_
                              refine q_goto 249 ok dX1_spread_241 (by decide) ?_
                              refine kX1_pass g (by decide) (Nat.le_of_ble_eq_true rfl) ok dX1_spread_249 ?_
                              refine q_iload_n ok rfl dX1_spread_252 ?_
                              refine q_iconstv (nI 2) ok (by decide) dX1_spread_253 ?_
                              refine q_icmp_ne 276 ok dX1_spread_254 (by decide) (fun h254 => ?_) (fun h254 => ?_)
                              · exact absurd h193 h254
                              · refine q_aload_n ok rfl dX1_spread_257 ?_
                                refine q_iload ok rfl dX1_spread_258 ?_
                                refine q_iconstv (nI 1) ok (by decide) dX1_spread_260 ?_
                                refine q_isub ok dX1_spread_261 ?_
                                refine q_iload_n ok rfl dX1_spread_262 ?_
                                refine q_iconstv (nI 1) ok (by decide) dX1_spread_263 ?_
                                refine q_iaddN ok dX1_spread_264 ?_
                                refine q_iload ok rfl dX1_spread_265 ?_
                                refine q_iload ok rfl dX1_spread_267 ?_
                                refine q_isub ok dX1_spread_269 ?_
                                refine q_iload ok rfl dX1_spread_270 ?_
                                refine q_isub ok dX1_spread_272 ?_
                                refine kX1_pass g (by decide) (Nat.le_of_ble_eq_true rfl) ok dX1_spread_273 ?_
                                refine q_iincN_4 1 ok rfl (by decide) dX1_spread_276 ?_
                                refine q_goto 85 ok dX1_spread_279 (by decide) ?_
                                exact absurd (of_decide_eq_true (hB.symm.trans h95)).1 (by rw [h193]; decide)
                      · exact absurd h169 (by rw [va_up_self]; decide)
                    · refine q_iconstv (nI 1) ok (by decide) dX1_spread_156 ?_
                      refine q_goto 161 ok dX1_spread_157 (by decide) ?_
                      refine ms_blk (v := true) g (by omega) ok dX1_spread_161 ?_
                      refine q_aload_n ok rfl dX1_spread_162 ?_
                      refine mg_black ok dX1_spread_163 ?_
                      refine q_iload ok rfl dX1_spread_166 ?_
                      refine ml_blk g (by omega) ok dX1_spread_168 ?_
                      refine q_ifb_eq 177 ok dX1_spread_169 (by decide) (fun h169 => ?_) (fun h169 => ?_)
                      · exact absurd h169 (by rw [va_up_self]; decide)
                      · refine q_iload ok rfl dX1_spread_172 ?_
                        refine q_goto 183 ok dX1_spread_174 (by decide) ?_
                        refine q_istore_8 ok rfl dX1_spread_183 ?_
                        refine q_iload ok rfl dX1_spread_185 ?_
                        refine q_iconstv (nI 2) ok (by decide) dX1_spread_187 ?_
                        refine q_idiv ok (by decide) dX1_spread_188 ?_
                        refine q_istore_9 ok rfl dX1_spread_189 ?_
                        refine q_iload_n ok rfl dX1_spread_191 ?_
                        refine q_iconstv (nI 2) ok (by decide) dX1_spread_192 ?_
                        refine q_icmp_ne 203 ok dX1_spread_193 (by decide) (fun h193 => ?_) (fun h193 => ?_)
                        · refine q_iconstv (nI 0) ok (by decide) dX1_spread_203 ?_
                          refine q_istore_10 ok rfl dX1_spread_204 ?_
                          refine q_aload_n ok rfl dX1_spread_206 ?_
                          refine q_iload_n ok rfl dX1_spread_207 ?_
                          refine q_ifb_eq 218 ok dX1_spread_208 (by decide) (fun h208 => ?_) (fun h208 => ?_)
                          · exact absurd (h95.symm.trans h208) (by decide)
                          · refine q_iload ok rfl dX1_spread_211 ?_
                            refine q_iconstv (nI 1) ok (by decide) dX1_spread_213 ?_
                            refine q_isub ok dX1_spread_214 ?_
                            refine q_goto 222 ok dX1_spread_215 (by decide) ?_
                            refine q_iload_n ok rfl dX1_spread_222 ?_
                            refine q_iload ok rfl dX1_spread_223 ?_
                            refine kX1_pass g (by decide) (Nat.le_of_ble_eq_true rfl) ok dX1_spread_225 ?_
                            refine q_aload_n ok rfl dX1_spread_228 ?_
                            refine q_iload ok rfl dX1_spread_229 ?_
                            refine q_iload_n ok rfl dX1_spread_231 ?_
                            refine q_iconstv (nI 1) ok (by decide) dX1_spread_232 ?_
                            refine q_iaddN ok dX1_spread_233 ?_
                            refine q_iload_n ok rfl dX1_spread_234 ?_
                            refine q_iconstv (nI 2) ok (by decide) dX1_spread_235 ?_
                            refine q_icmp_ne 244 ok dX1_spread_236 (by decide) (fun h236 => ?_) (fun h236 => ?_)
                            · refine q_iload ok rfl dX1_spread_244 ?_
                              refine q_iload ok rfl dX1_spread_246 ?_
                              refine q_isub ok dX1_spread_248 ?_
                              refine kX1_pass g (by decide) (Nat.le_of_ble_eq_true rfl) ok dX1_spread_249 ?_
                              refine q_iload_n ok rfl dX1_spread_252 ?_
                              refine q_iconstv (nI 2) ok (by decide) dX1_spread_253 ?_
                              refine q_icmp_ne 276 ok dX1_spread_254 (by decide) (fun h254 => ?_) (fun h254 => ?_)
                              · refine q_iincN_4 1 ok rfl (by decide) dX1_spread_276 ?_
                                refine q_goto 85 ok dX1_spread_279 (by decide) ?_
                                have ec := sS_m0 (x := (w - 1 - i)) (y := y) (blk := T.1) (lost := T.2.1) (came := T.2.2) (w := w) (h := h) (sam := sam) (stp := -1) h193 (show nI (w - 1 - i) + (-1) = nI (w - 1 - i) - nI 1 from (Int32.sub_eq_add_neg _ _).symm) rfl (if_pos (Int32.not_le.mp h153)) (if_pos (Int32.not_le.mp h153))
                                have e2 : sRow w h sam kd y (i + 1) (sAll w h sam kd y (blk, lN 0, fun j => if j < 256 then nI 0 else came j)) = sS w h sam (-1) kd (w - 1 - i) y T := by
                                  show sS w h sam (sSt (sBk kd y)) kd (sX w (sBk kd y) i) y (sRow w h sam kd y i (sAll w h sam kd y (blk, lN 0, fun j => if j < 256 then nI 0 else came j))) = _
                                  rw [hT, ← hB, h95]; rfl
                                rw [show (T.1, T.2.1, T.2.2) = T from rfl] at ec
                                rw [ec] at e2
                                exact ihLI _ (by omega) (i + 1) _ _ _ _ _ _ _ rfl (by omega) e2
                              · exact absurd h254 h193
                            · exact absurd h236 h193
                        · refine q_iload ok rfl dX1_spread_196 ?_
                          refine q_iconstv (nI 4) ok (by decide) dX1_spread_198 ?_
                          refine q_idiv ok (by decide) dX1_spread_199 ?_
                          refine q_goto 204 ok dX1_spread_200 (by decide) ?_
                          refine q_istore_10 ok rfl dX1_spread_204 ?_
                          refine q_aload_n ok rfl dX1_spread_206 ?_
                          refine q_iload_n ok rfl dX1_spread_207 ?_
                          refine q_ifb_eq 218 ok dX1_spread_208 (by decide) (fun h208 => ?_) (fun h208 => ?_)
                          · exact absurd (h95.symm.trans h208) (by decide)
                          · refine q_iload ok rfl dX1_spread_211 ?_
                            refine q_iconstv (nI 1) ok (by decide) dX1_spread_213 ?_
                            refine q_isub ok dX1_spread_214 ?_
                            refine q_goto 222 ok dX1_spread_215 (by decide) ?_
                            refine q_iload_n ok rfl dX1_spread_222 ?_
                            refine q_iload ok rfl dX1_spread_223 ?_
                            refine kX1_pass g (by decide) (Nat.le_of_ble_eq_true rfl) ok dX1_spread_225 ?_
                            refine q_aload_n ok rfl dX1_spread_228 ?_
                            refine q_iload ok rfl dX1_spread_229 ?_
                            refine q_iload_n ok rfl dX1_spread_231 ?_
                            refine q_iconstv (nI 1) ok (by decide) dX1_spread_232 ?_
                            refine q_iaddN ok dX1_spread_233 ?_
                            refine q_iload_n ok rfl dX1_spread_234 ?_
                            refine q_iconstv (nI 2) ok (by decide) dX1_spread_235 ?_
                            refine q_icmp_ne 244 ok dX1_spread_236 (by decide) (fun h236 => ?_) (fun h236 => ?_)
                            · exact absurd h193 h236
                            · refine q_iload ok rfl dX1_spread_239 ?_
                              refine q_goto 249 ok dX1_spread_241 (by decide) ?_
                              refine kX1_pass g (by decide) (Nat.le_of_ble_eq_true rfl) ok dX1_spread_249 ?_
                              refine q_iload_n ok rfl dX1_spread_252 ?_
                              refine q_iconstv (nI 2) ok (by decide) dX1_spread_253 ?_
                              refine q_icmp_ne 276 ok dX1_spread_254 (by decide) (fun h254 => ?_) (fun h254 => ?_)
                              · exact absurd h193 h254
                              · refine q_aload_n ok rfl dX1_spread_257 ?_
                                refine q_iload ok rfl dX1_spread_258 ?_
                                refine q_iconstv (nI 1) ok (by decide) dX1_spread_260 ?_
                                refine q_isub ok dX1_spread_261 ?_
                                refine q_iload_n ok rfl dX1_spread_262 ?_
                                refine q_iconstv (nI 1) ok (by decide) dX1_spread_263 ?_
                                refine q_iaddN ok dX1_spread_264 ?_
                                refine q_iload ok rfl dX1_spread_265 ?_
                                refine q_iload ok rfl dX1_spread_267 ?_
                                refine q_isub ok dX1_spread_269 ?_
                                refine q_iload ok rfl dX1_spread_270 ?_
                                refine q_isub ok dX1_spread_272 ?_
                                refine kX1_pass g (by decide) (Nat.le_of_ble_eq_true rfl) ok dX1_spread_273 ?_
                                refine q_iincN_4 1 ok rfl (by decide) dX1_spread_276 ?_
                                refine q_goto 85 ok dX1_spread_279 (by decide) ?_
                                exact absurd (of_decide_eq_true (hB.symm.trans h95)).1 (by rw [h193]; decide)
            refine q_iload_n ok rfl dX1_spread_64 ?_
            refine q_iconstv (nI 1) ok (by decide) dX1_spread_65 ?_
            refine q_icmp_ne 80 ok dX1_spread_66 (by decide) (fun h66 => ?_) (fun h66 => ?_)
            · refine q_iconstv (nI 0) ok (by decide) dX1_spread_80 ?_
              refine q_istore_3 ok rfl dX1_spread_81 ?_
              refine q_iconstv (nI 0) ok (by decide) dX1_spread_82 ?_
              refine q_istore_4 ok rfl dX1_spread_83 ?_
              have hB : false = sBk kd y := (decide_eq_false (fun q => h66 q.1)).symm
              exact LI false hB _ 0 T _ _ _ _ _ _ rfl (Nat.zero_le _) hT
            · refine q_iload_n ok rfl dX1_spread_69 ?_
              refine q_iconstv (nI 2) ok (by decide) dX1_spread_70 ?_
              refine q_iremN (by omega) (by omega) (by omega) ok dX1_spread_71 ?_
              refine q_iconstv (nI 1) ok (by decide) dX1_spread_72 ?_
              refine q_icmpN_ne 80 (by omega) (by omega) ok dX1_spread_73 (by decide) (fun h73 => ?_) (fun h73 => ?_)
              · refine q_iconstv (nI 0) ok (by decide) dX1_spread_80 ?_
                refine q_istore_3 ok rfl dX1_spread_81 ?_
                refine q_iconstv (nI 0) ok (by decide) dX1_spread_82 ?_
                refine q_istore_4 ok rfl dX1_spread_83 ?_
                have hB : false = sBk kd y := (decide_eq_false (fun q => h73 q.2)).symm
                exact LI false hB _ 0 T _ _ _ _ _ _ rfl (Nat.zero_le _) hT
              · refine q_iconstv (nI 1) ok (by decide) dX1_spread_76 ?_
                refine q_goto 81 ok dX1_spread_77 (by decide) ?_
                refine q_istore_3 ok rfl dX1_spread_81 ?_
                refine q_iconstv (nI 0) ok (by decide) dX1_spread_82 ?_
                refine q_istore_4 ok rfl dX1_spread_83 ?_
                have hB : true = sBk kd y := (decide_eq_true ⟨h66, h73⟩).symm
                exact LI true hB _ 0 T _ _ _ _ _ _ rfl (Nat.zero_le _) hT
      have L0 : ∀ (dL0 i : Nat) , dL0 = 256 - i → i ≤ 256 → q_W x 34 [some (.inr (.inr (some 0))), some (.inl (kd)), some (.inl (nI (i))), none, none, none, none, none, none, none, none] [] (mw w h (0) sam blk nxt (fun j => if j < i then nI 0 else came j) part (lN 0)) := by
        intro dL0
        induction dL0 using Nat.strongRecOn with
        | _ dL0 ihL0 =>
          intro i  hdL0 hiL0 
          refine q_iload_n ok rfl dX1_spread_34 ?_
          refine q_sipushv (nI 256) ok (by decide) dX1_spread_35 ?_
          refine q_icmpN_ge 54 (by omega) (by omega) ok dX1_spread_38 (by decide) (fun h38 => ?_) (fun h38 => ?_)
          · refine q_iconstv (nI 0) ok (by decide) dX1_spread_54 ?_
            refine q_istore_2 ok rfl dX1_spread_55 ?_
            rw [show i = 256 by omega]
            exact L _ 0 (blk, lN 0, fun j => if j < 256 then nI 0 else came j) none none none none none none none none rfl (Nat.zero_le _) rfl
          · refine q_aload_n ok rfl dX1_spread_41 ?_
            refine mg_came ok dX1_spread_42 ?_
            refine q_iload_n ok rfl dX1_spread_45 ?_
            refine q_iconstv (nI 0) ok (by decide) dX1_spread_46 ?_
            refine ms_came g (by omega) ok dX1_spread_47 ?_
            refine q_iincN_2 1 ok rfl (by decide) dX1_spread_48 ?_
            refine q_goto 34 ok dX1_spread_51 (by decide) ?_
            rw [pu_step (F := fun _ => nI 0)]
            exact ihL0 _ (by omega) (i + 1) rfl (by omega)
      have := L0 _ 0 rfl (Nat.zero_le _)
      rw [pu_0 (F := fun _ => nI 0)] at this
      exact this
