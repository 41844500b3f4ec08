-- THIRD LEVEL of the class
theorem ix_mod {w x y : Nat} (hx : x < w) : (y * w + x) % w = x := by rw [Nat.mul_comm, Nat.mul_add_mod]; exact Nat.mod_eq_of_lt hx
theorem ix_div {w x y : Nat} (hx : x < w) : (y * w + x) / w = y := by
  rw [Nat.mul_comm, Nat.mul_add_div (by omega), Nat.div_eq_of_lt hx]; rfl
theorem ix_y {w x y : Nat} (hx : x = w) : y * w + x = (y + 1) * w := by subst hx; rw [Nat.succ_mul]
theorem pv_s (v stp : Int32) (i : Nat) : v + nI i * stp + stp = v + nI (i + 1) * stp := by
  rw [nI_succ, Int32.add_mul, Int32.one_mul, Int32.add_assoc]
theorem pv_0 (v stp : Int32) : v + nI 0 * stp = v := by rw [nI_0, Int32.zero_mul, Int32.add_zero]
def eF (w h : Nat) (blk : Nat → Bool) (k : Nat) : Bool := isE w h blk (k % w) (k / w)
theorem eF_at {w h x y : Nat} {blk : Nat → Bool} (hx : x < w) : isE w h blk x y = eF w h blk (y * w + x) := by unfold eF; rw [ix_mod hx, ix_div hx]
def tQ (blk : Nat → Bool) (que : Nat → Nat) (col : Bool) : Nat → Nat → Bool
  | 0 => blk
  | n + 1 => va_up (tQ blk que col n) (que n) col
def anyB (f : Nat → Bool) : Nat → Bool
  | 0 => false
  | n + 1 => anyB f n || f n
theorem anyB_t {f : Nat → Bool} : ∀ {n i : Nat}, i < n → f i = true → anyB f n = true
  | n + 1, i, hi, h => by
    simp only [anyB, Bool.or_eq_true]
    by_cases e : i = n
    · subst e; exact Or.inr h
    · exact Or.inl (anyB_t (by omega) h)
def eP (w h k : Nat) : Bool := decide (k % w = 0 ∨ k / w = 0 ∨ k % w = w - 1 ∨ k / w = h - 1)
theorem grey_s {sam : Nat → Nat} {ogr : Nat → Nat} {i : Nat} (hs : sam i < 256) : va_up (fun g => if g < 256 then cntB (fun k => sam k == g) i else ogr g) (sam i) ((if sam i < 256 then cntB (fun k => sam k == sam i) i else ogr (sam i)) + 1) = fun g => if g < 256 then cntB (fun k => sam k == g) (i + 1) else ogr g := by
  funext g
  by_cases h : g = sam i
  · subst h
    rw [va_up_self, if_pos hs, if_pos hs, cntB_t (by simp)]
  · rw [va_up_ne _ _ h]
    by_cases h2 : g < 256
    · rw [if_pos h2, if_pos h2, cntB_f (by simp; exact fun e => h e.symm)]
    · rw [if_neg h2, if_neg h2]
def bUpC (sam : Nat → Nat) (hi : Int32) (blk : Nat → Bool) (p : Nat) : Bool := !blk p && decide (nI (sam p) ≤ hi)
abbrev q_U : Type := (Nat → Bool) × ((Nat → Nat) × Nat)
def bUp (sam : Nat → Nat) (hi : Int32) (p : Nat) (t : q_U) : q_U := if bUpC sam hi t.1 p = true then (va_up t.1 p true, va_up t.2.1 t.2.2 p, t.2.2 + 1) else t
def bUpI (w h : Nat) (sam : Nat → Nat) (hi : Int32) (a b : Int32) (t : q_U) : q_U := if inI w h a b = true then bUp sam hi (pI w a b) t else t
def bRow (w h : Nat) (sam : Nat → Nat) (hi : Int32) (a b : Int32) : Nat → q_U → q_U
  | 0, t => t
  | n + 1, t => bUpI w h sam hi (a + nI n) b (bRow w h sam hi a b n t)
def bRnd (w h : Nat) (sam : Nat → Nat) (hi : Int32) (a b : Int32) : Nat → q_U → q_U
  | 0, t => t
  | n + 1, t => bRow w h sam hi a (b + nI n) 3 (bRnd w h sam hi a b n t)
theorem cmp3 : ∀ y, y < 16 → ∀ t, t < 4 → (nI (y + 1) < nI y - nI 1 + nI t ↔ 3 ≤ t) := by decide +kernel

def sp_X0_paint : List q_V → List q_E → (Option q_V → List q_E → Prop) → Prop := fun as Wd K => ∃ (w : Nat) (h : Nat) (sam : Nat → Nat) (blk : Nat → Bool) (lost : Int64) (ogr : Nat → Nat) (came : Nat → Int32) (sums : Nat → Int64) (sqs : Nat → Int64) (mrk : Nat → Bool) (que : Nat → Nat) (qd : Nat) (v : Int32) (stp : Int32), (q_g w h) ∧ (∀ k, k < w * h → sam k < 256) ∧ as = [.inr (.inr (some 0)), .inl v, .inl stp] ∧ Wd = (xw w h sam blk lost ogr came sums sqs mrk que qd) ∧ (K (some (.inl (nI (cntB (fun k => sam k != lo8 (v + nI k * stp)) (w * h))))) (xw w h (fun k => if k < w * h then lo8 (v + nI k * stp) else sam k) blk lost ogr came sums sqs mrk que qd))
set_option maxHeartbeats 4000000 in
set_option maxRecDepth 20000 in
theorem ct_X0_paint : q_Ct yX0_paint cX0_paint 7 (some .int) 1 22 sp_X0_paint := by
  refine q_met (by decide) ?_
  intro x as Wd K hs ok fn
  obtain ⟨w, h, sam, blk, lost, ogr, came, sums, sqs, mrk, que, qd, v, stp, g, hs, rfl, rfl, hk⟩ := hs
  show q_W x 0 [some (.inr (.inr (some 0))), some (.inl v), some (.inl stp), none, none, none, none] [] (xw w h sam blk lost ogr came sums sqs mrk que qd)
  have hn := q_gn g
  have L : ∀ (dL i : Nat) (o6 : Option q_V), dL = w * h - i → i ≤ w * h → q_nol o6 = true → q_W x 8 [some (.inr (.inr (some 0))), some (.inl (v)), some (.inl (stp)), some (.inl (nI (cntB (fun k => sam k != lo8 (v + nI k * stp)) (i)))), some (.inl (v + nI i * stp)), some (.inl (nI (i))), o6] [] (xw w h (fun k => if k < i then lo8 (v + nI k * stp) else sam k) blk lost ogr came sums sqs mrk que qd) := by
    intro dL
    induction dL using Nat.strongRecOn with
    | _ dL ihL =>
      intro i o6 hdL hiL ho6
      refine q_iload ok rfl dX0_paint_8 ?_
      refine q_aload_n ok rfl dX0_paint_10 ?_
      refine xg_count ok dX0_paint_11 ?_
      refine q_icmpN_ge 63 (by omega) (by omega) ok dX0_paint_14 (by decide) (fun h14 => ?_) (fun h14 => ?_)
      · refine q_iload_n ok rfl dX0_paint_63 ?_
        exact q_iret ok fn dX0_paint_64 (by rw [show i = w * h by omega]; exact hk)
      · refine q_iload ok rfl dX0_paint_17 ?_
        refine q_sipushv (nI 256) ok (by decide) dX0_paint_19 ?_
        refine kJ9_floorMod_7cf53 (by decide) (Nat.le_of_ble_eq_true rfl) ok dX0_paint_22 ?_
        refine q_istore_6 ok rfl dX0_paint_25 ?_
        refine q_aload_n ok rfl dX0_paint_27 ?_
        refine xg_samples ok dX0_paint_28 ?_
        refine q_iload ok rfl dX0_paint_31 ?_
        refine xl_sam g (by omega) ok dX0_paint_33 ?_
        rw [if_neg (Nat.lt_irrefl i)]
        refine q_iload ok rfl dX0_paint_34 ?_
        refine q_icmpN_eq 42 (by have := hs i (by omega); omega) (by have := lo8_lt (v + nI i * stp); omega) ok dX0_paint_36 (by decide) (fun h36 => ?_) (fun h36 => ?_)
        · refine q_aload_n ok rfl dX0_paint_42 ?_
          refine xg_samples ok dX0_paint_43 ?_
          refine q_iload ok rfl dX0_paint_46 ?_
          refine q_iload ok rfl dX0_paint_48 ?_
          refine xs_sam g (by omega) ok dX0_paint_50 ?_
          refine q_iload ok rfl dX0_paint_51 ?_
          refine q_iload_n ok rfl dX0_paint_53 ?_
          refine q_iadd ok dX0_paint_54 ?_
          refine q_istore_4 ok rfl dX0_paint_55 ?_
          refine q_iincN_5 1 ok rfl (by decide) dX0_paint_57 ?_
          refine q_goto 8 ok dX0_paint_60 (by decide) ?_
          rw [pu_step (F := fun k => lo8 (v + nI k * stp)), pv_s, ← cntB_f (f := fun k => sam k != lo8 (v + nI k * stp)) (n := i) (by simp [h36])]
          exact ihL _ (by omega) (i + 1) _ rfl (by omega) rfl
        · refine q_iincN_3 1 ok rfl (by decide) dX0_paint_39 ?_
          refine q_aload_n ok rfl dX0_paint_42 ?_
          refine xg_samples ok dX0_paint_43 ?_
          refine q_iload ok rfl dX0_paint_46 ?_
          refine q_iload ok rfl dX0_paint_48 ?_
          refine xs_sam g (by omega) ok dX0_paint_50 ?_
          refine q_iload ok rfl dX0_paint_51 ?_
          refine q_iload_n ok rfl dX0_paint_53 ?_
          refine q_iadd ok dX0_paint_54 ?_
          refine q_istore_4 ok rfl dX0_paint_55 ?_
          refine q_iincN_5 1 ok rfl (by decide) dX0_paint_57 ?_
          refine q_goto 8 ok dX0_paint_60 (by decide) ?_
          rw [pu_step (F := fun k => lo8 (v + nI k * stp)), pv_s, ← cntB_t (f := fun k => sam k != lo8 (v + nI k * stp)) (n := i) (by simp [h36])]
          exact ihL _ (by omega) (i + 1) _ rfl (by omega) rfl
  refine q_iconstv (nI 0) ok (by decide) dX0_paint_0 ?_
  refine q_istore_3 ok rfl dX0_paint_1 ?_
  refine q_iload_n ok rfl dX0_paint_2 ?_
  refine q_istore_4 ok rfl dX0_paint_3 ?_
  refine q_iconstv (nI 0) ok (by decide) dX0_paint_5 ?_
  refine q_istore_5 ok rfl dX0_paint_6 ?_
  have := L _ 0 none rfl (Nat.zero_le _) rfl
  rw [pu_0 (F := fun k => lo8 (v + nI k * stp)), pv_0] at this
  exact this
theorem kX0_paint {x : q_X} {cc : ByteArray} {fr lo pc : Nat} {lv : List (Option q_V)} {st : List q_V} {w : Nat} {h : Nat} {sam : Nat → Nat} {blk : Nat → Bool} {lost : Int64} {ogr : Nat → Nat} {came : Nat → Int32} {sums : Nat → Int64} {sqs : Nat → Int64} {mrk : Nat → Bool} {que : Nat → Nat} {qd : Nat} {v : Int32} {stp : Int32} (g : q_g w h) (hs : ∀ k, k < w * h → sam k < 256) (hR : 1 + 1 ≤ fr ∧ 8 + (7 + 11) + 22 ≤ lo) (hst : (st.map (fun v => if q_nol (some v) then 1 else 2)).sum ≤ 8) (ok : q_ok x cc RL fr lo) (hd : decode cc pc = .ok (.invokevirtual 64, 3)) (kk : q_W x (pc + 3) lv ((.inl (nI (cntB (fun k => sam k != lo8 (v + nI k * stp)) (w * h)))) :: st) (xw w h (fun k => if k < w * h then lo8 (v + nI k * stp) else sam k) blk lost ogr came sums sqs mrk que qd)) : q_W x pc lv (.inl stp :: .inl v :: .inr (.inr (some 0)) :: st) (xw w h sam blk lost ogr came sums sqs mrk que qd) :=
  q_callV [.inl v, .inl stp] ct_X0_paint lkL_X0_paint dc_X0_paint rfl ok rfl hR hst (Nat.le_of_ble_eq_true rfl) hd ⟨w, h, sam, blk, lost, ogr, came, sums, sqs, mrk, que, qd, v, stp, g, hs, rfl, rfl, kk⟩
def sp_X0_edges : List q_V → List q_E → (Option q_V → List q_E → Prop) → Prop := fun as Wd K => ∃ (w : Nat) (h : Nat) (sam : Nat → Nat) (blk : Nat → Bool) (lost : Int64) (ogr : Nat → Nat) (came : Nat → Int32) (sums : Nat → Int64) (sqs : Nat → Int64) (mrk : Nat → Bool) (que : Nat → Nat) (qd : Nat), (q_g w h) ∧ as = [.inr (.inr (some 0))] ∧ Wd = (xw w h sam blk lost ogr came sums sqs mrk que qd) ∧ (K (some (.inl (nI (cntB (fun k => if k < w * h then eF w h blk k else blk k) (w * h))))) (xw w h sam (fun k => if k < w * h then eF w h blk k else blk k) lost ogr came sums sqs (fun k => if k < w * h then eF w h blk k else mrk k) que qd))
set_option maxHeartbeats 4000000 in
set_option maxRecDepth 20000 in
theorem ct_X0_edges : q_Ct yX0_edges cX0_edges 3 (some .int) 3 66 sp_X0_edges := by
  refine q_met (by decide) ?_
  intro x as Wd K hs ok fn
  obtain ⟨w, h, sam, blk, lost, ogr, came, sums, sqs, mrk, que, qd, g, rfl, rfl, hk⟩ := hs
  show q_W x 0 [some (.inr (.inr (some 0))), none, none] [] (xw w h sam blk lost ogr came sums sqs mrk que qd)
  have hn := q_gn g
  have hw := g.2.1
  have hh := g.2.2.2
  have L3 : ∀ (dL3 i : Nat) (o2 : Option q_V), dL3 = w * h - i → i ≤ w * h → q_W x 51 [some (.inr (.inr (some 0))), some (.inl (nI (i))), o2] [] (xw w h sam (fun k => if k < i then eF w h blk k else blk k) lost ogr came sums sqs (fun k => if k < w * h then eF w h blk k else mrk k) que qd) := by
    intro dL3
    induction dL3 using Nat.strongRecOn with
    | _ dL3 ihL3 =>
      intro i o2 hdL3 hiL3 
      refine q_iload_n ok rfl dX0_edges_51 ?_
      refine q_aload_n ok rfl dX0_edges_52 ?_
      refine xg_count ok dX0_edges_53 ?_
      refine q_icmpN_ge 77 (by omega) (by omega) ok dX0_edges_56 (by decide) (fun h56 => ?_) (fun h56 => ?_)
      · refine q_aload_n ok rfl dX0_edges_77 ?_
        refine kX0_countBlack g (by decide) (Nat.le_of_ble_eq_true rfl) ok dX0_edges_78 ?_
        exact q_iret ok fn dX0_edges_81 (by rw [show i = w * h by omega]; exact hk)
      · refine q_aload_n ok rfl dX0_edges_59 ?_
        refine xg_black ok dX0_edges_60 ?_
        refine q_iload_n ok rfl dX0_edges_63 ?_
        refine q_aload_n ok rfl dX0_edges_64 ?_
        refine xg_marked ok dX0_edges_65 ?_
        refine q_iload_n ok rfl dX0_edges_68 ?_
        refine xl_mrk g (by omega) ok dX0_edges_69 ?_
        rw [if_pos (show i < w * h by omega)]
        refine xs_blk g (by omega) ok dX0_edges_70 ?_
        refine q_iincN_1 1 ok rfl (by decide) dX0_edges_71 ?_
        refine q_goto 51 ok dX0_edges_74 (by decide) ?_
        rw [pu_step (F := eF w h blk)]
        exact ihL3 _ (by omega) (i + 1) _ rfl (by omega)
  have L : ∀ (dL y : Nat) (o2 : Option q_V), dL = h - y → y ≤ h → q_W x 2 [some (.inr (.inr (some 0))), some (.inl (nI (y))), o2] [] (xw w h sam blk lost ogr came sums sqs (fun k => if k < y * w then eF w h blk k else mrk k) que qd) := by
    intro dL
    induction dL using Nat.strongRecOn with
    | _ dL ihL =>
      intro y o2 hdL hiL 
      refine q_iload_n ok rfl dX0_edges_2 ?_
      refine q_aload_n ok rfl dX0_edges_3 ?_
      refine xg_height ok dX0_edges_4 ?_
      refine q_icmpN_ge 49 (by omega) (by omega) ok dX0_edges_7 (by decide) (fun h7 => ?_) (fun h7 => ?_)
      · refine q_iconstv (nI 0) ok (by decide) dX0_edges_49 ?_
        refine q_istore_1 ok rfl dX0_edges_50 ?_
        rw [show y * w = w * h by rw [show y = h by omega, Nat.mul_comm]]
        have := L3 _ 0 o2 rfl (Nat.zero_le _)
        rw [pu_0 (F := eF w h blk)] at this
        exact this
      · skip
        have LI : ∀ (dLI x0 : Nat) , dLI = w - x0 → x0 ≤ w → q_W x 12 [some (.inr (.inr (some 0))), some (.inl (nI (y))), some (.inl (nI (x0)))] [] (xw w h sam blk lost ogr came sums sqs (fun k => if k < y * w + x0 then eF w h blk k else mrk k) que qd) := by
          intro dLI
          induction dLI using Nat.strongRecOn with
          | _ dLI ihLI =>
            intro x0  hdLI hiLI 
            refine q_iload_n ok rfl dX0_edges_12 ?_
            refine q_aload_n ok rfl dX0_edges_13 ?_
            refine xg_width ok dX0_edges_14 ?_
            refine q_icmpN_ge 43 (by omega) (by omega) ok dX0_edges_17 (by decide) (fun h17 => ?_) (fun h17 => ?_)
            · refine q_iincN_1 1 ok rfl (by decide) dX0_edges_43 ?_
              refine q_goto 2 ok dX0_edges_46 (by decide) ?_
              rw [ix_y (show x0 = w by omega)]
              exact ihL _ (by omega) (y + 1) _ rfl (by omega)
            · refine q_aload_n ok rfl dX0_edges_20 ?_
              refine xg_marked ok dX0_edges_21 ?_
              refine q_aload_n ok rfl dX0_edges_24 ?_
              refine q_iload_n ok rfl dX0_edges_25 ?_
              refine q_iload_n ok rfl dX0_edges_26 ?_
              refine kX0_placeOf (by decide) (Nat.le_of_ble_eq_true rfl) ok dX0_edges_27 ?_
              refine q_aload_n ok rfl dX0_edges_30 ?_
              refine q_iload_n ok rfl dX0_edges_31 ?_
              refine q_iload_n ok rfl dX0_edges_32 ?_
              refine kX0_isEdge g (by decide) (Nat.le_of_ble_eq_true rfl) ok dX0_edges_33 ?_
              refine xs_mrk g (pl_lt (by omega) (by omega)) ok dX0_edges_36 ?_
              refine q_iincN_2 1 ok rfl (by decide) dX0_edges_37 ?_
              refine q_goto 12 ok dX0_edges_40 (by decide) ?_
              rw [eF_at (by omega : x0 < w), pu_step (F := eF w h blk)]
              exact ihLI _ (by omega) (x0 + 1) rfl (by omega)
        refine q_iconstv (nI 0) ok (by decide) dX0_edges_10 ?_
        refine q_istore_2 ok rfl dX0_edges_11 ?_
        exact LI _ 0 rfl (Nat.zero_le _)
  refine q_iconstv (nI 0) ok (by decide) dX0_edges_0 ?_
  refine q_istore_1 ok rfl dX0_edges_1 ?_
  have := L _ 0 none rfl (Nat.zero_le _)
  rw [Nat.zero_mul, pu_0 (F := eF w h blk)] at this
  exact this
theorem kX0_edges {x : q_X} {cc : ByteArray} {fr lo pc : Nat} {lv : List (Option q_V)} {st : List q_V} {w : Nat} {h : Nat} {sam : Nat → Nat} {blk : Nat → Bool} {lost : Int64} {ogr : Nat → Nat} {came : Nat → Int32} {sums : Nat → Int64} {sqs : Nat → Int64} {mrk : Nat → Bool} {que : Nat → Nat} {qd : Nat} (g : q_g w h) (hR : 3 + 1 ≤ fr ∧ 8 + (3 + 11) + 66 ≤ lo) (hst : (st.map (fun v => if q_nol (some v) then 1 else 2)).sum ≤ 8) (ok : q_ok x cc RL fr lo) (hd : decode cc pc = .ok (.invokevirtual 94, 3)) (kk : q_W x (pc + 3) lv ((.inl (nI (cntB (fun k => if k < w * h then eF w h blk k else blk k) (w * h)))) :: st) (xw w h sam (fun k => if k < w * h then eF w h blk k else blk k) lost ogr came sums sqs (fun k => if k < w * h then eF w h blk k else mrk k) que qd)) : q_W x pc lv (.inr (.inr (some 0)) :: st) (xw w h sam blk lost ogr came sums sqs mrk que qd) :=
  q_callV [] ct_X0_edges lkL_X0_edges dc_X0_edges rfl ok rfl hR hst (Nat.le_of_ble_eq_true rfl) hd ⟨w, h, sam, blk, lost, ogr, came, sums, sqs, mrk, que, qd, g, rfl, rfl, kk⟩
def sp_X0_invert : List q_V → List q_E → (Option q_V → List q_E → Prop) → Prop := fun as Wd K => ∃ (w : Nat) (h : Nat) (sam : Nat → Nat) (blk : Nat → Bool) (lost : Int64) (ogr : Nat → Nat) (came : Nat → Int32) (sums : Nat → Int64) (sqs : Nat → Int64) (mrk : Nat → Bool) (que : Nat → Nat) (qd : Nat), (q_g w h) ∧ as = [.inr (.inr (some 0))] ∧ Wd = (xw w h sam blk lost ogr came sums sqs mrk que qd) ∧ (K (some (.inl (nI (cntB (fun k => if k < w * h then !blk k else blk k) (w * h))))) (xw w h sam (fun k => if k < w * h then !blk k else blk k) lost ogr came sums sqs mrk que qd))
set_option maxHeartbeats 4000000 in
set_option maxRecDepth 20000 in
theorem ct_X0_invert : q_Ct yX0_invert cX0_invert 2 (some .int) 1 22 sp_X0_invert := by
  refine q_met (by decide) ?_
  intro x as Wd K hs ok fn
  obtain ⟨w, h, sam, blk, lost, ogr, came, sums, sqs, mrk, que, qd, g, rfl, rfl, hk⟩ := hs
  show q_W x 0 [some (.inr (.inr (some 0))), none] [] (xw w h sam blk lost ogr came sums sqs mrk que qd)
  have hn := q_gn g
  have L : ∀ (dL i : Nat) , dL = w * h - i → i ≤ w * h → q_W x 2 [some (.inr (.inr (some 0))), some (.inl (nI (i)))] [] (xw w h sam (fun k => if k < i then !blk k else blk k) lost ogr came sums sqs mrk que qd) := by
    intro dL
    induction dL using Nat.strongRecOn with
    | _ dL ihL =>
      intro i  hdL hiL 
      refine q_iload_n ok rfl dX0_invert_2 ?_
      refine q_aload_n ok rfl dX0_invert_3 ?_
      refine xg_count ok dX0_invert_4 ?_
      refine q_icmpN_ge 36 (by omega) (by omega) ok dX0_invert_7 (by decide) (fun h7 => ?_) (fun h7 => ?_)
      · refine q_aload_n ok rfl dX0_invert_36 ?_
        refine kX0_countBlack g (by decide) (Nat.le_of_ble_eq_true rfl) ok dX0_invert_37 ?_
        exact q_iret ok fn dX0_invert_40 (by rw [show i = w * h by omega]; exact hk)
      · refine q_aload_n ok rfl dX0_invert_10 ?_
        refine xg_black ok dX0_invert_11 ?_
        refine q_iload_n ok rfl dX0_invert_14 ?_
        refine q_aload_n ok rfl dX0_invert_15 ?_
        refine xg_black ok dX0_invert_16 ?_
        refine q_iload_n ok rfl dX0_invert_19 ?_
        refine xl_blk g (by omega) ok dX0_invert_20 ?_
        rw [if_neg (Nat.lt_irrefl i)]
        refine q_ifb_ne 28 ok dX0_invert_21 (by decide) (fun h21 => ?_) (fun h21 => ?_)
        · refine q_iconstv (nI 0) ok (by decide) dX0_invert_28 ?_
          refine xs_blk (v := false) g (by omega) ok dX0_invert_29 ?_
          refine q_iincN_1 1 ok rfl (by decide) dX0_invert_30 ?_
          refine q_goto 2 ok dX0_invert_33 (by decide) ?_
          rw [show false = !blk i by rw [h21]; rfl, pu_step (F := fun k => !blk k)]
          exact ihL _ (by omega) (i + 1) rfl (by omega)
        · refine q_iconstv (nI 1) ok (by decide) dX0_invert_24 ?_
          refine q_goto 29 ok dX0_invert_25 (by decide) ?_
          refine xs_blk (v := true) g (by omega) ok dX0_invert_29 ?_
          refine q_iincN_1 1 ok rfl (by decide) dX0_invert_30 ?_
          refine q_goto 2 ok dX0_invert_33 (by decide) ?_
          rw [show true = !blk i by rw [h21]; rfl, pu_step (F := fun k => !blk k)]
          exact ihL _ (by omega) (i + 1) rfl (by omega)
  refine q_iconstv (nI 0) ok (by decide) dX0_invert_0 ?_
  refine q_istore_1 ok rfl dX0_invert_1 ?_
  have := L _ 0 rfl (Nat.zero_le _)
  rw [pu_0 (F := fun k => !blk k)] at this
  exact this
theorem kX0_invert {x : q_X} {cc : ByteArray} {fr lo pc : Nat} {lv : List (Option q_V)} {st : List q_V} {w : Nat} {h : Nat} {sam : Nat → Nat} {blk : Nat → Bool} {lost : Int64} {ogr : Nat → Nat} {came : Nat → Int32} {sums : Nat → Int64} {sqs : Nat → Int64} {mrk : Nat → Bool} {que : Nat → Nat} {qd : Nat} (g : q_g w h) (hR : 1 + 1 ≤ fr ∧ 8 + (2 + 11) + 22 ≤ lo) (hst : (st.map (fun v => if q_nol (some v) then 1 else 2)).sum ≤ 8) (ok : q_ok x cc RL fr lo) (hd : decode cc pc = .ok (.invokevirtual 98, 3)) (kk : q_W x (pc + 3) lv ((.inl (nI (cntB (fun k => if k < w * h then !blk k else blk k) (w * h)))) :: st) (xw w h sam (fun k => if k < w * h then !blk k else blk k) lost ogr came sums sqs mrk que qd)) : q_W x pc lv (.inr (.inr (some 0)) :: st) (xw w h sam blk lost ogr came sums sqs mrk que qd) :=
  q_callV [] ct_X0_invert lkL_X0_invert dc_X0_invert rfl ok rfl hR hst (Nat.le_of_ble_eq_true rfl) hd ⟨w, h, sam, blk, lost, ogr, came, sums, sqs, mrk, que, qd, g, rfl, rfl, kk⟩
def sp_X0_clear : List q_V → List q_E → (Option q_V → List q_E → Prop) → Prop := fun as Wd K => ∃ (w : Nat) (h : Nat) (sam : Nat → Nat) (blk : Nat → Bool) (lost : Int64) (ogr : Nat → Nat) (came : Nat → Int32) (sums : Nat → Int64) (sqs : Nat → Int64) (mrk : Nat → Bool) (que : Nat → Nat) (qd : Nat), (q_g w h) ∧ as = [.inr (.inr (some 0))] ∧ Wd = (xw w h sam blk lost ogr came sums sqs mrk que qd) ∧ (K none (xw w h (fun k => if k < w * h then 0 else sam k) (fun k => if k < w * h then false else blk k) (lN 0) ogr came sums sqs mrk que qd))
set_option maxHeartbeats 4000000 in
set_option maxRecDepth 20000 in
theorem ct_X0_clear : q_Ct yX0_clear cX0_clear 2 none 0 0 sp_X0_clear := by
  refine q_met (by decide) ?_
  intro x as Wd K hs ok fn
  obtain ⟨w, h, sam, blk, lost, ogr, came, sums, sqs, mrk, que, qd, g, rfl, rfl, hk⟩ := hs
  show q_W x 0 [some (.inr (.inr (some 0))), none] [] (xw w h sam blk lost ogr came sums sqs mrk que qd)
  have hn := q_gn g
  have L : ∀ (dL i : Nat) , dL = w * h - i → i ≤ w * h → q_W x 2 [some (.inr (.inr (some 0))), some (.inl (nI (i)))] [] (xw w h (fun k => if k < i then 0 else sam k) (fun k => if k < i then false else blk k) lost ogr came sums sqs mrk que qd) := by
    intro dL
    induction dL using Nat.strongRecOn with
    | _ dL ihL =>
      intro i  hdL hiL 
      refine q_iload_n ok rfl dX0_clear_2 ?_
      refine q_aload_n ok rfl dX0_clear_3 ?_
      refine xg_count ok dX0_clear_4 ?_
      refine q_icmpN_ge 30 (by omega) (by omega) ok dX0_clear_7 (by decide) (fun h7 => ?_) (fun h7 => ?_)
      · refine q_aload_n ok rfl dX0_clear_30 ?_
        refine q_lconstv (lN 0) ok rfl dX0_clear_31 ?_
        refine xp_lost ok dX0_clear_32 ?_
        exact q_vret ok fn dX0_clear_35 (by rw [show i = w * h by omega]; exact hk)
      · refine q_aload_n ok rfl dX0_clear_10 ?_
        refine xg_samples ok dX0_clear_11 ?_
        refine q_iload_n ok rfl dX0_clear_14 ?_
        refine q_iconstv (nI 0) ok (by decide) dX0_clear_15 ?_
        refine xs_sam g (by omega) ok dX0_clear_16 ?_
        refine q_aload_n ok rfl dX0_clear_17 ?_
        refine xg_black ok dX0_clear_18 ?_
        refine q_iload_n ok rfl dX0_clear_21 ?_
        refine q_iconstv (nI 0) ok (by decide) dX0_clear_22 ?_
        refine xs_blk (v := false) g (by omega) ok dX0_clear_23 ?_
        refine q_iincN_1 1 ok rfl (by decide) dX0_clear_24 ?_
        refine q_goto 2 ok dX0_clear_27 (by decide) ?_
        rw [pu_step (F := fun _ => 0), pu_step (F := fun _ => false)]
        exact ihL _ (by omega) (i + 1) rfl (by omega)
  refine q_iconstv (nI 0) ok (by decide) dX0_clear_0 ?_
  refine q_istore_1 ok rfl dX0_clear_1 ?_
  have := L _ 0 rfl (Nat.zero_le _)
  rw [pu_0 (F := fun _ => 0), pu_0 (F := fun _ => false)] at this
  exact this
theorem kX0_clear {x : q_X} {cc : ByteArray} {fr lo pc : Nat} {lv : List (Option q_V)} {st : List q_V} {w : Nat} {h : Nat} {sam : Nat → Nat} {blk : Nat → Bool} {lost : Int64} {ogr : Nat → Nat} {came : Nat → Int32} {sums : Nat → Int64} {sqs : Nat → Int64} {mrk : Nat → Bool} {que : Nat → Nat} {qd : Nat} (g : q_g w h) (hR : 0 + 1 ≤ fr ∧ 8 + (2 + 11) + 0 ≤ lo) (hst : (st.map (fun v => if q_nol (some v) then 1 else 2)).sum ≤ 8) (ok : q_ok x cc RL fr lo) (hd : decode cc pc = .ok (.invokevirtual 116, 3)) (kk : q_W x (pc + 3) lv (st) (xw w h (fun k => if k < w * h then 0 else sam k) (fun k => if k < w * h then false else blk k) (lN 0) ogr came sums sqs mrk que qd)) : q_W x pc lv (.inr (.inr (some 0)) :: st) (xw w h sam blk lost ogr came sums sqs mrk que qd) :=
  q_callV [] ct_X0_clear lkL_X0_clear dc_X0_clear rfl ok rfl hR hst (Nat.le_of_ble_eq_true rfl) hd ⟨w, h, sam, blk, lost, ogr, came, sums, sqs, mrk, que, qd, g, rfl, rfl, kk⟩
def sp_X0_sumOfSamples : List q_V → List q_E → (Option q_V → List q_E → Prop) → Prop := fun as Wd K => ∃ (w : Nat) (h : Nat) (sam : Nat → Nat) (blk : Nat → Bool) (lost : Int64) (ogr : Nat → Nat) (came : Nat → Int32) (sums : Nat → Int64) (sqs : Nat → Int64) (mrk : Nat → Bool) (que : Nat → Nat) (qd : Nat), (q_g w h) ∧ (∀ k, k < w * h → sam k < 256) ∧ as = [.inr (.inr (some 0))] ∧ Wd = (xw w h sam blk lost ogr came sums sqs mrk que qd) ∧ (K (some (.inr (.inl (lN (sumN sam (w * h)))))) (xw w h sam blk lost ogr came sums sqs mrk que qd))
set_option maxHeartbeats 4000000 in
set_option maxRecDepth 20000 in
theorem ct_X0_sumOfSamples : q_Ct yX0_sumOfSamples cX0_sumOfSamples 4 (some .long) 0 0 sp_X0_sumOfSamples := by
  refine q_met (by decide) ?_
  intro x as Wd K hs ok fn
  obtain ⟨w, h, sam, blk, lost, ogr, came, sums, sqs, mrk, que, qd, g, hs, rfl, rfl, hk⟩ := hs
  show q_W x 0 [some (.inr (.inr (some 0))), none, none, none] [] (xw w h sam blk lost ogr came sums sqs mrk que qd)
  have hn := q_gn g
  have L : ∀ (dL i : Nat) , dL = w * h - i → i ≤ w * h → q_W x 4 [some (.inr (.inr (some 0))), some (.inr (.inl (lN (sumN sam i)))), none, some (.inl (nI (i)))] [] (xw w h sam blk lost ogr came sums sqs mrk que qd) := by
    intro dL
    induction dL using Nat.strongRecOn with
    | _ dL ihL =>
      intro i  hdL hiL 
      refine q_iload_n ok rfl dX0_sumOfSamples_4 ?_
      refine q_aload_n ok rfl dX0_sumOfSamples_5 ?_
      refine xg_count ok dX0_sumOfSamples_6 ?_
      refine q_icmpN_ge 28 (by omega) (by omega) ok dX0_sumOfSamples_9 (by decide) (fun h9 => ?_) (fun h9 => ?_)
      · refine q_lload_n ok rfl dX0_sumOfSamples_28 ?_
        exact q_lret ok fn dX0_sumOfSamples_29 (by rw [show i = w * h by omega]; exact hk)
      · refine q_lload_n ok rfl dX0_sumOfSamples_12 ?_
        refine q_aload_n ok rfl dX0_sumOfSamples_13 ?_
        refine xg_samples ok dX0_sumOfSamples_14 ?_
        refine q_iload_n ok rfl dX0_sumOfSamples_17 ?_
        refine xl_sam g (by omega) ok dX0_sumOfSamples_18 ?_
        refine q_i2lN (by have := hs i (by omega); omega) ok dX0_sumOfSamples_19 ?_
        refine q_laddN ok dX0_sumOfSamples_20 ?_
        refine q_lstore_1 ok rfl dX0_sumOfSamples_21 ?_
        refine q_iincN_3 1 ok rfl (by decide) dX0_sumOfSamples_22 ?_
        refine q_goto 4 ok dX0_sumOfSamples_25 (by decide) ?_
        exact ihL _ (by omega) (i + 1) rfl (by omega)
  refine q_lconstv (lN 0) ok rfl dX0_sumOfSamples_0 ?_
  refine q_lstore_1 ok rfl dX0_sumOfSamples_1 ?_
  refine q_iconstv (nI 0) ok (by decide) dX0_sumOfSamples_2 ?_
  refine q_istore_3 ok rfl dX0_sumOfSamples_3 ?_
  exact L _ 0 rfl (Nat.zero_le _)
theorem kX0_sumOfSamples {x : q_X} {cc : ByteArray} {fr lo pc : Nat} {lv : List (Option q_V)} {st : List q_V} {w : Nat} {h : Nat} {sam : Nat → Nat} {blk : Nat → Bool} {lost : Int64} {ogr : Nat → Nat} {came : Nat → Int32} {sums : Nat → Int64} {sqs : Nat → Int64} {mrk : Nat → Bool} {que : Nat → Nat} {qd : Nat} (g : q_g w h) (hs : ∀ k, k < w * h → sam k < 256) (hR : 0 + 1 ≤ fr ∧ 8 + (4 + 11) + 0 ≤ lo) (hst : (st.map (fun v => if q_nol (some v) then 1 else 2)).sum ≤ 8) (ok : q_ok x cc RX0 fr lo) (hd : decode cc pc = .ok (.invokevirtual 174, 3)) (kk : q_W x (pc + 3) lv ((.inr (.inl (lN (sumN sam (w * h))))) :: st) (xw w h sam blk lost ogr came sums sqs mrk que qd)) : q_W x pc lv (.inr (.inr (some 0)) :: st) (xw w h sam blk lost ogr came sums sqs mrk que qd) :=
  q_callV [] ct_X0_sumOfSamples lkX0_X0_sumOfSamples dc_X0_sumOfSamples rfl ok rfl hR hst (Nat.le_of_ble_eq_true rfl) hd ⟨w, h, sam, blk, lost, ogr, came, sums, sqs, mrk, que, qd, g, hs, rfl, rfl, kk⟩
def sp_X0_fillOfGrey : List q_V → List q_E → (Option q_V → List q_E → Prop) → Prop := fun as Wd K => ∃ (w : Nat) (h : Nat) (sam : Nat → Nat) (blk : Nat → Bool) (lost : Int64) (ogr : Nat → Nat) (came : Nat → Int32) (sums : Nat → Int64) (sqs : Nat → Int64) (mrk : Nat → Bool) (que : Nat → Nat) (qd : Nat), (q_g w h) ∧ (∀ k, k < w * h → sam k < 256) ∧ as = [.inr (.inr (some 0))] ∧ Wd = (xw w h sam blk lost ogr came sums sqs mrk que qd) ∧ (K none (xw w h sam blk lost (fun g => if g < 256 then cntB (fun k => sam k == g) (w * h) else ogr g) came sums sqs mrk que qd))
set_option maxHeartbeats 4000000 in
set_option maxRecDepth 20000 in
theorem ct_X0_fillOfGrey : q_Ct yX0_fillOfGrey cX0_fillOfGrey 3 none 1 23 sp_X0_fillOfGrey := by
  refine q_met (by decide) ?_
  intro x as Wd K hs ok fn
  obtain ⟨w, h, sam, blk, lost, ogr, came, sums, sqs, mrk, que, qd, g, hs, rfl, rfl, hk⟩ := hs
  show q_W x 0 [some (.inr (.inr (some 0))), none, none] [] (xw w h sam blk lost ogr came sums sqs mrk que qd)
  have hn := q_gn g
  have L : ∀ (dL i : Nat) (o2 : Option q_V), dL = w * h - i → i ≤ w * h → q_W x 10 [some (.inr (.inr (some 0))), some (.inl (nI (i))), o2] [] (xw w h sam blk lost (fun g => if g < 256 then cntB (fun k => sam k == g) (i) else ogr g) came sums sqs mrk que qd) := by
    intro dL
    induction dL using Nat.strongRecOn with
    | _ dL ihL =>
      intro i o2 hdL hiL 
      refine q_iload_n ok rfl dX0_fillOfGrey_10 ?_
      refine q_aload_n ok rfl dX0_fillOfGrey_11 ?_
      refine xg_count ok dX0_fillOfGrey_12 ?_
      refine q_icmpN_ge 52 (by omega) (by omega) ok dX0_fillOfGrey_15 (by decide) (fun h15 => ?_) (fun h15 => ?_)
      · exact q_vret ok fn dX0_fillOfGrey_52 (by rw [show i = w * h by omega]; exact hk)
      · refine q_aload_n ok rfl dX0_fillOfGrey_18 ?_
        refine xg_samples ok dX0_fillOfGrey_19 ?_
        refine q_iload_n ok rfl dX0_fillOfGrey_22 ?_
        refine xl_sam g (by omega) ok dX0_fillOfGrey_23 ?_
        refine q_istore_2 ok rfl dX0_fillOfGrey_24 ?_
        refine q_iload_n ok rfl dX0_fillOfGrey_25 ?_
        refine q_ifN_lt (by have := hs i (by omega); omega) ok dX0_fillOfGrey_26 46 (by decide) ?_
        refine q_iload_n ok rfl dX0_fillOfGrey_29 ?_
        refine q_sipushv (nI 256) ok (by decide) dX0_fillOfGrey_30 ?_
        refine q_icmpN_ge 46 (by have := hs i (by omega); omega) (by omega) ok dX0_fillOfGrey_33 (by decide) (fun h33 => ?_) (fun h33 => ?_)
        · exact absurd h33 (by have := hs i (by omega); omega)
        · refine q_aload_n ok rfl dX0_fillOfGrey_36 ?_
          refine xg_ofGrey ok dX0_fillOfGrey_37 ?_
          refine q_iload_n ok rfl dX0_fillOfGrey_40 ?_
          refine q_dup2ia ok dX0_fillOfGrey_41 ?_
          refine xl_ogr g (hs i (by omega)) ok dX0_fillOfGrey_42 ?_
          refine q_iconstv (nI 1) ok (by decide) dX0_fillOfGrey_43 ?_
          refine q_iaddN ok dX0_fillOfGrey_44 ?_
          refine xs_ogr g (hs i (by omega)) ok dX0_fillOfGrey_45 ?_
          refine q_iincN_1 1 ok rfl (by decide) dX0_fillOfGrey_46 ?_
          refine q_goto 10 ok dX0_fillOfGrey_49 (by decide) ?_
          rw [grey_s (hs i (by omega))]
          exact ihL _ (by omega) (i + 1) _ rfl (by omega)
  refine q_aload_n ok rfl dX0_fillOfGrey_0 ?_
  refine xg_ofGrey ok dX0_fillOfGrey_1 ?_
  refine q_iconstv (nI 0) ok (by decide) dX0_fillOfGrey_4 ?_
  refine kfill_ogr g (by decide) (Nat.le_of_ble_eq_true rfl) ok dX0_fillOfGrey_5 ?_
  refine q_iconstv (nI 0) ok (by decide) dX0_fillOfGrey_8 ?_
  refine q_istore_1 ok rfl dX0_fillOfGrey_9 ?_
  exact L _ 0 none rfl (Nat.zero_le _)
theorem kX0_fillOfGrey {x : q_X} {cc : ByteArray} {fr lo pc : Nat} {lv : List (Option q_V)} {st : List q_V} {w : Nat} {h : Nat} {sam : Nat → Nat} {blk : Nat → Bool} {lost : Int64} {ogr : Nat → Nat} {came : Nat → Int32} {sums : Nat → Int64} {sqs : Nat → Int64} {mrk : Nat → Bool} {que : Nat → Nat} {qd : Nat} (g : q_g w h) (hs : ∀ k, k < w * h → sam k < 256) (hR : 1 + 1 ≤ fr ∧ 8 + (3 + 11) + 23 ≤ lo) (hst : (st.map (fun v => if q_nol (some v) then 1 else 2)).sum ≤ 8) (ok : q_ok x cc RX0 fr lo) (hd : decode cc pc = .ok (.invokevirtual 171, 3)) (kk : q_W x (pc + 3) lv (st) (xw w h sam blk lost (fun g => if g < 256 then cntB (fun k => sam k == g) (w * h) else ogr g) came sums sqs mrk que qd)) : q_W x pc lv (.inr (.inr (some 0)) :: st) (xw w h sam blk lost ogr came sums sqs mrk que qd) :=
  q_callV [] ct_X0_fillOfGrey lkX0_X0_fillOfGrey dc_X0_fillOfGrey rfl ok rfl hR hst (Nat.le_of_ble_eq_true rfl) hd ⟨w, h, sam, blk, lost, ogr, came, sums, sqs, mrk, que, qd, g, hs, rfl, rfl, kk⟩
def sp_X0_countGreys : List q_V → List q_E → (Option q_V → List q_E → Prop) → Prop := fun as Wd K => ∃ (w : Nat) (h : Nat) (sam : Nat → Nat) (blk : Nat → Bool) (lost : Int64) (ogr : Nat → Nat) (came : Nat → Int32) (sums : Nat → Int64) (sqs : Nat → Int64) (mrk : Nat → Bool) (que : Nat → Nat) (qd : Nat), (q_g w h) ∧ (∀ k, k < w * h → sam k < 256) ∧ as = [.inr (.inr (some 0))] ∧ Wd = (xw w h sam blk lost ogr came sums sqs mrk que qd) ∧ (K (some (.inl (nI (cntB (fun g => decide (0 < cntB (fun k => sam k == g) (w * h))) 256)))) (xw w h sam blk lost (fun g => if g < 256 then cntB (fun k => sam k == g) (w * h) else ogr g) came sums sqs mrk que qd))
set_option maxHeartbeats 4000000 in
set_option maxRecDepth 20000 in
theorem ct_X0_countGreys : q_Ct yX0_countGreys cX0_countGreys 3 (some .int) 2 45 sp_X0_countGreys := by
  refine q_met (by decide) ?_
  intro x as Wd K hs ok fn
  obtain ⟨w, h, sam, blk, lost, ogr, came, sums, sqs, mrk, que, qd, g, hs, rfl, rfl, hk⟩ := hs
  show q_W x 0 [some (.inr (.inr (some 0))), none, none] [] (xw w h sam blk lost ogr came sums sqs mrk que qd)
  have hn := q_gn g
  have L : ∀ (dL i : Nat) , dL = 256 - i → i ≤ 256 → q_W x 8 [some (.inr (.inr (some 0))), some (.inl (nI (cntB (fun g => decide (0 < cntB (fun k => sam k == g) (w * h))) i))), some (.inl (nI (i)))] [] (xw w h sam blk lost (fun g => if g < 256 then cntB (fun k => sam k == g) (w * h) else ogr g) came sums sqs mrk que qd) := by
    intro dL
    induction dL using Nat.strongRecOn with
    | _ dL ihL =>
      intro i  hdL hiL 
      refine q_iload_n ok rfl dX0_countGreys_8 ?_
      refine q_sipushv (nI 256) ok (by decide) dX0_countGreys_9 ?_
      refine q_icmpN_ge 33 (by omega) (by omega) ok dX0_countGreys_12 (by decide) (fun h12 => ?_) (fun h12 => ?_)
      · refine q_iload_n ok rfl dX0_countGreys_33 ?_
        exact q_iret ok fn dX0_countGreys_34 (by rw [show i = 256 by omega]; exact hk)
      · refine q_aload_n ok rfl dX0_countGreys_15 ?_
        refine xg_ofGrey ok dX0_countGreys_16 ?_
        refine q_iload_n ok rfl dX0_countGreys_19 ?_
        refine xl_ogr g (by omega) ok dX0_countGreys_20 ?_
        rw [if_pos (show i < 256 by omega)]
        refine q_ifN_le 27 (by have := cntB_le (fun k => sam k == i) (w * h); omega) ok dX0_countGreys_21 (by decide) (fun h21 => ?_) (fun h21 => ?_)
        · refine q_iincN_2 1 ok rfl (by decide) dX0_countGreys_27 ?_
          refine q_goto 8 ok dX0_countGreys_30 (by decide) ?_
          rw [← cntB_f (f := (fun g => decide (0 < cntB (fun k => sam k == g) (w * h)))) (n := i) (by simp [h21])]
          exact ihL _ (by omega) (i + 1) rfl (by omega)
        · refine q_iincN_1 1 ok rfl (by decide) dX0_countGreys_24 ?_
          refine q_iincN_2 1 ok rfl (by decide) dX0_countGreys_27 ?_
          refine q_goto 8 ok dX0_countGreys_30 (by decide) ?_
          rw [← cntB_t (f := (fun g => decide (0 < cntB (fun k => sam k == g) (w * h)))) (n := i) (by simp; omega)]
          exact ihL _ (by omega) (i + 1) rfl (by omega)
  refine q_aload_n ok rfl dX0_countGreys_0 ?_
  refine kX0_fillOfGrey g hs (by decide) (Nat.le_of_ble_eq_true rfl) ok dX0_countGreys_1 ?_
  refine q_iconstv (nI 0) ok (by decide) dX0_countGreys_4 ?_
  refine q_istore_1 ok rfl dX0_countGreys_5 ?_
  refine q_iconstv (nI 0) ok (by decide) dX0_countGreys_6 ?_
  refine q_istore_2 ok rfl dX0_countGreys_7 ?_
  exact L _ 0 rfl (Nat.zero_le _)
theorem kX0_countGreys {x : q_X} {cc : ByteArray} {fr lo pc : Nat} {lv : List (Option q_V)} {st : List q_V} {w : Nat} {h : Nat} {sam : Nat → Nat} {blk : Nat → Bool} {lost : Int64} {ogr : Nat → Nat} {came : Nat → Int32} {sums : Nat → Int64} {sqs : Nat → Int64} {mrk : Nat → Bool} {que : Nat → Nat} {qd : Nat} (g : q_g w h) (hs : ∀ k, k < w * h → sam k < 256) (hR : 2 + 1 ≤ fr ∧ 8 + (3 + 11) + 45 ≤ lo) (hst : (st.map (fun v => if q_nol (some v) then 1 else 2)).sum ≤ 8) (ok : q_ok x cc RX0 fr lo) (hd : decode cc pc = .ok (.invokevirtual 162, 3)) (kk : q_W x (pc + 3) lv ((.inl (nI (cntB (fun g => decide (0 < cntB (fun k => sam k == g) (w * h))) 256))) :: st) (xw w h sam blk lost (fun g => if g < 256 then cntB (fun k => sam k == g) (w * h) else ogr g) came sums sqs mrk que qd)) : q_W x pc lv (.inr (.inr (some 0)) :: st) (xw w h sam blk lost ogr came sums sqs mrk que qd) :=
  q_callV [] ct_X0_countGreys lkX0_X0_countGreys dc_X0_countGreys rfl ok rfl hR hst (Nat.le_of_ble_eq_true rfl) hd ⟨w, h, sam, blk, lost, ogr, came, sums, sqs, mrk, que, qd, g, hs, rfl, rfl, kk⟩
def sp_X0_turnQueued : List q_V → List q_E → (Option q_V → List q_E → Prop) → Prop := fun as Wd K => ∃ (w : Nat) (h : Nat) (sam : Nat → Nat) (blk : Nat → Bool) (lost : Int64) (ogr : Nat → Nat) (came : Nat → Int32) (sums : Nat → Int64) (sqs : Nat → Int64) (mrk : Nat → Bool) (que : Nat → Nat) (qd : Nat) (col : Bool), (q_g w h) ∧ (qd ≤ w * h) ∧ (∀ j, j < qd → que j < w * h) ∧ as = [.inr (.inr (some 0)), .inl (bI col)] ∧ Wd = (xw w h sam blk lost ogr came sums sqs mrk que qd) ∧ (K (some (.inl (nI qd))) (xw w h sam (tQ blk que col qd) lost ogr came sums sqs mrk que qd))
set_option maxHeartbeats 4000000 in
set_option maxRecDepth 20000 in
theorem ct_X0_turnQueued : q_Ct yX0_turnQueued cX0_turnQueued 4 (some .int) 0 0 sp_X0_turnQueued := by
  refine q_met (by decide) ?_
  intro x as Wd K hs ok fn
  obtain ⟨w, h, sam, blk, lost, ogr, came, sums, sqs, mrk, que, qd, col, g, hq, hu, rfl, rfl, hk⟩ := hs
  show q_W x 0 [some (.inr (.inr (some 0))), some (.inl (bI col)), none, none] [] (xw w h sam blk lost ogr came sums sqs mrk que qd)
  have hn := q_gn g
  have L : ∀ (dL i : Nat) (o3 : Option q_V), dL = qd - i → i ≤ qd → q_W x 2 [some (.inr (.inr (some 0))), some (.inl (bI (col))), some (.inl (nI (i))), o3] [] (xw w h sam (tQ blk que col (i)) lost ogr came sums sqs mrk que qd) := by
    intro dL
    induction dL using Nat.strongRecOn with
    | _ dL ihL =>
      intro i o3 hdL hiL 
      refine q_iload_n ok rfl dX0_turnQueued_2 ?_
      refine q_aload_n ok rfl dX0_turnQueued_3 ?_
      refine xg_count ok dX0_turnQueued_4 ?_
      refine q_icmpN_ge 50 (by omega) (by omega) ok dX0_turnQueued_7 (by decide) (fun h7 => ?_) (fun h7 => ?_)
      · refine q_aload_n ok rfl dX0_turnQueued_50 ?_
        refine xg_queued ok dX0_turnQueued_51 ?_
        exact q_iret ok fn dX0_turnQueued_54 (by rw [show tQ blk que col i = tQ blk que col qd by rw [show i = qd by omega]]; exact hk)
      · refine q_iload_n ok rfl dX0_turnQueued_10 ?_
        refine q_aload_n ok rfl dX0_turnQueued_11 ?_
        refine xg_queued ok dX0_turnQueued_12 ?_
        refine q_icmpN_ge 50 (by omega) (by omega) ok dX0_turnQueued_15 (by decide) (fun h15 => ?_) (fun h15 => ?_)
        · refine q_aload_n ok rfl dX0_turnQueued_50 ?_
          refine xg_queued ok dX0_turnQueued_51 ?_
          exact q_iret ok fn dX0_turnQueued_54 (by rw [show tQ blk que col i = tQ blk que col qd by rw [show i = qd by omega]]; exact hk)
        · refine q_aload_n ok rfl dX0_turnQueued_18 ?_
          refine xg_queue ok dX0_turnQueued_19 ?_
          refine q_iload_n ok rfl dX0_turnQueued_22 ?_
          refine xl_que g (by omega) ok dX0_turnQueued_23 ?_
          refine q_istore_3 ok rfl dX0_turnQueued_24 ?_
          refine q_iload_n ok rfl dX0_turnQueued_25 ?_
          refine q_ifN_lt (by have := hu i (by omega); omega) ok dX0_turnQueued_26 44 (by decide) ?_
          refine q_iload_n ok rfl dX0_turnQueued_29 ?_
          refine q_aload_n ok rfl dX0_turnQueued_30 ?_
          refine xg_count ok dX0_turnQueued_31 ?_
          refine q_icmpN_ge 44 (by have := hu i (by omega); omega) (by omega) ok dX0_turnQueued_34 (by decide) (fun h34 => ?_) (fun h34 => ?_)
          · exact absurd h34 (by have := hu i (by omega); omega)
          · refine q_aload_n ok rfl dX0_turnQueued_37 ?_
            refine xg_black ok dX0_turnQueued_38 ?_
            refine q_iload_n ok rfl dX0_turnQueued_41 ?_
            refine q_iload_n ok rfl dX0_turnQueued_42 ?_
            refine xs_blk g (hu i (by omega)) ok dX0_turnQueued_43 ?_
            refine q_iincN_2 1 ok rfl (by decide) dX0_turnQueued_44 ?_
            refine q_goto 2 ok dX0_turnQueued_47 (by decide) ?_
            exact ihL _ (by omega) (i + 1) _ rfl (by omega)
  refine q_iconstv (nI 0) ok (by decide) dX0_turnQueued_0 ?_
  refine q_istore_2 ok rfl dX0_turnQueued_1 ?_
  exact L _ 0 none rfl (Nat.zero_le _)
theorem kX0_turnQueued {x : q_X} {cc : ByteArray} {fr lo pc : Nat} {lv : List (Option q_V)} {st : List q_V} {w : Nat} {h : Nat} {sam : Nat → Nat} {blk : Nat → Bool} {lost : Int64} {ogr : Nat → Nat} {came : Nat → Int32} {sums : Nat → Int64} {sqs : Nat → Int64} {mrk : Nat → Bool} {que : Nat → Nat} {qd : Nat} {col : Bool} (g : q_g w h) (hq : qd ≤ w * h) (hu : ∀ j, j < qd → que j < w * h) (hR : 0 + 1 ≤ fr ∧ 8 + (4 + 11) + 0 ≤ lo) (hst : (st.map (fun v => if q_nol (some v) then 1 else 2)).sum ≤ 8) (ok : q_ok x cc RX0 fr lo) (hd : decode cc pc = .ok (.invokevirtual 212, 3)) (kk : q_W x (pc + 3) lv ((.inl (nI qd)) :: st) (xw w h sam (tQ blk que col qd) lost ogr came sums sqs mrk que qd)) : q_W x pc lv (.inl (bI col) :: .inr (.inr (some 0)) :: st) (xw w h sam blk lost ogr came sums sqs mrk que qd) :=
  q_callV [.inl (bI col)] ct_X0_turnQueued lkX0_X0_turnQueued dc_X0_turnQueued rfl ok rfl hR hst (Nat.le_of_ble_eq_true rfl) hd ⟨w, h, sam, blk, lost, ogr, came, sums, sqs, mrk, que, qd, col, g, hq, hu, rfl, rfl, kk⟩
def sp_X0_queuedComeToEdge : List q_V → List q_E → (Option q_V → List q_E → Prop) → Prop := fun as Wd K => ∃ (w : Nat) (h : Nat) (sam : Nat → Nat) (blk : Nat → Bool) (lost : Int64) (ogr : Nat → Nat) (came : Nat → Int32) (sums : Nat → Int64) (sqs : Nat → Int64) (mrk : Nat → Bool) (que : Nat → Nat) (qd : Nat), (q_g w h) ∧ (qd ≤ w * h) ∧ (∀ j, j < qd → que j < w * h) ∧ as = [.inr (.inr (some 0))] ∧ Wd = (xw w h sam blk lost ogr came sums sqs mrk que qd) ∧ (K (some (.inl (bI (anyB (fun j => eP w h (que j)) qd)))) (xw w h sam blk lost ogr came sums sqs mrk que qd))
set_option maxHeartbeats 4000000 in
set_option maxRecDepth 20000 in
theorem ct_X0_queuedComeToEdge : q_Ct yX0_queuedComeToEdge cX0_queuedComeToEdge 4 (some .boolean) 1 21 sp_X0_queuedComeToEdge := by
  refine q_met (by decide) ?_
  intro x as Wd K hs ok fn
  obtain ⟨w, h, sam, blk, lost, ogr, came, sums, sqs, mrk, que, qd, g, hq, hu, rfl, rfl, hk⟩ := hs
  show q_W x 0 [some (.inr (.inr (some 0))), none, none, none] [] (xw w h sam blk lost ogr came sums sqs mrk que qd)
  have hn := q_gn g
  have g1 := g.1
  have g2 := g.2.1
  have g3 := g.2.2.1
  have g4 := g.2.2.2
  have L : ∀ (dL i : Nat) (o2 o3 : Option q_V), dL = qd - i → i ≤ qd → anyB (fun j => eP w h (que j)) i = false → q_W x 2 [some (.inr (.inr (some 0))), some (.inl (nI (i))), o2, o3] [] (xw w h sam blk lost ogr came sums sqs mrk que qd) := by
    intro dL
    induction dL using Nat.strongRecOn with
    | _ dL ihL =>
      intro i o2 o3 hdL hiL hf
      refine q_iload_n ok rfl dX0_queuedComeToEdge_2 ?_
      refine q_aload_n ok rfl dX0_queuedComeToEdge_3 ?_
      refine xg_count ok dX0_queuedComeToEdge_4 ?_
      refine q_icmpN_ge 76 (by omega) (by omega) ok dX0_queuedComeToEdge_7 (by decide) (fun h7 => ?_) (fun h7 => ?_)
      · refine q_iconstv (nI 0) ok (by decide) dX0_queuedComeToEdge_76 ?_
        exact q_zret ok fn dX0_queuedComeToEdge_77 (by decide) (by have ee : anyB (fun j => eP w h (que j)) qd = false := (by rw [show qd = i by omega]; exact hf); rw [ee] at hk; exact hk)
      · refine q_iload_n ok rfl dX0_queuedComeToEdge_10 ?_
        refine q_aload_n ok rfl dX0_queuedComeToEdge_11 ?_
        refine xg_queued ok dX0_queuedComeToEdge_12 ?_
        refine q_icmpN_ge 76 (by omega) (by omega) ok dX0_queuedComeToEdge_15 (by decide) (fun h15 => ?_) (fun h15 => ?_)
        · refine q_iconstv (nI 0) ok (by decide) dX0_queuedComeToEdge_76 ?_
          exact q_zret ok fn dX0_queuedComeToEdge_77 (by decide) (by have ee : anyB (fun j => eP w h (que j)) qd = false := (by rw [show qd = i by omega]; exact hf); rw [ee] at hk; exact hk)
        · have hui := hu i (by omega)
          have hm := Nat.mod_lt (que i) (show w > 0 by omega)
          have hd2 : que i / w < h := Nat.div_lt_of_lt_mul hui
          refine q_aload_n ok rfl dX0_queuedComeToEdge_18 ?_
          refine q_aload_n ok rfl dX0_queuedComeToEdge_19 ?_
          refine xg_queue ok dX0_queuedComeToEdge_20 ?_
          refine q_iload_n ok rfl dX0_queuedComeToEdge_23 ?_
          refine xl_que g (by omega) ok dX0_queuedComeToEdge_24 ?_
          refine kX0_columnOf g (by have := hu i (by omega); omega) (by decide) (Nat.le_of_ble_eq_true rfl) ok dX0_queuedComeToEdge_25 ?_
          refine q_istore_2 ok rfl dX0_queuedComeToEdge_28 ?_
          refine q_aload_n ok rfl dX0_queuedComeToEdge_29 ?_
          refine q_aload_n ok rfl dX0_queuedComeToEdge_30 ?_
          refine xg_queue ok dX0_queuedComeToEdge_31 ?_
          refine q_iload_n ok rfl dX0_queuedComeToEdge_34 ?_
          refine xl_que g (by omega) ok dX0_queuedComeToEdge_35 ?_
          refine kX0_rowOf g (by have := hu i (by omega); omega) (by decide) (Nat.le_of_ble_eq_true rfl) ok dX0_queuedComeToEdge_36 ?_
          refine q_istore_3 ok rfl dX0_queuedComeToEdge_39 ?_
          refine q_iload_n ok rfl dX0_queuedComeToEdge_40 ?_
          refine q_ifN_eq 68 (by omega) ok dX0_queuedComeToEdge_41 (by decide) (fun h41 => ?_) (fun h41 => ?_)
          · refine q_iconstv (nI 1) ok (by decide) dX0_queuedComeToEdge_68 ?_
            exact q_zret ok fn dX0_queuedComeToEdge_69 (by decide) (by have ee : anyB (fun j => eP w h (que j)) qd = true := anyB_t (i := i) (by omega) (decide_eq_true (by omega)); rw [ee] at hk; exact hk)
          · refine q_iload_n ok rfl dX0_queuedComeToEdge_44 ?_
            refine q_ifN_eq 68 (by omega) ok dX0_queuedComeToEdge_45 (by decide) (fun h45 => ?_) (fun h45 => ?_)
            · refine q_iconstv (nI 1) ok (by decide) dX0_queuedComeToEdge_68 ?_
              exact q_zret ok fn dX0_queuedComeToEdge_69 (by decide) (by have ee : anyB (fun j => eP w h (que j)) qd = true := anyB_t (i := i) (by omega) (decide_eq_true (by omega)); rw [ee] at hk; exact hk)
            · refine q_iload_n ok rfl dX0_queuedComeToEdge_48 ?_
              refine q_aload_n ok rfl dX0_queuedComeToEdge_49 ?_
              refine xg_width ok dX0_queuedComeToEdge_50 ?_
              refine q_iconstv (nI 1) ok (by decide) dX0_queuedComeToEdge_53 ?_
              refine q_isubN (by omega) ok dX0_queuedComeToEdge_54 ?_
              refine q_icmpN_eq 68 (by omega) (by omega) ok dX0_queuedComeToEdge_55 (by decide) (fun h55 => ?_) (fun h55 => ?_)
              · refine q_iconstv (nI 1) ok (by decide) dX0_queuedComeToEdge_68 ?_
                exact q_zret ok fn dX0_queuedComeToEdge_69 (by decide) (by have ee : anyB (fun j => eP w h (que j)) qd = true := anyB_t (i := i) (by omega) (decide_eq_true (by omega)); rw [ee] at hk; exact hk)
              · refine q_iload_n ok rfl dX0_queuedComeToEdge_58 ?_
                refine q_aload_n ok rfl dX0_queuedComeToEdge_59 ?_
                refine xg_height ok dX0_queuedComeToEdge_60 ?_
                refine q_iconstv (nI 1) ok (by decide) dX0_queuedComeToEdge_63 ?_
                refine q_isubN (by omega) ok dX0_queuedComeToEdge_64 ?_
                refine q_icmpN_ne 70 (by omega) (by omega) ok dX0_queuedComeToEdge_65 (by decide) (fun h65 => ?_) (fun h65 => ?_)
                · refine q_iincN_1 1 ok rfl (by decide) dX0_queuedComeToEdge_70 ?_
                  refine q_goto 2 ok dX0_queuedComeToEdge_73 (by decide) ?_
                  refine ihL _ (by omega) (i + 1) _ _ rfl (by omega) ?_
                  simp only [anyB, hf, Bool.false_or]
                  exact decide_eq_false (by omega)
                · refine q_iconstv (nI 1) ok (by decide) dX0_queuedComeToEdge_68 ?_
                  exact q_zret ok fn dX0_queuedComeToEdge_69 (by decide) (by have ee : anyB (fun j => eP w h (que j)) qd = true := anyB_t (i := i) (by omega) (decide_eq_true (by omega)); rw [ee] at hk; exact hk)
  refine q_iconstv (nI 0) ok (by decide) dX0_queuedComeToEdge_0 ?_
  refine q_istore_1 ok rfl dX0_queuedComeToEdge_1 ?_
  exact L _ 0 none none rfl (Nat.zero_le _) rfl
theorem kX0_queuedComeToEdge {x : q_X} {cc : ByteArray} {fr lo pc : Nat} {lv : List (Option q_V)} {st : List q_V} {w : Nat} {h : Nat} {sam : Nat → Nat} {blk : Nat → Bool} {lost : Int64} {ogr : Nat → Nat} {came : Nat → Int32} {sums : Nat → Int64} {sqs : Nat → Int64} {mrk : Nat → Bool} {que : Nat → Nat} {qd : Nat} (g : q_g w h) (hq : qd ≤ w * h) (hu : ∀ j, j < qd → que j < w * h) (hR : 1 + 1 ≤ fr ∧ 8 + (4 + 11) + 21 ≤ lo) (hst : (st.map (fun v => if q_nol (some v) then 1 else 2)).sum ≤ 8) (ok : q_ok x cc RX0 fr lo) (hd : decode cc pc = .ok (.invokevirtual 216, 3)) (kk : q_W x (pc + 3) lv ((.inl (bI (anyB (fun j => eP w h (que j)) qd))) :: st) (xw w h sam blk lost ogr came sums sqs mrk que qd)) : q_W x pc lv (.inr (.inr (some 0)) :: st) (xw w h sam blk lost ogr came sums sqs mrk que qd) :=
  q_callV [] ct_X0_queuedComeToEdge lkX0_X0_queuedComeToEdge dc_X0_queuedComeToEdge rfl ok rfl hR hst (Nat.le_of_ble_eq_true rfl) hd ⟨w, h, sam, blk, lost, ogr, came, sums, sqs, mrk, que, qd, g, hq, hu, rfl, rfl, kk⟩
def sp_X0_isSpeck : List q_V → List q_E → (Option q_V → List q_E → Prop) → Prop := fun as Wd K => ∃ (w : Nat) (h : Nat) (sam : Nat → Nat) (blk : Nat → Bool) (lost : Int64) (ogr : Nat → Nat) (came : Nat → Int32) (sums : Nat → Int64) (sqs : Nat → Int64) (mrk : Nat → Bool) (que : Nat → Nat) (qd : Nat) (col : Bool) (mo : Nat), (q_g w h) ∧ (qd ≤ w * h) ∧ (∀ j, j < qd → que j < w * h) ∧ (mo ≤ 256) ∧ as = [.inr (.inr (some 0)), .inl (bI col), .inl (nI mo)] ∧ Wd = (xw w h sam blk lost ogr came sums sqs mrk que qd) ∧ (K (some (.inl (bI (decide (qd ≤ mo) && (col || !anyB (fun j => eP w h (que j)) qd))))) (xw w h sam blk lost ogr came sums sqs mrk que qd))
set_option maxHeartbeats 4000000 in
set_option maxRecDepth 20000 in
theorem ct_X0_isSpeck : q_Ct yX0_isSpeck cX0_isSpeck 3 (some .boolean) 2 44 sp_X0_isSpeck := by
  refine q_met (by decide) ?_
  intro x as Wd K hs ok fn
  obtain ⟨w, h, sam, blk, lost, ogr, came, sums, sqs, mrk, que, qd, col, mo, g, hq, hu, hm, rfl, rfl, hk⟩ := hs
  show q_W x 0 [some (.inr (.inr (some 0))), some (.inl (bI col)), some (.inl (nI mo))] [] (xw w h sam blk lost ogr came sums sqs mrk que qd)
  have hn := q_gn g
  refine q_aload_n ok rfl dX0_isSpeck_0 ?_
  refine xg_queued ok dX0_isSpeck_1 ?_
  refine q_iload_n ok rfl dX0_isSpeck_4 ?_
  refine q_icmpN_gt 23 (by omega) (by omega) ok dX0_isSpeck_5 (by decide) (fun h5 => ?_) (fun h5 => ?_)
  · refine q_iconstv (nI 0) ok (by decide) dX0_isSpeck_23 ?_
    exact q_zret ok fn dX0_isSpeck_24 (by decide) (by have ee : (decide (qd ≤ mo) && (col || !anyB (fun j => eP w h (que j)) qd)) = false := (by rw [decide_eq_false (by omega)]; rfl); rw [ee] at hk; exact hk)
  · refine q_iload_n ok rfl dX0_isSpeck_8 ?_
    refine q_ifb_ne 19 ok dX0_isSpeck_9 (by decide) (fun h9 => ?_) (fun h9 => ?_)
    · refine q_iconstv (nI 1) ok (by decide) dX0_isSpeck_19 ?_
      refine q_goto 24 ok dX0_isSpeck_20 (by decide) ?_
      exact q_zret ok fn dX0_isSpeck_24 (by decide) (by have ee : (decide (qd ≤ mo) && (col || !anyB (fun j => eP w h (que j)) qd)) = true := (by rw [decide_eq_true (by omega), h9]; rfl); rw [ee] at hk; exact hk)
    · refine q_aload_n ok rfl dX0_isSpeck_12 ?_
      refine kX0_queuedComeToEdge g hq hu (by decide) (Nat.le_of_ble_eq_true rfl) ok dX0_isSpeck_13 ?_
      refine q_ifb_ne 23 ok dX0_isSpeck_16 (by decide) (fun h16 => ?_) (fun h16 => ?_)
      · refine q_iconstv (nI 0) ok (by decide) dX0_isSpeck_23 ?_
        exact q_zret ok fn dX0_isSpeck_24 (by decide) (by have ee : (decide (qd ≤ mo) && (col || !anyB (fun j => eP w h (que j)) qd)) = false := (by rw [decide_eq_true (by omega), h9, h16]; rfl); rw [ee] at hk; exact hk)
      · refine q_iconstv (nI 1) ok (by decide) dX0_isSpeck_19 ?_
        refine q_goto 24 ok dX0_isSpeck_20 (by decide) ?_
        exact q_zret ok fn dX0_isSpeck_24 (by decide) (by have ee : (decide (qd ≤ mo) && (col || !anyB (fun j => eP w h (que j)) qd)) = true := (by rw [decide_eq_true (by omega), h9, h16]; rfl); rw [ee] at hk; exact hk)
theorem kX0_isSpeck {x : q_X} {cc : ByteArray} {fr lo pc : Nat} {lv : List (Option q_V)} {st : List q_V} {w : Nat} {h : Nat} {sam : Nat → Nat} {blk : Nat → Bool} {lost : Int64} {ogr : Nat → Nat} {came : Nat → Int32} {sums : Nat → Int64} {sqs : Nat → Int64} {mrk : Nat → Bool} {que : Nat → Nat} {qd : Nat} {col : Bool} {mo : Nat} (g : q_g w h) (hq : qd ≤ w * h) (hu : ∀ j, j < qd → que j < w * h) (hm : mo ≤ 256) (hR : 2 + 1 ≤ fr ∧ 8 + (3 + 11) + 44 ≤ lo) (hst : (st.map (fun v => if q_nol (some v) then 1 else 2)).sum ≤ 8) (ok : q_ok x cc RX0 fr lo) (hd : decode cc pc = .ok (.invokevirtual 208, 3)) (kk : q_W x (pc + 3) lv ((.inl (bI (decide (qd ≤ mo) && (col || !anyB (fun j => eP w h (que j)) qd)))) :: st) (xw w h sam blk lost ogr came sums sqs mrk que qd)) : q_W x pc lv (.inl (nI mo) :: .inl (bI col) :: .inr (.inr (some 0)) :: st) (xw w h sam blk lost ogr came sums sqs mrk que qd) :=
  q_callV [.inl (bI col), .inl (nI mo)] ct_X0_isSpeck lkX0_X0_isSpeck dc_X0_isSpeck rfl ok rfl hR hst (Nat.le_of_ble_eq_true rfl) hd ⟨w, h, sam, blk, lost, ogr, came, sums, sqs, mrk, que, qd, col, mo, g, hq, hu, hm, rfl, rfl, kk⟩
def sp_X0_blackenUpTo : List q_V → List q_E → (Option q_V → List q_E → Prop) → Prop := fun as Wd K => ∃ (w : Nat) (h : Nat) (sam : Nat → Nat) (blk : Nat → Bool) (lost : Int64) (ogr : Nat → Nat) (came : Nat → Int32) (sums : Nat → Int64) (sqs : Nat → Int64) (mrk : Nat → Bool) (que : Nat → Nat) (qd : Nat) (p : Nat) (hi : Int32), (q_g w h) ∧ (p < w * h) ∧ (∀ k, k < w * h → blk k = false → qd < w * h) ∧ as = [.inr (.inr (some 0)), .inl (nI p), .inl hi] ∧ Wd = (xw w h sam blk lost ogr came sums sqs mrk que qd) ∧ (K none (xw w h sam ((bUp sam hi p (blk, que, qd)).1) lost ogr came sums sqs mrk ((bUp sam hi p (blk, que, qd)).2.1) ((bUp sam hi p (blk, que, qd)).2.2)))
set_option maxHeartbeats 4000000 in
set_option maxRecDepth 20000 in
theorem ct_X0_blackenUpTo : q_Ct yX0_blackenUpTo cX0_blackenUpTo 3 none 1 21 sp_X0_blackenUpTo := by
  refine q_met (by decide) ?_
  intro x as Wd K hs ok fn
  obtain ⟨w, h, sam, blk, lost, ogr, came, sums, sqs, mrk, que, qd, p, hi, g, hp, hq, rfl, rfl, hk⟩ := hs
  show q_W x 0 [some (.inr (.inr (some 0))), some (.inl (nI p)), some (.inl hi)] [] (xw w h sam blk lost ogr came sums sqs mrk que qd)
  refine q_aload_n ok rfl dX0_blackenUpTo_0 ?_
  refine xg_black ok dX0_blackenUpTo_1 ?_
  refine q_iload_n ok rfl dX0_blackenUpTo_4 ?_
  refine xl_blk g (by omega) ok dX0_blackenUpTo_5 ?_
  refine q_ifb_ne 31 ok dX0_blackenUpTo_6 (by decide) (fun h6 => ?_) (fun h6 => ?_)
  · exact q_vret ok fn dX0_blackenUpTo_31 (by rw [show bUp sam hi p (blk, que, qd) = (blk, que, qd) from if_neg (by show ¬ (!blk p && decide (nI (sam p) ≤ hi)) = true; rw [h6]; simp)] at hk; exact hk)
  · refine q_aload_n ok rfl dX0_blackenUpTo_9 ?_
    refine xg_samples ok dX0_blackenUpTo_10 ?_
    refine q_iload_n ok rfl dX0_blackenUpTo_13 ?_
    refine xl_sam g (by omega) ok dX0_blackenUpTo_14 ?_
    refine q_iload_n ok rfl dX0_blackenUpTo_15 ?_
    refine q_icmp_gt 31 ok dX0_blackenUpTo_16 (by decide) (fun h16 => ?_) (fun h16 => ?_)
    · exact q_vret ok fn dX0_blackenUpTo_31 (by rw [show bUp sam hi p (blk, que, qd) = (blk, que, qd) from if_neg (by show ¬ (!blk p && decide (nI (sam p) ≤ hi)) = true; rw [decide_eq_false (Int32.not_le.mpr h16)]; simp)] at hk; exact hk)
    · refine q_aload_n ok rfl dX0_blackenUpTo_19 ?_
      refine xg_black ok dX0_blackenUpTo_20 ?_
      refine q_iload_n ok rfl dX0_blackenUpTo_23 ?_
      refine q_iconstv (nI 1) ok (by decide) dX0_blackenUpTo_24 ?_
      refine xs_blk (v := true) g (by omega) ok dX0_blackenUpTo_25 ?_
      refine q_aload_n ok rfl dX0_blackenUpTo_26 ?_
      refine q_iload_n ok rfl dX0_blackenUpTo_27 ?_
      refine kX0_enqueue g (hq p hp h6) (by decide) (Nat.le_of_ble_eq_true rfl) ok dX0_blackenUpTo_28 ?_
      exact q_vret ok fn dX0_blackenUpTo_31 (by rw [show bUp sam hi p (blk, que, qd) = (va_up blk p true, va_up que qd p, qd + 1) from if_pos (by show (!blk p && decide (nI (sam p) ≤ hi)) = true; rw [h6, decide_eq_true (Int32.not_lt.mp h16)]; rfl)] at hk; exact hk)
theorem kX0_blackenUpTo {x : q_X} {cc : ByteArray} {fr lo pc : Nat} {lv : List (Option q_V)} {st : List q_V} {w : Nat} {h : Nat} {sam : Nat → Nat} {blk : Nat → Bool} {lost : Int64} {ogr : Nat → Nat} {came : Nat → Int32} {sums : Nat → Int64} {sqs : Nat → Int64} {mrk : Nat → Bool} {que : Nat → Nat} {qd : Nat} {p : Nat} {hi : Int32} (g : q_g w h) (hp : p < w * h) (hq : ∀ k, k < w * h → blk k = false → qd < w * h) (hR : 1 + 1 ≤ fr ∧ 8 + (3 + 11) + 21 ≤ lo) (hst : (st.map (fun v => if q_nol (some v) then 1 else 2)).sum ≤ 8) (ok : q_ok x cc RX0 fr lo) (hd : decode cc pc = .ok (.invokevirtual 194, 3)) (kk : q_W x (pc + 3) lv (st) (xw w h sam ((bUp sam hi p (blk, que, qd)).1) lost ogr came sums sqs mrk ((bUp sam hi p (blk, que, qd)).2.1) ((bUp sam hi p (blk, que, qd)).2.2))) : q_W x pc lv (.inl hi :: .inl (nI p) :: .inr (.inr (some 0)) :: st) (xw w h sam blk lost ogr came sums sqs mrk que qd) :=
  q_callV [.inl (nI p), .inl hi] ct_X0_blackenUpTo lkX0_X0_blackenUpTo dc_X0_blackenUpTo rfl ok rfl hR hst (Nat.le_of_ble_eq_true rfl) hd ⟨w, h, sam, blk, lost, ogr, came, sums, sqs, mrk, que, qd, p, hi, g, hp, hq, rfl, rfl, kk⟩
