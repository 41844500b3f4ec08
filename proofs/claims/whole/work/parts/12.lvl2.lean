-- SECOND LEVEL of the class: fill, errors, edges, queue
def sp_fill (k : Nat) : List q_V → List q_E → (Option q_V → List q_E → Prop) → Prop := fun as Wd K => ∃ (n : Nat) (f : Nat → Int32) (v : Int32), n < 2 ^ 31 ∧ as = [.inr (.inr (some k)), .inl v] ∧ Wd[k]? = some (.inl (0, n, .inl f)) ∧ K none (Wd.set k (.inl (0, n, .inl (fun j => if j < n then v else f j))))
set_option maxHeartbeats 4000000 in
theorem ct_fill (k : Nat) : q_Ct yJ7_fill_53178 cJ7_fill_53178 4 none 0 0 (sp_fill k) := by
  refine q_metF (by decide +kernel) ?_
  intro x as Wd K hs ok fn
  obtain ⟨n, f, v, hn, rfl, he, hk⟩ := hs
  have hlt : k < Wd.length := (List.getElem?_eq_some_iff.mp he).1
  show q_W x 0 [some (.inr (.inr (some k))), some (.inl v), none, none] [] Wd
  have L : ∀ (d i : Nat), d = n - i → i ≤ n → q_W x 5 [some (.inr (.inr (some k))), some (.inl v), some (.inl (nI i)), some (.inl (nI n))] [] (Wd.set k (.inl (0, n, .inl (fun j => if j < i then v else f j)))) := by
    intro d
    induction d using Nat.strongRecOn with
    | _ d ih =>
      intro i hd hi
      have he2 : (Wd.set k (.inl (0, n, .inl (fun j => if j < i then v else f j))))[k]? = some (.inl (0, n, .inl (fun j => if j < i then v else f j))) := by rw [List.getElem?_set]; simp [hlt]
      refine q_iload_n ok rfl dJ7_fill_53178_5 ?_
      refine q_iload_n ok rfl dJ7_fill_53178_6 ?_
      refine q_icmpN_ge 20 (by omega) (by omega) ok dJ7_fill_53178_7 (by decide) (fun h7 => ?_) (fun h7 => ?_)
      · have : i = n := by omega
        subst this
        exact q_vret ok fn dJ7_fill_53178_20 hk
      · refine q_aload_n ok rfl dJ7_fill_53178_10 ?_
        refine q_iload_n ok rfl dJ7_fill_53178_11 ?_
        refine q_iload_n ok rfl dJ7_fill_53178_12 ?_
        refine q_iast ok he2 (vp_in_nI (by omega) hn) dJ7_fill_53178_13 ?_
        refine q_iincN_2 1 ok rfl (by decide) dJ7_fill_53178_14 ?_
        refine q_goto 5 ok dJ7_fill_53178_17 (by decide) ?_
        have e : (Wd.set k (.inl (0, n, .inl (fun j => if j < i then v else f j)))).set k (.inl (0, n, .inl (upd (fun j => if j < i then v else f j) (nI i).toNatClampNeg v))) = Wd.set k (.inl (0, n, .inl (fun j => if j < i + 1 then v else f j))) := by
          rw [List.set_set, nI_clamp (by omega)]
          have e1 : upd (fun j => if j < i then v else f j) i v = fun j => if j < i + 1 then v else f j := by
            funext j
            by_cases h : j = i
            · subst h; simp [upd]
            · simp only [upd, if_neg h]
              by_cases h2 : j < i
              · rw [if_pos h2, if_pos (by omega)]
              · rw [if_neg h2, if_neg (by omega)]
          rw [e1]
        rw [e]
        exact ih _ (by omega) (i + 1) rfl (by omega)
  refine q_iconstv (nI 0) ok (by decide) dJ7_fill_53178_0 ?_
  refine q_istore_2 ok rfl dJ7_fill_53178_1 ?_
  refine q_aload_n ok rfl dJ7_fill_53178_2 ?_
  refine q_alen ok he (by decide) dJ7_fill_53178_3 ?_
  refine q_istore_3 ok rfl dJ7_fill_53178_4 ?_
  have e0 : Wd.set k (.inl (0, n, .inl (fun j => if j < 0 then v else f j))) = Wd := by
    obtain ⟨h1, h2⟩ := List.getElem?_eq_some_iff.mp he
    have : (fun j => if j < 0 then v else f j) = f := by funext j; simp
    rw [this, ← h2, List.set_getElem_self]
  have := L _ 0 rfl (Nat.zero_le _)
  rw [e0] at this
  exact this

theorem pu_step {α : Type} {F : Nat → α} {f : Nat → α} {t : Nat} : va_up (fun k => if k < t then F k else f k) t (F t) = fun k => if k < t + 1 then F k else f k := by
  funext k
  by_cases h : k = t
  · subst h; simp [va_up]
  · simp only [va_up, if_neg h]
    by_cases h2 : k < t
    · rw [if_pos h2, if_pos (by omega)]
    · rw [if_neg h2, if_neg (by omega)]
theorem pu_0 {α : Type} {F f : Nat → α} : (fun k => if k < 0 then F k else f k) = f := by funext k; simp
theorem kfill_came {x : q_X} {cc : ByteArray} {fr lo pc : Nat} {lv : List (Option q_V)} {st : List q_V} {w : Nat} {h : Nat} {sam : Nat → Nat} {blk : Nat → Bool} {lost : Int64} {ogr : Nat → Nat} {came : Nat → Int32} {sums : Nat → Int64} {sqs : Nat → Int64} {mrk : Nat → Bool} {que : Nat → Nat} {qd : Nat} (g : q_g w h) (hR : 1 ≤ fr ∧ 23 ≤ lo) (hst : (st.map (fun v => if q_nol (some v) then 1 else 2)).sum ≤ 8) (ok : q_ok x cc RX0 fr lo) (hd : decode cc pc = .ok (.invokestatic 95, 3)) (kk : q_W x (pc + 3) lv st (xw w h sam blk lost ogr (fun j => if j < w * h then nI 0 else came j) sums sqs mrk que qd)) : q_W x pc lv (.inl (nI 0) :: .inr (.inr (some 4)) :: st) (xw w h sam blk lost ogr came sums sqs mrk que qd) := by
  have hn := q_gn g
  refine q_callS [.inr (.inr (some 4)), .inl (nI 0)] (ct_fill 4) lkX0_J7_fill_53178 dc_J7_fill_53178 ok hR hst (Nat.le_of_ble_eq_true rfl) hd ?_
  refine ⟨w * h, came, nI 0, by omega, rfl, rfl, ?_⟩
  skip
  exact kk
theorem kfill_ogr {x : q_X} {cc : ByteArray} {fr lo pc : Nat} {lv : List (Option q_V)} {st : List q_V} {w : Nat} {h : Nat} {sam : Nat → Nat} {blk : Nat → Bool} {lost : Int64} {ogr : Nat → Nat} {came : Nat → Int32} {sums : Nat → Int64} {sqs : Nat → Int64} {mrk : Nat → Bool} {que : Nat → Nat} {qd : Nat} (g : q_g w h) (hR : 1 ≤ fr ∧ 23 ≤ lo) (hst : (st.map (fun v => if q_nol (some v) then 1 else 2)).sum ≤ 8) (ok : q_ok x cc RX0 fr lo) (hd : decode cc pc = .ok (.invokestatic 95, 3)) (kk : q_W x (pc + 3) lv st (xw w h sam blk lost (fun j => if j < 256 then 0 else ogr j) came sums sqs mrk que qd)) : q_W x pc lv (.inl (nI 0) :: .inr (.inr (some 3)) :: st) (xw w h sam blk lost ogr came sums sqs mrk que qd) := by
  have hn := q_gn g
  refine q_callS [.inr (.inr (some 3)), .inl (nI 0)] (ct_fill 3) lkX0_J7_fill_53178 dc_J7_fill_53178 ok hR hst (Nat.le_of_ble_eq_true rfl) hd ?_
  refine ⟨256, (fun j => nI (ogr j)), nI 0, by omega, rfl, rfl, ?_⟩
  have e : (fun j => if j < 256 then nI 0 else (fun j => nI (ogr j)) j) = fun j => nI ((fun j => if j < 256 then 0 else ogr j) j) := by funext j; by_cases hj : j < 256 <;> simp [hj]
  rw [e]
  exact kk
def pT (w h : Nat) (a b e : Int32) (came : Nat → Int32) : Nat → Int32 := if inI w h a b = true then va_up came (pI w a b) (came (pI w a b) + e) else came
def lT (w h : Nat) (a b e : Int32) (lost : Int64) : Int64 := if inI w h a b = true then lost else lost + e.toInt64
abbrev q_T : Type := (Nat → Bool) × (Int64 × (Nat → Int32))
def sE (v : Int32) : Int32 := if v < nI 128 then v else v - nI 255
def sB (e : Int32) (kind : Int32) : Int32 := if kind = nI 2 then e / nI 4 else e - e / nI 2
def sS (w h : Nat) (sam : Nat → Nat) (step kind : Int32) (x y : Nat) (t : q_T) : q_T :=
  (va_up t.1 (y * w + x) (if nI (sam (y * w + x)) + t.2.2 (y * w + x) < nI 128 then true else false),
   lT w h (nI x - step) (nI (y + 1)) (sE (nI (sam (y * w + x)) + t.2.2 (y * w + x)) - sE (nI (sam (y * w + x)) + t.2.2 (y * w + x)) / nI 2 - sB (sE (nI (sam (y * w + x)) + t.2.2 (y * w + x))) kind) (lT w h (nI x) (nI (y + 1)) (sB (sE (nI (sam (y * w + x)) + t.2.2 (y * w + x))) kind) (lT w h (nI x + step) (nI y) (sE (nI (sam (y * w + x)) + t.2.2 (y * w + x)) / nI 2) t.2.1)),
   pT w h (nI x - step) (nI (y + 1)) (sE (nI (sam (y * w + x)) + t.2.2 (y * w + x)) - sE (nI (sam (y * w + x)) + t.2.2 (y * w + x)) / nI 2 - sB (sE (nI (sam (y * w + x)) + t.2.2 (y * w + x))) kind) (pT w h (nI x) (nI (y + 1)) (sB (sE (nI (sam (y * w + x)) + t.2.2 (y * w + x))) kind) (pT w h (nI x + step) (nI y) (sE (nI (sam (y * w + x)) + t.2.2 (y * w + x)) / nI 2) t.2.2)))
theorem sS_c {w h : Nat} {sam : Nat → Nat} {stp knd : Int32} {i j : Nat} {blk : Nat → Bool} {lost : Int64} {came : Nat → Int32} {v e be : Int32} {bl : Bool} (hv : nI (sam (j * w + i)) + came (j * w + i) = v) (he : sE v = e) (hb : sB e knd = be) (hl : (if v < nI 128 then true else false) = bl) :
    sS w h sam stp knd i j (blk, lost, came) = (va_up blk (j * w + i) bl, lT w h (nI i - stp) (nI (j + 1)) (e - e / nI 2 - be) (lT w h (nI i) (nI (j + 1)) be (lT w h (nI i + stp) (nI j) (e / nI 2) lost)), pT w h (nI i - stp) (nI (j + 1)) (e - e / nI 2 - be) (pT w h (nI i) (nI (j + 1)) be (pT w h (nI i + stp) (nI j) (e / nI 2) came))) := by
  subst hv; subst he; subst hb; subst hl; rfl
def sBk (kind : Int32) (y : Nat) : Bool := decide (kind = nI 1 ∧ y % 2 = 1)
def sSt (b : Bool) : Int32 := if b = true then -1 else nI 1
def sX (w : Nat) (b : Bool) (i : Nat) : Nat := if b = true then w - 1 - i else i
def sXi (w : Nat) (b : Bool) (i : Nat) : Int32 := if b = true then nI w - nI 1 - nI i else nI i
def sRow (w h : Nat) (sam : Nat → Nat) (kind : Int32) (y : Nat) : Nat → q_T → q_T
  | 0, t => t
  | i + 1, t => sS w h sam (sSt (sBk kind y)) kind (sX w (sBk kind y) i) y (sRow w h sam kind y i t)
def sAll (w h : Nat) (sam : Nat → Nat) (kind : Int32) : Nat → q_T → q_T
  | 0, t => t
  | y + 1, t => sRow w h sam kind y w (sAll w h sam kind y t)
theorem sXi_n {w i : Nat} (b : Bool) (hi : i < w) : sXi w b i = nI (sX w b i) := by
  cases b
  · rfl
  · simp only [sXi, sX, if_true]
    rw [pk_sub (by omega), pk_sub (by omega)]
theorem sXi_s {w i : Nat} (b : Bool) : sXi w b i + sSt b = sXi w b (i + 1) := by
  cases b
  · simp only [sXi, sSt]; exact nI_add i 1
  · simp only [sXi, sSt, if_true]
    rw [← nI_add i 1, show (-1 : Int32) = -(nI 1) from by decide]
    generalize nI w - nI 1 = a
    generalize nI i = c
    generalize nI 1 = d
    rw [Int32.sub_eq_add_neg a c, Int32.sub_eq_add_neg a (c + d), Int32.neg_add, Int32.add_assoc, Int32.sub_eq_add_neg (-c) d]
theorem sX_lt {w i : Nat} (b : Bool) (hi : i < w) : sX w b i < w := by
  cases b
  · exact hi
  · simp only [sX, if_true]; omega
def sp_X0_passTo : List q_V → List q_E → (Option q_V → List q_E → Prop) → Prop := fun as Wd K => ∃ (w : Nat) (h : Nat) (sam : Nat → Nat) (blk : Nat → Bool) (lost : Int64) (ogr : Nat → Nat) (came : Nat → Int32) (sums : Nat → Int64) (sqs : Nat → Int64) (mrk : Nat → Bool) (que : Nat → Nat) (qd : Nat) (a : Int32) (b : Int32) (e : Int32), (q_g w h) ∧ as = [.inr (.inr (some 0)), .inl a, .inl b, .inl e] ∧ Wd = (xw w h sam blk lost ogr came sums sqs mrk que qd) ∧ (K none (xw w h sam blk (lT w h a b e lost) ogr (pT w h a b e came) sums sqs mrk que qd))
set_option maxHeartbeats 4000000 in
set_option maxRecDepth 20000 in
theorem ct_X0_passTo : q_Ct yX0_passTo cX0_passTo 4 none 1 22 sp_X0_passTo := by
  refine q_met (by decide) ?_
  intro x as Wd K hs ok fn
  obtain ⟨w, h, sam, blk, lost, ogr, came, sums, sqs, mrk, que, qd, a, b, e, g, rfl, rfl, hk⟩ := hs
  show q_W x 0 [some (.inr (.inr (some 0))), some (.inl a), some (.inl b), some (.inl e)] [] (xw w h sam blk lost ogr came sums sqs mrk que qd)
  refine q_aload_n ok rfl dX0_passTo_0 ?_
  refine q_iload_n ok rfl dX0_passTo_1 ?_
  refine q_iload_n ok rfl dX0_passTo_2 ?_
  refine kX0_isInside (by decide) (Nat.le_of_ble_eq_true rfl) ok dX0_passTo_3 ?_
  refine q_ifb_eq 27 ok dX0_passTo_6 (by decide) (fun h6 => ?_) (fun h6 => ?_)
  · refine q_aload_n ok rfl dX0_passTo_27 ?_
    refine q_dupa ok dX0_passTo_28 ?_
    refine xg_lost ok dX0_passTo_29 ?_
    refine q_iload_n ok rfl dX0_passTo_32 ?_
    refine q_i2l ok dX0_passTo_33 ?_
    refine q_ladd ok dX0_passTo_34 ?_
    refine xp_lost ok dX0_passTo_35 ?_
    exact q_vret ok fn dX0_passTo_38 (by first | (unfold lT pT at hk; rw [if_pos h6, if_pos h6, pI_n (by omega) (by omega)] at hk; exact hk) | (unfold lT pT at hk; rw [if_neg (by rw [h6]; decide), if_neg (by rw [h6]; decide)] at hk; exact hk))
  · obtain ⟨i, j, hi, hj, rfl, rfl⟩ := inI_o g h6
    have hlt := pl_lt hi hj
    have hw := g.2.1
    have hh := g.2.2.2
    refine q_aload_n ok rfl dX0_passTo_9 ?_
    refine xg_came ok dX0_passTo_10 ?_
    refine q_aload_n ok rfl dX0_passTo_13 ?_
    refine q_iload_n ok rfl dX0_passTo_14 ?_
    refine q_iload_n ok rfl dX0_passTo_15 ?_
    refine kX0_placeOf (by decide) (Nat.le_of_ble_eq_true rfl) ok dX0_passTo_16 ?_
    refine q_dup2ia ok dX0_passTo_19 ?_
    refine xl_came g (by omega) ok dX0_passTo_20 ?_
    refine q_iload_n ok rfl dX0_passTo_21 ?_
    refine q_iadd ok dX0_passTo_22 ?_
    refine xs_came g (by omega) ok dX0_passTo_23 ?_
    refine q_goto 38 ok dX0_passTo_24 (by decide) ?_
    exact q_vret ok fn dX0_passTo_38 (by first | (unfold lT pT at hk; rw [if_pos h6, if_pos h6, pI_n (by omega) (by omega)] at hk; exact hk) | (unfold lT pT at hk; rw [if_neg (by rw [h6]; decide), if_neg (by rw [h6]; decide)] at hk; exact hk))
theorem kX0_passTo {x : q_X} {cc : ByteArray} {fr lo pc : Nat} {lv : List (Option q_V)} {st : List q_V} {w : Nat} {h : Nat} {sam : Nat → Nat} {blk : Nat → Bool} {lost : Int64} {ogr : Nat → Nat} {came : Nat → Int32} {sums : Nat → Int64} {sqs : Nat → Int64} {mrk : Nat → Bool} {que : Nat → Nat} {qd : Nat} {a : Int32} {b : Int32} {e : Int32} (g : q_g w h) (hR : 1 + 1 ≤ fr ∧ 8 + (4 + 11) + 22 ≤ lo) (hst : (st.map (fun v => if q_nol (some v) then 1 else 2)).sum ≤ 8) (ok : q_ok x cc RX0 fr lo) (hd : decode cc pc = .ok (.invokevirtual 187, 3)) (kk : q_W x (pc + 3) lv (st) (xw w h sam blk (lT w h a b e lost) ogr (pT w h a b e came) sums sqs mrk que qd)) : q_W x pc lv (.inl e :: .inl b :: .inl a :: .inr (.inr (some 0)) :: st) (xw w h sam blk lost ogr came sums sqs mrk que qd) :=
  q_callV [.inl a, .inl b, .inl e] ct_X0_passTo lkX0_X0_passTo dc_X0_passTo rfl ok rfl hR hst (Nat.le_of_ble_eq_true rfl) hd ⟨w, h, sam, blk, lost, ogr, came, sums, sqs, mrk, que, qd, a, b, e, g, rfl, rfl, kk⟩
def sp_X0_spreadSample : List q_V → List q_E → (Option q_V → List q_E → Prop) → Prop := fun as Wd K => ∃ (w : Nat) (h : Nat) (sam : Nat → Nat) (blk : Nat → Bool) (lost : Int64) (ogr : Nat → Nat) (came : Nat → Int32) (sums : Nat → Int64) (sqs : Nat → Int64) (mrk : Nat → Bool) (que : Nat → Nat) (qd : Nat) (i : Nat) (j : Nat) (stp : Int32) (knd : Int32), (q_g w h) ∧ (i < w) ∧ (j < h) ∧ as = [.inr (.inr (some 0)), .inl (nI i), .inl (nI j), .inl stp, .inl knd] ∧ Wd = (xw w h sam blk lost ogr came sums sqs mrk que qd) ∧ (K none (xw w h sam ((sS w h sam stp knd i j (blk, lost, came)).1) ((sS w h sam stp knd i j (blk, lost, came)).2.1) ogr ((sS w h sam stp knd i j (blk, lost, came)).2.2) sums sqs mrk que qd))
set_option maxHeartbeats 4000000 in
set_option maxRecDepth 20000 in
theorem ct_X0_spreadSample : q_Ct yX0_spreadSample cX0_spreadSample 11 none 2 45 sp_X0_spreadSample := by
  refine q_met (by decide) ?_
  intro x as Wd K hs ok fn
  obtain ⟨w, h, sam, blk, lost, ogr, came, sums, sqs, mrk, que, qd, i, j, stp, knd, g, hi, hj, rfl, rfl, hk⟩ := hs
  show q_W x 0 [some (.inr (.inr (some 0))), some (.inl (nI i)), some (.inl (nI j)), some (.inl stp), some (.inl knd), none, none, none, none, none, none] [] (xw w h sam blk lost ogr came sums sqs mrk que qd)
  have hlt := pl_lt hi hj
  refine q_aload_n ok rfl dX0_spreadSample_0 ?_
  refine q_iload_n ok rfl dX0_spreadSample_1 ?_
  refine q_iload_n ok rfl dX0_spreadSample_2 ?_
  refine kX0_placeOf (by decide) (Nat.le_of_ble_eq_true rfl) ok dX0_spreadSample_3 ?_
  refine q_istore_5 ok rfl dX0_spreadSample_6 ?_
  refine q_aload_n ok rfl dX0_spreadSample_8 ?_
  refine xg_samples ok dX0_spreadSample_9 ?_
  refine q_iload ok rfl dX0_spreadSample_12 ?_
  refine xl_sam g (by omega) ok dX0_spreadSample_14 ?_
  refine q_aload_n ok rfl dX0_spreadSample_15 ?_
  refine xg_came ok dX0_spreadSample_16 ?_
  refine q_iload ok rfl dX0_spreadSample_19 ?_
  refine xl_came g (by omega) ok dX0_spreadSample_21 ?_
  refine q_iadd ok dX0_spreadSample_22 ?_
  refine q_istore_6 ok rfl dX0_spreadSample_23 ?_
  refine q_aload_n ok rfl dX0_spreadSample_25 ?_
  refine xg_black ok dX0_spreadSample_26 ?_
  refine q_iload ok rfl dX0_spreadSample_29 ?_
  refine q_iload ok rfl dX0_spreadSample_31 ?_
  refine q_sipushv (nI 128) ok (by decide) dX0_spreadSample_33 ?_
  refine q_icmp_ge 43 ok dX0_spreadSample_36 (by decide) (fun h36 => ?_) (fun h36 => ?_)
  · refine q_iconstv (nI 0) ok (by decide) dX0_spreadSample_43 ?_
    refine xs_blk (v := false) g (by omega) ok dX0_spreadSample_44 ?_
    refine q_aload_n ok rfl dX0_spreadSample_45 ?_
    refine xg_black ok dX0_spreadSample_46 ?_
    refine q_iload ok rfl dX0_spreadSample_49 ?_
    refine xl_blk g (by omega) ok dX0_spreadSample_51 ?_
    refine q_ifb_eq 60 ok dX0_spreadSample_52 (by decide) (fun h52 => ?_) (fun h52 => ?_)
    · refine q_iload ok rfl dX0_spreadSample_60 ?_
      refine q_sipushv (nI 255) ok (by decide) dX0_spreadSample_62 ?_
      refine q_isub ok dX0_spreadSample_65 ?_
      refine q_istore_7 ok rfl dX0_spreadSample_66 ?_
      refine q_iload ok rfl dX0_spreadSample_68 ?_
      refine q_iconstv (nI 2) ok (by decide) dX0_spreadSample_70 ?_
      refine q_idiv ok (by decide) dX0_spreadSample_71 ?_
      refine q_istore_8 ok rfl dX0_spreadSample_72 ?_
      refine q_iload ok rfl dX0_spreadSample_74 ?_
      refine q_iconstv (nI 2) ok (by decide) dX0_spreadSample_76 ?_
      refine q_icmp_ne 87 ok dX0_spreadSample_77 (by decide) (fun h77 => ?_) (fun h77 => ?_)
      · refine q_iload ok rfl dX0_spreadSample_87 ?_
        refine q_iload ok rfl dX0_spreadSample_89 ?_
        refine q_isub ok dX0_spreadSample_91 ?_
        refine q_istore_9 ok rfl dX0_spreadSample_92 ?_
        refine q_iload ok rfl dX0_spreadSample_94 ?_
        refine q_iload ok rfl dX0_spreadSample_96 ?_
        refine q_isub ok dX0_spreadSample_98 ?_
        refine q_iload ok rfl dX0_spreadSample_99 ?_
        refine q_isub ok dX0_spreadSample_101 ?_
        refine q_istore_10 ok rfl dX0_spreadSample_102 ?_
        refine q_aload_n ok rfl dX0_spreadSample_104 ?_
        refine q_iload_n ok rfl dX0_spreadSample_105 ?_
        refine q_iload_n ok rfl dX0_spreadSample_106 ?_
        refine q_iadd ok dX0_spreadSample_107 ?_
        refine q_iload_n ok rfl dX0_spreadSample_108 ?_
        refine q_iload ok rfl dX0_spreadSample_109 ?_
        refine kX0_passTo g (by decide) (Nat.le_of_ble_eq_true rfl) ok dX0_spreadSample_111 ?_
        refine q_aload_n ok rfl dX0_spreadSample_114 ?_
        refine q_iload_n ok rfl dX0_spreadSample_115 ?_
        refine q_iload_n ok rfl dX0_spreadSample_116 ?_
        refine q_iconstv (nI 1) ok (by decide) dX0_spreadSample_117 ?_
        refine q_iaddN ok dX0_spreadSample_118 ?_
        refine q_iload ok rfl dX0_spreadSample_119 ?_
        refine kX0_passTo g (by decide) (Nat.le_of_ble_eq_true rfl) ok dX0_spreadSample_121 ?_
        refine q_aload_n ok rfl dX0_spreadSample_124 ?_
        refine q_iload_n ok rfl dX0_spreadSample_125 ?_
        refine q_iload_n ok rfl dX0_spreadSample_126 ?_
        refine q_isub ok dX0_spreadSample_127 ?_
        refine q_iload_n ok rfl dX0_spreadSample_128 ?_
        refine q_iconstv (nI 1) ok (by decide) dX0_spreadSample_129 ?_
        refine q_iaddN ok dX0_spreadSample_130 ?_
        refine q_iload ok rfl dX0_spreadSample_131 ?_
        refine kX0_passTo g (by decide) (Nat.le_of_ble_eq_true rfl) ok dX0_spreadSample_133 ?_
        rw [sS_c rfl (if_neg (Int32.not_lt.mpr h36)) (if_neg h77) (if_neg (Int32.not_lt.mpr h36))] at hk
        exact q_vret ok fn dX0_spreadSample_136 hk
      · refine q_iload ok rfl dX0_spreadSample_80 ?_
        refine q_iconstv (nI 4) ok (by decide) dX0_spreadSample_82 ?_
        refine q_idiv ok (by decide) dX0_spreadSample_83 ?_
        refine q_goto 92 ok dX0_spreadSample_84 (by decide) ?_
        refine q_istore_9 ok rfl dX0_spreadSample_92 ?_
        refine q_iload ok rfl dX0_spreadSample_94 ?_
        refine q_iload ok rfl dX0_spreadSample_96 ?_
        refine q_isub ok dX0_spreadSample_98 ?_
        refine q_iload ok rfl dX0_spreadSample_99 ?_
        refine q_isub ok dX0_spreadSample_101 ?_
        refine q_istore_10 ok rfl dX0_spreadSample_102 ?_
        refine q_aload_n ok rfl dX0_spreadSample_104 ?_
        refine q_iload_n ok rfl dX0_spreadSample_105 ?_
        refine q_iload_n ok rfl dX0_spreadSample_106 ?_
        refine q_iadd ok dX0_spreadSample_107 ?_
        refine q_iload_n ok rfl dX0_spreadSample_108 ?_
        refine q_iload ok rfl dX0_spreadSample_109 ?_
        refine kX0_passTo g (by decide) (Nat.le_of_ble_eq_true rfl) ok dX0_spreadSample_111 ?_
        refine q_aload_n ok rfl dX0_spreadSample_114 ?_
        refine q_iload_n ok rfl dX0_spreadSample_115 ?_
        refine q_iload_n ok rfl dX0_spreadSample_116 ?_
        refine q_iconstv (nI 1) ok (by decide) dX0_spreadSample_117 ?_
        refine q_iaddN ok dX0_spreadSample_118 ?_
        refine q_iload ok rfl dX0_spreadSample_119 ?_
        refine kX0_passTo g (by decide) (Nat.le_of_ble_eq_true rfl) ok dX0_spreadSample_121 ?_
        refine q_aload_n ok rfl dX0_spreadSample_124 ?_
        refine q_iload_n ok rfl dX0_spreadSample_125 ?_
        refine q_iload_n ok rfl dX0_spreadSample_126 ?_
        refine q_isub ok dX0_spreadSample_127 ?_
        refine q_iload_n ok rfl dX0_spreadSample_128 ?_
        refine q_iconstv (nI 1) ok (by decide) dX0_spreadSample_129 ?_
        refine q_iaddN ok dX0_spreadSample_130 ?_
        refine q_iload ok rfl dX0_spreadSample_131 ?_
        refine kX0_passTo g (by decide) (Nat.le_of_ble_eq_true rfl) ok dX0_spreadSample_133 ?_
        rw [sS_c rfl (if_neg (Int32.not_lt.mpr h36)) (if_pos h77) (if_neg (Int32.not_lt.mpr h36))] at hk
        exact q_vret ok fn dX0_spreadSample_136 hk
    · exact absurd h52 (by rw [va_up_self]; decide)
  · refine q_iconstv (nI 1) ok (by decide) dX0_spreadSample_39 ?_
    refine q_goto 44 ok dX0_spreadSample_40 (by decide) ?_
    refine xs_blk (v := true) g (by omega) ok dX0_spreadSample_44 ?_
    refine q_aload_n ok rfl dX0_spreadSample_45 ?_
    refine xg_black ok dX0_spreadSample_46 ?_
    refine q_iload ok rfl dX0_spreadSample_49 ?_
    refine xl_blk g (by omega) ok dX0_spreadSample_51 ?_
    refine q_ifb_eq 60 ok dX0_spreadSample_52 (by decide) (fun h52 => ?_) (fun h52 => ?_)
    · exact absurd h52 (by rw [va_up_self]; decide)
    · refine q_iload ok rfl dX0_spreadSample_55 ?_
      refine q_goto 66 ok dX0_spreadSample_57 (by decide) ?_
      refine q_istore_7 ok rfl dX0_spreadSample_66 ?_
      refine q_iload ok rfl dX0_spreadSample_68 ?_
      refine q_iconstv (nI 2) ok (by decide) dX0_spreadSample_70 ?_
      refine q_idiv ok (by decide) dX0_spreadSample_71 ?_
      refine q_istore_8 ok rfl dX0_spreadSample_72 ?_
      refine q_iload ok rfl dX0_spreadSample_74 ?_
      refine q_iconstv (nI 2) ok (by decide) dX0_spreadSample_76 ?_
      refine q_icmp_ne 87 ok dX0_spreadSample_77 (by decide) (fun h77 => ?_) (fun h77 => ?_)
      · refine q_iload ok rfl dX0_spreadSample_87 ?_
        refine q_iload ok rfl dX0_spreadSample_89 ?_
        refine q_isub ok dX0_spreadSample_91 ?_
        refine q_istore_9 ok rfl dX0_spreadSample_92 ?_
        refine q_iload ok rfl dX0_spreadSample_94 ?_
        refine q_iload ok rfl dX0_spreadSample_96 ?_
        refine q_isub ok dX0_spreadSample_98 ?_
        refine q_iload ok rfl dX0_spreadSample_99 ?_
        refine q_isub ok dX0_spreadSample_101 ?_
        refine q_istore_10 ok rfl dX0_spreadSample_102 ?_
        refine q_aload_n ok rfl dX0_spreadSample_104 ?_
        refine q_iload_n ok rfl dX0_spreadSample_105 ?_
        refine q_iload_n ok rfl dX0_spreadSample_106 ?_
        refine q_iadd ok dX0_spreadSample_107 ?_
        refine q_iload_n ok rfl dX0_spreadSample_108 ?_
        refine q_iload ok rfl dX0_spreadSample_109 ?_
        refine kX0_passTo g (by decide) (Nat.le_of_ble_eq_true rfl) ok dX0_spreadSample_111 ?_
        refine q_aload_n ok rfl dX0_spreadSample_114 ?_
        refine q_iload_n ok rfl dX0_spreadSample_115 ?_
        refine q_iload_n ok rfl dX0_spreadSample_116 ?_
        refine q_iconstv (nI 1) ok (by decide) dX0_spreadSample_117 ?_
        refine q_iaddN ok dX0_spreadSample_118 ?_
        refine q_iload ok rfl dX0_spreadSample_119 ?_
        refine kX0_passTo g (by decide) (Nat.le_of_ble_eq_true rfl) ok dX0_spreadSample_121 ?_
        refine q_aload_n ok rfl dX0_spreadSample_124 ?_
        refine q_iload_n ok rfl dX0_spreadSample_125 ?_
        refine q_iload_n ok rfl dX0_spreadSample_126 ?_
        refine q_isub ok dX0_spreadSample_127 ?_
        refine q_iload_n ok rfl dX0_spreadSample_128 ?_
        refine q_iconstv (nI 1) ok (by decide) dX0_spreadSample_129 ?_
        refine q_iaddN ok dX0_spreadSample_130 ?_
        refine q_iload ok rfl dX0_spreadSample_131 ?_
        refine kX0_passTo g (by decide) (Nat.le_of_ble_eq_true rfl) ok dX0_spreadSample_133 ?_
        rw [sS_c rfl (if_pos (Int32.not_le.mp h36)) (if_neg h77) (if_pos (Int32.not_le.mp h36))] at hk
        exact q_vret ok fn dX0_spreadSample_136 hk
      · refine q_iload ok rfl dX0_spreadSample_80 ?_
        refine q_iconstv (nI 4) ok (by decide) dX0_spreadSample_82 ?_
        refine q_idiv ok (by decide) dX0_spreadSample_83 ?_
        refine q_goto 92 ok dX0_spreadSample_84 (by decide) ?_
        refine q_istore_9 ok rfl dX0_spreadSample_92 ?_
        refine q_iload ok rfl dX0_spreadSample_94 ?_
        refine q_iload ok rfl dX0_spreadSample_96 ?_
        refine q_isub ok dX0_spreadSample_98 ?_
        refine q_iload ok rfl dX0_spreadSample_99 ?_
        refine q_isub ok dX0_spreadSample_101 ?_
        refine q_istore_10 ok rfl dX0_spreadSample_102 ?_
        refine q_aload_n ok rfl dX0_spreadSample_104 ?_
        refine q_iload_n ok rfl dX0_spreadSample_105 ?_
        refine q_iload_n ok rfl dX0_spreadSample_106 ?_
        refine q_iadd ok dX0_spreadSample_107 ?_
        refine q_iload_n ok rfl dX0_spreadSample_108 ?_
        refine q_iload ok rfl dX0_spreadSample_109 ?_
        refine kX0_passTo g (by decide) (Nat.le_of_ble_eq_true rfl) ok dX0_spreadSample_111 ?_
        refine q_aload_n ok rfl dX0_spreadSample_114 ?_
        refine q_iload_n ok rfl dX0_spreadSample_115 ?_
        refine q_iload_n ok rfl dX0_spreadSample_116 ?_
        refine q_iconstv (nI 1) ok (by decide) dX0_spreadSample_117 ?_
        refine q_iaddN ok dX0_spreadSample_118 ?_
        refine q_iload ok rfl dX0_spreadSample_119 ?_
        refine kX0_passTo g (by decide) (Nat.le_of_ble_eq_true rfl) ok dX0_spreadSample_121 ?_
        refine q_aload_n ok rfl dX0_spreadSample_124 ?_
        refine q_iload_n ok rfl dX0_spreadSample_125 ?_
        refine q_iload_n ok rfl dX0_spreadSample_126 ?_
        refine q_isub ok dX0_spreadSample_127 ?_
        refine q_iload_n ok rfl dX0_spreadSample_128 ?_
        refine q_iconstv (nI 1) ok (by decide) dX0_spreadSample_129 ?_
        refine q_iaddN ok dX0_spreadSample_130 ?_
        refine q_iload ok rfl dX0_spreadSample_131 ?_
        refine kX0_passTo g (by decide) (Nat.le_of_ble_eq_true rfl) ok dX0_spreadSample_133 ?_
        rw [sS_c rfl (if_pos (Int32.not_le.mp h36)) (if_pos h77) (if_pos (Int32.not_le.mp h36))] at hk
        exact q_vret ok fn dX0_spreadSample_136 hk
theorem kX0_spreadSample {x : q_X} {cc : ByteArray} {fr lo pc : Nat} {lv : List (Option q_V)} {st : List q_V} {w : Nat} {h : Nat} {sam : Nat → Nat} {blk : Nat → Bool} {lost : Int64} {ogr : Nat → Nat} {came : Nat → Int32} {sums : Nat → Int64} {sqs : Nat → Int64} {mrk : Nat → Bool} {que : Nat → Nat} {qd : Nat} {i : Nat} {j : Nat} {stp : Int32} {knd : Int32} (g : q_g w h) (hi : i < w) (hj : j < h) (hR : 2 + 1 ≤ fr ∧ 8 + (11 + 11) + 45 ≤ lo) (hst : (st.map (fun v => if q_nol (some v) then 1 else 2)).sum ≤ 8) (ok : q_ok x cc RX0 fr lo) (hd : decode cc pc = .ok (.invokevirtual 183, 3)) (kk : q_W x (pc + 3) lv (st) (xw w h sam ((sS w h sam stp knd i j (blk, lost, came)).1) ((sS w h sam stp knd i j (blk, lost, came)).2.1) ogr ((sS w h sam stp knd i j (blk, lost, came)).2.2) sums sqs mrk que qd)) : q_W x pc lv (.inl knd :: .inl stp :: .inl (nI j) :: .inl (nI i) :: .inr (.inr (some 0)) :: st) (xw w h sam blk lost ogr came sums sqs mrk que qd) :=
  q_callV [.inl (nI i), .inl (nI j), .inl stp, .inl knd] ct_X0_spreadSample lkX0_X0_spreadSample dc_X0_spreadSample rfl ok rfl hR hst (Nat.le_of_ble_eq_true rfl) hd ⟨w, h, sam, blk, lost, ogr, came, sums, sqs, mrk, que, qd, i, j, stp, knd, g, hi, hj, rfl, rfl, kk⟩
def sp_X0_spreadRow : List q_V → List q_E → (Option q_V → List q_E → Prop) → Prop := fun as Wd K => ∃ (w : Nat) (h : Nat) (sam : Nat → Nat) (blk : Nat → Bool) (lost : Int64) (ogr : Nat → Nat) (came : Nat → Int32) (sums : Nat → Int64) (sqs : Nat → Int64) (mrk : Nat → Bool) (que : Nat → Nat) (qd : Nat) (j : Nat) (knd : Int32), (q_g w h) ∧ (j < h) ∧ as = [.inr (.inr (some 0)), .inl (nI j), .inl knd] ∧ Wd = (xw w h sam blk lost ogr came sums sqs mrk que qd) ∧ (K none (xw w h sam ((sRow w h sam knd j w (blk, lost, came)).1) ((sRow w h sam knd j w (blk, lost, came)).2.1) ogr ((sRow w h sam knd j w (blk, lost, came)).2.2) sums sqs mrk que qd))
set_option maxHeartbeats 4000000 in
set_option maxRecDepth 20000 in
theorem ct_X0_spreadRow : q_Ct yX0_spreadRow cX0_spreadRow 7 none 3 75 sp_X0_spreadRow := by
  refine q_met (by decide) ?_
  intro x as Wd K hs ok fn
  obtain ⟨w, h, sam, blk, lost, ogr, came, sums, sqs, mrk, que, qd, j, knd, g, hj, rfl, rfl, hk⟩ := hs
  show q_W x 0 [some (.inr (.inr (some 0))), some (.inl (nI j)), some (.inl knd), none, none, none, none] [] (xw w h sam blk lost ogr came sums sqs mrk que qd)
  have hw := g.2.1
  have hh := g.2.2.2
  have L : ∀ (d i : Nat), d = w - i → i ≤ w → ∀ o3 : Option q_V, q_nol o3 = true → q_W x 48 [some (.inr (.inr (some 0))), some (.inl (nI j)), some (.inl knd), o3, some (.inl (sSt (sBk knd j))), some (.inl (sXi w (sBk knd j) i)), some (.inl (nI i))] [] (xw w h sam ((sRow w h sam knd j i (blk, lost, came)).1) ((sRow w h sam knd j i (blk, lost, came)).2.1) ogr ((sRow w h sam knd j i (blk, lost, came)).2.2) sums sqs mrk que qd) := by
    intro d
    induction d using Nat.strongRecOn with
    | _ d ih =>
      intro i hd hi o3 ho3
      refine q_iload ok rfl dX0_spreadRow_48 ?_
      refine q_aload_n ok rfl dX0_spreadRow_50 ?_
      refine xg_width ok dX0_spreadRow_51 ?_
      refine q_icmpN_ge 80 (by omega) (by omega) ok dX0_spreadRow_54 (by decide) (fun h54 => ?_) (fun h54 => ?_)
      · exact q_vret ok fn dX0_spreadRow_80 (by rw [show i = w by omega]; exact hk)
      · have hiw : i < w := by omega
        rw [sXi_n _ hiw]
        refine q_aload_n ok rfl dX0_spreadRow_57 ?_
        refine q_iload ok rfl dX0_spreadRow_58 ?_
        refine q_iload_n ok rfl dX0_spreadRow_60 ?_
        refine q_iload ok rfl dX0_spreadRow_61 ?_
        refine q_iload_n ok rfl dX0_spreadRow_63 ?_
        refine kX0_spreadSample g (sX_lt _ hiw) hj (by decide) (Nat.le_of_ble_eq_true rfl) ok dX0_spreadRow_64 ?_
        rw [← sXi_n _ hiw]
        refine q_iload ok rfl dX0_spreadRow_67 ?_
        refine q_iload ok rfl dX0_spreadRow_69 ?_
        refine q_iadd ok dX0_spreadRow_71 ?_
        refine q_istore_5 ok rfl dX0_spreadRow_72 ?_
        refine q_iincN_6 1 ok rfl (by decide) dX0_spreadRow_74 ?_
        refine q_goto 48 ok dX0_spreadRow_77 (by decide) ?_
        rw [sXi_s]
        exact ih _ (by omega) (i + 1) rfl (by omega) o3 ho3
  refine q_iload_n ok rfl dX0_spreadRow_0 ?_
  refine q_iconstv (nI 1) ok (by decide) dX0_spreadRow_1 ?_
  refine q_icmp_ne 16 ok dX0_spreadRow_2 (by decide) (fun h2 => ?_) (fun h2 => ?_)
  · refine q_iconstv (nI 0) ok (by decide) dX0_spreadRow_16 ?_
    refine q_istore_3 ok rfl dX0_spreadRow_17 ?_
    refine q_iload_n ok rfl dX0_spreadRow_18 ?_
    refine q_if_eq 26 ok dX0_spreadRow_19 (by decide) (fun _ => ?_) (fun hh => absurd (by decide) hh)
    refine q_iconstv (nI 1) ok (by decide) dX0_spreadRow_26 ?_
    refine q_istore_4 ok rfl dX0_spreadRow_27 ?_
    refine q_iload_n ok rfl dX0_spreadRow_29 ?_
    refine q_if_eq 42 ok dX0_spreadRow_30 (by decide) (fun _ => ?_) (fun hh => absurd (by decide) hh)
    refine q_iconstv (nI 0) ok (by decide) dX0_spreadRow_42 ?_
    refine q_istore_5 ok rfl dX0_spreadRow_43 ?_
    refine q_iconstv (nI 0) ok (by decide) dX0_spreadRow_45 ?_
    refine q_istore_6 ok rfl dX0_spreadRow_46 ?_
    first | (have eb : sBk knd j = true := decide_eq_true ⟨h2, h9⟩; have := L _ 0 rfl (Nat.zero_le _) (some (.inl (nI 1))) rfl; rw [eb] at this; simp only [sXi, sSt, if_true, sRow] at this; refine q_fgt _ ?_ this; exact ⟨rfl, rfl, rfl, rfl, rfl, by simp [nI_0], rfl, trivial⟩) | (have eb : sBk knd j = false := decide_eq_false (fun q => by first | exact h2 q.1 | exact h9 q.2); have := L _ 0 rfl (Nat.zero_le _) (some (.inl (nI 0))) rfl; rw [eb] at this; exact this)
  · refine q_iload_n ok rfl dX0_spreadRow_5 ?_
    refine q_iconstv (nI 2) ok (by decide) dX0_spreadRow_6 ?_
    refine q_iremN (by omega) (by omega) (by omega) ok dX0_spreadRow_7 ?_
    refine q_iconstv (nI 1) ok (by decide) dX0_spreadRow_8 ?_
    refine q_icmpN_ne 16 (by omega) (by omega) ok dX0_spreadRow_9 (by decide) (fun h9 => ?_) (fun h9 => ?_)
    · refine q_iconstv (nI 0) ok (by decide) dX0_spreadRow_16 ?_
      refine q_istore_3 ok rfl dX0_spreadRow_17 ?_
      refine q_iload_n ok rfl dX0_spreadRow_18 ?_
      refine q_if_eq 26 ok dX0_spreadRow_19 (by decide) (fun _ => ?_) (fun hh => absurd (by decide) hh)
      refine q_iconstv (nI 1) ok (by decide) dX0_spreadRow_26 ?_
      refine q_istore_4 ok rfl dX0_spreadRow_27 ?_
      refine q_iload_n ok rfl dX0_spreadRow_29 ?_
      refine q_if_eq 42 ok dX0_spreadRow_30 (by decide) (fun _ => ?_) (fun hh => absurd (by decide) hh)
      refine q_iconstv (nI 0) ok (by decide) dX0_spreadRow_42 ?_
      refine q_istore_5 ok rfl dX0_spreadRow_43 ?_
      refine q_iconstv (nI 0) ok (by decide) dX0_spreadRow_45 ?_
      refine q_istore_6 ok rfl dX0_spreadRow_46 ?_
      first | (have eb : sBk knd j = true := decide_eq_true ⟨h2, h9⟩; have := L _ 0 rfl (Nat.zero_le _) (some (.inl (nI 1))) rfl; rw [eb] at this; simp only [sXi, sSt, if_true, sRow] at this; refine q_fgt _ ?_ this; exact ⟨rfl, rfl, rfl, rfl, rfl, by simp [nI_0], rfl, trivial⟩) | (have eb : sBk knd j = false := decide_eq_false (fun q => by first | exact h2 q.1 | exact h9 q.2); have := L _ 0 rfl (Nat.zero_le _) (some (.inl (nI 0))) rfl; rw [eb] at this; exact this)
    · refine q_iconstv (nI 1) ok (by decide) dX0_spreadRow_12 ?_
      refine q_goto 17 ok dX0_spreadRow_13 (by decide) ?_
      refine q_istore_3 ok rfl dX0_spreadRow_17 ?_
      refine q_iload_n ok rfl dX0_spreadRow_18 ?_
      refine q_if_eq 26 ok dX0_spreadRow_19 (by decide) (fun hh => absurd hh (by decide)) (fun _ => ?_)
      refine q_iconstv (-1) ok (by decide) dX0_spreadRow_22 ?_
      refine q_goto 27 ok dX0_spreadRow_23 (by decide) ?_
      refine q_istore_4 ok rfl dX0_spreadRow_27 ?_
      refine q_iload_n ok rfl dX0_spreadRow_29 ?_
      refine q_if_eq 42 ok dX0_spreadRow_30 (by decide) (fun hh => absurd hh (by decide)) (fun _ => ?_)
      refine q_aload_n ok rfl dX0_spreadRow_33 ?_
      refine xg_width ok dX0_spreadRow_34 ?_
      refine q_iconstv (nI 1) ok (by decide) dX0_spreadRow_37 ?_
      refine q_isub ok dX0_spreadRow_38 ?_
      refine q_goto 43 ok dX0_spreadRow_39 (by decide) ?_
      refine q_istore_5 ok rfl dX0_spreadRow_43 ?_
      refine q_iconstv (nI 0) ok (by decide) dX0_spreadRow_45 ?_
      refine q_istore_6 ok rfl dX0_spreadRow_46 ?_
      first | (have eb : sBk knd j = true := decide_eq_true ⟨h2, h9⟩; have := L _ 0 rfl (Nat.zero_le _) (some (.inl (nI 1))) rfl; rw [eb] at this; simp only [sXi, sSt, if_true, sRow] at this; refine q_fgt _ ?_ this; exact ⟨rfl, rfl, rfl, rfl, rfl, by simp [nI_0], rfl, trivial⟩) | (have eb : sBk knd j = false := decide_eq_false (fun q => by first | exact h2 q.1 | exact h9 q.2); have := L _ 0 rfl (Nat.zero_le _) (some (.inl (nI 0))) rfl; rw [eb] at this; exact this)
theorem kX0_spreadRow {x : q_X} {cc : ByteArray} {fr lo pc : Nat} {lv : List (Option q_V)} {st : List q_V} {w : Nat} {h : Nat} {sam : Nat → Nat} {blk : Nat → Bool} {lost : Int64} {ogr : Nat → Nat} {came : Nat → Int32} {sums : Nat → Int64} {sqs : Nat → Int64} {mrk : Nat → Bool} {que : Nat → Nat} {qd : Nat} {j : Nat} {knd : Int32} (g : q_g w h) (hj : j < h) (hR : 3 + 1 ≤ fr ∧ 8 + (7 + 11) + 75 ≤ lo) (hst : (st.map (fun v => if q_nol (some v) then 1 else 2)).sum ≤ 8) (ok : q_ok x cc RX0 fr lo) (hd : decode cc pc = .ok (.invokevirtual 105, 3)) (kk : q_W x (pc + 3) lv (st) (xw w h sam ((sRow w h sam knd j w (blk, lost, came)).1) ((sRow w h sam knd j w (blk, lost, came)).2.1) ogr ((sRow w h sam knd j w (blk, lost, came)).2.2) sums sqs mrk que qd)) : q_W x pc lv (.inl knd :: .inl (nI j) :: .inr (.inr (some 0)) :: st) (xw w h sam blk lost ogr came sums sqs mrk que qd) :=
  q_callV [.inl (nI j), .inl knd] ct_X0_spreadRow lkX0_X0_spreadRow dc_X0_spreadRow rfl ok rfl hR hst (Nat.le_of_ble_eq_true rfl) hd ⟨w, h, sam, blk, lost, ogr, came, sums, sqs, mrk, que, qd, j, knd, g, hj, rfl, rfl, kk⟩
def bB (w h : Nat) (blk : Nat → Bool) (a b : Int32) : Bool := inI w h a b && blk (pI w a b)
def isE (w h : Nat) (blk : Nat → Bool) (i j : Nat) : Bool := bB w h blk (nI i) (nI j) && !(bB w h blk (nI i - nI 1) (nI j) && bB w h blk (nI (i + 1)) (nI j) && bB w h blk (nI i) (nI j - nI 1) && bB w h blk (nI i) (nI (j + 1)))
def sp_X0_isBlack : List q_V → List q_E → (Option q_V → List q_E → Prop) → Prop := fun as Wd K => ∃ (w : Nat) (h : Nat) (sam : Nat → Nat) (blk : Nat → Bool) (lost : Int64) (ogr : Nat → Nat) (came : Nat → Int32) (sums : Nat → Int64) (sqs : Nat → Int64) (mrk : Nat → Bool) (que : Nat → Nat) (qd : Nat) (a : Int32) (b : Int32), (q_g w h) ∧ as = [.inr (.inr (some 0)), .inl a, .inl b] ∧ Wd = (xw w h sam blk lost ogr came sums sqs mrk que qd) ∧ (K (some (.inl (bI (bB w h blk a b)))) (xw w h sam blk lost ogr came sums sqs mrk que qd))
set_option maxHeartbeats 4000000 in
set_option maxRecDepth 20000 in
theorem ct_X0_isBlack : q_Ct yX0_isBlack cX0_isBlack 3 (some .boolean) 1 22 sp_X0_isBlack := by
  refine q_met (by decide) ?_
  intro x as Wd K hs ok fn
  obtain ⟨w, h, sam, blk, lost, ogr, came, sums, sqs, mrk, que, qd, a, b, g, rfl, rfl, hk⟩ := hs
  show q_W x 0 [some (.inr (.inr (some 0))), some (.inl a), some (.inl b)] [] (xw w h sam blk lost ogr came sums sqs mrk que qd)
  refine q_aload_n ok rfl dX0_isBlack_0 ?_
  refine q_iload_n ok rfl dX0_isBlack_1 ?_
  refine q_iload_n ok rfl dX0_isBlack_2 ?_
  refine kX0_isInside (by decide) (Nat.le_of_ble_eq_true rfl) ok dX0_isBlack_3 ?_
  refine q_ifb_eq 27 ok dX0_isBlack_6 (by decide) (fun h6 => ?_) (fun h6 => ?_)
  · refine q_iconstv (nI 0) ok (by decide) dX0_isBlack_27 ?_
    exact q_zret ok fn dX0_isBlack_28 (by decide) (by first | (have ee : bB w h blk (nI i) (nI j) = true := (by unfold bB; rw [h6, ep, h20]; rfl); rw [ee] at hk; exact hk) | (have ee : bB w h blk (nI i) (nI j) = false := (by unfold bB; rw [h6, ep, h20]; rfl); rw [ee] at hk; exact hk) | (have ee : bB w h blk a b = false := (by unfold bB; rw [h6]; rfl); rw [ee] at hk; exact hk))
  · obtain ⟨i, j, hi, hj, rfl, rfl⟩ := inI_o g h6
    have hlt := pl_lt hi hj
    have hw := g.2.1
    have hh := g.2.2.2
    have ep := pI_n (w := w) (i := i) (j := j) (by omega) (by omega)
    refine q_aload_n ok rfl dX0_isBlack_9 ?_
    refine xg_black ok dX0_isBlack_10 ?_
    refine q_aload_n ok rfl dX0_isBlack_13 ?_
    refine q_iload_n ok rfl dX0_isBlack_14 ?_
    refine q_iload_n ok rfl dX0_isBlack_15 ?_
    refine kX0_placeOf (by decide) (Nat.le_of_ble_eq_true rfl) ok dX0_isBlack_16 ?_
    refine xl_blk g (by omega) ok dX0_isBlack_19 ?_
    refine q_ifb_eq 27 ok dX0_isBlack_20 (by decide) (fun h20 => ?_) (fun h20 => ?_)
    · refine q_iconstv (nI 0) ok (by decide) dX0_isBlack_27 ?_
      exact q_zret ok fn dX0_isBlack_28 (by decide) (by first | (have ee : bB w h blk (nI i) (nI j) = true := (by unfold bB; rw [h6, ep, h20]; rfl); rw [ee] at hk; exact hk) | (have ee : bB w h blk (nI i) (nI j) = false := (by unfold bB; rw [h6, ep, h20]; rfl); rw [ee] at hk; exact hk) | (have ee : bB w h blk a b = false := (by unfold bB; rw [h6]; rfl); rw [ee] at hk; exact hk))
    · refine q_iconstv (nI 1) ok (by decide) dX0_isBlack_23 ?_
      refine q_goto 28 ok dX0_isBlack_24 (by decide) ?_
      exact q_zret ok fn dX0_isBlack_28 (by decide) (by first | (have ee : bB w h blk (nI i) (nI j) = true := (by unfold bB; rw [h6, ep, h20]; rfl); rw [ee] at hk; exact hk) | (have ee : bB w h blk (nI i) (nI j) = false := (by unfold bB; rw [h6, ep, h20]; rfl); rw [ee] at hk; exact hk) | (have ee : bB w h blk a b = false := (by unfold bB; rw [h6]; rfl); rw [ee] at hk; exact hk))
theorem kX0_isBlack {x : q_X} {cc : ByteArray} {fr lo pc : Nat} {lv : List (Option q_V)} {st : List q_V} {w : Nat} {h : Nat} {sam : Nat → Nat} {blk : Nat → Bool} {lost : Int64} {ogr : Nat → Nat} {came : Nat → Int32} {sums : Nat → Int64} {sqs : Nat → Int64} {mrk : Nat → Bool} {que : Nat → Nat} {qd : Nat} {a : Int32} {b : Int32} (g : q_g w h) (hR : 1 + 1 ≤ fr ∧ 8 + (3 + 11) + 22 ≤ lo) (hst : (st.map (fun v => if q_nol (some v) then 1 else 2)).sum ≤ 8) (ok : q_ok x cc RX0 fr lo) (hd : decode cc pc = .ok (.invokevirtual 220, 3)) (kk : q_W x (pc + 3) lv ((.inl (bI (bB w h blk a b))) :: st) (xw w h sam blk lost ogr came sums sqs mrk que qd)) : q_W x pc lv (.inl b :: .inl a :: .inr (.inr (some 0)) :: st) (xw w h sam blk lost ogr came sums sqs mrk que qd) :=
  q_callV [.inl a, .inl b] ct_X0_isBlack lkX0_X0_isBlack dc_X0_isBlack rfl ok rfl hR hst (Nat.le_of_ble_eq_true rfl) hd ⟨w, h, sam, blk, lost, ogr, came, sums, sqs, mrk, que, qd, a, b, g, rfl, rfl, kk⟩
def sp_X0_isEdge : List q_V → List q_E → (Option q_V → List q_E → Prop) → Prop := fun as Wd K => ∃ (w : Nat) (h : Nat) (sam : Nat → Nat) (blk : Nat → Bool) (lost : Int64) (ogr : Nat → Nat) (came : Nat → Int32) (sums : Nat → Int64) (sqs : Nat → Int64) (mrk : Nat → Bool) (que : Nat → Nat) (qd : Nat) (i : Nat) (j : Nat), (q_g w h) ∧ as = [.inr (.inr (some 0)), .inl (nI i), .inl (nI j)] ∧ Wd = (xw w h sam blk lost ogr came sums sqs mrk que qd) ∧ (K (some (.inl (bI (isE w h blk i j)))) (xw w h sam blk lost ogr came sums sqs mrk que qd))
set_option maxHeartbeats 4000000 in
set_option maxRecDepth 20000 in
theorem ct_X0_isEdge : q_Ct yX0_isEdge cX0_isEdge 3 (some .boolean) 2 44 sp_X0_isEdge := by
  refine q_met (by decide) ?_
  intro x as Wd K hs ok fn
  obtain ⟨w, h, sam, blk, lost, ogr, came, sums, sqs, mrk, que, qd, i, j, g, rfl, rfl, hk⟩ := hs
  show q_W x 0 [some (.inr (.inr (some 0))), some (.inl (nI i)), some (.inl (nI j))] [] (xw w h sam blk lost ogr came sums sqs mrk que qd)
  refine q_aload_n ok rfl dX0_isEdge_0 ?_
  refine q_iload_n ok rfl dX0_isEdge_1 ?_
  refine q_iload_n ok rfl dX0_isEdge_2 ?_
  refine kX0_isBlack g (by decide) (Nat.le_of_ble_eq_true rfl) ok dX0_isEdge_3 ?_
  refine q_ifb_eq 57 ok dX0_isEdge_6 (by decide) (fun h6 => ?_) (fun h6 => ?_)
  · refine q_iconstv (nI 0) ok (by decide) dX0_isEdge_57 ?_
    exact q_zret ok fn dX0_isEdge_58 (by decide) (by have ee : isE w h blk i j = false := (by unfold isE; first | (rw [h6]; rfl) | (rw [h6, h17]; rfl) | (rw [h6, h17, h28]; rfl) | (rw [h6, h17, h28, h39]; rfl) | (rw [h6, h17, h28, h39, h50]; rfl)); rw [ee] at hk; exact hk)
  · refine q_aload_n ok rfl dX0_isEdge_9 ?_
    refine q_iload_n ok rfl dX0_isEdge_10 ?_
    refine q_iconstv (nI 1) ok (by decide) dX0_isEdge_11 ?_
    refine q_isub ok dX0_isEdge_12 ?_
    refine q_iload_n ok rfl dX0_isEdge_13 ?_
    refine kX0_isBlack g (by decide) (Nat.le_of_ble_eq_true rfl) ok dX0_isEdge_14 ?_
    refine q_ifb_eq 53 ok dX0_isEdge_17 (by decide) (fun h17 => ?_) (fun h17 => ?_)
    · refine q_iconstv (nI 1) ok (by decide) dX0_isEdge_53 ?_
      refine q_goto 58 ok dX0_isEdge_54 (by decide) ?_
      exact q_zret ok fn dX0_isEdge_58 (by decide) (by have ee : isE w h blk i j = true := (by unfold isE; first | (rw [h6]; rfl) | (rw [h6, h17]; rfl) | (rw [h6, h17, h28]; rfl) | (rw [h6, h17, h28, h39]; rfl) | (rw [h6, h17, h28, h39, h50]; rfl)); rw [ee] at hk; exact hk)
    · refine q_aload_n ok rfl dX0_isEdge_20 ?_
      refine q_iload_n ok rfl dX0_isEdge_21 ?_
      refine q_iconstv (nI 1) ok (by decide) dX0_isEdge_22 ?_
      refine q_iaddN ok dX0_isEdge_23 ?_
      refine q_iload_n ok rfl dX0_isEdge_24 ?_
      refine kX0_isBlack g (by decide) (Nat.le_of_ble_eq_true rfl) ok dX0_isEdge_25 ?_
      refine q_ifb_eq 53 ok dX0_isEdge_28 (by decide) (fun h28 => ?_) (fun h28 => ?_)
      · refine q_iconstv (nI 1) ok (by decide) dX0_isEdge_53 ?_
        refine q_goto 58 ok dX0_isEdge_54 (by decide) ?_
        exact q_zret ok fn dX0_isEdge_58 (by decide) (by have ee : isE w h blk i j = true := (by unfold isE; first | (rw [h6]; rfl) | (rw [h6, h17]; rfl) | (rw [h6, h17, h28]; rfl) | (rw [h6, h17, h28, h39]; rfl) | (rw [h6, h17, h28, h39, h50]; rfl)); rw [ee] at hk; exact hk)
      · refine q_aload_n ok rfl dX0_isEdge_31 ?_
        refine q_iload_n ok rfl dX0_isEdge_32 ?_
        refine q_iload_n ok rfl dX0_isEdge_33 ?_
        refine q_iconstv (nI 1) ok (by decide) dX0_isEdge_34 ?_
        refine q_isub ok dX0_isEdge_35 ?_
        refine kX0_isBlack g (by decide) (Nat.le_of_ble_eq_true rfl) ok dX0_isEdge_36 ?_
        refine q_ifb_eq 53 ok dX0_isEdge_39 (by decide) (fun h39 => ?_) (fun h39 => ?_)
        · refine q_iconstv (nI 1) ok (by decide) dX0_isEdge_53 ?_
          refine q_goto 58 ok dX0_isEdge_54 (by decide) ?_
          exact q_zret ok fn dX0_isEdge_58 (by decide) (by have ee : isE w h blk i j = true := (by unfold isE; first | (rw [h6]; rfl) | (rw [h6, h17]; rfl) | (rw [h6, h17, h28]; rfl) | (rw [h6, h17, h28, h39]; rfl) | (rw [h6, h17, h28, h39, h50]; rfl)); rw [ee] at hk; exact hk)
        · refine q_aload_n ok rfl dX0_isEdge_42 ?_
          refine q_iload_n ok rfl dX0_isEdge_43 ?_
          refine q_iload_n ok rfl dX0_isEdge_44 ?_
          refine q_iconstv (nI 1) ok (by decide) dX0_isEdge_45 ?_
          refine q_iaddN ok dX0_isEdge_46 ?_
          refine kX0_isBlack g (by decide) (Nat.le_of_ble_eq_true rfl) ok dX0_isEdge_47 ?_
          refine q_ifb_ne 57 ok dX0_isEdge_50 (by decide) (fun h50 => ?_) (fun h50 => ?_)
          · refine q_iconstv (nI 0) ok (by decide) dX0_isEdge_57 ?_
            exact q_zret ok fn dX0_isEdge_58 (by decide) (by have ee : isE w h blk i j = false := (by unfold isE; first | (rw [h6]; rfl) | (rw [h6, h17]; rfl) | (rw [h6, h17, h28]; rfl) | (rw [h6, h17, h28, h39]; rfl) | (rw [h6, h17, h28, h39, h50]; rfl)); rw [ee] at hk; exact hk)
          · refine q_iconstv (nI 1) ok (by decide) dX0_isEdge_53 ?_
            refine q_goto 58 ok dX0_isEdge_54 (by decide) ?_
            exact q_zret ok fn dX0_isEdge_58 (by decide) (by have ee : isE w h blk i j = true := (by unfold isE; first | (rw [h6]; rfl) | (rw [h6, h17]; rfl) | (rw [h6, h17, h28]; rfl) | (rw [h6, h17, h28, h39]; rfl) | (rw [h6, h17, h28, h39, h50]; rfl)); rw [ee] at hk; exact hk)
theorem kX0_isEdge {x : q_X} {cc : ByteArray} {fr lo pc : Nat} {lv : List (Option q_V)} {st : List q_V} {w : Nat} {h : Nat} {sam : Nat → Nat} {blk : Nat → Bool} {lost : Int64} {ogr : Nat → Nat} {came : Nat → Int32} {sums : Nat → Int64} {sqs : Nat → Int64} {mrk : Nat → Bool} {que : Nat → Nat} {qd : Nat} {i : Nat} {j : Nat} (g : q_g w h) (hR : 2 + 1 ≤ fr ∧ 8 + (3 + 11) + 44 ≤ lo) (hst : (st.map (fun v => if q_nol (some v) then 1 else 2)).sum ≤ 8) (ok : q_ok x cc RX0 fr lo) (hd : decode cc pc = .ok (.invokevirtual 144, 3)) (kk : q_W x (pc + 3) lv ((.inl (bI (isE w h blk i j))) :: st) (xw w h sam blk lost ogr came sums sqs mrk que qd)) : q_W x pc lv (.inl (nI j) :: .inl (nI i) :: .inr (.inr (some 0)) :: st) (xw w h sam blk lost ogr came sums sqs mrk que qd) :=
  q_callV [.inl (nI i), .inl (nI j)] ct_X0_isEdge lkX0_X0_isEdge dc_X0_isEdge rfl ok rfl hR hst (Nat.le_of_ble_eq_true rfl) hd ⟨w, h, sam, blk, lost, ogr, came, sums, sqs, mrk, que, qd, i, j, g, rfl, rfl, kk⟩
def sp_X0_enqueue : List q_V → List q_E → (Option q_V → List q_E → Prop) → Prop := fun as Wd K => ∃ (w : Nat) (h : Nat) (sam : Nat → Nat) (blk : Nat → Bool) (lost : Int64) (ogr : Nat → Nat) (came : Nat → Int32) (sums : Nat → Int64) (sqs : Nat → Int64) (mrk : Nat → Bool) (que : Nat → Nat) (qd : Nat) (p : Nat), (q_g w h) ∧ (qd < w * h) ∧ as = [.inr (.inr (some 0)), .inl (nI p)] ∧ Wd = (xw w h sam blk lost ogr came sums sqs mrk que qd) ∧ (K none (xw w h sam blk lost ogr came sums sqs mrk (va_up que qd p) (qd + 1)))
set_option maxHeartbeats 4000000 in
set_option maxRecDepth 20000 in
theorem ct_X0_enqueue : q_Ct yX0_enqueue cX0_enqueue 2 none 0 0 sp_X0_enqueue := by
  refine q_met (by decide) ?_
  intro x as Wd K hs ok fn
  obtain ⟨w, h, sam, blk, lost, ogr, came, sums, sqs, mrk, que, qd, p, g, hq, rfl, rfl, hk⟩ := hs
  show q_W x 0 [some (.inr (.inr (some 0))), some (.inl (nI p))] [] (xw w h sam blk lost ogr came sums sqs mrk que qd)
  have hn := q_gn g
  refine q_aload_n ok rfl dX0_enqueue_0 ?_
  refine xg_queued ok dX0_enqueue_1 ?_
  refine q_ifN_lt (by omega) ok dX0_enqueue_4 39 (by decide) ?_
  refine q_aload_n ok rfl dX0_enqueue_7 ?_
  refine xg_queued ok dX0_enqueue_8 ?_
  refine q_aload_n ok rfl dX0_enqueue_11 ?_
  refine xg_queue ok dX0_enqueue_12 ?_
  refine xn_que ok dX0_enqueue_15 ?_
  refine q_icmpN_ge 39 (by omega) (by omega) ok dX0_enqueue_16 (by decide) (fun h16 => ?_) (fun h16 => ?_)
  · exact absurd h16 (by omega)
  · refine q_aload_n ok rfl dX0_enqueue_19 ?_
    refine xg_queue ok dX0_enqueue_20 ?_
    refine q_aload_n ok rfl dX0_enqueue_23 ?_
    refine xg_queued ok dX0_enqueue_24 ?_
    refine q_iload_n ok rfl dX0_enqueue_27 ?_
    refine xs_que g (by omega) ok dX0_enqueue_28 ?_
    refine q_aload_n ok rfl dX0_enqueue_29 ?_
    refine q_dupa ok dX0_enqueue_30 ?_
    refine xg_queued ok dX0_enqueue_31 ?_
    refine q_iconstv (nI 1) ok (by decide) dX0_enqueue_34 ?_
    refine q_iaddN ok dX0_enqueue_35 ?_
    refine xp_queued ok dX0_enqueue_36 ?_
    exact q_vret ok fn dX0_enqueue_39 hk
theorem kX0_enqueue {x : q_X} {cc : ByteArray} {fr lo pc : Nat} {lv : List (Option q_V)} {st : List q_V} {w : Nat} {h : Nat} {sam : Nat → Nat} {blk : Nat → Bool} {lost : Int64} {ogr : Nat → Nat} {came : Nat → Int32} {sums : Nat → Int64} {sqs : Nat → Int64} {mrk : Nat → Bool} {que : Nat → Nat} {qd : Nat} {p : Nat} (g : q_g w h) (hq : qd < w * h) (hR : 0 + 1 ≤ fr ∧ 8 + (2 + 11) + 0 ≤ lo) (hst : (st.map (fun v => if q_nol (some v) then 1 else 2)).sum ≤ 8) (ok : q_ok x cc RX0 fr lo) (hd : decode cc pc = .ok (.invokevirtual 124, 3)) (kk : q_W x (pc + 3) lv (st) (xw w h sam blk lost ogr came sums sqs mrk (va_up que qd p) (qd + 1))) : q_W x pc lv (.inl (nI p) :: .inr (.inr (some 0)) :: st) (xw w h sam blk lost ogr came sums sqs mrk que qd) :=
  q_callV [.inl (nI p)] ct_X0_enqueue lkX0_X0_enqueue dc_X0_enqueue rfl ok rfl hR hst (Nat.le_of_ble_eq_true rfl) hd ⟨w, h, sam, blk, lost, ogr, came, sums, sqs, mrk, que, qd, p, g, hq, rfl, rfl, kk⟩
def sp_X0_unmarkAll : List q_V → List q_E → (Option q_V → List q_E → Prop) → Prop := fun as Wd K => ∃ (w : Nat) (h : Nat) (sam : Nat → Nat) (blk : Nat → Bool) (lost : Int64) (ogr : Nat → Nat) (came : Nat → Int32) (sums : Nat → Int64) (sqs : Nat → Int64) (mrk : Nat → Bool) (que : Nat → Nat) (qd : Nat), (q_g w h) ∧ as = [.inr (.inr (some 0))] ∧ Wd = (xw w h sam blk lost ogr came sums sqs mrk que qd) ∧ (K none (xw w h sam blk lost ogr came sums sqs (fun k => if k < w * h then false else mrk k) que qd))
set_option maxHeartbeats 4000000 in
set_option maxRecDepth 20000 in
theorem ct_X0_unmarkAll : q_Ct yX0_unmarkAll cX0_unmarkAll 2 none 0 0 sp_X0_unmarkAll := by
  refine q_met (by decide) ?_
  intro x as Wd K hs ok fn
  obtain ⟨w, h, sam, blk, lost, ogr, came, sums, sqs, mrk, que, qd, g, rfl, rfl, hk⟩ := hs
  show q_W x 0 [some (.inr (.inr (some 0))), none] [] (xw w h sam blk lost ogr came sums sqs mrk que qd)
  have hn := q_gn g
  have L : ∀ (d i : Nat), d = w * h - i → i ≤ w * h → q_W x 2 [some (.inr (.inr (some 0))), some (.inl (nI i))] [] (xw w h sam blk lost ogr came sums sqs (fun k => if k < i then false else mrk k) que qd) := by
    intro d
    induction d using Nat.strongRecOn with
    | _ d ih =>
      intro i hd hi
      refine q_iload_n ok rfl dX0_unmarkAll_2 ?_
      refine q_aload_n ok rfl dX0_unmarkAll_3 ?_
      refine xg_count ok dX0_unmarkAll_4 ?_
      refine q_icmpN_ge 23 (by omega) (by omega) ok dX0_unmarkAll_7 (by decide) (fun h7 => ?_) (fun h7 => ?_)
      · exact q_vret ok fn dX0_unmarkAll_23 (by rw [show i = w * h by omega]; exact hk)
      · refine q_aload_n ok rfl dX0_unmarkAll_10 ?_
        refine xg_marked ok dX0_unmarkAll_11 ?_
        refine q_iload_n ok rfl dX0_unmarkAll_14 ?_
        refine q_iconstv (nI 0) ok (by decide) dX0_unmarkAll_15 ?_
        refine xs_mrk (v := false) g (by omega) ok dX0_unmarkAll_16 ?_
        refine q_iincN_1 1 ok rfl (by decide) dX0_unmarkAll_17 ?_
        refine q_goto 2 ok dX0_unmarkAll_20 (by decide) ?_
        rw [pu_step (F := fun _ => false)]
        exact ih _ (by omega) (i + 1) rfl (by omega)
  refine q_iconstv (nI 0) ok (by decide) dX0_unmarkAll_0 ?_
  refine q_istore_1 ok rfl dX0_unmarkAll_1 ?_
  have := L _ 0 rfl (Nat.zero_le _)
  rw [pu_0] at this
  exact this
theorem kX0_unmarkAll {x : q_X} {cc : ByteArray} {fr lo pc : Nat} {lv : List (Option q_V)} {st : List q_V} {w : Nat} {h : Nat} {sam : Nat → Nat} {blk : Nat → Bool} {lost : Int64} {ogr : Nat → Nat} {came : Nat → Int32} {sums : Nat → Int64} {sqs : Nat → Int64} {mrk : Nat → Bool} {que : Nat → Nat} {qd : Nat} (g : q_g w h) (hR : 0 + 1 ≤ fr ∧ 8 + (2 + 11) + 0 ≤ lo) (hst : (st.map (fun v => if q_nol (some v) then 1 else 2)).sum ≤ 8) (ok : q_ok x cc RX0 fr lo) (hd : decode cc pc = .ok (.invokevirtual 201, 3)) (kk : q_W x (pc + 3) lv (st) (xw w h sam blk lost ogr came sums sqs (fun k => if k < w * h then false else mrk k) que qd)) : q_W x pc lv (.inr (.inr (some 0)) :: st) (xw w h sam blk lost ogr came sums sqs mrk que qd) :=
  q_callV [] ct_X0_unmarkAll lkX0_X0_unmarkAll dc_X0_unmarkAll rfl ok rfl hR hst (Nat.le_of_ble_eq_true rfl) hd ⟨w, h, sam, blk, lost, ogr, came, sums, sqs, mrk, que, qd, g, rfl, rfl, kk⟩
def gC (w h : Nat) (blk mrk : Nat → Bool) (col : Bool) (a b : Int32) : Bool := inI w h a b && (blk (pI w a b) == col) && !mrk (pI w a b)
abbrev q_G : Type := (Nat → Bool) × ((Nat → Nat) × Nat)
def gS (w h : Nat) (blk : Nat → Bool) (col : Bool) (a b : Int32) (t : q_G) : q_G := if gC w h blk t.1 col a b = true then (va_up t.1 (pI w a b) true, va_up t.2.1 t.2.2 (pI w a b), t.2.2 + 1) else t
theorem gS_t {w h : Nat} {blk mrk : Nat → Bool} {col : Bool} {a b : Int32} {que : Nat → Nat} {qd p : Nat} (h1 : gC w h blk mrk col a b = true) (h2 : pI w a b = p) : gS w h blk col a b (mrk, que, qd) = (va_up mrk p true, va_up que qd p, qd + 1) := by
  subst h2; exact if_pos h1
theorem gS_f {w h : Nat} {blk mrk : Nat → Bool} {col : Bool} {a b : Int32} {que : Nat → Nat} {qd : Nat} (h1 : gC w h blk mrk col a b = false) : gS w h blk col a b (mrk, que, qd) = (mrk, que, qd) := if_neg (by show ¬ gC w h blk mrk col a b = true; rw [h1]; decide)
def sp_X0_gather : List q_V → List q_E → (Option q_V → List q_E → Prop) → Prop := fun as Wd K => ∃ (w : Nat) (h : Nat) (sam : Nat → Nat) (blk : Nat → Bool) (lost : Int64) (ogr : Nat → Nat) (came : Nat → Int32) (sums : Nat → Int64) (sqs : Nat → Int64) (mrk : Nat → Bool) (que : Nat → Nat) (qd : Nat) (a : Int32) (b : Int32) (col : Bool), (q_g w h) ∧ (∀ k, k < w * h → mrk k = false → qd < w * h) ∧ as = [.inr (.inr (some 0)), .inl a, .inl b, .inl (bI col)] ∧ Wd = (xw w h sam blk lost ogr came sums sqs mrk que qd) ∧ (K none (xw w h sam blk lost ogr came sums sqs ((gS w h blk col a b (mrk, que, qd)).1) ((gS w h blk col a b (mrk, que, qd)).2.1) ((gS w h blk col a b (mrk, que, qd)).2.2)))
set_option maxHeartbeats 4000000 in
set_option maxRecDepth 20000 in
theorem ct_X0_gather : q_Ct yX0_gather cX0_gather 5 none 1 22 sp_X0_gather := by
  refine q_met (by decide) ?_
  intro x as Wd K hs ok fn
  obtain ⟨w, h, sam, blk, lost, ogr, came, sums, sqs, mrk, que, qd, a, b, col, g, hq, rfl, rfl, hk⟩ := hs
  show q_W x 0 [some (.inr (.inr (some 0))), some (.inl a), some (.inl b), some (.inl (bI col)), none] [] (xw w h sam blk lost ogr came sums sqs mrk que qd)
  refine q_aload_n ok rfl dX0_gather_0 ?_
  refine q_iload_n ok rfl dX0_gather_1 ?_
  refine q_iload_n ok rfl dX0_gather_2 ?_
  refine kX0_isInside (by decide) (Nat.le_of_ble_eq_true rfl) ok dX0_gather_3 ?_
  refine q_ifb_ne 10 ok dX0_gather_6 (by decide) (fun h6 => ?_) (fun h6 => ?_)
  · obtain ⟨i, j, hi, hj, rfl, rfl⟩ := inI_o g h6
    have hlt := pl_lt hi hj
    have hw := g.2.1
    have hh := g.2.2.2
    have ep := pI_n (w := w) (i := i) (j := j) (by omega) (by omega)
    refine q_aload_n ok rfl dX0_gather_10 ?_
    refine q_iload_n ok rfl dX0_gather_11 ?_
    refine q_iload_n ok rfl dX0_gather_12 ?_
    refine kX0_placeOf (by decide) (Nat.le_of_ble_eq_true rfl) ok dX0_gather_13 ?_
    refine q_istore_4 ok rfl dX0_gather_16 ?_
    refine q_aload_n ok rfl dX0_gather_18 ?_
    refine xg_black ok dX0_gather_19 ?_
    refine q_iload ok rfl dX0_gather_22 ?_
    refine xl_blk g (by omega) ok dX0_gather_24 ?_
    refine q_iload_n ok rfl dX0_gather_25 ?_
    refine q_icmpb_ne 53 ok dX0_gather_26 (by decide) (fun h26 => ?_) (fun h26 => ?_)
    · rw [gS_f (by unfold gC; rw [h6, ep]; simp [h26])] at hk
      exact q_vret ok fn dX0_gather_53 hk
    · refine q_aload_n ok rfl dX0_gather_29 ?_
      refine xg_marked ok dX0_gather_30 ?_
      refine q_iload ok rfl dX0_gather_33 ?_
      refine xl_mrk g (by omega) ok dX0_gather_35 ?_
      refine q_ifb_ne 53 ok dX0_gather_36 (by decide) (fun h36 => ?_) (fun h36 => ?_)
      · rw [gS_f (by unfold gC; rw [h6, ep, h36]; simp)] at hk
        exact q_vret ok fn dX0_gather_53 hk
      · refine q_aload_n ok rfl dX0_gather_39 ?_
        refine xg_marked ok dX0_gather_40 ?_
        refine q_iload ok rfl dX0_gather_43 ?_
        refine q_iconstv (nI 1) ok (by decide) dX0_gather_45 ?_
        refine xs_mrk (v := true) g (by omega) ok dX0_gather_46 ?_
        refine q_aload_n ok rfl dX0_gather_47 ?_
        refine q_iload ok rfl dX0_gather_48 ?_
        refine kX0_enqueue g (hq _ hlt h36) (by decide) (Nat.le_of_ble_eq_true rfl) ok dX0_gather_50 ?_
        rw [gS_t (by unfold gC; rw [h6, ep, h26, h36]; simp) ep] at hk
        exact q_vret ok fn dX0_gather_53 hk
  · rw [gS_f (by unfold gC; rw [h6]; simp)] at hk
    exact q_vret ok fn dX0_gather_9 hk
theorem kX0_gather {x : q_X} {cc : ByteArray} {fr lo pc : Nat} {lv : List (Option q_V)} {st : List q_V} {w : Nat} {h : Nat} {sam : Nat → Nat} {blk : Nat → Bool} {lost : Int64} {ogr : Nat → Nat} {came : Nat → Int32} {sums : Nat → Int64} {sqs : Nat → Int64} {mrk : Nat → Bool} {que : Nat → Nat} {qd : Nat} {a : Int32} {b : Int32} {col : Bool} (g : q_g w h) (hq : ∀ k, k < w * h → mrk k = false → qd < w * h) (hR : 1 + 1 ≤ fr ∧ 8 + (5 + 11) + 22 ≤ lo) (hst : (st.map (fun v => if q_nol (some v) then 1 else 2)).sum ≤ 8) (ok : q_ok x cc RX0 fr lo) (hd : decode cc pc = .ok (.invokevirtual 197, 3)) (kk : q_W x (pc + 3) lv (st) (xw w h sam blk lost ogr came sums sqs ((gS w h blk col a b (mrk, que, qd)).1) ((gS w h blk col a b (mrk, que, qd)).2.1) ((gS w h blk col a b (mrk, que, qd)).2.2))) : q_W x pc lv (.inl (bI col) :: .inl b :: .inl a :: .inr (.inr (some 0)) :: st) (xw w h sam blk lost ogr came sums sqs mrk que qd) :=
  q_callV [.inl a, .inl b, .inl (bI col)] ct_X0_gather lkX0_X0_gather dc_X0_gather rfl ok rfl hR hst (Nat.le_of_ble_eq_true rfl) hd ⟨w, h, sam, blk, lost, ogr, came, sums, sqs, mrk, que, qd, a, b, col, g, hq, rfl, rfl, kk⟩
theorem pc_lt {w h i j : Nat} (hi : i ≤ w) (hj : j ≤ h) : j * (w + 1) + i < (w + 1) * (h + 1) := pl_lt (Nat.lt_succ_of_le hi) (Nat.lt_succ_of_le hj)
def sp_X0_sumBetween_5 : List q_V → List q_E → (Option q_V → List q_E → Prop) → Prop := fun as Wd K => ∃ (w : Nat) (h : Nat) (sam : Nat → Nat) (blk : Nat → Bool) (lost : Int64) (ogr : Nat → Nat) (came : Nat → Int32) (sums : Nat → Int64) (sqs : Nat → Int64) (mrk : Nat → Bool) (que : Nat → Nat) (qd : Nat) (xl : Nat) (yt : Nat) (xr : Nat) (yb : Nat), (q_g w h) ∧ (xl ≤ w) ∧ (yt ≤ h) ∧ (xr ≤ w) ∧ (yb ≤ h) ∧ as = [.inr (.inr (some 0)), .inr (.inr (some 5)), .inl (nI xl), .inl (nI yt), .inl (nI xr), .inl (nI yb)] ∧ Wd = (xw w h sam blk lost ogr came sums sqs mrk que qd) ∧ (K (some (.inr (.inl (sums (yb * (w + 1) + xr) - sums (yb * (w + 1) + xl) - (sums (yt * (w + 1) + xr) - sums (yt * (w + 1) + xl)))))) (xw w h sam blk lost ogr came sums sqs mrk que qd))
set_option maxHeartbeats 4000000 in
set_option maxRecDepth 20000 in
theorem ct_X0_sumBetween_5 : q_Ct yX0_sumBetween cX0_sumBetween 10 (some .long) 1 22 sp_X0_sumBetween_5 := by
  refine q_met (by decide) ?_
  intro x as Wd K hs ok fn
  obtain ⟨w, h, sam, blk, lost, ogr, came, sums, sqs, mrk, que, qd, xl, yt, xr, yb, g, h1, h2, h3, h4, rfl, rfl, hk⟩ := hs
  show q_W x 0 [some (.inr (.inr (some 0))), some (.inr (.inr (some 5))), some (.inl (nI xl)), some (.inl (nI yt)), some (.inl (nI xr)), some (.inl (nI yb)), none, none, none, none] [] (xw w h sam blk lost ogr came sums sqs mrk que qd)
  refine q_aload_n ok rfl dX0_sumBetween_0 ?_
  refine q_aload_n ok rfl dX0_sumBetween_1 ?_
  refine q_iload ok rfl dX0_sumBetween_2 ?_
  refine q_iload ok rfl dX0_sumBetween_4 ?_
  refine kX0_cornerOf (by decide) (Nat.le_of_ble_eq_true rfl) ok dX0_sumBetween_6 ?_
  refine xl_sums g (pc_lt h3 h4) ok dX0_sumBetween_9 ?_
  refine q_aload_n ok rfl dX0_sumBetween_10 ?_
  refine q_aload_n ok rfl dX0_sumBetween_11 ?_
  refine q_iload_n ok rfl dX0_sumBetween_12 ?_
  refine q_iload ok rfl dX0_sumBetween_13 ?_
  refine kX0_cornerOf (by decide) (Nat.le_of_ble_eq_true rfl) ok dX0_sumBetween_15 ?_
  refine xl_sums g (pc_lt h1 h4) ok dX0_sumBetween_18 ?_
  refine q_lsub ok dX0_sumBetween_19 ?_
  refine q_lstore_6 ok rfl dX0_sumBetween_20 ?_
  refine q_aload_n ok rfl dX0_sumBetween_22 ?_
  refine q_aload_n ok rfl dX0_sumBetween_23 ?_
  refine q_iload ok rfl dX0_sumBetween_24 ?_
  refine q_iload_n ok rfl dX0_sumBetween_26 ?_
  refine kX0_cornerOf (by decide) (Nat.le_of_ble_eq_true rfl) ok dX0_sumBetween_27 ?_
  refine xl_sums g (pc_lt h3 h2) ok dX0_sumBetween_30 ?_
  refine q_aload_n ok rfl dX0_sumBetween_31 ?_
  refine q_aload_n ok rfl dX0_sumBetween_32 ?_
  refine q_iload_n ok rfl dX0_sumBetween_33 ?_
  refine q_iload_n ok rfl dX0_sumBetween_34 ?_
  refine kX0_cornerOf (by decide) (Nat.le_of_ble_eq_true rfl) ok dX0_sumBetween_35 ?_
  refine xl_sums g (pc_lt h1 h2) ok dX0_sumBetween_38 ?_
  refine q_lsub ok dX0_sumBetween_39 ?_
  refine q_lstore_8 ok rfl dX0_sumBetween_40 ?_
  refine q_lload ok rfl dX0_sumBetween_42 ?_
  refine q_lload ok rfl dX0_sumBetween_44 ?_
  refine q_lsub ok dX0_sumBetween_46 ?_
  exact q_lret ok fn dX0_sumBetween_47 hk
theorem kX0_sumBetween_5 {x : q_X} {cc : ByteArray} {fr lo pc : Nat} {lv : List (Option q_V)} {st : List q_V} {w : Nat} {h : Nat} {sam : Nat → Nat} {blk : Nat → Bool} {lost : Int64} {ogr : Nat → Nat} {came : Nat → Int32} {sums : Nat → Int64} {sqs : Nat → Int64} {mrk : Nat → Bool} {que : Nat → Nat} {qd : Nat} {xl : Nat} {yt : Nat} {xr : Nat} {yb : Nat} (g : q_g w h) (h1 : xl ≤ w) (h2 : yt ≤ h) (h3 : xr ≤ w) (h4 : yb ≤ h) (hR : 1 + 1 ≤ fr ∧ 8 + (10 + 11) + 22 ≤ lo) (hst : (st.map (fun v => if q_nol (some v) then 1 else 2)).sum ≤ 8) (ok : q_ok x cc RX0 fr lo) (hd : decode cc pc = .ok (.invokevirtual 153, 3)) (kk : q_W x (pc + 3) lv ((.inr (.inl (sums (yb * (w + 1) + xr) - sums (yb * (w + 1) + xl) - (sums (yt * (w + 1) + xr) - sums (yt * (w + 1) + xl))))) :: st) (xw w h sam blk lost ogr came sums sqs mrk que qd)) : q_W x pc lv (.inl (nI yb) :: .inl (nI xr) :: .inl (nI yt) :: .inl (nI xl) :: .inr (.inr (some 5)) :: .inr (.inr (some 0)) :: st) (xw w h sam blk lost ogr came sums sqs mrk que qd) :=
  q_callV [.inr (.inr (some 5)), .inl (nI xl), .inl (nI yt), .inl (nI xr), .inl (nI yb)] ct_X0_sumBetween_5 lkX0_X0_sumBetween dc_X0_sumBetween rfl ok rfl hR hst (Nat.le_of_ble_eq_true rfl) hd ⟨w, h, sam, blk, lost, ogr, came, sums, sqs, mrk, que, qd, xl, yt, xr, yb, g, h1, h2, h3, h4, rfl, rfl, kk⟩
def sp_X0_sumBetween_6 : List q_V → List q_E → (Option q_V → List q_E → Prop) → Prop := fun as Wd K => ∃ (w : Nat) (h : Nat) (sam : Nat → Nat) (blk : Nat → Bool) (lost : Int64) (ogr : Nat → Nat) (came : Nat → Int32) (sums : Nat → Int64) (sqs : Nat → Int64) (mrk : Nat → Bool) (que : Nat → Nat) (qd : Nat) (xl : Nat) (yt : Nat) (xr : Nat) (yb : Nat), (q_g w h) ∧ (xl ≤ w) ∧ (yt ≤ h) ∧ (xr ≤ w) ∧ (yb ≤ h) ∧ as = [.inr (.inr (some 0)), .inr (.inr (some 6)), .inl (nI xl), .inl (nI yt), .inl (nI xr), .inl (nI yb)] ∧ Wd = (xw w h sam blk lost ogr came sums sqs mrk que qd) ∧ (K (some (.inr (.inl (sqs (yb * (w + 1) + xr) - sqs (yb * (w + 1) + xl) - (sqs (yt * (w + 1) + xr) - sqs (yt * (w + 1) + xl)))))) (xw w h sam blk lost ogr came sums sqs mrk que qd))
set_option maxHeartbeats 4000000 in
set_option maxRecDepth 20000 in
theorem ct_X0_sumBetween_6 : q_Ct yX0_sumBetween cX0_sumBetween 10 (some .long) 1 22 sp_X0_sumBetween_6 := by
  refine q_met (by decide) ?_
  intro x as Wd K hs ok fn
  obtain ⟨w, h, sam, blk, lost, ogr, came, sums, sqs, mrk, que, qd, xl, yt, xr, yb, g, h1, h2, h3, h4, rfl, rfl, hk⟩ := hs
  show q_W x 0 [some (.inr (.inr (some 0))), some (.inr (.inr (some 6))), some (.inl (nI xl)), some (.inl (nI yt)), some (.inl (nI xr)), some (.inl (nI yb)), none, none, none, none] [] (xw w h sam blk lost ogr came sums sqs mrk que qd)
  refine q_aload_n ok rfl dX0_sumBetween_0 ?_
  refine q_aload_n ok rfl dX0_sumBetween_1 ?_
  refine q_iload ok rfl dX0_sumBetween_2 ?_
  refine q_iload ok rfl dX0_sumBetween_4 ?_
  refine kX0_cornerOf (by decide) (Nat.le_of_ble_eq_true rfl) ok dX0_sumBetween_6 ?_
  refine xl_sqs g (pc_lt h3 h4) ok dX0_sumBetween_9 ?_
  refine q_aload_n ok rfl dX0_sumBetween_10 ?_
  refine q_aload_n ok rfl dX0_sumBetween_11 ?_
  refine q_iload_n ok rfl dX0_sumBetween_12 ?_
  refine q_iload ok rfl dX0_sumBetween_13 ?_
  refine kX0_cornerOf (by decide) (Nat.le_of_ble_eq_true rfl) ok dX0_sumBetween_15 ?_
  refine xl_sqs g (pc_lt h1 h4) ok dX0_sumBetween_18 ?_
  refine q_lsub ok dX0_sumBetween_19 ?_
  refine q_lstore_6 ok rfl dX0_sumBetween_20 ?_
  refine q_aload_n ok rfl dX0_sumBetween_22 ?_
  refine q_aload_n ok rfl dX0_sumBetween_23 ?_
  refine q_iload ok rfl dX0_sumBetween_24 ?_
  refine q_iload_n ok rfl dX0_sumBetween_26 ?_
  refine kX0_cornerOf (by decide) (Nat.le_of_ble_eq_true rfl) ok dX0_sumBetween_27 ?_
  refine xl_sqs g (pc_lt h3 h2) ok dX0_sumBetween_30 ?_
  refine q_aload_n ok rfl dX0_sumBetween_31 ?_
  refine q_aload_n ok rfl dX0_sumBetween_32 ?_
  refine q_iload_n ok rfl dX0_sumBetween_33 ?_
  refine q_iload_n ok rfl dX0_sumBetween_34 ?_
  refine kX0_cornerOf (by decide) (Nat.le_of_ble_eq_true rfl) ok dX0_sumBetween_35 ?_
  refine xl_sqs g (pc_lt h1 h2) ok dX0_sumBetween_38 ?_
  refine q_lsub ok dX0_sumBetween_39 ?_
  refine q_lstore_8 ok rfl dX0_sumBetween_40 ?_
  refine q_lload ok rfl dX0_sumBetween_42 ?_
  refine q_lload ok rfl dX0_sumBetween_44 ?_
  refine q_lsub ok dX0_sumBetween_46 ?_
  exact q_lret ok fn dX0_sumBetween_47 hk
theorem kX0_sumBetween_6 {x : q_X} {cc : ByteArray} {fr lo pc : Nat} {lv : List (Option q_V)} {st : List q_V} {w : Nat} {h : Nat} {sam : Nat → Nat} {blk : Nat → Bool} {lost : Int64} {ogr : Nat → Nat} {came : Nat → Int32} {sums : Nat → Int64} {sqs : Nat → Int64} {mrk : Nat → Bool} {que : Nat → Nat} {qd : Nat} {xl : Nat} {yt : Nat} {xr : Nat} {yb : Nat} (g : q_g w h) (h1 : xl ≤ w) (h2 : yt ≤ h) (h3 : xr ≤ w) (h4 : yb ≤ h) (hR : 1 + 1 ≤ fr ∧ 8 + (10 + 11) + 22 ≤ lo) (hst : (st.map (fun v => if q_nol (some v) then 1 else 2)).sum ≤ 8) (ok : q_ok x cc RX0 fr lo) (hd : decode cc pc = .ok (.invokevirtual 153, 3)) (kk : q_W x (pc + 3) lv ((.inr (.inl (sqs (yb * (w + 1) + xr) - sqs (yb * (w + 1) + xl) - (sqs (yt * (w + 1) + xr) - sqs (yt * (w + 1) + xl))))) :: st) (xw w h sam blk lost ogr came sums sqs mrk que qd)) : q_W x pc lv (.inl (nI yb) :: .inl (nI xr) :: .inl (nI yt) :: .inl (nI xl) :: .inr (.inr (some 6)) :: .inr (.inr (some 0)) :: st) (xw w h sam blk lost ogr came sums sqs mrk que qd) :=
  q_callV [.inr (.inr (some 6)), .inl (nI xl), .inl (nI yt), .inl (nI xr), .inl (nI yb)] ct_X0_sumBetween_6 lkX0_X0_sumBetween dc_X0_sumBetween rfl ok rfl hR hst (Nat.le_of_ble_eq_true rfl) hd ⟨w, h, sam, blk, lost, ogr, came, sums, sqs, mrk, que, qd, xl, yt, xr, yb, g, h1, h2, h3, h4, rfl, rfl, kk⟩
