-- THE LAW'S WRAPPERS: what they answer, what they write
def bL (b : Bool) : Int64 := if b then 1 else 0
theorem xo_set {x : q_X} {cc : ByteArray} {own : String} {fr lo pc : Nat} {lv : List (Option q_V)} {st : List q_V} {w : Nat} {h : Nat} {sam : Nat → Nat} {blk : Nat → Bool} {lost : Int64} {ogr : Nat → Nat} {came : Nat → Int32} {sums : Nat → Int64} {sqs : Nat → Int64} {mrk : Nat → Bool} {que : Nat → Nat} {qd : Nat} {out : Nat → Int64} {v : Int64} (ok : q_ok x cc own fr lo) (hd : decode cc pc = .ok (.lastore, 1)) (kk : q_W x (pc + 1) lv st (q_win [] (xw w h sam blk lost ogr came sums sqs mrk que qd) [.inl (1, 1, .inr (va_up out 0 v))])) : q_W x pc lv (.inr (.inl v) :: .inl (nI 0) :: .inr (.inr (some 9)) :: st) (q_win [] (xw w h sam blk lost ogr came sums sqs mrk que qd) [.inl (1, 1, .inr out)]) := by
  refine q_last ok (k := 9) rfl (vp_in_nI (by decide) (by decide)) hd ?_
  rw [q_updL out 0 v (by decide)]; exact kk
def sp_L_put : List q_V → List q_E → (Option q_V → List q_E → Prop) → Prop := fun as Wd K => ∃ (w : Nat) (h : Nat) (sam : Nat → Nat) (blk : Nat → Bool) (lost : Int64) (ogr : Nat → Nat) (came : Nat → Int32) (sums : Nat → Int64) (sqs : Nat → Int64) (mrk : Nat → Bool) (que : Nat → Nat) (qd : Nat) (out : Nat → Int64) (a : Int32) (b : Int32) (v : Int32), (q_g w h) ∧ as = [.inr (.inr (some 0)), .inl a, .inl b, .inl v, .inr (.inr (some 9))] ∧ Wd = q_win [] ((xw w h sam blk lost ogr came sums sqs mrk que qd)) [.inl (1, 1, .inr out)] ∧ (inI w h a b = true → ¬ v < 0 → ¬ nI 255 < v → K (some (.inl (nI 0))) (q_win [] ((xw w h (va_up sam (pI w a b) v.toNatClampNeg) blk lost ogr came sums sqs mrk que qd)) [.inl (1, 1, .inr (va_up out 0 ((nI (sam (pI w a b))).toInt64)))])) ∧ (inI w h a b = false → K (some (.inl (nI 1))) (q_win [] ((xw w h sam blk lost ogr came sums sqs mrk que qd)) [.inl (1, 1, .inr out)])) ∧ ((inI w h a b = true ∧ (v < 0 ∨ nI 255 < v)) → K (some (.inl (nI 2))) (q_win [] ((xw w h sam blk lost ogr came sums sqs mrk que qd)) [.inl (1, 1, .inr out)]))
set_option maxHeartbeats 4000000 in
set_option maxRecDepth 20000 in
theorem ct_L_put : q_CtH yL_put cL_put 6 (some .int) [(0, 12, 15, 13), (0, 12, 19, 15)] 7 107 sp_L_put := by
  refine q_metH (by decide) ?_
  intro x as Wd K hs ok xs fn
  obtain ⟨w, h, sam, blk, lost, ogr, came, sums, sqs, mrk, que, qd, out, a, b, v, g, rfl, rfl, hk0, hk1, hk2⟩ := hs
  show q_W x 0 [some (.inr (.inr (some 0))), some (.inl a), some (.inl b), some (.inl v), some (.inr (.inr (some 9))), none] [] (q_win [] ((xw w h sam blk lost ogr came sums sqs mrk que qd)) [.inl (1, 1, .inr out)])
  have ok2 := q_ok_up ok xs
  have fn2 := q_fin_up fn xs
  refine q_aload ok rfl dL_put_0 ?_
  refine q_iconstv (nI 0) ok (by decide) dL_put_2 ?_
  refine q_aload_n ok rfl dL_put_3 ?_
  refine q_iload_n ok rfl dL_put_4 ?_
  refine q_iload_n ok rfl dL_put_5 ?_
  refine q_iload_n ok rfl dL_put_6 ?_
  refine q_callX (P := []) (M := (xw w h sam blk lost ogr came sums sqs mrk que qd)) (S := [.inl (1, 1, .inr out)]) (st := [.inl (nI 0), .inr (.inr (some 9))]) [.inl a, .inl b, .inl v] ct_X0_put lkL_X0_put dc_X0_put rfl ok xs rfl (fun _ _ => rfl) ⟨Nat.le_of_ble_eq_true rfl, Nat.le_of_ble_eq_true rfl⟩ (Nat.le_of_ble_eq_true rfl) (Nat.le_of_ble_eq_true rfl) dL_put_7 ⟨w, h, sam, blk, lost, ogr, came, sums, sqs, mrk, que, qd, a, b, v, g, rfl, rfl, ?_, ?_, ?_⟩
  · intro z0 z1 z2
    refine ⟨rfl, rfl, ?_⟩
    refine q_i2l ok2 dL_put_10 ?_
    refine xo_set ok2 dL_put_11 ?_
    refine q_goto 23 ok2 dL_put_12 (by decide) ?_
    refine q_iconstv (nI 0) ok2 (by decide) dL_put_23 ?_
    exact q_iretH ok2 fn2 dL_put_24 (hk0 z0 z1 z2)
  · intro hc
    exact ⟨rfl, q_hand ok2 fn2 [] ⟨0, 12, 15, 13⟩ [⟨0, 12, 19, 15⟩] rfl (fun z hz => by cases hz) (by decide) (by decide) (by decide +kernel) (Or.inr rfl) (Nat.le_of_ble_eq_true rfl) dL_put_15 dL_put_17 dL_put_18 (hk1 hc)⟩
  · intro hc
    exact ⟨rfl, q_hand ok2 fn2 [⟨0, 12, 15, 13⟩] ⟨0, 12, 19, 15⟩ [] rfl (fun z hz => by rw [List.mem_singleton] at hz; subst hz; exact Or.inr ⟨by decide, rfl, by decide +kernel⟩) (by decide) (by decide) (by decide +kernel) (Or.inl rfl) (Nat.le_of_ble_eq_true rfl) dL_put_19 dL_put_21 dL_put_22 (hk2 hc)⟩
def sp_L_local : List q_V → List q_E → (Option q_V → List q_E → Prop) → Prop := fun as Wd K => ∃ (w : Nat) (h : Nat) (sam : Nat → Nat) (blk : Nat → Bool) (lost : Int64) (ogr : Nat → Nat) (came : Nat → Int32) (sums : Nat → Int64) (sqs : Nat → Int64) (mrk : Nat → Bool) (que : Nat → Nat) (qd : Nat) (out : Nat → Int64) (z : Int32) (sh : Int32), (q_g w h) ∧ (∀ k, k < w * h → sam k < 256) ∧ (bS w h sums) ∧ (bS w h sqs) ∧ as = [.inr (.inr (some 0)), .inl z, .inl sh, .inr (.inr (some 9))] ∧ Wd = q_win [] ((xw w h sam blk lost ogr came sums sqs mrk que qd)) [.inl (1, 1, .inr out)] ∧ (∀ r : Nat, r ≤ 15 → z = nI (2 * r + 1) → ¬ sh < 0 → ¬ nI 64 < sh → ∀ (s1 s2 : Nat → Int64), SS sam w h s1 → SS (sq sam) w h s2 → K (some (.inl (nI 0))) (q_win [] ((xw w h sam (fun k => if k < w * h then drk sam w h (k % w) (k / w) r sh else blk k) lost ogr came (s1) (s2) mrk que qd)) [.inl (1, 1, .inr (va_up out 0 ((nI (cntB (fun k => if k < w * h then drk sam w h (k % w) (k / w) r sh else blk k) (w * h))).toInt64)))])) ∧ (lC z = false → K (some (.inl (nI 1))) (q_win [] ((xw w h sam blk lost ogr came sums sqs mrk que qd)) [.inl (1, 1, .inr out)])) ∧ ((lC z = true ∧ (sh < 0 ∨ nI 64 < sh)) → K (some (.inl (nI 1))) (q_win [] ((xw w h sam blk lost ogr came sums sqs mrk que qd)) [.inl (1, 1, .inr out)]))
set_option maxHeartbeats 4000000 in
set_option maxRecDepth 20000 in
theorem ct_L_local : q_CtH yL_local cL_local 5 (some .int) [(0, 10, 13, 15)] 7 115 sp_L_local := by
  refine q_metH (by decide) ?_
  intro x as Wd K hs ok xs fn
  obtain ⟨w, h, sam, blk, lost, ogr, came, sums, sqs, mrk, que, qd, out, z, sh, g, hs, hb1, hb2, rfl, rfl, hk0, hk1, hk2⟩ := hs
  show q_W x 0 [some (.inr (.inr (some 0))), some (.inl z), some (.inl sh), some (.inr (.inr (some 9))), none] [] (q_win [] ((xw w h sam blk lost ogr came sums sqs mrk que qd)) [.inl (1, 1, .inr out)])
  have ok2 := q_ok_up ok xs
  have fn2 := q_fin_up fn xs
  refine q_aload_n ok rfl dL_local_0 ?_
  refine q_iconstv (nI 0) ok (by decide) dL_local_1 ?_
  refine q_aload_n ok rfl dL_local_2 ?_
  refine q_iload_n ok rfl dL_local_3 ?_
  refine q_iload_n ok rfl dL_local_4 ?_
  refine q_callX (P := []) (M := (xw w h sam blk lost ogr came sums sqs mrk que qd)) (S := [.inl (1, 1, .inr out)]) (st := [.inl (nI 0), .inr (.inr (some 9))]) [.inl z, .inl sh] ct_X0_local lkL_X0_local dc_X0_local rfl ok xs rfl (fun _ _ => rfl) ⟨Nat.le_of_ble_eq_true rfl, Nat.le_of_ble_eq_true rfl⟩ (Nat.le_of_ble_eq_true rfl) (Nat.le_of_ble_eq_true rfl) dL_local_5 ⟨w, h, sam, blk, lost, ogr, came, sums, sqs, mrk, que, qd, z, sh, g, hs, hb1, hb2, rfl, rfl, ?_, ?_, ?_⟩
  · intro z0 z1 z2 z3 z4 z5 z6 z7 z8
    refine ⟨rfl, rfl, ?_⟩
    refine q_i2l ok2 dL_local_8 ?_
    refine xo_set ok2 dL_local_9 ?_
    refine q_goto 17 ok2 dL_local_10 (by decide) ?_
    refine q_iconstv (nI 0) ok2 (by decide) dL_local_17 ?_
    exact q_iretH ok2 fn2 dL_local_18 (hk0 z0 z1 z2 z3 z4 z5 z6 z7 z8)
  · intro hc
    exact ⟨rfl, q_hand ok2 fn2 [] ⟨0, 10, 13, 15⟩ [] rfl (fun z hz => by cases hz) (by decide) (by decide) (by decide +kernel) (Or.inl rfl) (Nat.le_of_ble_eq_true rfl) dL_local_13 dL_local_15 dL_local_16 (hk1 hc)⟩
  · intro hc
    exact ⟨rfl, q_hand ok2 fn2 [] ⟨0, 10, 13, 15⟩ [] rfl (fun z hz => by cases hz) (by decide) (by decide) (by decide +kernel) (Or.inl rfl) (Nat.le_of_ble_eq_true rfl) dL_local_13 dL_local_15 dL_local_16 (hk2 hc)⟩
def sp_L_spread : List q_V → List q_E → (Option q_V → List q_E → Prop) → Prop := fun as Wd K => ∃ (w : Nat) (h : Nat) (sam : Nat → Nat) (blk : Nat → Bool) (lost : Int64) (ogr : Nat → Nat) (came : Nat → Int32) (sums : Nat → Int64) (sqs : Nat → Int64) (mrk : Nat → Bool) (que : Nat → Nat) (qd : Nat) (out : Nat → Int64) (kd : Int32), (q_g w h) ∧ as = [.inr (.inr (some 0)), .inl kd, .inr (.inr (some 9))] ∧ Wd = q_win [] ((xw w h sam blk lost ogr came sums sqs mrk que qd)) [.inl (1, 1, .inr out)] ∧ (¬ kd < 0 → ¬ nI 2 < kd → K (some (.inl (nI 0))) (q_win [] ((xw w h sam ((sAll w h sam kd h (blk, lN 0, fun j => if j < w * h then nI 0 else came j)).1) ((sAll w h sam kd h (blk, lN 0, fun j => if j < w * h then nI 0 else came j)).2.1) ogr ((sAll w h sam kd h (blk, lN 0, fun j => if j < w * h then nI 0 else came j)).2.2) sums sqs mrk que qd)) [.inl (1, 1, .inr (va_up out 0 ((nI (cntB (sAll w h sam kd h (blk, lN 0, fun j => if j < w * h then nI 0 else came j)).1 (w * h))).toInt64)))])) ∧ ((kd < 0 ∨ nI 2 < kd) → K (some (.inl (nI 1))) (q_win [] ((xw w h sam blk lost ogr came sums sqs mrk que qd)) [.inl (1, 1, .inr out)]))
set_option maxHeartbeats 4000000 in
set_option maxRecDepth 20000 in
theorem ct_L_spread : q_CtH yL_spread cL_spread 4 (some .int) [(0, 9, 12, 15)] 7 123 sp_L_spread := by
  refine q_metH (by decide) ?_
  intro x as Wd K hs ok xs fn
  obtain ⟨w, h, sam, blk, lost, ogr, came, sums, sqs, mrk, que, qd, out, kd, g, rfl, rfl, hk0, hk1⟩ := hs
  show q_W x 0 [some (.inr (.inr (some 0))), some (.inl kd), some (.inr (.inr (some 9))), none] [] (q_win [] ((xw w h sam blk lost ogr came sums sqs mrk que qd)) [.inl (1, 1, .inr out)])
  have ok2 := q_ok_up ok xs
  have fn2 := q_fin_up fn xs
  refine q_aload_n ok rfl dL_spread_0 ?_
  refine q_iconstv (nI 0) ok (by decide) dL_spread_1 ?_
  refine q_aload_n ok rfl dL_spread_2 ?_
  refine q_iload_n ok rfl dL_spread_3 ?_
  refine q_callX (P := []) (M := (xw w h sam blk lost ogr came sums sqs mrk que qd)) (S := [.inl (1, 1, .inr out)]) (st := [.inl (nI 0), .inr (.inr (some 9))]) [.inl kd] ct_X0_spread lkL_X0_spread dc_X0_spread rfl ok xs rfl (fun _ _ => rfl) ⟨Nat.le_of_ble_eq_true rfl, Nat.le_of_ble_eq_true rfl⟩ (Nat.le_of_ble_eq_true rfl) (Nat.le_of_ble_eq_true rfl) dL_spread_4 ⟨w, h, sam, blk, lost, ogr, came, sums, sqs, mrk, que, qd, kd, g, rfl, rfl, ?_, ?_⟩
  · intro z0 z1
    refine ⟨rfl, rfl, ?_⟩
    refine q_i2l ok2 dL_spread_7 ?_
    refine xo_set ok2 dL_spread_8 ?_
    refine q_goto 15 ok2 dL_spread_9 (by decide) ?_
    refine q_iconstv (nI 0) ok2 (by decide) dL_spread_15 ?_
    exact q_iretH ok2 fn2 dL_spread_16 (hk0 z0 z1)
  · intro hc
    exact ⟨rfl, q_hand3 ok2 fn2 [] ⟨0, 9, 12, 15⟩ [] rfl (fun z hz => by cases hz) (by decide) (by decide) (by decide +kernel) (Or.inl rfl) (Nat.le_of_ble_eq_true rfl) dL_spread_12 dL_spread_13 dL_spread_14 (hk1 hc)⟩
def sp_L_ordered : List q_V → List q_E → (Option q_V → List q_E → Prop) → Prop := fun as Wd K => ∃ (w : Nat) (h : Nat) (sam : Nat → Nat) (blk : Nat → Bool) (lost : Int64) (ogr : Nat → Nat) (came : Nat → Int32) (sums : Nat → Int64) (sqs : Nat → Int64) (mrk : Nat → Bool) (que : Nat → Nat) (qd : Nat) (out : Nat → Int64) (c : Int32), (q_g w h) ∧ (∀ k, k < w * h → sam k < 256) ∧ as = [.inr (.inr (some 0)), .inl c, .inr (.inr (some 9))] ∧ Wd = q_win [] ((xw w h sam blk lost ogr came sums sqs mrk que qd)) [.inl (1, 1, .inr out)] ∧ (∀ ex : Nat, ex ≤ 3 → c = nI (2 ^ ex) → K (some (.inl (nI 0))) (q_win [] ((xw w h sam (fun k => if k < w * h then oF sam w ex k else blk k) lost ogr came sums sqs mrk que qd)) [.inl (1, 1, .inr (va_up out 0 ((nI (cntB (fun k => if k < w * h then oF sam w ex k else blk k) (w * h))).toInt64)))])) ∧ (isC c = false → K (some (.inl (nI 1))) (q_win [] ((xw w h sam blk lost ogr came sums sqs mrk que qd)) [.inl (1, 1, .inr out)]))
set_option maxHeartbeats 4000000 in
set_option maxRecDepth 20000 in
theorem ct_L_ordered : q_CtH yL_ordered cL_ordered 4 (some .int) [(0, 9, 12, 15)] 7 107 sp_L_ordered := by
  refine q_metH (by decide) ?_
  intro x as Wd K hs ok xs fn
  obtain ⟨w, h, sam, blk, lost, ogr, came, sums, sqs, mrk, que, qd, out, c, g, hs, rfl, rfl, hk0, hk1⟩ := hs
  show q_W x 0 [some (.inr (.inr (some 0))), some (.inl c), some (.inr (.inr (some 9))), none] [] (q_win [] ((xw w h sam blk lost ogr came sums sqs mrk que qd)) [.inl (1, 1, .inr out)])
  have ok2 := q_ok_up ok xs
  have fn2 := q_fin_up fn xs
  refine q_aload_n ok rfl dL_ordered_0 ?_
  refine q_iconstv (nI 0) ok (by decide) dL_ordered_1 ?_
  refine q_aload_n ok rfl dL_ordered_2 ?_
  refine q_iload_n ok rfl dL_ordered_3 ?_
  refine q_callX (P := []) (M := (xw w h sam blk lost ogr came sums sqs mrk que qd)) (S := [.inl (1, 1, .inr out)]) (st := [.inl (nI 0), .inr (.inr (some 9))]) [.inl c] ct_X0_ordered lkL_X0_ordered dc_X0_ordered rfl ok xs rfl (fun _ _ => rfl) ⟨Nat.le_of_ble_eq_true rfl, Nat.le_of_ble_eq_true rfl⟩ (Nat.le_of_ble_eq_true rfl) (Nat.le_of_ble_eq_true rfl) dL_ordered_4 ⟨w, h, sam, blk, lost, ogr, came, sums, sqs, mrk, que, qd, c, g, hs, rfl, rfl, ?_, ?_⟩
  · intro z0 z1 z2
    refine ⟨rfl, rfl, ?_⟩
    refine q_i2l ok2 dL_ordered_7 ?_
    refine xo_set ok2 dL_ordered_8 ?_
    refine q_goto 15 ok2 dL_ordered_9 (by decide) ?_
    refine q_iconstv (nI 0) ok2 (by decide) dL_ordered_15 ?_
    exact q_iretH ok2 fn2 dL_ordered_16 (hk0 z0 z1 z2)
  · intro hc
    exact ⟨rfl, q_hand3 ok2 fn2 [] ⟨0, 9, 12, 15⟩ [] rfl (fun z hz => by cases hz) (by decide) (by decide) (by decide +kernel) (Or.inl rfl) (Nat.le_of_ble_eq_true rfl) dL_ordered_12 dL_ordered_13 dL_ordered_14 (hk1 hc)⟩
def sp_L_join : List q_V → List q_E → (Option q_V → List q_E → Prop) → Prop := fun as Wd K => ∃ (w : Nat) (h : Nat) (sam : Nat → Nat) (blk : Nat → Bool) (lost : Int64) (ogr : Nat → Nat) (came : Nat → Int32) (sums : Nat → Int64) (sqs : Nat → Int64) (mrk : Nat → Bool) (que : Nat → Nat) (qd : Nat) (out : Nat → Int64) (lw : Int32) (hi : Int32), (q_g w h) ∧ as = [.inr (.inr (some 0)), .inl lw, .inl hi, .inr (.inr (some 9))] ∧ Wd = q_win [] ((xw w h sam blk lost ogr came sums sqs mrk que qd)) [.inl (1, 1, .inr out)] ∧ (¬ lw < -1 → ¬ hi < lw → ¬ nI 255 < hi → ∀ (blk2 : Nat → Bool) (que2 : Nat → Nat) (qd2 : Nat), jPost w h sam lw hi blk2 → K (some (.inl (nI 0))) (q_win [] ((xw w h sam (blk2) lost ogr came sums sqs mrk (que2) (qd2))) [.inl (1, 1, .inr (va_up out 0 ((nI (cntB blk2 (w * h))).toInt64)))])) ∧ ((lw < -1 ∨ hi < lw ∨ nI 255 < hi) → K (some (.inl (nI 1))) (q_win [] ((xw w h sam blk lost ogr came sums sqs mrk que qd)) [.inl (1, 1, .inr out)]))
set_option maxHeartbeats 4000000 in
set_option maxRecDepth 20000 in
theorem ct_L_join : q_CtH yL_join cL_join 5 (some .int) [(0, 10, 13, 15)] 7 105 sp_L_join := by
  refine q_metH (by decide) ?_
  intro x as Wd K hs ok xs fn
  obtain ⟨w, h, sam, blk, lost, ogr, came, sums, sqs, mrk, que, qd, out, lw, hi, g, rfl, rfl, hk0, hk1⟩ := hs
  show q_W x 0 [some (.inr (.inr (some 0))), some (.inl lw), some (.inl hi), some (.inr (.inr (some 9))), none] [] (q_win [] ((xw w h sam blk lost ogr came sums sqs mrk que qd)) [.inl (1, 1, .inr out)])
  have ok2 := q_ok_up ok xs
  have fn2 := q_fin_up fn xs
  refine q_aload_n ok rfl dL_join_0 ?_
  refine q_iconstv (nI 0) ok (by decide) dL_join_1 ?_
  refine q_aload_n ok rfl dL_join_2 ?_
  refine q_iload_n ok rfl dL_join_3 ?_
  refine q_iload_n ok rfl dL_join_4 ?_
  refine q_callX (P := []) (M := (xw w h sam blk lost ogr came sums sqs mrk que qd)) (S := [.inl (1, 1, .inr out)]) (st := [.inl (nI 0), .inr (.inr (some 9))]) [.inl lw, .inl hi] ct_X0_join lkL_X0_join dc_X0_join rfl ok xs rfl (fun _ _ => rfl) ⟨Nat.le_of_ble_eq_true rfl, Nat.le_of_ble_eq_true rfl⟩ (Nat.le_of_ble_eq_true rfl) (Nat.le_of_ble_eq_true rfl) dL_join_5 ⟨w, h, sam, blk, lost, ogr, came, sums, sqs, mrk, que, qd, lw, hi, g, rfl, rfl, ?_, ?_⟩
  · intro z0 z1 z2 z3 z4 z5 z6
    refine ⟨rfl, rfl, ?_⟩
    refine q_i2l ok2 dL_join_8 ?_
    refine xo_set ok2 dL_join_9 ?_
    refine q_goto 17 ok2 dL_join_10 (by decide) ?_
    refine q_iconstv (nI 0) ok2 (by decide) dL_join_17 ?_
    exact q_iretH ok2 fn2 dL_join_18 (hk0 z0 z1 z2 z3 z4 z5 z6)
  · intro hc
    exact ⟨rfl, q_hand ok2 fn2 [] ⟨0, 10, 13, 15⟩ [] rfl (fun z hz => by cases hz) (by decide) (by decide) (by decide +kernel) (Or.inl rfl) (Nat.le_of_ble_eq_true rfl) dL_join_13 dL_join_15 dL_join_16 (hk1 hc)⟩
def sp_L_clean : List q_V → List q_E → (Option q_V → List q_E → Prop) → Prop := fun as Wd K => ∃ (w : Nat) (h : Nat) (sam : Nat → Nat) (blk : Nat → Bool) (lost : Int64) (ogr : Nat → Nat) (came : Nat → Int32) (sums : Nat → Int64) (sqs : Nat → Int64) (mrk : Nat → Bool) (que : Nat → Nat) (qd : Nat) (out : Nat → Int64) (m : Int32), (q_g w h) ∧ as = [.inr (.inr (some 0)), .inl m, .inr (.inr (some 9))] ∧ Wd = q_win [] ((xw w h sam blk lost ogr came sums sqs mrk que qd)) [.inl (1, 1, .inr out)] ∧ (¬ m < 0 → ¬ nI 256 < m → ∀ (blk1 blk2 mrk2 : Nat → Bool) (que2 : Nat → Nat) (qd2 : Nat), tPost w h blk true m.toNatClampNeg blk1 → tPost w h blk1 false m.toNatClampNeg blk2 → K (some (.inl (nI 0))) (q_win [] ((xw w h sam (blk2) lost ogr came sums sqs (mrk2) (que2) (qd2))) [.inl (1, 1, .inr (va_up out 0 ((nI (cntB (cB (Sp w h blk true m.toNatClampNeg)) (w * h) + cntB (cB (Sp w h blk1 false m.toNatClampNeg)) (w * h))).toInt64)))])) ∧ ((m < 0 ∨ nI 256 < m) → K (some (.inl (nI 1))) (q_win [] ((xw w h sam blk lost ogr came sums sqs mrk que qd)) [.inl (1, 1, .inr out)]))
set_option maxHeartbeats 4000000 in
set_option maxRecDepth 20000 in
theorem ct_L_clean : q_CtH yL_clean cL_clean 4 (some .int) [(0, 9, 12, 15)] 7 118 sp_L_clean := by
  refine q_metH (by decide) ?_
  intro x as Wd K hs ok xs fn
  obtain ⟨w, h, sam, blk, lost, ogr, came, sums, sqs, mrk, que, qd, out, m, g, rfl, rfl, hk0, hk1⟩ := hs
  show q_W x 0 [some (.inr (.inr (some 0))), some (.inl m), some (.inr (.inr (some 9))), none] [] (q_win [] ((xw w h sam blk lost ogr came sums sqs mrk que qd)) [.inl (1, 1, .inr out)])
  have ok2 := q_ok_up ok xs
  have fn2 := q_fin_up fn xs
  refine q_aload_n ok rfl dL_clean_0 ?_
  refine q_iconstv (nI 0) ok (by decide) dL_clean_1 ?_
  refine q_aload_n ok rfl dL_clean_2 ?_
  refine q_iload_n ok rfl dL_clean_3 ?_
  refine q_callX (P := []) (M := (xw w h sam blk lost ogr came sums sqs mrk que qd)) (S := [.inl (1, 1, .inr out)]) (st := [.inl (nI 0), .inr (.inr (some 9))]) [.inl m] ct_X0_clean lkL_X0_clean dc_X0_clean rfl ok xs rfl (fun _ _ => rfl) ⟨Nat.le_of_ble_eq_true rfl, Nat.le_of_ble_eq_true rfl⟩ (Nat.le_of_ble_eq_true rfl) (Nat.le_of_ble_eq_true rfl) dL_clean_4 ⟨w, h, sam, blk, lost, ogr, came, sums, sqs, mrk, que, qd, m, g, rfl, rfl, ?_, ?_⟩
  · intro z0 z1 z2 z3 z4 z5 z6 z7 z8
    refine ⟨rfl, rfl, ?_⟩
    refine q_i2l ok2 dL_clean_7 ?_
    refine xo_set ok2 dL_clean_8 ?_
    refine q_goto 15 ok2 dL_clean_9 (by decide) ?_
    refine q_iconstv (nI 0) ok2 (by decide) dL_clean_15 ?_
    exact q_iretH ok2 fn2 dL_clean_16 (hk0 z0 z1 z2 z3 z4 z5 z6 z7 z8)
  · intro hc
    exact ⟨rfl, q_hand3 ok2 fn2 [] ⟨0, 9, 12, 15⟩ [] rfl (fun z hz => by cases hz) (by decide) (by decide) (by decide +kernel) (Or.inl rfl) (Nat.le_of_ble_eq_true rfl) dL_clean_12 dL_clean_13 dL_clean_14 (hk1 hc)⟩
def sp_L_at : List q_V → List q_E → (Option q_V → List q_E → Prop) → Prop := fun as Wd K => ∃ (w : Nat) (h : Nat) (sam : Nat → Nat) (blk : Nat → Bool) (lost : Int64) (ogr : Nat → Nat) (came : Nat → Int32) (sums : Nat → Int64) (sqs : Nat → Int64) (mrk : Nat → Bool) (que : Nat → Nat) (qd : Nat) (out : Nat → Int64) (a : Int32) (b : Int32), (q_g w h) ∧ as = [.inr (.inr (some 0)), .inl a, .inl b, .inr (.inr (some 9))] ∧ Wd = q_win [] ((xw w h sam blk lost ogr came sums sqs mrk que qd)) [.inl (1, 1, .inr out)] ∧ (inI w h a b = true → K (some (.inl (nI 0))) (q_win [] ((xw w h sam blk lost ogr came sums sqs mrk que qd)) [.inl (1, 1, .inr (va_up out 0 (bL (blk (pI w a b)))))])) ∧ (inI w h a b = false → K (some (.inl (nI 1))) (q_win [] ((xw w h sam blk lost ogr came sums sqs mrk que qd)) [.inl (1, 1, .inr out)]))
set_option maxHeartbeats 4000000 in
set_option maxRecDepth 20000 in
theorem ct_L_at : q_CtH yL_at cL_at 5 (some .int) [(0, 17, 20, 13)] 7 104 sp_L_at := by
  refine q_metH (by decide) ?_
  intro x as Wd K hs ok xs fn
  obtain ⟨w, h, sam, blk, lost, ogr, came, sums, sqs, mrk, que, qd, out, a, b, g, rfl, rfl, hk0, hk1⟩ := hs
  show q_W x 0 [some (.inr (.inr (some 0))), some (.inl a), some (.inl b), some (.inr (.inr (some 9))), none] [] (q_win [] ((xw w h sam blk lost ogr came sums sqs mrk que qd)) [.inl (1, 1, .inr out)])
  have ok2 := q_ok_up ok xs
  have fn2 := q_fin_up fn xs
  refine q_aload_n ok rfl dL_at_0 ?_
  refine q_iconstv (nI 0) ok (by decide) dL_at_1 ?_
  refine q_aload_n ok rfl dL_at_2 ?_
  refine q_iload_n ok rfl dL_at_3 ?_
  refine q_iload_n ok rfl dL_at_4 ?_
  refine q_callX (P := []) (M := (xw w h sam blk lost ogr came sums sqs mrk que qd)) (S := [.inl (1, 1, .inr out)]) (st := [.inl (nI 0), .inr (.inr (some 9))]) [.inl a, .inl b] ct_X0_at lkL_X0_at dc_X0_at rfl ok xs rfl (fun _ _ => rfl) ⟨Nat.le_of_ble_eq_true rfl, Nat.le_of_ble_eq_true rfl⟩ (Nat.le_of_ble_eq_true rfl) (Nat.le_of_ble_eq_true rfl) dL_at_5 ⟨w, h, sam, blk, lost, ogr, came, sums, sqs, mrk, que, qd, a, b, g, rfl, rfl, ?_, ?_⟩
  · intro z0
    refine ⟨rfl, rfl, ?_⟩
    refine q_ifb_eq 15 ok2 dL_at_8 (by decide) (fun hz => ?_) (fun hz => ?_)
    · refine q_lconstv (0 : Int64) ok2 (by decide) dL_at_15 ?_
      refine xo_set ok2 dL_at_16 ?_
      refine q_goto 24 ok2 dL_at_17 (by decide) ?_
      refine q_iconstv (nI 0) ok2 (by decide) dL_at_24 ?_
      exact q_iretH ok2 fn2 dL_at_25 (by have zz := hk0 z0; rw [hz] at zz; exact zz)
    · refine q_lconstv (1 : Int64) ok2 (by decide) dL_at_11 ?_
      refine q_goto 16 ok2 dL_at_12 (by decide) ?_
      refine xo_set ok2 dL_at_16 ?_
      refine q_goto 24 ok2 dL_at_17 (by decide) ?_
      refine q_iconstv (nI 0) ok2 (by decide) dL_at_24 ?_
      exact q_iretH ok2 fn2 dL_at_25 (by have zz := hk0 z0; rw [hz] at zz; exact zz)
  · intro hc
    exact ⟨rfl, q_hand ok2 fn2 [] ⟨0, 17, 20, 13⟩ [] rfl (fun z hz => by cases hz) (by decide) (by decide) (by decide +kernel) (Or.inr rfl) (Nat.le_of_ble_eq_true rfl) dL_at_20 dL_at_22 dL_at_23 (hk1 hc)⟩
def sp_L_sum : List q_V → List q_E → (Option q_V → List q_E → Prop) → Prop := fun as Wd K => ∃ (w : Nat) (h : Nat) (sam : Nat → Nat) (blk : Nat → Bool) (lost : Int64) (ogr : Nat → Nat) (came : Nat → Int32) (sums : Nat → Int64) (sqs : Nat → Int64) (mrk : Nat → Bool) (que : Nat → Nat) (qd : Nat) (out : Nat → Int64) (a : Int32) (b : Int32) (c : Int32) (d : Int32) (e : Bool), (q_g w h) ∧ (∀ k, k < w * h → sam k < 256) ∧ (bS w h sums) ∧ (bS w h sqs) ∧ as = [.inr (.inr (some 0)), .inl a, .inl b, .inl c, .inl d, .inl (bI e), .inr (.inr (some 9))] ∧ Wd = q_win [] ((xw w h sam blk lost ogr came sums sqs mrk que qd)) [.inl (1, 1, .inr out)] ∧ (∀ (a2 b2 c2 d2 : Nat), a = nI a2 → b = nI b2 → c = nI c2 → d = nI d2 → a2 ≤ w → c2 ≤ w - a2 → b2 ≤ h → d2 ≤ h - b2 → ∀ (s1 s2 : Nat → Int64), SS sam w h s1 → SS (sq sam) w h s2 → K (some (.inl (nI 0))) (q_win [] ((xw w h sam blk lost ogr came (s1) (s2) mrk que qd)) [.inl (1, 1, .inr (va_up out 0 ((lN (RS (if e = true then sq sam else sam) w a2 b2 (a2 + c2) (b2 + d2))))))])) ∧ ((isP a c (nI w) = false ∨ isP b d (nI h) = false) → K (some (.inl (nI 1))) (q_win [] ((xw w h sam blk lost ogr came sums sqs mrk que qd)) [.inl (1, 1, .inr out)]))
set_option maxHeartbeats 4000000 in
set_option maxRecDepth 20000 in
theorem ct_L_sum : q_CtH yL_sum cL_sum 8 (some .int) [(0, 15, 18, 15)] 7 107 sp_L_sum := by
  refine q_metH (by decide) ?_
  intro x as Wd K hs ok xs fn
  obtain ⟨w, h, sam, blk, lost, ogr, came, sums, sqs, mrk, que, qd, out, a, b, c, d, e, g, hs, hb1, hb2, rfl, rfl, hk0, hk1⟩ := hs
  show q_W x 0 [some (.inr (.inr (some 0))), some (.inl a), some (.inl b), some (.inl c), some (.inl d), some (.inl (bI e)), some (.inr (.inr (some 9))), none] [] (q_win [] ((xw w h sam blk lost ogr came sums sqs mrk que qd)) [.inl (1, 1, .inr out)])
  have ok2 := q_ok_up ok xs
  have fn2 := q_fin_up fn xs
  refine q_aload ok rfl dL_sum_0 ?_
  refine q_iconstv (nI 0) ok (by decide) dL_sum_2 ?_
  refine q_aload_n ok rfl dL_sum_3 ?_
  refine q_iload_n ok rfl dL_sum_4 ?_
  refine q_iload_n ok rfl dL_sum_5 ?_
  refine q_iload_n ok rfl dL_sum_6 ?_
  refine q_iload ok rfl dL_sum_7 ?_
  refine q_iload ok rfl dL_sum_9 ?_
  refine q_callX (P := []) (M := (xw w h sam blk lost ogr came sums sqs mrk que qd)) (S := [.inl (1, 1, .inr out)]) (st := [.inl (nI 0), .inr (.inr (some 9))]) [.inl a, .inl b, .inl c, .inl d, .inl (bI e)] ct_X0_sum lkL_X0_sum dc_X0_sum rfl ok xs rfl (fun _ _ => rfl) ⟨Nat.le_of_ble_eq_true rfl, Nat.le_of_ble_eq_true rfl⟩ (Nat.le_of_ble_eq_true rfl) (Nat.le_of_ble_eq_true rfl) dL_sum_11 ⟨w, h, sam, blk, lost, ogr, came, sums, sqs, mrk, que, qd, a, b, c, d, e, g, hs, hb1, hb2, rfl, rfl, ?_, ?_⟩
  · intro z0 z1 z2 z3 z4 z5 z6 z7 z8 z9 z10 z11 z12 z13 z14 z15
    refine ⟨rfl, rfl, ?_⟩
    refine xo_set ok2 dL_sum_14 ?_
    refine q_goto 22 ok2 dL_sum_15 (by decide) ?_
    refine q_iconstv (nI 0) ok2 (by decide) dL_sum_22 ?_
    exact q_iretH ok2 fn2 dL_sum_23 (hk0 z0 z1 z2 z3 z4 z5 z6 z7 z8 z9 z10 z11 z12 z13 z14 z15)
  · intro hc
    exact ⟨rfl, q_hand ok2 fn2 [] ⟨0, 15, 18, 15⟩ [] rfl (fun z hz => by cases hz) (by decide) (by decide) (by decide +kernel) (Or.inl rfl) (Nat.le_of_ble_eq_true rfl) dL_sum_18 dL_sum_20 dL_sum_21 (hk1 hc)⟩
def sp_L_cell_ : List q_V → List q_E → (Option q_V → List q_E → Prop) → Prop := fun as Wd K => ∃ (w : Nat) (h : Nat) (sam : Nat → Nat) (blk : Nat → Bool) (lost : Int64) (ogr : Nat → Nat) (came : Nat → Int32) (sums : Nat → Int64) (sqs : Nat → Int64) (mrk : Nat → Bool) (que : Nat → Nat) (qd : Nat) (out : Nat → Int64) (c : Int32) (a : Int32) (b : Int32), as = [.inr (.inr (some 0)), .inl c, .inl a, .inl b, .inr (.inr (some 9))] ∧ Wd = q_win [] ((xw w h sam blk lost ogr came sums sqs mrk que qd)) [.inl (1, 1, .inr out)] ∧ (∀ ex : Nat, ex ≤ 3 → c = nI (2 ^ ex) → ¬ a < 0 → ¬ b < 0 → K (some (.inl (nI 0))) (q_win [] ((xw w h sam blk lost ogr came sums sqs mrk que qd)) [.inl (1, 1, .inr (va_up out 0 ((nI (cN a.toNatClampNeg b.toNatClampNeg ex)).toInt64)))])) ∧ (isC c = false → K (some (.inl (nI 1))) (q_win [] ((xw w h sam blk lost ogr came sums sqs mrk que qd)) [.inl (1, 1, .inr out)])) ∧ ((isC c = true ∧ (a < 0 ∨ b < 0)) → K (some (.inl (nI 1))) (q_win [] ((xw w h sam blk lost ogr came sums sqs mrk que qd)) [.inl (1, 1, .inr out)]))
set_option maxHeartbeats 4000000 in
set_option maxRecDepth 20000 in
theorem ct_L_cell_ : q_CtH yL_cell_ cL_cell_ 6 (some .int) [(0, 12, 15, 15)] 7 105 sp_L_cell_ := by
  refine q_metH (by decide) ?_
  intro x as Wd K hs ok xs fn
  obtain ⟨w, h, sam, blk, lost, ogr, came, sums, sqs, mrk, que, qd, out, c, a, b, rfl, rfl, hk0, hk1, hk2⟩ := hs
  show q_W x 0 [some (.inr (.inr (some 0))), some (.inl c), some (.inl a), some (.inl b), some (.inr (.inr (some 9))), none] [] (q_win [] ((xw w h sam blk lost ogr came sums sqs mrk que qd)) [.inl (1, 1, .inr out)])
  have ok2 := q_ok_up ok xs
  have fn2 := q_fin_up fn xs
  refine q_aload ok rfl dL_cell__0 ?_
  refine q_iconstv (nI 0) ok (by decide) dL_cell__2 ?_
  refine q_aload_n ok rfl dL_cell__3 ?_
  refine q_iload_n ok rfl dL_cell__4 ?_
  refine q_iload_n ok rfl dL_cell__5 ?_
  refine q_iload_n ok rfl dL_cell__6 ?_
  refine q_callX (P := []) (M := (xw w h sam blk lost ogr came sums sqs mrk que qd)) (S := [.inl (1, 1, .inr out)]) (st := [.inl (nI 0), .inr (.inr (some 9))]) [.inl c, .inl a, .inl b] ct_X0_cell lkL_X0_cell dc_X0_cell rfl ok xs rfl (fun _ _ => rfl) ⟨Nat.le_of_ble_eq_true rfl, Nat.le_of_ble_eq_true rfl⟩ (Nat.le_of_ble_eq_true rfl) (Nat.le_of_ble_eq_true rfl) dL_cell__7 ⟨w, h, sam, blk, lost, ogr, came, sums, sqs, mrk, que, qd, c, a, b, rfl, rfl, ?_, ?_, ?_⟩
  · intro z0 z1 z2 z3 z4
    refine ⟨rfl, rfl, ?_⟩
    refine q_i2l ok2 dL_cell__10 ?_
    refine xo_set ok2 dL_cell__11 ?_
    refine q_goto 19 ok2 dL_cell__12 (by decide) ?_
    refine q_iconstv (nI 0) ok2 (by decide) dL_cell__19 ?_
    exact q_iretH ok2 fn2 dL_cell__20 (hk0 z0 z1 z2 z3 z4)
  · intro hc
    exact ⟨rfl, q_hand ok2 fn2 [] ⟨0, 12, 15, 15⟩ [] rfl (fun z hz => by cases hz) (by decide) (by decide) (by decide +kernel) (Or.inl rfl) (Nat.le_of_ble_eq_true rfl) dL_cell__15 dL_cell__17 dL_cell__18 (hk1 hc)⟩
  · intro hc
    exact ⟨rfl, q_hand ok2 fn2 [] ⟨0, 12, 15, 15⟩ [] rfl (fun z hz => by cases hz) (by decide) (by decide) (by decide +kernel) (Or.inl rfl) (Nat.le_of_ble_eq_true rfl) dL_cell__15 dL_cell__17 dL_cell__18 (hk2 hc)⟩
