-- THE START: the script's first cells, both objects, the answers' cell
def q_at0 (L : Nat) (xs : Nat → Int32) (k : Nat) : Int32 := if k < L then xs k else 0
set_option maxHeartbeats 4000000 in
theorem ct_L_cell (l : Launch) {b L sz : Nat} {xs : Nat → Int32} {k : Nat} (hL : L ≤ 3074) (hk : k ≤ 1) : Met l yL_cell (q_ws yL_cell cL_cell 2 (some .int)) (q_rm 0 0) (va_Pc [.ref b, .int (nI k)] (fun U => U.heap.size = sz ∧ va_X b L xs U U.heap ∧ b < sz)) (va_Qi (S := Unit) (fun r _ => r = q_at0 L xs k) (fun _ _ => True) (fun q => sz ≤ q)) 0 0 (fun q => sz ≤ q) := by
  refine Met.ofW (cc := cL_cell) (maxL := 2) (ret := some .int) (by decide) rfl ?_
  intro p e s m args below meth c s₁ B hml hv
  obtain ⟨rfl, hsz, hX, hbl⟩ := hv
  have hx := B.exec
  have hb := B.bytes
  have hr := B.returns
  have hlocks := B.notSynchronized
  subst hsz
  have hbA : ¬ (fun q : Nat => s.heap.size ≤ q) b := Nat.not_le.mpr hbl
  have hS : va_S (fun q : Nat => s.heap.size ≤ q) s.heap s.heap [] := va_S.rf
  rw [lg_entry_eq]
  have hl := lv_entry ([.ref b, .int (nI k)]) (n := 2) (Nat.le_of_ble_eq_true rfl)
  generalize (lg_sl ([.ref b, .int (nI k)]) ++ List.replicate (2 - (lg_sl ([.ref b, .int (nI k)])).length) Slot.unset).toArray = ls at hl ⊢
  have hl : lv_has ls 2 [(0, .ref b), (1, .int (nI k))] := hl
  have h0 := lv_at hl 0 rfl
  have h1 := lv_at hl 1 rfl
  refine lv_iload_n hx hb dL_cell_0 rfl h1 ?_
  refine lv_aload_n hx hb dL_cell_1 rfl h0 ?_
  refine va_slen hx hb hX hbl hbA hS dL_cell_2 ?_
  refine lv_icmp_ge (tgt := 12) hx hb dL_cell_3 (by decide) (fun hc => ?_) (fun hc => ?_)
  · have hc2 : L ≤ k := (nI_leI (by omega) (by omega)).mp hc
    refine lv_iconst (v := 0) hx hb dL_cell_12 (by decide) ?_
    exact W.iret hx hb hr (fun t ht hW => ⟨⟨0, (), rfl, by unfold q_at0; rw [if_neg (by omega)], trivial⟩, hS.F ht⟩) hS.2.2 dL_cell_13
  · have hc2 : k < L := Nat.lt_of_not_le fun q => hc ((nI_leI (by omega) (by omega)).mpr q)
    refine lv_aload_n hx hb dL_cell_6 rfl h0 ?_
    refine lv_iload_n hx hb dL_cell_7 rfl h1 ?_
    refine va_sld hx hb hX hbl hbA hS (nI_in hc2 (by omega)) dL_cell_8 ?_
    rw [nI_clamp (by omega)]
    refine lv_goto (tgt := 13) hx hb dL_cell_9 (by decide) ?_
    exact W.iret hx hb hr (fun t ht hW => ⟨⟨xs k, (), rfl, by unfold q_at0; rw [if_pos hc2], trivial⟩, hS.F ht⟩) hS.2.2 dL_cell_13
section START
variable {p : Program} {l : Launch} {e : Env} {R : Room} {s : State} {m : MethodId} {args : Array Value} {below : List Frame} {meth : Method} {c : Code} {H : Heap} {locs : List Loc} {cells slots : Nat} {Q : State → Prop} {A : Nat → Prop}
theorem q_cell0 {b L pc k : Nat} {xs : Nat → Int32} {ls : Array Slot} {rest : List Value} (hL : L ≤ 3074) (hk : k ≤ 1) (hx : p.tables.exec = Jvm.exec) (hb : c.code = cL_law) (hml : c.maxLocals = 8) (hown : s.vm.findClass RL = some m.cls) (hts : ∀ w ∈ wsL_law, w.before args s = true) (hX : va_X b L xs s s.heap) (hbl : b < s.heap.size) (hbA : ¬ A b) (hA : ∀ q : Nat, s.heap.size ≤ q → A q) (hS : va_S A s.heap H locs) (hR : 10 ≤ R.frames ∧ 354 ≤ R.locals) (hls : ls.size = 8) (hcat : (rest.map fun v => v.category).sum ≤ 8) (hcl : cells ≤ R.cells) (hsl : slots ≤ R.slots) (hd : decode cL_law pc = .ok (.invokestatic 45, 3))
    (kk : ∀ (H1 : Heap) (locs1 : List Loc), H.size ≤ H1.size → (∀ q : Nat, q < H.size → H1[q]? = H[q]?) → va_S A s.heap H1 locs1 → W p l e R s m args below meth c H1 locs1 cells slots Q (F0 m (pc + 3) ls (.int (q_at0 L xs k) :: rest))) : W p l e R s m args below meth c H locs cells slots Q (F0 m pc ls (.int (nI k) :: .ref b :: rest)) := by
  have hM := ct_L_cell l (b := b) (sz := H.size) (xs := xs) hL hk
  have hX2 : va_X b L xs s H := hX.kept (hS.2.1 b hbl hbA)
  have hbl2 : b < H.size := Nat.lt_of_lt_of_le hbl hS.1
  have cw : CallB R s args RL 45 yL_cell cL_cell 2 (some .int) (q_ws yL_cell cL_cell 2 (some .int)) (q_rm 0 0) 0 0 2 ∧ (Cond.static yL_cell).before args s = true :=
    ⟨callB_of _ hts (q_gws lkL_L_cell.2.2.2) rfl rfl rfl (hts _ lkL_L_cell.2.2.1) (hts _ lkL_L_cell.1) ⟨by decide, by decide, by decide +kernel⟩ ⟨Nat.le_trans (by decide) hR.1, Nat.le_trans (by decide) hR.2⟩, hts _ lkL_L_cell.2.1⟩
  refine va_calli (va_runS (As := [.ref b, .int (nI k)]) (nL := 8) (Ts := wsL_law) ⟨hx, hb, hml, hown, hts⟩ hM cw ⟨fun a U g mk q => ?_, fun U hU hW => ⟨rfl, by rw [hU], by rw [hU]; exact hX2.moved hW.alike, hbl2⟩⟩ rfl rfl hls rfl (lv_room hcat) hd ⟨hcl, hsl⟩) hS (fun q _ h => hA q (Nat.le_trans hS.1 h)) (fun q h => hA q (Nat.le_trans hS.1 h)) (fun r u t H1 locs1 ht hvm hp hB hz hk1 hS1 => ?_)
  · obtain ⟨q0, q1, q2, q3⟩ := q
    exact ⟨q0, q1, va_X.moved (u := U) (U := U.calling g mk a) (Vm.Alike.refl U.vm) q2, q3⟩
  · have hp : r = q_at0 L xs k := hp
    subst hp
    exact kk H1 locs1 hz (fun q hq => hk1 q hq (Nat.not_le.mpr hq)) hS1
theorem q_initC {D : va_G} {cA : Nat → ClassId} {cc : ByteArray} {own : String} {y : MethodName} {b : ByteArray} {n fr2 lo2 mc ms ix pc q0 ci : Nat} {df as : List q_V} {ws : va_W} {spec : List q_V → List q_E → (List q_E → Prop) → Prop} {K : List q_E → Prop} {ls : Array Slot} {rest : List Value} (C : q_CtN y b n fr2 lo2 mc ms spec)
    (hw : Cond.methodLink own ix y ∈ wsL_law ∧ Cond.instanceMethod y ∈ wsL_law ∧ Cond.initialized y.cls ∈ wsL_law ∧ Cond.code y b n none ∈ wsL_law) (hy : y.name = "<init>") (hdc : y.cls ≠ "java/lang/invoke/MethodHandle" ∧ y.cls ≠ "java/lang/invoke/VarHandle" ∧ (parseMethodDescriptor y.desc).map (fun d => d.parameters.length) = some as.length)
    (hx : p.tables.exec = Jvm.exec) (hb : c.code = cc) (hown : s.vm.findClass own = some m.cls) (hts : ∀ w ∈ wsL_law, w.before args s = true) (hK : va_K D vwCl (q_tys cA) s) (hA : ∀ q : Nat, s.heap.size ≤ q → A q) (hP : va_P D vwCl (ws ++ [(q0, q_ce cA (fun _ => q0) (.inr (ci, df)))]) H) (hD : va_D A (ws ++ [(q0, q_ce cA (fun _ => q0) (.inr (ci, df)))])) (hS : va_S A s.heap H locs)
    (hsp : spec (q_r 0 :: as) [.inr (ci, df)] K) (hle : (q_lv0 (q_r 0 :: as)).length ≤ n) (hls : ls.size = c.maxLocals) (hR : fr2 + 1 ≤ R.frames ∧ 8 + (n + 11) + lo2 ≤ R.locals) (hcat : (rest.map fun v => v.category).sum ≤ 8) (hf : cells + mc ≤ R.cells ∧ slots + ms ≤ R.slots) (hd : decode cc pc = .ok (.invokespecial ix, 3))
    (kk : ∀ (ad2 : Nat → Nat) (W2 : List q_E) (H1 : Heap) (locs1 : List Loc), ad2 0 = q0 → K W2 → va_P D vwCl (ws ++ q_cw cA ad2 0 W2) H1 → va_D A (ws ++ q_cw cA ad2 0 W2) → va_S A s.heap H1 locs1 → W p l e R s m args below meth c H1 locs1 (cells + mc) (slots + ms) Q (F0 m (pc + 3) ls rest)) : W p l e R s m args below meth c H locs cells slots Q (F0 m pc ls ((as.map (q_cv (fun _ => q0))).reverse ++ .ref q0 :: rest)) := by
  have hM := C l D cA (fun _ => q0) H.size (q_r 0 :: as) [.inr (ci, df)] K hle hsp
  have hdl : (parseMethodDescriptor y.desc).map (fun d => d.parameters.length) = some (as.map (q_cv (fun _ => q0))).length := by rw [List.length_map]; exact hdc.2.2
  have cw := cwI (R := R) (s := s) (args := args) (own := own) (index := ix) (maxL := n) (mc := mc) (ms := ms) (y := y) (bytes := b) (Ts := wsL_law) (ws := q_ws y b n none) (rm := q_rmN fr2 lo2 mc ms) (as.map (q_cv (fun _ => q0))).length hts (q_gws hw.2.2.2) rfl rfl rfl (hts _ hw.2.2.1) (hts _ hw.1) (hts _ hw.2.1) hy ⟨hdc.1, hdc.2.1, hdl⟩ hR
  have hcell : (ws ++ [(q0, q_ce cA (fun _ => q0) (.inr (ci, df)))])[ws.length]? = some (q0, q_ce cA (fun _ => q0) (.inr (ci, df))) := by simp
  have hPc : va_P D vwCl (q_cw cA (fun _ => q0) 0 [.inr (ci, df)]) H := hP.by (fun _ => ws.length) (fun k q hk => by
    have h1 : k < 1 := (List.getElem?_eq_some_iff.mp hk).1
    obtain rfl : k = 0 := by omega
    rw [hcell]; exact hk)
  have hDc : va_D A (q_cw cA (fun _ => q0) 0 [.inr (ci, df)]) := hD.by (fun _ => ws.length) (fun k q hk => by
    have h1 : k < 1 := (List.getElem?_eq_some_iff.mp hk).1
    obtain rfl : k = 0 := by omega
    rw [hcell]; exact hk) (fun i j hi hj _ => by
    have h1 : i < 1 := hi
    have h2 : j < 1 := hj
    omega)
  have hget : ∀ (k : Nat) (q : Nat × va_E), ws[k]? = some q → (ws ++ [(q0, q_ce cA (fun _ => q0) (.inr (ci, df)))])[k]? = some q := fun k q hk => by
    rw [List.getElem?_append_left (List.getElem?_eq_some_iff.mp hk).1]; exact hk
  have hPr : va_P D vwCl ws H := hP.by (fun k => k) hget
  have hDr : va_D A ws := hD.by (fun k => k) hget (fun i j _ _ h => h)
  have hF : ∀ q, va_A (q_cw cA (fun _ => q0) 0 [.inr (ci, df)]) H.size q → A q := by
    intro q h
    rcases h with ⟨k, ee, h⟩ | h
    · exact hDc.2 k (q, ee) h
    · exact hA q (Nat.le_trans hS.1 h)
  have hnot : ∀ (k : Nat) (q : Nat × va_E), ws[k]? = some q → ¬ va_A (q_cw cA (fun _ => q0) 0 [.inr (ci, df)]) H.size q.1 := by
    intro k q hk h
    rcases h with ⟨j, ee, h⟩ | h
    · have h1 : j < 1 := (List.getElem?_eq_some_iff.mp h).1
      obtain rfl : j = 0 := by omega
      have h2 : (q0, q_ce cA (fun _ => q0) (.inr (ci, df))) = (q.1, ee) := Option.some.inj h
      have h3 := hD.1 k ws.length q _ (hget k q hk) hcell (congrArg Prod.fst h2).symm
      have h4 := (List.getElem?_eq_some_iff.mp hk).1
      omega
    · exact absurd (hPr k q hk).lt (Nat.not_lt.mpr h)
  have run := va_runI (p := p) (l := l) (e := e) (R := R) (s := s) (m := m) (args := args) (below := below) (meth := meth) (c := c) (H := H) (locs := locs) (cells := cells) (slots := slots) (g := F0 m pc ls ((as.map (q_cv (fun _ => q0))).reverse ++ .ref q0 :: rest)) (b := q0) (As := as.map (q_cv (fun _ => q0))) (rest := rest) (nL := c.maxLocals) (Ts := wsL_law) ⟨hx, hb, rfl, hown, hts⟩ hM cw ⟨q_blind, fun U hU hW => ⟨rfl, by rw [hU], by rw [hU]; exact hPc, va_K.moved hW.alike hK, hDc.weaken (fun _ _ _ _ => trivial)⟩⟩ rfl rfl hls rfl (lv_room hcat) hd hf
  intro T hT X
  obtain ⟨v, st₀, t, T', L, h0, X', hL, e1, e2, ⟨⟨ad2, W2, hv, ha, hk, hP2, hK2, hD2⟩, hz, hkp⟩, stp⟩ := run T hT X
  cases hv
  rw [h0] at hz hkp
  have hP3 : va_P D vwCl ws T'.heap := hPr.kept (fun k q hk => by rw [e1]; exact hkp q.1 (hPr k q hk).lt (hnot k q hk))
  have hP4 : va_P D vwCl (q_cw cA ad2 0 W2) T'.heap := by rw [e1]; exact hP2
  have hD4 : va_D A (q_cw cA ad2 0 W2) := hD2.weaken (fun k q _ h => hF q.1 h)
  obtain ⟨t2, a1, b1⟩ := kk ad2 W2 T'.heap (locs ++ L) ha hk (hP3.app hP4) (hDr.app hD4 (fun i j p1 p2 h1 h2 h3 => hnot i p1 h1 (by rw [h3]; exact hD2.2 j p2 h2))) ⟨Nat.le_trans hS.1 (by rw [e1]; exact hz), fun q h1 h2 => by rw [e1, hkp q (Nat.lt_of_lt_of_le h1 hS.1) (fun z => h2 (hF q z))]; exact hS.2.1 q h1 h2, fun q hq => by
      rcases List.mem_append.mp hq with h | h
      · exact hS.2.2 q h
      · exact hF _ (hL q h)⟩ T' rfl X'
  exact ⟨t2, stp t2 a1, b1⟩
end START
def q_sad (ad2 ad3 : Nat → Nat) (a9 b : Nat) : Nat → Nat := fun k => if k < 9 then ad2 k else if k = 9 then a9 else if k < 16 then ad3 (k - 10) else b
def lWZ (w h : Nat) : List q_E := lW w h (fun _ => 0) (fun _ => false) 0 (fun _ => 0) (fun _ => 0) (fun _ => 0) (fun _ => 0) (fun _ => false) (fun _ => 0) 0 (fun _ => 0) w h 0 (fun _ => 0) (fun _ => false) (fun _ => false) (fun _ => 0) (fun _ => 0) 0
def q_sg (k : Nat) : Nat := if k < 9 then k else if k = 9 then 15 else k - 1
theorem lWZ_len (w h : Nat) : (lWZ w h).length = 16 := rfl
set_option maxHeartbeats 4000000 in
theorem q_startW {cA : Nat → ClassId} {ad2 ad3 : Nat → Nat} {a9 b w h : Nat} : ∀ (k : Nat) (q : Nat × va_E), (q_cw cA (q_sad ad2 ad3 a9 b) 0 (lWZ w h))[k]? = some q → ((q_cw cA ad2 0 (xwZ w h) ++ q_cw cA ad3 0 (mwZ w h)) ++ [(a9, (.inl (cA 1, 1, .inr (.inl (fun _ => 0))) : va_E))])[q_sg k]? = some q
  | 0, q, hk => hk
  | 1, q, hk => hk
  | 2, q, hk => hk
  | 3, q, hk => hk
  | 4, q, hk => hk
  | 5, q, hk => hk
  | 6, q, hk => hk
  | 7, q, hk => hk
  | 8, q, hk => hk
  | 9, q, hk => hk
  | 10, q, hk => hk
  | 11, q, hk => hk
  | 12, q, hk => hk
  | 13, q, hk => hk
  | 14, q, hk => hk
  | 15, q, hk => hk
  | k + 16, q, hk => by
    have h1 := (List.getElem?_eq_some_iff.mp hk).1
    rw [q_cw_len, lWZ_len] at h1
    omega
theorem q_sgI {cA : Nat → ClassId} {ad : Nat → Nat} {w h : Nat} : ∀ i j : Nat, i < (q_cw cA ad 0 (lWZ w h)).length → j < (q_cw cA ad 0 (lWZ w h)).length → q_sg i = q_sg j → i = j := by
  intro i j hi hj hij
  rw [q_cw_len, lWZ_len] at hi hj
  unfold q_sg at hij
  split at hij <;> split at hij <;> (try split at hij) <;> (try split at hij) <;> omega
theorem dfX0_ok (ad : Nat → Nat) : ∀ j, j < 13 → defaultValue (tyX0 j) = vp_V (dfX0.map (q_cv ad)) j := by
  intro j hj
  rcases (show j = 0 ∨ j = 1 ∨ j = 2 ∨ j = 3 ∨ j = 4 ∨ j = 5 ∨ j = 6 ∨ j = 7 ∨ j = 8 ∨ j = 9 ∨ j = 10 ∨ j = 11 ∨ j = 12 by omega) with rfl | rfl | rfl | rfl | rfl | rfl | rfl | rfl | rfl | rfl | rfl | rfl | rfl <;> rfl
theorem dfX1_ok (ad : Nat → Nat) : ∀ j, j < 9 → defaultValue (tyX1 j) = vp_V (dfX1.map (q_cv ad)) j := by
  intro j hj
  rcases (show j = 0 ∨ j = 1 ∨ j = 2 ∨ j = 3 ∨ j = 4 ∨ j = 5 ∨ j = 6 ∨ j = 7 ∨ j = 8 by omega) with rfl | rfl | rfl | rfl | rfl | rfl | rfl | rfl | rfl <;> rfl
theorem lkL_X0_init : Cond.methodLink RL 50 yX0_init ∈ wsL_law ∧ Cond.instanceMethod yX0_init ∈ wsL_law ∧ Cond.initialized yX0_init.cls ∈ wsL_law ∧ Cond.code yX0_init cX0_init 3 none ∈ wsL_law := ⟨by decide +kernel, by decide +kernel, by decide +kernel, by decide +kernel⟩
theorem lkL_X1_init : Cond.methodLink RL 55 yX1_init ∈ wsL_law ∧ Cond.instanceMethod yX1_init ∈ wsL_law ∧ Cond.initialized yX1_init.cls ∈ wsL_law ∧ Cond.code yX1_init cX1_init 3 none ∈ wsL_law := ⟨by decide +kernel, by decide +kernel, by decide +kernel, by decide +kernel⟩
theorem dfX_w : (Cond.classLink RL 8 RX0 ∈ wsL_law ∧ Cond.instantiable RX0 13 ∈ wsL_law ∧ Cond.initialized RX0 ∈ wsL_law) ∧ (Cond.classLink RL 53 RX1 ∈ wsL_law ∧ Cond.instantiable RX1 9 ∈ wsL_law ∧ Cond.initialized RX1 ∈ wsL_law) ∧ Cond.arrayClass .int ∈ wsL_law ∧ Cond.arrayClass .long ∈ wsL_law ∧ Cond.arrayClass .boolean ∈ wsL_law := by
  refine ⟨⟨?_, ?_, ?_⟩, ⟨?_, ?_, ?_⟩, ?_, ?_, ?_⟩ <;> decide +kernel
theorem bS_z (w h : Nat) : bS w h (fun _ => 0) := ⟨fun _ _ => rfl, fun _ _ => rfl⟩
theorem q_arr {args : Array Value} {s : State} {ty : FieldType} (h : (Cond.arrayClass ty).before args s = true) (hra : ∀ (U : State) (c : ClassId), va_RA U c ty = (U.vm.findClass ("[" ++ ty.toString) = some c)) : ∃ c : ClassId, ArrOfT s c ty ∧ va_RA s c ty := by
  obtain ⟨c, k, comp, h1, h2, h3⟩ := Cond.arrayClass_spec h
  exact ⟨c, fun n z => ⟨fun k h => (by cases h), k, h2, comp, h3⟩, by rw [hra]; exact h1⟩
