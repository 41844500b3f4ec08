-- THE LAW FROM ITS FIRST INSTRUCTION TO THE LOOP
theorem dcI_0 : yX0_init.cls ≠ "java/lang/invoke/MethodHandle" ∧ yX0_init.cls ≠ "java/lang/invoke/VarHandle" ∧ (parseMethodDescriptor yX0_init.desc).map (fun d => d.parameters.length) = some 2 := ⟨by decide, by decide, by decide +kernel⟩
theorem dcI_1 : yX1_init.cls ≠ "java/lang/invoke/MethodHandle" ∧ yX1_init.cls ≠ "java/lang/invoke/VarHandle" ∧ (parseMethodDescriptor yX1_init.desc).map (fun d => d.parameters.length) = some 2 := ⟨by decide, by decide, by decide +kernel⟩
set_option maxHeartbeats 8000000 in
set_option maxRecDepth 20000 in
theorem start_law {p : Program} {l : Launch} {e : Env} {R : Room} {s : State} {m : MethodId} {below : List Frame} {meth : Method} {c : Code} {Q : State → Prop} {b L : Nat} {xs : Nat → Int32} (hL : L ≤ 3074) (hx : p.tables.exec = Jvm.exec) (hb : c.code = cL_law) (hml : c.maxLocals = 8) (hown : s.vm.findClass RL = some m.cls) (hts : ∀ w ∈ wsL_law, w.before #[Value.ref b] s = true) (hst : l.stackTraces = false) (hPn : q_Pn s) (hZs : q_Zs (fun q => s.heap.size ≤ q) s s.heap) (hNc : va_Nc exI exX s) (hX : va_X b L xs s s.heap) (hbl : b < s.heap.size) (hR : 10 ≤ R.frames ∧ 354 ≤ R.locals) (hR2 : 601024 ≤ R.cells ∧ 7293000 ≤ R.slots)
    (hend : ∀ (H : Heap) (ls : Array Slot), W p l e R s m #[Value.ref b] below meth c H [] 601024 7293000 Q (F0 m 931 ls [.int 1])) : W p l e R s m #[Value.ref b] below meth c s.heap [] 0 0 Q (entryFrame m ([Value.ref b] : List Value).toArray 8) := by
  have hA : ∀ q : Nat, s.heap.size ≤ q → (fun q : Nat => s.heap.size ≤ q) q := fun _ h => h
  have hbA : ¬ (fun q : Nat => s.heap.size ≤ q) b := Nat.not_le.mpr hbl
  obtain ⟨c0, iS0, hKn0⟩ := u_known (C := RX0) (T := TX0) (N := 13) (n := 13) hts inlX0 (hts _ dfX_w.1.2.1)
  obtain ⟨c1, iS1, hKn1⟩ := u_known (C := RX1) (T := TX1) (N := 9) (n := 9) hts inlX1 (hts _ dfX_w.2.1.2.1)
  obtain ⟨dC, dI, hKc⟩ : ∃ (dC : Nat → ClassId) (dI : Nat → Nat → Nat), ∀ (k : Nat) (q : vw_C), vwCl[k]? = some q → u_Kn s q.1 q.2.1 q.2.2 (dC k) (dI k) := by
    refine ⟨fun k => if k = 0 then c0 else c1, fun k => if k = 0 then iS0 else iS1, ?_⟩
    intro k q hq
    match k, hq with
    | 0, hq => cases hq; exact hKn0
    | 1, hq => cases hq; exact hKn1
    | k + 2, hq => simp [vwCl] at hq
  obtain ⟨t0, ht0, ht0'⟩ := q_arr (hts _ dfX_w.2.2.1) (fun _ _ => rfl)
  obtain ⟨t1, ht1, ht1'⟩ := q_arr (hts _ dfX_w.2.2.2.1) (fun _ _ => rfl)
  obtain ⟨t2, ht2, ht2'⟩ := q_arr (hts _ dfX_w.2.2.2.2) (fun _ _ => rfl)
  obtain ⟨cA, hcA⟩ : ∃ cA : Nat → ClassId, ∀ (k : Nat) (q : ClassId × FieldType), (q_tys cA)[k]? = some q → ArrOfT s q.1 q.2 ∧ va_RA s q.1 q.2 := by
    refine ⟨fun k => if k = 0 then t0 else if k = 1 then t1 else t2, ?_⟩
    intro k q hq
    match k, hq with
    | 0, hq => cases hq; exact ⟨ht0, ht0'⟩
    | 1, hq => cases hq; exact ⟨ht1, ht1'⟩
    | 2, hq => cases hq; exact ⟨ht2, ht2'⟩
    | k + 3, hq => simp [q_tys] at hq
  have hK : va_K (dC, dI) vwCl (q_tys cA) s := ⟨hKc, hcA⟩
  have hS : va_S (fun q : Nat => s.heap.size ≤ q) s.heap s.heap [] := va_S.rf
  have hP : va_P (dC, dI) vwCl [] s.heap := fun k q h => by simp at h
  have hD : va_D (fun q : Nat => s.heap.size ≤ q) [] := ⟨fun i j p q h => by simp at h, fun k q h => by simp at h⟩
  have hl := lv_entry ([.ref b]) (n := 8) (Nat.le_of_ble_eq_true rfl)
  rw [lg_entry_eq]
  generalize (lg_sl ([.ref b]) ++ List.replicate (8 - (lg_sl ([.ref b])).length) Slot.unset).toArray = ls at hl ⊢
  have hl : lv_has ls 8 [(0, .ref b)] := hl
  have hl0 := lv_at hl 0 rfl
  refine va_new (ci := 0) (fs := dfX0.map (q_cv (fun _ => 0))) (C := RX0) (T := TX0) (N := 13) hx hb hts inlX0 tyX0 tyX0_ok hown (hts _ dfX_w.1.1) (hts _ dfX_w.1.2.1) (hts _ dfX_w.1.2.2) hK hP hD hS hA rfl (dfX0_ok _) (by omega) (by omega) dL_law_0 (fun q0 H hP hD hS => ?_)
  have hP : va_P (dC, dI) vwCl ([] ++ [(q0, q_ce cA (fun _ => q0) (.inr (0, dfX0)))]) H := hP
  have hD : va_D (fun q : Nat => s.heap.size ≤ q) ([] ++ [(q0, q_ce cA (fun _ => q0) (.inr (0, dfX0)))]) := hD
  refine lv_dup hx hb dL_law_3 rfl ?_
  refine lv_aload_n hx hb dL_law_4 rfl hl0 ?_
  refine lv_iconst (v := nI 0) hx hb dL_law_5 (by decide) ?_
  refine q_cell0 hL (Nat.zero_le 1) hx hb hml hown hts hX hbl hbA hA hS hR hl.1 (Nat.le_of_ble_eq_true rfl) (by omega) (by omega) dL_law_6 (fun H1 locs1 hz hk hS => ?_)
  have hP := hP.kept (H1 := H1) (fun k q h => hk q.1 (hP k q h).lt)
  generalize H1 = H at hP hS ⊢
  refine lv_aload_n hx hb dL_law_9 rfl hl0 ?_
  refine lv_iconst (v := nI 1) hx hb dL_law_10 (by decide) ?_
  refine q_cell0 hL (Nat.le_refl 1) hx hb hml hown hts hX hbl hbA hA hS hR hl.1 (Nat.le_of_ble_eq_true rfl) (by omega) (by omega) dL_law_11 (fun H1 locs1 hz hk hS => ?_)
  have hP := hP.kept (H1 := H1) (fun k q h => hk q.1 (hP k q h).lt)
  generalize H1 = H at hP hS ⊢
  refine q_initC (as := [.inl (q_at0 L xs 0), .inl (q_at0 L xs 1)]) (K := fun W2 => W2 = xwZ (clampS (q_at0 L xs 0)) (clampS (q_at0 L xs 1))) ct_X0_init lkL_X0_init rfl dcI_0 hx hb hown hts hK hA hP hD hS ⟨_, _, rfl, rfl, rfl⟩ (Nat.le_of_ble_eq_true rfl) (hl.1.trans hml.symm) ⟨by omega, by omega⟩ (Nat.le_of_ble_eq_true rfl) ⟨by omega, by omega⟩ dL_law_14 (fun ad2 W2 H locs2 ha2 hW2 hP hD hS => ?_)
  subst hW2
  rw [List.nil_append] at hP hD
  refine lv_astore_n (lv' := [(1, .ref q0), (0, .ref b)]) hx hb dL_law_17 rfl hl (by decide) rfl (fun ls hl => ?_)
  have hl0 := lv_at hl 1 rfl
  refine va_new (ci := 1) (fs := dfX1.map (q_cv (fun _ => 0))) (C := RX1) (T := TX1) (N := 9) hx hb hts inlX1 tyX1 tyX1_ok hown (hts _ dfX_w.2.1.1) (hts _ dfX_w.2.1.2.1) (hts _ dfX_w.2.1.2.2) hK hP hD hS hA rfl (dfX1_ok _) (by omega) (by omega) dL_law_18 (fun q1 H hP hD hS => ?_)
  have hP : va_P (dC, dI) vwCl (q_cw cA ad2 0 (xwZ (clampS (q_at0 L xs 0)) (clampS (q_at0 L xs 1))) ++ [(q1, q_ce cA (fun _ => q1) (.inr (1, dfX1)))]) H := hP
  have hD : va_D (fun q : Nat => s.heap.size ≤ q) (q_cw cA ad2 0 (xwZ (clampS (q_at0 L xs 0)) (clampS (q_at0 L xs 1))) ++ [(q1, q_ce cA (fun _ => q1) (.inr (1, dfX1)))]) := hD
  refine lv_dup hx hb dL_law_21 rfl ?_
  refine lv_aload_n hx hb dL_law_22 rfl hl0 ?_
  refine lv_iconst (v := nI 0) hx hb dL_law_23 (by decide) ?_
  refine q_cell0 hL (Nat.zero_le 1) hx hb hml hown hts hX hbl hbA hA hS hR hl.1 (Nat.le_of_ble_eq_true rfl) (by omega) (by omega) dL_law_24 (fun H1 locs1 hz hk hS => ?_)
  have hP := hP.kept (H1 := H1) (fun k q h => hk q.1 (hP k q h).lt)
  generalize H1 = H at hP hS ⊢
  refine lv_aload_n hx hb dL_law_27 rfl hl0 ?_
  refine lv_iconst (v := nI 1) hx hb dL_law_28 (by decide) ?_
  refine q_cell0 hL (Nat.le_refl 1) hx hb hml hown hts hX hbl hbA hA hS hR hl.1 (Nat.le_of_ble_eq_true rfl) (by omega) (by omega) dL_law_29 (fun H1 locs1 hz hk hS => ?_)
  have hP := hP.kept (H1 := H1) (fun k q h => hk q.1 (hP k q h).lt)
  generalize H1 = H at hP hS ⊢
  refine q_initC (as := [.inl (q_at0 L xs 0), .inl (q_at0 L xs 1)]) (K := fun W2 => W2 = mwZ (clampS (q_at0 L xs 0)) (clampS (q_at0 L xs 1))) ct_X1_init lkL_X1_init rfl dcI_1 hx hb hown hts hK hA hP hD hS ⟨_, _, rfl, rfl, rfl⟩ (Nat.le_of_ble_eq_true rfl) (hl.1.trans hml.symm) ⟨by omega, by omega⟩ (Nat.le_of_ble_eq_true rfl) ⟨by omega, by omega⟩ dL_law_32 (fun ad3 W2 H locs3 ha3 hW2 hP hD hS => ?_)
  subst hW2
  refine lv_astore_n (lv' := [(2, .ref q1), (1, .ref q0), (0, .ref b)]) hx hb dL_law_35 rfl hl (by decide) rfl (fun ls hl => ?_)
  refine lv_iconst (v := nI 1) hx hb dL_law_36 (by decide) ?_
  refine va_newa (atype := .long) (ty := .long) (N' := 1) (a0 := (1, .inr (.inl (fun _ => 0)))) hx hb (hts _ dfX_w.2.2.2.1) rfl hK hP hD hS hA (fun _ => rfl) (by decide) (by decide) (by decide) (by omega) (by omega) dL_law_37 (fun q2 cL H hK2 hP hD hS => ?_)
  have hcL : cL = cA 1 := by
    have h1 := (hK2.2 3 _ rfl).2
    have h2 := (hK.2 1 _ rfl).2
    exact Option.some.inj (Eq.trans (Eq.symm h1) h2)
  subst hcL
  refine lv_astore_n (lv' := [(3, .ref q2), (2, .ref q1), (1, .ref q0), (0, .ref b)]) hx hb dL_law_39 rfl hl (by decide) rfl (fun ls hl => ?_)
  refine lv_iconst (v := nI 2) hx hb dL_law_40 (by decide) ?_
  refine lv_istore (lv' := [(4, .int (nI 2)), (3, .ref q2), (2, .ref q1), (1, .ref q0), (0, .ref b)]) hx hb dL_law_41 hl (by decide) rfl (fun ls hl => ?_)
  have hP5 := hP.by q_sg (q_startW (b := b))
  have hD5 := hD.by q_sg (q_startW (b := b)) q_sgI
  have g : q_g (clampS (q_at0 L xs 0)) (clampS (q_at0 L xs 1)) := ⟨(clampS_in _).1, (clampS_in _).2, (clampS_in _).1, (clampS_in _).2⟩
  subst ha2
  subst ha3
  have loop := law_loop (x := (p, l, e, R, s, m, #[Value.ref b], below, meth, c, (fun q : Nat => s.heap.size ≤ q), s.heap, 0, 0, Q, (dC, dI), cA, q_sad ad2 ad3 q2 b)) (L := L) (xs := xs) hL (fun k n h1 h2 => ⟨hx, hb, hown, hts, hK, hA, hR.1, hR.2, Nat.le_trans h1 hR2.1, Nat.le_trans h2 hR2.2⟩) ⟨hst, hPn, hZs, rfl, hNc, hX, hbl, hbA⟩ hR2 g (fun k n lv Wd h1 h2 h3 H locs ls hl hn hP hD hS => va_forget hS.2.2 (W.widen h1 h2 (hend H ls))) (L + 6 - 2) 2 (fun _ => 0) (fun _ => false) 0 (fun _ => 0) (fun _ => 0) (fun _ => 0) (fun _ => 0) (fun _ => false) (fun _ => 0) 0 (fun _ => 0) 0 (fun _ => false) (fun _ => 0) (fun _ => 0) none none none rfl (by omega) (fun _ _ => by decide) (bS_z _ _) (bS_z _ _)
  refine W.widen (k := 50 + 2) (n := 5000 + 6 * 2) (by omega) (by omega) ?_
  exact loop H _ ls (lv_sub hl [4, 3, 2, 1, 0] rfl) hml.symm hP5 hD5 hS
