-- CALLS THAT MAY THROW, with handlers: the law's wrappers
def q_up (x : q_X) : q_X := match x with
  | (p, l, e, R, s, m, args, below, meth, c, A, H0, cells, slots, Q, D, cA, ad) => (p, l, e, R, s, m, args, below, meth, c, A, H0, cells + 1, slots + 6, Q, D, cA, ad)
def q_Th (x : q_X) (E : String) (pc : Nat) (lv : List (Option q_V)) (Wd : List q_E) : Prop := match x with
  | (p, l, e, R, s, m, args, below, meth, c, A, H0, cells, slots, Q, D, cA, ad) => ∀ (H : Heap) (locs : List Loc) (ls : Array Slot) (rest : List Value) (q : Addr) (ce : Cell), lv_has ls lv.length (q_lvl ad 0 lv) → lv.length = c.maxLocals → va_P D vwCl (q_cw cA ad 0 Wd) H → va_D A (q_cw cA ad 0 Wd) → va_S A H0 H locs → H[q]? = some ce → ce.vm = .none → s.vm.findClass E = some ce.cls → vx_W p l e R s m args below meth c H locs cells slots Q (F0 m pc ls rest) q
def q_xs (x : q_X) : Prop := match x with
  | (p, l, e, R, s, m, args, below, meth, c, A, H0, cells, slots, Q, D, cA, ad) => l.stackTraces = false ∧ q_Pn s ∧ q_Zs A s s.heap ∧ H0 = s.heap ∧ cells = 0 ∧ slots = 0 ∧ 1 ≤ R.cells ∧ 6 ≤ R.slots
theorem q_ok_up {x : q_X} {cc : ByteArray} {own : String} {fr lo : Nat} (ok : q_ok x cc own fr lo) (xs : q_xs x) : q_ok (q_up x) cc own fr lo := by
  obtain ⟨p, l, e, R, s, m, args, below, meth, c, A, H0, cells, slots, Q, D, cA, ad⟩ := x
  obtain ⟨hx, hb, hown, hts, hK, hA, hfr, hlo, hce, hsl⟩ := ok
  obtain ⟨hst, hPn, hZs, hH0, rfl, rfl, h1, h6⟩ := xs
  exact ⟨hx, hb, hown, hts, hK, hA, hfr, hlo, h1, h6⟩
theorem q_callX {x : q_X} {cc : ByteArray} {own : String} {fr lo pc : Nat} {lv : List (Option q_V)} {P M S : List q_E} {y : MethodName} {b : ByteArray} {n : Nat} {ret : Option FieldType} {fr2 lo2 : Nat} {spec : List q_V → List q_E → (Option q_V → List q_E → Prop) → (String → List q_E → Prop) → Prop} {ix ci N : Nat} {T : u_T} {fs : List q_V} (as : List q_V) {st : List q_V} (C : q_CtX y b n ret fr2 lo2 spec)
    (hw : Cond.methodLink own ix y ∈ wsL_law ∧ Cond.instanceMethod y ∈ wsL_law ∧ Cond.selects y.cls y y ∈ wsL_law ∧ Cond.initialized y.cls ∈ wsL_law ∧ Cond.code y b n ret ∈ wsL_law) (hdc : y.cls ≠ "java/lang/invoke/MethodHandle" ∧ y.cls ≠ "java/lang/invoke/VarHandle" ∧ (parseMethodDescriptor y.desc).map (fun d => d.parameters.length) = some as.length)
    (hcl : vwCl[ci]? = some (y.cls, T, N)) (ok : q_ok x cc own fr lo) (xs : q_xs x) (he : M[0]? = some (.inr (ci, fs))) (hna : ∀ ad ad2 : Nat → Nat, as.map (q_cv ad) = as.map (q_cv ad2)) (hR : fr2 + 1 ≤ fr ∧ 8 + (n + 11) + lo2 ≤ lo) (hst : (st.map (fun v => if q_nol (some v) then 1 else 2)).sum ≤ 8) (hle : (q_lv0 (q_r 0 :: as)).length ≤ n) (hd : decode cc pc = .ok (.invokevirtual ix, 3))
    (hsp : spec (q_r 0 :: as) M (fun r M2 => M2.length = M.length ∧ q_nr r = true ∧ q_W (q_up x) (pc + 3) lv (r.toList ++ st) (q_win P M2 S)) (fun E M2 => M2.length = M.length ∧ q_Th (q_up x) E pc lv (q_win P M2 S))) : q_W x pc lv (as.reverse ++ q_r P.length :: st) (q_win P M S) := by
  obtain ⟨p, l, e, R, s, m, args, below, meth, c, A, H0, cells, slots, Q, D, cA, ad⟩ := x
  obtain ⟨hx, hb, hown, hts, hK, hA, hfr, hlo, hce, hsl⟩ := ok
  obtain ⟨hstk, hPn, hZs, rfl, rfl, rfl, hr1, hr6⟩ := xs
  intro H locs ls hl hn hP hD hS
  have hM := C l hstk D cA (fun k => ad (P.length + k)) H.size (q_r 0 :: as) M _ _ hle hsp
  have hcat : ((st.map (q_cv ad)).map fun v => v.category).sum ≤ 8 := by
    rw [List.map_map]
    refine Nat.le_trans (Nat.le_of_eq ?_) hst
    congr 1
    refine List.map_congr_left (fun v _ => ?_)
    rcases v with u | u | (_ | u) <;> simp [q_cv, Value.category, q_nol]
  have hdl : (parseMethodDescriptor y.desc).map (fun d => d.parameters.length) = some (as.map (q_cv (fun k => ad (P.length + k)))).length := by rw [List.length_map]; exact hdc.2.2
  have cw : CallW R s args own y.cls ix y b n ret (q_ws y b n ret) (q_rmX fr2 lo2) 1 6 (as.map (q_cv (fun k => ad (P.length + k)))).length :=
    ⟨callB_of _ hts (q_gws hw.2.2.2.2) rfl rfl rfl (hts _ hw.2.2.2.1) (hts _ hw.1) ⟨hdc.1, hdc.2.1, hdl⟩ ⟨Nat.le_trans hR.1 hfr, Nat.le_trans hR.2 hlo⟩, hts _ hw.2.1, hts _ hw.2.2.1⟩
  have hPM := (q_win_P.mp hP).2.1
  have hDM := q_win_D hD
  have hF : ∀ q, va_A (q_cw cA (fun k => ad (P.length + k)) 0 M) H.size q → A q := by
    intro q h
    rcases h with ⟨k, ee, h⟩ | h
    · exact hDM.2 k (q, ee) h
    · exact hA q (Nat.le_trans hS.1 h)
  have run := vx_runV (As := as.map (q_cv (fun k => ad (P.length + k)))) (b := ad (P.length + 0)) (nL := c.maxLocals) (Ts := wsL_law) (g := F0 m pc ls (((as.reverse ++ q_r P.length :: st).map (q_cv ad)))) (rest := st.map (q_cv ad)) (e := e) (meth := meth) (below := below) (cells := 0) (slots := 0) (locs := locs) (H := H) ⟨hx, hb, rfl, hown, hts⟩ hM cw ⟨fun a U g mk q => by
      obtain ⟨q0, ⟨q1, qP, qK, qD⟩, qN, qZ⟩ := q
      exact ⟨q0, ⟨q1, qP, va_K.moved (u := U) (U := U.calling g mk a) (Vm.Alike.refl U.vm) qK, qD⟩, q_Pn.warm (s := U) (U := U.calling g mk a) (State.WarmedH.refl U) qN, q_Zs.moved (u := U) (U := U.calling g mk a) (Vm.Alike.refl U.vm) qZ⟩, va_recv hK hPM hcl (q_cw_get0 he), fun U hU hW => ⟨rfl, ⟨by rw [hU], by rw [hU]; exact hPM, va_K.moved hW.alike hK, hDM.weaken (fun _ _ _ _ => trivial)⟩, q_Pn.warm hW hPn, by rw [hU]; exact ((hZs.moved hW.alike).kept hS.2.1).narrow hF⟩⟩ rfl rfl (hl.1.trans hn) (by rw [hna (fun k => ad (P.length + k)) ad]; simp [List.map_reverse, q_cv]) (lv_room hcat) hd ⟨by omega, by omega⟩
  intro T hT X
  rcases run T hT X with ⟨v, st₀, t, T', L, h0, X', hL, e1, e2, ⟨⟨r, M2, hv, ⟨hlen, hnr, hk⟩, hP2, hK2, hD2⟩, hz, hkp⟩, stp⟩ | ⟨q, st₀, t, T', L, E, ce, h0, X', hL, e1, e2, ⟨⟨M2, ⟨hlen, hk⟩, hP2, hK2, hD2⟩, hz, hkp⟩, hce, hcv, hclE, stp⟩
  · cases hv
    rw [h0] at hz hkp
    rw [q_nr_e (ad2 := ad) hnr] at stp
    have hstk2 : (r.map (q_cv ad)).toList ++ st.map (q_cv ad) = (r.toList ++ st).map (q_cv ad) := by cases r <;> rfl
    obtain ⟨t2, a1, b1⟩ := hk T'.heap (locs ++ L) ls hl hn (by rw [e1]; exact q_win_k hP hD hkp hP2 hlen) (q_win_D2 hD hlen) ⟨Nat.le_trans hS.1 (by rw [e1]; exact hz), fun q h1 h2 => by rw [e1, hkp q (Nat.lt_of_lt_of_le h1 hS.1) (fun z => h2 (hF q z))]; exact hS.2.1 q h1 h2, fun q hq => by
        rcases List.mem_append.mp hq with h | h
        · exact hS.2.2 q h
        · exact hF _ (hL q h)⟩ T' rfl X'
    rw [← hstk2] at a1
    exact ⟨t2, stp t2 a1, b1⟩
  · rw [h0] at hz hkp
    obtain ⟨t2, a1, b1⟩ := hk T'.heap (locs ++ L) ls (st.map (q_cv ad)) q ce hl hn (by rw [e1]; exact q_win_k hP hD hkp hP2 hlen) (q_win_D2 hD hlen) ⟨Nat.le_trans hS.1 (by rw [e1]; exact hz), fun q h1 h2 => by rw [e1, hkp q (Nat.lt_of_lt_of_le h1 hS.1) (fun z => h2 (hF q z))]; exact hS.2.1 q h1 h2, fun q hq => by
        rcases List.mem_append.mp hq with h | h
        · exact hS.2.2 q h
        · exact hF _ (hL q h)⟩ (by rw [e1]; exact hce) hcv hclE T' rfl X'
    exact ⟨t2, stp.trans a1, b1⟩
def q_wsH (y : MethodName) (b : ByteArray) (n : Nat) (ret : Option FieldType) (hh : List (Nat × Nat × Nat × Nat)) : List Cond := .codeWith y b n ret hh :: wsL_law
def q_BH (D : va_G) (cA : Nat → ClassId) (ad : Nat → Nat) (sz : Nat) (Wd : List q_E) : State → Prop := fun U => q_BX D cA ad sz Wd U ∧ va_Nc exI exX U
def q_CtH (y : MethodName) (b : ByteArray) (n : Nat) (ret : Option FieldType) (hh : List (Nat × Nat × Nat × Nat)) (fr lo : Nat) (spec : List q_V → List q_E → (Option q_V → List q_E → Prop) → Prop) : Prop :=
  ∀ (l : Launch), l.stackTraces = false → ∀ (D : va_G) (cA : Nat → ClassId) (ad : Nat → Nat) (sz : Nat) (as : List q_V) (Wd : List q_E) (K : Option q_V → List q_E → Prop), (q_lv0 as).length ≤ n → spec as Wd K → Met l y (q_wsH y b n ret hh) (q_rmX fr lo) (va_Pc (as.map (q_cv ad)) (q_BH D cA ad sz Wd)) (q_Q D cA ad K (va_A (q_cw cA ad 0 Wd) sz)) 1 6 (va_A (q_cw cA ad 0 Wd) sz)
def q_finH (x : q_X) (ret : Option FieldType) (K : Option q_V → List q_E → Prop) (hh : List (Nat × Nat × Nat × Nat)) : Prop := match x with
  | (p, l, e, R, s, m, args, below, meth, c, A, H0, cells, slots, Q, D, cA, ad) => meth.sig.returnType = ret ∧ meth.locks = false ∧ cells ≤ 1 ∧ slots ≤ 6 ∧ H0 = s.heap ∧ c.exceptionTable.toList = tableOf hh ∧ q_Pn s ∧ va_Nc exI exX s ∧ Q = MQ below (q_Q D cA ad K A) args s 1 6 A
theorem q_fin_up {x : q_X} {ret : Option FieldType} {K : Option q_V → List q_E → Prop} {hh : List (Nat × Nat × Nat × Nat)} (fn : q_finH x ret K hh) (xs : q_xs x) : q_finH (q_up x) ret K hh := by
  obtain ⟨p, l, e, R, s, m, args, below, meth, c, A, H0, cells, slots, Q, D, cA, ad⟩ := x
  obtain ⟨hst, hPn, hZs, hH0, rfl, rfl, h1, h6⟩ := xs
  obtain ⟨a1, a2, a3, a4, a5, a6, a7, a8, a9⟩ := fn
  exact ⟨a1, a2, Nat.le_refl 1, Nat.le_refl 6, a5, a6, a7, a8, a9⟩
theorem q_metH {y : MethodName} {b : ByteArray} {n : Nat} {ret : Option FieldType} {hh : List (Nat × Nat × Nat × Nat)} {fr lo : Nat} {spec : List q_V → List q_E → (Option q_V → List q_E → Prop) → Prop} (hy : plainName y.cls = true)
    (body : ∀ (x : q_X) (as : List q_V) (Wd : List q_E) (K : Option q_V → List q_E → Prop), spec as Wd K → q_ok x b y.cls fr lo → q_xs x → q_finH x ret K hh → q_W x 0 (q_ent as n) [] Wd) : q_CtH y b n ret hh fr lo spec := by
  intro l hst D cA ad sz as Wd K hle hs
  refine MetFree.of_bodyS (code := b) (maxLocals := n) (ret := ret) hy ?_ ?_
  · intro args s m h hn
    obtain ⟨m9, meth, c, hn9, h1, h2, h3, h4, -, h5, h6, -⟩ := Cond.codeWith_spec (atoms_spec (ws := q_wsH y b n ret hh) h _ List.mem_cons_self)
    cases hn.symm.trans hn9
    exact ⟨meth, c, h1, h2, h3, h4, h5, h6⟩
  · intro p e s m args below meth c s₁ B hml hv _
    obtain ⟨rfl, ⟨⟨hsz, hP, hK, hD0⟩, hPn, hZs⟩, hNc⟩ := hv
    have hh0 : s₁.heap = s.heap := by rw [B.state]; rfl
    have hx := B.exec
    have hb := B.bytes
    have hr := B.returns
    have hts := atoms_spec (ws := q_wsH y b n ret hh) B.pre
    have htab := vx_table (x := y) B (hts _ List.mem_cons_self)
    have hown : s.vm.findClass y.cls = some m.cls := findClass_of_methodNamed B.named
    have hlocks := B.notSynchronized
    subst hsz
    have hD := hD0.self (sz := s.heap.size)
    have hl := lv_entry (as.map (q_cv ad)) (n := n) (by rw [q_sl_len]; exact hle)
    have hlen : (q_ent as n).length = n := by unfold q_ent; rw [List.length_append, List.length_replicate]; omega
    have key := body (p, l, e, (headSpec (q_wsH y b n ret hh) (q_rmX fr lo)).room, s, m, (as.map (q_cv ad)).toArray, below, meth, c, va_A (q_cw cA ad 0 Wd) s.heap.size, s.heap, 0, 0, MQ below (q_Q D cA ad K (va_A (q_cw cA ad 0 Wd) s.heap.size)) (as.map (q_cv ad)).toArray s 1 6 (va_A (q_cw cA ad 0 Wd) s.heap.size), D, cA, ad) as Wd K hs ⟨hx, hb, hown, fun w hw => hts w (List.mem_cons_of_mem _ hw), hK, fun q h => Or.inr h, Nat.le_refl _, Nat.le_refl _, Nat.zero_le _, Nat.zero_le _⟩ ⟨hst, hPn, hZs, rfl, rfl, rfl, Nat.le_refl _, Nat.le_refl _⟩ ⟨hr, hlocks, Nat.zero_le _, Nat.zero_le _, rfl, htab, hPn, hNc, rfl⟩ s.heap [] _ (by
      rw [hlen]
      refine q_has_sub hl (fun q hq => ?_)
      unfold q_ent at hq
      rw [q_lvl_app, q_lvl_none, List.append_nil, q_lvl_args] at hq
      exact hq) (by rw [hlen]; exact hml.symm) hP hD va_S.rf
    obtain ⟨t, a1, o, b1, b2, b3⟩ := key s₁ hh0 (Stand.of_body B)
    refine ⟨t, o, ?_, b1, b2, b3⟩
    rw [lg_entry_eq]
    exact a1
theorem q_iretH {x : q_X} {cc : ByteArray} {own : String} {fr lo pc : Nat} {lv : List (Option q_V)} {Wd : List q_E} {v : Int32} {K : Option q_V → List q_E → Prop} {hh : List (Nat × Nat × Nat × Nat)} (ok : q_ok x cc own fr lo) (fn : q_finH x (some .int) K hh) (hd : decode cc pc = .ok (.ireturn, 1)) (h : K (some (.inl v)) Wd) : q_W x pc lv [.inl v] Wd := by
  obtain ⟨p, l, e, R, s, m, args, below, meth, c, A, H0, cells, slots, Q, D, cA, ad⟩ := x
  obtain ⟨hx, hb, hown, hts, hK, hA, hfr, hlo, hce, hsl⟩ := ok
  obtain ⟨hr, hlk, hc1, hs6, rfl, htab, hPn, hNc, rfl⟩ := fn
  intro H locs ls hl hn hP hD hS
  exact W.widen hc1 hs6 (W.iret hx hb hr (fun t ht hW => ⟨⟨some (.inl v), Wd, rfl, h, by rw [ht]; exact hP, va_K.moved hW.alike hK, hD⟩, hS.F ht⟩) hS.2.2 hd hlk)
/-- a handler that drops what it caught and answers a number -/
theorem q_hand {x : q_X} {cc : ByteArray} {own E : String} {fr lo pc : Nat} {lv : List (Option q_V)} {Wd : List q_E} {n : Int} {i : Nat} {K : Option q_V → List q_E → Prop} {hh : List (Nat × Nat × Nat × Nat)} (ok : q_ok x cc own fr lo) (fn : q_finH x (some .int) K hh) (pre : List ExceptionTableEntry) (z : ExceptionTableEntry) (suf : List ExceptionTableEntry) (hsplit : tableOf hh = pre ++ z :: suf)
    (hpass : ∀ z ∈ pre, covers z pc = false ∨ (z.catchType ≠ 0 ∧ E = exI ∧ Cond.classLink own z.catchType exX ∈ wsL_law)) (hx : covers z pc = true) (h0 : z.catchType ≠ 0) (hlink : Cond.classLink own z.catchType E ∈ wsL_law) (hE : E = exI ∨ E = exX) (hi : i < lv.length)
    (d1 : decode cc z.handlerPc = .ok (.astore i, 2)) (d2 : decode cc (z.handlerPc + 2) = .ok (.iconst n, 1)) (d3 : decode cc (z.handlerPc + 2 + 1) = .ok (.ireturn, 1)) (h : K (some (.inl (Int32.ofInt n))) Wd) : q_Th x E pc lv Wd := by
  obtain ⟨p, l, e, R, s, m, args, below, meth, c, A, H0, cells, slots, Q, D, cA, ad⟩ := x
  obtain ⟨hx', hb, hown, hts, hK, hA, hfr, hlo, hce, hsl⟩ := ok
  obtain ⟨hr, hlk, hc1, hs6, rfl, htab, hPn, hNc, rfl⟩ := fn
  intro H locs ls rest q ce hl hn hP hD hS hq hv hcl
  have hcast : (Cond.castable E E).before args s = true := by
    rcases hE with rfl | rfl
    · exact va_Nw.use rfl (hPn.1 _ (by simp [wsNg]))
    · exact va_Nw.use rfl (hPn.2.1 _ (by simp [wsNg]))
  refine vx_catch (name := E) (E := E) (ce := ce) hown pre z suf (htab.trans hsplit) (fun z hz => (hpass z hz).imp id (fun w => ⟨w.1, exX, hts _ w.2.2, by rw [w.2.1]; exact hNc⟩)) hx h0 (hts _ hlink) hcast hq hv hcl ?_
  refine lv_astore hx' hb d1 hl hi rfl (fun ls2 hl2 => ?_)
  refine lv_iconst hx' hb d2 rfl ?_
  exact W.widen hc1 hs6 (W.iret hx' hb hr (fun t ht hW => ⟨⟨some (.inl (Int32.ofInt n)), Wd, rfl, h, by rw [ht]; exact hP, va_K.moved hW.alike hK, hD⟩, hS.F ht⟩) hS.2.2 d3 hlk)
theorem q_hand3 {x : q_X} {cc : ByteArray} {own E : String} {fr lo pc : Nat} {lv : List (Option q_V)} {Wd : List q_E} {n : Int} {k : Fin 4} {K : Option q_V → List q_E → Prop} {hh : List (Nat × Nat × Nat × Nat)} (ok : q_ok x cc own fr lo) (fn : q_finH x (some .int) K hh) (pre : List ExceptionTableEntry) (z : ExceptionTableEntry) (suf : List ExceptionTableEntry) (hsplit : tableOf hh = pre ++ z :: suf)
    (hpass : ∀ z ∈ pre, covers z pc = false ∨ (z.catchType ≠ 0 ∧ E = exI ∧ Cond.classLink own z.catchType exX ∈ wsL_law)) (hx : covers z pc = true) (h0 : z.catchType ≠ 0) (hlink : Cond.classLink own z.catchType E ∈ wsL_law) (hE : E = exI ∨ E = exX) (hi : (k : Nat) < lv.length)
    (d1 : decode cc z.handlerPc = .ok (.astore_n k, 1)) (d2 : decode cc (z.handlerPc + 1) = .ok (.iconst n, 1)) (d3 : decode cc (z.handlerPc + 1 + 1) = .ok (.ireturn, 1)) (h : K (some (.inl (Int32.ofInt n))) Wd) : q_Th x E pc lv Wd := by
  obtain ⟨p, l, e, R, s, m, args, below, meth, c, A, H0, cells, slots, Q, D, cA, ad⟩ := x
  obtain ⟨hx', hb, hown, hts, hK, hA, hfr, hlo, hce, hsl⟩ := ok
  obtain ⟨hr, hlk, hc1, hs6, rfl, htab, hPn, hNc, rfl⟩ := fn
  intro H locs ls rest q ce hl hn hP hD hS hq hv hcl
  have hcast : (Cond.castable E E).before args s = true := by
    rcases hE with rfl | rfl
    · exact va_Nw.use rfl (hPn.1 _ (by simp [wsNg]))
    · exact va_Nw.use rfl (hPn.2.1 _ (by simp [wsNg]))
  refine vx_catch (name := E) (E := E) (ce := ce) hown pre z suf (htab.trans hsplit) (fun z hz => (hpass z hz).imp id (fun w => ⟨w.1, exX, hts _ w.2.2, by rw [w.2.1]; exact hNc⟩)) hx h0 (hts _ hlink) hcast hq hv hcl ?_
  refine lv_astore_n hx' hb d1 rfl hl hi rfl (fun ls2 hl2 => ?_)
  refine lv_iconst hx' hb d2 rfl ?_
  exact W.widen hc1 hs6 (W.iret hx' hb hr (fun t ht hW => ⟨⟨some (.inl (Int32.ofInt n)), Wd, rfl, h, by rw [ht]; exact hP, va_K.moved hW.alike hK, hD⟩, hS.F ht⟩) hS.2.2 d3 hlk)
