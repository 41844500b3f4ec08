-- CONTRACTS over the abstract layer: what a method owes, its ends, its calls
def q_Q (D : va_G) (cA : Nat → ClassId) (ad : Nat → Nat) (K : Option q_V → List q_E → Prop) (A : Nat → Prop) : Array Value → State → Outcome → State → Prop := fun _ st oc t => (∃ (r : Option q_V) (Wd : List q_E), oc = .returned (r.map (q_cv ad)) ∧ K r Wd ∧ va_P D vwCl (q_cw cA ad 0 Wd) t.heap ∧ va_K D vwCl (q_tys cA) t ∧ va_D A (q_cw cA ad 0 Wd)) ∧ va_F A st t
def q_B (D : va_G) (cA : Nat → ClassId) (ad : Nat → Nat) (sz : Nat) (Wd : List q_E) : State → Prop := fun U => U.heap.size = sz ∧ va_P D vwCl (q_cw cA ad 0 Wd) U.heap ∧ va_K D vwCl (q_tys cA) U ∧ va_D (fun _ => True) (q_cw cA ad 0 Wd)
def q_ws (y : MethodName) (b : ByteArray) (n : Nat) (ret : Option FieldType) : List Cond := .code y b n ret :: wsL_law
def q_rm (fr lo : Nat) : Room := { frames := fr, cells := 0, slots := 0, locals := lo }
def q_lv0 : List q_V → List (Option q_V)
  | [] => []
  | .inr (.inl v) :: l => some (.inr (.inl v)) :: none :: q_lv0 l
  | .inl v :: l => some (.inl v) :: q_lv0 l
  | .inr (.inr v) :: l => some (.inr (.inr v)) :: q_lv0 l
def q_ent (as : List q_V) (n : Nat) : List (Option q_V) := q_lv0 as ++ List.replicate (n - (q_lv0 as).length) none
def q_Ct (y : MethodName) (b : ByteArray) (n : Nat) (ret : Option FieldType) (fr lo : Nat) (spec : List q_V → List q_E → (Option q_V → List q_E → Prop) → Prop) : Prop :=
  ∀ (l : Launch) (D : va_G) (cA : Nat → ClassId) (ad : Nat → Nat) (sz : Nat) (as : List q_V) (Wd : List q_E) (K : Option q_V → List q_E → Prop), (q_lv0 as).length ≤ n → spec as Wd K → Met l y (q_ws y b n ret) (q_rm fr lo) (va_Pc (as.map (q_cv ad)) (q_B D cA ad sz Wd)) (q_Q D cA ad K (va_A (q_cw cA ad 0 Wd) sz)) 0 0 (va_A (q_cw cA ad 0 Wd) sz)
def q_fin (x : q_X) (ret : Option FieldType) (K : Option q_V → List q_E → Prop) : Prop := match x with
  | (p, l, e, R, s, m, args, below, meth, c, A, H0, cells, slots, Q, D, cA, ad) => meth.sig.returnType = ret ∧ meth.locks = false ∧ cells = 0 ∧ slots = 0 ∧ H0 = s.heap ∧ Q = MQ below (q_Q D cA ad K A) args s 0 0 A
theorem q_lvl_none (ad : Nat → Nat) : ∀ (k i : Nat), q_lvl ad i (List.replicate k none) = []
  | 0, i => rfl
  | k + 1, i => by rw [List.replicate_succ, q_lvl]; exact q_lvl_none ad k (i + 1)
theorem q_lvl_app (ad : Nat → Nat) : ∀ (l l2 : List (Option q_V)) (i : Nat), q_lvl ad i (l ++ l2) = q_lvl ad i l ++ q_lvl ad (i + l.length) l2
  | [], l2, i => by simp [q_lvl]
  | none :: l, l2, i => by
    simp only [List.cons_append, q_lvl, List.length_cons]
    rw [q_lvl_app ad l l2 (i + 1), show i + 1 + l.length = i + (l.length + 1) by omega]
  | some v :: l, l2, i => by
    simp only [List.cons_append, q_lvl, List.length_cons]
    rw [q_lvl_app ad l l2 (i + 1), show i + 1 + l.length = i + (l.length + 1) by omega]
theorem q_lvl_args (ad : Nat → Nat) : ∀ (as : List q_V) (i : Nat), q_lvl ad i (q_lv0 as) = lv_args i (as.map (q_cv ad))
  | [], i => rfl
  | .inr (.inl v) :: l, i => congrArg (fun z => (i, Value.long v) :: z) (q_lvl_args ad l (i + 2))
  | .inl v :: l, i => congrArg (fun z => (i, Value.int v) :: z) (q_lvl_args ad l (i + 1))
  | .inr (.inr none) :: l, i => congrArg (fun z => (i, Value.null) :: z) (q_lvl_args ad l (i + 1))
  | .inr (.inr (some k)) :: l, i => congrArg (fun z => (i, Value.ref (ad k)) :: z) (q_lvl_args ad l (i + 1))
theorem q_sl_len (ad : Nat → Nat) : ∀ (as : List q_V), (lg_sl (as.map (q_cv ad))).length = (q_lv0 as).length
  | [] => rfl
  | .inr (.inl v) :: l => by
    have h := q_sl_len ad l
    simp only [lg_sl, List.map_cons, List.flatMap_cons, q_cv, Value.category, if_true, List.length_append, List.length_cons, List.length_nil, q_lv0] at h ⊢
    omega
  | .inl v :: l => by
    have h := q_sl_len ad l
    simp [lg_sl, q_cv, Value.category, q_lv0] at h ⊢
    omega
  | .inr (.inr none) :: l => by
    have h := q_sl_len ad l
    simp [lg_sl, q_cv, Value.category, q_lv0] at h ⊢
    omega
  | .inr (.inr (some k)) :: l => by
    have h := q_sl_len ad l
    simp [lg_sl, q_cv, Value.category, q_lv0] at h ⊢
    omega
theorem q_met {y : MethodName} {b : ByteArray} {n : Nat} {ret : Option FieldType} {fr lo : Nat} {spec : List q_V → List q_E → (Option q_V → List q_E → Prop) → Prop} (hy : plainName y.cls = true)
    (body : ∀ (x : q_X) (as : List q_V) (Wd : List q_E) (K : Option q_V → List q_E → Prop), spec as Wd K → q_ok x b y.cls fr lo → q_fin x ret K → q_W x 0 (q_ent as n) [] Wd) : q_Ct y b n ret fr lo spec := by
  intro l D cA ad sz as Wd K hle hs
  refine Met.ofW (cc := b) (maxL := n) (ret := ret) hy rfl ?_
  intro p e s m args below meth c s₁ B hml hv
  obtain ⟨rfl, hsz, hP, hK, hD0⟩ := hv
  have hx := B.exec
  have hb := B.bytes
  have hr := B.returns
  have hts := atoms_spec (ws := q_ws y b n ret) B.pre
  have hown : s.vm.findClass y.cls = some m.cls := findClass_of_methodNamed B.named
  have hlocks := B.notSynchronized
  subst hsz
  have hD := hD0.self (sz := s.heap.size)
  rw [lg_entry_eq]
  have hl := lv_entry (as.map (q_cv ad)) (n := n) (by rw [q_sl_len]; exact hle)
  have hlen : (q_ent as n).length = n := by unfold q_ent; rw [List.length_append, List.length_replicate]; omega
  refine body (p, l, e, (headSpec (q_ws y b n ret) (q_rm fr lo)).room, s, m, (as.map (q_cv ad)).toArray, below, meth, c, va_A (q_cw cA ad 0 Wd) s.heap.size, s.heap, 0, 0, MQ below (q_Q D cA ad K (va_A (q_cw cA ad 0 Wd) s.heap.size)) (as.map (q_cv ad)).toArray s 0 0 (va_A (q_cw cA ad 0 Wd) s.heap.size), D, cA, ad) as Wd K hs ⟨hx, hb, hown, fun w hw => hts w (List.mem_cons_of_mem _ hw), hK, fun q h => Or.inr h, Nat.le_refl _, Nat.le_refl _, Nat.zero_le _, Nat.zero_le _⟩ ⟨hr, hlocks, rfl, rfl, rfl, rfl⟩ s.heap [] _ ?_ (by rw [hlen]; exact hml.symm) hP hD va_S.rf
  rw [hlen]
  refine q_has_sub hl (fun q hq => ?_)
  unfold q_ent at hq
  rw [q_lvl_app, q_lvl_none, List.append_nil, q_lvl_args] at hq
  exact hq
theorem q_iret {x : q_X} {cc : ByteArray} {own : String} {fr lo pc : Nat} {lv : List (Option q_V)} {Wd : List q_E} {v : Int32} {K : Option q_V → List q_E → Prop} (ok : q_ok x cc own fr lo) (fn : q_fin x (some .int) K) (hd : decode cc pc = .ok (.ireturn, 1)) (h : K (some (.inl v)) Wd) : q_W x pc lv [.inl v] Wd := by
  obtain ⟨p, l, e, R, s, m, args, below, meth, c, A, H0, cells, slots, Q, D, cA, ad⟩ := x
  obtain ⟨hx, hb, hown, hts, hK, hA, hfr, hlo, hce, hsl⟩ := ok
  obtain ⟨hr, hlk, rfl, rfl, rfl, rfl⟩ := fn
  intro H locs ls hl hn hP hD hS
  exact W.iret hx hb hr (fun t ht hW => ⟨⟨some (.inl v), Wd, rfl, h, by rw [ht]; exact hP, va_K.moved hW.alike hK, hD⟩, hS.F ht⟩) hS.2.2 hd hlk
theorem q_zret {x : q_X} {cc : ByteArray} {own : String} {fr lo pc : Nat} {lv : List (Option q_V)} {Wd : List q_E} {v : Int32} {K : Option q_V → List q_E → Prop} (ok : q_ok x cc own fr lo) (fn : q_fin x (some .boolean) K) (hd : decode cc pc = .ok (.ireturn, 1)) (hv : v = 0 ∨ v = 1) (h : K (some (.inl v)) Wd) : q_W x pc lv [.inl v] Wd := by
  obtain ⟨p, l, e, R, s, m, args, below, meth, c, A, H0, cells, slots, Q, D, cA, ad⟩ := x
  obtain ⟨hx, hb, hown, hts, hK, hA, hfr, hlo, hce, hsl⟩ := ok
  obtain ⟨hr, hlk, rfl, rfl, rfl, rfl⟩ := fn
  intro H locs ls hl hn hP hD hS
  exact W.zret hx hb hr (by rcases hv with rfl | rfl <;> decide +kernel) (fun t ht hW => ⟨⟨some (.inl v), Wd, rfl, h, by rw [ht]; exact hP, va_K.moved hW.alike hK, hD⟩, hS.F ht⟩) hS.2.2 hd hlk
theorem q_lret {x : q_X} {cc : ByteArray} {own : String} {fr lo pc : Nat} {lv : List (Option q_V)} {Wd : List q_E} {v : Int64} {K : Option q_V → List q_E → Prop} (ok : q_ok x cc own fr lo) (fn : q_fin x (some .long) K) (hd : decode cc pc = .ok (.lreturn, 1)) (h : K (some (.inr (.inl v))) Wd) : q_W x pc lv [.inr (.inl v)] Wd := by
  obtain ⟨p, l, e, R, s, m, args, below, meth, c, A, H0, cells, slots, Q, D, cA, ad⟩ := x
  obtain ⟨hx, hb, hown, hts, hK, hA, hfr, hlo, hce, hsl⟩ := ok
  obtain ⟨hr, hlk, rfl, rfl, rfl, rfl⟩ := fn
  intro H locs ls hl hn hP hD hS
  exact W.lret hx hb hr (fun t ht hW => ⟨⟨some (.inr (.inl v)), Wd, rfl, h, by rw [ht]; exact hP, va_K.moved hW.alike hK, hD⟩, hS.F ht⟩) hS.2.2 hd hlk
theorem q_vret {x : q_X} {cc : ByteArray} {own : String} {fr lo pc : Nat} {lv : List (Option q_V)} {Wd : List q_E} {K : Option q_V → List q_E → Prop} (ok : q_ok x cc own fr lo) (fn : q_fin x none K) (hd : decode cc pc = .ok (.return_, 1)) (h : K none Wd) : q_W x pc lv [] Wd := by
  obtain ⟨p, l, e, R, s, m, args, below, meth, c, A, H0, cells, slots, Q, D, cA, ad⟩ := x
  obtain ⟨hx, hb, hown, hts, hK, hA, hfr, hlo, hce, hsl⟩ := ok
  obtain ⟨hr, hlk, rfl, rfl, rfl, rfl⟩ := fn
  intro H locs ls hl hn hP hD hS
  exact W.vret hx hb hr (fun t ht hW => ⟨⟨none, Wd, rfl, h, by rw [ht]; exact hP, va_K.moved hW.alike hK, hD⟩, hS.F ht⟩) hS.2.2 hd hlk
theorem q_blind {as : List Value} {D : va_G} {cA : Nat → ClassId} {ad : Nat → Nat} {sz : Nat} {Wd : List q_E} : FrameBlind (va_Pc as (q_B D cA ad sz Wd)) := fun a U g mk q => by
  obtain ⟨q0, q1, qP, qK, qD⟩ := q
  exact ⟨q0, q1, qP, va_K.moved (u := U) (U := U.calling g mk a) (Vm.Alike.refl U.vm) qK, qD⟩
theorem q_gws {y : MethodName} {b : ByteArray} {n : Nat} {ret : Option FieldType} (h : Cond.code y b n ret ∈ wsL_law) : GoodIn wsL_law (q_ws y b n ret) := fun w hw => by
  rcases List.mem_cons.mp hw with rfl | hw
  · exact ⟨h, Or.inl rfl⟩
  · exact ⟨hw, (q_goodL w hw).2⟩
/-- behind a call: the run's end, seen in the abstract world -/
theorem q_back {p : Program} {l : Launch} {e : Env} {R : Room} {s : State} {m : MethodId} {args : Array Value} {below : List Frame} {meth : Method} {c : Code} {A : Nat → Prop} {H0 : Heap} {cells slots : Nat} {Q : State → Prop} {D : va_G} {cA : Nat → ClassId} {ad : Nat → Nat} {H : Heap} {locs : List Loc} {ls : Array Slot} {pc : Nat} {lv : List (Option q_V)} {st : List q_V} {Wd : List q_E} {st0 : List Value} {a : Array Value}
    (hA : ∀ q : Nat, H0.size ≤ q → A q) (hl : lv_has ls lv.length (q_lvl ad 0 lv)) (hn : lv.length = c.maxLocals) (hD : va_D A (q_cw cA ad 0 Wd)) (hS : va_S A H0 H locs)
    (run : va_Run p l e R s m args below meth c H locs cells slots 0 0 (F0 m pc ls st0) (st.map (q_cv ad)) (q_Q D cA ad (fun r Wd2 => q_W (p, l, e, R, s, m, args, below, meth, c, A, H0, cells, slots, Q, D, cA, ad) (pc + 3) lv (r.toList ++ st) Wd2) (va_A (q_cw cA ad 0 Wd) H.size) a) (va_A (q_cw cA ad 0 Wd) H.size)) :
    W p l e R s m args below meth c H locs cells slots Q (F0 m pc ls st0) := by
  have hF : ∀ q, va_A (q_cw cA ad 0 Wd) H.size q → A q := by
    intro q h
    rcases h with ⟨k, ee, h⟩ | h
    · exact hD.2 k (q, ee) h
    · exact hA q (Nat.le_trans hS.1 h)
  intro T hT X
  obtain ⟨v, st₀, t, T', L, h0, X', hL, e1, e2, ⟨⟨r, Wd2, hv, hk, hP2, hK2, hD2⟩, hz, hkp⟩, stp⟩ := run T hT X
  cases hv
  rw [h0] at hz hkp
  have hstk : (r.map (q_cv ad)).toList ++ st.map (q_cv ad) = (r.toList ++ st).map (q_cv ad) := by cases r <;> rfl
  obtain ⟨t2, a1, b1⟩ := hk T'.heap (locs ++ L) ls hl hn (by rw [e1]; exact hP2) (hD2.weaken (fun k q _ h => hF q.1 h)) ⟨Nat.le_trans hS.1 (by rw [e1]; exact hz), fun q h1 h2 => by rw [e1, hkp q (Nat.lt_of_lt_of_le h1 hS.1) (fun z => h2 (hF q z))]; exact hS.2.1 q h1 h2, fun q hq => by
      rcases List.mem_append.mp hq with h | h
      · exact hS.2.2 q h
      · exact hF _ (hL q h)⟩ T' rfl X'
  rw [← hstk] at a1
  exact ⟨t2, stp t2 a1, b1⟩
theorem q_callV {x : q_X} {cc : ByteArray} {own : String} {fr lo pc : Nat} {lv : List (Option q_V)} {Wd : List q_E} {y : MethodName} {b : ByteArray} {n : Nat} {ret : Option FieldType} {fr2 lo2 : Nat} {spec : List q_V → List q_E → (Option q_V → List q_E → Prop) → Prop} {ix ci N k : Nat} {T : u_T} {fs : List q_V} (as : List q_V) {st : List q_V} (C : q_Ct y b n ret fr2 lo2 spec)
    (hw : Cond.methodLink own ix y ∈ wsL_law ∧ Cond.instanceMethod y ∈ wsL_law ∧ Cond.selects y.cls y y ∈ wsL_law ∧ Cond.initialized y.cls ∈ wsL_law ∧ Cond.code y b n ret ∈ wsL_law) (hdc : y.cls ≠ "java/lang/invoke/MethodHandle" ∧ y.cls ≠ "java/lang/invoke/VarHandle" ∧ (parseMethodDescriptor y.desc).map (fun d => d.parameters.length) = some as.length)
    (hcl : vwCl[ci]? = some (y.cls, T, N)) (ok : q_ok x cc own fr lo) (he : Wd[k]? = some (.inr (ci, fs))) (hR : fr2 + 1 ≤ fr ∧ 8 + (n + 11) + lo2 ≤ lo) (hst : (st.map (fun v => if q_nol (some v) then 1 else 2)).sum ≤ 8) (hle : (q_lv0 (q_r k :: as)).length ≤ n) (hd : decode cc pc = .ok (.invokevirtual ix, 3))
    (hsp : spec (q_r k :: as) Wd (fun r Wd2 => q_W x (pc + 3) lv (r.toList ++ st) Wd2)) : q_W x pc lv (as.reverse ++ q_r k :: st) Wd := by
  obtain ⟨p, l, e, R, s, m, args, below, meth, c, A, H0, cells, slots, Q, D, cA, ad⟩ := x
  obtain ⟨hx, hb, hown, hts, hK, hA, hfr, hlo, hce, hsl⟩ := ok
  intro H locs ls hl hn hP hD hS
  have hM := C l D cA ad H.size (q_r k :: as) Wd _ hle hsp
  have hcat : ((st.map (q_cv ad)).map fun v => v.category).sum ≤ 8 := by
    rw [List.map_map]
    refine Nat.le_trans (Nat.le_of_eq ?_) hst
    congr 1
    refine List.map_congr_left (fun v _ => ?_)
    rcases v with u | u | (_ | u) <;> simp [q_cv, Value.category, q_nol]
  have hdl : (parseMethodDescriptor y.desc).map (fun d => d.parameters.length) = some (as.map (q_cv ad)).length := by rw [List.length_map]; exact hdc.2.2
  have cw : CallW R s args own y.cls ix y b n ret (q_ws y b n ret) (q_rm fr2 lo2) 0 0 (as.map (q_cv ad)).length :=
    ⟨callB_of _ hts (q_gws hw.2.2.2.2) rfl rfl rfl (hts _ hw.2.2.2.1) (hts _ hw.1) ⟨hdc.1, hdc.2.1, hdl⟩ ⟨Nat.le_trans hR.1 hfr, Nat.le_trans hR.2 hlo⟩, hts _ hw.2.1, hts _ hw.2.2.1⟩
  refine q_back hA hl hn hD hS (va_runV (As := as.map (q_cv ad)) (b := ad k) (nL := c.maxLocals) (Ts := wsL_law) ⟨hx, hb, rfl, hown, hts⟩ hM cw ⟨q_blind, va_recv hK hP hcl (q_cw_get0 he), fun U hU hW => ⟨rfl, by rw [hU], by rw [hU]; exact hP, va_K.moved hW.alike hK, hD.weaken (fun _ _ _ _ => trivial)⟩⟩ rfl rfl (hl.1.trans hn) (by simp [List.map_reverse, q_cv]) (lv_room hcat) hd ⟨hce, hsl⟩)
theorem q_callS {x : q_X} {cc : ByteArray} {own : String} {fr lo pc : Nat} {lv : List (Option q_V)} {Wd : List q_E} {y : MethodName} {b : ByteArray} {n : Nat} {ret : Option FieldType} {fr2 lo2 : Nat} {spec : List q_V → List q_E → (Option q_V → List q_E → Prop) → Prop} {ix : Nat} (as : List q_V) {st : List q_V} (C : q_Ct y b n ret fr2 lo2 spec)
    (hw : Cond.methodLink own ix y ∈ wsL_law ∧ Cond.static y ∈ wsL_law ∧ Cond.initialized y.cls ∈ wsL_law ∧ Cond.code y b n ret ∈ wsL_law) (hdc : y.cls ≠ "java/lang/invoke/MethodHandle" ∧ y.cls ≠ "java/lang/invoke/VarHandle" ∧ (parseMethodDescriptor y.desc).map (fun d => d.parameters.length) = some as.length)
    (ok : q_ok x cc own fr lo) (hR : fr2 + 1 ≤ fr ∧ 8 + (n + 11) + lo2 ≤ lo) (hst : (st.map (fun v => if q_nol (some v) then 1 else 2)).sum ≤ 8) (hle : (q_lv0 as).length ≤ n) (hd : decode cc pc = .ok (.invokestatic ix, 3))
    (hsp : spec as Wd (fun r Wd2 => q_W x (pc + 3) lv (r.toList ++ st) Wd2)) : q_W x pc lv (as.reverse ++ st) Wd := by
  obtain ⟨p, l, e, R, s, m, args, below, meth, c, A, H0, cells, slots, Q, D, cA, ad⟩ := x
  obtain ⟨hx, hb, hown, hts, hK, hA, hfr, hlo, hce, hsl⟩ := ok
  intro H locs ls hl hn hP hD hS
  have hM := C l D cA ad H.size as Wd _ hle hsp
  have hcat : ((st.map (q_cv ad)).map fun v => v.category).sum ≤ 8 := by
    rw [List.map_map]
    refine Nat.le_trans (Nat.le_of_eq ?_) hst
    congr 1
    refine List.map_congr_left (fun v _ => ?_)
    rcases v with u | u | (_ | u) <;> simp [q_cv, Value.category, q_nol]
  have hdl : (parseMethodDescriptor y.desc).map (fun d => d.parameters.length) = some (as.map (q_cv ad)).length := by rw [List.length_map]; exact hdc.2.2
  have cw : CallB R s args own ix y b n ret (q_ws y b n ret) (q_rm fr2 lo2) 0 0 (as.map (q_cv ad)).length ∧ (Cond.static y).before args s = true :=
    ⟨callB_of _ hts (q_gws hw.2.2.2) rfl rfl rfl (hts _ hw.2.2.1) (hts _ hw.1) ⟨hdc.1, hdc.2.1, hdl⟩ ⟨Nat.le_trans hR.1 hfr, Nat.le_trans hR.2 hlo⟩, hts _ hw.2.1⟩
  refine q_back hA hl hn hD hS (va_runS (As := as.map (q_cv ad)) (nL := c.maxLocals) (Ts := wsL_law) ⟨hx, hb, rfl, hown, hts⟩ hM cw ⟨q_blind, fun U hU hW => ⟨rfl, by rw [hU], by rw [hU]; exact hP, va_K.moved hW.alike hK, hD.weaken (fun _ _ _ _ => trivial)⟩⟩ rfl rfl (hl.1.trans hn) (by simp [List.map_reverse]) (lv_room hcat) hd ⟨hce, hsl⟩)
