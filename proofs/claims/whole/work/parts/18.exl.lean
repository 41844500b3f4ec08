-- METHODS THAT THROW, over the abstract layer
def q_strs : List (Nat × String) := [(56, "there is no such sample"), (63, "a sample is 0 .. 255"), (79, "a size is odd, and 1 .. 31"), (81, "a share is 0 .. 64"), (93, "a kind is 0 .. 2"), (113, "cells are 1, 2, 4 or 8"), (119, "bounds are -1 .. 255, and low is not above high"), (138, "a number of samples is 0 .. 256"), (151, "the rectangle is not in the picture"), (157, "x and y are not below 0")]
abbrev exI : String := "java/lang/IllegalArgumentException"
abbrev exX : String := "java/lang/IndexOutOfBoundsException"
abbrev exN : List String := ["java/lang/RuntimeException", "java/lang/Exception"]
abbrev iS (n : String) : MethodName := ⟨n, "<init>", "(Ljava/lang/String;)V"⟩
def wsNg (X : String) : List Cond := [.declares (iS "java/lang/RuntimeException"), .declares (iS "java/lang/Exception"), .declares (iS "java/lang/Throwable"), .castable X X]
theorem q_exIn : ∀ w ∈ (vx_atS RX0 65 exI exN).filter (fun w => !goodWord w), w ∈ wsNg exI := by decide +kernel
theorem q_exXn : ∀ w ∈ (vx_atS RX0 58 exX exN).filter (fun w => !goodWord w), w ∈ wsNg exX := by decide +kernel
theorem q_exIg : ∀ w ∈ Cond.classLink RX0 61 exI :: Cond.initialized exI :: vx_atS RX0 65 exI exN, vx_ot w = true := by decide +kernel
theorem q_exXg : ∀ w ∈ Cond.classLink RX0 54 exX :: Cond.initialized exX :: vx_atS RX0 58 exX exN, vx_ot w = true := by decide +kernel
theorem q_exIk : Cond.classLink RX0 61 exI ∈ wsL_law ∧ Cond.initialized exI ∈ wsL_law := ⟨by decide +kernel, by decide +kernel⟩
theorem q_exXk : Cond.classLink RX0 54 exX ∈ wsL_law ∧ Cond.initialized exX ∈ wsL_law := ⟨by decide +kernel, by decide +kernel⟩
theorem q_exIw : ∀ w ∈ (vx_atS RX0 65 exI exN).filter goodWord, w ∈ wsL_law := fun _ h => List.mem_append_right _ h
theorem q_exXw : ∀ w ∈ (vx_atS RX0 58 exX exN).filter goodWord, w ∈ wsL_law := fun _ h => List.mem_append_left _ (List.mem_append_right _ h)
theorem q_exf : Bundle.fit exI = true ∧ Bundle.fit exX = true ∧ ∀ n ∈ exN, Bundle.fit n = true := by decide +kernel
theorem q_str {own tx : String} {k : Nat} {args : Array Value} {s : State} (h : (Cond.stringRef own k tx).before args s = true) : ∃ a : Nat, vk_R own k tx a s := by
  have h1 : (Cond.stringRef own k tx).before #[] s = true := h
  have h2 := h
  simp only [Cond.before, Cond.holds, Cond.value] at h2
  cases hr : s.resolvedAt? own k with
  | none => cases hc : s.vm.findClass own <;> simp [hr, hc] at h2
  | some r =>
    cases hc : s.vm.findClass own with
    | none => simp [hr, hc] at h2
    | some c =>
      cases r with
      | string a =>
        refine ⟨a, h1, ?_⟩
        simp only [State.resolvedAt?, Option.bind_eq_bind, hc, Option.bind_some] at hr
        simp only [Term.eval, Option.bind_eq_bind, hc, Option.bind_some]
        cases hk : s.vm.classes[c]? with
        | none => rw [hk] at hr; cases hr
        | some k2 =>
          rw [hk] at hr
          simp only [Option.bind_some] at hr ⊢
          rw [hr]; rfl
      | _ => simp [hr, hc] at h2
/-- what a throw wants of the machine beside the words -/
def q_Pn (U : State) : Prop := (∀ w ∈ wsNg exI, va_Nw w U) ∧ (∀ w ∈ wsNg exX, va_Nw w U) ∧ ∀ q ∈ q_strs, ∃ a : Nat, vk_R RX0 q.1 q.2 a U
theorem q_Pn.warm {s U : State} (hW : s.WarmedH U.vm) (h : q_Pn s) : q_Pn U := by
  refine ⟨fun w hw => ?_, fun w hw => ?_, fun q hq => (h.2.2 q hq).imp fun a ha => vk_R.warm hW ha⟩
  · have h1 := h.1 w hw
    simp only [wsNg, List.mem_cons, List.not_mem_nil, or_false] at hw
    rcases hw with rfl | rfl | rfl | rfl
    · exact va_Nw.warmD hW h1
    · exact va_Nw.warmD hW h1
    · exact va_Nw.warmD hW h1
    · exact va_Nw.warmC hW h1
  · have h1 := h.2.1 w hw
    simp only [wsNg, List.mem_cons, List.not_mem_nil, or_false] at hw
    rcases hw with rfl | rfl | rfl | rfl
    · exact va_Nw.warmD hW h1
    · exact va_Nw.warmD hW h1
    · exact va_Nw.warmD hW h1
    · exact va_Nw.warmC hW h1
def q_Zs (A : Nat → Prop) (U : State) (H : Heap) : Prop := vx_Zq Bundle.tN "UNASSIGNED_STACK" Bundle.steD A U H ∧ vx_Zq Bundle.tN "SUPPRESSED_SENTINEL" Bundle.listD A U H
theorem q_Zs.moved {A : Nat → Prop} {u U : State} {H : Heap} (hvm : u.vm.Alike U.vm) (h : q_Zs A u H) : q_Zs A U H := ⟨h.1.moved hvm, h.2.moved hvm⟩
theorem q_Zs.kept {A : Nat → Prop} {U : State} {H H1 : Heap} (h : q_Zs A U H) (hq : ∀ a : Nat, a < H.size → ¬ A a → H1[a]? = H[a]?) : q_Zs A U H1 := ⟨h.1.kept hq, h.2.kept hq⟩
theorem q_Zs.narrow {A B : Nat → Prop} {U : State} {H : Heap} (h : q_Zs A U H) (hAB : ∀ q, B q → A q) : q_Zs B U H := ⟨h.1.narrow hAB, h.2.narrow hAB⟩
def q_rmX (fr lo : Nat) : Room := { frames := fr, cells := 1, slots := 6, locals := lo }
def q_BX (D : va_G) (cA : Nat → ClassId) (ad : Nat → Nat) (sz : Nat) (Wd : List q_E) : State → Prop := fun U => q_B D cA ad sz Wd U ∧ q_Pn U ∧ q_Zs (va_A (q_cw cA ad 0 Wd) sz) U U.heap
def q_XC (D : va_G) (cA : Nat → ClassId) (ad : Nat → Nat) (KX : String → List q_E → Prop) (A : Nat → Prop) : String → State → State → Prop := fun E st t => (∃ Wd : List q_E, KX E Wd ∧ va_P D vwCl (q_cw cA ad 0 Wd) t.heap ∧ va_K D vwCl (q_tys cA) t ∧ va_D A (q_cw cA ad 0 Wd)) ∧ va_F A st t
def q_CtX (y : MethodName) (b : ByteArray) (n : Nat) (ret : Option FieldType) (fr lo : Nat) (spec : List q_V → List q_E → (Option q_V → List q_E → Prop) → (String → List q_E → Prop) → Prop) : Prop :=
  ∀ (l : Launch), l.stackTraces = false → ∀ (D : va_G) (cA : Nat → ClassId) (ad : Nat → Nat) (sz : Nat) (as : List q_V) (Wd : List q_E) (K : Option q_V → List q_E → Prop) (KX : String → List q_E → Prop), (q_lv0 as).length ≤ n → spec as Wd K KX → vx_Met l y (q_ws y b n ret) (q_rmX fr lo) (va_Pc (as.map (q_cv ad)) (q_BX D cA ad sz Wd)) (q_Q D cA ad K (va_A (q_cw cA ad 0 Wd) sz)) (q_XC D cA ad KX (va_A (q_cw cA ad 0 Wd) sz)) 1 6 (va_A (q_cw cA ad 0 Wd) sz)
def q_finX (x : q_X) (ret : Option FieldType) (K : Option q_V → List q_E → Prop) (KX : String → List q_E → Prop) : Prop := match x with
  | (p, l, e, R, s, m, args, below, meth, c, A, H0, cells, slots, Q, D, cA, ad) => meth.sig.returnType = ret ∧ meth.locks = false ∧ cells = 0 ∧ slots = 0 ∧ H0 = s.heap ∧ l.stackTraces = false ∧ (∀ z ∈ c.exceptionTable.toList, False) ∧ q_Pn s ∧ q_Zs A s s.heap ∧ 1 ≤ R.cells ∧ 6 ≤ R.slots ∧ Q = vx_MQ below (q_Q D cA ad K A) (q_XC D cA ad KX A) args s 1 6 A
theorem q_metX {y : MethodName} {b : ByteArray} {n : Nat} {ret : Option FieldType} {fr lo : Nat} {spec : List q_V → List q_E → (Option q_V → List q_E → Prop) → (String → List q_E → Prop) → Prop} (hy : plainName y.cls = true)
    (body : ∀ (x : q_X) (as : List q_V) (Wd : List q_E) (K : Option q_V → List q_E → Prop) (KX : String → List q_E → Prop), spec as Wd K KX → q_ok x b y.cls fr lo → q_finX x ret K KX → q_W x 0 (q_ent as n) [] Wd) : q_CtX y b n ret fr lo spec := by
  intro l hst D cA ad sz as Wd K KX hle hs
  refine vx_ofW (cc := b) (maxL := n) (ret := ret) hy rfl ?_
  intro p e s m args below meth c s₁ B hml htab hv
  obtain ⟨rfl, ⟨hsz, hP, hK, hD0⟩, hPn, hZs⟩ := hv
  have hx := B.exec
  have hb := B.bytes
  have hr := B.returns
  have hts := atoms_spec (ws := q_ws y b n ret) B.pre
  have hown : s.vm.findClass y.cls = some m.cls := findClass_of_methodNamed B.named
  have hlocks := B.notSynchronized
  subst hsz
  have hD := hD0.self (sz := s.heap.size)
  rw [lg_entry_eq]
  have hl := lv_entry (as.map (q_cv ad)) (n := n) (by rw [q_sl_len]; exact hle)
  have hlen : (q_ent as n).length = n := by unfold q_ent; rw [List.length_append, List.length_replicate]; omega
  refine body (p, l, e, (headSpec (q_ws y b n ret) (q_rmX fr lo)).room, s, m, (as.map (q_cv ad)).toArray, below, meth, c, va_A (q_cw cA ad 0 Wd) s.heap.size, s.heap, 0, 0, vx_MQ below (q_Q D cA ad K (va_A (q_cw cA ad 0 Wd) s.heap.size)) (q_XC D cA ad KX (va_A (q_cw cA ad 0 Wd) s.heap.size)) (as.map (q_cv ad)).toArray s 1 6 (va_A (q_cw cA ad 0 Wd) s.heap.size), D, cA, ad) as Wd K KX hs ⟨hx, hb, hown, fun w hw => hts w (List.mem_cons_of_mem _ hw), hK, fun q h => Or.inr h, Nat.le_refl _, Nat.le_refl _, Nat.zero_le _, Nat.zero_le _⟩ ⟨hr, hlocks, rfl, rfl, rfl, hst, htab, hPn, hZs, Nat.le_refl _, Nat.le_refl _, rfl⟩ s.heap [] _ ?_ (by rw [hlen]; exact hml.symm) hP hD va_S.rf
  rw [hlen]
  refine q_has_sub hl (fun q hq => ?_)
  unfold q_ent at hq
  rw [q_lvl_app, q_lvl_none, List.append_nil, q_lvl_args] at hq
  exact hq
theorem q_iretX {x : q_X} {cc : ByteArray} {own : String} {fr lo pc : Nat} {lv : List (Option q_V)} {Wd : List q_E} {v : Int32} {K : Option q_V → List q_E → Prop} {KX : String → List q_E → Prop} (ok : q_ok x cc own fr lo) (fn : q_finX x (some .int) K KX) (hd : decode cc pc = .ok (.ireturn, 1)) (h : K (some (.inl v)) Wd) : q_W x pc lv [.inl v] Wd := by
  obtain ⟨p, l, e, R, s, m, args, below, meth, c, A, H0, cells, slots, Q, D, cA, ad⟩ := x
  obtain ⟨hx, hb, hown, hts, hK, hA, hfr, hlo, hce, hsl⟩ := ok
  obtain ⟨hr, hlk, rfl, rfl, rfl, hst, htab, hPn, hZs, hRc, hRs, rfl⟩ := fn
  intro H locs ls hl hn hP hD hS
  exact vx_ret (W.widen (Nat.zero_le 1) (Nat.zero_le 6) (W.iret hx hb hr (fun t ht hW => ⟨⟨some (.inl v), Wd, rfl, h, by rw [ht]; exact hP, va_K.moved hW.alike hK, hD⟩, hS.F ht⟩) hS.2.2 hd hlk))
theorem q_zretX {x : q_X} {cc : ByteArray} {own : String} {fr lo pc : Nat} {lv : List (Option q_V)} {Wd : List q_E} {v : Int32} {K : Option q_V → List q_E → Prop} {KX : String → List q_E → Prop} (ok : q_ok x cc own fr lo) (fn : q_finX x (some .boolean) K KX) (hd : decode cc pc = .ok (.ireturn, 1)) (hv : v = 0 ∨ v = 1) (h : K (some (.inl v)) Wd) : q_W x pc lv [.inl v] Wd := by
  obtain ⟨p, l, e, R, s, m, args, below, meth, c, A, H0, cells, slots, Q, D, cA, ad⟩ := x
  obtain ⟨hx, hb, hown, hts, hK, hA, hfr, hlo, hce, hsl⟩ := ok
  obtain ⟨hr, hlk, rfl, rfl, rfl, hst, htab, hPn, hZs, hRc, hRs, rfl⟩ := fn
  intro H locs ls hl hn hP hD hS
  exact vx_ret (W.widen (Nat.zero_le 1) (Nat.zero_le 6) (W.zret hx hb hr (by rcases hv with rfl | rfl <;> decide +kernel) (fun t ht hW => ⟨⟨some (.inl v), Wd, rfl, h, by rw [ht]; exact hP, va_K.moved hW.alike hK, hD⟩, hS.F ht⟩) hS.2.2 hd hlk))
theorem q_lretX {x : q_X} {cc : ByteArray} {own : String} {fr lo pc : Nat} {lv : List (Option q_V)} {Wd : List q_E} {v : Int64} {K : Option q_V → List q_E → Prop} {KX : String → List q_E → Prop} (ok : q_ok x cc own fr lo) (fn : q_finX x (some .long) K KX) (hd : decode cc pc = .ok (.lreturn, 1)) (h : K (some (.inr (.inl v))) Wd) : q_W x pc lv [.inr (.inl v)] Wd := by
  obtain ⟨p, l, e, R, s, m, args, below, meth, c, A, H0, cells, slots, Q, D, cA, ad⟩ := x
  obtain ⟨hx, hb, hown, hts, hK, hA, hfr, hlo, hce, hsl⟩ := ok
  obtain ⟨hr, hlk, rfl, rfl, rfl, hst, htab, hPn, hZs, hRc, hRs, rfl⟩ := fn
  intro H locs ls hl hn hP hD hS
  exact vx_ret (W.widen (Nat.zero_le 1) (Nat.zero_le 6) (W.lret hx hb hr (fun t ht hW => ⟨⟨some (.inr (.inl v)), Wd, rfl, h, by rw [ht]; exact hP, va_K.moved hW.alike hK, hD⟩, hS.F ht⟩) hS.2.2 hd hlk))
/-- 'throw new E("text")' of the class -/
theorem q_thG {x : q_X} {cc : ByteArray} {fr lo pc : Nat} {lv : List (Option q_V)} {Wd : List q_E} {K : Option q_V → List q_E → Prop} {KX : String → List q_E → Prop} {ret : Option FieldType} {cls text : String} {ik is ic : Nat} (ok : q_ok x cc RX0 fr lo) (fn : q_finX x ret K KX)
    (hcls : Bundle.fit cls = true) (hk : Cond.classLink RX0 ik cls ∈ wsL_law ∧ Cond.initialized cls ∈ wsL_law) (hng : ∀ w ∈ (vx_atS RX0 ic cls exN).filter (fun w => !goodWord w), w ∈ wsNg cls) (hnw : ∀ s : State, q_Pn s → ∀ w ∈ wsNg cls, va_Nw w s) (hgd : ∀ w ∈ (vx_atS RX0 ic cls exN).filter goodWord, w ∈ wsL_law) (hgood : ∀ w ∈ Cond.classLink RX0 ik cls :: Cond.initialized cls :: vx_atS RX0 ic cls exN, vx_ot w = true)
    (hs : (is, text) ∈ q_strs) (hR : 6 ≤ fr ∧ 82 ≤ lo)
    (d0 : decode cc pc = .ok (.new ik, 3)) (d3 : decode cc (pc + 3) = .ok (.dup, 1)) (d4 : decode cc (pc + 4) = .ok (.ldc is, 2)) (d6 : decode cc (pc + 6) = .ok (.invokespecial ic, 3)) (d9 : decode cc (pc + 9) = .ok (.athrow, 1)) (h : KX cls Wd) : q_W x pc lv [] Wd := by
  obtain ⟨p, l, e, R, s, m, args, below, meth, c, A, H0, cells, slots, Q, D, cA, ad⟩ := x
  obtain ⟨hx, hb, hown, hts, hK, hA, hfr, hlo, hce, hsl⟩ := ok
  obtain ⟨hr, hlk, rfl, rfl, rfl, hst, htab, hPn, hZs, hRc, hRs, rfl⟩ := fn
  intro H locs ls hl hn hP hD hS
  obtain ⟨sa, hsa⟩ := hPn.2.2 _ hs
  have hlt : ∀ (k : Nat) (q : Nat × va_E), (q_cw cA ad 0 Wd)[k]? = some q → q.1 < H.size := fun k q hq => (hP k q hq).lt
  refine vx_throwS (names := exN) (sa := sa) (A := A) (cls := cls) (text := text) hx hb hst hown hcls q_exf.2.2 (hts _ hk.1) (hts _ hk.2) hsa (vx_hat (B := wsNg cls) (fun w hw => hts w (hgd w hw)) hng (fun w hw => va_Nw.use (by
    simp only [wsNg, List.mem_cons, List.not_mem_nil, or_false] at hw
    rcases hw with rfl | rfl | rfl | rfl <;> rfl) (hnw s hPn w hw))) hgood hZs.1 hZs.2 hS (hl.1.trans hn) d0 d3 d4 d6 d9 (fun z hz => absurd hz (fun q => htab z q)) (by have := hR.1; show 2 + 3 < R.frames; omega) (by have := hR.2; show 0 + (13 * (2 + 1) + 43) ≤ R.locals; omega) (by omega) (by omega) hlk (fun t hvm hsz hkp => ⟨⟨Wd, h, fun k q hq => (hP k q hq).kept (hkp q.1 (hlt k q hq)), va_K.moved hvm hK, hD⟩, ?_⟩) hS.2.2 (Nat.le_refl 1) (Nat.le_refl 6)
  exact ⟨Nat.le_trans hS.1 hsz, fun q h1 h2 => by rw [hkp q (Nat.lt_of_lt_of_le h1 hS.1)]; exact hS.2.1 q h1 h2⟩
