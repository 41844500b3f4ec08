-- CONSTRUCTORS: a contract whose world grows
theorem q_putFG {x : q_X} {cc : ByteArray} {own : String} {fr lo pc : Nat} {lv : List (Option q_V)} {st : List q_V} {Wd : List q_E} {ix k ci f N : Nat} {C : String} {T : u_T} {fs : List q_V} {v : q_V} {ty : FieldType} (ok : q_ok x cc own fr lo) (hin2 : x.2.2.2.2.2.2.2.2.1.name = "<init>") (hcl : vwCl[ci]? = some (C, T, N)) (hin : ∀ w ∈ u_ws C T N, w ∈ wsL_law) (ty0 : Nat → FieldType) (hty : ∀ k, k < N → parseFieldDescriptor (T k).2.2.1 = some (ty0 k)) (hnm : ∀ a, a < N → ∀ b, b < N → a ≠ b → (T a).2.1 ≠ (T b).2.1) (hf : f < N) (hl1 : Cond.fieldLink own ix C (T f).2.1 (T f).2.2.1 ∈ wsL_law) (hT : (T f).1 = C) (hown2 : (T f).1 = own) (hfin : (T f).2.2.2 = true) (hdt : parseFieldDescriptor (T f).2.2.1 = some ty) (hnr : ∀ ad : Nat → Nat, narrow ty (q_cv ad v) = q_cv ad v) (hft : ∀ ad : Nat → Nat, fits ty (q_cv ad v) = true) (he : Wd[k]? = some (.inr (ci, fs))) (hlen : f < fs.length) (hd : decode cc pc = .ok (.putfield ix, 3)) (kk : q_W x (pc + 3) lv st (Wd.set k (.inr (ci, fs.set f v)))) : q_W x pc lv (v :: .inr (.inr (some k)) :: st) Wd := by
  obtain ⟨p, l, e, R, s, m, args, below, meth, c, A, H0, cells, slots, Q, D, cA, ad⟩ := x
  obtain ⟨hx, hb, hown, hts, hK, hA, hfr, hlo, hce, hsl⟩ := ok
  intro H locs ls hl hn hP hD hS
  refine va_putF (fs := fs.map (q_cv ad)) (v := q_cv ad v) hx hb hts hin ty0 hty hnm hown hK hP hD hS k (q_cw_get0 he) hcl f hf (hts _ hl1) (fun z h9 => by rw [hT] at h9; exact h9) hfin hin2 hown2 hdt (hnr ad) (hft ad) (by rw [List.length_map]; exact hlen) hd (fun H1 locs1 hP1 hD1 hS1 => ?_)
  have ee : (ad k, (Sum.inr (ci, (fs.map (q_cv ad)).set f (q_cv ad v)) : va_E)) = (ad k, q_ce cA ad (.inr (ci, fs.set f v))) := by simp [q_ce, List.map_set]
  have hP2 : va_P D vwCl (List.set (q_cw cA ad 0 Wd) k (ad k, (Sum.inr (ci, (fs.map (q_cv ad)).set f (q_cv ad v)) : va_E))) H1 := hP1
  have hD2 : va_D A (List.set (q_cw cA ad 0 Wd) k (ad k, (Sum.inr (ci, (fs.map (q_cv ad)).set f (q_cv ad v)) : va_E))) := hD1
  rw [ee, q_cw_set0] at hP2 hD2
  exact kk H1 locs1 ls hl hn hP2 hD2 hS1
theorem q_super {x : q_X} {cc : ByteArray} {own : String} {fr lo pc k ix : Nat} {lv : List (Option q_V)} {st : List q_V} {Wd : List q_E} (ok : q_ok x cc own fr lo) (hl1 : Cond.methodLink own ix Lib.objectInit ∈ wsL_law) (hi : Cond.instanceMethod Lib.objectInit ∈ wsL_law) (hc : Cond.code Lib.objectInit ⟨#[0xb1]⟩ 1 none ∈ wsL_law) (hR : 1 ≤ fr ∧ 20 ≤ lo) (hst : (st.map (fun v => if q_nol (some v) then 1 else 2)).sum ≤ 8) (hd : decode cc pc = .ok (.invokespecial ix, 3)) (kk : q_W x (pc + 3) lv st Wd) : q_W x pc lv (.inr (.inr (some k)) :: st) Wd := by
  obtain ⟨p, l, e, R, s, m, args, below, meth, c, A, H0, cells, slots, Q, D, cA, ad⟩ := x
  obtain ⟨hx, hb, hown, hts, hK, hA, hfr, hlo, hce, hsl⟩ := ok
  intro H locs ls hl hn hP hD hS
  have hcat : ((st.map (q_cv ad)).map fun v => v.category).sum ≤ 8 := by
    rw [List.map_map]
    refine Nat.le_trans (Nat.le_of_eq ?_) hst
    congr 1
    refine List.map_congr_left (fun v _ => ?_)
    rcases v with u | u | (_ | u) <;> simp [q_cv, Value.category, q_nol]
  refine W.objInit hx hb hown (hts _ hl1) (hts _ hi) (hts _ hc) rfl (hl.1.trans hn) rfl hd (Nat.le_trans hR.1 hfr) ?_ (kk H locs ls hl hn hP hD hS)
  have h1 := lv_room (m := m) (pc := pc) (ls := ls) (rest := .ref (ad k) :: st.map (q_cv ad)) (st := st.map (q_cv ad)) hcat
  exact Nat.le_trans (Nat.add_le_add_right h1 12) (Nat.le_trans hR.2 hlo)
def q_QN (D : va_G) (cA : Nat → ClassId) (ad : Nat → Nat) (K : List q_E → Prop) (A : Nat → Prop) : Array Value → State → Outcome → State → Prop := fun _ st oc t => (∃ (ad2 : Nat → Nat) (Wd : List q_E), oc = .returned none ∧ ad2 0 = ad 0 ∧ K Wd ∧ va_P D vwCl (q_cw cA ad2 0 Wd) t.heap ∧ va_K D vwCl (q_tys cA) t ∧ va_D A (q_cw cA ad2 0 Wd)) ∧ va_F A st t
def q_rmN (fr lo mc ms : Nat) : Room := { frames := fr, cells := mc, slots := ms, locals := lo }
def q_CtN (y : MethodName) (b : ByteArray) (n : Nat) (fr lo mc ms : Nat) (spec : List q_V → List q_E → (List q_E → Prop) → Prop) : Prop :=
  ∀ (l : Launch) (D : va_G) (cA : Nat → ClassId) (ad : Nat → Nat) (sz : Nat) (as : List q_V) (Wd : List q_E) (K : List q_E → Prop), (q_lv0 as).length ≤ n → spec as Wd K → Met l y (q_ws y b n none) (q_rmN fr lo mc ms) (va_Pc (as.map (q_cv ad)) (q_B D cA ad sz Wd)) (q_QN D cA ad K (va_A (q_cw cA ad 0 Wd) sz)) mc ms (va_A (q_cw cA ad 0 Wd) sz)
def q_finN (x : q_X) (mc ms : Nat) (a0 : Nat) (K : List q_E → Prop) : Prop := match x with
  | (p, l, e, R, s, m, args, below, meth, c, A, H0, cells, slots, Q, D, cA, ad) => meth.sig.returnType = none ∧ meth.locks = false ∧ cells ≤ mc ∧ slots ≤ ms ∧ H0 = s.heap ∧ mc ≤ R.cells ∧ ms ≤ R.slots ∧ meth.name = "<init>" ∧ ad 0 = a0 ∧ ∃ ad1, ad1 0 = a0 ∧ Q = MQ below (q_QN D cA ad1 K A) args s mc ms A
theorem q_metN {y : MethodName} {b : ByteArray} {n : Nat} {fr lo mc ms : Nat} {spec : List q_V → List q_E → (List q_E → Prop) → Prop} (hy : plainName y.cls = true) (hyn : y.name = "<init>")
    (body : ∀ (x : q_X) (as : List q_V) (Wd : List q_E) (K : List q_E → Prop) (a0 : Nat), spec as Wd K → q_ok (q_cs x 0 0) b y.cls fr lo → q_finN (q_cs x 0 0) mc ms a0 K → q_W (q_cs x 0 0) 0 (q_ent as n) [] Wd) : q_CtN y b n fr lo mc ms spec := by
  intro l D cA ad sz as Wd K hle hs
  refine Met.ofW (cc := b) (maxL := n) (ret := none) hy rfl ?_
  intro p e s m args below meth c s₁ B hml hv
  obtain ⟨rfl, hsz, hP, hK, hD0⟩ := hv
  have hx := B.exec
  have hb := B.bytes
  have hr := B.returns
  have hts := atoms_spec (ws := q_ws y b n none) B.pre
  have hown : s.vm.findClass y.cls = some m.cls := findClass_of_methodNamed B.named
  have hlocks := B.notSynchronized
  have hin : meth.name = "<init>" := (name_of_methodNamed B.named B.method).1.trans hyn
  subst hsz
  have hD := hD0.self (sz := s.heap.size)
  rw [lg_entry_eq]
  have hl := lv_entry (as.map (q_cv ad)) (n := n) (by rw [q_sl_len]; exact hle)
  have hlen : (q_ent as n).length = n := by unfold q_ent; rw [List.length_append, List.length_replicate]; omega
  refine body (p, l, e, (headSpec (q_ws y b n none) (q_rmN fr lo mc ms)).room, s, m, (as.map (q_cv ad)).toArray, below, meth, c, va_A (q_cw cA ad 0 Wd) s.heap.size, s.heap, 0, 0, MQ below (q_QN D cA ad K (va_A (q_cw cA ad 0 Wd) s.heap.size)) (as.map (q_cv ad)).toArray s mc ms (va_A (q_cw cA ad 0 Wd) s.heap.size), D, cA, ad) as Wd K (ad 0) hs ⟨hx, hb, hown, fun w hw => hts w (List.mem_cons_of_mem _ hw), hK, fun q h => Or.inr h, Nat.le_refl _, Nat.le_refl _, Nat.zero_le _, Nat.zero_le _⟩ ⟨hr, hlocks, Nat.zero_le _, Nat.zero_le _, rfl, Nat.le_refl _, Nat.le_refl _, hin, rfl, ad, rfl, rfl⟩ s.heap [] _ ?_ (by rw [hlen]; exact hml.symm) hP hD va_S.rf
  rw [hlen]
  refine q_has_sub hl (fun q hq => ?_)
  unfold q_ent at hq
  rw [q_lvl_app, q_lvl_none, List.append_nil, q_lvl_args] at hq
  exact hq
theorem q_vretN {x : q_X} {cc : ByteArray} {own : String} {fr lo pc mc ms a0 : Nat} {lv : List (Option q_V)} {Wd : List q_E} {K : List q_E → Prop} (ok : q_ok x cc own fr lo) (fn : q_finN x mc ms a0 K) (hd : decode cc pc = .ok (.return_, 1)) (h : K Wd) : q_W x pc lv [] Wd := by
  obtain ⟨p, l, e, R, s, m, args, below, meth, c, A, H0, cells, slots, Q, D, cA, ad⟩ := x
  obtain ⟨hx, hb, hown, hts, hK, hA, hfr, hlo, hce, hsl⟩ := ok
  obtain ⟨hr, hlk, hc, hs, rfl, hmc, hms, hin, ha, ad1, ha1, rfl⟩ := fn
  intro H locs ls hl hn hP hD hS
  exact W.widen hc hs (W.vret hx hb hr (fun t ht hW => ⟨⟨ad, Wd, rfl, ha.trans ha1.symm, h, by rw [ht]; exact hP, va_K.moved hW.alike hK, hD⟩, hS.F ht⟩) hS.2.2 hd hlk)
theorem q_ok_ad {x : q_X} {cc : ByteArray} {own : String} {fr lo k n m a : Nat} (ok : q_ok (q_cs x k n) cc own fr lo) : q_ok (q_cs (q_ad x m a) k n) cc own fr lo := by
  obtain ⟨p, l, e, R, s, m, args, below, meth, c, A, H0, cells, slots, Q, D, cA, ad⟩ := x
  obtain ⟨hx, hb, hown, hts, hK, hA, hfr, hlo, hce, hsl⟩ := ok
  exact ⟨hx, hb, hown, hts, hK, hA, hfr, hlo, hce, hsl⟩
theorem q_fin_ad {x : q_X} {mc ms a0 k n k2 n2 m a : Nat} {K : List q_E → Prop} (fn : q_finN (q_cs x k n) mc ms a0 K) (h1 : k2 ≤ mc) (h2 : n2 ≤ ms) (hm : 0 < m) : q_finN (q_cs (q_ad x m a) k2 n2) mc ms a0 K := by
  obtain ⟨p, l, e, R, s, m9, args, below, meth, c, A, H0, cells, slots, Q, D, cA, ad⟩ := x
  obtain ⟨hr, hlk, hc, hs, hh, hmc, hms, hin, ha, h5⟩ := fn
  exact ⟨hr, hlk, h1, h2, hh, hmc, hms, hin, (va_up_ne _ _ (by omega)).trans ha, h5⟩
theorem q_fit_N {x : q_X} {mc ms a0 k n : Nat} {K : List q_E → Prop} (fn : q_finN (q_cs x k n) mc ms a0 K) : q_fit x mc ms := by
  obtain ⟨p, l, e, R, s, m9, args, below, meth, c, A, H0, cells, slots, Q, D, cA, ad⟩ := x
  obtain ⟨hr, hlk, hc, hs, hh, hmc, hms, hin, ha, h5⟩ := fn
  exact ⟨hmc, hms⟩
theorem q_ini_N {x : q_X} {mc ms a0 k n : Nat} {K : List q_E → Prop} (fn : q_finN (q_cs x k n) mc ms a0 K) : (q_cs x k n).2.2.2.2.2.2.2.2.1.name = "<init>" := by
  obtain ⟨p, l, e, R, s, m9, args, below, meth, c, A, H0, cells, slots, Q, D, cA, ad⟩ := x
  obtain ⟨hr, hlk, hc, hs, hh, hmc, hms, hin, ha, h5⟩ := fn
  exact hin
