-- THE LAW'S CALLS: room that grows, wrappers, the script
def q_cs (x : q_X) (k n : Nat) : q_X := match x with
  | (p, l, e, R, s, m, args, below, meth, c, A, H0, _, _, Q, D, cA, ad) => (p, l, e, R, s, m, args, below, meth, c, A, H0, k, n, Q, D, cA, ad)
def q_rl (x : q_X) (L : Nat) (xs : Nat → Int32) : Prop := match x with
  | (p, l, e, R, s, m, args, below, meth, c, A, H0, cells, slots, Q, D, cA, ad) => l.stackTraces = false ∧ q_Pn s ∧ q_Zs A s s.heap ∧ H0 = s.heap ∧ va_Nc exI exX s ∧ va_X (ad 16) L xs s H0 ∧ ad 16 < H0.size ∧ ¬ A (ad 16)
theorem q_rl_cs {x : q_X} {L : Nat} {xs : Nat → Int32} {k n : Nat} (h : q_rl x L xs) : q_rl (q_cs x k n) L xs := h
def q_fit (x : q_X) (k n : Nat) : Prop := match x with
  | (p, l, e, R, s, m, args, below, meth, c, A, H0, cells, slots, Q, D, cA, ad) => k ≤ R.cells ∧ n ≤ R.slots
theorem q_ok_cs {x : q_X} {cc : ByteArray} {own : String} {fr lo k n : Nat} (ok : q_ok x cc own fr lo) (h : q_fit x k n) : q_ok (q_cs x k n) cc own fr lo := by
  obtain ⟨p, l, e, R, s, m, args, below, meth, c, A, H0, cells, slots, Q, D, cA, ad⟩ := x
  obtain ⟨hx, hb, hown, hts, hK, hA, hfr, hlo, hce, hsl⟩ := ok
  exact ⟨hx, hb, hown, hts, hK, hA, hfr, hlo, h.1, h.2⟩
theorem q_fit_le {x : q_X} {k n k2 n2 : Nat} (h : q_fit x k n) (h1 : k2 ≤ k) (h2 : n2 ≤ n) : q_fit x k2 n2 := by
  obtain ⟨p, l, e, R, s, m, args, below, meth, c, A, H0, cells, slots, Q, D, cA, ad⟩ := x
  exact ⟨Nat.le_trans h1 h.1, Nat.le_trans h2 h.2⟩
theorem q_wide {x : q_X} {k n k2 n2 pc : Nat} {lv : List (Option q_V)} {st : List q_V} {Wd : List q_E} (h1 : k ≤ k2) (h2 : n ≤ n2) (kk : q_W (q_cs x k2 n2) pc lv st Wd) : q_W (q_cs x k n) pc lv st Wd := by
  obtain ⟨p, l, e, R, s, m, args, below, meth, c, A, H0, cells, slots, Q, D, cA, ad⟩ := x
  intro H locs ls hl hn hP hD hS
  exact W.widen h1 h2 (kk H locs ls hl hn hP hD hS)
/-- a wrapper, from the law -/
theorem q_callHS {x : q_X} {cc : ByteArray} {own : String} {fr lo pc k n : Nat} {lv : List (Option q_V)} {M S : List q_E} {y : MethodName} {b : ByteArray} {mL : Nat} {ret : Option FieldType} {hh : List (Nat × Nat × Nat × Nat)} {fr2 lo2 : Nat} {spec : List q_V → List q_E → (Option q_V → List q_E → Prop) → Prop} {ix L : Nat} {xs : Nat → Int32} (as : List q_V) {st : List q_V} (C : q_CtH y b mL ret hh fr2 lo2 spec)
    (hw : Cond.methodLink own ix y ∈ wsL_law ∧ Cond.static y ∈ wsL_law ∧ Cond.initialized y.cls ∈ wsL_law ∧ Cond.codeWith y b mL ret hh ∈ wsL_law) (hdc : y.cls ≠ "java/lang/invoke/MethodHandle" ∧ y.cls ≠ "java/lang/invoke/VarHandle" ∧ (parseMethodDescriptor y.desc).map (fun d => d.parameters.length) = some as.length)
    (ok : q_ok (q_cs x k n) cc own fr lo) (rl : q_rl x L xs) (hf : q_fit x (k + 1) (n + 6)) (hna : ∀ ad : Nat → Nat, as.map (q_cv (fun k => ad (([] : List q_E).length + k))) = as.map (q_cv ad)) (hR : fr2 + 1 ≤ fr ∧ 8 + (mL + 11) + lo2 ≤ lo) (hst : (st.map (fun v => if q_nol (some v) then 1 else 2)).sum ≤ 8) (hle : (q_lv0 as).length ≤ mL) (hd : decode cc pc = .ok (.invokestatic ix, 3))
    (hsp : spec as M (fun r M2 => M2.length = M.length ∧ q_nr r = true ∧ q_W (q_cs x (k + 1) (n + 6)) (pc + 3) lv (r.toList ++ st) (q_win [] M2 S))) : q_W (q_cs x k n) pc lv (as.reverse ++ st) (q_win [] M S) := by
  obtain ⟨p, l, e, R, s, m, args, below, meth, c, A, H0, cells, slots, Q, D, cA, ad⟩ := x
  obtain ⟨hx, hb, hown, hts, hK, hA, hfr, hlo, hce, hsl⟩ := ok
  obtain ⟨hstk, hPn, hZs, rfl, hNc, hsc⟩ := rl
  intro H locs ls hl hn hP hD hS
  have hM := C l hstk D cA (fun k => ad (([] : List q_E).length + k)) H.size as M _ hle hsp
  have hcat : ((st.map (q_cv ad)).map fun v => v.category).sum ≤ 8 := by
    rw [List.map_map]
    refine Nat.le_trans (Nat.le_of_eq ?_) hst
    congr 1
    refine List.map_congr_left (fun v _ => ?_)
    rcases v with u | u | (_ | u) <;> simp [q_cv, Value.category, q_nol]
  have hPM := (q_win_P.mp hP).2.1
  have hDM := q_win_D hD
  have hF : ∀ q, va_A (q_cw cA (fun k => ad (([] : List q_E).length + k)) 0 M) H.size q → A q := by
    intro q h
    rcases h with ⟨k, ee, h⟩ | h
    · exact hDM.2 k (q, ee) h
    · exact hA q (Nat.le_trans hS.1 h)
  have hG : GoodIn wsL_law (va_wsS own ix y (q_wsH y b mL ret hh)) := fun w hw2 => by
    unfold va_wsS at hw2
    have hm : w ∈ wsL_law := by
      rcases List.mem_append.mp hw2 with h | h
      · simp only [List.mem_cons, List.not_mem_nil, or_false] at h
        rcases h with rfl | rfl | rfl
        all_goals first | exact hw.1 | exact hw.2.1 | exact hw.2.2.1
      · rcases List.mem_cons.mp h with rfl | h
        · exact hw.2.2.2
        · exact h
    exact ⟨hm, (q_goodL w hm).2⟩
  have cw := vx_cwSW (R := R) (s := s) (args := args) (own := own) (index := ix) (maxL := mL) (mc := 1) (ms := 6) (y := y) (bytes := b) (ret := ret) (hh := hh) (Ts := wsL_law) (ws := q_wsH y b mL ret hh) (rm := q_rmX fr2 lo2) (as.map (q_cv (fun k => ad (([] : List q_E).length + k)))).length hts hG rfl rfl rfl ⟨hdc.1, hdc.2.1, by rw [List.length_map]; exact hdc.2.2⟩ ⟨Nat.le_trans hR.1 hfr, Nat.le_trans hR.2 hlo⟩
  refine q_backW (mc := 1) (ms := 6) (P := []) hA hl hn hP hD hS (vx_runSW (As := as.map (q_cv (fun k => ad (([] : List q_E).length + k)))) (nL := c.maxLocals) (Ts := wsL_law) ⟨hx, hb, rfl, hown, hts⟩ hM cw ⟨fun a U g mk q => by
      obtain ⟨q0, ⟨⟨q1, qP, qK, qD⟩, qN, qZ⟩, qc⟩ := q
      exact ⟨q0, ⟨⟨q1, qP, va_K.moved (u := U) (U := U.calling g mk a) (Vm.Alike.refl U.vm) qK, qD⟩, q_Pn.warm (s := U) (U := U.calling g mk a) (State.WarmedH.refl U) qN, q_Zs.moved (u := U) (U := U.calling g mk a) (Vm.Alike.refl U.vm) qZ⟩, va_Nc.moved (u := U) (U := U.calling g mk a) (Vm.Alike.refl U.vm) qc⟩, fun U hU hW => ⟨rfl, ⟨⟨by rw [hU], by rw [hU]; exact hPM, va_K.moved hW.alike hK, hDM.weaken (fun _ _ _ _ => trivial)⟩, q_Pn.warm hW hPn, by rw [hU]; exact ((hZs.moved hW.alike).kept hS.2.1).narrow hF⟩, va_Nc.moved hW.alike hNc⟩⟩ rfl rfl (hl.1.trans hn) (by rw [hna ad]; simp [List.map_reverse]) (lv_room hcat) hd ⟨hf.1, hf.2⟩)
/-- the script's ints -/
theorem q_sld {x : q_X} {cc : ByteArray} {own : String} {fr lo pc k n : Nat} {lv : List (Option q_V)} {st : List q_V} {Wd : List q_E} {L : Nat} {xs : Nat → Int32} {i : Nat} (ok : q_ok (q_cs x k n) cc own fr lo) (rl : q_rl x L xs) (hi : i < L) (hL : L ≤ 3074) (hd : decode cc pc = .ok (.iaload, 1)) (kk : q_W (q_cs x k n) (pc + 1) lv (.inl (xs i) :: st) Wd) : q_W (q_cs x k n) pc lv (.inl (nI i) :: .inr (.inr (some 16)) :: st) Wd := by
  obtain ⟨p, l, e, R, s, m, args, below, meth, c, A, H0, cells, slots, Q, D, cA, ad⟩ := x
  obtain ⟨hx, hb, hown, hts, hK, hA, hfr, hlo, hce, hsl⟩ := ok
  obtain ⟨hstk, hPn, hZs, rfl, hNc, hX, hbl, hbA⟩ := rl
  intro H locs ls hl hn hP hD hS
  refine va_sld hx hb hX hbl hbA hS (vp_in_nI hi (by omega)) hd ?_
  rw [nI_clamp (by omega)]
  exact kk H locs ls hl hn hP hD hS
theorem q_sln {x : q_X} {cc : ByteArray} {own : String} {fr lo pc k n : Nat} {lv : List (Option q_V)} {st : List q_V} {Wd : List q_E} {L : Nat} {xs : Nat → Int32} (ok : q_ok (q_cs x k n) cc own fr lo) (rl : q_rl x L xs) (hd : decode cc pc = .ok (.arraylength, 1)) (kk : q_W (q_cs x k n) (pc + 1) lv (.inl (nI L) :: st) Wd) : q_W (q_cs x k n) pc lv (.inr (.inr (some 16)) :: st) Wd := by
  obtain ⟨p, l, e, R, s, m, args, below, meth, c, A, H0, cells, slots, Q, D, cA, ad⟩ := x
  obtain ⟨hx, hb, hown, hts, hK, hA, hfr, hlo, hce, hsl⟩ := ok
  obtain ⟨hstk, hPn, hZs, rfl, hNc, hX, hbl, hbA⟩ := rl
  intro H locs ls hl hn hP hD hS
  refine va_slen hx hb hX hbl hbA hS hd ?_
  exact kk H locs ls hl hn hP hD hS
