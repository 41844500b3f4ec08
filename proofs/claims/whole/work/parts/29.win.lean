-- A CALL ON A PART OF THE WORLD: the law's world holds the cells of both classes
def q_sv (o : Nat) : q_V → q_V
  | .inl v => .inl v
  | .inr (.inl v) => .inr (.inl v)
  | .inr (.inr none) => .inr (.inr none)
  | .inr (.inr (some k)) => .inr (.inr (some (o + k)))
def q_se (o : Nat) : q_E → q_E
  | .inl a => .inl a
  | .inr (k, fs) => .inr (k, fs.map (q_sv o))
theorem q_cv_s (ad : Nat → Nat) (o : Nat) (v : q_V) : q_cv ad (q_sv o v) = q_cv (fun k => ad (o + k)) v := by
  rcases v with u | u | (_ | u) <;> rfl
theorem q_ce_s (cA : Nat → ClassId) (ad : Nat → Nat) (o : Nat) (e : q_E) : q_ce cA ad (q_se o e) = q_ce cA (fun k => ad (o + k)) e := by
  rcases e with ⟨t, n, f | f⟩ | ⟨k, fs⟩
  · rfl
  · rfl
  · show Sum.inr (k, (fs.map (q_sv o)).map (q_cv ad)) = Sum.inr (k, fs.map (q_cv (fun k => ad (o + k))))
    rw [List.map_map]
    congr 2
    exact List.map_congr_left (fun v _ => q_cv_s ad o v)
theorem q_cw_s (cA : Nat → ClassId) (ad : Nat → Nat) (o : Nat) : ∀ (l : List q_E) (i : Nat), q_cw cA ad (o + i) (l.map (q_se o)) = q_cw cA (fun k => ad (o + k)) i l
  | [], i => rfl
  | e :: l, i => by
    show (ad (o + i), q_ce cA ad (q_se o e)) :: q_cw cA ad (o + i + 1) (l.map (q_se o)) = _
    rw [q_ce_s, Nat.add_assoc, q_cw_s cA ad o l (i + 1)]; rfl
theorem q_cw_app (cA : Nat → ClassId) (ad : Nat → Nat) (l2 : List q_E) : ∀ (l : List q_E) (i : Nat), q_cw cA ad i (l ++ l2) = q_cw cA ad i l ++ q_cw cA ad (i + l.length) l2
  | [], i => rfl
  | e :: l, i => by
    show (ad i, q_ce cA ad e) :: q_cw cA ad (i + 1) (l ++ l2) = (ad i, q_ce cA ad e) :: (q_cw cA ad (i + 1) l ++ q_cw cA ad (i + (l.length + 1)) l2)
    rw [q_cw_app cA ad l2 l (i + 1), show i + 1 + l.length = i + (l.length + 1) by omega]
theorem q_cw_len (cA : Nat → ClassId) (ad : Nat → Nat) : ∀ (l : List q_E) (i : Nat), (q_cw cA ad i l).length = l.length
  | [], i => rfl
  | e :: l, i => congrArg (fun z => z + 1) (q_cw_len cA ad l (i + 1))
def q_win (P M S : List q_E) : List q_E := P ++ (M.map (q_se P.length) ++ S)
theorem q_win_cw (cA : Nat → ClassId) (ad : Nat → Nat) (P M S : List q_E) : q_cw cA ad 0 (q_win P M S) = q_cw cA ad 0 P ++ (q_cw cA (fun k => ad (P.length + k)) 0 M ++ q_cw cA ad (P.length + M.length) S) := by
  unfold q_win
  rw [q_cw_app, q_cw_app, List.length_map, Nat.zero_add]
  congr 2
  exact q_cw_s cA ad P.length M 0
theorem q_P_app {D : va_G} {cl : List vw_C} {w1 w2 : va_W} {H : Heap} : va_P D cl (w1 ++ w2) H ↔ va_P D cl w1 H ∧ va_P D cl w2 H := by
  constructor
  · intro h
    refine ⟨fun k q hk => h k q ?_, fun k q hk => h (w1.length + k) q ?_⟩
    · rw [List.getElem?_append_left (List.getElem?_eq_some_iff.mp hk).1]; exact hk
    · rw [List.getElem?_append_right (by omega), show w1.length + k - w1.length = k by omega]; exact hk
  · exact fun h => h.1.app h.2
theorem q_win_P {D : va_G} {cA : Nat → ClassId} {ad : Nat → Nat} {P M S : List q_E} {H : Heap} : va_P D vwCl (q_cw cA ad 0 (q_win P M S)) H ↔ va_P D vwCl (q_cw cA ad 0 P) H ∧ va_P D vwCl (q_cw cA (fun k => ad (P.length + k)) 0 M) H ∧ va_P D vwCl (q_cw cA ad (P.length + M.length) S) H := by
  rw [q_win_cw, q_P_app, q_P_app]
/-- places apart: a matter of addresses alone -/
theorem q_D_iff {A : Nat → Prop} {cA : Nat → ClassId} {ad : Nat → Nat} {l : List q_E} : va_D A (q_cw cA ad 0 l) ↔ (∀ i j, i < l.length → j < l.length → ad i = ad j → i = j) ∧ ∀ i, i < l.length → A (ad i) := by
  have hg : ∀ i, i < l.length → ∃ e, (q_cw cA ad 0 l)[i]? = some (ad i, e) := fun i hi => ⟨_, q_cw_get0 (List.getElem?_eq_getElem hi)⟩
  have hb : ∀ i p, (q_cw cA ad 0 l)[i]? = some p → i < l.length ∧ p.1 = ad i := fun i p h => by
    have h1 := (List.getElem?_eq_some_iff.mp h).1
    rw [q_cw_len] at h1
    obtain ⟨e, he⟩ := hg i h1
    rw [he] at h; cases h
    exact ⟨h1, rfl⟩
  constructor
  · intro h
    refine ⟨fun i j hi hj e => ?_, fun i hi => ?_⟩
    · obtain ⟨e1, h1⟩ := hg i hi
      obtain ⟨e2, h2⟩ := hg j hj
      exact h.1 i j _ _ h1 h2 e
    · obtain ⟨e1, h1⟩ := hg i hi
      exact h.2 i _ h1
  · intro h
    refine ⟨fun i j p q h1 h2 e => ?_, fun i p h1 => ?_⟩
    · obtain ⟨a1, a2⟩ := hb i p h1
      obtain ⟨b1, b2⟩ := hb j q h2
      exact h.1 i j a1 b1 (by rw [← a2, ← b2]; exact e)
    · obtain ⟨a1, a2⟩ := hb i p h1
      rw [a2]; exact h.2 i a1
theorem q_win_len (P M S : List q_E) : (q_win P M S).length = P.length + M.length + S.length := by
  unfold q_win; rw [List.length_append, List.length_append, List.length_map]; omega
theorem q_win_D {A : Nat → Prop} {cA : Nat → ClassId} {ad : Nat → Nat} {P M S : List q_E} (h : va_D A (q_cw cA ad 0 (q_win P M S))) : va_D A (q_cw cA (fun k => ad (P.length + k)) 0 M) := by
  rw [q_D_iff, q_win_len] at h
  rw [q_D_iff]
  exact ⟨fun i j hi hj e => by have := h.1 (P.length + i) (P.length + j) (by omega) (by omega) e; omega, fun i hi => h.2 (P.length + i) (by omega)⟩
theorem q_win_D2 {A : Nat → Prop} {cA : Nat → ClassId} {ad : Nat → Nat} {P M M2 S : List q_E} (h : va_D A (q_cw cA ad 0 (q_win P M S))) (hl : M2.length = M.length) : va_D A (q_cw cA ad 0 (q_win P M2 S)) := by
  rw [q_D_iff, q_win_len] at h ⊢
  rw [hl]; exact h
/-- the cells beside the part are kept -/
theorem q_win_k {D : va_G} {A : Nat → Prop} {cA : Nat → ClassId} {ad : Nat → Nat} {P M M2 S : List q_E} {H H1 : Heap} (hP : va_P D vwCl (q_cw cA ad 0 (q_win P M S)) H) (hD : va_D A (q_cw cA ad 0 (q_win P M S))) (hk : ∀ q : Nat, q < H.size → ¬ va_A (q_cw cA (fun k => ad (P.length + k)) 0 M) H.size q → H1[q]? = H[q]?) (hM : va_P D vwCl (q_cw cA (fun k => ad (P.length + k)) 0 M2) H1) (hl : M2.length = M.length) : va_P D vwCl (q_cw cA ad 0 (q_win P M2 S)) H1 := by
  have hP0 := hP
  rw [q_win_P] at hP ⊢
  have hD0 := hD
  rw [q_D_iff, q_win_len] at hD0
  have key : ∀ i, i < P.length + M.length + S.length → (i < P.length ∨ P.length + M.length ≤ i) → H1[ad i]? = H[ad i]? := by
    intro i hi ho
    have hlt : ad i < H.size := by
      have : i < (q_win P M S).length := by rw [q_win_len]; exact hi
      exact (hP0 i _ (q_cw_get0 (List.getElem?_eq_getElem this))).lt
    refine hk _ hlt (fun z => ?_)
    rcases z with ⟨k, e, z⟩ | z
    · have h1 := (List.getElem?_eq_some_iff.mp z).1
      rw [q_cw_len] at h1
      rw [q_cw_get0 (List.getElem?_eq_getElem h1)] at z
      have z2 : ad (P.length + k) = ad i := congrArg Prod.fst (Option.some.inj z)
      have := hD0.1 (P.length + k) i (by omega) hi z2
      omega
    · omega
  refine ⟨hP.1.kept (fun k q h => ?_), hM, ?_⟩
  · have h1 := (List.getElem?_eq_some_iff.mp h).1
    rw [q_cw_len] at h1
    rw [q_cw_get0 (List.getElem?_eq_getElem h1)] at h
    cases h
    exact key k (by omega) (Or.inl h1)
  · rw [hl]
    refine hP.2.2.kept (fun k q h => ?_)
    have h1 := (List.getElem?_eq_some_iff.mp h).1
    rw [q_cw_len] at h1
    rw [q_cw_get, List.getElem?_eq_getElem h1] at h
    cases h
    exact key _ (by omega) (Or.inr (by omega))
def q_nr : Option q_V → Bool
  | some (.inr (.inr _)) => false
  | _ => true
theorem q_nr_e {ad ad2 : Nat → Nat} : ∀ {r : Option q_V}, q_nr r = true → r.map (q_cv ad) = r.map (q_cv ad2)
  | none, _ => rfl
  | some (.inl _), _ => rfl
  | some (.inr (.inl _)), _ => rfl
  | some (.inr (.inr _)), h => by cases h
theorem q_backW {p : Program} {l : Launch} {e : Env} {R : Room} {s : State} {m : MethodId} {args : Array Value} {below : List Frame} {meth : Method} {c : Code} {A : Nat → Prop} {H0 : Heap} {cells slots : Nat} {Q : State → Prop} {D : va_G} {cA : Nat → ClassId} {ad : Nat → Nat} {H : Heap} {locs : List Loc} {ls : Array Slot} {pc mc ms : Nat} {lv : List (Option q_V)} {st : List q_V} {P M S : List q_E} {st0 : List Value} {a : Array Value}
    (hA : ∀ q : Nat, H0.size ≤ q → A q) (hl : lv_has ls lv.length (q_lvl ad 0 lv)) (hn : lv.length = c.maxLocals) (hP : va_P D vwCl (q_cw cA ad 0 (q_win P M S)) H) (hD : va_D A (q_cw cA ad 0 (q_win P M S))) (hS : va_S A H0 H locs)
    (run : va_Run p l e R s m args below meth c H locs cells slots mc ms (F0 m pc ls st0) (st.map (q_cv ad)) (q_Q D cA (fun k => ad (P.length + k)) (fun r M2 => M2.length = M.length ∧ q_nr r = true ∧ q_W (p, l, e, R, s, m, args, below, meth, c, A, H0, cells + mc, slots + ms, Q, D, cA, ad) (pc + 3) lv (r.toList ++ st) (q_win P M2 S)) (va_A (q_cw cA (fun k => ad (P.length + k)) 0 M) H.size) a) (va_A (q_cw cA (fun k => ad (P.length + k)) 0 M) H.size)) :
    W p l e R s m args below meth c H locs cells slots Q (F0 m pc ls st0) := by
  have hDM := q_win_D hD
  have hF : ∀ q, va_A (q_cw cA (fun k => ad (P.length + k)) 0 M) H.size q → A q := by
    intro q h
    rcases h with ⟨k, ee, h⟩ | h
    · exact hDM.2 k (q, ee) h
    · exact hA q (Nat.le_trans hS.1 h)
  intro T hT X
  obtain ⟨v, st₀, t, T', L, h0, X', hL, e1, e2, ⟨⟨r, M2, hv, ⟨hlen, hnr, hk⟩, hP2, hK2, hD2⟩, hz, hkp⟩, stp⟩ := run T hT X
  cases hv
  rw [h0] at hz hkp
  rw [q_nr_e (ad2 := ad) hnr] at stp
  have hstk : (r.map (q_cv ad)).toList ++ st.map (q_cv ad) = (r.toList ++ st).map (q_cv ad) := by cases r <;> rfl
  obtain ⟨t2, a1, b1⟩ := hk T'.heap (locs ++ L) ls hl hn (by rw [e1]; exact q_win_k hP hD hkp hP2 hlen) (q_win_D2 hD hlen) ⟨Nat.le_trans hS.1 (by rw [e1]; exact hz), fun q h1 h2 => by rw [e1, hkp q (Nat.lt_of_lt_of_le h1 hS.1) (fun z => h2 (hF q z))]; exact hS.2.1 q h1 h2, fun q hq => by
      rcases List.mem_append.mp hq with h | h
      · exact hS.2.2 q h
      · exact hF _ (hL q h)⟩ T' rfl X'
  rw [← hstk] at a1
  exact ⟨t2, stp t2 a1, b1⟩
theorem q_callWV {x : q_X} {cc : ByteArray} {own : String} {fr lo pc : Nat} {lv : List (Option q_V)} {P M S : List q_E} {y : MethodName} {b : ByteArray} {n : Nat} {ret : Option FieldType} {fr2 lo2 : Nat} {spec : List q_V → List q_E → (Option q_V → List q_E → Prop) → Prop} {ix ci N : Nat} {T : u_T} {fs : List q_V} (as : List q_V) {st : List q_V} (C : q_Ct y b n ret fr2 lo2 spec)
    (hw : Cond.methodLink own ix y ∈ wsL_law ∧ Cond.instanceMethod y ∈ wsL_law ∧ Cond.selects y.cls y y ∈ wsL_law ∧ Cond.initialized y.cls ∈ wsL_law ∧ Cond.code y b n ret ∈ wsL_law) (hdc : y.cls ≠ "java/lang/invoke/MethodHandle" ∧ y.cls ≠ "java/lang/invoke/VarHandle" ∧ (parseMethodDescriptor y.desc).map (fun d => d.parameters.length) = some as.length)
    (hcl : vwCl[ci]? = some (y.cls, T, N)) (ok : q_ok x cc own fr lo) (he : M[0]? = some (.inr (ci, fs))) (hna : ∀ ad ad2 : Nat → Nat, as.map (q_cv ad) = as.map (q_cv ad2)) (hR : fr2 + 1 ≤ fr ∧ 8 + (n + 11) + lo2 ≤ lo) (hst : (st.map (fun v => if q_nol (some v) then 1 else 2)).sum ≤ 8) (hle : (q_lv0 (q_r 0 :: as)).length ≤ n) (hd : decode cc pc = .ok (.invokevirtual ix, 3))
    (hsp : spec (q_r 0 :: as) M (fun r M2 => M2.length = M.length ∧ q_nr r = true ∧ q_W x (pc + 3) lv (r.toList ++ st) (q_win P M2 S))) : q_W x pc lv (as.reverse ++ q_r P.length :: st) (q_win P M S) := by
  obtain ⟨p, l, e, R, s, m, args, below, meth, c, A, H0, cells, slots, Q, D, cA, ad⟩ := x
  obtain ⟨hx, hb, hown, hts, hK, hA, hfr, hlo, hce, hsl⟩ := ok
  intro H locs ls hl hn hP hD hS
  have hM := C l D cA (fun k => ad (P.length + k)) H.size (q_r 0 :: as) M _ hle hsp
  have hcat : ((st.map (q_cv ad)).map fun v => v.category).sum ≤ 8 := by
    rw [List.map_map]
    refine Nat.le_trans (Nat.le_of_eq ?_) hst
    congr 1
    refine List.map_congr_left (fun v _ => ?_)
    rcases v with u | u | (_ | u) <;> simp [q_cv, Value.category, q_nol]
  have hdl : (parseMethodDescriptor y.desc).map (fun d => d.parameters.length) = some (as.map (q_cv (fun k => ad (P.length + k)))).length := by rw [List.length_map]; exact hdc.2.2
  have cw : CallW R s args own y.cls ix y b n ret (q_ws y b n ret) (q_rm fr2 lo2) 0 0 (as.map (q_cv (fun k => ad (P.length + k)))).length :=
    ⟨callB_of _ hts (q_gws hw.2.2.2.2) rfl rfl rfl (hts _ hw.2.2.2.1) (hts _ hw.1) ⟨hdc.1, hdc.2.1, hdl⟩ ⟨Nat.le_trans hR.1 hfr, Nat.le_trans hR.2 hlo⟩, hts _ hw.2.1, hts _ hw.2.2.1⟩
  have hPM := (q_win_P.mp hP).2.1
  refine q_backW (mc := 0) (ms := 0) hA hl hn hP hD hS (va_runV (As := as.map (q_cv (fun k => ad (P.length + k)))) (b := ad (P.length + 0)) (nL := c.maxLocals) (Ts := wsL_law) ⟨hx, hb, rfl, hown, hts⟩ hM cw ⟨q_blind, va_recv hK hPM hcl (q_cw_get0 he), fun U hU hW => ⟨rfl, by rw [hU], by rw [hU]; exact hPM, va_K.moved hW.alike hK, (q_win_D hD).weaken (fun _ _ _ _ => trivial)⟩⟩ rfl rfl (hl.1.trans hn) (by rw [hna (fun k => ad (P.length + k)) ad]; simp [List.map_reverse, q_cv]) (lv_room hcat) hd ⟨hce, hsl⟩)
