-- PLACES GROW: new arrays
def q_ad (x : q_X) (k a : Nat) : q_X := match x with
  | (p, l, e, R, s, m, args, below, meth, c, A, H0, cells, slots, Q, D, cA, ad) => (p, l, e, R, s, m, args, below, meth, c, A, H0, cells, slots, Q, D, cA, va_up ad k a)
def q_rb (m : Nat) : q_V → Bool
  | .inr (.inr (some k)) => decide (k < m)
  | _ => true
def q_rbl (m : Nat) : List (Option q_V) → Bool
  | [] => true
  | none :: l => q_rbl m l
  | some v :: l => q_rb m v && q_rbl m l
def q_rbe (m : Nat) : q_E → Bool
  | .inl _ => true
  | .inr (_, fs) => fs.all (q_rb m)
theorem q_cv_u {ad : Nat → Nat} {m a : Nat} : ∀ {v : q_V}, q_rb m v = true → q_cv (va_up ad m a) v = q_cv ad v
  | .inl _, _ => rfl
  | .inr (.inl _), _ => rfl
  | .inr (.inr none), _ => rfl
  | .inr (.inr (some k)), h => by
    have h1 : k < m := of_decide_eq_true h
    show Value.ref (va_up ad m a k) = Value.ref (ad k)
    rw [va_up_ne _ _ (by omega)]
theorem q_lvl_u {ad : Nat → Nat} {m a : Nat} : ∀ {lv : List (Option q_V)} {i : Nat}, q_rbl m lv = true → q_lvl (va_up ad m a) i lv = q_lvl ad i lv
  | [], _, _ => rfl
  | none :: l, i, h => by
    simp only [q_lvl]
    exact q_lvl_u (lv := l) h
  | some v :: l, i, h => by
    simp only [q_rbl, Bool.and_eq_true] at h
    simp only [q_lvl]
    rw [q_cv_u h.1, q_lvl_u (lv := l) h.2]
theorem q_map_u {ad : Nat → Nat} {m a : Nat} : ∀ {fs : List q_V}, fs.all (q_rb m) = true → fs.map (q_cv (va_up ad m a)) = fs.map (q_cv ad)
  | [], _ => rfl
  | v :: l, h => by
    simp only [List.all_cons, Bool.and_eq_true] at h
    simp only [List.map_cons]
    rw [q_cv_u h.1, q_map_u (fs := l) h.2]
theorem q_ce_u {cA : Nat → ClassId} {ad : Nat → Nat} {m a : Nat} : ∀ {e : q_E}, q_rbe m e = true → q_ce cA (va_up ad m a) e = q_ce cA ad e
  | .inl (_, _, .inl _), _ => rfl
  | .inl (_, _, .inr _), _ => rfl
  | .inr (k, fs), h => by
    show Sum.inr (k, fs.map (q_cv (va_up ad m a))) = Sum.inr (k, fs.map (q_cv ad))
    rw [q_map_u h]
theorem q_cw_u {cA : Nat → ClassId} {ad : Nat → Nat} {m a : Nat} : ∀ {l : List q_E} {o : Nat}, l.all (q_rbe m) = true → o + l.length ≤ m → q_cw cA (va_up ad m a) o l = q_cw cA ad o l
  | [], _, _, _ => rfl
  | e :: l, o, h, ho => by
    simp only [List.all_cons, Bool.and_eq_true] at h
    simp only [List.length_cons] at ho
    show (va_up ad m a o, q_ce cA (va_up ad m a) e) :: q_cw cA (va_up ad m a) (o + 1) l = (ad o, q_ce cA ad e) :: q_cw cA ad (o + 1) l
    rw [va_up_ne _ _ (by omega), q_ce_u h.1, q_cw_u (l := l) h.2 (by omega)]
theorem q_newaG {x : q_X} {cc : ByteArray} {own : String} {fr lo pc k n : Nat} {lv : List (Option q_V)} {st : List q_V} {Wd : List q_E} {atype : ArrayType} {ty : FieldType} {t N : Nat} {e : q_E} {a0 : vp_A} {v : Int32} (ok : q_ok (q_cs x k n) cc own fr lo) (fit : q_fit x (k + 1) (n + N)) (harr : Cond.arrayClass ty ∈ wsL_law) (hty : newarray.typeOf atype = ty) (htys : ∀ cA : Nat → ClassId, (q_tys cA)[t]? = some (cA t, ty)) (hra : ∀ (U : State) (c : ClassId), va_RA U c ty = (U.vm.findClass ("[" ++ ty.toString) = some c))
    (hce : ∀ (cA : Nat → ClassId) (ad : Nat → Nat), q_ce cA ad e = .inl (cA t, a0)) (ha : ∀ c : ClassId, vp_cell c a0 = arrV c N (fun _ => defaultValue ty)) (hn0 : ¬ v < 0) (hN : v.toNatClampNeg = N) (hby : N * componentBytes ty ≤ 536870912) (hlv : q_rbl Wd.length lv = true) (hstk : st.all (q_rb Wd.length) = true) (hWd : Wd.all (q_rbe Wd.length) = true)
    (hd : decode cc pc = .ok (.newarray atype, 2)) (kk : ∀ a : Nat, q_W (q_cs (q_ad x Wd.length a) (k + 1) (n + N)) (pc + 2) lv (q_r Wd.length :: st) (Wd ++ [e])) : q_W (q_cs x k n) pc lv (.inl v :: st) Wd := by
  obtain ⟨p, l, e9, R, s, m, args, below, meth, c, A, H0, cells, slots, Q, D, cA, ad⟩ := x
  obtain ⟨hx, hb, hown, hts, hK, hA, hfr, hlo, hce9, hsl⟩ := ok
  intro H locs ls hl hn hP hD hS
  refine va_newa hx hb (by rw [hty]; exact hts _ harr) hty hK hP hD hS hA ha hn0 hN hby fit.1 fit.2 hd (fun q c2 H1 hK1 hP1 hD1 hS1 => ?_)
  have hc : c2 = cA t := by
    have h1 := (hK1.2 3 _ rfl).2
    have h2 := (hK.2 t _ (htys cA)).2
    rw [hra] at h1 h2
    exact Option.some.inj (h1.symm.trans h2)
  subst hc
  have ew : q_cw cA (va_up ad Wd.length q) 0 (Wd ++ [e]) = q_cw cA ad 0 Wd ++ [(q, Sum.inl (cA t, a0))] := by
    rw [q_cw_app, q_cw_u hWd (by omega)]
    show _ ++ [(va_up ad Wd.length q (0 + Wd.length), q_ce cA (va_up ad Wd.length q) e)] = _
    rw [Nat.zero_add, va_up_self, hce]
  have h1 := kk q H1 locs ls (by rw [q_lvl_u hlv]; exact hl) hn (by rw [ew]; exact hP1) (by rw [ew]; exact hD1) hS1
  have es : (q_r Wd.length :: st).map (q_cv (va_up ad Wd.length q)) = Value.ref q :: st.map (q_cv ad) := by
    simp only [List.map_cons]
    rw [q_map_u hstk]
    show Value.ref (va_up ad Wd.length q Wd.length) :: _ = _
    rw [va_up_self]
  rw [es] at h1
  exact h1
