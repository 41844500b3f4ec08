-- THE ABSTRACT LAYER: values, cells and worlds by their places; one row an instruction
abbrev q_V : Type := Int32 ⊕ (Int64 ⊕ Option Nat)
abbrev q_i (v : Int32) : q_V := .inl v
abbrev q_l (v : Int64) : q_V := .inr (.inl v)
abbrev q_r (k : Nat) : q_V := .inr (.inr (some k))
def q_cv (ad : Nat → Nat) : q_V → Value
  | .inl x => .int x
  | .inr (.inl x) => .long x
  | .inr (.inr none) => .null
  | .inr (.inr (some k)) => .ref (ad k)
abbrev q_E : Type := (Nat × Nat × ((Nat → Int32) ⊕ (Nat → Int64))) ⊕ (Nat × List q_V)
def q_ce (cA : Nat → ClassId) (ad : Nat → Nat) : q_E → va_E
  | .inl (t, n, .inl f) => .inl (cA t, n, .inl f)
  | .inl (t, n, .inr f) => .inl (cA t, n, .inr (.inl f))
  | .inr (k, fs) => .inr (k, fs.map (q_cv ad))
def q_cw (cA : Nat → ClassId) (ad : Nat → Nat) : Nat → List q_E → va_W
  | _, [] => []
  | k, e :: l => (ad k, q_ce cA ad e) :: q_cw cA ad (k + 1) l
theorem q_cw_get (cA : Nat → ClassId) (ad : Nat → Nat) : ∀ (l : List q_E) (o k : Nat), (q_cw cA ad o l)[k]? = (l[k]?).map (fun e => (ad (o + k), q_ce cA ad e))
  | [], o, k => by simp [q_cw]
  | e :: l, o, 0 => by simp [q_cw]
  | e :: l, o, k + 1 => by
    have h := q_cw_get cA ad l (o + 1) k
    simp only [q_cw, List.getElem?_cons_succ]
    rw [h, show o + 1 + k = o + (k + 1) by omega]
theorem q_cw_set (cA : Nat → ClassId) (ad : Nat → Nat) (e' : q_E) : ∀ (l : List q_E) (o k : Nat), q_cw cA ad o (l.set k e') = (q_cw cA ad o l).set k (ad (o + k), q_ce cA ad e')
  | [], o, k => by simp [q_cw]
  | e :: l, o, 0 => by simp [q_cw]
  | e :: l, o, k + 1 => by
    have h := q_cw_set cA ad e' l (o + 1) k
    simp only [q_cw, List.set_cons_succ]
    rw [h, show o + 1 + k = o + (k + 1) by omega]
theorem q_cw_get0 {cA : Nat → ClassId} {ad : Nat → Nat} {l : List q_E} {k : Nat} {e : q_E} (h : l[k]? = some e) : (q_cw cA ad 0 l)[k]? = some (ad k, q_ce cA ad e) := by
  rw [q_cw_get, h]; simp
theorem q_cw_set0 {cA : Nat → ClassId} {ad : Nat → Nat} {l : List q_E} {k : Nat} {e : q_E} : (q_cw cA ad 0 l).set k (ad k, q_ce cA ad e) = q_cw cA ad 0 (l.set k e) := by
  rw [q_cw_set]; simp
def q_tys (cA : Nat → ClassId) : List (ClassId × FieldType) := [(cA 0, .int), (cA 1, .long), (cA 2, .boolean)]
/-- the listed locals, by their places -/
def q_lvl (ad : Nat → Nat) : Nat → List (Option q_V) → List (Nat × Value)
  | _, [] => []
  | i, none :: l => q_lvl ad (i + 1) l
  | i, some v :: l => (i, q_cv ad v) :: q_lvl ad (i + 1) l
theorem q_lvl_mem (ad : Nat → Nat) : ∀ (l : List (Option q_V)) (i : Nat) (q : Nat × Value), q ∈ q_lvl ad i l ↔ ∃ (k : Nat) (v : q_V), l[k]? = some (some v) ∧ q = (i + k, q_cv ad v)
  | [], i, q => by simp [q_lvl]
  | none :: l, i, q => by
    rw [q_lvl, q_lvl_mem ad l (i + 1) q]
    constructor
    · rintro ⟨k, v, h, rfl⟩
      exact ⟨k + 1, v, by simpa using h, by rw [show i + 1 + k = i + (k + 1) by omega]⟩
    · rintro ⟨k, v, h, rfl⟩
      cases k with
      | zero => simp at h
      | succ k => exact ⟨k, v, by simpa using h, by rw [show i + 1 + k = i + (k + 1) by omega]⟩
  | some u :: l, i, q => by
    rw [q_lvl, List.mem_cons, q_lvl_mem ad l (i + 1) q]
    constructor
    · rintro (rfl | ⟨k, v, h, rfl⟩)
      · exact ⟨0, u, by simp, by simp⟩
      · exact ⟨k + 1, v, by simpa using h, by rw [show i + 1 + k = i + (k + 1) by omega]⟩
    · rintro ⟨k, v, h, rfl⟩
      cases k with
      | zero =>
        left
        simp at h
        rw [h]; simp
      | succ k => exact Or.inr ⟨k, v, by simpa using h, by rw [show i + 1 + k = i + (k + 1) by omega]⟩
theorem q_lvl_at {ad : Nat → Nat} {ls : Array Slot} {n : Nat} {l : List (Option q_V)} (h : lv_has ls n (q_lvl ad 0 l)) {k : Nat} {v : q_V} (hk : l[k]? = some (some v)) : ls[k]? = some (.val (q_cv ad v)) :=
  h.2.2 (k, q_cv ad v) ((q_lvl_mem ad l 0 _).mpr ⟨k, v, hk, by simp⟩)
theorem q_has_sub {ls : Array Slot} {n : Nat} {l l' : List (Nat × Value)} (h : lv_has ls n l) (hs : ∀ q ∈ l', q ∈ l) : lv_has ls n l' := ⟨h.1, h.2.1, fun q hq => h.2.2 q (hs q hq)⟩
def q_nol : Option q_V → Bool
  | some (.inr (.inl _)) => false
  | _ => true
theorem q_cat2 {ad : Nat → Nat} {v : q_V} (h : (q_cv ad v).category = 2) : q_nol (some v) = false := by
  rcases v with x | x | (_ | k) <;> simp [q_cv, Value.category, q_nol] at h ⊢
theorem q_cat2' {ad : Nat → Nat} {v : q_V} : ((q_cv ad v).category == 2) = !q_nol (some v) := by
  rcases v with x | x | (_ | k) <;> simp [q_cv, Value.category, q_nol]
/-- the place ahead holds no long -/
def q_fre : Nat → List (Option q_V) → Bool
  | 0, _ => true
  | i + 1, l => match l[i]? with
    | some o => q_nol o
    | none => true
theorem q_st1 {ad : Nat → Nat} {lv : List (Option q_V)} {i : Nat} {v : q_V} (hp : q_fre i lv = true) {q : Nat × Value} (h : q ∈ q_lvl ad 0 (lv.set i (some v))) : q ∈ (i, q_cv ad v) :: (q_lvl ad 0 lv).filter (fun q => !(q.1 == i) && !(q.1 + 1 == i && q.2.category == 2)) := by
  obtain ⟨k, u, hk, rfl⟩ := (q_lvl_mem ad _ 0 _).mp h
  rw [List.getElem?_set] at hk
  by_cases e : i = k
  · subst e
    simp only [if_true] at hk
    split at hk
    · cases hk; simp
    · cases hk
  · rw [if_neg e] at hk
    refine List.mem_cons_of_mem _ (List.mem_filter.mpr ⟨(q_lvl_mem ad _ 0 _).mpr ⟨k, u, hk, rfl⟩, ?_⟩)
    simp only [Nat.zero_add]
    have h1 : (k == i) = false := by simp; omega
    rw [h1]
    by_cases h2 : k + 1 = i
    · subst h2
      simp only [q_fre, hk] at hp
      rw [q_cat2', hp]; simp
    · have h3 : (k + 1 == i) = false := by simp; omega
      rw [h3]; rfl
theorem q_st2 {ad : Nat → Nat} {lv : List (Option q_V)} {i : Nat} {v : q_V} (hp : q_fre i lv = true) {q : Nat × Value} (h : q ∈ q_lvl ad 0 ((lv.set i (some v)).set (i + 1) none)) : q ∈ (i, q_cv ad v) :: (q_lvl ad 0 lv).filter (fun q => !(q.1 == i) && (!(q.1 == i + 1) && !(q.1 + 1 == i && q.2.category == 2))) := by
  obtain ⟨k, u, hk, rfl⟩ := (q_lvl_mem ad _ 0 _).mp h
  rw [List.getElem?_set] at hk
  by_cases e : i + 1 = k
  · subst e
    simp only [if_true] at hk
    split at hk
    · cases hk
    · cases hk
  · rw [if_neg e, List.getElem?_set] at hk
    by_cases e2 : i = k
    · subst e2
      simp only [if_true] at hk
      split at hk
      · cases hk; simp
      · cases hk
    · rw [if_neg e2] at hk
      refine List.mem_cons_of_mem _ (List.mem_filter.mpr ⟨(q_lvl_mem ad _ 0 _).mpr ⟨k, u, hk, rfl⟩, ?_⟩)
      simp only [Nat.zero_add]
      have h1 : (k == i) = false := by simp; omega
      have h4 : (k == i + 1) = false := by simp; omega
      rw [h1, h4]
      by_cases h2 : k + 1 = i
      · subst h2
        simp only [q_fre, hk] at hp
        rw [q_cat2', hp]; simp
      · have h3 : (k + 1 == i) = false := by simp; omega
        rw [h3]; rfl
abbrev q_X : Type := Program × Launch × Env × Room × State × MethodId × Array Value × List Frame × Method × Code × (Nat → Prop) × Heap × Nat × Nat × (State → Prop) × va_G × (Nat → ClassId) × (Nat → Nat)
def q_W (x : q_X) (pc : Nat) (lv : List (Option q_V)) (st : List q_V) (Wd : List q_E) : Prop := match x with
  | (p, l, e, R, s, m, args, below, meth, c, A, H0, cells, slots, Q, D, cA, ad) => ∀ (H : Heap) (locs : List Loc) (ls : Array Slot), lv_has ls lv.length (q_lvl ad 0 lv) → lv.length = c.maxLocals → va_P D vwCl (q_cw cA ad 0 Wd) H → va_D A (q_cw cA ad 0 Wd) → va_S A H0 H locs → W p l e R s m args below meth c H locs cells slots Q (F0 m pc ls (st.map (q_cv ad)))
def q_ok (x : q_X) (cc : ByteArray) (own : String) (fr lo : Nat) : Prop := match x with
  | (p, l, e, R, s, m, args, below, meth, c, A, H0, cells, slots, Q, D, cA, ad) => p.tables.exec = Jvm.exec ∧ c.code = cc ∧ s.vm.findClass own = some m.cls ∧ (∀ w ∈ wsL_law, w.before args s = true) ∧ va_K D vwCl (q_tys cA) s ∧ (∀ q : Nat, H0.size ≤ q → A q) ∧ fr ≤ R.frames ∧ lo ≤ R.locals ∧ cells ≤ R.cells ∧ slots ≤ R.slots

theorem q_iconst {x : q_X} {cc : ByteArray} {own : String} {fr lo pc : Nat} {lv : List (Option q_V)} {st : List q_V} {Wd : List q_E} {n : Int} (ok : q_ok x cc own fr lo) (hd : decode cc pc = .ok (.iconst n, 1)) (kk : q_W x (pc + 1) lv (.inl (Int32.ofInt n) :: st) Wd) : q_W x pc lv (st) Wd := by
  obtain ⟨p, l, e, R, s, m, args, below, meth, c, A, H0, cells, slots, Q, D, cA, ad⟩ := x
  obtain ⟨hx, hb, hown, hts, hK, hA, hfr, hlo, hce, hsl⟩ := ok
  intro H locs ls hl hn hP hD hS
  exact lv_iconst hx hb hd rfl (kk H locs ls hl hn hP hD hS)
theorem q_bipush {x : q_X} {cc : ByteArray} {own : String} {fr lo pc : Nat} {lv : List (Option q_V)} {st : List q_V} {Wd : List q_E} {n : Int} (ok : q_ok x cc own fr lo) (hd : decode cc pc = .ok (.bipush n, 2)) (kk : q_W x (pc + 2) lv (.inl ((Int8.ofInt n).toInt32) :: st) Wd) : q_W x pc lv (st) Wd := by
  obtain ⟨p, l, e, R, s, m, args, below, meth, c, A, H0, cells, slots, Q, D, cA, ad⟩ := x
  obtain ⟨hx, hb, hown, hts, hK, hA, hfr, hlo, hce, hsl⟩ := ok
  intro H locs ls hl hn hP hD hS
  exact lv_bipush hx hb hd rfl (kk H locs ls hl hn hP hD hS)
theorem q_sipush {x : q_X} {cc : ByteArray} {own : String} {fr lo pc : Nat} {lv : List (Option q_V)} {st : List q_V} {Wd : List q_E} {n : Int} (ok : q_ok x cc own fr lo) (hd : decode cc pc = .ok (.sipush n, 3)) (kk : q_W x (pc + 3) lv (.inl ((Int16.ofInt n).toInt32) :: st) Wd) : q_W x pc lv (st) Wd := by
  obtain ⟨p, l, e, R, s, m, args, below, meth, c, A, H0, cells, slots, Q, D, cA, ad⟩ := x
  obtain ⟨hx, hb, hown, hts, hK, hA, hfr, hlo, hce, hsl⟩ := ok
  intro H locs ls hl hn hP hD hS
  exact lv_sipush hx hb hd rfl (kk H locs ls hl hn hP hD hS)
theorem q_iconstv {x : q_X} {cc : ByteArray} {own : String} {fr lo pc : Nat} {lv : List (Option q_V)} {st : List q_V} {Wd : List q_E} {n : Int} (v : Int32) (ok : q_ok x cc own fr lo) (hv : Int32.ofInt n = v) (hd : decode cc pc = .ok (.iconst n, 1)) (kk : q_W x (pc + 1) lv (.inl v :: st) Wd) : q_W x pc lv (st) Wd := by
  obtain ⟨p, l, e, R, s, m, args, below, meth, c, A, H0, cells, slots, Q, D, cA, ad⟩ := x
  obtain ⟨hx, hb, hown, hts, hK, hA, hfr, hlo, hce, hsl⟩ := ok
  intro H locs ls hl hn hP hD hS
  exact lv_iconst hx hb hd hv (kk H locs ls hl hn hP hD hS)
theorem q_bipushv {x : q_X} {cc : ByteArray} {own : String} {fr lo pc : Nat} {lv : List (Option q_V)} {st : List q_V} {Wd : List q_E} {n : Int} (v : Int32) (ok : q_ok x cc own fr lo) (hv : (Int8.ofInt n).toInt32 = v) (hd : decode cc pc = .ok (.bipush n, 2)) (kk : q_W x (pc + 2) lv (.inl v :: st) Wd) : q_W x pc lv (st) Wd := by
  obtain ⟨p, l, e, R, s, m, args, below, meth, c, A, H0, cells, slots, Q, D, cA, ad⟩ := x
  obtain ⟨hx, hb, hown, hts, hK, hA, hfr, hlo, hce, hsl⟩ := ok
  intro H locs ls hl hn hP hD hS
  exact lv_bipush hx hb hd hv (kk H locs ls hl hn hP hD hS)
theorem q_sipushv {x : q_X} {cc : ByteArray} {own : String} {fr lo pc : Nat} {lv : List (Option q_V)} {st : List q_V} {Wd : List q_E} {n : Int} (v : Int32) (ok : q_ok x cc own fr lo) (hv : (Int16.ofInt n).toInt32 = v) (hd : decode cc pc = .ok (.sipush n, 3)) (kk : q_W x (pc + 3) lv (.inl v :: st) Wd) : q_W x pc lv (st) Wd := by
  obtain ⟨p, l, e, R, s, m, args, below, meth, c, A, H0, cells, slots, Q, D, cA, ad⟩ := x
  obtain ⟨hx, hb, hown, hts, hK, hA, hfr, hlo, hce, hsl⟩ := ok
  intro H locs ls hl hn hP hD hS
  exact lv_sipush hx hb hd hv (kk H locs ls hl hn hP hD hS)
theorem q_lconstv {x : q_X} {cc : ByteArray} {own : String} {fr lo pc : Nat} {lv : List (Option q_V)} {st : List q_V} {Wd : List q_E} {n : Fin 2} (v : Int64) (ok : q_ok x cc own fr lo) (hv : Int64.ofNat (n : Nat) = v) (hd : decode cc pc = .ok (.lconst n, 1)) (kk : q_W x (pc + 1) lv (.inr (.inl v) :: st) Wd) : q_W x pc lv (st) Wd := by
  obtain ⟨p, l, e, R, s, m, args, below, meth, c, A, H0, cells, slots, Q, D, cA, ad⟩ := x
  obtain ⟨hx, hb, hown, hts, hK, hA, hfr, hlo, hce, hsl⟩ := ok
  intro H locs ls hl hn hP hD hS
  exact lv_lconst hx hb hd hv (kk H locs ls hl hn hP hD hS)
theorem q_ldc2 {x : q_X} {cc : ByteArray} {own : String} {fr lo pc : Nat} {lv : List (Option q_V)} {st : List q_V} {Wd : List q_E} {ix : Nat} (v : Int64) (ok : q_ok x cc own fr lo) (hc : Cond.constantLong own ix v ∈ wsL_law) (hd : decode cc pc = .ok (.ldc2_w ix, 3)) (kk : q_W x (pc + 3) lv (.inr (.inl v) :: st) Wd) : q_W x pc lv (st) Wd := by
  obtain ⟨p, l, e, R, s, m, args, below, meth, c, A, H0, cells, slots, Q, D, cA, ad⟩ := x
  obtain ⟨hx, hb, hown, hts, hK, hA, hfr, hlo, hce, hsl⟩ := ok
  intro H locs ls hl hn hP hD hS
  exact lv_ldc2 hx hb hown (hts _ hc) hd (kk H locs ls hl hn hP hD hS)
theorem q_iload {x : q_X} {cc : ByteArray} {own : String} {fr lo pc : Nat} {lv : List (Option q_V)} {st : List q_V} {Wd : List q_E} {i : Nat} {v : Int32} (ok : q_ok x cc own fr lo) (hv : lv[i]? = some (some (.inl v))) (hd : decode cc pc = .ok (.iload i, 2)) (kk : q_W x (pc + 2) lv (.inl v :: st) Wd) : q_W x pc lv (st) Wd := by
  obtain ⟨p, l, e, R, s, m, args, below, meth, c, A, H0, cells, slots, Q, D, cA, ad⟩ := x
  obtain ⟨hx, hb, hown, hts, hK, hA, hfr, hlo, hce, hsl⟩ := ok
  intro H locs ls hl hn hP hD hS
  exact lv_iload hx hb hd (q_lvl_at hl hv) (kk H locs ls hl hn hP hD hS)
theorem q_iload_n {x : q_X} {cc : ByteArray} {own : String} {fr lo pc : Nat} {lv : List (Option q_V)} {st : List q_V} {Wd : List q_E} {i : Fin 4} {v : Int32} (ok : q_ok x cc own fr lo) (hv : lv[(i : Nat)]? = some (some (.inl v))) (hd : decode cc pc = .ok (.iload_n i, 1)) (kk : q_W x (pc + 1) lv (.inl v :: st) Wd) : q_W x pc lv (st) Wd := by
  obtain ⟨p, l, e, R, s, m, args, below, meth, c, A, H0, cells, slots, Q, D, cA, ad⟩ := x
  obtain ⟨hx, hb, hown, hts, hK, hA, hfr, hlo, hce, hsl⟩ := ok
  intro H locs ls hl hn hP hD hS
  exact lv_iload_n hx hb hd rfl (q_lvl_at hl hv) (kk H locs ls hl hn hP hD hS)
theorem q_lload {x : q_X} {cc : ByteArray} {own : String} {fr lo pc : Nat} {lv : List (Option q_V)} {st : List q_V} {Wd : List q_E} {i : Nat} {v : Int64} (ok : q_ok x cc own fr lo) (hv : lv[i]? = some (some (.inr (.inl v)))) (hd : decode cc pc = .ok (.lload i, 2)) (kk : q_W x (pc + 2) lv (.inr (.inl v) :: st) Wd) : q_W x pc lv (st) Wd := by
  obtain ⟨p, l, e, R, s, m, args, below, meth, c, A, H0, cells, slots, Q, D, cA, ad⟩ := x
  obtain ⟨hx, hb, hown, hts, hK, hA, hfr, hlo, hce, hsl⟩ := ok
  intro H locs ls hl hn hP hD hS
  exact lv_lload hx hb hd (q_lvl_at hl hv) (kk H locs ls hl hn hP hD hS)
theorem q_lload_n {x : q_X} {cc : ByteArray} {own : String} {fr lo pc : Nat} {lv : List (Option q_V)} {st : List q_V} {Wd : List q_E} {i : Fin 4} {v : Int64} (ok : q_ok x cc own fr lo) (hv : lv[(i : Nat)]? = some (some (.inr (.inl v)))) (hd : decode cc pc = .ok (.lload_n i, 1)) (kk : q_W x (pc + 1) lv (.inr (.inl v) :: st) Wd) : q_W x pc lv (st) Wd := by
  obtain ⟨p, l, e, R, s, m, args, below, meth, c, A, H0, cells, slots, Q, D, cA, ad⟩ := x
  obtain ⟨hx, hb, hown, hts, hK, hA, hfr, hlo, hce, hsl⟩ := ok
  intro H locs ls hl hn hP hD hS
  exact lv_lload_n hx hb hd rfl (q_lvl_at hl hv) (kk H locs ls hl hn hP hD hS)
theorem q_aload {x : q_X} {cc : ByteArray} {own : String} {fr lo pc : Nat} {lv : List (Option q_V)} {st : List q_V} {Wd : List q_E} {i : Nat} {v : Nat} (ok : q_ok x cc own fr lo) (hv : lv[i]? = some (some (.inr (.inr (some v))))) (hd : decode cc pc = .ok (.aload i, 2)) (kk : q_W x (pc + 2) lv (.inr (.inr (some v)) :: st) Wd) : q_W x pc lv (st) Wd := by
  obtain ⟨p, l, e, R, s, m, args, below, meth, c, A, H0, cells, slots, Q, D, cA, ad⟩ := x
  obtain ⟨hx, hb, hown, hts, hK, hA, hfr, hlo, hce, hsl⟩ := ok
  intro H locs ls hl hn hP hD hS
  exact lv_aload hx hb hd (q_lvl_at hl hv) (kk H locs ls hl hn hP hD hS)
theorem q_aload_n {x : q_X} {cc : ByteArray} {own : String} {fr lo pc : Nat} {lv : List (Option q_V)} {st : List q_V} {Wd : List q_E} {i : Fin 4} {v : Nat} (ok : q_ok x cc own fr lo) (hv : lv[(i : Nat)]? = some (some (.inr (.inr (some v))))) (hd : decode cc pc = .ok (.aload_n i, 1)) (kk : q_W x (pc + 1) lv (.inr (.inr (some v)) :: st) Wd) : q_W x pc lv (st) Wd := by
  obtain ⟨p, l, e, R, s, m, args, below, meth, c, A, H0, cells, slots, Q, D, cA, ad⟩ := x
  obtain ⟨hx, hb, hown, hts, hK, hA, hfr, hlo, hce, hsl⟩ := ok
  intro H locs ls hl hn hP hD hS
  exact lv_aload_n hx hb hd rfl (q_lvl_at hl hv) (kk H locs ls hl hn hP hD hS)
theorem q_iadd {x : q_X} {cc : ByteArray} {own : String} {fr lo pc : Nat} {lv : List (Option q_V)} {st : List q_V} {Wd : List q_E} {a b : Int32} (ok : q_ok x cc own fr lo) (hd : decode cc pc = .ok (.iadd, 1)) (kk : q_W x (pc + 1) lv (.inl (a + b) :: st) Wd) : q_W x pc lv (.inl b :: .inl a :: st) Wd := by
  obtain ⟨p, l, e, R, s, m, args, below, meth, c, A, H0, cells, slots, Q, D, cA, ad⟩ := x
  obtain ⟨hx, hb, hown, hts, hK, hA, hfr, hlo, hce, hsl⟩ := ok
  intro H locs ls hl hn hP hD hS
  exact lv_iadd hx hb hd (kk H locs ls hl hn hP hD hS)
theorem q_isub {x : q_X} {cc : ByteArray} {own : String} {fr lo pc : Nat} {lv : List (Option q_V)} {st : List q_V} {Wd : List q_E} {a b : Int32} (ok : q_ok x cc own fr lo) (hd : decode cc pc = .ok (.isub, 1)) (kk : q_W x (pc + 1) lv (.inl (a - b) :: st) Wd) : q_W x pc lv (.inl b :: .inl a :: st) Wd := by
  obtain ⟨p, l, e, R, s, m, args, below, meth, c, A, H0, cells, slots, Q, D, cA, ad⟩ := x
  obtain ⟨hx, hb, hown, hts, hK, hA, hfr, hlo, hce, hsl⟩ := ok
  intro H locs ls hl hn hP hD hS
  exact lv_isub hx hb hd (kk H locs ls hl hn hP hD hS)
theorem q_imul {x : q_X} {cc : ByteArray} {own : String} {fr lo pc : Nat} {lv : List (Option q_V)} {st : List q_V} {Wd : List q_E} {a b : Int32} (ok : q_ok x cc own fr lo) (hd : decode cc pc = .ok (.imul, 1)) (kk : q_W x (pc + 1) lv (.inl (a * b) :: st) Wd) : q_W x pc lv (.inl b :: .inl a :: st) Wd := by
  obtain ⟨p, l, e, R, s, m, args, below, meth, c, A, H0, cells, slots, Q, D, cA, ad⟩ := x
  obtain ⟨hx, hb, hown, hts, hK, hA, hfr, hlo, hce, hsl⟩ := ok
  intro H locs ls hl hn hP hD hS
  exact lv_imul hx hb hd (kk H locs ls hl hn hP hD hS)
theorem q_iand {x : q_X} {cc : ByteArray} {own : String} {fr lo pc : Nat} {lv : List (Option q_V)} {st : List q_V} {Wd : List q_E} {a b : Int32} (ok : q_ok x cc own fr lo) (hd : decode cc pc = .ok (.iand, 1)) (kk : q_W x (pc + 1) lv (.inl (a &&& b) :: st) Wd) : q_W x pc lv (.inl b :: .inl a :: st) Wd := by
  obtain ⟨p, l, e, R, s, m, args, below, meth, c, A, H0, cells, slots, Q, D, cA, ad⟩ := x
  obtain ⟨hx, hb, hown, hts, hK, hA, hfr, hlo, hce, hsl⟩ := ok
  intro H locs ls hl hn hP hD hS
  exact lv_iand hx hb hd (kk H locs ls hl hn hP hD hS)
theorem q_ladd {x : q_X} {cc : ByteArray} {own : String} {fr lo pc : Nat} {lv : List (Option q_V)} {st : List q_V} {Wd : List q_E} {a b : Int64} (ok : q_ok x cc own fr lo) (hd : decode cc pc = .ok (.ladd, 1)) (kk : q_W x (pc + 1) lv (.inr (.inl (a + b)) :: st) Wd) : q_W x pc lv (.inr (.inl b) :: .inr (.inl a) :: st) Wd := by
  obtain ⟨p, l, e, R, s, m, args, below, meth, c, A, H0, cells, slots, Q, D, cA, ad⟩ := x
  obtain ⟨hx, hb, hown, hts, hK, hA, hfr, hlo, hce, hsl⟩ := ok
  intro H locs ls hl hn hP hD hS
  exact lv_ladd hx hb hd (kk H locs ls hl hn hP hD hS)
theorem q_lsub {x : q_X} {cc : ByteArray} {own : String} {fr lo pc : Nat} {lv : List (Option q_V)} {st : List q_V} {Wd : List q_E} {a b : Int64} (ok : q_ok x cc own fr lo) (hd : decode cc pc = .ok (.lsub, 1)) (kk : q_W x (pc + 1) lv (.inr (.inl (a - b)) :: st) Wd) : q_W x pc lv (.inr (.inl b) :: .inr (.inl a) :: st) Wd := by
  obtain ⟨p, l, e, R, s, m, args, below, meth, c, A, H0, cells, slots, Q, D, cA, ad⟩ := x
  obtain ⟨hx, hb, hown, hts, hK, hA, hfr, hlo, hce, hsl⟩ := ok
  intro H locs ls hl hn hP hD hS
  exact lv_lsub hx hb hd (kk H locs ls hl hn hP hD hS)
theorem q_lmul {x : q_X} {cc : ByteArray} {own : String} {fr lo pc : Nat} {lv : List (Option q_V)} {st : List q_V} {Wd : List q_E} {a b : Int64} (ok : q_ok x cc own fr lo) (hd : decode cc pc = .ok (.lmul, 1)) (kk : q_W x (pc + 1) lv (.inr (.inl (a * b)) :: st) Wd) : q_W x pc lv (.inr (.inl b) :: .inr (.inl a) :: st) Wd := by
  obtain ⟨p, l, e, R, s, m, args, below, meth, c, A, H0, cells, slots, Q, D, cA, ad⟩ := x
  obtain ⟨hx, hb, hown, hts, hK, hA, hfr, hlo, hce, hsl⟩ := ok
  intro H locs ls hl hn hP hD hS
  exact lv_lmul hx hb hd (kk H locs ls hl hn hP hD hS)
theorem q_idiv {x : q_X} {cc : ByteArray} {own : String} {fr lo pc : Nat} {lv : List (Option q_V)} {st : List q_V} {Wd : List q_E} {a b : Int32} (ok : q_ok x cc own fr lo) (hne : ¬ b = 0) (hd : decode cc pc = .ok (.idiv, 1)) (kk : q_W x (pc + 1) lv (.inl (a / b) :: st) Wd) : q_W x pc lv (.inl b :: .inl a :: st) Wd := by
  obtain ⟨p, l, e, R, s, m, args, below, meth, c, A, H0, cells, slots, Q, D, cA, ad⟩ := x
  obtain ⟨hx, hb, hown, hts, hK, hA, hfr, hlo, hce, hsl⟩ := ok
  intro H locs ls hl hn hP hD hS
  exact lv_idiv hx hb hd hne (kk H locs ls hl hn hP hD hS)
theorem q_irem {x : q_X} {cc : ByteArray} {own : String} {fr lo pc : Nat} {lv : List (Option q_V)} {st : List q_V} {Wd : List q_E} {a b : Int32} (ok : q_ok x cc own fr lo) (hne : ¬ b = 0) (hd : decode cc pc = .ok (.irem, 1)) (kk : q_W x (pc + 1) lv (.inl (a - a / b * b) :: st) Wd) : q_W x pc lv (.inl b :: .inl a :: st) Wd := by
  obtain ⟨p, l, e, R, s, m, args, below, meth, c, A, H0, cells, slots, Q, D, cA, ad⟩ := x
  obtain ⟨hx, hb, hown, hts, hK, hA, hfr, hlo, hce, hsl⟩ := ok
  intro H locs ls hl hn hP hD hS
  exact lv_irem hx hb hd hne (kk H locs ls hl hn hP hD hS)
theorem q_i2l {x : q_X} {cc : ByteArray} {own : String} {fr lo pc : Nat} {lv : List (Option q_V)} {st : List q_V} {Wd : List q_E} {a : Int32} (ok : q_ok x cc own fr lo) (hd : decode cc pc = .ok (.i2l, 1)) (kk : q_W x (pc + 1) lv (.inr (.inl a.toInt64) :: st) Wd) : q_W x pc lv (.inl a :: st) Wd := by
  obtain ⟨p, l, e, R, s, m, args, below, meth, c, A, H0, cells, slots, Q, D, cA, ad⟩ := x
  obtain ⟨hx, hb, hown, hts, hK, hA, hfr, hlo, hce, hsl⟩ := ok
  intro H locs ls hl hn hP hD hS
  exact lv_i2l hx hb hd rfl (kk H locs ls hl hn hP hD hS)
theorem q_lcmp {x : q_X} {cc : ByteArray} {own : String} {fr lo pc : Nat} {lv : List (Option q_V)} {st : List q_V} {Wd : List q_E} {a b : Int64} (ok : q_ok x cc own fr lo) (hd : decode cc pc = .ok (.lcmp, 1)) (kk : q_W x (pc + 1) lv (.inl (lg_cmp a b) :: st) Wd) : q_W x pc lv (.inr (.inl b) :: .inr (.inl a) :: st) Wd := by
  obtain ⟨p, l, e, R, s, m, args, below, meth, c, A, H0, cells, slots, Q, D, cA, ad⟩ := x
  obtain ⟨hx, hb, hown, hts, hK, hA, hfr, hlo, hce, hsl⟩ := ok
  intro H locs ls hl hn hP hD hS
  exact W.lcmp hx hb hd (kk H locs ls hl hn hP hD hS)
theorem q_dupi {x : q_X} {cc : ByteArray} {own : String} {fr lo pc : Nat} {lv : List (Option q_V)} {st : List q_V} {Wd : List q_E} {a : Int32} (ok : q_ok x cc own fr lo) (hd : decode cc pc = .ok (.dup, 1)) (kk : q_W x (pc + 1) lv (.inl a :: .inl a :: st) Wd) : q_W x pc lv (.inl a :: st) Wd := by
  obtain ⟨p, l, e, R, s, m, args, below, meth, c, A, H0, cells, slots, Q, D, cA, ad⟩ := x
  obtain ⟨hx, hb, hown, hts, hK, hA, hfr, hlo, hce, hsl⟩ := ok
  intro H locs ls hl hn hP hD hS
  exact lv_dup hx hb hd rfl (kk H locs ls hl hn hP hD hS)
theorem q_dupa {x : q_X} {cc : ByteArray} {own : String} {fr lo pc : Nat} {lv : List (Option q_V)} {st : List q_V} {Wd : List q_E} {a : Nat} (ok : q_ok x cc own fr lo) (hd : decode cc pc = .ok (.dup, 1)) (kk : q_W x (pc + 1) lv (.inr (.inr (some a)) :: .inr (.inr (some a)) :: st) Wd) : q_W x pc lv (.inr (.inr (some a)) :: st) Wd := by
  obtain ⟨p, l, e, R, s, m, args, below, meth, c, A, H0, cells, slots, Q, D, cA, ad⟩ := x
  obtain ⟨hx, hb, hown, hts, hK, hA, hfr, hlo, hce, hsl⟩ := ok
  intro H locs ls hl hn hP hD hS
  exact lv_dup hx hb hd rfl (kk H locs ls hl hn hP hD hS)
theorem q_dup2ia {x : q_X} {cc : ByteArray} {own : String} {fr lo pc : Nat} {lv : List (Option q_V)} {st : List q_V} {Wd : List q_E} {a : Nat} {b : Int32} (ok : q_ok x cc own fr lo) (hd : decode cc pc = .ok (.dup2, 1)) (kk : q_W x (pc + 1) lv (.inl b :: .inr (.inr (some a)) :: .inl b :: .inr (.inr (some a)) :: st) Wd) : q_W x pc lv (.inl b :: .inr (.inr (some a)) :: st) Wd := by
  obtain ⟨p, l, e, R, s, m, args, below, meth, c, A, H0, cells, slots, Q, D, cA, ad⟩ := x
  obtain ⟨hx, hb, hown, hts, hK, hA, hfr, hlo, hce, hsl⟩ := ok
  intro H locs ls hl hn hP hD hS
  exact lv_dup2_11 hx hb hd rfl rfl (kk H locs ls hl hn hP hD hS)
theorem q_icmp_eq {x : q_X} {cc : ByteArray} {own : String} {fr lo pc : Nat} {lv : List (Option q_V)} {st : List q_V} {Wd : List q_E} {a b : Int32} {off : Int} (tgt : Nat) (ok : q_ok x cc own fr lo) (hd : decode cc pc = .ok (.if_icmp .eq off, 3)) (ht : (pc : Int) + off = (tgt : Int)) (kt : a = b → q_W x tgt lv st Wd) (kf : ¬ a = b → q_W x (pc + 3) lv st Wd) : q_W x pc lv (.inl b :: .inl a :: st) Wd := by
  obtain ⟨p, l, e, R, s, m, args, below, meth, c, A, H0, cells, slots, Q, D, cA, ad⟩ := x
  obtain ⟨hx, hb, hown, hts, hK, hA, hfr, hlo, hce, hsl⟩ := ok
  intro H locs ls hl hn hP hD hS
  exact lv_icmp_eq hx hb hd ht (fun h => kt h H locs ls hl hn hP hD hS) (fun h => kf h H locs ls hl hn hP hD hS)
theorem q_if_eq {x : q_X} {cc : ByteArray} {own : String} {fr lo pc : Nat} {lv : List (Option q_V)} {st : List q_V} {Wd : List q_E} {a : Int32} {off : Int} (tgt : Nat) (ok : q_ok x cc own fr lo) (hd : decode cc pc = .ok (.ifCond .eq off, 3)) (ht : (pc : Int) + off = (tgt : Int)) (kt : a = 0 → q_W x tgt lv st Wd) (kf : ¬ a = 0 → q_W x (pc + 3) lv st Wd) : q_W x pc lv (.inl a :: st) Wd := by
  obtain ⟨p, l, e, R, s, m, args, below, meth, c, A, H0, cells, slots, Q, D, cA, ad⟩ := x
  obtain ⟨hx, hb, hown, hts, hK, hA, hfr, hlo, hce, hsl⟩ := ok
  intro H locs ls hl hn hP hD hS
  exact lv_if_eq hx hb hd ht (fun h => kt h H locs ls hl hn hP hD hS) (fun h => kf h H locs ls hl hn hP hD hS)
theorem q_icmp_ne {x : q_X} {cc : ByteArray} {own : String} {fr lo pc : Nat} {lv : List (Option q_V)} {st : List q_V} {Wd : List q_E} {a b : Int32} {off : Int} (tgt : Nat) (ok : q_ok x cc own fr lo) (hd : decode cc pc = .ok (.if_icmp .ne off, 3)) (ht : (pc : Int) + off = (tgt : Int)) (kt : ¬ a = b → q_W x tgt lv st Wd) (kf : a = b → q_W x (pc + 3) lv st Wd) : q_W x pc lv (.inl b :: .inl a :: st) Wd := by
  obtain ⟨p, l, e, R, s, m, args, below, meth, c, A, H0, cells, slots, Q, D, cA, ad⟩ := x
  obtain ⟨hx, hb, hown, hts, hK, hA, hfr, hlo, hce, hsl⟩ := ok
  intro H locs ls hl hn hP hD hS
  exact lv_icmp_ne hx hb hd ht (fun h => kt h H locs ls hl hn hP hD hS) (fun h => kf h H locs ls hl hn hP hD hS)
theorem q_if_ne {x : q_X} {cc : ByteArray} {own : String} {fr lo pc : Nat} {lv : List (Option q_V)} {st : List q_V} {Wd : List q_E} {a : Int32} {off : Int} (tgt : Nat) (ok : q_ok x cc own fr lo) (hd : decode cc pc = .ok (.ifCond .ne off, 3)) (ht : (pc : Int) + off = (tgt : Int)) (kt : ¬ a = 0 → q_W x tgt lv st Wd) (kf : a = 0 → q_W x (pc + 3) lv st Wd) : q_W x pc lv (.inl a :: st) Wd := by
  obtain ⟨p, l, e, R, s, m, args, below, meth, c, A, H0, cells, slots, Q, D, cA, ad⟩ := x
  obtain ⟨hx, hb, hown, hts, hK, hA, hfr, hlo, hce, hsl⟩ := ok
  intro H locs ls hl hn hP hD hS
  exact lv_if_ne hx hb hd ht (fun h => kt h H locs ls hl hn hP hD hS) (fun h => kf h H locs ls hl hn hP hD hS)
theorem q_icmp_lt {x : q_X} {cc : ByteArray} {own : String} {fr lo pc : Nat} {lv : List (Option q_V)} {st : List q_V} {Wd : List q_E} {a b : Int32} {off : Int} (tgt : Nat) (ok : q_ok x cc own fr lo) (hd : decode cc pc = .ok (.if_icmp .lt off, 3)) (ht : (pc : Int) + off = (tgt : Int)) (kt : a < b → q_W x tgt lv st Wd) (kf : ¬ a < b → q_W x (pc + 3) lv st Wd) : q_W x pc lv (.inl b :: .inl a :: st) Wd := by
  obtain ⟨p, l, e, R, s, m, args, below, meth, c, A, H0, cells, slots, Q, D, cA, ad⟩ := x
  obtain ⟨hx, hb, hown, hts, hK, hA, hfr, hlo, hce, hsl⟩ := ok
  intro H locs ls hl hn hP hD hS
  exact lv_icmp_lt hx hb hd ht (fun h => kt h H locs ls hl hn hP hD hS) (fun h => kf h H locs ls hl hn hP hD hS)
theorem q_if_lt {x : q_X} {cc : ByteArray} {own : String} {fr lo pc : Nat} {lv : List (Option q_V)} {st : List q_V} {Wd : List q_E} {a : Int32} {off : Int} (tgt : Nat) (ok : q_ok x cc own fr lo) (hd : decode cc pc = .ok (.ifCond .lt off, 3)) (ht : (pc : Int) + off = (tgt : Int)) (kt : a < 0 → q_W x tgt lv st Wd) (kf : ¬ a < 0 → q_W x (pc + 3) lv st Wd) : q_W x pc lv (.inl a :: st) Wd := by
  obtain ⟨p, l, e, R, s, m, args, below, meth, c, A, H0, cells, slots, Q, D, cA, ad⟩ := x
  obtain ⟨hx, hb, hown, hts, hK, hA, hfr, hlo, hce, hsl⟩ := ok
  intro H locs ls hl hn hP hD hS
  exact lv_if_lt hx hb hd ht (fun h => kt h H locs ls hl hn hP hD hS) (fun h => kf h H locs ls hl hn hP hD hS)
theorem q_icmp_ge {x : q_X} {cc : ByteArray} {own : String} {fr lo pc : Nat} {lv : List (Option q_V)} {st : List q_V} {Wd : List q_E} {a b : Int32} {off : Int} (tgt : Nat) (ok : q_ok x cc own fr lo) (hd : decode cc pc = .ok (.if_icmp .ge off, 3)) (ht : (pc : Int) + off = (tgt : Int)) (kt : b ≤ a → q_W x tgt lv st Wd) (kf : ¬ b ≤ a → q_W x (pc + 3) lv st Wd) : q_W x pc lv (.inl b :: .inl a :: st) Wd := by
  obtain ⟨p, l, e, R, s, m, args, below, meth, c, A, H0, cells, slots, Q, D, cA, ad⟩ := x
  obtain ⟨hx, hb, hown, hts, hK, hA, hfr, hlo, hce, hsl⟩ := ok
  intro H locs ls hl hn hP hD hS
  exact lv_icmp_ge hx hb hd ht (fun h => kt h H locs ls hl hn hP hD hS) (fun h => kf h H locs ls hl hn hP hD hS)
theorem q_if_ge {x : q_X} {cc : ByteArray} {own : String} {fr lo pc : Nat} {lv : List (Option q_V)} {st : List q_V} {Wd : List q_E} {a : Int32} {off : Int} (tgt : Nat) (ok : q_ok x cc own fr lo) (hd : decode cc pc = .ok (.ifCond .ge off, 3)) (ht : (pc : Int) + off = (tgt : Int)) (kt : 0 ≤ a → q_W x tgt lv st Wd) (kf : ¬ 0 ≤ a → q_W x (pc + 3) lv st Wd) : q_W x pc lv (.inl a :: st) Wd := by
  obtain ⟨p, l, e, R, s, m, args, below, meth, c, A, H0, cells, slots, Q, D, cA, ad⟩ := x
  obtain ⟨hx, hb, hown, hts, hK, hA, hfr, hlo, hce, hsl⟩ := ok
  intro H locs ls hl hn hP hD hS
  exact lv_if_ge hx hb hd ht (fun h => kt h H locs ls hl hn hP hD hS) (fun h => kf h H locs ls hl hn hP hD hS)
theorem q_icmp_gt {x : q_X} {cc : ByteArray} {own : String} {fr lo pc : Nat} {lv : List (Option q_V)} {st : List q_V} {Wd : List q_E} {a b : Int32} {off : Int} (tgt : Nat) (ok : q_ok x cc own fr lo) (hd : decode cc pc = .ok (.if_icmp .gt off, 3)) (ht : (pc : Int) + off = (tgt : Int)) (kt : b < a → q_W x tgt lv st Wd) (kf : ¬ b < a → q_W x (pc + 3) lv st Wd) : q_W x pc lv (.inl b :: .inl a :: st) Wd := by
  obtain ⟨p, l, e, R, s, m, args, below, meth, c, A, H0, cells, slots, Q, D, cA, ad⟩ := x
  obtain ⟨hx, hb, hown, hts, hK, hA, hfr, hlo, hce, hsl⟩ := ok
  intro H locs ls hl hn hP hD hS
  exact lv_icmp_gt hx hb hd ht (fun h => kt h H locs ls hl hn hP hD hS) (fun h => kf h H locs ls hl hn hP hD hS)
theorem q_if_gt {x : q_X} {cc : ByteArray} {own : String} {fr lo pc : Nat} {lv : List (Option q_V)} {st : List q_V} {Wd : List q_E} {a : Int32} {off : Int} (tgt : Nat) (ok : q_ok x cc own fr lo) (hd : decode cc pc = .ok (.ifCond .gt off, 3)) (ht : (pc : Int) + off = (tgt : Int)) (kt : 0 < a → q_W x tgt lv st Wd) (kf : ¬ 0 < a → q_W x (pc + 3) lv st Wd) : q_W x pc lv (.inl a :: st) Wd := by
  obtain ⟨p, l, e, R, s, m, args, below, meth, c, A, H0, cells, slots, Q, D, cA, ad⟩ := x
  obtain ⟨hx, hb, hown, hts, hK, hA, hfr, hlo, hce, hsl⟩ := ok
  intro H locs ls hl hn hP hD hS
  exact lv_if_gt hx hb hd ht (fun h => kt h H locs ls hl hn hP hD hS) (fun h => kf h H locs ls hl hn hP hD hS)
theorem q_icmp_le {x : q_X} {cc : ByteArray} {own : String} {fr lo pc : Nat} {lv : List (Option q_V)} {st : List q_V} {Wd : List q_E} {a b : Int32} {off : Int} (tgt : Nat) (ok : q_ok x cc own fr lo) (hd : decode cc pc = .ok (.if_icmp .le off, 3)) (ht : (pc : Int) + off = (tgt : Int)) (kt : a ≤ b → q_W x tgt lv st Wd) (kf : ¬ a ≤ b → q_W x (pc + 3) lv st Wd) : q_W x pc lv (.inl b :: .inl a :: st) Wd := by
  obtain ⟨p, l, e, R, s, m, args, below, meth, c, A, H0, cells, slots, Q, D, cA, ad⟩ := x
  obtain ⟨hx, hb, hown, hts, hK, hA, hfr, hlo, hce, hsl⟩ := ok
  intro H locs ls hl hn hP hD hS
  exact lv_icmp_le hx hb hd ht (fun h => kt h H locs ls hl hn hP hD hS) (fun h => kf h H locs ls hl hn hP hD hS)
theorem q_if_le {x : q_X} {cc : ByteArray} {own : String} {fr lo pc : Nat} {lv : List (Option q_V)} {st : List q_V} {Wd : List q_E} {a : Int32} {off : Int} (tgt : Nat) (ok : q_ok x cc own fr lo) (hd : decode cc pc = .ok (.ifCond .le off, 3)) (ht : (pc : Int) + off = (tgt : Int)) (kt : a ≤ 0 → q_W x tgt lv st Wd) (kf : ¬ a ≤ 0 → q_W x (pc + 3) lv st Wd) : q_W x pc lv (.inl a :: st) Wd := by
  obtain ⟨p, l, e, R, s, m, args, below, meth, c, A, H0, cells, slots, Q, D, cA, ad⟩ := x
  obtain ⟨hx, hb, hown, hts, hK, hA, hfr, hlo, hce, hsl⟩ := ok
  intro H locs ls hl hn hP hD hS
  exact lv_if_le hx hb hd ht (fun h => kt h H locs ls hl hn hP hD hS) (fun h => kf h H locs ls hl hn hP hD hS)
theorem q_goto {x : q_X} {cc : ByteArray} {own : String} {fr lo pc : Nat} {lv : List (Option q_V)} {st : List q_V} {Wd : List q_E} {off : Int} (tgt : Nat) (ok : q_ok x cc own fr lo) (hd : decode cc pc = .ok (.goto off, 3)) (ht : (pc : Int) + off = (tgt : Int)) (kk : q_W x tgt lv st Wd) : q_W x pc lv st Wd := by
  obtain ⟨p, l, e, R, s, m, args, below, meth, c, A, H0, cells, slots, Q, D, cA, ad⟩ := x
  obtain ⟨hx, hb, hown, hts, hK, hA, hfr, hlo, hce, hsl⟩ := ok
  intro H locs ls hl hn hP hD hS
  exact lv_goto hx hb hd ht (kk H locs ls hl hn hP hD hS)
theorem q_istoreG {x : q_X} {cc : ByteArray} {own : String} {fr lo pc : Nat} {lv : List (Option q_V)} {st : List q_V} {Wd : List q_E} {i : Nat} {v : Int32} (ok : q_ok x cc own fr lo) (hi : i < lv.length) (hp : q_fre i lv = true) (hd : decode cc pc = .ok (.istore i, 2)) (kk : q_W x (pc + 2) (lv.set i (some (.inl v))) st Wd) : q_W x pc lv (.inl v :: st) Wd := by
  obtain ⟨p, l, e, R, s, m, args, below, meth, c, A, H0, cells, slots, Q, D, cA, ad⟩ := x
  obtain ⟨hx, hb, hown, hts, hK, hA, hfr, hlo, hce, hsl⟩ := ok
  intro H locs ls hl hn hP hD hS
  exact lv_istore hx hb hd hl hi rfl (fun ls2 h2 => kk H locs ls2 (by rw [List.length_set]; exact q_has_sub h2 (fun q hq => q_st1 hp hq)) (by rw [List.length_set]; exact hn) hP hD hS)
theorem q_istore_nG {x : q_X} {cc : ByteArray} {own : String} {fr lo pc : Nat} {lv : List (Option q_V)} {st : List q_V} {Wd : List q_E} {i : Fin 4} {v : Int32} (ok : q_ok x cc own fr lo) (hi : (i : Nat) < lv.length) (hp : q_fre i lv = true) (hd : decode cc pc = .ok (.istore_n i, 1)) (kk : q_W x (pc + 1) (lv.set i (some (.inl v))) st Wd) : q_W x pc lv (.inl v :: st) Wd := by
  obtain ⟨p, l, e, R, s, m, args, below, meth, c, A, H0, cells, slots, Q, D, cA, ad⟩ := x
  obtain ⟨hx, hb, hown, hts, hK, hA, hfr, hlo, hce, hsl⟩ := ok
  intro H locs ls hl hn hP hD hS
  exact lv_istore_n hx hb hd rfl hl hi rfl (fun ls2 h2 => kk H locs ls2 (by rw [List.length_set]; exact q_has_sub h2 (fun q hq => q_st1 hp hq)) (by rw [List.length_set]; exact hn) hP hD hS)
theorem q_astoreG {x : q_X} {cc : ByteArray} {own : String} {fr lo pc : Nat} {lv : List (Option q_V)} {st : List q_V} {Wd : List q_E} {i : Nat} {v : Nat} (ok : q_ok x cc own fr lo) (hi : i < lv.length) (hp : q_fre i lv = true) (hd : decode cc pc = .ok (.astore i, 2)) (kk : q_W x (pc + 2) (lv.set i (some (.inr (.inr (some v))))) st Wd) : q_W x pc lv (.inr (.inr (some v)) :: st) Wd := by
  obtain ⟨p, l, e, R, s, m, args, below, meth, c, A, H0, cells, slots, Q, D, cA, ad⟩ := x
  obtain ⟨hx, hb, hown, hts, hK, hA, hfr, hlo, hce, hsl⟩ := ok
  intro H locs ls hl hn hP hD hS
  exact lv_astore hx hb hd hl hi rfl (fun ls2 h2 => kk H locs ls2 (by rw [List.length_set]; exact q_has_sub h2 (fun q hq => q_st1 hp hq)) (by rw [List.length_set]; exact hn) hP hD hS)
theorem q_astore_nG {x : q_X} {cc : ByteArray} {own : String} {fr lo pc : Nat} {lv : List (Option q_V)} {st : List q_V} {Wd : List q_E} {i : Fin 4} {v : Nat} (ok : q_ok x cc own fr lo) (hi : (i : Nat) < lv.length) (hp : q_fre i lv = true) (hd : decode cc pc = .ok (.astore_n i, 1)) (kk : q_W x (pc + 1) (lv.set i (some (.inr (.inr (some v))))) st Wd) : q_W x pc lv (.inr (.inr (some v)) :: st) Wd := by
  obtain ⟨p, l, e, R, s, m, args, below, meth, c, A, H0, cells, slots, Q, D, cA, ad⟩ := x
  obtain ⟨hx, hb, hown, hts, hK, hA, hfr, hlo, hce, hsl⟩ := ok
  intro H locs ls hl hn hP hD hS
  exact lv_astore_n hx hb hd rfl hl hi rfl (fun ls2 h2 => kk H locs ls2 (by rw [List.length_set]; exact q_has_sub h2 (fun q hq => q_st1 hp hq)) (by rw [List.length_set]; exact hn) hP hD hS)
theorem q_lstoreG {x : q_X} {cc : ByteArray} {own : String} {fr lo pc : Nat} {lv : List (Option q_V)} {st : List q_V} {Wd : List q_E} {i : Nat} {v : Int64} (ok : q_ok x cc own fr lo) (hi : i + 1 < lv.length) (hp : q_fre i lv = true) (hd : decode cc pc = .ok (.lstore i, 2)) (kk : q_W x (pc + 2) ((lv.set i (some (.inr (.inl v)))).set (i + 1) none) st Wd) : q_W x pc lv (.inr (.inl v) :: st) Wd := by
  obtain ⟨p, l, e, R, s, m, args, below, meth, c, A, H0, cells, slots, Q, D, cA, ad⟩ := x
  obtain ⟨hx, hb, hown, hts, hK, hA, hfr, hlo, hce, hsl⟩ := ok
  intro H locs ls hl hn hP hD hS
  exact lv_lstore hx hb hd hl hi rfl (fun ls2 h2 => kk H locs ls2 (by rw [List.length_set, List.length_set]; exact q_has_sub h2 (fun q hq => q_st2 hp hq)) (by rw [List.length_set, List.length_set]; exact hn) hP hD hS)
theorem q_lstore_nG {x : q_X} {cc : ByteArray} {own : String} {fr lo pc : Nat} {lv : List (Option q_V)} {st : List q_V} {Wd : List q_E} {i : Fin 4} {v : Int64} (ok : q_ok x cc own fr lo) (hi : (i : Nat) + 1 < lv.length) (hp : q_fre i lv = true) (hd : decode cc pc = .ok (.lstore_n i, 1)) (kk : q_W x (pc + 1) ((lv.set i (some (.inr (.inl v)))).set (i + 1) none) st Wd) : q_W x pc lv (.inr (.inl v) :: st) Wd := by
  obtain ⟨p, l, e, R, s, m, args, below, meth, c, A, H0, cells, slots, Q, D, cA, ad⟩ := x
  obtain ⟨hx, hb, hown, hts, hK, hA, hfr, hlo, hce, hsl⟩ := ok
  intro H locs ls hl hn hP hD hS
  exact lv_lstore_n hx hb hd rfl hl hi rfl (fun ls2 h2 => kk H locs ls2 (by rw [List.length_set, List.length_set]; exact q_has_sub h2 (fun q hq => q_st2 hp hq)) (by rw [List.length_set, List.length_set]; exact hn) hP hD hS)
theorem q_iincG {x : q_X} {cc : ByteArray} {own : String} {fr lo pc : Nat} {lv : List (Option q_V)} {st : List q_V} {Wd : List q_E} {i : Nat} {n : Int} {v : Int32} (ok : q_ok x cc own fr lo) (hv : lv[i]? = some (some (.inl v))) (hp : q_fre i lv = true) (hd : decode cc pc = .ok (.iinc i n, 3)) (kk : q_W x (pc + 3) (lv.set i (some (.inl (v + Int32.ofInt n)))) st Wd) : q_W x pc lv st Wd := by
  obtain ⟨p, l, e, R, s, m, args, below, meth, c, A, H0, cells, slots, Q, D, cA, ad⟩ := x
  obtain ⟨hx, hb, hown, hts, hK, hA, hfr, hlo, hce, hsl⟩ := ok
  intro H locs ls hl hn hP hD hS
  have hi : i < lv.length := (List.getElem?_eq_some_iff.mp hv).1
  obtain ⟨k, hk⟩ := List.getElem?_of_mem ((q_lvl_mem ad lv 0 (i, .int v)).mpr ⟨i, .inl v, hv, by simp [q_cv]⟩)
  exact lv_iinc hx hb hd hl hk rfl hi rfl (fun ls2 h2 => kk H locs ls2 (by rw [List.length_set]; exact q_has_sub h2 (fun q hq => q_st1 hp hq)) (by rw [List.length_set]; exact hn) hP hD hS)
theorem q_istore_0 {x : q_X} {cc : ByteArray} {own : String} {fr lo pc : Nat} {st : List q_V} {Wd : List q_E} {a0 : Option q_V} {tl : List (Option q_V)} {v : Int32} (ok : q_ok x cc own fr lo) (hd : decode cc pc = .ok (.istore_n 0, 1)) (kk : q_W x (pc + 1) (some (.inl v) :: tl) st Wd) : q_W x pc (a0 :: tl) (.inl v :: st) Wd := q_istore_nG (i := 0) ok (by show 0 < _; simp) rfl hd kk
theorem q_astore_0 {x : q_X} {cc : ByteArray} {own : String} {fr lo pc : Nat} {st : List q_V} {Wd : List q_E} {a0 : Option q_V} {tl : List (Option q_V)} {v : Nat} (ok : q_ok x cc own fr lo) (hd : decode cc pc = .ok (.astore_n 0, 1)) (kk : q_W x (pc + 1) (some (.inr (.inr (some v))) :: tl) st Wd) : q_W x pc (a0 :: tl) (.inr (.inr (some v)) :: st) Wd := q_astore_nG (i := 0) ok (by show 0 < _; simp) rfl hd kk
theorem q_lstore_0 {x : q_X} {cc : ByteArray} {own : String} {fr lo pc : Nat} {st : List q_V} {Wd : List q_E} {a0 a1 : Option q_V} {tl : List (Option q_V)} {v : Int64} (ok : q_ok x cc own fr lo) (hd : decode cc pc = .ok (.lstore_n 0, 1)) (kk : q_W x (pc + 1) (some (.inr (.inl v)) :: none :: tl) st Wd) : q_W x pc (a0 :: a1 :: tl) (.inr (.inl v) :: st) Wd := q_lstore_nG (i := 0) ok (by show 0 + 1 < _; simp) rfl hd kk
theorem q_iinc_0 {x : q_X} {cc : ByteArray} {own : String} {fr lo pc : Nat} {st : List q_V} {Wd : List q_E} {tl : List (Option q_V)} {n : Int} {v : Int32} (u : Int32) (ok : q_ok x cc own fr lo) (hu : Int32.ofInt n = u) (hd : decode cc pc = .ok (.iinc 0 n, 3)) (kk : q_W x (pc + 3) (some (.inl (v + u)) :: tl) st Wd) : q_W x pc (some (.inl v) :: tl) st Wd := q_iincG (i := 0) ok rfl rfl hd (by rw [hu]; exact kk)
theorem q_istore_1 {x : q_X} {cc : ByteArray} {own : String} {fr lo pc : Nat} {st : List q_V} {Wd : List q_E} {a0 a1 : Option q_V} {tl : List (Option q_V)} {v : Int32} (ok : q_ok x cc own fr lo) (hp : q_nol a0 = true) (hd : decode cc pc = .ok (.istore_n 1, 1)) (kk : q_W x (pc + 1) (a0 :: some (.inl v) :: tl) st Wd) : q_W x pc (a0 :: a1 :: tl) (.inl v :: st) Wd := q_istore_nG (i := 1) ok (by show 1 < _; simp) hp hd kk
theorem q_astore_1 {x : q_X} {cc : ByteArray} {own : String} {fr lo pc : Nat} {st : List q_V} {Wd : List q_E} {a0 a1 : Option q_V} {tl : List (Option q_V)} {v : Nat} (ok : q_ok x cc own fr lo) (hp : q_nol a0 = true) (hd : decode cc pc = .ok (.astore_n 1, 1)) (kk : q_W x (pc + 1) (a0 :: some (.inr (.inr (some v))) :: tl) st Wd) : q_W x pc (a0 :: a1 :: tl) (.inr (.inr (some v)) :: st) Wd := q_astore_nG (i := 1) ok (by show 1 < _; simp) hp hd kk
theorem q_lstore_1 {x : q_X} {cc : ByteArray} {own : String} {fr lo pc : Nat} {st : List q_V} {Wd : List q_E} {a0 a1 a2 : Option q_V} {tl : List (Option q_V)} {v : Int64} (ok : q_ok x cc own fr lo) (hp : q_nol a0 = true) (hd : decode cc pc = .ok (.lstore_n 1, 1)) (kk : q_W x (pc + 1) (a0 :: some (.inr (.inl v)) :: none :: tl) st Wd) : q_W x pc (a0 :: a1 :: a2 :: tl) (.inr (.inl v) :: st) Wd := q_lstore_nG (i := 1) ok (by show 1 + 1 < _; simp) hp hd kk
theorem q_iinc_1 {x : q_X} {cc : ByteArray} {own : String} {fr lo pc : Nat} {st : List q_V} {Wd : List q_E} {a0 : Option q_V} {tl : List (Option q_V)} {n : Int} {v : Int32} (u : Int32) (ok : q_ok x cc own fr lo) (hp : q_nol a0 = true) (hu : Int32.ofInt n = u) (hd : decode cc pc = .ok (.iinc 1 n, 3)) (kk : q_W x (pc + 3) (a0 :: some (.inl (v + u)) :: tl) st Wd) : q_W x pc (a0 :: some (.inl v) :: tl) st Wd := q_iincG (i := 1) ok rfl hp hd (by rw [hu]; exact kk)
theorem q_istore_2 {x : q_X} {cc : ByteArray} {own : String} {fr lo pc : Nat} {st : List q_V} {Wd : List q_E} {a0 a1 a2 : Option q_V} {tl : List (Option q_V)} {v : Int32} (ok : q_ok x cc own fr lo) (hp : q_nol a1 = true) (hd : decode cc pc = .ok (.istore_n 2, 1)) (kk : q_W x (pc + 1) (a0 :: a1 :: some (.inl v) :: tl) st Wd) : q_W x pc (a0 :: a1 :: a2 :: tl) (.inl v :: st) Wd := q_istore_nG (i := 2) ok (by show 2 < _; simp) hp hd kk
theorem q_astore_2 {x : q_X} {cc : ByteArray} {own : String} {fr lo pc : Nat} {st : List q_V} {Wd : List q_E} {a0 a1 a2 : Option q_V} {tl : List (Option q_V)} {v : Nat} (ok : q_ok x cc own fr lo) (hp : q_nol a1 = true) (hd : decode cc pc = .ok (.astore_n 2, 1)) (kk : q_W x (pc + 1) (a0 :: a1 :: some (.inr (.inr (some v))) :: tl) st Wd) : q_W x pc (a0 :: a1 :: a2 :: tl) (.inr (.inr (some v)) :: st) Wd := q_astore_nG (i := 2) ok (by show 2 < _; simp) hp hd kk
theorem q_lstore_2 {x : q_X} {cc : ByteArray} {own : String} {fr lo pc : Nat} {st : List q_V} {Wd : List q_E} {a0 a1 a2 a3 : Option q_V} {tl : List (Option q_V)} {v : Int64} (ok : q_ok x cc own fr lo) (hp : q_nol a1 = true) (hd : decode cc pc = .ok (.lstore_n 2, 1)) (kk : q_W x (pc + 1) (a0 :: a1 :: some (.inr (.inl v)) :: none :: tl) st Wd) : q_W x pc (a0 :: a1 :: a2 :: a3 :: tl) (.inr (.inl v) :: st) Wd := q_lstore_nG (i := 2) ok (by show 2 + 1 < _; simp) hp hd kk
theorem q_iinc_2 {x : q_X} {cc : ByteArray} {own : String} {fr lo pc : Nat} {st : List q_V} {Wd : List q_E} {a0 a1 : Option q_V} {tl : List (Option q_V)} {n : Int} {v : Int32} (u : Int32) (ok : q_ok x cc own fr lo) (hp : q_nol a1 = true) (hu : Int32.ofInt n = u) (hd : decode cc pc = .ok (.iinc 2 n, 3)) (kk : q_W x (pc + 3) (a0 :: a1 :: some (.inl (v + u)) :: tl) st Wd) : q_W x pc (a0 :: a1 :: some (.inl v) :: tl) st Wd := q_iincG (i := 2) ok rfl hp hd (by rw [hu]; exact kk)
theorem q_istore_3 {x : q_X} {cc : ByteArray} {own : String} {fr lo pc : Nat} {st : List q_V} {Wd : List q_E} {a0 a1 a2 a3 : Option q_V} {tl : List (Option q_V)} {v : Int32} (ok : q_ok x cc own fr lo) (hp : q_nol a2 = true) (hd : decode cc pc = .ok (.istore_n 3, 1)) (kk : q_W x (pc + 1) (a0 :: a1 :: a2 :: some (.inl v) :: tl) st Wd) : q_W x pc (a0 :: a1 :: a2 :: a3 :: tl) (.inl v :: st) Wd := q_istore_nG (i := 3) ok (by show 3 < _; simp) hp hd kk
theorem q_astore_3 {x : q_X} {cc : ByteArray} {own : String} {fr lo pc : Nat} {st : List q_V} {Wd : List q_E} {a0 a1 a2 a3 : Option q_V} {tl : List (Option q_V)} {v : Nat} (ok : q_ok x cc own fr lo) (hp : q_nol a2 = true) (hd : decode cc pc = .ok (.astore_n 3, 1)) (kk : q_W x (pc + 1) (a0 :: a1 :: a2 :: some (.inr (.inr (some v))) :: tl) st Wd) : q_W x pc (a0 :: a1 :: a2 :: a3 :: tl) (.inr (.inr (some v)) :: st) Wd := q_astore_nG (i := 3) ok (by show 3 < _; simp) hp hd kk
theorem q_lstore_3 {x : q_X} {cc : ByteArray} {own : String} {fr lo pc : Nat} {st : List q_V} {Wd : List q_E} {a0 a1 a2 a3 a4 : Option q_V} {tl : List (Option q_V)} {v : Int64} (ok : q_ok x cc own fr lo) (hp : q_nol a2 = true) (hd : decode cc pc = .ok (.lstore_n 3, 1)) (kk : q_W x (pc + 1) (a0 :: a1 :: a2 :: some (.inr (.inl v)) :: none :: tl) st Wd) : q_W x pc (a0 :: a1 :: a2 :: a3 :: a4 :: tl) (.inr (.inl v) :: st) Wd := q_lstore_nG (i := 3) ok (by show 3 + 1 < _; simp) hp hd kk
theorem q_iinc_3 {x : q_X} {cc : ByteArray} {own : String} {fr lo pc : Nat} {st : List q_V} {Wd : List q_E} {a0 a1 a2 : Option q_V} {tl : List (Option q_V)} {n : Int} {v : Int32} (u : Int32) (ok : q_ok x cc own fr lo) (hp : q_nol a2 = true) (hu : Int32.ofInt n = u) (hd : decode cc pc = .ok (.iinc 3 n, 3)) (kk : q_W x (pc + 3) (a0 :: a1 :: a2 :: some (.inl (v + u)) :: tl) st Wd) : q_W x pc (a0 :: a1 :: a2 :: some (.inl v) :: tl) st Wd := q_iincG (i := 3) ok rfl hp hd (by rw [hu]; exact kk)
theorem q_istore_4 {x : q_X} {cc : ByteArray} {own : String} {fr lo pc : Nat} {st : List q_V} {Wd : List q_E} {a0 a1 a2 a3 a4 : Option q_V} {tl : List (Option q_V)} {v : Int32} (ok : q_ok x cc own fr lo) (hp : q_nol a3 = true) (hd : decode cc pc = .ok (.istore 4, 2)) (kk : q_W x (pc + 2) (a0 :: a1 :: a2 :: a3 :: some (.inl v) :: tl) st Wd) : q_W x pc (a0 :: a1 :: a2 :: a3 :: a4 :: tl) (.inl v :: st) Wd := q_istoreG (i := 4) ok (by show 4 < _; simp) hp hd kk
theorem q_astore_4 {x : q_X} {cc : ByteArray} {own : String} {fr lo pc : Nat} {st : List q_V} {Wd : List q_E} {a0 a1 a2 a3 a4 : Option q_V} {tl : List (Option q_V)} {v : Nat} (ok : q_ok x cc own fr lo) (hp : q_nol a3 = true) (hd : decode cc pc = .ok (.astore 4, 2)) (kk : q_W x (pc + 2) (a0 :: a1 :: a2 :: a3 :: some (.inr (.inr (some v))) :: tl) st Wd) : q_W x pc (a0 :: a1 :: a2 :: a3 :: a4 :: tl) (.inr (.inr (some v)) :: st) Wd := q_astoreG (i := 4) ok (by show 4 < _; simp) hp hd kk
theorem q_lstore_4 {x : q_X} {cc : ByteArray} {own : String} {fr lo pc : Nat} {st : List q_V} {Wd : List q_E} {a0 a1 a2 a3 a4 a5 : Option q_V} {tl : List (Option q_V)} {v : Int64} (ok : q_ok x cc own fr lo) (hp : q_nol a3 = true) (hd : decode cc pc = .ok (.lstore 4, 2)) (kk : q_W x (pc + 2) (a0 :: a1 :: a2 :: a3 :: some (.inr (.inl v)) :: none :: tl) st Wd) : q_W x pc (a0 :: a1 :: a2 :: a3 :: a4 :: a5 :: tl) (.inr (.inl v) :: st) Wd := q_lstoreG (i := 4) ok (by show 4 + 1 < _; simp) hp hd kk
theorem q_iinc_4 {x : q_X} {cc : ByteArray} {own : String} {fr lo pc : Nat} {st : List q_V} {Wd : List q_E} {a0 a1 a2 a3 : Option q_V} {tl : List (Option q_V)} {n : Int} {v : Int32} (u : Int32) (ok : q_ok x cc own fr lo) (hp : q_nol a3 = true) (hu : Int32.ofInt n = u) (hd : decode cc pc = .ok (.iinc 4 n, 3)) (kk : q_W x (pc + 3) (a0 :: a1 :: a2 :: a3 :: some (.inl (v + u)) :: tl) st Wd) : q_W x pc (a0 :: a1 :: a2 :: a3 :: some (.inl v) :: tl) st Wd := q_iincG (i := 4) ok rfl hp hd (by rw [hu]; exact kk)
theorem q_istore_5 {x : q_X} {cc : ByteArray} {own : String} {fr lo pc : Nat} {st : List q_V} {Wd : List q_E} {a0 a1 a2 a3 a4 a5 : Option q_V} {tl : List (Option q_V)} {v : Int32} (ok : q_ok x cc own fr lo) (hp : q_nol a4 = true) (hd : decode cc pc = .ok (.istore 5, 2)) (kk : q_W x (pc + 2) (a0 :: a1 :: a2 :: a3 :: a4 :: some (.inl v) :: tl) st Wd) : q_W x pc (a0 :: a1 :: a2 :: a3 :: a4 :: a5 :: tl) (.inl v :: st) Wd := q_istoreG (i := 5) ok (by show 5 < _; simp) hp hd kk
theorem q_astore_5 {x : q_X} {cc : ByteArray} {own : String} {fr lo pc : Nat} {st : List q_V} {Wd : List q_E} {a0 a1 a2 a3 a4 a5 : Option q_V} {tl : List (Option q_V)} {v : Nat} (ok : q_ok x cc own fr lo) (hp : q_nol a4 = true) (hd : decode cc pc = .ok (.astore 5, 2)) (kk : q_W x (pc + 2) (a0 :: a1 :: a2 :: a3 :: a4 :: some (.inr (.inr (some v))) :: tl) st Wd) : q_W x pc (a0 :: a1 :: a2 :: a3 :: a4 :: a5 :: tl) (.inr (.inr (some v)) :: st) Wd := q_astoreG (i := 5) ok (by show 5 < _; simp) hp hd kk
theorem q_lstore_5 {x : q_X} {cc : ByteArray} {own : String} {fr lo pc : Nat} {st : List q_V} {Wd : List q_E} {a0 a1 a2 a3 a4 a5 a6 : Option q_V} {tl : List (Option q_V)} {v : Int64} (ok : q_ok x cc own fr lo) (hp : q_nol a4 = true) (hd : decode cc pc = .ok (.lstore 5, 2)) (kk : q_W x (pc + 2) (a0 :: a1 :: a2 :: a3 :: a4 :: some (.inr (.inl v)) :: none :: tl) st Wd) : q_W x pc (a0 :: a1 :: a2 :: a3 :: a4 :: a5 :: a6 :: tl) (.inr (.inl v) :: st) Wd := q_lstoreG (i := 5) ok (by show 5 + 1 < _; simp) hp hd kk
theorem q_iinc_5 {x : q_X} {cc : ByteArray} {own : String} {fr lo pc : Nat} {st : List q_V} {Wd : List q_E} {a0 a1 a2 a3 a4 : Option q_V} {tl : List (Option q_V)} {n : Int} {v : Int32} (u : Int32) (ok : q_ok x cc own fr lo) (hp : q_nol a4 = true) (hu : Int32.ofInt n = u) (hd : decode cc pc = .ok (.iinc 5 n, 3)) (kk : q_W x (pc + 3) (a0 :: a1 :: a2 :: a3 :: a4 :: some (.inl (v + u)) :: tl) st Wd) : q_W x pc (a0 :: a1 :: a2 :: a3 :: a4 :: some (.inl v) :: tl) st Wd := q_iincG (i := 5) ok rfl hp hd (by rw [hu]; exact kk)
theorem q_istore_6 {x : q_X} {cc : ByteArray} {own : String} {fr lo pc : Nat} {st : List q_V} {Wd : List q_E} {a0 a1 a2 a3 a4 a5 a6 : Option q_V} {tl : List (Option q_V)} {v : Int32} (ok : q_ok x cc own fr lo) (hp : q_nol a5 = true) (hd : decode cc pc = .ok (.istore 6, 2)) (kk : q_W x (pc + 2) (a0 :: a1 :: a2 :: a3 :: a4 :: a5 :: some (.inl v) :: tl) st Wd) : q_W x pc (a0 :: a1 :: a2 :: a3 :: a4 :: a5 :: a6 :: tl) (.inl v :: st) Wd := q_istoreG (i := 6) ok (by show 6 < _; simp) hp hd kk
theorem q_astore_6 {x : q_X} {cc : ByteArray} {own : String} {fr lo pc : Nat} {st : List q_V} {Wd : List q_E} {a0 a1 a2 a3 a4 a5 a6 : Option q_V} {tl : List (Option q_V)} {v : Nat} (ok : q_ok x cc own fr lo) (hp : q_nol a5 = true) (hd : decode cc pc = .ok (.astore 6, 2)) (kk : q_W x (pc + 2) (a0 :: a1 :: a2 :: a3 :: a4 :: a5 :: some (.inr (.inr (some v))) :: tl) st Wd) : q_W x pc (a0 :: a1 :: a2 :: a3 :: a4 :: a5 :: a6 :: tl) (.inr (.inr (some v)) :: st) Wd := q_astoreG (i := 6) ok (by show 6 < _; simp) hp hd kk
theorem q_lstore_6 {x : q_X} {cc : ByteArray} {own : String} {fr lo pc : Nat} {st : List q_V} {Wd : List q_E} {a0 a1 a2 a3 a4 a5 a6 a7 : Option q_V} {tl : List (Option q_V)} {v : Int64} (ok : q_ok x cc own fr lo) (hp : q_nol a5 = true) (hd : decode cc pc = .ok (.lstore 6, 2)) (kk : q_W x (pc + 2) (a0 :: a1 :: a2 :: a3 :: a4 :: a5 :: some (.inr (.inl v)) :: none :: tl) st Wd) : q_W x pc (a0 :: a1 :: a2 :: a3 :: a4 :: a5 :: a6 :: a7 :: tl) (.inr (.inl v) :: st) Wd := q_lstoreG (i := 6) ok (by show 6 + 1 < _; simp) hp hd kk
theorem q_iinc_6 {x : q_X} {cc : ByteArray} {own : String} {fr lo pc : Nat} {st : List q_V} {Wd : List q_E} {a0 a1 a2 a3 a4 a5 : Option q_V} {tl : List (Option q_V)} {n : Int} {v : Int32} (u : Int32) (ok : q_ok x cc own fr lo) (hp : q_nol a5 = true) (hu : Int32.ofInt n = u) (hd : decode cc pc = .ok (.iinc 6 n, 3)) (kk : q_W x (pc + 3) (a0 :: a1 :: a2 :: a3 :: a4 :: a5 :: some (.inl (v + u)) :: tl) st Wd) : q_W x pc (a0 :: a1 :: a2 :: a3 :: a4 :: a5 :: some (.inl v) :: tl) st Wd := q_iincG (i := 6) ok rfl hp hd (by rw [hu]; exact kk)
theorem q_istore_7 {x : q_X} {cc : ByteArray} {own : String} {fr lo pc : Nat} {st : List q_V} {Wd : List q_E} {a0 a1 a2 a3 a4 a5 a6 a7 : Option q_V} {tl : List (Option q_V)} {v : Int32} (ok : q_ok x cc own fr lo) (hp : q_nol a6 = true) (hd : decode cc pc = .ok (.istore 7, 2)) (kk : q_W x (pc + 2) (a0 :: a1 :: a2 :: a3 :: a4 :: a5 :: a6 :: some (.inl v) :: tl) st Wd) : q_W x pc (a0 :: a1 :: a2 :: a3 :: a4 :: a5 :: a6 :: a7 :: tl) (.inl v :: st) Wd := q_istoreG (i := 7) ok (by show 7 < _; simp) hp hd kk
theorem q_astore_7 {x : q_X} {cc : ByteArray} {own : String} {fr lo pc : Nat} {st : List q_V} {Wd : List q_E} {a0 a1 a2 a3 a4 a5 a6 a7 : Option q_V} {tl : List (Option q_V)} {v : Nat} (ok : q_ok x cc own fr lo) (hp : q_nol a6 = true) (hd : decode cc pc = .ok (.astore 7, 2)) (kk : q_W x (pc + 2) (a0 :: a1 :: a2 :: a3 :: a4 :: a5 :: a6 :: some (.inr (.inr (some v))) :: tl) st Wd) : q_W x pc (a0 :: a1 :: a2 :: a3 :: a4 :: a5 :: a6 :: a7 :: tl) (.inr (.inr (some v)) :: st) Wd := q_astoreG (i := 7) ok (by show 7 < _; simp) hp hd kk
theorem q_lstore_7 {x : q_X} {cc : ByteArray} {own : String} {fr lo pc : Nat} {st : List q_V} {Wd : List q_E} {a0 a1 a2 a3 a4 a5 a6 a7 a8 : Option q_V} {tl : List (Option q_V)} {v : Int64} (ok : q_ok x cc own fr lo) (hp : q_nol a6 = true) (hd : decode cc pc = .ok (.lstore 7, 2)) (kk : q_W x (pc + 2) (a0 :: a1 :: a2 :: a3 :: a4 :: a5 :: a6 :: some (.inr (.inl v)) :: none :: tl) st Wd) : q_W x pc (a0 :: a1 :: a2 :: a3 :: a4 :: a5 :: a6 :: a7 :: a8 :: tl) (.inr (.inl v) :: st) Wd := q_lstoreG (i := 7) ok (by show 7 + 1 < _; simp) hp hd kk
theorem q_iinc_7 {x : q_X} {cc : ByteArray} {own : String} {fr lo pc : Nat} {st : List q_V} {Wd : List q_E} {a0 a1 a2 a3 a4 a5 a6 : Option q_V} {tl : List (Option q_V)} {n : Int} {v : Int32} (u : Int32) (ok : q_ok x cc own fr lo) (hp : q_nol a6 = true) (hu : Int32.ofInt n = u) (hd : decode cc pc = .ok (.iinc 7 n, 3)) (kk : q_W x (pc + 3) (a0 :: a1 :: a2 :: a3 :: a4 :: a5 :: a6 :: some (.inl (v + u)) :: tl) st Wd) : q_W x pc (a0 :: a1 :: a2 :: a3 :: a4 :: a5 :: a6 :: some (.inl v) :: tl) st Wd := q_iincG (i := 7) ok rfl hp hd (by rw [hu]; exact kk)
theorem q_istore_8 {x : q_X} {cc : ByteArray} {own : String} {fr lo pc : Nat} {st : List q_V} {Wd : List q_E} {a0 a1 a2 a3 a4 a5 a6 a7 a8 : Option q_V} {tl : List (Option q_V)} {v : Int32} (ok : q_ok x cc own fr lo) (hp : q_nol a7 = true) (hd : decode cc pc = .ok (.istore 8, 2)) (kk : q_W x (pc + 2) (a0 :: a1 :: a2 :: a3 :: a4 :: a5 :: a6 :: a7 :: some (.inl v) :: tl) st Wd) : q_W x pc (a0 :: a1 :: a2 :: a3 :: a4 :: a5 :: a6 :: a7 :: a8 :: tl) (.inl v :: st) Wd := q_istoreG (i := 8) ok (by show 8 < _; simp) hp hd kk
theorem q_astore_8 {x : q_X} {cc : ByteArray} {own : String} {fr lo pc : Nat} {st : List q_V} {Wd : List q_E} {a0 a1 a2 a3 a4 a5 a6 a7 a8 : Option q_V} {tl : List (Option q_V)} {v : Nat} (ok : q_ok x cc own fr lo) (hp : q_nol a7 = true) (hd : decode cc pc = .ok (.astore 8, 2)) (kk : q_W x (pc + 2) (a0 :: a1 :: a2 :: a3 :: a4 :: a5 :: a6 :: a7 :: some (.inr (.inr (some v))) :: tl) st Wd) : q_W x pc (a0 :: a1 :: a2 :: a3 :: a4 :: a5 :: a6 :: a7 :: a8 :: tl) (.inr (.inr (some v)) :: st) Wd := q_astoreG (i := 8) ok (by show 8 < _; simp) hp hd kk
theorem q_lstore_8 {x : q_X} {cc : ByteArray} {own : String} {fr lo pc : Nat} {st : List q_V} {Wd : List q_E} {a0 a1 a2 a3 a4 a5 a6 a7 a8 a9 : Option q_V} {tl : List (Option q_V)} {v : Int64} (ok : q_ok x cc own fr lo) (hp : q_nol a7 = true) (hd : decode cc pc = .ok (.lstore 8, 2)) (kk : q_W x (pc + 2) (a0 :: a1 :: a2 :: a3 :: a4 :: a5 :: a6 :: a7 :: some (.inr (.inl v)) :: none :: tl) st Wd) : q_W x pc (a0 :: a1 :: a2 :: a3 :: a4 :: a5 :: a6 :: a7 :: a8 :: a9 :: tl) (.inr (.inl v) :: st) Wd := q_lstoreG (i := 8) ok (by show 8 + 1 < _; simp) hp hd kk
theorem q_iinc_8 {x : q_X} {cc : ByteArray} {own : String} {fr lo pc : Nat} {st : List q_V} {Wd : List q_E} {a0 a1 a2 a3 a4 a5 a6 a7 : Option q_V} {tl : List (Option q_V)} {n : Int} {v : Int32} (u : Int32) (ok : q_ok x cc own fr lo) (hp : q_nol a7 = true) (hu : Int32.ofInt n = u) (hd : decode cc pc = .ok (.iinc 8 n, 3)) (kk : q_W x (pc + 3) (a0 :: a1 :: a2 :: a3 :: a4 :: a5 :: a6 :: a7 :: some (.inl (v + u)) :: tl) st Wd) : q_W x pc (a0 :: a1 :: a2 :: a3 :: a4 :: a5 :: a6 :: a7 :: some (.inl v) :: tl) st Wd := q_iincG (i := 8) ok rfl hp hd (by rw [hu]; exact kk)
theorem q_istore_9 {x : q_X} {cc : ByteArray} {own : String} {fr lo pc : Nat} {st : List q_V} {Wd : List q_E} {a0 a1 a2 a3 a4 a5 a6 a7 a8 a9 : Option q_V} {tl : List (Option q_V)} {v : Int32} (ok : q_ok x cc own fr lo) (hp : q_nol a8 = true) (hd : decode cc pc = .ok (.istore 9, 2)) (kk : q_W x (pc + 2) (a0 :: a1 :: a2 :: a3 :: a4 :: a5 :: a6 :: a7 :: a8 :: some (.inl v) :: tl) st Wd) : q_W x pc (a0 :: a1 :: a2 :: a3 :: a4 :: a5 :: a6 :: a7 :: a8 :: a9 :: tl) (.inl v :: st) Wd := q_istoreG (i := 9) ok (by show 9 < _; simp) hp hd kk
theorem q_astore_9 {x : q_X} {cc : ByteArray} {own : String} {fr lo pc : Nat} {st : List q_V} {Wd : List q_E} {a0 a1 a2 a3 a4 a5 a6 a7 a8 a9 : Option q_V} {tl : List (Option q_V)} {v : Nat} (ok : q_ok x cc own fr lo) (hp : q_nol a8 = true) (hd : decode cc pc = .ok (.astore 9, 2)) (kk : q_W x (pc + 2) (a0 :: a1 :: a2 :: a3 :: a4 :: a5 :: a6 :: a7 :: a8 :: some (.inr (.inr (some v))) :: tl) st Wd) : q_W x pc (a0 :: a1 :: a2 :: a3 :: a4 :: a5 :: a6 :: a7 :: a8 :: a9 :: tl) (.inr (.inr (some v)) :: st) Wd := q_astoreG (i := 9) ok (by show 9 < _; simp) hp hd kk
theorem q_lstore_9 {x : q_X} {cc : ByteArray} {own : String} {fr lo pc : Nat} {st : List q_V} {Wd : List q_E} {a0 a1 a2 a3 a4 a5 a6 a7 a8 a9 a10 : Option q_V} {tl : List (Option q_V)} {v : Int64} (ok : q_ok x cc own fr lo) (hp : q_nol a8 = true) (hd : decode cc pc = .ok (.lstore 9, 2)) (kk : q_W x (pc + 2) (a0 :: a1 :: a2 :: a3 :: a4 :: a5 :: a6 :: a7 :: a8 :: some (.inr (.inl v)) :: none :: tl) st Wd) : q_W x pc (a0 :: a1 :: a2 :: a3 :: a4 :: a5 :: a6 :: a7 :: a8 :: a9 :: a10 :: tl) (.inr (.inl v) :: st) Wd := q_lstoreG (i := 9) ok (by show 9 + 1 < _; simp) hp hd kk
theorem q_iinc_9 {x : q_X} {cc : ByteArray} {own : String} {fr lo pc : Nat} {st : List q_V} {Wd : List q_E} {a0 a1 a2 a3 a4 a5 a6 a7 a8 : Option q_V} {tl : List (Option q_V)} {n : Int} {v : Int32} (u : Int32) (ok : q_ok x cc own fr lo) (hp : q_nol a8 = true) (hu : Int32.ofInt n = u) (hd : decode cc pc = .ok (.iinc 9 n, 3)) (kk : q_W x (pc + 3) (a0 :: a1 :: a2 :: a3 :: a4 :: a5 :: a6 :: a7 :: a8 :: some (.inl (v + u)) :: tl) st Wd) : q_W x pc (a0 :: a1 :: a2 :: a3 :: a4 :: a5 :: a6 :: a7 :: a8 :: some (.inl v) :: tl) st Wd := q_iincG (i := 9) ok rfl hp hd (by rw [hu]; exact kk)
theorem q_istore_10 {x : q_X} {cc : ByteArray} {own : String} {fr lo pc : Nat} {st : List q_V} {Wd : List q_E} {a0 a1 a2 a3 a4 a5 a6 a7 a8 a9 a10 : Option q_V} {tl : List (Option q_V)} {v : Int32} (ok : q_ok x cc own fr lo) (hp : q_nol a9 = true) (hd : decode cc pc = .ok (.istore 10, 2)) (kk : q_W x (pc + 2) (a0 :: a1 :: a2 :: a3 :: a4 :: a5 :: a6 :: a7 :: a8 :: a9 :: some (.inl v) :: tl) st Wd) : q_W x pc (a0 :: a1 :: a2 :: a3 :: a4 :: a5 :: a6 :: a7 :: a8 :: a9 :: a10 :: tl) (.inl v :: st) Wd := q_istoreG (i := 10) ok (by show 10 < _; simp) hp hd kk
theorem q_lstore_10 {x : q_X} {cc : ByteArray} {own : String} {fr lo pc : Nat} {st : List q_V} {Wd : List q_E} {a0 a1 a2 a3 a4 a5 a6 a7 a8 a9 a10 a11 : Option q_V} {tl : List (Option q_V)} {v : Int64} (ok : q_ok x cc own fr lo) (hp : q_nol a9 = true) (hd : decode cc pc = .ok (.lstore 10, 2)) (kk : q_W x (pc + 2) (a0 :: a1 :: a2 :: a3 :: a4 :: a5 :: a6 :: a7 :: a8 :: a9 :: some (.inr (.inl v)) :: none :: tl) st Wd) : q_W x pc (a0 :: a1 :: a2 :: a3 :: a4 :: a5 :: a6 :: a7 :: a8 :: a9 :: a10 :: a11 :: tl) (.inr (.inl v) :: st) Wd := q_lstoreG (i := 10) ok (by show 10 + 1 < _; simp) hp hd kk
theorem q_iinc_10 {x : q_X} {cc : ByteArray} {own : String} {fr lo pc : Nat} {st : List q_V} {Wd : List q_E} {a0 a1 a2 a3 a4 a5 a6 a7 a8 a9 : Option q_V} {tl : List (Option q_V)} {n : Int} {v : Int32} (u : Int32) (ok : q_ok x cc own fr lo) (hp : q_nol a9 = true) (hu : Int32.ofInt n = u) (hd : decode cc pc = .ok (.iinc 10 n, 3)) (kk : q_W x (pc + 3) (a0 :: a1 :: a2 :: a3 :: a4 :: a5 :: a6 :: a7 :: a8 :: a9 :: some (.inl (v + u)) :: tl) st Wd) : q_W x pc (a0 :: a1 :: a2 :: a3 :: a4 :: a5 :: a6 :: a7 :: a8 :: a9 :: some (.inl v) :: tl) st Wd := q_iincG (i := 10) ok rfl hp hd (by rw [hu]; exact kk)
theorem q_istore_11 {x : q_X} {cc : ByteArray} {own : String} {fr lo pc : Nat} {st : List q_V} {Wd : List q_E} {a0 a1 a2 a3 a4 a5 a6 a7 a8 a9 a10 a11 : Option q_V} {tl : List (Option q_V)} {v : Int32} (ok : q_ok x cc own fr lo) (hp : q_nol a10 = true) (hd : decode cc pc = .ok (.istore 11, 2)) (kk : q_W x (pc + 2) (a0 :: a1 :: a2 :: a3 :: a4 :: a5 :: a6 :: a7 :: a8 :: a9 :: a10 :: some (.inl v) :: tl) st Wd) : q_W x pc (a0 :: a1 :: a2 :: a3 :: a4 :: a5 :: a6 :: a7 :: a8 :: a9 :: a10 :: a11 :: tl) (.inl v :: st) Wd := q_istoreG (i := 11) ok (by show 11 < _; simp) hp hd kk
theorem q_lstore_11 {x : q_X} {cc : ByteArray} {own : String} {fr lo pc : Nat} {st : List q_V} {Wd : List q_E} {a0 a1 a2 a3 a4 a5 a6 a7 a8 a9 a10 a11 a12 : Option q_V} {tl : List (Option q_V)} {v : Int64} (ok : q_ok x cc own fr lo) (hp : q_nol a10 = true) (hd : decode cc pc = .ok (.lstore 11, 2)) (kk : q_W x (pc + 2) (a0 :: a1 :: a2 :: a3 :: a4 :: a5 :: a6 :: a7 :: a8 :: a9 :: a10 :: some (.inr (.inl v)) :: none :: tl) st Wd) : q_W x pc (a0 :: a1 :: a2 :: a3 :: a4 :: a5 :: a6 :: a7 :: a8 :: a9 :: a10 :: a11 :: a12 :: tl) (.inr (.inl v) :: st) Wd := q_lstoreG (i := 11) ok (by show 11 + 1 < _; simp) hp hd kk
theorem q_iinc_11 {x : q_X} {cc : ByteArray} {own : String} {fr lo pc : Nat} {st : List q_V} {Wd : List q_E} {a0 a1 a2 a3 a4 a5 a6 a7 a8 a9 a10 : Option q_V} {tl : List (Option q_V)} {n : Int} {v : Int32} (u : Int32) (ok : q_ok x cc own fr lo) (hp : q_nol a10 = true) (hu : Int32.ofInt n = u) (hd : decode cc pc = .ok (.iinc 11 n, 3)) (kk : q_W x (pc + 3) (a0 :: a1 :: a2 :: a3 :: a4 :: a5 :: a6 :: a7 :: a8 :: a9 :: a10 :: some (.inl (v + u)) :: tl) st Wd) : q_W x pc (a0 :: a1 :: a2 :: a3 :: a4 :: a5 :: a6 :: a7 :: a8 :: a9 :: a10 :: some (.inl v) :: tl) st Wd := q_iincG (i := 11) ok rfl hp hd (by rw [hu]; exact kk)
theorem q_istore_12 {x : q_X} {cc : ByteArray} {own : String} {fr lo pc : Nat} {st : List q_V} {Wd : List q_E} {a0 a1 a2 a3 a4 a5 a6 a7 a8 a9 a10 a11 a12 : Option q_V} {tl : List (Option q_V)} {v : Int32} (ok : q_ok x cc own fr lo) (hp : q_nol a11 = true) (hd : decode cc pc = .ok (.istore 12, 2)) (kk : q_W x (pc + 2) (a0 :: a1 :: a2 :: a3 :: a4 :: a5 :: a6 :: a7 :: a8 :: a9 :: a10 :: a11 :: some (.inl v) :: tl) st Wd) : q_W x pc (a0 :: a1 :: a2 :: a3 :: a4 :: a5 :: a6 :: a7 :: a8 :: a9 :: a10 :: a11 :: a12 :: tl) (.inl v :: st) Wd := q_istoreG (i := 12) ok (by show 12 < _; simp) hp hd kk
theorem q_lstore_12 {x : q_X} {cc : ByteArray} {own : String} {fr lo pc : Nat} {st : List q_V} {Wd : List q_E} {a0 a1 a2 a3 a4 a5 a6 a7 a8 a9 a10 a11 a12 a13 : Option q_V} {tl : List (Option q_V)} {v : Int64} (ok : q_ok x cc own fr lo) (hp : q_nol a11 = true) (hd : decode cc pc = .ok (.lstore 12, 2)) (kk : q_W x (pc + 2) (a0 :: a1 :: a2 :: a3 :: a4 :: a5 :: a6 :: a7 :: a8 :: a9 :: a10 :: a11 :: some (.inr (.inl v)) :: none :: tl) st Wd) : q_W x pc (a0 :: a1 :: a2 :: a3 :: a4 :: a5 :: a6 :: a7 :: a8 :: a9 :: a10 :: a11 :: a12 :: a13 :: tl) (.inr (.inl v) :: st) Wd := q_lstoreG (i := 12) ok (by show 12 + 1 < _; simp) hp hd kk
theorem q_iinc_12 {x : q_X} {cc : ByteArray} {own : String} {fr lo pc : Nat} {st : List q_V} {Wd : List q_E} {a0 a1 a2 a3 a4 a5 a6 a7 a8 a9 a10 a11 : Option q_V} {tl : List (Option q_V)} {n : Int} {v : Int32} (u : Int32) (ok : q_ok x cc own fr lo) (hp : q_nol a11 = true) (hu : Int32.ofInt n = u) (hd : decode cc pc = .ok (.iinc 12 n, 3)) (kk : q_W x (pc + 3) (a0 :: a1 :: a2 :: a3 :: a4 :: a5 :: a6 :: a7 :: a8 :: a9 :: a10 :: a11 :: some (.inl (v + u)) :: tl) st Wd) : q_W x pc (a0 :: a1 :: a2 :: a3 :: a4 :: a5 :: a6 :: a7 :: a8 :: a9 :: a10 :: a11 :: some (.inl v) :: tl) st Wd := q_iincG (i := 12) ok rfl hp hd (by rw [hu]; exact kk)
theorem q_istore_13 {x : q_X} {cc : ByteArray} {own : String} {fr lo pc : Nat} {st : List q_V} {Wd : List q_E} {a0 a1 a2 a3 a4 a5 a6 a7 a8 a9 a10 a11 a12 a13 : Option q_V} {tl : List (Option q_V)} {v : Int32} (ok : q_ok x cc own fr lo) (hp : q_nol a12 = true) (hd : decode cc pc = .ok (.istore 13, 2)) (kk : q_W x (pc + 2) (a0 :: a1 :: a2 :: a3 :: a4 :: a5 :: a6 :: a7 :: a8 :: a9 :: a10 :: a11 :: a12 :: some (.inl v) :: tl) st Wd) : q_W x pc (a0 :: a1 :: a2 :: a3 :: a4 :: a5 :: a6 :: a7 :: a8 :: a9 :: a10 :: a11 :: a12 :: a13 :: tl) (.inl v :: st) Wd := q_istoreG (i := 13) ok (by show 13 < _; simp) hp hd kk
theorem q_lstore_13 {x : q_X} {cc : ByteArray} {own : String} {fr lo pc : Nat} {st : List q_V} {Wd : List q_E} {a0 a1 a2 a3 a4 a5 a6 a7 a8 a9 a10 a11 a12 a13 a14 : Option q_V} {tl : List (Option q_V)} {v : Int64} (ok : q_ok x cc own fr lo) (hp : q_nol a12 = true) (hd : decode cc pc = .ok (.lstore 13, 2)) (kk : q_W x (pc + 2) (a0 :: a1 :: a2 :: a3 :: a4 :: a5 :: a6 :: a7 :: a8 :: a9 :: a10 :: a11 :: a12 :: some (.inr (.inl v)) :: none :: tl) st Wd) : q_W x pc (a0 :: a1 :: a2 :: a3 :: a4 :: a5 :: a6 :: a7 :: a8 :: a9 :: a10 :: a11 :: a12 :: a13 :: a14 :: tl) (.inr (.inl v) :: st) Wd := q_lstoreG (i := 13) ok (by show 13 + 1 < _; simp) hp hd kk
theorem q_iinc_13 {x : q_X} {cc : ByteArray} {own : String} {fr lo pc : Nat} {st : List q_V} {Wd : List q_E} {a0 a1 a2 a3 a4 a5 a6 a7 a8 a9 a10 a11 a12 : Option q_V} {tl : List (Option q_V)} {n : Int} {v : Int32} (u : Int32) (ok : q_ok x cc own fr lo) (hp : q_nol a12 = true) (hu : Int32.ofInt n = u) (hd : decode cc pc = .ok (.iinc 13 n, 3)) (kk : q_W x (pc + 3) (a0 :: a1 :: a2 :: a3 :: a4 :: a5 :: a6 :: a7 :: a8 :: a9 :: a10 :: a11 :: a12 :: some (.inl (v + u)) :: tl) st Wd) : q_W x pc (a0 :: a1 :: a2 :: a3 :: a4 :: a5 :: a6 :: a7 :: a8 :: a9 :: a10 :: a11 :: a12 :: some (.inl v) :: tl) st Wd := q_iincG (i := 13) ok rfl hp hd (by rw [hu]; exact kk)
theorem q_istore_14 {x : q_X} {cc : ByteArray} {own : String} {fr lo pc : Nat} {st : List q_V} {Wd : List q_E} {a0 a1 a2 a3 a4 a5 a6 a7 a8 a9 a10 a11 a12 a13 a14 : Option q_V} {tl : List (Option q_V)} {v : Int32} (ok : q_ok x cc own fr lo) (hp : q_nol a13 = true) (hd : decode cc pc = .ok (.istore 14, 2)) (kk : q_W x (pc + 2) (a0 :: a1 :: a2 :: a3 :: a4 :: a5 :: a6 :: a7 :: a8 :: a9 :: a10 :: a11 :: a12 :: a13 :: some (.inl v) :: tl) st Wd) : q_W x pc (a0 :: a1 :: a2 :: a3 :: a4 :: a5 :: a6 :: a7 :: a8 :: a9 :: a10 :: a11 :: a12 :: a13 :: a14 :: tl) (.inl v :: st) Wd := q_istoreG (i := 14) ok (by show 14 < _; simp) hp hd kk
theorem q_lstore_14 {x : q_X} {cc : ByteArray} {own : String} {fr lo pc : Nat} {st : List q_V} {Wd : List q_E} {a0 a1 a2 a3 a4 a5 a6 a7 a8 a9 a10 a11 a12 a13 a14 a15 : Option q_V} {tl : List (Option q_V)} {v : Int64} (ok : q_ok x cc own fr lo) (hp : q_nol a13 = true) (hd : decode cc pc = .ok (.lstore 14, 2)) (kk : q_W x (pc + 2) (a0 :: a1 :: a2 :: a3 :: a4 :: a5 :: a6 :: a7 :: a8 :: a9 :: a10 :: a11 :: a12 :: a13 :: some (.inr (.inl v)) :: none :: tl) st Wd) : q_W x pc (a0 :: a1 :: a2 :: a3 :: a4 :: a5 :: a6 :: a7 :: a8 :: a9 :: a10 :: a11 :: a12 :: a13 :: a14 :: a15 :: tl) (.inr (.inl v) :: st) Wd := q_lstoreG (i := 14) ok (by show 14 + 1 < _; simp) hp hd kk
theorem q_iinc_14 {x : q_X} {cc : ByteArray} {own : String} {fr lo pc : Nat} {st : List q_V} {Wd : List q_E} {a0 a1 a2 a3 a4 a5 a6 a7 a8 a9 a10 a11 a12 a13 : Option q_V} {tl : List (Option q_V)} {n : Int} {v : Int32} (u : Int32) (ok : q_ok x cc own fr lo) (hp : q_nol a13 = true) (hu : Int32.ofInt n = u) (hd : decode cc pc = .ok (.iinc 14 n, 3)) (kk : q_W x (pc + 3) (a0 :: a1 :: a2 :: a3 :: a4 :: a5 :: a6 :: a7 :: a8 :: a9 :: a10 :: a11 :: a12 :: a13 :: some (.inl (v + u)) :: tl) st Wd) : q_W x pc (a0 :: a1 :: a2 :: a3 :: a4 :: a5 :: a6 :: a7 :: a8 :: a9 :: a10 :: a11 :: a12 :: a13 :: some (.inl v) :: tl) st Wd := q_iincG (i := 14) ok rfl hp hd (by rw [hu]; exact kk)
theorem q_istore_15 {x : q_X} {cc : ByteArray} {own : String} {fr lo pc : Nat} {st : List q_V} {Wd : List q_E} {a0 a1 a2 a3 a4 a5 a6 a7 a8 a9 a10 a11 a12 a13 a14 a15 : Option q_V} {tl : List (Option q_V)} {v : Int32} (ok : q_ok x cc own fr lo) (hp : q_nol a14 = true) (hd : decode cc pc = .ok (.istore 15, 2)) (kk : q_W x (pc + 2) (a0 :: a1 :: a2 :: a3 :: a4 :: a5 :: a6 :: a7 :: a8 :: a9 :: a10 :: a11 :: a12 :: a13 :: a14 :: some (.inl v) :: tl) st Wd) : q_W x pc (a0 :: a1 :: a2 :: a3 :: a4 :: a5 :: a6 :: a7 :: a8 :: a9 :: a10 :: a11 :: a12 :: a13 :: a14 :: a15 :: tl) (.inl v :: st) Wd := q_istoreG (i := 15) ok (by show 15 < _; simp) hp hd kk
theorem q_lstore_15 {x : q_X} {cc : ByteArray} {own : String} {fr lo pc : Nat} {st : List q_V} {Wd : List q_E} {a0 a1 a2 a3 a4 a5 a6 a7 a8 a9 a10 a11 a12 a13 a14 a15 a16 : Option q_V} {tl : List (Option q_V)} {v : Int64} (ok : q_ok x cc own fr lo) (hp : q_nol a14 = true) (hd : decode cc pc = .ok (.lstore 15, 2)) (kk : q_W x (pc + 2) (a0 :: a1 :: a2 :: a3 :: a4 :: a5 :: a6 :: a7 :: a8 :: a9 :: a10 :: a11 :: a12 :: a13 :: a14 :: some (.inr (.inl v)) :: none :: tl) st Wd) : q_W x pc (a0 :: a1 :: a2 :: a3 :: a4 :: a5 :: a6 :: a7 :: a8 :: a9 :: a10 :: a11 :: a12 :: a13 :: a14 :: a15 :: a16 :: tl) (.inr (.inl v) :: st) Wd := q_lstoreG (i := 15) ok (by show 15 + 1 < _; simp) hp hd kk
theorem q_iinc_15 {x : q_X} {cc : ByteArray} {own : String} {fr lo pc : Nat} {st : List q_V} {Wd : List q_E} {a0 a1 a2 a3 a4 a5 a6 a7 a8 a9 a10 a11 a12 a13 a14 : Option q_V} {tl : List (Option q_V)} {n : Int} {v : Int32} (u : Int32) (ok : q_ok x cc own fr lo) (hp : q_nol a14 = true) (hu : Int32.ofInt n = u) (hd : decode cc pc = .ok (.iinc 15 n, 3)) (kk : q_W x (pc + 3) (a0 :: a1 :: a2 :: a3 :: a4 :: a5 :: a6 :: a7 :: a8 :: a9 :: a10 :: a11 :: a12 :: a13 :: a14 :: some (.inl (v + u)) :: tl) st Wd) : q_W x pc (a0 :: a1 :: a2 :: a3 :: a4 :: a5 :: a6 :: a7 :: a8 :: a9 :: a10 :: a11 :: a12 :: a13 :: a14 :: some (.inl v) :: tl) st Wd := q_iincG (i := 15) ok rfl hp hd (by rw [hu]; exact kk)
theorem q_istore_16 {x : q_X} {cc : ByteArray} {own : String} {fr lo pc : Nat} {st : List q_V} {Wd : List q_E} {a0 a1 a2 a3 a4 a5 a6 a7 a8 a9 a10 a11 a12 a13 a14 a15 a16 : Option q_V} {tl : List (Option q_V)} {v : Int32} (ok : q_ok x cc own fr lo) (hp : q_nol a15 = true) (hd : decode cc pc = .ok (.istore 16, 2)) (kk : q_W x (pc + 2) (a0 :: a1 :: a2 :: a3 :: a4 :: a5 :: a6 :: a7 :: a8 :: a9 :: a10 :: a11 :: a12 :: a13 :: a14 :: a15 :: some (.inl v) :: tl) st Wd) : q_W x pc (a0 :: a1 :: a2 :: a3 :: a4 :: a5 :: a6 :: a7 :: a8 :: a9 :: a10 :: a11 :: a12 :: a13 :: a14 :: a15 :: a16 :: tl) (.inl v :: st) Wd := q_istoreG (i := 16) ok (by show 16 < _; simp) hp hd kk
theorem q_lstore_16 {x : q_X} {cc : ByteArray} {own : String} {fr lo pc : Nat} {st : List q_V} {Wd : List q_E} {a0 a1 a2 a3 a4 a5 a6 a7 a8 a9 a10 a11 a12 a13 a14 a15 a16 a17 : Option q_V} {tl : List (Option q_V)} {v : Int64} (ok : q_ok x cc own fr lo) (hp : q_nol a15 = true) (hd : decode cc pc = .ok (.lstore 16, 2)) (kk : q_W x (pc + 2) (a0 :: a1 :: a2 :: a3 :: a4 :: a5 :: a6 :: a7 :: a8 :: a9 :: a10 :: a11 :: a12 :: a13 :: a14 :: a15 :: some (.inr (.inl v)) :: none :: tl) st Wd) : q_W x pc (a0 :: a1 :: a2 :: a3 :: a4 :: a5 :: a6 :: a7 :: a8 :: a9 :: a10 :: a11 :: a12 :: a13 :: a14 :: a15 :: a16 :: a17 :: tl) (.inr (.inl v) :: st) Wd := q_lstoreG (i := 16) ok (by show 16 + 1 < _; simp) hp hd kk
theorem q_iinc_16 {x : q_X} {cc : ByteArray} {own : String} {fr lo pc : Nat} {st : List q_V} {Wd : List q_E} {a0 a1 a2 a3 a4 a5 a6 a7 a8 a9 a10 a11 a12 a13 a14 a15 : Option q_V} {tl : List (Option q_V)} {n : Int} {v : Int32} (u : Int32) (ok : q_ok x cc own fr lo) (hp : q_nol a15 = true) (hu : Int32.ofInt n = u) (hd : decode cc pc = .ok (.iinc 16 n, 3)) (kk : q_W x (pc + 3) (a0 :: a1 :: a2 :: a3 :: a4 :: a5 :: a6 :: a7 :: a8 :: a9 :: a10 :: a11 :: a12 :: a13 :: a14 :: a15 :: some (.inl (v + u)) :: tl) st Wd) : q_W x pc (a0 :: a1 :: a2 :: a3 :: a4 :: a5 :: a6 :: a7 :: a8 :: a9 :: a10 :: a11 :: a12 :: a13 :: a14 :: a15 :: some (.inl v) :: tl) st Wd := q_iincG (i := 16) ok rfl hp hd (by rw [hu]; exact kk)
theorem q_istore_17 {x : q_X} {cc : ByteArray} {own : String} {fr lo pc : Nat} {st : List q_V} {Wd : List q_E} {a0 a1 a2 a3 a4 a5 a6 a7 a8 a9 a10 a11 a12 a13 a14 a15 a16 a17 : Option q_V} {tl : List (Option q_V)} {v : Int32} (ok : q_ok x cc own fr lo) (hp : q_nol a16 = true) (hd : decode cc pc = .ok (.istore 17, 2)) (kk : q_W x (pc + 2) (a0 :: a1 :: a2 :: a3 :: a4 :: a5 :: a6 :: a7 :: a8 :: a9 :: a10 :: a11 :: a12 :: a13 :: a14 :: a15 :: a16 :: some (.inl v) :: tl) st Wd) : q_W x pc (a0 :: a1 :: a2 :: a3 :: a4 :: a5 :: a6 :: a7 :: a8 :: a9 :: a10 :: a11 :: a12 :: a13 :: a14 :: a15 :: a16 :: a17 :: tl) (.inl v :: st) Wd := q_istoreG (i := 17) ok (by show 17 < _; simp) hp hd kk
theorem q_lstore_17 {x : q_X} {cc : ByteArray} {own : String} {fr lo pc : Nat} {st : List q_V} {Wd : List q_E} {a0 a1 a2 a3 a4 a5 a6 a7 a8 a9 a10 a11 a12 a13 a14 a15 a16 a17 a18 : Option q_V} {tl : List (Option q_V)} {v : Int64} (ok : q_ok x cc own fr lo) (hp : q_nol a16 = true) (hd : decode cc pc = .ok (.lstore 17, 2)) (kk : q_W x (pc + 2) (a0 :: a1 :: a2 :: a3 :: a4 :: a5 :: a6 :: a7 :: a8 :: a9 :: a10 :: a11 :: a12 :: a13 :: a14 :: a15 :: a16 :: some (.inr (.inl v)) :: none :: tl) st Wd) : q_W x pc (a0 :: a1 :: a2 :: a3 :: a4 :: a5 :: a6 :: a7 :: a8 :: a9 :: a10 :: a11 :: a12 :: a13 :: a14 :: a15 :: a16 :: a17 :: a18 :: tl) (.inr (.inl v) :: st) Wd := q_lstoreG (i := 17) ok (by show 17 + 1 < _; simp) hp hd kk
theorem q_iinc_17 {x : q_X} {cc : ByteArray} {own : String} {fr lo pc : Nat} {st : List q_V} {Wd : List q_E} {a0 a1 a2 a3 a4 a5 a6 a7 a8 a9 a10 a11 a12 a13 a14 a15 a16 : Option q_V} {tl : List (Option q_V)} {n : Int} {v : Int32} (u : Int32) (ok : q_ok x cc own fr lo) (hp : q_nol a16 = true) (hu : Int32.ofInt n = u) (hd : decode cc pc = .ok (.iinc 17 n, 3)) (kk : q_W x (pc + 3) (a0 :: a1 :: a2 :: a3 :: a4 :: a5 :: a6 :: a7 :: a8 :: a9 :: a10 :: a11 :: a12 :: a13 :: a14 :: a15 :: a16 :: some (.inl (v + u)) :: tl) st Wd) : q_W x pc (a0 :: a1 :: a2 :: a3 :: a4 :: a5 :: a6 :: a7 :: a8 :: a9 :: a10 :: a11 :: a12 :: a13 :: a14 :: a15 :: a16 :: some (.inl v) :: tl) st Wd := q_iincG (i := 17) ok rfl hp hd (by rw [hu]; exact kk)
theorem q_istore_18 {x : q_X} {cc : ByteArray} {own : String} {fr lo pc : Nat} {st : List q_V} {Wd : List q_E} {a0 a1 a2 a3 a4 a5 a6 a7 a8 a9 a10 a11 a12 a13 a14 a15 a16 a17 a18 : Option q_V} {tl : List (Option q_V)} {v : Int32} (ok : q_ok x cc own fr lo) (hp : q_nol a17 = true) (hd : decode cc pc = .ok (.istore 18, 2)) (kk : q_W x (pc + 2) (a0 :: a1 :: a2 :: a3 :: a4 :: a5 :: a6 :: a7 :: a8 :: a9 :: a10 :: a11 :: a12 :: a13 :: a14 :: a15 :: a16 :: a17 :: some (.inl v) :: tl) st Wd) : q_W x pc (a0 :: a1 :: a2 :: a3 :: a4 :: a5 :: a6 :: a7 :: a8 :: a9 :: a10 :: a11 :: a12 :: a13 :: a14 :: a15 :: a16 :: a17 :: a18 :: tl) (.inl v :: st) Wd := q_istoreG (i := 18) ok (by show 18 < _; simp) hp hd kk
theorem q_lstore_18 {x : q_X} {cc : ByteArray} {own : String} {fr lo pc : Nat} {st : List q_V} {Wd : List q_E} {a0 a1 a2 a3 a4 a5 a6 a7 a8 a9 a10 a11 a12 a13 a14 a15 a16 a17 a18 a19 : Option q_V} {tl : List (Option q_V)} {v : Int64} (ok : q_ok x cc own fr lo) (hp : q_nol a17 = true) (hd : decode cc pc = .ok (.lstore 18, 2)) (kk : q_W x (pc + 2) (a0 :: a1 :: a2 :: a3 :: a4 :: a5 :: a6 :: a7 :: a8 :: a9 :: a10 :: a11 :: a12 :: a13 :: a14 :: a15 :: a16 :: a17 :: some (.inr (.inl v)) :: none :: tl) st Wd) : q_W x pc (a0 :: a1 :: a2 :: a3 :: a4 :: a5 :: a6 :: a7 :: a8 :: a9 :: a10 :: a11 :: a12 :: a13 :: a14 :: a15 :: a16 :: a17 :: a18 :: a19 :: tl) (.inr (.inl v) :: st) Wd := q_lstoreG (i := 18) ok (by show 18 + 1 < _; simp) hp hd kk
theorem q_iinc_18 {x : q_X} {cc : ByteArray} {own : String} {fr lo pc : Nat} {st : List q_V} {Wd : List q_E} {a0 a1 a2 a3 a4 a5 a6 a7 a8 a9 a10 a11 a12 a13 a14 a15 a16 a17 : Option q_V} {tl : List (Option q_V)} {n : Int} {v : Int32} (u : Int32) (ok : q_ok x cc own fr lo) (hp : q_nol a17 = true) (hu : Int32.ofInt n = u) (hd : decode cc pc = .ok (.iinc 18 n, 3)) (kk : q_W x (pc + 3) (a0 :: a1 :: a2 :: a3 :: a4 :: a5 :: a6 :: a7 :: a8 :: a9 :: a10 :: a11 :: a12 :: a13 :: a14 :: a15 :: a16 :: a17 :: some (.inl (v + u)) :: tl) st Wd) : q_W x pc (a0 :: a1 :: a2 :: a3 :: a4 :: a5 :: a6 :: a7 :: a8 :: a9 :: a10 :: a11 :: a12 :: a13 :: a14 :: a15 :: a16 :: a17 :: some (.inl v) :: tl) st Wd := q_iincG (i := 18) ok rfl hp hd (by rw [hu]; exact kk)
theorem q_istore_19 {x : q_X} {cc : ByteArray} {own : String} {fr lo pc : Nat} {st : List q_V} {Wd : List q_E} {a0 a1 a2 a3 a4 a5 a6 a7 a8 a9 a10 a11 a12 a13 a14 a15 a16 a17 a18 a19 : Option q_V} {tl : List (Option q_V)} {v : Int32} (ok : q_ok x cc own fr lo) (hp : q_nol a18 = true) (hd : decode cc pc = .ok (.istore 19, 2)) (kk : q_W x (pc + 2) (a0 :: a1 :: a2 :: a3 :: a4 :: a5 :: a6 :: a7 :: a8 :: a9 :: a10 :: a11 :: a12 :: a13 :: a14 :: a15 :: a16 :: a17 :: a18 :: some (.inl v) :: tl) st Wd) : q_W x pc (a0 :: a1 :: a2 :: a3 :: a4 :: a5 :: a6 :: a7 :: a8 :: a9 :: a10 :: a11 :: a12 :: a13 :: a14 :: a15 :: a16 :: a17 :: a18 :: a19 :: tl) (.inl v :: st) Wd := q_istoreG (i := 19) ok (by show 19 < _; simp) hp hd kk
theorem q_lstore_19 {x : q_X} {cc : ByteArray} {own : String} {fr lo pc : Nat} {st : List q_V} {Wd : List q_E} {a0 a1 a2 a3 a4 a5 a6 a7 a8 a9 a10 a11 a12 a13 a14 a15 a16 a17 a18 a19 a20 : Option q_V} {tl : List (Option q_V)} {v : Int64} (ok : q_ok x cc own fr lo) (hp : q_nol a18 = true) (hd : decode cc pc = .ok (.lstore 19, 2)) (kk : q_W x (pc + 2) (a0 :: a1 :: a2 :: a3 :: a4 :: a5 :: a6 :: a7 :: a8 :: a9 :: a10 :: a11 :: a12 :: a13 :: a14 :: a15 :: a16 :: a17 :: a18 :: some (.inr (.inl v)) :: none :: tl) st Wd) : q_W x pc (a0 :: a1 :: a2 :: a3 :: a4 :: a5 :: a6 :: a7 :: a8 :: a9 :: a10 :: a11 :: a12 :: a13 :: a14 :: a15 :: a16 :: a17 :: a18 :: a19 :: a20 :: tl) (.inr (.inl v) :: st) Wd := q_lstoreG (i := 19) ok (by show 19 + 1 < _; simp) hp hd kk
theorem q_iinc_19 {x : q_X} {cc : ByteArray} {own : String} {fr lo pc : Nat} {st : List q_V} {Wd : List q_E} {a0 a1 a2 a3 a4 a5 a6 a7 a8 a9 a10 a11 a12 a13 a14 a15 a16 a17 a18 : Option q_V} {tl : List (Option q_V)} {n : Int} {v : Int32} (u : Int32) (ok : q_ok x cc own fr lo) (hp : q_nol a18 = true) (hu : Int32.ofInt n = u) (hd : decode cc pc = .ok (.iinc 19 n, 3)) (kk : q_W x (pc + 3) (a0 :: a1 :: a2 :: a3 :: a4 :: a5 :: a6 :: a7 :: a8 :: a9 :: a10 :: a11 :: a12 :: a13 :: a14 :: a15 :: a16 :: a17 :: a18 :: some (.inl (v + u)) :: tl) st Wd) : q_W x pc (a0 :: a1 :: a2 :: a3 :: a4 :: a5 :: a6 :: a7 :: a8 :: a9 :: a10 :: a11 :: a12 :: a13 :: a14 :: a15 :: a16 :: a17 :: a18 :: some (.inl v) :: tl) st Wd := q_iincG (i := 19) ok rfl hp hd (by rw [hu]; exact kk)
theorem q_istore_20 {x : q_X} {cc : ByteArray} {own : String} {fr lo pc : Nat} {st : List q_V} {Wd : List q_E} {a0 a1 a2 a3 a4 a5 a6 a7 a8 a9 a10 a11 a12 a13 a14 a15 a16 a17 a18 a19 a20 : Option q_V} {tl : List (Option q_V)} {v : Int32} (ok : q_ok x cc own fr lo) (hp : q_nol a19 = true) (hd : decode cc pc = .ok (.istore 20, 2)) (kk : q_W x (pc + 2) (a0 :: a1 :: a2 :: a3 :: a4 :: a5 :: a6 :: a7 :: a8 :: a9 :: a10 :: a11 :: a12 :: a13 :: a14 :: a15 :: a16 :: a17 :: a18 :: a19 :: some (.inl v) :: tl) st Wd) : q_W x pc (a0 :: a1 :: a2 :: a3 :: a4 :: a5 :: a6 :: a7 :: a8 :: a9 :: a10 :: a11 :: a12 :: a13 :: a14 :: a15 :: a16 :: a17 :: a18 :: a19 :: a20 :: tl) (.inl v :: st) Wd := q_istoreG (i := 20) ok (by show 20 < _; simp) hp hd kk
theorem q_lstore_20 {x : q_X} {cc : ByteArray} {own : String} {fr lo pc : Nat} {st : List q_V} {Wd : List q_E} {a0 a1 a2 a3 a4 a5 a6 a7 a8 a9 a10 a11 a12 a13 a14 a15 a16 a17 a18 a19 a20 a21 : Option q_V} {tl : List (Option q_V)} {v : Int64} (ok : q_ok x cc own fr lo) (hp : q_nol a19 = true) (hd : decode cc pc = .ok (.lstore 20, 2)) (kk : q_W x (pc + 2) (a0 :: a1 :: a2 :: a3 :: a4 :: a5 :: a6 :: a7 :: a8 :: a9 :: a10 :: a11 :: a12 :: a13 :: a14 :: a15 :: a16 :: a17 :: a18 :: a19 :: some (.inr (.inl v)) :: none :: tl) st Wd) : q_W x pc (a0 :: a1 :: a2 :: a3 :: a4 :: a5 :: a6 :: a7 :: a8 :: a9 :: a10 :: a11 :: a12 :: a13 :: a14 :: a15 :: a16 :: a17 :: a18 :: a19 :: a20 :: a21 :: tl) (.inr (.inl v) :: st) Wd := q_lstoreG (i := 20) ok (by show 20 + 1 < _; simp) hp hd kk
theorem q_iinc_20 {x : q_X} {cc : ByteArray} {own : String} {fr lo pc : Nat} {st : List q_V} {Wd : List q_E} {a0 a1 a2 a3 a4 a5 a6 a7 a8 a9 a10 a11 a12 a13 a14 a15 a16 a17 a18 a19 : Option q_V} {tl : List (Option q_V)} {n : Int} {v : Int32} (u : Int32) (ok : q_ok x cc own fr lo) (hp : q_nol a19 = true) (hu : Int32.ofInt n = u) (hd : decode cc pc = .ok (.iinc 20 n, 3)) (kk : q_W x (pc + 3) (a0 :: a1 :: a2 :: a3 :: a4 :: a5 :: a6 :: a7 :: a8 :: a9 :: a10 :: a11 :: a12 :: a13 :: a14 :: a15 :: a16 :: a17 :: a18 :: a19 :: some (.inl (v + u)) :: tl) st Wd) : q_W x pc (a0 :: a1 :: a2 :: a3 :: a4 :: a5 :: a6 :: a7 :: a8 :: a9 :: a10 :: a11 :: a12 :: a13 :: a14 :: a15 :: a16 :: a17 :: a18 :: a19 :: some (.inl v) :: tl) st Wd := q_iincG (i := 20) ok rfl hp hd (by rw [hu]; exact kk)
def q_le : List (Option q_V) → List (Option q_V) → Prop
  | [], [] => True
  | _ :: l, none :: l' => q_le l l'
  | some v :: l, some v' :: l' => v = v' ∧ q_le l l'
  | _, _ => False
theorem q_le_len : ∀ (l l' : List (Option q_V)), q_le l l' → l.length = l'.length
  | [], [], _ => rfl
  | [], _ :: _, h => by cases h
  | _ :: _, [], h => by rename_i a b; cases a <;> cases h
  | none :: l, none :: l', h => by simpa using q_le_len l l' h
  | some _ :: l, none :: l', h => by simpa using q_le_len l l' h
  | none :: l, some _ :: l', h => by cases h
  | some _ :: l, some _ :: l', h => by simpa using q_le_len l l' h.2
theorem q_le_mem (ad : Nat → Nat) : ∀ (l l' : List (Option q_V)) (i : Nat), q_le l l' → ∀ q ∈ q_lvl ad i l', q ∈ q_lvl ad i l
  | [], [], _, _, q, h => h
  | [], _ :: _, _, h, _, _ => by cases h
  | _ :: _, [], _, _, _, hq => by cases hq
  | none :: l, none :: l', i, h, q, hq => q_le_mem ad l l' (i + 1) h q hq
  | some _ :: l, none :: l', i, h, q, hq => List.mem_cons_of_mem _ (q_le_mem ad l l' (i + 1) h q hq)
  | none :: l, some _ :: l', _, h, _, _ => by cases h
  | some v :: l, some v' :: l', i, h, q, hq => by
    obtain ⟨rfl, h⟩ := h
    rcases List.mem_cons.mp hq with e | e
    · exact List.mem_cons.mpr (Or.inl e)
    · exact List.mem_cons.mpr (Or.inr (q_le_mem ad l l' (i + 1) h q e))
theorem q_fgt {x : q_X} {pc : Nat} {lv : List (Option q_V)} {st : List q_V} {Wd : List q_E} (lv2 : List (Option q_V)) (h : q_le lv lv2) (kk : q_W x pc lv2 st Wd) : q_W x pc lv st Wd := by
  obtain ⟨p, l, e, R, s, m, args, below, meth, c, A, H0, cells, slots, Q, D, cA, ad⟩ := x
  intro H locs ls hl hn hP hD hS
  have hz := q_le_len _ _ h
  exact kk H locs ls (by rw [← hz]; exact q_has_sub hl (q_le_mem ad _ _ 0 h)) (by rw [← hz]; exact hn) hP hD hS
theorem q_getG {x : q_X} {cc : ByteArray} {own : String} {fr lo pc : Nat} {lv : List (Option q_V)} {st : List q_V} {Wd : List q_E} {ix k ci f N : Nat} {C : String} {T : u_T} {fs : List q_V} {v : q_V} (ok : q_ok x cc own fr lo) (hcl : vwCl[ci]? = some (C, T, N)) (hin : ∀ w ∈ u_ws C T N, w ∈ wsL_law) (hf : f < N) (hl1 : Cond.fieldLink own ix C (T f).2.1 (T f).2.2.1 ∈ wsL_law) (hT : (T f).1 = C) (he : Wd[k]? = some (.inr (ci, fs))) (hv : fs[f]? = some v) (hd : decode cc pc = .ok (.getfield ix, 3)) (kk : q_W x (pc + 3) lv (v :: st) Wd) : q_W x pc lv (.inr (.inr (some k)) :: st) Wd := by
  obtain ⟨p, l, e, R, s, m, args, below, meth, c, A, H0, cells, slots, Q, D, cA, ad⟩ := x
  obtain ⟨hx, hb, hown, hts, hK, hA, hfr, hlo, hce, hsl⟩ := ok
  intro H locs ls hl hn hP hD hS
  exact va_get (fs := fs.map (q_cv ad)) (v := q_cv ad v) hx hb hts hin hown hK hP k (q_cw_get0 he) hcl f hf (hts _ hl1) (fun z h9 => by rw [hT] at h9; exact h9) (by rw [List.getElem?_map, hv]; rfl) hd (kk H locs ls hl hn hP hD hS)
theorem q_putiG {x : q_X} {cc : ByteArray} {own : String} {fr lo pc : Nat} {lv : List (Option q_V)} {st : List q_V} {Wd : List q_E} {ix k ci f N : Nat} {C : String} {T : u_T} {fs : List q_V} {v : Int32} (ok : q_ok x cc own fr lo) (hcl : vwCl[ci]? = some (C, T, N)) (hin : ∀ w ∈ u_ws C T N, w ∈ wsL_law) (ty0 : Nat → FieldType) (hty : ∀ k, k < N → parseFieldDescriptor (T k).2.2.1 = some (ty0 k)) (hnm : ∀ a, a < N → ∀ b, b < N → a ≠ b → (T a).2.1 ≠ (T b).2.1) (hf : f < N) (hl1 : Cond.fieldLink own ix C (T f).2.1 (T f).2.2.1 ∈ wsL_law) (hT : (T f).1 = C) (hfin : (T f).2.2.2 = false) (hdt : parseFieldDescriptor (T f).2.2.1 = some .int) (he : Wd[k]? = some (.inr (ci, fs))) (hlen : f < fs.length) (hd : decode cc pc = .ok (.putfield ix, 3)) (kk : q_W x (pc + 3) lv st (Wd.set k (.inr (ci, fs.set f (.inl v))))) : q_W x pc lv (.inl v :: .inr (.inr (some k)) :: st) Wd := by
  obtain ⟨p, l, e, R, s, m, args, below, meth, c, A, H0, cells, slots, Q, D, cA, ad⟩ := x
  obtain ⟨hx, hb, hown, hts, hK, hA, hfr, hlo, hce, hsl⟩ := ok
  intro H locs ls hl hn hP hD hS
  refine va_put (fs := fs.map (q_cv ad)) hx hb hts hin ty0 hty hnm hown hK hP hD hS k (q_cw_get0 he) hcl f hf (hts _ hl1) (fun z h9 => by rw [hT] at h9; exact h9) hfin hdt rfl rfl (by rw [List.length_map]; exact hlen) hd (fun H1 locs1 hP1 hD1 hS1 => ?_)
  have ee : (ad k, (Sum.inr (ci, (fs.map (q_cv ad)).set f (q_cv ad (.inl v))) : va_E)) = (ad k, q_ce cA ad (.inr (ci, fs.set f (.inl v)))) := by simp [q_ce, List.map_set]
  have hP2 : va_P D vwCl (List.set (q_cw cA ad 0 Wd) k (ad k, (Sum.inr (ci, (fs.map (q_cv ad)).set f (q_cv ad (.inl v))) : va_E))) H1 := hP1
  have hD2 : va_D A (List.set (q_cw cA ad 0 Wd) k (ad k, (Sum.inr (ci, (fs.map (q_cv ad)).set f (q_cv ad (.inl v))) : va_E))) := hD1
  rw [ee, q_cw_set0] at hP2 hD2
  exact kk H1 locs1 ls hl hn hP2 hD2 hS1
theorem q_putlG {x : q_X} {cc : ByteArray} {own : String} {fr lo pc : Nat} {lv : List (Option q_V)} {st : List q_V} {Wd : List q_E} {ix k ci f N : Nat} {C : String} {T : u_T} {fs : List q_V} {v : Int64} (ok : q_ok x cc own fr lo) (hcl : vwCl[ci]? = some (C, T, N)) (hin : ∀ w ∈ u_ws C T N, w ∈ wsL_law) (ty0 : Nat → FieldType) (hty : ∀ k, k < N → parseFieldDescriptor (T k).2.2.1 = some (ty0 k)) (hnm : ∀ a, a < N → ∀ b, b < N → a ≠ b → (T a).2.1 ≠ (T b).2.1) (hf : f < N) (hl1 : Cond.fieldLink own ix C (T f).2.1 (T f).2.2.1 ∈ wsL_law) (hT : (T f).1 = C) (hfin : (T f).2.2.2 = false) (hdt : parseFieldDescriptor (T f).2.2.1 = some .long) (he : Wd[k]? = some (.inr (ci, fs))) (hlen : f < fs.length) (hd : decode cc pc = .ok (.putfield ix, 3)) (kk : q_W x (pc + 3) lv st (Wd.set k (.inr (ci, fs.set f (.inr (.inl v)))))) : q_W x pc lv (.inr (.inl v) :: .inr (.inr (some k)) :: st) Wd := by
  obtain ⟨p, l, e, R, s, m, args, below, meth, c, A, H0, cells, slots, Q, D, cA, ad⟩ := x
  obtain ⟨hx, hb, hown, hts, hK, hA, hfr, hlo, hce, hsl⟩ := ok
  intro H locs ls hl hn hP hD hS
  refine va_put (fs := fs.map (q_cv ad)) hx hb hts hin ty0 hty hnm hown hK hP hD hS k (q_cw_get0 he) hcl f hf (hts _ hl1) (fun z h9 => by rw [hT] at h9; exact h9) hfin hdt rfl rfl (by rw [List.length_map]; exact hlen) hd (fun H1 locs1 hP1 hD1 hS1 => ?_)
  have ee : (ad k, (Sum.inr (ci, (fs.map (q_cv ad)).set f (q_cv ad (.inr (.inl v)))) : va_E)) = (ad k, q_ce cA ad (.inr (ci, fs.set f (.inr (.inl v))))) := by simp [q_ce, List.map_set]
  have hP2 : va_P D vwCl (List.set (q_cw cA ad 0 Wd) k (ad k, (Sum.inr (ci, (fs.map (q_cv ad)).set f (q_cv ad (.inr (.inl v)))) : va_E))) H1 := hP1
  have hD2 : va_D A (List.set (q_cw cA ad 0 Wd) k (ad k, (Sum.inr (ci, (fs.map (q_cv ad)).set f (q_cv ad (.inr (.inl v)))) : va_E))) := hD1
  rw [ee, q_cw_set0] at hP2 hD2
  exact kk H1 locs1 ls hl hn hP2 hD2 hS1
theorem q_ty0 (cA : Nat → ClassId) : (q_tys cA)[0]? = some (cA 0, .int) := rfl
theorem q_ty1 (cA : Nat → ClassId) : (q_tys cA)[1]? = some (cA 1, .long) := rfl
theorem q_ty2 (cA : Nat → ClassId) : (q_tys cA)[2]? = some (cA 2, .boolean) := rfl
theorem q_iald {x : q_X} {cc : ByteArray} {own : String} {fr lo pc : Nat} {lv : List (Option q_V)} {st : List q_V} {Wd : List q_E} {k n : Nat} {f : Nat → Int32} {i : Int32} (ok : q_ok x cc own fr lo) (he : Wd[k]? = some (.inl (0, n, .inl f))) (hin : vp_in i n) (hd : decode cc pc = .ok (.iaload, 1)) (kk : q_W x (pc + 1) lv (.inl (f i.toNatClampNeg) :: st) Wd) : q_W x pc lv (.inl i :: .inr (.inr (some k)) :: st) Wd := by
  obtain ⟨p, l, e, R, s, m, args, below, meth, c, A, H0, cells, slots, Q, D, cA, ad⟩ := x
  obtain ⟨hx, hb, hown, hts, hK, hA, hfr, hlo, hce, hsl⟩ := ok
  intro H locs ls hl hn hP hD hS
  exact va_iald hx hb hK hP k 0 (q_cw_get0 he) (q_ty0 cA) hin hd (kk H locs ls hl hn hP hD hS)
theorem q_zald {x : q_X} {cc : ByteArray} {own : String} {fr lo pc : Nat} {lv : List (Option q_V)} {st : List q_V} {Wd : List q_E} {k n : Nat} {f : Nat → Int32} {i : Int32} (ok : q_ok x cc own fr lo) (he : Wd[k]? = some (.inl (2, n, .inl f))) (hin : vp_in i n) (hd : decode cc pc = .ok (.baload, 1)) (kk : q_W x (pc + 1) lv (.inl (f i.toNatClampNeg) :: st) Wd) : q_W x pc lv (.inl i :: .inr (.inr (some k)) :: st) Wd := by
  obtain ⟨p, l, e, R, s, m, args, below, meth, c, A, H0, cells, slots, Q, D, cA, ad⟩ := x
  obtain ⟨hx, hb, hown, hts, hK, hA, hfr, hlo, hce, hsl⟩ := ok
  intro H locs ls hl hn hP hD hS
  exact va_zald hx hb hK hP k 2 (q_cw_get0 he) (q_ty2 cA) hin hd (kk H locs ls hl hn hP hD hS)
theorem q_lald {x : q_X} {cc : ByteArray} {own : String} {fr lo pc : Nat} {lv : List (Option q_V)} {st : List q_V} {Wd : List q_E} {k n : Nat} {f : Nat → Int64} {i : Int32} (ok : q_ok x cc own fr lo) (he : Wd[k]? = some (.inl (1, n, .inr f))) (hin : vp_in i n) (hd : decode cc pc = .ok (.laload, 1)) (kk : q_W x (pc + 1) lv (.inr (.inl (f i.toNatClampNeg)) :: st) Wd) : q_W x pc lv (.inl i :: .inr (.inr (some k)) :: st) Wd := by
  obtain ⟨p, l, e, R, s, m, args, below, meth, c, A, H0, cells, slots, Q, D, cA, ad⟩ := x
  obtain ⟨hx, hb, hown, hts, hK, hA, hfr, hlo, hce, hsl⟩ := ok
  intro H locs ls hl hn hP hD hS
  exact va_lald hx hb hK hP k 1 (q_cw_get0 he) (q_ty1 cA) hin hd (kk H locs ls hl hn hP hD hS)
theorem q_iast {x : q_X} {cc : ByteArray} {own : String} {fr lo pc : Nat} {lv : List (Option q_V)} {st : List q_V} {Wd : List q_E} {k n : Nat} {f : Nat → Int32} {i : Int32} {v : Int32} (ok : q_ok x cc own fr lo) (he : Wd[k]? = some (.inl (0, n, .inl f))) (hin : vp_in i n) (hd : decode cc pc = .ok (.iastore, 1)) (kk : q_W x (pc + 1) lv st (Wd.set k (.inl (0, n, .inl (upd f i.toNatClampNeg v))))) : q_W x pc lv (.inl v :: .inl i :: .inr (.inr (some k)) :: st) Wd := by
  obtain ⟨p, l, e, R, s, m, args, below, meth, c, A, H0, cells, slots, Q, D, cA, ad⟩ := x
  obtain ⟨hx, hb, hown, hts, hK, hA, hfr, hlo, hce, hsl⟩ := ok
  intro H locs ls hl hn hP hD hS
  refine va_iast hx hb hK hP hD hS k 0 (q_cw_get0 he) (q_ty0 cA) hin hd (fun H1 locs1 hP1 hD1 hS1 => ?_)
  have hP2 : va_P D vwCl (List.set (q_cw cA ad 0 Wd) k (ad k, q_ce cA ad (.inl (0, n, .inl (upd f i.toNatClampNeg v))))) H1 := hP1
  have hD2 : va_D A (List.set (q_cw cA ad 0 Wd) k (ad k, q_ce cA ad (.inl (0, n, .inl (upd f i.toNatClampNeg v))))) := hD1
  rw [q_cw_set0] at hP2 hD2
  exact kk H1 locs1 ls hl hn hP2 hD2 hS1
theorem q_zast {x : q_X} {cc : ByteArray} {own : String} {fr lo pc : Nat} {lv : List (Option q_V)} {st : List q_V} {Wd : List q_E} {k n : Nat} {f : Nat → Int32} {i : Int32} {v : Int32} (ok : q_ok x cc own fr lo) (he : Wd[k]? = some (.inl (2, n, .inl f))) (hin : vp_in i n) (hd : decode cc pc = .ok (.bastore, 1)) (kk : q_W x (pc + 1) lv st (Wd.set k (.inl (2, n, .inl (upd f i.toNatClampNeg (vp_nar .boolean v)))))) : q_W x pc lv (.inl v :: .inl i :: .inr (.inr (some k)) :: st) Wd := by
  obtain ⟨p, l, e, R, s, m, args, below, meth, c, A, H0, cells, slots, Q, D, cA, ad⟩ := x
  obtain ⟨hx, hb, hown, hts, hK, hA, hfr, hlo, hce, hsl⟩ := ok
  intro H locs ls hl hn hP hD hS
  refine va_zast hx hb hK hP hD hS k 2 (q_cw_get0 he) (q_ty2 cA) hin hd (fun H1 locs1 hP1 hD1 hS1 => ?_)
  have hP2 : va_P D vwCl (List.set (q_cw cA ad 0 Wd) k (ad k, q_ce cA ad (.inl (2, n, .inl (upd f i.toNatClampNeg (vp_nar .boolean v)))))) H1 := hP1
  have hD2 : va_D A (List.set (q_cw cA ad 0 Wd) k (ad k, q_ce cA ad (.inl (2, n, .inl (upd f i.toNatClampNeg (vp_nar .boolean v)))))) := hD1
  rw [q_cw_set0] at hP2 hD2
  exact kk H1 locs1 ls hl hn hP2 hD2 hS1
theorem q_last {x : q_X} {cc : ByteArray} {own : String} {fr lo pc : Nat} {lv : List (Option q_V)} {st : List q_V} {Wd : List q_E} {k n : Nat} {f : Nat → Int64} {i : Int32} {v : Int64} (ok : q_ok x cc own fr lo) (he : Wd[k]? = some (.inl (1, n, .inr f))) (hin : vp_in i n) (hd : decode cc pc = .ok (.lastore, 1)) (kk : q_W x (pc + 1) lv st (Wd.set k (.inl (1, n, .inr (vp_updL f i.toNatClampNeg v))))) : q_W x pc lv (.inr (.inl v) :: .inl i :: .inr (.inr (some k)) :: st) Wd := by
  obtain ⟨p, l, e, R, s, m, args, below, meth, c, A, H0, cells, slots, Q, D, cA, ad⟩ := x
  obtain ⟨hx, hb, hown, hts, hK, hA, hfr, hlo, hce, hsl⟩ := ok
  intro H locs ls hl hn hP hD hS
  refine va_last hx hb hK hP hD hS k 1 (q_cw_get0 he) (q_ty1 cA) hin hd (fun H1 locs1 hP1 hD1 hS1 => ?_)
  have hP2 : va_P D vwCl (List.set (q_cw cA ad 0 Wd) k (ad k, q_ce cA ad (.inl (1, n, .inr (vp_updL f i.toNatClampNeg v))))) H1 := hP1
  have hD2 : va_D A (List.set (q_cw cA ad 0 Wd) k (ad k, q_ce cA ad (.inl (1, n, .inr (vp_updL f i.toNatClampNeg v))))) := hD1
  rw [q_cw_set0] at hP2 hD2
  exact kk H1 locs1 ls hl hn hP2 hD2 hS1
theorem q_alen {x : q_X} {cc : ByteArray} {own : String} {fr lo pc : Nat} {lv : List (Option q_V)} {st : List q_V} {Wd : List q_E} {k t n : Nat} {g : (Nat → Int32) ⊕ (Nat → Int64)} (ok : q_ok x cc own fr lo) (he : Wd[k]? = some (.inl (t, n, g))) (ht : t < 3) (hd : decode cc pc = .ok (.arraylength, 1)) (kk : q_W x (pc + 1) lv (.inl (nI n) :: st) Wd) : q_W x pc lv (.inr (.inr (some k)) :: st) Wd := by
  obtain ⟨p, l, e, R, s, m, args, below, meth, c, A, H0, cells, slots, Q, D, cA, ad⟩ := x
  obtain ⟨hx, hb, hown, hts, hK, hA, hfr, hlo, hce, hsl⟩ := ok
  intro H locs ls hl hn hP hD hS
  have h1 := q_cw_get0 (cA := cA) (ad := ad) he
  rcases g with g | g
  · rcases (show t = 0 ∨ t = 1 ∨ t = 2 by omega) with rfl | rfl | rfl
    · exact va_alen hx hb hK hP k 0 h1 (q_ty0 cA) rfl hd (kk H locs ls hl hn hP hD hS)
    · exact va_alen hx hb hK hP k 1 h1 (q_ty1 cA) rfl hd (kk H locs ls hl hn hP hD hS)
    · exact va_alen hx hb hK hP k 2 h1 (q_ty2 cA) rfl hd (kk H locs ls hl hn hP hD hS)
  · rcases (show t = 0 ∨ t = 1 ∨ t = 2 by omega) with rfl | rfl | rfl
    · exact va_alen hx hb hK hP k 0 h1 (q_ty0 cA) rfl hd (kk H locs ls hl hn hP hD hS)
    · exact va_alen hx hb hK hP k 1 h1 (q_ty1 cA) rfl hd (kk H locs ls hl hn hP hD hS)
    · exact va_alen hx hb hK hP k 2 h1 (q_ty2 cA) rfl hd (kk H locs ls hl hn hP hD hS)
