-- the JDK's own methods: Math.max, min, floorMod, Arrays.fill
theorem lkX0_max : Cond.methodLink RX0 168 Lib.Math.max.name ∈ wsL_law ∧ Cond.static Lib.Math.max.name ∈ wsL_law ∧ Cond.initialized "java/lang/Math" ∈ wsL_law ∧ Cond.code Lib.Math.max.name Lib.Math.max.code 2 (some .int) ∈ wsL_law := ⟨by decide +kernel, by decide +kernel, by decide +kernel, by decide +kernel⟩
theorem lkX0_min : Cond.methodLink RX0 165 Lib.Math.min.name ∈ wsL_law ∧ Cond.static Lib.Math.min.name ∈ wsL_law ∧ Cond.initialized "java/lang/Math" ∈ wsL_law ∧ Cond.code Lib.Math.min.name Lib.Math.min.code 2 (some .int) ∈ wsL_law := ⟨by decide +kernel, by decide +kernel, by decide +kernel, by decide +kernel⟩
theorem q_stc {st : List q_V} {ad : Nat → Nat} (hst : (st.map (fun v => if q_nol (some v) then 1 else 2)).sum ≤ 8) : ((st.map (q_cv ad)).map fun v => v.category).sum ≤ 8 := by
  rw [List.map_map]
  refine Nat.le_trans (Nat.le_of_eq ?_) hst
  congr 1
  refine List.map_congr_left (fun v _ => ?_)
  rcases v with u | u | (_ | u) <;> simp [q_cv, Value.category, q_nol]
theorem q_mmax {x : q_X} {cc : ByteArray} {own : String} {fr lo pc ix : Nat} {lv : List (Option q_V)} {st : List q_V} {Wd : List q_E} {a b : Int32} (lk : Cond.methodLink own ix Lib.Math.max.name ∈ wsL_law ∧ Cond.static Lib.Math.max.name ∈ wsL_law ∧ Cond.initialized "java/lang/Math" ∈ wsL_law ∧ Cond.code Lib.Math.max.name Lib.Math.max.code 2 (some .int) ∈ wsL_law) (hR : 1 ≤ fr ∧ 21 ≤ lo) (hst : (st.map (fun v => if q_nol (some v) then 1 else 2)).sum ≤ 8) (ok : q_ok x cc own fr lo) (hd : decode cc pc = .ok (.invokestatic ix, 3)) (kk : q_W x (pc + 3) lv (.inl (if a < b then b else a) :: st) Wd) : q_W x pc lv (.inl b :: .inl a :: st) Wd := by
  obtain ⟨p, l, e, R, s, m, args, below, meth, c, A, H0, cells, slots, Q, D, cA, ad⟩ := x
  obtain ⟨hx, hb, hown, hts, hK, hA, hfr, hlo, hce, hsl⟩ := ok
  intro H locs ls hl hn hP hD hS
  have h8 := q_stc (ad := ad) hst
  exact va_mmax hx hb (hn.symm.trans hl.1.symm) hown (hts _ lk.1) (hts _ lk.2.1) (hts _ lk.2.2.1) (hts _ lk.2.2.2) (Nat.le_trans hR.1 hfr) (by omega) hce hsl hd (kk H locs ls hl hn hP hD hS)
theorem q_mmin {x : q_X} {cc : ByteArray} {own : String} {fr lo pc ix : Nat} {lv : List (Option q_V)} {st : List q_V} {Wd : List q_E} {a b : Int32} (lk : Cond.methodLink own ix Lib.Math.min.name ∈ wsL_law ∧ Cond.static Lib.Math.min.name ∈ wsL_law ∧ Cond.initialized "java/lang/Math" ∈ wsL_law ∧ Cond.code Lib.Math.min.name Lib.Math.min.code 2 (some .int) ∈ wsL_law) (hR : 1 ≤ fr ∧ 21 ≤ lo) (hst : (st.map (fun v => if q_nol (some v) then 1 else 2)).sum ≤ 8) (ok : q_ok x cc own fr lo) (hd : decode cc pc = .ok (.invokestatic ix, 3)) (kk : q_W x (pc + 3) lv (.inl (if b < a then b else a) :: st) Wd) : q_W x pc lv (.inl b :: .inl a :: st) Wd := by
  obtain ⟨p, l, e, R, s, m, args, below, meth, c, A, H0, cells, slots, Q, D, cA, ad⟩ := x
  obtain ⟨hx, hb, hown, hts, hK, hA, hfr, hlo, hce, hsl⟩ := ok
  intro H locs ls hl hn hP hD hS
  have h8 := q_stc (ad := ad) hst
  exact va_mmin hx hb (hn.symm.trans hl.1.symm) hown (hts _ lk.1) (hts _ lk.2.1) (hts _ lk.2.2.1) (hts _ lk.2.2.2) (Nat.le_trans hR.1 hfr) (by omega) hce hsl hd (kk H locs ls hl hn hP hD hS)
theorem q_ixor {x : q_X} {cc : ByteArray} {own : String} {fr lo pc : Nat} {lv : List (Option q_V)} {st : List q_V} {Wd : List q_E} {a b : Int32} (ok : q_ok x cc own fr lo) (hd : decode cc pc = .ok (.ixor, 1)) (kk : q_W x (pc + 1) lv (.inl (a ^^^ b) :: st) Wd) : q_W x pc lv (.inl b :: .inl a :: st) Wd := by
  obtain ⟨p, l, e, R, s, m, args, below, meth, c, A, H0, cells, slots, Q, D, cA, ad⟩ := x
  obtain ⟨hx, hb, hown, hts, hK, hA, hfr, hlo, hce, hsl⟩ := ok
  intro H locs ls hl hn hP hD hS
  exact lv_ixor hx hb hd (kk H locs ls hl hn hP hD hS)
-- floorMod(a, 256)
def lo8 (a : Int32) : Nat := a.toBitVec.toNat % 256
theorem fm_sgn (a : Int32) : a ^^^ nI 256 < 0 ↔ a < 0 := by
  rw [Int32.lt_iff_toInt_lt, Int32.lt_iff_toInt_lt]
  show (a ^^^ nI 256).toBitVec.toInt < (0 : Int32).toInt ↔ a.toBitVec.toInt < (0 : Int32).toInt
  rw [Int32.toInt_zero, Int32.toBitVec_xor]
  have h1 := BitVec.msb_eq_toInt (x := a.toBitVec ^^^ (nI 256).toBitVec)
  have h2 := BitVec.msb_eq_toInt (x := a.toBitVec)
  rw [BitVec.msb_xor, show (nI 256).toBitVec.msb = false from by decide +kernel, Bool.xor_false, h2] at h1
  exact (decide_eq_decide.mp h1).symm
theorem fm_i (z : Int) : (z.tdiv 256 = if 0 ≤ z then z / 256 else -((-z) / 256)) ∧ (z.tmod 256 = if 0 ≤ z then z % 256 else -((-z) % 256)) := by
  by_cases h : 0 ≤ z
  · rw [if_pos h, if_pos h]
    exact ⟨Int.tdiv_eq_ediv_of_nonneg h, Int.tmod_eq_emod_of_nonneg h⟩
  · rw [if_neg h, if_neg h]
    have h1 : 0 ≤ -z := by omega
    have e1 : (-(-z)).tdiv 256 = -((-z).tdiv 256) := Int.neg_tdiv _ _
    have e2 : (-(-z)).tmod 256 = -((-z).tmod 256) := Int.neg_tmod _ _
    rw [Int.neg_neg] at e1 e2
    rw [e1, e2, Int.tdiv_eq_ediv_of_nonneg h1, Int.tmod_eq_emod_of_nonneg h1]
    exact ⟨rfl, rfl⟩
theorem fm_rem (a : Int32) : (a - a / nI 256 * nI 256).toInt = a.toInt.tmod 256 := by
  have ha := Int32.le_toInt a
  have hb := Int32.toInt_lt a
  have h256 : (nI 256).toInt = 256 := by decide +kernel
  obtain ⟨e1, e2⟩ := fm_i a.toInt
  have hq : (a / nI 256).toInt = a.toInt.tdiv 256 := by
    rw [Int32.toInt_div, h256, Int.bmod_eq_of_le]
    · rw [e1]; split <;> omega
    · rw [e1]; split <;> omega
  have hm : (a / nI 256 * nI 256).toInt = a.toInt.tdiv 256 * 256 := by
    rw [Int32.toInt_mul, hq, h256, Int.bmod_eq_of_le]
    · rw [e1]; split <;> omega
    · rw [e1]; split <;> omega
  rw [Int32.toInt_sub, hm, Int.bmod_eq_of_le]
  · rw [e1, e2]; split <;> omega
  · rw [e1]; split <;> omega
  · rw [e1]; split <;> omega
theorem lo8_toInt (a : Int32) : ((lo8 a : Nat) : Int) = a.toInt % 256 := by
  unfold lo8
  have h : a.toInt = a.toBitVec.toInt := rfl
  rw [h, BitVec.toInt_eq_toNat_cond]
  have := a.toBitVec.isLt
  split <;> omega
theorem lo8_lt (a : Int32) : lo8 a < 256 := Nat.mod_lt _ (by decide)
theorem fm_pos {a : Int32} (h : ¬ a < 0) : a - a / nI 256 * nI 256 = nI (lo8 a) := by
  rw [Int32.lt_iff_toInt_lt, Int32.toInt_zero] at h
  rw [← Int32.toInt_inj, fm_rem, nI_toInt (by have := lo8_lt a; omega), lo8_toInt, Int.tmod_eq_emod_of_nonneg (by omega)]
theorem fm_zero {a : Int32} (h0 : a - a / nI 256 * nI 256 = 0) : a - a / nI 256 * nI 256 = nI (lo8 a) := by
  have h1 := fm_rem a
  rw [h0, Int32.toInt_zero] at h1
  have h2 : (256 : Int) ∣ a.toInt := Int.dvd_of_tmod_eq_zero h1.symm
  rw [h0]
  have h3 := lo8_toInt a
  have : lo8 a = 0 := by omega
  rw [this]; rfl
theorem fm_neg {a : Int32} (h : a < 0) (h0 : ¬ a - a / nI 256 * nI 256 = 0) : a - a / nI 256 * nI 256 + nI 256 = nI (lo8 a) := by
  rw [Int32.lt_iff_toInt_lt, Int32.toInt_zero] at h
  have h1 := fm_rem a
  have h5 : ¬ a.toInt.tmod 256 = 0 := fun e => h0 (by rw [← Int32.toInt_inj, h1, e]; rfl)
  obtain ⟨e1, e2⟩ := fm_i a.toInt
  rw [if_neg (by omega)] at e2
  have h256 : (nI 256).toInt = 256 := by decide +kernel
  have h3 := lo8_toInt a
  rw [← Int32.toInt_inj, Int32.toInt_add, h1, nI_toInt (n := lo8 a) (by have := lo8_lt a; omega), h3, h256, Int.bmod_eq_of_le (by omega) (by omega)]
  omega
theorem q_metF {y : MethodName} {b : ByteArray} {n : Nat} {ret : Option FieldType} {fr lo : Nat} {spec : List q_V → List q_E → (Option q_V → List q_E → Prop) → Prop} (hy : plainFor y = true)
    (body : ∀ (x : q_X) (as : List q_V) (Wd : List q_E) (K : Option q_V → List q_E → Prop), spec as Wd K → q_ok x b y.cls fr lo → q_fin x ret K → q_W x 0 (q_ent as n) [] Wd) : q_Ct y b n ret fr lo spec := by
  intro l D cA ad sz as Wd K hle hs
  refine va_MetF (cc := b) (maxL := n) (ret := ret) hy rfl ?_
  intro p e s m args below meth c s₁ B hml hv
  obtain ⟨rfl, hsz, hP, hK, hD0⟩ := hv
  have hx := B.exec
  have hb := B.bytes
  have hr := B.returns
  have hts := atoms_spec (ws := q_ws y b n ret) B.pre
  have hown : s.vm.findClass y.cls = some m.cls := findClass_of_methodNamed B.named
  have hlocks := B.notSynchronized
  subst hsz
  have hD := hD0.self (sz := s.heap.size)
  rw [lg_entry_eq]
  have hl := lv_entry (as.map (q_cv ad)) (n := n) (by rw [q_sl_len]; exact hle)
  have hlen : (q_ent as n).length = n := by unfold q_ent; rw [List.length_append, List.length_replicate]; omega
  refine body (p, l, e, (headSpec (q_ws y b n ret) (q_rm fr lo)).room, s, m, (as.map (q_cv ad)).toArray, below, meth, c, va_A (q_cw cA ad 0 Wd) s.heap.size, s.heap, 0, 0, MQ below (q_Q D cA ad K (va_A (q_cw cA ad 0 Wd) s.heap.size)) (as.map (q_cv ad)).toArray s 0 0 (va_A (q_cw cA ad 0 Wd) s.heap.size), D, cA, ad) as Wd K hs ⟨hx, hb, hown, fun w hw => hts w (List.mem_cons_of_mem _ hw), hK, fun q h => Or.inr h, Nat.le_refl _, Nat.le_refl _, Nat.zero_le _, Nat.zero_le _⟩ ⟨hr, hlocks, rfl, rfl, rfl, rfl⟩ s.heap [] _ ?_ (by rw [hlen]; exact hml.symm) hP hD va_S.rf
  rw [hlen]
  refine q_has_sub hl (fun q hq => ?_)
  unfold q_ent at hq
  rw [q_lvl_app, q_lvl_none, List.append_nil, q_lvl_args] at hq
  exact hq
