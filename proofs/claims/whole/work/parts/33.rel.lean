-- THE RELATION OF BOTH: arrays matter below their lengths alone
theorem arrV_cg {cI : ClassId} {N : Nat} {f g : Nat → Value} (h : ∀ j, j < N → f j = g j) : arrV cI N f = arrV cI N g := by
  unfold arrV
  congr 2
  funext j
  exact h j.val j.isLt
def q_eqE : q_E → q_E → Prop
  | .inl (t, n, .inl f), .inl (t2, n2, .inl f2) => t = t2 ∧ n = n2 ∧ ∀ j, j < n → f j = f2 j
  | .inl (t, n, .inr f), .inl (t2, n2, .inr f2) => t = t2 ∧ n = n2 ∧ ∀ j, j < n → f j = f2 j
  | .inr a, .inr b => a = b
  | _, _ => False
theorem q_eqE_rf : ∀ e : q_E, q_eqE e e
  | .inl (_, _, .inl _) => ⟨rfl, rfl, fun _ _ => rfl⟩
  | .inl (_, _, .inr _) => ⟨rfl, rfl, fun _ _ => rfl⟩
  | .inr _ => rfl
theorem q_eqE_at {D : va_G} {cA : Nat → ClassId} {ad : Nat → Nat} {a : Nat} {H : Heap} : ∀ {e e2 : q_E}, q_eqE e e2 → va_at D vwCl (a, q_ce cA ad e) H → va_at D vwCl (a, q_ce cA ad e2) H
  | .inl (t, n, .inl f), .inl (t2, n2, .inl f2), h, q => by
    obtain ⟨rfl, rfl, h⟩ := h
    show H[a]? = some (arrV (cA t) n (fun j => .int (f2 j)))
    rw [← arrV_cg (f := fun j => .int (f j)) (fun j hj => by rw [h j hj])]
    exact q
  | .inl (t, n, .inr f), .inl (t2, n2, .inr f2), h, q => by
    obtain ⟨rfl, rfl, h⟩ := h
    show H[a]? = some (arrV (cA t) n (fun j => .long (f2 j)))
    rw [← arrV_cg (f := fun j => .long (f j)) (fun j hj => by rw [h j hj])]
    exact q
  | .inr a, .inr b, h, q => by cases h; exact q
  | .inl (_, _, .inl _), .inl (_, _, .inr _), h, _ => h.elim
  | .inl (_, _, .inr _), .inl (_, _, .inl _), h, _ => h.elim
  | .inl (_, _, .inl _), .inr _, h, _ => h.elim
  | .inl (_, _, .inr _), .inr _, h, _ => h.elim
  | .inr _, .inl (_, _, .inl _), h, _ => h.elim
  | .inr _, .inl (_, _, .inr _), h, _ => h.elim
def q_eqW : List q_E → List q_E → Prop
  | [], [] => True
  | e :: l, e2 :: l2 => q_eqE e e2 ∧ q_eqW l l2
  | _, _ => False
theorem q_eqW_len : ∀ {l l2 : List q_E}, q_eqW l l2 → l.length = l2.length
  | [], [], _ => rfl
  | e :: l, e2 :: l2, h => congrArg (fun z => z + 1) (q_eqW_len h.2)
  | [], _ :: _, h => h.elim
  | _ :: _, [], h => h.elim
theorem q_eqW_get : ∀ {l l2 : List q_E} {k : Nat} {e2 : q_E}, q_eqW l l2 → l2[k]? = some e2 → ∃ e, l[k]? = some e ∧ q_eqE e e2
  | [], [], k, e2, _, h2 => by simp at h2
  | e :: l, e3 :: l2, 0, e2, h, h2 => ⟨e, rfl, by simp only [List.getElem?_cons_zero, Option.some.injEq] at h2; rw [← h2]; exact h.1⟩
  | e :: l, e3 :: l2, k + 1, e2, h, h2 => by
    simp only [List.getElem?_cons_succ] at h2 ⊢
    exact q_eqW_get h.2 h2
  | [], _ :: _, _, _, h, _ => h.elim
  | _ :: _, [], _, _, h, _ => h.elim
theorem q_eqW_P {D : va_G} {cA : Nat → ClassId} {ad : Nat → Nat} {l l2 : List q_E} {H : Heap} (h : q_eqW l l2) (hP : va_P D vwCl (q_cw cA ad 0 l) H) : va_P D vwCl (q_cw cA ad 0 l2) H := by
  intro k q hk
  have h1 := (List.getElem?_eq_some_iff.mp hk).1
  rw [q_cw_len] at h1
  rw [q_cw_get0 (List.getElem?_eq_getElem h1)] at hk
  obtain ⟨e, h2, h3⟩ := q_eqW_get h (List.getElem?_eq_getElem h1)
  cases hk
  exact q_eqE_at h3 (hP k _ (q_cw_get0 h2))
/-- another world that reads alike -/
theorem q_cg {x : q_X} {pc : Nat} {lv : List (Option q_V)} {st : List q_V} {Wd Wd2 : List q_E} (h : q_eqW Wd Wd2) (kk : q_W x pc lv st Wd2) : q_W x pc lv st Wd := by
  obtain ⟨p, l, e, R, s, m, args, below, meth, c, A, H0, cells, slots, Q, D, cA, ad⟩ := x
  intro H locs ls hl hn hP hD hS
  refine kk H locs ls hl hn (q_eqW_P h hP) ?_ hS
  rw [q_D_iff] at hD ⊢
  rw [← q_eqW_len h]
  exact hD
/-- the law's world -/
def lW (w h : Nat) (sam : Nat → Nat) (blk : Nat → Bool) (lost : Int64) (ogr : Nat → Nat) (came : Nat → Int32) (sums sqs : Nat → Int64) (mrk : Nat → Bool) (que : Nat → Nat) (qd : Nat) (out : Nat → Int64) (w2 h2 thr : Nat) (sam2 : Nat → Nat) (blk2 nxt : Nat → Bool) (came2 part : Nat → Int32) (rst : Int64) : List q_E :=
  q_win [] (q_win [] (xw w h sam blk lost ogr came sums sqs mrk que qd) [.inl (1, 1, .inr out)]) ((mw w2 h2 thr sam2 blk2 nxt came2 part rst).map (q_se 10))
theorem lW_cg {x : q_X} {pc : Nat} {lv : List (Option q_V)} {st : List q_V} {w h : Nat} {sam : Nat → Nat} {blk : Nat → Bool} {lost : Int64} {ogr : Nat → Nat} {came : Nat → Int32} {sums sqs : Nat → Int64} {mrk : Nat → Bool} {que : Nat → Nat} {qd : Nat} {out : Nat → Int64} {w2 h2 thr : Nat} {sam2 : Nat → Nat} {blk2 nxt : Nat → Bool} {came2 part : Nat → Int32} {rst : Int64} {samN : Nat → Nat} {blkN : Nat → Bool} {cameN : Nat → Int32}
    (e1 : ∀ k, k < w * h → sam k = samN k) (e2 : ∀ k, k < w * h → blk k = blkN k) (e3 : ∀ k, k < w * h → came k = cameN k) (kk : q_W x pc lv st (lW w h samN blkN lost ogr cameN sums sqs mrk que qd out w2 h2 thr sam2 blk2 nxt came2 part rst)) : q_W x pc lv st (lW w h sam blk lost ogr came sums sqs mrk que qd out w2 h2 thr sam2 blk2 nxt came2 part rst) := by
  refine q_cg ?_ kk
  refine ⟨rfl, ⟨rfl, rfl, fun j hj => by show nI (sam j) = nI (samN j); rw [e1 j hj]⟩, ⟨rfl, rfl, fun j hj => by show bI (blk j) = bI (blkN j); rw [e2 j hj]⟩, q_eqE_rf _, ⟨rfl, rfl, fun j hj => e3 j hj⟩, q_eqE_rf _, q_eqE_rf _, q_eqE_rf _, q_eqE_rf _, q_eqE_rf _, q_eqE_rf _, q_eqE_rf _, q_eqE_rf _, q_eqE_rf _, q_eqE_rf _, q_eqE_rf _, trivial⟩
theorem Cn_cg1 {w h : Nat} {p p2 : Nat → Bool} {k j : Nat} (hp : ∀ a, a < w * h → p a = p2 a) (H : Cn w h p k j) : Cn w h p2 k j := fun S h1 h2 => H S h1 (fun a b q r z => h2 a b q r (by rw [← hp b r.2.1]; exact z))
theorem Cn_cg {w h : Nat} {p p2 : Nat → Bool} {k j : Nat} (hp : ∀ a, a < w * h → p a = p2 a) : Cn w h p k j ↔ Cn w h p2 k j := ⟨Cn_cg1 hp, Cn_cg1 (fun a ha => (hp a ha).symm)⟩
theorem Sp_cg {w h : Nat} {b1 b2 : Nat → Bool} {col : Bool} {mo k : Nat} (hb : ∀ a, a < w * h → b1 a = b2 a) (hk : k < w * h) : Sp w h b1 col mo k ↔ Sp w h b2 col mo k := by
  have hp : ∀ a, a < w * h → (b1 a == col) = (b2 a == col) := fun a ha => by rw [hb a ha]
  have hc : ∀ j, Cn w h (fun j => b1 j == col) k j ↔ Cn w h (fun j => b2 j == col) k j := fun j => Cn_cg hp
  unfold Sp
  rw [hb k hk, cB_congr (P := Cn w h (fun j => b1 j == col) k) (Q := Cn w h (fun j => b2 j == col) k) (fun j _ => hc j)]
  constructor
  · rintro ⟨h1, h2, h3⟩
    exact ⟨h1, h2, h3.imp id (fun q j hj => q j ((hc j).mpr hj))⟩
  · rintro ⟨h1, h2, h3⟩
    exact ⟨h1, h2, h3.imp id (fun q j hj => q j ((hc j).mp hj))⟩
theorem tPost_cg {w h : Nat} {b1 b2 c1 c2 : Nat → Bool} {col : Bool} {mo : Nat} (hb : ∀ a, a < w * h → b1 a = b2 a) (h1 : tPost w h b1 col mo c1) (h2 : tPost w h b2 col mo c2) : ∀ a, a < w * h → c1 a = c2 a := by
  intro a ha
  by_cases z : Sp w h b1 col mo a
  · rw [(h1 a ha).1 z, (h2 a ha).1 ((Sp_cg hb ha).mp z)]
  · rw [(h1 a ha).2 z, (h2 a ha).2 (fun q => z ((Sp_cg hb ha).mpr q)), hb a ha]
theorem jPost_cg {w h : Nat} {sam : Nat → Nat} {lo hi : Int32} {c1 c2 : Nat → Bool} (h1 : jPost w h sam lo hi c1) (h2 : jPost w h sam lo hi c2) : ∀ a, a < w * h → c1 a = c2 a := by
  intro a ha
  have z1 := h1 a ha
  have z2 := h2 a ha
  cases e1 : c1 a <;> cases e2 : c2 a
  · rfl
  · rw [e1] at z1; exact absurd (z1.mpr (z2.mp e2)) (by decide)
  · rw [e2] at z2; exact absurd (z2.mpr (z1.mp e1)) (by decide)
  · rfl
theorem PS_00 {f : Nat → Nat} {w a : Nat} : PS f w 0 a = 0 := by
  first | rfl | (unfold PS; simp [sumN])
theorem SS_bS {f : Nat → Nat} {w h : Nat} {s : Nat → Int64} (H : SS f w h s) : bS w h s := by
  refine ⟨fun a ha => ?_, fun b hb => ?_⟩
  · have := H 0 (Nat.zero_le _) a ha
    rw [Nat.zero_mul, Nat.zero_add] at this
    rw [this, PS_00]
  · have := H b hb 0 (Nat.zero_le _)
    rw [Nat.add_zero] at this
    rw [this]
    congr 1
    first | rfl | (unfold PS; simp [sumN, sumN_0])
theorem lw_le {L i : Nat} (hL : L ≤ 3074) (hi : i ≤ 4000) (h : ¬ nI L - nI 6 < nI i) : i + 6 ≤ L := by
  rcases Nat.lt_or_ge L 6 with z | z
  · exfalso
    apply h
    rcases (show L = 0 ∨ L = 1 ∨ L = 2 ∨ L = 3 ∨ L = 4 ∨ L = 5 by omega) with q | q | q | q | q | q
    all_goals
      subst q
      rw [Int32.lt_iff_toInt_lt, nI_toInt (show i < 2 ^ 31 by omega)]
      refine Int.lt_of_lt_of_le (b := 0) (by decide) (by omega)
  · rw [pk_sub z] at h
    have := mt (nI_ltI (a := L - 6) (b := i) (by omega) (by omega)).mpr h
    omega
