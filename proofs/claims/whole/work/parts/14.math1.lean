-- COUNTS AND PARTS: what hangs together
theorem cntB_up {f : Nat → Bool} {p : Nat} (hf : f p = false) : ∀ {n : Nat}, p < n → cntB (va_up f p true) n = cntB f n + 1
  | n + 1, hp => by
    by_cases e : p = n
    · subst e
      have h1 : cntB (va_up f p true) p = cntB f p := cntB_congr (fun k hk => va_up_ne _ _ (by omega))
      rw [cntB_t (va_up_self f p true), cntB_f hf, h1]
    · have ih := cntB_up hf (n := n) (by omega)
      simp only [cntB]
      rw [ih, va_up_ne f true (show n ≠ p by omega)]
      omega
theorem cntB_lt {f : Nat → Bool} {k : Nat} (hf : f k = false) : ∀ {n : Nat}, k < n → cntB f n < n
  | n + 1, hk => by
    by_cases e : k = n
    · subst e
      have := cntB_le f k
      rw [cntB_f hf]; omega
    · have ih := cntB_lt hf (n := n) (by omega)
      simp only [cntB]; split <;> omega
theorem cntB_or {f g : Nat → Bool} : ∀ {n : Nat}, (∀ k, k < n → f k = true → g k = false) → cntB (fun k => f k || g k) n = cntB f n + cntB g n
  | 0, _ => rfl
  | n + 1, h => by
    have ih := cntB_or (n := n) (fun k hk => h k (by omega))
    have h1 := h n (by omega)
    by_cases hf : f n = true
    · rw [cntB_t (f := fun k => f k || g k) (by simp [hf]), ih, cntB_t hf, cntB_f (h1 hf)]; omega
    · have hf2 : f n = false := by simpa using hf
      by_cases hg : g n = true
      · rw [cntB_t (f := fun k => f k || g k) (by simp [hg]), ih, cntB_f hf2, cntB_t hg]; omega
      · have hg2 : g n = false := by simpa using hg
        rw [cntB_f (f := fun k => f k || g k) (by simp [hf2, hg2]), ih, cntB_f hf2, cntB_f hg2]
theorem cntB_0 {f : Nat → Bool} : ∀ {n : Nat}, (∀ k, k < n → f k = false) → cntB f n = 0
  | 0, _ => rfl
  | n + 1, h => by rw [cntB_f (h n (by omega))]; exact cntB_0 (fun k hk => h k (by omega))
noncomputable def cB (P : Nat → Prop) : Nat → Bool := fun k => @decide (P k) (Classical.propDecidable (P k))
theorem cB_t {P : Nat → Prop} {k : Nat} : cB P k = true ↔ P k := by
  unfold cB
  exact @decide_eq_true_iff (P k) (Classical.propDecidable (P k))
theorem cB_f {P : Nat → Prop} {k : Nat} : cB P k = false ↔ ¬ P k := by
  unfold cB
  exact @decide_eq_false_iff_not (P k) (Classical.propDecidable (P k))
theorem cB_congr {P Q : Nat → Prop} {n : Nat} (h : ∀ k, k < n → (P k ↔ Q k)) : cntB (cB P) n = cntB (cB Q) n := by
  refine cntB_congr (fun k hk => ?_)
  cases e : cB Q k
  · exact cB_f.mpr (fun q => cB_f.mp e ((h k hk).mp q))
  · exact cB_t.mpr ((h k hk).mpr (cB_t.mp e))
def adj4 (w h a b : Nat) : Prop := a < w * h ∧ b < w * h ∧ ((a % w = b % w ∧ (a / w = b / w + 1 ∨ b / w = a / w + 1)) ∨ (a / w = b / w ∧ (a % w = b % w + 1 ∨ b % w = a % w + 1)))
theorem adj4_sym {w h a b : Nat} (q : adj4 w h a b) : adj4 w h b a := by
  obtain ⟨h1, h2, h3⟩ := q
  refine ⟨h2, h1, ?_⟩
  omega
def Cn (w h : Nat) (p : Nat → Bool) (s k : Nat) : Prop := ∀ S : Nat → Prop, S s → (∀ a b, S a → adj4 w h a b → p b = true → S b) → S k
theorem Cn_rf {w h : Nat} {p : Nat → Bool} {s : Nat} : Cn w h p s s := fun _ h _ => h
theorem Cn_st {w h : Nat} {p : Nat → Bool} {s a b : Nat} (h1 : Cn w h p s a) (h2 : adj4 w h a b) (h3 : p b = true) : Cn w h p s b := fun S hs hc => hc a b (h1 S hs hc) h2 h3
theorem Cn_tr {w h : Nat} {p : Nat → Bool} {s a b : Nat} (h1 : Cn w h p s a) (h2 : Cn w h p a b) : Cn w h p s b := h2 (fun k => Cn w h p s k) h1 (fun _ _ q r t => Cn_st q r t)
theorem Cn_p {w h : Nat} {p : Nat → Bool} {s k : Nat} (hs : p s = true) (h1 : Cn w h p s k) : p k = true := h1 (fun k => p k = true) hs (fun _ _ _ _ t => t)
theorem Cn_sy {w h : Nat} {p : Nat → Bool} {s k : Nat} (hs : p s = true) (h1 : Cn w h p s k) : Cn w h p k s := by
  have := h1 (fun k => p k = true ∧ Cn w h p k s) ⟨hs, Cn_rf⟩ (fun a b q r t => ⟨t, Cn_tr (Cn_st Cn_rf (adj4_sym r) q.1) q.2⟩)
  exact this.2
theorem Cn_lt {w h : Nat} {p : Nat → Bool} {s k : Nat} (hs : s < w * h) (h1 : Cn w h p s k) : k < w * h := h1 (fun k => k < w * h) hs (fun _ _ _ r _ => r.2.1)
-- the four round a sample
theorem nb_o {w h : Nat} (g : q_g w h) {q : Nat} (hq : q < w * h) {a b : Int32} (hin : inI w h a b = true)
    (hab : (a = nI (q % w) - nI 1 ∧ b = nI (q / w)) ∨ (a = nI (q % w + 1) ∧ b = nI (q / w)) ∨ (a = nI (q % w) ∧ b = nI (q / w) - nI 1) ∨ (a = nI (q % w) ∧ b = nI (q / w + 1))) : adj4 w h q (pI w a b) := by
  obtain ⟨i, j, hi, hj, rfl, rfl⟩ := inI_o g hin
  have hw := g.2.1
  have hh := g.2.2.2
  have hm := Nat.mod_lt q (show w > 0 by omega)
  have hd : q / w < h := Nat.div_lt_of_lt_mul hq
  rw [pI_n (by omega) (by omega)]
  refine ⟨hq, pl_lt hi hj, ?_⟩
  rw [ix_mod hi, ix_div hi]
  have e1 : ∀ u v : Nat, u < 100 → v < 100 → nI u = nI v - nI 1 → v = u + 1 := by
    intro u v hu hv e
    have : nI u + nI 1 = nI v := by rw [e, Int32.sub_add_cancel]
    rw [nI_add] at this
    have := (nI_eq (by omega) (by omega)).mp this
    omega
  have e2 : ∀ u v : Nat, u < 100 → v < 100 → nI u = nI v → u = v := fun u v hu hv e => (nI_eq (by omega) (by omega)).mp e
  rcases hab with ⟨ha, hb⟩ | ⟨ha, hb⟩ | ⟨ha, hb⟩ | ⟨ha, hb⟩
  · have := e1 _ _ (by omega) (by omega) ha
    have := e2 _ _ (by omega) (by omega) hb
    omega
  · have := e2 _ _ (by omega) (by omega) ha
    have := e2 _ _ (by omega) (by omega) hb
    omega
  · have := e2 _ _ (by omega) (by omega) ha
    have := e1 _ _ (by omega) (by omega) hb
    omega
  · have := e2 _ _ (by omega) (by omega) ha
    have := e2 _ _ (by omega) (by omega) hb
    omega
theorem ix_self {w k : Nat} : k / w * w + k % w = k := by rw [Nat.mul_comm]; exact Nat.div_add_mod k w
theorem nb_i {w h : Nat} (g : q_g w h) {q b : Nat} (hab : adj4 w h q b) : ∃ u v : Int32, inI w h u v = true ∧ pI w u v = b ∧ ((u = nI (q % w) - nI 1 ∧ v = nI (q / w)) ∨ (u = nI (q % w + 1) ∧ v = nI (q / w)) ∨ (u = nI (q % w) ∧ v = nI (q / w) - nI 1) ∨ (u = nI (q % w) ∧ v = nI (q / w + 1))) := by
  obtain ⟨h1, h2, h3⟩ := hab
  have hw := g.2.1
  have hw1 := g.1
  have hh := g.2.2.2
  have hm := Nat.mod_lt b (show w > 0 by omega)
  have hd : b / w < h := Nat.div_lt_of_lt_mul h2
  refine ⟨nI (b % w), nI (b / w), inI_n g hm hd, ?_, ?_⟩
  · rw [pI_n (by omega) (by omega)]; exact ix_self
  · rcases h3 with ⟨e, e2 | e2⟩ | ⟨e, e2 | e2⟩
    · refine Or.inr (Or.inr (Or.inl ⟨by rw [e], ?_⟩))
      rw [show q / w = b / w + 1 from e2, ← nI_add, Int32.add_sub_cancel]
    · exact Or.inr (Or.inr (Or.inr ⟨by rw [e], by rw [e2]⟩))
    · refine Or.inl ⟨?_, by rw [e]⟩
      rw [show q % w = b % w + 1 from e2, ← nI_add, Int32.add_sub_cancel]
    · exact Or.inr (Or.inl ⟨by rw [e2], by rw [e]⟩)
/-- the queue's invariant: what is marked, what is queued, which of it is done -/
def gI (w h : Nat) (blk : Nat → Bool) (col : Bool) (st : Nat) (mrk0 : Nat → Bool) (nx : Nat) (t : q_G) : Prop :=
  t.2.2 + cntB mrk0 (w * h) = cntB t.1 (w * h) ∧ (∀ j, j < t.2.2 → t.2.1 j < w * h ∧ Cn w h (fun k => blk k == col) st (t.2.1 j) ∧ t.1 (t.2.1 j) = true) ∧
  (∀ k, k < w * h → t.1 k = true → mrk0 k = true ∨ ∃ j, j < t.2.2 ∧ t.2.1 j = k) ∧ (∀ k, mrk0 k = true → t.1 k = true) ∧
  (∀ j b, j < nx → j < t.2.2 → adj4 w h (t.2.1 j) b → blk b = col → t.1 b = true) ∧ t.1 st = true
theorem gI_q {w h : Nat} {blk : Nat → Bool} {col : Bool} {st : Nat} {mrk0 : Nat → Bool} {nx : Nat} {t : q_G} (H : gI w h blk col st mrk0 nx t) : ∀ k, k < w * h → t.1 k = false → t.2.2 < w * h := fun k hk hf => by
  have h1 := H.1
  have := cntB_lt hf hk
  omega
theorem gI_le {w h : Nat} {blk : Nat → Bool} {col : Bool} {st : Nat} {mrk0 : Nat → Bool} {nx : Nat} {t : q_G} (H : gI w h blk col st mrk0 nx t) : t.2.2 ≤ w * h := by
  have h1 := H.1
  have := cntB_le t.1 (w * h)
  omega
/-- one neighbour looked at -/
theorem gI_s {w h : Nat} (g : q_g w h) {blk : Nat → Bool} {col : Bool} {st : Nat} {mrk0 : Nat → Bool} {nx : Nat} {t : q_G} (H : gI w h blk col st mrk0 nx t) (hnx : nx < t.2.2) {a b : Int32}
    (hab : inI w h a b = true → adj4 w h (t.2.1 nx) (pI w a b)) :
    gI w h blk col st mrk0 nx (gS w h blk col a b t) ∧ nx < (gS w h blk col a b t).2.2 ∧ (gS w h blk col a b t).2.1 nx = t.2.1 nx ∧ (∀ k, t.1 k = true → (gS w h blk col a b t).1 k = true) ∧ (inI w h a b = true → blk (pI w a b) = col → (gS w h blk col a b t).1 (pI w a b) = true) := by
  obtain ⟨mrk, que, qd⟩ := t
  cases hc : gC w h blk mrk col a b
  · rw [gS_f hc]
    refine ⟨H, hnx, rfl, fun _ h => h, fun h1 h2 => ?_⟩
    unfold gC at hc
    rw [h1, h2] at hc
    simpa using hc
  · rw [gS_t hc rfl]
    have hc2 : (inI w h a b = true ∧ blk (pI w a b) = col) ∧ mrk (pI w a b) = false := by
      unfold gC at hc
      simpa [Bool.and_eq_true] using hc
    obtain ⟨⟨c1, c2⟩, c3⟩ := hc2
    have had := hab c1
    obtain ⟨H1, H2, H3, H4, H5, H6⟩ := H
    dsimp only at H1 H2 H3 H4 H5 H6 hnx had ⊢
    generalize pI w a b = p at *
    have hp : p < w * h := had.2.1
    refine ⟨⟨?_, ?_, ?_, ?_, ?_, ?_⟩, by omega, va_up_ne _ _ (by omega), ?_, fun _ _ => va_up_self _ _ _⟩
    · dsimp only; rw [cntB_up c3 hp]; omega
    · intro j hj
      dsimp only at hj ⊢
      by_cases e : j = qd
      · subst e
        rw [va_up_self]
        exact ⟨hp, Cn_st (H2 nx hnx).2.1 had (by simp [c2]), va_up_self _ _ _⟩
      · rw [va_up_ne _ _ e]
        obtain ⟨k1, k2, k3⟩ := H2 j (by omega)
        refine ⟨k1, k2, ?_⟩
        by_cases e2 : que j = p
        · rw [e2, va_up_self]
        · rw [va_up_ne _ _ e2]; exact k3
    · intro k hk hm
      dsimp only at hm ⊢
      by_cases e : k = p
      · exact Or.inr ⟨qd, by omega, by rw [va_up_self, e]⟩
      · rw [va_up_ne _ _ e] at hm
        rcases H3 k hk hm with h1 | ⟨j, h1, h2⟩
        · exact Or.inl h1
        · exact Or.inr ⟨j, by omega, by rw [va_up_ne _ _ (by omega)]; exact h2⟩
    · intro k hm
      dsimp only
      by_cases e : k = p
      · rw [e, va_up_self]
      · rw [va_up_ne _ _ e]; exact H4 k hm
    · intro j b2 hj hj2 ha2 hb2
      dsimp only at hj2 ha2 ⊢
      rw [va_up_ne _ _ (show j ≠ qd by omega)] at ha2
      by_cases e : b2 = p
      · rw [e, va_up_self]
      · rw [va_up_ne _ _ e]; exact H5 j b2 hj (by omega) ha2 hb2
    · dsimp only
      by_cases e : st = p
      · rw [e, va_up_self]
      · rw [va_up_ne _ _ e]; exact H6
    · intro k hm
      by_cases e : k = p
      · rw [e, va_up_self]
      · rw [va_up_ne _ _ e]; exact hm
/-- what the four neighbours leave: one more of the queue is done -/
theorem gI_4 {w h : Nat} (g : q_g w h) {blk : Nat → Bool} {col : Bool} {st : Nat} {mrk0 : Nat → Bool} {nx : Nat} {t t1 t2 t3 t4 : q_G} {q : Nat} (H : gI w h blk col st mrk0 nx t) (hnx : nx < t.2.2) (hq : t.2.1 nx = q)
    (e1 : gS w h blk col (nI (q % w) - nI 1) (nI (q / w)) t = t1) (e2 : gS w h blk col (nI (q % w + 1)) (nI (q / w)) t1 = t2) (e3 : gS w h blk col (nI (q % w)) (nI (q / w) - nI 1) t2 = t3) (e4 : gS w h blk col (nI (q % w)) (nI (q / w + 1)) t3 = t4) :
    (gI w h blk col st mrk0 nx t1 ∧ gI w h blk col st mrk0 nx t2 ∧ gI w h blk col st mrk0 nx t3) ∧ gI w h blk col st mrk0 (nx + 1) t4 := by
  have hql : q < w * h := by rw [← hq]; exact (H.2.1 nx hnx).1
  subst e1
  obtain ⟨A1, A2, A3, A4, A5⟩ := gI_s g H hnx (a := nI (q % w) - nI 1) (b := nI (q / w)) (fun hi => by rw [hq]; exact nb_o g hql hi (Or.inl ⟨rfl, rfl⟩))
  generalize gS w h blk col (nI (q % w) - nI 1) (nI (q / w)) t = t1 at *
  subst e2
  obtain ⟨B1, B2, B3, B4, B5⟩ := gI_s g A1 A2 (a := nI (q % w + 1)) (b := nI (q / w)) (fun hi => by rw [A3, hq]; exact nb_o g hql hi (Or.inr (Or.inl ⟨rfl, rfl⟩)))
  generalize gS w h blk col (nI (q % w + 1)) (nI (q / w)) t1 = t2 at *
  subst e3
  obtain ⟨C1, C2, C3, C4, C5⟩ := gI_s g B1 B2 (a := nI (q % w)) (b := nI (q / w) - nI 1) (fun hi => by rw [B3, A3, hq]; exact nb_o g hql hi (Or.inr (Or.inr (Or.inl ⟨rfl, rfl⟩))))
  generalize gS w h blk col (nI (q % w)) (nI (q / w) - nI 1) t2 = t3 at *
  subst e4
  obtain ⟨D1, D2, D3, D4, D5⟩ := gI_s g C1 C2 (a := nI (q % w)) (b := nI (q / w + 1)) (fun hi => by rw [C3, B3, A3, hq]; exact nb_o g hql hi (Or.inr (Or.inr (Or.inr ⟨rfl, rfl⟩))))
  generalize gS w h blk col (nI (q % w)) (nI (q / w + 1)) t3 = t4 at *
  refine ⟨⟨A1, B1, C1⟩, D1.1, D1.2.1, D1.2.2.1, D1.2.2.2.1, ?_, D1.2.2.2.2.2⟩
  intro j b hj hj2 hab hb
  by_cases e : j = nx
  · subst e
    rw [D3, C3, B3, A3, hq] at hab
    obtain ⟨u, v, h1, h2, h3⟩ := nb_i g hab
    rcases h3 with ⟨hu, hv⟩ | ⟨hu, hv⟩ | ⟨hu, hv⟩ | ⟨hu, hv⟩ <;> subst hu <;> subst hv
    · have := A5 h1 (by rw [h2]; exact hb); rw [h2] at this; exact D4 _ (C4 _ (B4 _ this))
    · have := B5 h1 (by rw [h2]; exact hb); rw [h2] at this; exact D4 _ (C4 _ this)
    · have := C5 h1 (by rw [h2]; exact hb); rw [h2] at this; exact D4 _ this
    · have := D5 h1 (by rw [h2]; exact hb); rw [h2] at this; exact this
  · exact D1.2.2.2.2.1 j b (by omega) hj2 hab hb
/-- the queue done: what is marked then -/
theorem gI_end {w h : Nat} {blk : Nat → Bool} {col : Bool} {st : Nat} {mrk0 : Nat → Bool} {nx : Nat} {t : q_G} (H : gI w h blk col st mrk0 nx t) (hst : st < w * h) (h0 : mrk0 st = false) (hbs : blk st = col) (hcl : ∀ j k, j < w * h → mrk0 j = true → Cn w h (fun k => blk k == col) j k → mrk0 k = true) (hnx : t.2.2 ≤ nx) :
    (∀ k, k < w * h → (t.1 k = true ↔ mrk0 k = true ∨ Cn w h (fun k => blk k == col) st k)) ∧ (∀ j, j < t.2.2 → t.2.1 j < w * h ∧ Cn w h (fun k => blk k == col) st (t.2.1 j)) ∧ (∀ k, Cn w h (fun k => blk k == col) st k → ∃ j, j < t.2.2 ∧ t.2.1 j = k) ∧ t.2.2 = cntB (cB (Cn w h (fun k => blk k == col) st)) (w * h) ∧ t.2.2 ≤ w * h := by
  have hle := gI_le H
  obtain ⟨H1, H2, H3, H4, H5, H6⟩ := H
  have hps : (fun k => blk k == col) st = true := by simp [hbs]
  have hq : ∀ k, Cn w h (fun k => blk k == col) st k → ∃ j, j < t.2.2 ∧ t.2.1 j = k := by
    intro k hk
    refine hk (fun k => ∃ j, j < t.2.2 ∧ t.2.1 j = k) ?_ ?_
    · rcases H3 st hst H6 with h1 | h1
      · rw [h0] at h1; cases h1
      · exact h1
    · rintro a b ⟨j, hj, rfl⟩ hab hb
      have hm := H5 j b (by omega) hj hab (by simpa using hb)
      rcases H3 b hab.2.1 hm with h1 | h1
      · have hc : Cn w h (fun k => blk k == col) st b := Cn_st (H2 j hj).2.1 hab hb
        have := hcl b st hab.2.1 h1 (Cn_sy hps hc)
        rw [h0] at this; cases this
      · exact h1
  have hm : ∀ k, k < w * h → (t.1 k = true ↔ mrk0 k = true ∨ Cn w h (fun k => blk k == col) st k) := by
    intro k hk
    constructor
    · intro h1
      rcases H3 k hk h1 with h2 | ⟨j, h2, h3⟩
      · exact Or.inl h2
      · exact Or.inr (h3 ▸ (H2 j h2).2.1)
    · rintro (h1 | h1)
      · exact H4 k h1
      · obtain ⟨j, h2, h3⟩ := hq k h1
        rw [← h3]; exact (H2 j h2).2.2
  refine ⟨hm, fun j hj => ⟨(H2 j hj).1, (H2 j hj).2.1⟩, hq, ?_, hle⟩
  have e1 : cntB t.1 (w * h) = cntB (fun k => mrk0 k || cB (Cn w h (fun k => blk k == col) st) k) (w * h) := by
    refine cntB_congr (fun k hk => ?_)
    have := hm k hk
    cases e : t.1 k
    · rw [e] at this
      have h1 : ¬ (mrk0 k = true ∨ Cn w h (fun k => blk k == col) st k) := fun q => by have := this.mpr q; cases this
      have h2 : mrk0 k = false := by cases h3 : mrk0 k; rfl; exact absurd (Or.inl h3) h1
      rw [h2, cB_f.mpr (fun q => h1 (Or.inr q))]; rfl
    · rcases this.mp e with h1 | h1
      · rw [h1]; rfl
      · rw [cB_t.mpr h1]; simp
  rw [e1, cntB_or (fun k hk h1 => cB_f.mpr (fun h2 => by
    have := hcl k st hk h1 (Cn_sy hps h2)
    rw [h0] at this; cases this))] at H1
  exact Nat.add_right_cancel (H1.trans (Nat.add_comm _ _))
def gPost (w h : Nat) (blk : Nat → Bool) (col : Bool) (st : Nat) (mrk mrk2 : Nat → Bool) (que2 : Nat → Nat) (qd2 : Nat) : Prop :=
  (∀ k, k < w * h → (mrk2 k = true ↔ mrk k = true ∨ Cn w h (fun k => blk k == col) st k)) ∧ (∀ j, j < qd2 → que2 j < w * h ∧ Cn w h (fun k => blk k == col) st (que2 j)) ∧ (∀ k, Cn w h (fun k => blk k == col) st k → ∃ j, j < qd2 ∧ que2 j = k) ∧ qd2 = cntB (cB (Cn w h (fun k => blk k == col) st)) (w * h) ∧ qd2 ≤ w * h
def gCl (w h : Nat) (blk : Nat → Bool) (col : Bool) (mrk : Nat → Bool) : Prop := ∀ j k, j < w * h → mrk j = true → Cn w h (fun k => blk k == col) j k → mrk k = true
theorem gI_0 {w h : Nat} {blk : Nat → Bool} {col : Bool} {st : Nat} {mrk : Nat → Bool} {que : Nat → Nat} (hst : st < w * h) (h0 : mrk st = false) : gI w h blk col st mrk 0 (va_up mrk st true, va_up que 0 st, 0 + 1) := by
  refine ⟨?_, ?_, ?_, ?_, ?_, va_up_self _ _ _⟩
  · dsimp only; rw [cntB_up h0 hst]; omega
  · intro j hj
    dsimp only at hj ⊢
    have : j = 0 := by omega
    subst this
    rw [va_up_self]
    exact ⟨hst, Cn_rf, va_up_self _ _ _⟩
  · intro k hk hm
    dsimp only at hm ⊢
    by_cases e : k = st
    · exact Or.inr ⟨0, by omega, by rw [va_up_self, e]⟩
    · rw [va_up_ne _ _ e] at hm; exact Or.inl hm
  · intro k hm
    dsimp only
    by_cases e : k = st
    · rw [e, va_up_self]
    · rw [va_up_ne _ _ e]; exact hm
  · intro j b hj
    exact absurd hj (by omega)
theorem tQ_in {blk : Nat → Bool} {que : Nat → Nat} {col : Bool} : ∀ {n j : Nat}, j < n → tQ blk que col n (que j) = col
  | n + 1, j, hj => by
    simp only [tQ]
    by_cases e : que j = que n
    · rw [e, va_up_self]
    · rw [va_up_ne _ _ e]
      exact tQ_in (show j < n by rcases Nat.lt_or_ge j n with h | h; exact h; exact absurd (by rw [show j = n by omega]) e)
theorem tQ_out {blk : Nat → Bool} {que : Nat → Nat} {col : Bool} {k : Nat} : ∀ {n : Nat}, (∀ j, j < n → que j ≠ k) → tQ blk que col n k = blk k
  | 0, _ => rfl
  | n + 1, h => by
    simp only [tQ]
    rw [va_up_ne _ _ (fun e => h n (by omega) e.symm)]
    exact tQ_out (fun j hj => h j (by omega))
theorem anyB_iff {f : Nat → Bool} : ∀ {n : Nat}, anyB f n = true ↔ ∃ j, j < n ∧ f j = true
  | 0 => by simp [anyB]
  | n + 1 => by
    simp only [anyB, Bool.or_eq_true, anyB_iff (n := n)]
    constructor
    · rintro (⟨j, hj, h⟩ | h)
      · exact ⟨j, by omega, h⟩
      · exact ⟨n, by omega, h⟩
    · rintro ⟨j, hj, h⟩
      by_cases e : j = n
      · subst e; exact Or.inr h
      · exact Or.inl ⟨j, by omega, h⟩
/-- a speck: of this colour, its part of at most mo samples, and (white ones) not at the picture's edge -/
def Sp (w h : Nat) (blk : Nat → Bool) (col : Bool) (mo k : Nat) : Prop := blk k = col ∧ cntB (cB (Cn w h (fun j => blk j == col) k)) (w * h) ≤ mo ∧ (col = true ∨ ∀ j, Cn w h (fun j => blk j == col) k j → eP w h j = false)
theorem Cn_mono {w h : Nat} {p p2 : Nat → Bool} (hm : ∀ k, k < w * h → p k = true → p2 k = true) {s k : Nat} (hc : Cn w h p s k) : Cn w h p2 s k := hc (fun k => Cn w h p2 s k) Cn_rf (fun _ b q r t => Cn_st q r (hm b r.2.1 t))
theorem Sp_cn {w h : Nat} {blk : Nat → Bool} {col : Bool} {mo s k : Nat} (hs : blk s = col) (hc : Cn w h (fun j => blk j == col) s k) : Sp w h blk col mo s ↔ Sp w h blk col mo k := by
  have hps : (fun j => blk j == col) s = true := by simp [hs]
  have hpk := Cn_p hps hc
  have hk : blk k = col := by simpa using hpk
  have hiff : ∀ j, Cn w h (fun j => blk j == col) s j ↔ Cn w h (fun j => blk j == col) k j := fun j => ⟨fun q => Cn_tr (Cn_sy hps hc) q, fun q => Cn_tr hc q⟩
  unfold Sp
  rw [cB_congr (n := w * h) (fun j _ => hiff j)]
  constructor
  · rintro ⟨_, h2, h3⟩
    exact ⟨hk, h2, h3.imp id (fun q j hj => q j ((hiff j).mpr hj))⟩
  · rintro ⟨_, h2, h3⟩
    exact ⟨hs, h2, h3.imp id (fun q j hj => q j ((hiff j).mp hj))⟩
def tI (w h : Nat) (blk : Nat → Bool) (col : Bool) (mo i : Nat) (cur mrk : Nat → Bool) (tn : Nat) : Prop :=
  (∀ k, k < w * h → mrk k = true → blk k = col) ∧ gCl w h blk col mrk ∧ (∀ k, k < i → k < w * h → blk k = col → mrk k = true) ∧
  (∀ k, k < w * h → (mrk k = true → Sp w h blk col mo k → cur k = !col) ∧ (¬ (mrk k = true ∧ Sp w h blk col mo k) → cur k = blk k)) ∧ tn = cntB (cB (fun k => mrk k = true ∧ Sp w h blk col mo k)) (w * h)
theorem tI_cur {w h : Nat} {blk : Nat → Bool} {col : Bool} {mo i : Nat} {cur mrk : Nat → Bool} {tn : Nat} (H : tI w h blk col mo i cur mrk tn) : ∀ k, k < w * h → cur k = col → blk k = col := by
  intro k hk hc
  by_cases e : mrk k = true ∧ Sp w h blk col mo k
  · have := (H.2.2.2.1 k hk).1 e.1 e.2
    rw [hc] at this
    cases col <;> cases this
  · rw [← (H.2.2.2.1 k hk).2 e]; exact hc
theorem tI_cl {w h : Nat} {blk : Nat → Bool} {col : Bool} {mo i : Nat} {cur mrk : Nat → Bool} {tn : Nat} (H : tI w h blk col mo i cur mrk tn) : gCl w h cur col mrk := fun j k hj hm hc =>
  H.2.1 j k hj hm (Cn_mono (fun k hk hp => by simpa using tI_cur H k hk (by simpa using hp)) hc)
theorem tI_cn {w h : Nat} {blk : Nat → Bool} {col : Bool} {mo i : Nat} {cur mrk : Nat → Bool} {tn : Nat} (H : tI w h blk col mo i cur mrk tn) {s : Nat} (hs : s < w * h) (hm : mrk s = false) (hb : blk s = col) (k : Nat) : Cn w h (fun k => cur k == col) s k ↔ Cn w h (fun k => blk k == col) s k := by
  constructor
  · exact Cn_mono (fun k hk hp => by simpa using tI_cur H k hk (by simpa using hp))
  · intro hc
    have hps : (fun j => blk j == col) s = true := by simp [hb]
    have := hc (fun k => Cn w h (fun j => blk j == col) s k ∧ Cn w h (fun k => cur k == col) s k) ⟨Cn_rf, Cn_rf⟩ (fun a b q r t => by
      have hb2 : Cn w h (fun j => blk j == col) s b := Cn_st q.1 r t
      have hmb : ¬ mrk b = true := fun z => by
        have := H.2.1 b s r.2.1 z (Cn_sy hps hb2)
        rw [hm] at this; cases this
      have hcb := (H.2.2.2.1 b r.2.1).2 (fun z => hmb z.1)
      exact ⟨hb2, Cn_st q.2 r (by show (cur b == col) = true; rw [hcb]; exact t)⟩)
    exact this.2
theorem tI_skip {w h : Nat} {blk : Nat → Bool} {col : Bool} {mo i : Nat} {cur mrk : Nat → Bool} {tn : Nat} (H : tI w h blk col mo i cur mrk tn) (hi : i < w * h) (hs : ¬ cur i = col ∨ mrk i = true) : tI w h blk col mo (i + 1) cur mrk tn := by
  refine ⟨H.1, H.2.1, fun k hk hk2 hb => ?_, H.2.2.2.1, H.2.2.2.2⟩
  by_cases e : k = i
  · subst e
    rcases hs with hs | hs
    · by_cases e2 : mrk k = true ∧ Sp w h blk col mo k
      · exact e2.1
      · exact absurd ((H.2.2.2.1 k hk2).2 e2 ▸ hb) hs
    · exact hs
  · exact H.2.2.1 k (by omega) hk2 hb
theorem tI_go {w h : Nat} {blk : Nat → Bool} {col : Bool} {mo i : Nat} {cur mrk mrk2 : Nat → Bool} {tn : Nat} {que2 : Nat → Nat} {qd2 : Nat} (H : tI w h blk col mo i cur mrk tn) (hi : i < w * h) (hc : cur i = col) (hm : mrk i = false) (G : gPost w h cur col i mrk mrk2 que2 qd2) :
    ((decide (qd2 ≤ mo) && (col || !anyB (fun j => eP w h (que2 j)) qd2)) = true → tI w h blk col mo (i + 1) (tQ cur que2 (!col) qd2) mrk2 (tn + qd2)) ∧
    ((decide (qd2 ≤ mo) && (col || !anyB (fun j => eP w h (que2 j)) qd2)) = false → tI w h blk col mo (i + 1) cur mrk2 tn) := by
  have hb : blk i = col := tI_cur H i hi hc
  have hps : (fun j => blk j == col) i = true := by simp [hb]
  have hcn := tI_cn H hi hm hb
  obtain ⟨G1, G2, G3, G4, G5⟩ := G
  rw [cB_congr (n := w * h) (fun j _ => hcn j)] at G4
  have G1' : ∀ k, k < w * h → (mrk2 k = true ↔ mrk k = true ∨ Cn w h (fun k => blk k == col) i k) := fun k hk => by rw [G1 k hk, hcn k]
  have G2' : ∀ j, j < qd2 → que2 j < w * h ∧ Cn w h (fun k => blk k == col) i (que2 j) := fun j hj => ⟨(G2 j hj).1, (hcn _).mp (G2 j hj).2⟩
  have G3' : ∀ k, Cn w h (fun k => blk k == col) i k → ∃ j, j < qd2 ∧ que2 j = k := fun k hk => G3 k ((hcn k).mpr hk)
  have hdis : ∀ k, k < w * h → Cn w h (fun k => blk k == col) i k → mrk k = false := fun k hk hc2 => by
    cases e : mrk k
    · rfl
    · have := H.2.1 k i hk e (Cn_sy hps hc2)
      rw [hm] at this; cases this
  have hsp : (decide (qd2 ≤ mo) && (col || !anyB (fun j => eP w h (que2 j)) qd2)) = true ↔ Sp w h blk col mo i := by
    rw [Bool.and_eq_true, decide_eq_true_iff, Bool.or_eq_true, Bool.not_eq_true']
    unfold Sp
    rw [← G4]
    constructor
    · rintro ⟨h1, h2⟩
      refine ⟨hb, h1, h2.imp id (fun q j hj => ?_)⟩
      obtain ⟨t, ht, rfl⟩ := G3' j hj
      cases e : eP w h (que2 t)
      · rfl
      · have : anyB (fun j => eP w h (que2 j)) qd2 = true := anyB_iff.mpr ⟨t, ht, e⟩
        rw [q] at this; cases this
    · rintro ⟨_, h1, h2⟩
      refine ⟨h1, h2.imp id (fun q => ?_)⟩
      cases e : anyB (fun j => eP w h (que2 j)) qd2
      · rfl
      · obtain ⟨t, ht, h5⟩ := anyB_iff.mp e
        rw [q _ (G2' t ht).2] at h5; cases h5
  have a' : ∀ k, k < w * h → mrk2 k = true → blk k = col := fun k hk h1 => by
    rcases (G1' k hk).mp h1 with h2 | h2
    · exact H.1 k hk h2
    · simpa using Cn_p hps h2
  have b' : gCl w h blk col mrk2 := fun j k hj h1 hc2 => by
    have hk := Cn_lt hj hc2
    rcases (G1' j hj).mp h1 with h2 | h2
    · exact (G1' k hk).mpr (Or.inl (H.2.1 j k hj h2 hc2))
    · exact (G1' k hk).mpr (Or.inr (Cn_tr h2 hc2))
  have c' : ∀ k, k < i + 1 → k < w * h → blk k = col → mrk2 k = true := fun k hk hk2 hb2 => by
    by_cases e : k = i
    · subst e; exact (G1' k hk2).mpr (Or.inr Cn_rf)
    · exact (G1' k hk2).mpr (Or.inl (H.2.2.1 k (by omega) hk2 hb2))
  refine ⟨fun h1 => ?_, fun h1 => ?_⟩
  · have hS := hsp.mp h1
    refine ⟨a', b', c', fun k hk => ?_, ?_⟩
    · by_cases e : Cn w h (fun k => blk k == col) i k
      · have hin : tQ cur que2 (!col) qd2 k = !col := by
          obtain ⟨t, ht, rfl⟩ := G3' k e
          exact tQ_in ht
        exact ⟨fun _ _ => hin, fun q => absurd ⟨(G1' k hk).mpr (Or.inr e), (Sp_cn hb e).mp hS⟩ q⟩
      · have hout : tQ cur que2 (!col) qd2 k = cur k := tQ_out (fun j hj q => e (q ▸ (G2' j hj).2))
        rw [hout]
        have hmk : mrk2 k = true ↔ mrk k = true := by rw [G1' k hk]; exact ⟨fun q => q.resolve_right e, Or.inl⟩
        rw [hmk]
        exact H.2.2.2.1 k hk
    · have e1 : cntB (cB (fun k => mrk2 k = true ∧ Sp w h blk col mo k)) (w * h) = cntB (fun k => cB (fun k => mrk k = true ∧ Sp w h blk col mo k) k || cB (Cn w h (fun k => blk k == col) i) k) (w * h) := by
        refine cntB_congr (fun k hk => ?_)
        cases e : (cB (fun k => mrk k = true ∧ Sp w h blk col mo k) k || cB (Cn w h (fun k => blk k == col) i) k)
        · refine cB_f.mpr (fun q => ?_)
          rw [Bool.or_eq_false_iff] at e
          rcases (G1' k hk).mp q.1 with h2 | h2
          · exact cB_f.mp e.1 ⟨h2, q.2⟩
          · exact cB_f.mp e.2 h2
        · refine cB_t.mpr ?_
          rw [Bool.or_eq_true] at e
          rcases e with e | e
          · have := cB_t.mp e
            exact ⟨(G1' k hk).mpr (Or.inl this.1), this.2⟩
          · have := cB_t.mp e
            exact ⟨(G1' k hk).mpr (Or.inr this), (Sp_cn hb this).mp hS⟩
      rw [e1, cntB_or (fun k hk h1 => cB_f.mpr (fun h2 => by
        have := (cB_t.mp h1).1
        rw [hdis k hk h2] at this; cases this)), H.2.2.2.2, G4]
  · have hS : ¬ Sp w h blk col mo i := fun q => by rw [hsp.mpr q] at h1; cases h1
    have hiff : ∀ k, k < w * h → ((mrk2 k = true ∧ Sp w h blk col mo k) ↔ (mrk k = true ∧ Sp w h blk col mo k)) := fun k hk => by
      constructor
      · rintro ⟨h2, h3⟩
        rcases (G1' k hk).mp h2 with h4 | h4
        · exact ⟨h4, h3⟩
        · exact absurd ((Sp_cn hb h4).mpr h3) hS
      · rintro ⟨h2, h3⟩
        exact ⟨(G1' k hk).mpr (Or.inl h2), h3⟩
    refine ⟨a', b', c', fun k hk => ⟨fun h2 h3 => ?_, fun q => ?_⟩, ?_⟩
    · have := (hiff k hk).mp ⟨h2, h3⟩
      exact (H.2.2.2.1 k hk).1 this.1 this.2
    · exact (H.2.2.2.1 k hk).2 (fun z => q ((hiff k hk).mpr z))
    · rw [cB_congr hiff]; exact H.2.2.2.2
theorem tI_0 {w h : Nat} {blk : Nat → Bool} {col : Bool} {mo : Nat} {mrk : Nat → Bool} (hm : ∀ k, k < w * h → mrk k = false) : tI w h blk col mo 0 blk mrk 0 := by
  refine ⟨fun k hk h1 => absurd h1 (by rw [hm k hk]; decide), fun j k hj h1 => absurd h1 (by rw [hm j hj]; decide), fun k hk => absurd hk (by omega), fun k hk => ⟨fun h1 => absurd h1 (by rw [hm k hk]; decide), fun _ => rfl⟩, ?_⟩
  exact (cntB_0 (fun k hk => cB_f.mpr (fun q => absurd q.1 (by rw [hm k hk]; decide)))).symm
def tPost (w h : Nat) (blk : Nat → Bool) (col : Bool) (mo : Nat) (blk2 : Nat → Bool) : Prop := ∀ k, k < w * h → (Sp w h blk col mo k → blk2 k = !col) ∧ (¬ Sp w h blk col mo k → blk2 k = blk k)
theorem tI_end {w h : Nat} {blk : Nat → Bool} {col : Bool} {mo i : Nat} {cur mrk : Nat → Bool} {tn : Nat} (H : tI w h blk col mo i cur mrk tn) (hi : w * h ≤ i) : tPost w h blk col mo cur ∧ tn = cntB (cB (Sp w h blk col mo)) (w * h) := by
  have hm : ∀ k, k < w * h → Sp w h blk col mo k → mrk k = true := fun k hk hs => H.2.2.1 k (by omega) hk hs.1
  refine ⟨fun k hk => ⟨fun hs => (H.2.2.2.1 k hk).1 (hm k hk hs) hs, fun hs => (H.2.2.2.1 k hk).2 (fun q => hs q.2)⟩, ?_⟩
  rw [H.2.2.2.2]
  exact cB_congr (fun k hk => ⟨fun q => q.2, fun q => ⟨hm k hk q, q⟩⟩)
/-- the parts, counted by their first samples -/
def fst_ (w h : Nat) (blk : Nat → Bool) (k : Nat) : Prop := blk k = true ∧ ∀ j, j < k → ¬ Cn w h (fun j => blk j == true) k j
def pI_ (w h : Nat) (blk : Nat → Bool) (i : Nat) (mrk : Nat → Bool) : Prop := ∀ k, k < w * h → (mrk k = true ↔ blk k = true ∧ ∃ s, s < i ∧ Cn w h (fun j => blk j == true) k s)
theorem pI_cl {w h : Nat} {blk : Nat → Bool} {i : Nat} {mrk : Nat → Bool} (H : pI_ w h blk i mrk) : gCl w h blk true mrk := by
  intro j k hj hm hc
  have hk := Cn_lt hj hc
  obtain ⟨h1, s, h2, h3⟩ := (H j hj).mp hm
  have hpj : (fun j => blk j == true) j = true := by simp [h1]
  exact (H k hk).mpr ⟨by simpa using Cn_p hpj hc, s, h2, Cn_tr (Cn_sy hpj hc) h3⟩
theorem pI_fst {w h : Nat} {blk : Nat → Bool} {i : Nat} {mrk : Nat → Bool} (H : pI_ w h blk i mrk) (hi : i < w * h) : (blk i = true ∧ mrk i = false) ↔ fst_ w h blk i := by
  constructor
  · rintro ⟨h1, h2⟩
    refine ⟨h1, fun j hj hc => ?_⟩
    have := (H i hi).mpr ⟨h1, j, hj, hc⟩
    rw [h2] at this; cases this
  · rintro ⟨h1, h2⟩
    refine ⟨h1, ?_⟩
    cases e : mrk i
    · rfl
    · obtain ⟨_, s, h3, h4⟩ := (H i hi).mp e
      exact absurd h4 (h2 s h3)
theorem pI_go {w h : Nat} {blk : Nat → Bool} {i : Nat} {mrk mrk2 : Nat → Bool} {que2 : Nat → Nat} {qd2 : Nat} (H : pI_ w h blk i mrk) (hb : blk i = true) (G : gPost w h blk true i mrk mrk2 que2 qd2) : pI_ w h blk (i + 1) mrk2 := by
  have hps : (fun j => blk j == true) i = true := by simp [hb]
  intro k hk
  rw [G.1 k hk, H k hk]
  constructor
  · rintro (⟨h1, s, h2, h3⟩ | h1)
    · exact ⟨h1, s, by omega, h3⟩
    · exact ⟨by simpa using Cn_p hps h1, i, by omega, Cn_sy hps h1⟩
  · rintro ⟨h1, s, h2, h3⟩
    by_cases e : s = i
    · subst e; exact Or.inr (Cn_sy (by simp [h1]) h3)
    · exact Or.inl ⟨h1, s, by omega, h3⟩
theorem pI_skip {w h : Nat} {blk : Nat → Bool} {i : Nat} {mrk : Nat → Bool} (H : pI_ w h blk i mrk) (hi : i < w * h) (hs : blk i = false ∨ mrk i = true) : pI_ w h blk (i + 1) mrk := by
  intro k hk
  rw [H k hk]
  constructor
  · rintro ⟨h1, s, h2, h3⟩
    exact ⟨h1, s, by omega, h3⟩
  · rintro ⟨h1, s, h2, h3⟩
    by_cases e : s = i
    · subst e
      have hpk : (fun j => blk j == true) k = true := by simp [h1]
      have hbi : blk s = true := by simpa using Cn_p hpk h3
      rcases hs with hs | hs
      · rw [hs] at hbi; cases hbi
      · obtain ⟨_, t, h4, h5⟩ := (H s hi).mp hs
        exact ⟨h1, t, h4, Cn_tr h3 h5⟩
    · exact ⟨h1, s, by omega, h3⟩
