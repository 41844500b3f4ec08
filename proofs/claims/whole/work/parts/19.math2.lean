-- WHAT HANGS TOGETHER BY SIDES AND CORNERS (join)
def adj8 (w h a b : Nat) : Prop := a < w * h ∧ b < w * h ∧ a % w ≤ b % w + 1 ∧ b % w ≤ a % w + 1 ∧ a / w ≤ b / w + 1 ∧ b / w ≤ a / w + 1
def Jn (w h : Nat) (sam : Nat → Nat) (lo hi : Int32) (k : Nat) : Prop := ∀ S : Nat → Prop, (∀ a, a < w * h → nI (sam a) ≤ lo → S a) → (∀ a b, S a → adj8 w h a b → nI (sam b) ≤ hi → S b) → S k
theorem Jn_s {w h : Nat} {sam : Nat → Nat} {lo hi : Int32} {a : Nat} (ha : a < w * h) (hl : nI (sam a) ≤ lo) : Jn w h sam lo hi a := fun _ hs _ => hs a ha hl
theorem Jn_t {w h : Nat} {sam : Nat → Nat} {lo hi : Int32} {a b : Nat} (h1 : Jn w h sam lo hi a) (h2 : adj8 w h a b) (h3 : nI (sam b) ≤ hi) : Jn w h sam lo hi b := fun S hs hc => hc a b (h1 S hs hc) h2 h3
theorem co_e {i x s : Nat} (hi : i < 100) (hx : x < 100) (hs : s < 100) (e : nI x - nI 1 + nI s = nI i) : i + 1 = x + s := by
  have h1 : nI i + nI 1 = nI x + nI s := by
    rw [← e]
    generalize nI x = a
    generalize nI 1 = b
    generalize nI s = c
    rw [Int32.sub_eq_add_neg, Int32.add_assoc, Int32.add_assoc, Int32.add_comm c b, ← Int32.add_assoc (-b), Int32.add_left_neg, Int32.zero_add]
  rw [nI_add, nI_add] at h1
  have := (nI_eq (by omega) (by omega)).mp h1
  omega
theorem co_i {i x s : Nat} (e : i + 1 = x + s) : nI x - nI 1 + nI s = nI i := by
  have h1 : nI i + nI 1 = nI x + nI s := by rw [nI_add, nI_add, e]
  have h2 : nI i = nI x + nI s - nI 1 := by rw [← h1, Int32.add_sub_cancel]
  rw [h2]
  generalize nI x = a
  generalize nI 1 = b
  generalize nI s = c
  rw [Int32.sub_eq_add_neg, Int32.sub_eq_add_neg, Int32.add_assoc, Int32.add_comm (-b) c, ← Int32.add_assoc]
def jI (w h : Nat) (sam : Nat → Nat) (lo hi : Int32) (nx : Nat) (t : q_U) : Prop :=
  t.2.2 = cntB t.1 (w * h) ∧ (∀ j, j < t.2.2 → t.2.1 j < w * h ∧ t.1 (t.2.1 j) = true) ∧ (∀ k, k < w * h → t.1 k = true → Jn w h sam lo hi k ∧ ∃ j, j < t.2.2 ∧ t.2.1 j = k) ∧
  (∀ k, k < w * h → nI (sam k) ≤ lo → t.1 k = true) ∧ (∀ j b, j < nx → j < t.2.2 → adj8 w h (t.2.1 j) b → nI (sam b) ≤ hi → t.1 b = true)
def jP (w h : Nat) (sam : Nat → Nat) (lo hi : Int32) (nx q : Nat) (t : q_U) : Prop := jI w h sam lo hi nx t ∧ nx < t.2.2 ∧ t.2.1 nx = q
theorem jP_up {w h : Nat} (g : q_g w h) {sam : Nat → Nat} {lo hi : Int32} {nx q : Nat} {t : q_U} (H : jP w h sam lo hi nx q t) {a b : Int32} (hab : inI w h a b = true → adj8 w h q (pI w a b)) :
    jP w h sam lo hi nx q (bUpI w h sam hi a b t) ∧ (∀ k, t.1 k = true → (bUpI w h sam hi a b t).1 k = true) ∧ (inI w h a b = true → nI (sam (pI w a b)) ≤ hi → (bUpI w h sam hi a b t).1 (pI w a b) = true) := by
  unfold bUpI
  by_cases hin : inI w h a b = true
  · rw [if_pos hin]
    have had := hab hin
    generalize pI w a b = p at *
    have hp : p < w * h := had.2.1
    unfold bUp
    by_cases hc : bUpC sam hi t.1 p = true
    · rw [if_pos hc]
      have hc2 : t.1 p = false ∧ nI (sam p) ≤ hi := by
        unfold bUpC at hc
        rw [Bool.and_eq_true] at hc
        exact ⟨by simpa using hc.1, of_decide_eq_true hc.2⟩
      obtain ⟨⟨H1, H2, H3, H4, H5⟩, H6, H7⟩ := H
      obtain ⟨blk, que, qd⟩ := t
      dsimp only at H1 H2 H3 H4 H5 H6 H7 hc2 ⊢
      refine ⟨⟨⟨?_, ?_, ?_, ?_, ?_⟩, by dsimp only; omega, by dsimp only; rw [va_up_ne _ _ (by omega)]; exact H7⟩, ?_, fun _ _ => va_up_self _ _ _⟩
      · dsimp only; rw [cntB_up hc2.1 hp, H1]
      · intro j hj
        dsimp only at hj ⊢
        by_cases e : j = qd
        · subst e; rw [va_up_self]; exact ⟨hp, va_up_self _ _ _⟩
        · rw [va_up_ne _ _ e]
          obtain ⟨k1, k2⟩ := H2 j (by omega)
          refine ⟨k1, ?_⟩
          by_cases e2 : que j = p
          · rw [e2, va_up_self]
          · rw [va_up_ne _ _ e2]; exact k2
      · intro k hk hm
        dsimp only at hm ⊢
        by_cases e : k = p
        · subst e
          refine ⟨?_, qd, by omega, va_up_self _ _ _⟩
          obtain ⟨z1, z2⟩ := H2 nx H6
          rw [H7] at z1 z2
          exact Jn_t (H3 q z1 z2).1 had hc2.2
        · rw [va_up_ne _ _ e] at hm
          obtain ⟨z1, j, z2, z3⟩ := H3 k hk hm
          exact ⟨z1, j, by omega, by rw [va_up_ne _ _ (by omega)]; exact z3⟩
      · intro k hk hl
        dsimp only
        by_cases e : k = p
        · rw [e, va_up_self]
        · rw [va_up_ne _ _ e]; exact H4 k hk hl
      · intro j b2 hj hj2 ha2 hb2
        dsimp only at hj2 ha2 ⊢
        rw [va_up_ne _ _ (show j ≠ qd by omega)] at ha2
        by_cases e : b2 = p
        · rw [e, va_up_self]
        · rw [va_up_ne _ _ e]; exact H5 j b2 hj (by omega) ha2 hb2
      · intro k hm
        by_cases e : k = p
        · rw [e, va_up_self]
        · rw [va_up_ne _ _ e]; exact hm
    · rw [if_neg hc]
      refine ⟨H, fun _ z => z, fun _ hl => ?_⟩
      cases e : t.1 p
      · exact absurd (by unfold bUpC; rw [e, decide_eq_true hl]; rfl) hc
      · rfl
  · rw [if_neg hin]
    exact ⟨H, fun _ z => z, fun z => absurd z hin⟩
theorem ad8_of {w h : Nat} (g : q_g w h) {q s t : Nat} (hq : q < w * h) (hs : s < 3) (ht : t < 3) (hin : inI w h (nI (q % w) - nI 1 + nI s) (nI (q / w) - nI 1 + nI t) = true) : adj8 w h q (pI w (nI (q % w) - nI 1 + nI s) (nI (q / w) - nI 1 + nI t)) := by
  obtain ⟨i, j, hi, hj, e1, e2⟩ := inI_o g hin
  have hw := g.2.1
  have hh := g.2.2.2
  have hm := Nat.mod_lt q (show w > 0 by omega)
  have hd : q / w < h := Nat.div_lt_of_lt_mul hq
  rw [e1, e2, pI_n (by omega) (by omega)]
  have z1 := co_e (by omega) (by omega) (by omega) e1
  have z2 := co_e (by omega) (by omega) (by omega) e2
  refine ⟨hq, pl_lt hi hj, ?_⟩
  rw [ix_mod hi, ix_div hi]
  omega
theorem jP_row {w h : Nat} (g : q_g w h) {sam : Nat → Nat} {lo hi : Int32} {nx q : Nat} (hq : q < w * h) {r : Nat} (hr : r < 3) : ∀ (n : Nat) (t : q_U), n ≤ 3 → jP w h sam lo hi nx q t →
    jP w h sam lo hi nx q (bRow w h sam hi (nI (q % w) - nI 1) (nI (q / w) - nI 1 + nI r) n t) ∧ (∀ k, t.1 k = true → (bRow w h sam hi (nI (q % w) - nI 1) (nI (q / w) - nI 1 + nI r) n t).1 k = true) ∧
    ∀ s, s < n → inI w h (nI (q % w) - nI 1 + nI s) (nI (q / w) - nI 1 + nI r) = true → nI (sam (pI w (nI (q % w) - nI 1 + nI s) (nI (q / w) - nI 1 + nI r))) ≤ hi → (bRow w h sam hi (nI (q % w) - nI 1) (nI (q / w) - nI 1 + nI r) n t).1 (pI w (nI (q % w) - nI 1 + nI s) (nI (q / w) - nI 1 + nI r)) = true
  | 0, t, _, H => ⟨H, fun _ z => z, fun s hs => absurd hs (by omega)⟩
  | n + 1, t, hn, H => by
    obtain ⟨A1, A2, A3⟩ := jP_row g hq hr n t (by omega) H
    obtain ⟨B1, B2, B3⟩ := jP_up g A1 (a := nI (q % w) - nI 1 + nI n) (b := nI (q / w) - nI 1 + nI r) (fun z => ad8_of g hq (by omega) hr z)
    refine ⟨B1, fun k z => B2 k (A2 k z), fun s hs h1 h2 => ?_⟩
    by_cases e : s = n
    · subst e; exact B3 h1 h2
    · exact B2 _ (A3 s (by omega) h1 h2)
theorem jP_rnd {w h : Nat} (g : q_g w h) {sam : Nat → Nat} {lo hi : Int32} {nx q : Nat} (hq : q < w * h) : ∀ (n : Nat) (t : q_U), n ≤ 3 → jP w h sam lo hi nx q t →
    jP w h sam lo hi nx q (bRnd w h sam hi (nI (q % w) - nI 1) (nI (q / w) - nI 1) n t) ∧ (∀ k, t.1 k = true → (bRnd w h sam hi (nI (q % w) - nI 1) (nI (q / w) - nI 1) n t).1 k = true) ∧
    ∀ r, r < n → ∀ s, s < 3 → inI w h (nI (q % w) - nI 1 + nI s) (nI (q / w) - nI 1 + nI r) = true → nI (sam (pI w (nI (q % w) - nI 1 + nI s) (nI (q / w) - nI 1 + nI r))) ≤ hi → (bRnd w h sam hi (nI (q % w) - nI 1) (nI (q / w) - nI 1) n t).1 (pI w (nI (q % w) - nI 1 + nI s) (nI (q / w) - nI 1 + nI r)) = true
  | 0, t, _, H => ⟨H, fun _ z => z, fun s hs => absurd hs (by omega)⟩
  | n + 1, t, hn, H => by
    obtain ⟨A1, A2, A3⟩ := jP_rnd g hq n t (by omega) H
    obtain ⟨B1, B2, B3⟩ := jP_row g hq (show n < 3 by omega) 3 _ (Nat.le_refl 3) A1
    refine ⟨B1, fun k z => B2 k (A2 k z), fun r hr s hs h1 h2 => ?_⟩
    by_cases e : r = n
    · subst e; exact B3 s hs h1 h2
    · exact B2 _ (A3 r (by omega) s hs h1 h2)
theorem jI_go {w h : Nat} (g : q_g w h) {sam : Nat → Nat} {lo hi : Int32} {nx : Nat} {t : q_U} (H : jI w h sam lo hi nx t) (hnx : nx < t.2.2) {q : Nat} (hqe : t.2.1 nx = q) : jI w h sam lo hi (nx + 1) (bRnd w h sam hi (nI (q % w) - nI 1) (nI (q / w) - nI 1) 3 t) := by
  have hq : q < w * h := by rw [← hqe]; exact (H.2.1 nx hnx).1
  obtain ⟨⟨A1, A2, A3⟩, -, A4⟩ := jP_rnd g hq 3 t (Nat.le_refl 3) ⟨H, hnx, hqe⟩
  refine ⟨A1.1, A1.2.1, A1.2.2.1, A1.2.2.2.1, fun j b hj hj2 hab hb => ?_⟩
  by_cases e : j = nx
  · subst e
    rw [A3] at hab
    obtain ⟨h1, h2, h3, h4, h5, h6⟩ := hab
    have hw := g.2.1
    have hh := g.2.2.2
    have hm := Nat.mod_lt b (show w > 0 by have := g.1; omega)
    have hd : b / w < h := Nat.div_lt_of_lt_mul h2
    have e1 : nI (q % w) - nI 1 + nI (b % w + 1 - q % w) = nI (b % w) := co_i (by omega)
    have e2 : nI (q / w) - nI 1 + nI (b / w + 1 - q / w) = nI (b / w) := co_i (by omega)
    have := A4 (b / w + 1 - q / w) (by omega) (b % w + 1 - q % w) (by omega)
    rw [e1, e2, pI_n (by omega) (by omega), ix_self] at this
    exact this (inI_n g hm hd) hb
  · exact A1.2.2.2.2 j b (by omega) hj2 hab hb
def jPost (w h : Nat) (sam : Nat → Nat) (lo hi : Int32) (blk2 : Nat → Bool) : Prop := ∀ k, k < w * h → (blk2 k = true ↔ Jn w h sam lo hi k)
theorem jI_end {w h : Nat} {sam : Nat → Nat} {lo hi : Int32} {nx : Nat} {t : q_U} (H : jI w h sam lo hi nx t) (hnx : t.2.2 ≤ nx) : jPost w h sam lo hi t.1 := by
  obtain ⟨H1, H2, H3, H4, H5⟩ := H
  intro k hk
  refine ⟨fun z => (H3 k hk z).1, fun z => ?_⟩
  have := z (fun k => k < w * h ∧ t.1 k = true) (fun a ha hl => ⟨ha, H4 a ha hl⟩) (fun a b q r s => ⟨r.2.1, by
    obtain ⟨_, j, hj, rfl⟩ := H3 a q.1 q.2
    exact H5 j b (by omega) hj r s⟩)
  exact this.2
/-- the seeds, first -/
def jS (sam : Nat → Nat) (lo : Int32) (i : Nat) (que : Nat → Nat) (qd : Nat) : Prop := qd = cntB (fun k => decide (nI (sam k) ≤ lo)) i ∧ (∀ j, j < qd → que j < i ∧ nI (sam (que j)) ≤ lo) ∧ ∀ k, k < i → nI (sam k) ≤ lo → ∃ j, j < qd ∧ que j = k
theorem jS_t {sam : Nat → Nat} {lo : Int32} {i : Nat} {que : Nat → Nat} {qd : Nat} (H : jS sam lo i que qd) (h1 : nI (sam i) ≤ lo) : jS sam lo (i + 1) (va_up que qd i) (qd + 1) := by
  obtain ⟨H1, H2, H3⟩ := H
  refine ⟨by rw [cntB_t (by simp [h1]), H1], fun j hj => ?_, fun k hk hl => ?_⟩
  · by_cases e : j = qd
    · subst e; rw [va_up_self]; exact ⟨by omega, h1⟩
    · rw [va_up_ne _ _ e]; have := H2 j (by omega); exact ⟨by omega, this.2⟩
  · by_cases e : k = i
    · exact ⟨qd, by omega, by rw [va_up_self, e]⟩
    · obtain ⟨j, h2, h3⟩ := H3 k (by omega) hl
      exact ⟨j, by omega, by rw [va_up_ne _ _ (by omega)]; exact h3⟩
theorem jS_f {sam : Nat → Nat} {lo : Int32} {i : Nat} {que : Nat → Nat} {qd : Nat} (H : jS sam lo i que qd) (h1 : ¬ nI (sam i) ≤ lo) : jS sam lo (i + 1) que qd := by
  obtain ⟨H1, H2, H3⟩ := H
  refine ⟨by rw [cntB_f (by simp [h1]), H1], fun j hj => ?_, fun k hk hl => ?_⟩
  · have := H2 j hj; exact ⟨by omega, this.2⟩
  · by_cases e : k = i
    · subst e; exact absurd hl h1
    · exact H3 k (by omega) hl
theorem jS_0 {sam : Nat → Nat} {lo : Int32} {que : Nat → Nat} : jS sam lo 0 que 0 := ⟨rfl, fun j hj => absurd hj (by omega), fun k hk => absurd hk (by omega)⟩
theorem jS_le {sam : Nat → Nat} {lo : Int32} {i : Nat} {que : Nat → Nat} {qd : Nat} (H : jS sam lo i que qd) : qd ≤ i := by rw [H.1]; exact cntB_le _ _
theorem jI_0 {w h : Nat} {sam : Nat → Nat} {lo hi : Int32} {blk : Nat → Bool} {que : Nat → Nat} {qd : Nat} (H : jS sam lo (w * h) que qd) (hb : ∀ k, k < w * h → blk k = decide (nI (sam k) ≤ lo)) : jI w h sam lo hi 0 (blk, que, qd) := by
  obtain ⟨H1, H2, H3⟩ := H
  refine ⟨by dsimp only; rw [H1]; exact (cntB_congr hb).symm, fun j hj => ?_, fun k hk hm => ?_, fun k hk hl => ?_, fun j b hj => absurd hj (by omega)⟩
  · dsimp only at hj ⊢
    have := H2 j hj
    exact ⟨this.1, by rw [hb _ this.1, decide_eq_true this.2]⟩
  · dsimp only at hm ⊢
    rw [hb k hk] at hm
    have hl := of_decide_eq_true hm
    exact ⟨Jn_s hk hl, H3 k hk hl⟩
  · dsimp only
    rw [hb k hk, decide_eq_true hl]
