-- THE REFERENCE'S SWEEPS: neighbours that are black, labels of parts
def tR (w h : Nat) (blk : Nat → Bool) (a b : Int32) : Nat → Bool → Bool
  | 0, v => v
  | n + 1, v => tR w h blk a b n v || bB w h blk (a + nI n) b
def tA (w h : Nat) (blk : Nat → Bool) (a b : Int32) : Nat → Bool → Bool
  | 0, v => v
  | n + 1, v => tR w h blk a (b + nI n) 3 (tA w h blk a b n v)
theorem tR_iff {w h : Nat} {blk : Nat → Bool} {a b : Int32} {v : Bool} : ∀ {n : Nat}, tR w h blk a b n v = true ↔ v = true ∨ ∃ s, s < n ∧ bB w h blk (a + nI s) b = true
  | 0 => by simp [tR]
  | n + 1 => by
    simp only [tR, Bool.or_eq_true, tR_iff (n := n)]
    constructor
    · rintro ((h1 | ⟨s, h2, h3⟩) | h1)
      · exact Or.inl h1
      · exact Or.inr ⟨s, by omega, h3⟩
      · exact Or.inr ⟨n, by omega, h1⟩
    · rintro (h1 | ⟨s, h2, h3⟩)
      · exact Or.inl (Or.inl h1)
      · by_cases e : s = n
        · subst e; exact Or.inr h3
        · exact Or.inl (Or.inr ⟨s, by omega, h3⟩)
theorem tA_iff {w h : Nat} {blk : Nat → Bool} {a b : Int32} {v : Bool} : ∀ {n : Nat}, tA w h blk a b n v = true ↔ v = true ∨ ∃ r, r < n ∧ ∃ s, s < 3 ∧ bB w h blk (a + nI s) (b + nI r) = true
  | 0 => by simp [tA]
  | n + 1 => by
    simp only [tA, tR_iff, tA_iff (n := n)]
    constructor
    · rintro ((h1 | ⟨r, h2, h3⟩) | ⟨s, h4, h5⟩)
      · exact Or.inl h1
      · exact Or.inr ⟨r, by omega, h3⟩
      · exact Or.inr ⟨n, by omega, s, h4, h5⟩
    · rintro (h1 | ⟨r, h2, s, h3, h4⟩)
      · exact Or.inl (Or.inl h1)
      · by_cases e : r = n
        · subst e; exact Or.inr ⟨s, h3, h4⟩
        · exact Or.inl (Or.inr ⟨r, by omega, s, h3, h4⟩)
def tB (w h : Nat) (blk : Nat → Bool) (i j : Nat) : Bool := tA w h blk (nI i - nI 1) (nI j - nI 1) 3 false
theorem tB_iff {w h : Nat} (g : q_g w h) {blk : Nat → Bool} {k : Nat} (hk : k < w * h) : tB w h blk (k % w) (k / w) = true ↔ ∃ b, adj8 w h k b ∧ blk b = true := by
  unfold tB
  rw [tA_iff]
  constructor
  · rintro (h1 | ⟨r, hr, s, hs, h1⟩)
    · cases h1
    · unfold bB at h1
      rw [Bool.and_eq_true] at h1
      exact ⟨_, ad8_of g hk hs hr h1.1, h1.2⟩
  · rintro ⟨b, ⟨h1, h2, h3, h4, h5, h6⟩, hb⟩
    have hw := g.2.1
    have hh := g.2.2.2
    have hm := Nat.mod_lt b (show w > 0 by have := g.1; omega)
    have hd : b / w < h := Nat.div_lt_of_lt_mul h2
    have e1 : nI (k % w) - nI 1 + nI (b % w + 1 - k % w) = nI (b % w) := co_i (by omega)
    have e2 : nI (k / w) - nI 1 + nI (b / w + 1 - k / w) = nI (b / w) := co_i (by omega)
    refine Or.inr ⟨b / w + 1 - k / w, by omega, b % w + 1 - k % w, by omega, ?_⟩
    rw [e1, e2]
    unfold bB
    rw [inI_n g hm hd, pI_n (by omega) (by omega), ix_self, hb]; rfl
theorem adj8_sym {w h a b : Nat} (q : adj8 w h a b) : adj8 w h b a := ⟨q.2.1, q.1, q.2.2.2.1, q.2.2.1, q.2.2.2.2.2, q.2.2.2.2.1⟩
def mI (w h : Nat) (sam : Nat → Nat) (lo hi : Int32) (cur : Nat → Bool) : Prop := (∀ k, k < w * h → cur k = true → Jn w h sam lo hi k) ∧ ∀ k, k < w * h → nI (sam k) ≤ lo → cur k = true
def mCl (w h : Nat) (sam : Nat → Nat) (hi : Int32) (cur : Nat → Bool) (k : Nat) : Prop := cur k = true ∨ ¬ nI (sam k) ≤ hi ∨ tB w h cur (k % w) (k / w) = false
theorem mI_end {w h : Nat} (g : q_g w h) {sam : Nat → Nat} {lo hi : Int32} {cur : Nat → Bool} (H : mI w h sam lo hi cur) (hc : ∀ k, k < w * h → mCl w h sam hi cur k) : jPost w h sam lo hi cur := by
  intro k hk
  refine ⟨H.1 k hk, fun z => ?_⟩
  have := z (fun k => k < w * h ∧ cur k = true) (fun a ha hl => ⟨ha, H.2 a ha hl⟩) (fun a b q r s => ⟨r.2.1, by
    rcases hc b r.2.1 with h1 | h1 | h1
    · exact h1
    · exact absurd s h1
    · have := (tB_iff g r.2.1).mpr ⟨a, adj8_sym r, q.2⟩
      rw [h1] at this; cases this⟩)
  exact this.2
theorem mI_up {w h : Nat} (g : q_g w h) {sam : Nat → Nat} {lo hi : Int32} {cur : Nat → Bool} (H : mI w h sam lo hi cur) {k : Nat} (hk : k < w * h) (h1 : nI (sam k) ≤ hi) (h2 : tB w h cur (k % w) (k / w) = true) : mI w h sam lo hi (va_up cur k true) := by
  obtain ⟨b, hb, hb2⟩ := (tB_iff g hk).mp h2
  refine ⟨fun j hj hm => ?_, fun j hj hl => ?_⟩
  · by_cases e : j = k
    · subst e; exact Jn_t (H.1 b hb.2.1 hb2) (adj8_sym hb) h1
    · rw [va_up_ne _ _ e] at hm; exact H.1 j hj hm
  · by_cases e : j = k
    · rw [e, va_up_self]
    · rw [va_up_ne _ _ e]; exact H.2 j hj hl
-- labels
def lsV (w h : Nat) (blk : Nat → Bool) (part : Nat → Int32) (col : Bool) (p a b : Int32) : Int32 := if inI w h a b = true ∧ blk (pI w a b) = col ∧ part (pI w a b) < p then part (pI w a b) else p
def lsN (w h : Nat) (blk : Nat → Bool) (lb : Nat → Nat) (col : Bool) (m : Nat) (a b : Int32) : Nat := if inI w h a b = true ∧ blk (pI w a b) = col ∧ lb (pI w a b) < m then lb (pI w a b) else m
def pF (w h : Nat) (blk : Nat → Bool) (col : Bool) (part : Nat → Int32) (lb : Nat → Nat) : Nat → Int32 := fun k => if k < w * h then (if blk k = col then nI (lb k) else -1) else part k
def vL (w h : Nat) (blk : Nat → Bool) (col : Bool) (lb : Nat → Nat) : Prop := ∀ k, k < w * h → blk k = col → lb k ≤ k ∧ Cn w h (fun j => blk j == col) k (lb k)
theorem pF_c {w h : Nat} {blk : Nat → Bool} {col : Bool} {part : Nat → Int32} {lb : Nat → Nat} {k : Nat} (hk : k < w * h) (hb : blk k = col) : pF w h blk col part lb k = nI (lb k) := by unfold pF; rw [if_pos hk, if_pos hb]
theorem pF_n {w h : Nat} {blk : Nat → Bool} {col : Bool} {part : Nat → Int32} {lb : Nat → Nat} {k : Nat} (hk : k < w * h) (hb : ¬ blk k = col) : pF w h blk col part lb k = -1 := by unfold pF; rw [if_pos hk, if_neg hb]
theorem pF_up {w h : Nat} {blk : Nat → Bool} {col : Bool} {part : Nat → Int32} {lb : Nat → Nat} {k m : Nat} (hk : k < w * h) (hb : blk k = col) : va_up (pF w h blk col part lb) k (nI m) = pF w h blk col part (va_up lb k m) := by
  funext j
  by_cases e : j = k
  · subst e; rw [va_up_self, pF_c hk hb, va_up_self]
  · rw [va_up_ne _ _ e]; unfold pF; rw [va_up_ne _ _ e]
theorem nI_m1 {m : Nat} (hm : m < 2 ^ 31) : ¬ nI m = -1 := by
  intro e
  have := congrArg Int32.toInt e
  rw [nI_toInt hm] at this
  have h2 : (-1 : Int32).toInt = -1 := by decide +kernel
  rw [h2] at this; omega
theorem ls_eq {w h : Nat} (g : q_g w h) {blk : Nat → Bool} {col : Bool} {part : Nat → Int32} {lb : Nat → Nat} {m : Nat} {a b : Int32} (hv : vL w h blk col lb) (hm : m < 2 ^ 31) : lsV w h blk (pF w h blk col part lb) col (nI m) a b = nI (lsN w h blk lb col m a b) := by
  unfold lsV lsN
  by_cases hin : inI w h a b = true
  · obtain ⟨i, j, hi, hj, rfl, rfl⟩ := inI_o g hin
    have hw := g.2.1
    have hh := g.2.2.2
    have hn := q_gn g
    have hp := pl_lt hi hj
    rw [pI_n (by omega) (by omega)]
    by_cases hb : blk (j * w + i) = col
    · have := (hv _ hp hb).1
      rw [pF_c hp hb]
      have hiff : nI (lb (j * w + i)) < nI m ↔ lb (j * w + i) < m := nI_ltI (by omega) hm
      by_cases hl : lb (j * w + i) < m
      · rw [if_pos ⟨hin, hb, hiff.mpr hl⟩, if_pos ⟨hin, hb, hl⟩]
      · rw [if_neg (fun q => hl (hiff.mp q.2.2)), if_neg (fun q => hl q.2.2)]
    · rw [if_neg (fun q => hb q.2.1), if_neg (fun q => hb q.2.1)]
  · rw [if_neg (fun q => hin q.1), if_neg (fun q => hin q.1)]
theorem lsN_le (w h : Nat) (blk : Nat → Bool) (lb : Nat → Nat) (col : Bool) (m : Nat) (a b : Int32) : lsN w h blk lb col m a b ≤ m := by unfold lsN; split <;> omega
theorem lsN_nb {w h : Nat} {blk : Nat → Bool} {lb : Nat → Nat} {col : Bool} {m : Nat} {a b : Int32} (h1 : inI w h a b = true) (h2 : blk (pI w a b) = col) : lsN w h blk lb col m a b ≤ lb (pI w a b) := by
  unfold lsN
  by_cases e : lb (pI w a b) < m
  · rw [if_pos ⟨h1, h2, e⟩]; exact Nat.le_refl _
  · rw [if_neg (fun q => e q.2.2)]; omega
def ls4 (w h : Nat) (blk : Nat → Bool) (lb : Nat → Nat) (col : Bool) (k : Nat) : Nat := lsN w h blk lb col (lsN w h blk lb col (lsN w h blk lb col (lsN w h blk lb col (lb k) (nI (k % w) - nI 1) (nI (k / w))) (nI (k % w + 1)) (nI (k / w))) (nI (k % w)) (nI (k / w) - nI 1)) (nI (k % w)) (nI (k / w + 1))
theorem ls4_le (w h : Nat) (blk : Nat → Bool) (lb : Nat → Nat) (col : Bool) (k : Nat) : ls4 w h blk lb col k ≤ lb k :=
  Nat.le_trans (lsN_le _ _ _ _ _ _ _ _) (Nat.le_trans (lsN_le _ _ _ _ _ _ _ _) (Nat.le_trans (lsN_le _ _ _ _ _ _ _ _) (lsN_le _ _ _ _ _ _ _ _)))
theorem ls4_nb {w h : Nat} (g : q_g w h) {blk : Nat → Bool} {lb : Nat → Nat} {col : Bool} {k b : Nat} (hab : adj4 w h k b) (hb : blk b = col) : ls4 w h blk lb col k ≤ lb b := by
  obtain ⟨u, v, h1, h2, h3⟩ := nb_i g hab
  have h4 : blk (pI w u v) = col := by rw [h2]; exact hb
  rw [← h2]
  unfold ls4
  rcases h3 with ⟨hu, hv⟩ | ⟨hu, hv⟩ | ⟨hu, hv⟩ | ⟨hu, hv⟩ <;> subst hu <;> subst hv
  · exact Nat.le_trans (lsN_le _ _ _ _ _ _ _ _) (Nat.le_trans (lsN_le _ _ _ _ _ _ _ _) (Nat.le_trans (lsN_le _ _ _ _ _ _ _ _) (lsN_nb h1 h4)))
  · exact Nat.le_trans (lsN_le _ _ _ _ _ _ _ _) (Nat.le_trans (lsN_le _ _ _ _ _ _ _ _) (lsN_nb h1 h4))
  · exact Nat.le_trans (lsN_le _ _ _ _ _ _ _ _) (lsN_nb h1 h4)
  · exact lsN_nb h1 h4
theorem lsN_v {w h : Nat} {blk : Nat → Bool} {lb : Nat → Nat} {col : Bool} {k m : Nat} {a b : Int32} (hv : vL w h blk col lb) (hk : k < w * h) (hbk : blk k = col) (hm : m ≤ k ∧ Cn w h (fun j => blk j == col) k m)
    (hab : inI w h a b = true → adj4 w h k (pI w a b)) : lsN w h blk lb col m a b ≤ k ∧ Cn w h (fun j => blk j == col) k (lsN w h blk lb col m a b) := by
  refine ⟨Nat.le_trans (lsN_le _ _ _ _ _ _ _ _) hm.1, ?_⟩
  unfold lsN
  by_cases e : inI w h a b = true ∧ blk (pI w a b) = col ∧ lb (pI w a b) < m
  · rw [if_pos e]
    have had := hab e.1
    have h1 : Cn w h (fun j => blk j == col) k (pI w a b) := Cn_st Cn_rf had (by simp [e.2.1])
    exact Cn_tr h1 (hv _ had.2.1 e.2.1).2
  · rw [if_neg e]; exact hm.2
theorem ls4_v {w h : Nat} (g : q_g w h) {blk : Nat → Bool} {lb : Nat → Nat} {col : Bool} {k : Nat} (hv : vL w h blk col lb) (hk : k < w * h) (hbk : blk k = col) : vL w h blk col (va_up lb k (ls4 w h blk lb col k)) := by
  have h4 : ls4 w h blk lb col k ≤ k ∧ Cn w h (fun j => blk j == col) k (ls4 w h blk lb col k) := by
    unfold ls4
    refine lsN_v hv hk hbk (lsN_v hv hk hbk (lsN_v hv hk hbk (lsN_v hv hk hbk (hv k hk hbk) ?_) ?_) ?_) ?_
    · exact fun q => nb_o g hk q (Or.inl ⟨rfl, rfl⟩)
    · exact fun q => nb_o g hk q (Or.inr (Or.inl ⟨rfl, rfl⟩))
    · exact fun q => nb_o g hk q (Or.inr (Or.inr (Or.inl ⟨rfl, rfl⟩)))
    · exact fun q => nb_o g hk q (Or.inr (Or.inr (Or.inr ⟨rfl, rfl⟩)))
  intro j hj hbj
  by_cases e : j = k
  · subst e; rw [va_up_self]; exact h4
  · rw [va_up_ne _ _ e]; exact hv j hj hbj
theorem sumN_up {f : Nat → Nat} {k m : Nat} : ∀ {n : Nat}, k < n → sumN (va_up f k m) n + f k = sumN f n + m
  | n + 1, hk => by
    by_cases e : k = n
    · subst e
      simp only [sumN]
      rw [va_up_self, sumN_congr (g := f) (fun j hj => va_up_ne _ _ (by omega))]; omega
    · have ih := sumN_up (f := f) (k := k) (m := m) (n := n) (by omega)
      simp only [sumN]
      rw [va_up_ne _ _ (show n ≠ k by omega)]; omega
theorem va_up_id {f : Nat → Nat} {k : Nat} : va_up f k (f k) = f := by
  funext j
  by_cases e : j = k
  · rw [e, va_up_self]
  · rw [va_up_ne _ _ e]
/-- labels that have settled -/
def fP (w h : Nat) (blk : Nat → Bool) (col : Bool) (lb : Nat → Nat) : Prop := vL w h blk col lb ∧ ∀ k b, blk k = col → blk b = col → adj4 w h k b → lb k = lb b
theorem fP_end {w h : Nat} {blk : Nat → Bool} {col : Bool} {lb : Nat → Nat} (hv : vL w h blk col lb) (hc : ∀ k, k < w * h → blk k = col → ∀ b, adj4 w h k b → blk b = col → lb k ≤ lb b) : fP w h blk col lb :=
  ⟨hv, fun k b h1 h2 h3 => Nat.le_antisymm (hc k h3.1 h1 b h3 h2) (hc b h3.2.1 h2 k (adj4_sym h3) h1)⟩
theorem fP_cn {w h : Nat} {blk : Nat → Bool} {col : Bool} {lb : Nat → Nat} (H : fP w h blk col lb) {k j : Nat} (hk : k < w * h) (hb : blk k = col) : Cn w h (fun j => blk j == col) k j ↔ (j < w * h ∧ blk j = col ∧ lb j = lb k) := by
  have hpk : (fun j => blk j == col) k = true := by simp [hb]
  constructor
  · intro hc
    refine hc (fun j => j < w * h ∧ blk j = col ∧ lb j = lb k) ⟨hk, hb, rfl⟩ (fun a b q r s => ?_)
    have hbb : blk b = col := by simpa using s
    exact ⟨r.2.1, hbb, by rw [← H.2 a b q.2.1 hbb r]; exact q.2.2⟩
  · rintro ⟨h1, h2, h3⟩
    have c1 := (H.1 k hk hb).2
    have c2 := (H.1 j h1 h2).2
    rw [h3] at c2
    exact Cn_tr c1 (Cn_sy (by simp [h2]) c2)
theorem fP_fst {w h : Nat} {blk : Nat → Bool} {lb : Nat → Nat} (H : fP w h blk true lb) {k : Nat} (hk : k < w * h) : (blk k = true ∧ lb k = k) ↔ fst_ w h blk k := by
  constructor
  · rintro ⟨h1, h2⟩
    refine ⟨h1, fun j hj hc => ?_⟩
    obtain ⟨z1, z2, z3⟩ := (fP_cn H hk h1).mp hc
    have := (H.1 j z1 z2).1
    omega
  · rintro ⟨h1, h2⟩
    refine ⟨h1, ?_⟩
    have := H.1 k hk h1
    rcases Nat.lt_or_ge (lb k) k with e | e
    · exact absurd this.2 (h2 _ e)
    · omega
/-- turning, label by label -/
def uI (w h : Nat) (blk : Nat → Bool) (col : Bool) (mo : Nat) (lb : Nat → Nat) (p : Nat) (cur : Nat → Bool) (tn : Nat) : Prop :=
  (∀ k, k < w * h → (Sp w h blk col mo k ∧ lb k < p → cur k = !col) ∧ (¬ (Sp w h blk col mo k ∧ lb k < p) → cur k = blk k)) ∧ tn = cntB (cB (fun k => Sp w h blk col mo k ∧ lb k < p)) (w * h)
def lC_ (blk : Nat → Bool) (col : Bool) (lb : Nat → Nat) (p : Nat) (k : Nat) : Bool := (blk k == col) && (lb k == p)
theorem lC_t {blk : Nat → Bool} {col : Bool} {lb : Nat → Nat} {p k : Nat} : lC_ blk col lb p k = true ↔ blk k = col ∧ lb k = p := by unfold lC_; rw [Bool.and_eq_true, beq_iff_eq, beq_iff_eq]
theorem uI_sp {w h : Nat} {blk : Nat → Bool} {col : Bool} {mo : Nat} {lb : Nat → Nat} (H : fP w h blk col lb) {k : Nat} (hk : k < w * h) (hb : blk k = col) :
    Sp w h blk col mo k ↔ cntB (lC_ blk col lb (lb k)) (w * h) ≤ mo ∧ (col = true ∨ anyB (fun j => lC_ blk col lb (lb k) j && eP w h j) (w * h) = false) := by
  have e1 : cntB (cB (Cn w h (fun j => blk j == col) k)) (w * h) = cntB (lC_ blk col lb (lb k)) (w * h) := by
    refine cntB_congr (fun j hj => ?_)
    cases e : lC_ blk col lb (lb k) j
    · refine cB_f.mpr (fun q => ?_)
      have := (fP_cn H hk hb).mp q
      rw [lC_t.mpr ⟨this.2.1, this.2.2⟩] at e; cases e
    · have := lC_t.mp e
      exact cB_t.mpr ((fP_cn H hk hb).mpr ⟨hj, this.1, this.2⟩)
  unfold Sp
  rw [e1]
  constructor
  · rintro ⟨_, h2, h3⟩
    refine ⟨h2, h3.imp id (fun q => ?_)⟩
    cases e : anyB (fun j => lC_ blk col lb (lb k) j && eP w h j) (w * h)
    · rfl
    · obtain ⟨j, hj, h5⟩ := anyB_iff.mp e
      rw [Bool.and_eq_true] at h5
      have := lC_t.mp h5.1
      rw [q j ((fP_cn H hk hb).mpr ⟨hj, this.1, this.2⟩)] at h5
      cases h5.2
  · rintro ⟨h2, h3⟩
    refine ⟨hb, h2, h3.imp id (fun q j hj => ?_)⟩
    obtain ⟨z1, z2, z3⟩ := (fP_cn H hk hb).mp hj
    cases e : eP w h j
    · rfl
    · have : anyB (fun j => lC_ blk col lb (lb k) j && eP w h j) (w * h) = true := anyB_iff.mpr ⟨j, z1, by rw [lC_t.mpr ⟨z2, z3⟩, e]; rfl⟩
      rw [q] at this; cases this
theorem uI_go {w h : Nat} {blk : Nat → Bool} {col : Bool} {mo : Nat} {lb : Nat → Nat} (H : fP w h blk col lb) {p : Nat} {cur : Nat → Bool} {tn : Nat} (U : uI w h blk col mo lb p cur tn) (h1 : 0 < cntB (lC_ blk col lb p) (w * h)) (h2 : cntB (lC_ blk col lb p) (w * h) ≤ mo) (h3 : col = true ∨ anyB (fun j => lC_ blk col lb p j && eP w h j) (w * h) = false)
    {cur2 : Nat → Bool} (hc : ∀ k, k < w * h → cur2 k = if lC_ blk col lb p k = true then !col else cur k) : uI w h blk col mo lb (p + 1) cur2 (tn + cntB (lC_ blk col lb p) (w * h)) := by
  have hsp : ∀ k, k < w * h → lC_ blk col lb p k = true → Sp w h blk col mo k := fun k hk hl => by
    obtain ⟨z1, z2⟩ := lC_t.mp hl
    exact (uI_sp H hk z1).mpr (by rw [z2]; exact ⟨h2, h3⟩)
  refine ⟨fun k hk => ?_, ?_⟩
  · rw [hc k hk]
    by_cases e : lC_ blk col lb p k = true
    · rw [if_pos e]
      have := lC_t.mp e
      exact ⟨fun _ => rfl, fun q => absurd ⟨hsp k hk e, by omega⟩ q⟩
    · rw [if_neg e]
      have hiff : (Sp w h blk col mo k ∧ lb k < p + 1) ↔ (Sp w h blk col mo k ∧ lb k < p) := ⟨fun q => ⟨q.1, by
        rcases Nat.lt_or_ge (lb k) p with z | z
        · exact z
        · exact absurd (lC_t.mpr ⟨q.1.1, by omega⟩) e⟩, fun q => ⟨q.1, by omega⟩⟩
      rw [hiff]; exact U.1 k hk
  · have e1 : cntB (cB (fun k => Sp w h blk col mo k ∧ lb k < p + 1)) (w * h) = cntB (fun k => cB (fun k => Sp w h blk col mo k ∧ lb k < p) k || lC_ blk col lb p k) (w * h) := by
      refine cntB_congr (fun k hk => ?_)
      cases e : (cB (fun k => Sp w h blk col mo k ∧ lb k < p) k || lC_ blk col lb p k)
      · rw [Bool.or_eq_false_iff] at e
        refine cB_f.mpr (fun q => ?_)
        rcases Nat.lt_or_ge (lb k) p with z | z
        · exact cB_f.mp e.1 ⟨q.1, z⟩
        · have := lC_t.mpr (show blk k = col ∧ lb k = p from ⟨q.1.1, by omega⟩)
          rw [e.2] at this; cases this
      · rw [Bool.or_eq_true] at e
        refine cB_t.mpr ?_
        rcases e with e | e
        · have := cB_t.mp e; exact ⟨this.1, by omega⟩
        · have := lC_t.mp e; exact ⟨hsp k hk e, by omega⟩
    rw [e1, cntB_or (fun k hk q => by
      have z := (cB_t.mp q).2
      cases e : lC_ blk col lb p k
      · rfl
      · have := (lC_t.mp e).2; omega), U.2]
theorem uI_no {w h : Nat} {blk : Nat → Bool} {col : Bool} {mo : Nat} {lb : Nat → Nat} (H : fP w h blk col lb) {p : Nat} {cur : Nat → Bool} {tn : Nat} (U : uI w h blk col mo lb p cur tn) (hn : ¬ (0 < cntB (lC_ blk col lb p) (w * h) ∧ cntB (lC_ blk col lb p) (w * h) ≤ mo ∧ (col = true ∨ anyB (fun j => lC_ blk col lb p j && eP w h j) (w * h) = false))) : uI w h blk col mo lb (p + 1) cur tn := by
  have hiff : ∀ k, k < w * h → ((Sp w h blk col mo k ∧ lb k < p + 1) ↔ (Sp w h blk col mo k ∧ lb k < p)) := fun k hk => ⟨fun q => ⟨q.1, by
    rcases Nat.lt_or_ge (lb k) p with z | z
    · exact z
    · have e : lb k = p := by omega
      have h5 := (uI_sp H hk q.1.1).mp q.1
      rw [e] at h5
      have h6 : 0 < cntB (lC_ blk col lb p) (w * h) := by
        rcases Nat.eq_zero_or_pos (cntB (lC_ blk col lb p) (w * h)) with z0 | z0
        · have h7 : lC_ blk col lb p k = true := lC_t.mpr ⟨q.1.1, e⟩
          have h8 := cntB_or (f := va_up (fun _ => false) k true) (g := fun j => lC_ blk col lb p j && !(va_up (fun _ => false) k true) j) (n := w * h) (fun j _ z => by rw [z]; simp)
          have h9 : cntB (fun j => va_up (fun _ => false) k true j || (lC_ blk col lb p j && !(va_up (fun _ => false) k true) j)) (w * h) = cntB (lC_ blk col lb p) (w * h) := cntB_congr (fun j _ => by
            by_cases ej : j = k
            · subst ej; rw [va_up_self, h7]; rfl
            · rw [va_up_ne _ _ ej]; simp)
          rw [h9, cntB_up rfl hk] at h8
          omega
        · exact z0
      exact absurd ⟨h6, h5⟩ hn⟩, fun q => ⟨q.1, by omega⟩⟩
  exact ⟨fun k hk => by rw [hiff k hk]; exact U.1 k hk, by rw [cB_congr hiff]; exact U.2⟩
theorem uI_0 {w h : Nat} {blk : Nat → Bool} {col : Bool} {mo : Nat} {lb : Nat → Nat} : uI w h blk col mo lb 0 blk 0 :=
  ⟨fun k hk => ⟨fun q => absurd q.2 (by omega), fun _ => rfl⟩, (cntB_0 (fun k hk => cB_f.mpr (fun q => absurd q.2 (by omega)))).symm⟩
theorem uI_end {w h : Nat} {blk : Nat → Bool} {col : Bool} {mo : Nat} {lb : Nat → Nat} (H : fP w h blk col lb) {cur : Nat → Bool} {tn : Nat} (U : uI w h blk col mo lb (w * h) cur tn) : tPost w h blk col mo cur ∧ tn = cntB (cB (Sp w h blk col mo)) (w * h) := by
  have hl : ∀ k, k < w * h → Sp w h blk col mo k → lb k < w * h := fun k hk q => by have := (H.1 k hk q.1).1; omega
  exact ⟨fun k hk => ⟨fun q => (U.1 k hk).1 ⟨q, hl k hk q⟩, fun q => (U.1 k hk).2 (fun z => q z.1)⟩, by rw [U.2]; exact cB_congr (fun k hk => ⟨fun q => q.1, fun q => ⟨q, hl k hk q⟩⟩)⟩
