-- SIXTH LEVEL of the class: sums of rectangles, windows, cells
theorem sumN_split (f : Nat → Nat) (a : Nat) : ∀ b : Nat, sumN f (a + b) = sumN f a + sumN (fun i => f (a + i)) b
  | 0 => rfl
  | b + 1 => by
    show sumN f (a + b) + f (a + b) = sumN f a + (sumN (fun i => f (a + i)) b + f (a + b))
    rw [sumN_split f a b]; omega
theorem sumN_add (f g : Nat → Nat) : ∀ n : Nat, sumN (fun k => f k + g k) n = sumN f n + sumN g n
  | 0 => rfl
  | n + 1 => by simp only [sumN]; rw [sumN_add f g n]; omega
theorem sumN_0 : ∀ n : Nat, sumN (fun _ => 0) n = 0
  | 0 => rfl
  | n + 1 => by simp only [sumN]; rw [sumN_0 n]
def PS (f : Nat → Nat) (w y x : Nat) : Nat := sumN (fun j => sumN (fun i => f (j * w + i)) x) y
def RS (f : Nat → Nat) (w l t r b : Nat) : Nat := sumN (fun j => sumN (fun i => f ((t + j) * w + (l + i))) (r - l)) (b - t)
theorem PS_y0 (f : Nat → Nat) (w x : Nat) : PS f w 0 x = 0 := rfl
theorem PS_x0 (f : Nat → Nat) (w y : Nat) : PS f w y 0 = 0 := sumN_0 y
theorem PS_s (f : Nat → Nat) (w y x : Nat) : PS f w (y + 1) x = PS f w y x + sumN (fun i => f (y * w + i)) x := rfl
theorem RS_eq {f : Nat → Nat} {w l t r b : Nat} (h1 : l ≤ r) (h2 : t ≤ b) : lN (PS f w b r) - lN (PS f w b l) - (lN (PS f w t r) - lN (PS f w t l)) = lN (RS f w l t r b) := by
  have hc : ∀ y, PS f w y r = PS f w y l + sumN (fun j => sumN (fun i => f (j * w + (l + i))) (r - l)) y := by
    intro y
    unfold PS
    rw [← sumN_add]
    refine sumN_congr (fun j _ => ?_)
    have := sumN_split (fun i => f (j * w + i)) l (r - l)
    rw [show l + (r - l) = r by omega] at this
    exact this
  have hd := sumN_split (fun j => sumN (fun i => f (j * w + (l + i))) (r - l)) t (b - t)
  rw [show t + (b - t) = b by omega] at hd
  rw [lN_sub (by rw [hc b]; omega), lN_sub (by rw [hc t]; omega), hc b, hc t, Nat.add_sub_cancel_left, Nat.add_sub_cancel_left, lN_sub (by omega), hd, Nat.add_sub_cancel_left]
  rfl
def SS (f : Nat → Nat) (w h : Nat) (s : Nat → Int64) : Prop := ∀ b, b ≤ h → ∀ a, a ≤ w → s (b * (w + 1) + a) = lN (PS f w b a)
def bS (w h : Nat) (s : Nat → Int64) : Prop := (∀ a, a ≤ w → s a = lN 0) ∧ ∀ b, b ≤ h → s (b * (w + 1)) = lN 0
theorem SS_b {f : Nat → Nat} {w h : Nat} {s : Nat → Int64} (H : SS f w h s) : bS w h s := by
  refine ⟨fun a ha => ?_, fun b hb => ?_⟩
  · have := H 0 (Nat.zero_le _) a ha
    rw [Nat.zero_mul, Nat.zero_add, PS_y0] at this; exact this
  · have := H b hb 0 (Nat.zero_le _)
    rw [Nat.add_zero, PS_x0] at this; exact this
def fS (f : Nat → Nat) (w h y x : Nat) (s : Nat → Int64) : Prop := (∀ b, b ≤ y → ∀ a, a ≤ w → s (b * (w + 1) + a) = lN (PS f w b a)) ∧ (∀ a, a ≤ x → y < h → s ((y + 1) * (w + 1) + a) = lN (PS f w (y + 1) a)) ∧ ∀ b, b ≤ h → s (b * (w + 1)) = lN 0
theorem fS_0 {f : Nat → Nat} {w h : Nat} {s : Nat → Int64} (H : bS w h s) : fS f w h 0 0 s := by
  refine ⟨fun b hb a ha => ?_, fun a ha hy => ?_, H.2⟩
  · rw [show b = 0 by omega, Nat.zero_mul, Nat.zero_add, PS_y0]; exact H.1 a ha
  · rw [show a = 0 by omega, Nat.add_zero, PS_x0]; exact H.2 1 hy
theorem fS_row {f : Nat → Nat} {w h y x : Nat} {s : Nat → Int64} (H : fS f w h y x s) (hx : w ≤ x) (hy : y < h) : fS f w h (y + 1) 0 s := by
  refine ⟨fun b hb a ha => ?_, fun a ha hy2 => ?_, H.2.2⟩
  · by_cases e : b = y + 1
    · subst e; exact H.2.1 a (by omega) hy
    · exact H.1 b (by omega) a ha
  · rw [show a = 0 by omega, Nat.add_zero, PS_x0]; exact H.2.2 _ (by omega)
theorem fS_st {f : Nat → Nat} {w h y x : Nat} {s : Nat → Int64} (H : fS f w h y x s) (hx : x < w) (hy : y < h) : fS f w h y (x + 1) (va_up s ((y + 1) * (w + 1) + (x + 1)) (lN (PS f w y (x + 1) + (sumN (fun i => f (y * w + i)) x + f (y * w + x))))) := by
  refine ⟨fun b hb a ha => ?_, fun a ha hy2 => ?_, fun b hb => ?_⟩
  · rw [va_up_ne _ _ ?_]; exact H.1 b hb a ha
    have : (b + 1) * (w + 1) ≤ (y + 1) * (w + 1) := Nat.mul_le_mul_right _ (by omega)
    rw [Nat.succ_mul] at this
    omega
  · by_cases e : a = x + 1
    · subst e; rw [va_up_self]; rfl
    · rw [va_up_ne _ _ (by omega)]; exact H.2.1 a (by omega) hy2
  · rw [va_up_ne _ _ ?_]; exact H.2.2 b hb
    intro e
    have h1 : ((y + 1) * (w + 1) + (x + 1)) % (w + 1) = x + 1 := ix_mod (by omega)
    rw [← e, Nat.mul_mod_left] at h1
    omega
theorem fS_end {f : Nat → Nat} {w h y x : Nat} {s : Nat → Int64} (H : fS f w h y x s) (hy : y = h) : SS f w h s := by subst hy; exact H.1
def sq (f : Nat → Nat) (k : Nat) : Nat := f k * f k

def sp_X0_fillSums : List q_V → List q_E → (Option q_V → List q_E → Prop) → Prop := fun as Wd K => ∃ (w : Nat) (h : Nat) (sam : Nat → Nat) (blk : Nat → Bool) (lost : Int64) (ogr : Nat → Nat) (came : Nat → Int32) (sums : Nat → Int64) (sqs : Nat → Int64) (mrk : Nat → Bool) (que : Nat → Nat) (qd : Nat), (q_g w h) ∧ (∀ k, k < w * h → sam k < 256) ∧ (bS w h sums) ∧ (bS w h sqs) ∧ as = [.inr (.inr (some 0))] ∧ Wd = (xw w h sam blk lost ogr came sums sqs mrk que qd) ∧ (∀ (s1 s2 : Nat → Int64), SS sam w h s1 → SS (sq sam) w h s2 → K none (xw w h sam blk lost ogr came (s1) (s2) mrk que qd))
set_option maxHeartbeats 4000000 in
set_option maxRecDepth 20000 in
theorem ct_X0_fillSums : q_Ct yX0_fillSums cX0_fillSums 11 none 1 22 sp_X0_fillSums := by
  refine q_met (by decide) ?_
  intro x as Wd K hs ok fn
  obtain ⟨w, h, sam, blk, lost, ogr, came, sums, sqs, mrk, que, qd, g, hs, hb1, hb2, rfl, rfl, hk⟩ := hs
  show q_W x 0 [some (.inr (.inr (some 0))), none, none, none, none, none, none, none, none, none, none] [] (xw w h sam blk lost ogr came sums sqs mrk que qd)
  have hw := g.2.1
  have hh := g.2.2.2
  have L : ∀ (dL y : Nat) (s1 s2 : Nat → Int64) (r1 r2 r3 r4 r5 r6 r8 r9 : Option q_V), dL = h - y → y ≤ h → fS sam w h y 0 s1 → fS (sq sam) w h y 0 s2 → q_nol r2 = true → q_nol r4 = true → q_nol r8 = true → q_W x 2 [some (.inr (.inr (some 0))), some (.inl (nI (y))), r1, r2, r3, r4, r5, r6, none, r8, r9] [] (xw w h sam blk lost ogr came (s1) (s2) mrk que qd) := by
    intro dL
    induction dL using Nat.strongRecOn with
    | _ dL ihL =>
      intro y s1 s2 r1 r2 r3 r4 r5 r6 r8 r9 hdL hiL H1 H2 hr2 hr4 hr8
      refine q_iload_n ok rfl dX0_fillSums_2 ?_
      refine q_aload_n ok rfl dX0_fillSums_3 ?_
      refine xg_height ok dX0_fillSums_4 ?_
      refine q_icmpN_ge 126 (by omega) (by omega) ok dX0_fillSums_7 (by decide) (fun h7 => ?_) (fun h7 => ?_)
      · exact q_vret ok fn dX0_fillSums_126 (hk _ _ (fS_end H1 (by omega)) (fS_end H2 (by omega)))
      · refine q_lconstv (lN 0) ok rfl dX0_fillSums_10 ?_
        refine q_lstore_2 ok rfl dX0_fillSums_11 ?_
        refine q_lconstv (lN 0) ok rfl dX0_fillSums_12 ?_
        refine q_lstore_4 ok rfl dX0_fillSums_13 ?_
        refine q_iconstv (nI 0) ok (by decide) dX0_fillSums_15 ?_
        refine q_istore_6 ok rfl dX0_fillSums_16 ?_
        have LI : ∀ (dLI x0 : Nat) (s1 s2 : Nat → Int64) (p1 p3 p4 : Option q_V), dLI = w - x0 → x0 ≤ w → fS sam w h y x0 s1 → fS (sq sam) w h y x0 s2 → q_nol p3 = true → q_W x 18 [some (.inr (.inr (some 0))), some (.inl (nI (y))), some (.inr (.inl (lN (sumN (fun i => sam (y * w + i)) x0)))), none, some (.inr (.inl (lN (sumN (fun i => sq sam (y * w + i)) x0)))), none, some (.inl (nI (x0))), p1, none, p3, p4] [] (xw w h sam blk lost ogr came (s1) (s2) mrk que qd) := by
          intro dLI
          induction dLI using Nat.strongRecOn with
          | _ dLI ihLI =>
            intro x0 s1 s2 p1 p3 p4 hdLI hiLI H1 H2 hp3
            refine q_iload ok rfl dX0_fillSums_18 ?_
            refine q_aload_n ok rfl dX0_fillSums_20 ?_
            refine xg_width ok dX0_fillSums_21 ?_
            refine q_icmpN_ge 120 (by omega) (by omega) ok dX0_fillSums_24 (by decide) (fun h24 => ?_) (fun h24 => ?_)
            · refine q_iincN_1 1 ok rfl (by decide) dX0_fillSums_120 ?_
              refine q_goto 2 ok dX0_fillSums_123 (by decide) ?_
              exact ihL _ (by omega) (y + 1) _ _ _ _ _ _ _ _ _ _ rfl (by omega) (fS_row H1 (by omega) (by omega)) (fS_row H2 (by omega) (by omega)) rfl rfl hp3
            · refine q_aload_n ok rfl dX0_fillSums_27 ?_
              refine xg_samples ok dX0_fillSums_28 ?_
              refine q_aload_n ok rfl dX0_fillSums_31 ?_
              refine q_iload ok rfl dX0_fillSums_32 ?_
              refine q_iload_n ok rfl dX0_fillSums_34 ?_
              refine kX0_placeOf (by decide) (Nat.le_of_ble_eq_true rfl) ok dX0_fillSums_35 ?_
              refine xl_sam g (pl_lt (by omega) (by omega)) ok dX0_fillSums_38 ?_
              refine q_i2lN (by have := hs _ (pl_lt (show x0 < w by omega) (show y < h by omega)); omega) ok dX0_fillSums_39 ?_
              refine q_lstore_7 ok rfl dX0_fillSums_40 ?_
              refine q_lload_n ok rfl dX0_fillSums_42 ?_
              refine q_lload ok rfl dX0_fillSums_43 ?_
              refine q_laddN ok dX0_fillSums_45 ?_
              refine q_lstore_2 ok rfl dX0_fillSums_46 ?_
              refine q_lload ok rfl dX0_fillSums_47 ?_
              refine q_lload ok rfl dX0_fillSums_49 ?_
              refine q_lload ok rfl dX0_fillSums_51 ?_
              refine q_lmulN ok dX0_fillSums_53 ?_
              refine q_laddN ok dX0_fillSums_54 ?_
              refine q_lstore_4 ok rfl dX0_fillSums_55 ?_
              refine q_aload_n ok rfl dX0_fillSums_57 ?_
              refine q_iload ok rfl dX0_fillSums_58 ?_
              refine q_iconstv (nI 1) ok (by decide) dX0_fillSums_60 ?_
              refine q_iaddN ok dX0_fillSums_61 ?_
              refine q_iload_n ok rfl dX0_fillSums_62 ?_
              refine kX0_cornerOf (by decide) (Nat.le_of_ble_eq_true rfl) ok dX0_fillSums_63 ?_
              refine q_istore_9 ok rfl dX0_fillSums_66 ?_
              refine q_aload_n ok rfl dX0_fillSums_68 ?_
              refine q_iload ok rfl dX0_fillSums_69 ?_
              refine q_iconstv (nI 1) ok (by decide) dX0_fillSums_71 ?_
              refine q_iaddN ok dX0_fillSums_72 ?_
              refine q_iload_n ok rfl dX0_fillSums_73 ?_
              refine q_iconstv (nI 1) ok (by decide) dX0_fillSums_74 ?_
              refine q_iaddN ok dX0_fillSums_75 ?_
              refine kX0_cornerOf (by decide) (Nat.le_of_ble_eq_true rfl) ok dX0_fillSums_76 ?_
              refine q_istore_10 ok rfl dX0_fillSums_79 ?_
              refine q_aload_n ok rfl dX0_fillSums_81 ?_
              refine xg_sums ok dX0_fillSums_82 ?_
              refine q_iload ok rfl dX0_fillSums_85 ?_
              refine q_aload_n ok rfl dX0_fillSums_87 ?_
              refine xg_sums ok dX0_fillSums_88 ?_
              refine q_iload ok rfl dX0_fillSums_91 ?_
              refine xl_sums g (pc_lt (by omega) (by omega)) ok dX0_fillSums_93 ?_
              rw [H1.1 y (Nat.le_refl y) (x0 + 1) (by omega)]
              refine q_lload_n ok rfl dX0_fillSums_94 ?_
              refine q_laddN ok dX0_fillSums_95 ?_
              refine xs_sums g (pc_lt (by omega) (by omega)) ok dX0_fillSums_96 ?_
              refine q_aload_n ok rfl dX0_fillSums_97 ?_
              refine xg_squareSums ok dX0_fillSums_98 ?_
              refine q_iload ok rfl dX0_fillSums_101 ?_
              refine q_aload_n ok rfl dX0_fillSums_103 ?_
              refine xg_squareSums ok dX0_fillSums_104 ?_
              refine q_iload ok rfl dX0_fillSums_107 ?_
              refine xl_sqs g (pc_lt (by omega) (by omega)) ok dX0_fillSums_109 ?_
              rw [H2.1 y (Nat.le_refl y) (x0 + 1) (by omega)]
              refine q_lload ok rfl dX0_fillSums_110 ?_
              refine q_laddN ok dX0_fillSums_112 ?_
              refine xs_sqs g (pc_lt (by omega) (by omega)) ok dX0_fillSums_113 ?_
              refine q_iincN_6 1 ok rfl (by decide) dX0_fillSums_114 ?_
              refine q_goto 18 ok dX0_fillSums_117 (by decide) ?_
              exact ihLI _ (by omega) (x0 + 1) _ _ _ _ _ rfl (by omega) (fS_st H1 (by omega) (by omega)) (fS_st (f := sq sam) H2 (by omega) (by omega)) rfl
        exact LI _ 0 s1 s2 _ _ _ rfl (Nat.zero_le _) H1 H2 hr8
  refine q_iconstv (nI 0) ok (by decide) dX0_fillSums_0 ?_
  refine q_istore_1 ok rfl dX0_fillSums_1 ?_
  exact L _ 0 _ _ none none none none none none none none rfl (Nat.zero_le _) (fS_0 hb1) (fS_0 hb2) rfl rfl rfl
theorem kX0_fillSums {x : q_X} {cc : ByteArray} {fr lo pc : Nat} {lv : List (Option q_V)} {st : List q_V} {w : Nat} {h : Nat} {sam : Nat → Nat} {blk : Nat → Bool} {lost : Int64} {ogr : Nat → Nat} {came : Nat → Int32} {sums : Nat → Int64} {sqs : Nat → Int64} {mrk : Nat → Bool} {que : Nat → Nat} {qd : Nat} (g : q_g w h) (hs : ∀ k, k < w * h → sam k < 256) (hb1 : bS w h sums) (hb2 : bS w h sqs) (hR : 1 + 1 ≤ fr ∧ 8 + (11 + 11) + 22 ≤ lo) (hst : (st.map (fun v => if q_nol (some v) then 1 else 2)).sum ≤ 8) (ok : q_ok x cc RX0 fr lo) (hd : decode cc pc = .ok (.invokevirtual 83, 3)) (kk : ∀ (s1 s2 : Nat → Int64), SS sam w h s1 → SS (sq sam) w h s2 → q_W x (pc + 3) lv (st) (xw w h sam blk lost ogr came (s1) (s2) mrk que qd)) : q_W x pc lv (.inr (.inr (some 0)) :: st) (xw w h sam blk lost ogr came sums sqs mrk que qd) :=
  q_callV [] ct_X0_fillSums lkX0_X0_fillSums dc_X0_fillSums rfl ok rfl hR hst (Nat.le_of_ble_eq_true rfl) hd ⟨w, h, sam, blk, lost, ogr, came, sums, sqs, mrk, que, qd, g, hs, hb1, hb2, rfl, rfl, kk⟩
theorem mx0 {a r : Nat} (ha : a < 2 ^ 30) (hr : r < 2 ^ 30) : (if nI 0 < nI a - nI r then nI a - nI r else nI 0) = nI (a - r) := by
  have e : (nI a - nI r).toInt = (a : Int) - r := pk_sub_toInt ha hr
  by_cases h : r < a
  · rw [if_pos (by rw [Int32.lt_iff_toInt_lt, e, nI_toInt (by decide)]; omega), pk_sub (by omega)]
  · rw [if_neg (by rw [Int32.lt_iff_toInt_lt, e, nI_toInt (by decide)]; omega), show a - r = 0 by omega]
theorem mn0 {a b : Nat} (ha : a < 2 ^ 31) (hb : b < 2 ^ 31) : (if nI b < nI a then nI b else nI a) = nI (min b a) := by
  by_cases h : b < a
  · rw [if_pos ((nI_ltI hb ha).mpr h), show min b a = b by omega]
  · rw [if_neg (mt (nI_ltI hb ha).mp h), show min b a = a by omega]
def dN (w h i j r : Nat) : Nat := (min (i + r + 1) w - (i - r)) * (min (j + r + 1) h - (j - r))
def dS (f : Nat → Nat) (w h i j r : Nat) : Nat := RS f w (i - r) (j - r) (min (i + r + 1) w) (min (j + r + 1) h)
def dV (sam : Nat → Nat) (w h i j r : Nat) : Int64 := lN (dN w h i j r * dS (sq sam) w h i j r) - lN (dS sam w h i j r * dS sam w h i j r)
def dD (sam : Nat → Nat) (w h i j r : Nat) : Int64 := lN (dS sam w h i j r) - lN (dN w h i j r * sam (j * w + i))
def drk (sam : Nat → Nat) (w h i j r : Nat) (sh : Int32) : Bool := if lg_cmp (dV sam w h i j r) (lN 0) = 0 then decide (sam (j * w + i) < 128) else decide (lN 0 ≤ dD sam w h i j r ∧ sh.toInt64 * sh.toInt64 * dV sam w h i j r ≤ 256 * dD sam w h i j r * dD sam w h i j r)

def sp_X0_isDarkInWindow : List q_V → List q_E → (Option q_V → List q_E → Prop) → Prop := fun as Wd K => ∃ (w : Nat) (h : Nat) (sam : Nat → Nat) (blk : Nat → Bool) (lost : Int64) (ogr : Nat → Nat) (came : Nat → Int32) (sums : Nat → Int64) (sqs : Nat → Int64) (mrk : Nat → Bool) (que : Nat → Nat) (qd : Nat) (i : Nat) (j : Nat) (r : Nat) (sh : Int32), (q_g w h) ∧ (∀ k, k < w * h → sam k < 256) ∧ (i < w) ∧ (j < h) ∧ (r ≤ 15) ∧ (SS sam w h sums) ∧ (SS (sq sam) w h sqs) ∧ as = [.inr (.inr (some 0)), .inl (nI i), .inl (nI j), .inl (nI r), .inl sh] ∧ Wd = (xw w h sam blk lost ogr came sums sqs mrk que qd) ∧ (K (some (.inl (bI (drk sam w h i j r sh)))) (xw w h sam blk lost ogr came sums sqs mrk que qd))
set_option maxHeartbeats 4000000 in
set_option maxRecDepth 20000 in
theorem ct_X0_isDarkInWindow : q_Ct yX0_isDarkInWindow cX0_isDarkInWindow 20 (some .boolean) 2 51 sp_X0_isDarkInWindow := by
  refine q_met (by decide) ?_
  intro x as Wd K hs ok fn
  obtain ⟨w, h, sam, blk, lost, ogr, came, sums, sqs, mrk, que, qd, i, j, r, sh, g, hs, hi, hj, hr, hS1, hS2, rfl, rfl, hk⟩ := hs
  show q_W x 0 [some (.inr (.inr (some 0))), some (.inl (nI i)), some (.inl (nI j)), some (.inl (nI r)), some (.inl sh), none, none, none, none, none, none, none, none, none, none, none, none, none, none, none] [] (xw w h sam blk lost ogr came sums sqs mrk que qd)
  have hw := g.2.1
  have hh := g.2.2.2
  have hlt := pl_lt hi hj
  have hsk := hs _ hlt
  have hdn : dN w h i j r ≤ 16 * 16 := Nat.mul_le_mul (by omega) (by omega)
  refine q_iconstv (nI 0) ok (by decide) dX0_isDarkInWindow_0 ?_
  refine q_iload_n ok rfl dX0_isDarkInWindow_1 ?_
  refine q_iload_n ok rfl dX0_isDarkInWindow_2 ?_
  refine q_isub ok dX0_isDarkInWindow_3 ?_
  refine q_mmax lkX0_max (by decide) (Nat.le_of_ble_eq_true rfl) ok dX0_isDarkInWindow_4 ?_
  rw [mx0 (by omega) (by omega)]
  refine q_istore_5 ok rfl dX0_isDarkInWindow_7 ?_
  refine q_iconstv (nI 0) ok (by decide) dX0_isDarkInWindow_9 ?_
  refine q_iload_n ok rfl dX0_isDarkInWindow_10 ?_
  refine q_iload_n ok rfl dX0_isDarkInWindow_11 ?_
  refine q_isub ok dX0_isDarkInWindow_12 ?_
  refine q_mmax lkX0_max (by decide) (Nat.le_of_ble_eq_true rfl) ok dX0_isDarkInWindow_13 ?_
  rw [mx0 (by omega) (by omega)]
  refine q_istore_6 ok rfl dX0_isDarkInWindow_16 ?_
  refine q_aload_n ok rfl dX0_isDarkInWindow_18 ?_
  refine xg_width ok dX0_isDarkInWindow_19 ?_
  refine q_iload_n ok rfl dX0_isDarkInWindow_22 ?_
  refine q_iload_n ok rfl dX0_isDarkInWindow_23 ?_
  refine q_iaddN ok dX0_isDarkInWindow_24 ?_
  refine q_iconstv (nI 1) ok (by decide) dX0_isDarkInWindow_25 ?_
  refine q_iaddN ok dX0_isDarkInWindow_26 ?_
  refine q_mmin lkX0_min (by decide) (Nat.le_of_ble_eq_true rfl) ok dX0_isDarkInWindow_27 ?_
  rw [mn0 (by omega) (by omega)]
  refine q_istore_7 ok rfl dX0_isDarkInWindow_30 ?_
  refine q_aload_n ok rfl dX0_isDarkInWindow_32 ?_
  refine xg_height ok dX0_isDarkInWindow_33 ?_
  refine q_iload_n ok rfl dX0_isDarkInWindow_36 ?_
  refine q_iload_n ok rfl dX0_isDarkInWindow_37 ?_
  refine q_iaddN ok dX0_isDarkInWindow_38 ?_
  refine q_iconstv (nI 1) ok (by decide) dX0_isDarkInWindow_39 ?_
  refine q_iaddN ok dX0_isDarkInWindow_40 ?_
  refine q_mmin lkX0_min (by decide) (Nat.le_of_ble_eq_true rfl) ok dX0_isDarkInWindow_41 ?_
  rw [mn0 (by omega) (by omega)]
  refine q_istore_8 ok rfl dX0_isDarkInWindow_44 ?_
  refine q_iload ok rfl dX0_isDarkInWindow_46 ?_
  refine q_iload ok rfl dX0_isDarkInWindow_48 ?_
  refine q_isubN (by omega) ok dX0_isDarkInWindow_50 ?_
  refine q_i2lN (by omega) ok dX0_isDarkInWindow_51 ?_
  refine q_iload ok rfl dX0_isDarkInWindow_52 ?_
  refine q_iload ok rfl dX0_isDarkInWindow_54 ?_
  refine q_isubN (by omega) ok dX0_isDarkInWindow_56 ?_
  refine q_i2lN (by omega) ok dX0_isDarkInWindow_57 ?_
  refine q_lmulN ok dX0_isDarkInWindow_58 ?_
  rw [show (min (i + r + 1) w - (i - r)) * (min (j + r + 1) h - (j - r)) = dN w h i j r from rfl]
  refine q_lstore_9 ok rfl dX0_isDarkInWindow_59 ?_
  refine q_aload_n ok rfl dX0_isDarkInWindow_61 ?_
  refine q_aload_n ok rfl dX0_isDarkInWindow_62 ?_
  refine xg_sums ok dX0_isDarkInWindow_63 ?_
  refine q_iload ok rfl dX0_isDarkInWindow_66 ?_
  refine q_iload ok rfl dX0_isDarkInWindow_68 ?_
  refine q_iload ok rfl dX0_isDarkInWindow_70 ?_
  refine q_iload ok rfl dX0_isDarkInWindow_72 ?_
  refine kX0_sumBetween_5 g (by omega) (by omega) (by omega) (by omega) (by decide) (Nat.le_of_ble_eq_true rfl) ok dX0_isDarkInWindow_74 ?_
  rw [hS1 _ (by omega) _ (by omega), hS1 _ (by omega) _ (by omega), hS1 _ (by omega) _ (by omega), hS1 _ (by omega) _ (by omega), RS_eq (by omega) (by omega), show RS sam w (i - r) (j - r) (min (i + r + 1) w) (min (j + r + 1) h) = dS sam w h i j r from rfl]
  refine q_lstore_11 ok rfl dX0_isDarkInWindow_77 ?_
  refine q_aload_n ok rfl dX0_isDarkInWindow_79 ?_
  refine q_aload_n ok rfl dX0_isDarkInWindow_80 ?_
  refine xg_squareSums ok dX0_isDarkInWindow_81 ?_
  refine q_iload ok rfl dX0_isDarkInWindow_84 ?_
  refine q_iload ok rfl dX0_isDarkInWindow_86 ?_
  refine q_iload ok rfl dX0_isDarkInWindow_88 ?_
  refine q_iload ok rfl dX0_isDarkInWindow_90 ?_
  refine kX0_sumBetween_6 g (by omega) (by omega) (by omega) (by omega) (by decide) (Nat.le_of_ble_eq_true rfl) ok dX0_isDarkInWindow_92 ?_
  rw [hS2 _ (by omega) _ (by omega), hS2 _ (by omega) _ (by omega), hS2 _ (by omega) _ (by omega), hS2 _ (by omega) _ (by omega), RS_eq (by omega) (by omega), show RS (sq sam) w (i - r) (j - r) (min (i + r + 1) w) (min (j + r + 1) h) = dS (sq sam) w h i j r from rfl]
  refine q_lstore_13 ok rfl dX0_isDarkInWindow_95 ?_
  refine q_lload ok rfl dX0_isDarkInWindow_97 ?_
  refine q_lload ok rfl dX0_isDarkInWindow_99 ?_
  refine q_lmulN ok dX0_isDarkInWindow_101 ?_
  refine q_lload ok rfl dX0_isDarkInWindow_102 ?_
  refine q_lload ok rfl dX0_isDarkInWindow_104 ?_
  refine q_lmulN ok dX0_isDarkInWindow_106 ?_
  refine q_lsub ok dX0_isDarkInWindow_107 ?_
  refine q_lstore_15 ok rfl dX0_isDarkInWindow_108 ?_
  refine q_aload_n ok rfl dX0_isDarkInWindow_110 ?_
  refine xg_samples ok dX0_isDarkInWindow_111 ?_
  refine q_aload_n ok rfl dX0_isDarkInWindow_114 ?_
  refine q_iload_n ok rfl dX0_isDarkInWindow_115 ?_
  refine q_iload_n ok rfl dX0_isDarkInWindow_116 ?_
  refine kX0_placeOf (by decide) (Nat.le_of_ble_eq_true rfl) ok dX0_isDarkInWindow_117 ?_
  refine xl_sam g (by omega) ok dX0_isDarkInWindow_120 ?_
  refine q_istore_17 ok rfl dX0_isDarkInWindow_121 ?_
  refine q_lload ok rfl dX0_isDarkInWindow_123 ?_
  refine q_lconstv (lN 0) ok rfl dX0_isDarkInWindow_125 ?_
  refine q_lcmp ok dX0_isDarkInWindow_126 ?_
  refine q_if_ne 144 ok dX0_isDarkInWindow_127 (by decide) (fun h127 => ?_) (fun h127 => ?_)
  · refine q_lload ok rfl dX0_isDarkInWindow_144 ?_
    refine q_lload ok rfl dX0_isDarkInWindow_146 ?_
    refine q_iload ok rfl dX0_isDarkInWindow_148 ?_
    refine q_i2lN (by omega) ok dX0_isDarkInWindow_150 ?_
    refine q_lmulN ok dX0_isDarkInWindow_151 ?_
    refine q_lsub ok dX0_isDarkInWindow_152 ?_
    refine q_lstore_18 ok rfl dX0_isDarkInWindow_153 ?_
    refine q_lload ok rfl dX0_isDarkInWindow_155 ?_
    refine q_lconstv (lN 0) ok rfl dX0_isDarkInWindow_157 ?_
    refine q_lcmp ok dX0_isDarkInWindow_158 ?_
    refine q_if_lt 189 ok dX0_isDarkInWindow_159 (by decide) (fun h159 => ?_) (fun h159 => ?_)
    · refine q_iconstv (nI 0) ok (by decide) dX0_isDarkInWindow_189 ?_
      exact q_zret ok fn dX0_isDarkInWindow_190 (by decide) (by have ee : drk sam w h i j r sh = false := (if_neg h127).trans (decide_eq_false (fun q => absurd q.1 (Int64.not_le.mpr ((lg_cmp_lt _ _).mp h159)))); rw [ee] at hk; exact hk)
    · refine q_ldc2 256 ok (by decide +kernel) dX0_isDarkInWindow_162 ?_
      refine q_lload ok rfl dX0_isDarkInWindow_165 ?_
      refine q_lmul ok dX0_isDarkInWindow_167 ?_
      refine q_lload ok rfl dX0_isDarkInWindow_168 ?_
      refine q_lmul ok dX0_isDarkInWindow_170 ?_
      refine q_iload ok rfl dX0_isDarkInWindow_171 ?_
      refine q_i2l ok dX0_isDarkInWindow_173 ?_
      refine q_iload ok rfl dX0_isDarkInWindow_174 ?_
      refine q_i2l ok dX0_isDarkInWindow_176 ?_
      refine q_lmul ok dX0_isDarkInWindow_177 ?_
      refine q_lload ok rfl dX0_isDarkInWindow_178 ?_
      refine q_lmul ok dX0_isDarkInWindow_180 ?_
      refine q_lcmp ok dX0_isDarkInWindow_181 ?_
      refine q_if_lt 189 ok dX0_isDarkInWindow_182 (by decide) (fun h182 => ?_) (fun h182 => ?_)
      · refine q_iconstv (nI 0) ok (by decide) dX0_isDarkInWindow_189 ?_
        exact q_zret ok fn dX0_isDarkInWindow_190 (by decide) (by have ee : drk sam w h i j r sh = false := (if_neg h127).trans (decide_eq_false (fun q => absurd q.2 (Int64.not_le.mpr ((lg_cmp_lt _ _).mp h182)))); rw [ee] at hk; exact hk)
      · refine q_iconstv (nI 1) ok (by decide) dX0_isDarkInWindow_185 ?_
        refine q_goto 190 ok dX0_isDarkInWindow_186 (by decide) ?_
        exact q_zret ok fn dX0_isDarkInWindow_190 (by decide) (by have ee : drk sam w h i j r sh = true := (if_neg h127).trans (decide_eq_true ⟨Int64.not_lt.mp (mt (lg_cmp_lt _ _).mpr h159), Int64.not_lt.mp (mt (lg_cmp_lt _ _).mpr h182)⟩); rw [ee] at hk; exact hk)
  · refine q_iload ok rfl dX0_isDarkInWindow_130 ?_
    refine q_sipushv (nI 128) ok (by decide) dX0_isDarkInWindow_132 ?_
    refine q_icmpN_ge 142 (by omega) (by omega) ok dX0_isDarkInWindow_135 (by decide) (fun h135 => ?_) (fun h135 => ?_)
    · refine q_iconstv (nI 0) ok (by decide) dX0_isDarkInWindow_142 ?_
      exact q_zret ok fn dX0_isDarkInWindow_143 (by decide) (by have ee : drk sam w h i j r sh = false := (if_pos h127).trans (decide_eq_false (by omega)); rw [ee] at hk; exact hk)
    · refine q_iconstv (nI 1) ok (by decide) dX0_isDarkInWindow_138 ?_
      refine q_goto 143 ok dX0_isDarkInWindow_139 (by decide) ?_
      exact q_zret ok fn dX0_isDarkInWindow_143 (by decide) (by have ee : drk sam w h i j r sh = true := (if_pos h127).trans (decide_eq_true (by omega)); rw [ee] at hk; exact hk)
theorem kX0_isDarkInWindow {x : q_X} {cc : ByteArray} {fr lo pc : Nat} {lv : List (Option q_V)} {st : List q_V} {w : Nat} {h : Nat} {sam : Nat → Nat} {blk : Nat → Bool} {lost : Int64} {ogr : Nat → Nat} {came : Nat → Int32} {sums : Nat → Int64} {sqs : Nat → Int64} {mrk : Nat → Bool} {que : Nat → Nat} {qd : Nat} {i : Nat} {j : Nat} {r : Nat} {sh : Int32} (g : q_g w h) (hs : ∀ k, k < w * h → sam k < 256) (hi : i < w) (hj : j < h) (hr : r ≤ 15) (hS1 : SS sam w h sums) (hS2 : SS (sq sam) w h sqs) (hR : 2 + 1 ≤ fr ∧ 8 + (20 + 11) + 51 ≤ lo) (hst : (st.map (fun v => if q_nol (some v) then 1 else 2)).sum ≤ 8) (ok : q_ok x cc RX0 fr lo) (hd : decode cc pc = .ok (.invokevirtual 86, 3)) (kk : q_W x (pc + 3) lv ((.inl (bI (drk sam w h i j r sh))) :: st) (xw w h sam blk lost ogr came sums sqs mrk que qd)) : q_W x pc lv (.inl sh :: .inl (nI r) :: .inl (nI j) :: .inl (nI i) :: .inr (.inr (some 0)) :: st) (xw w h sam blk lost ogr came sums sqs mrk que qd) :=
  q_callV [.inl (nI i), .inl (nI j), .inl (nI r), .inl sh] ct_X0_isDarkInWindow lkX0_X0_isDarkInWindow dc_X0_isDarkInWindow rfl ok rfl hR hst (Nat.le_of_ble_eq_true rfl) hd ⟨w, h, sam, blk, lost, ogr, came, sums, sqs, mrk, que, qd, i, j, r, sh, g, hs, hi, hj, hr, hS1, hS2, rfl, rfl, kk⟩
def qn (r l : Bool) : Nat := if l = true then (if r = true then 1 else 3) else if r = true then 2 else 0
def cN (x y : Nat) : Nat → Nat
  | 0 => 0
  | k + 1 => 4 * cN x y k + qn (decide (x / 2 ^ k % 2 = 1)) (decide (y / 2 ^ k % 2 = 1))
def isC (c : Int32) : Bool := decide (c = nI 1 ∨ c = nI 2 ∨ c = nI 4 ∨ c = nI 8)
theorem isC_o {c : Int32} (h : isC c = true) : ∃ K : Nat, K ≤ 3 ∧ c = nI (2 ^ K) := by
  rcases of_decide_eq_true h with h | h | h | h
  · exact ⟨0, by omega, h⟩
  · exact ⟨1, by omega, h⟩
  · exact ⟨2, by omega, h⟩
  · exact ⟨3, by omega, h⟩
theorem and_bit {x k : Nat} (hx : x < 2 ^ 31) (hk : k ≤ 2) : nI x &&& nI (2 ^ k) = 0 ↔ ¬ x / 2 ^ k % 2 = 1 := by
  have h1 : nI x &&& nI (2 ^ k) = nI (x &&& 2 ^ k) := by
    rw [← Int32.toBitVec_inj, Int32.toBitVec_and]
    apply BitVec.eq_of_toNat_eq
    have hp : 2 ^ k ≤ 4 := by rcases (show k = 0 ∨ k = 1 ∨ k = 2 by omega) with rfl | rfl | rfl <;> decide
    have ha : x &&& 2 ^ k ≤ 2 ^ k := Nat.and_le_right
    rw [BitVec.toNat_and, pk_tn (by omega), pk_tn (by omega), pk_tn (by omega)]
  rw [h1]
  have hp : 2 ^ k ≤ 4 := by rcases (show k = 0 ∨ k = 1 ∨ k = 2 by omega) with rfl | rfl | rfl <;> decide
  have ha : x &&& 2 ^ k ≤ 2 ^ k := Nat.and_le_right
  rw [nI_z (by omega)]
  have h2 : Nat.testBit x k = decide (x / 2 ^ k % 2 = 1) := Nat.testBit_eq_decide_div_mod_eq
  constructor
  · intro h3 h4
    have h5 : Nat.testBit (x &&& 2 ^ k) k = true := by rw [Nat.testBit_and, h2, decide_eq_true h4, Nat.testBit_two_pow]; simp
    rw [h3, Nat.zero_testBit] at h5
    cases h5
  · intro h3
    refine Nat.eq_of_testBit_eq (fun m => ?_)
    rw [Nat.testBit_and, Nat.testBit_two_pow, Nat.zero_testBit]
    by_cases e : k = m
    · subst e; rw [h2, decide_eq_false h3]; rfl
    · rw [decide_eq_false e]; simp
theorem p2le {k : Nat} (hk : k ≤ 3) : 1 ≤ 2 ^ k ∧ 2 ^ k ≤ 8 := by rcases (show k = 0 ∨ k = 1 ∨ k = 2 ∨ k = 3 by omega) with rfl | rfl | rfl | rfl <;> decide
theorem cN_lt {x y : Nat} : ∀ {k : Nat}, cN x y k < 4 ^ k
  | 0 => by show 0 < 1; decide
  | k + 1 => by
    have := cN_lt (x := x) (y := y) (k := k)
    simp only [cN]
    have hq : qn (decide (x / 2 ^ k % 2 = 1)) (decide (y / 2 ^ k % 2 = 1)) ≤ 3 := by unfold qn; split <;> split <;> omega
    rw [Nat.pow_succ]; omega

def sp_X0_isCells : List q_V → List q_E → (Option q_V → List q_E → Prop) → Prop := fun as Wd K => ∃ (c : Int32), as = [.inl c] ∧ (K (some (.inl (bI (isC c)))) Wd)
set_option maxHeartbeats 4000000 in
set_option maxRecDepth 20000 in
theorem ct_X0_isCells : q_Ct yX0_isCells cX0_isCells 1 (some .boolean) 0 0 sp_X0_isCells := by
  refine q_met (by decide) ?_
  intro x as Wd K hs ok fn
  obtain ⟨c, rfl, hk⟩ := hs
  show q_W x 0 [some (.inl c)] [] Wd
  refine q_iload_n ok rfl dX0_isCells_0 ?_
  refine q_iconstv (nI 1) ok (by decide) dX0_isCells_1 ?_
  refine q_icmp_eq 21 ok dX0_isCells_2 (by decide) (fun h2 => ?_) (fun h2 => ?_)
  · refine q_iconstv (nI 1) ok (by decide) dX0_isCells_21 ?_
    refine q_goto 26 ok dX0_isCells_22 (by decide) ?_
    exact q_zret ok fn dX0_isCells_26 (by decide) (by have ee : isC c = true := decide_eq_true (Or.inl h2); rw [ee] at hk; exact hk)
  · refine q_iload_n ok rfl dX0_isCells_5 ?_
    refine q_iconstv (nI 2) ok (by decide) dX0_isCells_6 ?_
    refine q_icmp_eq 21 ok dX0_isCells_7 (by decide) (fun h7 => ?_) (fun h7 => ?_)
    · refine q_iconstv (nI 1) ok (by decide) dX0_isCells_21 ?_
      refine q_goto 26 ok dX0_isCells_22 (by decide) ?_
      exact q_zret ok fn dX0_isCells_26 (by decide) (by have ee : isC c = true := decide_eq_true (Or.inr (Or.inl h7)); rw [ee] at hk; exact hk)
    · refine q_iload_n ok rfl dX0_isCells_10 ?_
      refine q_iconstv (nI 4) ok (by decide) dX0_isCells_11 ?_
      refine q_icmp_eq 21 ok dX0_isCells_12 (by decide) (fun h12 => ?_) (fun h12 => ?_)
      · refine q_iconstv (nI 1) ok (by decide) dX0_isCells_21 ?_
        refine q_goto 26 ok dX0_isCells_22 (by decide) ?_
        exact q_zret ok fn dX0_isCells_26 (by decide) (by have ee : isC c = true := decide_eq_true (Or.inr (Or.inr (Or.inl h12))); rw [ee] at hk; exact hk)
      · refine q_iload_n ok rfl dX0_isCells_15 ?_
        refine q_bipushv (nI 8) ok (by decide) dX0_isCells_16 ?_
        refine q_icmp_ne 25 ok dX0_isCells_18 (by decide) (fun h18 => ?_) (fun h18 => ?_)
        · refine q_iconstv (nI 0) ok (by decide) dX0_isCells_25 ?_
          exact q_zret ok fn dX0_isCells_26 (by decide) (by have ee : isC c = false := decide_eq_false (fun q => q.elim h2 (fun q => q.elim h7 (fun q => q.elim h12 h18))); rw [ee] at hk; exact hk)
        · refine q_iconstv (nI 1) ok (by decide) dX0_isCells_21 ?_
          refine q_goto 26 ok dX0_isCells_22 (by decide) ?_
          exact q_zret ok fn dX0_isCells_26 (by decide) (by have ee : isC c = true := decide_eq_true (Or.inr (Or.inr (Or.inr h18))); rw [ee] at hk; exact hk)
theorem kX0_isCells {x : q_X} {cc : ByteArray} {fr lo pc : Nat} {lv : List (Option q_V)} {st : List q_V} {c : Int32} {Wd : List q_E} (hR : 0 + 1 ≤ fr ∧ 8 + (1 + 11) + 0 ≤ lo) (hst : (st.map (fun v => if q_nol (some v) then 1 else 2)).sum ≤ 8) (ok : q_ok x cc RX0 fr lo) (hd : decode cc pc = .ok (.invokestatic 109, 3)) (kk : q_W x (pc + 3) lv ((.inl (bI (isC c))) :: st) Wd) : q_W x pc lv (.inl c :: st) Wd :=
  q_callS [.inl c] ct_X0_isCells lkX0_X0_isCells dc_X0_isCells ok hR hst (Nat.le_of_ble_eq_true rfl) hd ⟨c, rfl, kk⟩
def sp_X0_quarterNumber : List q_V → List q_E → (Option q_V → List q_E → Prop) → Prop := fun as Wd K => ∃ (r : Bool) (l : Bool), as = [.inl (bI r), .inl (bI l)] ∧ (K (some (.inl (nI (qn r l)))) Wd)
set_option maxHeartbeats 4000000 in
set_option maxRecDepth 20000 in
theorem ct_X0_quarterNumber : q_Ct yX0_quarterNumber cX0_quarterNumber 2 (some .int) 0 0 sp_X0_quarterNumber := by
  refine q_met (by decide) ?_
  intro x as Wd K hs ok fn
  obtain ⟨r, l, rfl, hk⟩ := hs
  show q_W x 0 [some (.inl (bI r)), some (.inl (bI l))] [] Wd
  refine q_iload_n ok rfl dX0_quarterNumber_0 ?_
  refine q_ifb_eq 14 ok dX0_quarterNumber_1 (by decide) (fun h1 => ?_) (fun h1 => ?_)
  · refine q_iload_n ok rfl dX0_quarterNumber_14 ?_
    refine q_ifb_eq 22 ok dX0_quarterNumber_15 (by decide) (fun h15 => ?_) (fun h15 => ?_)
    · refine q_iconstv (nI 0) ok (by decide) dX0_quarterNumber_22 ?_
      exact q_iret ok fn dX0_quarterNumber_23 (by subst h1; subst h15; exact hk)
    · refine q_iconstv (nI 2) ok (by decide) dX0_quarterNumber_18 ?_
      refine q_goto 23 ok dX0_quarterNumber_19 (by decide) ?_
      exact q_iret ok fn dX0_quarterNumber_23 (by subst h1; subst h15; exact hk)
  · refine q_iload_n ok rfl dX0_quarterNumber_4 ?_
    refine q_ifb_eq 12 ok dX0_quarterNumber_5 (by decide) (fun h5 => ?_) (fun h5 => ?_)
    · refine q_iconstv (nI 3) ok (by decide) dX0_quarterNumber_12 ?_
      exact q_iret ok fn dX0_quarterNumber_13 (by subst h1; subst h5; exact hk)
    · refine q_iconstv (nI 1) ok (by decide) dX0_quarterNumber_8 ?_
      refine q_goto 13 ok dX0_quarterNumber_9 (by decide) ?_
      exact q_iret ok fn dX0_quarterNumber_13 (by subst h1; subst h5; exact hk)
theorem kX0_quarterNumber {x : q_X} {cc : ByteArray} {fr lo pc : Nat} {lv : List (Option q_V)} {st : List q_V} {r : Bool} {l : Bool} {Wd : List q_E} (hR : 0 + 1 ≤ fr ∧ 8 + (2 + 11) + 0 ≤ lo) (hst : (st.map (fun v => if q_nol (some v) then 1 else 2)).sum ≤ 8) (ok : q_ok x cc RX0 fr lo) (hd : decode cc pc = .ok (.invokestatic 190, 3)) (kk : q_W x (pc + 3) lv ((.inl (nI (qn r l))) :: st) Wd) : q_W x pc lv (.inl (bI l) :: .inl (bI r) :: st) Wd :=
  q_callS [.inl (bI r), .inl (bI l)] ct_X0_quarterNumber lkX0_X0_quarterNumber dc_X0_quarterNumber ok hR hst (Nat.le_of_ble_eq_true rfl) hd ⟨r, l, rfl, kk⟩
def sp_X0_cellNumber : List q_V → List q_E → (Option q_V → List q_E → Prop) → Prop := fun as Wd K => ∃ (c : Nat) (a : Nat) (b : Nat) (ex : Nat), (ex ≤ 3) ∧ (c = 2 ^ ex) ∧ (a < 2 ^ 31) ∧ (b < 2 ^ 31) ∧ as = [.inl (nI c), .inl (nI a), .inl (nI b)] ∧ (K (some (.inl (nI (cN a b ex)))) Wd)
set_option maxHeartbeats 4000000 in
set_option maxRecDepth 20000 in
theorem ct_X0_cellNumber : q_Ct yX0_cellNumber cX0_cellNumber 5 (some .int) 1 21 sp_X0_cellNumber := by
  refine q_met (by decide) ?_
  intro x as Wd K hs ok fn
  obtain ⟨c, a, b, ex, hK, hc, ha, hb, rfl, hk⟩ := hs
  show q_W x 0 [some (.inl (nI c)), some (.inl (nI a)), some (.inl (nI b)), none, none] [] Wd
  have hp := p2le hK
  subst hc
  have L : ∀ (dL k : Nat) , dL = ex - k → k ≤ ex → q_W x 5 [some (.inl (nI (2 ^ ex))), some (.inl (nI (a))), some (.inl (nI (b))), some (.inl (nI (cN a b k))), some (.inl (nI (2 ^ k)))] [] Wd := by
    intro dL
    induction dL using Nat.strongRecOn with
    | _ dL ihL =>
      intro k  hdL hiL 
      have hpk := p2le (show k ≤ 3 by omega)
      refine q_iload ok rfl dX0_cellNumber_5 ?_
      refine q_iload_n ok rfl dX0_cellNumber_7 ?_
      refine q_icmpN_ge 59 (by omega) (by omega) ok dX0_cellNumber_8 (by decide) (fun h8 => ?_) (fun h8 => ?_)
      · refine q_iload_n ok rfl dX0_cellNumber_59 ?_
        exact q_iret ok fn dX0_cellNumber_60 (by rw [show k = ex from Nat.le_antisymm hiL ((Nat.pow_le_pow_iff_right (by decide)).mp h8)]; exact hk)
      · have hkK : k < ex := (Nat.pow_lt_pow_iff_right (by decide)).mp (Nat.not_le.mp h8)
        refine q_iload ok rfl dX0_cellNumber_11 ?_
        refine q_bipushv (nI 8) ok (by decide) dX0_cellNumber_13 ?_
        refine q_icmpN_ge 59 (by omega) (by omega) ok dX0_cellNumber_15 (by decide) (fun h15 => ?_) (fun h15 => ?_)
        · exact absurd h15 (by rcases (show k = 0 ∨ k = 1 ∨ k = 2 by omega) with rfl | rfl | rfl <;> decide)
        · refine q_iconstv (nI 4) ok (by decide) dX0_cellNumber_18 ?_
          refine q_iload_n ok rfl dX0_cellNumber_19 ?_
          refine q_imulN ok dX0_cellNumber_20 ?_
          refine q_iload_n ok rfl dX0_cellNumber_21 ?_
          refine q_iload ok rfl dX0_cellNumber_22 ?_
          refine q_iand ok dX0_cellNumber_24 ?_
          refine q_if_eq 32 ok dX0_cellNumber_25 (by decide) (fun h25 => ?_) (fun h25 => ?_)
          · refine q_iconstv (nI 0) ok (by decide) dX0_cellNumber_32 ?_
            refine q_iload_n ok rfl dX0_cellNumber_33 ?_
            refine q_iload ok rfl dX0_cellNumber_34 ?_
            refine q_iand ok dX0_cellNumber_36 ?_
            refine q_if_eq 44 ok dX0_cellNumber_37 (by decide) (fun h37 => ?_) (fun h37 => ?_)
            · refine q_iconstv (nI 0) ok (by decide) dX0_cellNumber_44 ?_
              refine kX0_quarterNumber (r := false) (l := false) (by decide) (Nat.le_of_ble_eq_true rfl) ok dX0_cellNumber_45 ?_
              refine q_iaddN ok dX0_cellNumber_48 ?_
              refine q_istore_3 ok rfl dX0_cellNumber_49 ?_
              refine q_iload ok rfl dX0_cellNumber_50 ?_
              refine q_iconstv (nI 2) ok (by decide) dX0_cellNumber_52 ?_
              refine q_imulN ok dX0_cellNumber_53 ?_
              refine q_istore_4 ok rfl dX0_cellNumber_54 ?_
              refine q_goto 5 ok dX0_cellNumber_56 (by decide) ?_
              have e : cN a b (k + 1) = 4 * cN a b k + qn false false := by
                simp only [cN]; rw [decide_eq_false ((and_bit ha (by omega)).mp h25), decide_eq_false ((and_bit hb (by omega)).mp h37)]
              rw [← e]
              exact ihL _ (by omega) (k + 1) rfl (by omega)
            · refine q_iconstv (nI 1) ok (by decide) dX0_cellNumber_40 ?_
              refine q_goto 45 ok dX0_cellNumber_41 (by decide) ?_
              refine kX0_quarterNumber (r := false) (l := true) (by decide) (Nat.le_of_ble_eq_true rfl) ok dX0_cellNumber_45 ?_
              refine q_iaddN ok dX0_cellNumber_48 ?_
              refine q_istore_3 ok rfl dX0_cellNumber_49 ?_
              refine q_iload ok rfl dX0_cellNumber_50 ?_
              refine q_iconstv (nI 2) ok (by decide) dX0_cellNumber_52 ?_
              refine q_imulN ok dX0_cellNumber_53 ?_
              refine q_istore_4 ok rfl dX0_cellNumber_54 ?_
              refine q_goto 5 ok dX0_cellNumber_56 (by decide) ?_
              have e : cN a b (k + 1) = 4 * cN a b k + qn false true := by
                simp only [cN]; rw [decide_eq_false ((and_bit ha (by omega)).mp h25), decide_eq_true (Decidable.not_not.mp (mt (and_bit hb (by omega)).mpr h37))]
              rw [← e]
              exact ihL _ (by omega) (k + 1) rfl (by omega)
          · refine q_iconstv (nI 1) ok (by decide) dX0_cellNumber_28 ?_
            refine q_goto 33 ok dX0_cellNumber_29 (by decide) ?_
            refine q_iload_n ok rfl dX0_cellNumber_33 ?_
            refine q_iload ok rfl dX0_cellNumber_34 ?_
            refine q_iand ok dX0_cellNumber_36 ?_
            refine q_if_eq 44 ok dX0_cellNumber_37 (by decide) (fun h37 => ?_) (fun h37 => ?_)
            · refine q_iconstv (nI 0) ok (by decide) dX0_cellNumber_44 ?_
              refine kX0_quarterNumber (r := true) (l := false) (by decide) (Nat.le_of_ble_eq_true rfl) ok dX0_cellNumber_45 ?_
              refine q_iaddN ok dX0_cellNumber_48 ?_
              refine q_istore_3 ok rfl dX0_cellNumber_49 ?_
              refine q_iload ok rfl dX0_cellNumber_50 ?_
              refine q_iconstv (nI 2) ok (by decide) dX0_cellNumber_52 ?_
              refine q_imulN ok dX0_cellNumber_53 ?_
              refine q_istore_4 ok rfl dX0_cellNumber_54 ?_
              refine q_goto 5 ok dX0_cellNumber_56 (by decide) ?_
              have e : cN a b (k + 1) = 4 * cN a b k + qn true false := by
                simp only [cN]; rw [decide_eq_true (Decidable.not_not.mp (mt (and_bit ha (by omega)).mpr h25)), decide_eq_false ((and_bit hb (by omega)).mp h37)]
              rw [← e]
              exact ihL _ (by omega) (k + 1) rfl (by omega)
            · refine q_iconstv (nI 1) ok (by decide) dX0_cellNumber_40 ?_
              refine q_goto 45 ok dX0_cellNumber_41 (by decide) ?_
              refine kX0_quarterNumber (r := true) (l := true) (by decide) (Nat.le_of_ble_eq_true rfl) ok dX0_cellNumber_45 ?_
              refine q_iaddN ok dX0_cellNumber_48 ?_
              refine q_istore_3 ok rfl dX0_cellNumber_49 ?_
              refine q_iload ok rfl dX0_cellNumber_50 ?_
              refine q_iconstv (nI 2) ok (by decide) dX0_cellNumber_52 ?_
              refine q_imulN ok dX0_cellNumber_53 ?_
              refine q_istore_4 ok rfl dX0_cellNumber_54 ?_
              refine q_goto 5 ok dX0_cellNumber_56 (by decide) ?_
              have e : cN a b (k + 1) = 4 * cN a b k + qn true true := by
                simp only [cN]; rw [decide_eq_true (Decidable.not_not.mp (mt (and_bit ha (by omega)).mpr h25)), decide_eq_true (Decidable.not_not.mp (mt (and_bit hb (by omega)).mpr h37))]
              rw [← e]
              exact ihL _ (by omega) (k + 1) rfl (by omega)
  refine q_iconstv (nI 0) ok (by decide) dX0_cellNumber_0 ?_
  refine q_istore_3 ok rfl dX0_cellNumber_1 ?_
  refine q_iconstv (nI 1) ok (by decide) dX0_cellNumber_2 ?_
  refine q_istore_4 ok rfl dX0_cellNumber_3 ?_
  exact L _ 0 rfl (Nat.zero_le _)
theorem kX0_cellNumber {x : q_X} {cc : ByteArray} {fr lo pc : Nat} {lv : List (Option q_V)} {st : List q_V} {c : Nat} {a : Nat} {b : Nat} {ex : Nat} {Wd : List q_E} (hK : ex ≤ 3) (hc : c = 2 ^ ex) (ha : a < 2 ^ 31) (hb : b < 2 ^ 31) (hR : 1 + 1 ≤ fr ∧ 8 + (5 + 11) + 21 ≤ lo) (hst : (st.map (fun v => if q_nol (some v) then 1 else 2)).sum ≤ 8) (ok : q_ok x cc RX0 fr lo) (hd : decode cc pc = .ok (.invokestatic 115, 3)) (kk : q_W x (pc + 3) lv ((.inl (nI (cN a b ex))) :: st) Wd) : q_W x pc lv (.inl (nI b) :: .inl (nI a) :: .inl (nI c) :: st) Wd :=
  q_callS [.inl (nI c), .inl (nI a), .inl (nI b)] ct_X0_cellNumber lkX0_X0_cellNumber dc_X0_cellNumber ok hR hst (Nat.le_of_ble_eq_true rfl) hd ⟨c, a, b, ex, hK, hc, ha, hb, rfl, kk⟩
