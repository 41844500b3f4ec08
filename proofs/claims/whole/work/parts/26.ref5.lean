-- THE REFERENCE, fifth part: sweeps (join, parts, specks), told
def sp_X1_touchesBlack : List q_V → List q_E → (Option q_V → List q_E → Prop) → Prop := fun as Wd K => ∃ (w : Nat) (h : Nat) (thr : Nat) (sam : Nat → Nat) (blk : Nat → Bool) (nxt : Nat → Bool) (came : Nat → Int32) (part : Nat → Int32) (rst : Int64) (i : Nat) (j : Nat), (q_g w h) ∧ (i < w) ∧ (j < h) ∧ as = [.inr (.inr (some 0)), .inl (nI i), .inl (nI j)] ∧ Wd = (mw w h thr sam blk nxt came part rst) ∧ (K (some (.inl (bI (tB w h blk i j)))) (mw w h thr sam blk nxt came part rst))
set_option maxHeartbeats 4000000 in
set_option maxRecDepth 20000 in
theorem ct_X1_touchesBlack : q_Ct yX1_touchesBlack cX1_touchesBlack 6 (some .boolean) 1 22 sp_X1_touchesBlack := by
  refine q_met (by decide) ?_
  intro x as Wd K hs ok fn
  obtain ⟨w, h, thr, sam, blk, nxt, came, part, rst, i, j, g, h1, h2, rfl, rfl, hk⟩ := hs
  show q_W x 0 [some (.inr (.inr (some 0))), some (.inl (nI i)), some (.inl (nI j)), none, none, none] [] (mw w h thr sam blk nxt came part rst)
  have hw := g.2.1
  have hh := g.2.2.2
  have hn := q_gn g
  have L : ∀ (dL t : Nat) (T : Bool) (b : Int32) (o5 : Option q_V), dL = 3 - t → t ≤ 3 → T = tA w h blk (nI i - nI 1) (nI j - nI 1) t false → nI j - nI 1 + nI t = b → q_W x 7 [some (.inr (.inr (some 0))), some (.inl (nI (i))), some (.inl (nI (j))), some (.inl (bI (T))), some (.inl b), o5] [] (mw w h thr sam blk nxt came part rst) := by
    intro dL
    induction dL using Nat.strongRecOn with
    | _ dL ihL =>
      intro t T b o5 hdL hiL hT hb
      refine q_iload ok rfl dX1_touchesBlack_7 ?_
      refine q_iload_n ok rfl dX1_touchesBlack_9 ?_
      refine q_iconstv (nI 1) ok (by decide) dX1_touchesBlack_10 ?_
      refine q_iaddN ok dX1_touchesBlack_11 ?_
      refine q_icmp_gt 79 ok dX1_touchesBlack_12 (by decide) (fun h12 => ?_) (fun h12 => ?_)
      · refine q_iload_n ok rfl dX1_touchesBlack_79 ?_
        exact q_zret ok fn dX1_touchesBlack_80 (bI_01 _) (by
          have : t = 3 := by
            have := (cmp3 j (by omega) t (by omega)).mp (by rw [hb]; exact h12)
            omega
          subst this
          rw [hT]; exact hk)
      · refine q_iload_n ok rfl dX1_touchesBlack_15 ?_
        refine q_iconstv (nI 1) ok (by decide) dX1_touchesBlack_16 ?_
        refine q_isub ok dX1_touchesBlack_17 ?_
        refine q_istore_5 ok rfl dX1_touchesBlack_18 ?_
        have ht3 : t < 3 := by
          have := mt (cmp3 j (by omega) t (by omega)).mpr (by rw [hb]; exact h12)
          omega
        have LI : ∀ (dLI s : Nat) (U : Bool) (z : Int32), dLI = 3 - s → s ≤ 3 → U = tR w h blk (nI i - nI 1) b s T → nI i - nI 1 + nI s = z → q_W x 20 [some (.inr (.inr (some 0))), some (.inl (nI (i))), some (.inl (nI (j))), some (.inl (bI (U))), some (.inl b), some (.inl z)] [] (mw w h thr sam blk nxt came part rst) := by
          intro dLI
          induction dLI using Nat.strongRecOn with
          | _ dLI ihLI =>
            intro s U z hdLI hiLI hU hz
            refine q_iload ok rfl dX1_touchesBlack_20 ?_
            refine q_iload_n ok rfl dX1_touchesBlack_22 ?_
            refine q_iconstv (nI 1) ok (by decide) dX1_touchesBlack_23 ?_
            refine q_iaddN ok dX1_touchesBlack_24 ?_
            refine q_icmp_gt 73 ok dX1_touchesBlack_25 (by decide) (fun h25 => ?_) (fun h25 => ?_)
            · refine q_iinc_4 (nI 1) ok rfl (by decide) dX1_touchesBlack_73 ?_
              refine q_goto 7 ok dX1_touchesBlack_76 (by decide) ?_
              have : s = 3 := by
                have := (cmp3 i (by omega) s (by omega)).mp (by rw [hz]; exact h25)
                omega
              subst this
              rw [← hb, Int32.add_assoc, nI_add t 1]
              exact ihL _ (by omega) (t + 1) U _ _ rfl (by omega) (by rw [hU, hT, ← hb]; rfl) rfl
            · have hs3 : s < 3 := by
                have := mt (cmp3 i (by omega) s (by omega)).mpr (by rw [hz]; exact h25)
                omega
              refine q_iload_n ok rfl dX1_touchesBlack_28 ?_
              refine q_ifb_ne 61 ok dX1_touchesBlack_29 (by decide) (fun h29 => ?_) (fun h29 => ?_)
              · refine q_iconstv (nI 1) ok (by decide) dX1_touchesBlack_61 ?_
                refine q_goto 66 ok dX1_touchesBlack_62 (by decide) ?_
                refine q_istore_3 ok rfl dX1_touchesBlack_66 ?_
                refine q_iinc_5 (nI 1) ok rfl (by decide) dX1_touchesBlack_67 ?_
                refine q_goto 20 ok dX1_touchesBlack_70 (by decide) ?_
                have e : tR w h blk (nI i - nI 1) (b) (s + 1) T = true := by
                  show (tR w h blk (nI i - nI 1) (b) s T || bB w h blk (nI i - nI 1 + nI s) (b)) = true
                  rw [← hU]
                  rw [h29]; rfl
                rw [← hz, Int32.add_assoc, nI_add s 1]
                exact ihLI _ (by omega) (s + 1) true _ rfl (by omega) e.symm rfl
              · refine q_aload_n ok rfl dX1_touchesBlack_32 ?_
                refine q_iload ok rfl dX1_touchesBlack_33 ?_
                refine q_iload ok rfl dX1_touchesBlack_35 ?_
                refine kX1_isIn (by decide) (Nat.le_of_ble_eq_true rfl) ok dX1_touchesBlack_37 ?_
                refine q_ifb_eq 65 ok dX1_touchesBlack_40 (by decide) (fun h40 => ?_) (fun h40 => ?_)
                · refine q_iconstv (nI 0) ok (by decide) dX1_touchesBlack_65 ?_
                  refine q_istore_3 ok rfl dX1_touchesBlack_66 ?_
                  refine q_iinc_5 (nI 1) ok rfl (by decide) dX1_touchesBlack_67 ?_
                  refine q_goto 20 ok dX1_touchesBlack_70 (by decide) ?_
                  have e : tR w h blk (nI i - nI 1) (b) (s + 1) T = false := by
                    show (tR w h blk (nI i - nI 1) (b) s T || bB w h blk (nI i - nI 1 + nI s) (b)) = false
                    rw [← hU]
                    rw [h29]; unfold bB; rw [hz, h40]; rfl
                  rw [← hz, Int32.add_assoc, nI_add s 1]
                  exact ihLI _ (by omega) (s + 1) false _ rfl (by omega) e.symm rfl
                · obtain ⟨i2, j2, hi2, hj2, rfl, rfl⟩ := inI_o g h40
                  have hlt := pm_lt g hi2 hj2
                  have ep : pI w (nI i2) (nI j2) = w * j2 + i2 := by rw [pI_n (by omega) (by omega), Nat.mul_comm]
                  refine q_aload_n ok rfl dX1_touchesBlack_43 ?_
                  refine mg_black ok dX1_touchesBlack_44 ?_
                  refine q_aload_n ok rfl dX1_touchesBlack_47 ?_
                  refine mg_width ok dX1_touchesBlack_48 ?_
                  refine q_iload ok rfl dX1_touchesBlack_51 ?_
                  refine q_imulN ok dX1_touchesBlack_53 ?_
                  refine q_iload ok rfl dX1_touchesBlack_54 ?_
                  refine q_iaddN ok dX1_touchesBlack_56 ?_
                  refine ml_blk g hlt ok dX1_touchesBlack_57 ?_
                  refine q_ifb_eq 65 ok dX1_touchesBlack_58 (by decide) (fun h58 => ?_) (fun h58 => ?_)
                  · refine q_iconstv (nI 0) ok (by decide) dX1_touchesBlack_65 ?_
                    refine q_istore_3 ok rfl dX1_touchesBlack_66 ?_
                    refine q_iincN_5 1 ok rfl (by decide) dX1_touchesBlack_67 ?_
                    refine q_goto 20 ok dX1_touchesBlack_70 (by decide) ?_
                    have e : tR w h blk (nI i - nI 1) (nI j2) (s + 1) T = false := by
                      show (tR w h blk (nI i - nI 1) (nI j2) s T || bB w h blk (nI i - nI 1 + nI s) (nI j2)) = false
                      rw [← hU]
                      rw [h29]; unfold bB; rw [hz, h40, ep, h58]; rfl
                    rw [← nI_add i2 1, ← hz, Int32.add_assoc, nI_add s 1]
                    exact ihLI _ (by omega) (s + 1) false _ rfl (by omega) e.symm rfl
                  · refine q_iconstv (nI 1) ok (by decide) dX1_touchesBlack_61 ?_
                    refine q_goto 66 ok dX1_touchesBlack_62 (by decide) ?_
                    refine q_istore_3 ok rfl dX1_touchesBlack_66 ?_
                    refine q_iincN_5 1 ok rfl (by decide) dX1_touchesBlack_67 ?_
                    refine q_goto 20 ok dX1_touchesBlack_70 (by decide) ?_
                    have e : tR w h blk (nI i - nI 1) (nI j2) (s + 1) T = true := by
                      show (tR w h blk (nI i - nI 1) (nI j2) s T || bB w h blk (nI i - nI 1 + nI s) (nI j2)) = true
                      rw [← hU]
                      rw [h29]; unfold bB; rw [hz, h40, ep, h58]; rfl
                    rw [← nI_add i2 1, ← hz, Int32.add_assoc, nI_add s 1]
                    exact ihLI _ (by omega) (s + 1) true _ rfl (by omega) e.symm rfl
        exact LI _ 0 T (nI i - nI 1) rfl (Nat.zero_le _) rfl (by rw [nI_0, Int32.add_zero])
  refine q_iconstv (nI 0) ok (by decide) dX1_touchesBlack_0 ?_
  refine q_istore_3 ok rfl dX1_touchesBlack_1 ?_
  refine q_iload_n ok rfl dX1_touchesBlack_2 ?_
  refine q_iconstv (nI 1) ok (by decide) dX1_touchesBlack_3 ?_
  refine q_isub ok dX1_touchesBlack_4 ?_
  refine q_istore_4 ok rfl dX1_touchesBlack_5 ?_
  exact L _ 0 false (nI j - nI 1) none rfl (Nat.zero_le _) rfl (by rw [nI_0, Int32.add_zero])
theorem kX1_touchesBlack {x : q_X} {cc : ByteArray} {fr lo pc : Nat} {lv : List (Option q_V)} {st : List q_V} {w : Nat} {h : Nat} {thr : Nat} {sam : Nat → Nat} {blk : Nat → Bool} {nxt : Nat → Bool} {came : Nat → Int32} {part : Nat → Int32} {rst : Int64} {i : Nat} {j : Nat} (g : q_g w h) (h1 : i < w) (h2 : j < h) (hR : 1 + 1 ≤ fr ∧ 8 + (6 + 11) + 22 ≤ lo) (hst : (st.map (fun v => if q_nol (some v) then 1 else 2)).sum ≤ 8) (ok : q_ok x cc RX1 fr lo) (hd : decode cc pc = .ok (.invokevirtual 71, 3)) (kk : q_W x (pc + 3) lv ((.inl (bI (tB w h blk i j))) :: st) (mw w h thr sam blk nxt came part rst)) : q_W x pc lv (.inl (nI j) :: .inl (nI i) :: .inr (.inr (some 0)) :: st) (mw w h thr sam blk nxt came part rst) :=
  q_callV [.inl (nI i), .inl (nI j)] ct_X1_touchesBlack lkX1_X1_touchesBlack dc_X1_touchesBlack rfl ok rfl hR hst (Nat.le_of_ble_eq_true rfl) hd ⟨w, h, thr, sam, blk, nxt, came, part, rst, i, j, g, h1, h2, rfl, rfl, kk⟩
def sp_X1_join : List q_V → List q_E → (Option q_V → List q_E → Prop) → Prop := fun as Wd K => ∃ (w : Nat) (h : Nat) (thr : Nat) (sam : Nat → Nat) (blk : Nat → Bool) (nxt : Nat → Bool) (came : Nat → Int32) (part : Nat → Int32) (rst : Int64) (lw : Int32) (hi : Int32), (q_g w h) ∧ (∀ k, k < w * h → sam k < 256) ∧ as = [.inr (.inr (some 0)), .inl lw, .inl hi] ∧ Wd = (mw w h thr sam blk nxt came part rst) ∧ (¬ lw < -1 → ¬ hi < lw → ¬ nI 255 < hi → ∀ (blk2 : Nat → Bool), jPost w h sam lw hi blk2 → K (some (.inl (nI (cntB blk2 (w * h))))) (mw w h (0) sam (blk2) nxt came part rst)) ∧ ((lw < -1 ∨ hi < lw ∨ nI 255 < hi) → K (some (.inl (nI 0))) (mw w h (1) sam blk nxt came part rst))
set_option maxHeartbeats 4000000 in
set_option maxRecDepth 20000 in
theorem ct_X1_join : q_Ct yX1_join cX1_join 6 (some .int) 2 47 sp_X1_join := by
  refine q_met (by decide) ?_
  intro x as Wd K hs ok fn
  obtain ⟨w, h, thr, sam, blk, nxt, came, part, rst, lw, hi, g, hs, rfl, rfl, hk0, hk1⟩ := hs
  show q_W x 0 [some (.inr (.inr (some 0))), some (.inl lw), some (.inl hi), none, none, none] [] (mw w h thr sam blk nxt came part rst)
  refine q_iload_n ok rfl dX1_join_0 ?_
  refine q_iload_n ok rfl dX1_join_1 ?_
  refine q_icmp_gt 21 ok dX1_join_2 (by decide) (fun h2 => ?_) (fun h2 => ?_)
  · refine q_iconstv (nI 0) ok (by decide) dX1_join_21 ?_
    refine q_istore_3 ok rfl dX1_join_22 ?_
    refine q_aload_n ok rfl dX1_join_23 ?_
    refine q_iload_n ok rfl dX1_join_24 ?_
    refine q_if_eq 32 ok dX1_join_25 (by decide) (fun _ => ?_) (fun hh => absurd (by decide) hh)
    refine q_iconstv (nI 1) ok (by decide) dX1_join_32 ?_
    refine mp_thrown ok dX1_join_33 ?_
    refine q_aload_n ok rfl dX1_join_36 ?_
    refine mg_thrown ok dX1_join_37 ?_
    refine q_if_le 45 ok dX1_join_40 (by decide) (fun hh => absurd hh (by decide)) (fun _ => ?_)
    refine q_iconstv (nI 0) ok (by decide) dX1_join_43 ?_
    exact q_iret ok fn dX1_join_44 (hk1 (Or.inr (Or.inl h2)))
  · refine q_iload_n ok rfl dX1_join_5 ?_
    refine q_iconstv (-1) ok (by decide) dX1_join_6 ?_
    refine q_icmp_lt 21 ok dX1_join_7 (by decide) (fun h7 => ?_) (fun h7 => ?_)
    · refine q_iconstv (nI 0) ok (by decide) dX1_join_21 ?_
      refine q_istore_3 ok rfl dX1_join_22 ?_
      refine q_aload_n ok rfl dX1_join_23 ?_
      refine q_iload_n ok rfl dX1_join_24 ?_
      refine q_if_eq 32 ok dX1_join_25 (by decide) (fun _ => ?_) (fun hh => absurd (by decide) hh)
      refine q_iconstv (nI 1) ok (by decide) dX1_join_32 ?_
      refine mp_thrown ok dX1_join_33 ?_
      refine q_aload_n ok rfl dX1_join_36 ?_
      refine mg_thrown ok dX1_join_37 ?_
      refine q_if_le 45 ok dX1_join_40 (by decide) (fun hh => absurd hh (by decide)) (fun _ => ?_)
      refine q_iconstv (nI 0) ok (by decide) dX1_join_43 ?_
      exact q_iret ok fn dX1_join_44 (hk1 (Or.inl h7))
    · refine q_iload_n ok rfl dX1_join_10 ?_
      refine q_sipushv (nI 255) ok (by decide) dX1_join_11 ?_
      refine q_icmp_gt 21 ok dX1_join_14 (by decide) (fun h14 => ?_) (fun h14 => ?_)
      · refine q_iconstv (nI 0) ok (by decide) dX1_join_21 ?_
        refine q_istore_3 ok rfl dX1_join_22 ?_
        refine q_aload_n ok rfl dX1_join_23 ?_
        refine q_iload_n ok rfl dX1_join_24 ?_
        refine q_if_eq 32 ok dX1_join_25 (by decide) (fun _ => ?_) (fun hh => absurd (by decide) hh)
        refine q_iconstv (nI 1) ok (by decide) dX1_join_32 ?_
        refine mp_thrown ok dX1_join_33 ?_
        refine q_aload_n ok rfl dX1_join_36 ?_
        refine mg_thrown ok dX1_join_37 ?_
        refine q_if_le 45 ok dX1_join_40 (by decide) (fun hh => absurd hh (by decide)) (fun _ => ?_)
        refine q_iconstv (nI 0) ok (by decide) dX1_join_43 ?_
        exact q_iret ok fn dX1_join_44 (hk1 (Or.inr (Or.inr h14)))
      · refine q_iconstv (nI 1) ok (by decide) dX1_join_17 ?_
        refine q_goto 22 ok dX1_join_18 (by decide) ?_
        refine q_istore_3 ok rfl dX1_join_22 ?_
        refine q_aload_n ok rfl dX1_join_23 ?_
        refine q_iload_n ok rfl dX1_join_24 ?_
        refine q_if_eq 32 ok dX1_join_25 (by decide) (fun hh => absurd hh (by decide)) (fun _ => ?_)
        refine q_iconstv (nI 0) ok (by decide) dX1_join_28 ?_
        refine q_goto 33 ok dX1_join_29 (by decide) ?_
        refine mp_thrown ok dX1_join_33 ?_
        refine q_aload_n ok rfl dX1_join_36 ?_
        refine mg_thrown ok dX1_join_37 ?_
        refine q_if_le 45 ok dX1_join_40 (by decide) (fun _ => ?_) (fun hh => absurd (by decide) hh)
        refine q_iconstv (nI 0) ok (by decide) dX1_join_45 ?_
        refine q_istore_4 ok rfl dX1_join_46 ?_
        have hn := q_gn g
        have hw := g.2.1
        have hw1 := g.1
        have hh := g.2.2.2
        have hk0 := hk0 h7 h2 h14
        have L : ∀ (d : Nat) (cur : Nat → Bool) (mo : Bool) (o5 : Option q_V), d = (if mo = true then 1 + (w * h - cntB cur (w * h)) else 0) → mI w h sam lw hi cur → (mo = false → ∀ k, k < w * h → mCl w h sam hi cur k) → q_W x 89 [some (.inr (.inr (some 0))), some (.inl (lw)), some (.inl (hi)), some (.inl (nI (1))), some (.inl (bI (mo))), o5] [] (mw w h (0) sam (cur) nxt came part rst) := by
          intro d
          induction d using Nat.strongRecOn with
          | _ d ihL =>
            intro cur mo o5 hd H0 Hc
            refine q_iload ok rfl dX1_join_89 ?_
            refine q_ifb_eq 171 ok dX1_join_91 (by decide) (fun h91 => ?_) (fun h91 => ?_)
            · refine q_aload_n ok rfl dX1_join_171 ?_
              refine kX1_blacks g (by decide) (Nat.le_of_ble_eq_true rfl) ok dX1_join_172 ?_
              exact q_iret ok fn dX1_join_175 (hk0 cur (mI_end g H0 (Hc h91)))
            · refine q_iconstv (nI 0) ok (by decide) dX1_join_94 ?_
              refine q_istore_4 ok rfl dX1_join_95 ?_
              refine q_iconstv (nI 0) ok (by decide) dX1_join_97 ?_
              refine q_istore_5 ok rfl dX1_join_98 ?_
              rw [h91] at hd
              have LI : ∀ (dLI i : Nat) (cur2 : Nat → Bool) (m2 : Bool), dLI = w * h - i → i ≤ w * h → mI w h sam lw hi cur2 → ((m2 = false ∧ cur2 = cur ∧ ∀ k, k < i → mCl w h sam hi cur k) ∨ (m2 = true ∧ cntB cur (w * h) < cntB cur2 (w * h))) → q_W x 100 [some (.inr (.inr (some 0))), some (.inl (lw)), some (.inl (hi)), some (.inl (nI (1))), some (.inl (bI (m2))), some (.inl (nI (i)))] [] (mw w h (0) sam (cur2) nxt came part rst) := by
                intro dLI
                induction dLI using Nat.strongRecOn with
                | _ dLI ihLI =>
                  intro i cur2 m2 hdLI hiLI HI HA
                  refine q_iload ok rfl dX1_join_100 ?_
                  refine q_aload_n ok rfl dX1_join_102 ?_
                  refine kX1_all (by decide) (Nat.le_of_ble_eq_true rfl) ok dX1_join_103 ?_
                  refine q_icmpN_ge 168 (by omega) (by omega) ok dX1_join_106 (by decide) (fun h106 => ?_) (fun h106 => ?_)
                  · refine q_goto 89 ok dX1_join_168 (by decide) ?_
                    have hcle := cntB_le cur2 (w * h)
                    have hcle2 := cntB_le cur (w * h)
                    rcases HA with ⟨a1, a2, a3⟩ | ⟨a1, a2⟩
                    · subst a1; subst a2
                      refine ihL _ ?_ cur2 false _ rfl HI (fun _ k hk => a3 k (by omega))
                      rw [hd]; simp; omega
                    · subst a1
                      refine ihL _ ?_ cur2 true _ rfl HI (fun q => by cases q)
                      rw [hd]; simp only [if_true]; omega
                  · have hil : i < w * h := by omega
                    have hmi := Nat.mod_lt i (show w > 0 by omega)
                    have hdi : i / w < h := Nat.div_lt_of_lt_mul hil
                    refine q_aload_n ok rfl dX1_join_109 ?_
                    refine mg_black ok dX1_join_110 ?_
                    refine q_iload ok rfl dX1_join_113 ?_
                    refine ml_blk g (by omega) ok dX1_join_115 ?_
                    refine q_ifb_ne 162 ok dX1_join_116 (by decide) (fun h116 => ?_) (fun h116 => ?_)
                    · refine q_iincN_5 1 ok rfl (by decide) dX1_join_162 ?_
                      refine q_goto 100 ok dX1_join_165 (by decide) ?_
                      refine ihLI _ (by omega) (i + 1) cur2 m2 rfl (by omega) HI ?_
                      rcases HA with ⟨a1, a2, a3⟩ | HA
                      · exact Or.inl ⟨a1, a2, lt_s a3 (by subst a2; exact Or.inl h116)⟩
                      · exact Or.inr HA
                    · refine q_aload_n ok rfl dX1_join_119 ?_
                      refine mg_samples ok dX1_join_120 ?_
                      refine q_iload ok rfl dX1_join_123 ?_
                      refine ml_sam g (by omega) ok dX1_join_125 ?_
                      refine q_iload_n ok rfl dX1_join_126 ?_
                      refine q_icmp_gt 162 ok dX1_join_127 (by decide) (fun h127 => ?_) (fun h127 => ?_)
                      · refine q_iincN_5 1 ok rfl (by decide) dX1_join_162 ?_
                        refine q_goto 100 ok dX1_join_165 (by decide) ?_
                        refine ihLI _ (by omega) (i + 1) cur2 m2 rfl (by omega) HI ?_
                        rcases HA with ⟨a1, a2, a3⟩ | HA
                        · exact Or.inl ⟨a1, a2, lt_s a3 (Or.inr (Or.inl (Int32.not_le.mpr h127)))⟩
                        · exact Or.inr HA
                      · refine q_aload_n ok rfl dX1_join_130 ?_
                        refine q_iload ok rfl dX1_join_131 ?_
                        refine q_aload_n ok rfl dX1_join_133 ?_
                        refine mg_width ok dX1_join_134 ?_
                        refine q_iremN (by omega) (by omega) (by omega) ok dX1_join_137 ?_
                        refine q_iload ok rfl dX1_join_138 ?_
                        refine q_aload_n ok rfl dX1_join_140 ?_
                        refine mg_width ok dX1_join_141 ?_
                        refine q_idivN (by omega) (by omega) (by omega) ok dX1_join_144 ?_
                        refine kX1_touchesBlack g hmi hdi (by decide) (Nat.le_of_ble_eq_true rfl) ok dX1_join_145 ?_
                        refine q_ifb_eq 162 ok dX1_join_148 (by decide) (fun h148 => ?_) (fun h148 => ?_)
                        · refine q_iincN_5 1 ok rfl (by decide) dX1_join_162 ?_
                          refine q_goto 100 ok dX1_join_165 (by decide) ?_
                          refine ihLI _ (by omega) (i + 1) cur2 m2 rfl (by omega) HI ?_
                          rcases HA with ⟨a1, a2, a3⟩ | HA
                          · exact Or.inl ⟨a1, a2, lt_s a3 (by subst a2; exact Or.inr (Or.inr h148))⟩
                          · exact Or.inr HA
                        · refine q_aload_n ok rfl dX1_join_151 ?_
                          refine mg_black ok dX1_join_152 ?_
                          refine q_iload ok rfl dX1_join_155 ?_
                          refine q_iconstv (nI 1) ok (by decide) dX1_join_157 ?_
                          refine ms_blk (v := true) g (by omega) ok dX1_join_158 ?_
                          refine q_iconstv (nI 1) ok (by decide) dX1_join_159 ?_
                          refine q_istore_4 ok rfl dX1_join_160 ?_
                          refine q_iincN_5 1 ok rfl (by decide) dX1_join_162 ?_
                          refine q_goto 100 ok dX1_join_165 (by decide) ?_
                          have hcu : cntB (va_up cur2 i true) (w * h) = cntB cur2 (w * h) + 1 := cntB_up h116 hil
                          refine ihLI _ (by omega) (i + 1) (va_up cur2 i true) true rfl (by omega) (mI_up g HI hil (Int32.not_lt.mp h127) h148) (Or.inr ⟨rfl, ?_⟩)
                          rcases HA with ⟨a1, a2, a3⟩ | ⟨a1, a2⟩
                          · rw [hcu, a2]; omega
                          · omega
              exact LI _ 0 cur false rfl (Nat.zero_le _) H0 (Or.inl ⟨rfl, rfl, lt_0⟩)
        have L1 : ∀ (dL1 i : Nat) , dL1 = w * h - i → i ≤ w * h → q_W x 48 [some (.inr (.inr (some 0))), some (.inl (lw)), some (.inl (hi)), some (.inl (nI (1))), some (.inl (nI (i))), none] [] (mw w h (0) sam (fun k => if k < i then decide (nI (sam k) ≤ lw) else blk k) nxt came part rst) := by
          intro dL1
          induction dL1 using Nat.strongRecOn with
          | _ dL1 ihL1 =>
            intro i  hdL1 hiL1 
            refine q_iload ok rfl dX1_join_48 ?_
            refine q_aload_n ok rfl dX1_join_50 ?_
            refine kX1_all (by decide) (Nat.le_of_ble_eq_true rfl) ok dX1_join_51 ?_
            refine q_icmpN_ge 86 (by omega) (by omega) ok dX1_join_54 (by decide) (fun h54 => ?_) (fun h54 => ?_)
            · refine q_iconstv (nI 1) ok (by decide) dX1_join_86 ?_
              refine q_istore_4 ok rfl dX1_join_87 ?_
              exact L _ _ true none rfl ⟨fun k hk2 hm => Jn_s hk2 (of_decide_eq_true ((if_pos (show k < i by omega)).symm.trans hm)), fun k hk2 hl => (if_pos (show k < i by omega)).trans (decide_eq_true hl)⟩ (fun q => by cases q)
            · refine q_aload_n ok rfl dX1_join_57 ?_
              refine mg_black ok dX1_join_58 ?_
              refine q_iload ok rfl dX1_join_61 ?_
              refine q_aload_n ok rfl dX1_join_63 ?_
              refine mg_samples ok dX1_join_64 ?_
              refine q_iload ok rfl dX1_join_67 ?_
              refine ml_sam g (by omega) ok dX1_join_69 ?_
              refine q_iload_n ok rfl dX1_join_70 ?_
              refine q_icmp_gt 78 ok dX1_join_71 (by decide) (fun h71 => ?_) (fun h71 => ?_)
              · refine q_iconstv (nI 0) ok (by decide) dX1_join_78 ?_
                refine ms_blk (v := false) g (by omega) ok dX1_join_79 ?_
                refine q_iincN_4 1 ok rfl (by decide) dX1_join_80 ?_
                refine q_goto 48 ok dX1_join_83 (by decide) ?_
                rw [show false = (fun k => decide (nI (sam k) ≤ lw)) i from (decide_eq_false (Int32.not_le.mpr h71)).symm, pu_step (F := (fun k => decide (nI (sam k) ≤ lw)))]
                exact ihL1 _ (by omega) (i + 1) rfl (by omega)
              · refine q_iconstv (nI 1) ok (by decide) dX1_join_74 ?_
                refine q_goto 79 ok dX1_join_75 (by decide) ?_
                refine ms_blk (v := true) g (by omega) ok dX1_join_79 ?_
                refine q_iincN_4 1 ok rfl (by decide) dX1_join_80 ?_
                refine q_goto 48 ok dX1_join_83 (by decide) ?_
                rw [show true = (fun k => decide (nI (sam k) ≤ lw)) i from (decide_eq_true (Int32.not_lt.mp h71)).symm, pu_step (F := (fun k => decide (nI (sam k) ≤ lw)))]
                exact ihL1 _ (by omega) (i + 1) rfl (by omega)
        have := L1 _ 0 rfl (Nat.zero_le _)
        rw [pu_0 (F := (fun k => decide (nI (sam k) ≤ lw)))] at this
        exact this
def sp_X1_lesser : List q_V → List q_E → (Option q_V → List q_E → Prop) → Prop := fun as Wd K => ∃ (w : Nat) (h : Nat) (thr : Nat) (sam : Nat → Nat) (blk : Nat → Bool) (nxt : Nat → Bool) (came : Nat → Int32) (part : Nat → Int32) (rst : Int64) (p : Int32) (a : Int32) (b : Int32) (col : Bool), (q_g w h) ∧ as = [.inr (.inr (some 0)), .inl p, .inl a, .inl b, .inl (bI col)] ∧ Wd = (mw w h thr sam blk nxt came part rst) ∧ (K (some (.inl (lsV w h blk part col p a b))) (mw w h thr sam blk nxt came part rst))
set_option maxHeartbeats 4000000 in
set_option maxRecDepth 20000 in
theorem ct_X1_lesser : q_Ct yX1_lesser cX1_lesser 5 (some .int) 1 22 sp_X1_lesser := by
  refine q_met (by decide) ?_
  intro x as Wd K hs ok fn
  obtain ⟨w, h, thr, sam, blk, nxt, came, part, rst, p, a, b, col, g, rfl, rfl, hk⟩ := hs
  show q_W x 0 [some (.inr (.inr (some 0))), some (.inl p), some (.inl a), some (.inl b), some (.inl (bI col))] [] (mw w h thr sam blk nxt came part rst)
  refine q_aload_n ok rfl dX1_lesser_0 ?_
  refine q_iload_n ok rfl dX1_lesser_1 ?_
  refine q_iload_n ok rfl dX1_lesser_2 ?_
  refine kX1_isIn (by decide) (Nat.le_of_ble_eq_true rfl) ok dX1_lesser_3 ?_
  refine q_ifb_eq 27 ok dX1_lesser_6 (by decide) (fun h6 => ?_) (fun h6 => ?_)
  · refine q_iload_n ok rfl dX1_lesser_27 ?_
    exact q_iret ok fn dX1_lesser_28 (by have ee : lsV w h blk part col p a b = p := if_neg (fun q => by rw [h6] at q; exact absurd q.1 (by decide)); rw [ee] at hk; exact hk)
  · obtain ⟨i, j, hi, hj, rfl, rfl⟩ := inI_o g h6
    have hlt := pm_lt g hi hj
    have hw := g.2.1
    have hh := g.2.2.2
    have ep : pI w (nI i) (nI j) = w * j + i := by rw [pI_n (by omega) (by omega), Nat.mul_comm]
    refine q_aload_n ok rfl dX1_lesser_9 ?_
    refine mg_black ok dX1_lesser_10 ?_
    refine q_aload_n ok rfl dX1_lesser_13 ?_
    refine mg_width ok dX1_lesser_14 ?_
    refine q_iload_n ok rfl dX1_lesser_17 ?_
    refine q_imulN ok dX1_lesser_18 ?_
    refine q_iload_n ok rfl dX1_lesser_19 ?_
    refine q_iaddN ok dX1_lesser_20 ?_
    refine ml_blk g hlt ok dX1_lesser_21 ?_
    refine q_iload ok rfl dX1_lesser_22 ?_
    refine q_icmpb_eq 29 ok dX1_lesser_24 (by decide) (fun h24 => ?_) (fun h24 => ?_)
    · refine q_aload_n ok rfl dX1_lesser_29 ?_
      refine mg_part ok dX1_lesser_30 ?_
      refine q_aload_n ok rfl dX1_lesser_33 ?_
      refine mg_width ok dX1_lesser_34 ?_
      refine q_iload_n ok rfl dX1_lesser_37 ?_
      refine q_imulN ok dX1_lesser_38 ?_
      refine q_iload_n ok rfl dX1_lesser_39 ?_
      refine q_iaddN ok dX1_lesser_40 ?_
      refine ml_part g hlt ok dX1_lesser_41 ?_
      refine q_iload_n ok rfl dX1_lesser_42 ?_
      refine q_icmp_ge 62 ok dX1_lesser_43 (by decide) (fun h43 => ?_) (fun h43 => ?_)
      · refine q_iload_n ok rfl dX1_lesser_62 ?_
        exact q_iret ok fn dX1_lesser_63 (by have ee : lsV w h blk part col p (nI i) (nI j) = p := if_neg (fun q => absurd (by rw [← ep]; exact q.2.2) (Int32.not_lt.mpr h43)); rw [ee] at hk; exact hk)
      · refine q_aload_n ok rfl dX1_lesser_46 ?_
        refine mg_part ok dX1_lesser_47 ?_
        refine q_aload_n ok rfl dX1_lesser_50 ?_
        refine mg_width ok dX1_lesser_51 ?_
        refine q_iload_n ok rfl dX1_lesser_54 ?_
        refine q_imulN ok dX1_lesser_55 ?_
        refine q_iload_n ok rfl dX1_lesser_56 ?_
        refine q_iaddN ok dX1_lesser_57 ?_
        refine ml_part g hlt ok dX1_lesser_58 ?_
        refine q_goto 63 ok dX1_lesser_59 (by decide) ?_
        exact q_iret ok fn dX1_lesser_63 (by have ee : lsV w h blk part col p (nI i) (nI j) = part (w * j + i) := (by unfold lsV; rw [ep, if_pos ⟨h6, h24, Int32.not_le.mp h43⟩]); rw [ee] at hk; exact hk)
    · refine q_iload_n ok rfl dX1_lesser_27 ?_
      exact q_iret ok fn dX1_lesser_28 (by have ee : lsV w h blk part col p (nI i) (nI j) = p := if_neg (fun q => h24 (by rw [← ep]; exact q.2.1)); rw [ee] at hk; exact hk)
theorem kX1_lesser {x : q_X} {cc : ByteArray} {fr lo pc : Nat} {lv : List (Option q_V)} {st : List q_V} {w : Nat} {h : Nat} {thr : Nat} {sam : Nat → Nat} {blk : Nat → Bool} {nxt : Nat → Bool} {came : Nat → Int32} {part : Nat → Int32} {rst : Int64} {p : Int32} {a : Int32} {b : Int32} {col : Bool} (g : q_g w h) (hR : 1 + 1 ≤ fr ∧ 8 + (5 + 11) + 22 ≤ lo) (hst : (st.map (fun v => if q_nol (some v) then 1 else 2)).sum ≤ 8) (ok : q_ok x cc RX1 fr lo) (hd : decode cc pc = .ok (.invokevirtual 74, 3)) (kk : q_W x (pc + 3) lv ((.inl (lsV w h blk part col p a b)) :: st) (mw w h thr sam blk nxt came part rst)) : q_W x pc lv (.inl (bI col) :: .inl b :: .inl a :: .inl p :: .inr (.inr (some 0)) :: st) (mw w h thr sam blk nxt came part rst) :=
  q_callV [.inl p, .inl a, .inl b, .inl (bI col)] ct_X1_lesser lkX1_X1_lesser dc_X1_lesser rfl ok rfl hR hst (Nat.le_of_ble_eq_true rfl) hd ⟨w, h, thr, sam, blk, nxt, came, part, rst, p, a, b, col, g, rfl, rfl, kk⟩
def sp_X1_findParts : List q_V → List q_E → (Option q_V → List q_E → Prop) → Prop := fun as Wd K => ∃ (w : Nat) (h : Nat) (thr : Nat) (sam : Nat → Nat) (blk : Nat → Bool) (nxt : Nat → Bool) (came : Nat → Int32) (part : Nat → Int32) (rst : Int64) (col : Bool), (q_g w h) ∧ as = [.inr (.inr (some 0)), .inl (bI col)] ∧ Wd = (mw w h thr sam blk nxt came part rst) ∧ (∀ lb : Nat → Nat, fP w h blk col lb → K none (mw w h thr sam blk nxt came (pF w h blk col part lb) rst))
set_option maxHeartbeats 4000000 in
set_option maxRecDepth 20000 in
theorem ct_X1_findParts : q_Ct yX1_findParts cX1_findParts 7 none 2 46 sp_X1_findParts := by
  refine q_met (by decide) ?_
  intro x as Wd K hs ok fn
  obtain ⟨w, h, thr, sam, blk, nxt, came, part, rst, col, g, rfl, rfl, hk⟩ := hs
  show q_W x 0 [some (.inr (.inr (some 0))), some (.inl (bI col)), none, none, none, none, none] [] (mw w h thr sam blk nxt came part rst)
  have hn := q_gn g
  have hw := g.2.1
  have hw1 := g.1
  have hh := g.2.2.2
  have L : ∀ (d : Nat) (lb : Nat → Nat) (mo : Bool) (o3 o4 o5 o6 : Option q_V), d = (if mo = true then 1 + sumN lb (w * h) else 0) → vL w h blk col lb → (mo = false → ∀ k, k < w * h → blk k = col → ∀ b, adj4 w h k b → blk b = col → lb k ≤ lb b) → q_W x 39 [some (.inr (.inr (some 0))), some (.inl (bI (col))), some (.inl (bI (mo))), o3, o4, o5, o6] [] (mw w h thr sam blk nxt came (pF w h blk col part (lb)) rst) := by
    intro d
    induction d using Nat.strongRecOn with
    | _ d ihL =>
      intro lb mo o3 o4 o5 o6 hd H0 Hc
      refine q_iload_n ok rfl dX1_findParts_39 ?_
      refine q_ifb_eq 183 ok dX1_findParts_40 (by decide) (fun h40 => ?_) (fun h40 => ?_)
      · exact q_vret ok fn dX1_findParts_183 (hk lb (fP_end H0 (Hc h40)))
      · refine q_iconstv (nI 0) ok (by decide) dX1_findParts_43 ?_
        refine q_istore_2 ok rfl dX1_findParts_44 ?_
        refine q_iconstv (nI 0) ok (by decide) dX1_findParts_45 ?_
        refine q_istore_3 ok rfl dX1_findParts_46 ?_
        rw [h40] at hd
        have LI : ∀ (dLI i : Nat) (lb2 : Nat → Nat) (m2 : Bool) (o4 o5 o6 : Option q_V), dLI = w * h - i → i ≤ w * h → vL w h blk col lb2 → ((m2 = false ∧ lb2 = lb ∧ ∀ k, k < i → blk k = col → ∀ b, adj4 w h k b → blk b = col → lb k ≤ lb b) ∨ (m2 = true ∧ sumN lb2 (w * h) < sumN lb (w * h))) → 0 ≤ i → q_W x 47 [some (.inr (.inr (some 0))), some (.inl (bI (col))), some (.inl (bI (m2))), some (.inl (nI (i))), o4, o5, o6] [] (mw w h thr sam blk nxt came (pF w h blk col part (lb2)) rst) := by
          intro dLI
          induction dLI using Nat.strongRecOn with
          | _ dLI ihLI =>
            intro i lb2 m2 o4 o5 o6 hdLI hiLI HV HA _
            refine q_iload_n ok rfl dX1_findParts_47 ?_
            refine q_aload_n ok rfl dX1_findParts_48 ?_
            refine kX1_all (by decide) (Nat.le_of_ble_eq_true rfl) ok dX1_findParts_49 ?_
            refine q_icmpN_ge 180 (by omega) (by omega) ok dX1_findParts_52 (by decide) (fun h52 => ?_) (fun h52 => ?_)
            · refine q_goto 39 ok dX1_findParts_180 (by decide) ?_
              rcases HA with ⟨a1, a2, a3⟩ | ⟨a1, a2⟩
              · subst a1; subst a2
                refine ihL _ ?_ lb2 false _ _ _ _ rfl HV (fun _ k hk => a3 k (by omega))
                rw [hd]; simp; omega
              · subst a1
                refine ihL _ ?_ lb2 true _ _ _ _ rfl HV (fun q => by cases q)
                rw [hd]; simp only [if_true]; omega
            · have hil : i < w * h := by omega
              have hmi := Nat.mod_lt i (show w > 0 by omega)
              have hdi : i / w < h := Nat.div_lt_of_lt_mul hil
              refine q_aload_n ok rfl dX1_findParts_55 ?_
              refine mg_part ok dX1_findParts_56 ?_
              refine q_iload_n ok rfl dX1_findParts_59 ?_
              refine ml_part g (by omega) ok dX1_findParts_60 ?_
              refine q_iconstv (-1) ok (by decide) dX1_findParts_61 ?_
              refine q_icmp_eq 174 ok dX1_findParts_62 (by decide) (fun h62 => ?_) (fun h62 => ?_)
              · refine q_iincN_3 1 ok rfl (by decide) dX1_findParts_174 ?_
                refine q_goto 47 ok dX1_findParts_177 (by decide) ?_
                have hbn : ¬ blk i = col := fun q => by rw [pF_c hil q] at h62; exact nI_m1 (by have := (HV i hil q).1; omega) h62
                refine ihLI _ (by omega) (i + 1) lb2 m2 _ _ _ rfl (by omega) HV ?_ (by omega)
                rcases HA with ⟨a1, a2, a3⟩ | HA
                · exact Or.inl ⟨a1, a2, lt_s a3 (fun q => absurd q hbn)⟩
                · exact Or.inr HA
              · have hbi : blk i = col := Decidable.byContradiction (fun q => h62 (pF_n hil q))
                have hli := (HV i hil hbi).1
                have l4 := ls4_le w h blk lb2 col i
                refine q_iload_n ok rfl dX1_findParts_65 ?_
                refine q_aload_n ok rfl dX1_findParts_66 ?_
                refine mg_width ok dX1_findParts_67 ?_
                refine q_iremN (by omega) (by omega) (by omega) ok dX1_findParts_70 ?_
                refine q_istore_4 ok rfl dX1_findParts_71 ?_
                refine q_iload_n ok rfl dX1_findParts_73 ?_
                refine q_aload_n ok rfl dX1_findParts_74 ?_
                refine mg_width ok dX1_findParts_75 ?_
                refine q_idivN (by omega) (by omega) (by omega) ok dX1_findParts_78 ?_
                refine q_istore_5 ok rfl dX1_findParts_79 ?_
                refine q_aload_n ok rfl dX1_findParts_81 ?_
                refine q_aload_n ok rfl dX1_findParts_82 ?_
                refine mg_part ok dX1_findParts_83 ?_
                refine q_iload_n ok rfl dX1_findParts_86 ?_
                refine ml_part g (by omega) ok dX1_findParts_87 ?_
                rw [pF_c hil hbi]
                refine q_iload ok rfl dX1_findParts_88 ?_
                refine q_iconstv (nI 1) ok (by decide) dX1_findParts_90 ?_
                refine q_isub ok dX1_findParts_91 ?_
                refine q_iload ok rfl dX1_findParts_92 ?_
                refine q_iload_n ok rfl dX1_findParts_94 ?_
                refine kX1_lesser g (by decide) (Nat.le_of_ble_eq_true rfl) ok dX1_findParts_95 ?_
                rw [ls_eq g HV (by omega)]
                refine q_istore_6 ok rfl dX1_findParts_98 ?_
                refine q_aload_n ok rfl dX1_findParts_100 ?_
                refine q_iload ok rfl dX1_findParts_101 ?_
                refine q_iload ok rfl dX1_findParts_103 ?_
                refine q_iconstv (nI 1) ok (by decide) dX1_findParts_105 ?_
                refine q_iaddN ok dX1_findParts_106 ?_
                refine q_iload ok rfl dX1_findParts_107 ?_
                refine q_iload_n ok rfl dX1_findParts_109 ?_
                refine kX1_lesser g (by decide) (Nat.le_of_ble_eq_true rfl) ok dX1_findParts_110 ?_
                rw [ls_eq g HV (Nat.lt_of_le_of_lt (lsN_le _ _ _ _ _ _ _ _) (by omega))]
                refine q_istore_6 ok rfl dX1_findParts_113 ?_
                refine q_aload_n ok rfl dX1_findParts_115 ?_
                refine q_iload ok rfl dX1_findParts_116 ?_
                refine q_iload ok rfl dX1_findParts_118 ?_
                refine q_iload ok rfl dX1_findParts_120 ?_
                refine q_iconstv (nI 1) ok (by decide) dX1_findParts_122 ?_
                refine q_isub ok dX1_findParts_123 ?_
                refine q_iload_n ok rfl dX1_findParts_124 ?_
                refine kX1_lesser g (by decide) (Nat.le_of_ble_eq_true rfl) ok dX1_findParts_125 ?_
                rw [ls_eq g HV (Nat.lt_of_le_of_lt (Nat.le_trans (lsN_le _ _ _ _ _ _ _ _) (lsN_le _ _ _ _ _ _ _ _)) (by omega))]
                refine q_istore_6 ok rfl dX1_findParts_128 ?_
                refine q_aload_n ok rfl dX1_findParts_130 ?_
                refine q_iload ok rfl dX1_findParts_131 ?_
                refine q_iload ok rfl dX1_findParts_133 ?_
                refine q_iload ok rfl dX1_findParts_135 ?_
                refine q_iconstv (nI 1) ok (by decide) dX1_findParts_137 ?_
                refine q_iaddN ok dX1_findParts_138 ?_
                refine q_iload_n ok rfl dX1_findParts_139 ?_
                refine kX1_lesser g (by decide) (Nat.le_of_ble_eq_true rfl) ok dX1_findParts_140 ?_
                rw [ls_eq g HV (Nat.lt_of_le_of_lt (Nat.le_trans (lsN_le _ _ _ _ _ _ _ _) (Nat.le_trans (lsN_le _ _ _ _ _ _ _ _) (lsN_le _ _ _ _ _ _ _ _))) (by omega))]
                rw [show lsN w h blk lb2 col (lsN w h blk lb2 col (lsN w h blk lb2 col (lsN w h blk lb2 col (lb2 i) (nI (i % w) - nI 1) (nI (i / w))) (nI (i % w + 1)) (nI (i / w))) (nI (i % w)) (nI (i / w) - nI 1)) (nI (i % w)) (nI (i / w + 1)) = ls4 w h blk lb2 col i from rfl]
                refine q_istore_6 ok rfl dX1_findParts_143 ?_
                refine q_iload_n ok rfl dX1_findParts_145 ?_
                refine q_ifb_ne 160 ok dX1_findParts_146 (by decide) (fun h146 => ?_) (fun h146 => ?_)
                · refine q_iconstv (nI 1) ok (by decide) dX1_findParts_160 ?_
                  refine q_goto 165 ok dX1_findParts_161 (by decide) ?_
                  refine q_istore_2 ok rfl dX1_findParts_165 ?_
                  refine q_aload_n ok rfl dX1_findParts_166 ?_
                  refine mg_part ok dX1_findParts_167 ?_
                  refine q_iload_n ok rfl dX1_findParts_170 ?_
                  refine q_iload ok rfl dX1_findParts_171 ?_
                  refine ms_part g (by omega) ok dX1_findParts_173 ?_
                  refine q_iincN_3 1 ok rfl (by decide) dX1_findParts_174 ?_
                  refine q_goto 47 ok dX1_findParts_177 (by decide) ?_
                  rw [show nI (ls4 w h blk lb2 col i) = nI (ls4 w h blk lb2 col i) from rfl, pF_up hil hbi]
                  have hsu := sumN_up (f := lb2) (k := i) (m := ls4 w h blk lb2 col i) hil
                  refine ihLI _ (by omega) (i + 1) (va_up lb2 i (ls4 w h blk lb2 col i)) true _ _ _ rfl (by omega) (ls4_v g HV hil hbi) ?_ (by omega)
                  rcases HA with ⟨a1, a2, a3⟩ | ⟨a1, a2⟩
                  · rw [h146] at a1; cases a1
                  · refine Or.inr ⟨rfl, ?_⟩; omega
                · refine q_iload ok rfl dX1_findParts_149 ?_
                  refine q_aload_n ok rfl dX1_findParts_151 ?_
                  refine mg_part ok dX1_findParts_152 ?_
                  refine q_iload_n ok rfl dX1_findParts_155 ?_
                  refine ml_part g (by omega) ok dX1_findParts_156 ?_
                  rw [pF_c hil hbi]
                  refine q_icmpN_ge 164 (by omega) (by omega) ok dX1_findParts_157 (by decide) (fun h157 => ?_) (fun h157 => ?_)
                  · refine q_iconstv (nI 0) ok (by decide) dX1_findParts_164 ?_
                    refine q_istore_2 ok rfl dX1_findParts_165 ?_
                    refine q_aload_n ok rfl dX1_findParts_166 ?_
                    refine mg_part ok dX1_findParts_167 ?_
                    refine q_iload_n ok rfl dX1_findParts_170 ?_
                    refine q_iload ok rfl dX1_findParts_171 ?_
                    refine ms_part g (by omega) ok dX1_findParts_173 ?_
                    refine q_iincN_3 1 ok rfl (by decide) dX1_findParts_174 ?_
                    refine q_goto 47 ok dX1_findParts_177 (by decide) ?_
                    rw [show nI (ls4 w h blk lb2 col i) = nI (ls4 w h blk lb2 col i) from rfl, pF_up hil hbi]
                    have hsu := sumN_up (f := lb2) (k := i) (m := ls4 w h blk lb2 col i) hil
                    refine ihLI _ (by omega) (i + 1) (va_up lb2 i (ls4 w h blk lb2 col i)) false _ _ _ rfl (by omega) (ls4_v g HV hil hbi) ?_ (by omega)
                    rcases HA with ⟨a1, a2, a3⟩ | ⟨a1, a2⟩
                    · have hid : ls4 w h blk lb2 col i = lb2 i := by omega
                      refine Or.inl ⟨rfl, by rw [hid, va_up_id]; exact a2, lt_s a3 (fun _ b hab hb => ?_)⟩
                      subst a2
                      rw [← hid]; exact ls4_nb g hab hb
                    · rw [h146] at a1; cases a1
                  · refine q_iconstv (nI 1) ok (by decide) dX1_findParts_160 ?_
                    refine q_goto 165 ok dX1_findParts_161 (by decide) ?_
                    refine q_istore_2 ok rfl dX1_findParts_165 ?_
                    refine q_aload_n ok rfl dX1_findParts_166 ?_
                    refine mg_part ok dX1_findParts_167 ?_
                    refine q_iload_n ok rfl dX1_findParts_170 ?_
                    refine q_iload ok rfl dX1_findParts_171 ?_
                    refine ms_part g (by omega) ok dX1_findParts_173 ?_
                    refine q_iincN_3 1 ok rfl (by decide) dX1_findParts_174 ?_
                    refine q_goto 47 ok dX1_findParts_177 (by decide) ?_
                    rw [show nI (ls4 w h blk lb2 col i) = nI (ls4 w h blk lb2 col i) from rfl, pF_up hil hbi]
                    have hsu := sumN_up (f := lb2) (k := i) (m := ls4 w h blk lb2 col i) hil
                    refine ihLI _ (by omega) (i + 1) (va_up lb2 i (ls4 w h blk lb2 col i)) true _ _ _ rfl (by omega) (ls4_v g HV hil hbi) ?_ (by omega)
                    rcases HA with ⟨a1, a2, a3⟩ | ⟨a1, a2⟩
                    · refine Or.inr ⟨rfl, ?_⟩; subst a2; omega
                    · rw [h146] at a1; cases a1
        exact LI _ 0 lb false _ _ _ rfl (Nat.zero_le _) H0 (Or.inl ⟨rfl, rfl, lt_0⟩) (Nat.le_refl 0)
  have L1 : ∀ (dL1 i : Nat) , dL1 = w * h - i → i ≤ w * h → q_W x 2 [some (.inr (.inr (some 0))), some (.inl (bI (col))), some (.inl (nI (i))), none, none, none, none] [] (mw w h thr sam blk nxt came (fun k => if k < i then (if blk k = col then nI k else -1) else part k) rst) := by
    intro dL1
    induction dL1 using Nat.strongRecOn with
    | _ dL1 ihL1 =>
      intro i  hdL1 hiL1 
      refine q_iload_n ok rfl dX1_findParts_2 ?_
      refine q_aload_n ok rfl dX1_findParts_3 ?_
      refine kX1_all (by decide) (Nat.le_of_ble_eq_true rfl) ok dX1_findParts_4 ?_
      refine q_icmpN_ge 37 (by omega) (by omega) ok dX1_findParts_7 (by decide) (fun h7 => ?_) (fun h7 => ?_)
      · refine q_iconstv (nI 1) ok (by decide) dX1_findParts_37 ?_
        refine q_istore_2 ok rfl dX1_findParts_38 ?_
        rw [show (fun k => if k < i then (if blk k = col then nI k else -1) else part k) = pF w h blk col part (fun k => k) from by rw [show i = w * h by omega]; rfl]
        exact L _ (fun k => k) true none none none none rfl (fun k hk2 hb => ⟨Nat.le_refl k, Cn_rf⟩) (fun q => by cases q)
      · refine q_aload_n ok rfl dX1_findParts_10 ?_
        refine mg_part ok dX1_findParts_11 ?_
        refine q_iload_n ok rfl dX1_findParts_14 ?_
        refine q_aload_n ok rfl dX1_findParts_15 ?_
        refine mg_black ok dX1_findParts_16 ?_
        refine q_iload_n ok rfl dX1_findParts_19 ?_
        refine ml_blk g (by omega) ok dX1_findParts_20 ?_
        refine q_iload_n ok rfl dX1_findParts_21 ?_
        refine q_icmpb_ne 29 ok dX1_findParts_22 (by decide) (fun h22 => ?_) (fun h22 => ?_)
        · refine q_iconstv (-1) ok (by decide) dX1_findParts_29 ?_
          refine ms_part g (by omega) ok dX1_findParts_30 ?_
          refine q_iincN_2 1 ok rfl (by decide) dX1_findParts_31 ?_
          refine q_goto 2 ok dX1_findParts_34 (by decide) ?_
          rw [show va_up (fun k => if k < i then (if blk k = col then nI k else -1) else part k) i (-1) = (fun k => if k < i + 1 then (if blk k = col then nI k else -1) else part k) from (congrArg (va_up _ i) (if_neg h22).symm).trans (pu_step (F := (fun k => if blk k = col then nI k else -1)))]
          exact ihL1 _ (by omega) (i + 1) rfl (by omega)
        · refine q_iload_n ok rfl dX1_findParts_25 ?_
          refine q_goto 30 ok dX1_findParts_26 (by decide) ?_
          refine ms_part g (by omega) ok dX1_findParts_30 ?_
          refine q_iincN_2 1 ok rfl (by decide) dX1_findParts_31 ?_
          refine q_goto 2 ok dX1_findParts_34 (by decide) ?_
          rw [show va_up (fun k => if k < i then (if blk k = col then nI k else -1) else part k) i (nI i) = (fun k => if k < i + 1 then (if blk k = col then nI k else -1) else part k) from (congrArg (va_up _ i) (if_pos h22).symm).trans (pu_step (F := (fun k => if blk k = col then nI k else -1)))]
          exact ihL1 _ (by omega) (i + 1) rfl (by omega)
  refine q_iconstv (nI 0) ok (by decide) dX1_findParts_0 ?_
  refine q_istore_2 ok rfl dX1_findParts_1 ?_
  have := L1 _ 0 rfl (Nat.zero_le _)
  rw [pu_0 (F := (fun k => if blk k = col then nI k else -1))] at this
  exact this
theorem kX1_findParts {x : q_X} {cc : ByteArray} {fr lo pc : Nat} {lv : List (Option q_V)} {st : List q_V} {w : Nat} {h : Nat} {thr : Nat} {sam : Nat → Nat} {blk : Nat → Bool} {nxt : Nat → Bool} {came : Nat → Int32} {part : Nat → Int32} {rst : Int64} {col : Bool} (g : q_g w h) (hR : 2 + 1 ≤ fr ∧ 8 + (7 + 11) + 46 ≤ lo) (hst : (st.map (fun v => if q_nol (some v) then 1 else 2)).sum ≤ 8) (ok : q_ok x cc RX1 fr lo) (hd : decode cc pc = .ok (.invokevirtual 78, 3)) (kk : ∀ lb : Nat → Nat, fP w h blk col lb → q_W x (pc + 3) lv (st) (mw w h thr sam blk nxt came (pF w h blk col part lb) rst)) : q_W x pc lv (.inl (bI col) :: .inr (.inr (some 0)) :: st) (mw w h thr sam blk nxt came part rst) :=
  q_callV [.inl (bI col)] ct_X1_findParts lkX1_X1_findParts dc_X1_findParts rfl ok rfl hR hst (Nat.le_of_ble_eq_true rfl) hd ⟨w, h, thr, sam, blk, nxt, came, part, rst, col, g, rfl, rfl, kk⟩
