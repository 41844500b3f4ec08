-- THE REFERENCE, sixth part: specks, parts
theorem anyB_k {f : Nat → Bool} {n : Nat} (h : anyB f n = true) : anyB f (n + 1) = true := by show (anyB f n || f n) = true; rw [h]; rfl
theorem anyB_s {f : Nat → Bool} {n : Nat} (h : f n = true) : anyB f (n + 1) = true := by show (anyB f n || f n) = true; rw [h, Bool.or_true]
theorem anyB_n {f : Nat → Bool} {n : Nat} (h : anyB f n = false) (h2 : f n = false) : anyB f (n + 1) = false := by show (anyB f n || f n) = false; rw [h, h2]; rfl
theorem pF_q {w h : Nat} (g : q_g w h) {blk : Nat → Bool} {col : Bool} {part : Nat → Int32} {lb : Nat → Nat} (hv : vL w h blk col lb) {k p : Nat} (hk : k < w * h) (hp : p < w * h) : pF w h blk col part lb k = nI p ↔ lC_ blk col lb p k = true := by
  have hn := q_gn g
  rw [lC_t]
  by_cases e : blk k = col
  · have := (hv k hk e).1
    rw [pF_c hk e, nI_eq (by omega) (by omega)]
    exact ⟨fun q => ⟨e, q⟩, fun q => q.2⟩
  · rw [pF_n hk e]
    exact ⟨fun q => absurd q.symm (nI_m1 (by omega)), fun q => absurd q.1 e⟩
def tC (blk : Nat → Bool) (n : Nat) (col : Bool) (lb : Nat → Nat) (p : Nat) (go : Bool) (cur : Nat → Bool) (k : Nat) (cur2 : Nat → Bool) : Prop := ∀ j, j < n → cur2 j = if go = true ∧ j < k ∧ lC_ blk col lb p j = true then !col else cur j
theorem tC_0 {blk : Nat → Bool} {n : Nat} {col : Bool} {lb : Nat → Nat} {p : Nat} {go : Bool} {cur : Nat → Bool} : tC blk n col lb p go cur 0 cur := fun j _ => (if_neg (fun q => absurd q.2.1 (by omega))).symm
theorem tC_up {blk : Nat → Bool} {n : Nat} {col : Bool} {lb : Nat → Nat} {p : Nat} {go : Bool} {cur : Nat → Bool} {k : Nat} {cur2 : Nat → Bool} (H : tC blk n col lb p go cur k cur2) (hg : go = true) (hl : lC_ blk col lb p k = true) {v : Bool} (hv : (!col) = v) : tC blk n col lb p go cur (k + 1) (va_up cur2 k v) := by
  intro j hj
  by_cases e : j = k
  · subst e; rw [va_up_self, if_pos ⟨hg, by omega, hl⟩, hv]
  · rw [va_up_ne _ _ e, H j hj]
    by_cases q : go = true ∧ j < k ∧ lC_ blk col lb p j = true
    · rw [if_pos q, if_pos ⟨q.1, by omega, q.2.2⟩]
    · rw [if_neg q, if_neg (fun z => q ⟨z.1, by omega, z.2.2⟩)]
theorem tC_no {blk : Nat → Bool} {n : Nat} {col : Bool} {lb : Nat → Nat} {p : Nat} {go : Bool} {cur : Nat → Bool} {k : Nat} {cur2 : Nat → Bool} (H : tC blk n col lb p go cur k cur2) (hl : ¬ lC_ blk col lb p k = true) : tC blk n col lb p go cur (k + 1) (va_up cur2 k (cur2 k)) := by
  intro j hj
  have e : va_up cur2 k (cur2 k) j = cur2 j := by
    by_cases e : j = k
    · rw [e, va_up_self]
    · rw [va_up_ne _ _ e]
  rw [e, H j hj]
  by_cases q : go = true ∧ j < k ∧ lC_ blk col lb p j = true
  · rw [if_pos q, if_pos ⟨q.1, by omega, q.2.2⟩]
  · rw [if_neg q, if_neg (fun z => by
      by_cases e : j = k
      · subst e; exact hl z.2.2
      · exact q ⟨z.1, by omega, z.2.2⟩)]
theorem uI_cg {w h : Nat} {blk : Nat → Bool} {col : Bool} {mo : Nat} {lb : Nat → Nat} {p : Nat} {cur cur2 : Nat → Bool} {tn : Nat} (U : uI w h blk col mo lb p cur tn) (hc : ∀ k, k < w * h → cur2 k = cur k) : uI w h blk col mo lb p cur2 tn := ⟨fun k hk => by rw [hc k hk]; exact U.1 k hk, U.2⟩
def gO (blk : Nat → Bool) (w h : Nat) (col : Bool) (mo : Nat) (lb : Nat → Nat) (p : Nat) (go : Bool) : Prop := go = true ↔ (0 < cntB (lC_ blk col lb p) (w * h) ∧ cntB (lC_ blk col lb p) (w * h) ≤ mo ∧ (col = true ∨ anyB (fun j => lC_ blk col lb p j && eP w h j) (w * h) = false))
theorem gO_n {w h : Nat} {blk : Nat → Bool} {col : Bool} {mo : Nat} {lb : Nat → Nat} (H : fP w h blk col lb) {p : Nat} {cur cur2 : Nat → Bool} {tn : Nat} {go : Bool} {k : Nat} (U : uI w h blk col mo lb p cur tn) (G : gO blk w h col mo lb p go) (C : tC blk (w * h) col lb p go cur k cur2) (hg : go = false) : uI w h blk col mo lb (p + 1) cur2 tn :=
  uI_cg (uI_no H U (fun q => by have := G.mpr q; rw [hg] at this; cases this)) (fun j hj => by rw [C j hj, if_neg (fun q => by have := q.1; rw [hg] at this; cases this)])
theorem gO_y {w h : Nat} {blk : Nat → Bool} {col : Bool} {mo : Nat} {lb : Nat → Nat} (H : fP w h blk col lb) {p : Nat} {cur cur2 : Nat → Bool} {tn : Nat} {go : Bool} {k : Nat} (U : uI w h blk col mo lb p cur tn) (G : gO blk w h col mo lb p go) (C : tC blk (w * h) col lb p go cur k cur2) (hg : go = true) (hk : w * h ≤ k) : uI w h blk col mo lb (p + 1) cur2 (tn + cntB (lC_ blk col lb p) (w * h)) := by
  obtain ⟨g1, g2, g3⟩ := G.mp hg
  refine uI_go H U g1 g2 g3 (fun j hj => ?_)
  rw [C j hj]
  by_cases e : lC_ blk col lb p j = true
  · rw [if_pos e, if_pos ⟨hg, by omega, e⟩]
  · rw [if_neg e, if_neg (fun q => e q.2.2)]
def sp_X1_turnSpecks : List q_V → List q_E → (Option q_V → List q_E → Prop) → Prop := fun as Wd K => ∃ (w : Nat) (h : Nat) (thr : Nat) (sam : Nat → Nat) (blk : Nat → Bool) (nxt : Nat → Bool) (came : Nat → Int32) (part : Nat → Int32) (rst : Int64) (col : Bool) (mo : Nat), (q_g w h) ∧ (mo ≤ 256) ∧ as = [.inr (.inr (some 0)), .inl (bI col), .inl (nI mo)] ∧ Wd = (mw w h thr sam blk nxt came part rst) ∧ (∀ (blk2 : Nat → Bool) (part2 : Nat → Int32), tPost w h blk col mo blk2 → K (some (.inl (nI (cntB (cB (Sp w h blk col mo)) (w * h))))) (mw w h thr sam (blk2) nxt came (part2) rst))
set_option maxHeartbeats 4000000 in
set_option maxRecDepth 20000 in
theorem ct_X1_turnSpecks : q_Ct yX1_turnSpecks cX1_turnSpecks 10 (some .int) 3 72 sp_X1_turnSpecks := by
  refine q_met (by decide) ?_
  intro x as Wd K hs ok fn
  obtain ⟨w, h, thr, sam, blk, nxt, came, part, rst, col, mo, g, hm, rfl, rfl, hk⟩ := hs
  show q_W x 0 [some (.inr (.inr (some 0))), some (.inl (bI col)), some (.inl (nI mo)), none, none, none, none, none, none, none] [] (mw w h thr sam blk nxt came part rst)
  have hn := q_gn g
  have hw := g.2.1
  have hw1 := g.1
  have hh := g.2.2.2
  have hh1 := g.2.2.1
  refine q_aload_n ok rfl dX1_turnSpecks_0 ?_
  refine q_iload_n ok rfl dX1_turnSpecks_1 ?_
  refine kX1_findParts g (by decide) (Nat.le_of_ble_eq_true rfl) ok dX1_turnSpecks_2 ?_
  intro lb hF
  refine q_iconstv (nI 0) ok (by decide) dX1_turnSpecks_5 ?_
  refine q_istore_3 ok rfl dX1_turnSpecks_6 ?_
  refine q_iconstv (nI 0) ok (by decide) dX1_turnSpecks_7 ?_
  refine q_istore_4 ok rfl dX1_turnSpecks_8 ?_
  have L : ∀ (dL p : Nat) (cur : Nat → Bool) (tn : Nat) (o5 o6 o7 o8 o9 : Option q_V), dL = w * h - p → p ≤ w * h → uI w h blk col mo lb p cur tn → q_W x 10 [some (.inr (.inr (some 0))), some (.inl (bI (col))), some (.inl (nI (mo))), some (.inl (nI (tn))), some (.inl (nI (p))), o5, o6, o7, o8, o9] [] (mw w h thr sam (cur) nxt came (pF w h blk col part lb) rst) := by
    intro dL
    induction dL using Nat.strongRecOn with
    | _ dL ihL =>
      intro p cur tn o5 o6 o7 o8 o9 hdL hiL U
      refine q_iload ok rfl dX1_turnSpecks_10 ?_
      refine q_aload_n ok rfl dX1_turnSpecks_12 ?_
      refine kX1_all (by decide) (Nat.le_of_ble_eq_true rfl) ok dX1_turnSpecks_13 ?_
      refine q_icmpN_ge 248 (by omega) (by omega) ok dX1_turnSpecks_16 (by decide) (fun h16 => ?_) (fun h16 => ?_)
      · refine q_iload_n ok rfl dX1_turnSpecks_248 ?_
        exact q_iret ok fn dX1_turnSpecks_249 (by obtain ⟨U1, U2⟩ := uI_end hF (show uI w h blk col mo lb (w * h) cur tn from (show p = w * h by omega) ▸ U); rw [U2]; exact hk _ _ U1)
      · refine q_iconstv (nI 0) ok (by decide) dX1_turnSpecks_19 ?_
        refine q_istore_5 ok rfl dX1_turnSpecks_20 ?_
        refine q_iconstv (nI 0) ok (by decide) dX1_turnSpecks_22 ?_
        refine q_istore_6 ok rfl dX1_turnSpecks_23 ?_
        refine q_iconstv (nI 0) ok (by decide) dX1_turnSpecks_25 ?_
        refine q_istore_7 ok rfl dX1_turnSpecks_26 ?_
        have hpl : p < w * h := by omega
        have LB : ∀ (dLB k : Nat) (go : Bool) (cur2 : Nat → Bool) (o9 : Option q_V), dLB = w * h - k → k ≤ w * h → tC blk (w * h) col lb p go cur k cur2 → gO blk w h col mo lb p go → q_W x 170 [some (.inr (.inr (some 0))), some (.inl (bI (col))), some (.inl (nI (mo))), some (.inl (nI (tn))), some (.inl (nI (p))), some (.inl (nI (cntB (lC_ blk col lb p) (w * h)))), some (.inl (bI (anyB (fun j => lC_ blk col lb p j && eP w h j) (w * h)))), some (.inl (bI (go))), some (.inl (nI (k))), o9] [] (mw w h thr sam (cur2) nxt came (pF w h blk col part lb) rst) := by
          intro dLB
          induction dLB using Nat.strongRecOn with
          | _ dLB ihLB =>
            intro k go cur2 o9 hdLB hiLB C G
            refine q_iload ok rfl dX1_turnSpecks_170 ?_
            refine q_aload_n ok rfl dX1_turnSpecks_172 ?_
            refine kX1_all (by decide) (Nat.le_of_ble_eq_true rfl) ok dX1_turnSpecks_173 ?_
            refine q_icmpN_ge 228 (by omega) (by omega) ok dX1_turnSpecks_176 (by decide) (fun h176 => ?_) (fun h176 => ?_)
            · refine q_iload ok rfl dX1_turnSpecks_228 ?_
              refine q_ifb_eq 240 ok dX1_turnSpecks_230 (by decide) (fun h230 => ?_) (fun h230 => ?_)
              · refine q_iload_n ok rfl dX1_turnSpecks_240 ?_
                refine q_istore_3 ok rfl dX1_turnSpecks_241 ?_
                refine q_iincN_4 1 ok rfl (by decide) dX1_turnSpecks_242 ?_
                refine q_goto 10 ok dX1_turnSpecks_245 (by decide) ?_
                exact ihL _ (by omega) (p + 1) _ _ _ _ _ _ _ rfl (by omega) (gO_n hF U G C h230)
              · refine q_iload_n ok rfl dX1_turnSpecks_233 ?_
                refine q_iload ok rfl dX1_turnSpecks_234 ?_
                refine q_iaddN ok dX1_turnSpecks_236 ?_
                refine q_goto 241 ok dX1_turnSpecks_237 (by decide) ?_
                refine q_istore_3 ok rfl dX1_turnSpecks_241 ?_
                refine q_iincN_4 1 ok rfl (by decide) dX1_turnSpecks_242 ?_
                refine q_goto 10 ok dX1_turnSpecks_245 (by decide) ?_
                exact ihL _ (by omega) (p + 1) _ _ _ _ _ _ _ rfl (by omega) (gO_y hF U G C h230 (by omega))
            · have hkl : k < w * h := by omega
              refine q_iload ok rfl dX1_turnSpecks_179 ?_
              refine q_ifb_eq 228 ok dX1_turnSpecks_181 (by decide) (fun h181 => ?_) (fun h181 => ?_)
              · refine q_iload ok rfl dX1_turnSpecks_228 ?_
                refine q_ifb_eq 240 ok dX1_turnSpecks_230 (by decide) (fun h230 => ?_) (fun h230 => ?_)
                · refine q_iload_n ok rfl dX1_turnSpecks_240 ?_
                  refine q_istore_3 ok rfl dX1_turnSpecks_241 ?_
                  refine q_iincN_4 1 ok rfl (by decide) dX1_turnSpecks_242 ?_
                  refine q_goto 10 ok dX1_turnSpecks_245 (by decide) ?_
                  exact ihL _ (by omega) (p + 1) _ _ _ _ _ _ _ rfl (by omega) (gO_n hF U G C h230)
                · refine q_iload_n ok rfl dX1_turnSpecks_233 ?_
                  refine q_iload ok rfl dX1_turnSpecks_234 ?_
                  refine q_iaddN ok dX1_turnSpecks_236 ?_
                  refine q_goto 241 ok dX1_turnSpecks_237 (by decide) ?_
                  refine q_istore_3 ok rfl dX1_turnSpecks_241 ?_
                  refine q_iincN_4 1 ok rfl (by decide) dX1_turnSpecks_242 ?_
                  refine q_goto 10 ok dX1_turnSpecks_245 (by decide) ?_
                  rw [h181] at h230; exact absurd h230 (by decide)
              · refine q_aload_n ok rfl dX1_turnSpecks_184 ?_
                refine mg_black ok dX1_turnSpecks_185 ?_
                refine q_iload ok rfl dX1_turnSpecks_188 ?_
                refine q_aload_n ok rfl dX1_turnSpecks_190 ?_
                refine mg_part ok dX1_turnSpecks_191 ?_
                refine q_iload ok rfl dX1_turnSpecks_194 ?_
                refine ml_part g (by omega) ok dX1_turnSpecks_196 ?_
                refine q_iload ok rfl dX1_turnSpecks_197 ?_
                refine q_icmp_ne 214 ok dX1_turnSpecks_199 (by decide) (fun h199 => ?_) (fun h199 => ?_)
                · refine q_aload_n ok rfl dX1_turnSpecks_214 ?_
                  refine mg_black ok dX1_turnSpecks_215 ?_
                  refine q_iload ok rfl dX1_turnSpecks_218 ?_
                  refine ml_blk g (by omega) ok dX1_turnSpecks_220 ?_
                  refine ms_blk g (by omega) ok dX1_turnSpecks_221 ?_
                  refine q_iincN_8 1 ok rfl (by decide) dX1_turnSpecks_222 ?_
                  refine q_goto 170 ok dX1_turnSpecks_225 (by decide) ?_
                  exact ihLB _ (by omega) (k + 1) go _ o9 rfl (by omega) (tC_no C (fun q => h199 ((pF_q g hF.1 hkl hpl).mpr q))) G
                · refine q_iload_n ok rfl dX1_turnSpecks_202 ?_
                  refine q_ifb_ne 210 ok dX1_turnSpecks_203 (by decide) (fun h203 => ?_) (fun h203 => ?_)
                  · refine q_iconstv (nI 0) ok (by decide) dX1_turnSpecks_210 ?_
                    refine q_goto 221 ok dX1_turnSpecks_211 (by decide) ?_
                    refine ms_blk (v := false) g (by omega) ok dX1_turnSpecks_221 ?_
                    refine q_iincN_8 1 ok rfl (by decide) dX1_turnSpecks_222 ?_
                    refine q_goto 170 ok dX1_turnSpecks_225 (by decide) ?_
                    exact ihLB _ (by omega) (k + 1) go _ o9 rfl (by omega) (tC_up C h181 ((pF_q g hF.1 hkl hpl).mp h199) (by rw [h203]; rfl)) G
                  · refine q_iconstv (nI 1) ok (by decide) dX1_turnSpecks_206 ?_
                    refine q_goto 221 ok dX1_turnSpecks_207 (by decide) ?_
                    refine ms_blk (v := true) g (by omega) ok dX1_turnSpecks_221 ?_
                    refine q_iincN_8 1 ok rfl (by decide) dX1_turnSpecks_222 ?_
                    refine q_goto 170 ok dX1_turnSpecks_225 (by decide) ?_
                    exact ihLB _ (by omega) (k + 1) go _ o9 rfl (by omega) (tC_up C h181 ((pF_q g hF.1 hkl hpl).mp h199) (by rw [h203]; rfl)) G
        have LA : ∀ (dLA i : Nat) (o8 o9 : Option q_V), dLA = w * h - i → i ≤ w * h → q_W x 28 [some (.inr (.inr (some 0))), some (.inl (bI (col))), some (.inl (nI (mo))), some (.inl (nI (tn))), some (.inl (nI (p))), some (.inl (nI (cntB (lC_ blk col lb p) i))), some (.inl (bI (anyB (fun j => lC_ blk col lb p j && eP w h j) i))), some (.inl (nI (i))), o8, o9] [] (mw w h thr sam (cur) nxt came (pF w h blk col part lb) rst) := by
          intro dLA
          induction dLA using Nat.strongRecOn with
          | _ dLA ihLA =>
            intro i o8 o9 hdLA hiLA 
            refine q_iload ok rfl dX1_turnSpecks_28 ?_
            refine q_aload_n ok rfl dX1_turnSpecks_30 ?_
            refine kX1_all (by decide) (Nat.le_of_ble_eq_true rfl) ok dX1_turnSpecks_31 ?_
            refine q_icmpN_ge 140 (by omega) (by omega) ok dX1_turnSpecks_34 (by decide) (fun h34 => ?_) (fun h34 => ?_)
            · have hcl := cntB_le (lC_ blk col lb p) i
              refine q_iload ok rfl dX1_turnSpecks_140 ?_
              refine q_ifN_le 164 (by omega) ok dX1_turnSpecks_142 (by decide) (fun h142 => ?_) (fun h142 => ?_)
              · refine q_iconstv (nI 0) ok (by decide) dX1_turnSpecks_164 ?_
                refine q_istore_7 ok rfl dX1_turnSpecks_165 ?_
                refine q_iconstv (nI 0) ok (by decide) dX1_turnSpecks_167 ?_
                refine q_istore_8 ok rfl dX1_turnSpecks_168 ?_
                have hi : i = w * h := by omega
                subst hi
                exact LB _ 0 false cur _ rfl (Nat.zero_le _) tC_0 ⟨fun q => (by cases q), fun q => absurd q.1 (by omega)⟩
              · refine q_iload ok rfl dX1_turnSpecks_145 ?_
                refine q_iload_n ok rfl dX1_turnSpecks_147 ?_
                refine q_icmpN_gt 164 (by omega) (by omega) ok dX1_turnSpecks_148 (by decide) (fun h148 => ?_) (fun h148 => ?_)
                · refine q_iconstv (nI 0) ok (by decide) dX1_turnSpecks_164 ?_
                  refine q_istore_7 ok rfl dX1_turnSpecks_165 ?_
                  refine q_iconstv (nI 0) ok (by decide) dX1_turnSpecks_167 ?_
                  refine q_istore_8 ok rfl dX1_turnSpecks_168 ?_
                  have hi : i = w * h := by omega
                  subst hi
                  exact LB _ 0 false cur _ rfl (Nat.zero_le _) tC_0 ⟨fun q => (by cases q), fun q => absurd q.2.1 (by omega)⟩
                · refine q_iload_n ok rfl dX1_turnSpecks_151 ?_
                  refine q_ifb_ne 160 ok dX1_turnSpecks_152 (by decide) (fun h152 => ?_) (fun h152 => ?_)
                  · refine q_iconstv (nI 1) ok (by decide) dX1_turnSpecks_160 ?_
                    refine q_goto 165 ok dX1_turnSpecks_161 (by decide) ?_
                    refine q_istore_7 ok rfl dX1_turnSpecks_165 ?_
                    refine q_iconstv (nI 0) ok (by decide) dX1_turnSpecks_167 ?_
                    refine q_istore_8 ok rfl dX1_turnSpecks_168 ?_
                    have hi : i = w * h := by omega
                    subst hi
                    exact LB _ 0 true cur _ rfl (Nat.zero_le _) tC_0 ⟨fun _ => ⟨by omega, by omega, Or.inl h152⟩, fun _ => rfl⟩
                  · refine q_iload ok rfl dX1_turnSpecks_155 ?_
                    refine q_ifb_ne 164 ok dX1_turnSpecks_157 (by decide) (fun h157 => ?_) (fun h157 => ?_)
                    · refine q_iconstv (nI 0) ok (by decide) dX1_turnSpecks_164 ?_
                      refine q_istore_7 ok rfl dX1_turnSpecks_165 ?_
                      refine q_iconstv (nI 0) ok (by decide) dX1_turnSpecks_167 ?_
                      refine q_istore_8 ok rfl dX1_turnSpecks_168 ?_
                      have hi : i = w * h := by omega
                      subst hi
                      exact LB _ 0 false cur _ rfl (Nat.zero_le _) tC_0 ⟨fun q => (by cases q), fun q => by rcases q.2.2 with z | z; (rw [h152] at z; cases z); (rw [h157] at z; cases z)⟩
                    · refine q_iconstv (nI 1) ok (by decide) dX1_turnSpecks_160 ?_
                      refine q_goto 165 ok dX1_turnSpecks_161 (by decide) ?_
                      refine q_istore_7 ok rfl dX1_turnSpecks_165 ?_
                      refine q_iconstv (nI 0) ok (by decide) dX1_turnSpecks_167 ?_
                      refine q_istore_8 ok rfl dX1_turnSpecks_168 ?_
                      have hi : i = w * h := by omega
                      subst hi
                      exact LB _ 0 true cur _ rfl (Nat.zero_le _) tC_0 ⟨fun _ => ⟨by omega, by omega, Or.inr h157⟩, fun _ => rfl⟩
            · have hil : i < w * h := by omega
              have hmi := Nat.mod_lt i (show w > 0 by omega)
              have hdi : i / w < h := Nat.div_lt_of_lt_mul hil
              refine q_aload_n ok rfl dX1_turnSpecks_37 ?_
              refine mg_part ok dX1_turnSpecks_38 ?_
              refine q_iload ok rfl dX1_turnSpecks_41 ?_
              refine ml_part g (by omega) ok dX1_turnSpecks_43 ?_
              refine q_iload ok rfl dX1_turnSpecks_44 ?_
              refine q_icmp_ne 56 ok dX1_turnSpecks_46 (by decide) (fun h46 => ?_) (fun h46 => ?_)
              · refine q_iload ok rfl dX1_turnSpecks_56 ?_
                refine q_istore_5 ok rfl dX1_turnSpecks_58 ?_
                refine q_iload ok rfl dX1_turnSpecks_60 ?_
                refine q_aload_n ok rfl dX1_turnSpecks_62 ?_
                refine mg_width ok dX1_turnSpecks_63 ?_
                refine q_iremN (by omega) (by omega) (by omega) ok dX1_turnSpecks_66 ?_
                refine q_istore_8 ok rfl dX1_turnSpecks_67 ?_
                refine q_iload ok rfl dX1_turnSpecks_69 ?_
                refine q_aload_n ok rfl dX1_turnSpecks_71 ?_
                refine mg_width ok dX1_turnSpecks_72 ?_
                refine q_idivN (by omega) (by omega) (by omega) ok dX1_turnSpecks_75 ?_
                refine q_istore_9 ok rfl dX1_turnSpecks_76 ?_
                refine q_iload ok rfl dX1_turnSpecks_78 ?_
                refine q_ifb_ne 127 ok dX1_turnSpecks_80 (by decide) (fun h80 => ?_) (fun h80 => ?_)
                · refine q_iconstv (nI 1) ok (by decide) dX1_turnSpecks_127 ?_
                  refine q_goto 132 ok dX1_turnSpecks_128 (by decide) ?_
                  refine q_istore_6 ok rfl dX1_turnSpecks_132 ?_
                  refine q_iincN_7 1 ok rfl (by decide) dX1_turnSpecks_134 ?_
                  refine q_goto 28 ok dX1_turnSpecks_137 (by decide) ?_
                  have e1 : cntB (lC_ blk col lb p) (i + 1) = cntB (lC_ blk col lb p) i := cntB_f (by cases z : lC_ blk col lb p i; rfl; exact absurd z (fun q => h46 ((pF_q g hF.1 hil hpl).mpr q)))
                  have e2 : anyB (fun j => lC_ blk col lb p j && eP w h j) (i + 1) = true := anyB_k h80
                  have z := fun o8 o9 : Option q_V => ihLA _ (by omega) (i + 1) o8 o9 rfl (by omega)
                  rw [e1, e2] at z
                  exact z _ _
                · refine q_aload_n ok rfl dX1_turnSpecks_83 ?_
                  refine mg_part ok dX1_turnSpecks_84 ?_
                  refine q_iload ok rfl dX1_turnSpecks_87 ?_
                  refine ml_part g (by omega) ok dX1_turnSpecks_89 ?_
                  refine q_iload ok rfl dX1_turnSpecks_90 ?_
                  refine q_icmp_ne 131 ok dX1_turnSpecks_92 (by decide) (fun h92 => ?_) (fun h92 => ?_)
                  · refine q_iconstv (nI 0) ok (by decide) dX1_turnSpecks_131 ?_
                    refine q_istore_6 ok rfl dX1_turnSpecks_132 ?_
                    refine q_iincN_7 1 ok rfl (by decide) dX1_turnSpecks_134 ?_
                    refine q_goto 28 ok dX1_turnSpecks_137 (by decide) ?_
                    have e1 : cntB (lC_ blk col lb p) (i + 1) = cntB (lC_ blk col lb p) i := cntB_f (by cases z : lC_ blk col lb p i; rfl; exact absurd z (fun q => h46 ((pF_q g hF.1 hil hpl).mpr q)))
                    have e2 : anyB (fun j => lC_ blk col lb p j && eP w h j) (i + 1) = false := anyB_n h80 (by rw [show lC_ blk col lb p i = false by cases z : lC_ blk col lb p i; rfl; exact absurd ((pF_q g hF.1 hil hpl).mpr z) h92]; rfl)
                    have z := fun o8 o9 : Option q_V => ihLA _ (by omega) (i + 1) o8 o9 rfl (by omega)
                    rw [e1, e2] at z
                    exact z _ _
                  · refine q_iload ok rfl dX1_turnSpecks_95 ?_
                    refine q_ifN_eq 127 (by omega) ok dX1_turnSpecks_97 (by decide) (fun h97 => ?_) (fun h97 => ?_)
                    · refine q_iconstv (nI 1) ok (by decide) dX1_turnSpecks_127 ?_
                      refine q_goto 132 ok dX1_turnSpecks_128 (by decide) ?_
                      refine q_istore_6 ok rfl dX1_turnSpecks_132 ?_
                      refine q_iincN_7 1 ok rfl (by decide) dX1_turnSpecks_134 ?_
                      refine q_goto 28 ok dX1_turnSpecks_137 (by decide) ?_
                      have e1 : cntB (lC_ blk col lb p) (i + 1) = cntB (lC_ blk col lb p) i := cntB_f (by cases z : lC_ blk col lb p i; rfl; exact absurd z (fun q => h46 ((pF_q g hF.1 hil hpl).mpr q)))
                      have e2 : anyB (fun j => lC_ blk col lb p j && eP w h j) (i + 1) = true := anyB_s (by rw [(pF_q g hF.1 hil hpl).mp h92, show eP w h i = true from decide_eq_true (by omega)]; rfl)
                      have z := fun o8 o9 : Option q_V => ihLA _ (by omega) (i + 1) o8 o9 rfl (by omega)
                      rw [e1, e2] at z
                      exact z _ _
                    · refine q_iload ok rfl dX1_turnSpecks_100 ?_
                      refine q_ifN_eq 127 (by omega) ok dX1_turnSpecks_102 (by decide) (fun h102 => ?_) (fun h102 => ?_)
                      · refine q_iconstv (nI 1) ok (by decide) dX1_turnSpecks_127 ?_
                        refine q_goto 132 ok dX1_turnSpecks_128 (by decide) ?_
                        refine q_istore_6 ok rfl dX1_turnSpecks_132 ?_
                        refine q_iincN_7 1 ok rfl (by decide) dX1_turnSpecks_134 ?_
                        refine q_goto 28 ok dX1_turnSpecks_137 (by decide) ?_
                        have e1 : cntB (lC_ blk col lb p) (i + 1) = cntB (lC_ blk col lb p) i := cntB_f (by cases z : lC_ blk col lb p i; rfl; exact absurd z (fun q => h46 ((pF_q g hF.1 hil hpl).mpr q)))
                        have e2 : anyB (fun j => lC_ blk col lb p j && eP w h j) (i + 1) = true := anyB_s (by rw [(pF_q g hF.1 hil hpl).mp h92, show eP w h i = true from decide_eq_true (by omega)]; rfl)
                        have z := fun o8 o9 : Option q_V => ihLA _ (by omega) (i + 1) o8 o9 rfl (by omega)
                        rw [e1, e2] at z
                        exact z _ _
                      · refine q_iload ok rfl dX1_turnSpecks_105 ?_
                        refine q_aload_n ok rfl dX1_turnSpecks_107 ?_
                        refine mg_width ok dX1_turnSpecks_108 ?_
                        refine q_iconstv (nI 1) ok (by decide) dX1_turnSpecks_111 ?_
                        refine q_isubN (by omega) ok dX1_turnSpecks_112 ?_
                        refine q_icmpN_eq 127 (by omega) (by omega) ok dX1_turnSpecks_113 (by decide) (fun h113 => ?_) (fun h113 => ?_)
                        · refine q_iconstv (nI 1) ok (by decide) dX1_turnSpecks_127 ?_
                          refine q_goto 132 ok dX1_turnSpecks_128 (by decide) ?_
                          refine q_istore_6 ok rfl dX1_turnSpecks_132 ?_
                          refine q_iincN_7 1 ok rfl (by decide) dX1_turnSpecks_134 ?_
                          refine q_goto 28 ok dX1_turnSpecks_137 (by decide) ?_
                          have e1 : cntB (lC_ blk col lb p) (i + 1) = cntB (lC_ blk col lb p) i := cntB_f (by cases z : lC_ blk col lb p i; rfl; exact absurd z (fun q => h46 ((pF_q g hF.1 hil hpl).mpr q)))
                          have e2 : anyB (fun j => lC_ blk col lb p j && eP w h j) (i + 1) = true := anyB_s (by rw [(pF_q g hF.1 hil hpl).mp h92, show eP w h i = true from decide_eq_true (by omega)]; rfl)
                          have z := fun o8 o9 : Option q_V => ihLA _ (by omega) (i + 1) o8 o9 rfl (by omega)
                          rw [e1, e2] at z
                          exact z _ _
                        · refine q_iload ok rfl dX1_turnSpecks_116 ?_
                          refine q_aload_n ok rfl dX1_turnSpecks_118 ?_
                          refine mg_height ok dX1_turnSpecks_119 ?_
                          refine q_iconstv (nI 1) ok (by decide) dX1_turnSpecks_122 ?_
                          refine q_isubN (by omega) ok dX1_turnSpecks_123 ?_
                          refine q_icmpN_ne 131 (by omega) (by omega) ok dX1_turnSpecks_124 (by decide) (fun h124 => ?_) (fun h124 => ?_)
                          · refine q_iconstv (nI 0) ok (by decide) dX1_turnSpecks_131 ?_
                            refine q_istore_6 ok rfl dX1_turnSpecks_132 ?_
                            refine q_iincN_7 1 ok rfl (by decide) dX1_turnSpecks_134 ?_
                            refine q_goto 28 ok dX1_turnSpecks_137 (by decide) ?_
                            have e1 : cntB (lC_ blk col lb p) (i + 1) = cntB (lC_ blk col lb p) i := cntB_f (by cases z : lC_ blk col lb p i; rfl; exact absurd z (fun q => h46 ((pF_q g hF.1 hil hpl).mpr q)))
                            have e2 : anyB (fun j => lC_ blk col lb p j && eP w h j) (i + 1) = false := anyB_n h80 (by rw [show eP w h i = false from decide_eq_false (by omega), Bool.and_false])
                            have z := fun o8 o9 : Option q_V => ihLA _ (by omega) (i + 1) o8 o9 rfl (by omega)
                            rw [e1, e2] at z
                            exact z _ _
                          · refine q_iconstv (nI 1) ok (by decide) dX1_turnSpecks_127 ?_
                            refine q_goto 132 ok dX1_turnSpecks_128 (by decide) ?_
                            refine q_istore_6 ok rfl dX1_turnSpecks_132 ?_
                            refine q_iincN_7 1 ok rfl (by decide) dX1_turnSpecks_134 ?_
                            refine q_goto 28 ok dX1_turnSpecks_137 (by decide) ?_
                            have e1 : cntB (lC_ blk col lb p) (i + 1) = cntB (lC_ blk col lb p) i := cntB_f (by cases z : lC_ blk col lb p i; rfl; exact absurd z (fun q => h46 ((pF_q g hF.1 hil hpl).mpr q)))
                            have e2 : anyB (fun j => lC_ blk col lb p j && eP w h j) (i + 1) = true := anyB_s (by rw [(pF_q g hF.1 hil hpl).mp h92, show eP w h i = true from decide_eq_true (by omega)]; rfl)
                            have z := fun o8 o9 : Option q_V => ihLA _ (by omega) (i + 1) o8 o9 rfl (by omega)
                            rw [e1, e2] at z
                            exact z _ _
              · refine q_iload ok rfl dX1_turnSpecks_49 ?_
                refine q_iconstv (nI 1) ok (by decide) dX1_turnSpecks_51 ?_
                refine q_iaddN ok dX1_turnSpecks_52 ?_
                refine q_goto 58 ok dX1_turnSpecks_53 (by decide) ?_
                refine q_istore_5 ok rfl dX1_turnSpecks_58 ?_
                refine q_iload ok rfl dX1_turnSpecks_60 ?_
                refine q_aload_n ok rfl dX1_turnSpecks_62 ?_
                refine mg_width ok dX1_turnSpecks_63 ?_
                refine q_iremN (by omega) (by omega) (by omega) ok dX1_turnSpecks_66 ?_
                refine q_istore_8 ok rfl dX1_turnSpecks_67 ?_
                refine q_iload ok rfl dX1_turnSpecks_69 ?_
                refine q_aload_n ok rfl dX1_turnSpecks_71 ?_
                refine mg_width ok dX1_turnSpecks_72 ?_
                refine q_idivN (by omega) (by omega) (by omega) ok dX1_turnSpecks_75 ?_
                refine q_istore_9 ok rfl dX1_turnSpecks_76 ?_
                refine q_iload ok rfl dX1_turnSpecks_78 ?_
                refine q_ifb_ne 127 ok dX1_turnSpecks_80 (by decide) (fun h80 => ?_) (fun h80 => ?_)
                · refine q_iconstv (nI 1) ok (by decide) dX1_turnSpecks_127 ?_
                  refine q_goto 132 ok dX1_turnSpecks_128 (by decide) ?_
                  refine q_istore_6 ok rfl dX1_turnSpecks_132 ?_
                  refine q_iincN_7 1 ok rfl (by decide) dX1_turnSpecks_134 ?_
                  refine q_goto 28 ok dX1_turnSpecks_137 (by decide) ?_
                  have e1 : cntB (lC_ blk col lb p) (i + 1) = cntB (lC_ blk col lb p) i + 1 := cntB_t ((pF_q g hF.1 hil hpl).mp h46)
                  have e2 : anyB (fun j => lC_ blk col lb p j && eP w h j) (i + 1) = true := anyB_k h80
                  have z := fun o8 o9 : Option q_V => ihLA _ (by omega) (i + 1) o8 o9 rfl (by omega)
                  rw [e1, e2] at z
                  exact z _ _
                · refine q_aload_n ok rfl dX1_turnSpecks_83 ?_
                  refine mg_part ok dX1_turnSpecks_84 ?_
                  refine q_iload ok rfl dX1_turnSpecks_87 ?_
                  refine ml_part g (by omega) ok dX1_turnSpecks_89 ?_
                  refine q_iload ok rfl dX1_turnSpecks_90 ?_
                  refine q_icmp_ne 131 ok dX1_turnSpecks_92 (by decide) (fun h92 => ?_) (fun h92 => ?_)
                  · refine q_iconstv (nI 0) ok (by decide) dX1_turnSpecks_131 ?_
                    refine q_istore_6 ok rfl dX1_turnSpecks_132 ?_
                    refine q_iincN_7 1 ok rfl (by decide) dX1_turnSpecks_134 ?_
                    refine q_goto 28 ok dX1_turnSpecks_137 (by decide) ?_
                    have e1 : cntB (lC_ blk col lb p) (i + 1) = cntB (lC_ blk col lb p) i + 1 := cntB_t ((pF_q g hF.1 hil hpl).mp h46)
                    have e2 : anyB (fun j => lC_ blk col lb p j && eP w h j) (i + 1) = false := anyB_n h80 (by rw [show lC_ blk col lb p i = false by cases z : lC_ blk col lb p i; rfl; exact absurd ((pF_q g hF.1 hil hpl).mpr z) h92]; rfl)
                    have z := fun o8 o9 : Option q_V => ihLA _ (by omega) (i + 1) o8 o9 rfl (by omega)
                    rw [e1, e2] at z
                    exact z _ _
                  · refine q_iload ok rfl dX1_turnSpecks_95 ?_
                    refine q_ifN_eq 127 (by omega) ok dX1_turnSpecks_97 (by decide) (fun h97 => ?_) (fun h97 => ?_)
                    · refine q_iconstv (nI 1) ok (by decide) dX1_turnSpecks_127 ?_
                      refine q_goto 132 ok dX1_turnSpecks_128 (by decide) ?_
                      refine q_istore_6 ok rfl dX1_turnSpecks_132 ?_
                      refine q_iincN_7 1 ok rfl (by decide) dX1_turnSpecks_134 ?_
                      refine q_goto 28 ok dX1_turnSpecks_137 (by decide) ?_
                      have e1 : cntB (lC_ blk col lb p) (i + 1) = cntB (lC_ blk col lb p) i + 1 := cntB_t ((pF_q g hF.1 hil hpl).mp h46)
                      have e2 : anyB (fun j => lC_ blk col lb p j && eP w h j) (i + 1) = true := anyB_s (by rw [(pF_q g hF.1 hil hpl).mp h92, show eP w h i = true from decide_eq_true (by omega)]; rfl)
                      have z := fun o8 o9 : Option q_V => ihLA _ (by omega) (i + 1) o8 o9 rfl (by omega)
                      rw [e1, e2] at z
                      exact z _ _
                    · refine q_iload ok rfl dX1_turnSpecks_100 ?_
                      refine q_ifN_eq 127 (by omega) ok dX1_turnSpecks_102 (by decide) (fun h102 => ?_) (fun h102 => ?_)
                      · refine q_iconstv (nI 1) ok (by decide) dX1_turnSpecks_127 ?_
                        refine q_goto 132 ok dX1_turnSpecks_128 (by decide) ?_
                        refine q_istore_6 ok rfl dX1_turnSpecks_132 ?_
                        refine q_iincN_7 1 ok rfl (by decide) dX1_turnSpecks_134 ?_
                        refine q_goto 28 ok dX1_turnSpecks_137 (by decide) ?_
                        have e1 : cntB (lC_ blk col lb p) (i + 1) = cntB (lC_ blk col lb p) i + 1 := cntB_t ((pF_q g hF.1 hil hpl).mp h46)
                        have e2 : anyB (fun j => lC_ blk col lb p j && eP w h j) (i + 1) = true := anyB_s (by rw [(pF_q g hF.1 hil hpl).mp h92, show eP w h i = true from decide_eq_true (by omega)]; rfl)
                        have z := fun o8 o9 : Option q_V => ihLA _ (by omega) (i + 1) o8 o9 rfl (by omega)
                        rw [e1, e2] at z
                        exact z _ _
                      · refine q_iload ok rfl dX1_turnSpecks_105 ?_
                        refine q_aload_n ok rfl dX1_turnSpecks_107 ?_
                        refine mg_width ok dX1_turnSpecks_108 ?_
                        refine q_iconstv (nI 1) ok (by decide) dX1_turnSpecks_111 ?_
                        refine q_isubN (by omega) ok dX1_turnSpecks_112 ?_
                        refine q_icmpN_eq 127 (by omega) (by omega) ok dX1_turnSpecks_113 (by decide) (fun h113 => ?_) (fun h113 => ?_)
                        · refine q_iconstv (nI 1) ok (by decide) dX1_turnSpecks_127 ?_
                          refine q_goto 132 ok dX1_turnSpecks_128 (by decide) ?_
                          refine q_istore_6 ok rfl dX1_turnSpecks_132 ?_
                          refine q_iincN_7 1 ok rfl (by decide) dX1_turnSpecks_134 ?_
                          refine q_goto 28 ok dX1_turnSpecks_137 (by decide) ?_
                          have e1 : cntB (lC_ blk col lb p) (i + 1) = cntB (lC_ blk col lb p) i + 1 := cntB_t ((pF_q g hF.1 hil hpl).mp h46)
                          have e2 : anyB (fun j => lC_ blk col lb p j && eP w h j) (i + 1) = true := anyB_s (by rw [(pF_q g hF.1 hil hpl).mp h92, show eP w h i = true from decide_eq_true (by omega)]; rfl)
                          have z := fun o8 o9 : Option q_V => ihLA _ (by omega) (i + 1) o8 o9 rfl (by omega)
                          rw [e1, e2] at z
                          exact z _ _
                        · refine q_iload ok rfl dX1_turnSpecks_116 ?_
                          refine q_aload_n ok rfl dX1_turnSpecks_118 ?_
                          refine mg_height ok dX1_turnSpecks_119 ?_
                          refine q_iconstv (nI 1) ok (by decide) dX1_turnSpecks_122 ?_
                          refine q_isubN (by omega) ok dX1_turnSpecks_123 ?_
                          refine q_icmpN_ne 131 (by omega) (by omega) ok dX1_turnSpecks_124 (by decide) (fun h124 => ?_) (fun h124 => ?_)
                          · refine q_iconstv (nI 0) ok (by decide) dX1_turnSpecks_131 ?_
                            refine q_istore_6 ok rfl dX1_turnSpecks_132 ?_
                            refine q_iincN_7 1 ok rfl (by decide) dX1_turnSpecks_134 ?_
                            refine q_goto 28 ok dX1_turnSpecks_137 (by decide) ?_
                            have e1 : cntB (lC_ blk col lb p) (i + 1) = cntB (lC_ blk col lb p) i + 1 := cntB_t ((pF_q g hF.1 hil hpl).mp h46)
                            have e2 : anyB (fun j => lC_ blk col lb p j && eP w h j) (i + 1) = false := anyB_n h80 (by rw [show eP w h i = false from decide_eq_false (by omega), Bool.and_false])
                            have z := fun o8 o9 : Option q_V => ihLA _ (by omega) (i + 1) o8 o9 rfl (by omega)
                            rw [e1, e2] at z
                            exact z _ _
                          · refine q_iconstv (nI 1) ok (by decide) dX1_turnSpecks_127 ?_
                            refine q_goto 132 ok dX1_turnSpecks_128 (by decide) ?_
                            refine q_istore_6 ok rfl dX1_turnSpecks_132 ?_
                            refine q_iincN_7 1 ok rfl (by decide) dX1_turnSpecks_134 ?_
                            refine q_goto 28 ok dX1_turnSpecks_137 (by decide) ?_
                            have e1 : cntB (lC_ blk col lb p) (i + 1) = cntB (lC_ blk col lb p) i + 1 := cntB_t ((pF_q g hF.1 hil hpl).mp h46)
                            have e2 : anyB (fun j => lC_ blk col lb p j && eP w h j) (i + 1) = true := anyB_s (by rw [(pF_q g hF.1 hil hpl).mp h92, show eP w h i = true from decide_eq_true (by omega)]; rfl)
                            have z := fun o8 o9 : Option q_V => ihLA _ (by omega) (i + 1) o8 o9 rfl (by omega)
                            rw [e1, e2] at z
                            exact z _ _
        exact LA _ 0 _ _ rfl (Nat.zero_le _)
  exact L _ 0 blk 0 _ _ _ _ _ rfl (Nat.zero_le _) uI_0
theorem kX1_turnSpecks {x : q_X} {cc : ByteArray} {fr lo pc : Nat} {lv : List (Option q_V)} {st : List q_V} {w : Nat} {h : Nat} {thr : Nat} {sam : Nat → Nat} {blk : Nat → Bool} {nxt : Nat → Bool} {came : Nat → Int32} {part : Nat → Int32} {rst : Int64} {col : Bool} {mo : Nat} (g : q_g w h) (hm : mo ≤ 256) (hR : 3 + 1 ≤ fr ∧ 8 + (10 + 11) + 72 ≤ lo) (hst : (st.map (fun v => if q_nol (some v) then 1 else 2)).sum ≤ 8) (ok : q_ok x cc RX1 fr lo) (hd : decode cc pc = .ok (.invokevirtual 82, 3)) (kk : ∀ (blk2 : Nat → Bool) (part2 : Nat → Int32), tPost w h blk col mo blk2 → q_W x (pc + 3) lv ((.inl (nI (cntB (cB (Sp w h blk col mo)) (w * h)))) :: st) (mw w h thr sam (blk2) nxt came (part2) rst)) : q_W x pc lv (.inl (nI mo) :: .inl (bI col) :: .inr (.inr (some 0)) :: st) (mw w h thr sam blk nxt came part rst) :=
  q_callV [.inl (bI col), .inl (nI mo)] ct_X1_turnSpecks lkX1_X1_turnSpecks dc_X1_turnSpecks rfl ok rfl hR hst (Nat.le_of_ble_eq_true rfl) hd ⟨w, h, thr, sam, blk, nxt, came, part, rst, col, mo, g, hm, rfl, rfl, kk⟩
def sp_X1_parts : List q_V → List q_E → (Option q_V → List q_E → Prop) → Prop := fun as Wd K => ∃ (w : Nat) (h : Nat) (thr : Nat) (sam : Nat → Nat) (blk : Nat → Bool) (nxt : Nat → Bool) (came : Nat → Int32) (part : Nat → Int32) (rst : Int64), (q_g w h) ∧ as = [.inr (.inr (some 0))] ∧ Wd = (mw w h thr sam blk nxt came part rst) ∧ (∀ part2 : Nat → Int32, K (some (.inl (nI (cntB (cB (fst_ w h blk)) (w * h))))) (mw w h thr sam blk nxt came (part2) rst))
set_option maxHeartbeats 4000000 in
set_option maxRecDepth 20000 in
theorem ct_X1_parts : q_Ct yX1_parts cX1_parts 3 (some .int) 3 72 sp_X1_parts := by
  refine q_met (by decide) ?_
  intro x as Wd K hs ok fn
  obtain ⟨w, h, thr, sam, blk, nxt, came, part, rst, g, rfl, rfl, hk⟩ := hs
  show q_W x 0 [some (.inr (.inr (some 0))), none, none] [] (mw w h thr sam blk nxt came part rst)
  have hn := q_gn g
  refine q_aload_n ok rfl dX1_parts_0 ?_
  refine q_iconstv (nI 1) ok (by decide) dX1_parts_1 ?_
  refine kX1_findParts (col := true) g (by decide) (Nat.le_of_ble_eq_true rfl) ok dX1_parts_2 ?_
  intro lb hF
  refine q_iconstv (nI 0) ok (by decide) dX1_parts_5 ?_
  refine q_istore_1 ok rfl dX1_parts_6 ?_
  refine q_iconstv (nI 0) ok (by decide) dX1_parts_7 ?_
  refine q_istore_2 ok rfl dX1_parts_8 ?_
  have L : ∀ (dL i : Nat) , dL = w * h - i → i ≤ w * h → q_W x 9 [some (.inr (.inr (some 0))), some (.inl (nI (cntB (cB (fst_ w h blk)) i))), some (.inl (nI (i)))] [] (mw w h thr sam blk nxt came (pF w h blk true part lb) rst) := by
    intro dL
    induction dL using Nat.strongRecOn with
    | _ dL ihL =>
      intro i  hdL hiL 
      refine q_iload_n ok rfl dX1_parts_9 ?_
      refine q_aload_n ok rfl dX1_parts_10 ?_
      refine kX1_all (by decide) (Nat.le_of_ble_eq_true rfl) ok dX1_parts_11 ?_
      refine q_icmpN_ge 41 (by omega) (by omega) ok dX1_parts_14 (by decide) (fun h14 => ?_) (fun h14 => ?_)
      · refine q_iload_n ok rfl dX1_parts_41 ?_
        exact q_iret ok fn dX1_parts_42 (by rw [show i = w * h by omega]; exact hk _)
      · have hil : i < w * h := by omega
        refine q_aload_n ok rfl dX1_parts_17 ?_
        refine mg_part ok dX1_parts_18 ?_
        refine q_iload_n ok rfl dX1_parts_21 ?_
        refine ml_part g (by omega) ok dX1_parts_22 ?_
        refine q_iload_n ok rfl dX1_parts_23 ?_
        refine q_icmp_ne 33 ok dX1_parts_24 (by decide) (fun h24 => ?_) (fun h24 => ?_)
        · refine q_iload_n ok rfl dX1_parts_33 ?_
          refine q_istore_1 ok rfl dX1_parts_34 ?_
          refine q_iincN_2 1 ok rfl (by decide) dX1_parts_35 ?_
          refine q_goto 9 ok dX1_parts_38 (by decide) ?_
          rw [← cntB_f (f := (cB (fst_ w h blk))) (n := i) (cB_f.mpr (fun z => h24 ((pF_q g hF.1 hil hil).mpr (lC_t.mpr ((fP_fst hF hil).mpr z)))))]
          exact ihL _ (by omega) (i + 1) rfl (by omega)
        · refine q_iload_n ok rfl dX1_parts_27 ?_
          refine q_iconstv (nI 1) ok (by decide) dX1_parts_28 ?_
          refine q_iaddN ok dX1_parts_29 ?_
          refine q_goto 34 ok dX1_parts_30 (by decide) ?_
          refine q_istore_1 ok rfl dX1_parts_34 ?_
          refine q_iincN_2 1 ok rfl (by decide) dX1_parts_35 ?_
          refine q_goto 9 ok dX1_parts_38 (by decide) ?_
          rw [← cntB_t (f := (cB (fst_ w h blk))) (n := i) (cB_t.mpr ((fP_fst hF hil).mp (lC_t.mp ((pF_q g hF.1 hil hil).mp h24))))]
          exact ihL _ (by omega) (i + 1) rfl (by omega)
  exact L _ 0 rfl (Nat.zero_le _)
theorem kX1_parts {x : q_X} {cc : ByteArray} {fr lo pc : Nat} {lv : List (Option q_V)} {st : List q_V} {w : Nat} {h : Nat} {thr : Nat} {sam : Nat → Nat} {blk : Nat → Bool} {nxt : Nat → Bool} {came : Nat → Int32} {part : Nat → Int32} {rst : Int64} (g : q_g w h) (hR : 3 + 1 ≤ fr ∧ 8 + (3 + 11) + 72 ≤ lo) (hst : (st.map (fun v => if q_nol (some v) then 1 else 2)).sum ≤ 8) (ok : q_ok x cc RX1 fr lo) (hd : decode cc pc = .ok (.invokevirtual 89, 3)) (kk : ∀ part2 : Nat → Int32, q_W x (pc + 3) lv ((.inl (nI (cntB (cB (fst_ w h blk)) (w * h)))) :: st) (mw w h thr sam blk nxt came (part2) rst)) : q_W x pc lv (.inr (.inr (some 0)) :: st) (mw w h thr sam blk nxt came part rst) :=
  q_callV [] ct_X1_parts lkX1_X1_parts dc_X1_parts rfl ok rfl hR hst (Nat.le_of_ble_eq_true rfl) hd ⟨w, h, thr, sam, blk, nxt, came, part, rst, g, rfl, rfl, kk⟩
def sp_X1_clean : List q_V → List q_E → (Option q_V → List q_E → Prop) → Prop := fun as Wd K => ∃ (w : Nat) (h : Nat) (thr : Nat) (sam : Nat → Nat) (blk : Nat → Bool) (nxt : Nat → Bool) (came : Nat → Int32) (part : Nat → Int32) (rst : Int64) (m : Int32), (q_g w h) ∧ as = [.inr (.inr (some 0)), .inl m] ∧ Wd = (mw w h thr sam blk nxt came part rst) ∧ (¬ m < 0 → ¬ nI 256 < m → ∀ (blk1 blk2 : Nat → Bool) (part2 : Nat → Int32), tPost w h blk true m.toNatClampNeg blk1 → tPost w h blk1 false m.toNatClampNeg blk2 → K (some (.inl (nI (cntB (cB (Sp w h blk true m.toNatClampNeg)) (w * h) + cntB (cB (Sp w h blk1 false m.toNatClampNeg)) (w * h))))) (mw w h (0) sam (blk2) nxt came (part2) rst)) ∧ ((m < 0 ∨ nI 256 < m) → K (some (.inl (nI 0))) (mw w h (1) sam blk nxt came part rst))
set_option maxHeartbeats 4000000 in
set_option maxRecDepth 20000 in
theorem ct_X1_clean : q_Ct yX1_clean cX1_clean 3 (some .int) 4 101 sp_X1_clean := by
  refine q_met (by decide) ?_
  intro x as Wd K hs ok fn
  obtain ⟨w, h, thr, sam, blk, nxt, came, part, rst, m, g, rfl, rfl, hk0, hk1⟩ := hs
  show q_W x 0 [some (.inr (.inr (some 0))), some (.inl m), none] [] (mw w h thr sam blk nxt came part rst)
  refine q_aload_n ok rfl dX1_clean_0 ?_
  refine q_iload_n ok rfl dX1_clean_1 ?_
  refine q_if_lt 16 ok dX1_clean_2 (by decide) (fun h2 => ?_) (fun h2 => ?_)
  · refine q_iconstv (nI 1) ok (by decide) dX1_clean_16 ?_
    refine mp_thrown ok dX1_clean_17 ?_
    refine q_aload_n ok rfl dX1_clean_20 ?_
    refine mg_thrown ok dX1_clean_21 ?_
    refine q_if_le 29 ok dX1_clean_24 (by decide) (fun hh => absurd hh (by decide)) (fun _ => ?_)
    refine q_iconstv (nI 0) ok (by decide) dX1_clean_27 ?_
    exact q_iret ok fn dX1_clean_28 (hk1 (Or.inl h2))
  · refine q_iload_n ok rfl dX1_clean_5 ?_
    refine q_sipushv (nI 256) ok (by decide) dX1_clean_6 ?_
    refine q_icmp_gt 16 ok dX1_clean_9 (by decide) (fun h9 => ?_) (fun h9 => ?_)
    · refine q_iconstv (nI 1) ok (by decide) dX1_clean_16 ?_
      refine mp_thrown ok dX1_clean_17 ?_
      refine q_aload_n ok rfl dX1_clean_20 ?_
      refine mg_thrown ok dX1_clean_21 ?_
      refine q_if_le 29 ok dX1_clean_24 (by decide) (fun hh => absurd hh (by decide)) (fun _ => ?_)
      refine q_iconstv (nI 0) ok (by decide) dX1_clean_27 ?_
      exact q_iret ok fn dX1_clean_28 (hk1 (Or.inr h9))
    · refine q_iconstv (nI 0) ok (by decide) dX1_clean_12 ?_
      refine q_goto 17 ok dX1_clean_13 (by decide) ?_
      refine mp_thrown ok dX1_clean_17 ?_
      refine q_aload_n ok rfl dX1_clean_20 ?_
      refine mg_thrown ok dX1_clean_21 ?_
      refine q_if_le 29 ok dX1_clean_24 (by decide) (fun _ => ?_) (fun hh => absurd (by decide) hh)
      obtain ⟨mo, hmo, rfl⟩ := nI_of h2
      have hm : mo ≤ 256 := (nI_leI hmo (by decide)).mp (Int32.not_lt.mp h9)
      refine q_aload_n ok rfl dX1_clean_29 ?_
      refine q_iconstv (nI 1) ok (by decide) dX1_clean_30 ?_
      refine q_iload_n ok rfl dX1_clean_31 ?_
      refine kX1_turnSpecks (col := true) g hm (by decide) (Nat.le_of_ble_eq_true rfl) ok dX1_clean_32 ?_
      intro blk1 part1 hT1
      refine q_istore_2 ok rfl dX1_clean_35 ?_
      refine q_iload_n ok rfl dX1_clean_36 ?_
      refine q_aload_n ok rfl dX1_clean_37 ?_
      refine q_iconstv (nI 0) ok (by decide) dX1_clean_38 ?_
      refine q_iload_n ok rfl dX1_clean_39 ?_
      refine kX1_turnSpecks (col := false) g hm (by decide) (Nat.le_of_ble_eq_true rfl) ok dX1_clean_40 ?_
      intro blk2 part2 hT2
      refine q_iaddN ok dX1_clean_43 ?_
      exact q_iret ok fn dX1_clean_44 (by have z := hk0 h2 h9 blk1 blk2 part2; rw [nI_clamp hmo] at z; exact z hT1 hT2)
