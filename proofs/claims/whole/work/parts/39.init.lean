-- THE TWO CONSTRUCTORS
def dfX0 : List q_V := [.inl (nI 0), .inl (nI 0), .inl (nI 0), .inr (.inr none), .inr (.inr none), .inr (.inl 0), .inr (.inr none), .inr (.inr none), .inr (.inr none), .inr (.inr none), .inr (.inr none), .inr (.inr none), .inl (nI 0)]
def dfX1 : List q_V := [.inl (nI 0), .inl (nI 0), .inl (nI 0), .inr (.inr none), .inr (.inr none), .inr (.inr none), .inr (.inr none), .inr (.inr none), .inr (.inl 0)]
def xwZ (w h : Nat) : List q_E := xw w h (fun _ => 0) (fun _ => false) 0 (fun _ => 0) (fun _ => 0) (fun _ => 0) (fun _ => 0) (fun _ => false) (fun _ => 0) 0
def mwZ (w h : Nat) : List q_E := mw w h 0 (fun _ => 0) (fun _ => false) (fun _ => false) (fun _ => 0) (fun _ => 0) 0
theorem q_newaN {x : q_X} {cc : ByteArray} {own : String} {fr lo pc k n mc ms a0 : Nat} {lv : List (Option q_V)} {st : List q_V} {Wd : List q_E} {K : List q_E → Prop} {atype : ArrayType} {ty : FieldType} {t N : Nat} {e : q_E} {b0 : vp_A} (ok : q_ok (q_cs x k n) cc own fr lo) (fn : q_finN (q_cs x k n) mc ms a0 K) (hk : k + 1 ≤ mc) (hn : n + N ≤ ms) (hm : 0 < Wd.length) (harr : Cond.arrayClass ty ∈ wsL_law) (hty : newarray.typeOf atype = ty) (htys : ∀ cA : Nat → ClassId, (q_tys cA)[t]? = some (cA t, ty)) (hra : ∀ (U : State) (c : ClassId), va_RA U c ty = (U.vm.findClass ("[" ++ ty.toString) = some c))
    (hce : ∀ (cA : Nat → ClassId) (ad : Nat → Nat), q_ce cA ad e = .inl (cA t, b0)) (ha : ∀ c : ClassId, vp_cell c b0 = arrV c N (fun _ => defaultValue ty)) (hN : N ≤ 1000) (hby : componentBytes ty ≤ 8) (hlv : q_rbl Wd.length lv = true) (hstk : st.all (q_rb Wd.length) = true) (hWd : Wd.all (q_rbe Wd.length) = true)
    (hd : decode cc pc = .ok (.newarray atype, 2)) (kk : ∀ x2 : q_X, q_ok (q_cs x2 (k + 1) (n + N)) cc own fr lo → q_finN (q_cs x2 (k + 1) (n + N)) mc ms a0 K → q_W (q_cs x2 (k + 1) (n + N)) (pc + 2) lv (q_r Wd.length :: st) (Wd ++ [e])) : q_W (q_cs x k n) pc lv (.inl (nI N) :: st) Wd := by
  have fit := q_fit_le (q_fit_N fn) hk hn
  refine q_newaG (t := t) (N := N) (e := e) (a0 := b0) ok fit harr hty htys hra hce ha (nI_pos (by omega)) (nI_clamp (by omega)) (Nat.le_trans (Nat.mul_le_mul hN hby) (by decide)) hlv hstk hWd hd (fun a => ?_)
  refine kk (q_ad x Wd.length a) ?_ (q_fin_ad fn hk hn hm)
  exact q_ok_cs (x := q_cs (q_ad x Wd.length a) k n) (q_ok_ad ok) fit
def sp_X0_init : List q_V → List q_E → (List q_E → Prop) → Prop := fun as Wd K => ∃ (a b : Int32), as = [q_r 0, .inl a, .inl b] ∧ Wd = [.inr (0, dfX0)] ∧ K (xwZ (clampS a) (clampS b))
set_option maxHeartbeats 4000000 in
set_option maxRecDepth 20000 in
theorem ct_X0_init : q_CtN yX0_init cX0_init 3 2 60 8 2114 sp_X0_init := by
  refine q_metN (by decide) rfl ?_
  intro x as Wd K a0 hs ok fn
  obtain ⟨a, b, rfl, rfl, hk⟩ := hs
  unfold xwZ at hk
  have hg : q_g (clampS a) (clampS b) := ⟨(clampS_in a).1, (clampS_in a).2, (clampS_in b).1, (clampS_in b).2⟩
  generalize hA : clampS a = w at hk hg
  generalize hB : clampS b = h at hk hg
  have g1 := q_gn hg; have g2 := q_gm hg
  show q_W (q_cs x 0 (0)) 0 [some (q_r 0), some (.inl a), some (.inl b)] [] [.inr (0, [.inl (nI 0), .inl (nI 0), .inl (nI 0), .inr (.inr none), .inr (.inr none), .inr (.inl 0), .inr (.inr none), .inr (.inr none), .inr (.inr none), .inr (.inr none), .inr (.inr none), .inr (.inr none), .inl (nI 0)])]
  refine q_aload_n ok rfl dX0_init_0 ?_
  refine q_super ok (by decide +kernel) (by decide +kernel) (by decide +kernel) (by decide) (by decide) dX0_init_1 ?_
  refine q_aload_n ok rfl dX0_init_4 ?_
  refine q_iload_n ok rfl dX0_init_5 ?_
  refine kX0_nearestSide (by decide) (Nat.le_of_ble_eq_true rfl) ok dX0_init_6 ?_
  rw [hA]
  refine q_putFG (k := 0) (ci := 0) (N := 13) (C := "LocalBounds") (T := TX0) (fs := [.inl (nI 0), .inl (nI 0), .inl (nI 0), .inr (.inr none), .inr (.inr none), .inr (.inl 0), .inr (.inr none), .inr (.inr none), .inr (.inr none), .inr (.inr none), .inr (.inr none), .inr (.inr none), .inl (nI 0)]) (f := 0) (ty := tyX0 0) ok (q_ini_N fn) rfl inlX0 tyX0 tyX0_ok nmX0 (by decide) fX0_width rfl rfl rfl (tyX0_ok 0 (by decide)) (fun _ => rfl) (fun _ => rfl) rfl (Nat.le_of_ble_eq_true rfl) dX0_init_9 ?_
  show q_W (q_cs x 0 (0)) 12 [some (q_r 0), some (.inl a), some (.inl b)] [] [.inr (0, [.inl (nI w), .inl (nI 0), .inl (nI 0), .inr (.inr none), .inr (.inr none), .inr (.inl 0), .inr (.inr none), .inr (.inr none), .inr (.inr none), .inr (.inr none), .inr (.inr none), .inr (.inr none), .inl (nI 0)])]
  refine q_aload_n ok rfl dX0_init_12 ?_
  refine q_iload_n ok rfl dX0_init_13 ?_
  refine kX0_nearestSide (by decide) (Nat.le_of_ble_eq_true rfl) ok dX0_init_14 ?_
  rw [hB]
  refine q_putFG (k := 0) (ci := 0) (N := 13) (C := "LocalBounds") (T := TX0) (fs := [.inl (nI w), .inl (nI 0), .inl (nI 0), .inr (.inr none), .inr (.inr none), .inr (.inl 0), .inr (.inr none), .inr (.inr none), .inr (.inr none), .inr (.inr none), .inr (.inr none), .inr (.inr none), .inl (nI 0)]) (f := 1) (ty := tyX0 1) ok (q_ini_N fn) rfl inlX0 tyX0 tyX0_ok nmX0 (by decide) fX0_height rfl rfl rfl (tyX0_ok 1 (by decide)) (fun _ => rfl) (fun _ => rfl) rfl (Nat.le_of_ble_eq_true rfl) dX0_init_17 ?_
  show q_W (q_cs x 0 (0)) 20 [some (q_r 0), some (.inl a), some (.inl b)] [] [.inr (0, [.inl (nI w), .inl (nI h), .inl (nI 0), .inr (.inr none), .inr (.inr none), .inr (.inl 0), .inr (.inr none), .inr (.inr none), .inr (.inr none), .inr (.inr none), .inr (.inr none), .inr (.inr none), .inl (nI 0)])]
  refine q_aload_n ok rfl dX0_init_20 ?_
  refine q_aload_n ok rfl dX0_init_21 ?_
  refine q_getG (ci := 0) (f := 0) ok rfl inlX0 (by decide) fX0_width rfl rfl rfl dX0_init_22 ?_
  refine q_aload_n ok rfl dX0_init_25 ?_
  refine q_getG (ci := 0) (f := 1) ok rfl inlX0 (by decide) fX0_height rfl rfl rfl dX0_init_26 ?_
  refine q_imulN ok dX0_init_29 ?_
  refine q_putFG (k := 0) (ci := 0) (N := 13) (C := "LocalBounds") (T := TX0) (fs := [.inl (nI w), .inl (nI h), .inl (nI 0), .inr (.inr none), .inr (.inr none), .inr (.inl 0), .inr (.inr none), .inr (.inr none), .inr (.inr none), .inr (.inr none), .inr (.inr none), .inr (.inr none), .inl (nI 0)]) (f := 2) (ty := tyX0 2) ok (q_ini_N fn) rfl inlX0 tyX0 tyX0_ok nmX0 (by decide) fX0_count rfl rfl rfl (tyX0_ok 2 (by decide)) (fun _ => rfl) (fun _ => rfl) rfl (Nat.le_of_ble_eq_true rfl) dX0_init_30 ?_
  show q_W (q_cs x 0 (0)) 33 [some (q_r 0), some (.inl a), some (.inl b)] [] [.inr (0, [.inl (nI w), .inl (nI h), .inl (nI (w * h)), .inr (.inr none), .inr (.inr none), .inr (.inl 0), .inr (.inr none), .inr (.inr none), .inr (.inr none), .inr (.inr none), .inr (.inr none), .inr (.inr none), .inl (nI 0)])]
  refine q_aload_n ok rfl dX0_init_33 ?_
  refine q_aload_n ok rfl dX0_init_34 ?_
  refine q_getG (ci := 0) (f := 2) ok rfl inlX0 (by decide) fX0_count rfl rfl rfl dX0_init_35 ?_
  refine q_newaN (t := 0) (N := w * h) (ty := .int) (e := .inl (0, w * h, .inl (fun _ => nI 0))) (b0 := (w * h, .inl (fun _ => nI 0))) ok fn (by decide) (by omega) (Nat.le_of_ble_eq_true rfl) (by decide +kernel) rfl (fun _ => rfl) (fun _ _ => rfl) (fun _ _ => rfl) (fun _ => rfl) (by omega) (by decide) rfl rfl rfl dX0_init_38 (fun x ok fn => ?_)
  show q_W (q_cs x 1 (0 + w * h)) 40 [some (q_r 0), some (.inl a), some (.inl b)] [q_r 1, q_r 0] [.inr (0, [.inl (nI w), .inl (nI h), .inl (nI (w * h)), .inr (.inr none), .inr (.inr none), .inr (.inl 0), .inr (.inr none), .inr (.inr none), .inr (.inr none), .inr (.inr none), .inr (.inr none), .inr (.inr none), .inl (nI 0)]), .inl (0, w * h, .inl (fun _ => nI 0))]
  refine q_putFG (k := 0) (ci := 0) (N := 13) (C := "LocalBounds") (T := TX0) (fs := [.inl (nI w), .inl (nI h), .inl (nI (w * h)), .inr (.inr none), .inr (.inr none), .inr (.inl 0), .inr (.inr none), .inr (.inr none), .inr (.inr none), .inr (.inr none), .inr (.inr none), .inr (.inr none), .inl (nI 0)]) (f := 3) (ty := tyX0 3) ok (q_ini_N fn) rfl inlX0 tyX0 tyX0_ok nmX0 (by decide) fX0_samples rfl rfl rfl (tyX0_ok 3 (by decide)) (fun _ => rfl) (fun _ => rfl) rfl (Nat.le_of_ble_eq_true rfl) dX0_init_40 ?_
  show q_W (q_cs x 1 (0 + w * h)) 43 [some (q_r 0), some (.inl a), some (.inl b)] [] [.inr (0, [.inl (nI w), .inl (nI h), .inl (nI (w * h)), q_r 1, .inr (.inr none), .inr (.inl 0), .inr (.inr none), .inr (.inr none), .inr (.inr none), .inr (.inr none), .inr (.inr none), .inr (.inr none), .inl (nI 0)]), .inl (0, w * h, .inl (fun _ => nI 0))]
  refine q_aload_n ok rfl dX0_init_43 ?_
  refine q_aload_n ok rfl dX0_init_44 ?_
  refine q_getG (ci := 0) (f := 2) ok rfl inlX0 (by decide) fX0_count rfl rfl rfl dX0_init_45 ?_
  refine q_newaN (t := 2) (N := w * h) (ty := .boolean) (e := .inl (2, w * h, .inl (fun _ => bI false))) (b0 := (w * h, .inl (fun _ => bI false))) ok fn (by decide) (by omega) (Nat.le_of_ble_eq_true rfl) (by decide +kernel) rfl (fun _ => rfl) (fun _ _ => rfl) (fun _ _ => rfl) (fun _ => rfl) (by omega) (by decide) rfl rfl rfl dX0_init_48 (fun x ok fn => ?_)
  show q_W (q_cs x 2 (0 + w * h + w * h)) 50 [some (q_r 0), some (.inl a), some (.inl b)] [q_r 2, q_r 0] [.inr (0, [.inl (nI w), .inl (nI h), .inl (nI (w * h)), q_r 1, .inr (.inr none), .inr (.inl 0), .inr (.inr none), .inr (.inr none), .inr (.inr none), .inr (.inr none), .inr (.inr none), .inr (.inr none), .inl (nI 0)]), .inl (0, w * h, .inl (fun _ => nI 0)), .inl (2, w * h, .inl (fun _ => bI false))]
  refine q_putFG (k := 0) (ci := 0) (N := 13) (C := "LocalBounds") (T := TX0) (fs := [.inl (nI w), .inl (nI h), .inl (nI (w * h)), q_r 1, .inr (.inr none), .inr (.inl 0), .inr (.inr none), .inr (.inr none), .inr (.inr none), .inr (.inr none), .inr (.inr none), .inr (.inr none), .inl (nI 0)]) (f := 4) (ty := tyX0 4) ok (q_ini_N fn) rfl inlX0 tyX0 tyX0_ok nmX0 (by decide) fX0_black rfl rfl rfl (tyX0_ok 4 (by decide)) (fun _ => rfl) (fun _ => rfl) rfl (Nat.le_of_ble_eq_true rfl) dX0_init_50 ?_
  show q_W (q_cs x 2 (0 + w * h + w * h)) 53 [some (q_r 0), some (.inl a), some (.inl b)] [] [.inr (0, [.inl (nI w), .inl (nI h), .inl (nI (w * h)), q_r 1, q_r 2, .inr (.inl 0), .inr (.inr none), .inr (.inr none), .inr (.inr none), .inr (.inr none), .inr (.inr none), .inr (.inr none), .inl (nI 0)]), .inl (0, w * h, .inl (fun _ => nI 0)), .inl (2, w * h, .inl (fun _ => bI false))]
  refine q_aload_n ok rfl dX0_init_53 ?_
  refine q_sipushv (nI 256) ok (by decide) dX0_init_54 ?_
  refine q_newaN (t := 0) (N := 256) (ty := .int) (e := .inl (0, 256, .inl (fun _ => nI 0))) (b0 := (256, .inl (fun _ => nI 0))) ok fn (by decide) (by omega) (Nat.le_of_ble_eq_true rfl) (by decide +kernel) rfl (fun _ => rfl) (fun _ _ => rfl) (fun _ _ => rfl) (fun _ => rfl) (by omega) (by decide) rfl rfl rfl dX0_init_57 (fun x ok fn => ?_)
  show q_W (q_cs x 3 (0 + w * h + w * h + 256)) 59 [some (q_r 0), some (.inl a), some (.inl b)] [q_r 3, q_r 0] [.inr (0, [.inl (nI w), .inl (nI h), .inl (nI (w * h)), q_r 1, q_r 2, .inr (.inl 0), .inr (.inr none), .inr (.inr none), .inr (.inr none), .inr (.inr none), .inr (.inr none), .inr (.inr none), .inl (nI 0)]), .inl (0, w * h, .inl (fun _ => nI 0)), .inl (2, w * h, .inl (fun _ => bI false)), .inl (0, 256, .inl (fun _ => nI 0))]
  refine q_putFG (k := 0) (ci := 0) (N := 13) (C := "LocalBounds") (T := TX0) (fs := [.inl (nI w), .inl (nI h), .inl (nI (w * h)), q_r 1, q_r 2, .inr (.inl 0), .inr (.inr none), .inr (.inr none), .inr (.inr none), .inr (.inr none), .inr (.inr none), .inr (.inr none), .inl (nI 0)]) (f := 6) (ty := tyX0 6) ok (q_ini_N fn) rfl inlX0 tyX0 tyX0_ok nmX0 (by decide) fX0_ofGrey rfl rfl rfl (tyX0_ok 6 (by decide)) (fun _ => rfl) (fun _ => rfl) rfl (Nat.le_of_ble_eq_true rfl) dX0_init_59 ?_
  show q_W (q_cs x 3 (0 + w * h + w * h + 256)) 62 [some (q_r 0), some (.inl a), some (.inl b)] [] [.inr (0, [.inl (nI w), .inl (nI h), .inl (nI (w * h)), q_r 1, q_r 2, .inr (.inl 0), q_r 3, .inr (.inr none), .inr (.inr none), .inr (.inr none), .inr (.inr none), .inr (.inr none), .inl (nI 0)]), .inl (0, w * h, .inl (fun _ => nI 0)), .inl (2, w * h, .inl (fun _ => bI false)), .inl (0, 256, .inl (fun _ => nI 0))]
  refine q_aload_n ok rfl dX0_init_62 ?_
  refine q_aload_n ok rfl dX0_init_63 ?_
  refine q_getG (ci := 0) (f := 2) ok rfl inlX0 (by decide) fX0_count rfl rfl rfl dX0_init_64 ?_
  refine q_newaN (t := 0) (N := w * h) (ty := .int) (e := .inl (0, w * h, .inl (fun _ => nI 0))) (b0 := (w * h, .inl (fun _ => nI 0))) ok fn (by decide) (by omega) (Nat.le_of_ble_eq_true rfl) (by decide +kernel) rfl (fun _ => rfl) (fun _ _ => rfl) (fun _ _ => rfl) (fun _ => rfl) (by omega) (by decide) rfl rfl rfl dX0_init_67 (fun x ok fn => ?_)
  show q_W (q_cs x 4 (0 + w * h + w * h + 256 + w * h)) 69 [some (q_r 0), some (.inl a), some (.inl b)] [q_r 4, q_r 0] [.inr (0, [.inl (nI w), .inl (nI h), .inl (nI (w * h)), q_r 1, q_r 2, .inr (.inl 0), q_r 3, .inr (.inr none), .inr (.inr none), .inr (.inr none), .inr (.inr none), .inr (.inr none), .inl (nI 0)]), .inl (0, w * h, .inl (fun _ => nI 0)), .inl (2, w * h, .inl (fun _ => bI false)), .inl (0, 256, .inl (fun _ => nI 0)), .inl (0, w * h, .inl (fun _ => nI 0))]
  refine q_putFG (k := 0) (ci := 0) (N := 13) (C := "LocalBounds") (T := TX0) (fs := [.inl (nI w), .inl (nI h), .inl (nI (w * h)), q_r 1, q_r 2, .inr (.inl 0), q_r 3, .inr (.inr none), .inr (.inr none), .inr (.inr none), .inr (.inr none), .inr (.inr none), .inl (nI 0)]) (f := 7) (ty := tyX0 7) ok (q_ini_N fn) rfl inlX0 tyX0 tyX0_ok nmX0 (by decide) fX0_came rfl rfl rfl (tyX0_ok 7 (by decide)) (fun _ => rfl) (fun _ => rfl) rfl (Nat.le_of_ble_eq_true rfl) dX0_init_69 ?_
  show q_W (q_cs x 4 (0 + w * h + w * h + 256 + w * h)) 72 [some (q_r 0), some (.inl a), some (.inl b)] [] [.inr (0, [.inl (nI w), .inl (nI h), .inl (nI (w * h)), q_r 1, q_r 2, .inr (.inl 0), q_r 3, q_r 4, .inr (.inr none), .inr (.inr none), .inr (.inr none), .inr (.inr none), .inl (nI 0)]), .inl (0, w * h, .inl (fun _ => nI 0)), .inl (2, w * h, .inl (fun _ => bI false)), .inl (0, 256, .inl (fun _ => nI 0)), .inl (0, w * h, .inl (fun _ => nI 0))]
  refine q_aload_n ok rfl dX0_init_72 ?_
  refine q_aload_n ok rfl dX0_init_73 ?_
  refine q_getG (ci := 0) (f := 0) ok rfl inlX0 (by decide) fX0_width rfl rfl rfl dX0_init_74 ?_
  refine q_iconstv (nI 1) ok (by decide) dX0_init_77 ?_
  refine q_iaddN ok dX0_init_78 ?_
  refine q_aload_n ok rfl dX0_init_79 ?_
  refine q_getG (ci := 0) (f := 1) ok rfl inlX0 (by decide) fX0_height rfl rfl rfl dX0_init_80 ?_
  refine q_iconstv (nI 1) ok (by decide) dX0_init_83 ?_
  refine q_iaddN ok dX0_init_84 ?_
  refine q_imulN ok dX0_init_85 ?_
  refine q_newaN (t := 1) (N := (w + 1) * (h + 1)) (ty := .long) (e := .inl (1, (w + 1) * (h + 1), .inr (fun _ => 0))) (b0 := ((w + 1) * (h + 1), .inr (.inl (fun _ => 0)))) ok fn (by decide) (by omega) (Nat.le_of_ble_eq_true rfl) (by decide +kernel) rfl (fun _ => rfl) (fun _ _ => rfl) (fun _ _ => rfl) (fun _ => rfl) (by omega) (by decide) rfl rfl rfl dX0_init_86 (fun x ok fn => ?_)
  show q_W (q_cs x 5 (0 + w * h + w * h + 256 + w * h + (w + 1) * (h + 1))) 88 [some (q_r 0), some (.inl a), some (.inl b)] [q_r 5, q_r 0] [.inr (0, [.inl (nI w), .inl (nI h), .inl (nI (w * h)), q_r 1, q_r 2, .inr (.inl 0), q_r 3, q_r 4, .inr (.inr none), .inr (.inr none), .inr (.inr none), .inr (.inr none), .inl (nI 0)]), .inl (0, w * h, .inl (fun _ => nI 0)), .inl (2, w * h, .inl (fun _ => bI false)), .inl (0, 256, .inl (fun _ => nI 0)), .inl (0, w * h, .inl (fun _ => nI 0)), .inl (1, (w + 1) * (h + 1), .inr (fun _ => 0))]
  refine q_putFG (k := 0) (ci := 0) (N := 13) (C := "LocalBounds") (T := TX0) (fs := [.inl (nI w), .inl (nI h), .inl (nI (w * h)), q_r 1, q_r 2, .inr (.inl 0), q_r 3, q_r 4, .inr (.inr none), .inr (.inr none), .inr (.inr none), .inr (.inr none), .inl (nI 0)]) (f := 8) (ty := tyX0 8) ok (q_ini_N fn) rfl inlX0 tyX0 tyX0_ok nmX0 (by decide) fX0_sums rfl rfl rfl (tyX0_ok 8 (by decide)) (fun _ => rfl) (fun _ => rfl) rfl (Nat.le_of_ble_eq_true rfl) dX0_init_88 ?_
  show q_W (q_cs x 5 (0 + w * h + w * h + 256 + w * h + (w + 1) * (h + 1))) 91 [some (q_r 0), some (.inl a), some (.inl b)] [] [.inr (0, [.inl (nI w), .inl (nI h), .inl (nI (w * h)), q_r 1, q_r 2, .inr (.inl 0), q_r 3, q_r 4, q_r 5, .inr (.inr none), .inr (.inr none), .inr (.inr none), .inl (nI 0)]), .inl (0, w * h, .inl (fun _ => nI 0)), .inl (2, w * h, .inl (fun _ => bI false)), .inl (0, 256, .inl (fun _ => nI 0)), .inl (0, w * h, .inl (fun _ => nI 0)), .inl (1, (w + 1) * (h + 1), .inr (fun _ => 0))]
  refine q_aload_n ok rfl dX0_init_91 ?_
  refine q_aload_n ok rfl dX0_init_92 ?_
  refine q_getG (ci := 0) (f := 0) ok rfl inlX0 (by decide) fX0_width rfl rfl rfl dX0_init_93 ?_
  refine q_iconstv (nI 1) ok (by decide) dX0_init_96 ?_
  refine q_iaddN ok dX0_init_97 ?_
  refine q_aload_n ok rfl dX0_init_98 ?_
  refine q_getG (ci := 0) (f := 1) ok rfl inlX0 (by decide) fX0_height rfl rfl rfl dX0_init_99 ?_
  refine q_iconstv (nI 1) ok (by decide) dX0_init_102 ?_
  refine q_iaddN ok dX0_init_103 ?_
  refine q_imulN ok dX0_init_104 ?_
  refine q_newaN (t := 1) (N := (w + 1) * (h + 1)) (ty := .long) (e := .inl (1, (w + 1) * (h + 1), .inr (fun _ => 0))) (b0 := ((w + 1) * (h + 1), .inr (.inl (fun _ => 0)))) ok fn (by decide) (by omega) (Nat.le_of_ble_eq_true rfl) (by decide +kernel) rfl (fun _ => rfl) (fun _ _ => rfl) (fun _ _ => rfl) (fun _ => rfl) (by omega) (by decide) rfl rfl rfl dX0_init_105 (fun x ok fn => ?_)
  show q_W (q_cs x 6 (0 + w * h + w * h + 256 + w * h + (w + 1) * (h + 1) + (w + 1) * (h + 1))) 107 [some (q_r 0), some (.inl a), some (.inl b)] [q_r 6, q_r 0] [.inr (0, [.inl (nI w), .inl (nI h), .inl (nI (w * h)), q_r 1, q_r 2, .inr (.inl 0), q_r 3, q_r 4, q_r 5, .inr (.inr none), .inr (.inr none), .inr (.inr none), .inl (nI 0)]), .inl (0, w * h, .inl (fun _ => nI 0)), .inl (2, w * h, .inl (fun _ => bI false)), .inl (0, 256, .inl (fun _ => nI 0)), .inl (0, w * h, .inl (fun _ => nI 0)), .inl (1, (w + 1) * (h + 1), .inr (fun _ => 0)), .inl (1, (w + 1) * (h + 1), .inr (fun _ => 0))]
  refine q_putFG (k := 0) (ci := 0) (N := 13) (C := "LocalBounds") (T := TX0) (fs := [.inl (nI w), .inl (nI h), .inl (nI (w * h)), q_r 1, q_r 2, .inr (.inl 0), q_r 3, q_r 4, q_r 5, .inr (.inr none), .inr (.inr none), .inr (.inr none), .inl (nI 0)]) (f := 9) (ty := tyX0 9) ok (q_ini_N fn) rfl inlX0 tyX0 tyX0_ok nmX0 (by decide) fX0_squareSums rfl rfl rfl (tyX0_ok 9 (by decide)) (fun _ => rfl) (fun _ => rfl) rfl (Nat.le_of_ble_eq_true rfl) dX0_init_107 ?_
  show q_W (q_cs x 6 (0 + w * h + w * h + 256 + w * h + (w + 1) * (h + 1) + (w + 1) * (h + 1))) 110 [some (q_r 0), some (.inl a), some (.inl b)] [] [.inr (0, [.inl (nI w), .inl (nI h), .inl (nI (w * h)), q_r 1, q_r 2, .inr (.inl 0), q_r 3, q_r 4, q_r 5, q_r 6, .inr (.inr none), .inr (.inr none), .inl (nI 0)]), .inl (0, w * h, .inl (fun _ => nI 0)), .inl (2, w * h, .inl (fun _ => bI false)), .inl (0, 256, .inl (fun _ => nI 0)), .inl (0, w * h, .inl (fun _ => nI 0)), .inl (1, (w + 1) * (h + 1), .inr (fun _ => 0)), .inl (1, (w + 1) * (h + 1), .inr (fun _ => 0))]
  refine q_aload_n ok rfl dX0_init_110 ?_
  refine q_aload_n ok rfl dX0_init_111 ?_
  refine q_getG (ci := 0) (f := 2) ok rfl inlX0 (by decide) fX0_count rfl rfl rfl dX0_init_112 ?_
  refine q_newaN (t := 2) (N := w * h) (ty := .boolean) (e := .inl (2, w * h, .inl (fun _ => bI false))) (b0 := (w * h, .inl (fun _ => bI false))) ok fn (by decide) (by omega) (Nat.le_of_ble_eq_true rfl) (by decide +kernel) rfl (fun _ => rfl) (fun _ _ => rfl) (fun _ _ => rfl) (fun _ => rfl) (by omega) (by decide) rfl rfl rfl dX0_init_115 (fun x ok fn => ?_)
  show q_W (q_cs x 7 (0 + w * h + w * h + 256 + w * h + (w + 1) * (h + 1) + (w + 1) * (h + 1) + w * h)) 117 [some (q_r 0), some (.inl a), some (.inl b)] [q_r 7, q_r 0] [.inr (0, [.inl (nI w), .inl (nI h), .inl (nI (w * h)), q_r 1, q_r 2, .inr (.inl 0), q_r 3, q_r 4, q_r 5, q_r 6, .inr (.inr none), .inr (.inr none), .inl (nI 0)]), .inl (0, w * h, .inl (fun _ => nI 0)), .inl (2, w * h, .inl (fun _ => bI false)), .inl (0, 256, .inl (fun _ => nI 0)), .inl (0, w * h, .inl (fun _ => nI 0)), .inl (1, (w + 1) * (h + 1), .inr (fun _ => 0)), .inl (1, (w + 1) * (h + 1), .inr (fun _ => 0)), .inl (2, w * h, .inl (fun _ => bI false))]
  refine q_putFG (k := 0) (ci := 0) (N := 13) (C := "LocalBounds") (T := TX0) (fs := [.inl (nI w), .inl (nI h), .inl (nI (w * h)), q_r 1, q_r 2, .inr (.inl 0), q_r 3, q_r 4, q_r 5, q_r 6, .inr (.inr none), .inr (.inr none), .inl (nI 0)]) (f := 10) (ty := tyX0 10) ok (q_ini_N fn) rfl inlX0 tyX0 tyX0_ok nmX0 (by decide) fX0_marked rfl rfl rfl (tyX0_ok 10 (by decide)) (fun _ => rfl) (fun _ => rfl) rfl (Nat.le_of_ble_eq_true rfl) dX0_init_117 ?_
  show q_W (q_cs x 7 (0 + w * h + w * h + 256 + w * h + (w + 1) * (h + 1) + (w + 1) * (h + 1) + w * h)) 120 [some (q_r 0), some (.inl a), some (.inl b)] [] [.inr (0, [.inl (nI w), .inl (nI h), .inl (nI (w * h)), q_r 1, q_r 2, .inr (.inl 0), q_r 3, q_r 4, q_r 5, q_r 6, q_r 7, .inr (.inr none), .inl (nI 0)]), .inl (0, w * h, .inl (fun _ => nI 0)), .inl (2, w * h, .inl (fun _ => bI false)), .inl (0, 256, .inl (fun _ => nI 0)), .inl (0, w * h, .inl (fun _ => nI 0)), .inl (1, (w + 1) * (h + 1), .inr (fun _ => 0)), .inl (1, (w + 1) * (h + 1), .inr (fun _ => 0)), .inl (2, w * h, .inl (fun _ => bI false))]
  refine q_aload_n ok rfl dX0_init_120 ?_
  refine q_aload_n ok rfl dX0_init_121 ?_
  refine q_getG (ci := 0) (f := 2) ok rfl inlX0 (by decide) fX0_count rfl rfl rfl dX0_init_122 ?_
  refine q_newaN (t := 0) (N := w * h) (ty := .int) (e := .inl (0, w * h, .inl (fun _ => nI 0))) (b0 := (w * h, .inl (fun _ => nI 0))) ok fn (by decide) (by omega) (Nat.le_of_ble_eq_true rfl) (by decide +kernel) rfl (fun _ => rfl) (fun _ _ => rfl) (fun _ _ => rfl) (fun _ => rfl) (by omega) (by decide) rfl rfl rfl dX0_init_125 (fun x ok fn => ?_)
  show q_W (q_cs x 8 (0 + w * h + w * h + 256 + w * h + (w + 1) * (h + 1) + (w + 1) * (h + 1) + w * h + w * h)) 127 [some (q_r 0), some (.inl a), some (.inl b)] [q_r 8, q_r 0] [.inr (0, [.inl (nI w), .inl (nI h), .inl (nI (w * h)), q_r 1, q_r 2, .inr (.inl 0), q_r 3, q_r 4, q_r 5, q_r 6, q_r 7, .inr (.inr none), .inl (nI 0)]), .inl (0, w * h, .inl (fun _ => nI 0)), .inl (2, w * h, .inl (fun _ => bI false)), .inl (0, 256, .inl (fun _ => nI 0)), .inl (0, w * h, .inl (fun _ => nI 0)), .inl (1, (w + 1) * (h + 1), .inr (fun _ => 0)), .inl (1, (w + 1) * (h + 1), .inr (fun _ => 0)), .inl (2, w * h, .inl (fun _ => bI false)), .inl (0, w * h, .inl (fun _ => nI 0))]
  refine q_putFG (k := 0) (ci := 0) (N := 13) (C := "LocalBounds") (T := TX0) (fs := [.inl (nI w), .inl (nI h), .inl (nI (w * h)), q_r 1, q_r 2, .inr (.inl 0), q_r 3, q_r 4, q_r 5, q_r 6, q_r 7, .inr (.inr none), .inl (nI 0)]) (f := 11) (ty := tyX0 11) ok (q_ini_N fn) rfl inlX0 tyX0 tyX0_ok nmX0 (by decide) fX0_queue rfl rfl rfl (tyX0_ok 11 (by decide)) (fun _ => rfl) (fun _ => rfl) rfl (Nat.le_of_ble_eq_true rfl) dX0_init_127 ?_
  show q_W (q_cs x 8 (0 + w * h + w * h + 256 + w * h + (w + 1) * (h + 1) + (w + 1) * (h + 1) + w * h + w * h)) 130 [some (q_r 0), some (.inl a), some (.inl b)] [] [.inr (0, [.inl (nI w), .inl (nI h), .inl (nI (w * h)), q_r 1, q_r 2, .inr (.inl 0), q_r 3, q_r 4, q_r 5, q_r 6, q_r 7, q_r 8, .inl (nI 0)]), .inl (0, w * h, .inl (fun _ => nI 0)), .inl (2, w * h, .inl (fun _ => bI false)), .inl (0, 256, .inl (fun _ => nI 0)), .inl (0, w * h, .inl (fun _ => nI 0)), .inl (1, (w + 1) * (h + 1), .inr (fun _ => 0)), .inl (1, (w + 1) * (h + 1), .inr (fun _ => 0)), .inl (2, w * h, .inl (fun _ => bI false)), .inl (0, w * h, .inl (fun _ => nI 0))]
  exact q_vretN ok fn dX0_init_130 hk
theorem clampS_Y1 {a : Int32} (h : ¬ nI 1 ≤ a) : nI 1 = nI (clampS a) := by
  have h1 : ¬ (nI 1).toInt ≤ a.toInt := fun q => h (Int32.le_iff_toInt_le.mpr q)
  have h2 : (nI 1).toInt = 1 := by decide
  unfold clampS; rw [if_pos (by omega)]
theorem clampS_Y2 {a : Int32} (h0 : nI 1 ≤ a) (h : ¬ a ≤ nI 16) : nI 16 = nI (clampS a) := by
  have h1 : ¬ a.toInt ≤ (nI 16).toInt := fun q => h (Int32.le_iff_toInt_le.mpr q)
  have h3 : (nI 16).toInt = 16 := by decide
  unfold clampS; rw [if_neg (by omega), if_pos (by omega)]
theorem clampS_Y3 {a : Int32} (h0 : nI 1 ≤ a) (h : a ≤ nI 16) : a = nI (clampS a) := by
  have h1 : a.toInt ≤ (nI 16).toInt := Int32.le_iff_toInt_le.mp h
  have h3 : (nI 16).toInt = 16 := by decide
  have h4 : (nI 1).toInt ≤ a.toInt := Int32.le_iff_toInt_le.mp h0
  have h5 : (nI 1).toInt = 1 := by decide
  obtain ⟨a1, a2⟩ := clampS_in a
  refine Int32.toInt_inj.mp ?_
  rw [nI_toInt (by omega)]
  unfold clampS; split <;> (try split) <;> omega
def sp_X1_init : List q_V → List q_E → (List q_E → Prop) → Prop := fun as Wd K => ∃ (a b : Int32), as = [q_r 0, .inl a, .inl b] ∧ Wd = [.inr (1, dfX1)] ∧ K (mwZ (clampS a) (clampS b))
set_option maxHeartbeats 4000000 in
set_option maxRecDepth 20000 in
theorem ct_X1_init : q_CtN yX1_init cX1_init 3 1 20 5 1280 sp_X1_init := by
  refine q_metN (by decide) rfl ?_
  intro x as Wd K a0 hs ok fn
  obtain ⟨a, b, rfl, rfl, hk⟩ := hs
  unfold mwZ at hk
  show q_W (q_cs x 0 (0)) 0 [some (q_r 0), some (.inl a), some (.inl b)] [] [.inr (1, [.inl (nI 0), .inl (nI 0), .inl (nI 0), .inr (.inr none), .inr (.inr none), .inr (.inr none), .inr (.inr none), .inr (.inr none), .inr (.inl 0)])]
  refine q_aload_n ok rfl dX1_init_0 ?_
  refine q_super ok (by decide +kernel) (by decide +kernel) (by decide +kernel) (by decide) (by decide) dX1_init_1 ?_
  refine q_aload_n ok rfl dX1_init_4 ?_
  refine q_sipushv (nI 256) ok (by decide) dX1_init_5 ?_
  refine q_newaN (t := 0) (N := 256) (ty := .int) (e := .inl (0, 256, .inl (fun _ => nI 0))) (b0 := (256, .inl (fun _ => nI 0))) ok fn (by decide) (by omega) (Nat.le_of_ble_eq_true rfl) (by decide +kernel) rfl (fun _ => rfl) (fun _ _ => rfl) (fun _ _ => rfl) (fun _ => rfl) (by omega) (by decide) rfl rfl rfl dX1_init_8 (fun x ok fn => ?_)
  show q_W (q_cs x 1 (0 + 256)) 10 [some (q_r 0), some (.inl a), some (.inl b)] [q_r 1, q_r 0] [.inr (1, [.inl (nI 0), .inl (nI 0), .inl (nI 0), .inr (.inr none), .inr (.inr none), .inr (.inr none), .inr (.inr none), .inr (.inr none), .inr (.inl 0)]), .inl (0, 256, .inl (fun _ => nI 0))]
  refine q_putFG (k := 0) (ci := 1) (N := 9) (C := "LocalBoundsModel") (T := TX1) (fs := [.inl (nI 0), .inl (nI 0), .inl (nI 0), .inr (.inr none), .inr (.inr none), .inr (.inr none), .inr (.inr none), .inr (.inr none), .inr (.inl 0)]) (f := 3) (ty := tyX1 3) ok (q_ini_N fn) rfl inlX1 tyX1 tyX1_ok nmX1 (by decide) fX1_samples rfl rfl rfl (tyX1_ok 3 (by decide)) (fun _ => rfl) (fun _ => rfl) rfl (Nat.le_of_ble_eq_true rfl) dX1_init_10 ?_
  show q_W (q_cs x 1 (0 + 256)) 13 [some (q_r 0), some (.inl a), some (.inl b)] [] [.inr (1, [.inl (nI 0), .inl (nI 0), .inl (nI 0), q_r 1, .inr (.inr none), .inr (.inr none), .inr (.inr none), .inr (.inr none), .inr (.inl 0)]), .inl (0, 256, .inl (fun _ => nI 0))]
  refine q_aload_n ok rfl dX1_init_13 ?_
  refine q_sipushv (nI 256) ok (by decide) dX1_init_14 ?_
  refine q_newaN (t := 2) (N := 256) (ty := .boolean) (e := .inl (2, 256, .inl (fun _ => bI false))) (b0 := (256, .inl (fun _ => bI false))) ok fn (by decide) (by omega) (Nat.le_of_ble_eq_true rfl) (by decide +kernel) rfl (fun _ => rfl) (fun _ _ => rfl) (fun _ _ => rfl) (fun _ => rfl) (by omega) (by decide) rfl rfl rfl dX1_init_17 (fun x ok fn => ?_)
  show q_W (q_cs x 2 (0 + 256 + 256)) 19 [some (q_r 0), some (.inl a), some (.inl b)] [q_r 2, q_r 0] [.inr (1, [.inl (nI 0), .inl (nI 0), .inl (nI 0), q_r 1, .inr (.inr none), .inr (.inr none), .inr (.inr none), .inr (.inr none), .inr (.inl 0)]), .inl (0, 256, .inl (fun _ => nI 0)), .inl (2, 256, .inl (fun _ => bI false))]
  refine q_putFG (k := 0) (ci := 1) (N := 9) (C := "LocalBoundsModel") (T := TX1) (fs := [.inl (nI 0), .inl (nI 0), .inl (nI 0), q_r 1, .inr (.inr none), .inr (.inr none), .inr (.inr none), .inr (.inr none), .inr (.inl 0)]) (f := 4) (ty := tyX1 4) ok (q_ini_N fn) rfl inlX1 tyX1 tyX1_ok nmX1 (by decide) fX1_black rfl rfl rfl (tyX1_ok 4 (by decide)) (fun _ => rfl) (fun _ => rfl) rfl (Nat.le_of_ble_eq_true rfl) dX1_init_19 ?_
  show q_W (q_cs x 2 (0 + 256 + 256)) 22 [some (q_r 0), some (.inl a), some (.inl b)] [] [.inr (1, [.inl (nI 0), .inl (nI 0), .inl (nI 0), q_r 1, q_r 2, .inr (.inr none), .inr (.inr none), .inr (.inr none), .inr (.inl 0)]), .inl (0, 256, .inl (fun _ => nI 0)), .inl (2, 256, .inl (fun _ => bI false))]
  refine q_aload_n ok rfl dX1_init_22 ?_
  refine q_sipushv (nI 256) ok (by decide) dX1_init_23 ?_
  refine q_newaN (t := 2) (N := 256) (ty := .boolean) (e := .inl (2, 256, .inl (fun _ => bI false))) (b0 := (256, .inl (fun _ => bI false))) ok fn (by decide) (by omega) (Nat.le_of_ble_eq_true rfl) (by decide +kernel) rfl (fun _ => rfl) (fun _ _ => rfl) (fun _ _ => rfl) (fun _ => rfl) (by omega) (by decide) rfl rfl rfl dX1_init_26 (fun x ok fn => ?_)
  show q_W (q_cs x 3 (0 + 256 + 256 + 256)) 28 [some (q_r 0), some (.inl a), some (.inl b)] [q_r 3, q_r 0] [.inr (1, [.inl (nI 0), .inl (nI 0), .inl (nI 0), q_r 1, q_r 2, .inr (.inr none), .inr (.inr none), .inr (.inr none), .inr (.inl 0)]), .inl (0, 256, .inl (fun _ => nI 0)), .inl (2, 256, .inl (fun _ => bI false)), .inl (2, 256, .inl (fun _ => bI false))]
  refine q_putFG (k := 0) (ci := 1) (N := 9) (C := "LocalBoundsModel") (T := TX1) (fs := [.inl (nI 0), .inl (nI 0), .inl (nI 0), q_r 1, q_r 2, .inr (.inr none), .inr (.inr none), .inr (.inr none), .inr (.inl 0)]) (f := 5) (ty := tyX1 5) ok (q_ini_N fn) rfl inlX1 tyX1 tyX1_ok nmX1 (by decide) fX1_next rfl rfl rfl (tyX1_ok 5 (by decide)) (fun _ => rfl) (fun _ => rfl) rfl (Nat.le_of_ble_eq_true rfl) dX1_init_28 ?_
  show q_W (q_cs x 3 (0 + 256 + 256 + 256)) 31 [some (q_r 0), some (.inl a), some (.inl b)] [] [.inr (1, [.inl (nI 0), .inl (nI 0), .inl (nI 0), q_r 1, q_r 2, q_r 3, .inr (.inr none), .inr (.inr none), .inr (.inl 0)]), .inl (0, 256, .inl (fun _ => nI 0)), .inl (2, 256, .inl (fun _ => bI false)), .inl (2, 256, .inl (fun _ => bI false))]
  refine q_aload_n ok rfl dX1_init_31 ?_
  refine q_sipushv (nI 256) ok (by decide) dX1_init_32 ?_
  refine q_newaN (t := 0) (N := 256) (ty := .int) (e := .inl (0, 256, .inl (fun _ => nI 0))) (b0 := (256, .inl (fun _ => nI 0))) ok fn (by decide) (by omega) (Nat.le_of_ble_eq_true rfl) (by decide +kernel) rfl (fun _ => rfl) (fun _ _ => rfl) (fun _ _ => rfl) (fun _ => rfl) (by omega) (by decide) rfl rfl rfl dX1_init_35 (fun x ok fn => ?_)
  show q_W (q_cs x 4 (0 + 256 + 256 + 256 + 256)) 37 [some (q_r 0), some (.inl a), some (.inl b)] [q_r 4, q_r 0] [.inr (1, [.inl (nI 0), .inl (nI 0), .inl (nI 0), q_r 1, q_r 2, q_r 3, .inr (.inr none), .inr (.inr none), .inr (.inl 0)]), .inl (0, 256, .inl (fun _ => nI 0)), .inl (2, 256, .inl (fun _ => bI false)), .inl (2, 256, .inl (fun _ => bI false)), .inl (0, 256, .inl (fun _ => nI 0))]
  refine q_putFG (k := 0) (ci := 1) (N := 9) (C := "LocalBoundsModel") (T := TX1) (fs := [.inl (nI 0), .inl (nI 0), .inl (nI 0), q_r 1, q_r 2, q_r 3, .inr (.inr none), .inr (.inr none), .inr (.inl 0)]) (f := 6) (ty := tyX1 6) ok (q_ini_N fn) rfl inlX1 tyX1 tyX1_ok nmX1 (by decide) fX1_came rfl rfl rfl (tyX1_ok 6 (by decide)) (fun _ => rfl) (fun _ => rfl) rfl (Nat.le_of_ble_eq_true rfl) dX1_init_37 ?_
  show q_W (q_cs x 4 (0 + 256 + 256 + 256 + 256)) 40 [some (q_r 0), some (.inl a), some (.inl b)] [] [.inr (1, [.inl (nI 0), .inl (nI 0), .inl (nI 0), q_r 1, q_r 2, q_r 3, q_r 4, .inr (.inr none), .inr (.inl 0)]), .inl (0, 256, .inl (fun _ => nI 0)), .inl (2, 256, .inl (fun _ => bI false)), .inl (2, 256, .inl (fun _ => bI false)), .inl (0, 256, .inl (fun _ => nI 0))]
  refine q_aload_n ok rfl dX1_init_40 ?_
  refine q_sipushv (nI 256) ok (by decide) dX1_init_41 ?_
  refine q_newaN (t := 0) (N := 256) (ty := .int) (e := .inl (0, 256, .inl (fun _ => nI 0))) (b0 := (256, .inl (fun _ => nI 0))) ok fn (by decide) (by omega) (Nat.le_of_ble_eq_true rfl) (by decide +kernel) rfl (fun _ => rfl) (fun _ _ => rfl) (fun _ _ => rfl) (fun _ => rfl) (by omega) (by decide) rfl rfl rfl dX1_init_44 (fun x ok fn => ?_)
  show q_W (q_cs x 5 (0 + 256 + 256 + 256 + 256 + 256)) 46 [some (q_r 0), some (.inl a), some (.inl b)] [q_r 5, q_r 0] [.inr (1, [.inl (nI 0), .inl (nI 0), .inl (nI 0), q_r 1, q_r 2, q_r 3, q_r 4, .inr (.inr none), .inr (.inl 0)]), .inl (0, 256, .inl (fun _ => nI 0)), .inl (2, 256, .inl (fun _ => bI false)), .inl (2, 256, .inl (fun _ => bI false)), .inl (0, 256, .inl (fun _ => nI 0)), .inl (0, 256, .inl (fun _ => nI 0))]
  refine q_putFG (k := 0) (ci := 1) (N := 9) (C := "LocalBoundsModel") (T := TX1) (fs := [.inl (nI 0), .inl (nI 0), .inl (nI 0), q_r 1, q_r 2, q_r 3, q_r 4, .inr (.inr none), .inr (.inl 0)]) (f := 7) (ty := tyX1 7) ok (q_ini_N fn) rfl inlX1 tyX1 tyX1_ok nmX1 (by decide) fX1_part rfl rfl rfl (tyX1_ok 7 (by decide)) (fun _ => rfl) (fun _ => rfl) rfl (Nat.le_of_ble_eq_true rfl) dX1_init_46 ?_
  show q_W (q_cs x 5 (0 + 256 + 256 + 256 + 256 + 256)) 49 [some (q_r 0), some (.inl a), some (.inl b)] [] [.inr (1, [.inl (nI 0), .inl (nI 0), .inl (nI 0), q_r 1, q_r 2, q_r 3, q_r 4, q_r 5, .inr (.inl 0)]), .inl (0, 256, .inl (fun _ => nI 0)), .inl (2, 256, .inl (fun _ => bI false)), .inl (2, 256, .inl (fun _ => bI false)), .inl (0, 256, .inl (fun _ => nI 0)), .inl (0, 256, .inl (fun _ => nI 0))]
  refine q_aload_n ok rfl dX1_init_49 ?_
  have j71 : ∀ v, v = nI (clampS a) → q_W (q_cs x 5 (0 + 256 + 256 + 256 + 256 + 256)) 71 [some (q_r 0), some (.inl a), some (.inl b)] [.inl v, q_r 0] [.inr (1, [.inl (nI 0), .inl (nI 0), .inl (nI 0), q_r 1, q_r 2, q_r 3, q_r 4, q_r 5, .inr (.inl 0)]), .inl (0, 256, .inl (fun _ => nI 0)), .inl (2, 256, .inl (fun _ => bI false)), .inl (2, 256, .inl (fun _ => bI false)), .inl (0, 256, .inl (fun _ => nI 0)), .inl (0, 256, .inl (fun _ => nI 0))] := by
    rintro _ rfl
    refine q_putFG (k := 0) (ci := 1) (N := 9) (C := "LocalBoundsModel") (T := TX1) (fs := [.inl (nI 0), .inl (nI 0), .inl (nI 0), q_r 1, q_r 2, q_r 3, q_r 4, q_r 5, .inr (.inl 0)]) (f := 1) (ty := tyX1 1) ok (q_ini_N fn) rfl inlX1 tyX1 tyX1_ok nmX1 (by decide) fX1_width rfl rfl rfl (tyX1_ok 1 (by decide)) (fun _ => rfl) (fun _ => rfl) rfl (Nat.le_of_ble_eq_true rfl) dX1_init_71 ?_
    show q_W (q_cs x 5 (0 + 256 + 256 + 256 + 256 + 256)) 74 [some (q_r 0), some (.inl a), some (.inl b)] [] [.inr (1, [.inl (nI 0), .inl (nI (clampS a)), .inl (nI 0), q_r 1, q_r 2, q_r 3, q_r 4, q_r 5, .inr (.inl 0)]), .inl (0, 256, .inl (fun _ => nI 0)), .inl (2, 256, .inl (fun _ => bI false)), .inl (2, 256, .inl (fun _ => bI false)), .inl (0, 256, .inl (fun _ => nI 0)), .inl (0, 256, .inl (fun _ => nI 0))]
    refine q_aload_n ok rfl dX1_init_74 ?_
    have j96 : ∀ v, v = nI (clampS b) → q_W (q_cs x 5 (0 + 256 + 256 + 256 + 256 + 256)) 96 [some (q_r 0), some (.inl a), some (.inl b)] [.inl v, q_r 0] [.inr (1, [.inl (nI 0), .inl (nI (clampS a)), .inl (nI 0), q_r 1, q_r 2, q_r 3, q_r 4, q_r 5, .inr (.inl 0)]), .inl (0, 256, .inl (fun _ => nI 0)), .inl (2, 256, .inl (fun _ => bI false)), .inl (2, 256, .inl (fun _ => bI false)), .inl (0, 256, .inl (fun _ => nI 0)), .inl (0, 256, .inl (fun _ => nI 0))] := by
      rintro _ rfl
      refine q_putFG (k := 0) (ci := 1) (N := 9) (C := "LocalBoundsModel") (T := TX1) (fs := [.inl (nI 0), .inl (nI (clampS a)), .inl (nI 0), q_r 1, q_r 2, q_r 3, q_r 4, q_r 5, .inr (.inl 0)]) (f := 2) (ty := tyX1 2) ok (q_ini_N fn) rfl inlX1 tyX1 tyX1_ok nmX1 (by decide) fX1_height rfl rfl rfl (tyX1_ok 2 (by decide)) (fun _ => rfl) (fun _ => rfl) rfl (Nat.le_of_ble_eq_true rfl) dX1_init_96 ?_
      show q_W (q_cs x 5 (0 + 256 + 256 + 256 + 256 + 256)) 99 [some (q_r 0), some (.inl a), some (.inl b)] [] [.inr (1, [.inl (nI 0), .inl (nI (clampS a)), .inl (nI (clampS b)), q_r 1, q_r 2, q_r 3, q_r 4, q_r 5, .inr (.inl 0)]), .inl (0, 256, .inl (fun _ => nI 0)), .inl (2, 256, .inl (fun _ => bI false)), .inl (2, 256, .inl (fun _ => bI false)), .inl (0, 256, .inl (fun _ => nI 0)), .inl (0, 256, .inl (fun _ => nI 0))]
      exact q_vretN ok fn dX1_init_99 hk
    refine q_iload_n ok rfl dX1_init_75 ?_
    refine q_iconstv (nI 1) ok (by decide) dX1_init_76 ?_
    refine q_icmp_ge 84 ok dX1_init_77 (by decide) (fun h1 => ?_) (fun h1 => ?_)
    · refine q_iload_n ok rfl dX1_init_84 ?_
      refine q_bipushv (nI 16) ok (by decide) dX1_init_85 ?_
      refine q_icmp_le 95 ok dX1_init_87 (by decide) (fun h2 => ?_) (fun h2 => ?_)
      · refine q_iload_n ok rfl dX1_init_95 ?_
        exact j96 _ (clampS_Y3 h1 h2)
      · refine q_bipushv (nI 16) ok (by decide) dX1_init_90 ?_
        refine q_goto 96 ok dX1_init_92 (by decide) ?_
        exact j96 _ (clampS_Y2 h1 h2)
    · refine q_iconstv (nI 1) ok (by decide) dX1_init_80 ?_
      refine q_goto 96 ok dX1_init_81 (by decide) ?_
      exact j96 _ (clampS_Y1 h1)
  refine q_iload_n ok rfl dX1_init_50 ?_
  refine q_iconstv (nI 1) ok (by decide) dX1_init_51 ?_
  refine q_icmp_ge 59 ok dX1_init_52 (by decide) (fun h1 => ?_) (fun h1 => ?_)
  · refine q_iload_n ok rfl dX1_init_59 ?_
    refine q_bipushv (nI 16) ok (by decide) dX1_init_60 ?_
    refine q_icmp_le 70 ok dX1_init_62 (by decide) (fun h2 => ?_) (fun h2 => ?_)
    · refine q_iload_n ok rfl dX1_init_70 ?_
      exact j71 _ (clampS_Y3 h1 h2)
    · refine q_bipushv (nI 16) ok (by decide) dX1_init_65 ?_
      refine q_goto 71 ok dX1_init_67 (by decide) ?_
      exact j71 _ (clampS_Y2 h1 h2)
  · refine q_iconstv (nI 1) ok (by decide) dX1_init_55 ?_
    refine q_goto 71 ok dX1_init_56 (by decide) ?_
    exact j71 _ (clampS_Y1 h1)
