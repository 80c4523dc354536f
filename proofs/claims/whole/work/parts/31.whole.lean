/-- all that an image holds, as the class has it -/
def cw_R (s kd nb rm st rw nx : Int → Int) (aw cn sp : Int) (tf : Int → Int) (tz : Int) (e1 e2 e3 : Int → Int) (en : Int) (l1 l2 : Int → Int) (ln : Int) (b1 b2 : Int → Int) (bn ho : Int) : Prop :=
  cs_R s kd nb rm st rw nx aw cn sp ∧ (tz = s 24 ∧ ∀ q, 0 ≤ q → q < s 24 → tf q = s (112 + q)) ∧ (en = s 21 ∧ ∀ k, 0 ≤ k → k < s 21 → e1 k = s (62 + k) ∧ e2 k = s (68 + k) ∧ e3 k = s (74 + k)) ∧ (ln = s 22 ∧ ∀ k, 0 ≤ k → k < s 22 → l1 k = s (80 + k) ∧ l2 k = s (88 + k)) ∧ (bn = s 23 ∧ ∀ k, 0 ≤ k → k < s 23 → b1 k = s (96 + k) ∧ b2 k = s (104 + k)) ∧ ho = s 20
theorem cw_copy {s kd nb rm st rw nx f1 f2 f3 f4 f5 n0 : Int → Int} {aw cn sp : Int} {tf tg : Int → Int} {tz : Int} {e1 e2 e3 g1 g2 g3 : Int → Int} {en : Int} {l1 l2 m1 m2 : Int → Int} {ln : Int} {b1 b2 d1 d2 : Int → Int} {bn ho : Int} (hs : md_rs s) (h : cw_R s kd nb rm st rw nx aw cn sp tf tz e1 e2 e3 en l1 l2 ln b1 b2 bn ho) (hc : cs_R s f1 f2 f3 f4 f5 n0 aw cn sp) (ht : ∀ p, 0 ≤ p → p < 100 → tg p = tf p) (h1 : ∀ p, 0 ≤ p → p < 8 → g1 p = e1 p) (h2 : ∀ p, 0 ≤ p → p < 8 → g2 p = e2 p) (h3 : ∀ p, 0 ≤ p → p < 8 → g3 p = e3 p) (h4 : ∀ p, 0 ≤ p → p < 8 → m1 p = l1 p) (h5 : ∀ p, 0 ≤ p → p < 8 → m2 p = l2 p) (h6 : ∀ p, 0 ≤ p → p < 8 → d1 p = b1 p) (h7 : ∀ p, 0 ≤ p → p < 8 → d2 p = b2 p) : cw_R s f1 f2 f3 f4 f5 n0 aw cn sp tg tz g1 g2 g3 en m1 m2 ln d1 d2 bn ho := by
  obtain ⟨a1, a2, a3, a4, a5, a6⟩ := h
  obtain ⟨c1, c2, c3, c4⟩ := hs
  refine ⟨hc, ⟨a2.1, fun q q1 q2 => ?_⟩, ⟨a3.1, fun k q1 q2 => ?_⟩, ⟨a4.1, fun k q1 q2 => ?_⟩, ⟨a5.1, fun k q1 q2 => ?_⟩, a6⟩
  · rw [ht q q1 (by omega)]; exact a2.2 q q1 q2
  · rw [h1 k q1 (by omega), h2 k q1 (by omega), h3 k q1 (by omega)]; exact a3.2 k q1 q2
  · rw [h4 k q1 (by omega), h5 k q1 (by omega)]; exact a4.2 k q1 q2
  · rw [h6 k q1 (by omega), h7 k q1 (by omega)]; exact a5.2 k q1 q2
set_option maxHeartbeats 4000000 in
set_option maxRecDepth 100000 in
theorem k_X4_add {K : gK} (b0 : Nat) (b1 : Nat) (b2 : Nat) (b3 : Nat) (mst : Int) (xa : Int) (xb : Int) (xc : Int) (pn : Int) (pl1 : Int → Int) (pl2 : Int → Int) (pl3 : Int → Int) (r_mst : rI mst) (r_xa : rI xa) (r_xb : rI xb) (r_xc : rI xc) (r_pn : rI pn) (r_pl1 : ∀ j, rI (pl1 j)) (r_pl2 : ∀ j, rI (pl2 j)) (r_pl3 : ∀ j, rI (pl3 j)) (hm : 0 ≤ pn ∧ pn ≤ mst ∧ mst ≤ 8) : gMet K yX4_add cX4_add 5 (some .int) 0 0 0 [.ref b0, .int (iI mst), .int (iI xa), .int (iI xb), .int (iI xc)] [cO b0 4 [.ref b1, .ref b2, .ref b3, .int (iI pn)], cA K b1 8 pl1, cA K b2 8 pl2, cA K b3 8 pl3] (fun v9 w9 => ∃ (u1 : Int → Int), ∃ (u2 : Int → Int), ∃ (u3 : Int → Int), ∃ (un : Int), v9 = some (.int (iI (if pn = mst then -4 else pn + 1))) ∧ w9 = [cO b0 4 [.ref b1, .ref b2, .ref b3, .int (iI un)], cA K b1 8 u1, cA K b2 8 u2, cA K b3 8 u3] ∧ (∀ j, rI (u1 j)) ∧ (∀ j, rI (u2 j)) ∧ (∀ j, rI (u3 j)) ∧ rI un ∧ ((pn = mst ∧ u1 = pl1 ∧ u2 = pl2 ∧ u3 = pl3 ∧ un = pn) ∨ (pn < mst ∧ u1 = upI pl1 pn xa ∧ u2 = upI pl2 pn xb ∧ u3 = upI pl3 pn xc ∧ un = pn + 1))) := by
  refine g_enter (by decide +kernel) (Nat.le_of_ble_eq_true rfl) (fun G hC hR => ?_)
  refine g_lv hC [0, 1, 2, 3, 4] [(0, _), (1, _), (2, _), (3, _), (4, _)] rfl ?_
  refine g_aload_n (pc := 0) hC 0 dX4_add_0 rfl rfl ?_
  refine g_get (pc := 1) hC 0 fl_X4_21 dX4_add_1 rfl rfl ?_
  refine g_if_lt (pc := 4) hC 24 dX4_add_4 (by decide) (by omega) (fun c4 => by exfalso; omega) (fun c4 => ?_)
  refine g_aload_n (pc := 7) hC 0 dX4_add_7 rfl rfl ?_
  refine g_get (pc := 8) hC 0 fl_X4_21 dX4_add_8 rfl rfl ?_
  refine g_iload_n (pc := 11) hC 1 dX4_add_11 rfl rfl ?_
  refine g_icmp_ge (pc := 12) hC 24 dX4_add_12 (by decide) (by omega) (by omega) (fun c12 => ?_) (fun c12 => ?_)
  · refine g_bipush (pc := 24) hC (-4) dX4_add_24 (by decide) ?_
    exact g_iret (pc := 26) hR dX4_add_26 rfl ⟨by omega, by omega⟩ (Nat.le_of_ble_eq_true rfl) ⟨pl1, pl2, pl3, pn, ret_eq (by rw [if_pos (by omega)]), rfl, (by first | assumption | omega), (by first | assumption | omega), (by first | assumption | omega), (by first | assumption | omega), (Or.inl ⟨by omega, rfl, rfl, rfl, rfl⟩)⟩
  · refine g_aload_n (pc := 15) hC 0 dX4_add_15 rfl rfl ?_
    refine g_get (pc := 16) hC 0 fl_X4_21 dX4_add_16 rfl rfl ?_
    refine g_bipush (pc := 19) hC (8) dX4_add_19 (by decide) ?_
    refine g_icmp_lt (pc := 21) hC 27 dX4_add_21 (by decide) (by omega) (by omega) (fun c21 => ?_) (fun c21 => by exfalso; omega)
    refine g_aload_n (pc := 27) hC 0 dX4_add_27 rfl rfl ?_
    refine g_get (pc := 28) hC 0 fl_X4_9 dX4_add_28 rfl rfl ?_
    refine g_aload_n (pc := 31) hC 0 dX4_add_31 rfl rfl ?_
    refine g_get (pc := 32) hC 0 fl_X4_21 dX4_add_32 rfl rfl ?_
    refine g_iload_n (pc := 35) hC 2 dX4_add_35 rfl rfl ?_
    refine g_iast (pc := 36) hC 1 (fun f9 => [_, cA K _ _ f9, _, _]) dX4_add_36 rfl (by omega) (fun _ => rfl) (fun f1 e_f1 => ?_)
    have r_f1 := rng_up e_f1 r_pl1 (by omega)
    refine g_aload_n (pc := 37) hC 0 dX4_add_37 rfl rfl ?_
    refine g_get (pc := 38) hC 0 fl_X4_15 dX4_add_38 rfl rfl ?_
    refine g_aload_n (pc := 41) hC 0 dX4_add_41 rfl rfl ?_
    refine g_get (pc := 42) hC 0 fl_X4_21 dX4_add_42 rfl rfl ?_
    refine g_iload_n (pc := 45) hC 3 dX4_add_45 rfl rfl ?_
    refine g_iast (pc := 46) hC 2 (fun f9 => [_, _, cA K _ _ f9, _]) dX4_add_46 rfl (by omega) (fun _ => rfl) (fun f2 e_f2 => ?_)
    have r_f2 := rng_up e_f2 r_pl2 (by omega)
    refine g_aload_n (pc := 47) hC 0 dX4_add_47 rfl rfl ?_
    refine g_get (pc := 48) hC 0 fl_X4_18 dX4_add_48 rfl rfl ?_
    refine g_aload_n (pc := 51) hC 0 dX4_add_51 rfl rfl ?_
    refine g_get (pc := 52) hC 0 fl_X4_21 dX4_add_52 rfl rfl ?_
    refine g_iload (pc := 55) hC 4 dX4_add_55 rfl ?_
    refine g_iast (pc := 57) hC 3 (fun f9 => [_, _, _, cA K _ _ f9]) dX4_add_57 rfl (by omega) (fun _ => rfl) (fun f3 e_f3 => ?_)
    have r_f3 := rng_up e_f3 r_pl3 (by omega)
    refine g_aload_n (pc := 58) hC 0 dX4_add_58 rfl rfl ?_
    refine g_dup (pc := 59) hC dX4_add_59 rfl ?_
    refine g_get (pc := 60) hC 0 fl_X4_21 dX4_add_60 rfl rfl ?_
    refine g_iconst (pc := 63) hC dX4_add_63 ?_
    refine g_iadd (pc := 64) hC dX4_add_64 ?_
    refine g_putI (pc := 65) hC 0 [cO _ _ [_, _, _, _], _, _, _] fl_X4_21 dX4_add_65 rfl (Nat.le_of_ble_eq_true rfl) rfl ?_
    refine g_aload_n (pc := 68) hC 0 dX4_add_68 rfl rfl ?_
    refine g_get (pc := 69) hC 0 fl_X4_21 dX4_add_69 rfl rfl ?_
    exact g_iret (pc := 72) hR dX4_add_72 rfl ⟨by omega, by omega⟩ (Nat.le_of_ble_eq_true rfl) ⟨f1, f2, f3, pn + 1, ret_eq (by rw [if_neg (by omega)]), rfl, (by first | assumption | omega), (by first | assumption | omega), (by first | assumption | omega), (by first | assumption | omega), (Or.inr ⟨by omega, e_f1, e_f2, e_f3, rfl⟩)⟩
set_option maxHeartbeats 4000000 in
set_option maxRecDepth 100000 in
theorem k_X4_copyFrom {K : gK} (b0 : Nat) (y0 : Nat) (b1 : Nat) (b2 : Nat) (b3 : Nat) (z1 : Nat) (z2 : Nat) (z3 : Nat) (vn : Int) (pn : Int) (v1 : Int → Int) (v2 : Int → Int) (v3 : Int → Int) (pl1 : Int → Int) (pl2 : Int → Int) (pl3 : Int → Int) (r_vn : rI vn) (r_pn : rI pn) (r_v1 : ∀ j, rI (v1 j)) (r_v2 : ∀ j, rI (v2 j)) (r_v3 : ∀ j, rI (v3 j)) (r_pl1 : ∀ j, rI (pl1 j)) (r_pl2 : ∀ j, rI (pl2 j)) (r_pl3 : ∀ j, rI (pl3 j)) : gMet K yX4_copyFrom cX4_copyFrom 2 none 1 0 0 [.ref b0, .ref y0] [cO b0 4 [.ref b1, .ref b2, .ref b3, .int (iI vn)], cA K b1 8 v1, cA K b2 8 v2, cA K b3 8 v3, cO y0 4 [.ref z1, .ref z2, .ref z3, .int (iI pn)], cA K z1 8 pl1, cA K z2 8 pl2, cA K z3 8 pl3] (fun v9 w9 => ∃ (u1 : Int → Int), ∃ (u2 : Int → Int), ∃ (u3 : Int → Int), v9 = none ∧ w9 = [cO b0 4 [.ref b1, .ref b2, .ref b3, .int (iI pn)], cA K b1 8 u1, cA K b2 8 u2, cA K b3 8 u3, cO y0 4 [.ref z1, .ref z2, .ref z3, .int (iI pn)], cA K z1 8 pl1, cA K z2 8 pl2, cA K z3 8 pl3] ∧ (∀ j, rI (u1 j)) ∧ (∀ j, rI (u2 j)) ∧ (∀ j, rI (u3 j)) ∧ ((∀ p, 0 ≤ p → p < 8 → u1 p = pl1 p) ∧ (∀ p, 0 ≤ p → p < 8 → u2 p = pl2 p) ∧ (∀ p, 0 ≤ p → p < 8 → u3 p = pl3 p))) := by
  refine g_enter (by decide +kernel) (Nat.le_of_ble_eq_true rfl) (fun G hC hR => ?_)
  refine g_lv hC [0, 1] [(0, _), (1, _)] rfl ?_
  refine g_aload_n (pc := 0) hC 1 dX4_copyFrom_0 rfl rfl ?_
  refine g_get (pc := 1) hC 4 fl_X4_9 dX4_copyFrom_1 rfl rfl ?_
  refine g_iconst (pc := 4) hC dX4_copyFrom_4 ?_
  refine g_aload_n (pc := 5) hC 0 dX4_copyFrom_5 rfl rfl ?_
  refine g_get (pc := 6) hC 0 fl_X4_9 dX4_copyFrom_6 rfl rfl ?_
  refine g_iconst (pc := 9) hC dX4_copyFrom_9 ?_
  refine g_bipush (pc := 10) hC (8) dX4_copyFrom_10 (by decide) ?_
  refine g_copy (pc := 12) hC 5 1 (fun f9 => [_, cA K _ _ f9, _, _, _, _, _, _]) wm_X4_25 (Nat.le_of_ble_eq_true rfl) (by decide) dX4_copyFrom_12 rfl rfl (by omega) (fun _ => rfl) (fun f1 e_f1 => ?_)
  have r_f1 := rng_cp e_f1 r_pl1 r_v1
  refine g_aload_n (pc := 15) hC 1 dX4_copyFrom_15 rfl rfl ?_
  refine g_get (pc := 16) hC 4 fl_X4_15 dX4_copyFrom_16 rfl rfl ?_
  refine g_iconst (pc := 19) hC dX4_copyFrom_19 ?_
  refine g_aload_n (pc := 20) hC 0 dX4_copyFrom_20 rfl rfl ?_
  refine g_get (pc := 21) hC 0 fl_X4_15 dX4_copyFrom_21 rfl rfl ?_
  refine g_iconst (pc := 24) hC dX4_copyFrom_24 ?_
  refine g_bipush (pc := 25) hC (8) dX4_copyFrom_25 (by decide) ?_
  refine g_copy (pc := 27) hC 6 2 (fun f9 => [_, _, cA K _ _ f9, _, _, _, _, _]) wm_X4_25 (Nat.le_of_ble_eq_true rfl) (by decide) dX4_copyFrom_27 rfl rfl (by omega) (fun _ => rfl) (fun f2 e_f2 => ?_)
  have r_f2 := rng_cp e_f2 r_pl2 r_v2
  refine g_aload_n (pc := 30) hC 1 dX4_copyFrom_30 rfl rfl ?_
  refine g_get (pc := 31) hC 4 fl_X4_18 dX4_copyFrom_31 rfl rfl ?_
  refine g_iconst (pc := 34) hC dX4_copyFrom_34 ?_
  refine g_aload_n (pc := 35) hC 0 dX4_copyFrom_35 rfl rfl ?_
  refine g_get (pc := 36) hC 0 fl_X4_18 dX4_copyFrom_36 rfl rfl ?_
  refine g_iconst (pc := 39) hC dX4_copyFrom_39 ?_
  refine g_bipush (pc := 40) hC (8) dX4_copyFrom_40 (by decide) ?_
  refine g_copy (pc := 42) hC 7 3 (fun f9 => [_, _, _, cA K _ _ f9, _, _, _, _]) wm_X4_25 (Nat.le_of_ble_eq_true rfl) (by decide) dX4_copyFrom_42 rfl rfl (by omega) (fun _ => rfl) (fun f3 e_f3 => ?_)
  have r_f3 := rng_cp e_f3 r_pl3 r_v3
  refine g_aload_n (pc := 45) hC 0 dX4_copyFrom_45 rfl rfl ?_
  refine g_aload_n (pc := 46) hC 1 dX4_copyFrom_46 rfl rfl ?_
  refine g_get (pc := 47) hC 4 fl_X4_21 dX4_copyFrom_47 rfl rfl ?_
  refine g_putI (pc := 50) hC 0 [cO _ _ [_, _, _, _], _, _, _, _, _, _, _] fl_X4_21 dX4_copyFrom_50 rfl (Nat.le_of_ble_eq_true rfl) rfl ?_
  exact g_vret (pc := 53) hR dX4_copyFrom_53 rfl ⟨by omega, by omega⟩ (Nat.le_of_ble_eq_true rfl) ⟨f1, f2, f3, rfl, rfl, (by first | assumption | omega), (by first | assumption | omega), (by first | assumption | omega), ⟨cp_at e_f1, cp_at e_f2, cp_at e_f3⟩⟩
set_option maxHeartbeats 4000000 in
set_option maxRecDepth 100000 in
theorem k_X6_add {K : gK} (po : Nat) (pa : Nat) (g : Int) (tz : Int) (tf : Int → Int) (r_g : rI g) (r_tz : rI tz) (r_tf : ∀ j, rI (tf j)) (hm : 0 ≤ tz ∧ tz ≤ 100) : gMet K yX6_add cX6_add 2 (some .boolean) 0 0 0 [.ref po, .int (iI g)] [cO po 6 [.ref pa, .int (iI tz)], cA K pa 100 tf] (fun v9 w9 => ∃ (tf2 : Int → Int), ∃ (tz2 : Int), v9 = some (.int (iI (if tz = 100 then 0 else 1))) ∧ w9 = [cO po 6 [.ref pa, .int (iI tz2)], cA K pa 100 tf2] ∧ (∀ j, rI (tf2 j)) ∧ rI tz2 ∧ ((tz = 100 ∧ tf2 = tf ∧ tz2 = tz) ∨ (tz < 100 ∧ tf2 = upI tf tz g ∧ tz2 = tz + 1))) := by
  refine g_enter (by decide +kernel) (Nat.le_of_ble_eq_true rfl) (fun G hC hR => ?_)
  refine g_lv hC [0, 1] [(0, _), (1, _)] rfl ?_
  refine g_aload_n (pc := 0) hC 0 dX6_add_0 rfl rfl ?_
  refine g_get (pc := 1) hC 0 fl_X6_15 dX6_add_1 rfl rfl ?_
  refine g_if_lt (pc := 4) hC 19 dX6_add_4 (by decide) (by omega) (fun c4 => by exfalso; omega) (fun c4 => ?_)
  refine g_aload_n (pc := 7) hC 0 dX6_add_7 rfl rfl ?_
  refine g_get (pc := 8) hC 0 fl_X6_15 dX6_add_8 rfl rfl ?_
  refine g_aload_n (pc := 11) hC 0 dX6_add_11 rfl rfl ?_
  refine g_get (pc := 12) hC 0 fl_X6_9 dX6_add_12 rfl rfl ?_
  refine g_alen (pc := 15) hC 1 dX6_add_15 rfl ?_
  refine g_st hC [.int (iI 100), _] rfl ?_
  refine g_icmp_lt (pc := 16) hC 21 dX6_add_16 (by decide) (by omega) (by omega) (fun c16 => ?_) (fun c16 => ?_)
  · refine g_aload_n (pc := 21) hC 0 dX6_add_21 rfl rfl ?_
    refine g_get (pc := 22) hC 0 fl_X6_9 dX6_add_22 rfl rfl ?_
    refine g_aload_n (pc := 25) hC 0 dX6_add_25 rfl rfl ?_
    refine g_get (pc := 26) hC 0 fl_X6_15 dX6_add_26 rfl rfl ?_
    refine g_iload_n (pc := 29) hC 1 dX6_add_29 rfl rfl ?_
    refine g_iast (pc := 30) hC 1 (fun f9 => [_, cA K _ _ f9]) dX6_add_30 rfl (by omega) (fun _ => rfl) (fun f1 e_f1 => ?_)
    have r_f1 := rng_up e_f1 r_tf (by omega)
    refine g_aload_n (pc := 31) hC 0 dX6_add_31 rfl rfl ?_
    refine g_dup (pc := 32) hC dX6_add_32 rfl ?_
    refine g_get (pc := 33) hC 0 fl_X6_15 dX6_add_33 rfl rfl ?_
    refine g_iconst (pc := 36) hC dX6_add_36 ?_
    refine g_iadd (pc := 37) hC dX6_add_37 ?_
    refine g_putI (pc := 38) hC 0 [cO _ _ [_, _], _] fl_X6_15 dX6_add_38 rfl (Nat.le_of_ble_eq_true rfl) rfl ?_
    refine g_iconst (pc := 41) hC dX6_add_41 ?_
    exact g_zret (pc := 42) hR dX6_add_42 rfl (by omega) ⟨by omega, by omega⟩ (Nat.le_of_ble_eq_true rfl) ⟨f1, tz + 1, ret_eq (by rw [if_neg (by omega)]), rfl, (by first | assumption | omega), (by first | assumption | omega), (Or.inr ⟨by omega, e_f1, rfl⟩)⟩
  · refine g_iconst (pc := 19) hC dX6_add_19 ?_
    exact g_zret (pc := 20) hR dX6_add_20 rfl (by omega) ⟨by omega, by omega⟩ (Nat.le_of_ble_eq_true rfl) ⟨tf, tz, ret_eq (by rw [if_pos (by omega)]), rfl, (by first | assumption | omega), (by first | assumption | omega), (Or.inl ⟨by omega, rfl, rfl⟩)⟩
set_option maxHeartbeats 4000000 in
set_option maxRecDepth 100000 in
theorem k_X6_copyFrom {K : gK} (po : Nat) (po3 : Nat) (pa : Nat) (pa3 : Nat) (ty : Int) (tz : Int) (tg : Int → Int) (tf : Int → Int) (r_ty : rI ty) (r_tz : rI tz) (r_tg : ∀ j, rI (tg j)) (r_tf : ∀ j, rI (tf j)) : gMet K yX6_copyFrom cX6_copyFrom 2 none 1 0 0 [.ref po, .ref po3] [cO po 6 [.ref pa, .int (iI ty)], cA K pa 100 tg, cO po3 6 [.ref pa3, .int (iI tz)], cA K pa3 100 tf] (fun v9 w9 => ∃ (tf2 : Int → Int), v9 = none ∧ w9 = [cO po 6 [.ref pa, .int (iI tz)], cA K pa 100 tf2, cO po3 6 [.ref pa3, .int (iI tz)], cA K pa3 100 tf] ∧ (∀ j, rI (tf2 j)) ∧ (∀ p, 0 ≤ p → p < 100 → tf2 p = tf p)) := by
  refine g_enter (by decide +kernel) (Nat.le_of_ble_eq_true rfl) (fun G hC hR => ?_)
  refine g_lv hC [0, 1] [(0, _), (1, _)] rfl ?_
  refine g_aload_n (pc := 0) hC 1 dX6_copyFrom_0 rfl rfl ?_
  refine g_get (pc := 1) hC 2 fl_X6_9 dX6_copyFrom_1 rfl rfl ?_
  refine g_iconst (pc := 4) hC dX6_copyFrom_4 ?_
  refine g_aload_n (pc := 5) hC 0 dX6_copyFrom_5 rfl rfl ?_
  refine g_get (pc := 6) hC 0 fl_X6_9 dX6_copyFrom_6 rfl rfl ?_
  refine g_iconst (pc := 9) hC dX6_copyFrom_9 ?_
  refine g_bipush (pc := 10) hC (100) dX6_copyFrom_10 (by decide) ?_
  refine g_copy (pc := 12) hC 3 1 (fun f9 => [_, cA K _ _ f9, _, _]) wm_X6_19 (Nat.le_of_ble_eq_true rfl) (by decide) dX6_copyFrom_12 rfl rfl (by omega) (fun _ => rfl) (fun f1 e_f1 => ?_)
  have r_f1 := rng_cp e_f1 r_tf r_tg
  refine g_aload_n (pc := 15) hC 0 dX6_copyFrom_15 rfl rfl ?_
  refine g_aload_n (pc := 16) hC 1 dX6_copyFrom_16 rfl rfl ?_
  refine g_get (pc := 17) hC 2 fl_X6_15 dX6_copyFrom_17 rfl rfl ?_
  refine g_putI (pc := 20) hC 0 [cO _ _ [_, _], _, _, _] fl_X6_15 dX6_copyFrom_20 rfl (Nat.le_of_ble_eq_true rfl) rfl ?_
  exact g_vret (pc := 23) hR dX6_copyFrom_23 rfl ⟨by omega, by omega⟩ (Nat.le_of_ble_eq_true rfl) ⟨f1, rfl, rfl, (by first | assumption | omega), (cp_at e_f1)⟩
set_option maxHeartbeats 4000000 in
set_option maxRecDepth 100000 in
theorem k_X8_copyFrom {K : gK} (nA : Nat) (nZ : Nat) (hA : Nat) (poA : Nat) (srA : Nat) (prA : Nat) (brA : Nat) (kA0 : Nat) (kA1 : Nat) (kA2 : Nat) (kA3 : Nat) (kA4 : Nat) (kA5 : Nat) (paA : Nat) (srA1 : Nat) (srA2 : Nat) (srA3 : Nat) (prA1 : Nat) (prA2 : Nat) (prA3 : Nat) (brA1 : Nat) (brA2 : Nat) (brA3 : Nat) (hZ : Nat) (poZ : Nat) (srZ : Nat) (prZ : Nat) (brZ : Nat) (kZ0 : Nat) (kZ1 : Nat) (kZ2 : Nat) (kZ3 : Nat) (kZ4 : Nat) (kZ5 : Nat) (paZ : Nat) (srZ1 : Nat) (srZ2 : Nat) (srZ3 : Nat) (prZ1 : Nat) (prZ2 : Nat) (prZ3 : Nat) (brZ1 : Nat) (brZ2 : Nat) (brZ3 : Nat) (hoA : Int) (awA : Int) (cnA : Int) (spA : Int) (tzA : Int) (senA : Int) (plnA : Int) (bonA : Int) (hoZ : Int) (awZ : Int) (cnZ : Int) (spZ : Int) (tzZ : Int) (senZ : Int) (plnZ : Int) (bonZ : Int) (kdA : Int → Int) (nbA : Int → Int) (rmA : Int → Int) (stA : Int → Int) (rwA : Int → Int) (nxA : Int → Int) (tfA : Int → Int) (seA1 : Int → Int) (seA2 : Int → Int) (seA3 : Int → Int) (plA1 : Int → Int) (plA2 : Int → Int) (plA3 : Int → Int) (boA1 : Int → Int) (boA2 : Int → Int) (boA3 : Int → Int) (kdZ : Int → Int) (nbZ : Int → Int) (rmZ : Int → Int) (stZ : Int → Int) (rwZ : Int → Int) (nxZ : Int → Int) (tfZ : Int → Int) (seZ1 : Int → Int) (seZ2 : Int → Int) (seZ3 : Int → Int) (plZ1 : Int → Int) (plZ2 : Int → Int) (plZ3 : Int → Int) (boZ1 : Int → Int) (boZ2 : Int → Int) (boZ3 : Int → Int) (s : Int → Int) (r_hoA : rI hoA) (r_awA : rI awA) (r_cnA : rI cnA) (r_spA : rI spA) (r_tzA : rI tzA) (r_senA : rI senA) (r_plnA : rI plnA) (r_bonA : rI bonA) (r_hoZ : rI hoZ) (r_awZ : rI awZ) (r_cnZ : rI cnZ) (r_spZ : rI spZ) (r_tzZ : rI tzZ) (r_senZ : rI senZ) (r_plnZ : rI plnZ) (r_bonZ : rI bonZ) (r_kdA : ∀ j, rI (kdA j)) (r_nbA : ∀ j, rI (nbA j)) (r_rmA : ∀ j, rI (rmA j)) (r_stA : ∀ j, rI (stA j)) (r_rwA : ∀ j, rI (rwA j)) (r_nxA : ∀ j, rI (nxA j)) (r_tfA : ∀ j, rI (tfA j)) (r_seA1 : ∀ j, rI (seA1 j)) (r_seA2 : ∀ j, rI (seA2 j)) (r_seA3 : ∀ j, rI (seA3 j)) (r_plA1 : ∀ j, rI (plA1 j)) (r_plA2 : ∀ j, rI (plA2 j)) (r_plA3 : ∀ j, rI (plA3 j)) (r_boA1 : ∀ j, rI (boA1 j)) (r_boA2 : ∀ j, rI (boA2 j)) (r_boA3 : ∀ j, rI (boA3 j)) (r_kdZ : ∀ j, rI (kdZ j)) (r_nbZ : ∀ j, rI (nbZ j)) (r_rmZ : ∀ j, rI (rmZ j)) (r_stZ : ∀ j, rI (stZ j)) (r_rwZ : ∀ j, rI (rwZ j)) (r_nxZ : ∀ j, rI (nxZ j)) (r_tfZ : ∀ j, rI (tfZ j)) (r_seZ1 : ∀ j, rI (seZ1 j)) (r_seZ2 : ∀ j, rI (seZ2 j)) (r_seZ3 : ∀ j, rI (seZ3 j)) (r_plZ1 : ∀ j, rI (plZ1 j)) (r_plZ2 : ∀ j, rI (plZ2 j)) (r_plZ3 : ∀ j, rI (plZ3 j)) (r_boZ1 : ∀ j, rI (boZ1 j)) (r_boZ2 : ∀ j, rI (boZ2 j)) (r_boZ3 : ∀ j, rI (boZ3 j)) (hg : md_rg s) (hs : md_rs s) (hwR : cw_R s kdZ nbZ rmZ stZ rwZ nxZ awZ cnZ spZ tfZ tzZ seZ1 seZ2 seZ3 senZ plZ1 plZ2 plnZ boZ1 boZ2 bonZ hoZ) (hn0 : ∀ p, 0 ≤ p → p < 6 → 0 ≤ nxA p ∧ nxA p ≤ 9) : gMet K yX8_copyFrom cX8_copyFrom 2 none 2 0 0 [.ref nA, .ref nZ] [cO nA 8 [.ref hA, .ref poA, .ref srA, .ref prA, .ref brA, .int (iI hoA)], cO hA 5 [.ref kA0, .ref kA1, .ref kA2, .ref kA3, .ref kA4, .ref kA5, .int (iI awA), .int (iI cnA), .int (iI spA)], cA K kA0 6 kdA, cA K kA1 6 nbA, cA K kA2 6 rmA, cA K kA3 6 stA, cA K kA4 24 rwA, cA K kA5 6 nxA, cO poA 6 [.ref paA, .int (iI tzA)], cA K paA 100 tfA, cO srA 4 [.ref srA1, .ref srA2, .ref srA3, .int (iI senA)], cA K srA1 8 seA1, cA K srA2 8 seA2, cA K srA3 8 seA3, cO prA 4 [.ref prA1, .ref prA2, .ref prA3, .int (iI plnA)], cA K prA1 8 plA1, cA K prA2 8 plA2, cA K prA3 8 plA3, cO brA 4 [.ref brA1, .ref brA2, .ref brA3, .int (iI bonA)], cA K brA1 8 boA1, cA K brA2 8 boA2, cA K brA3 8 boA3, cO nZ 8 [.ref hZ, .ref poZ, .ref srZ, .ref prZ, .ref brZ, .int (iI hoZ)], cO hZ 5 [.ref kZ0, .ref kZ1, .ref kZ2, .ref kZ3, .ref kZ4, .ref kZ5, .int (iI awZ), .int (iI cnZ), .int (iI spZ)], cA K kZ0 6 kdZ, cA K kZ1 6 nbZ, cA K kZ2 6 rmZ, cA K kZ3 6 stZ, cA K kZ4 24 rwZ, cA K kZ5 6 nxZ, cO poZ 6 [.ref paZ, .int (iI tzZ)], cA K paZ 100 tfZ, cO srZ 4 [.ref srZ1, .ref srZ2, .ref srZ3, .int (iI senZ)], cA K srZ1 8 seZ1, cA K srZ2 8 seZ2, cA K srZ3 8 seZ3, cO prZ 4 [.ref prZ1, .ref prZ2, .ref prZ3, .int (iI plnZ)], cA K prZ1 8 plZ1, cA K prZ2 8 plZ2, cA K prZ3 8 plZ3, cO brZ 4 [.ref brZ1, .ref brZ2, .ref brZ3, .int (iI bonZ)], cA K brZ1 8 boZ1, cA K brZ2 8 boZ2, cA K brZ3 8 boZ3] (fun v9 w9 => ∃ (kdC : Int → Int), ∃ (nbC : Int → Int), ∃ (rmC : Int → Int), ∃ (stC : Int → Int), ∃ (rwC : Int → Int), ∃ (tfC : Int → Int), ∃ (seC1 : Int → Int), ∃ (seC2 : Int → Int), ∃ (seC3 : Int → Int), ∃ (plC1 : Int → Int), ∃ (plC2 : Int → Int), ∃ (plC3 : Int → Int), ∃ (boC1 : Int → Int), ∃ (boC2 : Int → Int), ∃ (boC3 : Int → Int), v9 = none ∧ w9 = [cO nA 8 [.ref hA, .ref poA, .ref srA, .ref prA, .ref brA, .int (iI hoZ)], cO hA 5 [.ref kA0, .ref kA1, .ref kA2, .ref kA3, .ref kA4, .ref kA5, .int (iI awZ), .int (iI cnZ), .int (iI spZ)], cA K kA0 6 kdC, cA K kA1 6 nbC, cA K kA2 6 rmC, cA K kA3 6 stC, cA K kA4 24 rwC, cA K kA5 6 nxA, cO poA 6 [.ref paA, .int (iI tzZ)], cA K paA 100 tfC, cO srA 4 [.ref srA1, .ref srA2, .ref srA3, .int (iI senZ)], cA K srA1 8 seC1, cA K srA2 8 seC2, cA K srA3 8 seC3, cO prA 4 [.ref prA1, .ref prA2, .ref prA3, .int (iI plnZ)], cA K prA1 8 plC1, cA K prA2 8 plC2, cA K prA3 8 plC3, cO brA 4 [.ref brA1, .ref brA2, .ref brA3, .int (iI bonZ)], cA K brA1 8 boC1, cA K brA2 8 boC2, cA K brA3 8 boC3, cO nZ 8 [.ref hZ, .ref poZ, .ref srZ, .ref prZ, .ref brZ, .int (iI hoZ)], cO hZ 5 [.ref kZ0, .ref kZ1, .ref kZ2, .ref kZ3, .ref kZ4, .ref kZ5, .int (iI awZ), .int (iI cnZ), .int (iI spZ)], cA K kZ0 6 kdZ, cA K kZ1 6 nbZ, cA K kZ2 6 rmZ, cA K kZ3 6 stZ, cA K kZ4 24 rwZ, cA K kZ5 6 nxZ, cO poZ 6 [.ref paZ, .int (iI tzZ)], cA K paZ 100 tfZ, cO srZ 4 [.ref srZ1, .ref srZ2, .ref srZ3, .int (iI senZ)], cA K srZ1 8 seZ1, cA K srZ2 8 seZ2, cA K srZ3 8 seZ3, cO prZ 4 [.ref prZ1, .ref prZ2, .ref prZ3, .int (iI plnZ)], cA K prZ1 8 plZ1, cA K prZ2 8 plZ2, cA K prZ3 8 plZ3, cO brZ 4 [.ref brZ1, .ref brZ2, .ref brZ3, .int (iI bonZ)], cA K brZ1 8 boZ1, cA K brZ2 8 boZ2, cA K brZ3 8 boZ3] ∧ (∀ j, rI (kdC j)) ∧ (∀ j, rI (nbC j)) ∧ (∀ j, rI (rmC j)) ∧ (∀ j, rI (stC j)) ∧ (∀ j, rI (rwC j)) ∧ (∀ j, rI (tfC j)) ∧ (∀ j, rI (seC1 j)) ∧ (∀ j, rI (seC2 j)) ∧ (∀ j, rI (seC3 j)) ∧ (∀ j, rI (plC1 j)) ∧ (∀ j, rI (plC2 j)) ∧ (∀ j, rI (plC3 j)) ∧ (∀ j, rI (boC1 j)) ∧ (∀ j, rI (boC2 j)) ∧ (∀ j, rI (boC3 j)) ∧ (cw_R s kdC nbC rmC stC rwC nxA awZ cnZ spZ tfC tzZ seC1 seC2 seC3 senZ plC1 plC2 plnZ boC1 boC2 bonZ hoZ)) := by
  refine g_enter (by decide +kernel) (Nat.le_of_ble_eq_true rfl) (fun G hC hR => ?_)
  refine g_lv hC [0, 1] [(0, _), (1, _)] rfl ?_
  have hR9 := hwR.1
  refine g_aload_n (pc := 0) hC 0 dX8_copyFrom_0 rfl rfl ?_
  refine g_get (pc := 1) hC 0 fl_X8_10 dX8_copyFrom_1 rfl rfl ?_
  refine g_aload_n (pc := 4) hC 1 dX8_copyFrom_4 rfl rfl ?_
  refine g_get (pc := 5) hC 22 fl_X8_10 dX8_copyFrom_5 rfl rfl ?_
  refine g_callV (pc := 8) (qr := 1) hC [1, 2, 3, 4, 5, 6, 7, 23, 24, 25, 26, 27, 28, 29] (k_X5_copyFrom _ _ _ _ _ _ _ _ _ _ _ _ _ _ _ _ _ _ _ _ _ _ _ _ _ _ _ _ _ _ _ _ _ (by first | assumption | omega) (by first | assumption | omega) (by first | assumption | omega) (by first | assumption | omega) (by first | assumption | omega) (by first | assumption | omega) (by first | assumption | omega) (by first | assumption | omega) (by first | assumption | omega) (by first | assumption | omega) (by first | assumption | omega) (by first | assumption | omega) (by first | assumption | omega) (by first | assumption | omega) (by first | assumption | omega) (by first | assumption | omega) (by first | assumption | omega) (by first | assumption | omega) (by first | assumption | omega) (by first | assumption | omega) (by first | assumption | omega)) cl_X5_copyFrom wm_X8_36 dX8_copyFrom_8 rfl rfl rfl rfl rfl (by decide) (by decide) (by omega) (Nat.le_of_ble_eq_true rfl) rfl (fun v9 w9 hq9 => ?_)
  obtain ⟨kd3, nb3, rm3, st3, rw3, rfl, rfl, r_kd3, r_nb3, r_rm3, r_st3, r_rw3, hR2_8⟩ := hq9
  refine g_ws hC [cO nA 8 [.ref hA, .ref poA, .ref srA, .ref prA, .ref brA, .int (iI hoA)], cO hA 5 [.ref kA0, .ref kA1, .ref kA2, .ref kA3, .ref kA4, .ref kA5, .int (iI awZ), .int (iI cnZ), .int (iI spZ)], cA K kA0 6 kd3, cA K kA1 6 nb3, cA K kA2 6 rm3, cA K kA3 6 st3, cA K kA4 24 rw3, cA K kA5 6 nxA, cO poA 6 [.ref paA, .int (iI tzA)], cA K paA 100 tfA, cO srA 4 [.ref srA1, .ref srA2, .ref srA3, .int (iI senA)], cA K srA1 8 seA1, cA K srA2 8 seA2, cA K srA3 8 seA3, cO prA 4 [.ref prA1, .ref prA2, .ref prA3, .int (iI plnA)], cA K prA1 8 plA1, cA K prA2 8 plA2, cA K prA3 8 plA3, cO brA 4 [.ref brA1, .ref brA2, .ref brA3, .int (iI bonA)], cA K brA1 8 boA1, cA K brA2 8 boA2, cA K brA3 8 boA3, cO nZ 8 [.ref hZ, .ref poZ, .ref srZ, .ref prZ, .ref brZ, .int (iI hoZ)], cO hZ 5 [.ref kZ0, .ref kZ1, .ref kZ2, .ref kZ3, .ref kZ4, .ref kZ5, .int (iI awZ), .int (iI cnZ), .int (iI spZ)], cA K kZ0 6 kdZ, cA K kZ1 6 nbZ, cA K kZ2 6 rmZ, cA K kZ3 6 stZ, cA K kZ4 24 rwZ, cA K kZ5 6 nxZ, cO poZ 6 [.ref paZ, .int (iI tzZ)], cA K paZ 100 tfZ, cO srZ 4 [.ref srZ1, .ref srZ2, .ref srZ3, .int (iI senZ)], cA K srZ1 8 seZ1, cA K srZ2 8 seZ2, cA K srZ3 8 seZ3, cO prZ 4 [.ref prZ1, .ref prZ2, .ref prZ3, .int (iI plnZ)], cA K prZ1 8 plZ1, cA K prZ2 8 plZ2, cA K prZ3 8 plZ3, cO brZ 4 [.ref brZ1, .ref brZ2, .ref brZ3, .int (iI bonZ)], cA K brZ1 8 boZ1, cA K brZ2 8 boZ2, cA K brZ3 8 boZ3] rfl ?_
  refine g_st hC [] rfl ?_
  refine g_aload_n (pc := 11) hC 0 dX8_copyFrom_11 rfl rfl ?_
  refine g_get (pc := 12) hC 0 fl_X8_19 dX8_copyFrom_12 rfl rfl ?_
  refine g_aload_n (pc := 15) hC 1 dX8_copyFrom_15 rfl rfl ?_
  refine g_get (pc := 16) hC 22 fl_X8_19 dX8_copyFrom_16 rfl rfl ?_
  refine g_callV (pc := 19) (qr := 8) hC [8, 9, 30, 31] (k_X6_copyFrom _ _ _ _ _ _ _ _ (by first | assumption | omega) (by first | assumption | omega) (by first | assumption | omega) (by first | assumption | omega)) cl_X6_copyFrom wm_X8_40 dX8_copyFrom_19 rfl rfl rfl rfl rfl (by decide) (by decide) (by omega) (Nat.le_of_ble_eq_true rfl) rfl (fun v9 w9 hq9 => ?_)
  obtain ⟨tf3, rfl, rfl, r_tf3, hcp_19⟩ := hq9
  refine g_ws hC [cO nA 8 [.ref hA, .ref poA, .ref srA, .ref prA, .ref brA, .int (iI hoA)], cO hA 5 [.ref kA0, .ref kA1, .ref kA2, .ref kA3, .ref kA4, .ref kA5, .int (iI awZ), .int (iI cnZ), .int (iI spZ)], cA K kA0 6 kd3, cA K kA1 6 nb3, cA K kA2 6 rm3, cA K kA3 6 st3, cA K kA4 24 rw3, cA K kA5 6 nxA, cO poA 6 [.ref paA, .int (iI tzZ)], cA K paA 100 tf3, cO srA 4 [.ref srA1, .ref srA2, .ref srA3, .int (iI senA)], cA K srA1 8 seA1, cA K srA2 8 seA2, cA K srA3 8 seA3, cO prA 4 [.ref prA1, .ref prA2, .ref prA3, .int (iI plnA)], cA K prA1 8 plA1, cA K prA2 8 plA2, cA K prA3 8 plA3, cO brA 4 [.ref brA1, .ref brA2, .ref brA3, .int (iI bonA)], cA K brA1 8 boA1, cA K brA2 8 boA2, cA K brA3 8 boA3, cO nZ 8 [.ref hZ, .ref poZ, .ref srZ, .ref prZ, .ref brZ, .int (iI hoZ)], cO hZ 5 [.ref kZ0, .ref kZ1, .ref kZ2, .ref kZ3, .ref kZ4, .ref kZ5, .int (iI awZ), .int (iI cnZ), .int (iI spZ)], cA K kZ0 6 kdZ, cA K kZ1 6 nbZ, cA K kZ2 6 rmZ, cA K kZ3 6 stZ, cA K kZ4 24 rwZ, cA K kZ5 6 nxZ, cO poZ 6 [.ref paZ, .int (iI tzZ)], cA K paZ 100 tfZ, cO srZ 4 [.ref srZ1, .ref srZ2, .ref srZ3, .int (iI senZ)], cA K srZ1 8 seZ1, cA K srZ2 8 seZ2, cA K srZ3 8 seZ3, cO prZ 4 [.ref prZ1, .ref prZ2, .ref prZ3, .int (iI plnZ)], cA K prZ1 8 plZ1, cA K prZ2 8 plZ2, cA K prZ3 8 plZ3, cO brZ 4 [.ref brZ1, .ref brZ2, .ref brZ3, .int (iI bonZ)], cA K brZ1 8 boZ1, cA K brZ2 8 boZ2, cA K brZ3 8 boZ3] rfl ?_
  refine g_st hC [] rfl ?_
  refine g_aload_n (pc := 22) hC 0 dX8_copyFrom_22 rfl rfl ?_
  refine g_get (pc := 23) hC 0 fl_X8_26 dX8_copyFrom_23 rfl rfl ?_
  refine g_aload_n (pc := 26) hC 1 dX8_copyFrom_26 rfl rfl ?_
  refine g_get (pc := 27) hC 22 fl_X8_26 dX8_copyFrom_27 rfl rfl ?_
  refine g_callV (pc := 30) (qr := 10) hC [10, 11, 12, 13, 32, 33, 34, 35] (k_X4_copyFrom _ _ _ _ _ _ _ _ _ _ _ _ _ _ _ _ (by first | assumption | omega) (by first | assumption | omega) (by first | assumption | omega) (by first | assumption | omega) (by first | assumption | omega) (by first | assumption | omega) (by first | assumption | omega) (by first | assumption | omega)) cl_X4_copyFrom wm_X8_43 dX8_copyFrom_30 rfl rfl rfl rfl rfl (by decide) (by decide) (by omega) (Nat.le_of_ble_eq_true rfl) rfl (fun v9 w9 hq9 => ?_)
  obtain ⟨s1, s2, s3, rfl, rfl, r_s1, r_s2, r_s3, hcp_30⟩ := hq9
  refine g_ws hC [cO nA 8 [.ref hA, .ref poA, .ref srA, .ref prA, .ref brA, .int (iI hoA)], cO hA 5 [.ref kA0, .ref kA1, .ref kA2, .ref kA3, .ref kA4, .ref kA5, .int (iI awZ), .int (iI cnZ), .int (iI spZ)], cA K kA0 6 kd3, cA K kA1 6 nb3, cA K kA2 6 rm3, cA K kA3 6 st3, cA K kA4 24 rw3, cA K kA5 6 nxA, cO poA 6 [.ref paA, .int (iI tzZ)], cA K paA 100 tf3, cO srA 4 [.ref srA1, .ref srA2, .ref srA3, .int (iI senZ)], cA K srA1 8 s1, cA K srA2 8 s2, cA K srA3 8 s3, cO prA 4 [.ref prA1, .ref prA2, .ref prA3, .int (iI plnA)], cA K prA1 8 plA1, cA K prA2 8 plA2, cA K prA3 8 plA3, cO brA 4 [.ref brA1, .ref brA2, .ref brA3, .int (iI bonA)], cA K brA1 8 boA1, cA K brA2 8 boA2, cA K brA3 8 boA3, cO nZ 8 [.ref hZ, .ref poZ, .ref srZ, .ref prZ, .ref brZ, .int (iI hoZ)], cO hZ 5 [.ref kZ0, .ref kZ1, .ref kZ2, .ref kZ3, .ref kZ4, .ref kZ5, .int (iI awZ), .int (iI cnZ), .int (iI spZ)], cA K kZ0 6 kdZ, cA K kZ1 6 nbZ, cA K kZ2 6 rmZ, cA K kZ3 6 stZ, cA K kZ4 24 rwZ, cA K kZ5 6 nxZ, cO poZ 6 [.ref paZ, .int (iI tzZ)], cA K paZ 100 tfZ, cO srZ 4 [.ref srZ1, .ref srZ2, .ref srZ3, .int (iI senZ)], cA K srZ1 8 seZ1, cA K srZ2 8 seZ2, cA K srZ3 8 seZ3, cO prZ 4 [.ref prZ1, .ref prZ2, .ref prZ3, .int (iI plnZ)], cA K prZ1 8 plZ1, cA K prZ2 8 plZ2, cA K prZ3 8 plZ3, cO brZ 4 [.ref brZ1, .ref brZ2, .ref brZ3, .int (iI bonZ)], cA K brZ1 8 boZ1, cA K brZ2 8 boZ2, cA K brZ3 8 boZ3] rfl ?_
  refine g_st hC [] rfl ?_
  refine g_aload_n (pc := 33) hC 0 dX8_copyFrom_33 rfl rfl ?_
  refine g_get (pc := 34) hC 0 fl_X8_30 dX8_copyFrom_34 rfl rfl ?_
  refine g_aload_n (pc := 37) hC 1 dX8_copyFrom_37 rfl rfl ?_
  refine g_get (pc := 38) hC 22 fl_X8_30 dX8_copyFrom_38 rfl rfl ?_
  refine g_callV (pc := 41) (qr := 14) hC [14, 15, 16, 17, 36, 37, 38, 39] (k_X4_copyFrom _ _ _ _ _ _ _ _ _ _ _ _ _ _ _ _ (by first | assumption | omega) (by first | assumption | omega) (by first | assumption | omega) (by first | assumption | omega) (by first | assumption | omega) (by first | assumption | omega) (by first | assumption | omega) (by first | assumption | omega)) cl_X4_copyFrom wm_X8_43 dX8_copyFrom_41 rfl rfl rfl rfl rfl (by decide) (by decide) (by omega) (Nat.le_of_ble_eq_true rfl) rfl (fun v9 w9 hq9 => ?_)
  obtain ⟨p1, p2, p3, rfl, rfl, r_p1, r_p2, r_p3, hcp_41⟩ := hq9
  refine g_ws hC [cO nA 8 [.ref hA, .ref poA, .ref srA, .ref prA, .ref brA, .int (iI hoA)], cO hA 5 [.ref kA0, .ref kA1, .ref kA2, .ref kA3, .ref kA4, .ref kA5, .int (iI awZ), .int (iI cnZ), .int (iI spZ)], cA K kA0 6 kd3, cA K kA1 6 nb3, cA K kA2 6 rm3, cA K kA3 6 st3, cA K kA4 24 rw3, cA K kA5 6 nxA, cO poA 6 [.ref paA, .int (iI tzZ)], cA K paA 100 tf3, cO srA 4 [.ref srA1, .ref srA2, .ref srA3, .int (iI senZ)], cA K srA1 8 s1, cA K srA2 8 s2, cA K srA3 8 s3, cO prA 4 [.ref prA1, .ref prA2, .ref prA3, .int (iI plnZ)], cA K prA1 8 p1, cA K prA2 8 p2, cA K prA3 8 p3, cO brA 4 [.ref brA1, .ref brA2, .ref brA3, .int (iI bonA)], cA K brA1 8 boA1, cA K brA2 8 boA2, cA K brA3 8 boA3, cO nZ 8 [.ref hZ, .ref poZ, .ref srZ, .ref prZ, .ref brZ, .int (iI hoZ)], cO hZ 5 [.ref kZ0, .ref kZ1, .ref kZ2, .ref kZ3, .ref kZ4, .ref kZ5, .int (iI awZ), .int (iI cnZ), .int (iI spZ)], cA K kZ0 6 kdZ, cA K kZ1 6 nbZ, cA K kZ2 6 rmZ, cA K kZ3 6 stZ, cA K kZ4 24 rwZ, cA K kZ5 6 nxZ, cO poZ 6 [.ref paZ, .int (iI tzZ)], cA K paZ 100 tfZ, cO srZ 4 [.ref srZ1, .ref srZ2, .ref srZ3, .int (iI senZ)], cA K srZ1 8 seZ1, cA K srZ2 8 seZ2, cA K srZ3 8 seZ3, cO prZ 4 [.ref prZ1, .ref prZ2, .ref prZ3, .int (iI plnZ)], cA K prZ1 8 plZ1, cA K prZ2 8 plZ2, cA K prZ3 8 plZ3, cO brZ 4 [.ref brZ1, .ref brZ2, .ref brZ3, .int (iI bonZ)], cA K brZ1 8 boZ1, cA K brZ2 8 boZ2, cA K brZ3 8 boZ3] rfl ?_
  refine g_st hC [] rfl ?_
  refine g_aload_n (pc := 44) hC 0 dX8_copyFrom_44 rfl rfl ?_
  refine g_get (pc := 45) hC 0 fl_X8_33 dX8_copyFrom_45 rfl rfl ?_
  refine g_aload_n (pc := 48) hC 1 dX8_copyFrom_48 rfl rfl ?_
  refine g_get (pc := 49) hC 22 fl_X8_33 dX8_copyFrom_49 rfl rfl ?_
  refine g_callV (pc := 52) (qr := 18) hC [18, 19, 20, 21, 40, 41, 42, 43] (k_X4_copyFrom _ _ _ _ _ _ _ _ _ _ _ _ _ _ _ _ (by first | assumption | omega) (by first | assumption | omega) (by first | assumption | omega) (by first | assumption | omega) (by first | assumption | omega) (by first | assumption | omega) (by first | assumption | omega) (by first | assumption | omega)) cl_X4_copyFrom wm_X8_43 dX8_copyFrom_52 rfl rfl rfl rfl rfl (by decide) (by decide) (by omega) (Nat.le_of_ble_eq_true rfl) rfl (fun v9 w9 hq9 => ?_)
  obtain ⟨o1, o2, o3, rfl, rfl, r_o1, r_o2, r_o3, hcp_52⟩ := hq9
  refine g_ws hC [cO nA 8 [.ref hA, .ref poA, .ref srA, .ref prA, .ref brA, .int (iI hoA)], cO hA 5 [.ref kA0, .ref kA1, .ref kA2, .ref kA3, .ref kA4, .ref kA5, .int (iI awZ), .int (iI cnZ), .int (iI spZ)], cA K kA0 6 kd3, cA K kA1 6 nb3, cA K kA2 6 rm3, cA K kA3 6 st3, cA K kA4 24 rw3, cA K kA5 6 nxA, cO poA 6 [.ref paA, .int (iI tzZ)], cA K paA 100 tf3, cO srA 4 [.ref srA1, .ref srA2, .ref srA3, .int (iI senZ)], cA K srA1 8 s1, cA K srA2 8 s2, cA K srA3 8 s3, cO prA 4 [.ref prA1, .ref prA2, .ref prA3, .int (iI plnZ)], cA K prA1 8 p1, cA K prA2 8 p2, cA K prA3 8 p3, cO brA 4 [.ref brA1, .ref brA2, .ref brA3, .int (iI bonZ)], cA K brA1 8 o1, cA K brA2 8 o2, cA K brA3 8 o3, cO nZ 8 [.ref hZ, .ref poZ, .ref srZ, .ref prZ, .ref brZ, .int (iI hoZ)], cO hZ 5 [.ref kZ0, .ref kZ1, .ref kZ2, .ref kZ3, .ref kZ4, .ref kZ5, .int (iI awZ), .int (iI cnZ), .int (iI spZ)], cA K kZ0 6 kdZ, cA K kZ1 6 nbZ, cA K kZ2 6 rmZ, cA K kZ3 6 stZ, cA K kZ4 24 rwZ, cA K kZ5 6 nxZ, cO poZ 6 [.ref paZ, .int (iI tzZ)], cA K paZ 100 tfZ, cO srZ 4 [.ref srZ1, .ref srZ2, .ref srZ3, .int (iI senZ)], cA K srZ1 8 seZ1, cA K srZ2 8 seZ2, cA K srZ3 8 seZ3, cO prZ 4 [.ref prZ1, .ref prZ2, .ref prZ3, .int (iI plnZ)], cA K prZ1 8 plZ1, cA K prZ2 8 plZ2, cA K prZ3 8 plZ3, cO brZ 4 [.ref brZ1, .ref brZ2, .ref brZ3, .int (iI bonZ)], cA K brZ1 8 boZ1, cA K brZ2 8 boZ2, cA K brZ3 8 boZ3] rfl ?_
  refine g_st hC [] rfl ?_
  refine g_aload_n (pc := 55) hC 0 dX8_copyFrom_55 rfl rfl ?_
  refine g_aload_n (pc := 56) hC 1 dX8_copyFrom_56 rfl rfl ?_
  refine g_get (pc := 57) hC 22 fl_X8_46 dX8_copyFrom_57 rfl rfl ?_
  refine g_putI (pc := 60) hC 0 [cO _ _ [_, _, _, _, _, _], _, _, _, _, _, _, _, _, _, _, _, _, _, _, _, _, _, _, _, _, _, _, _, _, _, _, _, _, _, _, _, _, _, _, _, _, _, _, _, _, _, _, _] fl_X8_46 dX8_copyFrom_60 rfl (Nat.le_of_ble_eq_true rfl) rfl ?_
  exact g_vret (pc := 63) hR dX8_copyFrom_63 rfl ⟨by omega, by omega⟩ (Nat.le_of_ble_eq_true rfl) ⟨kd3, nb3, rm3, st3, rw3, tf3, s1, s2, s3, p1, p2, p3, o1, o2, o3, rfl, rfl, (by first | assumption | omega), (by first | assumption | omega), (by first | assumption | omega), (by first | assumption | omega), (by first | assumption | omega), (by first | assumption | omega), (by first | assumption | omega), (by first | assumption | omega), (by first | assumption | omega), (by first | assumption | omega), (by first | assumption | omega), (by first | assumption | omega), (by first | assumption | omega), (by first | assumption | omega), (by first | assumption | omega), (cw_copy hs hwR hR2_8 hcp_19 hcp_30.1 hcp_30.2.1 hcp_30.2.2 hcp_41.1 hcp_41.2.1 hcp_52.1 hcp_52.2.1)⟩
