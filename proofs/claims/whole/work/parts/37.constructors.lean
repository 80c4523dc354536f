/-! THE CLASS: its constructors -/
set_option maxHeartbeats 4000000 in
set_option maxRecDepth 100000 in
theorem k_X5_init {K : gK} (h0 : Nat) : gMet K yX5_init cX5_init 1 none 1 6 54 [.ref h0] [cO h0 5 [.null, .null, .null, .null, .null, .null, .int (iI 0), .int (iI 0), .int (iI 0)]] (fun v9 w9 => ∃ (k0 : Nat), ∃ (k1 : Nat), ∃ (k2 : Nat), ∃ (k3 : Nat), ∃ (k4 : Nat), ∃ (k5 : Nat), v9 = none ∧ w9 = [cO h0 5 [.ref k0, .ref k1, .ref k2, .ref k3, .ref k4, .ref k5, .int (iI 0), .int (iI 0), .int (iI 0)], cA K k0 6 (fun _ => 0), cA K k1 6 (fun _ => 0), cA K k2 6 (fun _ => 0), cA K k3 6 (fun _ => 0), cA K k4 24 (fun _ => 0), cA K k5 6 (fun _ => 0)]) := by
  refine g_enter (by decide +kernel) (Nat.le_of_ble_eq_true rfl) (fun G hC hR => ?_)
  refine g_lv hC [0] [(0, _)] rfl ?_
  refine g_aload_n (pc := 0) hC 0 dX5_init_0 rfl rfl ?_
  refine g_objInit (pc := 1) hC wm_X5_3 (Nat.le_of_ble_eq_true rfl) (by decide) dX5_init_1 ?_
  refine g_aload_n (pc := 4) hC 0 dX5_init_4 rfl rfl ?_
  refine g_bipush (pc := 5) hC (6) dX5_init_5 (by decide) ?_
  refine g_newI (pc := 7) hC 6 (fun a9 => [_, cA K a9 6 (fun _ => 0)]) dX5_init_7 (by omega) (by omega) (fun _ => rfl) (fun a1 => ?_)
  refine g_putFA (pc := 9) hC 0 [cO _ _ [_, _, _, _, _, _, _, _, _], _] fl_X5_9 dX5_init_9 rfl (Nat.le_of_ble_eq_true rfl) rfl rfl rfl rfl ?_
  refine g_aload_n (pc := 12) hC 0 dX5_init_12 rfl rfl ?_
  refine g_bipush (pc := 13) hC (6) dX5_init_13 (by decide) ?_
  refine g_newI (pc := 15) hC 6 (fun a9 => [_, _, cA K a9 6 (fun _ => 0)]) dX5_init_15 (by omega) (by omega) (fun _ => rfl) (fun a2 => ?_)
  refine g_putFA (pc := 17) hC 0 [cO _ _ [_, _, _, _, _, _, _, _, _], _, _] fl_X5_15 dX5_init_17 rfl (Nat.le_of_ble_eq_true rfl) rfl rfl rfl rfl ?_
  refine g_aload_n (pc := 20) hC 0 dX5_init_20 rfl rfl ?_
  refine g_bipush (pc := 21) hC (6) dX5_init_21 (by decide) ?_
  refine g_newI (pc := 23) hC 6 (fun a9 => [_, _, _, cA K a9 6 (fun _ => 0)]) dX5_init_23 (by omega) (by omega) (fun _ => rfl) (fun a3 => ?_)
  refine g_putFA (pc := 25) hC 0 [cO _ _ [_, _, _, _, _, _, _, _, _], _, _, _] fl_X5_18 dX5_init_25 rfl (Nat.le_of_ble_eq_true rfl) rfl rfl rfl rfl ?_
  refine g_aload_n (pc := 28) hC 0 dX5_init_28 rfl rfl ?_
  refine g_bipush (pc := 29) hC (6) dX5_init_29 (by decide) ?_
  refine g_newI (pc := 31) hC 6 (fun a9 => [_, _, _, _, cA K a9 6 (fun _ => 0)]) dX5_init_31 (by omega) (by omega) (fun _ => rfl) (fun a4 => ?_)
  refine g_putFA (pc := 33) hC 0 [cO _ _ [_, _, _, _, _, _, _, _, _], _, _, _, _] fl_X5_21 dX5_init_33 rfl (Nat.le_of_ble_eq_true rfl) rfl rfl rfl rfl ?_
  refine g_aload_n (pc := 36) hC 0 dX5_init_36 rfl rfl ?_
  refine g_bipush (pc := 37) hC (24) dX5_init_37 (by decide) ?_
  refine g_newI (pc := 39) hC 24 (fun a9 => [_, _, _, _, _, cA K a9 24 (fun _ => 0)]) dX5_init_39 (by omega) (by omega) (fun _ => rfl) (fun a5 => ?_)
  refine g_putFA (pc := 41) hC 0 [cO _ _ [_, _, _, _, _, _, _, _, _], _, _, _, _, _] fl_X5_24 dX5_init_41 rfl (Nat.le_of_ble_eq_true rfl) rfl rfl rfl rfl ?_
  refine g_aload_n (pc := 44) hC 0 dX5_init_44 rfl rfl ?_
  refine g_bipush (pc := 45) hC (6) dX5_init_45 (by decide) ?_
  refine g_newI (pc := 47) hC 6 (fun a9 => [_, _, _, _, _, _, cA K a9 6 (fun _ => 0)]) dX5_init_47 (by omega) (by omega) (fun _ => rfl) (fun a6 => ?_)
  refine g_putFA (pc := 49) hC 0 [cO _ _ [_, _, _, _, _, _, _, _, _], _, _, _, _, _, _] fl_X5_27 dX5_init_49 rfl (Nat.le_of_ble_eq_true rfl) rfl rfl rfl rfl ?_
  exact g_vret (pc := 52) hR dX5_init_52 rfl ⟨by omega, by omega⟩ (Nat.le_of_ble_eq_true rfl) ⟨a1, a2, a3, a4, a5, a6, rfl, rfl⟩
set_option maxHeartbeats 4000000 in
set_option maxRecDepth 100000 in
theorem k_X6_init {K : gK} (po : Nat) : gMet K yX6_init cX6_init 1 none 1 1 100 [.ref po] [cO po 6 [.null, .int (iI 0)]] (fun v9 w9 => ∃ (pa : Nat), v9 = none ∧ w9 = [cO po 6 [.ref pa, .int (iI 0)], cA K pa 100 (fun _ => 0)]) := by
  refine g_enter (by decide +kernel) (Nat.le_of_ble_eq_true rfl) (fun G hC hR => ?_)
  refine g_lv hC [0] [(0, _)] rfl ?_
  refine g_aload_n (pc := 0) hC 0 dX6_init_0 rfl rfl ?_
  refine g_objInit (pc := 1) hC wm_X6_3 (Nat.le_of_ble_eq_true rfl) (by decide) dX6_init_1 ?_
  refine g_aload_n (pc := 4) hC 0 dX6_init_4 rfl rfl ?_
  refine g_bipush (pc := 5) hC (100) dX6_init_5 (by decide) ?_
  refine g_newI (pc := 7) hC 100 (fun a9 => [_, cA K a9 100 (fun _ => 0)]) dX6_init_7 (by omega) (by omega) (fun _ => rfl) (fun a1 => ?_)
  refine g_putFA (pc := 9) hC 0 [cO _ _ [_, _], _] fl_X6_9 dX6_init_9 rfl (Nat.le_of_ble_eq_true rfl) rfl rfl rfl rfl ?_
  exact g_vret (pc := 12) hR dX6_init_12 rfl ⟨by omega, by omega⟩ (Nat.le_of_ble_eq_true rfl) ⟨a1, rfl, rfl⟩
set_option maxHeartbeats 4000000 in
set_option maxRecDepth 100000 in
theorem k_X4_init {K : gK} (b0 : Nat) : gMet K yX4_init cX4_init 1 none 1 3 24 [.ref b0] [cO b0 4 [.null, .null, .null, .int (iI 0)]] (fun v9 w9 => ∃ (b01 : Nat), ∃ (b02 : Nat), ∃ (b03 : Nat), v9 = none ∧ w9 = [cO b0 4 [.ref b01, .ref b02, .ref b03, .int (iI 0)], cA K b01 8 (fun _ => 0), cA K b02 8 (fun _ => 0), cA K b03 8 (fun _ => 0)]) := by
  refine g_enter (by decide +kernel) (Nat.le_of_ble_eq_true rfl) (fun G hC hR => ?_)
  refine g_lv hC [0] [(0, _)] rfl ?_
  refine g_aload_n (pc := 0) hC 0 dX4_init_0 rfl rfl ?_
  refine g_objInit (pc := 1) hC wm_X4_3 (Nat.le_of_ble_eq_true rfl) (by decide) dX4_init_1 ?_
  refine g_aload_n (pc := 4) hC 0 dX4_init_4 rfl rfl ?_
  refine g_bipush (pc := 5) hC (8) dX4_init_5 (by decide) ?_
  refine g_newI (pc := 7) hC 8 (fun a9 => [_, cA K a9 8 (fun _ => 0)]) dX4_init_7 (by omega) (by omega) (fun _ => rfl) (fun a1 => ?_)
  refine g_putFA (pc := 9) hC 0 [cO _ _ [_, _, _, _], _] fl_X4_9 dX4_init_9 rfl (Nat.le_of_ble_eq_true rfl) rfl rfl rfl rfl ?_
  refine g_aload_n (pc := 12) hC 0 dX4_init_12 rfl rfl ?_
  refine g_bipush (pc := 13) hC (8) dX4_init_13 (by decide) ?_
  refine g_newI (pc := 15) hC 8 (fun a9 => [_, _, cA K a9 8 (fun _ => 0)]) dX4_init_15 (by omega) (by omega) (fun _ => rfl) (fun a2 => ?_)
  refine g_putFA (pc := 17) hC 0 [cO _ _ [_, _, _, _], _, _] fl_X4_15 dX4_init_17 rfl (Nat.le_of_ble_eq_true rfl) rfl rfl rfl rfl ?_
  refine g_aload_n (pc := 20) hC 0 dX4_init_20 rfl rfl ?_
  refine g_bipush (pc := 21) hC (8) dX4_init_21 (by decide) ?_
  refine g_newI (pc := 23) hC 8 (fun a9 => [_, _, _, cA K a9 8 (fun _ => 0)]) dX4_init_23 (by omega) (by omega) (fun _ => rfl) (fun a3 => ?_)
  refine g_putFA (pc := 25) hC 0 [cO _ _ [_, _, _, _], _, _, _] fl_X4_18 dX4_init_25 rfl (Nat.le_of_ble_eq_true rfl) rfl rfl rfl rfl ?_
  exact g_vret (pc := 28) hR dX4_init_28 rfl ⟨by omega, by omega⟩ (Nat.le_of_ble_eq_true rfl) ⟨a1, a2, a3, rfl, rfl⟩
set_option maxHeartbeats 4000000 in
set_option maxRecDepth 100000 in
theorem k_X1_init {K : gK} (o0 : Nat) : gMet K yX1_init cX1_init 1 none 1 1 100 [.ref o0] [cO o0 1 [.null, .int (iI 0), .int (iI 0)]] (fun v9 w9 => ∃ (u0 : Nat), v9 = none ∧ w9 = [cO o0 1 [.ref u0, .int (iI 0), .int (iI 0)], cA K u0 100 (fun _ => 0)]) := by
  refine g_enter (by decide +kernel) (Nat.le_of_ble_eq_true rfl) (fun G hC hR => ?_)
  refine g_lv hC [0] [(0, _)] rfl ?_
  refine g_aload_n (pc := 0) hC 0 dX1_init_0 rfl rfl ?_
  refine g_objInit (pc := 1) hC wm_X1_3 (Nat.le_of_ble_eq_true rfl) (by decide) dX1_init_1 ?_
  refine g_aload_n (pc := 4) hC 0 dX1_init_4 rfl rfl ?_
  refine g_bipush (pc := 5) hC (100) dX1_init_5 (by decide) ?_
  refine g_newI (pc := 7) hC 100 (fun a9 => [_, cA K a9 100 (fun _ => 0)]) dX1_init_7 (by omega) (by omega) (fun _ => rfl) (fun a1 => ?_)
  refine g_putFA (pc := 9) hC 0 [cO _ _ [_, _, _], _] fl_X1_9 dX1_init_9 rfl (Nat.le_of_ble_eq_true rfl) rfl rfl rfl rfl ?_
  exact g_vret (pc := 12) hR dX1_init_12 rfl ⟨by omega, by omega⟩ (Nat.le_of_ble_eq_true rfl) ⟨a1, rfl, rfl⟩
set_option maxHeartbeats 4000000 in
set_option maxRecDepth 100000 in
theorem k_X0_init {K : gK} (g0 : Nat) : gMet K yX0_init cX0_init 1 none 1 1 20 [.ref g0] [cO g0 0 [.null, .int (iI 0), .int (iI 0), .int (iI 0), .int (iI 0)]] (fun v9 w9 => ∃ (ga : Nat), v9 = none ∧ w9 = [cO g0 0 [.ref ga, .int (iI 0), .int (iI 0), .int (iI 0), .int (iI 0)], cA K ga 20 (fun _ => 0)]) := by
  refine g_enter (by decide +kernel) (Nat.le_of_ble_eq_true rfl) (fun G hC hR => ?_)
  refine g_lv hC [0] [(0, _)] rfl ?_
  refine g_aload_n (pc := 0) hC 0 dX0_init_0 rfl rfl ?_
  refine g_objInit (pc := 1) hC wm_X0_3 (Nat.le_of_ble_eq_true rfl) (by decide) dX0_init_1 ?_
  refine g_aload_n (pc := 4) hC 0 dX0_init_4 rfl rfl ?_
  refine g_bipush (pc := 5) hC (20) dX0_init_5 (by decide) ?_
  refine g_newI (pc := 7) hC 20 (fun a9 => [_, cA K a9 20 (fun _ => 0)]) dX0_init_7 (by omega) (by omega) (fun _ => rfl) (fun a1 => ?_)
  refine g_putFA (pc := 9) hC 0 [cO _ _ [_, _, _, _, _], _] fl_X0_9 dX0_init_9 rfl (Nat.le_of_ble_eq_true rfl) rfl rfl rfl rfl ?_
  exact g_vret (pc := 12) hR dX0_init_12 rfl ⟨by omega, by omega⟩ (Nat.le_of_ble_eq_true rfl) ⟨a1, rfl, rfl⟩
set_option maxHeartbeats 4000000 in
set_option maxRecDepth 100000 in
theorem k_X2_init {K : gK} (q0 : Nat) : gMet K yX2_init cX2_init 1 none 1 2 6 [.ref q0] [cO q0 2 [.null, .null, .null, .int (iI 0)]] (fun v9 w9 => ∃ (q1 : Nat), ∃ (q2 : Nat), v9 = none ∧ w9 = [cO q0 2 [.null, .ref q1, .ref q2, .int (iI 1)], cA K q1 6 (fun _ => 0), cA K q2 0 (fun _ => 0)]) := by
  refine g_enter (by decide +kernel) (Nat.le_of_ble_eq_true rfl) (fun G hC hR => ?_)
  refine g_lv hC [0] [(0, _)] rfl ?_
  refine g_aload_n (pc := 0) hC 0 dX2_init_0 rfl rfl ?_
  refine g_objInit (pc := 1) hC wm_X2_3 (Nat.le_of_ble_eq_true rfl) (by decide) dX2_init_1 ?_
  refine g_aload_n (pc := 4) hC 0 dX2_init_4 rfl rfl ?_
  refine g_bipush (pc := 5) hC (6) dX2_init_5 (by decide) ?_
  refine g_newI (pc := 7) hC 6 (fun a9 => [_, cA K a9 6 (fun _ => 0)]) dX2_init_7 (by omega) (by omega) (fun _ => rfl) (fun a1 => ?_)
  refine g_putFA (pc := 9) hC 0 [cO _ _ [_, _, _, _], _] fl_X2_9 dX2_init_9 rfl (Nat.le_of_ble_eq_true rfl) rfl rfl rfl rfl ?_
  refine g_aload_n (pc := 12) hC 0 dX2_init_12 rfl rfl ?_
  refine g_iconst (pc := 13) hC dX2_init_13 ?_
  refine g_newI (pc := 14) hC 0 (fun a9 => [_, _, cA K a9 0 (fun _ => 0)]) dX2_init_14 (by omega) (by omega) (fun _ => rfl) (fun a2 => ?_)
  refine g_putA (pc := 16) hC 0 [cO _ _ [_, _, _, _], _, _] fl_X2_15 dX2_init_16 rfl (Nat.le_of_ble_eq_true rfl) rfl ?_
  refine g_aload_n (pc := 19) hC 0 dX2_init_19 rfl rfl ?_
  refine g_iconst (pc := 20) hC dX2_init_20 ?_
  refine g_putI (pc := 21) hC 0 [cO _ _ [_, _, _, _], _, _] fl_X2_18 dX2_init_21 rfl (Nat.le_of_ble_eq_true rfl) rfl ?_
  exact g_vret (pc := 24) hR dX2_init_24 rfl ⟨by omega, by omega⟩ (Nat.le_of_ble_eq_true rfl) ⟨a1, a2, rfl, rfl⟩
set_option maxHeartbeats 4000000 in
set_option maxRecDepth 100000 in
theorem k_X7_init {K : gK} (t0 : Nat) (q0 : Nat) : gMet K yX7_init cX7_init 2 none 2 9 75 [.ref t0, .ref q0] [cO t0 7 [.null, .null, .int (iI 0), .null, .int (iI 0), .null]] (fun v9 w9 => ∃ (h1 : Nat), ∃ (j0 : Nat), ∃ (j1 : Nat), ∃ (j2 : Nat), ∃ (j3 : Nat), ∃ (j4 : Nat), ∃ (j5 : Nat), ∃ (t2 : Nat), ∃ (t1 : Nat), v9 = none ∧ w9 = [cO t0 7 [.ref h1, .ref q0, .int (iI 0), .ref t2, .int (iI 0), .ref t1], cO h1 5 [.ref j0, .ref j1, .ref j2, .ref j3, .ref j4, .ref j5, .int (iI 0), .int (iI 0), .int (iI 0)], cA K j0 6 (fun _ => 0), cA K j1 6 (fun _ => 0), cA K j2 6 (fun _ => 0), cA K j3 6 (fun _ => 0), cA K j4 24 (fun _ => 0), cA K j5 6 (fun _ => 0), cA K t2 6 (fun _ => 0), cA K t1 6 (fun _ => 0)]) := by
  refine g_enter (by decide +kernel) (Nat.le_of_ble_eq_true rfl) (fun G hC hR => ?_)
  refine g_lv hC [0, 1] [(0, _), (1, _)] rfl ?_
  refine g_aload_n (pc := 0) hC 0 dX7_init_0 rfl rfl ?_
  refine g_objInit (pc := 1) hC wm_X7_3 (Nat.le_of_ble_eq_true rfl) (by decide) dX7_init_1 ?_
  refine g_aload_n (pc := 4) hC 0 dX7_init_4 rfl rfl ?_
  refine g_new (pc := 5) hC (ty := tyX5) (fs := [.null, .null, .null, .null, .null, .null, .int (iI 0), .int (iI 0), .int (iI 0)]) (fun a9 => [_, cO a9 5 _]) wc_X7_9 in_X5 tyX5_ok wi_X5 wz_X5 rfl (by decide +kernel) (by omega) dX7_init_5 (fun _ => rfl) (fun a1 => ?_)
  refine g_dup (pc := 8) hC dX7_init_8 rfl ?_
  refine g_callIN (pc := 9) hC [1] (k_X5_init _ ) cl_X5_init (by simp [gN] <;> first | rfl | exact Or.inl rfl | exact Or.inr rfl) dX7_init_9 rfl rfl (by decide) (by decide) (by omega) (Nat.le_of_ble_eq_true rfl) rfl (fun v9 w9 hq9 => ?_)
  obtain ⟨k2, k3, k4, k5, k6, k7, rfl, rfl⟩ := hq9
  refine g_ws hC [cO t0 7 [.null, .null, .int (iI 0), .null, .int (iI 0), .null], cO a1 5 [.ref k2, .ref k3, .ref k4, .ref k5, .ref k6, .ref k7, .int (iI 0), .int (iI 0), .int (iI 0)], cA K k2 6 (fun _ => 0), cA K k3 6 (fun _ => 0), cA K k4 6 (fun _ => 0), cA K k5 6 (fun _ => 0), cA K k6 24 (fun _ => 0), cA K k7 6 (fun _ => 0)] rfl ?_
  refine g_st hC [_, _] rfl ?_
  refine g_putFR (pc := 12) hC 0 [cO _ _ [_, _, _, _, _, _], _, _, _, _, _, _, _] fl_X7_12 dX7_init_12 rfl (Nat.le_of_ble_eq_true rfl) rfl rfl rfl rfl ?_
  refine g_aload_n (pc := 15) hC 0 dX7_init_15 rfl rfl ?_
  refine g_bipush (pc := 16) hC (6) dX7_init_16 (by decide) ?_
  refine g_newI (pc := 18) hC 6 (fun a9 => [_, _, _, _, _, _, _, _, cA K a9 6 (fun _ => 0)]) dX7_init_18 (by omega) (by omega) (fun _ => rfl) (fun a8 => ?_)
  refine g_putFA (pc := 20) hC 0 [cO _ _ [_, _, _, _, _, _], _, _, _, _, _, _, _, _] fl_X7_18 dX7_init_20 rfl (Nat.le_of_ble_eq_true rfl) rfl rfl rfl rfl ?_
  refine g_aload_n (pc := 23) hC 0 dX7_init_23 rfl rfl ?_
  refine g_bipush (pc := 24) hC (6) dX7_init_24 (by decide) ?_
  refine g_newI (pc := 26) hC 6 (fun a9 => [_, _, _, _, _, _, _, _, _, cA K a9 6 (fun _ => 0)]) dX7_init_26 (by omega) (by omega) (fun _ => rfl) (fun a9 => ?_)
  refine g_putFA (pc := 28) hC 0 [cO _ _ [_, _, _, _, _, _], _, _, _, _, _, _, _, _, _] fl_X7_22 dX7_init_28 rfl (Nat.le_of_ble_eq_true rfl) rfl rfl rfl rfl ?_
  refine g_aload_n (pc := 31) hC 0 dX7_init_31 rfl rfl ?_
  refine g_aload_n (pc := 32) hC 1 dX7_init_32 rfl rfl ?_
  refine g_putFR (pc := 33) hC 0 [cO _ _ [_, _, _, _, _, _], _, _, _, _, _, _, _, _, _] fl_X7_25 dX7_init_33 rfl (Nat.le_of_ble_eq_true rfl) rfl rfl rfl rfl ?_
  exact g_vret (pc := 36) hR dX7_init_36 rfl ⟨by omega, by omega⟩ (Nat.le_of_ble_eq_true rfl) ⟨a1, k2, k3, k4, k5, k6, k7, a8, a9, rfl, rfl⟩
set_option maxHeartbeats 4000000 in
set_option maxRecDepth 100000 in
theorem k_X8_init {K : gK} (nA : Nat) : gMet K yX8_init cX8_init 1 none 2 21 249 [.ref nA] [cO nA 8 [.null, .null, .null, .null, .null, .int (iI 0)]] (fun v9 w9 => ∃ (hA : Nat), ∃ (kA0 : Nat), ∃ (kA1 : Nat), ∃ (kA2 : Nat), ∃ (kA3 : Nat), ∃ (kA4 : Nat), ∃ (kA5 : Nat), ∃ (poA : Nat), ∃ (paA : Nat), ∃ (srA : Nat), ∃ (srA1 : Nat), ∃ (srA2 : Nat), ∃ (srA3 : Nat), ∃ (prA : Nat), ∃ (prA1 : Nat), ∃ (prA2 : Nat), ∃ (prA3 : Nat), ∃ (brA : Nat), ∃ (brA1 : Nat), ∃ (brA2 : Nat), ∃ (brA3 : Nat), v9 = none ∧ w9 = [cO nA 8 [.ref hA, .ref poA, .ref srA, .ref prA, .ref brA, .int (iI 0)], cO hA 5 [.ref kA0, .ref kA1, .ref kA2, .ref kA3, .ref kA4, .ref kA5, .int (iI 0), .int (iI 0), .int (iI 0)], cA K kA0 6 (fun _ => 0), cA K kA1 6 (fun _ => 0), cA K kA2 6 (fun _ => 0), cA K kA3 6 (fun _ => 0), cA K kA4 24 (fun _ => 0), cA K kA5 6 (fun _ => 0), cO poA 6 [.ref paA, .int (iI 0)], cA K paA 100 (fun _ => 0), cO srA 4 [.ref srA1, .ref srA2, .ref srA3, .int (iI 0)], cA K srA1 8 (fun _ => 0), cA K srA2 8 (fun _ => 0), cA K srA3 8 (fun _ => 0), cO prA 4 [.ref prA1, .ref prA2, .ref prA3, .int (iI 0)], cA K prA1 8 (fun _ => 0), cA K prA2 8 (fun _ => 0), cA K prA3 8 (fun _ => 0), cO brA 4 [.ref brA1, .ref brA2, .ref brA3, .int (iI 0)], cA K brA1 8 (fun _ => 0), cA K brA2 8 (fun _ => 0), cA K brA3 8 (fun _ => 0)]) := by
  refine g_enter (by decide +kernel) (Nat.le_of_ble_eq_true rfl) (fun G hC hR => ?_)
  refine g_lv hC [0] [(0, _)] rfl ?_
  refine g_aload_n (pc := 0) hC 0 dX8_init_0 rfl rfl ?_
  refine g_objInit (pc := 1) hC wm_X8_1 (Nat.le_of_ble_eq_true rfl) (by decide) dX8_init_1 ?_
  refine g_aload_n (pc := 4) hC 0 dX8_init_4 rfl rfl ?_
  refine g_new (pc := 5) hC (ty := tyX5) (fs := [.null, .null, .null, .null, .null, .null, .int (iI 0), .int (iI 0), .int (iI 0)]) (fun a9 => [_, cO a9 5 _]) wc_X8_7 in_X5 tyX5_ok wi_X5 wz_X5 rfl (by decide +kernel) (by omega) dX8_init_5 (fun _ => rfl) (fun a1 => ?_)
  refine g_dup (pc := 8) hC dX8_init_8 rfl ?_
  refine g_callIN (pc := 9) hC [1] (k_X5_init _ ) cl_X5_init (by simp [gN] <;> rfl) dX8_init_9 rfl rfl (by decide) (by decide) (by omega) (Nat.le_of_ble_eq_true rfl) rfl (fun v9 w9 hq9 => ?_)
  obtain ⟨k2, k3, k4, k5, k6, k7, rfl, rfl⟩ := hq9
  refine g_ws hC [cO nA 8 [.null, .null, .null, .null, .null, .int (iI 0)], cO a1 5 [.ref k2, .ref k3, .ref k4, .ref k5, .ref k6, .ref k7, .int (iI 0), .int (iI 0), .int (iI 0)], cA K k2 6 (fun _ => 0), cA K k3 6 (fun _ => 0), cA K k4 6 (fun _ => 0), cA K k5 6 (fun _ => 0), cA K k6 24 (fun _ => 0), cA K k7 6 (fun _ => 0)] rfl ?_
  refine g_st hC [_, _] rfl ?_
  refine g_putFR (pc := 12) hC 0 [cO _ _ [_, _, _, _, _, _], _, _, _, _, _, _, _] fl_X8_10 dX8_init_12 rfl (Nat.le_of_ble_eq_true rfl) rfl rfl rfl rfl ?_
  refine g_aload_n (pc := 15) hC 0 dX8_init_15 rfl rfl ?_
  refine g_new (pc := 16) hC (ty := tyX6) (fs := [.null, .int (iI 0)]) (fun a9 => [_, _, _, _, _, _, _, _, cO a9 6 _]) wc_X8_16 in_X6 tyX6_ok wi_X6 wz_X6 rfl (by decide +kernel) (by omega) dX8_init_16 (fun _ => rfl) (fun a8 => ?_)
  refine g_dup (pc := 19) hC dX8_init_19 rfl ?_
  refine g_callIN (pc := 20) hC [8] (k_X6_init _ ) cl_X6_init (by simp [gN] <;> rfl) dX8_init_20 rfl rfl (by decide) (by decide) (by omega) (Nat.le_of_ble_eq_true rfl) rfl (fun v9 w9 hq9 => ?_)
  obtain ⟨pa9, rfl, rfl⟩ := hq9
  refine g_ws hC [cO nA 8 [.ref a1, .null, .null, .null, .null, .int (iI 0)], cO a1 5 [.ref k2, .ref k3, .ref k4, .ref k5, .ref k6, .ref k7, .int (iI 0), .int (iI 0), .int (iI 0)], cA K k2 6 (fun _ => 0), cA K k3 6 (fun _ => 0), cA K k4 6 (fun _ => 0), cA K k5 6 (fun _ => 0), cA K k6 24 (fun _ => 0), cA K k7 6 (fun _ => 0), cO a8 6 [.ref pa9, .int (iI 0)], cA K pa9 100 (fun _ => 0)] rfl ?_
  refine g_st hC [_, _] rfl ?_
  refine g_putFR (pc := 23) hC 0 [cO _ _ [_, _, _, _, _, _], _, _, _, _, _, _, _, _, _] fl_X8_19 dX8_init_23 rfl (Nat.le_of_ble_eq_true rfl) rfl rfl rfl rfl ?_
  refine g_aload_n (pc := 26) hC 0 dX8_init_26 rfl rfl ?_
  refine g_new (pc := 27) hC (ty := tyX4) (fs := [.null, .null, .null, .int (iI 0)]) (fun a9 => [_, _, _, _, _, _, _, _, _, _, cO a9 4 _]) wc_X8_23 in_X4 tyX4_ok wi_X4 wz_X4 rfl (by decide +kernel) (by omega) dX8_init_27 (fun _ => rfl) (fun a10 => ?_)
  refine g_dup (pc := 30) hC dX8_init_30 rfl ?_
  refine g_callIN (pc := 31) hC [10] (k_X4_init _ ) cl_X4_init (by simp [gN] <;> rfl) dX8_init_31 rfl rfl (by decide) (by decide) (by omega) (Nat.le_of_ble_eq_true rfl) rfl (fun v9 w9 hq9 => ?_)
  obtain ⟨b11, b12, b13, rfl, rfl⟩ := hq9
  refine g_ws hC [cO nA 8 [.ref a1, .ref a8, .null, .null, .null, .int (iI 0)], cO a1 5 [.ref k2, .ref k3, .ref k4, .ref k5, .ref k6, .ref k7, .int (iI 0), .int (iI 0), .int (iI 0)], cA K k2 6 (fun _ => 0), cA K k3 6 (fun _ => 0), cA K k4 6 (fun _ => 0), cA K k5 6 (fun _ => 0), cA K k6 24 (fun _ => 0), cA K k7 6 (fun _ => 0), cO a8 6 [.ref pa9, .int (iI 0)], cA K pa9 100 (fun _ => 0), cO a10 4 [.ref b11, .ref b12, .ref b13, .int (iI 0)], cA K b11 8 (fun _ => 0), cA K b12 8 (fun _ => 0), cA K b13 8 (fun _ => 0)] rfl ?_
  refine g_st hC [_, _] rfl ?_
  refine g_putFR (pc := 34) hC 0 [cO _ _ [_, _, _, _, _, _], _, _, _, _, _, _, _, _, _, _, _, _, _] fl_X8_26 dX8_init_34 rfl (Nat.le_of_ble_eq_true rfl) rfl rfl rfl rfl ?_
  refine g_aload_n (pc := 37) hC 0 dX8_init_37 rfl rfl ?_
  refine g_new (pc := 38) hC (ty := tyX4) (fs := [.null, .null, .null, .int (iI 0)]) (fun a9 => [_, _, _, _, _, _, _, _, _, _, _, _, _, _, cO a9 4 _]) wc_X8_23 in_X4 tyX4_ok wi_X4 wz_X4 rfl (by decide +kernel) (by omega) dX8_init_38 (fun _ => rfl) (fun a14 => ?_)
  refine g_dup (pc := 41) hC dX8_init_41 rfl ?_
  refine g_callIN (pc := 42) hC [14] (k_X4_init _ ) cl_X4_init (by simp [gN] <;> rfl) dX8_init_42 rfl rfl (by decide) (by decide) (by omega) (Nat.le_of_ble_eq_true rfl) rfl (fun v9 w9 hq9 => ?_)
  obtain ⟨b15, b16, b17, rfl, rfl⟩ := hq9
  refine g_ws hC [cO nA 8 [.ref a1, .ref a8, .ref a10, .null, .null, .int (iI 0)], cO a1 5 [.ref k2, .ref k3, .ref k4, .ref k5, .ref k6, .ref k7, .int (iI 0), .int (iI 0), .int (iI 0)], cA K k2 6 (fun _ => 0), cA K k3 6 (fun _ => 0), cA K k4 6 (fun _ => 0), cA K k5 6 (fun _ => 0), cA K k6 24 (fun _ => 0), cA K k7 6 (fun _ => 0), cO a8 6 [.ref pa9, .int (iI 0)], cA K pa9 100 (fun _ => 0), cO a10 4 [.ref b11, .ref b12, .ref b13, .int (iI 0)], cA K b11 8 (fun _ => 0), cA K b12 8 (fun _ => 0), cA K b13 8 (fun _ => 0), cO a14 4 [.ref b15, .ref b16, .ref b17, .int (iI 0)], cA K b15 8 (fun _ => 0), cA K b16 8 (fun _ => 0), cA K b17 8 (fun _ => 0)] rfl ?_
  refine g_st hC [_, _] rfl ?_
  refine g_putFR (pc := 45) hC 0 [cO _ _ [_, _, _, _, _, _], _, _, _, _, _, _, _, _, _, _, _, _, _, _, _, _, _] fl_X8_30 dX8_init_45 rfl (Nat.le_of_ble_eq_true rfl) rfl rfl rfl rfl ?_
  refine g_aload_n (pc := 48) hC 0 dX8_init_48 rfl rfl ?_
  refine g_new (pc := 49) hC (ty := tyX4) (fs := [.null, .null, .null, .int (iI 0)]) (fun a9 => [_, _, _, _, _, _, _, _, _, _, _, _, _, _, _, _, _, _, cO a9 4 _]) wc_X8_23 in_X4 tyX4_ok wi_X4 wz_X4 rfl (by decide +kernel) (by omega) dX8_init_49 (fun _ => rfl) (fun a18 => ?_)
  refine g_dup (pc := 52) hC dX8_init_52 rfl ?_
  refine g_callIN (pc := 53) hC [18] (k_X4_init _ ) cl_X4_init (by simp [gN] <;> rfl) dX8_init_53 rfl rfl (by decide) (by decide) (by omega) (Nat.le_of_ble_eq_true rfl) rfl (fun v9 w9 hq9 => ?_)
  obtain ⟨b19, b20, b21, rfl, rfl⟩ := hq9
  refine g_ws hC [cO nA 8 [.ref a1, .ref a8, .ref a10, .ref a14, .null, .int (iI 0)], cO a1 5 [.ref k2, .ref k3, .ref k4, .ref k5, .ref k6, .ref k7, .int (iI 0), .int (iI 0), .int (iI 0)], cA K k2 6 (fun _ => 0), cA K k3 6 (fun _ => 0), cA K k4 6 (fun _ => 0), cA K k5 6 (fun _ => 0), cA K k6 24 (fun _ => 0), cA K k7 6 (fun _ => 0), cO a8 6 [.ref pa9, .int (iI 0)], cA K pa9 100 (fun _ => 0), cO a10 4 [.ref b11, .ref b12, .ref b13, .int (iI 0)], cA K b11 8 (fun _ => 0), cA K b12 8 (fun _ => 0), cA K b13 8 (fun _ => 0), cO a14 4 [.ref b15, .ref b16, .ref b17, .int (iI 0)], cA K b15 8 (fun _ => 0), cA K b16 8 (fun _ => 0), cA K b17 8 (fun _ => 0), cO a18 4 [.ref b19, .ref b20, .ref b21, .int (iI 0)], cA K b19 8 (fun _ => 0), cA K b20 8 (fun _ => 0), cA K b21 8 (fun _ => 0)] rfl ?_
  refine g_st hC [_, _] rfl ?_
  refine g_putFR (pc := 56) hC 0 [cO _ _ [_, _, _, _, _, _], _, _, _, _, _, _, _, _, _, _, _, _, _, _, _, _, _, _, _, _, _] fl_X8_33 dX8_init_56 rfl (Nat.le_of_ble_eq_true rfl) rfl rfl rfl rfl ?_
  exact g_vret (pc := 59) hR dX8_init_59 rfl ⟨by omega, by omega⟩ (Nat.le_of_ble_eq_true rfl) ⟨a1, k2, k3, k4, k5, k6, k7, a8, pa9, a10, b11, b12, b13, a14, b15, b16, b17, a18, b19, b20, b21, rfl, rfl⟩
set_option maxHeartbeats 4000000 in
set_option maxRecDepth 100000 in
theorem k_X9_init {K : gK} (xx : Nat) : gMet K yX9_init cX9_init 2 none 3 70 1146 [.ref xx] [cO xx 9 [.null, .null, .int (iI 0), .null, .null, .null, .null]] (fun v9 w9 => ∃ (nA : Nat), ∃ (hA : Nat), ∃ (kA0 : Nat), ∃ (kA1 : Nat), ∃ (kA2 : Nat), ∃ (kA3 : Nat), ∃ (kA4 : Nat), ∃ (kA5 : Nat), ∃ (poA : Nat), ∃ (paA : Nat), ∃ (srA : Nat), ∃ (srA1 : Nat), ∃ (srA2 : Nat), ∃ (srA3 : Nat), ∃ (prA : Nat), ∃ (prA1 : Nat), ∃ (prA2 : Nat), ∃ (prA3 : Nat), ∃ (brA : Nat), ∃ (brA1 : Nat), ∃ (brA2 : Nat), ∃ (brA3 : Nat), ∃ (nZ : Nat), ∃ (hZ : Nat), ∃ (kZ0 : Nat), ∃ (kZ1 : Nat), ∃ (kZ2 : Nat), ∃ (kZ3 : Nat), ∃ (kZ4 : Nat), ∃ (kZ5 : Nat), ∃ (poZ : Nat), ∃ (paZ : Nat), ∃ (srZ : Nat), ∃ (srZ1 : Nat), ∃ (srZ2 : Nat), ∃ (srZ3 : Nat), ∃ (prZ : Nat), ∃ (prZ1 : Nat), ∃ (prZ2 : Nat), ∃ (prZ3 : Nat), ∃ (brZ : Nat), ∃ (brZ1 : Nat), ∃ (brZ2 : Nat), ∃ (brZ3 : Nat), ∃ (hh : Nat), ∃ (q0 : Nat), ∃ (q1 : Nat), ∃ (q2 : Nat), ∃ (t0 : Nat), ∃ (h1 : Nat), ∃ (j0 : Nat), ∃ (j1 : Nat), ∃ (j2 : Nat), ∃ (j3 : Nat), ∃ (j4 : Nat), ∃ (j5 : Nat), ∃ (t2 : Nat), ∃ (t1 : Nat), ∃ (g0 : Nat), ∃ (ga : Nat), ∃ (o0 : Nat), ∃ (u0 : Nat), ∃ (o1 : Nat), ∃ (u1 : Nat), ∃ (o2 : Nat), ∃ (u2 : Nat), ∃ (o3 : Nat), ∃ (u3 : Nat), ∃ (o4 : Nat), ∃ (u4 : Nat), ∃ (hm : Nat → Option Nat), v9 = none ∧ w9 = [cO xx 9 [.ref nA, .ref nZ, .int (iI 0), .ref hh, .ref q0, .ref t0, .ref g0], cO nA 8 [.ref hA, .ref poA, .ref srA, .ref prA, .ref brA, .int (iI 0)], cO hA 5 [.ref kA0, .ref kA1, .ref kA2, .ref kA3, .ref kA4, .ref kA5, .int (iI 0), .int (iI 0), .int (iI 0)], cA K kA0 6 (fun _ => 0), cA K kA1 6 (fun _ => 0), cA K kA2 6 (fun _ => 0), cA K kA3 6 (fun _ => 0), cA K kA4 24 (fun _ => 0), cA K kA5 6 (fun _ => 0), cO poA 6 [.ref paA, .int (iI 0)], cA K paA 100 (fun _ => 0), cO srA 4 [.ref srA1, .ref srA2, .ref srA3, .int (iI 0)], cA K srA1 8 (fun _ => 0), cA K srA2 8 (fun _ => 0), cA K srA3 8 (fun _ => 0), cO prA 4 [.ref prA1, .ref prA2, .ref prA3, .int (iI 0)], cA K prA1 8 (fun _ => 0), cA K prA2 8 (fun _ => 0), cA K prA3 8 (fun _ => 0), cO brA 4 [.ref brA1, .ref brA2, .ref brA3, .int (iI 0)], cA K brA1 8 (fun _ => 0), cA K brA2 8 (fun _ => 0), cA K brA3 8 (fun _ => 0), cO nZ 8 [.ref hZ, .ref poZ, .ref srZ, .ref prZ, .ref brZ, .int (iI 0)], cO hZ 5 [.ref kZ0, .ref kZ1, .ref kZ2, .ref kZ3, .ref kZ4, .ref kZ5, .int (iI 0), .int (iI 0), .int (iI 0)], cA K kZ0 6 (fun _ => 0), cA K kZ1 6 (fun _ => 0), cA K kZ2 6 (fun _ => 0), cA K kZ3 6 (fun _ => 0), cA K kZ4 24 (fun _ => 0), cA K kZ5 6 (fun _ => 0), cO poZ 6 [.ref paZ, .int (iI 0)], cA K paZ 100 (fun _ => 0), cO srZ 4 [.ref srZ1, .ref srZ2, .ref srZ3, .int (iI 0)], cA K srZ1 8 (fun _ => 0), cA K srZ2 8 (fun _ => 0), cA K srZ3 8 (fun _ => 0), cO prZ 4 [.ref prZ1, .ref prZ2, .ref prZ3, .int (iI 0)], cA K prZ1 8 (fun _ => 0), cA K prZ2 8 (fun _ => 0), cA K prZ3 8 (fun _ => 0), cO brZ 4 [.ref brZ1, .ref brZ2, .ref brZ3, .int (iI 0)], cA K brZ1 8 (fun _ => 0), cA K brZ2 8 (fun _ => 0), cA K brZ3 8 (fun _ => 0), cH K hh 5 hm, cO q0 2 [.null, .ref q1, .ref q2, .int (iI 1)], cA K q1 6 (fun _ => 0), cA K q2 0 (fun _ => 0), cO t0 7 [.ref h1, .ref q0, .int (iI 0), .ref t2, .int (iI 0), .ref t1], cO h1 5 [.ref j0, .ref j1, .ref j2, .ref j3, .ref j4, .ref j5, .int (iI 0), .int (iI 0), .int (iI 0)], cA K j0 6 (fun _ => 0), cA K j1 6 (fun _ => 0), cA K j2 6 (fun _ => 0), cA K j3 6 (fun _ => 0), cA K j4 24 (fun _ => 0), cA K j5 6 (fun _ => 0), cA K t2 6 (fun _ => 0), cA K t1 6 (fun _ => 0), cO g0 0 [.ref ga, .int (iI 0), .int (iI 0), .int (iI 0), .int (iI 0)], cA K ga 20 (fun _ => 0), cO o0 1 [.ref u0, .int (iI 0), .int (iI 0)], cA K u0 100 (fun _ => 0), cO o1 1 [.ref u1, .int (iI 0), .int (iI 0)], cA K u1 100 (fun _ => 0), cO o2 1 [.ref u2, .int (iI 0), .int (iI 0)], cA K u2 100 (fun _ => 0), cO o3 1 [.ref u3, .int (iI 0), .int (iI 0)], cA K u3 100 (fun _ => 0), cO o4 1 [.ref u4, .int (iI 0), .int (iI 0)], cA K u4 100 (fun _ => 0)] ∧ (hm 0 = some o0) ∧ (hm 1 = some o1) ∧ (hm 2 = some o2) ∧ (hm 3 = some o3) ∧ (hm 4 = some o4)) := by
  refine g_enter (by decide +kernel) (Nat.le_of_ble_eq_true rfl) (fun G hC hR => ?_)
  refine g_lv hC [0] [(0, _)] rfl ?_
  refine g_aload_n (pc := 0) hC 0 dX9_init_0 rfl rfl ?_
  refine g_objInit (pc := 1) hC wm_X9_3 (Nat.le_of_ble_eq_true rfl) (by decide) dX9_init_1 ?_
  refine g_aload_n (pc := 4) hC 0 dX9_init_4 rfl rfl ?_
  refine g_new (pc := 5) hC (ty := tyX8) (fs := [.null, .null, .null, .null, .null, .int (iI 0)]) (fun a9 => [_, cO a9 8 _]) wc_X9_9 in_X8 tyX8_ok wi_X8 wz_X8 rfl (by decide +kernel) (by omega) dX9_init_5 (fun _ => rfl) (fun a1 => ?_)
  refine g_dup (pc := 8) hC dX9_init_8 rfl ?_
  refine g_callIN (pc := 9) hC [1] (k_X8_init _ ) cl_X8_init (by simp [gN] <;> first | rfl | exact Or.inl rfl | exact Or.inr rfl) dX9_init_9 rfl rfl (by decide) (by decide) (by omega) (Nat.le_of_ble_eq_true rfl) rfl (fun v9 w9 hq9 => ?_)
  obtain ⟨hA2, kA3, kA4, kA5, kA6, kA7, kA8, poA9, paA10, srA11, srA12, srA13, srA14, prA15, prA16, prA17, prA18, brA19, brA20, brA21, brA22, rfl, rfl⟩ := hq9
  refine g_ws hC [cO xx 9 [.null, .null, .int (iI 0), .null, .null, .null, .null], cO a1 8 [.ref hA2, .ref poA9, .ref srA11, .ref prA15, .ref brA19, .int (iI 0)], cO hA2 5 [.ref kA3, .ref kA4, .ref kA5, .ref kA6, .ref kA7, .ref kA8, .int (iI 0), .int (iI 0), .int (iI 0)], cA K kA3 6 (fun _ => 0), cA K kA4 6 (fun _ => 0), cA K kA5 6 (fun _ => 0), cA K kA6 6 (fun _ => 0), cA K kA7 24 (fun _ => 0), cA K kA8 6 (fun _ => 0), cO poA9 6 [.ref paA10, .int (iI 0)], cA K paA10 100 (fun _ => 0), cO srA11 4 [.ref srA12, .ref srA13, .ref srA14, .int (iI 0)], cA K srA12 8 (fun _ => 0), cA K srA13 8 (fun _ => 0), cA K srA14 8 (fun _ => 0), cO prA15 4 [.ref prA16, .ref prA17, .ref prA18, .int (iI 0)], cA K prA16 8 (fun _ => 0), cA K prA17 8 (fun _ => 0), cA K prA18 8 (fun _ => 0), cO brA19 4 [.ref brA20, .ref brA21, .ref brA22, .int (iI 0)], cA K brA20 8 (fun _ => 0), cA K brA21 8 (fun _ => 0), cA K brA22 8 (fun _ => 0)] rfl ?_
  refine g_st hC [_, _] rfl ?_
  refine g_putFR (pc := 12) hC 0 [cO _ _ [_, _, _, _, _, _, _], _, _, _, _, _, _, _, _, _, _, _, _, _, _, _, _, _, _, _, _, _, _] fl_X9_12 dX9_init_12 rfl (Nat.le_of_ble_eq_true rfl) rfl rfl rfl rfl ?_
  refine g_aload_n (pc := 15) hC 0 dX9_init_15 rfl rfl ?_
  refine g_new (pc := 16) hC (ty := tyX8) (fs := [.null, .null, .null, .null, .null, .int (iI 0)]) (fun a9 => [_, _, _, _, _, _, _, _, _, _, _, _, _, _, _, _, _, _, _, _, _, _, _, cO a9 8 _]) wc_X9_9 in_X8 tyX8_ok wi_X8 wz_X8 rfl (by decide +kernel) (by omega) dX9_init_16 (fun _ => rfl) (fun a23 => ?_)
  refine g_dup (pc := 19) hC dX9_init_19 rfl ?_
  refine g_callIN (pc := 20) hC [23] (k_X8_init _ ) cl_X8_init (by simp [gN] <;> first | rfl | exact Or.inl rfl | exact Or.inr rfl) dX9_init_20 rfl rfl (by decide) (by decide) (by omega) (Nat.le_of_ble_eq_true rfl) rfl (fun v9 w9 hq9 => ?_)
  obtain ⟨hA24, kA25, kA26, kA27, kA28, kA29, kA30, poA31, paA32, srA33, srA34, srA35, srA36, prA37, prA38, prA39, prA40, brA41, brA42, brA43, brA44, rfl, rfl⟩ := hq9
  refine g_ws hC [cO xx 9 [.ref a1, .null, .int (iI 0), .null, .null, .null, .null], cO a1 8 [.ref hA2, .ref poA9, .ref srA11, .ref prA15, .ref brA19, .int (iI 0)], cO hA2 5 [.ref kA3, .ref kA4, .ref kA5, .ref kA6, .ref kA7, .ref kA8, .int (iI 0), .int (iI 0), .int (iI 0)], cA K kA3 6 (fun _ => 0), cA K kA4 6 (fun _ => 0), cA K kA5 6 (fun _ => 0), cA K kA6 6 (fun _ => 0), cA K kA7 24 (fun _ => 0), cA K kA8 6 (fun _ => 0), cO poA9 6 [.ref paA10, .int (iI 0)], cA K paA10 100 (fun _ => 0), cO srA11 4 [.ref srA12, .ref srA13, .ref srA14, .int (iI 0)], cA K srA12 8 (fun _ => 0), cA K srA13 8 (fun _ => 0), cA K srA14 8 (fun _ => 0), cO prA15 4 [.ref prA16, .ref prA17, .ref prA18, .int (iI 0)], cA K prA16 8 (fun _ => 0), cA K prA17 8 (fun _ => 0), cA K prA18 8 (fun _ => 0), cO brA19 4 [.ref brA20, .ref brA21, .ref brA22, .int (iI 0)], cA K brA20 8 (fun _ => 0), cA K brA21 8 (fun _ => 0), cA K brA22 8 (fun _ => 0), cO a23 8 [.ref hA24, .ref poA31, .ref srA33, .ref prA37, .ref brA41, .int (iI 0)], cO hA24 5 [.ref kA25, .ref kA26, .ref kA27, .ref kA28, .ref kA29, .ref kA30, .int (iI 0), .int (iI 0), .int (iI 0)], cA K kA25 6 (fun _ => 0), cA K kA26 6 (fun _ => 0), cA K kA27 6 (fun _ => 0), cA K kA28 6 (fun _ => 0), cA K kA29 24 (fun _ => 0), cA K kA30 6 (fun _ => 0), cO poA31 6 [.ref paA32, .int (iI 0)], cA K paA32 100 (fun _ => 0), cO srA33 4 [.ref srA34, .ref srA35, .ref srA36, .int (iI 0)], cA K srA34 8 (fun _ => 0), cA K srA35 8 (fun _ => 0), cA K srA36 8 (fun _ => 0), cO prA37 4 [.ref prA38, .ref prA39, .ref prA40, .int (iI 0)], cA K prA38 8 (fun _ => 0), cA K prA39 8 (fun _ => 0), cA K prA40 8 (fun _ => 0), cO brA41 4 [.ref brA42, .ref brA43, .ref brA44, .int (iI 0)], cA K brA42 8 (fun _ => 0), cA K brA43 8 (fun _ => 0), cA K brA44 8 (fun _ => 0)] rfl ?_
  refine g_st hC [_, _] rfl ?_
  refine g_putFR (pc := 23) hC 0 [cO _ _ [_, _, _, _, _, _, _], _, _, _, _, _, _, _, _, _, _, _, _, _, _, _, _, _, _, _, _, _, _, _, _, _, _, _, _, _, _, _, _, _, _, _, _, _, _, _, _, _, _, _, _] fl_X9_18 dX9_init_23 rfl (Nat.le_of_ble_eq_true rfl) rfl rfl rfl rfl ?_
  refine g_aload_n (pc := 26) hC 0 dX9_init_26 rfl rfl ?_
  refine g_iconst (pc := 27) hC dX9_init_27 ?_
  refine g_newH (pc := 28) hC 5 (fun a9 => [_, _, _, _, _, _, _, _, _, _, _, _, _, _, _, _, _, _, _, _, _, _, _, _, _, _, _, _, _, _, _, _, _, _, _, _, _, _, _, _, _, _, _, _, _, cH K a9 5 (fun _ => none)]) wc_X9_21 dX9_init_28 (by omega) (by omega) (fun _ => rfl) (fun a45 => ?_)
  refine g_putFA (pc := 31) hC 0 [cO _ _ [_, _, _, _, _, _, _], _, _, _, _, _, _, _, _, _, _, _, _, _, _, _, _, _, _, _, _, _, _, _, _, _, _, _, _, _, _, _, _, _, _, _, _, _, _, _, _, _, _, _, _, _] fl_X9_23 dX9_init_31 rfl (Nat.le_of_ble_eq_true rfl) rfl rfl rfl rfl ?_
  refine g_aload_n (pc := 34) hC 0 dX9_init_34 rfl rfl ?_
  refine g_new (pc := 35) hC (ty := tyX2) (fs := [.null, .null, .null, .int (iI 0)]) (fun a9 => [_, _, _, _, _, _, _, _, _, _, _, _, _, _, _, _, _, _, _, _, _, _, _, _, _, _, _, _, _, _, _, _, _, _, _, _, _, _, _, _, _, _, _, _, _, _, cO a9 2 _]) wc_X9_27 in_X2 tyX2_ok wi_X2 wz_X2 rfl (by decide +kernel) (by omega) dX9_init_35 (fun _ => rfl) (fun a46 => ?_)
  refine g_dup (pc := 38) hC dX9_init_38 rfl ?_
  refine g_callIN (pc := 39) hC [46] (k_X2_init _ ) cl_X2_init (by simp [gN] <;> first | rfl | exact Or.inl rfl | exact Or.inr rfl) dX9_init_39 rfl rfl (by decide) (by decide) (by omega) (Nat.le_of_ble_eq_true rfl) rfl (fun v9 w9 hq9 => ?_)
  obtain ⟨q47, q48, rfl, rfl⟩ := hq9
  refine g_ws hC [cO xx 9 [.ref a1, .ref a23, .int (iI 0), .ref a45, .null, .null, .null], cO a1 8 [.ref hA2, .ref poA9, .ref srA11, .ref prA15, .ref brA19, .int (iI 0)], cO hA2 5 [.ref kA3, .ref kA4, .ref kA5, .ref kA6, .ref kA7, .ref kA8, .int (iI 0), .int (iI 0), .int (iI 0)], cA K kA3 6 (fun _ => 0), cA K kA4 6 (fun _ => 0), cA K kA5 6 (fun _ => 0), cA K kA6 6 (fun _ => 0), cA K kA7 24 (fun _ => 0), cA K kA8 6 (fun _ => 0), cO poA9 6 [.ref paA10, .int (iI 0)], cA K paA10 100 (fun _ => 0), cO srA11 4 [.ref srA12, .ref srA13, .ref srA14, .int (iI 0)], cA K srA12 8 (fun _ => 0), cA K srA13 8 (fun _ => 0), cA K srA14 8 (fun _ => 0), cO prA15 4 [.ref prA16, .ref prA17, .ref prA18, .int (iI 0)], cA K prA16 8 (fun _ => 0), cA K prA17 8 (fun _ => 0), cA K prA18 8 (fun _ => 0), cO brA19 4 [.ref brA20, .ref brA21, .ref brA22, .int (iI 0)], cA K brA20 8 (fun _ => 0), cA K brA21 8 (fun _ => 0), cA K brA22 8 (fun _ => 0), cO a23 8 [.ref hA24, .ref poA31, .ref srA33, .ref prA37, .ref brA41, .int (iI 0)], cO hA24 5 [.ref kA25, .ref kA26, .ref kA27, .ref kA28, .ref kA29, .ref kA30, .int (iI 0), .int (iI 0), .int (iI 0)], cA K kA25 6 (fun _ => 0), cA K kA26 6 (fun _ => 0), cA K kA27 6 (fun _ => 0), cA K kA28 6 (fun _ => 0), cA K kA29 24 (fun _ => 0), cA K kA30 6 (fun _ => 0), cO poA31 6 [.ref paA32, .int (iI 0)], cA K paA32 100 (fun _ => 0), cO srA33 4 [.ref srA34, .ref srA35, .ref srA36, .int (iI 0)], cA K srA34 8 (fun _ => 0), cA K srA35 8 (fun _ => 0), cA K srA36 8 (fun _ => 0), cO prA37 4 [.ref prA38, .ref prA39, .ref prA40, .int (iI 0)], cA K prA38 8 (fun _ => 0), cA K prA39 8 (fun _ => 0), cA K prA40 8 (fun _ => 0), cO brA41 4 [.ref brA42, .ref brA43, .ref brA44, .int (iI 0)], cA K brA42 8 (fun _ => 0), cA K brA43 8 (fun _ => 0), cA K brA44 8 (fun _ => 0), cH K a45 5 (fun _ => none), cO a46 2 [.null, .ref q47, .ref q48, .int (iI 1)], cA K q47 6 (fun _ => 0), cA K q48 0 (fun _ => 0)] rfl ?_
  refine g_st hC [_, _] rfl ?_
  refine g_putFR (pc := 42) hC 0 [cO _ _ [_, _, _, _, _, _, _], _, _, _, _, _, _, _, _, _, _, _, _, _, _, _, _, _, _, _, _, _, _, _, _, _, _, _, _, _, _, _, _, _, _, _, _, _, _, _, _, _, _, _, _, _, _, _, _] fl_X9_30 dX9_init_42 rfl (Nat.le_of_ble_eq_true rfl) rfl rfl rfl rfl ?_
  refine g_aload_n (pc := 45) hC 0 dX9_init_45 rfl rfl ?_
  refine g_new (pc := 46) hC (ty := tyX7) (fs := [.null, .null, .int (iI 0), .null, .int (iI 0), .null]) (fun a9 => [_, _, _, _, _, _, _, _, _, _, _, _, _, _, _, _, _, _, _, _, _, _, _, _, _, _, _, _, _, _, _, _, _, _, _, _, _, _, _, _, _, _, _, _, _, _, _, _, _, cO a9 7 _]) wc_X9_34 in_X7 tyX7_ok wi_X7 wz_X7 rfl (by decide +kernel) (by omega) dX9_init_46 (fun _ => rfl) (fun a49 => ?_)
  refine g_dup (pc := 49) hC dX9_init_49 rfl ?_
  refine g_aload_n (pc := 50) hC 0 dX9_init_50 rfl rfl ?_
  refine g_get (pc := 51) hC 0 fl_X9_30 dX9_init_51 rfl rfl ?_
  refine g_callI (pc := 54) hC [49] (k_X7_init _ _ ) cl_X7_init wm_X9_36 dX9_init_54 rfl rfl (by decide) (by decide) (by omega) (Nat.le_of_ble_eq_true rfl) rfl (fun v9 w9 hq9 => ?_)
  obtain ⟨h50, j51, j52, j53, j54, j55, j56, t57, t58, rfl, rfl⟩ := hq9
  refine g_ws hC [cO xx 9 [.ref a1, .ref a23, .int (iI 0), .ref a45, .ref a46, .null, .null], cO a1 8 [.ref hA2, .ref poA9, .ref srA11, .ref prA15, .ref brA19, .int (iI 0)], cO hA2 5 [.ref kA3, .ref kA4, .ref kA5, .ref kA6, .ref kA7, .ref kA8, .int (iI 0), .int (iI 0), .int (iI 0)], cA K kA3 6 (fun _ => 0), cA K kA4 6 (fun _ => 0), cA K kA5 6 (fun _ => 0), cA K kA6 6 (fun _ => 0), cA K kA7 24 (fun _ => 0), cA K kA8 6 (fun _ => 0), cO poA9 6 [.ref paA10, .int (iI 0)], cA K paA10 100 (fun _ => 0), cO srA11 4 [.ref srA12, .ref srA13, .ref srA14, .int (iI 0)], cA K srA12 8 (fun _ => 0), cA K srA13 8 (fun _ => 0), cA K srA14 8 (fun _ => 0), cO prA15 4 [.ref prA16, .ref prA17, .ref prA18, .int (iI 0)], cA K prA16 8 (fun _ => 0), cA K prA17 8 (fun _ => 0), cA K prA18 8 (fun _ => 0), cO brA19 4 [.ref brA20, .ref brA21, .ref brA22, .int (iI 0)], cA K brA20 8 (fun _ => 0), cA K brA21 8 (fun _ => 0), cA K brA22 8 (fun _ => 0), cO a23 8 [.ref hA24, .ref poA31, .ref srA33, .ref prA37, .ref brA41, .int (iI 0)], cO hA24 5 [.ref kA25, .ref kA26, .ref kA27, .ref kA28, .ref kA29, .ref kA30, .int (iI 0), .int (iI 0), .int (iI 0)], cA K kA25 6 (fun _ => 0), cA K kA26 6 (fun _ => 0), cA K kA27 6 (fun _ => 0), cA K kA28 6 (fun _ => 0), cA K kA29 24 (fun _ => 0), cA K kA30 6 (fun _ => 0), cO poA31 6 [.ref paA32, .int (iI 0)], cA K paA32 100 (fun _ => 0), cO srA33 4 [.ref srA34, .ref srA35, .ref srA36, .int (iI 0)], cA K srA34 8 (fun _ => 0), cA K srA35 8 (fun _ => 0), cA K srA36 8 (fun _ => 0), cO prA37 4 [.ref prA38, .ref prA39, .ref prA40, .int (iI 0)], cA K prA38 8 (fun _ => 0), cA K prA39 8 (fun _ => 0), cA K prA40 8 (fun _ => 0), cO brA41 4 [.ref brA42, .ref brA43, .ref brA44, .int (iI 0)], cA K brA42 8 (fun _ => 0), cA K brA43 8 (fun _ => 0), cA K brA44 8 (fun _ => 0), cH K a45 5 (fun _ => none), cO a46 2 [.null, .ref q47, .ref q48, .int (iI 1)], cA K q47 6 (fun _ => 0), cA K q48 0 (fun _ => 0), cO a49 7 [.ref h50, .ref a46, .int (iI 0), .ref t57, .int (iI 0), .ref t58], cO h50 5 [.ref j51, .ref j52, .ref j53, .ref j54, .ref j55, .ref j56, .int (iI 0), .int (iI 0), .int (iI 0)], cA K j51 6 (fun _ => 0), cA K j52 6 (fun _ => 0), cA K j53 6 (fun _ => 0), cA K j54 6 (fun _ => 0), cA K j55 24 (fun _ => 0), cA K j56 6 (fun _ => 0), cA K t57 6 (fun _ => 0), cA K t58 6 (fun _ => 0)] rfl ?_
  refine g_st hC [_, _] rfl ?_
  refine g_putFR (pc := 57) hC 0 [cO _ _ [_, _, _, _, _, _, _], _, _, _, _, _, _, _, _, _, _, _, _, _, _, _, _, _, _, _, _, _, _, _, _, _, _, _, _, _, _, _, _, _, _, _, _, _, _, _, _, _, _, _, _, _, _, _, _, _, _, _, _, _, _, _, _, _, _] fl_X9_39 dX9_init_57 rfl (Nat.le_of_ble_eq_true rfl) rfl rfl rfl rfl ?_
  refine g_aload_n (pc := 60) hC 0 dX9_init_60 rfl rfl ?_
  refine g_new (pc := 61) hC (ty := tyX0) (fs := [.null, .int (iI 0), .int (iI 0), .int (iI 0), .int (iI 0)]) (fun a9 => [_, _, _, _, _, _, _, _, _, _, _, _, _, _, _, _, _, _, _, _, _, _, _, _, _, _, _, _, _, _, _, _, _, _, _, _, _, _, _, _, _, _, _, _, _, _, _, _, _, _, _, _, _, _, _, _, _, _, _, cO a9 0 _]) wc_X9_43 in_X0 tyX0_ok wi_X0 wz_X0 rfl (by decide +kernel) (by omega) dX9_init_61 (fun _ => rfl) (fun a59 => ?_)
  refine g_dup (pc := 64) hC dX9_init_64 rfl ?_
  refine g_callIN (pc := 65) hC [59] (k_X0_init _ ) cl_X0_init (by simp [gN] <;> first | rfl | exact Or.inl rfl | exact Or.inr rfl) dX9_init_65 rfl rfl (by decide) (by decide) (by omega) (Nat.le_of_ble_eq_true rfl) rfl (fun v9 w9 hq9 => ?_)
  obtain ⟨ga60, rfl, rfl⟩ := hq9
  refine g_ws hC [cO xx 9 [.ref a1, .ref a23, .int (iI 0), .ref a45, .ref a46, .ref a49, .null], cO a1 8 [.ref hA2, .ref poA9, .ref srA11, .ref prA15, .ref brA19, .int (iI 0)], cO hA2 5 [.ref kA3, .ref kA4, .ref kA5, .ref kA6, .ref kA7, .ref kA8, .int (iI 0), .int (iI 0), .int (iI 0)], cA K kA3 6 (fun _ => 0), cA K kA4 6 (fun _ => 0), cA K kA5 6 (fun _ => 0), cA K kA6 6 (fun _ => 0), cA K kA7 24 (fun _ => 0), cA K kA8 6 (fun _ => 0), cO poA9 6 [.ref paA10, .int (iI 0)], cA K paA10 100 (fun _ => 0), cO srA11 4 [.ref srA12, .ref srA13, .ref srA14, .int (iI 0)], cA K srA12 8 (fun _ => 0), cA K srA13 8 (fun _ => 0), cA K srA14 8 (fun _ => 0), cO prA15 4 [.ref prA16, .ref prA17, .ref prA18, .int (iI 0)], cA K prA16 8 (fun _ => 0), cA K prA17 8 (fun _ => 0), cA K prA18 8 (fun _ => 0), cO brA19 4 [.ref brA20, .ref brA21, .ref brA22, .int (iI 0)], cA K brA20 8 (fun _ => 0), cA K brA21 8 (fun _ => 0), cA K brA22 8 (fun _ => 0), cO a23 8 [.ref hA24, .ref poA31, .ref srA33, .ref prA37, .ref brA41, .int (iI 0)], cO hA24 5 [.ref kA25, .ref kA26, .ref kA27, .ref kA28, .ref kA29, .ref kA30, .int (iI 0), .int (iI 0), .int (iI 0)], cA K kA25 6 (fun _ => 0), cA K kA26 6 (fun _ => 0), cA K kA27 6 (fun _ => 0), cA K kA28 6 (fun _ => 0), cA K kA29 24 (fun _ => 0), cA K kA30 6 (fun _ => 0), cO poA31 6 [.ref paA32, .int (iI 0)], cA K paA32 100 (fun _ => 0), cO srA33 4 [.ref srA34, .ref srA35, .ref srA36, .int (iI 0)], cA K srA34 8 (fun _ => 0), cA K srA35 8 (fun _ => 0), cA K srA36 8 (fun _ => 0), cO prA37 4 [.ref prA38, .ref prA39, .ref prA40, .int (iI 0)], cA K prA38 8 (fun _ => 0), cA K prA39 8 (fun _ => 0), cA K prA40 8 (fun _ => 0), cO brA41 4 [.ref brA42, .ref brA43, .ref brA44, .int (iI 0)], cA K brA42 8 (fun _ => 0), cA K brA43 8 (fun _ => 0), cA K brA44 8 (fun _ => 0), cH K a45 5 (fun _ => none), cO a46 2 [.null, .ref q47, .ref q48, .int (iI 1)], cA K q47 6 (fun _ => 0), cA K q48 0 (fun _ => 0), cO a49 7 [.ref h50, .ref a46, .int (iI 0), .ref t57, .int (iI 0), .ref t58], cO h50 5 [.ref j51, .ref j52, .ref j53, .ref j54, .ref j55, .ref j56, .int (iI 0), .int (iI 0), .int (iI 0)], cA K j51 6 (fun _ => 0), cA K j52 6 (fun _ => 0), cA K j53 6 (fun _ => 0), cA K j54 6 (fun _ => 0), cA K j55 24 (fun _ => 0), cA K j56 6 (fun _ => 0), cA K t57 6 (fun _ => 0), cA K t58 6 (fun _ => 0), cO a59 0 [.ref ga60, .int (iI 0), .int (iI 0), .int (iI 0), .int (iI 0)], cA K ga60 20 (fun _ => 0)] rfl ?_
  refine g_st hC [_, _] rfl ?_
  refine g_putFR (pc := 68) hC 0 [cO _ _ [_, _, _, _, _, _, _], _, _, _, _, _, _, _, _, _, _, _, _, _, _, _, _, _, _, _, _, _, _, _, _, _, _, _, _, _, _, _, _, _, _, _, _, _, _, _, _, _, _, _, _, _, _, _, _, _, _, _, _, _, _, _, _, _, _, _, _] fl_X9_46 dX9_init_68 rfl (Nat.le_of_ble_eq_true rfl) rfl rfl rfl rfl ?_
  refine g_iconst (pc := 71) hC dX9_init_71 ?_
  refine g_istore_n (pc := 72) hC [(1, _), (0, _)] dX9_init_72 rfl (by decide) rfl ?_
  refine g_iload_n (pc := 73) hC 0 dX9_init_73 rfl rfl ?_
  refine g_aload_n (pc := 74) hC 1 dX9_init_74 rfl rfl ?_
  refine g_get (pc := 75) hC 0 fl_X9_23 dX9_init_75 rfl rfl ?_
  refine g_alenH (pc := 78) hC 45 dX9_init_78 rfl ?_
  refine g_st hC [.int (iI 5), _] rfl ?_
  refine g_icmp_ge (pc := 79) hC 101 dX9_init_79 (by decide) (by omega) (by omega) (fun c79 => by exfalso; omega) (fun c79 => ?_)
  refine g_aload_n (pc := 82) hC 1 dX9_init_82 rfl rfl ?_
  refine g_get (pc := 83) hC 0 fl_X9_23 dX9_init_83 rfl rfl ?_
  refine g_iload_n (pc := 86) hC 0 dX9_init_86 rfl rfl ?_
  refine g_new (pc := 87) hC (ty := tyX1) (fs := [.null, .int (iI 0), .int (iI 0)]) (fun a9 => [_, _, _, _, _, _, _, _, _, _, _, _, _, _, _, _, _, _, _, _, _, _, _, _, _, _, _, _, _, _, _, _, _, _, _, _, _, _, _, _, _, _, _, _, _, _, _, _, _, _, _, _, _, _, _, _, _, _, _, _, _, cO a9 1 _]) wc_X9_21 in_X1 tyX1_ok wi_X1 wz_X1 rfl (by decide +kernel) (by omega) dX9_init_87 (fun _ => rfl) (fun a61 => ?_)
  refine g_dup (pc := 90) hC dX9_init_90 rfl ?_
  refine g_callIN (pc := 91) hC [61] (k_X1_init _ ) cl_X1_init (by simp [gN] <;> first | rfl | exact Or.inl rfl | exact Or.inr rfl) dX9_init_91 rfl rfl (by decide) (by decide) (by omega) (Nat.le_of_ble_eq_true rfl) rfl (fun v9 w9 hq9 => ?_)
  obtain ⟨u62, rfl, rfl⟩ := hq9
  refine g_ws hC [cO xx 9 [.ref a1, .ref a23, .int (iI 0), .ref a45, .ref a46, .ref a49, .ref a59], cO a1 8 [.ref hA2, .ref poA9, .ref srA11, .ref prA15, .ref brA19, .int (iI 0)], cO hA2 5 [.ref kA3, .ref kA4, .ref kA5, .ref kA6, .ref kA7, .ref kA8, .int (iI 0), .int (iI 0), .int (iI 0)], cA K kA3 6 (fun _ => 0), cA K kA4 6 (fun _ => 0), cA K kA5 6 (fun _ => 0), cA K kA6 6 (fun _ => 0), cA K kA7 24 (fun _ => 0), cA K kA8 6 (fun _ => 0), cO poA9 6 [.ref paA10, .int (iI 0)], cA K paA10 100 (fun _ => 0), cO srA11 4 [.ref srA12, .ref srA13, .ref srA14, .int (iI 0)], cA K srA12 8 (fun _ => 0), cA K srA13 8 (fun _ => 0), cA K srA14 8 (fun _ => 0), cO prA15 4 [.ref prA16, .ref prA17, .ref prA18, .int (iI 0)], cA K prA16 8 (fun _ => 0), cA K prA17 8 (fun _ => 0), cA K prA18 8 (fun _ => 0), cO brA19 4 [.ref brA20, .ref brA21, .ref brA22, .int (iI 0)], cA K brA20 8 (fun _ => 0), cA K brA21 8 (fun _ => 0), cA K brA22 8 (fun _ => 0), cO a23 8 [.ref hA24, .ref poA31, .ref srA33, .ref prA37, .ref brA41, .int (iI 0)], cO hA24 5 [.ref kA25, .ref kA26, .ref kA27, .ref kA28, .ref kA29, .ref kA30, .int (iI 0), .int (iI 0), .int (iI 0)], cA K kA25 6 (fun _ => 0), cA K kA26 6 (fun _ => 0), cA K kA27 6 (fun _ => 0), cA K kA28 6 (fun _ => 0), cA K kA29 24 (fun _ => 0), cA K kA30 6 (fun _ => 0), cO poA31 6 [.ref paA32, .int (iI 0)], cA K paA32 100 (fun _ => 0), cO srA33 4 [.ref srA34, .ref srA35, .ref srA36, .int (iI 0)], cA K srA34 8 (fun _ => 0), cA K srA35 8 (fun _ => 0), cA K srA36 8 (fun _ => 0), cO prA37 4 [.ref prA38, .ref prA39, .ref prA40, .int (iI 0)], cA K prA38 8 (fun _ => 0), cA K prA39 8 (fun _ => 0), cA K prA40 8 (fun _ => 0), cO brA41 4 [.ref brA42, .ref brA43, .ref brA44, .int (iI 0)], cA K brA42 8 (fun _ => 0), cA K brA43 8 (fun _ => 0), cA K brA44 8 (fun _ => 0), cH K a45 5 (fun _ => none), cO a46 2 [.null, .ref q47, .ref q48, .int (iI 1)], cA K q47 6 (fun _ => 0), cA K q48 0 (fun _ => 0), cO a49 7 [.ref h50, .ref a46, .int (iI 0), .ref t57, .int (iI 0), .ref t58], cO h50 5 [.ref j51, .ref j52, .ref j53, .ref j54, .ref j55, .ref j56, .int (iI 0), .int (iI 0), .int (iI 0)], cA K j51 6 (fun _ => 0), cA K j52 6 (fun _ => 0), cA K j53 6 (fun _ => 0), cA K j54 6 (fun _ => 0), cA K j55 24 (fun _ => 0), cA K j56 6 (fun _ => 0), cA K t57 6 (fun _ => 0), cA K t58 6 (fun _ => 0), cO a59 0 [.ref ga60, .int (iI 0), .int (iI 0), .int (iI 0), .int (iI 0)], cA K ga60 20 (fun _ => 0), cO a61 1 [.ref u62, .int (iI 0), .int (iI 0)], cA K u62 100 (fun _ => 0)] rfl ?_
  refine g_st hC [_, _, _] rfl ?_
  refine g_astH (pc := 94) hC (j := 0) 45 61 [_, _, _, _, _, _, _, _, _, _, _, _, _, _, _, _, _, _, _, _, _, _, _, _, _, _, _, _, _, _, _, _, _, _, _, _, _, _, _, _, _, _, _, _, _, cH K _ _ _, _, _, _, _, _, _, _, _, _, _, _, _, _, _, _, _, _] dX9_init_94 rfl rfl (by omega) (by omega) rfl ?_
  refine g_iinc (pc := 95) hC 0 [(1, _), (0, _)] dX9_init_95 rfl (by decide) rfl ?_
  refine g_lv hC [0, 1] [(1, .int (iI 1)), (0, _)] rfl ?_
  refine g_goto (pc := 98) hC 73 dX9_init_98 (by decide) ?_
  refine g_iload_n (pc := 73) hC 0 dX9_init_73 rfl rfl ?_
  refine g_aload_n (pc := 74) hC 1 dX9_init_74 rfl rfl ?_
  refine g_get (pc := 75) hC 0 fl_X9_23 dX9_init_75 rfl rfl ?_
  refine g_alenH (pc := 78) hC 45 dX9_init_78 rfl ?_
  refine g_st hC [.int (iI 5), _] rfl ?_
  refine g_icmp_ge (pc := 79) hC 101 dX9_init_79 (by decide) (by omega) (by omega) (fun c79 => by exfalso; omega) (fun c79 => ?_)
  refine g_aload_n (pc := 82) hC 1 dX9_init_82 rfl rfl ?_
  refine g_get (pc := 83) hC 0 fl_X9_23 dX9_init_83 rfl rfl ?_
  refine g_iload_n (pc := 86) hC 0 dX9_init_86 rfl rfl ?_
  refine g_new (pc := 87) hC (ty := tyX1) (fs := [.null, .int (iI 0), .int (iI 0)]) (fun a9 => [_, _, _, _, _, _, _, _, _, _, _, _, _, _, _, _, _, _, _, _, _, _, _, _, _, _, _, _, _, _, _, _, _, _, _, _, _, _, _, _, _, _, _, _, _, _, _, _, _, _, _, _, _, _, _, _, _, _, _, _, _, _, _, cO a9 1 _]) wc_X9_21 in_X1 tyX1_ok wi_X1 wz_X1 rfl (by decide +kernel) (by omega) dX9_init_87 (fun _ => rfl) (fun a63 => ?_)
  refine g_dup (pc := 90) hC dX9_init_90 rfl ?_
  refine g_callIN (pc := 91) hC [63] (k_X1_init _ ) cl_X1_init (by simp [gN] <;> first | rfl | exact Or.inl rfl | exact Or.inr rfl) dX9_init_91 rfl rfl (by decide) (by decide) (by omega) (Nat.le_of_ble_eq_true rfl) rfl (fun v9 w9 hq9 => ?_)
  obtain ⟨u64, rfl, rfl⟩ := hq9
  refine g_ws hC [cO xx 9 [.ref a1, .ref a23, .int (iI 0), .ref a45, .ref a46, .ref a49, .ref a59], cO a1 8 [.ref hA2, .ref poA9, .ref srA11, .ref prA15, .ref brA19, .int (iI 0)], cO hA2 5 [.ref kA3, .ref kA4, .ref kA5, .ref kA6, .ref kA7, .ref kA8, .int (iI 0), .int (iI 0), .int (iI 0)], cA K kA3 6 (fun _ => 0), cA K kA4 6 (fun _ => 0), cA K kA5 6 (fun _ => 0), cA K kA6 6 (fun _ => 0), cA K kA7 24 (fun _ => 0), cA K kA8 6 (fun _ => 0), cO poA9 6 [.ref paA10, .int (iI 0)], cA K paA10 100 (fun _ => 0), cO srA11 4 [.ref srA12, .ref srA13, .ref srA14, .int (iI 0)], cA K srA12 8 (fun _ => 0), cA K srA13 8 (fun _ => 0), cA K srA14 8 (fun _ => 0), cO prA15 4 [.ref prA16, .ref prA17, .ref prA18, .int (iI 0)], cA K prA16 8 (fun _ => 0), cA K prA17 8 (fun _ => 0), cA K prA18 8 (fun _ => 0), cO brA19 4 [.ref brA20, .ref brA21, .ref brA22, .int (iI 0)], cA K brA20 8 (fun _ => 0), cA K brA21 8 (fun _ => 0), cA K brA22 8 (fun _ => 0), cO a23 8 [.ref hA24, .ref poA31, .ref srA33, .ref prA37, .ref brA41, .int (iI 0)], cO hA24 5 [.ref kA25, .ref kA26, .ref kA27, .ref kA28, .ref kA29, .ref kA30, .int (iI 0), .int (iI 0), .int (iI 0)], cA K kA25 6 (fun _ => 0), cA K kA26 6 (fun _ => 0), cA K kA27 6 (fun _ => 0), cA K kA28 6 (fun _ => 0), cA K kA29 24 (fun _ => 0), cA K kA30 6 (fun _ => 0), cO poA31 6 [.ref paA32, .int (iI 0)], cA K paA32 100 (fun _ => 0), cO srA33 4 [.ref srA34, .ref srA35, .ref srA36, .int (iI 0)], cA K srA34 8 (fun _ => 0), cA K srA35 8 (fun _ => 0), cA K srA36 8 (fun _ => 0), cO prA37 4 [.ref prA38, .ref prA39, .ref prA40, .int (iI 0)], cA K prA38 8 (fun _ => 0), cA K prA39 8 (fun _ => 0), cA K prA40 8 (fun _ => 0), cO brA41 4 [.ref brA42, .ref brA43, .ref brA44, .int (iI 0)], cA K brA42 8 (fun _ => 0), cA K brA43 8 (fun _ => 0), cA K brA44 8 (fun _ => 0), cH K a45 5 (va_up (fun _ => none) 0 (some a61)), cO a46 2 [.null, .ref q47, .ref q48, .int (iI 1)], cA K q47 6 (fun _ => 0), cA K q48 0 (fun _ => 0), cO a49 7 [.ref h50, .ref a46, .int (iI 0), .ref t57, .int (iI 0), .ref t58], cO h50 5 [.ref j51, .ref j52, .ref j53, .ref j54, .ref j55, .ref j56, .int (iI 0), .int (iI 0), .int (iI 0)], cA K j51 6 (fun _ => 0), cA K j52 6 (fun _ => 0), cA K j53 6 (fun _ => 0), cA K j54 6 (fun _ => 0), cA K j55 24 (fun _ => 0), cA K j56 6 (fun _ => 0), cA K t57 6 (fun _ => 0), cA K t58 6 (fun _ => 0), cO a59 0 [.ref ga60, .int (iI 0), .int (iI 0), .int (iI 0), .int (iI 0)], cA K ga60 20 (fun _ => 0), cO a61 1 [.ref u62, .int (iI 0), .int (iI 0)], cA K u62 100 (fun _ => 0), cO a63 1 [.ref u64, .int (iI 0), .int (iI 0)], cA K u64 100 (fun _ => 0)] rfl ?_
  refine g_st hC [_, _, _] rfl ?_
  refine g_astH (pc := 94) hC (j := 1) 45 63 [_, _, _, _, _, _, _, _, _, _, _, _, _, _, _, _, _, _, _, _, _, _, _, _, _, _, _, _, _, _, _, _, _, _, _, _, _, _, _, _, _, _, _, _, _, cH K _ _ _, _, _, _, _, _, _, _, _, _, _, _, _, _, _, _, _, _, _, _] dX9_init_94 rfl rfl (by omega) (by omega) rfl ?_
  refine g_iinc (pc := 95) hC 0 [(1, _), (0, _)] dX9_init_95 rfl (by decide) rfl ?_
  refine g_lv hC [0, 1] [(1, .int (iI 2)), (0, _)] rfl ?_
  refine g_goto (pc := 98) hC 73 dX9_init_98 (by decide) ?_
  refine g_iload_n (pc := 73) hC 0 dX9_init_73 rfl rfl ?_
  refine g_aload_n (pc := 74) hC 1 dX9_init_74 rfl rfl ?_
  refine g_get (pc := 75) hC 0 fl_X9_23 dX9_init_75 rfl rfl ?_
  refine g_alenH (pc := 78) hC 45 dX9_init_78 rfl ?_
  refine g_st hC [.int (iI 5), _] rfl ?_
  refine g_icmp_ge (pc := 79) hC 101 dX9_init_79 (by decide) (by omega) (by omega) (fun c79 => by exfalso; omega) (fun c79 => ?_)
  refine g_aload_n (pc := 82) hC 1 dX9_init_82 rfl rfl ?_
  refine g_get (pc := 83) hC 0 fl_X9_23 dX9_init_83 rfl rfl ?_
  refine g_iload_n (pc := 86) hC 0 dX9_init_86 rfl rfl ?_
  refine g_new (pc := 87) hC (ty := tyX1) (fs := [.null, .int (iI 0), .int (iI 0)]) (fun a9 => [_, _, _, _, _, _, _, _, _, _, _, _, _, _, _, _, _, _, _, _, _, _, _, _, _, _, _, _, _, _, _, _, _, _, _, _, _, _, _, _, _, _, _, _, _, _, _, _, _, _, _, _, _, _, _, _, _, _, _, _, _, _, _, _, _, cO a9 1 _]) wc_X9_21 in_X1 tyX1_ok wi_X1 wz_X1 rfl (by decide +kernel) (by omega) dX9_init_87 (fun _ => rfl) (fun a65 => ?_)
  refine g_dup (pc := 90) hC dX9_init_90 rfl ?_
  refine g_callIN (pc := 91) hC [65] (k_X1_init _ ) cl_X1_init (by simp [gN] <;> first | rfl | exact Or.inl rfl | exact Or.inr rfl) dX9_init_91 rfl rfl (by decide) (by decide) (by omega) (Nat.le_of_ble_eq_true rfl) rfl (fun v9 w9 hq9 => ?_)
  obtain ⟨u66, rfl, rfl⟩ := hq9
  refine g_ws hC [cO xx 9 [.ref a1, .ref a23, .int (iI 0), .ref a45, .ref a46, .ref a49, .ref a59], cO a1 8 [.ref hA2, .ref poA9, .ref srA11, .ref prA15, .ref brA19, .int (iI 0)], cO hA2 5 [.ref kA3, .ref kA4, .ref kA5, .ref kA6, .ref kA7, .ref kA8, .int (iI 0), .int (iI 0), .int (iI 0)], cA K kA3 6 (fun _ => 0), cA K kA4 6 (fun _ => 0), cA K kA5 6 (fun _ => 0), cA K kA6 6 (fun _ => 0), cA K kA7 24 (fun _ => 0), cA K kA8 6 (fun _ => 0), cO poA9 6 [.ref paA10, .int (iI 0)], cA K paA10 100 (fun _ => 0), cO srA11 4 [.ref srA12, .ref srA13, .ref srA14, .int (iI 0)], cA K srA12 8 (fun _ => 0), cA K srA13 8 (fun _ => 0), cA K srA14 8 (fun _ => 0), cO prA15 4 [.ref prA16, .ref prA17, .ref prA18, .int (iI 0)], cA K prA16 8 (fun _ => 0), cA K prA17 8 (fun _ => 0), cA K prA18 8 (fun _ => 0), cO brA19 4 [.ref brA20, .ref brA21, .ref brA22, .int (iI 0)], cA K brA20 8 (fun _ => 0), cA K brA21 8 (fun _ => 0), cA K brA22 8 (fun _ => 0), cO a23 8 [.ref hA24, .ref poA31, .ref srA33, .ref prA37, .ref brA41, .int (iI 0)], cO hA24 5 [.ref kA25, .ref kA26, .ref kA27, .ref kA28, .ref kA29, .ref kA30, .int (iI 0), .int (iI 0), .int (iI 0)], cA K kA25 6 (fun _ => 0), cA K kA26 6 (fun _ => 0), cA K kA27 6 (fun _ => 0), cA K kA28 6 (fun _ => 0), cA K kA29 24 (fun _ => 0), cA K kA30 6 (fun _ => 0), cO poA31 6 [.ref paA32, .int (iI 0)], cA K paA32 100 (fun _ => 0), cO srA33 4 [.ref srA34, .ref srA35, .ref srA36, .int (iI 0)], cA K srA34 8 (fun _ => 0), cA K srA35 8 (fun _ => 0), cA K srA36 8 (fun _ => 0), cO prA37 4 [.ref prA38, .ref prA39, .ref prA40, .int (iI 0)], cA K prA38 8 (fun _ => 0), cA K prA39 8 (fun _ => 0), cA K prA40 8 (fun _ => 0), cO brA41 4 [.ref brA42, .ref brA43, .ref brA44, .int (iI 0)], cA K brA42 8 (fun _ => 0), cA K brA43 8 (fun _ => 0), cA K brA44 8 (fun _ => 0), cH K a45 5 (va_up (va_up (fun _ => none) 0 (some a61)) 1 (some a63)), cO a46 2 [.null, .ref q47, .ref q48, .int (iI 1)], cA K q47 6 (fun _ => 0), cA K q48 0 (fun _ => 0), cO a49 7 [.ref h50, .ref a46, .int (iI 0), .ref t57, .int (iI 0), .ref t58], cO h50 5 [.ref j51, .ref j52, .ref j53, .ref j54, .ref j55, .ref j56, .int (iI 0), .int (iI 0), .int (iI 0)], cA K j51 6 (fun _ => 0), cA K j52 6 (fun _ => 0), cA K j53 6 (fun _ => 0), cA K j54 6 (fun _ => 0), cA K j55 24 (fun _ => 0), cA K j56 6 (fun _ => 0), cA K t57 6 (fun _ => 0), cA K t58 6 (fun _ => 0), cO a59 0 [.ref ga60, .int (iI 0), .int (iI 0), .int (iI 0), .int (iI 0)], cA K ga60 20 (fun _ => 0), cO a61 1 [.ref u62, .int (iI 0), .int (iI 0)], cA K u62 100 (fun _ => 0), cO a63 1 [.ref u64, .int (iI 0), .int (iI 0)], cA K u64 100 (fun _ => 0), cO a65 1 [.ref u66, .int (iI 0), .int (iI 0)], cA K u66 100 (fun _ => 0)] rfl ?_
  refine g_st hC [_, _, _] rfl ?_
  refine g_astH (pc := 94) hC (j := 2) 45 65 [_, _, _, _, _, _, _, _, _, _, _, _, _, _, _, _, _, _, _, _, _, _, _, _, _, _, _, _, _, _, _, _, _, _, _, _, _, _, _, _, _, _, _, _, _, cH K _ _ _, _, _, _, _, _, _, _, _, _, _, _, _, _, _, _, _, _, _, _, _, _] dX9_init_94 rfl rfl (by omega) (by omega) rfl ?_
  refine g_iinc (pc := 95) hC 0 [(1, _), (0, _)] dX9_init_95 rfl (by decide) rfl ?_
  refine g_lv hC [0, 1] [(1, .int (iI 3)), (0, _)] rfl ?_
  refine g_goto (pc := 98) hC 73 dX9_init_98 (by decide) ?_
  refine g_iload_n (pc := 73) hC 0 dX9_init_73 rfl rfl ?_
  refine g_aload_n (pc := 74) hC 1 dX9_init_74 rfl rfl ?_
  refine g_get (pc := 75) hC 0 fl_X9_23 dX9_init_75 rfl rfl ?_
  refine g_alenH (pc := 78) hC 45 dX9_init_78 rfl ?_
  refine g_st hC [.int (iI 5), _] rfl ?_
  refine g_icmp_ge (pc := 79) hC 101 dX9_init_79 (by decide) (by omega) (by omega) (fun c79 => by exfalso; omega) (fun c79 => ?_)
  refine g_aload_n (pc := 82) hC 1 dX9_init_82 rfl rfl ?_
  refine g_get (pc := 83) hC 0 fl_X9_23 dX9_init_83 rfl rfl ?_
  refine g_iload_n (pc := 86) hC 0 dX9_init_86 rfl rfl ?_
  refine g_new (pc := 87) hC (ty := tyX1) (fs := [.null, .int (iI 0), .int (iI 0)]) (fun a9 => [_, _, _, _, _, _, _, _, _, _, _, _, _, _, _, _, _, _, _, _, _, _, _, _, _, _, _, _, _, _, _, _, _, _, _, _, _, _, _, _, _, _, _, _, _, _, _, _, _, _, _, _, _, _, _, _, _, _, _, _, _, _, _, _, _, _, _, cO a9 1 _]) wc_X9_21 in_X1 tyX1_ok wi_X1 wz_X1 rfl (by decide +kernel) (by omega) dX9_init_87 (fun _ => rfl) (fun a67 => ?_)
  refine g_dup (pc := 90) hC dX9_init_90 rfl ?_
  refine g_callIN (pc := 91) hC [67] (k_X1_init _ ) cl_X1_init (by simp [gN] <;> first | rfl | exact Or.inl rfl | exact Or.inr rfl) dX9_init_91 rfl rfl (by decide) (by decide) (by omega) (Nat.le_of_ble_eq_true rfl) rfl (fun v9 w9 hq9 => ?_)
  obtain ⟨u68, rfl, rfl⟩ := hq9
  refine g_ws hC [cO xx 9 [.ref a1, .ref a23, .int (iI 0), .ref a45, .ref a46, .ref a49, .ref a59], cO a1 8 [.ref hA2, .ref poA9, .ref srA11, .ref prA15, .ref brA19, .int (iI 0)], cO hA2 5 [.ref kA3, .ref kA4, .ref kA5, .ref kA6, .ref kA7, .ref kA8, .int (iI 0), .int (iI 0), .int (iI 0)], cA K kA3 6 (fun _ => 0), cA K kA4 6 (fun _ => 0), cA K kA5 6 (fun _ => 0), cA K kA6 6 (fun _ => 0), cA K kA7 24 (fun _ => 0), cA K kA8 6 (fun _ => 0), cO poA9 6 [.ref paA10, .int (iI 0)], cA K paA10 100 (fun _ => 0), cO srA11 4 [.ref srA12, .ref srA13, .ref srA14, .int (iI 0)], cA K srA12 8 (fun _ => 0), cA K srA13 8 (fun _ => 0), cA K srA14 8 (fun _ => 0), cO prA15 4 [.ref prA16, .ref prA17, .ref prA18, .int (iI 0)], cA K prA16 8 (fun _ => 0), cA K prA17 8 (fun _ => 0), cA K prA18 8 (fun _ => 0), cO brA19 4 [.ref brA20, .ref brA21, .ref brA22, .int (iI 0)], cA K brA20 8 (fun _ => 0), cA K brA21 8 (fun _ => 0), cA K brA22 8 (fun _ => 0), cO a23 8 [.ref hA24, .ref poA31, .ref srA33, .ref prA37, .ref brA41, .int (iI 0)], cO hA24 5 [.ref kA25, .ref kA26, .ref kA27, .ref kA28, .ref kA29, .ref kA30, .int (iI 0), .int (iI 0), .int (iI 0)], cA K kA25 6 (fun _ => 0), cA K kA26 6 (fun _ => 0), cA K kA27 6 (fun _ => 0), cA K kA28 6 (fun _ => 0), cA K kA29 24 (fun _ => 0), cA K kA30 6 (fun _ => 0), cO poA31 6 [.ref paA32, .int (iI 0)], cA K paA32 100 (fun _ => 0), cO srA33 4 [.ref srA34, .ref srA35, .ref srA36, .int (iI 0)], cA K srA34 8 (fun _ => 0), cA K srA35 8 (fun _ => 0), cA K srA36 8 (fun _ => 0), cO prA37 4 [.ref prA38, .ref prA39, .ref prA40, .int (iI 0)], cA K prA38 8 (fun _ => 0), cA K prA39 8 (fun _ => 0), cA K prA40 8 (fun _ => 0), cO brA41 4 [.ref brA42, .ref brA43, .ref brA44, .int (iI 0)], cA K brA42 8 (fun _ => 0), cA K brA43 8 (fun _ => 0), cA K brA44 8 (fun _ => 0), cH K a45 5 (va_up (va_up (va_up (fun _ => none) 0 (some a61)) 1 (some a63)) 2 (some a65)), cO a46 2 [.null, .ref q47, .ref q48, .int (iI 1)], cA K q47 6 (fun _ => 0), cA K q48 0 (fun _ => 0), cO a49 7 [.ref h50, .ref a46, .int (iI 0), .ref t57, .int (iI 0), .ref t58], cO h50 5 [.ref j51, .ref j52, .ref j53, .ref j54, .ref j55, .ref j56, .int (iI 0), .int (iI 0), .int (iI 0)], cA K j51 6 (fun _ => 0), cA K j52 6 (fun _ => 0), cA K j53 6 (fun _ => 0), cA K j54 6 (fun _ => 0), cA K j55 24 (fun _ => 0), cA K j56 6 (fun _ => 0), cA K t57 6 (fun _ => 0), cA K t58 6 (fun _ => 0), cO a59 0 [.ref ga60, .int (iI 0), .int (iI 0), .int (iI 0), .int (iI 0)], cA K ga60 20 (fun _ => 0), cO a61 1 [.ref u62, .int (iI 0), .int (iI 0)], cA K u62 100 (fun _ => 0), cO a63 1 [.ref u64, .int (iI 0), .int (iI 0)], cA K u64 100 (fun _ => 0), cO a65 1 [.ref u66, .int (iI 0), .int (iI 0)], cA K u66 100 (fun _ => 0), cO a67 1 [.ref u68, .int (iI 0), .int (iI 0)], cA K u68 100 (fun _ => 0)] rfl ?_
  refine g_st hC [_, _, _] rfl ?_
  refine g_astH (pc := 94) hC (j := 3) 45 67 [_, _, _, _, _, _, _, _, _, _, _, _, _, _, _, _, _, _, _, _, _, _, _, _, _, _, _, _, _, _, _, _, _, _, _, _, _, _, _, _, _, _, _, _, _, cH K _ _ _, _, _, _, _, _, _, _, _, _, _, _, _, _, _, _, _, _, _, _, _, _, _, _] dX9_init_94 rfl rfl (by omega) (by omega) rfl ?_
  refine g_iinc (pc := 95) hC 0 [(1, _), (0, _)] dX9_init_95 rfl (by decide) rfl ?_
  refine g_lv hC [0, 1] [(1, .int (iI 4)), (0, _)] rfl ?_
  refine g_goto (pc := 98) hC 73 dX9_init_98 (by decide) ?_
  refine g_iload_n (pc := 73) hC 0 dX9_init_73 rfl rfl ?_
  refine g_aload_n (pc := 74) hC 1 dX9_init_74 rfl rfl ?_
  refine g_get (pc := 75) hC 0 fl_X9_23 dX9_init_75 rfl rfl ?_
  refine g_alenH (pc := 78) hC 45 dX9_init_78 rfl ?_
  refine g_st hC [.int (iI 5), _] rfl ?_
  refine g_icmp_ge (pc := 79) hC 101 dX9_init_79 (by decide) (by omega) (by omega) (fun c79 => by exfalso; omega) (fun c79 => ?_)
  refine g_aload_n (pc := 82) hC 1 dX9_init_82 rfl rfl ?_
  refine g_get (pc := 83) hC 0 fl_X9_23 dX9_init_83 rfl rfl ?_
  refine g_iload_n (pc := 86) hC 0 dX9_init_86 rfl rfl ?_
  refine g_new (pc := 87) hC (ty := tyX1) (fs := [.null, .int (iI 0), .int (iI 0)]) (fun a9 => [_, _, _, _, _, _, _, _, _, _, _, _, _, _, _, _, _, _, _, _, _, _, _, _, _, _, _, _, _, _, _, _, _, _, _, _, _, _, _, _, _, _, _, _, _, _, _, _, _, _, _, _, _, _, _, _, _, _, _, _, _, _, _, _, _, _, _, _, _, cO a9 1 _]) wc_X9_21 in_X1 tyX1_ok wi_X1 wz_X1 rfl (by decide +kernel) (by omega) dX9_init_87 (fun _ => rfl) (fun a69 => ?_)
  refine g_dup (pc := 90) hC dX9_init_90 rfl ?_
  refine g_callIN (pc := 91) hC [69] (k_X1_init _ ) cl_X1_init (by simp [gN] <;> first | rfl | exact Or.inl rfl | exact Or.inr rfl) dX9_init_91 rfl rfl (by decide) (by decide) (by omega) (Nat.le_of_ble_eq_true rfl) rfl (fun v9 w9 hq9 => ?_)
  obtain ⟨u70, rfl, rfl⟩ := hq9
  refine g_ws hC [cO xx 9 [.ref a1, .ref a23, .int (iI 0), .ref a45, .ref a46, .ref a49, .ref a59], cO a1 8 [.ref hA2, .ref poA9, .ref srA11, .ref prA15, .ref brA19, .int (iI 0)], cO hA2 5 [.ref kA3, .ref kA4, .ref kA5, .ref kA6, .ref kA7, .ref kA8, .int (iI 0), .int (iI 0), .int (iI 0)], cA K kA3 6 (fun _ => 0), cA K kA4 6 (fun _ => 0), cA K kA5 6 (fun _ => 0), cA K kA6 6 (fun _ => 0), cA K kA7 24 (fun _ => 0), cA K kA8 6 (fun _ => 0), cO poA9 6 [.ref paA10, .int (iI 0)], cA K paA10 100 (fun _ => 0), cO srA11 4 [.ref srA12, .ref srA13, .ref srA14, .int (iI 0)], cA K srA12 8 (fun _ => 0), cA K srA13 8 (fun _ => 0), cA K srA14 8 (fun _ => 0), cO prA15 4 [.ref prA16, .ref prA17, .ref prA18, .int (iI 0)], cA K prA16 8 (fun _ => 0), cA K prA17 8 (fun _ => 0), cA K prA18 8 (fun _ => 0), cO brA19 4 [.ref brA20, .ref brA21, .ref brA22, .int (iI 0)], cA K brA20 8 (fun _ => 0), cA K brA21 8 (fun _ => 0), cA K brA22 8 (fun _ => 0), cO a23 8 [.ref hA24, .ref poA31, .ref srA33, .ref prA37, .ref brA41, .int (iI 0)], cO hA24 5 [.ref kA25, .ref kA26, .ref kA27, .ref kA28, .ref kA29, .ref kA30, .int (iI 0), .int (iI 0), .int (iI 0)], cA K kA25 6 (fun _ => 0), cA K kA26 6 (fun _ => 0), cA K kA27 6 (fun _ => 0), cA K kA28 6 (fun _ => 0), cA K kA29 24 (fun _ => 0), cA K kA30 6 (fun _ => 0), cO poA31 6 [.ref paA32, .int (iI 0)], cA K paA32 100 (fun _ => 0), cO srA33 4 [.ref srA34, .ref srA35, .ref srA36, .int (iI 0)], cA K srA34 8 (fun _ => 0), cA K srA35 8 (fun _ => 0), cA K srA36 8 (fun _ => 0), cO prA37 4 [.ref prA38, .ref prA39, .ref prA40, .int (iI 0)], cA K prA38 8 (fun _ => 0), cA K prA39 8 (fun _ => 0), cA K prA40 8 (fun _ => 0), cO brA41 4 [.ref brA42, .ref brA43, .ref brA44, .int (iI 0)], cA K brA42 8 (fun _ => 0), cA K brA43 8 (fun _ => 0), cA K brA44 8 (fun _ => 0), cH K a45 5 (va_up (va_up (va_up (va_up (fun _ => none) 0 (some a61)) 1 (some a63)) 2 (some a65)) 3 (some a67)), cO a46 2 [.null, .ref q47, .ref q48, .int (iI 1)], cA K q47 6 (fun _ => 0), cA K q48 0 (fun _ => 0), cO a49 7 [.ref h50, .ref a46, .int (iI 0), .ref t57, .int (iI 0), .ref t58], cO h50 5 [.ref j51, .ref j52, .ref j53, .ref j54, .ref j55, .ref j56, .int (iI 0), .int (iI 0), .int (iI 0)], cA K j51 6 (fun _ => 0), cA K j52 6 (fun _ => 0), cA K j53 6 (fun _ => 0), cA K j54 6 (fun _ => 0), cA K j55 24 (fun _ => 0), cA K j56 6 (fun _ => 0), cA K t57 6 (fun _ => 0), cA K t58 6 (fun _ => 0), cO a59 0 [.ref ga60, .int (iI 0), .int (iI 0), .int (iI 0), .int (iI 0)], cA K ga60 20 (fun _ => 0), cO a61 1 [.ref u62, .int (iI 0), .int (iI 0)], cA K u62 100 (fun _ => 0), cO a63 1 [.ref u64, .int (iI 0), .int (iI 0)], cA K u64 100 (fun _ => 0), cO a65 1 [.ref u66, .int (iI 0), .int (iI 0)], cA K u66 100 (fun _ => 0), cO a67 1 [.ref u68, .int (iI 0), .int (iI 0)], cA K u68 100 (fun _ => 0), cO a69 1 [.ref u70, .int (iI 0), .int (iI 0)], cA K u70 100 (fun _ => 0)] rfl ?_
  refine g_st hC [_, _, _] rfl ?_
  refine g_astH (pc := 94) hC (j := 4) 45 69 [_, _, _, _, _, _, _, _, _, _, _, _, _, _, _, _, _, _, _, _, _, _, _, _, _, _, _, _, _, _, _, _, _, _, _, _, _, _, _, _, _, _, _, _, _, cH K _ _ _, _, _, _, _, _, _, _, _, _, _, _, _, _, _, _, _, _, _, _, _, _, _, _, _, _] dX9_init_94 rfl rfl (by omega) (by omega) rfl ?_
  refine g_iinc (pc := 95) hC 0 [(1, _), (0, _)] dX9_init_95 rfl (by decide) rfl ?_
  refine g_lv hC [0, 1] [(1, .int (iI 5)), (0, _)] rfl ?_
  refine g_goto (pc := 98) hC 73 dX9_init_98 (by decide) ?_
  refine g_iload_n (pc := 73) hC 0 dX9_init_73 rfl rfl ?_
  refine g_aload_n (pc := 74) hC 1 dX9_init_74 rfl rfl ?_
  refine g_get (pc := 75) hC 0 fl_X9_23 dX9_init_75 rfl rfl ?_
  refine g_alenH (pc := 78) hC 45 dX9_init_78 rfl ?_
  refine g_st hC [.int (iI 5), _] rfl ?_
  refine g_icmp_ge (pc := 79) hC 101 dX9_init_79 (by decide) (by omega) (by omega) (fun c79 => ?_) (fun c79 => by exfalso; omega)
  exact g_vret (pc := 101) hR dX9_init_101 rfl ⟨by omega, by omega⟩ (Nat.le_of_ble_eq_true rfl) ⟨a1, hA2, kA3, kA4, kA5, kA6, kA7, kA8, poA9, paA10, srA11, srA12, srA13, srA14, prA15, prA16, prA17, prA18, brA19, brA20, brA21, brA22, a23, hA24, kA25, kA26, kA27, kA28, kA29, kA30, poA31, paA32, srA33, srA34, srA35, srA36, prA37, prA38, prA39, prA40, brA41, brA42, brA43, brA44, a45, a46, q47, q48, a49, h50, j51, j52, j53, j54, j55, j56, t57, t58, a59, ga60, a61, u62, a63, u64, a65, u66, a67, u68, a69, u70, (va_up (va_up (va_up (va_up (va_up (fun _ => none) 0 (some a61)) 1 (some a63)) 2 (some a65)) 3 (some a67)) 4 (some a69)), rfl, rfl, (by first | rfl | simp [va_up]), (by first | rfl | simp [va_up]), (by first | rfl | simp [va_up]), (by first | rfl | simp [va_up]), (by first | rfl | simp [va_up])⟩
