set_option maxHeartbeats 4000000 in
set_option maxRecDepth 100000 in
theorem k_X5_has {K : gK} (h0 : Nat) (w_kind : Value) (w_number : Value) (w_room : Value) (w_state : Value) (w_rows : Value) (w_next : Value) (w_away : Value) (w_step : Value) (m : Int) (cnt : Int) (r_m : rI m) (r_cnt : rI cnt) : gFn K yX5_has cX5_has 2 (some .boolean) 0 [.ref h0, .int (iI m)] [cO h0 5 [w_kind, w_number, w_room, w_state, w_rows, w_next, w_away, .int (iI cnt), w_step]] (if 0 ≤ m ∧ m < cnt ∧ m < 6 then 1 else 0) := by
  refine g_enter (by decide +kernel) (Nat.le_of_ble_eq_true rfl) (fun G hC hR => ?_)
  refine g_lv hC [0, 1] [(0, _), (1, _)] rfl ?_
  refine g_iload_n (pc := 0) hC 1 dX5_has_0 rfl rfl ?_
  refine g_if_lt (pc := 1) hC 22 dX5_has_1 (by decide) (by omega) (fun c1 => ?_) (fun c1 => ?_)
  · refine g_iconst (pc := 22) hC dX5_has_22 ?_
    exact g_zret (pc := 23) hR dX5_has_23 rfl (by omega) ⟨by omega, by omega⟩ (Nat.le_of_ble_eq_true rfl) ⟨ret_eq (by omega), rfl⟩
  · refine g_iload_n (pc := 4) hC 1 dX5_has_4 rfl rfl ?_
    refine g_aload_n (pc := 5) hC 0 dX5_has_5 rfl rfl ?_
    refine g_get (pc := 6) hC 0 fl_X5_30 dX5_has_6 rfl rfl ?_
    refine g_icmp_ge (pc := 9) hC 22 dX5_has_9 (by decide) (by omega) (by omega) (fun c9 => ?_) (fun c9 => ?_)
    · refine g_iconst (pc := 22) hC dX5_has_22 ?_
      exact g_zret (pc := 23) hR dX5_has_23 rfl (by omega) ⟨by omega, by omega⟩ (Nat.le_of_ble_eq_true rfl) ⟨ret_eq (by omega), rfl⟩
    · refine g_iload_n (pc := 12) hC 1 dX5_has_12 rfl rfl ?_
      refine g_bipush (pc := 13) hC (6) dX5_has_13 (by decide) ?_
      refine g_icmp_ge (pc := 15) hC 22 dX5_has_15 (by decide) (by omega) (by omega) (fun c15 => ?_) (fun c15 => ?_)
      · refine g_iconst (pc := 22) hC dX5_has_22 ?_
        exact g_zret (pc := 23) hR dX5_has_23 rfl (by omega) ⟨by omega, by omega⟩ (Nat.le_of_ble_eq_true rfl) ⟨ret_eq (by omega), rfl⟩
      · refine g_iconst (pc := 18) hC dX5_has_18 ?_
        refine g_goto (pc := 19) hC 23 dX5_has_19 (by decide) ?_
        exact g_zret (pc := 23) hR dX5_has_23 rfl (by omega) ⟨by omega, by omega⟩ (Nat.le_of_ble_eq_true rfl) ⟨ret_eq (by omega), rfl⟩
set_option maxHeartbeats 4000000 in
set_option maxRecDepth 100000 in
theorem k_X5_isAway {K : gK} (h0 : Nat) (w_kind : Value) (w_number : Value) (w_room : Value) (w_state : Value) (w_rows : Value) (w_next : Value) (w_count : Value) (w_step : Value) (m : Int) (aw : Int) (r_m : rI m) (r_aw : rI aw) : gFn K yX5_isAway cX5_isAway 2 (some .boolean) 0 [.ref h0, .int (iI m)] [cO h0 5 [w_kind, w_number, w_room, w_state, w_rows, w_next, .int (iI aw), w_count, w_step]] (if bAnd (bShr aw m) 1 = 0 then 0 else 1) := by
  refine g_enter (by decide +kernel) (Nat.le_of_ble_eq_true rfl) (fun G hC hR => ?_)
  refine g_lv hC [0, 1] [(0, _), (1, _)] rfl ?_
  refine g_aload_n (pc := 0) hC 0 dX5_isAway_0 rfl rfl ?_
  refine g_get (pc := 1) hC 0 fl_X5_34 dX5_isAway_1 rfl rfl ?_
  refine g_iload_n (pc := 4) hC 1 dX5_isAway_4 rfl rfl ?_
  refine g_ishr (pc := 5) hC dX5_isAway_5 ?_
  refine g_iconst (pc := 6) hC dX5_isAway_6 ?_
  refine g_iand (pc := 7) hC dX5_isAway_7 ?_
  refine g_if_eq (pc := 8) hC 15 dX5_isAway_8 (by decide) (bAnd_rng _ _) (fun c8 => ?_) (fun c8 => ?_)
  · refine g_iconst (pc := 15) hC dX5_isAway_15 ?_
    exact g_zret (pc := 16) hR dX5_isAway_16 rfl (by omega) ⟨by omega, by omega⟩ (Nat.le_of_ble_eq_true rfl) ⟨ret_eq (by omega), rfl⟩
  · refine g_iconst (pc := 11) hC dX5_isAway_11 ?_
    refine g_goto (pc := 12) hC 16 dX5_isAway_12 (by decide) ?_
    exact g_zret (pc := 16) hR dX5_isAway_16 rfl (by omega) ⟨by omega, by omega⟩ (Nat.le_of_ble_eq_true rfl) ⟨ret_eq (by omega), rfl⟩
set_option maxHeartbeats 4000000 in
set_option maxRecDepth 100000 in
theorem k_X5_apart {K : gK} (h0 : Nat) (a2 : Nat) (w_kind : Value) (w_number : Value) (w_state : Value) (w_rows : Value) (w_next : Value) (w_away : Value) (w_count : Value) (w_step : Value) (p : Int) (q : Int) (room : Int → Int) (r_p : rI p) (r_q : rI q) (r_room : ∀ j, rI (room j)) (hp : 0 ≤ p ∧ p < 6) (hq : 0 ≤ q ∧ q < 6) (hr : ∀ j, 0 ≤ j → j < 6 → 0 ≤ room j ∧ room j ≤ 9) : gFn K yX5_apart cX5_apart 4 (some .int) 0 [.ref h0, .int (iI p), .int (iI q)] [cO h0 5 [w_kind, w_number, .ref a2, w_state, w_rows, w_next, w_away, w_count, w_step], cA K a2 6 room] (if room p - room q < 0 then -(room p - room q) else room p - room q) := by
  refine g_enter (by decide +kernel) (Nat.le_of_ble_eq_true rfl) (fun G hC hR => ?_)
  refine g_lv hC [0, 1, 2] [(0, _), (1, _), (2, _)] rfl ?_
  refine g_iload_n (pc := 0) hC 1 dX5_apart_0 rfl rfl ?_
  refine g_if_lt (pc := 1) hC 26 dX5_apart_1 (by decide) (by omega) (fun c1 => by exfalso; omega) (fun c1 => ?_)
  refine g_iload_n (pc := 4) hC 2 dX5_apart_4 rfl rfl ?_
  refine g_if_lt (pc := 5) hC 26 dX5_apart_5 (by decide) (by omega) (fun c5 => by exfalso; omega) (fun c5 => ?_)
  refine g_iload_n (pc := 8) hC 1 dX5_apart_8 rfl rfl ?_
  refine g_aload_n (pc := 9) hC 0 dX5_apart_9 rfl rfl ?_
  refine g_get (pc := 10) hC 0 fl_X5_18 dX5_apart_10 rfl rfl ?_
  refine g_alen (pc := 13) hC 1 dX5_apart_13 rfl ?_
  refine g_st hC [.int (iI 6), _] rfl ?_
  refine g_icmp_ge (pc := 14) hC 26 dX5_apart_14 (by decide) (by omega) (by omega) (fun c14 => by exfalso; omega) (fun c14 => ?_)
  refine g_iload_n (pc := 17) hC 2 dX5_apart_17 rfl rfl ?_
  refine g_aload_n (pc := 18) hC 0 dX5_apart_18 rfl rfl ?_
  refine g_get (pc := 19) hC 0 fl_X5_18 dX5_apart_19 rfl rfl ?_
  refine g_alen (pc := 22) hC 1 dX5_apart_22 rfl ?_
  refine g_st hC [.int (iI 6), _] rfl ?_
  refine g_icmp_lt (pc := 23) hC 28 dX5_apart_23 (by decide) (by omega) (by omega) (fun c23 => ?_) (fun c23 => by exfalso; omega)
  have hrp := hr p (by omega) (by omega)
  have hrq := hr q (by omega) (by omega)
  refine g_aload_n (pc := 28) hC 0 dX5_apart_28 rfl rfl ?_
  refine g_get (pc := 29) hC 0 fl_X5_18 dX5_apart_29 rfl rfl ?_
  refine g_iload_n (pc := 32) hC 1 dX5_apart_32 rfl rfl ?_
  refine g_iald (pc := 33) hC 1 dX5_apart_33 rfl (by omega) ?_
  have q1 := r_room p
  refine g_aload_n (pc := 34) hC 0 dX5_apart_34 rfl rfl ?_
  refine g_get (pc := 35) hC 0 fl_X5_18 dX5_apart_35 rfl rfl ?_
  refine g_iload_n (pc := 38) hC 2 dX5_apart_38 rfl rfl ?_
  refine g_iald (pc := 39) hC 1 dX5_apart_39 rfl (by omega) ?_
  have q2 := r_room q
  refine g_isub (pc := 40) hC dX5_apart_40 ?_
  refine g_istore_n (pc := 41) hC [(3, _), (0, _), (1, _), (2, _)] dX5_apart_41 rfl (by decide) rfl ?_
  refine g_iload_n (pc := 42) hC 0 dX5_apart_42 rfl rfl ?_
  refine g_if_ge (pc := 43) hC 51 dX5_apart_43 (by decide) (by omega) (fun c43 => ?_) (fun c43 => ?_)
  · refine g_iload_n (pc := 51) hC 0 dX5_apart_51 rfl rfl ?_
    exact g_iret (pc := 52) hR dX5_apart_52 rfl ⟨by omega, by omega⟩ (Nat.le_of_ble_eq_true rfl) ⟨ret_eq (by omega), rfl⟩
  · refine g_iload_n (pc := 46) hC 0 dX5_apart_46 rfl rfl ?_
    refine g_ineg (pc := 47) hC dX5_apart_47 ?_
    refine g_goto (pc := 48) hC 52 dX5_apart_48 (by decide) ?_
    exact g_iret (pc := 52) hR dX5_apart_52 rfl ⟨by omega, by omega⟩ (Nat.le_of_ble_eq_true rfl) ⟨ret_eq (by omega), rfl⟩
set_option maxHeartbeats 4000000 in
set_option maxRecDepth 100000 in
theorem k_X10_in {K : gK} (v : Int) (lo : Int) (hi : Int) (r_v : rI v) (r_lo : rI lo) (r_hi : rI hi) : gFn K yX10_in cX10_in 3 (some .boolean) 0 [.int (iI v), .int (iI lo), .int (iI hi)] [] (if lo ≤ v ∧ v ≤ hi then 1 else 0) := by
  refine g_enter (by decide +kernel) (Nat.le_of_ble_eq_true rfl) (fun G hC hR => ?_)
  refine g_lv hC [0, 1, 2] [(0, _), (1, _), (2, _)] rfl ?_
  refine g_iload_n (pc := 0) hC 0 dX10_in_0 rfl rfl ?_
  refine g_iload_n (pc := 1) hC 1 dX10_in_1 rfl rfl ?_
  refine g_icmp_lt (pc := 2) hC 14 dX10_in_2 (by decide) (by omega) (by omega) (fun c2 => ?_) (fun c2 => ?_)
  · refine g_iconst (pc := 14) hC dX10_in_14 ?_
    exact g_zret (pc := 15) hR dX10_in_15 rfl (by omega) ⟨by omega, by omega⟩ (Nat.le_of_ble_eq_true rfl) ⟨ret_eq (by omega), rfl⟩
  · refine g_iload_n (pc := 5) hC 0 dX10_in_5 rfl rfl ?_
    refine g_iload_n (pc := 6) hC 2 dX10_in_6 rfl rfl ?_
    refine g_icmp_gt (pc := 7) hC 14 dX10_in_7 (by decide) (by omega) (by omega) (fun c7 => ?_) (fun c7 => ?_)
    · refine g_iconst (pc := 14) hC dX10_in_14 ?_
      exact g_zret (pc := 15) hR dX10_in_15 rfl (by omega) ⟨by omega, by omega⟩ (Nat.le_of_ble_eq_true rfl) ⟨ret_eq (by omega), rfl⟩
    · refine g_iconst (pc := 10) hC dX10_in_10 ?_
      refine g_goto (pc := 11) hC 15 dX10_in_11 (by decide) ?_
      exact g_zret (pc := 15) hR dX10_in_15 rfl (by omega) ⟨by omega, by omega⟩ (Nat.le_of_ble_eq_true rfl) ⟨ret_eq (by omega), rfl⟩
set_option maxHeartbeats 4000000 in
set_option maxRecDepth 100000 in
theorem k_X10_isDigit {K : gK} (v : Int) (r_v : rI v) : gFn K yX10_isDigit cX10_isDigit 1 (some .boolean) 1 [.int (iI v)] [] (if 0 ≤ v ∧ v ≤ 9 then 1 else 0) := by
  refine g_enter (by decide +kernel) (Nat.le_of_ble_eq_true rfl) (fun G hC hR => ?_)
  refine g_lv hC [0] [(0, _)] rfl ?_
  refine g_iload_n (pc := 0) hC 0 dX10_isDigit_0 rfl rfl ?_
  refine g_iconst (pc := 1) hC dX10_isDigit_1 ?_
  refine g_bipush (pc := 2) hC (9) dX10_isDigit_2 (by decide) ?_
  refine g_fnS (pc := 4) hC [] (k_X10_in _ _ _ (by first | assumption | omega) (by first | assumption | omega) (by first | assumption | omega)) cl_X10_in wm_X10_54 dX10_isDigit_4 rfl rfl (by decide) (by decide) ⟨by omega, by omega⟩ (Nat.le_of_ble_eq_true rfl) rfl rfl ?_
  refine g_name hC (fun x1 e_x1 => ?_)
  exact g_zret (pc := 7) hR dX10_isDigit_7 rfl (by omega) ⟨by omega, by omega⟩ (Nat.le_of_ble_eq_true rfl) ⟨ret_eq (by omega), rfl⟩
set_option maxHeartbeats 4000000 in
set_option maxRecDepth 100000 in
theorem k_X10_isMan {K : gK} (m0 : Nat) (m1 : Nat) (w_thrown : Value) (w_image : Value) (w_frame : Value) (w_hasImage : Value) (w_act : Value) (w_spot : Value) (w_end : Value) (w_isWrong : Value) (w_open : Value) (w_by : Value) (w_truths : Value) (w_pulls : Value) (w_isKeeping : Value) (w_next : Value) (w_first : Value) (w_order : Value) (w_bestOrder : Value) (w_rooms : Value) (w_leastUnlike : Value) (w_bodies : Value) (w_ran : Value) (w_kind : Value) (w_number : Value) (w_tellsV : Value) (p : Int) (s : Int → Int) (r_p : rI p) (r_s : ∀ j, rI (s j)) (hc : 0 ≤ s 19 ∧ s 19 ≤ 6) : gFn K yX10_isMan cX10_isMan 2 (some .boolean) 1 [.ref m0, .int (iI p)] [cO m0 10 [w_thrown, .ref m1, w_image, w_frame, w_hasImage, w_act, w_spot, w_end, w_isWrong, w_open, w_by, w_truths, w_pulls, w_isKeeping, w_next, w_first, w_order, w_bestOrder, w_rooms, w_leastUnlike, w_bodies, w_ran, w_kind, w_number, w_tellsV], cA K m1 922 s] (if 0 ≤ p ∧ p < s 19 then 1 else 0) := by
  refine g_enter (by decide +kernel) (Nat.le_of_ble_eq_true rfl) (fun G hC hR => ?_)
  refine g_lv hC [0, 1] [(0, _), (1, _)] rfl ?_
  refine g_iload_n (pc := 0) hC 1 dX10_isMan_0 rfl rfl ?_
  refine g_iconst (pc := 1) hC dX10_isMan_1 ?_
  refine g_aload_n (pc := 2) hC 0 dX10_isMan_2 rfl rfl ?_
  refine g_get (pc := 3) hC 0 fl_X10_9 dX10_isMan_3 rfl rfl ?_
  refine g_bipush (pc := 6) hC (19) dX10_isMan_6 (by decide) ?_
  refine g_iald (pc := 8) hC 1 dX10_isMan_8 rfl (by omega) ?_
  have q1 := r_s 19
  refine g_iconst (pc := 9) hC dX10_isMan_9 ?_
  refine g_isub (pc := 10) hC dX10_isMan_10 ?_
  refine g_fnS (pc := 11) hC [] (k_X10_in _ _ _ (by first | assumption | omega) (by first | assumption | omega) (by first | assumption | omega)) cl_X10_in wm_X10_54 dX10_isMan_11 rfl rfl (by decide) (by decide) ⟨by omega, by omega⟩ (Nat.le_of_ble_eq_true rfl) rfl rfl ?_
  refine g_name hC (fun x2 e_x2 => ?_)
  exact g_zret (pc := 14) hR dX10_isMan_14 rfl (by omega) ⟨by omega, by omega⟩ (Nat.le_of_ble_eq_true rfl) ⟨ret_eq (by omega), rfl⟩
