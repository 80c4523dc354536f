set_option maxHeartbeats 4000000 in
set_option maxRecDepth 100000 in
theorem k_X9_of_n {K : gK} (xx : Nat) (nA : Nat) (nZ : Nat) (hh : Nat) (q0 : Nat) (t0 : Nat) (g0 : Nat) (h0 : Nat) (po : Nat) (sr : Nat) (pr : Nat) (br : Nat) (k0 : Nat) (k1 : Nat) (k2 : Nat) (k3 : Nat) (k4 : Nat) (k5 : Nat) (wx_taken : Value) (w_facts : Value) (w_weighed : Value) (w_stamp : Value) (p : Int) (w : Int) (ho : Int) (aw : Int) (cn : Int) (sp : Int) (kd : Int → Int) (nb : Int → Int) (rm : Int → Int) (st : Int → Int) (rw : Int → Int) (nx : Int → Int) (s : Int → Int) (W : (Int → Int) → Int) (rch : Int) (r_p : rI p) (r_w : rI w) (r_ho : rI ho) (r_aw : rI aw) (r_cn : rI cn) (r_sp : rI sp) (r_kd : ∀ j, rI (kd j)) (r_nb : ∀ j, rI (nb j)) (r_rm : ∀ j, rI (rm j)) (r_st : ∀ j, rI (st j)) (r_rw : ∀ j, rI (rw j)) (r_nx : ∀ j, rI (nx j)) (hg : md_rg s) (hR9 : cs_R s kd nb rm st rw nx aw cn sp) (hW0 : (∀ b, W b = 0) ∧ rch = 9) : gFn K yX9_of cX9_of 4 (some .int) 3 [.ref xx, .int (iI p), .int (iI w)] [cO xx 9 [.ref nA, .ref nZ, wx_taken, .ref hh, .ref q0, .ref t0, .ref g0], cO nA 8 [.ref h0, .ref po, .ref sr, .ref pr, .ref br, .int (iI ho)], cO q0 2 [.null, w_facts, w_weighed, w_stamp], cO h0 5 [.ref k0, .ref k1, .ref k2, .ref k3, .ref k4, .ref k5, .int (iI aw), .int (iI cn), .int (iI sp)], cA K k0 6 kd, cA K k1 6 nb, cA K k2 6 rm, cA K k3 6 st, cA K k4 24 rw, cA K k5 6 nx] (an_of W rch s p w) := by
  refine g_enter (by decide +kernel) (Nat.le_of_ble_eq_true rfl) (fun G hC hR => ?_)
  refine g_lv hC [0, 1, 2] [(0, _), (1, _), (2, _)] rfl ?_
  have h19 := hg.2.2.1
  have hg0 := hg.2.2.2
  have hcs := hR9.1
  refine g_aload_n (pc := 0) hC 0 dX9_of_0 rfl rfl ?_
  refine g_get (pc := 1) hC 0 fl_X9_12 dX9_of_1 rfl rfl ?_
  refine g_get (pc := 4) hC 1 fl_X9_85 dX9_of_4 rfl rfl ?_
  refine g_iload_n (pc := 7) hC 1 dX9_of_7 rfl rfl ?_
  refine g_fnV (pc := 8) (qr := 3) hC [3] (k_X5_has _ _ _ _ _ _ _ _ _ _ _ (by first | assumption | omega) (by first | assumption | omega)) cl_X5_has wm_X9_94 dX9_of_8 rfl rfl rfl rfl rfl (by decide) (by decide) ⟨by omega, by omega⟩ (Nat.le_of_ble_eq_true rfl) rfl rfl ?_
  refine g_name hC (fun x8 e_x8 => ?_)
  have q_x8 := has_iff e_x8 (by omega)
  refine g_if_ne (pc := 11) hC 16 dX9_of_11 (by decide) (by first | assumption | decide | omega) (fun c11 => ?_) (fun c11 => ?_)
  · have hp : 0 ≤ p ∧ p < s 19 := by omega
    have hp1 := hR9.2.1 p hp.1 hp.2
    have hgp := hg.1 p hp.1 (by omega)
    refine g_aload_n (pc := 16) hC 0 dX9_of_16 rfl rfl ?_
    refine g_get (pc := 17) hC 0 fl_X9_12 dX9_of_17 rfl rfl ?_
    refine g_get (pc := 20) hC 1 fl_X9_85 dX9_of_20 rfl rfl ?_
    refine g_astore_n (pc := 23) hC [(3, _), (0, _), (1, _), (2, _)] dX9_of_23 rfl (by decide) rfl ?_
    refine g_iload_n (pc := 24) hC 3 dX9_of_24 rfl rfl ?_
    by_cases k25_0 : w = 0
    · refine g_tswIn (pc := 25) hC (0) (off := 43) 68 dX9_of_25 k25_0 (by omega) (by decide) (by decide) ?_
      refine g_aload_n (pc := 68) hC 0 dX9_of_68 rfl rfl ?_
      refine g_get (pc := 69) hC 3 fl_X9_97 dX9_of_69 rfl rfl ?_
      refine g_iload_n (pc := 72) hC 2 dX9_of_72 rfl rfl ?_
      refine g_iald (pc := 73) hC 4 dX9_of_73 rfl (by omega) ?_
      have qz1 := r_kd p
      exact g_iret (pc := 74) hR dX9_of_74 rfl ⟨by omega, by omega⟩ (Nat.le_of_ble_eq_true rfl) ⟨ret_eq (by unfold an_of; rw [if_pos (by omega), if_pos (by omega)]; omega), rfl⟩
    by_cases k25_1 : w = 1
    · refine g_tswIn (pc := 25) hC (1) (off := 50) 75 dX9_of_25 k25_1 (by omega) (by decide) (by decide) ?_
      refine g_aload_n (pc := 75) hC 0 dX9_of_75 rfl rfl ?_
      refine g_get (pc := 76) hC 3 fl_X9_101 dX9_of_76 rfl rfl ?_
      refine g_iload_n (pc := 79) hC 2 dX9_of_79 rfl rfl ?_
      refine g_iald (pc := 80) hC 5 dX9_of_80 rfl (by omega) ?_
      have qz2 := r_nb p
      exact g_iret (pc := 81) hR dX9_of_81 rfl ⟨by omega, by omega⟩ (Nat.le_of_ble_eq_true rfl) ⟨ret_eq (by unfold an_of; rw [if_pos (by omega), if_neg (by omega), if_pos (by omega)]; omega), rfl⟩
    by_cases k25_2 : w = 2
    · refine g_tswIn (pc := 25) hC (2) (off := 57) 82 dX9_of_25 k25_2 (by omega) (by decide) (by decide) ?_
      refine g_aload_n (pc := 82) hC 0 dX9_of_82 rfl rfl ?_
      refine g_get (pc := 83) hC 3 fl_X9_104 dX9_of_83 rfl rfl ?_
      refine g_iload_n (pc := 86) hC 2 dX9_of_86 rfl rfl ?_
      refine g_iald (pc := 87) hC 6 dX9_of_87 rfl (by omega) ?_
      have qz3 := r_rm p
      exact g_iret (pc := 88) hR dX9_of_88 rfl ⟨by omega, by omega⟩ (Nat.le_of_ble_eq_true rfl) ⟨ret_eq (by unfold an_of; rw [if_pos (by omega), if_neg (by omega), if_neg (by omega), if_pos (by omega)]; omega), rfl⟩
    by_cases k25_3 : w = 3
    · refine g_tswIn (pc := 25) hC (3) (off := 64) 89 dX9_of_25 k25_3 (by omega) (by decide) (by decide) ?_
      refine g_aload_n (pc := 89) hC 0 dX9_of_89 rfl rfl ?_
      refine g_get (pc := 90) hC 3 fl_X9_107 dX9_of_90 rfl rfl ?_
      refine g_iload_n (pc := 93) hC 2 dX9_of_93 rfl rfl ?_
      refine g_iald (pc := 94) hC 7 dX9_of_94 rfl (by omega) ?_
      have qz4 := r_st p
      exact g_iret (pc := 95) hR dX9_of_95 rfl ⟨by omega, by omega⟩ (Nat.le_of_ble_eq_true rfl) ⟨ret_eq (by unfold an_of; rw [if_pos (by omega), if_neg (by omega), if_neg (by omega), if_neg (by omega), if_pos (by omega)]; omega), rfl⟩
    by_cases k25_4 : w = 4
    · refine g_tswIn (pc := 25) hC (4) (off := 71) 96 dX9_of_25 k25_4 (by omega) (by decide) (by decide) ?_
      refine g_aload_n (pc := 96) hC 0 dX9_of_96 rfl rfl ?_
      refine g_get (pc := 97) hC 3 fl_X9_110 dX9_of_97 rfl rfl ?_
      refine g_iload_n (pc := 100) hC 2 dX9_of_100 rfl rfl ?_
      refine g_ishr (pc := 101) hC dX9_of_101 ?_
      refine g_iconst (pc := 102) hC dX9_of_102 ?_
      refine g_iand (pc := 103) hC dX9_of_103 ?_
      exact g_iret (pc := 104) hR dX9_of_104 rfl ⟨by omega, by omega⟩ (Nat.le_of_ble_eq_true rfl) ⟨ret_eq (by unfold an_of; rw [if_pos (by omega), if_neg (by omega), if_neg (by omega), if_neg (by omega), if_neg (by omega), if_pos (by omega)]; omega), rfl⟩
    by_cases k25_5 : w = 5
    · refine g_tswIn (pc := 25) hC (5) (off := 80) 105 dX9_of_25 k25_5 (by omega) (by decide) (by decide) ?_
      refine g_aload_n (pc := 105) hC 1 dX9_of_105 rfl rfl ?_
      refine g_get (pc := 106) hC 0 fl_X9_30 dX9_of_106 rfl rfl ?_
      refine g_aload_n (pc := 109) hC 0 dX9_of_109 rfl rfl ?_
      refine g_iload_n (pc := 110) hC 2 dX9_of_110 rfl rfl ?_
      refine g_fnV (pc := 111) (qr := 2) hC [2, 3, 4, 5, 6, 7, 8, 9] (k_X2_leaderOf_n _ _ _ _ _ _ _ _ _ _ _ _ _ _ _ _ _ _ _ _ _ _ _ _ (by first | assumption | omega) (by first | assumption | omega) (by first | assumption | omega) (by first | assumption | omega) (by first | assumption | omega) (by first | assumption | omega) (by first | assumption | omega) (by first | assumption | omega) (by first | assumption | omega) (by first | assumption | omega) (by first | assumption | omega) (by first | assumption | omega) (by first | assumption | omega) (by first | assumption | omega)) cl_X2_leaderOf wm_X9_113 dX9_of_111 rfl rfl rfl rfl rfl (by decide) (by decide) ⟨by omega, by omega⟩ (Nat.le_of_ble_eq_true rfl) rfl rfl ?_
      refine g_name hC (fun ld e_ld => ?_)
      have hl9 := ld_cases h19.1 e_ld
      refine g_fnS (pc := 114) hC [] (k_X9_orMissing _ (by first | assumption | omega)) cl_X9_orMissing wm_X9_117 dX9_of_114 rfl rfl (by decide) (by decide) ⟨by omega, by omega⟩ (Nat.le_of_ble_eq_true rfl) rfl rfl ?_
      refine g_name hC (fun x114 e_x114 => ?_)
      exact g_iret (pc := 117) hR dX9_of_117 rfl ⟨by omega, by omega⟩ (Nat.le_of_ble_eq_true rfl) ⟨ret_eq (by unfold an_of; rw [if_pos (by omega), if_neg (by omega), if_neg (by omega), if_neg (by omega), if_neg (by omega), if_neg (by omega), if_pos (by omega)]; exact of_5 h19.1 e_ld e_x114), rfl⟩
    by_cases k25_6 : w = 6
    · refine g_tswIn (pc := 25) hC (6) (off := 93) 118 dX9_of_25 k25_6 (by omega) (by decide) (by decide) ?_
      refine g_aload_n (pc := 118) hC 0 dX9_of_118 rfl rfl ?_
      refine g_iload_n (pc := 119) hC 2 dX9_of_119 rfl rfl ?_
      refine g_aload_n (pc := 120) hC 1 dX9_of_120 rfl rfl ?_
      refine g_get (pc := 121) hC 0 fl_X9_30 dX9_of_121 rfl rfl ?_
      refine g_aload_n (pc := 124) hC 0 dX9_of_124 rfl rfl ?_
      refine g_iload_n (pc := 125) hC 2 dX9_of_125 rfl rfl ?_
      refine g_fnV (pc := 126) (qr := 2) hC [2, 3, 4, 5, 6, 7, 8, 9] (k_X2_leaderOf_n _ _ _ _ _ _ _ _ _ _ _ _ _ _ _ _ _ _ _ _ _ _ _ _ (by first | assumption | omega) (by first | assumption | omega) (by first | assumption | omega) (by first | assumption | omega) (by first | assumption | omega) (by first | assumption | omega) (by first | assumption | omega) (by first | assumption | omega) (by first | assumption | omega) (by first | assumption | omega) (by first | assumption | omega) (by first | assumption | omega) (by first | assumption | omega) (by first | assumption | omega)) cl_X2_leaderOf wm_X9_113 dX9_of_126 rfl rfl rfl rfl rfl (by decide) (by decide) ⟨by omega, by omega⟩ (Nat.le_of_ble_eq_true rfl) rfl rfl ?_
      refine g_name hC (fun ld e_ld => ?_)
      have hl9 := ld_cases h19.1 e_ld
      refine g_fnV (pc := 129) (qr := 3) hC [3, 4, 5, 6, 7, 8, 9] (k_X5_nextOf _ _ _ _ _ _ _ _ _ _ _ _ _ _ _ _ _ _ s (by first | assumption | omega) (by first | assumption | omega) (by first | assumption | omega) (by first | assumption | omega) (by first | assumption | omega) (by first | assumption | omega) (by first | assumption | omega) (by first | assumption | omega) (by first | assumption | omega) (by first | assumption | omega) (by first | assumption | omega) (by first | assumption | omega) (by first | assumption | omega) (by first | assumption | omega) (by omega)) cl_X5_nextOf wm_X9_121 dX9_of_129 rfl rfl rfl rfl rfl (by decide) (by decide) ⟨by omega, by omega⟩ (Nat.le_of_ble_eq_true rfl) rfl rfl ?_
      refine g_name hC (fun x129 e_x129 => ?_)
      have q_x129 : 0 ≤ x129 ∧ x129 ≤ 9 := by rw [e_x129]; exact md_nl_rng hg (by omega) (by omega)
      have hnx := md_nl_next (W := W) (rch := rch) (s := s) (p := p) (ld := ld) h19.1 (by rw [e_ld]; rfl)
      exact g_iret (pc := 132) hR dX9_of_132 rfl ⟨by omega, by omega⟩ (Nat.le_of_ble_eq_true rfl) ⟨ret_eq (by unfold an_of; rw [if_pos (by omega), if_neg (by omega), if_neg (by omega), if_neg (by omega), if_neg (by omega), if_neg (by omega), if_neg (by omega), if_pos (by omega)]; rw [e_x129, hnx]), rfl⟩
    refine g_tswOut (pc := 25) hC 133 dX9_of_25 (by omega) (by omega) (by decide) ?_
    refine g_iconst (pc := 133) hC dX9_of_133 ?_
    exact g_iret (pc := 134) hR dX9_of_134 rfl ⟨by omega, by omega⟩ (Nat.le_of_ble_eq_true rfl) ⟨ret_eq (by unfold an_of; rw [if_pos (by omega), if_neg (by omega), if_neg (by omega), if_neg (by omega), if_neg (by omega), if_neg (by omega), if_neg (by omega), if_neg (by omega)]), rfl⟩
  · refine g_iconst (pc := 14) hC dX9_of_14 ?_
    exact g_iret (pc := 15) hR dX9_of_15 rfl ⟨by omega, by omega⟩ (Nat.le_of_ble_eq_true rfl) ⟨ret_eq (by unfold an_of; rw [if_neg (by omega)]), rfl⟩
set_option maxHeartbeats 4000000 in
set_option maxRecDepth 100000 in
theorem k_X9_pull_n {K : gK} (xx : Nat) (nA : Nat) (nZ : Nat) (hh : Nat) (q0 : Nat) (t0 : Nat) (g0 : Nat) (h0 : Nat) (po : Nat) (sr : Nat) (pr : Nat) (br : Nat) (k0 : Nat) (k1 : Nat) (k2 : Nat) (k3 : Nat) (k4 : Nat) (k5 : Nat) (wx_taken : Value) (w_facts : Value) (w_weighed : Value) (w_stamp : Value) (p : Int) (q : Int) (ho : Int) (aw : Int) (cn : Int) (sp : Int) (kd : Int → Int) (nb : Int → Int) (rm : Int → Int) (st : Int → Int) (rw : Int → Int) (nx : Int → Int) (s : Int → Int) (W : (Int → Int) → Int) (rch : Int) (r_p : rI p) (r_q : rI q) (r_ho : rI ho) (r_aw : rI aw) (r_cn : rI cn) (r_sp : rI sp) (r_kd : ∀ j, rI (kd j)) (r_nb : ∀ j, rI (nb j)) (r_rm : ∀ j, rI (rm j)) (r_st : ∀ j, rI (st j)) (r_rw : ∀ j, rI (rw j)) (r_nx : ∀ j, rI (nx j)) (hg : md_rg s) (hR9 : cs_R s kd nb rm st rw nx aw cn sp) (hW0 : (∀ b, W b = 0) ∧ rch = 9) : gFn K yX9_pull cX9_pull 3 (some .int) 2 [.ref xx, .int (iI p), .int (iI q)] [cO xx 9 [.ref nA, .ref nZ, wx_taken, .ref hh, .ref q0, .ref t0, .ref g0], cO nA 8 [.ref h0, .ref po, .ref sr, .ref pr, .ref br, .int (iI ho)], cO q0 2 [.null, w_facts, w_weighed, w_stamp], cO h0 5 [.ref k0, .ref k1, .ref k2, .ref k3, .ref k4, .ref k5, .int (iI aw), .int (iI cn), .int (iI sp)], cA K k0 6 kd, cA K k1 6 nb, cA K k2 6 rm, cA K k3 6 st, cA K k4 24 rw, cA K k5 6 nx] (an_pull W s p q) := by
  refine g_enter (by decide +kernel) (Nat.le_of_ble_eq_true rfl) (fun G hC hR => ?_)
  refine g_lv hC [0, 1, 2] [(0, _), (1, _), (2, _)] rfl ?_
  have h19 := hg.2.2.1
  have hg0 := hg.2.2.2
  have hcs := hR9.1
  refine g_aload_n (pc := 0) hC 0 dX9_pull_0 rfl rfl ?_
  refine g_get (pc := 1) hC 0 fl_X9_12 dX9_pull_1 rfl rfl ?_
  refine g_get (pc := 4) hC 1 fl_X9_85 dX9_pull_4 rfl rfl ?_
  refine g_iload_n (pc := 7) hC 1 dX9_pull_7 rfl rfl ?_
  refine g_fnV (pc := 8) (qr := 3) hC [3] (k_X5_has _ _ _ _ _ _ _ _ _ _ _ (by first | assumption | omega) (by first | assumption | omega)) cl_X5_has wm_X9_94 dX9_pull_8 rfl rfl rfl rfl rfl (by decide) (by decide) ⟨by omega, by omega⟩ (Nat.le_of_ble_eq_true rfl) rfl rfl ?_
  refine g_name hC (fun x8 e_x8 => ?_)
  have q_x8 := has_iff e_x8 (by omega)
  refine g_if_eq (pc := 11) hC 33 dX9_pull_11 (by decide) (by first | assumption | decide | omega) (fun c11 => ?_) (fun c11 => ?_)
  · refine g_ldc (pc := 33) hC (-999999) wo_X9_125 (by decide) dX9_pull_33 ?_
    exact g_iret (pc := 35) hR dX9_pull_35 rfl ⟨by omega, by omega⟩ (Nat.le_of_ble_eq_true rfl) ⟨ret_eq (by unfold an_pull; rw [if_neg (by omega)]), rfl⟩
  · refine g_aload_n (pc := 14) hC 0 dX9_pull_14 rfl rfl ?_
    refine g_get (pc := 15) hC 0 fl_X9_12 dX9_pull_15 rfl rfl ?_
    refine g_get (pc := 18) hC 1 fl_X9_85 dX9_pull_18 rfl rfl ?_
    refine g_iload_n (pc := 21) hC 2 dX9_pull_21 rfl rfl ?_
    refine g_fnV (pc := 22) (qr := 3) hC [3] (k_X5_has _ _ _ _ _ _ _ _ _ _ _ (by first | assumption | omega) (by first | assumption | omega)) cl_X5_has wm_X9_94 dX9_pull_22 rfl rfl rfl rfl rfl (by decide) (by decide) ⟨by omega, by omega⟩ (Nat.le_of_ble_eq_true rfl) rfl rfl ?_
    refine g_name hC (fun x22 e_x22 => ?_)
    have q_x22 := has_iff e_x22 (by omega)
    refine g_if_eq (pc := 25) hC 33 dX9_pull_25 (by decide) (by first | assumption | decide | omega) (fun c25 => ?_) (fun c25 => ?_)
    · refine g_ldc (pc := 33) hC (-999999) wo_X9_125 (by decide) dX9_pull_33 ?_
      exact g_iret (pc := 35) hR dX9_pull_35 rfl ⟨by omega, by omega⟩ (Nat.le_of_ble_eq_true rfl) ⟨ret_eq (by unfold an_pull; rw [if_neg (by omega)]), rfl⟩
    · refine g_iload_n (pc := 28) hC 1 dX9_pull_28 rfl rfl ?_
      refine g_iload_n (pc := 29) hC 2 dX9_pull_29 rfl rfl ?_
      refine g_icmp_ne (pc := 30) hC 36 dX9_pull_30 (by decide) (by first | assumption | decide | omega) (by first | assumption | decide | omega) (fun c30 => ?_) (fun c30 => ?_)
      · refine g_aload_n (pc := 36) hC 0 dX9_pull_36 rfl rfl ?_
        refine g_get (pc := 37) hC 0 fl_X9_30 dX9_pull_37 rfl rfl ?_
        refine g_aload_n (pc := 40) hC 0 dX9_pull_40 rfl rfl ?_
        refine g_get (pc := 41) hC 0 fl_X9_12 dX9_pull_41 rfl rfl ?_
        refine g_get (pc := 44) hC 1 fl_X9_85 dX9_pull_44 rfl rfl ?_
        refine g_iload_n (pc := 47) hC 1 dX9_pull_47 rfl rfl ?_
        refine g_iload_n (pc := 48) hC 2 dX9_pull_48 rfl rfl ?_
        refine g_fnV (pc := 49) (qr := 2) hC [2, 3, 4, 5, 6, 7, 8, 9] (k_X2_onBy_n _ _ _ _ _ _ _ _ _ _ _ _ _ _ _ _ _ _ _ _ _ _ _ _ _ (by first | assumption | omega) (by first | assumption | omega) (by first | assumption | omega) (by first | assumption | omega) (by first | assumption | omega) (by first | assumption | omega) (by first | assumption | omega) (by first | assumption | omega) (by first | assumption | omega) (by first | assumption | omega) (by first | assumption | omega) (by first | assumption | omega) (by first | assumption | omega) (by omega) (by omega) (by first | assumption | omega)) cl_X2_onBy wm_X9_126 dX9_pull_49 rfl rfl rfl rfl rfl (by decide) (by decide) ⟨by omega, by omega⟩ (Nat.le_of_ble_eq_true rfl) rfl rfl ?_
        refine g_name hC (fun pl e_pl => ?_)
        exact g_iret (pc := 52) hR dX9_pull_52 rfl ⟨by omega, by omega⟩ (Nat.le_of_ble_eq_true rfl) ⟨ret_eq (by unfold an_pull; rw [if_pos (by omega), e_pl]), rfl⟩
      · refine g_ldc (pc := 33) hC (-999999) wo_X9_125 (by decide) dX9_pull_33 ?_
        exact g_iret (pc := 35) hR dX9_pull_35 rfl ⟨by omega, by omega⟩ (Nat.le_of_ble_eq_true rfl) ⟨ret_eq (by unfold an_pull; rw [if_neg (by omega)]), rfl⟩
set_option maxHeartbeats 4000000 in
set_option maxRecDepth 100000 in
theorem k_X9_told_n {K : gK} (xx : Nat) (nA : Nat) (nZ : Nat) (hh : Nat) (q0 : Nat) (t0 : Nat) (g0 : Nat) (h0 : Nat) (po : Nat) (sr : Nat) (pr : Nat) (br : Nat) (h1 : Nat) (t2 : Nat) (t1 : Nat) (j0 : Nat) (j1 : Nat) (j2 : Nat) (j3 : Nat) (j4 : Nat) (j5 : Nat) (k0 : Nat) (k1 : Nat) (k2 : Nat) (k3 : Nat) (k4 : Nat) (k5 : Nat) (wx_taken : Value) (w_facts : Value) (w_weighed : Value) (w_stamp : Value) (w : Int) (ho : Int) (fw : Int) (rf : Int) (ta : Int) (tc : Int) (tp : Int) (aw : Int) (cn : Int) (sp : Int) (tk : Int → Int) (tn : Int → Int) (tr : Int → Int) (ts : Int → Int) (tw : Int → Int) (tx : Int → Int) (kd : Int → Int) (nb : Int → Int) (rm : Int → Int) (st : Int → Int) (rw : Int → Int) (nx : Int → Int) (s : Int → Int) (W : (Int → Int) → Int) (rch : Int) (r_w : rI w) (r_ho : rI ho) (r_fw : rI fw) (r_rf : rI rf) (r_ta : rI ta) (r_tc : rI tc) (r_tp : rI tp) (r_aw : rI aw) (r_cn : rI cn) (r_sp : rI sp) (r_tk : ∀ j, rI (tk j)) (r_tn : ∀ j, rI (tn j)) (r_tr : ∀ j, rI (tr j)) (r_ts : ∀ j, rI (ts j)) (r_tw : ∀ j, rI (tw j)) (r_tx : ∀ j, rI (tx j)) (r_kd : ∀ j, rI (kd j)) (r_nb : ∀ j, rI (nb j)) (r_rm : ∀ j, rI (rm j)) (r_st : ∀ j, rI (st j)) (r_rw : ∀ j, rI (rw j)) (r_nx : ∀ j, rI (nx j)) (hg : md_rg s) (hR9 : cs_R s kd nb rm st rw nx aw cn sp) (hW0 : (∀ b, W b = 0) ∧ rch = 9) (htx : ∀ p, 0 ≤ p → p < 6 → 0 ≤ tx p ∧ tx p ≤ 9) (hst0 : s 0 + 61 ≤ 20000) : gMet K yX9_told cX9_told 2 (some .int) 5 0 0 [.ref xx, .int (iI w)] [cO xx 9 [.ref nA, .ref nZ, wx_taken, .ref hh, .ref q0, .ref t0, .ref g0], cO nA 8 [.ref h0, .ref po, .ref sr, .ref pr, .ref br, .int (iI ho)], cO q0 2 [.null, w_facts, w_weighed, w_stamp], cO t0 7 [.ref h1, .ref q0, .int (iI fw), .ref t2, .int (iI rf), .ref t1], cO h1 5 [.ref j0, .ref j1, .ref j2, .ref j3, .ref j4, .ref j5, .int (iI ta), .int (iI tc), .int (iI tp)], cA K j0 6 tk, cA K j1 6 tn, cA K j2 6 tr, cA K j3 6 ts, cA K j4 24 tw, cA K j5 6 tx, cO h0 5 [.ref k0, .ref k1, .ref k2, .ref k3, .ref k4, .ref k5, .int (iI aw), .int (iI cn), .int (iI sp)], cA K k0 6 kd, cA K k1 6 nb, cA K k2 6 rm, cA K k3 6 st, cA K k4 24 rw, cA K k5 6 nx] (fun v9 w9 => ∃ (tk2 : Int → Int), ∃ (tn2 : Int → Int), ∃ (tr2 : Int → Int), ∃ (ts2 : Int → Int), ∃ (tw2 : Int → Int), ∃ (tx2 : Int → Int), ∃ (ta2 : Int), ∃ (tc2 : Int), ∃ (tp2 : Int), v9 = some (.int (iI (an_told W rch s w))) ∧ w9 = [cO xx 9 [.ref nA, .ref nZ, wx_taken, .ref hh, .ref q0, .ref t0, .ref g0], cO nA 8 [.ref h0, .ref po, .ref sr, .ref pr, .ref br, .int (iI ho)], cO q0 2 [.null, w_facts, w_weighed, w_stamp], cO t0 7 [.ref h1, .ref q0, .int (iI fw), .ref t2, .int (iI rf), .ref t1], cO h1 5 [.ref j0, .ref j1, .ref j2, .ref j3, .ref j4, .ref j5, .int (iI ta2), .int (iI tc2), .int (iI tp2)], cA K j0 6 tk2, cA K j1 6 tn2, cA K j2 6 tr2, cA K j3 6 ts2, cA K j4 24 tw2, cA K j5 6 tx2, cO h0 5 [.ref k0, .ref k1, .ref k2, .ref k3, .ref k4, .ref k5, .int (iI aw), .int (iI cn), .int (iI sp)], cA K k0 6 kd, cA K k1 6 nb, cA K k2 6 rm, cA K k3 6 st, cA K k4 24 rw, cA K k5 6 nx] ∧ (∀ j, rI (tk2 j)) ∧ (∀ j, rI (tn2 j)) ∧ (∀ j, rI (tr2 j)) ∧ (∀ j, rI (ts2 j)) ∧ (∀ j, rI (tw2 j)) ∧ (∀ j, rI (tx2 j)) ∧ rI ta2 ∧ rI tc2 ∧ rI tp2 ∧ (∀ p, 0 ≤ p → p < 6 → 0 ≤ tx2 p ∧ tx2 p ≤ 9)) := by
  refine g_enter (by decide +kernel) (Nat.le_of_ble_eq_true rfl) (fun G hC hR => ?_)
  refine g_lv hC [0, 1] [(0, _), (1, _)] rfl ?_
  have h19 := hg.2.2.1
  have hg0 := hg.2.2.2
  have hcs := hR9.1
  refine g_iload_n (pc := 0) hC 1 dX9_told_0 rfl rfl ?_
  by_cases k1_0 : w = 0
  · refine g_tswIn (pc := 1) hC (0) (off := 35) 36 dX9_told_1 k1_0 (by omega) (by decide) (by decide) ?_
    refine g_aload_n (pc := 36) hC 0 dX9_told_36 rfl rfl ?_
    refine g_get (pc := 37) hC 0 fl_X9_12 dX9_told_37 rfl rfl ?_
    refine g_get (pc := 40) hC 1 fl_X9_85 dX9_told_40 rfl rfl ?_
    refine g_get (pc := 43) hC 11 fl_X9_141 dX9_told_43 rfl rfl ?_
    exact g_iret (pc := 46) hR dX9_told_46 rfl ⟨by omega, by omega⟩ (Nat.le_of_ble_eq_true rfl) ⟨tk, tn, tr, ts, tw, tx, ta, tc, tp, ret_eq (by unfold an_told; rw [if_pos (by omega)]; omega), rfl, (by first | assumption | omega), (by first | assumption | omega), (by first | assumption | omega), (by first | assumption | omega), (by first | assumption | omega), (by first | assumption | omega), (by first | assumption | omega), (by first | assumption | omega), (by first | assumption | omega), htx⟩
  by_cases k1_1 : w = 1
  · refine g_tswIn (pc := 1) hC (1) (off := 46) 47 dX9_told_1 k1_1 (by omega) (by decide) (by decide) ?_
    refine g_aload_n (pc := 47) hC 0 dX9_told_47 rfl rfl ?_
    refine g_get (pc := 48) hC 0 fl_X9_30 dX9_told_48 rfl rfl ?_
    refine g_fnV (pc := 51) (qr := 2) hC [2] (k_X2_reach_n _ _ _ _ ) cl_X2_reach wm_X9_144 dX9_told_51 rfl rfl rfl rfl rfl (by decide) (by decide) ⟨by omega, by omega⟩ (Nat.le_of_ble_eq_true rfl) rfl rfl ?_
    refine g_name hC (fun x51 e_x51 => ?_)
    exact g_iret (pc := 54) hR dX9_told_54 rfl ⟨by omega, by omega⟩ (Nat.le_of_ble_eq_true rfl) ⟨tk, tn, tr, ts, tw, tx, ta, tc, tp, ret_eq (by unfold an_told; rw [if_neg (by omega), if_pos (by omega)]; omega), rfl, (by first | assumption | omega), (by first | assumption | omega), (by first | assumption | omega), (by first | assumption | omega), (by first | assumption | omega), (by first | assumption | omega), (by first | assumption | omega), (by first | assumption | omega), (by first | assumption | omega), htx⟩
  by_cases k1_2 : w = 2
  · refine g_tswIn (pc := 1) hC (2) (off := 54) 55 dX9_told_1 k1_2 (by omega) (by decide) (by decide) ?_
    refine g_aload_n (pc := 55) hC 0 dX9_told_55 rfl rfl ?_
    refine g_get (pc := 56) hC 0 fl_X9_12 dX9_told_56 rfl rfl ?_
    refine g_get (pc := 59) hC 1 fl_X9_85 dX9_told_59 rfl rfl ?_
    refine g_fnV (pc := 62) (qr := 11) hC [11, 12, 13, 14, 15, 16, 17] (k_X5_unlikeStates _ _ _ _ _ _ _ _ _ _ _ _ _ _ _ _ s (by first | assumption | omega) (by first | assumption | omega) (by first | assumption | omega) (by first | assumption | omega) (by first | assumption | omega) (by first | assumption | omega) (by first | assumption | omega) (by first | assumption | omega) (by first | assumption | omega) (by first | assumption | omega) (by first | assumption | omega)) cl_X5_unlikeStates wm_X9_148 dX9_told_62 rfl rfl rfl rfl rfl (by decide) (by decide) ⟨by omega, by omega⟩ (Nat.le_of_ble_eq_true rfl) rfl rfl ?_
    refine g_name hC (fun x62 e_x62 => ?_)
    have q_x62 : 0 ≤ x62 ∧ x62 ≤ 10 := by rw [e_x62]; exact md_unl_rng _
    exact g_iret (pc := 65) hR dX9_told_65 rfl ⟨by omega, by omega⟩ (Nat.le_of_ble_eq_true rfl) ⟨tk, tn, tr, ts, tw, tx, ta, tc, tp, ret_eq (by unfold an_told; rw [if_neg (by omega), if_neg (by omega), if_pos (by omega)]; exact e_x62), rfl, (by first | assumption | omega), (by first | assumption | omega), (by first | assumption | omega), (by first | assumption | omega), (by first | assumption | omega), (by first | assumption | omega), (by first | assumption | omega), (by first | assumption | omega), (by first | assumption | omega), htx⟩
  by_cases k1_3 : w = 3
  · refine g_tswIn (pc := 1) hC (3) (off := 65) 66 dX9_told_1 k1_3 (by omega) (by decide) (by decide) ?_
    refine g_aload_n (pc := 66) hC 0 dX9_told_66 rfl rfl ?_
    refine g_get (pc := 67) hC 0 fl_X9_39 dX9_told_67 rfl rfl ?_
    refine g_aload_n (pc := 70) hC 0 dX9_told_70 rfl rfl ?_
    refine g_get (pc := 71) hC 0 fl_X9_12 dX9_told_71 rfl rfl ?_
    refine g_get (pc := 74) hC 1 fl_X9_85 dX9_told_74 rfl rfl ?_
    refine g_callV (pc := 77) (qr := 3) hC [3, 2, 4, 5, 6, 7, 8, 9, 10, 11, 12, 13, 14, 15, 16, 17] (k_X7_settles_n _ _ _ _ _ _ _ _ _ _ _ _ _ _ _ _ _ _ _ _ _ _ _ _ _ _ _ _ _ _ _ _ _ _ _ _ _ _ _ _ _ s W rch (by first | assumption | omega) (by first | assumption | omega) (by first | assumption | omega) (by first | assumption | omega) (by first | assumption | omega) (by first | assumption | omega) (by first | assumption | omega) (by first | assumption | omega) (by first | assumption | omega) (by first | assumption | omega) (by first | assumption | omega) (by first | assumption | omega) (by first | assumption | omega) (by first | assumption | omega) (by first | assumption | omega) (by first | assumption | omega) (by first | assumption | omega) (by first | assumption | omega) (by first | assumption | omega) (by first | assumption | omega) (by first | assumption | omega) (by first | assumption | omega) (by first | assumption | omega)) cl_X7_settles wm_X9_151 dX9_told_77 rfl rfl rfl rfl rfl (by decide) (by decide) (by omega) (Nat.le_of_ble_eq_true rfl) rfl (fun v9 w9 hq9 => ?_)
    obtain ⟨tk5, tn5, tr5, ts5, tw5, tx5, tp5, rfl, rfl, r_tk5, r_tn5, r_tr5, r_ts5, r_tw5, r_tx5, r_tp5, htx2_77⟩ := hq9
    refine g_ws hC [cO xx 9 [.ref nA, .ref nZ, wx_taken, .ref hh, .ref q0, .ref t0, .ref g0], cO nA 8 [.ref h0, .ref po, .ref sr, .ref pr, .ref br, .int (iI ho)], cO q0 2 [.null, w_facts, w_weighed, w_stamp], cO t0 7 [.ref h1, .ref q0, .int (iI fw), .ref t2, .int (iI rf), .ref t1], cO h1 5 [.ref j0, .ref j1, .ref j2, .ref j3, .ref j4, .ref j5, .int (iI aw), .int (iI cn), .int (iI tp5)], cA K j0 6 tk5, cA K j1 6 tn5, cA K j2 6 tr5, cA K j3 6 ts5, cA K j4 24 tw5, cA K j5 6 tx5, cO h0 5 [.ref k0, .ref k1, .ref k2, .ref k3, .ref k4, .ref k5, .int (iI aw), .int (iI cn), .int (iI sp)], cA K k0 6 kd, cA K k1 6 nb, cA K k2 6 rm, cA K k3 6 st, cA K k4 24 rw, cA K k5 6 nx] rfl ?_
    refine g_st hC [.int (iI (md_F W rch s 61))] rfl ?_
    refine g_name hC (fun x77 e_x77 => ?_)
    exact g_iret (pc := 80) hR dX9_told_80 rfl ⟨by omega, by omega⟩ (Nat.le_of_ble_eq_true rfl) ⟨tk5, tn5, tr5, ts5, tw5, tx5, aw, cn, tp5, ret_eq (by unfold an_told; rw [if_neg (by omega), if_neg (by omega), if_neg (by omega), if_pos (by omega)]; exact e_x77), rfl, (by first | assumption | omega), (by first | assumption | omega), (by first | assumption | omega), (by first | assumption | omega), (by first | assumption | omega), (by first | assumption | omega), (by first | assumption | omega), (by first | assumption | omega), (by first | assumption | omega), htx2_77⟩
  by_cases k1_4 : w = 4
  · refine g_tswIn (pc := 1) hC (4) (off := 80) 81 dX9_told_1 k1_4 (by omega) (by decide) (by decide) ?_
    refine g_aload_n (pc := 81) hC 0 dX9_told_81 rfl rfl ?_
    refine g_get (pc := 82) hC 0 fl_X9_12 dX9_told_82 rfl rfl ?_
    refine g_get (pc := 85) hC 1 fl_X9_85 dX9_told_85 rfl rfl ?_
    refine g_get (pc := 88) hC 11 fl_X9_110 dX9_told_88 rfl rfl ?_
    exact g_iret (pc := 91) hR dX9_told_91 rfl ⟨by omega, by omega⟩ (Nat.le_of_ble_eq_true rfl) ⟨tk, tn, tr, ts, tw, tx, ta, tc, tp, ret_eq (by unfold an_told; rw [if_neg (by omega), if_neg (by omega), if_neg (by omega), if_neg (by omega), if_pos (by omega)]; exact (awb_at h19 hR9).symm), rfl, (by first | assumption | omega), (by first | assumption | omega), (by first | assumption | omega), (by first | assumption | omega), (by first | assumption | omega), (by first | assumption | omega), (by first | assumption | omega), (by first | assumption | omega), (by first | assumption | omega), htx⟩
  refine g_tswOut (pc := 1) hC 92 dX9_told_1 (by omega) (by omega) (by decide) ?_
  refine g_iconst (pc := 92) hC dX9_told_92 ?_
  exact g_iret (pc := 93) hR dX9_told_93 rfl ⟨by omega, by omega⟩ (Nat.le_of_ble_eq_true rfl) ⟨tk, tn, tr, ts, tw, tx, ta, tc, tp, ret_eq (by unfold an_told; rw [if_neg (by omega), if_neg (by omega), if_neg (by omega), if_neg (by omega), if_neg (by omega)]), rfl, (by first | assumption | omega), (by first | assumption | omega), (by first | assumption | omega), (by first | assumption | omega), (by first | assumption | omega), (by first | assumption | omega), (by first | assumption | omega), (by first | assumption | omega), (by first | assumption | omega), htx⟩
set_option maxHeartbeats 4000000 in
set_option maxRecDepth 100000 in
theorem k_X9_on_n {K : gK} (xx : Nat) (nA : Nat) (nZ : Nat) (hh : Nat) (q0 : Nat) (t0 : Nat) (g0 : Nat) (h0 : Nat) (po : Nat) (sr : Nat) (pr : Nat) (br : Nat) (h1 : Nat) (t2 : Nat) (t1 : Nat) (j0 : Nat) (j1 : Nat) (j2 : Nat) (j3 : Nat) (j4 : Nat) (j5 : Nat) (k0 : Nat) (k1 : Nat) (k2 : Nat) (k3 : Nat) (k4 : Nat) (k5 : Nat) (wx_taken : Value) (w_facts : Value) (w_weighed : Value) (w_stamp : Value) (n : Int) (w : Int) (ho : Int) (fw : Int) (rf : Int) (ta : Int) (tc : Int) (tp : Int) (aw : Int) (cn : Int) (sp : Int) (tk : Int → Int) (tn : Int → Int) (tr : Int → Int) (ts : Int → Int) (tw : Int → Int) (tx : Int → Int) (kd : Int → Int) (nb : Int → Int) (rm : Int → Int) (st : Int → Int) (rw : Int → Int) (nx : Int → Int) (s : Int → Int) (W : (Int → Int) → Int) (rch : Int) (r_n : rI n) (r_w : rI w) (r_ho : rI ho) (r_fw : rI fw) (r_rf : rI rf) (r_ta : rI ta) (r_tc : rI tc) (r_tp : rI tp) (r_aw : rI aw) (r_cn : rI cn) (r_sp : rI sp) (r_tk : ∀ j, rI (tk j)) (r_tn : ∀ j, rI (tn j)) (r_tr : ∀ j, rI (tr j)) (r_ts : ∀ j, rI (ts j)) (r_tw : ∀ j, rI (tw j)) (r_tx : ∀ j, rI (tx j)) (r_kd : ∀ j, rI (kd j)) (r_nb : ∀ j, rI (nb j)) (r_rm : ∀ j, rI (rm j)) (r_st : ∀ j, rI (st j)) (r_rw : ∀ j, rI (rw j)) (r_nx : ∀ j, rI (nx j)) (hg : md_rg s) (hR9 : cs_R s kd nb rm st rw nx aw cn sp) (hW0 : (∀ b, W b = 0) ∧ rch = 9) (htx : ∀ p, 0 ≤ p → p < 6 → 0 ≤ tx p ∧ tx p ≤ 9) (hst0 : s 0 + 61 ≤ 20000) : gMet K yX9_on cX9_on 3 (some .int) 5 0 0 [.ref xx, .int (iI n), .int (iI w)] [cO xx 9 [.ref nA, .ref nZ, wx_taken, .ref hh, .ref q0, .ref t0, .ref g0], cO nA 8 [.ref h0, .ref po, .ref sr, .ref pr, .ref br, .int (iI ho)], cO q0 2 [.null, w_facts, w_weighed, w_stamp], cO t0 7 [.ref h1, .ref q0, .int (iI fw), .ref t2, .int (iI rf), .ref t1], cO h1 5 [.ref j0, .ref j1, .ref j2, .ref j3, .ref j4, .ref j5, .int (iI ta), .int (iI tc), .int (iI tp)], cA K j0 6 tk, cA K j1 6 tn, cA K j2 6 tr, cA K j3 6 ts, cA K j4 24 tw, cA K j5 6 tx, cO h0 5 [.ref k0, .ref k1, .ref k2, .ref k3, .ref k4, .ref k5, .int (iI aw), .int (iI cn), .int (iI sp)], cA K k0 6 kd, cA K k1 6 nb, cA K k2 6 rm, cA K k3 6 st, cA K k4 24 rw, cA K k5 6 nx] (fun v9 w9 => ∃ (tk2 : Int → Int), ∃ (tn2 : Int → Int), ∃ (tr2 : Int → Int), ∃ (ts2 : Int → Int), ∃ (tw2 : Int → Int), ∃ (tx2 : Int → Int), ∃ (ta2 : Int), ∃ (tc2 : Int), ∃ (tp2 : Int), v9 = some (.int (iI (an_on W rch s n w))) ∧ w9 = [cO xx 9 [.ref nA, .ref nZ, wx_taken, .ref hh, .ref q0, .ref t0, .ref g0], cO nA 8 [.ref h0, .ref po, .ref sr, .ref pr, .ref br, .int (iI ho)], cO q0 2 [.null, w_facts, w_weighed, w_stamp], cO t0 7 [.ref h1, .ref q0, .int (iI fw), .ref t2, .int (iI rf), .ref t1], cO h1 5 [.ref j0, .ref j1, .ref j2, .ref j3, .ref j4, .ref j5, .int (iI ta2), .int (iI tc2), .int (iI tp2)], cA K j0 6 tk2, cA K j1 6 tn2, cA K j2 6 tr2, cA K j3 6 ts2, cA K j4 24 tw2, cA K j5 6 tx2, cO h0 5 [.ref k0, .ref k1, .ref k2, .ref k3, .ref k4, .ref k5, .int (iI aw), .int (iI cn), .int (iI sp)], cA K k0 6 kd, cA K k1 6 nb, cA K k2 6 rm, cA K k3 6 st, cA K k4 24 rw, cA K k5 6 nx] ∧ (∀ j, rI (tk2 j)) ∧ (∀ j, rI (tn2 j)) ∧ (∀ j, rI (tr2 j)) ∧ (∀ j, rI (ts2 j)) ∧ (∀ j, rI (tw2 j)) ∧ (∀ j, rI (tx2 j)) ∧ rI ta2 ∧ rI tc2 ∧ rI tp2 ∧ (∀ p, 0 ≤ p → p < 6 → 0 ≤ tx2 p ∧ tx2 p ≤ 9)) := by
  refine g_enter (by decide +kernel) (Nat.le_of_ble_eq_true rfl) (fun G hC hR => ?_)
  refine g_lv hC [0, 1, 2] [(0, _), (1, _), (2, _)] rfl ?_
  have h19 := hg.2.2.1
  have hg0 := hg.2.2.2
  have hcs := hR9.1
  refine g_iload_n (pc := 0) hC 2 dX9_on_0 rfl rfl ?_
  refine g_if_eq (pc := 1) hC 29 dX9_on_1 (by decide) (by first | assumption | decide | omega) (fun c1 => ?_) (fun c1 => ?_)
  · refine g_iload_n (pc := 29) hC 1 dX9_on_29 rfl rfl ?_
    refine g_if_lt (pc := 30) hC 39 dX9_on_30 (by decide) (by first | assumption | decide | omega) (fun c30 => ?_) (fun c30 => ?_)
    · refine g_bipush (pc := 39) hC (-2) dX9_on_39 (by decide) ?_
      exact g_iret (pc := 41) hR dX9_on_41 rfl ⟨by omega, by omega⟩ (Nat.le_of_ble_eq_true rfl) ⟨tk, tn, tr, ts, tw, tx, ta, tc, tp, ret_eq (by unfold an_on; rw [if_pos (by omega), if_neg (by omega)]), rfl, (by first | assumption | omega), (by first | assumption | omega), (by first | assumption | omega), (by first | assumption | omega), (by first | assumption | omega), (by first | assumption | omega), (by first | assumption | omega), (by first | assumption | omega), (by first | assumption | omega), htx⟩
    · refine g_iload_n (pc := 33) hC 1 dX9_on_33 rfl rfl ?_
      refine g_bipush (pc := 34) hC (60) dX9_on_34 (by decide) ?_
      refine g_icmp_le (pc := 36) hC 42 dX9_on_36 (by decide) (by first | assumption | decide | omega) (by first | assumption | decide | omega) (fun c36 => ?_) (fun c36 => ?_)
      · refine g_aload_n (pc := 42) hC 0 dX9_on_42 rfl rfl ?_
        refine g_get (pc := 43) hC 0 fl_X9_39 dX9_on_43 rfl rfl ?_
        refine g_aload_n (pc := 46) hC 0 dX9_on_46 rfl rfl ?_
        refine g_get (pc := 47) hC 0 fl_X9_12 dX9_on_47 rfl rfl ?_
        refine g_get (pc := 50) hC 1 fl_X9_85 dX9_on_50 rfl rfl ?_
        refine g_callV (pc := 53) (qr := 3) hC [3, 4, 5, 6, 7, 8, 9, 10, 11, 12, 13, 14, 15, 16, 17] (k_X7_begin _ _ _ _ _ _ _ _ _ _ _ _ _ _ _ _ _ _ _ _ _ _ _ _ _ _ _ _ _ _ _ _ _ _ _ _ _ _ _ (by first | assumption | omega) (by first | assumption | omega) (by first | assumption | omega) (by first | assumption | omega) (by first | assumption | omega) (by first | assumption | omega) (by first | assumption | omega) (by first | assumption | omega) (by first | assumption | omega) (by first | assumption | omega) (by first | assumption | omega) (by first | assumption | omega) (by first | assumption | omega) (by first | assumption | omega) (by first | assumption | omega) (by first | assumption | omega) (by first | assumption | omega) (by first | assumption | omega) (by first | assumption | omega) (by first | assumption | omega) (by first | assumption | omega)) cl_X7_begin wm_X9_158 dX9_on_53 rfl rfl rfl rfl rfl (by decide) (by decide) (by omega) (Nat.le_of_ble_eq_true rfl) rfl (fun v9 w9 hq9 => ?_)
        obtain ⟨kd3, nb3, rm3, st3, rw3, rfl, rfl, r_kd3, r_nb3, r_rm3, r_st3, r_rw3, hR2_53⟩ := hq9
        refine g_ws hC [cO xx 9 [.ref nA, .ref nZ, wx_taken, .ref hh, .ref q0, .ref t0, .ref g0], cO nA 8 [.ref h0, .ref po, .ref sr, .ref pr, .ref br, .int (iI ho)], cO q0 2 [.null, w_facts, w_weighed, w_stamp], cO t0 7 [.ref h1, .ref q0, .int (iI fw), .ref t2, .int (iI rf), .ref t1], cO h1 5 [.ref j0, .ref j1, .ref j2, .ref j3, .ref j4, .ref j5, .int (iI aw), .int (iI cn), .int (iI sp)], cA K j0 6 kd3, cA K j1 6 nb3, cA K j2 6 rm3, cA K j3 6 st3, cA K j4 24 rw3, cA K j5 6 tx, cO h0 5 [.ref k0, .ref k1, .ref k2, .ref k3, .ref k4, .ref k5, .int (iI aw), .int (iI cn), .int (iI sp)], cA K k0 6 kd, cA K k1 6 nb, cA K k2 6 rm, cA K k3 6 st, cA K k4 24 rw, cA K k5 6 nx] rfl ?_
        refine g_st hC [] rfl ?_
        refine g_aload_n (pc := 56) hC 0 dX9_on_56 rfl rfl ?_
        refine g_get (pc := 57) hC 0 fl_X9_39 dX9_on_57 rfl rfl ?_
        refine g_iload_n (pc := 60) hC 1 dX9_on_60 rfl rfl ?_
        refine g_callV (pc := 61) (qr := 3) hC [3, 2, 4, 5, 6, 7, 8, 9, 10] (k_X7_goOn_n _ _ _ _ _ _ _ _ _ _ _ _ _ _ _ _ _ _ _ _ _ _ _ _ _ _ s W rch (by first | assumption | omega) (by first | assumption | omega) (by first | assumption | omega) (by first | assumption | omega) (by first | assumption | omega) (by first | assumption | omega) (by first | assumption | omega) (by first | assumption | omega) (by first | assumption | omega) (by first | assumption | omega) hg hR2_53 (by first | assumption | omega) (by first | assumption | omega) (by omega)) cl_X7_goOn wm_X9_162 dX9_on_61 rfl rfl rfl rfl rfl (by decide) (by decide) (by omega) (Nat.le_of_ble_eq_true rfl) rfl (fun v9 w9 hq9 => ?_)
        obtain ⟨st5, nx5, sp5, rfl, rfl, r_st5, r_nx5, r_sp5, hR2_61⟩ := hq9
        refine g_ws hC [cO xx 9 [.ref nA, .ref nZ, wx_taken, .ref hh, .ref q0, .ref t0, .ref g0], cO nA 8 [.ref h0, .ref po, .ref sr, .ref pr, .ref br, .int (iI ho)], cO q0 2 [.null, w_facts, w_weighed, w_stamp], cO t0 7 [.ref h1, .ref q0, .int (iI fw), .ref t2, .int (iI rf), .ref t1], cO h1 5 [.ref j0, .ref j1, .ref j2, .ref j3, .ref j4, .ref j5, .int (iI aw), .int (iI cn), .int (iI sp5)], cA K j0 6 kd3, cA K j1 6 nb3, cA K j2 6 rm3, cA K j3 6 st5, cA K j4 24 rw3, cA K j5 6 nx5, cO h0 5 [.ref k0, .ref k1, .ref k2, .ref k3, .ref k4, .ref k5, .int (iI aw), .int (iI cn), .int (iI sp)], cA K k0 6 kd, cA K k1 6 nb, cA K k2 6 rm, cA K k3 6 st, cA K k4 24 rw, cA K k5 6 nx] rfl ?_
        refine g_st hC [] rfl ?_
        have hgn : md_rg (md_goN W rch s n.toNat) := md_goN_rg hg n.toNat (by omega)
        refine g_iload_n (pc := 64) hC 2 dX9_on_64 rfl rfl ?_
        refine g_if_ne (pc := 65) hC 81 dX9_on_65 (by decide) (by first | assumption | decide | omega) (fun c65 => by exfalso; omega) (fun c65 => ?_)
        refine g_aload_n (pc := 68) hC 0 dX9_on_68 rfl rfl ?_
        refine g_get (pc := 69) hC 0 fl_X9_39 dX9_on_69 rfl rfl ?_
        refine g_get (pc := 72) hC 3 fl_X9_166 dX9_on_72 rfl rfl ?_
        refine g_fnV (pc := 75) (qr := 4) hC [4, 5, 6, 7, 8, 9, 10] (k_X5_unlikeStates _ _ _ _ _ _ _ _ _ _ _ _ _ _ _ _ (md_goN W rch s n.toNat) (by first | assumption | omega) (by first | assumption | omega) (by first | assumption | omega) (by first | assumption | omega) (by first | assumption | omega) (by first | assumption | omega) (by first | assumption | omega) (by first | assumption | omega) (by first | assumption | omega) hgn hR2_61) cl_X5_unlikeStates wm_X9_148 dX9_on_75 rfl rfl rfl rfl rfl (by decide) (by decide) ⟨by omega, by omega⟩ (Nat.le_of_ble_eq_true rfl) rfl rfl ?_
        refine g_name hC (fun x75 e_x75 => ?_)
        have q_x75 : 0 ≤ x75 ∧ x75 ≤ 10 := by rw [e_x75]; exact md_unl_rng _
        refine g_goto (pc := 78) hC 96 dX9_on_78 (by decide) ?_
        exact g_iret (pc := 96) hR dX9_on_96 rfl ⟨by omega, by omega⟩ (Nat.le_of_ble_eq_true rfl) ⟨kd3, nb3, rm3, st5, rw3, nx5, aw, cn, sp5, ret_eq (by unfold an_on; rw [if_pos (by omega), if_pos (by omega), if_pos (by omega), e_x75]), rfl, (by first | assumption | omega), (by first | assumption | omega), (by first | assumption | omega), (by first | assumption | omega), (by first | assumption | omega), (by first | assumption | omega), (by first | assumption | omega), (by first | assumption | omega), (by first | assumption | omega), (fun p h1 h2 => (hR2_61.2.2.2.1 p h1 h2).2.2)⟩
      · refine g_bipush (pc := 39) hC (-2) dX9_on_39 (by decide) ?_
        exact g_iret (pc := 41) hR dX9_on_41 rfl ⟨by omega, by omega⟩ (Nat.le_of_ble_eq_true rfl) ⟨tk, tn, tr, ts, tw, tx, ta, tc, tp, ret_eq (by unfold an_on; rw [if_pos (by omega), if_neg (by omega)]), rfl, (by first | assumption | omega), (by first | assumption | omega), (by first | assumption | omega), (by first | assumption | omega), (by first | assumption | omega), (by first | assumption | omega), (by first | assumption | omega), (by first | assumption | omega), (by first | assumption | omega), htx⟩
  · refine g_iload_n (pc := 4) hC 2 dX9_on_4 rfl rfl ?_
    refine g_bipush (pc := 5) hC (10) dX9_on_5 (by decide) ?_
    refine g_icmp_lt (pc := 7) hC 27 dX9_on_7 (by decide) (by first | assumption | decide | omega) (by first | assumption | decide | omega) (fun c7 => ?_) (fun c7 => ?_)
    · refine g_iconst (pc := 27) hC dX9_on_27 ?_
      exact g_iret (pc := 28) hR dX9_on_28 rfl ⟨by omega, by omega⟩ (Nat.le_of_ble_eq_true rfl) ⟨tk, tn, tr, ts, tw, tx, ta, tc, tp, ret_eq (by unfold an_on; rw [if_neg (by omega)]), rfl, (by first | assumption | omega), (by first | assumption | omega), (by first | assumption | omega), (by first | assumption | omega), (by first | assumption | omega), (by first | assumption | omega), (by first | assumption | omega), (by first | assumption | omega), (by first | assumption | omega), htx⟩
    · refine g_aload_n (pc := 10) hC 0 dX9_on_10 rfl rfl ?_
      refine g_get (pc := 11) hC 0 fl_X9_12 dX9_on_11 rfl rfl ?_
      refine g_get (pc := 14) hC 1 fl_X9_85 dX9_on_14 rfl rfl ?_
      refine g_iload_n (pc := 17) hC 2 dX9_on_17 rfl rfl ?_
      refine g_bipush (pc := 18) hC (10) dX9_on_18 (by decide) ?_
      refine g_isub (pc := 20) hC dX9_on_20 ?_
      refine g_fnV (pc := 21) (qr := 11) hC [11] (k_X5_has _ _ _ _ _ _ _ _ _ _ _ (by first | assumption | omega) (by first | assumption | omega)) cl_X5_has wm_X9_94 dX9_on_21 rfl rfl rfl rfl rfl (by decide) (by decide) ⟨by omega, by omega⟩ (Nat.le_of_ble_eq_true rfl) rfl rfl ?_
      refine g_name hC (fun x21 e_x21 => ?_)
      have q_x21 := has_iff e_x21 (by omega)
      refine g_if_ne (pc := 24) hC 29 dX9_on_24 (by decide) (by first | assumption | decide | omega) (fun c24 => ?_) (fun c24 => ?_)
      · refine g_iload_n (pc := 29) hC 1 dX9_on_29 rfl rfl ?_
        refine g_if_lt (pc := 30) hC 39 dX9_on_30 (by decide) (by first | assumption | decide | omega) (fun c30 => ?_) (fun c30 => ?_)
        · refine g_bipush (pc := 39) hC (-2) dX9_on_39 (by decide) ?_
          exact g_iret (pc := 41) hR dX9_on_41 rfl ⟨by omega, by omega⟩ (Nat.le_of_ble_eq_true rfl) ⟨tk, tn, tr, ts, tw, tx, ta, tc, tp, ret_eq (by unfold an_on; rw [if_pos (by omega), if_neg (by omega)]), rfl, (by first | assumption | omega), (by first | assumption | omega), (by first | assumption | omega), (by first | assumption | omega), (by first | assumption | omega), (by first | assumption | omega), (by first | assumption | omega), (by first | assumption | omega), (by first | assumption | omega), htx⟩
        · refine g_iload_n (pc := 33) hC 1 dX9_on_33 rfl rfl ?_
          refine g_bipush (pc := 34) hC (60) dX9_on_34 (by decide) ?_
          refine g_icmp_le (pc := 36) hC 42 dX9_on_36 (by decide) (by first | assumption | decide | omega) (by first | assumption | decide | omega) (fun c36 => ?_) (fun c36 => ?_)
          · refine g_aload_n (pc := 42) hC 0 dX9_on_42 rfl rfl ?_
            refine g_get (pc := 43) hC 0 fl_X9_39 dX9_on_43 rfl rfl ?_
            refine g_aload_n (pc := 46) hC 0 dX9_on_46 rfl rfl ?_
            refine g_get (pc := 47) hC 0 fl_X9_12 dX9_on_47 rfl rfl ?_
            refine g_get (pc := 50) hC 1 fl_X9_85 dX9_on_50 rfl rfl ?_
            refine g_callV (pc := 53) (qr := 3) hC [3, 4, 5, 6, 7, 8, 9, 10, 11, 12, 13, 14, 15, 16, 17] (k_X7_begin _ _ _ _ _ _ _ _ _ _ _ _ _ _ _ _ _ _ _ _ _ _ _ _ _ _ _ _ _ _ _ _ _ _ _ _ _ _ _ (by first | assumption | omega) (by first | assumption | omega) (by first | assumption | omega) (by first | assumption | omega) (by first | assumption | omega) (by first | assumption | omega) (by first | assumption | omega) (by first | assumption | omega) (by first | assumption | omega) (by first | assumption | omega) (by first | assumption | omega) (by first | assumption | omega) (by first | assumption | omega) (by first | assumption | omega) (by first | assumption | omega) (by first | assumption | omega) (by first | assumption | omega) (by first | assumption | omega) (by first | assumption | omega) (by first | assumption | omega) (by first | assumption | omega)) cl_X7_begin wm_X9_158 dX9_on_53 rfl rfl rfl rfl rfl (by decide) (by decide) (by omega) (Nat.le_of_ble_eq_true rfl) rfl (fun v9 w9 hq9 => ?_)
            obtain ⟨kd3, nb3, rm3, st3, rw3, rfl, rfl, r_kd3, r_nb3, r_rm3, r_st3, r_rw3, hR2_53⟩ := hq9
            refine g_ws hC [cO xx 9 [.ref nA, .ref nZ, wx_taken, .ref hh, .ref q0, .ref t0, .ref g0], cO nA 8 [.ref h0, .ref po, .ref sr, .ref pr, .ref br, .int (iI ho)], cO q0 2 [.null, w_facts, w_weighed, w_stamp], cO t0 7 [.ref h1, .ref q0, .int (iI fw), .ref t2, .int (iI rf), .ref t1], cO h1 5 [.ref j0, .ref j1, .ref j2, .ref j3, .ref j4, .ref j5, .int (iI aw), .int (iI cn), .int (iI sp)], cA K j0 6 kd3, cA K j1 6 nb3, cA K j2 6 rm3, cA K j3 6 st3, cA K j4 24 rw3, cA K j5 6 tx, cO h0 5 [.ref k0, .ref k1, .ref k2, .ref k3, .ref k4, .ref k5, .int (iI aw), .int (iI cn), .int (iI sp)], cA K k0 6 kd, cA K k1 6 nb, cA K k2 6 rm, cA K k3 6 st, cA K k4 24 rw, cA K k5 6 nx] rfl ?_
            refine g_st hC [] rfl ?_
            refine g_aload_n (pc := 56) hC 0 dX9_on_56 rfl rfl ?_
            refine g_get (pc := 57) hC 0 fl_X9_39 dX9_on_57 rfl rfl ?_
            refine g_iload_n (pc := 60) hC 1 dX9_on_60 rfl rfl ?_
            refine g_callV (pc := 61) (qr := 3) hC [3, 2, 4, 5, 6, 7, 8, 9, 10] (k_X7_goOn_n _ _ _ _ _ _ _ _ _ _ _ _ _ _ _ _ _ _ _ _ _ _ _ _ _ _ s W rch (by first | assumption | omega) (by first | assumption | omega) (by first | assumption | omega) (by first | assumption | omega) (by first | assumption | omega) (by first | assumption | omega) (by first | assumption | omega) (by first | assumption | omega) (by first | assumption | omega) (by first | assumption | omega) hg hR2_53 (by first | assumption | omega) (by first | assumption | omega) (by omega)) cl_X7_goOn wm_X9_162 dX9_on_61 rfl rfl rfl rfl rfl (by decide) (by decide) (by omega) (Nat.le_of_ble_eq_true rfl) rfl (fun v9 w9 hq9 => ?_)
            obtain ⟨st5, nx5, sp5, rfl, rfl, r_st5, r_nx5, r_sp5, hR2_61⟩ := hq9
            refine g_ws hC [cO xx 9 [.ref nA, .ref nZ, wx_taken, .ref hh, .ref q0, .ref t0, .ref g0], cO nA 8 [.ref h0, .ref po, .ref sr, .ref pr, .ref br, .int (iI ho)], cO q0 2 [.null, w_facts, w_weighed, w_stamp], cO t0 7 [.ref h1, .ref q0, .int (iI fw), .ref t2, .int (iI rf), .ref t1], cO h1 5 [.ref j0, .ref j1, .ref j2, .ref j3, .ref j4, .ref j5, .int (iI aw), .int (iI cn), .int (iI sp5)], cA K j0 6 kd3, cA K j1 6 nb3, cA K j2 6 rm3, cA K j3 6 st5, cA K j4 24 rw3, cA K j5 6 nx5, cO h0 5 [.ref k0, .ref k1, .ref k2, .ref k3, .ref k4, .ref k5, .int (iI aw), .int (iI cn), .int (iI sp)], cA K k0 6 kd, cA K k1 6 nb, cA K k2 6 rm, cA K k3 6 st, cA K k4 24 rw, cA K k5 6 nx] rfl ?_
            refine g_st hC [] rfl ?_
            have hgn : md_rg (md_goN W rch s n.toNat) := md_goN_rg hg n.toNat (by omega)
            refine g_iload_n (pc := 64) hC 2 dX9_on_64 rfl rfl ?_
            refine g_if_ne (pc := 65) hC 81 dX9_on_65 (by decide) (by first | assumption | decide | omega) (fun c65 => ?_) (fun c65 => by exfalso; omega)
            have hq95 := (hR2_61.2.1 (w - 10) (by omega) (by rw [md_goN_hi h19.2 (by omega)]; omega)).2.2.2.1
            refine g_aload_n (pc := 81) hC 0 dX9_on_81 rfl rfl ?_
            refine g_get (pc := 82) hC 0 fl_X9_39 dX9_on_82 rfl rfl ?_
            refine g_get (pc := 85) hC 3 fl_X9_166 dX9_on_85 rfl rfl ?_
            refine g_get (pc := 88) hC 4 fl_X9_107 dX9_on_88 rfl rfl ?_
            refine g_iload_n (pc := 91) hC 2 dX9_on_91 rfl rfl ?_
            refine g_bipush (pc := 92) hC (10) dX9_on_92 (by decide) ?_
            refine g_isub (pc := 94) hC dX9_on_94 ?_
            refine g_iald (pc := 95) hC 8 dX9_on_95 rfl (by omega) ?_
            have qz1 := r_st5 (w - 10)
            exact g_iret (pc := 96) hR dX9_on_96 rfl ⟨by omega, by omega⟩ (Nat.le_of_ble_eq_true rfl) ⟨kd3, nb3, rm3, st5, rw3, nx5, aw, cn, sp5, ret_eq (by unfold an_on; rw [if_pos (by omega), if_pos (by omega), if_neg (by omega), show 1 + w - 10 = 1 + (w - 10) by omega, ← hq95]), rfl, (by first | assumption | omega), (by first | assumption | omega), (by first | assumption | omega), (by first | assumption | omega), (by first | assumption | omega), (by first | assumption | omega), (by first | assumption | omega), (by first | assumption | omega), (by first | assumption | omega), (fun p h1 h2 => (hR2_61.2.2.2.1 p h1 h2).2.2)⟩
          · refine g_bipush (pc := 39) hC (-2) dX9_on_39 (by decide) ?_
            exact g_iret (pc := 41) hR dX9_on_41 rfl ⟨by omega, by omega⟩ (Nat.le_of_ble_eq_true rfl) ⟨tk, tn, tr, ts, tw, tx, ta, tc, tp, ret_eq (by unfold an_on; rw [if_pos (by omega), if_neg (by omega)]), rfl, (by first | assumption | omega), (by first | assumption | omega), (by first | assumption | omega), (by first | assumption | omega), (by first | assumption | omega), (by first | assumption | omega), (by first | assumption | omega), (by first | assumption | omega), (by first | assumption | omega), htx⟩
      · refine g_iconst (pc := 27) hC dX9_on_27 ?_
        exact g_iret (pc := 28) hR dX9_on_28 rfl ⟨by omega, by omega⟩ (Nat.le_of_ble_eq_true rfl) ⟨tk, tn, tr, ts, tw, tx, ta, tc, tp, ret_eq (by unfold an_on; rw [if_neg (by omega)]), rfl, (by first | assumption | omega), (by first | assumption | omega), (by first | assumption | omega), (by first | assumption | omega), (by first | assumption | omega), (by first | assumption | omega), (by first | assumption | omega), (by first | assumption | omega), (by first | assumption | omega), htx⟩
set_option maxHeartbeats 4000000 in
set_option maxRecDepth 100000 in
theorem k_X9_tells_n {K : gK} (xx : Nat) (nA : Nat) (nZ : Nat) (hh : Nat) (q0 : Nat) (t0 : Nat) (g0 : Nat) (h0 : Nat) (po : Nat) (sr : Nat) (pr : Nat) (br : Nat) (h1 : Nat) (t2 : Nat) (t1 : Nat) (j0 : Nat) (j1 : Nat) (j2 : Nat) (j3 : Nat) (j4 : Nat) (j5 : Nat) (k0 : Nat) (k1 : Nat) (k2 : Nat) (k3 : Nat) (k4 : Nat) (k5 : Nat) (wx_taken : Value) (w_facts : Value) (w_weighed : Value) (w_stamp : Value) (p : Int) (n : Int) (ho : Int) (fw : Int) (rf : Int) (ta : Int) (tc : Int) (tp : Int) (aw : Int) (cn : Int) (sp : Int) (tk : Int → Int) (tn : Int → Int) (tr : Int → Int) (ts : Int → Int) (tw : Int → Int) (tx : Int → Int) (kd : Int → Int) (nb : Int → Int) (rm : Int → Int) (st : Int → Int) (rw : Int → Int) (nx : Int → Int) (wy : Int → Int) (s : Int → Int) (W : (Int → Int) → Int) (rch : Int) (r_p : rI p) (r_n : rI n) (r_ho : rI ho) (r_fw : rI fw) (r_rf : rI rf) (r_ta : rI ta) (r_tc : rI tc) (r_tp : rI tp) (r_aw : rI aw) (r_cn : rI cn) (r_sp : rI sp) (r_tk : ∀ j, rI (tk j)) (r_tn : ∀ j, rI (tn j)) (r_tr : ∀ j, rI (tr j)) (r_ts : ∀ j, rI (ts j)) (r_tw : ∀ j, rI (tw j)) (r_tx : ∀ j, rI (tx j)) (r_kd : ∀ j, rI (kd j)) (r_nb : ∀ j, rI (nb j)) (r_rm : ∀ j, rI (rm j)) (r_st : ∀ j, rI (st j)) (r_rw : ∀ j, rI (rw j)) (r_nx : ∀ j, rI (nx j)) (r_wy : ∀ j, rI (wy j)) (hg : md_rg s) (hR9 : cs_R s kd nb rm st rw nx aw cn sp) (hW0 : (∀ b, W b = 0) ∧ rch = 9) (htx : ∀ p, 0 ≤ p → p < 6 → 0 ≤ tx p ∧ tx p ≤ 9) (hst0 : s 0 + 61 ≤ 20000) (hwy : ∀ j, j < 0 ∨ 6 ≤ j → wy j = 0) : gMet K yX9_tells cX9_tells 3 (some .int) 6 0 0 [.ref xx, .int (iI p), .int (iI n)] [cO xx 9 [.ref nA, .ref nZ, wx_taken, .ref hh, .ref q0, .ref t0, .ref g0], cO nA 8 [.ref h0, .ref po, .ref sr, .ref pr, .ref br, .int (iI ho)], cO q0 2 [.null, w_facts, w_weighed, w_stamp], cO t0 7 [.ref h1, .ref q0, .int (iI fw), .ref t2, .int (iI rf), .ref t1], cO h1 5 [.ref j0, .ref j1, .ref j2, .ref j3, .ref j4, .ref j5, .int (iI ta), .int (iI tc), .int (iI tp)], cA K j0 6 tk, cA K j1 6 tn, cA K j2 6 tr, cA K j3 6 ts, cA K j4 24 tw, cA K j5 6 tx, cO h0 5 [.ref k0, .ref k1, .ref k2, .ref k3, .ref k4, .ref k5, .int (iI aw), .int (iI cn), .int (iI sp)], cA K k0 6 kd, cA K k1 6 nb, cA K k2 6 rm, cA K k3 6 st, cA K k4 24 rw, cA K k5 6 nx, cA K t1 6 wy] (fun v9 w9 => ∃ (tk2 : Int → Int), ∃ (tn2 : Int → Int), ∃ (tr2 : Int → Int), ∃ (ts2 : Int → Int), ∃ (tw2 : Int → Int), ∃ (tx2 : Int → Int), ∃ (ta2 : Int), ∃ (tc2 : Int), ∃ (tp2 : Int), ∃ (wy2 : Int → Int), v9 = some (.int (iI (an_tells W rch s p n))) ∧ w9 = [cO xx 9 [.ref nA, .ref nZ, wx_taken, .ref hh, .ref q0, .ref t0, .ref g0], cO nA 8 [.ref h0, .ref po, .ref sr, .ref pr, .ref br, .int (iI ho)], cO q0 2 [.null, w_facts, w_weighed, w_stamp], cO t0 7 [.ref h1, .ref q0, .int (iI fw), .ref t2, .int (iI rf), .ref t1], cO h1 5 [.ref j0, .ref j1, .ref j2, .ref j3, .ref j4, .ref j5, .int (iI ta2), .int (iI tc2), .int (iI tp2)], cA K j0 6 tk2, cA K j1 6 tn2, cA K j2 6 tr2, cA K j3 6 ts2, cA K j4 24 tw2, cA K j5 6 tx2, cO h0 5 [.ref k0, .ref k1, .ref k2, .ref k3, .ref k4, .ref k5, .int (iI aw), .int (iI cn), .int (iI sp)], cA K k0 6 kd, cA K k1 6 nb, cA K k2 6 rm, cA K k3 6 st, cA K k4 24 rw, cA K k5 6 nx, cA K t1 6 wy2] ∧ (∀ j, rI (tk2 j)) ∧ (∀ j, rI (tn2 j)) ∧ (∀ j, rI (tr2 j)) ∧ (∀ j, rI (ts2 j)) ∧ (∀ j, rI (tw2 j)) ∧ (∀ j, rI (tx2 j)) ∧ rI ta2 ∧ rI tc2 ∧ rI tp2 ∧ (∀ j, rI (wy2 j)) ∧ (∀ p, 0 ≤ p → p < 6 → 0 ≤ tx2 p ∧ tx2 p ≤ 9) ∧ (∀ j, j < 0 ∨ 6 ≤ j → wy2 j = 0)) := by
  refine g_enter (by decide +kernel) (Nat.le_of_ble_eq_true rfl) (fun G hC hR => ?_)
  refine g_lv hC [0, 1, 2] [(0, _), (1, _), (2, _)] rfl ?_
  have h19 := hg.2.2.1
  have hg0 := hg.2.2.2
  have hcs := hR9.1
  refine g_aload_n (pc := 0) hC 0 dX9_tells_0 rfl rfl ?_
  refine g_get (pc := 1) hC 0 fl_X9_12 dX9_tells_1 rfl rfl ?_
  refine g_get (pc := 4) hC 1 fl_X9_85 dX9_tells_4 rfl rfl ?_
  refine g_iload_n (pc := 7) hC 1 dX9_tells_7 rfl rfl ?_
  refine g_fnV (pc := 8) (qr := 11) hC [11] (k_X5_has _ _ _ _ _ _ _ _ _ _ _ (by first | assumption | omega) (by first | assumption | omega)) cl_X5_has wm_X9_94 dX9_tells_8 rfl rfl rfl rfl rfl (by decide) (by decide) ⟨by omega, by omega⟩ (Nat.le_of_ble_eq_true rfl) rfl rfl ?_
  refine g_name hC (fun x8 e_x8 => ?_)
  have q_x8 := has_iff e_x8 (by omega)
  refine g_if_ne (pc := 11) hC 16 dX9_tells_11 (by decide) (by first | assumption | decide | omega) (fun c11 => ?_) (fun c11 => ?_)
  · refine g_iload_n (pc := 16) hC 2 dX9_tells_16 rfl rfl ?_
    refine g_if_lt (pc := 17) hC 26 dX9_tells_17 (by decide) (by first | assumption | decide | omega) (fun c17 => ?_) (fun c17 => ?_)
    · refine g_bipush (pc := 26) hC (-2) dX9_tells_26 (by decide) ?_
      exact g_iret (pc := 28) hR dX9_tells_28 rfl ⟨by omega, by omega⟩ (Nat.le_of_ble_eq_true rfl) ⟨tk, tn, tr, ts, tw, tx, ta, tc, tp, wy, ret_eq (by unfold an_tells; rw [if_pos (by omega), if_neg (by omega)]), rfl, (by first | assumption | omega), (by first | assumption | omega), (by first | assumption | omega), (by first | assumption | omega), (by first | assumption | omega), (by first | assumption | omega), (by first | assumption | omega), (by first | assumption | omega), (by first | assumption | omega), (by first | assumption | omega), htx, hwy⟩
    · refine g_iload_n (pc := 20) hC 2 dX9_tells_20 rfl rfl ?_
      refine g_bipush (pc := 21) hC (20) dX9_tells_21 (by decide) ?_
      refine g_icmp_le (pc := 23) hC 29 dX9_tells_23 (by decide) (by first | assumption | decide | omega) (by first | assumption | decide | omega) (fun c23 => ?_) (fun c23 => ?_)
      · refine g_aload_n (pc := 29) hC 0 dX9_tells_29 rfl rfl ?_
        refine g_get (pc := 30) hC 0 fl_X9_39 dX9_tells_30 rfl rfl ?_
        refine g_aload_n (pc := 33) hC 0 dX9_tells_33 rfl rfl ?_
        refine g_get (pc := 34) hC 0 fl_X9_12 dX9_tells_34 rfl rfl ?_
        refine g_get (pc := 37) hC 1 fl_X9_85 dX9_tells_37 rfl rfl ?_
        refine g_iload_n (pc := 40) hC 1 dX9_tells_40 rfl rfl ?_
        refine g_iload_n (pc := 41) hC 2 dX9_tells_41 rfl rfl ?_
        refine g_callV (pc := 42) (qr := 3) hC [3, 2, 4, 5, 6, 7, 8, 9, 10, 11, 12, 13, 14, 15, 16, 17, 18] (k_X7_toldOn_n _ _ _ _ _ _ _ _ _ _ _ _ _ _ _ _ _ _ _ _ _ _ _ _ _ _ _ _ _ _ _ _ _ _ _ _ _ _ _ _ _ _ _ _ s W rch (by first | assumption | omega) (by first | assumption | omega) (by first | assumption | omega) (by first | assumption | omega) (by first | assumption | omega) (by first | assumption | omega) (by first | assumption | omega) (by first | assumption | omega) (by first | assumption | omega) (by first | assumption | omega) (by first | assumption | omega) (by first | assumption | omega) (by first | assumption | omega) (by first | assumption | omega) (by first | assumption | omega) (by first | assumption | omega) (by first | assumption | omega) (by first | assumption | omega) (by first | assumption | omega) (by first | assumption | omega) (by first | assumption | omega) (by first | assumption | omega) (by first | assumption | omega) (by first | assumption | omega) (by first | assumption | omega) (by omega) (by omega) (by first | assumption | omega) (by first | assumption | omega)) cl_X7_toldOn wm_X9_172 dX9_tells_42 rfl rfl rfl rfl rfl (by decide) (by decide) (by omega) (Nat.le_of_ble_eq_true rfl) rfl (fun v9 w9 hq9 => ?_)
        obtain ⟨tk5, tn5, tr5, ts5, tw5, tx5, ta5, tc5, tp5, wy5, rfl, rfl, r_tk5, r_tn5, r_tr5, r_ts5, r_tw5, r_tx5, r_ta5, r_tc5, r_tp5, r_wy5, htx2_42, hwy2_42⟩ := hq9
        refine g_ws hC [cO xx 9 [.ref nA, .ref nZ, wx_taken, .ref hh, .ref q0, .ref t0, .ref g0], cO nA 8 [.ref h0, .ref po, .ref sr, .ref pr, .ref br, .int (iI ho)], cO q0 2 [.null, w_facts, w_weighed, w_stamp], cO t0 7 [.ref h1, .ref q0, .int (iI fw), .ref t2, .int (iI rf), .ref t1], cO h1 5 [.ref j0, .ref j1, .ref j2, .ref j3, .ref j4, .ref j5, .int (iI ta5), .int (iI tc5), .int (iI tp5)], cA K j0 6 tk5, cA K j1 6 tn5, cA K j2 6 tr5, cA K j3 6 ts5, cA K j4 24 tw5, cA K j5 6 tx5, cO h0 5 [.ref k0, .ref k1, .ref k2, .ref k3, .ref k4, .ref k5, .int (iI aw), .int (iI cn), .int (iI sp)], cA K k0 6 kd, cA K k1 6 nb, cA K k2 6 rm, cA K k3 6 st, cA K k4 24 rw, cA K k5 6 nx, cA K t1 6 wy5] rfl ?_
        refine g_st hC [.int (iI (md_tl W rch s p n.toNat 10))] rfl ?_
        refine g_name hC (fun x42 e_x42 => ?_)
        exact g_iret (pc := 45) hR dX9_tells_45 rfl ⟨by omega, by omega⟩ (Nat.le_of_ble_eq_true rfl) ⟨tk5, tn5, tr5, ts5, tw5, tx5, ta5, tc5, tp5, wy5, ret_eq (by unfold an_tells; rw [if_pos (by omega), if_pos (by omega), e_x42]), rfl, (by first | assumption | omega), (by first | assumption | omega), (by first | assumption | omega), (by first | assumption | omega), (by first | assumption | omega), (by first | assumption | omega), (by first | assumption | omega), (by first | assumption | omega), (by first | assumption | omega), (by first | assumption | omega), htx2_42, hwy2_42⟩
      · refine g_bipush (pc := 26) hC (-2) dX9_tells_26 (by decide) ?_
        exact g_iret (pc := 28) hR dX9_tells_28 rfl ⟨by omega, by omega⟩ (Nat.le_of_ble_eq_true rfl) ⟨tk, tn, tr, ts, tw, tx, ta, tc, tp, wy, ret_eq (by unfold an_tells; rw [if_pos (by omega), if_neg (by omega)]), rfl, (by first | assumption | omega), (by first | assumption | omega), (by first | assumption | omega), (by first | assumption | omega), (by first | assumption | omega), (by first | assumption | omega), (by first | assumption | omega), (by first | assumption | omega), (by first | assumption | omega), (by first | assumption | omega), htx, hwy⟩
  · refine g_iconst (pc := 14) hC dX9_tells_14 ?_
    exact g_iret (pc := 15) hR dX9_tells_15 rfl ⟨by omega, by omega⟩ (Nat.le_of_ble_eq_true rfl) ⟨tk, tn, tr, ts, tw, tx, ta, tc, tp, wy, ret_eq (by unfold an_tells; rw [if_neg (by omega)]), rfl, (by first | assumption | omega), (by first | assumption | omega), (by first | assumption | omega), (by first | assumption | omega), (by first | assumption | omega), (by first | assumption | omega), (by first | assumption | omega), (by first | assumption | omega), (by first | assumption | omega), (by first | assumption | omega), htx, hwy⟩
set_option maxHeartbeats 4000000 in
set_option maxRecDepth 100000 in
theorem k_X9_states_n {K : gK} (xx : Nat) (nA : Nat) (nZ : Nat) (hh : Nat) (q0 : Nat) (t0 : Nat) (g0 : Nat) (h0 : Nat) (po : Nat) (sr : Nat) (pr : Nat) (br : Nat) (h1 : Nat) (t2 : Nat) (t1 : Nat) (j0 : Nat) (j1 : Nat) (j2 : Nat) (j3 : Nat) (j4 : Nat) (j5 : Nat) (k0 : Nat) (k1 : Nat) (k2 : Nat) (k3 : Nat) (k4 : Nat) (k5 : Nat) (sr1 : Nat) (sr2 : Nat) (sr3 : Nat) (wx_taken : Value) (w_facts : Value) (w_weighed : Value) (w_stamp : Value) (p : Int) (ho : Int) (fw : Int) (rf : Int) (ta : Int) (tc : Int) (tp : Int) (aw : Int) (cn : Int) (sp : Int) (pn : Int) (tk : Int → Int) (tn : Int → Int) (tr : Int → Int) (ts : Int → Int) (tw : Int → Int) (tx : Int → Int) (kd : Int → Int) (nb : Int → Int) (rm : Int → Int) (st : Int → Int) (rw : Int → Int) (nx : Int → Int) (pl1 : Int → Int) (pl2 : Int → Int) (pl3 : Int → Int) (s : Int → Int) (W : (Int → Int) → Int) (rch : Int) (r_p : rI p) (r_ho : rI ho) (r_fw : rI fw) (r_rf : rI rf) (r_ta : rI ta) (r_tc : rI tc) (r_tp : rI tp) (r_aw : rI aw) (r_cn : rI cn) (r_sp : rI sp) (r_pn : rI pn) (r_tk : ∀ j, rI (tk j)) (r_tn : ∀ j, rI (tn j)) (r_tr : ∀ j, rI (tr j)) (r_ts : ∀ j, rI (ts j)) (r_tw : ∀ j, rI (tw j)) (r_tx : ∀ j, rI (tx j)) (r_kd : ∀ j, rI (kd j)) (r_nb : ∀ j, rI (nb j)) (r_rm : ∀ j, rI (rm j)) (r_st : ∀ j, rI (st j)) (r_rw : ∀ j, rI (rw j)) (r_nx : ∀ j, rI (nx j)) (r_pl1 : ∀ j, rI (pl1 j)) (r_pl2 : ∀ j, rI (pl2 j)) (r_pl3 : ∀ j, rI (pl3 j)) (hg : md_rg s) (hR9 : cs_R s kd nb rm st rw nx aw cn sp) (hW0 : (∀ b, W b = 0) ∧ rch = 9) (htx : ∀ p, 0 ≤ p → p < 6 → 0 ≤ tx p ∧ tx p ≤ 9) (hst0 : s 0 + 61 ≤ 20000) (hs : md_rs s) (hsn : pn = s 21 ∧ ∀ k, 0 ≤ k → k < s 21 → pl1 k = s (62 + k) ∧ pl2 k = s (68 + k) ∧ pl3 k = s (74 + k)) : gMet K yX9_states cX9_states 2 (some .int) 6 0 0 [.ref xx, .int (iI p)] [cO xx 9 [.ref nA, .ref nZ, wx_taken, .ref hh, .ref q0, .ref t0, .ref g0], cO nA 8 [.ref h0, .ref po, .ref sr, .ref pr, .ref br, .int (iI ho)], cO q0 2 [.null, w_facts, w_weighed, w_stamp], cO t0 7 [.ref h1, .ref q0, .int (iI fw), .ref t2, .int (iI rf), .ref t1], cO h1 5 [.ref j0, .ref j1, .ref j2, .ref j3, .ref j4, .ref j5, .int (iI ta), .int (iI tc), .int (iI tp)], cA K j0 6 tk, cA K j1 6 tn, cA K j2 6 tr, cA K j3 6 ts, cA K j4 24 tw, cA K j5 6 tx, cO h0 5 [.ref k0, .ref k1, .ref k2, .ref k3, .ref k4, .ref k5, .int (iI aw), .int (iI cn), .int (iI sp)], cA K k0 6 kd, cA K k1 6 nb, cA K k2 6 rm, cA K k3 6 st, cA K k4 24 rw, cA K k5 6 nx, cO sr 4 [.ref sr1, .ref sr2, .ref sr3, .int (iI pn)], cA K sr1 8 pl1, cA K sr2 8 pl2, cA K sr3 8 pl3] (fun v9 w9 => ∃ (tk2 : Int → Int), ∃ (tn2 : Int → Int), ∃ (tr2 : Int → Int), ∃ (ts2 : Int → Int), ∃ (tw2 : Int → Int), ∃ (tx2 : Int → Int), ∃ (ta2 : Int), ∃ (tc2 : Int), ∃ (tp2 : Int), v9 = some (.int (iI (an_states W rch s p))) ∧ w9 = [cO xx 9 [.ref nA, .ref nZ, wx_taken, .ref hh, .ref q0, .ref t0, .ref g0], cO nA 8 [.ref h0, .ref po, .ref sr, .ref pr, .ref br, .int (iI ho)], cO q0 2 [.null, w_facts, w_weighed, w_stamp], cO t0 7 [.ref h1, .ref q0, .int (iI fw), .ref t2, .int (iI rf), .ref t1], cO h1 5 [.ref j0, .ref j1, .ref j2, .ref j3, .ref j4, .ref j5, .int (iI ta2), .int (iI tc2), .int (iI tp2)], cA K j0 6 tk2, cA K j1 6 tn2, cA K j2 6 tr2, cA K j3 6 ts2, cA K j4 24 tw2, cA K j5 6 tx2, cO h0 5 [.ref k0, .ref k1, .ref k2, .ref k3, .ref k4, .ref k5, .int (iI aw), .int (iI cn), .int (iI sp)], cA K k0 6 kd, cA K k1 6 nb, cA K k2 6 rm, cA K k3 6 st, cA K k4 24 rw, cA K k5 6 nx, cO sr 4 [.ref sr1, .ref sr2, .ref sr3, .int (iI pn)], cA K sr1 8 pl1, cA K sr2 8 pl2, cA K sr3 8 pl3] ∧ (∀ j, rI (tk2 j)) ∧ (∀ j, rI (tn2 j)) ∧ (∀ j, rI (tr2 j)) ∧ (∀ j, rI (ts2 j)) ∧ (∀ j, rI (tw2 j)) ∧ (∀ j, rI (tx2 j)) ∧ rI ta2 ∧ rI tc2 ∧ rI tp2 ∧ (∀ p, 0 ≤ p → p < 6 → 0 ≤ tx2 p ∧ tx2 p ≤ 9)) := by
  refine g_enter (by decide +kernel) (Nat.le_of_ble_eq_true rfl) (fun G hC hR => ?_)
  refine g_lv hC [0, 1] [(0, _), (1, _)] rfl ?_
  have h19 := hg.2.2.1
  have hg0 := hg.2.2.2
  have hcs := hR9.1
  refine g_aload_n (pc := 0) hC 0 dX9_states_0 rfl rfl ?_
  refine g_get (pc := 1) hC 0 fl_X9_12 dX9_states_1 rfl rfl ?_
  refine g_get (pc := 4) hC 1 fl_X9_85 dX9_states_4 rfl rfl ?_
  refine g_iload_n (pc := 7) hC 1 dX9_states_7 rfl rfl ?_
  refine g_fnV (pc := 8) (qr := 11) hC [11] (k_X5_has _ _ _ _ _ _ _ _ _ _ _ (by first | assumption | omega) (by first | assumption | omega)) cl_X5_has wm_X9_94 dX9_states_8 rfl rfl rfl rfl rfl (by decide) (by decide) ⟨by omega, by omega⟩ (Nat.le_of_ble_eq_true rfl) rfl rfl ?_
  refine g_name hC (fun x8 e_x8 => ?_)
  have q_x8 := has_iff e_x8 (by omega)
  refine g_if_eq (pc := 11) hC 30 dX9_states_11 (by decide) (by first | assumption | decide | omega) (fun c11 => ?_) (fun c11 => ?_)
  · refine g_iconst (pc := 30) hC dX9_states_30 ?_
    exact g_iret (pc := 31) hR dX9_states_31 rfl ⟨by omega, by omega⟩ (Nat.le_of_ble_eq_true rfl) ⟨tk, tn, tr, ts, tw, tx, ta, tc, tp, ret_eq (by unfold an_states; rw [if_neg (by omega)]), rfl, (by first | assumption | omega), (by first | assumption | omega), (by first | assumption | omega), (by first | assumption | omega), (by first | assumption | omega), (by first | assumption | omega), (by first | assumption | omega), (by first | assumption | omega), (by first | assumption | omega), htx⟩
  · refine g_aload_n (pc := 14) hC 0 dX9_states_14 rfl rfl ?_
    refine g_get (pc := 15) hC 0 fl_X9_39 dX9_states_15 rfl rfl ?_
    refine g_aload_n (pc := 18) hC 0 dX9_states_18 rfl rfl ?_
    refine g_get (pc := 19) hC 0 fl_X9_12 dX9_states_19 rfl rfl ?_
    refine g_iload_n (pc := 22) hC 1 dX9_states_22 rfl rfl ?_
    refine g_iconst (pc := 23) hC dX9_states_23 ?_
    refine g_callV (pc := 24) (qr := 3) hC [3, 2, 4, 5, 6, 7, 8, 9, 10, 1, 11, 12, 13, 14, 15, 16, 17, 18, 19, 20, 21] (k_X7_fitting_n _ _ _ _ _ _ _ _ _ _ _ _ _ _ _ _ _ _ _ _ _ _ _ _ _ _ _ _ _ _ _ _ _ _ _ _ _ _ _ _ _ _ _ _ _ _ _ _ _ _ _ _ _ _ _ _ s W rch (by first | assumption | omega) (by first | assumption | omega) (by first | assumption | omega) (by first | assumption | omega) (by first | assumption | omega) (by first | assumption | omega) (by first | assumption | omega) (by first | assumption | omega) (by first | assumption | omega) (by first | assumption | omega) (by first | assumption | omega) (by first | assumption | omega) (by first | assumption | omega) (by first | assumption | omega) (by first | assumption | omega) (by first | assumption | omega) (by first | assumption | omega) (by first | assumption | omega) (by first | assumption | omega) (by first | assumption | omega) (by first | assumption | omega) (by first | assumption | omega) (by first | assumption | omega) (by first | assumption | omega) (by first | assumption | omega) (by first | assumption | omega) (by first | assumption | omega) (by first | assumption | omega) (by omega) (by omega) (by first | assumption | omega) (by first | assumption | omega) (by first | assumption | omega)) cl_X7_fitting wm_X9_195 dX9_states_24 rfl rfl rfl rfl rfl (by decide) (by decide) (by omega) (Nat.le_of_ble_eq_true rfl) rfl (fun v9 w9 hq9 => ?_)
    obtain ⟨tk5, tn5, tr5, ts5, tw5, tx5, ta5, tc5, tp5, rfl, rfl, r_tk5, r_tn5, r_tr5, r_ts5, r_tw5, r_tx5, r_ta5, r_tc5, r_tp5, htx2_24⟩ := hq9
    refine g_ws hC [cO xx 9 [.ref nA, .ref nZ, wx_taken, .ref hh, .ref q0, .ref t0, .ref g0], cO nA 8 [.ref h0, .ref po, .ref sr, .ref pr, .ref br, .int (iI ho)], cO q0 2 [.null, w_facts, w_weighed, w_stamp], cO t0 7 [.ref h1, .ref q0, .int (iI fw), .ref t2, .int (iI rf), .ref t1], cO h1 5 [.ref j0, .ref j1, .ref j2, .ref j3, .ref j4, .ref j5, .int (iI ta5), .int (iI tc5), .int (iI tp5)], cA K j0 6 tk5, cA K j1 6 tn5, cA K j2 6 tr5, cA K j3 6 ts5, cA K j4 24 tw5, cA K j5 6 tx5, cO h0 5 [.ref k0, .ref k1, .ref k2, .ref k3, .ref k4, .ref k5, .int (iI aw), .int (iI cn), .int (iI sp)], cA K k0 6 kd, cA K k1 6 nb, cA K k2 6 rm, cA K k3 6 st, cA K k4 24 rw, cA K k5 6 nx, cO sr 4 [.ref sr1, .ref sr2, .ref sr3, .int (iI pn)], cA K sr1 8 pl1, cA K sr2 8 pl2, cA K sr3 8 pl3] rfl ?_
    refine g_st hC [.int (iI (md_fit W rch s (cx_w 1 + p) 10))] rfl ?_
    refine g_name hC (fun x24 e_x24 => ?_)
    refine g_goto (pc := 27) hC 31 dX9_states_27 (by decide) ?_
    exact g_iret (pc := 31) hR dX9_states_31 rfl ⟨by omega, by omega⟩ (Nat.le_of_ble_eq_true rfl) ⟨tk5, tn5, tr5, ts5, tw5, tx5, ta5, tc5, tp5, ret_eq (by unfold an_states; rw [if_pos (by omega), e_x24]; rfl), rfl, (by first | assumption | omega), (by first | assumption | omega), (by first | assumption | omega), (by first | assumption | omega), (by first | assumption | omega), (by first | assumption | omega), (by first | assumption | omega), (by first | assumption | omega), (by first | assumption | omega), htx2_24⟩
set_option maxHeartbeats 4000000 in
set_option maxRecDepth 100000 in
theorem k_X9_where_n {K : gK} (xx : Nat) (nA : Nat) (nZ : Nat) (hh : Nat) (q0 : Nat) (t0 : Nat) (g0 : Nat) (h0 : Nat) (po : Nat) (sr : Nat) (pr : Nat) (br : Nat) (h1 : Nat) (t2 : Nat) (t1 : Nat) (j0 : Nat) (j1 : Nat) (j2 : Nat) (j3 : Nat) (j4 : Nat) (j5 : Nat) (k0 : Nat) (k1 : Nat) (k2 : Nat) (k3 : Nat) (k4 : Nat) (k5 : Nat) (sr1 : Nat) (sr2 : Nat) (sr3 : Nat) (wx_taken : Value) (w_facts : Value) (w_weighed : Value) (w_stamp : Value) (p : Int) (ho : Int) (fw : Int) (rf : Int) (ta : Int) (tc : Int) (tp : Int) (aw : Int) (cn : Int) (sp : Int) (pn : Int) (tk : Int → Int) (tn : Int → Int) (tr : Int → Int) (ts : Int → Int) (tw : Int → Int) (tx : Int → Int) (kd : Int → Int) (nb : Int → Int) (rm : Int → Int) (st : Int → Int) (rw : Int → Int) (nx : Int → Int) (pl1 : Int → Int) (pl2 : Int → Int) (pl3 : Int → Int) (s : Int → Int) (W : (Int → Int) → Int) (rch : Int) (r_p : rI p) (r_ho : rI ho) (r_fw : rI fw) (r_rf : rI rf) (r_ta : rI ta) (r_tc : rI tc) (r_tp : rI tp) (r_aw : rI aw) (r_cn : rI cn) (r_sp : rI sp) (r_pn : rI pn) (r_tk : ∀ j, rI (tk j)) (r_tn : ∀ j, rI (tn j)) (r_tr : ∀ j, rI (tr j)) (r_ts : ∀ j, rI (ts j)) (r_tw : ∀ j, rI (tw j)) (r_tx : ∀ j, rI (tx j)) (r_kd : ∀ j, rI (kd j)) (r_nb : ∀ j, rI (nb j)) (r_rm : ∀ j, rI (rm j)) (r_st : ∀ j, rI (st j)) (r_rw : ∀ j, rI (rw j)) (r_nx : ∀ j, rI (nx j)) (r_pl1 : ∀ j, rI (pl1 j)) (r_pl2 : ∀ j, rI (pl2 j)) (r_pl3 : ∀ j, rI (pl3 j)) (hg : md_rg s) (hR9 : cs_R s kd nb rm st rw nx aw cn sp) (hW0 : (∀ b, W b = 0) ∧ rch = 9) (htx : ∀ p, 0 ≤ p → p < 6 → 0 ≤ tx p ∧ tx p ≤ 9) (hst0 : s 0 + 61 ≤ 20000) (hs : md_rs s) (hsn : pn = s 21 ∧ ∀ k, 0 ≤ k → k < s 21 → pl1 k = s (62 + k) ∧ pl2 k = s (68 + k) ∧ pl3 k = s (74 + k)) : gMet K yX9_where cX9_where 2 (some .int) 6 0 0 [.ref xx, .int (iI p)] [cO xx 9 [.ref nA, .ref nZ, wx_taken, .ref hh, .ref q0, .ref t0, .ref g0], cO nA 8 [.ref h0, .ref po, .ref sr, .ref pr, .ref br, .int (iI ho)], cO q0 2 [.null, w_facts, w_weighed, w_stamp], cO t0 7 [.ref h1, .ref q0, .int (iI fw), .ref t2, .int (iI rf), .ref t1], cO h1 5 [.ref j0, .ref j1, .ref j2, .ref j3, .ref j4, .ref j5, .int (iI ta), .int (iI tc), .int (iI tp)], cA K j0 6 tk, cA K j1 6 tn, cA K j2 6 tr, cA K j3 6 ts, cA K j4 24 tw, cA K j5 6 tx, cO h0 5 [.ref k0, .ref k1, .ref k2, .ref k3, .ref k4, .ref k5, .int (iI aw), .int (iI cn), .int (iI sp)], cA K k0 6 kd, cA K k1 6 nb, cA K k2 6 rm, cA K k3 6 st, cA K k4 24 rw, cA K k5 6 nx, cO sr 4 [.ref sr1, .ref sr2, .ref sr3, .int (iI pn)], cA K sr1 8 pl1, cA K sr2 8 pl2, cA K sr3 8 pl3] (fun v9 w9 => ∃ (tk2 : Int → Int), ∃ (tn2 : Int → Int), ∃ (tr2 : Int → Int), ∃ (ts2 : Int → Int), ∃ (tw2 : Int → Int), ∃ (tx2 : Int → Int), ∃ (ta2 : Int), ∃ (tc2 : Int), ∃ (tp2 : Int), v9 = some (.int (iI (an_where W rch s p))) ∧ w9 = [cO xx 9 [.ref nA, .ref nZ, wx_taken, .ref hh, .ref q0, .ref t0, .ref g0], cO nA 8 [.ref h0, .ref po, .ref sr, .ref pr, .ref br, .int (iI ho)], cO q0 2 [.null, w_facts, w_weighed, w_stamp], cO t0 7 [.ref h1, .ref q0, .int (iI fw), .ref t2, .int (iI rf), .ref t1], cO h1 5 [.ref j0, .ref j1, .ref j2, .ref j3, .ref j4, .ref j5, .int (iI ta2), .int (iI tc2), .int (iI tp2)], cA K j0 6 tk2, cA K j1 6 tn2, cA K j2 6 tr2, cA K j3 6 ts2, cA K j4 24 tw2, cA K j5 6 tx2, cO h0 5 [.ref k0, .ref k1, .ref k2, .ref k3, .ref k4, .ref k5, .int (iI aw), .int (iI cn), .int (iI sp)], cA K k0 6 kd, cA K k1 6 nb, cA K k2 6 rm, cA K k3 6 st, cA K k4 24 rw, cA K k5 6 nx, cO sr 4 [.ref sr1, .ref sr2, .ref sr3, .int (iI pn)], cA K sr1 8 pl1, cA K sr2 8 pl2, cA K sr3 8 pl3] ∧ (∀ j, rI (tk2 j)) ∧ (∀ j, rI (tn2 j)) ∧ (∀ j, rI (tr2 j)) ∧ (∀ j, rI (ts2 j)) ∧ (∀ j, rI (tw2 j)) ∧ (∀ j, rI (tx2 j)) ∧ rI ta2 ∧ rI tc2 ∧ rI tp2 ∧ (∀ p, 0 ≤ p → p < 6 → 0 ≤ tx2 p ∧ tx2 p ≤ 9)) := by
  refine g_enter (by decide +kernel) (Nat.le_of_ble_eq_true rfl) (fun G hC hR => ?_)
  refine g_lv hC [0, 1] [(0, _), (1, _)] rfl ?_
  have h19 := hg.2.2.1
  have hg0 := hg.2.2.2
  have hcs := hR9.1
  refine g_aload_n (pc := 0) hC 0 dX9_where_0 rfl rfl ?_
  refine g_get (pc := 1) hC 0 fl_X9_12 dX9_where_1 rfl rfl ?_
  refine g_get (pc := 4) hC 1 fl_X9_85 dX9_where_4 rfl rfl ?_
  refine g_iload_n (pc := 7) hC 1 dX9_where_7 rfl rfl ?_
  refine g_fnV (pc := 8) (qr := 11) hC [11] (k_X5_has _ _ _ _ _ _ _ _ _ _ _ (by first | assumption | omega) (by first | assumption | omega)) cl_X5_has wm_X9_94 dX9_where_8 rfl rfl rfl rfl rfl (by decide) (by decide) ⟨by omega, by omega⟩ (Nat.le_of_ble_eq_true rfl) rfl rfl ?_
  refine g_name hC (fun x8 e_x8 => ?_)
  have q_x8 := has_iff e_x8 (by omega)
  refine g_if_eq (pc := 11) hC 30 dX9_where_11 (by decide) (by first | assumption | decide | omega) (fun c11 => ?_) (fun c11 => ?_)
  · refine g_iconst (pc := 30) hC dX9_where_30 ?_
    exact g_iret (pc := 31) hR dX9_where_31 rfl ⟨by omega, by omega⟩ (Nat.le_of_ble_eq_true rfl) ⟨tk, tn, tr, ts, tw, tx, ta, tc, tp, ret_eq (by unfold an_where; rw [if_neg (by omega)]), rfl, (by first | assumption | omega), (by first | assumption | omega), (by first | assumption | omega), (by first | assumption | omega), (by first | assumption | omega), (by first | assumption | omega), (by first | assumption | omega), (by first | assumption | omega), (by first | assumption | omega), htx⟩
  · refine g_aload_n (pc := 14) hC 0 dX9_where_14 rfl rfl ?_
    refine g_get (pc := 15) hC 0 fl_X9_39 dX9_where_15 rfl rfl ?_
    refine g_aload_n (pc := 18) hC 0 dX9_where_18 rfl rfl ?_
    refine g_get (pc := 19) hC 0 fl_X9_12 dX9_where_19 rfl rfl ?_
    refine g_iload_n (pc := 22) hC 1 dX9_where_22 rfl rfl ?_
    refine g_iconst (pc := 23) hC dX9_where_23 ?_
    refine g_callV (pc := 24) (qr := 3) hC [3, 2, 4, 5, 6, 7, 8, 9, 10, 1, 11, 12, 13, 14, 15, 16, 17, 18, 19, 20, 21] (k_X7_fitting_n _ _ _ _ _ _ _ _ _ _ _ _ _ _ _ _ _ _ _ _ _ _ _ _ _ _ _ _ _ _ _ _ _ _ _ _ _ _ _ _ _ _ _ _ _ _ _ _ _ _ _ _ _ _ _ _ s W rch (by first | assumption | omega) (by first | assumption | omega) (by first | assumption | omega) (by first | assumption | omega) (by first | assumption | omega) (by first | assumption | omega) (by first | assumption | omega) (by first | assumption | omega) (by first | assumption | omega) (by first | assumption | omega) (by first | assumption | omega) (by first | assumption | omega) (by first | assumption | omega) (by first | assumption | omega) (by first | assumption | omega) (by first | assumption | omega) (by first | assumption | omega) (by first | assumption | omega) (by first | assumption | omega) (by first | assumption | omega) (by first | assumption | omega) (by first | assumption | omega) (by first | assumption | omega) (by first | assumption | omega) (by first | assumption | omega) (by first | assumption | omega) (by first | assumption | omega) (by first | assumption | omega) (by omega) (by omega) (by first | assumption | omega) (by first | assumption | omega) (by first | assumption | omega)) cl_X7_fitting wm_X9_195 dX9_where_24 rfl rfl rfl rfl rfl (by decide) (by decide) (by omega) (Nat.le_of_ble_eq_true rfl) rfl (fun v9 w9 hq9 => ?_)
    obtain ⟨tk5, tn5, tr5, ts5, tw5, tx5, ta5, tc5, tp5, rfl, rfl, r_tk5, r_tn5, r_tr5, r_ts5, r_tw5, r_tx5, r_ta5, r_tc5, r_tp5, htx2_24⟩ := hq9
    refine g_ws hC [cO xx 9 [.ref nA, .ref nZ, wx_taken, .ref hh, .ref q0, .ref t0, .ref g0], cO nA 8 [.ref h0, .ref po, .ref sr, .ref pr, .ref br, .int (iI ho)], cO q0 2 [.null, w_facts, w_weighed, w_stamp], cO t0 7 [.ref h1, .ref q0, .int (iI fw), .ref t2, .int (iI rf), .ref t1], cO h1 5 [.ref j0, .ref j1, .ref j2, .ref j3, .ref j4, .ref j5, .int (iI ta5), .int (iI tc5), .int (iI tp5)], cA K j0 6 tk5, cA K j1 6 tn5, cA K j2 6 tr5, cA K j3 6 ts5, cA K j4 24 tw5, cA K j5 6 tx5, cO h0 5 [.ref k0, .ref k1, .ref k2, .ref k3, .ref k4, .ref k5, .int (iI aw), .int (iI cn), .int (iI sp)], cA K k0 6 kd, cA K k1 6 nb, cA K k2 6 rm, cA K k3 6 st, cA K k4 24 rw, cA K k5 6 nx, cO sr 4 [.ref sr1, .ref sr2, .ref sr3, .int (iI pn)], cA K sr1 8 pl1, cA K sr2 8 pl2, cA K sr3 8 pl3] rfl ?_
    refine g_st hC [.int (iI (md_fit W rch s (cx_w 0 + p) 10))] rfl ?_
    refine g_name hC (fun x24 e_x24 => ?_)
    refine g_goto (pc := 27) hC 31 dX9_where_27 (by decide) ?_
    exact g_iret (pc := 31) hR dX9_where_31 rfl ⟨by omega, by omega⟩ (Nat.le_of_ble_eq_true rfl) ⟨tk5, tn5, tr5, ts5, tw5, tx5, ta5, tc5, tp5, ret_eq (by unfold an_where; rw [if_pos (by omega), e_x24]; rfl), rfl, (by first | assumption | omega), (by first | assumption | omega), (by first | assumption | omega), (by first | assumption | omega), (by first | assumption | omega), (by first | assumption | omega), (by first | assumption | omega), (by first | assumption | omega), (by first | assumption | omega), htx2_24⟩
set_option maxHeartbeats 4000000 in
set_option maxRecDepth 100000 in
theorem k_X9_firm_n {K : gK} (xx : Nat) (nA : Nat) (nZ : Nat) (hh : Nat) (q0 : Nat) (t0 : Nat) (g0 : Nat) (h0 : Nat) (po : Nat) (sr : Nat) (pr : Nat) (br : Nat) (h1 : Nat) (t2 : Nat) (t1 : Nat) (j0 : Nat) (j1 : Nat) (j2 : Nat) (j3 : Nat) (j4 : Nat) (j5 : Nat) (k0 : Nat) (k1 : Nat) (k2 : Nat) (k3 : Nat) (k4 : Nat) (k5 : Nat) (sr1 : Nat) (sr2 : Nat) (sr3 : Nat) (wx_taken : Value) (w_facts : Value) (w_weighed : Value) (w_stamp : Value) (p : Int) (w : Int) (ho : Int) (fw : Int) (rf : Int) (ta : Int) (tc : Int) (tp : Int) (aw : Int) (cn : Int) (sp : Int) (pn : Int) (tk : Int → Int) (tn : Int → Int) (tr : Int → Int) (ts : Int → Int) (tw : Int → Int) (tx : Int → Int) (kd : Int → Int) (nb : Int → Int) (rm : Int → Int) (st : Int → Int) (rw : Int → Int) (nx : Int → Int) (pl1 : Int → Int) (pl2 : Int → Int) (pl3 : Int → Int) (s : Int → Int) (W : (Int → Int) → Int) (rch : Int) (r_p : rI p) (r_w : rI w) (r_ho : rI ho) (r_fw : rI fw) (r_rf : rI rf) (r_ta : rI ta) (r_tc : rI tc) (r_tp : rI tp) (r_aw : rI aw) (r_cn : rI cn) (r_sp : rI sp) (r_pn : rI pn) (r_tk : ∀ j, rI (tk j)) (r_tn : ∀ j, rI (tn j)) (r_tr : ∀ j, rI (tr j)) (r_ts : ∀ j, rI (ts j)) (r_tw : ∀ j, rI (tw j)) (r_tx : ∀ j, rI (tx j)) (r_kd : ∀ j, rI (kd j)) (r_nb : ∀ j, rI (nb j)) (r_rm : ∀ j, rI (rm j)) (r_st : ∀ j, rI (st j)) (r_rw : ∀ j, rI (rw j)) (r_nx : ∀ j, rI (nx j)) (r_pl1 : ∀ j, rI (pl1 j)) (r_pl2 : ∀ j, rI (pl2 j)) (r_pl3 : ∀ j, rI (pl3 j)) (hg : md_rg s) (hR9 : cs_R s kd nb rm st rw nx aw cn sp) (hW0 : (∀ b, W b = 0) ∧ rch = 9) (htx : ∀ p, 0 ≤ p → p < 6 → 0 ≤ tx p ∧ tx p ≤ 9) (hst0 : s 0 + 61 ≤ 20000) (hs : md_rs s) (hsn : pn = s 21 ∧ ∀ k, 0 ≤ k → k < s 21 → pl1 k = s (62 + k) ∧ pl2 k = s (68 + k) ∧ pl3 k = s (74 + k)) : gMet K yX9_firm cX9_firm 4 (some .int) 6 0 0 [.ref xx, .int (iI p), .int (iI w)] [cO xx 9 [.ref nA, .ref nZ, wx_taken, .ref hh, .ref q0, .ref t0, .ref g0], cO nA 8 [.ref h0, .ref po, .ref sr, .ref pr, .ref br, .int (iI ho)], cO q0 2 [.null, w_facts, w_weighed, w_stamp], cO t0 7 [.ref h1, .ref q0, .int (iI fw), .ref t2, .int (iI rf), .ref t1], cO h1 5 [.ref j0, .ref j1, .ref j2, .ref j3, .ref j4, .ref j5, .int (iI ta), .int (iI tc), .int (iI tp)], cA K j0 6 tk, cA K j1 6 tn, cA K j2 6 tr, cA K j3 6 ts, cA K j4 24 tw, cA K j5 6 tx, cO h0 5 [.ref k0, .ref k1, .ref k2, .ref k3, .ref k4, .ref k5, .int (iI aw), .int (iI cn), .int (iI sp)], cA K k0 6 kd, cA K k1 6 nb, cA K k2 6 rm, cA K k3 6 st, cA K k4 24 rw, cA K k5 6 nx, cO sr 4 [.ref sr1, .ref sr2, .ref sr3, .int (iI pn)], cA K sr1 8 pl1, cA K sr2 8 pl2, cA K sr3 8 pl3] (fun v9 w9 => ∃ (tk2 : Int → Int), ∃ (tn2 : Int → Int), ∃ (tr2 : Int → Int), ∃ (ts2 : Int → Int), ∃ (tw2 : Int → Int), ∃ (tx2 : Int → Int), ∃ (ta2 : Int), ∃ (tc2 : Int), ∃ (tp2 : Int), v9 = some (.int (iI (an_firm W rch s p w))) ∧ w9 = [cO xx 9 [.ref nA, .ref nZ, wx_taken, .ref hh, .ref q0, .ref t0, .ref g0], cO nA 8 [.ref h0, .ref po, .ref sr, .ref pr, .ref br, .int (iI ho)], cO q0 2 [.null, w_facts, w_weighed, w_stamp], cO t0 7 [.ref h1, .ref q0, .int (iI fw), .ref t2, .int (iI rf), .ref t1], cO h1 5 [.ref j0, .ref j1, .ref j2, .ref j3, .ref j4, .ref j5, .int (iI ta2), .int (iI tc2), .int (iI tp2)], cA K j0 6 tk2, cA K j1 6 tn2, cA K j2 6 tr2, cA K j3 6 ts2, cA K j4 24 tw2, cA K j5 6 tx2, cO h0 5 [.ref k0, .ref k1, .ref k2, .ref k3, .ref k4, .ref k5, .int (iI aw), .int (iI cn), .int (iI sp)], cA K k0 6 kd, cA K k1 6 nb, cA K k2 6 rm, cA K k3 6 st, cA K k4 24 rw, cA K k5 6 nx, cO sr 4 [.ref sr1, .ref sr2, .ref sr3, .int (iI pn)], cA K sr1 8 pl1, cA K sr2 8 pl2, cA K sr3 8 pl3] ∧ (∀ j, rI (tk2 j)) ∧ (∀ j, rI (tn2 j)) ∧ (∀ j, rI (tr2 j)) ∧ (∀ j, rI (ts2 j)) ∧ (∀ j, rI (tw2 j)) ∧ (∀ j, rI (tx2 j)) ∧ rI ta2 ∧ rI tc2 ∧ rI tp2 ∧ (∀ p, 0 ≤ p → p < 6 → 0 ≤ tx2 p ∧ tx2 p ≤ 9)) := by
  refine g_enter (by decide +kernel) (Nat.le_of_ble_eq_true rfl) (fun G hC hR => ?_)
  refine g_lv hC [0, 1, 2] [(0, _), (1, _), (2, _)] rfl ?_
  have h19 := hg.2.2.1
  have hg0 := hg.2.2.2
  have hcs := hR9.1
  refine g_aload_n (pc := 0) hC 0 dX9_firm_0 rfl rfl ?_
  refine g_get (pc := 1) hC 0 fl_X9_12 dX9_firm_1 rfl rfl ?_
  refine g_get (pc := 4) hC 1 fl_X9_85 dX9_firm_4 rfl rfl ?_
  refine g_iload_n (pc := 7) hC 1 dX9_firm_7 rfl rfl ?_
  refine g_fnV (pc := 8) (qr := 11) hC [11] (k_X5_has _ _ _ _ _ _ _ _ _ _ _ (by first | assumption | omega) (by first | assumption | omega)) cl_X5_has wm_X9_94 dX9_firm_8 rfl rfl rfl rfl rfl (by decide) (by decide) ⟨by omega, by omega⟩ (Nat.le_of_ble_eq_true rfl) rfl rfl ?_
  refine g_name hC (fun x8 e_x8 => ?_)
  have q_x8 := has_iff e_x8 (by omega)
  refine g_if_eq (pc := 11) hC 23 dX9_firm_11 (by decide) (by first | assumption | decide | omega) (fun c11 => ?_) (fun c11 => ?_)
  · refine g_iconst (pc := 23) hC dX9_firm_23 ?_
    exact g_iret (pc := 24) hR dX9_firm_24 rfl ⟨by omega, by omega⟩ (Nat.le_of_ble_eq_true rfl) ⟨tk, tn, tr, ts, tw, tx, ta, tc, tp, ret_eq (by unfold an_firm; rw [if_neg (by omega)]), rfl, (by first | assumption | omega), (by first | assumption | omega), (by first | assumption | omega), (by first | assumption | omega), (by first | assumption | omega), (by first | assumption | omega), (by first | assumption | omega), (by first | assumption | omega), (by first | assumption | omega), htx⟩
  · refine g_iload_n (pc := 14) hC 2 dX9_firm_14 rfl rfl ?_
    refine g_if_eq (pc := 15) hC 25 dX9_firm_15 (by decide) (by first | assumption | decide | omega) (fun c15 => ?_) (fun c15 => ?_)
    · refine g_aload_n (pc := 25) hC 0 dX9_firm_25 rfl rfl ?_
      refine g_get (pc := 26) hC 0 fl_X9_39 dX9_firm_26 rfl rfl ?_
      refine g_aload_n (pc := 29) hC 0 dX9_firm_29 rfl rfl ?_
      refine g_get (pc := 30) hC 0 fl_X9_12 dX9_firm_30 rfl rfl ?_
      refine g_iload_n (pc := 33) hC 1 dX9_firm_33 rfl rfl ?_
      refine g_iconst (pc := 34) hC dX9_firm_34 ?_
      refine g_callV (pc := 35) (qr := 3) hC [3, 2, 4, 5, 6, 7, 8, 9, 10, 1, 11, 12, 13, 14, 15, 16, 17, 18, 19, 20, 21] (k_X7_fitting_n _ _ _ _ _ _ _ _ _ _ _ _ _ _ _ _ _ _ _ _ _ _ _ _ _ _ _ _ _ _ _ _ _ _ _ _ _ _ _ _ _ _ _ _ _ _ _ _ _ _ _ _ _ _ _ _ s W rch (by first | assumption | omega) (by first | assumption | omega) (by first | assumption | omega) (by first | assumption | omega) (by first | assumption | omega) (by first | assumption | omega) (by first | assumption | omega) (by first | assumption | omega) (by first | assumption | omega) (by first | assumption | omega) (by first | assumption | omega) (by first | assumption | omega) (by first | assumption | omega) (by first | assumption | omega) (by first | assumption | omega) (by first | assumption | omega) (by first | assumption | omega) (by first | assumption | omega) (by first | assumption | omega) (by first | assumption | omega) (by first | assumption | omega) (by first | assumption | omega) (by first | assumption | omega) (by first | assumption | omega) (by first | assumption | omega) (by first | assumption | omega) (by first | assumption | omega) (by first | assumption | omega) (by omega) (by omega) (by first | assumption | omega) (by first | assumption | omega) (by first | assumption | omega)) cl_X7_fitting wm_X9_195 dX9_firm_35 rfl rfl rfl rfl rfl (by decide) (by decide) (by omega) (Nat.le_of_ble_eq_true rfl) rfl (fun v9 w9 hq9 => ?_)
      obtain ⟨tk5, tn5, tr5, ts5, tw5, tx5, ta5, tc5, tp5, rfl, rfl, r_tk5, r_tn5, r_tr5, r_ts5, r_tw5, r_tx5, r_ta5, r_tc5, r_tp5, htx2_35⟩ := hq9
      refine g_ws hC [cO xx 9 [.ref nA, .ref nZ, wx_taken, .ref hh, .ref q0, .ref t0, .ref g0], cO nA 8 [.ref h0, .ref po, .ref sr, .ref pr, .ref br, .int (iI ho)], cO q0 2 [.null, w_facts, w_weighed, w_stamp], cO t0 7 [.ref h1, .ref q0, .int (iI fw), .ref t2, .int (iI rf), .ref t1], cO h1 5 [.ref j0, .ref j1, .ref j2, .ref j3, .ref j4, .ref j5, .int (iI ta5), .int (iI tc5), .int (iI tp5)], cA K j0 6 tk5, cA K j1 6 tn5, cA K j2 6 tr5, cA K j3 6 ts5, cA K j4 24 tw5, cA K j5 6 tx5, cO h0 5 [.ref k0, .ref k1, .ref k2, .ref k3, .ref k4, .ref k5, .int (iI aw), .int (iI cn), .int (iI sp)], cA K k0 6 kd, cA K k1 6 nb, cA K k2 6 rm, cA K k3 6 st, cA K k4 24 rw, cA K k5 6 nx, cO sr 4 [.ref sr1, .ref sr2, .ref sr3, .int (iI pn)], cA K sr1 8 pl1, cA K sr2 8 pl2, cA K sr3 8 pl3] rfl ?_
      refine g_st hC [.int (iI (md_fit W rch s (cx_w 2 + p) 10))] rfl ?_
      refine g_name hC (fun nu e_nu => ?_)
      have hfm := fm_at (W := W) (rch := rch) (s := s) (w := cx_w 2 + p)
      rw [← e_nu, show cx_w 2 + p = 32 + p from rfl] at hfm
      refine g_istore_n (pc := 38) hC [(3, _), (0, _), (1, _), (2, _)] dX9_firm_38 rfl (by decide) rfl ?_
      refine g_iload_n (pc := 39) hC 3 dX9_firm_39 rfl rfl ?_
      refine g_if_ne (pc := 40) hC 50 dX9_firm_40 (by decide) (by first | assumption | decide | omega) (fun c40 => ?_) (fun c40 => ?_)
      · refine g_iload_n (pc := 50) hC 0 dX9_firm_50 rfl rfl ?_
        refine g_fnS (pc := 51) hC [] (k_X9_leastOf _ (by first | assumption | omega)) cl_X9_leastOf wm_X9_204 dX9_firm_51 rfl rfl (by decide) (by decide) ⟨by omega, by omega⟩ (Nat.le_of_ble_eq_true rfl) rfl rfl ?_
        refine g_name hC (fun x51 e_x51 => ?_)
        have q_x51 := lo_rng _ 10
        refine g_fnS (pc := 54) hC [] (k_X9_orMissing _ (by first | assumption | omega)) cl_X9_orMissing wm_X9_117 dX9_firm_54 rfl rfl (by decide) (by decide) ⟨by omega, by omega⟩ (Nat.le_of_ble_eq_true rfl) rfl rfl ?_
        refine g_name hC (fun x54 e_x54 => ?_)
        rw [e_x51] at e_x54
        exact g_iret (pc := 57) hR dX9_firm_57 rfl ⟨by omega, by omega⟩ (Nat.le_of_ble_eq_true rfl) ⟨tk5, tn5, tr5, ts5, tw5, tx5, ta5, tc5, tp5, ret_eq (by unfold an_firm; rw [if_pos (by omega), if_neg (by omega), e_x54, hfm.2]), rfl, (by first | assumption | omega), (by first | assumption | omega), (by first | assumption | omega), (by first | assumption | omega), (by first | assumption | omega), (by first | assumption | omega), (by first | assumption | omega), (by first | assumption | omega), (by first | assumption | omega), htx2_35⟩
      · refine g_iload_n (pc := 43) hC 0 dX9_firm_43 rfl rfl ?_
        refine g_fnS (pc := 44) hC [] (k_J6_bitCount_0f7a4 _ ) cl_J6_bitCount_0f7a4 wm_X9_199 dX9_firm_44 rfl rfl (by decide) (by decide) ⟨by omega, by omega⟩ (Nat.le_of_ble_eq_true rfl) rfl rfl ?_
        refine g_name hC (fun x44 e_x44 => ?_)
        refine g_goto (pc := 47) hC 57 dX9_firm_47 (by decide) ?_
        exact g_iret (pc := 57) hR dX9_firm_57 rfl ⟨by omega, by omega⟩ (Nat.le_of_ble_eq_true rfl) ⟨tk5, tn5, tr5, ts5, tw5, tx5, ta5, tc5, tp5, ret_eq (by unfold an_firm; rw [if_pos (by omega), if_pos (by omega), e_x44, hfm.1]), rfl, (by first | assumption | omega), (by first | assumption | omega), (by first | assumption | omega), (by first | assumption | omega), (by first | assumption | omega), (by first | assumption | omega), (by first | assumption | omega), (by first | assumption | omega), (by first | assumption | omega), htx2_35⟩
    · refine g_iload_n (pc := 18) hC 2 dX9_firm_18 rfl rfl ?_
      refine g_iconst (pc := 19) hC dX9_firm_19 ?_
      refine g_icmp_eq (pc := 20) hC 25 dX9_firm_20 (by decide) (by first | assumption | decide | omega) (by first | assumption | decide | omega) (fun c20 => ?_) (fun c20 => ?_)
      · refine g_aload_n (pc := 25) hC 0 dX9_firm_25 rfl rfl ?_
        refine g_get (pc := 26) hC 0 fl_X9_39 dX9_firm_26 rfl rfl ?_
        refine g_aload_n (pc := 29) hC 0 dX9_firm_29 rfl rfl ?_
        refine g_get (pc := 30) hC 0 fl_X9_12 dX9_firm_30 rfl rfl ?_
        refine g_iload_n (pc := 33) hC 1 dX9_firm_33 rfl rfl ?_
        refine g_iconst (pc := 34) hC dX9_firm_34 ?_
        refine g_callV (pc := 35) (qr := 3) hC [3, 2, 4, 5, 6, 7, 8, 9, 10, 1, 11, 12, 13, 14, 15, 16, 17, 18, 19, 20, 21] (k_X7_fitting_n _ _ _ _ _ _ _ _ _ _ _ _ _ _ _ _ _ _ _ _ _ _ _ _ _ _ _ _ _ _ _ _ _ _ _ _ _ _ _ _ _ _ _ _ _ _ _ _ _ _ _ _ _ _ _ _ s W rch (by first | assumption | omega) (by first | assumption | omega) (by first | assumption | omega) (by first | assumption | omega) (by first | assumption | omega) (by first | assumption | omega) (by first | assumption | omega) (by first | assumption | omega) (by first | assumption | omega) (by first | assumption | omega) (by first | assumption | omega) (by first | assumption | omega) (by first | assumption | omega) (by first | assumption | omega) (by first | assumption | omega) (by first | assumption | omega) (by first | assumption | omega) (by first | assumption | omega) (by first | assumption | omega) (by first | assumption | omega) (by first | assumption | omega) (by first | assumption | omega) (by first | assumption | omega) (by first | assumption | omega) (by first | assumption | omega) (by first | assumption | omega) (by first | assumption | omega) (by first | assumption | omega) (by omega) (by omega) (by first | assumption | omega) (by first | assumption | omega) (by first | assumption | omega)) cl_X7_fitting wm_X9_195 dX9_firm_35 rfl rfl rfl rfl rfl (by decide) (by decide) (by omega) (Nat.le_of_ble_eq_true rfl) rfl (fun v9 w9 hq9 => ?_)
        obtain ⟨tk5, tn5, tr5, ts5, tw5, tx5, ta5, tc5, tp5, rfl, rfl, r_tk5, r_tn5, r_tr5, r_ts5, r_tw5, r_tx5, r_ta5, r_tc5, r_tp5, htx2_35⟩ := hq9
        refine g_ws hC [cO xx 9 [.ref nA, .ref nZ, wx_taken, .ref hh, .ref q0, .ref t0, .ref g0], cO nA 8 [.ref h0, .ref po, .ref sr, .ref pr, .ref br, .int (iI ho)], cO q0 2 [.null, w_facts, w_weighed, w_stamp], cO t0 7 [.ref h1, .ref q0, .int (iI fw), .ref t2, .int (iI rf), .ref t1], cO h1 5 [.ref j0, .ref j1, .ref j2, .ref j3, .ref j4, .ref j5, .int (iI ta5), .int (iI tc5), .int (iI tp5)], cA K j0 6 tk5, cA K j1 6 tn5, cA K j2 6 tr5, cA K j3 6 ts5, cA K j4 24 tw5, cA K j5 6 tx5, cO h0 5 [.ref k0, .ref k1, .ref k2, .ref k3, .ref k4, .ref k5, .int (iI aw), .int (iI cn), .int (iI sp)], cA K k0 6 kd, cA K k1 6 nb, cA K k2 6 rm, cA K k3 6 st, cA K k4 24 rw, cA K k5 6 nx, cO sr 4 [.ref sr1, .ref sr2, .ref sr3, .int (iI pn)], cA K sr1 8 pl1, cA K sr2 8 pl2, cA K sr3 8 pl3] rfl ?_
        refine g_st hC [.int (iI (md_fit W rch s (cx_w 2 + p) 10))] rfl ?_
        refine g_name hC (fun nu e_nu => ?_)
        have hfm := fm_at (W := W) (rch := rch) (s := s) (w := cx_w 2 + p)
        rw [← e_nu, show cx_w 2 + p = 32 + p from rfl] at hfm
        refine g_istore_n (pc := 38) hC [(3, _), (0, _), (1, _), (2, _)] dX9_firm_38 rfl (by decide) rfl ?_
        refine g_iload_n (pc := 39) hC 3 dX9_firm_39 rfl rfl ?_
        refine g_if_ne (pc := 40) hC 50 dX9_firm_40 (by decide) (by first | assumption | decide | omega) (fun c40 => ?_) (fun c40 => ?_)
        · refine g_iload_n (pc := 50) hC 0 dX9_firm_50 rfl rfl ?_
          refine g_fnS (pc := 51) hC [] (k_X9_leastOf _ (by first | assumption | omega)) cl_X9_leastOf wm_X9_204 dX9_firm_51 rfl rfl (by decide) (by decide) ⟨by omega, by omega⟩ (Nat.le_of_ble_eq_true rfl) rfl rfl ?_
          refine g_name hC (fun x51 e_x51 => ?_)
          have q_x51 := lo_rng _ 10
          refine g_fnS (pc := 54) hC [] (k_X9_orMissing _ (by first | assumption | omega)) cl_X9_orMissing wm_X9_117 dX9_firm_54 rfl rfl (by decide) (by decide) ⟨by omega, by omega⟩ (Nat.le_of_ble_eq_true rfl) rfl rfl ?_
          refine g_name hC (fun x54 e_x54 => ?_)
          rw [e_x51] at e_x54
          exact g_iret (pc := 57) hR dX9_firm_57 rfl ⟨by omega, by omega⟩ (Nat.le_of_ble_eq_true rfl) ⟨tk5, tn5, tr5, ts5, tw5, tx5, ta5, tc5, tp5, ret_eq (by unfold an_firm; rw [if_pos (by omega), if_neg (by omega), e_x54, hfm.2]), rfl, (by first | assumption | omega), (by first | assumption | omega), (by first | assumption | omega), (by first | assumption | omega), (by first | assumption | omega), (by first | assumption | omega), (by first | assumption | omega), (by first | assumption | omega), (by first | assumption | omega), htx2_35⟩
        · refine g_iload_n (pc := 43) hC 0 dX9_firm_43 rfl rfl ?_
          refine g_fnS (pc := 44) hC [] (k_J6_bitCount_0f7a4 _ ) cl_J6_bitCount_0f7a4 wm_X9_199 dX9_firm_44 rfl rfl (by decide) (by decide) ⟨by omega, by omega⟩ (Nat.le_of_ble_eq_true rfl) rfl rfl ?_
          refine g_name hC (fun x44 e_x44 => ?_)
          refine g_goto (pc := 47) hC 57 dX9_firm_47 (by decide) ?_
          exact g_iret (pc := 57) hR dX9_firm_57 rfl ⟨by omega, by omega⟩ (Nat.le_of_ble_eq_true rfl) ⟨tk5, tn5, tr5, ts5, tw5, tx5, ta5, tc5, tp5, ret_eq (by unfold an_firm; rw [if_pos (by omega), if_pos (by omega), e_x44, hfm.1]), rfl, (by first | assumption | omega), (by first | assumption | omega), (by first | assumption | omega), (by first | assumption | omega), (by first | assumption | omega), (by first | assumption | omega), (by first | assumption | omega), (by first | assumption | omega), (by first | assumption | omega), htx2_35⟩
      · refine g_iconst (pc := 23) hC dX9_firm_23 ?_
        exact g_iret (pc := 24) hR dX9_firm_24 rfl ⟨by omega, by omega⟩ (Nat.le_of_ble_eq_true rfl) ⟨tk, tn, tr, ts, tw, tx, ta, tc, tp, ret_eq (by unfold an_firm; rw [if_neg (by omega)]), rfl, (by first | assumption | omega), (by first | assumption | omega), (by first | assumption | omega), (by first | assumption | omega), (by first | assumption | omega), (by first | assumption | omega), (by first | assumption | omega), (by first | assumption | omega), (by first | assumption | omega), htx⟩
set_option maxHeartbeats 4000000 in
set_option maxRecDepth 100000 in
theorem k_X9_odds_n {K : gK} (xx : Nat) (nA : Nat) (nZ : Nat) (hh : Nat) (q0 : Nat) (t0 : Nat) (g0 : Nat) (h0 : Nat) (po : Nat) (sr : Nat) (pr : Nat) (br : Nat) (h1 : Nat) (t2 : Nat) (t1 : Nat) (j0 : Nat) (j1 : Nat) (j2 : Nat) (j3 : Nat) (j4 : Nat) (j5 : Nat) (k0 : Nat) (k1 : Nat) (k2 : Nat) (k3 : Nat) (k4 : Nat) (k5 : Nat) (wx_taken : Value) (w_facts : Value) (w_weighed : Value) (w_stamp : Value) (p : Int) (q : Int) (x : Int) (n : Int) (part : Int) (ho : Int) (fw : Int) (rf : Int) (ta : Int) (tc : Int) (tp : Int) (aw : Int) (cn : Int) (sp : Int) (tk : Int → Int) (tn : Int → Int) (tr : Int → Int) (ts : Int → Int) (tw : Int → Int) (tx : Int → Int) (kd : Int → Int) (nb : Int → Int) (rm : Int → Int) (st : Int → Int) (rw : Int → Int) (nx : Int → Int) (s : Int → Int) (W : (Int → Int) → Int) (rch : Int) (r_p : rI p) (r_q : rI q) (r_x : rI x) (r_n : rI n) (r_part : rI part) (r_ho : rI ho) (r_fw : rI fw) (r_rf : rI rf) (r_ta : rI ta) (r_tc : rI tc) (r_tp : rI tp) (r_aw : rI aw) (r_cn : rI cn) (r_sp : rI sp) (r_tk : ∀ j, rI (tk j)) (r_tn : ∀ j, rI (tn j)) (r_tr : ∀ j, rI (tr j)) (r_ts : ∀ j, rI (ts j)) (r_tw : ∀ j, rI (tw j)) (r_tx : ∀ j, rI (tx j)) (r_kd : ∀ j, rI (kd j)) (r_nb : ∀ j, rI (nb j)) (r_rm : ∀ j, rI (rm j)) (r_st : ∀ j, rI (st j)) (r_rw : ∀ j, rI (rw j)) (r_nx : ∀ j, rI (nx j)) (hg : md_rg s) (hR9 : cs_R s kd nb rm st rw nx aw cn sp) (hW0 : (∀ b, W b = 0) ∧ rch = 9) (htx : ∀ p, 0 ≤ p → p < 6 → 0 ≤ tx p ∧ tx p ≤ 9) (hst0 : s 0 + 61 ≤ 20000) : gMet K yX9_odds cX9_odds 8 (some .long) 6 0 0 [.ref xx, .int (iI p), .int (iI q), .int (iI x), .int (iI n), .int (iI part)] [cO xx 9 [.ref nA, .ref nZ, wx_taken, .ref hh, .ref q0, .ref t0, .ref g0], cO nA 8 [.ref h0, .ref po, .ref sr, .ref pr, .ref br, .int (iI ho)], cO q0 2 [.null, w_facts, w_weighed, w_stamp], cO t0 7 [.ref h1, .ref q0, .int (iI fw), .ref t2, .int (iI rf), .ref t1], cO h1 5 [.ref j0, .ref j1, .ref j2, .ref j3, .ref j4, .ref j5, .int (iI ta), .int (iI tc), .int (iI tp)], cA K j0 6 tk, cA K j1 6 tn, cA K j2 6 tr, cA K j3 6 ts, cA K j4 24 tw, cA K j5 6 tx, cO h0 5 [.ref k0, .ref k1, .ref k2, .ref k3, .ref k4, .ref k5, .int (iI aw), .int (iI cn), .int (iI sp)], cA K k0 6 kd, cA K k1 6 nb, cA K k2 6 rm, cA K k3 6 st, cA K k4 24 rw, cA K k5 6 nx] (fun v9 w9 => ∃ (tk2 : Int → Int), ∃ (tn2 : Int → Int), ∃ (tr2 : Int → Int), ∃ (ts2 : Int → Int), ∃ (tw2 : Int → Int), ∃ (tx2 : Int → Int), ∃ (ta2 : Int), ∃ (tc2 : Int), ∃ (tp2 : Int), v9 = some (.long (iL (an_odds W rch s p q x n part))) ∧ w9 = [cO xx 9 [.ref nA, .ref nZ, wx_taken, .ref hh, .ref q0, .ref t0, .ref g0], cO nA 8 [.ref h0, .ref po, .ref sr, .ref pr, .ref br, .int (iI ho)], cO q0 2 [.null, w_facts, w_weighed, w_stamp], cO t0 7 [.ref h1, .ref q0, .int (iI fw), .ref t2, .int (iI rf), .ref t1], cO h1 5 [.ref j0, .ref j1, .ref j2, .ref j3, .ref j4, .ref j5, .int (iI ta2), .int (iI tc2), .int (iI tp2)], cA K j0 6 tk2, cA K j1 6 tn2, cA K j2 6 tr2, cA K j3 6 ts2, cA K j4 24 tw2, cA K j5 6 tx2, cO h0 5 [.ref k0, .ref k1, .ref k2, .ref k3, .ref k4, .ref k5, .int (iI aw), .int (iI cn), .int (iI sp)], cA K k0 6 kd, cA K k1 6 nb, cA K k2 6 rm, cA K k3 6 st, cA K k4 24 rw, cA K k5 6 nx] ∧ (∀ j, rI (tk2 j)) ∧ (∀ j, rI (tn2 j)) ∧ (∀ j, rI (tr2 j)) ∧ (∀ j, rI (ts2 j)) ∧ (∀ j, rI (tw2 j)) ∧ (∀ j, rI (tx2 j)) ∧ rI ta2 ∧ rI tc2 ∧ rI tp2 ∧ (∀ p, 0 ≤ p → p < 6 → 0 ≤ tx2 p ∧ tx2 p ≤ 9)) := by
  refine g_enter (by decide +kernel) (Nat.le_of_ble_eq_true rfl) (fun G hC hR => ?_)
  refine g_lv hC [0, 1, 2, 3, 4, 5] [(0, _), (1, _), (2, _), (3, _), (4, _), (5, _)] rfl ?_
  have h19 := hg.2.2.1
  have hg0 := hg.2.2.2
  have hcs := hR9.1
  refine g_aload_n (pc := 0) hC 0 dX9_odds_0 rfl rfl ?_
  refine g_get (pc := 1) hC 0 fl_X9_12 dX9_odds_1 rfl rfl ?_
  refine g_get (pc := 4) hC 1 fl_X9_85 dX9_odds_4 rfl rfl ?_
  refine g_iload_n (pc := 7) hC 1 dX9_odds_7 rfl rfl ?_
  refine g_fnV (pc := 8) (qr := 11) hC [11] (k_X5_has _ _ _ _ _ _ _ _ _ _ _ (by first | assumption | omega) (by first | assumption | omega)) cl_X5_has wm_X9_94 dX9_odds_8 rfl rfl rfl rfl rfl (by decide) (by decide) ⟨by omega, by omega⟩ (Nat.le_of_ble_eq_true rfl) rfl rfl ?_
  refine g_name hC (fun x8 e_x8 => ?_)
  have q_x8 := has_iff e_x8 (by omega)
  refine g_if_eq (pc := 11) hC 39 dX9_odds_11 (by decide) (by first | assumption | decide | omega) (fun c11 => ?_) (fun c11 => ?_)
  · refine g_iconst (pc := 39) hC dX9_odds_39 ?_
    refine g_istore (pc := 40) hC [(6, _), (0, _), (1, _), (2, _), (3, _), (4, _), (5, _)] dX9_odds_40 (by decide) rfl ?_
    refine g_iload (pc := 42) hC 0 dX9_odds_42 rfl ?_
    refine g_if_eq (pc := 44) hC 70 dX9_odds_44 (by decide) (by first | assumption | decide | omega) (fun c44 => ?_) (fun c44 => by exfalso; omega)
    refine g_ldc2 (pc := 70) hC (-9223372036854775808) wo_X9_207 (by decide) dX9_odds_70 ?_
    exact g_lret (pc := 73) hR dX9_odds_73 rfl ⟨by omega, by omega⟩ (Nat.le_of_ble_eq_true rfl) ⟨tk, tn, tr, ts, tw, tx, ta, tc, tp, ret_eqL (by unfold an_odds; rw [if_neg (by omega)]), rfl, (by first | assumption | omega), (by first | assumption | omega), (by first | assumption | omega), (by first | assumption | omega), (by first | assumption | omega), (by first | assumption | omega), (by first | assumption | omega), (by first | assumption | omega), (by first | assumption | omega), htx⟩
  · refine g_aload_n (pc := 14) hC 0 dX9_odds_14 rfl rfl ?_
    refine g_get (pc := 15) hC 0 fl_X9_12 dX9_odds_15 rfl rfl ?_
    refine g_get (pc := 18) hC 1 fl_X9_85 dX9_odds_18 rfl rfl ?_
    refine g_iload_n (pc := 21) hC 2 dX9_odds_21 rfl rfl ?_
    refine g_fnV (pc := 22) (qr := 11) hC [11] (k_X5_has _ _ _ _ _ _ _ _ _ _ _ (by first | assumption | omega) (by first | assumption | omega)) cl_X5_has wm_X9_94 dX9_odds_22 rfl rfl rfl rfl rfl (by decide) (by decide) ⟨by omega, by omega⟩ (Nat.le_of_ble_eq_true rfl) rfl rfl ?_
    refine g_name hC (fun x22 e_x22 => ?_)
    have q_x22 := has_iff e_x22 (by omega)
    refine g_if_eq (pc := 25) hC 39 dX9_odds_25 (by decide) (by first | assumption | decide | omega) (fun c25 => ?_) (fun c25 => ?_)
    · refine g_iconst (pc := 39) hC dX9_odds_39 ?_
      refine g_istore (pc := 40) hC [(6, _), (0, _), (1, _), (2, _), (3, _), (4, _), (5, _)] dX9_odds_40 (by decide) rfl ?_
      refine g_iload (pc := 42) hC 0 dX9_odds_42 rfl ?_
      refine g_if_eq (pc := 44) hC 70 dX9_odds_44 (by decide) (by first | assumption | decide | omega) (fun c44 => ?_) (fun c44 => by exfalso; omega)
      refine g_ldc2 (pc := 70) hC (-9223372036854775808) wo_X9_207 (by decide) dX9_odds_70 ?_
      exact g_lret (pc := 73) hR dX9_odds_73 rfl ⟨by omega, by omega⟩ (Nat.le_of_ble_eq_true rfl) ⟨tk, tn, tr, ts, tw, tx, ta, tc, tp, ret_eqL (by unfold an_odds; rw [if_neg (by omega)]), rfl, (by first | assumption | omega), (by first | assumption | omega), (by first | assumption | omega), (by first | assumption | omega), (by first | assumption | omega), (by first | assumption | omega), (by first | assumption | omega), (by first | assumption | omega), (by first | assumption | omega), htx⟩
    · refine g_iload_n (pc := 28) hC 3 dX9_odds_28 rfl rfl ?_
      refine g_fnS (pc := 29) hC [] (k_X9_isDigit _ (by first | assumption | omega)) cl_X9_isDigit wm_X9_82 dX9_odds_29 rfl rfl (by decide) (by decide) ⟨by omega, by omega⟩ (Nat.le_of_ble_eq_true rfl) rfl rfl ?_
      refine g_name hC (fun x29 e_x29 => ?_)
      have q_x29 := dig_iff e_x29
      refine g_if_eq (pc := 32) hC 39 dX9_odds_32 (by decide) (by first | assumption | decide | omega) (fun c32 => ?_) (fun c32 => ?_)
      · refine g_iconst (pc := 39) hC dX9_odds_39 ?_
        refine g_istore (pc := 40) hC [(6, _), (0, _), (1, _), (2, _), (3, _), (4, _), (5, _)] dX9_odds_40 (by decide) rfl ?_
        refine g_iload (pc := 42) hC 0 dX9_odds_42 rfl ?_
        refine g_if_eq (pc := 44) hC 70 dX9_odds_44 (by decide) (by first | assumption | decide | omega) (fun c44 => ?_) (fun c44 => by exfalso; omega)
        refine g_ldc2 (pc := 70) hC (-9223372036854775808) wo_X9_207 (by decide) dX9_odds_70 ?_
        exact g_lret (pc := 73) hR dX9_odds_73 rfl ⟨by omega, by omega⟩ (Nat.le_of_ble_eq_true rfl) ⟨tk, tn, tr, ts, tw, tx, ta, tc, tp, ret_eqL (by unfold an_odds; rw [if_neg (by omega)]), rfl, (by first | assumption | omega), (by first | assumption | omega), (by first | assumption | omega), (by first | assumption | omega), (by first | assumption | omega), (by first | assumption | omega), (by first | assumption | omega), (by first | assumption | omega), (by first | assumption | omega), htx⟩
      · refine g_iconst (pc := 35) hC dX9_odds_35 ?_
        refine g_goto (pc := 36) hC 40 dX9_odds_36 (by decide) ?_
        refine g_istore (pc := 40) hC [(6, _), (0, _), (1, _), (2, _), (3, _), (4, _), (5, _)] dX9_odds_40 (by decide) rfl ?_
        refine g_iload (pc := 42) hC 0 dX9_odds_42 rfl ?_
        refine g_if_eq (pc := 44) hC 70 dX9_odds_44 (by decide) (by first | assumption | decide | omega) (fun c44 => by exfalso; omega) (fun c44 => ?_)
        refine g_iload (pc := 47) hC 5 dX9_odds_47 rfl ?_
        refine g_if_lt (pc := 49) hC 70 dX9_odds_49 (by decide) (by first | assumption | decide | omega) (fun c49 => ?_) (fun c49 => ?_)
        · refine g_ldc2 (pc := 70) hC (-9223372036854775808) wo_X9_207 (by decide) dX9_odds_70 ?_
          exact g_lret (pc := 73) hR dX9_odds_73 rfl ⟨by omega, by omega⟩ (Nat.le_of_ble_eq_true rfl) ⟨tk, tn, tr, ts, tw, tx, ta, tc, tp, ret_eqL (by unfold an_odds; rw [if_neg (by omega)]), rfl, (by first | assumption | omega), (by first | assumption | omega), (by first | assumption | omega), (by first | assumption | omega), (by first | assumption | omega), (by first | assumption | omega), (by first | assumption | omega), (by first | assumption | omega), (by first | assumption | omega), htx⟩
        · refine g_iload (pc := 52) hC 5 dX9_odds_52 rfl ?_
          refine g_bipush (pc := 54) hC (60) dX9_odds_54 (by decide) ?_
          refine g_icmp_gt (pc := 56) hC 70 dX9_odds_56 (by decide) (by first | assumption | decide | omega) (by first | assumption | decide | omega) (fun c56 => ?_) (fun c56 => ?_)
          · refine g_ldc2 (pc := 70) hC (-9223372036854775808) wo_X9_207 (by decide) dX9_odds_70 ?_
            exact g_lret (pc := 73) hR dX9_odds_73 rfl ⟨by omega, by omega⟩ (Nat.le_of_ble_eq_true rfl) ⟨tk, tn, tr, ts, tw, tx, ta, tc, tp, ret_eqL (by unfold an_odds; rw [if_neg (by omega)]), rfl, (by first | assumption | omega), (by first | assumption | omega), (by first | assumption | omega), (by first | assumption | omega), (by first | assumption | omega), (by first | assumption | omega), (by first | assumption | omega), (by first | assumption | omega), (by first | assumption | omega), htx⟩
          · refine g_iload (pc := 59) hC 6 dX9_odds_59 rfl ?_
            refine g_if_eq (pc := 61) hC 74 dX9_odds_61 (by decide) (by first | assumption | decide | omega) (fun c61 => ?_) (fun c61 => ?_)
            · refine g_aload_n (pc := 74) hC 1 dX9_odds_74 rfl rfl ?_
              refine g_get (pc := 75) hC 0 fl_X9_39 dX9_odds_75 rfl rfl ?_
              refine g_aload_n (pc := 78) hC 1 dX9_odds_78 rfl rfl ?_
              refine g_get (pc := 79) hC 0 fl_X9_12 dX9_odds_79 rfl rfl ?_
              refine g_get (pc := 82) hC 1 fl_X9_85 dX9_odds_82 rfl rfl ?_
              refine g_iload_n (pc := 85) hC 2 dX9_odds_85 rfl rfl ?_
              refine g_iload_n (pc := 86) hC 3 dX9_odds_86 rfl rfl ?_
              refine g_iload_n (pc := 87) hC 4 dX9_odds_87 rfl rfl ?_
              refine g_iload (pc := 88) hC 5 dX9_odds_88 rfl ?_
              refine g_callV (pc := 90) (qr := 3) hC [3, 2, 4, 5, 6, 7, 8, 9, 10, 11, 12, 13, 14, 15, 16, 17] (k_X7_waysTo_n _ _ _ _ _ _ _ _ _ _ _ _ _ _ _ _ _ _ _ _ _ _ _ _ _ _ _ _ _ _ _ _ _ _ _ _ _ _ _ _ _ _ _ _ _ s W rch (by first | assumption | omega) (by first | assumption | omega) (by first | assumption | omega) (by first | assumption | omega) (by first | assumption | omega) (by first | assumption | omega) (by first | assumption | omega) (by first | assumption | omega) (by first | assumption | omega) (by first | assumption | omega) (by first | assumption | omega) (by first | assumption | omega) (by first | assumption | omega) (by first | assumption | omega) (by first | assumption | omega) (by first | assumption | omega) (by first | assumption | omega) (by first | assumption | omega) (by first | assumption | omega) (by first | assumption | omega) (by first | assumption | omega) (by first | assumption | omega) (by first | assumption | omega) (by first | assumption | omega) (by first | assumption | omega) (by first | assumption | omega) (by omega) (by omega) (by omega) (by first | assumption | omega)) cl_X7_waysTo wm_X9_209 dX9_odds_90 rfl rfl rfl rfl rfl (by decide) (by decide) (by omega) (Nat.le_of_ble_eq_true rfl) rfl (fun v9 w9 hq9 => ?_)
              obtain ⟨tk5, tn5, tr5, ts5, tw5, tx5, ta5, tc5, tp5, rfl, rfl, r_tk5, r_tn5, r_tr5, r_ts5, r_tw5, r_tx5, r_ta5, r_tc5, r_tp5, htx2_90⟩ := hq9
              refine g_ws hC [cO xx 9 [.ref nA, .ref nZ, wx_taken, .ref hh, .ref q0, .ref t0, .ref g0], cO nA 8 [.ref h0, .ref po, .ref sr, .ref pr, .ref br, .int (iI ho)], cO q0 2 [.null, w_facts, w_weighed, w_stamp], cO t0 7 [.ref h1, .ref q0, .int (iI fw), .ref t2, .int (iI rf), .ref t1], cO h1 5 [.ref j0, .ref j1, .ref j2, .ref j3, .ref j4, .ref j5, .int (iI ta5), .int (iI tc5), .int (iI tp5)], cA K j0 6 tk5, cA K j1 6 tn5, cA K j2 6 tr5, cA K j3 6 ts5, cA K j4 24 tw5, cA K j5 6 tx5, cO h0 5 [.ref k0, .ref k1, .ref k2, .ref k3, .ref k4, .ref k5, .int (iI aw), .int (iI cn), .int (iI sp)], cA K k0 6 kd, cA K k1 6 nb, cA K k2 6 rm, cA K k3 6 st, cA K k4 24 rw, cA K k5 6 nx] rfl ?_
              refine g_st hC [.int (iI (md_up W rch s p q x n.toNat 10))] rfl ?_
              refine g_name hC (fun wt e_wt => ?_)
              have hur := md_up_rng W rch s p q x n.toNat 10
              rw [← e_wt] at hur
              refine g_istore (pc := 93) hC [(7, _), (6, _), (0, _), (1, _), (2, _), (3, _), (4, _), (5, _)] dX9_odds_93 (by decide) rfl ?_
              refine g_iload (pc := 95) hC 0 dX9_odds_95 rfl ?_
              refine g_bipush (pc := 97) hC (10) dX9_odds_97 (by decide) ?_
              refine g_iload (pc := 99) hC 7 dX9_odds_99 rfl ?_
              refine g_callS (pc := 101) hC [] (k_X9_partOf _ _ _ (by first | assumption | omega) (by first | assumption | omega) (by first | assumption | omega) (by omega) (by omega)) cl_X9_partOf wm_X9_213 dX9_odds_101 rfl rfl (by decide) (by decide) (by omega) (Nat.le_of_ble_eq_true rfl) rfl (fun v9 w9 hq9 => ?_)
              obtain ⟨rfl, rfl⟩ := hq9
              refine g_ws hC [cO xx 9 [.ref nA, .ref nZ, wx_taken, .ref hh, .ref q0, .ref t0, .ref g0], cO nA 8 [.ref h0, .ref po, .ref sr, .ref pr, .ref br, .int (iI ho)], cO q0 2 [.null, w_facts, w_weighed, w_stamp], cO t0 7 [.ref h1, .ref q0, .int (iI fw), .ref t2, .int (iI rf), .ref t1], cO h1 5 [.ref j0, .ref j1, .ref j2, .ref j3, .ref j4, .ref j5, .int (iI ta5), .int (iI tc5), .int (iI tp5)], cA K j0 6 tk5, cA K j1 6 tn5, cA K j2 6 tr5, cA K j3 6 ts5, cA K j4 24 tw5, cA K j5 6 tx5, cO h0 5 [.ref k0, .ref k1, .ref k2, .ref k3, .ref k4, .ref k5, .int (iI aw), .int (iI cn), .int (iI sp)], cA K k0 6 kd, cA K k1 6 nb, cA K k2 6 rm, cA K k3 6 st, cA K k4 24 rw, cA K k5 6 nx] rfl ?_
              refine g_st hC [.long (iL (md_low wt 10 part))] rfl ?_
              exact g_lret (pc := 104) hR dX9_odds_104 rfl ⟨by omega, by omega⟩ (Nat.le_of_ble_eq_true rfl) ⟨tk5, tn5, tr5, ts5, tw5, tx5, ta5, tc5, tp5, ret_eqL (by unfold an_odds; rw [if_pos (by omega), ← e_wt]), rfl, (by first | assumption | omega), (by first | assumption | omega), (by first | assumption | omega), (by first | assumption | omega), (by first | assumption | omega), (by first | assumption | omega), (by first | assumption | omega), (by first | assumption | omega), (by first | assumption | omega), htx2_90⟩
            · refine g_iload (pc := 64) hC 6 dX9_odds_64 rfl ?_
              refine g_iconst (pc := 66) hC dX9_odds_66 ?_
              refine g_icmp_eq (pc := 67) hC 74 dX9_odds_67 (by decide) (by first | assumption | decide | omega) (by first | assumption | decide | omega) (fun c67 => ?_) (fun c67 => ?_)
              · refine g_aload_n (pc := 74) hC 1 dX9_odds_74 rfl rfl ?_
                refine g_get (pc := 75) hC 0 fl_X9_39 dX9_odds_75 rfl rfl ?_
                refine g_aload_n (pc := 78) hC 1 dX9_odds_78 rfl rfl ?_
                refine g_get (pc := 79) hC 0 fl_X9_12 dX9_odds_79 rfl rfl ?_
                refine g_get (pc := 82) hC 1 fl_X9_85 dX9_odds_82 rfl rfl ?_
                refine g_iload_n (pc := 85) hC 2 dX9_odds_85 rfl rfl ?_
                refine g_iload_n (pc := 86) hC 3 dX9_odds_86 rfl rfl ?_
                refine g_iload_n (pc := 87) hC 4 dX9_odds_87 rfl rfl ?_
                refine g_iload (pc := 88) hC 5 dX9_odds_88 rfl ?_
                refine g_callV (pc := 90) (qr := 3) hC [3, 2, 4, 5, 6, 7, 8, 9, 10, 11, 12, 13, 14, 15, 16, 17] (k_X7_waysTo_n _ _ _ _ _ _ _ _ _ _ _ _ _ _ _ _ _ _ _ _ _ _ _ _ _ _ _ _ _ _ _ _ _ _ _ _ _ _ _ _ _ _ _ _ _ s W rch (by first | assumption | omega) (by first | assumption | omega) (by first | assumption | omega) (by first | assumption | omega) (by first | assumption | omega) (by first | assumption | omega) (by first | assumption | omega) (by first | assumption | omega) (by first | assumption | omega) (by first | assumption | omega) (by first | assumption | omega) (by first | assumption | omega) (by first | assumption | omega) (by first | assumption | omega) (by first | assumption | omega) (by first | assumption | omega) (by first | assumption | omega) (by first | assumption | omega) (by first | assumption | omega) (by first | assumption | omega) (by first | assumption | omega) (by first | assumption | omega) (by first | assumption | omega) (by first | assumption | omega) (by first | assumption | omega) (by first | assumption | omega) (by omega) (by omega) (by omega) (by first | assumption | omega)) cl_X7_waysTo wm_X9_209 dX9_odds_90 rfl rfl rfl rfl rfl (by decide) (by decide) (by omega) (Nat.le_of_ble_eq_true rfl) rfl (fun v9 w9 hq9 => ?_)
                obtain ⟨tk5, tn5, tr5, ts5, tw5, tx5, ta5, tc5, tp5, rfl, rfl, r_tk5, r_tn5, r_tr5, r_ts5, r_tw5, r_tx5, r_ta5, r_tc5, r_tp5, htx2_90⟩ := hq9
                refine g_ws hC [cO xx 9 [.ref nA, .ref nZ, wx_taken, .ref hh, .ref q0, .ref t0, .ref g0], cO nA 8 [.ref h0, .ref po, .ref sr, .ref pr, .ref br, .int (iI ho)], cO q0 2 [.null, w_facts, w_weighed, w_stamp], cO t0 7 [.ref h1, .ref q0, .int (iI fw), .ref t2, .int (iI rf), .ref t1], cO h1 5 [.ref j0, .ref j1, .ref j2, .ref j3, .ref j4, .ref j5, .int (iI ta5), .int (iI tc5), .int (iI tp5)], cA K j0 6 tk5, cA K j1 6 tn5, cA K j2 6 tr5, cA K j3 6 ts5, cA K j4 24 tw5, cA K j5 6 tx5, cO h0 5 [.ref k0, .ref k1, .ref k2, .ref k3, .ref k4, .ref k5, .int (iI aw), .int (iI cn), .int (iI sp)], cA K k0 6 kd, cA K k1 6 nb, cA K k2 6 rm, cA K k3 6 st, cA K k4 24 rw, cA K k5 6 nx] rfl ?_
                refine g_st hC [.int (iI (md_up W rch s p q x n.toNat 10))] rfl ?_
                refine g_name hC (fun wt e_wt => ?_)
                have hur := md_up_rng W rch s p q x n.toNat 10
                rw [← e_wt] at hur
                refine g_istore (pc := 93) hC [(7, _), (6, _), (0, _), (1, _), (2, _), (3, _), (4, _), (5, _)] dX9_odds_93 (by decide) rfl ?_
                refine g_iload (pc := 95) hC 0 dX9_odds_95 rfl ?_
                refine g_bipush (pc := 97) hC (10) dX9_odds_97 (by decide) ?_
                refine g_iload (pc := 99) hC 7 dX9_odds_99 rfl ?_
                refine g_callS (pc := 101) hC [] (k_X9_partOf _ _ _ (by first | assumption | omega) (by first | assumption | omega) (by first | assumption | omega) (by omega) (by omega)) cl_X9_partOf wm_X9_213 dX9_odds_101 rfl rfl (by decide) (by decide) (by omega) (Nat.le_of_ble_eq_true rfl) rfl (fun v9 w9 hq9 => ?_)
                obtain ⟨rfl, rfl⟩ := hq9
                refine g_ws hC [cO xx 9 [.ref nA, .ref nZ, wx_taken, .ref hh, .ref q0, .ref t0, .ref g0], cO nA 8 [.ref h0, .ref po, .ref sr, .ref pr, .ref br, .int (iI ho)], cO q0 2 [.null, w_facts, w_weighed, w_stamp], cO t0 7 [.ref h1, .ref q0, .int (iI fw), .ref t2, .int (iI rf), .ref t1], cO h1 5 [.ref j0, .ref j1, .ref j2, .ref j3, .ref j4, .ref j5, .int (iI ta5), .int (iI tc5), .int (iI tp5)], cA K j0 6 tk5, cA K j1 6 tn5, cA K j2 6 tr5, cA K j3 6 ts5, cA K j4 24 tw5, cA K j5 6 tx5, cO h0 5 [.ref k0, .ref k1, .ref k2, .ref k3, .ref k4, .ref k5, .int (iI aw), .int (iI cn), .int (iI sp)], cA K k0 6 kd, cA K k1 6 nb, cA K k2 6 rm, cA K k3 6 st, cA K k4 24 rw, cA K k5 6 nx] rfl ?_
                refine g_st hC [.long (iL (md_low wt 10 part))] rfl ?_
                exact g_lret (pc := 104) hR dX9_odds_104 rfl ⟨by omega, by omega⟩ (Nat.le_of_ble_eq_true rfl) ⟨tk5, tn5, tr5, ts5, tw5, tx5, ta5, tc5, tp5, ret_eqL (by unfold an_odds; rw [if_pos (by omega), ← e_wt]), rfl, (by first | assumption | omega), (by first | assumption | omega), (by first | assumption | omega), (by first | assumption | omega), (by first | assumption | omega), (by first | assumption | omega), (by first | assumption | omega), (by first | assumption | omega), (by first | assumption | omega), htx2_90⟩
              · refine g_ldc2 (pc := 70) hC (-9223372036854775808) wo_X9_207 (by decide) dX9_odds_70 ?_
                exact g_lret (pc := 73) hR dX9_odds_73 rfl ⟨by omega, by omega⟩ (Nat.le_of_ble_eq_true rfl) ⟨tk, tn, tr, ts, tw, tx, ta, tc, tp, ret_eqL (by unfold an_odds; rw [if_neg (by omega)]), rfl, (by first | assumption | omega), (by first | assumption | omega), (by first | assumption | omega), (by first | assumption | omega), (by first | assumption | omega), (by first | assumption | omega), (by first | assumption | omega), (by first | assumption | omega), (by first | assumption | omega), htx⟩
set_option maxHeartbeats 4000000 in
set_option maxRecDepth 100000 in
theorem k_X9_done_n {K : gK} (xx : Nat) (nA : Nat) (nZ : Nat) (hh : Nat) (q0 : Nat) (t0 : Nat) (g0 : Nat) (h0 : Nat) (po : Nat) (sr : Nat) (pr : Nat) (br : Nat) (h1 : Nat) (t2 : Nat) (t1 : Nat) (j0 : Nat) (j1 : Nat) (j2 : Nat) (j3 : Nat) (j4 : Nat) (j5 : Nat) (k0 : Nat) (k1 : Nat) (k2 : Nat) (k3 : Nat) (k4 : Nat) (k5 : Nat) (pr1 : Nat) (pr2 : Nat) (pr3 : Nat) (wx_taken : Value) (w_facts : Value) (w_weighed : Value) (w_stamp : Value) (w : Int) (ho : Int) (fw : Int) (rf : Int) (ta : Int) (tc : Int) (tp : Int) (aw : Int) (cn : Int) (sp : Int) (pn : Int) (tk : Int → Int) (tn : Int → Int) (tr : Int → Int) (ts : Int → Int) (tw : Int → Int) (tx : Int → Int) (kd : Int → Int) (nb : Int → Int) (rm : Int → Int) (st : Int → Int) (rw : Int → Int) (nx : Int → Int) (pl1 : Int → Int) (pl2 : Int → Int) (pl3 : Int → Int) (s : Int → Int) (W : (Int → Int) → Int) (rch : Int) (r_w : rI w) (r_ho : rI ho) (r_fw : rI fw) (r_rf : rI rf) (r_ta : rI ta) (r_tc : rI tc) (r_tp : rI tp) (r_aw : rI aw) (r_cn : rI cn) (r_sp : rI sp) (r_pn : rI pn) (r_tk : ∀ j, rI (tk j)) (r_tn : ∀ j, rI (tn j)) (r_tr : ∀ j, rI (tr j)) (r_ts : ∀ j, rI (ts j)) (r_tw : ∀ j, rI (tw j)) (r_tx : ∀ j, rI (tx j)) (r_kd : ∀ j, rI (kd j)) (r_nb : ∀ j, rI (nb j)) (r_rm : ∀ j, rI (rm j)) (r_st : ∀ j, rI (st j)) (r_rw : ∀ j, rI (rw j)) (r_nx : ∀ j, rI (nx j)) (r_pl1 : ∀ j, rI (pl1 j)) (r_pl2 : ∀ j, rI (pl2 j)) (r_pl3 : ∀ j, rI (pl3 j)) (hg : md_rg s) (hR9 : cs_R s kd nb rm st rw nx aw cn sp) (hW0 : (∀ b, W b = 0) ∧ rch = 9) (htx : ∀ p, 0 ≤ p → p < 6 → 0 ≤ tx p ∧ tx p ≤ 9) (hs : md_rs s) (hst1 : s 0 ≤ 10000) (hpl : pn = s 22 ∧ ∀ k, 0 ≤ k → k < s 22 → pl1 k = s (80 + k) ∧ pl2 k = s (88 + k)) : gMet K yX9_done cX9_done 2 (some .int) 5 0 0 [.ref xx, .int (iI w)] [cO xx 9 [.ref nA, .ref nZ, wx_taken, .ref hh, .ref q0, .ref t0, .ref g0], cO nA 8 [.ref h0, .ref po, .ref sr, .ref pr, .ref br, .int (iI ho)], cO q0 2 [.null, w_facts, w_weighed, w_stamp], cO t0 7 [.ref h1, .ref q0, .int (iI fw), .ref t2, .int (iI rf), .ref t1], cO h1 5 [.ref j0, .ref j1, .ref j2, .ref j3, .ref j4, .ref j5, .int (iI ta), .int (iI tc), .int (iI tp)], cA K j0 6 tk, cA K j1 6 tn, cA K j2 6 tr, cA K j3 6 ts, cA K j4 24 tw, cA K j5 6 tx, cO h0 5 [.ref k0, .ref k1, .ref k2, .ref k3, .ref k4, .ref k5, .int (iI aw), .int (iI cn), .int (iI sp)], cA K k0 6 kd, cA K k1 6 nb, cA K k2 6 rm, cA K k3 6 st, cA K k4 24 rw, cA K k5 6 nx, cO pr 4 [.ref pr1, .ref pr2, .ref pr3, .int (iI pn)], cA K pr1 8 pl1, cA K pr2 8 pl2, cA K pr3 8 pl3] (fun v9 w9 => ∃ (tk2 : Int → Int), ∃ (tn2 : Int → Int), ∃ (tr2 : Int → Int), ∃ (ts2 : Int → Int), ∃ (tw2 : Int → Int), ∃ (tx2 : Int → Int), ∃ (ta2 : Int), ∃ (tc2 : Int), ∃ (tp2 : Int), v9 = some (.int (iI (an_done W rch s w))) ∧ w9 = [cO xx 9 [.ref nA, .ref nZ, wx_taken, .ref hh, .ref q0, .ref t0, .ref g0], cO nA 8 [.ref h0, .ref po, .ref sr, .ref pr, .ref br, .int (iI ho)], cO q0 2 [.null, w_facts, w_weighed, w_stamp], cO t0 7 [.ref h1, .ref q0, .int (iI fw), .ref t2, .int (iI rf), .ref t1], cO h1 5 [.ref j0, .ref j1, .ref j2, .ref j3, .ref j4, .ref j5, .int (iI ta2), .int (iI tc2), .int (iI tp2)], cA K j0 6 tk2, cA K j1 6 tn2, cA K j2 6 tr2, cA K j3 6 ts2, cA K j4 24 tw2, cA K j5 6 tx2, cO h0 5 [.ref k0, .ref k1, .ref k2, .ref k3, .ref k4, .ref k5, .int (iI aw), .int (iI cn), .int (iI sp)], cA K k0 6 kd, cA K k1 6 nb, cA K k2 6 rm, cA K k3 6 st, cA K k4 24 rw, cA K k5 6 nx, cO pr 4 [.ref pr1, .ref pr2, .ref pr3, .int (iI pn)], cA K pr1 8 pl1, cA K pr2 8 pl2, cA K pr3 8 pl3] ∧ (∀ j, rI (tk2 j)) ∧ (∀ j, rI (tn2 j)) ∧ (∀ j, rI (tr2 j)) ∧ (∀ j, rI (ts2 j)) ∧ (∀ j, rI (tw2 j)) ∧ (∀ j, rI (tx2 j)) ∧ rI ta2 ∧ rI tc2 ∧ rI tp2 ∧ (∀ p, 0 ≤ p → p < 6 → 0 ≤ tx2 p ∧ tx2 p ≤ 9)) := by
  refine g_enter (by decide +kernel) (Nat.le_of_ble_eq_true rfl) (fun G hC hR => ?_)
  refine g_lv hC [0, 1] [(0, _), (1, _)] rfl ?_
  have h19 := hg.2.2.1
  have hg0 := hg.2.2.2
  have hcs := hR9.1
  refine g_iload_n (pc := 0) hC 1 dX9_done_0 rfl rfl ?_
  refine g_if_eq (pc := 1) hC 11 dX9_done_1 (by decide) (by first | assumption | decide | omega) (fun c1 => ?_) (fun c1 => ?_)
  · refine g_aload_n (pc := 11) hC 0 dX9_done_11 rfl rfl ?_
    refine g_get (pc := 12) hC 0 fl_X9_39 dX9_done_12 rfl rfl ?_
    refine g_aload_n (pc := 15) hC 0 dX9_done_15 rfl rfl ?_
    refine g_get (pc := 16) hC 0 fl_X9_12 dX9_done_16 rfl rfl ?_
    refine g_get (pc := 19) hC 1 fl_X9_85 dX9_done_19 rfl rfl ?_
    refine g_callV (pc := 22) (qr := 3) hC [3, 4, 5, 6, 7, 8, 9, 10, 11, 12, 13, 14, 15, 16, 17] (k_X7_begin _ _ _ _ _ _ _ _ _ _ _ _ _ _ _ _ _ _ _ _ _ _ _ _ _ _ _ _ _ _ _ _ _ _ _ _ _ _ _ (by first | assumption | omega) (by first | assumption | omega) (by first | assumption | omega) (by first | assumption | omega) (by first | assumption | omega) (by first | assumption | omega) (by first | assumption | omega) (by first | assumption | omega) (by first | assumption | omega) (by first | assumption | omega) (by first | assumption | omega) (by first | assumption | omega) (by first | assumption | omega) (by first | assumption | omega) (by first | assumption | omega) (by first | assumption | omega) (by first | assumption | omega) (by first | assumption | omega) (by first | assumption | omega) (by first | assumption | omega) (by first | assumption | omega)) cl_X7_begin wm_X9_158 dX9_done_22 rfl rfl rfl rfl rfl (by decide) (by decide) (by omega) (Nat.le_of_ble_eq_true rfl) rfl (fun v9 w9 hq9 => ?_)
    obtain ⟨kd3, nb3, rm3, st3, rw3, rfl, rfl, r_kd3, r_nb3, r_rm3, r_st3, r_rw3, hR2_22⟩ := hq9
    refine g_ws hC [cO xx 9 [.ref nA, .ref nZ, wx_taken, .ref hh, .ref q0, .ref t0, .ref g0], cO nA 8 [.ref h0, .ref po, .ref sr, .ref pr, .ref br, .int (iI ho)], cO q0 2 [.null, w_facts, w_weighed, w_stamp], cO t0 7 [.ref h1, .ref q0, .int (iI fw), .ref t2, .int (iI rf), .ref t1], cO h1 5 [.ref j0, .ref j1, .ref j2, .ref j3, .ref j4, .ref j5, .int (iI aw), .int (iI cn), .int (iI sp)], cA K j0 6 kd3, cA K j1 6 nb3, cA K j2 6 rm3, cA K j3 6 st3, cA K j4 24 rw3, cA K j5 6 tx, cO h0 5 [.ref k0, .ref k1, .ref k2, .ref k3, .ref k4, .ref k5, .int (iI aw), .int (iI cn), .int (iI sp)], cA K k0 6 kd, cA K k1 6 nb, cA K k2 6 rm, cA K k3 6 st, cA K k4 24 rw, cA K k5 6 nx, cO pr 4 [.ref pr1, .ref pr2, .ref pr3, .int (iI pn)], cA K pr1 8 pl1, cA K pr2 8 pl2, cA K pr3 8 pl3] rfl ?_
    refine g_st hC [] rfl ?_
    refine g_aload_n (pc := 25) hC 0 dX9_done_25 rfl rfl ?_
    refine g_get (pc := 26) hC 0 fl_X9_39 dX9_done_26 rfl rfl ?_
    refine g_aload_n (pc := 29) hC 0 dX9_done_29 rfl rfl ?_
    refine g_get (pc := 30) hC 0 fl_X9_12 dX9_done_30 rfl rfl ?_
    refine g_get (pc := 33) hC 1 fl_X9_224 dX9_done_33 rfl rfl ?_
    refine g_callV (pc := 36) (qr := 3) hC [3, 2, 4, 5, 6, 7, 8, 9, 10, 18, 19, 20, 21] (k_X7_goByPlan_n _ _ _ _ _ _ _ _ _ _ _ _ _ _ _ _ _ _ _ _ _ _ _ _ _ _ _ _ _ _ _ _ _ s W rch (by first | assumption | omega) (by first | assumption | omega) (by first | assumption | omega) (by first | assumption | omega) (by first | assumption | omega) (by first | assumption | omega) (by first | assumption | omega) (by first | assumption | omega) (by first | assumption | omega) (by first | assumption | omega) (by first | assumption | omega) (by first | assumption | omega) (by first | assumption | omega) (by first | assumption | omega) hR2_22 (by first | assumption | omega) (by first | assumption | omega) (by first | assumption | omega) hpl) cl_X7_goByPlan wm_X9_231 dX9_done_36 rfl rfl rfl rfl rfl (by decide) (by decide) (by omega) (Nat.le_of_ble_eq_true rfl) rfl (fun v9 w9 hq9 => ?_)
    obtain ⟨nb5, rm5, st5, nx5, aw5, sp5, rfl, rfl, r_nb5, r_rm5, r_st5, r_nx5, r_aw5, r_sp5, hR2_36⟩ := hq9
    refine g_ws hC [cO xx 9 [.ref nA, .ref nZ, wx_taken, .ref hh, .ref q0, .ref t0, .ref g0], cO nA 8 [.ref h0, .ref po, .ref sr, .ref pr, .ref br, .int (iI ho)], cO q0 2 [.null, w_facts, w_weighed, w_stamp], cO t0 7 [.ref h1, .ref q0, .int (iI fw), .ref t2, .int (iI rf), .ref t1], cO h1 5 [.ref j0, .ref j1, .ref j2, .ref j3, .ref j4, .ref j5, .int (iI aw5), .int (iI cn), .int (iI sp5)], cA K j0 6 kd3, cA K j1 6 nb5, cA K j2 6 rm5, cA K j3 6 st5, cA K j4 24 rw3, cA K j5 6 nx5, cO h0 5 [.ref k0, .ref k1, .ref k2, .ref k3, .ref k4, .ref k5, .int (iI aw), .int (iI cn), .int (iI sp)], cA K k0 6 kd, cA K k1 6 nb, cA K k2 6 rm, cA K k3 6 st, cA K k4 24 rw, cA K k5 6 nx, cO pr 4 [.ref pr1, .ref pr2, .ref pr3, .int (iI pn)], cA K pr1 8 pl1, cA K pr2 8 pl2, cA K pr3 8 pl3] rfl ?_
    refine g_st hC [] rfl ?_
    have hpl0 := hs.2.1
    have hpa := md_pn_all (W := W) (rch := rch) hg hs (by omega) (s 22).toNat (by omega)
    have hp19 := hpa.2.2 19 (by omega)
    refine g_iload_n (pc := 39) hC 1 dX9_done_39 rfl rfl ?_
    refine g_if_ne (pc := 40) hC 56 dX9_done_40 (by decide) (by first | assumption | decide | omega) (fun c40 => ?_) (fun c40 => ?_)
    · refine g_aload_n (pc := 56) hC 0 dX9_done_56 rfl rfl ?_
      refine g_get (pc := 57) hC 0 fl_X9_39 dX9_done_57 rfl rfl ?_
      refine g_get (pc := 60) hC 3 fl_X9_166 dX9_done_60 rfl rfl ?_
      refine g_iconst (pc := 63) hC dX9_done_63 ?_
      refine g_fnV (pc := 64) (qr := 4) hC [4, 5, 6, 7, 8, 9, 10] (k_X5_sumOfStates _ _ _ _ _ _ _ _ _ _ _ _ _ _ _ _ _ (md_pn W rch s (s 22).toNat) (by first | assumption | omega) (by first | assumption | omega) (by first | assumption | omega) (by first | assumption | omega) (by first | assumption | omega) (by first | assumption | omega) (by first | assumption | omega) (by first | assumption | omega) (by first | assumption | omega) (by first | assumption | omega) hpa.1 hR2_36 (by omega)) cl_X5_sumOfStates wm_X9_220 dX9_done_64 rfl rfl rfl rfl rfl (by decide) (by decide) ⟨by omega, by omega⟩ (Nat.le_of_ble_eq_true rfl) rfl rfl ?_
      refine g_name hC (fun x64 e_x64 => ?_)
      rw [if_neg (by omega), hp19] at e_x64
      exact g_iret (pc := 67) hR dX9_done_67 rfl ⟨by omega, by omega⟩ (Nat.le_of_ble_eq_true rfl) ⟨kd3, nb5, rm5, st5, rw3, nx5, aw5, cn, sp5, ret_eq (by unfold an_done; rw [if_pos (by omega), if_neg (by omega), e_x64]), rfl, (by first | assumption | omega), (by first | assumption | omega), (by first | assumption | omega), (by first | assumption | omega), (by first | assumption | omega), (by first | assumption | omega), (by first | assumption | omega), (by first | assumption | omega), (by first | assumption | omega), (fun p h1 h2 => (hR2_36.2.2.2.1 p h1 h2).2.2)⟩
    · refine g_aload_n (pc := 43) hC 0 dX9_done_43 rfl rfl ?_
      refine g_get (pc := 44) hC 0 fl_X9_39 dX9_done_44 rfl rfl ?_
      refine g_get (pc := 47) hC 3 fl_X9_166 dX9_done_47 rfl rfl ?_
      refine g_fnV (pc := 50) (qr := 4) hC [4, 5, 6, 7, 8, 9, 10] (k_X5_unlikeStates _ _ _ _ _ _ _ _ _ _ _ _ _ _ _ _ (md_pn W rch s (s 22).toNat) (by first | assumption | omega) (by first | assumption | omega) (by first | assumption | omega) (by first | assumption | omega) (by first | assumption | omega) (by first | assumption | omega) (by first | assumption | omega) (by first | assumption | omega) (by first | assumption | omega) hpa.1 hR2_36) cl_X5_unlikeStates wm_X9_148 dX9_done_50 rfl rfl rfl rfl rfl (by decide) (by decide) ⟨by omega, by omega⟩ (Nat.le_of_ble_eq_true rfl) rfl rfl ?_
      refine g_name hC (fun x50 e_x50 => ?_)
      have q_x50 : 0 ≤ x50 ∧ x50 ≤ 10 := by rw [e_x50]; exact md_unl_rng _
      refine g_goto (pc := 53) hC 67 dX9_done_53 (by decide) ?_
      exact g_iret (pc := 67) hR dX9_done_67 rfl ⟨by omega, by omega⟩ (Nat.le_of_ble_eq_true rfl) ⟨kd3, nb5, rm5, st5, rw3, nx5, aw5, cn, sp5, ret_eq (by unfold an_done; rw [if_pos (by omega), if_pos (by omega), e_x50]), rfl, (by first | assumption | omega), (by first | assumption | omega), (by first | assumption | omega), (by first | assumption | omega), (by first | assumption | omega), (by first | assumption | omega), (by first | assumption | omega), (by first | assumption | omega), (by first | assumption | omega), (fun p h1 h2 => (hR2_36.2.2.2.1 p h1 h2).2.2)⟩
  · refine g_iload_n (pc := 4) hC 1 dX9_done_4 rfl rfl ?_
    refine g_iconst (pc := 5) hC dX9_done_5 ?_
    refine g_icmp_eq (pc := 6) hC 11 dX9_done_6 (by decide) (by first | assumption | decide | omega) (by first | assumption | decide | omega) (fun c6 => ?_) (fun c6 => ?_)
    · refine g_aload_n (pc := 11) hC 0 dX9_done_11 rfl rfl ?_
      refine g_get (pc := 12) hC 0 fl_X9_39 dX9_done_12 rfl rfl ?_
      refine g_aload_n (pc := 15) hC 0 dX9_done_15 rfl rfl ?_
      refine g_get (pc := 16) hC 0 fl_X9_12 dX9_done_16 rfl rfl ?_
      refine g_get (pc := 19) hC 1 fl_X9_85 dX9_done_19 rfl rfl ?_
      refine g_callV (pc := 22) (qr := 3) hC [3, 4, 5, 6, 7, 8, 9, 10, 11, 12, 13, 14, 15, 16, 17] (k_X7_begin _ _ _ _ _ _ _ _ _ _ _ _ _ _ _ _ _ _ _ _ _ _ _ _ _ _ _ _ _ _ _ _ _ _ _ _ _ _ _ (by first | assumption | omega) (by first | assumption | omega) (by first | assumption | omega) (by first | assumption | omega) (by first | assumption | omega) (by first | assumption | omega) (by first | assumption | omega) (by first | assumption | omega) (by first | assumption | omega) (by first | assumption | omega) (by first | assumption | omega) (by first | assumption | omega) (by first | assumption | omega) (by first | assumption | omega) (by first | assumption | omega) (by first | assumption | omega) (by first | assumption | omega) (by first | assumption | omega) (by first | assumption | omega) (by first | assumption | omega) (by first | assumption | omega)) cl_X7_begin wm_X9_158 dX9_done_22 rfl rfl rfl rfl rfl (by decide) (by decide) (by omega) (Nat.le_of_ble_eq_true rfl) rfl (fun v9 w9 hq9 => ?_)
      obtain ⟨kd3, nb3, rm3, st3, rw3, rfl, rfl, r_kd3, r_nb3, r_rm3, r_st3, r_rw3, hR2_22⟩ := hq9
      refine g_ws hC [cO xx 9 [.ref nA, .ref nZ, wx_taken, .ref hh, .ref q0, .ref t0, .ref g0], cO nA 8 [.ref h0, .ref po, .ref sr, .ref pr, .ref br, .int (iI ho)], cO q0 2 [.null, w_facts, w_weighed, w_stamp], cO t0 7 [.ref h1, .ref q0, .int (iI fw), .ref t2, .int (iI rf), .ref t1], cO h1 5 [.ref j0, .ref j1, .ref j2, .ref j3, .ref j4, .ref j5, .int (iI aw), .int (iI cn), .int (iI sp)], cA K j0 6 kd3, cA K j1 6 nb3, cA K j2 6 rm3, cA K j3 6 st3, cA K j4 24 rw3, cA K j5 6 tx, cO h0 5 [.ref k0, .ref k1, .ref k2, .ref k3, .ref k4, .ref k5, .int (iI aw), .int (iI cn), .int (iI sp)], cA K k0 6 kd, cA K k1 6 nb, cA K k2 6 rm, cA K k3 6 st, cA K k4 24 rw, cA K k5 6 nx, cO pr 4 [.ref pr1, .ref pr2, .ref pr3, .int (iI pn)], cA K pr1 8 pl1, cA K pr2 8 pl2, cA K pr3 8 pl3] rfl ?_
      refine g_st hC [] rfl ?_
      refine g_aload_n (pc := 25) hC 0 dX9_done_25 rfl rfl ?_
      refine g_get (pc := 26) hC 0 fl_X9_39 dX9_done_26 rfl rfl ?_
      refine g_aload_n (pc := 29) hC 0 dX9_done_29 rfl rfl ?_
      refine g_get (pc := 30) hC 0 fl_X9_12 dX9_done_30 rfl rfl ?_
      refine g_get (pc := 33) hC 1 fl_X9_224 dX9_done_33 rfl rfl ?_
      refine g_callV (pc := 36) (qr := 3) hC [3, 2, 4, 5, 6, 7, 8, 9, 10, 18, 19, 20, 21] (k_X7_goByPlan_n _ _ _ _ _ _ _ _ _ _ _ _ _ _ _ _ _ _ _ _ _ _ _ _ _ _ _ _ _ _ _ _ _ s W rch (by first | assumption | omega) (by first | assumption | omega) (by first | assumption | omega) (by first | assumption | omega) (by first | assumption | omega) (by first | assumption | omega) (by first | assumption | omega) (by first | assumption | omega) (by first | assumption | omega) (by first | assumption | omega) (by first | assumption | omega) (by first | assumption | omega) (by first | assumption | omega) (by first | assumption | omega) hR2_22 (by first | assumption | omega) (by first | assumption | omega) (by first | assumption | omega) hpl) cl_X7_goByPlan wm_X9_231 dX9_done_36 rfl rfl rfl rfl rfl (by decide) (by decide) (by omega) (Nat.le_of_ble_eq_true rfl) rfl (fun v9 w9 hq9 => ?_)
      obtain ⟨nb5, rm5, st5, nx5, aw5, sp5, rfl, rfl, r_nb5, r_rm5, r_st5, r_nx5, r_aw5, r_sp5, hR2_36⟩ := hq9
      refine g_ws hC [cO xx 9 [.ref nA, .ref nZ, wx_taken, .ref hh, .ref q0, .ref t0, .ref g0], cO nA 8 [.ref h0, .ref po, .ref sr, .ref pr, .ref br, .int (iI ho)], cO q0 2 [.null, w_facts, w_weighed, w_stamp], cO t0 7 [.ref h1, .ref q0, .int (iI fw), .ref t2, .int (iI rf), .ref t1], cO h1 5 [.ref j0, .ref j1, .ref j2, .ref j3, .ref j4, .ref j5, .int (iI aw5), .int (iI cn), .int (iI sp5)], cA K j0 6 kd3, cA K j1 6 nb5, cA K j2 6 rm5, cA K j3 6 st5, cA K j4 24 rw3, cA K j5 6 nx5, cO h0 5 [.ref k0, .ref k1, .ref k2, .ref k3, .ref k4, .ref k5, .int (iI aw), .int (iI cn), .int (iI sp)], cA K k0 6 kd, cA K k1 6 nb, cA K k2 6 rm, cA K k3 6 st, cA K k4 24 rw, cA K k5 6 nx, cO pr 4 [.ref pr1, .ref pr2, .ref pr3, .int (iI pn)], cA K pr1 8 pl1, cA K pr2 8 pl2, cA K pr3 8 pl3] rfl ?_
      refine g_st hC [] rfl ?_
      have hpl0 := hs.2.1
      have hpa := md_pn_all (W := W) (rch := rch) hg hs (by omega) (s 22).toNat (by omega)
      have hp19 := hpa.2.2 19 (by omega)
      refine g_iload_n (pc := 39) hC 1 dX9_done_39 rfl rfl ?_
      refine g_if_ne (pc := 40) hC 56 dX9_done_40 (by decide) (by first | assumption | decide | omega) (fun c40 => ?_) (fun c40 => ?_)
      · refine g_aload_n (pc := 56) hC 0 dX9_done_56 rfl rfl ?_
        refine g_get (pc := 57) hC 0 fl_X9_39 dX9_done_57 rfl rfl ?_
        refine g_get (pc := 60) hC 3 fl_X9_166 dX9_done_60 rfl rfl ?_
        refine g_iconst (pc := 63) hC dX9_done_63 ?_
        refine g_fnV (pc := 64) (qr := 4) hC [4, 5, 6, 7, 8, 9, 10] (k_X5_sumOfStates _ _ _ _ _ _ _ _ _ _ _ _ _ _ _ _ _ (md_pn W rch s (s 22).toNat) (by first | assumption | omega) (by first | assumption | omega) (by first | assumption | omega) (by first | assumption | omega) (by first | assumption | omega) (by first | assumption | omega) (by first | assumption | omega) (by first | assumption | omega) (by first | assumption | omega) (by first | assumption | omega) hpa.1 hR2_36 (by omega)) cl_X5_sumOfStates wm_X9_220 dX9_done_64 rfl rfl rfl rfl rfl (by decide) (by decide) ⟨by omega, by omega⟩ (Nat.le_of_ble_eq_true rfl) rfl rfl ?_
        refine g_name hC (fun x64 e_x64 => ?_)
        rw [if_neg (by omega), hp19] at e_x64
        exact g_iret (pc := 67) hR dX9_done_67 rfl ⟨by omega, by omega⟩ (Nat.le_of_ble_eq_true rfl) ⟨kd3, nb5, rm5, st5, rw3, nx5, aw5, cn, sp5, ret_eq (by unfold an_done; rw [if_pos (by omega), if_neg (by omega), e_x64]), rfl, (by first | assumption | omega), (by first | assumption | omega), (by first | assumption | omega), (by first | assumption | omega), (by first | assumption | omega), (by first | assumption | omega), (by first | assumption | omega), (by first | assumption | omega), (by first | assumption | omega), (fun p h1 h2 => (hR2_36.2.2.2.1 p h1 h2).2.2)⟩
      · refine g_aload_n (pc := 43) hC 0 dX9_done_43 rfl rfl ?_
        refine g_get (pc := 44) hC 0 fl_X9_39 dX9_done_44 rfl rfl ?_
        refine g_get (pc := 47) hC 3 fl_X9_166 dX9_done_47 rfl rfl ?_
        refine g_fnV (pc := 50) (qr := 4) hC [4, 5, 6, 7, 8, 9, 10] (k_X5_unlikeStates _ _ _ _ _ _ _ _ _ _ _ _ _ _ _ _ (md_pn W rch s (s 22).toNat) (by first | assumption | omega) (by first | assumption | omega) (by first | assumption | omega) (by first | assumption | omega) (by first | assumption | omega) (by first | assumption | omega) (by first | assumption | omega) (by first | assumption | omega) (by first | assumption | omega) hpa.1 hR2_36) cl_X5_unlikeStates wm_X9_148 dX9_done_50 rfl rfl rfl rfl rfl (by decide) (by decide) ⟨by omega, by omega⟩ (Nat.le_of_ble_eq_true rfl) rfl rfl ?_
        refine g_name hC (fun x50 e_x50 => ?_)
        have q_x50 : 0 ≤ x50 ∧ x50 ≤ 10 := by rw [e_x50]; exact md_unl_rng _
        refine g_goto (pc := 53) hC 67 dX9_done_53 (by decide) ?_
        exact g_iret (pc := 67) hR dX9_done_67 rfl ⟨by omega, by omega⟩ (Nat.le_of_ble_eq_true rfl) ⟨kd3, nb5, rm5, st5, rw3, nx5, aw5, cn, sp5, ret_eq (by unfold an_done; rw [if_pos (by omega), if_pos (by omega), e_x50]), rfl, (by first | assumption | omega), (by first | assumption | omega), (by first | assumption | omega), (by first | assumption | omega), (by first | assumption | omega), (by first | assumption | omega), (by first | assumption | omega), (by first | assumption | omega), (by first | assumption | omega), (fun p h1 h2 => (hR2_36.2.2.2.1 p h1 h2).2.2)⟩
    · refine g_iconst (pc := 9) hC dX9_done_9 ?_
      exact g_iret (pc := 10) hR dX9_done_10 rfl ⟨by omega, by omega⟩ (Nat.le_of_ble_eq_true rfl) ⟨tk, tn, tr, ts, tw, tx, ta, tc, tp, ret_eq (by unfold an_done; rw [if_neg (by omega)]), rfl, (by first | assumption | omega), (by first | assumption | omega), (by first | assumption | omega), (by first | assumption | omega), (by first | assumption | omega), (by first | assumption | omega), (by first | assumption | omega), (by first | assumption | omega), (by first | assumption | omega), htx⟩
