theorem pn_0 {W : (Int → Int) → Int} {rch : Int} {s : Int → Int} {j : Nat} (h : s (80 + (j : Int)) = 0) : md_pn W rch s (j + 1) = md_go W rch (md_pn W rch s j) := by
  show md_by W rch (md_pn W rch s j) (s (80 + (j : Int))) (s (88 + (j : Int))) = _
  unfold md_by
  rw [if_pos h]
theorem pn_1 {W : (Int → Int) → Int} {rch : Int} {s : Int → Int} {i n : Int} {j : Nat} (hi : i = (j : Int)) (h : s (80 + i) = 1) (hn : n = s (88 + i)) : md_pn W rch s (j + 1) = upI (md_pn W rch s j) (7 + n) 1 := by
  show md_by W rch (md_pn W rch s j) (s (80 + (j : Int))) (s (88 + (j : Int))) = _
  rw [← hi]
  unfold md_by
  rw [h, if_neg (by decide), if_neg (by decide), if_pos rfl, hn]
theorem pn_2 {W : (Int → Int) → Int} {rch : Int} {s : Int → Int} {i n : Int} {j : Nat} (hi : i = (j : Int)) (h : s (80 + i) = 2) (hn : n = s (88 + i)) : md_pn W rch s (j + 1) = upI (md_pn W rch s j) (7 + n) 0 := by
  show md_by W rch (md_pn W rch s j) (s (80 + (j : Int))) (s (88 + (j : Int))) = _
  rw [← hi]
  unfold md_by
  rw [h, if_neg (by decide), if_neg (by decide), if_neg (by decide), hn]
theorem pn_3 {W : (Int → Int) → Int} {rch : Int} {s : Int → Int} {i n : Int} {j : Nat} (hi : i = (j : Int)) (h : s (80 + i) = 3) (hn : n = s (88 + i)) : md_pn W rch s (j + 1) = upI (md_pn W rch s j) (cx_w 0 + n / 10) (n % 10) := by
  show md_by W rch (md_pn W rch s j) (s (80 + (j : Int))) (s (88 + (j : Int))) = _
  rw [← hi]
  unfold md_by
  rw [h, if_neg (by decide), if_pos rfl, hn]
  rfl
set_option maxHeartbeats 4000000 in
set_option maxRecDepth 100000 in
theorem k_X7_goByPlan_n {K : gK} (t0 : Nat) (b0 : Nat) (h1 : Nat) (q0 : Nat) (j0 : Nat) (j1 : Nat) (j2 : Nat) (j3 : Nat) (j4 : Nat) (j5 : Nat) (b1 : Nat) (b2 : Nat) (b3 : Nat) (w_fewest : Value) (w_whose : Value) (w_roomsFound : Value) (w_way : Value) (w_facts : Value) (w_weighed : Value) (w_stamp : Value) (aw : Int) (cn : Int) (sp : Int) (pn : Int) (kd : Int → Int) (nb : Int → Int) (rm : Int → Int) (st : Int → Int) (rw : Int → Int) (nx : Int → Int) (pl1 : Int → Int) (pl2 : Int → Int) (pl3 : Int → Int) (s : Int → Int) (W : (Int → Int) → Int) (rch : Int) (r_aw : rI aw) (r_cn : rI cn) (r_sp : rI sp) (r_pn : rI pn) (r_kd : ∀ j, rI (kd j)) (r_nb : ∀ j, rI (nb j)) (r_rm : ∀ j, rI (rm j)) (r_st : ∀ j, rI (st j)) (r_rw : ∀ j, rI (rw j)) (r_nx : ∀ j, rI (nx j)) (r_pl1 : ∀ j, rI (pl1 j)) (r_pl2 : ∀ j, rI (pl2 j)) (r_pl3 : ∀ j, rI (pl3 j)) (hg : md_rg s) (hR9 : cs_R s kd nb rm st rw nx aw cn sp) (hW0 : (∀ b, W b = 0) ∧ rch = 9) (hs : md_rs s) (hst0 : s 0 ≤ 10000) (hpl : pn = s 22 ∧ ∀ k, 0 ≤ k → k < s 22 → pl1 k = s (80 + k) ∧ pl2 k = s (88 + k)) : gMet K yX7_goByPlan cX7_goByPlan 4 none 4 0 0 [.ref t0, .ref b0] [cO t0 7 [.ref h1, .ref q0, w_fewest, w_whose, w_roomsFound, w_way], cO q0 2 [.null, w_facts, w_weighed, w_stamp], cO h1 5 [.ref j0, .ref j1, .ref j2, .ref j3, .ref j4, .ref j5, .int (iI aw), .int (iI cn), .int (iI sp)], cA K j0 6 kd, cA K j1 6 nb, cA K j2 6 rm, cA K j3 6 st, cA K j4 24 rw, cA K j5 6 nx, cO b0 4 [.ref b1, .ref b2, .ref b3, .int (iI pn)], cA K b1 8 pl1, cA K b2 8 pl2, cA K b3 8 pl3] (fun v9 w9 => ∃ (nb2 : Int → Int), ∃ (rm2 : Int → Int), ∃ (st2 : Int → Int), ∃ (nx2 : Int → Int), ∃ (aw2 : Int), ∃ (sp2 : Int), v9 = none ∧ w9 = [cO t0 7 [.ref h1, .ref q0, w_fewest, w_whose, w_roomsFound, w_way], cO q0 2 [.null, w_facts, w_weighed, w_stamp], cO h1 5 [.ref j0, .ref j1, .ref j2, .ref j3, .ref j4, .ref j5, .int (iI aw2), .int (iI cn), .int (iI sp2)], cA K j0 6 kd, cA K j1 6 nb2, cA K j2 6 rm2, cA K j3 6 st2, cA K j4 24 rw, cA K j5 6 nx2, cO b0 4 [.ref b1, .ref b2, .ref b3, .int (iI pn)], cA K b1 8 pl1, cA K b2 8 pl2, cA K b3 8 pl3] ∧ (∀ j, rI (nb2 j)) ∧ (∀ j, rI (rm2 j)) ∧ (∀ j, rI (st2 j)) ∧ (∀ j, rI (nx2 j)) ∧ rI aw2 ∧ rI sp2 ∧ (cs_R (md_pn W rch s (s 22).toNat) kd nb2 rm2 st2 rw nx2 aw2 cn sp2)) := by
  refine g_enter (by decide +kernel) (Nat.le_of_ble_eq_true rfl) (fun G hC hR => ?_)
  refine g_lv hC [0, 1] [(0, _), (1, _)] rfl ?_
  have h19 := hg.2.2.1
  have hg0 := hg.2.2.2
  have hcs := hR9.1
  have hpl9 := hs.2.1
  refine g_iconst (pc := 0) hC dX7_goByPlan_0 ?_
  refine g_istore_n (pc := 1) hC [(2, _), (0, _), (1, _)] dX7_goByPlan_1 rfl (by decide) rfl ?_
  have L2 : ∀ (n1 : Nat) (i : Int) (nb1 : Int → Int) (rm1 : Int → Int) (ts1 : Int → Int) (tx1 : Int → Int) (ta1 : Int) (tp1 : Int) (j : Nat), (rI i) → (∀ j, rI (nb1 j)) → (∀ j, rI (rm1 j)) → (∀ j, rI (ts1 j)) → (∀ j, rI (tx1 j)) → (rI ta1) → (rI tp1) → (i = (j : Int)) → (i ≤ s 22) → (cs_R (md_pn W rch s j) kd nb1 rm1 ts1 rw tx1 ta1 cn tp1) → s 22 - i < (n1 : Int) → G 0 0 2 [(0, .ref t0), (1, .ref b0), (2, .int (iI i))] [] [cO t0 7 [.ref h1, .ref q0, w_fewest, w_whose, w_roomsFound, w_way], cO q0 2 [.null, w_facts, w_weighed, w_stamp], cO h1 5 [.ref j0, .ref j1, .ref j2, .ref j3, .ref j4, .ref j5, .int (iI ta1), .int (iI cn), .int (iI tp1)], cA K j0 6 kd, cA K j1 6 nb1, cA K j2 6 rm1, cA K j3 6 ts1, cA K j4 24 rw, cA K j5 6 tx1, cO b0 4 [.ref b1, .ref b2, .ref b3, .int (iI pn)], cA K b1 8 pl1, cA K b2 8 pl2, cA K b3 8 pl3] := by
    intro n1
    induction n1 with
    | zero => intro i nb1 rm1 ts1 tx1 ta1 tp1 j r_i r_nb1 r_rm1 r_ts1 r_tx1 r_ta1 r_tp1 hi hj hR1 hm2; exfalso; omega
    | succ n1 ih2 =>
      intro i nb1 rm1 ts1 tx1 ta1 tp1 j r_i r_nb1 r_rm1 r_ts1 r_tx1 r_ta1 r_tp1 hi hj hR1 hm2
      have hpa := md_pn_all (W := W) (rch := rch) hg hs (by omega) j (by omega)
      have ho19 := hpa.2.2 19 (by omega)
      refine g_iload_n (pc := 2) hC 2 dX7_goByPlan_2 rfl rfl ?_
      refine g_aload_n (pc := 3) hC 1 dX7_goByPlan_3 rfl rfl ?_
      refine g_get (pc := 4) hC 9 fl_X7_103 dX7_goByPlan_4 rfl rfl ?_
      refine g_icmp_ge (pc := 7) hC 116 dX7_goByPlan_7 (by decide) (by omega) (by omega) (fun c7 => ?_) (fun c7 => ?_)
      · have hj9 : (s 22).toNat = j := by omega
        exact g_vret (pc := 116) hR dX7_goByPlan_116 rfl ⟨by omega, by omega⟩ (Nat.le_of_ble_eq_true rfl) ⟨nb1, rm1, ts1, tx1, ta1, tp1, rfl, rfl, (by first | assumption | omega), (by first | assumption | omega), (by first | assumption | omega), (by first | assumption | omega), (by first | assumption | omega), (by first | assumption | omega), (by rw [hj9]; exact hR1)⟩
      · have hpk := hpl.2 i (by omega) (by omega)
        have hpv := hpl9.2.2 i (by omega) (by omega)
        refine g_iload_n (pc := 10) hC 2 dX7_goByPlan_10 rfl rfl ?_
        refine g_bipush (pc := 11) hC (8) dX7_goByPlan_11 (by decide) ?_
        refine g_icmp_ge (pc := 13) hC 116 dX7_goByPlan_13 (by decide) (by omega) (by omega) (fun c13 => by exfalso; omega) (fun c13 => ?_)
        refine g_aload_n (pc := 16) hC 1 dX7_goByPlan_16 rfl rfl ?_
        refine g_get (pc := 17) hC 9 fl_X7_108 dX7_goByPlan_17 rfl rfl ?_
        refine g_iload_n (pc := 20) hC 2 dX7_goByPlan_20 rfl rfl ?_
        refine g_iald (pc := 21) hC 11 dX7_goByPlan_21 rfl (by omega) ?_
        have qz2 := r_pl2 i
        refine g_istore_n (pc := 22) hC [(3, _), (0, _), (1, _), (2, _)] dX7_goByPlan_22 rfl (by decide) rfl ?_
        refine g_aload_n (pc := 23) hC 2 dX7_goByPlan_23 rfl rfl ?_
        refine g_get (pc := 24) hC 9 fl_X7_111 dX7_goByPlan_24 rfl rfl ?_
        refine g_iload_n (pc := 27) hC 3 dX7_goByPlan_27 rfl rfl ?_
        refine g_iald (pc := 28) hC 10 dX7_goByPlan_28 rfl (by omega) ?_
        have qz3 := r_pl1 i
        by_cases k29_0 : pl1 i = 0
        · refine g_tswIn (pc := 29) hC (0) (off := 27) 56 dX7_goByPlan_29 k29_0 (by omega) (by decide) (by decide) ?_
          refine g_aload_n (pc := 56) hC 1 dX7_goByPlan_56 rfl rfl ?_
          refine g_get (pc := 57) hC 0 fl_X7_12 dX7_goByPlan_57 rfl rfl ?_
          refine g_aload_n (pc := 60) hC 1 dX7_goByPlan_60 rfl rfl ?_
          refine g_get (pc := 61) hC 0 fl_X7_25 dX7_goByPlan_61 rfl rfl ?_
          refine g_callV (pc := 64) (qr := 2) hC [1, 2, 3, 4, 5, 6, 7, 8] (k_X5_goOneStep_n _ _ _ _ _ _ _ _ _ _ _ _ _ _ _ _ _ _ _ _ (md_pn W rch s j) W rch (by first | assumption | omega) (by first | assumption | omega) (by first | assumption | omega) (by first | assumption | omega) (by first | assumption | omega) (by first | assumption | omega) (by first | assumption | omega) (by first | assumption | omega) (by first | assumption | omega) hpa.1 hR1 (by first | assumption | omega)) cl_X5_goOneStep wm_X7_33 dX7_goByPlan_64 rfl rfl rfl rfl rfl (by decide) (by decide) (by omega) (Nat.le_of_ble_eq_true rfl) rfl (fun v9 w9 hq9 => ?_)
          obtain ⟨n4, st5, rfl, rfl, r_n4, r_st5, hR2_64⟩ := hq9
          refine g_ws hC [cO t0 7 [.ref h1, .ref q0, w_fewest, w_whose, w_roomsFound, w_way], cO q0 2 [.null, w_facts, w_weighed, w_stamp], cO h1 5 [.ref j0, .ref j1, .ref j2, .ref j3, .ref j4, .ref j5, .int (iI ta1), .int (iI cn), .int (iI (tp1 + 1))], cA K j0 6 kd, cA K j1 6 nb1, cA K j2 6 rm1, cA K j3 6 st5, cA K j4 24 rw, cA K j5 6 n4, cO b0 4 [.ref b1, .ref b2, .ref b3, .int (iI pn)], cA K b1 8 pl1, cA K b2 8 pl2, cA K b3 8 pl3] rfl ?_
          refine g_st hC [] rfl ?_
          refine g_goto (pc := 67) hC 110 dX7_goByPlan_67 (by decide) ?_
          refine g_iinc (pc := 110) hC 3 [(2, _), (3, _), (0, _), (1, _)] dX7_goByPlan_110 rfl (by decide) rfl ?_
          refine g_goto (pc := 113) hC 2 dX7_goByPlan_113 (by decide) ?_
          refine g_lv hC [2, 3, 0] [(0, _), (1, _), (2, _)] rfl ?_
          exact ih2 (i + 1) nb1 rm1 st5 n4 ta1 (tp1 + 1) (j + 1) (by first | assumption | omega) (by first | assumption | omega) (by first | assumption | omega) (by first | assumption | omega) (by first | assumption | omega) (by first | assumption | omega) (by have h9 := hR1.1; have h8 := hpa.2.1; omega) (by first | assumption | omega) (by first | assumption | omega) (by rw [pn_0 (by rw [← hi]; omega)]; exact hR2_64) (by omega)
        by_cases k29_1 : pl1 i = 1
        · refine g_tswIn (pc := 29) hC (1) (off := 41) 70 dX7_goByPlan_29 k29_1 (by omega) (by decide) (by decide) ?_
          refine g_aload_n (pc := 70) hC 1 dX7_goByPlan_70 rfl rfl ?_
          refine g_get (pc := 71) hC 0 fl_X7_12 dX7_goByPlan_71 rfl rfl ?_
          refine g_iload_n (pc := 74) hC 0 dX7_goByPlan_74 rfl rfl ?_
          refine g_iconst (pc := 75) hC dX7_goByPlan_75 ?_
          refine g_callV (pc := 76) (qr := 2) hC [2, 3, 4, 5, 6, 7, 8] (k_X5_send _ _ _ _ _ _ _ _ _ _ _ _ _ _ _ _ _ _ (md_pn W rch s j) (by first | assumption | omega) (by first | assumption | omega) (by first | assumption | omega) (by first | assumption | omega) (by first | assumption | omega) (by first | assumption | omega) (by first | assumption | omega) (by first | assumption | omega) (by first | assumption | omega) (by first | assumption | omega) (by first | assumption | omega) hpa.1 hR1 (by first | assumption | omega)) cl_X5_send wm_X7_117 dX7_goByPlan_76 rfl rfl rfl rfl rfl (by decide) (by decide) (by omega) (Nat.le_of_ble_eq_true rfl) rfl (fun v9 w9 hq9 => ?_)
          obtain ⟨aw6, rfl, rfl, r_aw6, hR2_76⟩ := hq9
          refine g_ws hC [cO t0 7 [.ref h1, .ref q0, w_fewest, w_whose, w_roomsFound, w_way], cO q0 2 [.null, w_facts, w_weighed, w_stamp], cO h1 5 [.ref j0, .ref j1, .ref j2, .ref j3, .ref j4, .ref j5, .int (iI aw6), .int (iI cn), .int (iI tp1)], cA K j0 6 kd, cA K j1 6 nb1, cA K j2 6 rm1, cA K j3 6 ts1, cA K j4 24 rw, cA K j5 6 tx1, cO b0 4 [.ref b1, .ref b2, .ref b3, .int (iI pn)], cA K b1 8 pl1, cA K b2 8 pl2, cA K b3 8 pl3] rfl ?_
          refine g_st hC [] rfl ?_
          refine g_goto (pc := 79) hC 110 dX7_goByPlan_79 (by decide) ?_
          refine g_iinc (pc := 110) hC 3 [(2, _), (3, _), (0, _), (1, _)] dX7_goByPlan_110 rfl (by decide) rfl ?_
          refine g_goto (pc := 113) hC 2 dX7_goByPlan_113 (by decide) ?_
          refine g_lv hC [2, 3, 0] [(0, _), (1, _), (2, _)] rfl ?_
          exact ih2 (i + 1) nb1 rm1 ts1 tx1 aw6 tp1 (j + 1) (by first | assumption | omega) (by first | assumption | omega) (by first | assumption | omega) (by first | assumption | omega) (by first | assumption | omega) (by first | assumption | omega) (by have h9 := hR1.1; have h8 := hpa.2.1; omega) (by first | assumption | omega) (by first | assumption | omega) (by rw [pn_1 hi (by omega) hpk.2]; rw [if_pos (by omega)] at hR2_76; exact hR2_76) (by omega)
        by_cases k29_2 : pl1 i = 2
        · refine g_tswIn (pc := 29) hC (2) (off := 53) 82 dX7_goByPlan_29 k29_2 (by omega) (by decide) (by decide) ?_
          refine g_aload_n (pc := 82) hC 1 dX7_goByPlan_82 rfl rfl ?_
          refine g_get (pc := 83) hC 0 fl_X7_12 dX7_goByPlan_83 rfl rfl ?_
          refine g_iload_n (pc := 86) hC 0 dX7_goByPlan_86 rfl rfl ?_
          refine g_iconst (pc := 87) hC dX7_goByPlan_87 ?_
          refine g_callV (pc := 88) (qr := 2) hC [2, 3, 4, 5, 6, 7, 8] (k_X5_send _ _ _ _ _ _ _ _ _ _ _ _ _ _ _ _ _ _ (md_pn W rch s j) (by first | assumption | omega) (by first | assumption | omega) (by first | assumption | omega) (by first | assumption | omega) (by first | assumption | omega) (by first | assumption | omega) (by first | assumption | omega) (by first | assumption | omega) (by first | assumption | omega) (by first | assumption | omega) (by first | assumption | omega) hpa.1 hR1 (by first | assumption | omega)) cl_X5_send wm_X7_117 dX7_goByPlan_88 rfl rfl rfl rfl rfl (by decide) (by decide) (by omega) (Nat.le_of_ble_eq_true rfl) rfl (fun v9 w9 hq9 => ?_)
          obtain ⟨aw7, rfl, rfl, r_aw7, hR2_88⟩ := hq9
          refine g_ws hC [cO t0 7 [.ref h1, .ref q0, w_fewest, w_whose, w_roomsFound, w_way], cO q0 2 [.null, w_facts, w_weighed, w_stamp], cO h1 5 [.ref j0, .ref j1, .ref j2, .ref j3, .ref j4, .ref j5, .int (iI aw7), .int (iI cn), .int (iI tp1)], cA K j0 6 kd, cA K j1 6 nb1, cA K j2 6 rm1, cA K j3 6 ts1, cA K j4 24 rw, cA K j5 6 tx1, cO b0 4 [.ref b1, .ref b2, .ref b3, .int (iI pn)], cA K b1 8 pl1, cA K b2 8 pl2, cA K b3 8 pl3] rfl ?_
          refine g_st hC [] rfl ?_
          refine g_goto (pc := 91) hC 110 dX7_goByPlan_91 (by decide) ?_
          refine g_iinc (pc := 110) hC 3 [(2, _), (3, _), (0, _), (1, _)] dX7_goByPlan_110 rfl (by decide) rfl ?_
          refine g_goto (pc := 113) hC 2 dX7_goByPlan_113 (by decide) ?_
          refine g_lv hC [2, 3, 0] [(0, _), (1, _), (2, _)] rfl ?_
          exact ih2 (i + 1) nb1 rm1 ts1 tx1 aw7 tp1 (j + 1) (by first | assumption | omega) (by first | assumption | omega) (by first | assumption | omega) (by first | assumption | omega) (by first | assumption | omega) (by first | assumption | omega) (by have h9 := hR1.1; have h8 := hpa.2.1; omega) (by first | assumption | omega) (by first | assumption | omega) (by rw [pn_2 hi (by omega) hpk.2]; rw [if_pos (by omega)] at hR2_88; exact hR2_88) (by omega)
        refine g_tswOut (pc := 29) hC 94 dX7_goByPlan_29 (by omega) (by omega) (by decide) ?_
        refine g_aload_n (pc := 94) hC 1 dX7_goByPlan_94 rfl rfl ?_
        refine g_get (pc := 95) hC 0 fl_X7_12 dX7_goByPlan_95 rfl rfl ?_
        refine g_iload_n (pc := 98) hC 0 dX7_goByPlan_98 rfl rfl ?_
        refine g_bipush (pc := 99) hC (10) dX7_goByPlan_99 (by decide) ?_
        refine g_idiv (pc := 101) hC dX7_goByPlan_101 (by omega) (by omega) ?_
        refine g_iconst (pc := 102) hC dX7_goByPlan_102 ?_
        refine g_iload_n (pc := 103) hC 0 dX7_goByPlan_103 rfl rfl ?_
        refine g_bipush (pc := 104) hC (10) dX7_goByPlan_104 (by decide) ?_
        refine g_irem (pc := 106) hC dX7_goByPlan_106 (by omega) (by omega) ?_
        refine g_callV (pc := 107) (qr := 2) hC [2, 3, 4, 5, 6, 7, 8] (k_X5_change _ _ _ _ _ _ _ _ _ _ _ _ _ _ _ _ _ _ _ (md_pn W rch s j) (by first | assumption | omega) (by first | assumption | omega) (by first | assumption | omega) (by first | assumption | omega) (by first | assumption | omega) (by first | assumption | omega) (by first | assumption | omega) (by first | assumption | omega) (by first | assumption | omega) (by first | assumption | omega) (by first | assumption | omega) (by first | assumption | omega) hpa.1 hR1 (by first | assumption | omega)) cl_X5_change wm_X7_44 dX7_goByPlan_107 rfl rfl rfl rfl rfl (by decide) (by decide) (by omega) (Nat.le_of_ble_eq_true rfl) rfl (fun v9 w9 hq9 => ?_)
        obtain ⟨nb8, rm9, st10, rfl, rfl, r_nb8, r_rm9, r_st10, hR2_107⟩ := hq9
        refine g_ws hC [cO t0 7 [.ref h1, .ref q0, w_fewest, w_whose, w_roomsFound, w_way], cO q0 2 [.null, w_facts, w_weighed, w_stamp], cO h1 5 [.ref j0, .ref j1, .ref j2, .ref j3, .ref j4, .ref j5, .int (iI ta1), .int (iI cn), .int (iI tp1)], cA K j0 6 kd, cA K j1 6 nb8, cA K j2 6 rm9, cA K j3 6 st10, cA K j4 24 rw, cA K j5 6 tx1, cO b0 4 [.ref b1, .ref b2, .ref b3, .int (iI pn)], cA K b1 8 pl1, cA K b2 8 pl2, cA K b3 8 pl3] rfl ?_
        refine g_st hC [] rfl ?_
        refine g_iinc (pc := 110) hC 3 [(2, _), (3, _), (0, _), (1, _)] dX7_goByPlan_110 rfl (by decide) rfl ?_
        refine g_goto (pc := 113) hC 2 dX7_goByPlan_113 (by decide) ?_
        refine g_lv hC [2, 3, 0] [(0, _), (1, _), (2, _)] rfl ?_
        exact ih2 (i + 1) nb8 rm9 st10 tx1 ta1 tp1 (j + 1) (by first | assumption | omega) (by first | assumption | omega) (by first | assumption | omega) (by first | assumption | omega) (by first | assumption | omega) (by first | assumption | omega) (by have h9 := hR1.1; have h8 := hpa.2.1; omega) (by first | assumption | omega) (by first | assumption | omega) (by rw [pn_3 hi (by omega) hpk.2]; rw [if_pos (by omega)] at hR2_107; exact hR2_107) (by omega)
  refine g_lv hC [1, 2, 0] [(0, _), (1, _), (2, _)] rfl ?_
  exact L2 ((s 22 - 0 : Int).toNat + 1) 0 nb rm st nx aw sp 0 (by first | assumption | omega) (by first | assumption | omega) (by first | assumption | omega) (by first | assumption | omega) (by first | assumption | omega) (by first | assumption | omega) (by first | assumption | omega) (by first | assumption | omega) (by first | assumption | omega) (by first | assumption | omega) (by omega)
set_option maxHeartbeats 4000000 in
set_option maxRecDepth 100000 in
theorem k_X7_goByPlan_r {K : gK} (t0 : Nat) (b0 : Nat) (h1 : Nat) (q0 : Nat) (o0 : Nat) (q1 : Nat) (q2 : Nat) (o1 : Nat) (j0 : Nat) (j1 : Nat) (j2 : Nat) (j3 : Nat) (j4 : Nat) (j5 : Nat) (b1 : Nat) (b2 : Nat) (b3 : Nat) (w_fewest : Value) (w_whose : Value) (w_roomsFound : Value) (w_way : Value) (stp : Int) (m : Int) (rc : Int) (aw : Int) (cn : Int) (sp : Int) (pn : Int) (fc : Int → Int) (wg : Int → Int) (od : Int → Int) (kd : Int → Int) (nb : Int → Int) (rm : Int → Int) (st : Int → Int) (rw : Int → Int) (nx : Int → Int) (pl1 : Int → Int) (pl2 : Int → Int) (pl3 : Int → Int) (s : Int → Int) (W : (Int → Int) → Int) (rch : Int) (r_stp : rI stp) (r_m : rI m) (r_rc : rI rc) (r_aw : rI aw) (r_cn : rI cn) (r_sp : rI sp) (r_pn : rI pn) (r_fc : ∀ j, rI (fc j)) (r_wg : ∀ j, rI (wg j)) (r_od : ∀ j, rI (od j)) (r_kd : ∀ j, rI (kd j)) (r_nb : ∀ j, rI (nb j)) (r_rm : ∀ j, rI (rm j)) (r_st : ∀ j, rI (st j)) (r_rw : ∀ j, rI (rw j)) (r_nx : ∀ j, rI (nx j)) (r_pl1 : ∀ j, rI (pl1 j)) (r_pl2 : ∀ j, rI (pl2 j)) (r_pl3 : ∀ j, rI (pl3 j)) (hg : md_rg s) (hR9 : cs_R s kd nb rm st rw nx aw cn sp) (hho : md_ho W od m) (hcc : md_CC W (fun z => s (26 + z)) wg stp) (hWr : ∀ b, -990 ≤ W b ∧ W b ≤ 990) (hrch : rc = rch) (hrr : 0 ≤ rch ∧ rch ≤ 99) (hs : md_rs s) (hst0 : s 0 ≤ 10000) (hpl : pn = s 22 ∧ ∀ k, 0 ≤ k → k < s 22 → pl1 k = s (80 + k) ∧ pl2 k = s (88 + k)) : gMet K yX7_goByPlan cX7_goByPlan 4 none 4 0 0 [.ref t0, .ref b0] [cO t0 7 [.ref h1, .ref q0, w_fewest, w_whose, w_roomsFound, w_way], cO q0 2 [.ref o0, .ref q1, .ref q2, .int (iI stp)], cA K q1 6 fc, cA K q2 36000 wg, cO o0 1 [.ref o1, .int (iI m), .int (iI rc)], cA K o1 100 od, cO h1 5 [.ref j0, .ref j1, .ref j2, .ref j3, .ref j4, .ref j5, .int (iI aw), .int (iI cn), .int (iI sp)], cA K j0 6 kd, cA K j1 6 nb, cA K j2 6 rm, cA K j3 6 st, cA K j4 24 rw, cA K j5 6 nx, cO b0 4 [.ref b1, .ref b2, .ref b3, .int (iI pn)], cA K b1 8 pl1, cA K b2 8 pl2, cA K b3 8 pl3] (fun v9 w9 => ∃ (nb2 : Int → Int), ∃ (rm2 : Int → Int), ∃ (st2 : Int → Int), ∃ (nx2 : Int → Int), ∃ (aw2 : Int), ∃ (sp2 : Int), ∃ (fc2 : Int → Int), ∃ (wg2 : Int → Int), v9 = none ∧ w9 = [cO t0 7 [.ref h1, .ref q0, w_fewest, w_whose, w_roomsFound, w_way], cO q0 2 [.ref o0, .ref q1, .ref q2, .int (iI stp)], cA K q1 6 fc2, cA K q2 36000 wg2, cO o0 1 [.ref o1, .int (iI m), .int (iI rc)], cA K o1 100 od, cO h1 5 [.ref j0, .ref j1, .ref j2, .ref j3, .ref j4, .ref j5, .int (iI aw2), .int (iI cn), .int (iI sp2)], cA K j0 6 kd, cA K j1 6 nb2, cA K j2 6 rm2, cA K j3 6 st2, cA K j4 24 rw, cA K j5 6 nx2, cO b0 4 [.ref b1, .ref b2, .ref b3, .int (iI pn)], cA K b1 8 pl1, cA K b2 8 pl2, cA K b3 8 pl3] ∧ (∀ j, rI (nb2 j)) ∧ (∀ j, rI (rm2 j)) ∧ (∀ j, rI (st2 j)) ∧ (∀ j, rI (nx2 j)) ∧ rI aw2 ∧ rI sp2 ∧ (∀ j, rI (fc2 j)) ∧ (∀ j, rI (wg2 j)) ∧ (cs_R (md_pn W rch s (s 22).toNat) kd nb2 rm2 st2 rw nx2 aw2 cn sp2) ∧ (md_CC W (fun z => s (26 + z)) wg2 stp)) := by
  refine g_enter (by decide +kernel) (Nat.le_of_ble_eq_true rfl) (fun G hC hR => ?_)
  refine g_lv hC [0, 1] [(0, _), (1, _)] rfl ?_
  have h19 := hg.2.2.1
  have hg0 := hg.2.2.2
  have hcs := hR9.1
  have hpl9 := hs.2.1
  refine g_iconst (pc := 0) hC dX7_goByPlan_0 ?_
  refine g_istore_n (pc := 1) hC [(2, _), (0, _), (1, _)] dX7_goByPlan_1 rfl (by decide) rfl ?_
  have L2 : ∀ (n1 : Nat) (i : Int) (nb1 : Int → Int) (rm1 : Int → Int) (ts1 : Int → Int) (tx1 : Int → Int) (ta1 : Int) (tp1 : Int) (j : Nat) (f1 : Int → Int) (w1 : Int → Int), (rI i) → (∀ j, rI (nb1 j)) → (∀ j, rI (rm1 j)) → (∀ j, rI (ts1 j)) → (∀ j, rI (tx1 j)) → (rI ta1) → (rI tp1) → (∀ j, rI (f1 j)) → (∀ j, rI (w1 j)) → (i = (j : Int)) → (i ≤ s 22) → (cs_R (md_pn W rch s j) kd nb1 rm1 ts1 rw tx1 ta1 cn tp1) → (md_CC W (fun z => s (26 + z)) w1 stp) → s 22 - i < (n1 : Int) → G 0 0 2 [(0, .ref t0), (1, .ref b0), (2, .int (iI i))] [] [cO t0 7 [.ref h1, .ref q0, w_fewest, w_whose, w_roomsFound, w_way], cO q0 2 [.ref o0, .ref q1, .ref q2, .int (iI stp)], cA K q1 6 f1, cA K q2 36000 w1, cO o0 1 [.ref o1, .int (iI m), .int (iI rc)], cA K o1 100 od, cO h1 5 [.ref j0, .ref j1, .ref j2, .ref j3, .ref j4, .ref j5, .int (iI ta1), .int (iI cn), .int (iI tp1)], cA K j0 6 kd, cA K j1 6 nb1, cA K j2 6 rm1, cA K j3 6 ts1, cA K j4 24 rw, cA K j5 6 tx1, cO b0 4 [.ref b1, .ref b2, .ref b3, .int (iI pn)], cA K b1 8 pl1, cA K b2 8 pl2, cA K b3 8 pl3] := by
    intro n1
    induction n1 with
    | zero => intro i nb1 rm1 ts1 tx1 ta1 tp1 j f1 w1 r_i r_nb1 r_rm1 r_ts1 r_tx1 r_ta1 r_tp1 r_f1 r_w1 hi hj hR1 hcc1 hm2; exfalso; omega
    | succ n1 ih2 =>
      intro i nb1 rm1 ts1 tx1 ta1 tp1 j f1 w1 r_i r_nb1 r_rm1 r_ts1 r_tx1 r_ta1 r_tp1 r_f1 r_w1 hi hj hR1 hcc1 hm2
      have hpa := md_pn_all (W := W) (rch := rch) hg hs (by omega) j (by omega)
      have ho19 := hpa.2.2 19 (by omega)
      refine g_iload_n (pc := 2) hC 2 dX7_goByPlan_2 rfl rfl ?_
      refine g_aload_n (pc := 3) hC 1 dX7_goByPlan_3 rfl rfl ?_
      refine g_get (pc := 4) hC 13 fl_X7_103 dX7_goByPlan_4 rfl rfl ?_
      refine g_icmp_ge (pc := 7) hC 116 dX7_goByPlan_7 (by decide) (by omega) (by omega) (fun c7 => ?_) (fun c7 => ?_)
      · have hj9 : (s 22).toNat = j := by omega
        exact g_vret (pc := 116) hR dX7_goByPlan_116 rfl ⟨by omega, by omega⟩ (Nat.le_of_ble_eq_true rfl) ⟨nb1, rm1, ts1, tx1, ta1, tp1, f1, w1, rfl, rfl, (by first | assumption | omega), (by first | assumption | omega), (by first | assumption | omega), (by first | assumption | omega), (by first | assumption | omega), (by first | assumption | omega), (by first | assumption | omega), (by first | assumption | omega), (by rw [hj9]; exact hR1), hcc1⟩
      · have hpk := hpl.2 i (by omega) (by omega)
        have hpv := hpl9.2.2 i (by omega) (by omega)
        refine g_iload_n (pc := 10) hC 2 dX7_goByPlan_10 rfl rfl ?_
        refine g_bipush (pc := 11) hC (8) dX7_goByPlan_11 (by decide) ?_
        refine g_icmp_ge (pc := 13) hC 116 dX7_goByPlan_13 (by decide) (by omega) (by omega) (fun c13 => by exfalso; omega) (fun c13 => ?_)
        refine g_aload_n (pc := 16) hC 1 dX7_goByPlan_16 rfl rfl ?_
        refine g_get (pc := 17) hC 13 fl_X7_108 dX7_goByPlan_17 rfl rfl ?_
        refine g_iload_n (pc := 20) hC 2 dX7_goByPlan_20 rfl rfl ?_
        refine g_iald (pc := 21) hC 15 dX7_goByPlan_21 rfl (by omega) ?_
        have qz2 := r_pl2 i
        refine g_istore_n (pc := 22) hC [(3, _), (0, _), (1, _), (2, _)] dX7_goByPlan_22 rfl (by decide) rfl ?_
        refine g_aload_n (pc := 23) hC 2 dX7_goByPlan_23 rfl rfl ?_
        refine g_get (pc := 24) hC 13 fl_X7_111 dX7_goByPlan_24 rfl rfl ?_
        refine g_iload_n (pc := 27) hC 3 dX7_goByPlan_27 rfl rfl ?_
        refine g_iald (pc := 28) hC 14 dX7_goByPlan_28 rfl (by omega) ?_
        have qz3 := r_pl1 i
        by_cases k29_0 : pl1 i = 0
        · refine g_tswIn (pc := 29) hC (0) (off := 27) 56 dX7_goByPlan_29 k29_0 (by omega) (by decide) (by decide) ?_
          refine g_aload_n (pc := 56) hC 1 dX7_goByPlan_56 rfl rfl ?_
          refine g_get (pc := 57) hC 0 fl_X7_12 dX7_goByPlan_57 rfl rfl ?_
          refine g_aload_n (pc := 60) hC 1 dX7_goByPlan_60 rfl rfl ?_
          refine g_get (pc := 61) hC 0 fl_X7_25 dX7_goByPlan_61 rfl rfl ?_
          refine g_callV (pc := 64) (qr := 6) hC [1, 2, 3, 4, 5, 6, 7, 8, 9, 10, 11, 12] (k_X5_goOneStep_r _ _ _ _ _ _ _ _ _ _ _ _ _ _ _ _ _ _ _ _ _ _ _ _ _ _ _ (md_pn W rch s j) W rch (by first | assumption | omega) (by first | assumption | omega) (by first | assumption | omega) (by first | assumption | omega) (by first | assumption | omega) (by first | assumption | omega) (by first | assumption | omega) (by first | assumption | omega) (by first | assumption | omega) (by first | assumption | omega) (by first | assumption | omega) (by first | assumption | omega) (by first | assumption | omega) (by first | assumption | omega) (by first | assumption | omega) hpa.1 hR1 (by first | assumption | omega) ((cc_eq (fun z h1 h2 => hpa.2.2 z (by omega))).mpr hcc1) (by first | assumption | omega) (by first | assumption | omega) (by first | assumption | omega)) cl_X5_goOneStep wm_X7_33 dX7_goByPlan_64 rfl rfl rfl rfl rfl (by decide) (by decide) (by omega) (Nat.le_of_ble_eq_true rfl) rfl (fun v9 w9 hq9 => ?_)
          obtain ⟨n4, st5, fc6, wg7, rfl, rfl, r_n4, r_st5, r_fc6, r_wg7, hR2_64, hcc2_64⟩ := hq9
          refine g_ws hC [cO t0 7 [.ref h1, .ref q0, w_fewest, w_whose, w_roomsFound, w_way], cO q0 2 [.ref o0, .ref q1, .ref q2, .int (iI stp)], cA K q1 6 fc6, cA K q2 36000 wg7, cO o0 1 [.ref o1, .int (iI m), .int (iI rc)], cA K o1 100 od, cO h1 5 [.ref j0, .ref j1, .ref j2, .ref j3, .ref j4, .ref j5, .int (iI ta1), .int (iI cn), .int (iI (tp1 + 1))], cA K j0 6 kd, cA K j1 6 nb1, cA K j2 6 rm1, cA K j3 6 st5, cA K j4 24 rw, cA K j5 6 n4, cO b0 4 [.ref b1, .ref b2, .ref b3, .int (iI pn)], cA K b1 8 pl1, cA K b2 8 pl2, cA K b3 8 pl3] rfl ?_
          refine g_st hC [] rfl ?_
          refine g_goto (pc := 67) hC 110 dX7_goByPlan_67 (by decide) ?_
          refine g_iinc (pc := 110) hC 3 [(2, _), (3, _), (0, _), (1, _)] dX7_goByPlan_110 rfl (by decide) rfl ?_
          refine g_goto (pc := 113) hC 2 dX7_goByPlan_113 (by decide) ?_
          refine g_lv hC [2, 3, 0] [(0, _), (1, _), (2, _)] rfl ?_
          exact ih2 (i + 1) nb1 rm1 st5 n4 ta1 (tp1 + 1) (j + 1) fc6 wg7 (by first | assumption | omega) (by first | assumption | omega) (by first | assumption | omega) (by first | assumption | omega) (by first | assumption | omega) (by first | assumption | omega) (by have h9 := hR1.1; have h8 := hpa.2.1; omega) (by first | assumption | omega) (by first | assumption | omega) (by first | assumption | omega) (by first | assumption | omega) (by rw [pn_0 (by rw [← hi]; omega)]; exact hR2_64) ((cc_eq (fun z h1 h2 => hpa.2.2 z (by omega))).mp hcc2_64) (by omega)
        by_cases k29_1 : pl1 i = 1
        · refine g_tswIn (pc := 29) hC (1) (off := 41) 70 dX7_goByPlan_29 k29_1 (by omega) (by decide) (by decide) ?_
          refine g_aload_n (pc := 70) hC 1 dX7_goByPlan_70 rfl rfl ?_
          refine g_get (pc := 71) hC 0 fl_X7_12 dX7_goByPlan_71 rfl rfl ?_
          refine g_iload_n (pc := 74) hC 0 dX7_goByPlan_74 rfl rfl ?_
          refine g_iconst (pc := 75) hC dX7_goByPlan_75 ?_
          refine g_callV (pc := 76) (qr := 6) hC [6, 7, 8, 9, 10, 11, 12] (k_X5_send _ _ _ _ _ _ _ _ _ _ _ _ _ _ _ _ _ _ (md_pn W rch s j) (by first | assumption | omega) (by first | assumption | omega) (by first | assumption | omega) (by first | assumption | omega) (by first | assumption | omega) (by first | assumption | omega) (by first | assumption | omega) (by first | assumption | omega) (by first | assumption | omega) (by first | assumption | omega) (by first | assumption | omega) hpa.1 hR1 (by first | assumption | omega)) cl_X5_send wm_X7_117 dX7_goByPlan_76 rfl rfl rfl rfl rfl (by decide) (by decide) (by omega) (Nat.le_of_ble_eq_true rfl) rfl (fun v9 w9 hq9 => ?_)
          obtain ⟨aw8, rfl, rfl, r_aw8, hR2_76⟩ := hq9
          refine g_ws hC [cO t0 7 [.ref h1, .ref q0, w_fewest, w_whose, w_roomsFound, w_way], cO q0 2 [.ref o0, .ref q1, .ref q2, .int (iI stp)], cA K q1 6 f1, cA K q2 36000 w1, cO o0 1 [.ref o1, .int (iI m), .int (iI rc)], cA K o1 100 od, cO h1 5 [.ref j0, .ref j1, .ref j2, .ref j3, .ref j4, .ref j5, .int (iI aw8), .int (iI cn), .int (iI tp1)], cA K j0 6 kd, cA K j1 6 nb1, cA K j2 6 rm1, cA K j3 6 ts1, cA K j4 24 rw, cA K j5 6 tx1, cO b0 4 [.ref b1, .ref b2, .ref b3, .int (iI pn)], cA K b1 8 pl1, cA K b2 8 pl2, cA K b3 8 pl3] rfl ?_
          refine g_st hC [] rfl ?_
          refine g_goto (pc := 79) hC 110 dX7_goByPlan_79 (by decide) ?_
          refine g_iinc (pc := 110) hC 3 [(2, _), (3, _), (0, _), (1, _)] dX7_goByPlan_110 rfl (by decide) rfl ?_
          refine g_goto (pc := 113) hC 2 dX7_goByPlan_113 (by decide) ?_
          refine g_lv hC [2, 3, 0] [(0, _), (1, _), (2, _)] rfl ?_
          exact ih2 (i + 1) nb1 rm1 ts1 tx1 aw8 tp1 (j + 1) f1 w1 (by first | assumption | omega) (by first | assumption | omega) (by first | assumption | omega) (by first | assumption | omega) (by first | assumption | omega) (by first | assumption | omega) (by have h9 := hR1.1; have h8 := hpa.2.1; omega) (by first | assumption | omega) (by first | assumption | omega) (by first | assumption | omega) (by first | assumption | omega) (by rw [pn_1 hi (by omega) hpk.2]; rw [if_pos (by omega)] at hR2_76; exact hR2_76) hcc1 (by omega)
        by_cases k29_2 : pl1 i = 2
        · refine g_tswIn (pc := 29) hC (2) (off := 53) 82 dX7_goByPlan_29 k29_2 (by omega) (by decide) (by decide) ?_
          refine g_aload_n (pc := 82) hC 1 dX7_goByPlan_82 rfl rfl ?_
          refine g_get (pc := 83) hC 0 fl_X7_12 dX7_goByPlan_83 rfl rfl ?_
          refine g_iload_n (pc := 86) hC 0 dX7_goByPlan_86 rfl rfl ?_
          refine g_iconst (pc := 87) hC dX7_goByPlan_87 ?_
          refine g_callV (pc := 88) (qr := 6) hC [6, 7, 8, 9, 10, 11, 12] (k_X5_send _ _ _ _ _ _ _ _ _ _ _ _ _ _ _ _ _ _ (md_pn W rch s j) (by first | assumption | omega) (by first | assumption | omega) (by first | assumption | omega) (by first | assumption | omega) (by first | assumption | omega) (by first | assumption | omega) (by first | assumption | omega) (by first | assumption | omega) (by first | assumption | omega) (by first | assumption | omega) (by first | assumption | omega) hpa.1 hR1 (by first | assumption | omega)) cl_X5_send wm_X7_117 dX7_goByPlan_88 rfl rfl rfl rfl rfl (by decide) (by decide) (by omega) (Nat.le_of_ble_eq_true rfl) rfl (fun v9 w9 hq9 => ?_)
          obtain ⟨aw9, rfl, rfl, r_aw9, hR2_88⟩ := hq9
          refine g_ws hC [cO t0 7 [.ref h1, .ref q0, w_fewest, w_whose, w_roomsFound, w_way], cO q0 2 [.ref o0, .ref q1, .ref q2, .int (iI stp)], cA K q1 6 f1, cA K q2 36000 w1, cO o0 1 [.ref o1, .int (iI m), .int (iI rc)], cA K o1 100 od, cO h1 5 [.ref j0, .ref j1, .ref j2, .ref j3, .ref j4, .ref j5, .int (iI aw9), .int (iI cn), .int (iI tp1)], cA K j0 6 kd, cA K j1 6 nb1, cA K j2 6 rm1, cA K j3 6 ts1, cA K j4 24 rw, cA K j5 6 tx1, cO b0 4 [.ref b1, .ref b2, .ref b3, .int (iI pn)], cA K b1 8 pl1, cA K b2 8 pl2, cA K b3 8 pl3] rfl ?_
          refine g_st hC [] rfl ?_
          refine g_goto (pc := 91) hC 110 dX7_goByPlan_91 (by decide) ?_
          refine g_iinc (pc := 110) hC 3 [(2, _), (3, _), (0, _), (1, _)] dX7_goByPlan_110 rfl (by decide) rfl ?_
          refine g_goto (pc := 113) hC 2 dX7_goByPlan_113 (by decide) ?_
          refine g_lv hC [2, 3, 0] [(0, _), (1, _), (2, _)] rfl ?_
          exact ih2 (i + 1) nb1 rm1 ts1 tx1 aw9 tp1 (j + 1) f1 w1 (by first | assumption | omega) (by first | assumption | omega) (by first | assumption | omega) (by first | assumption | omega) (by first | assumption | omega) (by first | assumption | omega) (by have h9 := hR1.1; have h8 := hpa.2.1; omega) (by first | assumption | omega) (by first | assumption | omega) (by first | assumption | omega) (by first | assumption | omega) (by rw [pn_2 hi (by omega) hpk.2]; rw [if_pos (by omega)] at hR2_88; exact hR2_88) hcc1 (by omega)
        refine g_tswOut (pc := 29) hC 94 dX7_goByPlan_29 (by omega) (by omega) (by decide) ?_
        refine g_aload_n (pc := 94) hC 1 dX7_goByPlan_94 rfl rfl ?_
        refine g_get (pc := 95) hC 0 fl_X7_12 dX7_goByPlan_95 rfl rfl ?_
        refine g_iload_n (pc := 98) hC 0 dX7_goByPlan_98 rfl rfl ?_
        refine g_bipush (pc := 99) hC (10) dX7_goByPlan_99 (by decide) ?_
        refine g_idiv (pc := 101) hC dX7_goByPlan_101 (by omega) (by omega) ?_
        refine g_iconst (pc := 102) hC dX7_goByPlan_102 ?_
        refine g_iload_n (pc := 103) hC 0 dX7_goByPlan_103 rfl rfl ?_
        refine g_bipush (pc := 104) hC (10) dX7_goByPlan_104 (by decide) ?_
        refine g_irem (pc := 106) hC dX7_goByPlan_106 (by omega) (by omega) ?_
        refine g_callV (pc := 107) (qr := 6) hC [6, 7, 8, 9, 10, 11, 12] (k_X5_change _ _ _ _ _ _ _ _ _ _ _ _ _ _ _ _ _ _ _ (md_pn W rch s j) (by first | assumption | omega) (by first | assumption | omega) (by first | assumption | omega) (by first | assumption | omega) (by first | assumption | omega) (by first | assumption | omega) (by first | assumption | omega) (by first | assumption | omega) (by first | assumption | omega) (by first | assumption | omega) (by first | assumption | omega) (by first | assumption | omega) hpa.1 hR1 (by first | assumption | omega)) cl_X5_change wm_X7_44 dX7_goByPlan_107 rfl rfl rfl rfl rfl (by decide) (by decide) (by omega) (Nat.le_of_ble_eq_true rfl) rfl (fun v9 w9 hq9 => ?_)
        obtain ⟨nb10, rm11, st12, rfl, rfl, r_nb10, r_rm11, r_st12, hR2_107⟩ := hq9
        refine g_ws hC [cO t0 7 [.ref h1, .ref q0, w_fewest, w_whose, w_roomsFound, w_way], cO q0 2 [.ref o0, .ref q1, .ref q2, .int (iI stp)], cA K q1 6 f1, cA K q2 36000 w1, cO o0 1 [.ref o1, .int (iI m), .int (iI rc)], cA K o1 100 od, cO h1 5 [.ref j0, .ref j1, .ref j2, .ref j3, .ref j4, .ref j5, .int (iI ta1), .int (iI cn), .int (iI tp1)], cA K j0 6 kd, cA K j1 6 nb10, cA K j2 6 rm11, cA K j3 6 st12, cA K j4 24 rw, cA K j5 6 tx1, cO b0 4 [.ref b1, .ref b2, .ref b3, .int (iI pn)], cA K b1 8 pl1, cA K b2 8 pl2, cA K b3 8 pl3] rfl ?_
        refine g_st hC [] rfl ?_
        refine g_iinc (pc := 110) hC 3 [(2, _), (3, _), (0, _), (1, _)] dX7_goByPlan_110 rfl (by decide) rfl ?_
        refine g_goto (pc := 113) hC 2 dX7_goByPlan_113 (by decide) ?_
        refine g_lv hC [2, 3, 0] [(0, _), (1, _), (2, _)] rfl ?_
        exact ih2 (i + 1) nb10 rm11 st12 tx1 ta1 tp1 (j + 1) f1 w1 (by first | assumption | omega) (by first | assumption | omega) (by first | assumption | omega) (by first | assumption | omega) (by first | assumption | omega) (by first | assumption | omega) (by have h9 := hR1.1; have h8 := hpa.2.1; omega) (by first | assumption | omega) (by first | assumption | omega) (by first | assumption | omega) (by first | assumption | omega) (by rw [pn_3 hi (by omega) hpk.2]; rw [if_pos (by omega)] at hR2_107; exact hR2_107) hcc1 (by omega)
  refine g_lv hC [1, 2, 0] [(0, _), (1, _), (2, _)] rfl ?_
  exact L2 ((s 22 - 0 : Int).toNat + 1) 0 nb rm st nx aw sp 0 fc wg (by first | assumption | omega) (by first | assumption | omega) (by first | assumption | omega) (by first | assumption | omega) (by first | assumption | omega) (by first | assumption | omega) (by first | assumption | omega) (by first | assumption | omega) (by first | assumption | omega) (by first | assumption | omega) (by first | assumption | omega) (by first | assumption | omega) (by first | assumption | omega) (by omega)
