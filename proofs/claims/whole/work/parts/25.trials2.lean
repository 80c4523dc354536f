theorem ch_1 {s : Int → Int} {p x : Int} (h : 0 ≤ p ∧ p < s 19) : (if 0 ≤ p ∧ p < s 19 then upI s (cx_w 1 + p) x else s) = upI s (1 + p) x := by
  rw [if_pos h]
  rfl
theorem md_tryU {s t : Int → Int} {w x : Int} (hg : md_rg s) (e : t = upI s w x) (hx : 0 ≤ x ∧ x ≤ 9) (hw : (1 ≤ w ∧ w < 7) ∨ (13 ≤ w ∧ w < 19) ∨ (32 ≤ w ∧ w < 38)) : md_rg t ∧ t 0 = s 0 ∧ t 19 = s 19 := by
  have ne : ∀ j, j ≠ w → t j = s j := fun j hj => by rw [e]; exact upI_ne hj
  refine ⟨⟨fun p h1 h2 => ?_, fun j h1 h2 => by rw [ne j (by omega)]; exact hg.2.1 j h1 h2, by rw [ne 19 (by omega)]; exact hg.2.2.1, by rw [ne 0 (by omega)]; exact hg.2.2.2⟩, ne 0 (by omega), ne 19 (by omega)⟩
  obtain ⟨a1, a2, a3, a4, a5⟩ := hg.1 p h1 h2
  have at9 : t w = x := by rw [e]; exact upI_at _ _ _
  refine ⟨?_, by rw [ne _ (by omega)]; exact a2, ?_, by rw [ne _ (by omega)]; exact a4, ?_⟩
  · by_cases hj : 1 + p = w
    · rw [hj, at9]; exact hx
    · rw [ne _ hj]; exact a1
  · by_cases hj : 13 + p = w
    · rw [hj, at9]; exact hx
    · rw [ne _ hj]; exact a3
  · by_cases hj : 32 + p = w
    · rw [hj, at9]; exact hx
    · rw [ne _ hj]; exact a5
set_option maxHeartbeats 4000000 in
set_option maxRecDepth 100000 in
theorem k_X7_waysTo_n {K : gK} (t0 : Nat) (h0 : Nat) (h1 : Nat) (q0 : Nat) (j0 : Nat) (j1 : Nat) (j2 : Nat) (j3 : Nat) (j4 : Nat) (j5 : Nat) (k0 : Nat) (k1 : Nat) (k2 : Nat) (k3 : Nat) (k4 : Nat) (k5 : Nat) (w_fewest : Value) (w_whose : Value) (w_roomsFound : Value) (w_way : Value) (w_facts : Value) (w_weighed : Value) (w_stamp : Value) (p : Int) (q : Int) (x : Int) (n : Int) (ta : Int) (tc : Int) (tp : Int) (aw : Int) (cn : Int) (sp : Int) (tk : Int → Int) (tn : Int → Int) (tr : Int → Int) (ts : Int → Int) (tw : Int → Int) (tx : Int → Int) (kd : Int → Int) (nb : Int → Int) (rm : Int → Int) (st : Int → Int) (rw : Int → Int) (nx : Int → Int) (s : Int → Int) (W : (Int → Int) → Int) (rch : Int) (r_p : rI p) (r_q : rI q) (r_x : rI x) (r_n : rI n) (r_ta : rI ta) (r_tc : rI tc) (r_tp : rI tp) (r_aw : rI aw) (r_cn : rI cn) (r_sp : rI sp) (r_tk : ∀ j, rI (tk j)) (r_tn : ∀ j, rI (tn j)) (r_tr : ∀ j, rI (tr j)) (r_ts : ∀ j, rI (ts j)) (r_tw : ∀ j, rI (tw j)) (r_tx : ∀ j, rI (tx j)) (r_kd : ∀ j, rI (kd j)) (r_nb : ∀ j, rI (nb j)) (r_rm : ∀ j, rI (rm j)) (r_st : ∀ j, rI (st j)) (r_rw : ∀ j, rI (rw j)) (r_nx : ∀ j, rI (nx j)) (hg : md_rg s) (hR9 : cs_R s kd nb rm st rw nx aw cn sp) (hW0 : (∀ b, W b = 0) ∧ rch = 9) (htx : ∀ p, 0 ≤ p → p < 6 → 0 ≤ tx p ∧ tx p ≤ 9) (hp : 0 ≤ p ∧ p < s 19) (hq : 0 ≤ q ∧ q < s 19) (hn : 0 ≤ n ∧ n ≤ 60) (hst0 : s 0 + 61 ≤ 20000) : gMet K yX7_waysTo cX7_waysTo 8 (some .int) 5 0 0 [.ref t0, .ref h0, .int (iI p), .int (iI q), .int (iI x), .int (iI n)] [cO t0 7 [.ref h1, .ref q0, w_fewest, w_whose, w_roomsFound, w_way], cO q0 2 [.null, w_facts, w_weighed, w_stamp], cO h1 5 [.ref j0, .ref j1, .ref j2, .ref j3, .ref j4, .ref j5, .int (iI ta), .int (iI tc), .int (iI tp)], cA K j0 6 tk, cA K j1 6 tn, cA K j2 6 tr, cA K j3 6 ts, cA K j4 24 tw, cA K j5 6 tx, cO h0 5 [.ref k0, .ref k1, .ref k2, .ref k3, .ref k4, .ref k5, .int (iI aw), .int (iI cn), .int (iI sp)], cA K k0 6 kd, cA K k1 6 nb, cA K k2 6 rm, cA K k3 6 st, cA K k4 24 rw, cA K k5 6 nx] (fun v9 w9 => ∃ (tk2 : Int → Int), ∃ (tn2 : Int → Int), ∃ (tr2 : Int → Int), ∃ (ts2 : Int → Int), ∃ (tw2 : Int → Int), ∃ (tx2 : Int → Int), ∃ (ta2 : Int), ∃ (tc2 : Int), ∃ (tp2 : Int), v9 = some (.int (iI (md_up W rch s p q x n.toNat 10))) ∧ w9 = [cO t0 7 [.ref h1, .ref q0, w_fewest, w_whose, w_roomsFound, w_way], cO q0 2 [.null, w_facts, w_weighed, w_stamp], cO h1 5 [.ref j0, .ref j1, .ref j2, .ref j3, .ref j4, .ref j5, .int (iI ta2), .int (iI tc2), .int (iI tp2)], cA K j0 6 tk2, cA K j1 6 tn2, cA K j2 6 tr2, cA K j3 6 ts2, cA K j4 24 tw2, cA K j5 6 tx2, cO h0 5 [.ref k0, .ref k1, .ref k2, .ref k3, .ref k4, .ref k5, .int (iI aw), .int (iI cn), .int (iI sp)], cA K k0 6 kd, cA K k1 6 nb, cA K k2 6 rm, cA K k3 6 st, cA K k4 24 rw, cA K k5 6 nx] ∧ (∀ j, rI (tk2 j)) ∧ (∀ j, rI (tn2 j)) ∧ (∀ j, rI (tr2 j)) ∧ (∀ j, rI (ts2 j)) ∧ (∀ j, rI (tw2 j)) ∧ (∀ j, rI (tx2 j)) ∧ rI ta2 ∧ rI tc2 ∧ rI tp2 ∧ (∀ p, 0 ≤ p → p < 6 → 0 ≤ tx2 p ∧ tx2 p ≤ 9)) := by
  refine g_enter (by decide +kernel) (Nat.le_of_ble_eq_true rfl) (fun G hC hR => ?_)
  refine g_lv hC [0, 1, 2, 3, 4, 5] [(0, _), (1, _), (2, _), (3, _), (4, _), (5, _)] rfl ?_
  have h19 := hg.2.2.1
  have hg0 := hg.2.2.2
  have hcs := hR9.1
  refine g_iconst (pc := 0) hC dX7_waysTo_0 ?_
  refine g_istore (pc := 1) hC [(6, _), (0, _), (1, _), (2, _), (3, _), (4, _), (5, _)] dX7_waysTo_1 (by decide) rfl ?_
  refine g_iconst (pc := 3) hC dX7_waysTo_3 ?_
  refine g_istore (pc := 4) hC [(7, _), (6, _), (0, _), (1, _), (2, _), (3, _), (4, _), (5, _)] dX7_waysTo_4 (by decide) rfl ?_
  have L6 : ∀ (n1 : Nat) (i : Int) (y : Int) (j : Nat) (ks : Int → Int) (ns : Int → Int) (rs : Int → Int) (ts1 : Int → Int) (ws : Int → Int) (tx1 : Int → Int) (ta1 : Int) (tc1 : Int) (tp1 : Int), (rI i) → (rI y) → (∀ j, rI (ks j)) → (∀ j, rI (ns j)) → (∀ j, rI (rs j)) → (∀ j, rI (ts1 j)) → (∀ j, rI (ws j)) → (∀ j, rI (tx1 j)) → (rI ta1) → (rI tc1) → (rI tp1) → (i = (j : Int)) → (i ≤ 10) → (y = md_up W rch s p q x n.toNat j) → (∀ p, 0 ≤ p → p < 6 → 0 ≤ tx1 p ∧ tx1 p ≤ 9) → 10 - i < (n1 : Int) → G 0 0 6 [(0, .ref t0), (1, .ref h0), (2, .int (iI p)), (3, .int (iI q)), (4, .int (iI x)), (5, .int (iI n)), (6, .int (iI y)), (7, .int (iI i))] [] [cO t0 7 [.ref h1, .ref q0, w_fewest, w_whose, w_roomsFound, w_way], cO q0 2 [.null, w_facts, w_weighed, w_stamp], cO h1 5 [.ref j0, .ref j1, .ref j2, .ref j3, .ref j4, .ref j5, .int (iI ta1), .int (iI tc1), .int (iI tp1)], cA K j0 6 ks, cA K j1 6 ns, cA K j2 6 rs, cA K j3 6 ts1, cA K j4 24 ws, cA K j5 6 tx1, cO h0 5 [.ref k0, .ref k1, .ref k2, .ref k3, .ref k4, .ref k5, .int (iI aw), .int (iI cn), .int (iI sp)], cA K k0 6 kd, cA K k1 6 nb, cA K k2 6 rm, cA K k3 6 st, cA K k4 24 rw, cA K k5 6 nx] := by
    intro n1
    induction n1 with
    | zero => intro i y j ks ns rs ts1 ws tx1 ta1 tc1 tp1 r_i r_y r_ks r_ns r_rs r_ts1 r_ws r_tx1 r_ta1 r_tc1 r_tp1 hi hj hy htx1 hm6; exfalso; omega
    | succ n1 ih6 =>
      intro i y j ks ns rs ts1 ws tx1 ta1 tc1 tp1 r_i r_y r_ks r_ns r_rs r_ts1 r_ws r_tx1 r_ta1 r_tc1 r_tp1 hi hj hy htx1 hm6
      have hur := md_up_rng W rch s p q x n.toNat j
      refine g_iload (pc := 6) hC 7 dX7_waysTo_6 rfl ?_
      refine g_bipush (pc := 8) hC (10) dX7_waysTo_8 (by decide) ?_
      refine g_icmp_ge (pc := 10) hC 76 dX7_waysTo_10 (by decide) (by omega) (by omega) (fun c10 => ?_) (fun c10 => ?_)
      · refine g_iload (pc := 76) hC 6 dX7_waysTo_76 rfl ?_
        exact g_iret (pc := 78) hR dX7_waysTo_78 rfl ⟨by omega, by omega⟩ (Nat.le_of_ble_eq_true rfl) ⟨ks, ns, rs, ts1, ws, tx1, ta1, tc1, tp1, ret_eq (by rw [hy, show j = 10 by omega]), rfl, (by first | assumption | omega), (by first | assumption | omega), (by first | assumption | omega), (by first | assumption | omega), (by first | assumption | omega), (by first | assumption | omega), (by first | assumption | omega), (by first | assumption | omega), (by first | assumption | omega), htx1⟩
      · refine g_aload_n (pc := 13) hC 0 dX7_waysTo_13 rfl rfl ?_
        refine g_aload_n (pc := 14) hC 1 dX7_waysTo_14 rfl rfl ?_
        refine g_callV (pc := 15) (qr := 0) hC [0, 2, 3, 4, 5, 6, 7, 8, 9, 10, 11, 12, 13, 14, 15] (k_X7_begin _ _ _ _ _ _ _ _ _ _ _ _ _ _ _ _ _ _ _ _ _ _ _ _ _ _ _ _ _ _ _ _ _ _ _ _ _ _ _ (by first | assumption | omega) (by first | assumption | omega) (by first | assumption | omega) (by first | assumption | omega) (by first | assumption | omega) (by first | assumption | omega) (by first | assumption | omega) (by first | assumption | omega) (by first | assumption | omega) (by first | assumption | omega) (by first | assumption | omega) (by first | assumption | omega) (by first | assumption | omega) (by first | assumption | omega) (by first | assumption | omega) (by first | assumption | omega) (by first | assumption | omega) (by first | assumption | omega) (by first | assumption | omega) (by first | assumption | omega) (by first | assumption | omega)) cl_X7_begin wm_X7_37 dX7_waysTo_15 rfl rfl rfl rfl rfl (by decide) (by decide) (by omega) (Nat.le_of_ble_eq_true rfl) rfl (fun v9 w9 hq9 => ?_)
        obtain ⟨kd3, nb3, rm3, st3, rw3, rfl, rfl, r_kd3, r_nb3, r_rm3, r_st3, r_rw3, hR2_15⟩ := hq9
        refine g_ws hC [cO t0 7 [.ref h1, .ref q0, w_fewest, w_whose, w_roomsFound, w_way], cO q0 2 [.null, w_facts, w_weighed, w_stamp], cO h1 5 [.ref j0, .ref j1, .ref j2, .ref j3, .ref j4, .ref j5, .int (iI aw), .int (iI cn), .int (iI sp)], cA K j0 6 kd3, cA K j1 6 nb3, cA K j2 6 rm3, cA K j3 6 st3, cA K j4 24 rw3, cA K j5 6 tx1, cO h0 5 [.ref k0, .ref k1, .ref k2, .ref k3, .ref k4, .ref k5, .int (iI aw), .int (iI cn), .int (iI sp)], cA K k0 6 kd, cA K k1 6 nb, cA K k2 6 rm, cA K k3 6 st, cA K k4 24 rw, cA K k5 6 nx] rfl ?_
        refine g_st hC [] rfl ?_
        refine g_aload_n (pc := 18) hC 0 dX7_waysTo_18 rfl rfl ?_
        refine g_get (pc := 19) hC 0 fl_X7_12 dX7_waysTo_19 rfl rfl ?_
        refine g_iload_n (pc := 22) hC 2 dX7_waysTo_22 rfl rfl ?_
        refine g_iconst (pc := 23) hC dX7_waysTo_23 ?_
        refine g_iload (pc := 24) hC 7 dX7_waysTo_24 rfl ?_
        refine g_callV (pc := 26) (qr := 2) hC [2, 3, 4, 5, 6, 7, 8] (k_X5_change _ _ _ _ _ _ _ _ _ _ _ _ _ _ _ _ _ _ _ _ (by first | assumption | omega) (by first | assumption | omega) (by first | assumption | omega) (by first | assumption | omega) (by first | assumption | omega) (by first | assumption | omega) (by first | assumption | omega) (by first | assumption | omega) (by first | assumption | omega) (by first | assumption | omega) (by first | assumption | omega) (by first | assumption | omega) (by first | assumption | omega) hR2_15 (by first | assumption | omega)) cl_X5_change wm_X7_44 dX7_waysTo_26 rfl rfl rfl rfl rfl (by decide) (by decide) (by omega) (Nat.le_of_ble_eq_true rfl) rfl (fun v9 w9 hq9 => ?_)
        obtain ⟨nb4, rm4, st4, rfl, rfl, r_nb4, r_rm4, r_st4, hR2_26⟩ := hq9
        refine g_ws hC [cO t0 7 [.ref h1, .ref q0, w_fewest, w_whose, w_roomsFound, w_way], cO q0 2 [.null, w_facts, w_weighed, w_stamp], cO h1 5 [.ref j0, .ref j1, .ref j2, .ref j3, .ref j4, .ref j5, .int (iI aw), .int (iI cn), .int (iI sp)], cA K j0 6 kd3, cA K j1 6 nb4, cA K j2 6 rm4, cA K j3 6 st4, cA K j4 24 rw3, cA K j5 6 tx1, cO h0 5 [.ref k0, .ref k1, .ref k2, .ref k3, .ref k4, .ref k5, .int (iI aw), .int (iI cn), .int (iI sp)], cA K k0 6 kd, cA K k1 6 nb, cA K k2 6 rm, cA K k3 6 st, cA K k4 24 rw, cA K k5 6 nx] rfl ?_
        refine g_st hC [] rfl ?_
        rw [ch_1 hp] at hR2_26
        have htr := md_tryU hg (w := 1 + p) (x := i) rfl (by omega) (by omega)
        refine g_aload_n (pc := 29) hC 0 dX7_waysTo_29 rfl rfl ?_
        refine g_iload (pc := 30) hC 5 dX7_waysTo_30 rfl ?_
        refine g_callV (pc := 32) (qr := 0) hC [0, 1, 2, 3, 4, 5, 6, 7, 8] (k_X7_goOn_n _ _ _ _ _ _ _ _ _ _ _ _ _ _ _ _ _ _ _ _ _ _ _ _ _ _ (upI s (1 + p) i) W rch (by first | assumption | omega) (by first | assumption | omega) (by first | assumption | omega) (by first | assumption | omega) (by first | assumption | omega) (by first | assumption | omega) (by first | assumption | omega) (by first | assumption | omega) (by first | assumption | omega) (by first | assumption | omega) htr.1 hR2_26 (by first | assumption | omega) (by first | assumption | omega) (by rw [htr.2.1]; omega)) cl_X7_goOn wm_X7_48 dX7_waysTo_32 rfl rfl rfl rfl rfl (by decide) (by decide) (by omega) (Nat.le_of_ble_eq_true rfl) rfl (fun v9 w9 hq9 => ?_)
        obtain ⟨st5, nx5, sp5, rfl, rfl, r_st5, r_nx5, r_sp5, hR2_32⟩ := hq9
        refine g_ws hC [cO t0 7 [.ref h1, .ref q0, w_fewest, w_whose, w_roomsFound, w_way], cO q0 2 [.null, w_facts, w_weighed, w_stamp], cO h1 5 [.ref j0, .ref j1, .ref j2, .ref j3, .ref j4, .ref j5, .int (iI aw), .int (iI cn), .int (iI sp5)], cA K j0 6 kd3, cA K j1 6 nb4, cA K j2 6 rm4, cA K j3 6 st5, cA K j4 24 rw3, cA K j5 6 nx5, cO h0 5 [.ref k0, .ref k1, .ref k2, .ref k3, .ref k4, .ref k5, .int (iI aw), .int (iI cn), .int (iI sp)], cA K k0 6 kd, cA K k1 6 nb, cA K k2 6 rm, cA K k3 6 st, cA K k4 24 rw, cA K k5 6 nx] rfl ?_
        refine g_st hC [] rfl ?_
        have h19u : md_goN W rch (upI s (1 + p) i) n.toNat 19 = s 19 := by rw [md_goN_hi (by rw [htr.2.2]; omega) (by omega)]; exact htr.2.2
        have hR2_32q := (hR2_32.2.1 q hq.1 (by rw [h19u]; exact hq.2)).2.2.2.1
        skip
        refine g_iload (pc := 35) hC 6 dX7_waysTo_35 rfl ?_
        refine g_aload_n (pc := 37) hC 0 dX7_waysTo_37 rfl rfl ?_
        refine g_get (pc := 38) hC 0 fl_X7_12 dX7_waysTo_38 rfl rfl ?_
        refine g_iload_n (pc := 41) hC 3 dX7_waysTo_41 rfl rfl ?_
        refine g_fnV (pc := 42) (qr := 2) hC [2] (k_X5_has _ _ _ _ _ _ _ _ _ _ _ (by first | assumption | omega) (by first | assumption | omega)) cl_X5_has wm_X7_80 dX7_waysTo_42 rfl rfl rfl rfl rfl (by decide) (by decide) ⟨by omega, by omega⟩ (Nat.le_of_ble_eq_true rfl) rfl rfl ?_
        refine g_name hC (fun x2 e_x2 => ?_)
        refine g_if_eq (pc := 45) hC 66 dX7_waysTo_45 (by decide) (by omega) (fun c45 => ?_) (fun c45 => ?_)
        · refine g_iconst (pc := 66) hC dX7_waysTo_66 ?_
          refine g_iadd (pc := 67) hC dX7_waysTo_67 ?_
          refine g_istore (pc := 68) hC [(6, _), (0, _), (1, _), (2, _), (3, _), (4, _), (5, _), (7, _)] dX7_waysTo_68 (by decide) rfl ?_
          refine g_iinc (pc := 70) hC 7 [(7, _), (6, _), (0, _), (1, _), (2, _), (3, _), (4, _), (5, _)] dX7_waysTo_70 rfl (by decide) rfl ?_
          refine g_goto (pc := 73) hC 6 dX7_waysTo_73 (by decide) ?_
          refine g_lv hC [2, 3, 4, 5, 6, 7, 1, 0] [(0, _), (1, _), (2, _), (3, _), (4, _), (5, _), (6, _), (7, _)] rfl ?_
          exact ih6 (i + 1) (y + 0) (j + 1) kd3 nb4 rm4 st5 rw3 nx5 aw cn sp5 (by first | assumption | omega) (by first | assumption | omega) (by first | assumption | omega) (by first | assumption | omega) (by first | assumption | omega) (by first | assumption | omega) (by first | assumption | omega) (by first | assumption | omega) (by first | assumption | omega) (by first | assumption | omega) (by first | assumption | omega) (by first | assumption | omega) (by first | assumption | omega) (md_up_s hi (rfl : _ = md_goN W rch (upI s (1 + p) i) n.toNat) hy (by rw [← hR2_32q]; omega)) (fun p h1 h2 => (hR2_32.2.2.2.1 p h1 h2).2.2) (by omega)
        · refine g_aload_n (pc := 48) hC 0 dX7_waysTo_48 rfl rfl ?_
          refine g_get (pc := 49) hC 0 fl_X7_12 dX7_waysTo_49 rfl rfl ?_
          refine g_get (pc := 52) hC 2 fl_X7_56 dX7_waysTo_52 rfl rfl ?_
          refine g_iload_n (pc := 55) hC 3 dX7_waysTo_55 rfl rfl ?_
          refine g_iald (pc := 56) hC 6 dX7_waysTo_56 rfl (by omega) ?_
          have q3 := r_st5 q
          refine g_iload (pc := 57) hC 4 dX7_waysTo_57 rfl ?_
          refine g_icmp_ne (pc := 59) hC 66 dX7_waysTo_59 (by decide) (by omega) (by omega) (fun c59 => ?_) (fun c59 => ?_)
          · refine g_iconst (pc := 66) hC dX7_waysTo_66 ?_
            refine g_iadd (pc := 67) hC dX7_waysTo_67 ?_
            refine g_istore (pc := 68) hC [(6, _), (0, _), (1, _), (2, _), (3, _), (4, _), (5, _), (7, _)] dX7_waysTo_68 (by decide) rfl ?_
            refine g_iinc (pc := 70) hC 7 [(7, _), (6, _), (0, _), (1, _), (2, _), (3, _), (4, _), (5, _)] dX7_waysTo_70 rfl (by decide) rfl ?_
            refine g_goto (pc := 73) hC 6 dX7_waysTo_73 (by decide) ?_
            refine g_lv hC [2, 3, 4, 5, 6, 7, 1, 0] [(0, _), (1, _), (2, _), (3, _), (4, _), (5, _), (6, _), (7, _)] rfl ?_
            exact ih6 (i + 1) (y + 0) (j + 1) kd3 nb4 rm4 st5 rw3 nx5 aw cn sp5 (by first | assumption | omega) (by first | assumption | omega) (by first | assumption | omega) (by first | assumption | omega) (by first | assumption | omega) (by first | assumption | omega) (by first | assumption | omega) (by first | assumption | omega) (by first | assumption | omega) (by first | assumption | omega) (by first | assumption | omega) (by first | assumption | omega) (by first | assumption | omega) (md_up_s hi (rfl : _ = md_goN W rch (upI s (1 + p) i) n.toNat) hy (by rw [← hR2_32q]; omega)) (fun p h1 h2 => (hR2_32.2.2.2.1 p h1 h2).2.2) (by omega)
          · refine g_iconst (pc := 62) hC dX7_waysTo_62 ?_
            refine g_goto (pc := 63) hC 67 dX7_waysTo_63 (by decide) ?_
            refine g_iadd (pc := 67) hC dX7_waysTo_67 ?_
            refine g_istore (pc := 68) hC [(6, _), (0, _), (1, _), (2, _), (3, _), (4, _), (5, _), (7, _)] dX7_waysTo_68 (by decide) rfl ?_
            refine g_iinc (pc := 70) hC 7 [(7, _), (6, _), (0, _), (1, _), (2, _), (3, _), (4, _), (5, _)] dX7_waysTo_70 rfl (by decide) rfl ?_
            refine g_goto (pc := 73) hC 6 dX7_waysTo_73 (by decide) ?_
            refine g_lv hC [2, 3, 4, 5, 6, 7, 1, 0] [(0, _), (1, _), (2, _), (3, _), (4, _), (5, _), (6, _), (7, _)] rfl ?_
            exact ih6 (i + 1) (y + 1) (j + 1) kd3 nb4 rm4 st5 rw3 nx5 aw cn sp5 (by first | assumption | omega) (by first | assumption | omega) (by first | assumption | omega) (by first | assumption | omega) (by first | assumption | omega) (by first | assumption | omega) (by first | assumption | omega) (by first | assumption | omega) (by first | assumption | omega) (by first | assumption | omega) (by first | assumption | omega) (by first | assumption | omega) (by first | assumption | omega) (md_up_s hi (rfl : _ = md_goN W rch (upI s (1 + p) i) n.toNat) hy (by rw [← hR2_32q]; omega)) (fun p h1 h2 => (hR2_32.2.2.2.1 p h1 h2).2.2) (by omega)
  refine g_lv hC [2, 3, 4, 5, 6, 7, 1, 0] [(0, _), (1, _), (2, _), (3, _), (4, _), (5, _), (6, _), (7, _)] rfl ?_
  exact L6 ((10 - 0 : Int).toNat + 1) 0 0 0 tk tn tr ts tw tx ta tc tp (by first | assumption | omega) (by first | assumption | omega) (by first | assumption | omega) (by first | assumption | omega) (by first | assumption | omega) (by first | assumption | omega) (by first | assumption | omega) (by first | assumption | omega) (by first | assumption | omega) (by first | assumption | omega) (by first | assumption | omega) (by first | assumption | omega) (by first | assumption | omega) rfl (by first | assumption | omega) (by omega)
set_option maxHeartbeats 4000000 in
set_option maxRecDepth 100000 in
theorem k_X7_toldOn_n {K : gK} (t0 : Nat) (h0 : Nat) (h1 : Nat) (q0 : Nat) (t1 : Nat) (j0 : Nat) (j1 : Nat) (j2 : Nat) (j3 : Nat) (j4 : Nat) (j5 : Nat) (k0 : Nat) (k1 : Nat) (k2 : Nat) (k3 : Nat) (k4 : Nat) (k5 : Nat) (w_fewest : Value) (w_whose : Value) (w_roomsFound : Value) (w_facts : Value) (w_weighed : Value) (w_stamp : Value) (p : Int) (n : Int) (ta : Int) (tc : Int) (tp : Int) (aw : Int) (cn : Int) (sp : Int) (tk : Int → Int) (tn : Int → Int) (tr : Int → Int) (ts : Int → Int) (tw : Int → Int) (tx : Int → Int) (kd : Int → Int) (nb : Int → Int) (rm : Int → Int) (st : Int → Int) (rw : Int → Int) (nx : Int → Int) (wy : Int → Int) (s : Int → Int) (W : (Int → Int) → Int) (rch : Int) (r_p : rI p) (r_n : rI n) (r_ta : rI ta) (r_tc : rI tc) (r_tp : rI tp) (r_aw : rI aw) (r_cn : rI cn) (r_sp : rI sp) (r_tk : ∀ j, rI (tk j)) (r_tn : ∀ j, rI (tn j)) (r_tr : ∀ j, rI (tr j)) (r_ts : ∀ j, rI (ts j)) (r_tw : ∀ j, rI (tw j)) (r_tx : ∀ j, rI (tx j)) (r_kd : ∀ j, rI (kd j)) (r_nb : ∀ j, rI (nb j)) (r_rm : ∀ j, rI (rm j)) (r_st : ∀ j, rI (st j)) (r_rw : ∀ j, rI (rw j)) (r_nx : ∀ j, rI (nx j)) (r_wy : ∀ j, rI (wy j)) (hg : md_rg s) (hR9 : cs_R s kd nb rm st rw nx aw cn sp) (hW0 : (∀ b, W b = 0) ∧ rch = 9) (htx : ∀ p, 0 ≤ p → p < 6 → 0 ≤ tx p ∧ tx p ≤ 9) (hp : 0 ≤ p ∧ p < s 19) (hn : 0 ≤ n ∧ n ≤ 20) (hst0 : s 0 + 61 ≤ 20000) (hwy : ∀ j, j < 0 ∨ 6 ≤ j → wy j = 0) : gMet K yX7_toldOn cX7_toldOn 7 (some .int) 5 0 0 [.ref t0, .ref h0, .int (iI p), .int (iI n)] [cO t0 7 [.ref h1, .ref q0, w_fewest, w_whose, w_roomsFound, .ref t1], cO q0 2 [.null, w_facts, w_weighed, w_stamp], cO h1 5 [.ref j0, .ref j1, .ref j2, .ref j3, .ref j4, .ref j5, .int (iI ta), .int (iI tc), .int (iI tp)], cA K j0 6 tk, cA K j1 6 tn, cA K j2 6 tr, cA K j3 6 ts, cA K j4 24 tw, cA K j5 6 tx, cO h0 5 [.ref k0, .ref k1, .ref k2, .ref k3, .ref k4, .ref k5, .int (iI aw), .int (iI cn), .int (iI sp)], cA K k0 6 kd, cA K k1 6 nb, cA K k2 6 rm, cA K k3 6 st, cA K k4 24 rw, cA K k5 6 nx, cA K t1 6 wy] (fun v9 w9 => ∃ (tk2 : Int → Int), ∃ (tn2 : Int → Int), ∃ (tr2 : Int → Int), ∃ (ts2 : Int → Int), ∃ (tw2 : Int → Int), ∃ (tx2 : Int → Int), ∃ (ta2 : Int), ∃ (tc2 : Int), ∃ (tp2 : Int), ∃ (wy2 : Int → Int), v9 = some (.int (iI (md_tl W rch s p n.toNat 10))) ∧ w9 = [cO t0 7 [.ref h1, .ref q0, w_fewest, w_whose, w_roomsFound, .ref t1], cO q0 2 [.null, w_facts, w_weighed, w_stamp], cO h1 5 [.ref j0, .ref j1, .ref j2, .ref j3, .ref j4, .ref j5, .int (iI ta2), .int (iI tc2), .int (iI tp2)], cA K j0 6 tk2, cA K j1 6 tn2, cA K j2 6 tr2, cA K j3 6 ts2, cA K j4 24 tw2, cA K j5 6 tx2, cO h0 5 [.ref k0, .ref k1, .ref k2, .ref k3, .ref k4, .ref k5, .int (iI aw), .int (iI cn), .int (iI sp)], cA K k0 6 kd, cA K k1 6 nb, cA K k2 6 rm, cA K k3 6 st, cA K k4 24 rw, cA K k5 6 nx, cA K t1 6 wy2] ∧ (∀ j, rI (tk2 j)) ∧ (∀ j, rI (tn2 j)) ∧ (∀ j, rI (tr2 j)) ∧ (∀ j, rI (ts2 j)) ∧ (∀ j, rI (tw2 j)) ∧ (∀ j, rI (tx2 j)) ∧ rI ta2 ∧ rI tc2 ∧ rI tp2 ∧ (∀ j, rI (wy2 j)) ∧ (∀ p, 0 ≤ p → p < 6 → 0 ≤ tx2 p ∧ tx2 p ≤ 9) ∧ (∀ j, j < 0 ∨ 6 ≤ j → wy2 j = 0)) := by
  refine g_enter (by decide +kernel) (Nat.le_of_ble_eq_true rfl) (fun G hC hR => ?_)
  refine g_lv hC [0, 1, 2, 3] [(0, _), (1, _), (2, _), (3, _)] rfl ?_
  have h19 := hg.2.2.1
  have hg0 := hg.2.2.2
  have hcs := hR9.1
  refine g_iconst (pc := 0) hC dX7_toldOn_0 ?_
  refine g_istore (pc := 1) hC [(4, _), (0, _), (1, _), (2, _), (3, _)] dX7_toldOn_1 (by decide) rfl ?_
  refine g_iconst (pc := 3) hC dX7_toldOn_3 ?_
  refine g_istore (pc := 4) hC [(5, _), (4, _), (0, _), (1, _), (2, _), (3, _)] dX7_toldOn_4 (by decide) rfl ?_
  have L6 : ∀ (n1 : Nat) (i : Int) (x : Int) (y1 : Int → Int) (j : Nat) (ks : Int → Int) (ns : Int → Int) (rs : Int → Int) (ts1 : Int → Int) (ws : Int → Int) (tx1 : Int → Int) (ta1 : Int) (tc1 : Int) (tp1 : Int), (rI i) → (rI x) → (∀ j, rI (y1 j)) → (∀ j, rI (ks j)) → (∀ j, rI (ns j)) → (∀ j, rI (rs j)) → (∀ j, rI (ts1 j)) → (∀ j, rI (ws j)) → (∀ j, rI (tx1 j)) → (rI ta1) → (rI tc1) → (rI tp1) → (i = (j : Int)) → (i ≤ 10) → (x = md_tl W rch s p n.toNat j) → (1 ≤ i → ∀ q, 0 ≤ q → q < s 19 → y1 q = md_goN W rch (upI s (1 + p) 0) n.toNat (1 + q)) → (∀ j, j < 0 ∨ 6 ≤ j → y1 j = 0) → (∀ p, 0 ≤ p → p < 6 → 0 ≤ tx1 p ∧ tx1 p ≤ 9) → 10 - i < (n1 : Int) → G 0 0 6 [(0, .ref t0), (1, .ref h0), (2, .int (iI p)), (3, .int (iI n)), (4, .int (iI x)), (5, .int (iI i))] [] [cO t0 7 [.ref h1, .ref q0, w_fewest, w_whose, w_roomsFound, .ref t1], cO q0 2 [.null, w_facts, w_weighed, w_stamp], cO h1 5 [.ref j0, .ref j1, .ref j2, .ref j3, .ref j4, .ref j5, .int (iI ta1), .int (iI tc1), .int (iI tp1)], cA K j0 6 ks, cA K j1 6 ns, cA K j2 6 rs, cA K j3 6 ts1, cA K j4 24 ws, cA K j5 6 tx1, cO h0 5 [.ref k0, .ref k1, .ref k2, .ref k3, .ref k4, .ref k5, .int (iI aw), .int (iI cn), .int (iI sp)], cA K k0 6 kd, cA K k1 6 nb, cA K k2 6 rm, cA K k3 6 st, cA K k4 24 rw, cA K k5 6 nx, cA K t1 6 y1] := by
    intro n1
    induction n1 with
    | zero => intro i x y1 j ks ns rs ts1 ws tx1 ta1 tc1 tp1 r_i r_x r_y1 r_ks r_ns r_rs r_ts1 r_ws r_tx1 r_ta1 r_tc1 r_tp1 hi hj hx hfi hw1 htx1 hm6; exfalso; omega
    | succ n1 ih6 =>
      intro i x y1 j ks ns rs ts1 ws tx1 ta1 tc1 tp1 r_i r_x r_y1 r_ks r_ns r_rs r_ts1 r_ws r_tx1 r_ta1 r_tc1 r_tp1 hi hj hx hfi hw1 htx1 hm6
      refine g_iload (pc := 6) hC 5 dX7_toldOn_6 rfl ?_
      refine g_bipush (pc := 8) hC (10) dX7_toldOn_8 (by decide) ?_
      refine g_icmp_ge (pc := 10) hC 120 dX7_toldOn_10 (by decide) (by omega) (by omega) (fun c10 => ?_) (fun c10 => ?_)
      · refine g_iload (pc := 120) hC 4 dX7_toldOn_120 rfl ?_
        exact g_iret (pc := 122) hR dX7_toldOn_122 rfl ⟨by omega, by omega⟩ (Nat.le_of_ble_eq_true rfl) ⟨ks, ns, rs, ts1, ws, tx1, ta1, tc1, tp1, y1, ret_eq (by rw [hx, show j = 10 by omega]), rfl, (by first | assumption | omega), (by first | assumption | omega), (by first | assumption | omega), (by first | assumption | omega), (by first | assumption | omega), (by first | assumption | omega), (by first | assumption | omega), (by first | assumption | omega), (by first | assumption | omega), (by first | assumption | omega), htx1, hw1⟩
      · refine g_aload_n (pc := 13) hC 0 dX7_toldOn_13 rfl rfl ?_
        refine g_aload_n (pc := 14) hC 1 dX7_toldOn_14 rfl rfl ?_
        refine g_callV (pc := 15) (qr := 0) hC [0, 2, 3, 4, 5, 6, 7, 8, 9, 10, 11, 12, 13, 14, 15] (k_X7_begin _ _ _ _ _ _ _ _ _ _ _ _ _ _ _ _ _ _ _ _ _ _ _ _ _ _ _ _ _ _ _ _ _ _ _ _ _ _ _ (by first | assumption | omega) (by first | assumption | omega) (by first | assumption | omega) (by first | assumption | omega) (by first | assumption | omega) (by first | assumption | omega) (by first | assumption | omega) (by first | assumption | omega) (by first | assumption | omega) (by first | assumption | omega) (by first | assumption | omega) (by first | assumption | omega) (by first | assumption | omega) (by first | assumption | omega) (by first | assumption | omega) (by first | assumption | omega) (by first | assumption | omega) (by first | assumption | omega) (by first | assumption | omega) (by first | assumption | omega) (by first | assumption | omega)) cl_X7_begin wm_X7_37 dX7_toldOn_15 rfl rfl rfl rfl rfl (by decide) (by decide) (by omega) (Nat.le_of_ble_eq_true rfl) rfl (fun v9 w9 hq9 => ?_)
        obtain ⟨kd3, nb3, rm3, st3, rw3, rfl, rfl, r_kd3, r_nb3, r_rm3, r_st3, r_rw3, hR2_15⟩ := hq9
        refine g_ws hC [cO t0 7 [.ref h1, .ref q0, w_fewest, w_whose, w_roomsFound, .ref t1], cO q0 2 [.null, w_facts, w_weighed, w_stamp], cO h1 5 [.ref j0, .ref j1, .ref j2, .ref j3, .ref j4, .ref j5, .int (iI aw), .int (iI cn), .int (iI sp)], cA K j0 6 kd3, cA K j1 6 nb3, cA K j2 6 rm3, cA K j3 6 st3, cA K j4 24 rw3, cA K j5 6 tx1, cO h0 5 [.ref k0, .ref k1, .ref k2, .ref k3, .ref k4, .ref k5, .int (iI aw), .int (iI cn), .int (iI sp)], cA K k0 6 kd, cA K k1 6 nb, cA K k2 6 rm, cA K k3 6 st, cA K k4 24 rw, cA K k5 6 nx, cA K t1 6 y1] rfl ?_
        refine g_st hC [] rfl ?_
        refine g_aload_n (pc := 18) hC 0 dX7_toldOn_18 rfl rfl ?_
        refine g_get (pc := 19) hC 0 fl_X7_12 dX7_toldOn_19 rfl rfl ?_
        refine g_iload_n (pc := 22) hC 2 dX7_toldOn_22 rfl rfl ?_
        refine g_iconst (pc := 23) hC dX7_toldOn_23 ?_
        refine g_iload (pc := 24) hC 5 dX7_toldOn_24 rfl ?_
        refine g_callV (pc := 26) (qr := 2) hC [2, 3, 4, 5, 6, 7, 8] (k_X5_change _ _ _ _ _ _ _ _ _ _ _ _ _ _ _ _ _ _ _ _ (by first | assumption | omega) (by first | assumption | omega) (by first | assumption | omega) (by first | assumption | omega) (by first | assumption | omega) (by first | assumption | omega) (by first | assumption | omega) (by first | assumption | omega) (by first | assumption | omega) (by first | assumption | omega) (by first | assumption | omega) (by first | assumption | omega) (by first | assumption | omega) hR2_15 (by first | assumption | omega)) cl_X5_change wm_X7_44 dX7_toldOn_26 rfl rfl rfl rfl rfl (by decide) (by decide) (by omega) (Nat.le_of_ble_eq_true rfl) rfl (fun v9 w9 hq9 => ?_)
        obtain ⟨nb4, rm4, st4, rfl, rfl, r_nb4, r_rm4, r_st4, hR2_26⟩ := hq9
        refine g_ws hC [cO t0 7 [.ref h1, .ref q0, w_fewest, w_whose, w_roomsFound, .ref t1], cO q0 2 [.null, w_facts, w_weighed, w_stamp], cO h1 5 [.ref j0, .ref j1, .ref j2, .ref j3, .ref j4, .ref j5, .int (iI aw), .int (iI cn), .int (iI sp)], cA K j0 6 kd3, cA K j1 6 nb4, cA K j2 6 rm4, cA K j3 6 st4, cA K j4 24 rw3, cA K j5 6 tx1, cO h0 5 [.ref k0, .ref k1, .ref k2, .ref k3, .ref k4, .ref k5, .int (iI aw), .int (iI cn), .int (iI sp)], cA K k0 6 kd, cA K k1 6 nb, cA K k2 6 rm, cA K k3 6 st, cA K k4 24 rw, cA K k5 6 nx, cA K t1 6 y1] rfl ?_
        refine g_st hC [] rfl ?_
        rw [ch_1 hp] at hR2_26
        have htr := md_tryU hg (w := 1 + p) (x := i) rfl (by omega) (by omega)
        refine g_aload_n (pc := 29) hC 0 dX7_toldOn_29 rfl rfl ?_
        refine g_iload_n (pc := 30) hC 3 dX7_toldOn_30 rfl rfl ?_
        refine g_callV (pc := 31) (qr := 0) hC [0, 1, 2, 3, 4, 5, 6, 7, 8] (k_X7_goOn_n _ _ _ _ _ _ _ _ _ _ _ _ _ _ _ _ _ _ _ _ _ _ _ _ _ _ (upI s (1 + p) i) W rch (by first | assumption | omega) (by first | assumption | omega) (by first | assumption | omega) (by first | assumption | omega) (by first | assumption | omega) (by first | assumption | omega) (by first | assumption | omega) (by first | assumption | omega) (by first | assumption | omega) (by first | assumption | omega) htr.1 hR2_26 (by first | assumption | omega) (by first | assumption | omega) (by rw [htr.2.1]; omega)) cl_X7_goOn wm_X7_48 dX7_toldOn_31 rfl rfl rfl rfl rfl (by decide) (by decide) (by omega) (Nat.le_of_ble_eq_true rfl) rfl (fun v9 w9 hq9 => ?_)
        obtain ⟨st5, nx5, sp5, rfl, rfl, r_st5, r_nx5, r_sp5, hR2_31⟩ := hq9
        refine g_ws hC [cO t0 7 [.ref h1, .ref q0, w_fewest, w_whose, w_roomsFound, .ref t1], cO q0 2 [.null, w_facts, w_weighed, w_stamp], cO h1 5 [.ref j0, .ref j1, .ref j2, .ref j3, .ref j4, .ref j5, .int (iI aw), .int (iI cn), .int (iI sp5)], cA K j0 6 kd3, cA K j1 6 nb4, cA K j2 6 rm4, cA K j3 6 st5, cA K j4 24 rw3, cA K j5 6 nx5, cO h0 5 [.ref k0, .ref k1, .ref k2, .ref k3, .ref k4, .ref k5, .int (iI aw), .int (iI cn), .int (iI sp)], cA K k0 6 kd, cA K k1 6 nb, cA K k2 6 rm, cA K k3 6 st, cA K k4 24 rw, cA K k5 6 nx, cA K t1 6 y1] rfl ?_
        refine g_st hC [] rfl ?_
        have h19u : md_goN W rch (upI s (1 + p) i) n.toNat 19 = s 19 := by rw [md_goN_hi (by rw [htr.2.2]; omega) (by omega)]; exact htr.2.2
        refine g_iconst (pc := 34) hC dX7_toldOn_34 ?_
        refine g_istore (pc := 35) hC [(6, _), (0, _), (1, _), (2, _), (3, _), (4, _), (5, _)] dX7_toldOn_35 (by decide) rfl ?_
        have L37 : ∀ (n2 : Nat) (q : Int) (y : Int) (y2 : Int → Int) (jq : Nat), (rI q) → (rI y) → (∀ j, rI (y2 j)) → (q = (jq : Int)) → (q ≤ s 19) → (y = md_tq W rch s p n.toNat i x jq) → (∀ z, 0 ≤ z → z < s 19 → (z < q ∨ 1 ≤ i) → y2 z = md_goN W rch (upI s (1 + p) 0) n.toNat (1 + z)) → (∀ j, j < 0 ∨ 6 ≤ j → y2 j = 0) → s 19 - q < (n2 : Int) → G 0 0 37 [(0, .ref t0), (1, .ref h0), (2, .int (iI p)), (3, .int (iI n)), (4, .int (iI y)), (5, .int (iI i)), (6, .int (iI q))] [] [cO t0 7 [.ref h1, .ref q0, w_fewest, w_whose, w_roomsFound, .ref t1], cO q0 2 [.null, w_facts, w_weighed, w_stamp], cO h1 5 [.ref j0, .ref j1, .ref j2, .ref j3, .ref j4, .ref j5, .int (iI aw), .int (iI cn), .int (iI sp5)], cA K j0 6 kd3, cA K j1 6 nb4, cA K j2 6 rm4, cA K j3 6 st5, cA K j4 24 rw3, cA K j5 6 nx5, cO h0 5 [.ref k0, .ref k1, .ref k2, .ref k3, .ref k4, .ref k5, .int (iI aw), .int (iI cn), .int (iI sp)], cA K k0 6 kd, cA K k1 6 nb, cA K k2 6 rm, cA K k3 6 st, cA K k4 24 rw, cA K k5 6 nx, cA K t1 6 y2] := by
          intro n2
          induction n2 with
          | zero => intro q y y2 jq r_q r_y r_y2 hq hq2 hy hfq hw2 hm37; exfalso; omega
          | succ n2 ih37 =>
            intro q y y2 jq r_q r_y r_y2 hq hq2 hy hfq hw2 hm37
            refine g_iload (pc := 37) hC 6 dX7_toldOn_37 rfl ?_
            refine g_aload_n (pc := 39) hC 1 dX7_toldOn_39 rfl rfl ?_
            refine g_get (pc := 40) hC 9 fl_X7_52 dX7_toldOn_40 rfl rfl ?_
            refine g_icmp_ge (pc := 43) hC 114 dX7_toldOn_43 (by decide) (by omega) (by omega) (fun c43 => ?_) (fun c43 => ?_)
            · refine g_iinc (pc := 114) hC 5 [(5, _), (0, _), (1, _), (2, _), (3, _), (4, _), (6, _)] dX7_toldOn_114 rfl (by decide) rfl ?_
              refine g_goto (pc := 117) hC 6 dX7_toldOn_117 (by decide) ?_
              refine g_lv hC [1, 2, 3, 4, 5, 0] [(0, _), (1, _), (2, _), (3, _), (4, _), (5, _)] rfl ?_
              exact ih6 (i + 1) y y2 (j + 1) kd3 nb4 rm4 st5 rw3 nx5 aw cn sp5 (by first | assumption | omega) (by first | assumption | omega) (by first | assumption | omega) (by first | assumption | omega) (by first | assumption | omega) (by first | assumption | omega) (by first | assumption | omega) (by first | assumption | omega) (by first | assumption | omega) (by first | assumption | omega) (by first | assumption | omega) (by first | assumption | omega) (by first | assumption | omega) (by first | assumption | omega) (by rw [hy, show jq = (s 19).toNat by omega, hi, hx]; rfl) (fun _ q q1 q2 => hfq q q1 q2 (by omega)) (by first | assumption | omega) (fun p h1 h2 => (hR2_31.2.2.2.1 p h1 h2).2.2) (by omega)
            · have hcq := (hR2_31.2.1 q (by omega) (by rw [h19u]; omega)).2.2.2.1
              refine g_iload (pc := 46) hC 6 dX7_toldOn_46 rfl ?_
              refine g_bipush (pc := 48) hC (6) dX7_toldOn_48 (by decide) ?_
              refine g_icmp_ge (pc := 50) hC 114 dX7_toldOn_50 (by decide) (by omega) (by omega) (fun c50 => by exfalso; omega) (fun c50 => ?_)
              refine g_iload (pc := 53) hC 5 dX7_toldOn_53 rfl ?_
              refine g_if_ne (pc := 55) hC 75 dX7_toldOn_55 (by decide) (by omega) (fun c55 => ?_) (fun c55 => ?_)
              · have hfq0 := hfq q (by omega) (by omega) (by omega)
                refine g_iload (pc := 75) hC 4 dX7_toldOn_75 rfl ?_
                refine g_aload_n (pc := 77) hC 0 dX7_toldOn_77 rfl rfl ?_
                refine g_get (pc := 78) hC 0 fl_X7_22 dX7_toldOn_78 rfl rfl ?_
                refine g_iload (pc := 81) hC 6 dX7_toldOn_81 rfl ?_
                refine g_iald (pc := 83) hC 16 dX7_toldOn_83 rfl (by omega) ?_
                have q3 := r_y2 q
                refine g_aload_n (pc := 84) hC 0 dX7_toldOn_84 rfl rfl ?_
                refine g_get (pc := 85) hC 0 fl_X7_12 dX7_toldOn_85 rfl rfl ?_
                refine g_get (pc := 88) hC 2 fl_X7_56 dX7_toldOn_88 rfl rfl ?_
                refine g_iload (pc := 91) hC 6 dX7_toldOn_91 rfl ?_
                refine g_iald (pc := 93) hC 6 dX7_toldOn_93 rfl (by omega) ?_
                have q4 := r_st5 q
                refine g_icmp_ne (pc := 94) hC 101 dX7_toldOn_94 (by decide) (by omega) (by omega) (fun c94 => ?_) (fun c94 => ?_)
                · refine g_iconst (pc := 101) hC dX7_toldOn_101 ?_
                  refine g_iload (pc := 102) hC 6 dX7_toldOn_102 rfl ?_
                  refine g_ishl (pc := 104) hC dX7_toldOn_104 ?_
                  refine g_ior (pc := 105) hC dX7_toldOn_105 ?_
                  refine g_istore (pc := 106) hC [(4, _), (0, _), (1, _), (2, _), (3, _), (5, _), (6, _)] dX7_toldOn_106 (by decide) rfl ?_
                  refine g_iinc (pc := 108) hC 6 [(6, _), (4, _), (0, _), (1, _), (2, _), (3, _), (5, _)] dX7_toldOn_108 rfl (by decide) rfl ?_
                  refine g_goto (pc := 111) hC 37 dX7_toldOn_111 (by decide) ?_
                  refine g_lv hC [2, 3, 4, 5, 1, 6, 0] [(0, _), (1, _), (2, _), (3, _), (4, _), (5, _), (6, _)] rfl ?_
                  exact ih37 (q + 1) (bOr y (bShl 1 q)) y2 (jq + 1) (by first | assumption | omega) (bOr_rng _ _) (by first | assumption | omega) (by first | assumption | omega) (by first | assumption | omega) (md_tq_s (t0 := md_goN W rch (upI s (1 + p) 0) n.toNat (1 + q)) hq (rfl : _ = md_goN W rch (upI s (1 + p) i) n.toNat) hy (fun _ => rfl) (by omega)) (fun z z1 z2 z3 => hfq z z1 z2 (by omega)) hw2 (by omega)
                · refine g_iconst (pc := 97) hC dX7_toldOn_97 ?_
                  refine g_goto (pc := 98) hC 105 dX7_toldOn_98 (by decide) ?_
                  refine g_ior (pc := 105) hC dX7_toldOn_105 ?_
                  refine g_istore (pc := 106) hC [(4, _), (0, _), (1, _), (2, _), (3, _), (5, _), (6, _)] dX7_toldOn_106 (by decide) rfl ?_
                  refine g_iinc (pc := 108) hC 6 [(6, _), (4, _), (0, _), (1, _), (2, _), (3, _), (5, _)] dX7_toldOn_108 rfl (by decide) rfl ?_
                  refine g_goto (pc := 111) hC 37 dX7_toldOn_111 (by decide) ?_
                  refine g_lv hC [2, 3, 4, 5, 1, 6, 0] [(0, _), (1, _), (2, _), (3, _), (4, _), (5, _), (6, _)] rfl ?_
                  exact ih37 (q + 1) (bOr y 0) y2 (jq + 1) (by first | assumption | omega) (bOr_rng _ _) (by first | assumption | omega) (by first | assumption | omega) (by first | assumption | omega) (md_tq_s (t0 := md_goN W rch (upI s (1 + p) 0) n.toNat (1 + q)) hq (rfl : _ = md_goN W rch (upI s (1 + p) i) n.toNat) hy (fun _ => rfl) (by omega)) (fun z z1 z2 z3 => hfq z z1 z2 (by omega)) hw2 (by omega)
              · refine g_aload_n (pc := 58) hC 0 dX7_toldOn_58 rfl rfl ?_
                refine g_get (pc := 59) hC 0 fl_X7_22 dX7_toldOn_59 rfl rfl ?_
                refine g_iload (pc := 62) hC 6 dX7_toldOn_62 rfl ?_
                refine g_aload_n (pc := 64) hC 0 dX7_toldOn_64 rfl rfl ?_
                refine g_get (pc := 65) hC 0 fl_X7_12 dX7_toldOn_65 rfl rfl ?_
                refine g_get (pc := 68) hC 2 fl_X7_56 dX7_toldOn_68 rfl rfl ?_
                refine g_iload (pc := 71) hC 6 dX7_toldOn_71 rfl ?_
                refine g_iald (pc := 73) hC 6 dX7_toldOn_73 rfl (by omega) ?_
                have q5 := r_st5 q
                refine g_iast (pc := 74) hC 16 (fun f9 => [_, _, _, _, _, _, _, _, _, _, _, _, _, _, _, _, cA K _ _ f9]) dX7_toldOn_74 rfl (by omega) (fun _ => rfl) (fun y7 e_y7 => ?_)
                have r_y7 := rng_up e_y7 r_y2 (by omega)
                have hy7 : y7 q = st5 q := by rw [e_y7]; exact upI_at _ _ _
                refine g_iload (pc := 75) hC 4 dX7_toldOn_75 rfl ?_
                refine g_aload_n (pc := 77) hC 0 dX7_toldOn_77 rfl rfl ?_
                refine g_get (pc := 78) hC 0 fl_X7_22 dX7_toldOn_78 rfl rfl ?_
                refine g_iload (pc := 81) hC 6 dX7_toldOn_81 rfl ?_
                refine g_iald (pc := 83) hC 16 dX7_toldOn_83 rfl (by omega) ?_
                have q6 := r_y7 q
                refine g_aload_n (pc := 84) hC 0 dX7_toldOn_84 rfl rfl ?_
                refine g_get (pc := 85) hC 0 fl_X7_12 dX7_toldOn_85 rfl rfl ?_
                refine g_get (pc := 88) hC 2 fl_X7_56 dX7_toldOn_88 rfl rfl ?_
                refine g_iload (pc := 91) hC 6 dX7_toldOn_91 rfl ?_
                refine g_iald (pc := 93) hC 6 dX7_toldOn_93 rfl (by omega) ?_
                have q7 := r_st5 q
                refine g_icmp_ne (pc := 94) hC 101 dX7_toldOn_94 (by decide) (by omega) (by omega) (fun c94 => ?_) (fun c94 => ?_)
                · refine g_iconst (pc := 101) hC dX7_toldOn_101 ?_
                  refine g_iload (pc := 102) hC 6 dX7_toldOn_102 rfl ?_
                  refine g_ishl (pc := 104) hC dX7_toldOn_104 ?_
                  refine g_ior (pc := 105) hC dX7_toldOn_105 ?_
                  refine g_istore (pc := 106) hC [(4, _), (0, _), (1, _), (2, _), (3, _), (5, _), (6, _)] dX7_toldOn_106 (by decide) rfl ?_
                  refine g_iinc (pc := 108) hC 6 [(6, _), (4, _), (0, _), (1, _), (2, _), (3, _), (5, _)] dX7_toldOn_108 rfl (by decide) rfl ?_
                  refine g_goto (pc := 111) hC 37 dX7_toldOn_111 (by decide) ?_
                  refine g_lv hC [2, 3, 4, 5, 1, 6, 0] [(0, _), (1, _), (2, _), (3, _), (4, _), (5, _), (6, _)] rfl ?_
                  exact ih37 (q + 1) (bOr y (bShl 1 q)) y7 (jq + 1) (by first | assumption | omega) (bOr_rng _ _) (by first | assumption | omega) (by first | assumption | omega) (by first | assumption | omega) (md_tq_s (t0 := md_goN W rch (upI s (1 + p) 0) n.toNat (1 + q)) hq (rfl : _ = md_goN W rch (upI s (1 + p) i) n.toNat) hy (fun _ => rfl) (by omega)) (tl_first e_y7 (by rw [hcq, show i = 0 by omega]) hfq) (fun j h9 => by rw [e_y7, upI_ne (by omega)]; exact hw2 j h9) (by omega)
                · refine g_iconst (pc := 97) hC dX7_toldOn_97 ?_
                  refine g_goto (pc := 98) hC 105 dX7_toldOn_98 (by decide) ?_
                  refine g_ior (pc := 105) hC dX7_toldOn_105 ?_
                  refine g_istore (pc := 106) hC [(4, _), (0, _), (1, _), (2, _), (3, _), (5, _), (6, _)] dX7_toldOn_106 (by decide) rfl ?_
                  refine g_iinc (pc := 108) hC 6 [(6, _), (4, _), (0, _), (1, _), (2, _), (3, _), (5, _)] dX7_toldOn_108 rfl (by decide) rfl ?_
                  refine g_goto (pc := 111) hC 37 dX7_toldOn_111 (by decide) ?_
                  refine g_lv hC [2, 3, 4, 5, 1, 6, 0] [(0, _), (1, _), (2, _), (3, _), (4, _), (5, _), (6, _)] rfl ?_
                  exact ih37 (q + 1) (bOr y 0) y7 (jq + 1) (by first | assumption | omega) (bOr_rng _ _) (by first | assumption | omega) (by first | assumption | omega) (by first | assumption | omega) (md_tq_s (t0 := md_goN W rch (upI s (1 + p) 0) n.toNat (1 + q)) hq (rfl : _ = md_goN W rch (upI s (1 + p) i) n.toNat) hy (fun _ => rfl) (by omega)) (tl_first e_y7 (by rw [hcq, show i = 0 by omega]) hfq) (fun j h9 => by rw [e_y7, upI_ne (by omega)]; exact hw2 j h9) (by omega)
        refine g_lv hC [1, 2, 3, 4, 5, 6, 0] [(0, _), (1, _), (2, _), (3, _), (4, _), (5, _), (6, _)] rfl ?_
        exact L37 ((s 19 - 0 : Int).toNat + 1) 0 x y1 0 (by first | assumption | omega) (by first | assumption | omega) (by first | assumption | omega) (by first | assumption | omega) (by first | assumption | omega) rfl (fun z z1 z2 z3 => hfi (by omega) z z1 z2) (by first | assumption | omega) (by omega)
  refine g_lv hC [2, 3, 4, 5, 1, 0] [(0, _), (1, _), (2, _), (3, _), (4, _), (5, _)] rfl ?_
  exact L6 ((10 - 0 : Int).toNat + 1) 0 0 wy 0 tk tn tr ts tw tx ta tc tp (by first | assumption | omega) (by first | assumption | omega) (by first | assumption | omega) (by first | assumption | omega) (by first | assumption | omega) (by first | assumption | omega) (by first | assumption | omega) (by first | assumption | omega) (by first | assumption | omega) (by first | assumption | omega) (by first | assumption | omega) (by first | assumption | omega) (by first | assumption | omega) (by first | assumption | omega) rfl (fun h9 => by omega) (by first | assumption | omega) (by first | assumption | omega) (by omega)
set_option maxHeartbeats 4000000 in
set_option maxRecDepth 100000 in
theorem k_X7_waysTo_r {K : gK} (t0 : Nat) (h0 : Nat) (h1 : Nat) (q0 : Nat) (o0 : Nat) (q1 : Nat) (q2 : Nat) (o1 : Nat) (j0 : Nat) (j1 : Nat) (j2 : Nat) (j3 : Nat) (j4 : Nat) (j5 : Nat) (k0 : Nat) (k1 : Nat) (k2 : Nat) (k3 : Nat) (k4 : Nat) (k5 : Nat) (w_fewest : Value) (w_whose : Value) (w_roomsFound : Value) (w_way : Value) (p : Int) (q : Int) (x : Int) (n : Int) (stp : Int) (m : Int) (rc : Int) (ta : Int) (tc : Int) (tp : Int) (aw : Int) (cn : Int) (sp : Int) (fc : Int → Int) (wg : Int → Int) (od : Int → Int) (tk : Int → Int) (tn : Int → Int) (tr : Int → Int) (ts : Int → Int) (tw : Int → Int) (tx : Int → Int) (kd : Int → Int) (nb : Int → Int) (rm : Int → Int) (st : Int → Int) (rw : Int → Int) (nx : Int → Int) (s : Int → Int) (W : (Int → Int) → Int) (rch : Int) (r_p : rI p) (r_q : rI q) (r_x : rI x) (r_n : rI n) (r_stp : rI stp) (r_m : rI m) (r_rc : rI rc) (r_ta : rI ta) (r_tc : rI tc) (r_tp : rI tp) (r_aw : rI aw) (r_cn : rI cn) (r_sp : rI sp) (r_fc : ∀ j, rI (fc j)) (r_wg : ∀ j, rI (wg j)) (r_od : ∀ j, rI (od j)) (r_tk : ∀ j, rI (tk j)) (r_tn : ∀ j, rI (tn j)) (r_tr : ∀ j, rI (tr j)) (r_ts : ∀ j, rI (ts j)) (r_tw : ∀ j, rI (tw j)) (r_tx : ∀ j, rI (tx j)) (r_kd : ∀ j, rI (kd j)) (r_nb : ∀ j, rI (nb j)) (r_rm : ∀ j, rI (rm j)) (r_st : ∀ j, rI (st j)) (r_rw : ∀ j, rI (rw j)) (r_nx : ∀ j, rI (nx j)) (hg : md_rg s) (hR9 : cs_R s kd nb rm st rw nx aw cn sp) (hho : md_ho W od m) (hcc : md_CC W (fun z => s (26 + z)) wg stp) (hWr : ∀ b, -990 ≤ W b ∧ W b ≤ 990) (hrch : rc = rch) (hrr : 0 ≤ rch ∧ rch ≤ 99) (htx : ∀ p, 0 ≤ p → p < 6 → 0 ≤ tx p ∧ tx p ≤ 9) (hp : 0 ≤ p ∧ p < s 19) (hq : 0 ≤ q ∧ q < s 19) (hn : 0 ≤ n ∧ n ≤ 60) (hst0 : s 0 + 61 ≤ 20000) : gMet K yX7_waysTo cX7_waysTo 8 (some .int) 5 0 0 [.ref t0, .ref h0, .int (iI p), .int (iI q), .int (iI x), .int (iI n)] [cO t0 7 [.ref h1, .ref q0, w_fewest, w_whose, w_roomsFound, w_way], cO q0 2 [.ref o0, .ref q1, .ref q2, .int (iI stp)], cA K q1 6 fc, cA K q2 36000 wg, cO o0 1 [.ref o1, .int (iI m), .int (iI rc)], cA K o1 100 od, cO h1 5 [.ref j0, .ref j1, .ref j2, .ref j3, .ref j4, .ref j5, .int (iI ta), .int (iI tc), .int (iI tp)], cA K j0 6 tk, cA K j1 6 tn, cA K j2 6 tr, cA K j3 6 ts, cA K j4 24 tw, cA K j5 6 tx, cO h0 5 [.ref k0, .ref k1, .ref k2, .ref k3, .ref k4, .ref k5, .int (iI aw), .int (iI cn), .int (iI sp)], cA K k0 6 kd, cA K k1 6 nb, cA K k2 6 rm, cA K k3 6 st, cA K k4 24 rw, cA K k5 6 nx] (fun v9 w9 => ∃ (tk2 : Int → Int), ∃ (tn2 : Int → Int), ∃ (tr2 : Int → Int), ∃ (ts2 : Int → Int), ∃ (tw2 : Int → Int), ∃ (tx2 : Int → Int), ∃ (ta2 : Int), ∃ (tc2 : Int), ∃ (tp2 : Int), ∃ (fc2 : Int → Int), ∃ (wg2 : Int → Int), v9 = some (.int (iI (md_up W rch s p q x n.toNat 10))) ∧ w9 = [cO t0 7 [.ref h1, .ref q0, w_fewest, w_whose, w_roomsFound, w_way], cO q0 2 [.ref o0, .ref q1, .ref q2, .int (iI stp)], cA K q1 6 fc2, cA K q2 36000 wg2, cO o0 1 [.ref o1, .int (iI m), .int (iI rc)], cA K o1 100 od, cO h1 5 [.ref j0, .ref j1, .ref j2, .ref j3, .ref j4, .ref j5, .int (iI ta2), .int (iI tc2), .int (iI tp2)], cA K j0 6 tk2, cA K j1 6 tn2, cA K j2 6 tr2, cA K j3 6 ts2, cA K j4 24 tw2, cA K j5 6 tx2, cO h0 5 [.ref k0, .ref k1, .ref k2, .ref k3, .ref k4, .ref k5, .int (iI aw), .int (iI cn), .int (iI sp)], cA K k0 6 kd, cA K k1 6 nb, cA K k2 6 rm, cA K k3 6 st, cA K k4 24 rw, cA K k5 6 nx] ∧ (∀ j, rI (tk2 j)) ∧ (∀ j, rI (tn2 j)) ∧ (∀ j, rI (tr2 j)) ∧ (∀ j, rI (ts2 j)) ∧ (∀ j, rI (tw2 j)) ∧ (∀ j, rI (tx2 j)) ∧ rI ta2 ∧ rI tc2 ∧ rI tp2 ∧ (∀ j, rI (fc2 j)) ∧ (∀ j, rI (wg2 j)) ∧ (∀ p, 0 ≤ p → p < 6 → 0 ≤ tx2 p ∧ tx2 p ≤ 9) ∧ (md_CC W (fun z => s (26 + z)) wg2 stp)) := by
  refine g_enter (by decide +kernel) (Nat.le_of_ble_eq_true rfl) (fun G hC hR => ?_)
  refine g_lv hC [0, 1, 2, 3, 4, 5] [(0, _), (1, _), (2, _), (3, _), (4, _), (5, _)] rfl ?_
  have h19 := hg.2.2.1
  have hg0 := hg.2.2.2
  have hcs := hR9.1
  refine g_iconst (pc := 0) hC dX7_waysTo_0 ?_
  refine g_istore (pc := 1) hC [(6, _), (0, _), (1, _), (2, _), (3, _), (4, _), (5, _)] dX7_waysTo_1 (by decide) rfl ?_
  refine g_iconst (pc := 3) hC dX7_waysTo_3 ?_
  refine g_istore (pc := 4) hC [(7, _), (6, _), (0, _), (1, _), (2, _), (3, _), (4, _), (5, _)] dX7_waysTo_4 (by decide) rfl ?_
  have L6 : ∀ (n1 : Nat) (i : Int) (y : Int) (j : Nat) (ks : Int → Int) (ns : Int → Int) (rs : Int → Int) (ts1 : Int → Int) (ws : Int → Int) (tx1 : Int → Int) (ta1 : Int) (tc1 : Int) (tp1 : Int) (f1 : Int → Int) (w1 : Int → Int), (rI i) → (rI y) → (∀ j, rI (ks j)) → (∀ j, rI (ns j)) → (∀ j, rI (rs j)) → (∀ j, rI (ts1 j)) → (∀ j, rI (ws j)) → (∀ j, rI (tx1 j)) → (rI ta1) → (rI tc1) → (rI tp1) → (∀ j, rI (f1 j)) → (∀ j, rI (w1 j)) → (i = (j : Int)) → (i ≤ 10) → (y = md_up W rch s p q x n.toNat j) → (∀ p, 0 ≤ p → p < 6 → 0 ≤ tx1 p ∧ tx1 p ≤ 9) → (md_CC W (fun z => s (26 + z)) w1 stp) → 10 - i < (n1 : Int) → G 0 0 6 [(0, .ref t0), (1, .ref h0), (2, .int (iI p)), (3, .int (iI q)), (4, .int (iI x)), (5, .int (iI n)), (6, .int (iI y)), (7, .int (iI i))] [] [cO t0 7 [.ref h1, .ref q0, w_fewest, w_whose, w_roomsFound, w_way], cO q0 2 [.ref o0, .ref q1, .ref q2, .int (iI stp)], cA K q1 6 f1, cA K q2 36000 w1, cO o0 1 [.ref o1, .int (iI m), .int (iI rc)], cA K o1 100 od, cO h1 5 [.ref j0, .ref j1, .ref j2, .ref j3, .ref j4, .ref j5, .int (iI ta1), .int (iI tc1), .int (iI tp1)], cA K j0 6 ks, cA K j1 6 ns, cA K j2 6 rs, cA K j3 6 ts1, cA K j4 24 ws, cA K j5 6 tx1, cO h0 5 [.ref k0, .ref k1, .ref k2, .ref k3, .ref k4, .ref k5, .int (iI aw), .int (iI cn), .int (iI sp)], cA K k0 6 kd, cA K k1 6 nb, cA K k2 6 rm, cA K k3 6 st, cA K k4 24 rw, cA K k5 6 nx] := by
    intro n1
    induction n1 with
    | zero => intro i y j ks ns rs ts1 ws tx1 ta1 tc1 tp1 f1 w1 r_i r_y r_ks r_ns r_rs r_ts1 r_ws r_tx1 r_ta1 r_tc1 r_tp1 r_f1 r_w1 hi hj hy htx1 hcc1 hm6; exfalso; omega
    | succ n1 ih6 =>
      intro i y j ks ns rs ts1 ws tx1 ta1 tc1 tp1 f1 w1 r_i r_y r_ks r_ns r_rs r_ts1 r_ws r_tx1 r_ta1 r_tc1 r_tp1 r_f1 r_w1 hi hj hy htx1 hcc1 hm6
      have hur := md_up_rng W rch s p q x n.toNat j
      refine g_iload (pc := 6) hC 7 dX7_waysTo_6 rfl ?_
      refine g_bipush (pc := 8) hC (10) dX7_waysTo_8 (by decide) ?_
      refine g_icmp_ge (pc := 10) hC 76 dX7_waysTo_10 (by decide) (by omega) (by omega) (fun c10 => ?_) (fun c10 => ?_)
      · refine g_iload (pc := 76) hC 6 dX7_waysTo_76 rfl ?_
        exact g_iret (pc := 78) hR dX7_waysTo_78 rfl ⟨by omega, by omega⟩ (Nat.le_of_ble_eq_true rfl) ⟨ks, ns, rs, ts1, ws, tx1, ta1, tc1, tp1, f1, w1, ret_eq (by rw [hy, show j = 10 by omega]), rfl, (by first | assumption | omega), (by first | assumption | omega), (by first | assumption | omega), (by first | assumption | omega), (by first | assumption | omega), (by first | assumption | omega), (by first | assumption | omega), (by first | assumption | omega), (by first | assumption | omega), (by first | assumption | omega), (by first | assumption | omega), htx1, hcc1⟩
      · refine g_aload_n (pc := 13) hC 0 dX7_waysTo_13 rfl rfl ?_
        refine g_aload_n (pc := 14) hC 1 dX7_waysTo_14 rfl rfl ?_
        refine g_callV (pc := 15) (qr := 0) hC [0, 6, 7, 8, 9, 10, 11, 12, 13, 14, 15, 16, 17, 18, 19] (k_X7_begin _ _ _ _ _ _ _ _ _ _ _ _ _ _ _ _ _ _ _ _ _ _ _ _ _ _ _ _ _ _ _ _ _ _ _ _ _ _ _ (by first | assumption | omega) (by first | assumption | omega) (by first | assumption | omega) (by first | assumption | omega) (by first | assumption | omega) (by first | assumption | omega) (by first | assumption | omega) (by first | assumption | omega) (by first | assumption | omega) (by first | assumption | omega) (by first | assumption | omega) (by first | assumption | omega) (by first | assumption | omega) (by first | assumption | omega) (by first | assumption | omega) (by first | assumption | omega) (by first | assumption | omega) (by first | assumption | omega) (by first | assumption | omega) (by first | assumption | omega) (by first | assumption | omega)) cl_X7_begin wm_X7_37 dX7_waysTo_15 rfl rfl rfl rfl rfl (by decide) (by decide) (by omega) (Nat.le_of_ble_eq_true rfl) rfl (fun v9 w9 hq9 => ?_)
        obtain ⟨kd3, nb3, rm3, st3, rw3, rfl, rfl, r_kd3, r_nb3, r_rm3, r_st3, r_rw3, hR2_15⟩ := hq9
        refine g_ws hC [cO t0 7 [.ref h1, .ref q0, w_fewest, w_whose, w_roomsFound, w_way], cO q0 2 [.ref o0, .ref q1, .ref q2, .int (iI stp)], cA K q1 6 f1, cA K q2 36000 w1, cO o0 1 [.ref o1, .int (iI m), .int (iI rc)], cA K o1 100 od, cO h1 5 [.ref j0, .ref j1, .ref j2, .ref j3, .ref j4, .ref j5, .int (iI aw), .int (iI cn), .int (iI sp)], cA K j0 6 kd3, cA K j1 6 nb3, cA K j2 6 rm3, cA K j3 6 st3, cA K j4 24 rw3, cA K j5 6 tx1, cO h0 5 [.ref k0, .ref k1, .ref k2, .ref k3, .ref k4, .ref k5, .int (iI aw), .int (iI cn), .int (iI sp)], cA K k0 6 kd, cA K k1 6 nb, cA K k2 6 rm, cA K k3 6 st, cA K k4 24 rw, cA K k5 6 nx] rfl ?_
        refine g_st hC [] rfl ?_
        refine g_aload_n (pc := 18) hC 0 dX7_waysTo_18 rfl rfl ?_
        refine g_get (pc := 19) hC 0 fl_X7_12 dX7_waysTo_19 rfl rfl ?_
        refine g_iload_n (pc := 22) hC 2 dX7_waysTo_22 rfl rfl ?_
        refine g_iconst (pc := 23) hC dX7_waysTo_23 ?_
        refine g_iload (pc := 24) hC 7 dX7_waysTo_24 rfl ?_
        refine g_callV (pc := 26) (qr := 6) hC [6, 7, 8, 9, 10, 11, 12] (k_X5_change _ _ _ _ _ _ _ _ _ _ _ _ _ _ _ _ _ _ _ _ (by first | assumption | omega) (by first | assumption | omega) (by first | assumption | omega) (by first | assumption | omega) (by first | assumption | omega) (by first | assumption | omega) (by first | assumption | omega) (by first | assumption | omega) (by first | assumption | omega) (by first | assumption | omega) (by first | assumption | omega) (by first | assumption | omega) (by first | assumption | omega) hR2_15 (by first | assumption | omega)) cl_X5_change wm_X7_44 dX7_waysTo_26 rfl rfl rfl rfl rfl (by decide) (by decide) (by omega) (Nat.le_of_ble_eq_true rfl) rfl (fun v9 w9 hq9 => ?_)
        obtain ⟨nb4, rm4, st4, rfl, rfl, r_nb4, r_rm4, r_st4, hR2_26⟩ := hq9
        refine g_ws hC [cO t0 7 [.ref h1, .ref q0, w_fewest, w_whose, w_roomsFound, w_way], cO q0 2 [.ref o0, .ref q1, .ref q2, .int (iI stp)], cA K q1 6 f1, cA K q2 36000 w1, cO o0 1 [.ref o1, .int (iI m), .int (iI rc)], cA K o1 100 od, cO h1 5 [.ref j0, .ref j1, .ref j2, .ref j3, .ref j4, .ref j5, .int (iI aw), .int (iI cn), .int (iI sp)], cA K j0 6 kd3, cA K j1 6 nb4, cA K j2 6 rm4, cA K j3 6 st4, cA K j4 24 rw3, cA K j5 6 tx1, cO h0 5 [.ref k0, .ref k1, .ref k2, .ref k3, .ref k4, .ref k5, .int (iI aw), .int (iI cn), .int (iI sp)], cA K k0 6 kd, cA K k1 6 nb, cA K k2 6 rm, cA K k3 6 st, cA K k4 24 rw, cA K k5 6 nx] rfl ?_
        refine g_st hC [] rfl ?_
        rw [ch_1 hp] at hR2_26
        have htr := md_tryU hg (w := 1 + p) (x := i) rfl (by omega) (by omega)
        have htc : ∀ u : Int → Int, md_CC W (fun z => (upI s (1 + p) i) (26 + z)) u stp ↔ md_CC W (fun z => s (26 + z)) u stp := fun u => cc_eq (fun z h1 h2 => upI_ne (by omega))
        refine g_aload_n (pc := 29) hC 0 dX7_waysTo_29 rfl rfl ?_
        refine g_iload (pc := 30) hC 5 dX7_waysTo_30 rfl ?_
        refine g_callV (pc := 32) (qr := 0) hC [0, 1, 2, 3, 4, 5, 6, 7, 8, 9, 10, 11, 12] (k_X7_goOn_r _ _ _ _ _ _ _ _ _ _ _ _ _ _ _ _ _ _ _ _ _ _ _ _ _ _ _ _ _ _ _ _ _ (upI s (1 + p) i) W rch (by first | assumption | omega) (by first | assumption | omega) (by first | assumption | omega) (by first | assumption | omega) (by first | assumption | omega) (by first | assumption | omega) (by first | assumption | omega) (by first | assumption | omega) (by first | assumption | omega) (by first | assumption | omega) (by first | assumption | omega) (by first | assumption | omega) (by first | assumption | omega) (by first | assumption | omega) (by first | assumption | omega) (by first | assumption | omega) htr.1 hR2_26 (by first | assumption | omega) ((htc _).mpr hcc1) (by first | assumption | omega) (by first | assumption | omega) (by first | assumption | omega) (by first | assumption | omega) (by rw [htr.2.1]; omega)) cl_X7_goOn wm_X7_48 dX7_waysTo_32 rfl rfl rfl rfl rfl (by decide) (by decide) (by omega) (Nat.le_of_ble_eq_true rfl) rfl (fun v9 w9 hq9 => ?_)
        obtain ⟨st5, nx5, sp5, fc2, wg3, rfl, rfl, r_st5, r_nx5, r_sp5, r_fc2, r_wg3, hR2_32, hcc2_32⟩ := hq9
        refine g_ws hC [cO t0 7 [.ref h1, .ref q0, w_fewest, w_whose, w_roomsFound, w_way], cO q0 2 [.ref o0, .ref q1, .ref q2, .int (iI stp)], cA K q1 6 fc2, cA K q2 36000 wg3, cO o0 1 [.ref o1, .int (iI m), .int (iI rc)], cA K o1 100 od, cO h1 5 [.ref j0, .ref j1, .ref j2, .ref j3, .ref j4, .ref j5, .int (iI aw), .int (iI cn), .int (iI sp5)], cA K j0 6 kd3, cA K j1 6 nb4, cA K j2 6 rm4, cA K j3 6 st5, cA K j4 24 rw3, cA K j5 6 nx5, cO h0 5 [.ref k0, .ref k1, .ref k2, .ref k3, .ref k4, .ref k5, .int (iI aw), .int (iI cn), .int (iI sp)], cA K k0 6 kd, cA K k1 6 nb, cA K k2 6 rm, cA K k3 6 st, cA K k4 24 rw, cA K k5 6 nx] rfl ?_
        refine g_st hC [] rfl ?_
        have h19u : md_goN W rch (upI s (1 + p) i) n.toNat 19 = s 19 := by rw [md_goN_hi (by rw [htr.2.2]; omega) (by omega)]; exact htr.2.2
        have hR2_32q := (hR2_32.2.1 q hq.1 (by rw [h19u]; exact hq.2)).2.2.2.1
        skip
        refine g_iload (pc := 35) hC 6 dX7_waysTo_35 rfl ?_
        refine g_aload_n (pc := 37) hC 0 dX7_waysTo_37 rfl rfl ?_
        refine g_get (pc := 38) hC 0 fl_X7_12 dX7_waysTo_38 rfl rfl ?_
        refine g_iload_n (pc := 41) hC 3 dX7_waysTo_41 rfl rfl ?_
        refine g_fnV (pc := 42) (qr := 6) hC [6] (k_X5_has _ _ _ _ _ _ _ _ _ _ _ (by first | assumption | omega) (by first | assumption | omega)) cl_X5_has wm_X7_80 dX7_waysTo_42 rfl rfl rfl rfl rfl (by decide) (by decide) ⟨by omega, by omega⟩ (Nat.le_of_ble_eq_true rfl) rfl rfl ?_
        refine g_name hC (fun x4 e_x4 => ?_)
        refine g_if_eq (pc := 45) hC 66 dX7_waysTo_45 (by decide) (by omega) (fun c45 => ?_) (fun c45 => ?_)
        · refine g_iconst (pc := 66) hC dX7_waysTo_66 ?_
          refine g_iadd (pc := 67) hC dX7_waysTo_67 ?_
          refine g_istore (pc := 68) hC [(6, _), (0, _), (1, _), (2, _), (3, _), (4, _), (5, _), (7, _)] dX7_waysTo_68 (by decide) rfl ?_
          refine g_iinc (pc := 70) hC 7 [(7, _), (6, _), (0, _), (1, _), (2, _), (3, _), (4, _), (5, _)] dX7_waysTo_70 rfl (by decide) rfl ?_
          refine g_goto (pc := 73) hC 6 dX7_waysTo_73 (by decide) ?_
          refine g_lv hC [2, 3, 4, 5, 6, 7, 1, 0] [(0, _), (1, _), (2, _), (3, _), (4, _), (5, _), (6, _), (7, _)] rfl ?_
          exact ih6 (i + 1) (y + 0) (j + 1) kd3 nb4 rm4 st5 rw3 nx5 aw cn sp5 fc2 wg3 (by first | assumption | omega) (by first | assumption | omega) (by first | assumption | omega) (by first | assumption | omega) (by first | assumption | omega) (by first | assumption | omega) (by first | assumption | omega) (by first | assumption | omega) (by first | assumption | omega) (by first | assumption | omega) (by first | assumption | omega) (by first | assumption | omega) (by first | assumption | omega) (by first | assumption | omega) (by first | assumption | omega) (md_up_s hi (rfl : _ = md_goN W rch (upI s (1 + p) i) n.toNat) hy (by rw [← hR2_32q]; omega)) (fun p h1 h2 => (hR2_32.2.2.2.1 p h1 h2).2.2) ((htc _).mp hcc2_32) (by omega)
        · refine g_aload_n (pc := 48) hC 0 dX7_waysTo_48 rfl rfl ?_
          refine g_get (pc := 49) hC 0 fl_X7_12 dX7_waysTo_49 rfl rfl ?_
          refine g_get (pc := 52) hC 6 fl_X7_56 dX7_waysTo_52 rfl rfl ?_
          refine g_iload_n (pc := 55) hC 3 dX7_waysTo_55 rfl rfl ?_
          refine g_iald (pc := 56) hC 10 dX7_waysTo_56 rfl (by omega) ?_
          have q5 := r_st5 q
          refine g_iload (pc := 57) hC 4 dX7_waysTo_57 rfl ?_
          refine g_icmp_ne (pc := 59) hC 66 dX7_waysTo_59 (by decide) (by omega) (by omega) (fun c59 => ?_) (fun c59 => ?_)
          · refine g_iconst (pc := 66) hC dX7_waysTo_66 ?_
            refine g_iadd (pc := 67) hC dX7_waysTo_67 ?_
            refine g_istore (pc := 68) hC [(6, _), (0, _), (1, _), (2, _), (3, _), (4, _), (5, _), (7, _)] dX7_waysTo_68 (by decide) rfl ?_
            refine g_iinc (pc := 70) hC 7 [(7, _), (6, _), (0, _), (1, _), (2, _), (3, _), (4, _), (5, _)] dX7_waysTo_70 rfl (by decide) rfl ?_
            refine g_goto (pc := 73) hC 6 dX7_waysTo_73 (by decide) ?_
            refine g_lv hC [2, 3, 4, 5, 6, 7, 1, 0] [(0, _), (1, _), (2, _), (3, _), (4, _), (5, _), (6, _), (7, _)] rfl ?_
            exact ih6 (i + 1) (y + 0) (j + 1) kd3 nb4 rm4 st5 rw3 nx5 aw cn sp5 fc2 wg3 (by first | assumption | omega) (by first | assumption | omega) (by first | assumption | omega) (by first | assumption | omega) (by first | assumption | omega) (by first | assumption | omega) (by first | assumption | omega) (by first | assumption | omega) (by first | assumption | omega) (by first | assumption | omega) (by first | assumption | omega) (by first | assumption | omega) (by first | assumption | omega) (by first | assumption | omega) (by first | assumption | omega) (md_up_s hi (rfl : _ = md_goN W rch (upI s (1 + p) i) n.toNat) hy (by rw [← hR2_32q]; omega)) (fun p h1 h2 => (hR2_32.2.2.2.1 p h1 h2).2.2) ((htc _).mp hcc2_32) (by omega)
          · refine g_iconst (pc := 62) hC dX7_waysTo_62 ?_
            refine g_goto (pc := 63) hC 67 dX7_waysTo_63 (by decide) ?_
            refine g_iadd (pc := 67) hC dX7_waysTo_67 ?_
            refine g_istore (pc := 68) hC [(6, _), (0, _), (1, _), (2, _), (3, _), (4, _), (5, _), (7, _)] dX7_waysTo_68 (by decide) rfl ?_
            refine g_iinc (pc := 70) hC 7 [(7, _), (6, _), (0, _), (1, _), (2, _), (3, _), (4, _), (5, _)] dX7_waysTo_70 rfl (by decide) rfl ?_
            refine g_goto (pc := 73) hC 6 dX7_waysTo_73 (by decide) ?_
            refine g_lv hC [2, 3, 4, 5, 6, 7, 1, 0] [(0, _), (1, _), (2, _), (3, _), (4, _), (5, _), (6, _), (7, _)] rfl ?_
            exact ih6 (i + 1) (y + 1) (j + 1) kd3 nb4 rm4 st5 rw3 nx5 aw cn sp5 fc2 wg3 (by first | assumption | omega) (by first | assumption | omega) (by first | assumption | omega) (by first | assumption | omega) (by first | assumption | omega) (by first | assumption | omega) (by first | assumption | omega) (by first | assumption | omega) (by first | assumption | omega) (by first | assumption | omega) (by first | assumption | omega) (by first | assumption | omega) (by first | assumption | omega) (by first | assumption | omega) (by first | assumption | omega) (md_up_s hi (rfl : _ = md_goN W rch (upI s (1 + p) i) n.toNat) hy (by rw [← hR2_32q]; omega)) (fun p h1 h2 => (hR2_32.2.2.2.1 p h1 h2).2.2) ((htc _).mp hcc2_32) (by omega)
  refine g_lv hC [2, 3, 4, 5, 6, 7, 1, 0] [(0, _), (1, _), (2, _), (3, _), (4, _), (5, _), (6, _), (7, _)] rfl ?_
  exact L6 ((10 - 0 : Int).toNat + 1) 0 0 0 tk tn tr ts tw tx ta tc tp fc wg (by first | assumption | omega) (by first | assumption | omega) (by first | assumption | omega) (by first | assumption | omega) (by first | assumption | omega) (by first | assumption | omega) (by first | assumption | omega) (by first | assumption | omega) (by first | assumption | omega) (by first | assumption | omega) (by first | assumption | omega) (by first | assumption | omega) (by first | assumption | omega) (by first | assumption | omega) (by first | assumption | omega) rfl (by first | assumption | omega) (by first | assumption | omega) (by omega)
set_option maxHeartbeats 4000000 in
set_option maxRecDepth 100000 in
theorem k_X7_toldOn_r {K : gK} (t0 : Nat) (h0 : Nat) (h1 : Nat) (q0 : Nat) (t1 : Nat) (o0 : Nat) (q1 : Nat) (q2 : Nat) (o1 : Nat) (j0 : Nat) (j1 : Nat) (j2 : Nat) (j3 : Nat) (j4 : Nat) (j5 : Nat) (k0 : Nat) (k1 : Nat) (k2 : Nat) (k3 : Nat) (k4 : Nat) (k5 : Nat) (w_fewest : Value) (w_whose : Value) (w_roomsFound : Value) (p : Int) (n : Int) (stp : Int) (m : Int) (rc : Int) (ta : Int) (tc : Int) (tp : Int) (aw : Int) (cn : Int) (sp : Int) (fc : Int → Int) (wg : Int → Int) (od : Int → Int) (tk : Int → Int) (tn : Int → Int) (tr : Int → Int) (ts : Int → Int) (tw : Int → Int) (tx : Int → Int) (kd : Int → Int) (nb : Int → Int) (rm : Int → Int) (st : Int → Int) (rw : Int → Int) (nx : Int → Int) (wy : Int → Int) (s : Int → Int) (W : (Int → Int) → Int) (rch : Int) (r_p : rI p) (r_n : rI n) (r_stp : rI stp) (r_m : rI m) (r_rc : rI rc) (r_ta : rI ta) (r_tc : rI tc) (r_tp : rI tp) (r_aw : rI aw) (r_cn : rI cn) (r_sp : rI sp) (r_fc : ∀ j, rI (fc j)) (r_wg : ∀ j, rI (wg j)) (r_od : ∀ j, rI (od j)) (r_tk : ∀ j, rI (tk j)) (r_tn : ∀ j, rI (tn j)) (r_tr : ∀ j, rI (tr j)) (r_ts : ∀ j, rI (ts j)) (r_tw : ∀ j, rI (tw j)) (r_tx : ∀ j, rI (tx j)) (r_kd : ∀ j, rI (kd j)) (r_nb : ∀ j, rI (nb j)) (r_rm : ∀ j, rI (rm j)) (r_st : ∀ j, rI (st j)) (r_rw : ∀ j, rI (rw j)) (r_nx : ∀ j, rI (nx j)) (r_wy : ∀ j, rI (wy j)) (hg : md_rg s) (hR9 : cs_R s kd nb rm st rw nx aw cn sp) (hho : md_ho W od m) (hcc : md_CC W (fun z => s (26 + z)) wg stp) (hWr : ∀ b, -990 ≤ W b ∧ W b ≤ 990) (hrch : rc = rch) (hrr : 0 ≤ rch ∧ rch ≤ 99) (htx : ∀ p, 0 ≤ p → p < 6 → 0 ≤ tx p ∧ tx p ≤ 9) (hp : 0 ≤ p ∧ p < s 19) (hn : 0 ≤ n ∧ n ≤ 20) (hst0 : s 0 + 61 ≤ 20000) (hwy : ∀ j, j < 0 ∨ 6 ≤ j → wy j = 0) : gMet K yX7_toldOn cX7_toldOn 7 (some .int) 5 0 0 [.ref t0, .ref h0, .int (iI p), .int (iI n)] [cO t0 7 [.ref h1, .ref q0, w_fewest, w_whose, w_roomsFound, .ref t1], cO q0 2 [.ref o0, .ref q1, .ref q2, .int (iI stp)], cA K q1 6 fc, cA K q2 36000 wg, cO o0 1 [.ref o1, .int (iI m), .int (iI rc)], cA K o1 100 od, cO h1 5 [.ref j0, .ref j1, .ref j2, .ref j3, .ref j4, .ref j5, .int (iI ta), .int (iI tc), .int (iI tp)], cA K j0 6 tk, cA K j1 6 tn, cA K j2 6 tr, cA K j3 6 ts, cA K j4 24 tw, cA K j5 6 tx, cO h0 5 [.ref k0, .ref k1, .ref k2, .ref k3, .ref k4, .ref k5, .int (iI aw), .int (iI cn), .int (iI sp)], cA K k0 6 kd, cA K k1 6 nb, cA K k2 6 rm, cA K k3 6 st, cA K k4 24 rw, cA K k5 6 nx, cA K t1 6 wy] (fun v9 w9 => ∃ (tk2 : Int → Int), ∃ (tn2 : Int → Int), ∃ (tr2 : Int → Int), ∃ (ts2 : Int → Int), ∃ (tw2 : Int → Int), ∃ (tx2 : Int → Int), ∃ (ta2 : Int), ∃ (tc2 : Int), ∃ (tp2 : Int), ∃ (wy2 : Int → Int), ∃ (fc2 : Int → Int), ∃ (wg2 : Int → Int), v9 = some (.int (iI (md_tl W rch s p n.toNat 10))) ∧ w9 = [cO t0 7 [.ref h1, .ref q0, w_fewest, w_whose, w_roomsFound, .ref t1], cO q0 2 [.ref o0, .ref q1, .ref q2, .int (iI stp)], cA K q1 6 fc2, cA K q2 36000 wg2, cO o0 1 [.ref o1, .int (iI m), .int (iI rc)], cA K o1 100 od, cO h1 5 [.ref j0, .ref j1, .ref j2, .ref j3, .ref j4, .ref j5, .int (iI ta2), .int (iI tc2), .int (iI tp2)], cA K j0 6 tk2, cA K j1 6 tn2, cA K j2 6 tr2, cA K j3 6 ts2, cA K j4 24 tw2, cA K j5 6 tx2, cO h0 5 [.ref k0, .ref k1, .ref k2, .ref k3, .ref k4, .ref k5, .int (iI aw), .int (iI cn), .int (iI sp)], cA K k0 6 kd, cA K k1 6 nb, cA K k2 6 rm, cA K k3 6 st, cA K k4 24 rw, cA K k5 6 nx, cA K t1 6 wy2] ∧ (∀ j, rI (tk2 j)) ∧ (∀ j, rI (tn2 j)) ∧ (∀ j, rI (tr2 j)) ∧ (∀ j, rI (ts2 j)) ∧ (∀ j, rI (tw2 j)) ∧ (∀ j, rI (tx2 j)) ∧ rI ta2 ∧ rI tc2 ∧ rI tp2 ∧ (∀ j, rI (wy2 j)) ∧ (∀ j, rI (fc2 j)) ∧ (∀ j, rI (wg2 j)) ∧ (∀ p, 0 ≤ p → p < 6 → 0 ≤ tx2 p ∧ tx2 p ≤ 9) ∧ (∀ j, j < 0 ∨ 6 ≤ j → wy2 j = 0) ∧ (md_CC W (fun z => s (26 + z)) wg2 stp)) := by
  refine g_enter (by decide +kernel) (Nat.le_of_ble_eq_true rfl) (fun G hC hR => ?_)
  refine g_lv hC [0, 1, 2, 3] [(0, _), (1, _), (2, _), (3, _)] rfl ?_
  have h19 := hg.2.2.1
  have hg0 := hg.2.2.2
  have hcs := hR9.1
  refine g_iconst (pc := 0) hC dX7_toldOn_0 ?_
  refine g_istore (pc := 1) hC [(4, _), (0, _), (1, _), (2, _), (3, _)] dX7_toldOn_1 (by decide) rfl ?_
  refine g_iconst (pc := 3) hC dX7_toldOn_3 ?_
  refine g_istore (pc := 4) hC [(5, _), (4, _), (0, _), (1, _), (2, _), (3, _)] dX7_toldOn_4 (by decide) rfl ?_
  have L6 : ∀ (n1 : Nat) (i : Int) (x : Int) (y1 : Int → Int) (j : Nat) (ks : Int → Int) (ns : Int → Int) (rs : Int → Int) (ts1 : Int → Int) (ws : Int → Int) (tx1 : Int → Int) (ta1 : Int) (tc1 : Int) (tp1 : Int) (f1 : Int → Int) (w1 : Int → Int), (rI i) → (rI x) → (∀ j, rI (y1 j)) → (∀ j, rI (ks j)) → (∀ j, rI (ns j)) → (∀ j, rI (rs j)) → (∀ j, rI (ts1 j)) → (∀ j, rI (ws j)) → (∀ j, rI (tx1 j)) → (rI ta1) → (rI tc1) → (rI tp1) → (∀ j, rI (f1 j)) → (∀ j, rI (w1 j)) → (i = (j : Int)) → (i ≤ 10) → (x = md_tl W rch s p n.toNat j) → (1 ≤ i → ∀ q, 0 ≤ q → q < s 19 → y1 q = md_goN W rch (upI s (1 + p) 0) n.toNat (1 + q)) → (∀ j, j < 0 ∨ 6 ≤ j → y1 j = 0) → (∀ p, 0 ≤ p → p < 6 → 0 ≤ tx1 p ∧ tx1 p ≤ 9) → (md_CC W (fun z => s (26 + z)) w1 stp) → 10 - i < (n1 : Int) → G 0 0 6 [(0, .ref t0), (1, .ref h0), (2, .int (iI p)), (3, .int (iI n)), (4, .int (iI x)), (5, .int (iI i))] [] [cO t0 7 [.ref h1, .ref q0, w_fewest, w_whose, w_roomsFound, .ref t1], cO q0 2 [.ref o0, .ref q1, .ref q2, .int (iI stp)], cA K q1 6 f1, cA K q2 36000 w1, cO o0 1 [.ref o1, .int (iI m), .int (iI rc)], cA K o1 100 od, cO h1 5 [.ref j0, .ref j1, .ref j2, .ref j3, .ref j4, .ref j5, .int (iI ta1), .int (iI tc1), .int (iI tp1)], cA K j0 6 ks, cA K j1 6 ns, cA K j2 6 rs, cA K j3 6 ts1, cA K j4 24 ws, cA K j5 6 tx1, cO h0 5 [.ref k0, .ref k1, .ref k2, .ref k3, .ref k4, .ref k5, .int (iI aw), .int (iI cn), .int (iI sp)], cA K k0 6 kd, cA K k1 6 nb, cA K k2 6 rm, cA K k3 6 st, cA K k4 24 rw, cA K k5 6 nx, cA K t1 6 y1] := by
    intro n1
    induction n1 with
    | zero => intro i x y1 j ks ns rs ts1 ws tx1 ta1 tc1 tp1 f1 w1 r_i r_x r_y1 r_ks r_ns r_rs r_ts1 r_ws r_tx1 r_ta1 r_tc1 r_tp1 r_f1 r_w1 hi hj hx hfi hw1 htx1 hcc1 hm6; exfalso; omega
    | succ n1 ih6 =>
      intro i x y1 j ks ns rs ts1 ws tx1 ta1 tc1 tp1 f1 w1 r_i r_x r_y1 r_ks r_ns r_rs r_ts1 r_ws r_tx1 r_ta1 r_tc1 r_tp1 r_f1 r_w1 hi hj hx hfi hw1 htx1 hcc1 hm6
      refine g_iload (pc := 6) hC 5 dX7_toldOn_6 rfl ?_
      refine g_bipush (pc := 8) hC (10) dX7_toldOn_8 (by decide) ?_
      refine g_icmp_ge (pc := 10) hC 120 dX7_toldOn_10 (by decide) (by omega) (by omega) (fun c10 => ?_) (fun c10 => ?_)
      · refine g_iload (pc := 120) hC 4 dX7_toldOn_120 rfl ?_
        exact g_iret (pc := 122) hR dX7_toldOn_122 rfl ⟨by omega, by omega⟩ (Nat.le_of_ble_eq_true rfl) ⟨ks, ns, rs, ts1, ws, tx1, ta1, tc1, tp1, y1, f1, w1, ret_eq (by rw [hx, show j = 10 by omega]), rfl, (by first | assumption | omega), (by first | assumption | omega), (by first | assumption | omega), (by first | assumption | omega), (by first | assumption | omega), (by first | assumption | omega), (by first | assumption | omega), (by first | assumption | omega), (by first | assumption | omega), (by first | assumption | omega), (by first | assumption | omega), (by first | assumption | omega), htx1, hw1, hcc1⟩
      · refine g_aload_n (pc := 13) hC 0 dX7_toldOn_13 rfl rfl ?_
        refine g_aload_n (pc := 14) hC 1 dX7_toldOn_14 rfl rfl ?_
        refine g_callV (pc := 15) (qr := 0) hC [0, 6, 7, 8, 9, 10, 11, 12, 13, 14, 15, 16, 17, 18, 19] (k_X7_begin _ _ _ _ _ _ _ _ _ _ _ _ _ _ _ _ _ _ _ _ _ _ _ _ _ _ _ _ _ _ _ _ _ _ _ _ _ _ _ (by first | assumption | omega) (by first | assumption | omega) (by first | assumption | omega) (by first | assumption | omega) (by first | assumption | omega) (by first | assumption | omega) (by first | assumption | omega) (by first | assumption | omega) (by first | assumption | omega) (by first | assumption | omega) (by first | assumption | omega) (by first | assumption | omega) (by first | assumption | omega) (by first | assumption | omega) (by first | assumption | omega) (by first | assumption | omega) (by first | assumption | omega) (by first | assumption | omega) (by first | assumption | omega) (by first | assumption | omega) (by first | assumption | omega)) cl_X7_begin wm_X7_37 dX7_toldOn_15 rfl rfl rfl rfl rfl (by decide) (by decide) (by omega) (Nat.le_of_ble_eq_true rfl) rfl (fun v9 w9 hq9 => ?_)
        obtain ⟨kd3, nb3, rm3, st3, rw3, rfl, rfl, r_kd3, r_nb3, r_rm3, r_st3, r_rw3, hR2_15⟩ := hq9
        refine g_ws hC [cO t0 7 [.ref h1, .ref q0, w_fewest, w_whose, w_roomsFound, .ref t1], cO q0 2 [.ref o0, .ref q1, .ref q2, .int (iI stp)], cA K q1 6 f1, cA K q2 36000 w1, cO o0 1 [.ref o1, .int (iI m), .int (iI rc)], cA K o1 100 od, cO h1 5 [.ref j0, .ref j1, .ref j2, .ref j3, .ref j4, .ref j5, .int (iI aw), .int (iI cn), .int (iI sp)], cA K j0 6 kd3, cA K j1 6 nb3, cA K j2 6 rm3, cA K j3 6 st3, cA K j4 24 rw3, cA K j5 6 tx1, cO h0 5 [.ref k0, .ref k1, .ref k2, .ref k3, .ref k4, .ref k5, .int (iI aw), .int (iI cn), .int (iI sp)], cA K k0 6 kd, cA K k1 6 nb, cA K k2 6 rm, cA K k3 6 st, cA K k4 24 rw, cA K k5 6 nx, cA K t1 6 y1] rfl ?_
        refine g_st hC [] rfl ?_
        refine g_aload_n (pc := 18) hC 0 dX7_toldOn_18 rfl rfl ?_
        refine g_get (pc := 19) hC 0 fl_X7_12 dX7_toldOn_19 rfl rfl ?_
        refine g_iload_n (pc := 22) hC 2 dX7_toldOn_22 rfl rfl ?_
        refine g_iconst (pc := 23) hC dX7_toldOn_23 ?_
        refine g_iload (pc := 24) hC 5 dX7_toldOn_24 rfl ?_
        refine g_callV (pc := 26) (qr := 6) hC [6, 7, 8, 9, 10, 11, 12] (k_X5_change _ _ _ _ _ _ _ _ _ _ _ _ _ _ _ _ _ _ _ _ (by first | assumption | omega) (by first | assumption | omega) (by first | assumption | omega) (by first | assumption | omega) (by first | assumption | omega) (by first | assumption | omega) (by first | assumption | omega) (by first | assumption | omega) (by first | assumption | omega) (by first | assumption | omega) (by first | assumption | omega) (by first | assumption | omega) (by first | assumption | omega) hR2_15 (by first | assumption | omega)) cl_X5_change wm_X7_44 dX7_toldOn_26 rfl rfl rfl rfl rfl (by decide) (by decide) (by omega) (Nat.le_of_ble_eq_true rfl) rfl (fun v9 w9 hq9 => ?_)
        obtain ⟨nb4, rm4, st4, rfl, rfl, r_nb4, r_rm4, r_st4, hR2_26⟩ := hq9
        refine g_ws hC [cO t0 7 [.ref h1, .ref q0, w_fewest, w_whose, w_roomsFound, .ref t1], cO q0 2 [.ref o0, .ref q1, .ref q2, .int (iI stp)], cA K q1 6 f1, cA K q2 36000 w1, cO o0 1 [.ref o1, .int (iI m), .int (iI rc)], cA K o1 100 od, cO h1 5 [.ref j0, .ref j1, .ref j2, .ref j3, .ref j4, .ref j5, .int (iI aw), .int (iI cn), .int (iI sp)], cA K j0 6 kd3, cA K j1 6 nb4, cA K j2 6 rm4, cA K j3 6 st4, cA K j4 24 rw3, cA K j5 6 tx1, cO h0 5 [.ref k0, .ref k1, .ref k2, .ref k3, .ref k4, .ref k5, .int (iI aw), .int (iI cn), .int (iI sp)], cA K k0 6 kd, cA K k1 6 nb, cA K k2 6 rm, cA K k3 6 st, cA K k4 24 rw, cA K k5 6 nx, cA K t1 6 y1] rfl ?_
        refine g_st hC [] rfl ?_
        rw [ch_1 hp] at hR2_26
        have htr := md_tryU hg (w := 1 + p) (x := i) rfl (by omega) (by omega)
        have htc : ∀ u : Int → Int, md_CC W (fun z => (upI s (1 + p) i) (26 + z)) u stp ↔ md_CC W (fun z => s (26 + z)) u stp := fun u => cc_eq (fun z h1 h2 => upI_ne (by omega))
        refine g_aload_n (pc := 29) hC 0 dX7_toldOn_29 rfl rfl ?_
        refine g_iload_n (pc := 30) hC 3 dX7_toldOn_30 rfl rfl ?_
        refine g_callV (pc := 31) (qr := 0) hC [0, 1, 2, 3, 4, 5, 6, 7, 8, 9, 10, 11, 12] (k_X7_goOn_r _ _ _ _ _ _ _ _ _ _ _ _ _ _ _ _ _ _ _ _ _ _ _ _ _ _ _ _ _ _ _ _ _ (upI s (1 + p) i) W rch (by first | assumption | omega) (by first | assumption | omega) (by first | assumption | omega) (by first | assumption | omega) (by first | assumption | omega) (by first | assumption | omega) (by first | assumption | omega) (by first | assumption | omega) (by first | assumption | omega) (by first | assumption | omega) (by first | assumption | omega) (by first | assumption | omega) (by first | assumption | omega) (by first | assumption | omega) (by first | assumption | omega) (by first | assumption | omega) htr.1 hR2_26 (by first | assumption | omega) ((htc _).mpr hcc1) (by first | assumption | omega) (by first | assumption | omega) (by first | assumption | omega) (by first | assumption | omega) (by rw [htr.2.1]; omega)) cl_X7_goOn wm_X7_48 dX7_toldOn_31 rfl rfl rfl rfl rfl (by decide) (by decide) (by omega) (Nat.le_of_ble_eq_true rfl) rfl (fun v9 w9 hq9 => ?_)
        obtain ⟨st5, nx5, sp5, fc2, wg3, rfl, rfl, r_st5, r_nx5, r_sp5, r_fc2, r_wg3, hR2_31, hcc2_31⟩ := hq9
        refine g_ws hC [cO t0 7 [.ref h1, .ref q0, w_fewest, w_whose, w_roomsFound, .ref t1], cO q0 2 [.ref o0, .ref q1, .ref q2, .int (iI stp)], cA K q1 6 fc2, cA K q2 36000 wg3, cO o0 1 [.ref o1, .int (iI m), .int (iI rc)], cA K o1 100 od, cO h1 5 [.ref j0, .ref j1, .ref j2, .ref j3, .ref j4, .ref j5, .int (iI aw), .int (iI cn), .int (iI sp5)], cA K j0 6 kd3, cA K j1 6 nb4, cA K j2 6 rm4, cA K j3 6 st5, cA K j4 24 rw3, cA K j5 6 nx5, cO h0 5 [.ref k0, .ref k1, .ref k2, .ref k3, .ref k4, .ref k5, .int (iI aw), .int (iI cn), .int (iI sp)], cA K k0 6 kd, cA K k1 6 nb, cA K k2 6 rm, cA K k3 6 st, cA K k4 24 rw, cA K k5 6 nx, cA K t1 6 y1] rfl ?_
        refine g_st hC [] rfl ?_
        have h19u : md_goN W rch (upI s (1 + p) i) n.toNat 19 = s 19 := by rw [md_goN_hi (by rw [htr.2.2]; omega) (by omega)]; exact htr.2.2
        refine g_iconst (pc := 34) hC dX7_toldOn_34 ?_
        refine g_istore (pc := 35) hC [(6, _), (0, _), (1, _), (2, _), (3, _), (4, _), (5, _)] dX7_toldOn_35 (by decide) rfl ?_
        have L37 : ∀ (n4 : Nat) (q : Int) (y : Int) (y2 : Int → Int) (jq : Nat), (rI q) → (rI y) → (∀ j, rI (y2 j)) → (q = (jq : Int)) → (q ≤ s 19) → (y = md_tq W rch s p n.toNat i x jq) → (∀ z, 0 ≤ z → z < s 19 → (z < q ∨ 1 ≤ i) → y2 z = md_goN W rch (upI s (1 + p) 0) n.toNat (1 + z)) → (∀ j, j < 0 ∨ 6 ≤ j → y2 j = 0) → s 19 - q < (n4 : Int) → G 0 0 37 [(0, .ref t0), (1, .ref h0), (2, .int (iI p)), (3, .int (iI n)), (4, .int (iI y)), (5, .int (iI i)), (6, .int (iI q))] [] [cO t0 7 [.ref h1, .ref q0, w_fewest, w_whose, w_roomsFound, .ref t1], cO q0 2 [.ref o0, .ref q1, .ref q2, .int (iI stp)], cA K q1 6 fc2, cA K q2 36000 wg3, cO o0 1 [.ref o1, .int (iI m), .int (iI rc)], cA K o1 100 od, cO h1 5 [.ref j0, .ref j1, .ref j2, .ref j3, .ref j4, .ref j5, .int (iI aw), .int (iI cn), .int (iI sp5)], cA K j0 6 kd3, cA K j1 6 nb4, cA K j2 6 rm4, cA K j3 6 st5, cA K j4 24 rw3, cA K j5 6 nx5, cO h0 5 [.ref k0, .ref k1, .ref k2, .ref k3, .ref k4, .ref k5, .int (iI aw), .int (iI cn), .int (iI sp)], cA K k0 6 kd, cA K k1 6 nb, cA K k2 6 rm, cA K k3 6 st, cA K k4 24 rw, cA K k5 6 nx, cA K t1 6 y2] := by
          intro n4
          induction n4 with
          | zero => intro q y y2 jq r_q r_y r_y2 hq hq2 hy hfq hw2 hm37; exfalso; omega
          | succ n4 ih37 =>
            intro q y y2 jq r_q r_y r_y2 hq hq2 hy hfq hw2 hm37
            refine g_iload (pc := 37) hC 6 dX7_toldOn_37 rfl ?_
            refine g_aload_n (pc := 39) hC 1 dX7_toldOn_39 rfl rfl ?_
            refine g_get (pc := 40) hC 13 fl_X7_52 dX7_toldOn_40 rfl rfl ?_
            refine g_icmp_ge (pc := 43) hC 114 dX7_toldOn_43 (by decide) (by omega) (by omega) (fun c43 => ?_) (fun c43 => ?_)
            · refine g_iinc (pc := 114) hC 5 [(5, _), (0, _), (1, _), (2, _), (3, _), (4, _), (6, _)] dX7_toldOn_114 rfl (by decide) rfl ?_
              refine g_goto (pc := 117) hC 6 dX7_toldOn_117 (by decide) ?_
              refine g_lv hC [1, 2, 3, 4, 5, 0] [(0, _), (1, _), (2, _), (3, _), (4, _), (5, _)] rfl ?_
              exact ih6 (i + 1) y y2 (j + 1) kd3 nb4 rm4 st5 rw3 nx5 aw cn sp5 fc2 wg3 (by first | assumption | omega) (by first | assumption | omega) (by first | assumption | omega) (by first | assumption | omega) (by first | assumption | omega) (by first | assumption | omega) (by first | assumption | omega) (by first | assumption | omega) (by first | assumption | omega) (by first | assumption | omega) (by first | assumption | omega) (by first | assumption | omega) (by first | assumption | omega) (by first | assumption | omega) (by first | assumption | omega) (by first | assumption | omega) (by rw [hy, show jq = (s 19).toNat by omega, hi, hx]; rfl) (fun _ q q1 q2 => hfq q q1 q2 (by omega)) (by first | assumption | omega) (fun p h1 h2 => (hR2_31.2.2.2.1 p h1 h2).2.2) ((htc _).mp hcc2_31) (by omega)
            · have hcq := (hR2_31.2.1 q (by omega) (by rw [h19u]; omega)).2.2.2.1
              refine g_iload (pc := 46) hC 6 dX7_toldOn_46 rfl ?_
              refine g_bipush (pc := 48) hC (6) dX7_toldOn_48 (by decide) ?_
              refine g_icmp_ge (pc := 50) hC 114 dX7_toldOn_50 (by decide) (by omega) (by omega) (fun c50 => by exfalso; omega) (fun c50 => ?_)
              refine g_iload (pc := 53) hC 5 dX7_toldOn_53 rfl ?_
              refine g_if_ne (pc := 55) hC 75 dX7_toldOn_55 (by decide) (by omega) (fun c55 => ?_) (fun c55 => ?_)
              · have hfq0 := hfq q (by omega) (by omega) (by omega)
                refine g_iload (pc := 75) hC 4 dX7_toldOn_75 rfl ?_
                refine g_aload_n (pc := 77) hC 0 dX7_toldOn_77 rfl rfl ?_
                refine g_get (pc := 78) hC 0 fl_X7_22 dX7_toldOn_78 rfl rfl ?_
                refine g_iload (pc := 81) hC 6 dX7_toldOn_81 rfl ?_
                refine g_iald (pc := 83) hC 20 dX7_toldOn_83 rfl (by omega) ?_
                have q5 := r_y2 q
                refine g_aload_n (pc := 84) hC 0 dX7_toldOn_84 rfl rfl ?_
                refine g_get (pc := 85) hC 0 fl_X7_12 dX7_toldOn_85 rfl rfl ?_
                refine g_get (pc := 88) hC 6 fl_X7_56 dX7_toldOn_88 rfl rfl ?_
                refine g_iload (pc := 91) hC 6 dX7_toldOn_91 rfl ?_
                refine g_iald (pc := 93) hC 10 dX7_toldOn_93 rfl (by omega) ?_
                have q6 := r_st5 q
                refine g_icmp_ne (pc := 94) hC 101 dX7_toldOn_94 (by decide) (by omega) (by omega) (fun c94 => ?_) (fun c94 => ?_)
                · refine g_iconst (pc := 101) hC dX7_toldOn_101 ?_
                  refine g_iload (pc := 102) hC 6 dX7_toldOn_102 rfl ?_
                  refine g_ishl (pc := 104) hC dX7_toldOn_104 ?_
                  refine g_ior (pc := 105) hC dX7_toldOn_105 ?_
                  refine g_istore (pc := 106) hC [(4, _), (0, _), (1, _), (2, _), (3, _), (5, _), (6, _)] dX7_toldOn_106 (by decide) rfl ?_
                  refine g_iinc (pc := 108) hC 6 [(6, _), (4, _), (0, _), (1, _), (2, _), (3, _), (5, _)] dX7_toldOn_108 rfl (by decide) rfl ?_
                  refine g_goto (pc := 111) hC 37 dX7_toldOn_111 (by decide) ?_
                  refine g_lv hC [2, 3, 4, 5, 1, 6, 0] [(0, _), (1, _), (2, _), (3, _), (4, _), (5, _), (6, _)] rfl ?_
                  exact ih37 (q + 1) (bOr y (bShl 1 q)) y2 (jq + 1) (by first | assumption | omega) (bOr_rng _ _) (by first | assumption | omega) (by first | assumption | omega) (by first | assumption | omega) (md_tq_s (t0 := md_goN W rch (upI s (1 + p) 0) n.toNat (1 + q)) hq (rfl : _ = md_goN W rch (upI s (1 + p) i) n.toNat) hy (fun _ => rfl) (by omega)) (fun z z1 z2 z3 => hfq z z1 z2 (by omega)) hw2 (by omega)
                · refine g_iconst (pc := 97) hC dX7_toldOn_97 ?_
                  refine g_goto (pc := 98) hC 105 dX7_toldOn_98 (by decide) ?_
                  refine g_ior (pc := 105) hC dX7_toldOn_105 ?_
                  refine g_istore (pc := 106) hC [(4, _), (0, _), (1, _), (2, _), (3, _), (5, _), (6, _)] dX7_toldOn_106 (by decide) rfl ?_
                  refine g_iinc (pc := 108) hC 6 [(6, _), (4, _), (0, _), (1, _), (2, _), (3, _), (5, _)] dX7_toldOn_108 rfl (by decide) rfl ?_
                  refine g_goto (pc := 111) hC 37 dX7_toldOn_111 (by decide) ?_
                  refine g_lv hC [2, 3, 4, 5, 1, 6, 0] [(0, _), (1, _), (2, _), (3, _), (4, _), (5, _), (6, _)] rfl ?_
                  exact ih37 (q + 1) (bOr y 0) y2 (jq + 1) (by first | assumption | omega) (bOr_rng _ _) (by first | assumption | omega) (by first | assumption | omega) (by first | assumption | omega) (md_tq_s (t0 := md_goN W rch (upI s (1 + p) 0) n.toNat (1 + q)) hq (rfl : _ = md_goN W rch (upI s (1 + p) i) n.toNat) hy (fun _ => rfl) (by omega)) (fun z z1 z2 z3 => hfq z z1 z2 (by omega)) hw2 (by omega)
              · refine g_aload_n (pc := 58) hC 0 dX7_toldOn_58 rfl rfl ?_
                refine g_get (pc := 59) hC 0 fl_X7_22 dX7_toldOn_59 rfl rfl ?_
                refine g_iload (pc := 62) hC 6 dX7_toldOn_62 rfl ?_
                refine g_aload_n (pc := 64) hC 0 dX7_toldOn_64 rfl rfl ?_
                refine g_get (pc := 65) hC 0 fl_X7_12 dX7_toldOn_65 rfl rfl ?_
                refine g_get (pc := 68) hC 6 fl_X7_56 dX7_toldOn_68 rfl rfl ?_
                refine g_iload (pc := 71) hC 6 dX7_toldOn_71 rfl ?_
                refine g_iald (pc := 73) hC 10 dX7_toldOn_73 rfl (by omega) ?_
                have q7 := r_st5 q
                refine g_iast (pc := 74) hC 20 (fun f9 => [_, _, _, _, _, _, _, _, _, _, _, _, _, _, _, _, _, _, _, _, cA K _ _ f9]) dX7_toldOn_74 rfl (by omega) (fun _ => rfl) (fun y7 e_y7 => ?_)
                have r_y7 := rng_up e_y7 r_y2 (by omega)
                have hy7 : y7 q = st5 q := by rw [e_y7]; exact upI_at _ _ _
                refine g_iload (pc := 75) hC 4 dX7_toldOn_75 rfl ?_
                refine g_aload_n (pc := 77) hC 0 dX7_toldOn_77 rfl rfl ?_
                refine g_get (pc := 78) hC 0 fl_X7_22 dX7_toldOn_78 rfl rfl ?_
                refine g_iload (pc := 81) hC 6 dX7_toldOn_81 rfl ?_
                refine g_iald (pc := 83) hC 20 dX7_toldOn_83 rfl (by omega) ?_
                have q8 := r_y7 q
                refine g_aload_n (pc := 84) hC 0 dX7_toldOn_84 rfl rfl ?_
                refine g_get (pc := 85) hC 0 fl_X7_12 dX7_toldOn_85 rfl rfl ?_
                refine g_get (pc := 88) hC 6 fl_X7_56 dX7_toldOn_88 rfl rfl ?_
                refine g_iload (pc := 91) hC 6 dX7_toldOn_91 rfl ?_
                refine g_iald (pc := 93) hC 10 dX7_toldOn_93 rfl (by omega) ?_
                have q9 := r_st5 q
                refine g_icmp_ne (pc := 94) hC 101 dX7_toldOn_94 (by decide) (by omega) (by omega) (fun c94 => ?_) (fun c94 => ?_)
                · refine g_iconst (pc := 101) hC dX7_toldOn_101 ?_
                  refine g_iload (pc := 102) hC 6 dX7_toldOn_102 rfl ?_
                  refine g_ishl (pc := 104) hC dX7_toldOn_104 ?_
                  refine g_ior (pc := 105) hC dX7_toldOn_105 ?_
                  refine g_istore (pc := 106) hC [(4, _), (0, _), (1, _), (2, _), (3, _), (5, _), (6, _)] dX7_toldOn_106 (by decide) rfl ?_
                  refine g_iinc (pc := 108) hC 6 [(6, _), (4, _), (0, _), (1, _), (2, _), (3, _), (5, _)] dX7_toldOn_108 rfl (by decide) rfl ?_
                  refine g_goto (pc := 111) hC 37 dX7_toldOn_111 (by decide) ?_
                  refine g_lv hC [2, 3, 4, 5, 1, 6, 0] [(0, _), (1, _), (2, _), (3, _), (4, _), (5, _), (6, _)] rfl ?_
                  exact ih37 (q + 1) (bOr y (bShl 1 q)) y7 (jq + 1) (by first | assumption | omega) (bOr_rng _ _) (by first | assumption | omega) (by first | assumption | omega) (by first | assumption | omega) (md_tq_s (t0 := md_goN W rch (upI s (1 + p) 0) n.toNat (1 + q)) hq (rfl : _ = md_goN W rch (upI s (1 + p) i) n.toNat) hy (fun _ => rfl) (by omega)) (tl_first e_y7 (by rw [hcq, show i = 0 by omega]) hfq) (fun j h9 => by rw [e_y7, upI_ne (by omega)]; exact hw2 j h9) (by omega)
                · refine g_iconst (pc := 97) hC dX7_toldOn_97 ?_
                  refine g_goto (pc := 98) hC 105 dX7_toldOn_98 (by decide) ?_
                  refine g_ior (pc := 105) hC dX7_toldOn_105 ?_
                  refine g_istore (pc := 106) hC [(4, _), (0, _), (1, _), (2, _), (3, _), (5, _), (6, _)] dX7_toldOn_106 (by decide) rfl ?_
                  refine g_iinc (pc := 108) hC 6 [(6, _), (4, _), (0, _), (1, _), (2, _), (3, _), (5, _)] dX7_toldOn_108 rfl (by decide) rfl ?_
                  refine g_goto (pc := 111) hC 37 dX7_toldOn_111 (by decide) ?_
                  refine g_lv hC [2, 3, 4, 5, 1, 6, 0] [(0, _), (1, _), (2, _), (3, _), (4, _), (5, _), (6, _)] rfl ?_
                  exact ih37 (q + 1) (bOr y 0) y7 (jq + 1) (by first | assumption | omega) (bOr_rng _ _) (by first | assumption | omega) (by first | assumption | omega) (by first | assumption | omega) (md_tq_s (t0 := md_goN W rch (upI s (1 + p) 0) n.toNat (1 + q)) hq (rfl : _ = md_goN W rch (upI s (1 + p) i) n.toNat) hy (fun _ => rfl) (by omega)) (tl_first e_y7 (by rw [hcq, show i = 0 by omega]) hfq) (fun j h9 => by rw [e_y7, upI_ne (by omega)]; exact hw2 j h9) (by omega)
        refine g_lv hC [1, 2, 3, 4, 5, 6, 0] [(0, _), (1, _), (2, _), (3, _), (4, _), (5, _), (6, _)] rfl ?_
        exact L37 ((s 19 - 0 : Int).toNat + 1) 0 x y1 0 (by first | assumption | omega) (by first | assumption | omega) (by first | assumption | omega) (by first | assumption | omega) (by first | assumption | omega) rfl (fun z z1 z2 z3 => hfi (by omega) z z1 z2) (by first | assumption | omega) (by omega)
  refine g_lv hC [2, 3, 4, 5, 1, 0] [(0, _), (1, _), (2, _), (3, _), (4, _), (5, _)] rfl ?_
  exact L6 ((10 - 0 : Int).toNat + 1) 0 0 wy 0 tk tn tr ts tw tx ta tc tp fc wg (by first | assumption | omega) (by first | assumption | omega) (by first | assumption | omega) (by first | assumption | omega) (by first | assumption | omega) (by first | assumption | omega) (by first | assumption | omega) (by first | assumption | omega) (by first | assumption | omega) (by first | assumption | omega) (by first | assumption | omega) (by first | assumption | omega) (by first | assumption | omega) (by first | assumption | omega) (by first | assumption | omega) (by first | assumption | omega) rfl (fun h9 => by omega) (by first | assumption | omega) (by first | assumption | omega) (by first | assumption | omega) (by omega)
