set_option maxHeartbeats 40000000 in
set_option maxRecDepth 100000 in
theorem k_X7_swap {K : gK} (t0 : Nat) (t1 : Nat) (w_trial : Value) (w_pulls : Value) (w_fewest : Value) (w_whose : Value) (w_roomsFound : Value) (i : Int) (k : Int) (wy : Int → Int) (r_i : rI i) (r_k : rI k) (r_wy : ∀ j, rI (wy j)) (hi : 0 ≤ i ∧ i < 6) (hk : 0 ≤ k ∧ k < 6) : gMet K yX7_swap cX7_swap 4 none 0 0 0 [.ref t0, .int (iI i), .int (iI k)] [cO t0 7 [w_trial, w_pulls, w_fewest, w_whose, w_roomsFound, .ref t1], cA K t1 6 wy] (fun v9 w9 => ∃ (wy2 : Int → Int), v9 = none ∧ w9 = [cO t0 7 [w_trial, w_pulls, w_fewest, w_whose, w_roomsFound, .ref t1], cA K t1 6 wy2] ∧ (∀ j, rI (wy2 j)) ∧ (wy2 = upI (upI wy i (wy k)) k (wy i))) := by
  refine g_enter (by decide +kernel) (Nat.le_of_ble_eq_true rfl) (fun G hC hR => ?_)
  refine g_lv hC [0, 1, 2] [(0, _), (1, _), (2, _)] rfl ?_
  refine g_iload_n (pc := 0) hC 1 dX7_swap_0 rfl rfl ?_
  refine g_if_lt (pc := 1) hC 46 dX7_swap_1 (by decide) (by first | exact r_i | assumption | omega) (fun c1 => by exfalso; omega) (fun c1 => ?_)
  refine g_iload_n (pc := 4) hC 1 dX7_swap_4 rfl rfl ?_
  refine g_bipush (pc := 5) hC (6) dX7_swap_5 (by decide) ?_
  refine g_icmp_ge (pc := 7) hC 46 dX7_swap_7 (by decide) (by first | exact r_i | assumption | omega) (by first | assumption | decide | omega) (fun c7 => by exfalso; omega) (fun c7 => ?_)
  refine g_iload_n (pc := 10) hC 2 dX7_swap_10 rfl rfl ?_
  refine g_if_lt (pc := 11) hC 46 dX7_swap_11 (by decide) (by first | exact r_k | assumption | omega) (fun c11 => by exfalso; omega) (fun c11 => ?_)
  refine g_iload_n (pc := 14) hC 2 dX7_swap_14 rfl rfl ?_
  refine g_bipush (pc := 15) hC (6) dX7_swap_15 (by decide) ?_
  refine g_icmp_ge (pc := 17) hC 46 dX7_swap_17 (by decide) (by first | exact r_k | assumption | omega) (by first | assumption | decide | omega) (fun c17 => by exfalso; omega) (fun c17 => ?_)
  refine g_aload_n (pc := 20) hC 0 dX7_swap_20 rfl rfl ?_
  refine g_get (pc := 21) hC 0 fl_X7_22 dX7_swap_21 rfl rfl ?_
  refine g_iload_n (pc := 24) hC 1 dX7_swap_24 rfl rfl ?_
  refine g_iald (pc := 25) hC 1 dX7_swap_25 rfl (by omega) ?_
  have qz1 := r_wy i
  refine g_istore_n (pc := 26) hC [(3, _), (0, _), (1, _), (2, _)] dX7_swap_26 rfl (by decide) rfl ?_
  refine g_aload_n (pc := 27) hC 1 dX7_swap_27 rfl rfl ?_
  refine g_get (pc := 28) hC 0 fl_X7_22 dX7_swap_28 rfl rfl ?_
  refine g_iload_n (pc := 31) hC 2 dX7_swap_31 rfl rfl ?_
  refine g_aload_n (pc := 32) hC 1 dX7_swap_32 rfl rfl ?_
  refine g_get (pc := 33) hC 0 fl_X7_22 dX7_swap_33 rfl rfl ?_
  refine g_iload_n (pc := 36) hC 3 dX7_swap_36 rfl rfl ?_
  refine g_iald (pc := 37) hC 1 dX7_swap_37 rfl (by omega) ?_
  have qz2 := r_wy k
  refine g_iast (pc := 38) hC 1 (fun f9 => [_, cA K _ _ f9]) dX7_swap_38 rfl (by omega) (fun _ => rfl) (fun f5 e_f5 => ?_)
  have r_f5 := rng_up e_f5 r_wy (by first | assumption | decide | omega)
  refine g_aload_n (pc := 39) hC 1 dX7_swap_39 rfl rfl ?_
  refine g_get (pc := 40) hC 0 fl_X7_22 dX7_swap_40 rfl rfl ?_
  refine g_iload_n (pc := 43) hC 3 dX7_swap_43 rfl rfl ?_
  refine g_iload_n (pc := 44) hC 0 dX7_swap_44 rfl rfl ?_
  refine g_iast (pc := 45) hC 1 (fun f9 => [_, cA K _ _ f9]) dX7_swap_45 rfl (by omega) (fun _ => rfl) (fun f6 e_f6 => ?_)
  have r_f6 := rng_up e_f6 r_f5 (by first | assumption | decide | omega)
  exact g_vret (pc := 46) hR dX7_swap_46 rfl ⟨by omega, by omega⟩ (Nat.le_of_ble_eq_true rfl) ⟨f6, rfl, rfl, (by first | assumption | omega), (by rw [e_f6, e_f5])⟩
set_option maxHeartbeats 40000000 in
set_option maxRecDepth 100000 in
theorem k_X7_turnToNextWay {K : gK} (t0 : Nat) (t1 : Nat) (w_trial : Value) (w_pulls : Value) (w_fewest : Value) (w_whose : Value) (w_roomsFound : Value) (n : Int) (wy : Int → Int) (r_n : rI n) (r_wy : ∀ j, rI (wy j)) (hn : 0 ≤ n ∧ n ≤ 6) : gMet K yX7_turnToNextWay cX7_turnToNextWay 7 (some .boolean) 1 0 0 [.ref t0, .int (iI n)] [cO t0 7 [w_trial, w_pulls, w_fewest, w_whose, w_roomsFound, .ref t1], cA K t1 6 wy] (fun v9 w9 => ∃ (r : Int), ∃ (wy2 : Int → Int), ∃ (T : Int), ∃ (G : Int), v9 = some (.int (iI r)) ∧ w9 = [cO t0 7 [w_trial, w_pulls, w_fewest, w_whose, w_roomsFound, .ref t1], cA K t1 6 wy2] ∧ rI r ∧ (∀ j, rI (wy2 j)) ∧ rI T ∧ rI G ∧ (tn_P wy wy2 n r T G)) := by
  refine g_enter (by decide +kernel) (Nat.le_of_ble_eq_true rfl) (fun G hC hR => ?_)
  refine g_lv hC [0, 1] [(0, _), (1, _)] rfl ?_
  refine g_iload_n (pc := 0) hC 1 dX7_turnToNextWay_0 rfl rfl ?_
  refine g_bipush (pc := 1) hC (6) dX7_turnToNextWay_1 (by decide) ?_
  have J13 : ∀ (la : Int), (rI la) → (la = n - 1) → G 0 0 13 [(0, .ref t0), (1, .int (iI n))] [.int (iI la)] [cO t0 7 [w_trial, w_pulls, w_fewest, w_whose, w_roomsFound, .ref t1], cA K t1 6 wy] := by
    intro la r_la hla
    refine g_istore_n (pc := 13) hC [(2, _), (0, _), (1, _)] dX7_turnToNextWay_13 rfl (by decide) rfl ?_
    refine g_iload_n (pc := 14) hC 0 dX7_turnToNextWay_14 rfl rfl ?_
    refine g_iconst (pc := 15) hC dX7_turnToNextWay_15 ?_
    refine g_isub (pc := 16) hC dX7_turnToNextWay_16 ?_
    refine g_istore_n (pc := 17) hC [(3, _), (2, _), (0, _), (1, _)] dX7_turnToNextWay_17 rfl (by decide) rfl ?_
    have L18 : ∀ (n1 : Nat) (tu : Int), (rI tu) → (-2 ≤ tu ∧ tu ≤ la - 1) → (∀ q, tu < q → q < la → wy (q + 1) < wy q) → tu + 3 < (n1 : Int) → G 0 0 18 [(0, .ref t0), (1, .int (iI n)), (2, .int (iI la)), (3, .int (iI tu))] [] [cO t0 7 [w_trial, w_pulls, w_fewest, w_whose, w_roomsFound, .ref t1], cA K t1 6 wy] := by
      intro n1
      induction n1 with
      | zero => intro tu r_tu htu hd hm18; exfalso; omega
      | succ n1 ih18 =>
        intro tu r_tu htu hd hm18
        refine g_iload_n (pc := 18) hC 3 dX7_turnToNextWay_18 rfl rfl ?_
        refine g_if_lt (pc := 19) hC 45 dX7_turnToNextWay_19 (by decide) (by first | exact r_tu | assumption | omega) (fun c19 => ?_) (fun c19 => ?_)
        · refine g_iload_n (pc := 45) hC 3 dX7_turnToNextWay_45 rfl rfl ?_
          refine g_if_ge (pc := 46) hC 51 dX7_turnToNextWay_46 (by decide) (by first | exact r_tu | assumption | omega) (fun c46 => by exfalso; omega) (fun c46 => ?_)
          refine g_iconst (pc := 49) hC dX7_turnToNextWay_49 ?_
          exact g_zret (pc := 50) hR dX7_turnToNextWay_50 rfl (by omega) ⟨by omega, by omega⟩ (Nat.le_of_ble_eq_true rfl) ⟨0, wy, 0, 0, rfl, rfl, (by decide), (by first | assumption | omega), (by decide), (by decide), (Or.inl ⟨rfl, fun q y1 y2 => hd q (by omega) (by omega), rfl⟩)⟩
        · refine g_aload_n (pc := 22) hC 0 dX7_turnToNextWay_22 rfl rfl ?_
          refine g_get (pc := 23) hC 0 fl_X7_22 dX7_turnToNextWay_23 rfl rfl ?_
          refine g_iload_n (pc := 26) hC 3 dX7_turnToNextWay_26 rfl rfl ?_
          refine g_iald (pc := 27) hC 1 dX7_turnToNextWay_27 rfl (by omega) ?_
          have qz2 := r_wy tu
          refine g_aload_n (pc := 28) hC 0 dX7_turnToNextWay_28 rfl rfl ?_
          refine g_get (pc := 29) hC 0 fl_X7_22 dX7_turnToNextWay_29 rfl rfl ?_
          refine g_iload_n (pc := 32) hC 3 dX7_turnToNextWay_32 rfl rfl ?_
          refine g_iconst (pc := 33) hC dX7_turnToNextWay_33 ?_
          refine g_iadd (pc := 34) hC dX7_turnToNextWay_34 ?_
          refine g_iald (pc := 35) hC 1 dX7_turnToNextWay_35 rfl (by omega) ?_
          have qz3 := r_wy (tu + 1)
          refine g_icmp_le (pc := 36) hC 45 dX7_turnToNextWay_36 (by decide) (by first | assumption | decide | omega) (by first | assumption | decide | omega) (fun c36 => ?_) (fun c36 => ?_)
          · refine g_iload_n (pc := 45) hC 3 dX7_turnToNextWay_45 rfl rfl ?_
            refine g_if_ge (pc := 46) hC 51 dX7_turnToNextWay_46 (by decide) (by first | exact r_tu | assumption | omega) (fun c46 => ?_) (fun c46 => by exfalso; omega)
            have J84 : ∀ (g2 : Int), (rI g2) → (tu + 1 ≤ g2 ∧ g2 ≤ la) → (g2 = tu + 1 ∨ wy tu ≤ wy g2) → (∀ q, g2 < q → q ≤ la → wy q < wy tu) → G 0 0 84 [(0, .ref t0), (1, .int (iI n)), (2, .int (iI la)), (3, .int (iI tu)), (4, .int (iI g2))] [] [cO t0 7 [w_trial, w_pulls, w_fewest, w_whose, w_roomsFound, .ref t1], cA K t1 6 wy] := by
              intro g2 r_g2 hg2 hg3 hg4
              refine g_aload_n (pc := 84) hC 0 dX7_turnToNextWay_84 rfl rfl ?_
              refine g_iload_n (pc := 85) hC 3 dX7_turnToNextWay_85 rfl rfl ?_
              refine g_iload (pc := 86) hC 4 dX7_turnToNextWay_86 rfl ?_
              refine g_callV (pc := 88) (qr := 0) hC [0, 1] (k_X7_swap _ _ _ _ _ _ _ _ _ _ (by first | exact r_tu | assumption | omega) (by first | exact r_g2 | assumption | omega) (by first | exact r_wy | assumption | omega) (by first | assumption | omega) (by first | assumption | omega)) cl_X7_swap wm_X7_86 dX7_turnToNextWay_88 rfl rfl rfl rfl rfl (by decide) (by decide) (by omega) (Nat.le_of_ble_eq_true rfl) rfl (fun v9 w9 hq9 => ?_)
              obtain ⟨w1, rfl, rfl, r_w1, hsw_88⟩ := hq9
              refine g_ws hC [cO t0 7 [w_trial, w_pulls, w_fewest, w_whose, w_roomsFound, .ref t1], cA K t1 6 w1] rfl ?_
              refine g_st hC [] rfl ?_
              refine g_iload_n (pc := 91) hC 2 dX7_turnToNextWay_91 rfl rfl ?_
              refine g_istore (pc := 92) hC [(5, _), (0, _), (1, _), (2, _), (3, _), (4, _)] dX7_turnToNextWay_92 (by decide) rfl ?_
              refine g_iload_n (pc := 94) hC 4 dX7_turnToNextWay_94 rfl rfl ?_
              refine g_iconst (pc := 95) hC dX7_turnToNextWay_95 ?_
              refine g_iadd (pc := 96) hC dX7_turnToNextWay_96 ?_
              refine g_istore (pc := 97) hC [(6, _), (5, _), (0, _), (1, _), (2, _), (3, _), (4, _)] dX7_turnToNextWay_97 (by decide) rfl ?_
              have L99 : ∀ (n4 : Nat) (lo : Int) (hg : Int) (w3 : Int → Int), (rI lo) → (rI hg) → (∀ j, rI (w3 j)) → (lo + hg = la + tu + 1 ∧ tu + 1 ≤ lo ∧ lo ≤ hg + 1) → (∀ q, 0 ≤ q → q < 6 → w3 q = if (tu < q ∧ q < lo) ∨ (hg < q ∧ q ≤ la) then w1 (la + tu + 1 - q) else w1 q) → (∀ q, q < 0 ∨ 6 ≤ q → w3 q = wy q) → hg - lo + 2 < (n4 : Int) → G 0 0 99 [(0, .ref t0), (1, .int (iI n)), (2, .int (iI la)), (3, .int (iI tu)), (4, .int (iI g2)), (5, .int (iI hg)), (6, .int (iI lo))] [] [cO t0 7 [w_trial, w_pulls, w_fewest, w_whose, w_roomsFound, .ref t1], cA K t1 6 w3] := by
                intro n4
                induction n4 with
                | zero => intro lo hg w3 r_lo r_hg r_w3 hlh hw3 ho3 hm99; exfalso; omega
                | succ n4 ih99 =>
                  intro lo hg w3 r_lo r_hg r_w3 hlh hw3 ho3 hm99
                  refine g_iload (pc := 99) hC 6 dX7_turnToNextWay_99 rfl ?_
                  refine g_iload (pc := 101) hC 5 dX7_turnToNextWay_101 rfl ?_
                  refine g_icmp_ge (pc := 103) hC 123 dX7_turnToNextWay_103 (by decide) (by first | exact r_lo | assumption | omega) (by first | exact r_hg | assumption | omega) (fun c103 => ?_) (fun c103 => ?_)
                  · refine g_iconst (pc := 123) hC dX7_turnToNextWay_123 ?_
                    exact g_zret (pc := 124) hR dX7_turnToNextWay_124 rfl (by omega) ⟨by omega, by omega⟩ (Nat.le_of_ble_eq_true rfl) ⟨1, w3, tu, g2, rfl, rfl, (by decide), (by first | assumption | omega), (by first | exact r_tu | assumption | omega), (by first | exact r_g2 | assumption | omega), (Or.inr ⟨rfl, ⟨by omega, by omega, by omega⟩, by omega, fun q y1 y2 => hd q y1 (by omega), hg3, fun q y1 y2 => hg4 q y1 (by omega), tn_end hlh (by omega) hla hsw_88 hw3, ho3⟩)⟩
                  · refine g_aload_n (pc := 106) hC 0 dX7_turnToNextWay_106 rfl rfl ?_
                    refine g_iload (pc := 107) hC 6 dX7_turnToNextWay_107 rfl ?_
                    refine g_iload (pc := 109) hC 5 dX7_turnToNextWay_109 rfl ?_
                    refine g_callV (pc := 111) (qr := 0) hC [0, 1] (k_X7_swap _ _ _ _ _ _ _ _ _ _ (by first | exact r_lo | assumption | omega) (by first | exact r_hg | assumption | omega) (by first | exact r_w3 | assumption | omega) (by first | assumption | omega) (by first | assumption | omega)) cl_X7_swap wm_X7_86 dX7_turnToNextWay_111 rfl rfl rfl rfl rfl (by decide) (by decide) (by omega) (Nat.le_of_ble_eq_true rfl) rfl (fun v9 w9 hq9 => ?_)
                    obtain ⟨w4, rfl, rfl, r_w4, hsw_111⟩ := hq9
                    refine g_ws hC [cO t0 7 [w_trial, w_pulls, w_fewest, w_whose, w_roomsFound, .ref t1], cA K t1 6 w4] rfl ?_
                    refine g_st hC [] rfl ?_
                    refine g_iinc (pc := 114) hC 5 [(5, _), (0, _), (1, _), (2, _), (3, _), (4, _), (6, _)] dX7_turnToNextWay_114 rfl (by decide) rfl ?_
                    refine g_iinc (pc := 117) hC 6 [(6, _), (5, _), (0, _), (1, _), (2, _), (3, _), (4, _)] dX7_turnToNextWay_117 rfl (by decide) rfl ?_
                    refine g_goto (pc := 120) hC 99 dX7_turnToNextWay_120 (by decide) ?_
                    refine g_lv hC [2, 3, 4, 5, 6, 1, 0] [(0, _), (1, _), (2, _), (3, _), (4, _), (5, _), (6, _)] rfl ?_
                    exact ih99 (lo + 1) (hg + (-1)) w4 (by first | assumption | omega) (by first | assumption | omega) (by first | exact r_w4 | assumption | omega) (by first | assumption | omega) (tn_step ⟨hlh.1, hlh.2.1⟩ (by omega) (by omega) hw3 hsw_111) (fun q y1 => by rw [hsw_111, upI_ne (by omega), upI_ne (by omega)]; exact ho3 q y1) (by omega)
              refine g_lv hC [2, 3, 4, 5, 6, 1, 0] [(0, _), (1, _), (2, _), (3, _), (4, _), (5, _), (6, _)] rfl ?_
              exact L99 ((la - (tu + 1) + 2 : Int).toNat + 1) (tu + 1) la w1 (by first | assumption | omega) (by first | exact r_la | assumption | omega) (by first | exact r_w1 | assumption | omega) (by first | assumption | omega) (fun q y1 y2 => by rw [if_neg (by omega)]) (fun q y1 => by rw [hsw_88, upI_ne (by omega), upI_ne (by omega)]) (by omega)
            refine g_iload_n (pc := 51) hC 2 dX7_turnToNextWay_51 rfl rfl ?_
            refine g_istore (pc := 52) hC [(4, _), (0, _), (1, _), (2, _), (3, _)] dX7_turnToNextWay_52 (by decide) rfl ?_
            have L54 : ∀ (n5 : Nat) (gr : Int), (rI gr) → (tu + 1 ≤ gr ∧ gr ≤ la) → (∀ q, gr < q → q ≤ la → wy q < wy tu) → gr - tu < (n5 : Int) → G 0 0 54 [(0, .ref t0), (1, .int (iI n)), (2, .int (iI la)), (3, .int (iI tu)), (4, .int (iI gr))] [] [cO t0 7 [w_trial, w_pulls, w_fewest, w_whose, w_roomsFound, .ref t1], cA K t1 6 wy] := by
              intro n5
              induction n5 with
              | zero => intro gr r_gr hgr hg5 hm54; exfalso; omega
              | succ n5 ih54 =>
                intro gr r_gr hgr hg5 hm54
                refine g_iload (pc := 54) hC 4 dX7_turnToNextWay_54 rfl ?_
                refine g_iload_n (pc := 56) hC 3 dX7_turnToNextWay_56 rfl rfl ?_
                refine g_iconst (pc := 57) hC dX7_turnToNextWay_57 ?_
                refine g_iadd (pc := 58) hC dX7_turnToNextWay_58 ?_
                refine g_icmp_le (pc := 59) hC 84 dX7_turnToNextWay_59 (by decide) (by first | exact r_gr | assumption | omega) (by first | assumption | decide | omega) (fun c59 => ?_) (fun c59 => ?_)
                · exact J84 gr (by first | exact r_gr | assumption | omega) (by first | assumption | omega) (Or.inl (by omega)) hg5
                · refine g_aload_n (pc := 62) hC 0 dX7_turnToNextWay_62 rfl rfl ?_
                  refine g_get (pc := 63) hC 0 fl_X7_22 dX7_turnToNextWay_63 rfl rfl ?_
                  refine g_iload (pc := 66) hC 4 dX7_turnToNextWay_66 rfl ?_
                  refine g_iald (pc := 68) hC 1 dX7_turnToNextWay_68 rfl (by omega) ?_
                  have qz6 := r_wy gr
                  refine g_aload_n (pc := 69) hC 0 dX7_turnToNextWay_69 rfl rfl ?_
                  refine g_get (pc := 70) hC 0 fl_X7_22 dX7_turnToNextWay_70 rfl rfl ?_
                  refine g_iload_n (pc := 73) hC 3 dX7_turnToNextWay_73 rfl rfl ?_
                  refine g_iald (pc := 74) hC 1 dX7_turnToNextWay_74 rfl (by omega) ?_
                  have qz7 := r_wy tu
                  refine g_icmp_ge (pc := 75) hC 84 dX7_turnToNextWay_75 (by decide) (by first | assumption | decide | omega) (by first | assumption | decide | omega) (fun c75 => ?_) (fun c75 => ?_)
                  · exact J84 gr (by first | exact r_gr | assumption | omega) (by first | assumption | omega) (Or.inr (by omega)) hg5
                  · refine g_iinc (pc := 78) hC 4 [(4, _), (0, _), (1, _), (2, _), (3, _)] dX7_turnToNextWay_78 rfl (by decide) rfl ?_
                    refine g_goto (pc := 81) hC 54 dX7_turnToNextWay_81 (by decide) ?_
                    refine g_lv hC [1, 2, 3, 4, 0] [(0, _), (1, _), (2, _), (3, _), (4, _)] rfl ?_
                    exact ih54 (gr + (-1)) (by first | assumption | omega) (by first | assumption | omega) (fun q y1 y2 => if hq : q = gr then (by rw [hq]; omega) else hg5 q (by omega) y2) (by omega)
            refine g_lv hC [1, 2, 3, 4, 0] [(0, _), (1, _), (2, _), (3, _), (4, _)] rfl ?_
            exact L54 ((la - tu : Int).toNat + 1) la (by first | exact r_la | assumption | omega) (by first | assumption | omega) (fun q y1 y2 => by omega) (by omega)
          · refine g_iinc (pc := 39) hC 3 [(3, _), (0, _), (1, _), (2, _)] dX7_turnToNextWay_39 rfl (by decide) rfl ?_
            refine g_goto (pc := 42) hC 18 dX7_turnToNextWay_42 (by decide) ?_
            refine g_lv hC [1, 2, 3, 0] [(0, _), (1, _), (2, _), (3, _)] rfl ?_
            exact ih18 (tu + (-1)) (by first | assumption | omega) (by first | assumption | omega) (fun q y1 y2 => if hq : q = tu then (by rw [hq]; omega) else hd q (by omega) y2) (by omega)
    refine g_lv hC [2, 3, 1, 0] [(0, _), (1, _), (2, _), (3, _)] rfl ?_
    exact L18 (((la - 1) + 3 : Int).toNat + 1) (la - 1) (by first | assumption | omega) (by first | assumption | omega) (fun q y1 y2 => by omega) (by omega)
  refine g_icmp_ge (pc := 3) hC 12 dX7_turnToNextWay_3 (by decide) (by first | exact r_n | assumption | omega) (by first | assumption | decide | omega) (fun c3 => ?_) (fun c3 => ?_)
  · refine g_iconst (pc := 12) hC dX7_turnToNextWay_12 ?_
    exact J13 5 (by decide) (by first | assumption | omega)
  · refine g_iload_n (pc := 6) hC 1 dX7_turnToNextWay_6 rfl rfl ?_
    refine g_iconst (pc := 7) hC dX7_turnToNextWay_7 ?_
    refine g_isub (pc := 8) hC dX7_turnToNextWay_8 ?_
    refine g_goto (pc := 9) hC 13 dX7_turnToNextWay_9 (by decide) ?_
    exact J13 (n - 1) (by first | assumption | omega) (by first | assumption | omega)
set_option maxHeartbeats 40000000 in
set_option maxRecDepth 100000 in
theorem k_X7_unlikeByWay_n {K : gK} (t0 : Nat) (h0 : Nat) (h1 : Nat) (q0 : Nat) (t1 : Nat) (j0 : Nat) (j1 : Nat) (j2 : Nat) (j3 : Nat) (j4 : Nat) (j5 : Nat) (k0 : Nat) (k1 : Nat) (k2 : Nat) (k3 : Nat) (k4 : Nat) (k5 : Nat) (w_fewest : Value) (w_whose : Value) (w_roomsFound : Value) (w_facts : Value) (w_weighed : Value) (w_stamp : Value) (ta : Int) (tc : Int) (tp : Int) (aw : Int) (cn : Int) (sp : Int) (tk : Int → Int) (tn : Int → Int) (tr : Int → Int) (ts : Int → Int) (tw : Int → Int) (tx : Int → Int) (kd : Int → Int) (nb : Int → Int) (rm : Int → Int) (st : Int → Int) (rw : Int → Int) (nx : Int → Int) (wy : Int → Int) (s : Int → Int) (W : (Int → Int) → Int) (rch : Int) (r_ta : rI ta) (r_tc : rI tc) (r_tp : rI tp) (r_aw : rI aw) (r_cn : rI cn) (r_sp : rI sp) (r_tk : ∀ j, rI (tk j)) (r_tn : ∀ j, rI (tn j)) (r_tr : ∀ j, rI (tr j)) (r_ts : ∀ j, rI (ts j)) (r_tw : ∀ j, rI (tw j)) (r_tx : ∀ j, rI (tx j)) (r_kd : ∀ j, rI (kd j)) (r_nb : ∀ j, rI (nb j)) (r_rm : ∀ j, rI (rm j)) (r_st : ∀ j, rI (st j)) (r_rw : ∀ j, rI (rw j)) (r_nx : ∀ j, rI (nx j)) (r_wy : ∀ j, rI (wy j)) (hg : md_rg s) (hR9 : cs_R s kd nb rm st rw nx aw cn sp) (hW0 : (∀ b, W b = 0) ∧ rch = 9) (htx : ∀ p, 0 ≤ p → p < 6 → 0 ≤ tx p ∧ tx p ≤ 9) (hwy : ∀ q, 0 ≤ q → q < s 19 → 0 ≤ wy q ∧ wy q < s 19) (hst0 : s 0 + 61 ≤ 20000) : gMet K yX7_unlikeByWay cX7_unlikeByWay 4 (some .int) 4 0 0 [.ref t0, .ref h0] [cO t0 7 [.ref h1, .ref q0, w_fewest, w_whose, w_roomsFound, .ref t1], cO q0 2 [.null, w_facts, w_weighed, w_stamp], cO h1 5 [.ref j0, .ref j1, .ref j2, .ref j3, .ref j4, .ref j5, .int (iI ta), .int (iI tc), .int (iI tp)], cA K j0 6 tk, cA K j1 6 tn, cA K j2 6 tr, cA K j3 6 ts, cA K j4 24 tw, cA K j5 6 tx, cO h0 5 [.ref k0, .ref k1, .ref k2, .ref k3, .ref k4, .ref k5, .int (iI aw), .int (iI cn), .int (iI sp)], cA K k0 6 kd, cA K k1 6 nb, cA K k2 6 rm, cA K k3 6 st, cA K k4 24 rw, cA K k5 6 nx, cA K t1 6 wy] (fun v9 w9 => ∃ (tk2 : Int → Int), ∃ (tn2 : Int → Int), ∃ (tr2 : Int → Int), ∃ (ts2 : Int → Int), ∃ (tw2 : Int → Int), ∃ (tx2 : Int → Int), ∃ (ta2 : Int), ∃ (tc2 : Int), ∃ (tp2 : Int), v9 = some (.int (iI (md_unl (md_goN W rch (md_ord s wy) 3)))) ∧ w9 = [cO t0 7 [.ref h1, .ref q0, w_fewest, w_whose, w_roomsFound, .ref t1], cO q0 2 [.null, w_facts, w_weighed, w_stamp], cO h1 5 [.ref j0, .ref j1, .ref j2, .ref j3, .ref j4, .ref j5, .int (iI ta2), .int (iI tc2), .int (iI tp2)], cA K j0 6 tk2, cA K j1 6 tn2, cA K j2 6 tr2, cA K j3 6 ts2, cA K j4 24 tw2, cA K j5 6 tx2, cO h0 5 [.ref k0, .ref k1, .ref k2, .ref k3, .ref k4, .ref k5, .int (iI aw), .int (iI cn), .int (iI sp)], cA K k0 6 kd, cA K k1 6 nb, cA K k2 6 rm, cA K k3 6 st, cA K k4 24 rw, cA K k5 6 nx, cA K t1 6 wy] ∧ (∀ j, rI (tk2 j)) ∧ (∀ j, rI (tn2 j)) ∧ (∀ j, rI (tr2 j)) ∧ (∀ j, rI (ts2 j)) ∧ (∀ j, rI (tw2 j)) ∧ (∀ j, rI (tx2 j)) ∧ rI ta2 ∧ rI tc2 ∧ rI tp2 ∧ (∀ p, 0 ≤ p → p < 6 → 0 ≤ tx2 p ∧ tx2 p ≤ 9)) := by
  refine g_enter (by decide +kernel) (Nat.le_of_ble_eq_true rfl) (fun G hC hR => ?_)
  refine g_lv hC [0, 1] [(0, _), (1, _)] rfl ?_
  have h19 := hg.2.2.1
  have hg0 := hg.2.2.2
  have hcs := hR9.1
  refine g_aload_n (pc := 0) hC 0 dX7_unlikeByWay_0 rfl rfl ?_
  refine g_aload_n (pc := 1) hC 1 dX7_unlikeByWay_1 rfl rfl ?_
  refine g_callV (pc := 2) (qr := 0) hC [0, 2, 3, 4, 5, 6, 7, 8, 9, 10, 11, 12, 13, 14, 15] (k_X7_begin _ _ _ _ _ _ _ _ _ _ _ _ _ _ _ _ _ _ _ _ _ _ _ _ _ _ _ _ _ _ _ _ _ _ _ _ _ _ _ (by first | exact r_ta | assumption | omega) (by first | exact r_tc | assumption | omega) (by first | exact r_tp | assumption | omega) (by first | exact r_aw | assumption | omega) (by first | exact r_cn | assumption | omega) (by first | exact r_sp | assumption | omega) (by first | exact r_tk | assumption | omega) (by first | exact r_tn | assumption | omega) (by first | exact r_tr | assumption | omega) (by first | exact r_ts | assumption | omega) (by first | exact r_tw | assumption | omega) (by first | exact r_tx | assumption | omega) (by first | exact r_kd | assumption | omega) (by first | exact r_nb | assumption | omega) (by first | exact r_rm | assumption | omega) (by first | exact r_st | assumption | omega) (by first | exact r_rw | assumption | omega) (by first | exact r_nx | assumption | omega) (by first | assumption | omega) (by first | assumption | omega) (by first | assumption | omega)) cl_X7_begin wm_X7_37 dX7_unlikeByWay_2 rfl rfl rfl rfl rfl (by decide) (by decide) (by omega) (Nat.le_of_ble_eq_true rfl) rfl (fun v9 w9 hq9 => ?_)
  obtain ⟨kd3, nb3, rm3, st3, rw3, rfl, rfl, r_kd3, r_nb3, r_rm3, r_st3, r_rw3, hR2_2⟩ := hq9
  refine g_ws hC [cO t0 7 [.ref h1, .ref q0, w_fewest, w_whose, w_roomsFound, .ref t1], cO q0 2 [.null, w_facts, w_weighed, w_stamp], cO h1 5 [.ref j0, .ref j1, .ref j2, .ref j3, .ref j4, .ref j5, .int (iI aw), .int (iI cn), .int (iI sp)], cA K j0 6 kd3, cA K j1 6 nb3, cA K j2 6 rm3, cA K j3 6 st3, cA K j4 24 rw3, cA K j5 6 tx, cO h0 5 [.ref k0, .ref k1, .ref k2, .ref k3, .ref k4, .ref k5, .int (iI aw), .int (iI cn), .int (iI sp)], cA K k0 6 kd, cA K k1 6 nb, cA K k2 6 rm, cA K k3 6 st, cA K k4 24 rw, cA K k5 6 nx, cA K t1 6 wy] (by dsimp only [gput, gputL, List.set_cons_zero, List.set_cons_succ, List.cons_append, List.nil_append]) ?_
  refine g_st hC [] rfl ?_
  refine g_iconst (pc := 5) hC dX7_unlikeByWay_5 ?_
  refine g_istore_n (pc := 6) hC [(2, _), (0, _), (1, _)] dX7_unlikeByWay_6 rfl (by decide) rfl ?_
  have L7 : ∀ (n1 : Nat) (i : Int) (nb1 : Int → Int) (rm1 : Int → Int) (ts3 : Int → Int), (rI i) → (∀ j, rI (nb1 j)) → (∀ j, rI (rm1 j)) → (∀ j, rI (ts3 j)) → (0 ≤ i ∧ i ≤ s 19) → (cs_R (md_odk s wy i) kd3 nb1 rm1 ts3 rw3 tx aw cn sp) → s 19 - i < (n1 : Int) → G 0 0 7 [(0, .ref t0), (1, .ref h0), (2, .int (iI i))] [] [cO t0 7 [.ref h1, .ref q0, w_fewest, w_whose, w_roomsFound, .ref t1], cO q0 2 [.null, w_facts, w_weighed, w_stamp], cO h1 5 [.ref j0, .ref j1, .ref j2, .ref j3, .ref j4, .ref j5, .int (iI aw), .int (iI cn), .int (iI sp)], cA K j0 6 kd3, cA K j1 6 nb1, cA K j2 6 rm1, cA K j3 6 ts3, cA K j4 24 rw3, cA K j5 6 tx, cO h0 5 [.ref k0, .ref k1, .ref k2, .ref k3, .ref k4, .ref k5, .int (iI aw), .int (iI cn), .int (iI sp)], cA K k0 6 kd, cA K k1 6 nb, cA K k2 6 rm, cA K k3 6 st, cA K k4 24 rw, cA K k5 6 nx, cA K t1 6 wy] := by
    intro n1
    induction n1 with
    | zero => intro i nb1 rm1 ts3 r_i r_nb1 r_rm1 r_ts3 hi hR1 hm7; exfalso; omega
    | succ n1 ih7 =>
      intro i nb1 rm1 ts3 r_i r_nb1 r_rm1 r_ts3 hi hR1 hm7
      refine g_iload_n (pc := 7) hC 2 dX7_unlikeByWay_7 rfl rfl ?_
      refine g_aload_n (pc := 8) hC 1 dX7_unlikeByWay_8 rfl rfl ?_
      refine g_get (pc := 9) hC 9 fl_X7_52 dX7_unlikeByWay_9 rfl rfl ?_
      refine g_icmp_ge (pc := 12) hC 57 dX7_unlikeByWay_12 (by decide) (by first | exact r_i | assumption | omega) (by first | exact r_cn | assumption | omega) (fun c12 => ?_) (fun c12 => ?_)
      · have hord : (md_odk s wy i) = (md_ord s wy) := by rw [show i = s 19 by omega]; rfl
        rw [hord] at hR1
        have hgo : md_rg (md_ord s wy) := by rw [← hord]; exact md_odk_rg hg (by omega) (fun j y1 y2 => by have := hwy j y1 (by omega); omega)
        have ho0 : (md_ord s wy) 0 = s 0 := by rw [← hord]; exact md_odk_out (by omega) (by omega)
        have ho19 : (md_ord s wy) 19 = s 19 := by rw [← hord]; exact md_odk_out (by omega) (by omega)
        refine g_iconst (pc := 57) hC dX7_unlikeByWay_57 ?_
        refine g_istore_n (pc := 58) hC [(2, _), (0, _), (1, _)] dX7_unlikeByWay_58 rfl (by decide) rfl ?_
        have L59 : ∀ (n2 : Nat) (y : Int) (ts1 : Int → Int) (tx1 : Int → Int) (tp1 : Int) (j : Nat), (rI y) → (∀ j, rI (ts1 j)) → (∀ j, rI (tx1 j)) → (rI tp1) → (y = (j : Int)) → (y ≤ 3) → (cs_R (md_goN W rch (md_ord s wy) j) kd3 nb1 rm1 ts1 rw3 tx1 aw cn tp1) → 3 - y < (n2 : Int) → G 0 0 59 [(0, .ref t0), (1, .ref h0), (2, .int (iI y))] [] [cO t0 7 [.ref h1, .ref q0, w_fewest, w_whose, w_roomsFound, .ref t1], cO q0 2 [.null, w_facts, w_weighed, w_stamp], cO h1 5 [.ref j0, .ref j1, .ref j2, .ref j3, .ref j4, .ref j5, .int (iI aw), .int (iI cn), .int (iI tp1)], cA K j0 6 kd3, cA K j1 6 nb1, cA K j2 6 rm1, cA K j3 6 ts1, cA K j4 24 rw3, cA K j5 6 tx1, cO h0 5 [.ref k0, .ref k1, .ref k2, .ref k3, .ref k4, .ref k5, .int (iI aw), .int (iI cn), .int (iI sp)], cA K k0 6 kd, cA K k1 6 nb, cA K k2 6 rm, cA K k3 6 st, cA K k4 24 rw, cA K k5 6 nx, cA K t1 6 wy] := by
          intro n2
          induction n2 with
          | zero => intro y ts1 tx1 tp1 j r_y r_ts1 r_tx1 r_tp1 hi5 hj hR5 hm59; exfalso; omega
          | succ n2 ih59 =>
            intro y ts1 tx1 tp1 j r_y r_ts1 r_tx1 r_tp1 hi5 hj hR5 hm59
            have hgj : md_rg (md_goN W rch (md_ord s wy) j) := md_goN_rg hgo j (by rw [ho0]; omega)
            refine g_iload_n (pc := 59) hC 2 dX7_unlikeByWay_59 rfl rfl ?_
            refine g_iconst (pc := 60) hC dX7_unlikeByWay_60 ?_
            refine g_icmp_ge (pc := 61) hC 81 dX7_unlikeByWay_61 (by decide) (by first | exact r_y | assumption | omega) (by first | assumption | decide | omega) (fun c61 => ?_) (fun c61 => ?_)
            · refine g_aload_n (pc := 81) hC 0 dX7_unlikeByWay_81 rfl rfl ?_
              refine g_get (pc := 82) hC 0 fl_X7_12 dX7_unlikeByWay_82 rfl rfl ?_
              refine g_fnV (pc := 85) (qr := 2) hC [2, 3, 4, 5, 6, 7, 8] (k_X5_unlikeStates _ _ _ _ _ _ _ _ _ _ _ _ _ _ _ _ (md_goN W rch (md_ord s wy) j) (by first | exact r_aw | assumption | omega) (by first | exact r_cn | assumption | omega) (by first | exact r_tp1 | assumption | omega) (by first | exact r_kd3 | assumption | omega) (by first | exact r_nb1 | assumption | omega) (by first | exact r_rm1 | assumption | omega) (by first | exact r_ts1 | assumption | omega) (by first | exact r_rw3 | assumption | omega) (by first | exact r_tx1 | assumption | omega) hgj hR5) cl_X5_unlikeStates wm_X7_40 dX7_unlikeByWay_85 rfl rfl rfl rfl rfl (by decide) (by decide) ⟨by omega, by omega⟩ (Nat.le_of_ble_eq_true rfl) rfl rfl ?_
              refine g_name hC (fun x85 e_x85 => ?_)
              have q_x85 : 0 ≤ x85 ∧ x85 ≤ 10 := by rw [e_x85]; exact md_unl_rng _
              exact g_iret (pc := 88) hR dX7_unlikeByWay_88 rfl ⟨by omega, by omega⟩ (Nat.le_of_ble_eq_true rfl) ⟨kd3, nb1, rm1, ts1, rw3, tx1, aw, cn, tp1, ret_eq (by rw [e_x85, show j = 3 by omega]), rfl, (by first | assumption | omega), (by first | assumption | omega), (by first | assumption | omega), (by first | assumption | omega), (by first | assumption | omega), (by first | assumption | omega), (by first | exact r_aw | assumption | omega), (by first | exact r_cn | assumption | omega), (by first | exact r_tp1 | assumption | omega), (fun p y1 y2 => (hR5.2.2.2.1 p y1 y2).2.2)⟩
            · refine g_aload_n (pc := 64) hC 0 dX7_unlikeByWay_64 rfl rfl ?_
              refine g_get (pc := 65) hC 0 fl_X7_12 dX7_unlikeByWay_65 rfl rfl ?_
              refine g_aload_n (pc := 68) hC 0 dX7_unlikeByWay_68 rfl rfl ?_
              refine g_get (pc := 69) hC 0 fl_X7_25 dX7_unlikeByWay_69 rfl rfl ?_
              refine g_callV (pc := 72) (qr := 2) hC [1, 2, 3, 4, 5, 6, 7, 8] (k_X5_goOneStep_n _ _ _ _ _ _ _ _ _ _ _ _ _ _ _ _ _ _ _ _ (md_goN W rch (md_ord s wy) j) W rch (by first | exact r_aw | assumption | omega) (by first | exact r_cn | assumption | omega) (by first | exact r_tp1 | assumption | omega) (by first | exact r_kd3 | assumption | omega) (by first | exact r_nb1 | assumption | omega) (by first | exact r_rm1 | assumption | omega) (by first | exact r_ts1 | assumption | omega) (by first | exact r_rw3 | assumption | omega) (by first | exact r_tx1 | assumption | omega) hgj hR5 (by first | assumption | omega)) cl_X5_goOneStep wm_X7_33 dX7_unlikeByWay_72 rfl rfl rfl rfl rfl (by decide) (by decide) (by omega) (Nat.le_of_ble_eq_true rfl) rfl (fun v9 w9 hq9 => ?_)
              obtain ⟨n3, st4, rfl, rfl, r_n3, r_st4, hR2_72⟩ := hq9
              refine g_ws hC [cO t0 7 [.ref h1, .ref q0, w_fewest, w_whose, w_roomsFound, .ref t1], cO q0 2 [.null, w_facts, w_weighed, w_stamp], cO h1 5 [.ref j0, .ref j1, .ref j2, .ref j3, .ref j4, .ref j5, .int (iI aw), .int (iI cn), .int (iI (tp1 + 1))], cA K j0 6 kd3, cA K j1 6 nb1, cA K j2 6 rm1, cA K j3 6 st4, cA K j4 24 rw3, cA K j5 6 n3, cO h0 5 [.ref k0, .ref k1, .ref k2, .ref k3, .ref k4, .ref k5, .int (iI aw), .int (iI cn), .int (iI sp)], cA K k0 6 kd, cA K k1 6 nb, cA K k2 6 rm, cA K k3 6 st, cA K k4 24 rw, cA K k5 6 nx, cA K t1 6 wy] rfl ?_
              refine g_st hC [] rfl ?_
              refine g_iinc (pc := 75) hC 2 [(2, _), (0, _), (1, _)] dX7_unlikeByWay_75 rfl (by decide) rfl ?_
              refine g_goto (pc := 78) hC 59 dX7_unlikeByWay_78 (by decide) ?_
              refine g_lv hC [1, 2, 0] [(0, _), (1, _), (2, _)] rfl ?_
              exact ih59 (y + 1) st4 n3 (tp1 + 1) (j + 1) (by first | assumption | omega) (by first | assumption | omega) (by first | assumption | omega) (by have h9 := hR5.1; have h8 := hgj.2.2.2; omega) (by first | assumption | omega) (by first | assumption | omega) hR2_72 (by omega)
        refine g_lv hC [1, 2, 0] [(0, _), (1, _), (2, _)] rfl ?_
        exact L59 ((3 - 0 : Int).toNat + 1) 0 ts3 tx sp 0 (by decide) (by first | assumption | omega) (by first | assumption | omega) (by first | exact r_sp | assumption | omega) (by first | assumption | omega) (by first | assumption | omega) hR1 (by omega)
      · have hwi := hwy i (by omega) (by omega)
        have hgk : md_rg (md_odk s wy i) := md_odk_rg hg (by omega) (fun j y1 y2 => by have := hwy j y1 (by omega); omega)
        refine g_iload_n (pc := 15) hC 2 dX7_unlikeByWay_15 rfl rfl ?_
        refine g_bipush (pc := 16) hC (6) dX7_unlikeByWay_16 (by decide) ?_
        refine g_icmp_ge (pc := 18) hC 57 dX7_unlikeByWay_18 (by decide) (by first | exact r_i | assumption | omega) (by first | assumption | decide | omega) (fun c18 => by exfalso; omega) (fun c18 => ?_)
        refine g_aload_n (pc := 21) hC 0 dX7_unlikeByWay_21 rfl rfl ?_
        refine g_get (pc := 22) hC 0 fl_X7_22 dX7_unlikeByWay_22 rfl rfl ?_
        refine g_iload_n (pc := 25) hC 2 dX7_unlikeByWay_25 rfl rfl ?_
        refine g_iald (pc := 26) hC 16 dX7_unlikeByWay_26 rfl (by omega) ?_
        have qz5 := r_wy i
        refine g_istore_n (pc := 27) hC [(3, _), (0, _), (1, _), (2, _)] dX7_unlikeByWay_27 rfl (by decide) rfl ?_
        refine g_aload_n (pc := 28) hC 2 dX7_unlikeByWay_28 rfl rfl ?_
        refine g_iload_n (pc := 29) hC 0 dX7_unlikeByWay_29 rfl rfl ?_
        refine g_fnV (pc := 30) (qr := 9) hC [9] (k_X5_has _ _ _ _ _ _ _ _ _ _ _ (by first | assumption | omega) (by first | exact r_cn | assumption | omega)) cl_X5_has wm_X7_80 dX7_unlikeByWay_30 rfl rfl rfl rfl rfl (by decide) (by decide) ⟨by omega, by omega⟩ (Nat.le_of_ble_eq_true rfl) rfl rfl ?_
        refine g_name hC (fun x6 e_x6 => ?_)
        refine g_if_eq (pc := 33) hC 51 dX7_unlikeByWay_33 (by decide) (by first | exact r_x6 | assumption | omega) (fun c33 => by exfalso; omega) (fun c33 => ?_)
        refine g_aload_n (pc := 36) hC 1 dX7_unlikeByWay_36 rfl rfl ?_
        refine g_get (pc := 37) hC 0 fl_X7_12 dX7_unlikeByWay_37 rfl rfl ?_
        refine g_iload_n (pc := 40) hC 3 dX7_unlikeByWay_40 rfl rfl ?_
        refine g_iconst (pc := 41) hC dX7_unlikeByWay_41 ?_
        refine g_aload_n (pc := 42) hC 2 dX7_unlikeByWay_42 rfl rfl ?_
        refine g_get (pc := 43) hC 9 fl_X7_83 dX7_unlikeByWay_43 rfl rfl ?_
        refine g_iload_n (pc := 46) hC 0 dX7_unlikeByWay_46 rfl rfl ?_
        refine g_iald (pc := 47) hC 12 dX7_unlikeByWay_47 rfl (by omega) ?_
        have qz7 := r_rm (wy i)
        have hrm4 := hR9.2.1 (wy i) (by omega) (by omega)
        have hrm5 := hR9.2.2.2.1 (wy i) (by omega) (by omega)
        refine g_callV (pc := 48) (qr := 2) hC [2, 3, 4, 5, 6, 7, 8] (k_X5_change _ _ _ _ _ _ _ _ _ _ _ _ _ _ _ _ _ _ _ (md_odk s wy i) (by first | exact r_i | assumption | omega) (by decide) (by first | assumption | omega) (by first | exact r_aw | assumption | omega) (by first | exact r_cn | assumption | omega) (by first | exact r_sp | assumption | omega) (by first | exact r_kd3 | assumption | omega) (by first | exact r_nb1 | assumption | omega) (by first | exact r_rm1 | assumption | omega) (by first | exact r_ts3 | assumption | omega) (by first | exact r_rw3 | assumption | omega) (by first | exact r_tx | assumption | omega) hgk hR1 (by first | assumption | omega)) cl_X5_change wm_X7_44 dX7_unlikeByWay_48 rfl rfl rfl rfl rfl (by decide) (by decide) (by omega) (Nat.le_of_ble_eq_true rfl) rfl (fun v9 w9 hq9 => ?_)
        obtain ⟨nb4, rm4, st4, rfl, rfl, r_nb4, r_rm4, r_st4, hR2_48⟩ := hq9
        refine g_ws hC [cO t0 7 [.ref h1, .ref q0, w_fewest, w_whose, w_roomsFound, .ref t1], cO q0 2 [.null, w_facts, w_weighed, w_stamp], cO h1 5 [.ref j0, .ref j1, .ref j2, .ref j3, .ref j4, .ref j5, .int (iI aw), .int (iI cn), .int (iI sp)], cA K j0 6 kd3, cA K j1 6 nb4, cA K j2 6 rm4, cA K j3 6 st4, cA K j4 24 rw3, cA K j5 6 tx, cO h0 5 [.ref k0, .ref k1, .ref k2, .ref k3, .ref k4, .ref k5, .int (iI aw), .int (iI cn), .int (iI sp)], cA K k0 6 kd, cA K k1 6 nb, cA K k2 6 rm, cA K k3 6 st, cA K k4 24 rw, cA K k5 6 nx, cA K t1 6 wy] rfl ?_
        refine g_st hC [] rfl ?_
        rw [md_odk_up (by omega) h19.2 hrm4.2.2.1] at hR2_48
        refine g_iinc (pc := 51) hC 3 [(2, _), (3, _), (0, _), (1, _)] dX7_unlikeByWay_51 rfl (by decide) rfl ?_
        refine g_goto (pc := 54) hC 7 dX7_unlikeByWay_54 (by decide) ?_
        refine g_lv hC [2, 3, 0] [(0, _), (1, _), (2, _)] rfl ?_
        exact ih7 (i + 1) nb4 rm4 st4 (by first | assumption | omega) (by first | exact r_nb4 | assumption | omega) (by first | exact r_rm4 | assumption | omega) (by first | exact r_st4 | assumption | omega) (by first | assumption | omega) hR2_48 (by omega)
  refine g_lv hC [1, 2, 0] [(0, _), (1, _), (2, _)] rfl ?_
  exact L7 ((s 19 - 0 : Int).toNat + 1) 0 nb3 rm3 st3 (by decide) (by first | exact r_nb3 | assumption | omega) (by first | exact r_rm3 | assumption | omega) (by first | exact r_st3 | assumption | omega) (by first | assumption | omega) (by rw [md_odk_0]; exact hR2_2) (by omega)
set_option maxHeartbeats 40000000 in
set_option maxRecDepth 100000 in
theorem k_X7_findRooms_n {K : gK} (t0 : Nat) (h0 : Nat) (h1 : Nat) (q0 : Nat) (t2 : Nat) (t1 : Nat) (j0 : Nat) (j1 : Nat) (j2 : Nat) (j3 : Nat) (j4 : Nat) (j5 : Nat) (k0 : Nat) (k1 : Nat) (k2 : Nat) (k3 : Nat) (k4 : Nat) (k5 : Nat) (w_facts : Value) (w_weighed : Value) (w_stamp : Value) (fw : Int) (rf : Int) (ta : Int) (tc : Int) (tp : Int) (aw : Int) (cn : Int) (sp : Int) (tk : Int → Int) (tn : Int → Int) (tr : Int → Int) (ts : Int → Int) (tw : Int → Int) (tx : Int → Int) (kd : Int → Int) (nb : Int → Int) (rm : Int → Int) (st : Int → Int) (rw : Int → Int) (nx : Int → Int) (wy : Int → Int) (wh : Int → Int) (s : Int → Int) (W : (Int → Int) → Int) (rch : Int) (r_fw : rI fw) (r_rf : rI rf) (r_ta : rI ta) (r_tc : rI tc) (r_tp : rI tp) (r_aw : rI aw) (r_cn : rI cn) (r_sp : rI sp) (r_tk : ∀ j, rI (tk j)) (r_tn : ∀ j, rI (tn j)) (r_tr : ∀ j, rI (tr j)) (r_ts : ∀ j, rI (ts j)) (r_tw : ∀ j, rI (tw j)) (r_tx : ∀ j, rI (tx j)) (r_kd : ∀ j, rI (kd j)) (r_nb : ∀ j, rI (nb j)) (r_rm : ∀ j, rI (rm j)) (r_st : ∀ j, rI (st j)) (r_rw : ∀ j, rI (rw j)) (r_nx : ∀ j, rI (nx j)) (r_wy : ∀ j, rI (wy j)) (r_wh : ∀ j, rI (wh j)) (hg : md_rg s) (hR9 : cs_R s kd nb rm st rw nx aw cn sp) (hW0 : (∀ b, W b = 0) ∧ rch = 9) (htx : ∀ p, 0 ≤ p → p < 6 → 0 ≤ tx p ∧ tx p ≤ 9) (hst0 : s 0 + 61 ≤ 20000) (hwy : ∀ j, j < 0 ∨ 6 ≤ j → wy j = 0) (hrf : rf = 0 ∨ (rf = 1 ∧ fw = (md_rmz W rch s).1 ∧ ∀ q, 0 ≤ q → q < s 19 → wh q = rm_at (md_rmz W rch s).2 q)) : gMet K yX7_findRooms cX7_findRooms 5 none 5 0 0 [.ref t0, .ref h0] [cO t0 7 [.ref h1, .ref q0, .int (iI fw), .ref t2, .int (iI rf), .ref t1], cO q0 2 [.null, w_facts, w_weighed, w_stamp], cO h1 5 [.ref j0, .ref j1, .ref j2, .ref j3, .ref j4, .ref j5, .int (iI ta), .int (iI tc), .int (iI tp)], cA K j0 6 tk, cA K j1 6 tn, cA K j2 6 tr, cA K j3 6 ts, cA K j4 24 tw, cA K j5 6 tx, cO h0 5 [.ref k0, .ref k1, .ref k2, .ref k3, .ref k4, .ref k5, .int (iI aw), .int (iI cn), .int (iI sp)], cA K k0 6 kd, cA K k1 6 nb, cA K k2 6 rm, cA K k3 6 st, cA K k4 24 rw, cA K k5 6 nx, cA K t1 6 wy, cA K t2 6 wh] (fun v9 w9 => ∃ (tk2 : Int → Int), ∃ (tn2 : Int → Int), ∃ (tr2 : Int → Int), ∃ (ts2 : Int → Int), ∃ (tw2 : Int → Int), ∃ (tx2 : Int → Int), ∃ (ta2 : Int), ∃ (tc2 : Int), ∃ (tp2 : Int), ∃ (wy2 : Int → Int), ∃ (wh2 : Int → Int), ∃ (fw2 : Int), ∃ (rf2 : Int), v9 = none ∧ w9 = [cO t0 7 [.ref h1, .ref q0, .int (iI fw2), .ref t2, .int (iI rf2), .ref t1], cO q0 2 [.null, w_facts, w_weighed, w_stamp], cO h1 5 [.ref j0, .ref j1, .ref j2, .ref j3, .ref j4, .ref j5, .int (iI ta2), .int (iI tc2), .int (iI tp2)], cA K j0 6 tk2, cA K j1 6 tn2, cA K j2 6 tr2, cA K j3 6 ts2, cA K j4 24 tw2, cA K j5 6 tx2, cO h0 5 [.ref k0, .ref k1, .ref k2, .ref k3, .ref k4, .ref k5, .int (iI aw), .int (iI cn), .int (iI sp)], cA K k0 6 kd, cA K k1 6 nb, cA K k2 6 rm, cA K k3 6 st, cA K k4 24 rw, cA K k5 6 nx, cA K t1 6 wy2, cA K t2 6 wh2] ∧ (∀ j, rI (tk2 j)) ∧ (∀ j, rI (tn2 j)) ∧ (∀ j, rI (tr2 j)) ∧ (∀ j, rI (ts2 j)) ∧ (∀ j, rI (tw2 j)) ∧ (∀ j, rI (tx2 j)) ∧ rI ta2 ∧ rI tc2 ∧ rI tp2 ∧ (∀ j, rI (wy2 j)) ∧ (∀ j, rI (wh2 j)) ∧ rI fw2 ∧ rI rf2 ∧ (∀ p, 0 ≤ p → p < 6 → 0 ≤ tx2 p ∧ tx2 p ≤ 9) ∧ (∀ j, j < 0 ∨ 6 ≤ j → wy2 j = 0) ∧ (rf2 = 1 ∧ fw2 = (md_rmz W rch s).1 ∧ ∀ q, 0 ≤ q → q < s 19 → wh2 q = rm_at (md_rmz W rch s).2 q)) := by
  refine g_enter (by decide +kernel) (Nat.le_of_ble_eq_true rfl) (fun G hC hR => ?_)
  refine g_lv hC [0, 1] [(0, _), (1, _)] rfl ?_
  have h19 := hg.2.2.1
  have hg0 := hg.2.2.2
  have hcs := hR9.1
  obtain ⟨c, hc⟩ : ∃ c : Nat, s 19 = (c : Int) := ⟨(s 19).toNat, by omega⟩
  have hfst := fr_first (c := c) (by omega)
  refine g_aload_n (pc := 0) hC 0 dX7_findRooms_0 rfl rfl ?_
  refine g_get (pc := 1) hC 0 fl_X7_59 dX7_findRooms_1 rfl rfl ?_
  refine g_if_eq (pc := 4) hC 8 dX7_findRooms_4 (by decide) (by first | exact r_rf | assumption | omega) (fun c4 => ?_) (fun c4 => ?_)
  · refine g_iconst (pc := 8) hC dX7_findRooms_8 ?_
    refine g_istore_n (pc := 9) hC [(2, _), (0, _), (1, _)] dX7_findRooms_9 rfl (by decide) rfl ?_
    have L10 : ∀ (n1 : Nat) (i : Int) (y1 : Int → Int), (rI i) → (∀ j, rI (y1 j)) → (0 ≤ i ∧ i ≤ 6) → (∀ q, 0 ≤ q → q < i → y1 q = q) → (∀ j, j < 0 ∨ 6 ≤ j → y1 j = 0) → 6 - i < (n1 : Int) → G 0 0 10 [(0, .ref t0), (1, .ref h0), (2, .int (iI i))] [] [cO t0 7 [.ref h1, .ref q0, .int (iI fw), .ref t2, .int (iI rf), .ref t1], cO q0 2 [.null, w_facts, w_weighed, w_stamp], cO h1 5 [.ref j0, .ref j1, .ref j2, .ref j3, .ref j4, .ref j5, .int (iI ta), .int (iI tc), .int (iI tp)], cA K j0 6 tk, cA K j1 6 tn, cA K j2 6 tr, cA K j3 6 ts, cA K j4 24 tw, cA K j5 6 tx, cO h0 5 [.ref k0, .ref k1, .ref k2, .ref k3, .ref k4, .ref k5, .int (iI aw), .int (iI cn), .int (iI sp)], cA K k0 6 kd, cA K k1 6 nb, cA K k2 6 rm, cA K k3 6 st, cA K k4 24 rw, cA K k5 6 nx, cA K t1 6 y1, cA K t2 6 wh] := by
      intro n1
      induction n1 with
      | zero => intro i y1 r_i r_y1 hi hy hyo hm10; exfalso; omega
      | succ n1 ih10 =>
        intro i y1 r_i r_y1 hi hy hyo hm10
        refine g_iload_n (pc := 10) hC 2 dX7_findRooms_10 rfl rfl ?_
        refine g_bipush (pc := 11) hC (6) dX7_findRooms_11 (by decide) ?_
        refine g_icmp_ge (pc := 13) hC 29 dX7_findRooms_13 (by decide) (by first | exact r_i | assumption | omega) (by first | assumption | decide | omega) (fun c13 => ?_) (fun c13 => ?_)
        · refine g_aload_n (pc := 29) hC 0 dX7_findRooms_29 rfl rfl ?_
          refine g_bipush (pc := 30) hC (7) dX7_findRooms_30 (by decide) ?_
          refine g_putI (pc := 32) hC 0 [cO _ _ [_, _, _, _, _, _], _, _, _, _, _, _, _, _, _, _, _, _, _, _, _, _, _] fl_X7_63 dX7_findRooms_32 rfl (Nat.le_of_ble_eq_true rfl) rfl ?_
          refine g_iconst (pc := 35) hC dX7_findRooms_35 ?_
          refine g_istore_n (pc := 36) hC [(2, _), (0, _), (1, _)] dX7_findRooms_36 rfl (by decide) rfl ?_
          refine g_iconst (pc := 37) hC dX7_findRooms_37 ?_
          refine g_istore_n (pc := 38) hC [(3, _), (2, _), (0, _), (1, _)] dX7_findRooms_38 rfl (by decide) rfl ?_
          have L39 : ∀ (n2 : Nat) (wa : Int) (mo : Int) (fx : Int) (y3 : Int → Int) (wz : Int → Int) (k : Nat) (ks : Int → Int) (ns : Int → Int) (rs : Int → Int) (ts1 : Int → Int) (ws : Int → Int) (tx1 : Int → Int) (ta1 : Int) (tc1 : Int) (tp1 : Int), (rI wa) → (rI mo) → (rI fx) → (∀ j, rI (y3 j)) → (∀ j, rI (wz j)) → (∀ j, rI (ks j)) → (∀ j, rI (ns j)) → (∀ j, rI (rs j)) → (∀ j, rI (ts1 j)) → (∀ j, rI (ws j)) → (∀ j, rI (tx1 j)) → (rI ta1) → (rI tc1) → (rI tp1) → (wa = (k : Int)) → (k ≤ (rm_lv c c []).length) → (fr_I W rch s c k fx wz) → ((mo = 1 ∧ k < (rm_lv c c []).length ∧ ∀ q, 0 ≤ q → q < (c : Int) → y3 q = rm_at ((rm_lv c c []).getD k []) q) ∨ (mo = 0 ∧ k = (rm_lv c c []).length)) → (∀ j, j < 0 ∨ 6 ≤ j → y3 j = 0) → (∀ p, 0 ≤ p → p < 6 → 0 ≤ tx1 p ∧ tx1 p ≤ 9) → 720 - wa < (n2 : Int) → G 0 0 39 [(0, .ref t0), (1, .ref h0), (2, .int (iI mo)), (3, .int (iI wa))] [] [cO t0 7 [.ref h1, .ref q0, .int (iI fx), .ref t2, .int (iI rf), .ref t1], cO q0 2 [.null, w_facts, w_weighed, w_stamp], cO h1 5 [.ref j0, .ref j1, .ref j2, .ref j3, .ref j4, .ref j5, .int (iI ta1), .int (iI tc1), .int (iI tp1)], cA K j0 6 ks, cA K j1 6 ns, cA K j2 6 rs, cA K j3 6 ts1, cA K j4 24 ws, cA K j5 6 tx1, cO h0 5 [.ref k0, .ref k1, .ref k2, .ref k3, .ref k4, .ref k5, .int (iI aw), .int (iI cn), .int (iI sp)], cA K k0 6 kd, cA K k1 6 nb, cA K k2 6 rm, cA K k3 6 st, cA K k4 24 rw, cA K k5 6 nx, cA K t1 6 y3, cA K t2 6 wz] := by
            intro n2
            induction n2 with
            | zero => intro wa mo fx y3 wz k ks ns rs ts1 ws tx1 ta1 tc1 tp1 r_wa r_mo r_fx r_y3 r_wz r_ks r_ns r_rs r_ts1 r_ws r_tx1 r_ta1 r_tc1 r_tp1 hk hk1 hI hmo hyo3 htx1 hm39; exfalso; omega
            | succ n2 ih39 =>
              intro wa mo fx y3 wz k ks ns rs ts1 ws tx1 ta1 tc1 tp1 r_wa r_mo r_fx r_y3 r_wz r_ks r_ns r_rs r_ts1 r_ws r_tx1 r_ta1 r_tc1 r_tp1 hk hk1 hI hmo hyo3 htx1 hm39
              refine g_iload_n (pc := 39) hC 3 dX7_findRooms_39 rfl rfl ?_
              refine g_sipush (pc := 40) hC (720) dX7_findRooms_40 (by decide) ?_
              refine g_icmp_ge (pc := 43) hC 110 dX7_findRooms_43 (by decide) (by first | exact r_wa | assumption | omega) (by first | assumption | decide | omega) (fun c43 => ?_) (fun c43 => ?_)
              · have hfin := fr_I_e hg (by omega) hc hI hk1 (Or.inl (by omega))
                refine g_aload_n (pc := 110) hC 0 dX7_findRooms_110 rfl rfl ?_
                refine g_iconst (pc := 111) hC dX7_findRooms_111 ?_
                refine g_putZ (pc := 112) hC 0 [cO _ _ [_, _, _, _, _, _], _, _, _, _, _, _, _, _, _, _, _, _, _, _, _, _, _] fl_X7_59 dX7_findRooms_112 rfl (Nat.le_of_ble_eq_true rfl) (by omega) rfl ?_
                exact g_vret (pc := 115) hR dX7_findRooms_115 rfl ⟨by omega, by omega⟩ (Nat.le_of_ble_eq_true rfl) ⟨ks, ns, rs, ts1, ws, tx1, ta1, tc1, tp1, y3, wz, fx, 1, rfl, rfl, (by first | assumption | omega), (by first | assumption | omega), (by first | assumption | omega), (by first | assumption | omega), (by first | assumption | omega), (by first | assumption | omega), (by first | exact r_ta1 | assumption | omega), (by first | exact r_tc1 | assumption | omega), (by first | exact r_tp1 | assumption | omega), (by first | assumption | omega), (by first | assumption | omega), (by first | exact r_fx | assumption | omega), (by decide), htx1, hyo3, ⟨rfl, hfin⟩⟩
              · refine g_iload_n (pc := 46) hC 2 dX7_findRooms_46 rfl rfl ?_
                refine g_if_eq (pc := 47) hC 110 dX7_findRooms_47 (by decide) (by first | exact r_mo | assumption | omega) (fun c47 => ?_) (fun c47 => ?_)
                · have hfin := fr_I_e hg (by omega) hc hI hk1 (Or.inl (by omega))
                  refine g_aload_n (pc := 110) hC 0 dX7_findRooms_110 rfl rfl ?_
                  refine g_iconst (pc := 111) hC dX7_findRooms_111 ?_
                  refine g_putZ (pc := 112) hC 0 [cO _ _ [_, _, _, _, _, _], _, _, _, _, _, _, _, _, _, _, _, _, _, _, _, _, _] fl_X7_59 dX7_findRooms_112 rfl (Nat.le_of_ble_eq_true rfl) (by omega) rfl ?_
                  exact g_vret (pc := 115) hR dX7_findRooms_115 rfl ⟨by omega, by omega⟩ (Nat.le_of_ble_eq_true rfl) ⟨ks, ns, rs, ts1, ws, tx1, ta1, tc1, tp1, y3, wz, fx, 1, rfl, rfl, (by first | assumption | omega), (by first | assumption | omega), (by first | assumption | omega), (by first | assumption | omega), (by first | assumption | omega), (by first | assumption | omega), (by first | exact r_ta1 | assumption | omega), (by first | exact r_tc1 | assumption | omega), (by first | exact r_tp1 | assumption | omega), (by first | assumption | omega), (by first | assumption | omega), (by first | exact r_fx | assumption | omega), (by decide), htx1, hyo3, ⟨rfl, hfin⟩⟩
                · have hmk : k < (rm_lv c c []).length ∧ ∀ q, 0 ≤ q → q < (c : Int) → y3 q = rm_at ((rm_lv c c []).getD k []) q := hmo.elim (fun y9 => y9.2) (fun y9 => by omega)
                  refine g_aload_n (pc := 50) hC 0 dX7_findRooms_50 rfl rfl ?_
                  refine g_get (pc := 51) hC 0 fl_X7_63 dX7_findRooms_51 rfl rfl ?_
                  refine g_iconst (pc := 54) hC dX7_findRooms_54 ?_
                  refine g_icmp_le (pc := 55) hC 110 dX7_findRooms_55 (by decide) (by first | exact r_fx | assumption | omega) (by first | assumption | decide | omega) (fun c55 => ?_) (fun c55 => ?_)
                  · have hfin := fr_I_e hg (by omega) hc hI hk1 (Or.inr (by omega))
                    refine g_aload_n (pc := 110) hC 0 dX7_findRooms_110 rfl rfl ?_
                    refine g_iconst (pc := 111) hC dX7_findRooms_111 ?_
                    refine g_putZ (pc := 112) hC 0 [cO _ _ [_, _, _, _, _, _], _, _, _, _, _, _, _, _, _, _, _, _, _, _, _, _, _] fl_X7_59 dX7_findRooms_112 rfl (Nat.le_of_ble_eq_true rfl) (by omega) rfl ?_
                    exact g_vret (pc := 115) hR dX7_findRooms_115 rfl ⟨by omega, by omega⟩ (Nat.le_of_ble_eq_true rfl) ⟨ks, ns, rs, ts1, ws, tx1, ta1, tc1, tp1, y3, wz, fx, 1, rfl, rfl, (by first | assumption | omega), (by first | assumption | omega), (by first | assumption | omega), (by first | assumption | omega), (by first | assumption | omega), (by first | assumption | omega), (by first | exact r_ta1 | assumption | omega), (by first | exact r_tc1 | assumption | omega), (by first | exact r_tp1 | assumption | omega), (by first | assumption | omega), (by first | assumption | omega), (by first | exact r_fx | assumption | omega), (by decide), htx1, hyo3, ⟨rfl, hfin⟩⟩
                  · have hprm := fr_perm (c := c) (by omega) hmk.1
                    refine g_aload_n (pc := 58) hC 0 dX7_findRooms_58 rfl rfl ?_
                    refine g_aload_n (pc := 59) hC 1 dX7_findRooms_59 rfl rfl ?_
                    refine g_callV (pc := 60) (qr := 0) hC [0, 1, 2, 3, 4, 5, 6, 7, 8, 9, 10, 11, 12, 13, 14, 15, 16] (k_X7_unlikeByWay_n _ _ _ _ _ _ _ _ _ _ _ _ _ _ _ _ _ _ _ _ _ _ _ _ _ _ _ _ _ _ _ _ _ _ _ _ _ _ _ _ _ _ s W rch (by first | exact r_ta1 | assumption | omega) (by first | exact r_tc1 | assumption | omega) (by first | exact r_tp1 | assumption | omega) (by first | exact r_aw | assumption | omega) (by first | exact r_cn | assumption | omega) (by first | exact r_sp | assumption | omega) (by first | exact r_ks | assumption | omega) (by first | exact r_ns | assumption | omega) (by first | exact r_rs | assumption | omega) (by first | exact r_ts1 | assumption | omega) (by first | exact r_ws | assumption | omega) (by first | exact r_tx1 | assumption | omega) (by first | exact r_kd | assumption | omega) (by first | exact r_nb | assumption | omega) (by first | exact r_rm | assumption | omega) (by first | exact r_st | assumption | omega) (by first | exact r_rw | assumption | omega) (by first | exact r_nx | assumption | omega) (by first | exact r_y3 | assumption | omega) (by first | assumption | omega) (by first | assumption | omega) (by first | assumption | omega) htx1 (fun q e1 e2 => by rw [hmk.2 q e1 (by omega)]; have := hprm q e1 (by omega); omega) (by first | assumption | omega)) cl_X7_unlikeByWay wm_X7_66 dX7_findRooms_60 rfl rfl rfl rfl rfl (by decide) (by decide) (by omega) (Nat.le_of_ble_eq_true rfl) rfl (fun v9 w9 hq9 => ?_)
                    obtain ⟨ks4, ns4, rs4, ts4, ws4, tx4, ta4, tc4, tp4, rfl, rfl, r_ks4, r_ns4, r_rs4, r_ts4, r_ws4, r_tx4, r_ta4, r_tc4, r_tp4, htx2_60⟩ := hq9
                    refine g_ws hC [cO t0 7 [.ref h1, .ref q0, .int (iI fx), .ref t2, .int (iI rf), .ref t1], cO q0 2 [.null, w_facts, w_weighed, w_stamp], cO h1 5 [.ref j0, .ref j1, .ref j2, .ref j3, .ref j4, .ref j5, .int (iI ta4), .int (iI tc4), .int (iI tp4)], cA K j0 6 ks4, cA K j1 6 ns4, cA K j2 6 rs4, cA K j3 6 ts4, cA K j4 24 ws4, cA K j5 6 tx4, cO h0 5 [.ref k0, .ref k1, .ref k2, .ref k3, .ref k4, .ref k5, .int (iI aw), .int (iI cn), .int (iI sp)], cA K k0 6 kd, cA K k1 6 nb, cA K k2 6 rm, cA K k3 6 st, cA K k4 24 rw, cA K k5 6 nx, cA K t1 6 y3, cA K t2 6 wz] (by dsimp only [gput, gputL, List.set_cons_zero, List.set_cons_succ, List.cons_append, List.nil_append]) ?_
                    refine g_st hC [.int (iI (md_unl (md_goN W rch (md_ord s y3) 3)))] rfl ?_
                    refine g_name hC (fun vv e_vv => ?_)
                    have hvr : 0 ≤ vv ∧ vv ≤ 10 := by rw [e_vv]; exact md_unl_rng _
                    have hv9 : vv = md_rv W rch s ((rm_lv c c []).getD k []) := by rw [e_vv, md_ordL (fun q e1 e2 => hmk.2 q e1 (by omega))]; rfl
                    have hv10 := rv_same (W := W) (rch := rch) hg (by omega) hc hmk.1
                    rw [← hv9] at hv10
                    refine g_istore (pc := 63) hC [(4, _), (0, _), (1, _), (2, _), (3, _)] dX7_findRooms_63 (by decide) rfl ?_
                    refine g_iload (pc := 65) hC 0 dX7_findRooms_65 rfl ?_
                    refine g_aload_n (pc := 67) hC 1 dX7_findRooms_67 rfl rfl ?_
                    refine g_get (pc := 68) hC 0 fl_X7_63 dX7_findRooms_68 rfl rfl ?_
                    refine g_icmp_ge (pc := 71) hC 95 dX7_findRooms_71 (by decide) (by first | exact r_vv | assumption | omega) (by first | exact r_fx | assumption | omega) (fun c71 => ?_) (fun c71 => ?_)
                    · refine g_aload_n (pc := 95) hC 1 dX7_findRooms_95 rfl rfl ?_
                      refine g_aload_n (pc := 96) hC 2 dX7_findRooms_96 rfl rfl ?_
                      refine g_get (pc := 97) hC 9 fl_X7_52 dX7_findRooms_97 rfl rfl ?_
                      refine g_callV (pc := 100) (qr := 0) hC [0, 16] (k_X7_turnToNextWay _ _ _ _ _ _ _ cn _ (by first | exact r_cn | assumption | omega) (by first | exact r_y3 | assumption | omega) (by omega)) cl_X7_turnToNextWay wm_X7_76 dX7_findRooms_100 rfl rfl rfl rfl rfl (by decide) (by decide) (by omega) (Nat.le_of_ble_eq_true rfl) rfl (fun v9 w9 hq9 => ?_)
                      obtain ⟨mo2, y5, T5, G5, rfl, rfl, r_mo2, r_y5, r_T5, r_G5, hT_100⟩ := hq9
                      refine g_ws hC [cO t0 7 [.ref h1, .ref q0, .int (iI fx), .ref t2, .int (iI rf), .ref t1], cO q0 2 [.null, w_facts, w_weighed, w_stamp], cO h1 5 [.ref j0, .ref j1, .ref j2, .ref j3, .ref j4, .ref j5, .int (iI ta4), .int (iI tc4), .int (iI tp4)], cA K j0 6 ks4, cA K j1 6 ns4, cA K j2 6 rs4, cA K j3 6 ts4, cA K j4 24 ws4, cA K j5 6 tx4, cO h0 5 [.ref k0, .ref k1, .ref k2, .ref k3, .ref k4, .ref k5, .int (iI aw), .int (iI cn), .int (iI sp)], cA K k0 6 kd, cA K k1 6 nb, cA K k2 6 rm, cA K k3 6 st, cA K k4 24 rw, cA K k5 6 nx, cA K t1 6 y5, cA K t2 6 wz] rfl ?_
                      refine g_st hC [.int (iI mo2)] rfl ?_
                      have hnx := fr_next (wy := y3) (wy2 := y5) (c := c) (k := k) (r := mo2) (T := T5) (G := G5) (by omega) hmk.1 hmk.2 (by rw [← hc, ← hcs.1]; exact hT_100)
                      refine g_istore_n (pc := 103) hC [(2, _), (4, _), (0, _), (1, _), (3, _)] dX7_findRooms_103 rfl (by decide) rfl ?_
                      refine g_iinc (pc := 104) hC 4 [(3, _), (2, _), (4, _), (0, _), (1, _)] dX7_findRooms_104 rfl (by decide) rfl ?_
                      refine g_goto (pc := 107) hC 39 dX7_findRooms_107 (by decide) ?_
                      refine g_lv hC [3, 4, 1, 0] [(0, _), (1, _), (2, _), (3, _)] rfl ?_
                      exact ih39 (wa + 1) mo2 fx y5 wz (k + 1) ks4 ns4 rs4 ts4 ws4 tx4 ta4 tc4 tp4 (by first | assumption | omega) (by first | exact r_mo2 | assumption | omega) (by first | exact r_fx | assumption | omega) (by first | exact r_y5 | assumption | omega) (by first | exact r_wz | assumption | omega) (by first | exact r_ks4 | assumption | omega) (by first | exact r_ns4 | assumption | omega) (by first | exact r_rs4 | assumption | omega) (by first | exact r_ts4 | assumption | omega) (by first | exact r_ws4 | assumption | omega) (by first | exact r_tx4 | assumption | omega) (by first | exact r_ta4 | assumption | omega) (by first | exact r_tc4 | assumption | omega) (by first | exact r_tp4 | assumption | omega) (by first | assumption | omega) (by omega) (fr_I_s hg (by omega) hc hmk.1 hI hv9 hmk.2 (Or.inr ⟨by omega, rfl, rfl⟩)) hnx.1 (fun j e1 => by rw [hnx.2 j e1]; exact hyo3 j e1) htx2_60 (by omega)
                    · refine g_aload_n (pc := 74) hC 1 dX7_findRooms_74 rfl rfl ?_
                      refine g_iload (pc := 75) hC 0 dX7_findRooms_75 rfl ?_
                      refine g_putI (pc := 77) hC 0 [cO _ _ [_, _, _, _, _, _], _, _, _, _, _, _, _, _, _, _, _, _, _, _, _, _, _] fl_X7_63 dX7_findRooms_77 rfl (Nat.le_of_ble_eq_true rfl) rfl ?_
                      refine g_aload_n (pc := 80) hC 1 dX7_findRooms_80 rfl rfl ?_
                      refine g_get (pc := 81) hC 0 fl_X7_22 dX7_findRooms_81 rfl rfl ?_
                      refine g_iconst (pc := 84) hC dX7_findRooms_84 ?_
                      refine g_aload_n (pc := 85) hC 1 dX7_findRooms_85 rfl rfl ?_
                      refine g_get (pc := 86) hC 0 fl_X7_18 dX7_findRooms_86 rfl rfl ?_
                      refine g_iconst (pc := 89) hC dX7_findRooms_89 ?_
                      refine g_bipush (pc := 90) hC (6) dX7_findRooms_90 (by decide) ?_
                      refine g_copy (pc := 92) hC 16 17 (fun f9 => [_, _, _, _, _, _, _, _, _, _, _, _, _, _, _, _, _, cA K _ _ f9]) wm_X7_70 (Nat.le_of_ble_eq_true rfl) (by decide) dX7_findRooms_92 rfl rfl (by omega) (fun _ => rfl) (fun wz2 e_wz2 => ?_)
                      have r_wz2 := rng_cp e_wz2 r_y3 r_wz
                      refine g_aload_n (pc := 95) hC 1 dX7_findRooms_95 rfl rfl ?_
                      refine g_aload_n (pc := 96) hC 2 dX7_findRooms_96 rfl rfl ?_
                      refine g_get (pc := 97) hC 9 fl_X7_52 dX7_findRooms_97 rfl rfl ?_
                      refine g_callV (pc := 100) (qr := 0) hC [0, 16] (k_X7_turnToNextWay _ _ _ _ _ _ _ cn _ (by first | exact r_cn | assumption | omega) (by first | exact r_y3 | assumption | omega) (by omega)) cl_X7_turnToNextWay wm_X7_76 dX7_findRooms_100 rfl rfl rfl rfl rfl (by decide) (by decide) (by omega) (Nat.le_of_ble_eq_true rfl) rfl (fun v9 w9 hq9 => ?_)
                      obtain ⟨mo2, y5, T5, G5, rfl, rfl, r_mo2, r_y5, r_T5, r_G5, hT_100⟩ := hq9
                      refine g_ws hC [cO t0 7 [.ref h1, .ref q0, .int (iI vv), .ref t2, .int (iI rf), .ref t1], cO q0 2 [.null, w_facts, w_weighed, w_stamp], cO h1 5 [.ref j0, .ref j1, .ref j2, .ref j3, .ref j4, .ref j5, .int (iI ta4), .int (iI tc4), .int (iI tp4)], cA K j0 6 ks4, cA K j1 6 ns4, cA K j2 6 rs4, cA K j3 6 ts4, cA K j4 24 ws4, cA K j5 6 tx4, cO h0 5 [.ref k0, .ref k1, .ref k2, .ref k3, .ref k4, .ref k5, .int (iI aw), .int (iI cn), .int (iI sp)], cA K k0 6 kd, cA K k1 6 nb, cA K k2 6 rm, cA K k3 6 st, cA K k4 24 rw, cA K k5 6 nx, cA K t1 6 y5, cA K t2 6 wz2] rfl ?_
                      refine g_st hC [.int (iI mo2)] rfl ?_
                      have hnx := fr_next (wy := y3) (wy2 := y5) (c := c) (k := k) (r := mo2) (T := T5) (G := G5) (by omega) hmk.1 hmk.2 (by rw [← hc, ← hcs.1]; exact hT_100)
                      refine g_istore_n (pc := 103) hC [(2, _), (4, _), (0, _), (1, _), (3, _)] dX7_findRooms_103 rfl (by decide) rfl ?_
                      refine g_iinc (pc := 104) hC 4 [(3, _), (2, _), (4, _), (0, _), (1, _)] dX7_findRooms_104 rfl (by decide) rfl ?_
                      refine g_goto (pc := 107) hC 39 dX7_findRooms_107 (by decide) ?_
                      refine g_lv hC [3, 4, 1, 0] [(0, _), (1, _), (2, _), (3, _)] rfl ?_
                      exact ih39 (wa + 1) mo2 vv y5 wz2 (k + 1) ks4 ns4 rs4 ts4 ws4 tx4 ta4 tc4 tp4 (by first | assumption | omega) (by first | exact r_mo2 | assumption | omega) (by first | exact r_vv | assumption | omega) (by first | exact r_y5 | assumption | omega) (by first | exact r_wz2 | assumption | omega) (by first | exact r_ks4 | assumption | omega) (by first | exact r_ns4 | assumption | omega) (by first | exact r_rs4 | assumption | omega) (by first | exact r_ts4 | assumption | omega) (by first | exact r_ws4 | assumption | omega) (by first | exact r_tx4 | assumption | omega) (by first | exact r_ta4 | assumption | omega) (by first | exact r_tc4 | assumption | omega) (by first | exact r_tp4 | assumption | omega) (by first | assumption | omega) (by omega) (fr_I_s hg (by omega) hc hmk.1 hI hv9 hmk.2 (Or.inl ⟨by omega, rfl, fun q e1 e2 => cp_at e_wz2 q e1 (by omega)⟩)) hnx.1 (fun j e1 => by rw [hnx.2 j e1]; exact hyo3 j e1) htx2_60 (by omega)
          refine g_lv hC [2, 3, 1, 0] [(0, _), (1, _), (2, _), (3, _)] rfl ?_
          exact L39 ((720 - 0 : Int).toNat + 1) 0 1 7 y1 wh 0 tk tn tr ts tw tx ta tc tp (by decide) (by decide) (by decide) (by first | exact r_y1 | assumption | omega) (by first | exact r_wh | assumption | omega) (by first | exact r_tk | assumption | omega) (by first | exact r_tn | assumption | omega) (by first | exact r_tr | assumption | omega) (by first | exact r_ts | assumption | omega) (by first | exact r_tw | assumption | omega) (by first | exact r_tx | assumption | omega) (by first | exact r_ta | assumption | omega) (by first | exact r_tc | assumption | omega) (by first | exact r_tp | assumption | omega) (by first | assumption | omega) (by first | assumption | omega) (Or.inl ⟨rfl, rfl⟩) (Or.inl ⟨rfl, hfst.1, fun q e1 e2 => by rw [hy q e1 (by omega)]; exact hfst.2.2 q e1 e2⟩) hyo htx (by omega)
        · refine g_aload_n (pc := 16) hC 0 dX7_findRooms_16 rfl rfl ?_
          refine g_get (pc := 17) hC 0 fl_X7_22 dX7_findRooms_17 rfl rfl ?_
          refine g_iload_n (pc := 20) hC 2 dX7_findRooms_20 rfl rfl ?_
          refine g_iload_n (pc := 21) hC 2 dX7_findRooms_21 rfl rfl ?_
          refine g_iast (pc := 22) hC 16 (fun f9 => [_, _, _, _, _, _, _, _, _, _, _, _, _, _, _, _, cA K _ _ f9, _]) dX7_findRooms_22 rfl (by omega) (fun _ => rfl) (fun y2 e_y2 => ?_)
          have r_y2 := rng_up e_y2 r_y1 (by first | exact r_i | assumption | omega)
          refine g_iinc (pc := 23) hC 2 [(2, _), (0, _), (1, _)] dX7_findRooms_23 rfl (by decide) rfl ?_
          refine g_goto (pc := 26) hC 10 dX7_findRooms_26 (by decide) ?_
          refine g_lv hC [1, 2, 0] [(0, _), (1, _), (2, _)] rfl ?_
          exact ih10 (i + 1) y2 (by first | assumption | omega) (by first | exact r_y2 | assumption | omega) (by first | assumption | omega) (fun q e1 e2 => if hq : q = i then (by rw [e_y2, hq, upI_at]) else (by rw [e_y2, upI_ne hq]; exact hy q e1 (by omega))) (fun j e1 => by rw [e_y2, upI_ne (by omega)]; exact hyo j e1) (by omega)
    refine g_lv hC [1, 2, 0] [(0, _), (1, _), (2, _)] rfl ?_
    exact L10 ((6 - 0 : Int).toNat + 1) 0 wy (by decide) (by first | exact r_wy | assumption | omega) (by first | assumption | omega) (fun q e1 e2 => by omega) (by first | assumption | omega) (by omega)
  · exact g_vret (pc := 7) hR dX7_findRooms_7 rfl ⟨by omega, by omega⟩ (Nat.le_of_ble_eq_true rfl) ⟨tk, tn, tr, ts, tw, tx, ta, tc, tp, wy, wh, fw, rf, rfl, rfl, (by first | assumption | omega), (by first | assumption | omega), (by first | assumption | omega), (by first | assumption | omega), (by first | assumption | omega), (by first | assumption | omega), (by first | exact r_ta | assumption | omega), (by first | exact r_tc | assumption | omega), (by first | exact r_tp | assumption | omega), (by first | assumption | omega), (by first | assumption | omega), (by first | exact r_fw | assumption | omega), (by first | exact r_rf | assumption | omega), htx, hwy, (hrf.elim (fun y1 => by omega) (fun y1 => y1))⟩
set_option maxHeartbeats 40000000 in
set_option maxRecDepth 100000 in
theorem k_X7_unlikeByWay_r {K : gK} (t0 : Nat) (h0 : Nat) (h1 : Nat) (q0 : Nat) (t1 : Nat) (o0 : Nat) (q1 : Nat) (q2 : Nat) (o1 : Nat) (j0 : Nat) (j1 : Nat) (j2 : Nat) (j3 : Nat) (j4 : Nat) (j5 : Nat) (k0 : Nat) (k1 : Nat) (k2 : Nat) (k3 : Nat) (k4 : Nat) (k5 : Nat) (w_fewest : Value) (w_whose : Value) (w_roomsFound : Value) (stp : Int) (m : Int) (rc : Int) (ta : Int) (tc : Int) (tp : Int) (aw : Int) (cn : Int) (sp : Int) (fc : Int → Int) (wg : Int → Int) (od : Int → Int) (tk : Int → Int) (tn : Int → Int) (tr : Int → Int) (ts : Int → Int) (tw : Int → Int) (tx : Int → Int) (kd : Int → Int) (nb : Int → Int) (rm : Int → Int) (st : Int → Int) (rw : Int → Int) (nx : Int → Int) (wy : Int → Int) (s : Int → Int) (W : (Int → Int) → Int) (rch : Int) (r_stp : rI stp) (r_m : rI m) (r_rc : rI rc) (r_ta : rI ta) (r_tc : rI tc) (r_tp : rI tp) (r_aw : rI aw) (r_cn : rI cn) (r_sp : rI sp) (r_fc : ∀ j, rI (fc j)) (r_wg : ∀ j, rI (wg j)) (r_od : ∀ j, rI (od j)) (r_tk : ∀ j, rI (tk j)) (r_tn : ∀ j, rI (tn j)) (r_tr : ∀ j, rI (tr j)) (r_ts : ∀ j, rI (ts j)) (r_tw : ∀ j, rI (tw j)) (r_tx : ∀ j, rI (tx j)) (r_kd : ∀ j, rI (kd j)) (r_nb : ∀ j, rI (nb j)) (r_rm : ∀ j, rI (rm j)) (r_st : ∀ j, rI (st j)) (r_rw : ∀ j, rI (rw j)) (r_nx : ∀ j, rI (nx j)) (r_wy : ∀ j, rI (wy j)) (hg : md_rg s) (hR9 : cs_R s kd nb rm st rw nx aw cn sp) (hho : md_ho W od m) (hcc : md_CC W (fun z => s (26 + z)) wg stp) (hWr : ∀ b, -990 ≤ W b ∧ W b ≤ 990) (hrch : rc = rch) (hrr : 0 ≤ rch ∧ rch ≤ 99) (htx : ∀ p, 0 ≤ p → p < 6 → 0 ≤ tx p ∧ tx p ≤ 9) (hwy : ∀ q, 0 ≤ q → q < s 19 → 0 ≤ wy q ∧ wy q < s 19) (hst0 : s 0 + 61 ≤ 20000) : gMet K yX7_unlikeByWay cX7_unlikeByWay 4 (some .int) 4 0 0 [.ref t0, .ref h0] [cO t0 7 [.ref h1, .ref q0, w_fewest, w_whose, w_roomsFound, .ref t1], cO q0 2 [.ref o0, .ref q1, .ref q2, .int (iI stp)], cA K q1 6 fc, cA K q2 36000 wg, cO o0 1 [.ref o1, .int (iI m), .int (iI rc)], cA K o1 100 od, cO h1 5 [.ref j0, .ref j1, .ref j2, .ref j3, .ref j4, .ref j5, .int (iI ta), .int (iI tc), .int (iI tp)], cA K j0 6 tk, cA K j1 6 tn, cA K j2 6 tr, cA K j3 6 ts, cA K j4 24 tw, cA K j5 6 tx, cO h0 5 [.ref k0, .ref k1, .ref k2, .ref k3, .ref k4, .ref k5, .int (iI aw), .int (iI cn), .int (iI sp)], cA K k0 6 kd, cA K k1 6 nb, cA K k2 6 rm, cA K k3 6 st, cA K k4 24 rw, cA K k5 6 nx, cA K t1 6 wy] (fun v9 w9 => ∃ (tk2 : Int → Int), ∃ (tn2 : Int → Int), ∃ (tr2 : Int → Int), ∃ (ts2 : Int → Int), ∃ (tw2 : Int → Int), ∃ (tx2 : Int → Int), ∃ (ta2 : Int), ∃ (tc2 : Int), ∃ (tp2 : Int), ∃ (fc2 : Int → Int), ∃ (wg2 : Int → Int), v9 = some (.int (iI (md_unl (md_goN W rch (md_ord s wy) 3)))) ∧ w9 = [cO t0 7 [.ref h1, .ref q0, w_fewest, w_whose, w_roomsFound, .ref t1], cO q0 2 [.ref o0, .ref q1, .ref q2, .int (iI stp)], cA K q1 6 fc2, cA K q2 36000 wg2, cO o0 1 [.ref o1, .int (iI m), .int (iI rc)], cA K o1 100 od, cO h1 5 [.ref j0, .ref j1, .ref j2, .ref j3, .ref j4, .ref j5, .int (iI ta2), .int (iI tc2), .int (iI tp2)], cA K j0 6 tk2, cA K j1 6 tn2, cA K j2 6 tr2, cA K j3 6 ts2, cA K j4 24 tw2, cA K j5 6 tx2, cO h0 5 [.ref k0, .ref k1, .ref k2, .ref k3, .ref k4, .ref k5, .int (iI aw), .int (iI cn), .int (iI sp)], cA K k0 6 kd, cA K k1 6 nb, cA K k2 6 rm, cA K k3 6 st, cA K k4 24 rw, cA K k5 6 nx, cA K t1 6 wy] ∧ (∀ j, rI (tk2 j)) ∧ (∀ j, rI (tn2 j)) ∧ (∀ j, rI (tr2 j)) ∧ (∀ j, rI (ts2 j)) ∧ (∀ j, rI (tw2 j)) ∧ (∀ j, rI (tx2 j)) ∧ rI ta2 ∧ rI tc2 ∧ rI tp2 ∧ (∀ j, rI (fc2 j)) ∧ (∀ j, rI (wg2 j)) ∧ (∀ p, 0 ≤ p → p < 6 → 0 ≤ tx2 p ∧ tx2 p ≤ 9) ∧ (md_CC W (fun z => s (26 + z)) wg2 stp)) := by
  refine g_enter (by decide +kernel) (Nat.le_of_ble_eq_true rfl) (fun G hC hR => ?_)
  refine g_lv hC [0, 1] [(0, _), (1, _)] rfl ?_
  have h19 := hg.2.2.1
  have hg0 := hg.2.2.2
  have hcs := hR9.1
  refine g_aload_n (pc := 0) hC 0 dX7_unlikeByWay_0 rfl rfl ?_
  refine g_aload_n (pc := 1) hC 1 dX7_unlikeByWay_1 rfl rfl ?_
  refine g_callV (pc := 2) (qr := 0) hC [0, 6, 7, 8, 9, 10, 11, 12, 13, 14, 15, 16, 17, 18, 19] (k_X7_begin _ _ _ _ _ _ _ _ _ _ _ _ _ _ _ _ _ _ _ _ _ _ _ _ _ _ _ _ _ _ _ _ _ _ _ _ _ _ _ (by first | exact r_ta | assumption | omega) (by first | exact r_tc | assumption | omega) (by first | exact r_tp | assumption | omega) (by first | exact r_aw | assumption | omega) (by first | exact r_cn | assumption | omega) (by first | exact r_sp | assumption | omega) (by first | exact r_tk | assumption | omega) (by first | exact r_tn | assumption | omega) (by first | exact r_tr | assumption | omega) (by first | exact r_ts | assumption | omega) (by first | exact r_tw | assumption | omega) (by first | exact r_tx | assumption | omega) (by first | exact r_kd | assumption | omega) (by first | exact r_nb | assumption | omega) (by first | exact r_rm | assumption | omega) (by first | exact r_st | assumption | omega) (by first | exact r_rw | assumption | omega) (by first | exact r_nx | assumption | omega) (by first | assumption | omega) (by first | assumption | omega) (by first | assumption | omega)) cl_X7_begin wm_X7_37 dX7_unlikeByWay_2 rfl rfl rfl rfl rfl (by decide) (by decide) (by omega) (Nat.le_of_ble_eq_true rfl) rfl (fun v9 w9 hq9 => ?_)
  obtain ⟨kd3, nb3, rm3, st3, rw3, rfl, rfl, r_kd3, r_nb3, r_rm3, r_st3, r_rw3, hR2_2⟩ := hq9
  refine g_ws hC [cO t0 7 [.ref h1, .ref q0, w_fewest, w_whose, w_roomsFound, .ref t1], cO q0 2 [.ref o0, .ref q1, .ref q2, .int (iI stp)], cA K q1 6 fc, cA K q2 36000 wg, cO o0 1 [.ref o1, .int (iI m), .int (iI rc)], cA K o1 100 od, cO h1 5 [.ref j0, .ref j1, .ref j2, .ref j3, .ref j4, .ref j5, .int (iI aw), .int (iI cn), .int (iI sp)], cA K j0 6 kd3, cA K j1 6 nb3, cA K j2 6 rm3, cA K j3 6 st3, cA K j4 24 rw3, cA K j5 6 tx, cO h0 5 [.ref k0, .ref k1, .ref k2, .ref k3, .ref k4, .ref k5, .int (iI aw), .int (iI cn), .int (iI sp)], cA K k0 6 kd, cA K k1 6 nb, cA K k2 6 rm, cA K k3 6 st, cA K k4 24 rw, cA K k5 6 nx, cA K t1 6 wy] (by dsimp only [gput, gputL, List.set_cons_zero, List.set_cons_succ, List.cons_append, List.nil_append]) ?_
  refine g_st hC [] rfl ?_
  refine g_iconst (pc := 5) hC dX7_unlikeByWay_5 ?_
  refine g_istore_n (pc := 6) hC [(2, _), (0, _), (1, _)] dX7_unlikeByWay_6 rfl (by decide) rfl ?_
  have L7 : ∀ (n1 : Nat) (i : Int) (nb1 : Int → Int) (rm1 : Int → Int) (ts3 : Int → Int), (rI i) → (∀ j, rI (nb1 j)) → (∀ j, rI (rm1 j)) → (∀ j, rI (ts3 j)) → (0 ≤ i ∧ i ≤ s 19) → (cs_R (md_odk s wy i) kd3 nb1 rm1 ts3 rw3 tx aw cn sp) → s 19 - i < (n1 : Int) → G 0 0 7 [(0, .ref t0), (1, .ref h0), (2, .int (iI i))] [] [cO t0 7 [.ref h1, .ref q0, w_fewest, w_whose, w_roomsFound, .ref t1], cO q0 2 [.ref o0, .ref q1, .ref q2, .int (iI stp)], cA K q1 6 fc, cA K q2 36000 wg, cO o0 1 [.ref o1, .int (iI m), .int (iI rc)], cA K o1 100 od, cO h1 5 [.ref j0, .ref j1, .ref j2, .ref j3, .ref j4, .ref j5, .int (iI aw), .int (iI cn), .int (iI sp)], cA K j0 6 kd3, cA K j1 6 nb1, cA K j2 6 rm1, cA K j3 6 ts3, cA K j4 24 rw3, cA K j5 6 tx, cO h0 5 [.ref k0, .ref k1, .ref k2, .ref k3, .ref k4, .ref k5, .int (iI aw), .int (iI cn), .int (iI sp)], cA K k0 6 kd, cA K k1 6 nb, cA K k2 6 rm, cA K k3 6 st, cA K k4 24 rw, cA K k5 6 nx, cA K t1 6 wy] := by
    intro n1
    induction n1 with
    | zero => intro i nb1 rm1 ts3 r_i r_nb1 r_rm1 r_ts3 hi hR1 hm7; exfalso; omega
    | succ n1 ih7 =>
      intro i nb1 rm1 ts3 r_i r_nb1 r_rm1 r_ts3 hi hR1 hm7
      refine g_iload_n (pc := 7) hC 2 dX7_unlikeByWay_7 rfl rfl ?_
      refine g_aload_n (pc := 8) hC 1 dX7_unlikeByWay_8 rfl rfl ?_
      refine g_get (pc := 9) hC 13 fl_X7_52 dX7_unlikeByWay_9 rfl rfl ?_
      refine g_icmp_ge (pc := 12) hC 57 dX7_unlikeByWay_12 (by decide) (by first | exact r_i | assumption | omega) (by first | exact r_cn | assumption | omega) (fun c12 => ?_) (fun c12 => ?_)
      · have hord : (md_odk s wy i) = (md_ord s wy) := by rw [show i = s 19 by omega]; rfl
        rw [hord] at hR1
        have hgo : md_rg (md_ord s wy) := by rw [← hord]; exact md_odk_rg hg (by omega) (fun j y1 y2 => by have := hwy j y1 (by omega); omega)
        have ho0 : (md_ord s wy) 0 = s 0 := by rw [← hord]; exact md_odk_out (by omega) (by omega)
        have ho19 : (md_ord s wy) 19 = s 19 := by rw [← hord]; exact md_odk_out (by omega) (by omega)
        have htc : ∀ u : Int → Int, md_CC W (fun z => (md_ord s wy) (26 + z)) u stp ↔ md_CC W (fun z => s (26 + z)) u stp := fun u => cc_eq (fun z y1 y2 => by rw [← hord]; exact md_odk_out (by omega) (by omega))
        refine g_iconst (pc := 57) hC dX7_unlikeByWay_57 ?_
        refine g_istore_n (pc := 58) hC [(2, _), (0, _), (1, _)] dX7_unlikeByWay_58 rfl (by decide) rfl ?_
        have L59 : ∀ (n2 : Nat) (y : Int) (ts1 : Int → Int) (tx1 : Int → Int) (tp1 : Int) (j : Nat) (f1 : Int → Int) (w1 : Int → Int), (rI y) → (∀ j, rI (ts1 j)) → (∀ j, rI (tx1 j)) → (rI tp1) → (∀ j, rI (f1 j)) → (∀ j, rI (w1 j)) → (y = (j : Int)) → (y ≤ 3) → (cs_R (md_goN W rch (md_ord s wy) j) kd3 nb1 rm1 ts1 rw3 tx1 aw cn tp1) → (md_CC W (fun z => s (26 + z)) w1 stp) → 3 - y < (n2 : Int) → G 0 0 59 [(0, .ref t0), (1, .ref h0), (2, .int (iI y))] [] [cO t0 7 [.ref h1, .ref q0, w_fewest, w_whose, w_roomsFound, .ref t1], cO q0 2 [.ref o0, .ref q1, .ref q2, .int (iI stp)], cA K q1 6 f1, cA K q2 36000 w1, cO o0 1 [.ref o1, .int (iI m), .int (iI rc)], cA K o1 100 od, cO h1 5 [.ref j0, .ref j1, .ref j2, .ref j3, .ref j4, .ref j5, .int (iI aw), .int (iI cn), .int (iI tp1)], cA K j0 6 kd3, cA K j1 6 nb1, cA K j2 6 rm1, cA K j3 6 ts1, cA K j4 24 rw3, cA K j5 6 tx1, cO h0 5 [.ref k0, .ref k1, .ref k2, .ref k3, .ref k4, .ref k5, .int (iI aw), .int (iI cn), .int (iI sp)], cA K k0 6 kd, cA K k1 6 nb, cA K k2 6 rm, cA K k3 6 st, cA K k4 24 rw, cA K k5 6 nx, cA K t1 6 wy] := by
          intro n2
          induction n2 with
          | zero => intro y ts1 tx1 tp1 j f1 w1 r_y r_ts1 r_tx1 r_tp1 r_f1 r_w1 hi5 hj hR5 hcc1 hm59; exfalso; omega
          | succ n2 ih59 =>
            intro y ts1 tx1 tp1 j f1 w1 r_y r_ts1 r_tx1 r_tp1 r_f1 r_w1 hi5 hj hR5 hcc1 hm59
            have hgj : md_rg (md_goN W rch (md_ord s wy) j) := md_goN_rg hgo j (by rw [ho0]; omega)
            refine g_iload_n (pc := 59) hC 2 dX7_unlikeByWay_59 rfl rfl ?_
            refine g_iconst (pc := 60) hC dX7_unlikeByWay_60 ?_
            refine g_icmp_ge (pc := 61) hC 81 dX7_unlikeByWay_61 (by decide) (by first | exact r_y | assumption | omega) (by first | assumption | decide | omega) (fun c61 => ?_) (fun c61 => ?_)
            · refine g_aload_n (pc := 81) hC 0 dX7_unlikeByWay_81 rfl rfl ?_
              refine g_get (pc := 82) hC 0 fl_X7_12 dX7_unlikeByWay_82 rfl rfl ?_
              refine g_fnV (pc := 85) (qr := 6) hC [6, 7, 8, 9, 10, 11, 12] (k_X5_unlikeStates _ _ _ _ _ _ _ _ _ _ _ _ _ _ _ _ (md_goN W rch (md_ord s wy) j) (by first | exact r_aw | assumption | omega) (by first | exact r_cn | assumption | omega) (by first | exact r_tp1 | assumption | omega) (by first | exact r_kd3 | assumption | omega) (by first | exact r_nb1 | assumption | omega) (by first | exact r_rm1 | assumption | omega) (by first | exact r_ts1 | assumption | omega) (by first | exact r_rw3 | assumption | omega) (by first | exact r_tx1 | assumption | omega) hgj hR5) cl_X5_unlikeStates wm_X7_40 dX7_unlikeByWay_85 rfl rfl rfl rfl rfl (by decide) (by decide) ⟨by omega, by omega⟩ (Nat.le_of_ble_eq_true rfl) rfl rfl ?_
              refine g_name hC (fun x85 e_x85 => ?_)
              have q_x85 : 0 ≤ x85 ∧ x85 ≤ 10 := by rw [e_x85]; exact md_unl_rng _
              exact g_iret (pc := 88) hR dX7_unlikeByWay_88 rfl ⟨by omega, by omega⟩ (Nat.le_of_ble_eq_true rfl) ⟨kd3, nb1, rm1, ts1, rw3, tx1, aw, cn, tp1, f1, w1, ret_eq (by rw [e_x85, show j = 3 by omega]), rfl, (by first | assumption | omega), (by first | assumption | omega), (by first | assumption | omega), (by first | assumption | omega), (by first | assumption | omega), (by first | assumption | omega), (by first | exact r_aw | assumption | omega), (by first | exact r_cn | assumption | omega), (by first | exact r_tp1 | assumption | omega), (by first | assumption | omega), (by first | assumption | omega), (fun p y1 y2 => (hR5.2.2.2.1 p y1 y2).2.2), hcc1⟩
            · refine g_aload_n (pc := 64) hC 0 dX7_unlikeByWay_64 rfl rfl ?_
              refine g_get (pc := 65) hC 0 fl_X7_12 dX7_unlikeByWay_65 rfl rfl ?_
              refine g_aload_n (pc := 68) hC 0 dX7_unlikeByWay_68 rfl rfl ?_
              refine g_get (pc := 69) hC 0 fl_X7_25 dX7_unlikeByWay_69 rfl rfl ?_
              refine g_callV (pc := 72) (qr := 6) hC [1, 2, 3, 4, 5, 6, 7, 8, 9, 10, 11, 12] (k_X5_goOneStep_r _ _ _ _ _ _ _ _ _ _ _ _ _ _ _ _ _ _ _ _ _ _ _ _ _ _ _ (md_goN W rch (md_ord s wy) j) W rch (by first | exact r_stp | assumption | omega) (by first | exact r_m | assumption | omega) (by first | exact r_rc | assumption | omega) (by first | exact r_aw | assumption | omega) (by first | exact r_cn | assumption | omega) (by first | exact r_tp1 | assumption | omega) (by first | exact r_f1 | assumption | omega) (by first | exact r_w1 | assumption | omega) (by first | exact r_od | assumption | omega) (by first | exact r_kd3 | assumption | omega) (by first | exact r_nb1 | assumption | omega) (by first | exact r_rm1 | assumption | omega) (by first | exact r_ts1 | assumption | omega) (by first | exact r_rw3 | assumption | omega) (by first | exact r_tx1 | assumption | omega) hgj hR5 (by first | assumption | omega) ((cc_go (by rw [ho19]; exact h19.2) j).mpr ((htc _).mpr hcc1)) (by first | assumption | omega) (by first | assumption | omega) (by first | assumption | omega)) cl_X5_goOneStep wm_X7_33 dX7_unlikeByWay_72 rfl rfl rfl rfl rfl (by decide) (by decide) (by omega) (Nat.le_of_ble_eq_true rfl) rfl (fun v9 w9 hq9 => ?_)
              obtain ⟨n3, st4, fc5, wg6, rfl, rfl, r_n3, r_st4, r_fc5, r_wg6, hR2_72, hcc2_72⟩ := hq9
              refine g_ws hC [cO t0 7 [.ref h1, .ref q0, w_fewest, w_whose, w_roomsFound, .ref t1], cO q0 2 [.ref o0, .ref q1, .ref q2, .int (iI stp)], cA K q1 6 fc5, cA K q2 36000 wg6, cO o0 1 [.ref o1, .int (iI m), .int (iI rc)], cA K o1 100 od, cO h1 5 [.ref j0, .ref j1, .ref j2, .ref j3, .ref j4, .ref j5, .int (iI aw), .int (iI cn), .int (iI (tp1 + 1))], cA K j0 6 kd3, cA K j1 6 nb1, cA K j2 6 rm1, cA K j3 6 st4, cA K j4 24 rw3, cA K j5 6 n3, cO h0 5 [.ref k0, .ref k1, .ref k2, .ref k3, .ref k4, .ref k5, .int (iI aw), .int (iI cn), .int (iI sp)], cA K k0 6 kd, cA K k1 6 nb, cA K k2 6 rm, cA K k3 6 st, cA K k4 24 rw, cA K k5 6 nx, cA K t1 6 wy] (by dsimp only [gput, gputL, List.set_cons_zero, List.set_cons_succ, List.cons_append, List.nil_append]) ?_
              refine g_st hC [] rfl ?_
              refine g_iinc (pc := 75) hC 2 [(2, _), (0, _), (1, _)] dX7_unlikeByWay_75 rfl (by decide) rfl ?_
              refine g_goto (pc := 78) hC 59 dX7_unlikeByWay_78 (by decide) ?_
              refine g_lv hC [1, 2, 0] [(0, _), (1, _), (2, _)] rfl ?_
              exact ih59 (y + 1) st4 n3 (tp1 + 1) (j + 1) fc5 wg6 (by first | assumption | omega) (by first | assumption | omega) (by first | assumption | omega) (by have h9 := hR5.1; have h8 := hgj.2.2.2; omega) (by first | assumption | omega) (by first | assumption | omega) (by first | assumption | omega) (by first | assumption | omega) hR2_72 ((htc _).mp ((cc_go (by rw [ho19]; exact h19.2) j).mp hcc2_72)) (by omega)
        refine g_lv hC [1, 2, 0] [(0, _), (1, _), (2, _)] rfl ?_
        exact L59 ((3 - 0 : Int).toNat + 1) 0 ts3 tx sp 0 fc wg (by decide) (by first | assumption | omega) (by first | assumption | omega) (by first | exact r_sp | assumption | omega) (by first | assumption | omega) (by first | assumption | omega) (by first | assumption | omega) (by first | assumption | omega) hR1 (by first | assumption | omega) (by omega)
      · have hwi := hwy i (by omega) (by omega)
        have hgk : md_rg (md_odk s wy i) := md_odk_rg hg (by omega) (fun j y1 y2 => by have := hwy j y1 (by omega); omega)
        refine g_iload_n (pc := 15) hC 2 dX7_unlikeByWay_15 rfl rfl ?_
        refine g_bipush (pc := 16) hC (6) dX7_unlikeByWay_16 (by decide) ?_
        refine g_icmp_ge (pc := 18) hC 57 dX7_unlikeByWay_18 (by decide) (by first | exact r_i | assumption | omega) (by first | assumption | decide | omega) (fun c18 => by exfalso; omega) (fun c18 => ?_)
        refine g_aload_n (pc := 21) hC 0 dX7_unlikeByWay_21 rfl rfl ?_
        refine g_get (pc := 22) hC 0 fl_X7_22 dX7_unlikeByWay_22 rfl rfl ?_
        refine g_iload_n (pc := 25) hC 2 dX7_unlikeByWay_25 rfl rfl ?_
        refine g_iald (pc := 26) hC 20 dX7_unlikeByWay_26 rfl (by omega) ?_
        have qz7 := r_wy i
        refine g_istore_n (pc := 27) hC [(3, _), (0, _), (1, _), (2, _)] dX7_unlikeByWay_27 rfl (by decide) rfl ?_
        refine g_aload_n (pc := 28) hC 2 dX7_unlikeByWay_28 rfl rfl ?_
        refine g_iload_n (pc := 29) hC 0 dX7_unlikeByWay_29 rfl rfl ?_
        refine g_fnV (pc := 30) (qr := 13) hC [13] (k_X5_has _ _ _ _ _ _ _ _ _ _ _ (by first | assumption | omega) (by first | exact r_cn | assumption | omega)) cl_X5_has wm_X7_80 dX7_unlikeByWay_30 rfl rfl rfl rfl rfl (by decide) (by decide) ⟨by omega, by omega⟩ (Nat.le_of_ble_eq_true rfl) rfl rfl ?_
        refine g_name hC (fun x8 e_x8 => ?_)
        refine g_if_eq (pc := 33) hC 51 dX7_unlikeByWay_33 (by decide) (by first | exact r_x8 | assumption | omega) (fun c33 => by exfalso; omega) (fun c33 => ?_)
        refine g_aload_n (pc := 36) hC 1 dX7_unlikeByWay_36 rfl rfl ?_
        refine g_get (pc := 37) hC 0 fl_X7_12 dX7_unlikeByWay_37 rfl rfl ?_
        refine g_iload_n (pc := 40) hC 3 dX7_unlikeByWay_40 rfl rfl ?_
        refine g_iconst (pc := 41) hC dX7_unlikeByWay_41 ?_
        refine g_aload_n (pc := 42) hC 2 dX7_unlikeByWay_42 rfl rfl ?_
        refine g_get (pc := 43) hC 13 fl_X7_83 dX7_unlikeByWay_43 rfl rfl ?_
        refine g_iload_n (pc := 46) hC 0 dX7_unlikeByWay_46 rfl rfl ?_
        refine g_iald (pc := 47) hC 16 dX7_unlikeByWay_47 rfl (by omega) ?_
        have qz9 := r_rm (wy i)
        have hrm4 := hR9.2.1 (wy i) (by omega) (by omega)
        have hrm5 := hR9.2.2.2.1 (wy i) (by omega) (by omega)
        refine g_callV (pc := 48) (qr := 6) hC [6, 7, 8, 9, 10, 11, 12] (k_X5_change _ _ _ _ _ _ _ _ _ _ _ _ _ _ _ _ _ _ _ (md_odk s wy i) (by first | exact r_i | assumption | omega) (by decide) (by first | assumption | omega) (by first | exact r_aw | assumption | omega) (by first | exact r_cn | assumption | omega) (by first | exact r_sp | assumption | omega) (by first | exact r_kd3 | assumption | omega) (by first | exact r_nb1 | assumption | omega) (by first | exact r_rm1 | assumption | omega) (by first | exact r_ts3 | assumption | omega) (by first | exact r_rw3 | assumption | omega) (by first | exact r_tx | assumption | omega) hgk hR1 (by first | assumption | omega)) cl_X5_change wm_X7_44 dX7_unlikeByWay_48 rfl rfl rfl rfl rfl (by decide) (by decide) (by omega) (Nat.le_of_ble_eq_true rfl) rfl (fun v9 w9 hq9 => ?_)
        obtain ⟨nb4, rm4, st4, rfl, rfl, r_nb4, r_rm4, r_st4, hR2_48⟩ := hq9
        refine g_ws hC [cO t0 7 [.ref h1, .ref q0, w_fewest, w_whose, w_roomsFound, .ref t1], cO q0 2 [.ref o0, .ref q1, .ref q2, .int (iI stp)], cA K q1 6 fc, cA K q2 36000 wg, cO o0 1 [.ref o1, .int (iI m), .int (iI rc)], cA K o1 100 od, cO h1 5 [.ref j0, .ref j1, .ref j2, .ref j3, .ref j4, .ref j5, .int (iI aw), .int (iI cn), .int (iI sp)], cA K j0 6 kd3, cA K j1 6 nb4, cA K j2 6 rm4, cA K j3 6 st4, cA K j4 24 rw3, cA K j5 6 tx, cO h0 5 [.ref k0, .ref k1, .ref k2, .ref k3, .ref k4, .ref k5, .int (iI aw), .int (iI cn), .int (iI sp)], cA K k0 6 kd, cA K k1 6 nb, cA K k2 6 rm, cA K k3 6 st, cA K k4 24 rw, cA K k5 6 nx, cA K t1 6 wy] rfl ?_
        refine g_st hC [] rfl ?_
        rw [md_odk_up (by omega) h19.2 hrm4.2.2.1] at hR2_48
        refine g_iinc (pc := 51) hC 3 [(2, _), (3, _), (0, _), (1, _)] dX7_unlikeByWay_51 rfl (by decide) rfl ?_
        refine g_goto (pc := 54) hC 7 dX7_unlikeByWay_54 (by decide) ?_
        refine g_lv hC [2, 3, 0] [(0, _), (1, _), (2, _)] rfl ?_
        exact ih7 (i + 1) nb4 rm4 st4 (by first | assumption | omega) (by first | exact r_nb4 | assumption | omega) (by first | exact r_rm4 | assumption | omega) (by first | exact r_st4 | assumption | omega) (by first | assumption | omega) hR2_48 (by omega)
  refine g_lv hC [1, 2, 0] [(0, _), (1, _), (2, _)] rfl ?_
  exact L7 ((s 19 - 0 : Int).toNat + 1) 0 nb3 rm3 st3 (by decide) (by first | exact r_nb3 | assumption | omega) (by first | exact r_rm3 | assumption | omega) (by first | exact r_st3 | assumption | omega) (by first | assumption | omega) (by rw [md_odk_0]; exact hR2_2) (by omega)
set_option maxHeartbeats 40000000 in
set_option maxRecDepth 100000 in
theorem k_X7_findRooms_r {K : gK} (t0 : Nat) (h0 : Nat) (h1 : Nat) (q0 : Nat) (t2 : Nat) (t1 : Nat) (o0 : Nat) (q1 : Nat) (q2 : Nat) (o1 : Nat) (j0 : Nat) (j1 : Nat) (j2 : Nat) (j3 : Nat) (j4 : Nat) (j5 : Nat) (k0 : Nat) (k1 : Nat) (k2 : Nat) (k3 : Nat) (k4 : Nat) (k5 : Nat) (fw : Int) (rf : Int) (stp : Int) (m : Int) (rc : Int) (ta : Int) (tc : Int) (tp : Int) (aw : Int) (cn : Int) (sp : Int) (fc : Int → Int) (wg : Int → Int) (od : Int → Int) (tk : Int → Int) (tn : Int → Int) (tr : Int → Int) (ts : Int → Int) (tw : Int → Int) (tx : Int → Int) (kd : Int → Int) (nb : Int → Int) (rm : Int → Int) (st : Int → Int) (rw : Int → Int) (nx : Int → Int) (wy : Int → Int) (wh : Int → Int) (s : Int → Int) (W : (Int → Int) → Int) (rch : Int) (r_fw : rI fw) (r_rf : rI rf) (r_stp : rI stp) (r_m : rI m) (r_rc : rI rc) (r_ta : rI ta) (r_tc : rI tc) (r_tp : rI tp) (r_aw : rI aw) (r_cn : rI cn) (r_sp : rI sp) (r_fc : ∀ j, rI (fc j)) (r_wg : ∀ j, rI (wg j)) (r_od : ∀ j, rI (od j)) (r_tk : ∀ j, rI (tk j)) (r_tn : ∀ j, rI (tn j)) (r_tr : ∀ j, rI (tr j)) (r_ts : ∀ j, rI (ts j)) (r_tw : ∀ j, rI (tw j)) (r_tx : ∀ j, rI (tx j)) (r_kd : ∀ j, rI (kd j)) (r_nb : ∀ j, rI (nb j)) (r_rm : ∀ j, rI (rm j)) (r_st : ∀ j, rI (st j)) (r_rw : ∀ j, rI (rw j)) (r_nx : ∀ j, rI (nx j)) (r_wy : ∀ j, rI (wy j)) (r_wh : ∀ j, rI (wh j)) (hg : md_rg s) (hR9 : cs_R s kd nb rm st rw nx aw cn sp) (hho : md_ho W od m) (hcc : md_CC W (fun z => s (26 + z)) wg stp) (hWr : ∀ b, -990 ≤ W b ∧ W b ≤ 990) (hrch : rc = rch) (hrr : 0 ≤ rch ∧ rch ≤ 99) (htx : ∀ p, 0 ≤ p → p < 6 → 0 ≤ tx p ∧ tx p ≤ 9) (hst0 : s 0 + 61 ≤ 20000) (hwy : ∀ j, j < 0 ∨ 6 ≤ j → wy j = 0) (hrf : rf = 0 ∨ (rf = 1 ∧ fw = (md_rmz W rch s).1 ∧ ∀ q, 0 ≤ q → q < s 19 → wh q = rm_at (md_rmz W rch s).2 q)) : gMet K yX7_findRooms cX7_findRooms 5 none 5 0 0 [.ref t0, .ref h0] [cO t0 7 [.ref h1, .ref q0, .int (iI fw), .ref t2, .int (iI rf), .ref t1], cO q0 2 [.ref o0, .ref q1, .ref q2, .int (iI stp)], cA K q1 6 fc, cA K q2 36000 wg, cO o0 1 [.ref o1, .int (iI m), .int (iI rc)], cA K o1 100 od, cO h1 5 [.ref j0, .ref j1, .ref j2, .ref j3, .ref j4, .ref j5, .int (iI ta), .int (iI tc), .int (iI tp)], cA K j0 6 tk, cA K j1 6 tn, cA K j2 6 tr, cA K j3 6 ts, cA K j4 24 tw, cA K j5 6 tx, cO h0 5 [.ref k0, .ref k1, .ref k2, .ref k3, .ref k4, .ref k5, .int (iI aw), .int (iI cn), .int (iI sp)], cA K k0 6 kd, cA K k1 6 nb, cA K k2 6 rm, cA K k3 6 st, cA K k4 24 rw, cA K k5 6 nx, cA K t1 6 wy, cA K t2 6 wh] (fun v9 w9 => ∃ (tk2 : Int → Int), ∃ (tn2 : Int → Int), ∃ (tr2 : Int → Int), ∃ (ts2 : Int → Int), ∃ (tw2 : Int → Int), ∃ (tx2 : Int → Int), ∃ (ta2 : Int), ∃ (tc2 : Int), ∃ (tp2 : Int), ∃ (wy2 : Int → Int), ∃ (wh2 : Int → Int), ∃ (fw2 : Int), ∃ (rf2 : Int), ∃ (fc2 : Int → Int), ∃ (wg2 : Int → Int), v9 = none ∧ w9 = [cO t0 7 [.ref h1, .ref q0, .int (iI fw2), .ref t2, .int (iI rf2), .ref t1], cO q0 2 [.ref o0, .ref q1, .ref q2, .int (iI stp)], cA K q1 6 fc2, cA K q2 36000 wg2, cO o0 1 [.ref o1, .int (iI m), .int (iI rc)], cA K o1 100 od, cO h1 5 [.ref j0, .ref j1, .ref j2, .ref j3, .ref j4, .ref j5, .int (iI ta2), .int (iI tc2), .int (iI tp2)], cA K j0 6 tk2, cA K j1 6 tn2, cA K j2 6 tr2, cA K j3 6 ts2, cA K j4 24 tw2, cA K j5 6 tx2, cO h0 5 [.ref k0, .ref k1, .ref k2, .ref k3, .ref k4, .ref k5, .int (iI aw), .int (iI cn), .int (iI sp)], cA K k0 6 kd, cA K k1 6 nb, cA K k2 6 rm, cA K k3 6 st, cA K k4 24 rw, cA K k5 6 nx, cA K t1 6 wy2, cA K t2 6 wh2] ∧ (∀ j, rI (tk2 j)) ∧ (∀ j, rI (tn2 j)) ∧ (∀ j, rI (tr2 j)) ∧ (∀ j, rI (ts2 j)) ∧ (∀ j, rI (tw2 j)) ∧ (∀ j, rI (tx2 j)) ∧ rI ta2 ∧ rI tc2 ∧ rI tp2 ∧ (∀ j, rI (wy2 j)) ∧ (∀ j, rI (wh2 j)) ∧ rI fw2 ∧ rI rf2 ∧ (∀ j, rI (fc2 j)) ∧ (∀ j, rI (wg2 j)) ∧ (∀ p, 0 ≤ p → p < 6 → 0 ≤ tx2 p ∧ tx2 p ≤ 9) ∧ (∀ j, j < 0 ∨ 6 ≤ j → wy2 j = 0) ∧ (rf2 = 1 ∧ fw2 = (md_rmz W rch s).1 ∧ ∀ q, 0 ≤ q → q < s 19 → wh2 q = rm_at (md_rmz W rch s).2 q) ∧ (md_CC W (fun z => s (26 + z)) wg2 stp)) := by
  refine g_enter (by decide +kernel) (Nat.le_of_ble_eq_true rfl) (fun G hC hR => ?_)
  refine g_lv hC [0, 1] [(0, _), (1, _)] rfl ?_
  have h19 := hg.2.2.1
  have hg0 := hg.2.2.2
  have hcs := hR9.1
  obtain ⟨c, hc⟩ : ∃ c : Nat, s 19 = (c : Int) := ⟨(s 19).toNat, by omega⟩
  have hfst := fr_first (c := c) (by omega)
  refine g_aload_n (pc := 0) hC 0 dX7_findRooms_0 rfl rfl ?_
  refine g_get (pc := 1) hC 0 fl_X7_59 dX7_findRooms_1 rfl rfl ?_
  refine g_if_eq (pc := 4) hC 8 dX7_findRooms_4 (by decide) (by first | exact r_rf | assumption | omega) (fun c4 => ?_) (fun c4 => ?_)
  · refine g_iconst (pc := 8) hC dX7_findRooms_8 ?_
    refine g_istore_n (pc := 9) hC [(2, _), (0, _), (1, _)] dX7_findRooms_9 rfl (by decide) rfl ?_
    have L10 : ∀ (n1 : Nat) (i : Int) (y1 : Int → Int), (rI i) → (∀ j, rI (y1 j)) → (0 ≤ i ∧ i ≤ 6) → (∀ q, 0 ≤ q → q < i → y1 q = q) → (∀ j, j < 0 ∨ 6 ≤ j → y1 j = 0) → 6 - i < (n1 : Int) → G 0 0 10 [(0, .ref t0), (1, .ref h0), (2, .int (iI i))] [] [cO t0 7 [.ref h1, .ref q0, .int (iI fw), .ref t2, .int (iI rf), .ref t1], cO q0 2 [.ref o0, .ref q1, .ref q2, .int (iI stp)], cA K q1 6 fc, cA K q2 36000 wg, cO o0 1 [.ref o1, .int (iI m), .int (iI rc)], cA K o1 100 od, cO h1 5 [.ref j0, .ref j1, .ref j2, .ref j3, .ref j4, .ref j5, .int (iI ta), .int (iI tc), .int (iI tp)], cA K j0 6 tk, cA K j1 6 tn, cA K j2 6 tr, cA K j3 6 ts, cA K j4 24 tw, cA K j5 6 tx, cO h0 5 [.ref k0, .ref k1, .ref k2, .ref k3, .ref k4, .ref k5, .int (iI aw), .int (iI cn), .int (iI sp)], cA K k0 6 kd, cA K k1 6 nb, cA K k2 6 rm, cA K k3 6 st, cA K k4 24 rw, cA K k5 6 nx, cA K t1 6 y1, cA K t2 6 wh] := by
      intro n1
      induction n1 with
      | zero => intro i y1 r_i r_y1 hi hy hyo hm10; exfalso; omega
      | succ n1 ih10 =>
        intro i y1 r_i r_y1 hi hy hyo hm10
        refine g_iload_n (pc := 10) hC 2 dX7_findRooms_10 rfl rfl ?_
        refine g_bipush (pc := 11) hC (6) dX7_findRooms_11 (by decide) ?_
        refine g_icmp_ge (pc := 13) hC 29 dX7_findRooms_13 (by decide) (by first | exact r_i | assumption | omega) (by first | assumption | decide | omega) (fun c13 => ?_) (fun c13 => ?_)
        · refine g_aload_n (pc := 29) hC 0 dX7_findRooms_29 rfl rfl ?_
          refine g_bipush (pc := 30) hC (7) dX7_findRooms_30 (by decide) ?_
          refine g_putI (pc := 32) hC 0 [cO _ _ [_, _, _, _, _, _], _, _, _, _, _, _, _, _, _, _, _, _, _, _, _, _, _, _, _, _, _] fl_X7_63 dX7_findRooms_32 rfl (Nat.le_of_ble_eq_true rfl) rfl ?_
          refine g_iconst (pc := 35) hC dX7_findRooms_35 ?_
          refine g_istore_n (pc := 36) hC [(2, _), (0, _), (1, _)] dX7_findRooms_36 rfl (by decide) rfl ?_
          refine g_iconst (pc := 37) hC dX7_findRooms_37 ?_
          refine g_istore_n (pc := 38) hC [(3, _), (2, _), (0, _), (1, _)] dX7_findRooms_38 rfl (by decide) rfl ?_
          have L39 : ∀ (n2 : Nat) (wa : Int) (mo : Int) (fx : Int) (y3 : Int → Int) (wz : Int → Int) (k : Nat) (ks : Int → Int) (ns : Int → Int) (rs : Int → Int) (ts1 : Int → Int) (ws : Int → Int) (tx1 : Int → Int) (ta1 : Int) (tc1 : Int) (tp1 : Int) (f1 : Int → Int) (w1 : Int → Int), (rI wa) → (rI mo) → (rI fx) → (∀ j, rI (y3 j)) → (∀ j, rI (wz j)) → (∀ j, rI (ks j)) → (∀ j, rI (ns j)) → (∀ j, rI (rs j)) → (∀ j, rI (ts1 j)) → (∀ j, rI (ws j)) → (∀ j, rI (tx1 j)) → (rI ta1) → (rI tc1) → (rI tp1) → (∀ j, rI (f1 j)) → (∀ j, rI (w1 j)) → (wa = (k : Int)) → (k ≤ (rm_lv c c []).length) → (fr_I W rch s c k fx wz) → ((mo = 1 ∧ k < (rm_lv c c []).length ∧ ∀ q, 0 ≤ q → q < (c : Int) → y3 q = rm_at ((rm_lv c c []).getD k []) q) ∨ (mo = 0 ∧ k = (rm_lv c c []).length)) → (∀ j, j < 0 ∨ 6 ≤ j → y3 j = 0) → (∀ p, 0 ≤ p → p < 6 → 0 ≤ tx1 p ∧ tx1 p ≤ 9) → (md_CC W (fun z => s (26 + z)) w1 stp) → 720 - wa < (n2 : Int) → G 0 0 39 [(0, .ref t0), (1, .ref h0), (2, .int (iI mo)), (3, .int (iI wa))] [] [cO t0 7 [.ref h1, .ref q0, .int (iI fx), .ref t2, .int (iI rf), .ref t1], cO q0 2 [.ref o0, .ref q1, .ref q2, .int (iI stp)], cA K q1 6 f1, cA K q2 36000 w1, cO o0 1 [.ref o1, .int (iI m), .int (iI rc)], cA K o1 100 od, cO h1 5 [.ref j0, .ref j1, .ref j2, .ref j3, .ref j4, .ref j5, .int (iI ta1), .int (iI tc1), .int (iI tp1)], cA K j0 6 ks, cA K j1 6 ns, cA K j2 6 rs, cA K j3 6 ts1, cA K j4 24 ws, cA K j5 6 tx1, cO h0 5 [.ref k0, .ref k1, .ref k2, .ref k3, .ref k4, .ref k5, .int (iI aw), .int (iI cn), .int (iI sp)], cA K k0 6 kd, cA K k1 6 nb, cA K k2 6 rm, cA K k3 6 st, cA K k4 24 rw, cA K k5 6 nx, cA K t1 6 y3, cA K t2 6 wz] := by
            intro n2
            induction n2 with
            | zero => intro wa mo fx y3 wz k ks ns rs ts1 ws tx1 ta1 tc1 tp1 f1 w1 r_wa r_mo r_fx r_y3 r_wz r_ks r_ns r_rs r_ts1 r_ws r_tx1 r_ta1 r_tc1 r_tp1 r_f1 r_w1 hk hk1 hI hmo hyo3 htx1 hcc1 hm39; exfalso; omega
            | succ n2 ih39 =>
              intro wa mo fx y3 wz k ks ns rs ts1 ws tx1 ta1 tc1 tp1 f1 w1 r_wa r_mo r_fx r_y3 r_wz r_ks r_ns r_rs r_ts1 r_ws r_tx1 r_ta1 r_tc1 r_tp1 r_f1 r_w1 hk hk1 hI hmo hyo3 htx1 hcc1 hm39
              refine g_iload_n (pc := 39) hC 3 dX7_findRooms_39 rfl rfl ?_
              refine g_sipush (pc := 40) hC (720) dX7_findRooms_40 (by decide) ?_
              refine g_icmp_ge (pc := 43) hC 110 dX7_findRooms_43 (by decide) (by first | exact r_wa | assumption | omega) (by first | assumption | decide | omega) (fun c43 => ?_) (fun c43 => ?_)
              · have hfin := fr_I_e hg (by omega) hc hI hk1 (Or.inl (by omega))
                refine g_aload_n (pc := 110) hC 0 dX7_findRooms_110 rfl rfl ?_
                refine g_iconst (pc := 111) hC dX7_findRooms_111 ?_
                refine g_putZ (pc := 112) hC 0 [cO _ _ [_, _, _, _, _, _], _, _, _, _, _, _, _, _, _, _, _, _, _, _, _, _, _, _, _, _, _] fl_X7_59 dX7_findRooms_112 rfl (Nat.le_of_ble_eq_true rfl) (by omega) rfl ?_
                exact g_vret (pc := 115) hR dX7_findRooms_115 rfl ⟨by omega, by omega⟩ (Nat.le_of_ble_eq_true rfl) ⟨ks, ns, rs, ts1, ws, tx1, ta1, tc1, tp1, y3, wz, fx, 1, f1, w1, rfl, rfl, (by first | assumption | omega), (by first | assumption | omega), (by first | assumption | omega), (by first | assumption | omega), (by first | assumption | omega), (by first | assumption | omega), (by first | exact r_ta1 | assumption | omega), (by first | exact r_tc1 | assumption | omega), (by first | exact r_tp1 | assumption | omega), (by first | assumption | omega), (by first | assumption | omega), (by first | exact r_fx | assumption | omega), (by decide), (by first | assumption | omega), (by first | assumption | omega), htx1, hyo3, ⟨rfl, hfin⟩, hcc1⟩
              · refine g_iload_n (pc := 46) hC 2 dX7_findRooms_46 rfl rfl ?_
                refine g_if_eq (pc := 47) hC 110 dX7_findRooms_47 (by decide) (by first | exact r_mo | assumption | omega) (fun c47 => ?_) (fun c47 => ?_)
                · have hfin := fr_I_e hg (by omega) hc hI hk1 (Or.inl (by omega))
                  refine g_aload_n (pc := 110) hC 0 dX7_findRooms_110 rfl rfl ?_
                  refine g_iconst (pc := 111) hC dX7_findRooms_111 ?_
                  refine g_putZ (pc := 112) hC 0 [cO _ _ [_, _, _, _, _, _], _, _, _, _, _, _, _, _, _, _, _, _, _, _, _, _, _, _, _, _, _] fl_X7_59 dX7_findRooms_112 rfl (Nat.le_of_ble_eq_true rfl) (by omega) rfl ?_
                  exact g_vret (pc := 115) hR dX7_findRooms_115 rfl ⟨by omega, by omega⟩ (Nat.le_of_ble_eq_true rfl) ⟨ks, ns, rs, ts1, ws, tx1, ta1, tc1, tp1, y3, wz, fx, 1, f1, w1, rfl, rfl, (by first | assumption | omega), (by first | assumption | omega), (by first | assumption | omega), (by first | assumption | omega), (by first | assumption | omega), (by first | assumption | omega), (by first | exact r_ta1 | assumption | omega), (by first | exact r_tc1 | assumption | omega), (by first | exact r_tp1 | assumption | omega), (by first | assumption | omega), (by first | assumption | omega), (by first | exact r_fx | assumption | omega), (by decide), (by first | assumption | omega), (by first | assumption | omega), htx1, hyo3, ⟨rfl, hfin⟩, hcc1⟩
                · have hmk : k < (rm_lv c c []).length ∧ ∀ q, 0 ≤ q → q < (c : Int) → y3 q = rm_at ((rm_lv c c []).getD k []) q := hmo.elim (fun y9 => y9.2) (fun y9 => by omega)
                  refine g_aload_n (pc := 50) hC 0 dX7_findRooms_50 rfl rfl ?_
                  refine g_get (pc := 51) hC 0 fl_X7_63 dX7_findRooms_51 rfl rfl ?_
                  refine g_iconst (pc := 54) hC dX7_findRooms_54 ?_
                  refine g_icmp_le (pc := 55) hC 110 dX7_findRooms_55 (by decide) (by first | exact r_fx | assumption | omega) (by first | assumption | decide | omega) (fun c55 => ?_) (fun c55 => ?_)
                  · have hfin := fr_I_e hg (by omega) hc hI hk1 (Or.inr (by omega))
                    refine g_aload_n (pc := 110) hC 0 dX7_findRooms_110 rfl rfl ?_
                    refine g_iconst (pc := 111) hC dX7_findRooms_111 ?_
                    refine g_putZ (pc := 112) hC 0 [cO _ _ [_, _, _, _, _, _], _, _, _, _, _, _, _, _, _, _, _, _, _, _, _, _, _, _, _, _, _] fl_X7_59 dX7_findRooms_112 rfl (Nat.le_of_ble_eq_true rfl) (by omega) rfl ?_
                    exact g_vret (pc := 115) hR dX7_findRooms_115 rfl ⟨by omega, by omega⟩ (Nat.le_of_ble_eq_true rfl) ⟨ks, ns, rs, ts1, ws, tx1, ta1, tc1, tp1, y3, wz, fx, 1, f1, w1, rfl, rfl, (by first | assumption | omega), (by first | assumption | omega), (by first | assumption | omega), (by first | assumption | omega), (by first | assumption | omega), (by first | assumption | omega), (by first | exact r_ta1 | assumption | omega), (by first | exact r_tc1 | assumption | omega), (by first | exact r_tp1 | assumption | omega), (by first | assumption | omega), (by first | assumption | omega), (by first | exact r_fx | assumption | omega), (by decide), (by first | assumption | omega), (by first | assumption | omega), htx1, hyo3, ⟨rfl, hfin⟩, hcc1⟩
                  · have hprm := fr_perm (c := c) (by omega) hmk.1
                    refine g_aload_n (pc := 58) hC 0 dX7_findRooms_58 rfl rfl ?_
                    refine g_aload_n (pc := 59) hC 1 dX7_findRooms_59 rfl rfl ?_
                    refine g_callV (pc := 60) (qr := 0) hC [0, 1, 2, 3, 4, 5, 6, 7, 8, 9, 10, 11, 12, 13, 14, 15, 16, 17, 18, 19, 20] (k_X7_unlikeByWay_r _ _ _ _ _ _ _ _ _ _ _ _ _ _ _ _ _ _ _ _ _ _ _ _ _ _ _ _ _ _ _ _ _ _ _ _ _ _ _ _ _ _ _ _ _ _ _ _ _ s W rch (by first | exact r_stp | assumption | omega) (by first | exact r_m | assumption | omega) (by first | exact r_rc | assumption | omega) (by first | exact r_ta1 | assumption | omega) (by first | exact r_tc1 | assumption | omega) (by first | exact r_tp1 | assumption | omega) (by first | exact r_aw | assumption | omega) (by first | exact r_cn | assumption | omega) (by first | exact r_sp | assumption | omega) (by first | exact r_f1 | assumption | omega) (by first | exact r_w1 | assumption | omega) (by first | exact r_od | assumption | omega) (by first | exact r_ks | assumption | omega) (by first | exact r_ns | assumption | omega) (by first | exact r_rs | assumption | omega) (by first | exact r_ts1 | assumption | omega) (by first | exact r_ws | assumption | omega) (by first | exact r_tx1 | assumption | omega) (by first | exact r_kd | assumption | omega) (by first | exact r_nb | assumption | omega) (by first | exact r_rm | assumption | omega) (by first | exact r_st | assumption | omega) (by first | exact r_rw | assumption | omega) (by first | exact r_nx | assumption | omega) (by first | exact r_y3 | assumption | omega) (by first | assumption | omega) (by first | assumption | omega) (by first | assumption | omega) hcc1 (by first | assumption | omega) (by first | assumption | omega) (by first | assumption | omega) htx1 (fun q e1 e2 => by rw [hmk.2 q e1 (by omega)]; have := hprm q e1 (by omega); omega) (by first | assumption | omega)) cl_X7_unlikeByWay wm_X7_66 dX7_findRooms_60 rfl rfl rfl rfl rfl (by decide) (by decide) (by omega) (Nat.le_of_ble_eq_true rfl) rfl (fun v9 w9 hq9 => ?_)
                    obtain ⟨ks4, ns4, rs4, ts4, ws4, tx4, ta4, tc4, tp4, f4, w4, rfl, rfl, r_ks4, r_ns4, r_rs4, r_ts4, r_ws4, r_tx4, r_ta4, r_tc4, r_tp4, r_f4, r_w4, htx2_60, hcc2_60⟩ := hq9
                    refine g_ws hC [cO t0 7 [.ref h1, .ref q0, .int (iI fx), .ref t2, .int (iI rf), .ref t1], cO q0 2 [.ref o0, .ref q1, .ref q2, .int (iI stp)], cA K q1 6 f4, cA K q2 36000 w4, cO o0 1 [.ref o1, .int (iI m), .int (iI rc)], cA K o1 100 od, cO h1 5 [.ref j0, .ref j1, .ref j2, .ref j3, .ref j4, .ref j5, .int (iI ta4), .int (iI tc4), .int (iI tp4)], cA K j0 6 ks4, cA K j1 6 ns4, cA K j2 6 rs4, cA K j3 6 ts4, cA K j4 24 ws4, cA K j5 6 tx4, cO h0 5 [.ref k0, .ref k1, .ref k2, .ref k3, .ref k4, .ref k5, .int (iI aw), .int (iI cn), .int (iI sp)], cA K k0 6 kd, cA K k1 6 nb, cA K k2 6 rm, cA K k3 6 st, cA K k4 24 rw, cA K k5 6 nx, cA K t1 6 y3, cA K t2 6 wz] (by dsimp only [gput, gputL, List.set_cons_zero, List.set_cons_succ, List.cons_append, List.nil_append]) ?_
                    refine g_st hC [.int (iI (md_unl (md_goN W rch (md_ord s y3) 3)))] rfl ?_
                    refine g_name hC (fun vv e_vv => ?_)
                    have hvr : 0 ≤ vv ∧ vv ≤ 10 := by rw [e_vv]; exact md_unl_rng _
                    have hv9 : vv = md_rv W rch s ((rm_lv c c []).getD k []) := by rw [e_vv, md_ordL (fun q e1 e2 => hmk.2 q e1 (by omega))]; rfl
                    have hv10 := rv_same (W := W) (rch := rch) hg (by omega) hc hmk.1
                    rw [← hv9] at hv10
                    refine g_istore (pc := 63) hC [(4, _), (0, _), (1, _), (2, _), (3, _)] dX7_findRooms_63 (by decide) rfl ?_
                    refine g_iload (pc := 65) hC 0 dX7_findRooms_65 rfl ?_
                    refine g_aload_n (pc := 67) hC 1 dX7_findRooms_67 rfl rfl ?_
                    refine g_get (pc := 68) hC 0 fl_X7_63 dX7_findRooms_68 rfl rfl ?_
                    refine g_icmp_ge (pc := 71) hC 95 dX7_findRooms_71 (by decide) (by first | exact r_vv | assumption | omega) (by first | exact r_fx | assumption | omega) (fun c71 => ?_) (fun c71 => ?_)
                    · refine g_aload_n (pc := 95) hC 1 dX7_findRooms_95 rfl rfl ?_
                      refine g_aload_n (pc := 96) hC 2 dX7_findRooms_96 rfl rfl ?_
                      refine g_get (pc := 97) hC 13 fl_X7_52 dX7_findRooms_97 rfl rfl ?_
                      refine g_callV (pc := 100) (qr := 0) hC [0, 20] (k_X7_turnToNextWay _ _ _ _ _ _ _ cn _ (by first | exact r_cn | assumption | omega) (by first | exact r_y3 | assumption | omega) (by omega)) cl_X7_turnToNextWay wm_X7_76 dX7_findRooms_100 rfl rfl rfl rfl rfl (by decide) (by decide) (by omega) (Nat.le_of_ble_eq_true rfl) rfl (fun v9 w9 hq9 => ?_)
                      obtain ⟨mo2, y5, T5, G5, rfl, rfl, r_mo2, r_y5, r_T5, r_G5, hT_100⟩ := hq9
                      refine g_ws hC [cO t0 7 [.ref h1, .ref q0, .int (iI fx), .ref t2, .int (iI rf), .ref t1], cO q0 2 [.ref o0, .ref q1, .ref q2, .int (iI stp)], cA K q1 6 f4, cA K q2 36000 w4, cO o0 1 [.ref o1, .int (iI m), .int (iI rc)], cA K o1 100 od, cO h1 5 [.ref j0, .ref j1, .ref j2, .ref j3, .ref j4, .ref j5, .int (iI ta4), .int (iI tc4), .int (iI tp4)], cA K j0 6 ks4, cA K j1 6 ns4, cA K j2 6 rs4, cA K j3 6 ts4, cA K j4 24 ws4, cA K j5 6 tx4, cO h0 5 [.ref k0, .ref k1, .ref k2, .ref k3, .ref k4, .ref k5, .int (iI aw), .int (iI cn), .int (iI sp)], cA K k0 6 kd, cA K k1 6 nb, cA K k2 6 rm, cA K k3 6 st, cA K k4 24 rw, cA K k5 6 nx, cA K t1 6 y5, cA K t2 6 wz] rfl ?_
                      refine g_st hC [.int (iI mo2)] rfl ?_
                      have hnx := fr_next (wy := y3) (wy2 := y5) (c := c) (k := k) (r := mo2) (T := T5) (G := G5) (by omega) hmk.1 hmk.2 (by rw [← hc, ← hcs.1]; exact hT_100)
                      refine g_istore_n (pc := 103) hC [(2, _), (4, _), (0, _), (1, _), (3, _)] dX7_findRooms_103 rfl (by decide) rfl ?_
                      refine g_iinc (pc := 104) hC 4 [(3, _), (2, _), (4, _), (0, _), (1, _)] dX7_findRooms_104 rfl (by decide) rfl ?_
                      refine g_goto (pc := 107) hC 39 dX7_findRooms_107 (by decide) ?_
                      refine g_lv hC [3, 4, 1, 0] [(0, _), (1, _), (2, _), (3, _)] rfl ?_
                      exact ih39 (wa + 1) mo2 fx y5 wz (k + 1) ks4 ns4 rs4 ts4 ws4 tx4 ta4 tc4 tp4 f4 w4 (by first | assumption | omega) (by first | exact r_mo2 | assumption | omega) (by first | exact r_fx | assumption | omega) (by first | exact r_y5 | assumption | omega) (by first | exact r_wz | assumption | omega) (by first | exact r_ks4 | assumption | omega) (by first | exact r_ns4 | assumption | omega) (by first | exact r_rs4 | assumption | omega) (by first | exact r_ts4 | assumption | omega) (by first | exact r_ws4 | assumption | omega) (by first | exact r_tx4 | assumption | omega) (by first | exact r_ta4 | assumption | omega) (by first | exact r_tc4 | assumption | omega) (by first | exact r_tp4 | assumption | omega) (by first | exact r_f4 | assumption | omega) (by first | exact r_w4 | assumption | omega) (by first | assumption | omega) (by omega) (fr_I_s hg (by omega) hc hmk.1 hI hv9 hmk.2 (Or.inr ⟨by omega, rfl, rfl⟩)) hnx.1 (fun j e1 => by rw [hnx.2 j e1]; exact hyo3 j e1) htx2_60 hcc2_60 (by omega)
                    · refine g_aload_n (pc := 74) hC 1 dX7_findRooms_74 rfl rfl ?_
                      refine g_iload (pc := 75) hC 0 dX7_findRooms_75 rfl ?_
                      refine g_putI (pc := 77) hC 0 [cO _ _ [_, _, _, _, _, _], _, _, _, _, _, _, _, _, _, _, _, _, _, _, _, _, _, _, _, _, _] fl_X7_63 dX7_findRooms_77 rfl (Nat.le_of_ble_eq_true rfl) rfl ?_
                      refine g_aload_n (pc := 80) hC 1 dX7_findRooms_80 rfl rfl ?_
                      refine g_get (pc := 81) hC 0 fl_X7_22 dX7_findRooms_81 rfl rfl ?_
                      refine g_iconst (pc := 84) hC dX7_findRooms_84 ?_
                      refine g_aload_n (pc := 85) hC 1 dX7_findRooms_85 rfl rfl ?_
                      refine g_get (pc := 86) hC 0 fl_X7_18 dX7_findRooms_86 rfl rfl ?_
                      refine g_iconst (pc := 89) hC dX7_findRooms_89 ?_
                      refine g_bipush (pc := 90) hC (6) dX7_findRooms_90 (by decide) ?_
                      refine g_copy (pc := 92) hC 20 21 (fun f9 => [_, _, _, _, _, _, _, _, _, _, _, _, _, _, _, _, _, _, _, _, _, cA K _ _ f9]) wm_X7_70 (Nat.le_of_ble_eq_true rfl) (by decide) dX7_findRooms_92 rfl rfl (by omega) (fun _ => rfl) (fun wz2 e_wz2 => ?_)
                      have r_wz2 := rng_cp e_wz2 r_y3 r_wz
                      refine g_aload_n (pc := 95) hC 1 dX7_findRooms_95 rfl rfl ?_
                      refine g_aload_n (pc := 96) hC 2 dX7_findRooms_96 rfl rfl ?_
                      refine g_get (pc := 97) hC 13 fl_X7_52 dX7_findRooms_97 rfl rfl ?_
                      refine g_callV (pc := 100) (qr := 0) hC [0, 20] (k_X7_turnToNextWay _ _ _ _ _ _ _ cn _ (by first | exact r_cn | assumption | omega) (by first | exact r_y3 | assumption | omega) (by omega)) cl_X7_turnToNextWay wm_X7_76 dX7_findRooms_100 rfl rfl rfl rfl rfl (by decide) (by decide) (by omega) (Nat.le_of_ble_eq_true rfl) rfl (fun v9 w9 hq9 => ?_)
                      obtain ⟨mo2, y5, T5, G5, rfl, rfl, r_mo2, r_y5, r_T5, r_G5, hT_100⟩ := hq9
                      refine g_ws hC [cO t0 7 [.ref h1, .ref q0, .int (iI vv), .ref t2, .int (iI rf), .ref t1], cO q0 2 [.ref o0, .ref q1, .ref q2, .int (iI stp)], cA K q1 6 f4, cA K q2 36000 w4, cO o0 1 [.ref o1, .int (iI m), .int (iI rc)], cA K o1 100 od, cO h1 5 [.ref j0, .ref j1, .ref j2, .ref j3, .ref j4, .ref j5, .int (iI ta4), .int (iI tc4), .int (iI tp4)], cA K j0 6 ks4, cA K j1 6 ns4, cA K j2 6 rs4, cA K j3 6 ts4, cA K j4 24 ws4, cA K j5 6 tx4, cO h0 5 [.ref k0, .ref k1, .ref k2, .ref k3, .ref k4, .ref k5, .int (iI aw), .int (iI cn), .int (iI sp)], cA K k0 6 kd, cA K k1 6 nb, cA K k2 6 rm, cA K k3 6 st, cA K k4 24 rw, cA K k5 6 nx, cA K t1 6 y5, cA K t2 6 wz2] rfl ?_
                      refine g_st hC [.int (iI mo2)] rfl ?_
                      have hnx := fr_next (wy := y3) (wy2 := y5) (c := c) (k := k) (r := mo2) (T := T5) (G := G5) (by omega) hmk.1 hmk.2 (by rw [← hc, ← hcs.1]; exact hT_100)
                      refine g_istore_n (pc := 103) hC [(2, _), (4, _), (0, _), (1, _), (3, _)] dX7_findRooms_103 rfl (by decide) rfl ?_
                      refine g_iinc (pc := 104) hC 4 [(3, _), (2, _), (4, _), (0, _), (1, _)] dX7_findRooms_104 rfl (by decide) rfl ?_
                      refine g_goto (pc := 107) hC 39 dX7_findRooms_107 (by decide) ?_
                      refine g_lv hC [3, 4, 1, 0] [(0, _), (1, _), (2, _), (3, _)] rfl ?_
                      exact ih39 (wa + 1) mo2 vv y5 wz2 (k + 1) ks4 ns4 rs4 ts4 ws4 tx4 ta4 tc4 tp4 f4 w4 (by first | assumption | omega) (by first | exact r_mo2 | assumption | omega) (by first | exact r_vv | assumption | omega) (by first | exact r_y5 | assumption | omega) (by first | exact r_wz2 | assumption | omega) (by first | exact r_ks4 | assumption | omega) (by first | exact r_ns4 | assumption | omega) (by first | exact r_rs4 | assumption | omega) (by first | exact r_ts4 | assumption | omega) (by first | exact r_ws4 | assumption | omega) (by first | exact r_tx4 | assumption | omega) (by first | exact r_ta4 | assumption | omega) (by first | exact r_tc4 | assumption | omega) (by first | exact r_tp4 | assumption | omega) (by first | exact r_f4 | assumption | omega) (by first | exact r_w4 | assumption | omega) (by first | assumption | omega) (by omega) (fr_I_s hg (by omega) hc hmk.1 hI hv9 hmk.2 (Or.inl ⟨by omega, rfl, fun q e1 e2 => cp_at e_wz2 q e1 (by omega)⟩)) hnx.1 (fun j e1 => by rw [hnx.2 j e1]; exact hyo3 j e1) htx2_60 hcc2_60 (by omega)
          refine g_lv hC [2, 3, 1, 0] [(0, _), (1, _), (2, _), (3, _)] rfl ?_
          exact L39 ((720 - 0 : Int).toNat + 1) 0 1 7 y1 wh 0 tk tn tr ts tw tx ta tc tp fc wg (by decide) (by decide) (by decide) (by first | exact r_y1 | assumption | omega) (by first | exact r_wh | assumption | omega) (by first | exact r_tk | assumption | omega) (by first | exact r_tn | assumption | omega) (by first | exact r_tr | assumption | omega) (by first | exact r_ts | assumption | omega) (by first | exact r_tw | assumption | omega) (by first | exact r_tx | assumption | omega) (by first | exact r_ta | assumption | omega) (by first | exact r_tc | assumption | omega) (by first | exact r_tp | assumption | omega) (by first | exact r_fc | assumption | omega) (by first | exact r_wg | assumption | omega) (by first | assumption | omega) (by first | assumption | omega) (Or.inl ⟨rfl, rfl⟩) (Or.inl ⟨rfl, hfst.1, fun q e1 e2 => by rw [hy q e1 (by omega)]; exact hfst.2.2 q e1 e2⟩) hyo htx (by first | assumption | omega) (by omega)
        · refine g_aload_n (pc := 16) hC 0 dX7_findRooms_16 rfl rfl ?_
          refine g_get (pc := 17) hC 0 fl_X7_22 dX7_findRooms_17 rfl rfl ?_
          refine g_iload_n (pc := 20) hC 2 dX7_findRooms_20 rfl rfl ?_
          refine g_iload_n (pc := 21) hC 2 dX7_findRooms_21 rfl rfl ?_
          refine g_iast (pc := 22) hC 20 (fun f9 => [_, _, _, _, _, _, _, _, _, _, _, _, _, _, _, _, _, _, _, _, cA K _ _ f9, _]) dX7_findRooms_22 rfl (by omega) (fun _ => rfl) (fun y2 e_y2 => ?_)
          have r_y2 := rng_up e_y2 r_y1 (by first | exact r_i | assumption | omega)
          refine g_iinc (pc := 23) hC 2 [(2, _), (0, _), (1, _)] dX7_findRooms_23 rfl (by decide) rfl ?_
          refine g_goto (pc := 26) hC 10 dX7_findRooms_26 (by decide) ?_
          refine g_lv hC [1, 2, 0] [(0, _), (1, _), (2, _)] rfl ?_
          exact ih10 (i + 1) y2 (by first | assumption | omega) (by first | exact r_y2 | assumption | omega) (by first | assumption | omega) (fun q e1 e2 => if hq : q = i then (by rw [e_y2, hq, upI_at]) else (by rw [e_y2, upI_ne hq]; exact hy q e1 (by omega))) (fun j e1 => by rw [e_y2, upI_ne (by omega)]; exact hyo j e1) (by omega)
    refine g_lv hC [1, 2, 0] [(0, _), (1, _), (2, _)] rfl ?_
    exact L10 ((6 - 0 : Int).toNat + 1) 0 wy (by decide) (by first | exact r_wy | assumption | omega) (by first | assumption | omega) (fun q e1 e2 => by omega) (by first | assumption | omega) (by omega)
  · exact g_vret (pc := 7) hR dX7_findRooms_7 rfl ⟨by omega, by omega⟩ (Nat.le_of_ble_eq_true rfl) ⟨tk, tn, tr, ts, tw, tx, ta, tc, tp, wy, wh, fw, rf, fc, wg, rfl, rfl, (by first | assumption | omega), (by first | assumption | omega), (by first | assumption | omega), (by first | assumption | omega), (by first | assumption | omega), (by first | assumption | omega), (by first | exact r_ta | assumption | omega), (by first | exact r_tc | assumption | omega), (by first | exact r_tp | assumption | omega), (by first | assumption | omega), (by first | assumption | omega), (by first | exact r_fw | assumption | omega), (by first | exact r_rf | assumption | omega), (by first | assumption | omega), (by first | assumption | omega), htx, hwy, (hrf.elim (fun y1 => by omega) (fun y1 => y1)), hcc⟩
