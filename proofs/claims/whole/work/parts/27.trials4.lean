def sn_c (s : Int → Int) (n : Int) : Nat → Int
  | 0 => 0
  | k + 1 => sn_c s n k + (if s (68 + (k : Int)) < n then 1 else 0)
theorem sn_c_s {s : Int → Int} {n i : Int} {j : Nat} (hi : i = (j : Int)) : sn_c s n (j + 1) = sn_c s n j + (if s (68 + i) < n then 1 else 0) := by
  rw [hi]
  rfl
theorem sn_s1 {t : Int → Int} {n i : Int} {j : Nat} (hi : i = (j : Int)) (h : md_sn t n j = 1) (h2 : t (68 + i) ≠ n ∨ t (1 + t (62 + i)) = t (74 + i)) : md_sn t n (j + 1) = 1 := by
  unfold md_sn
  rw [hi] at h2
  rw [if_pos ⟨h, h2⟩]
theorem sn_c_rng (s : Int → Int) (n : Int) : ∀ k : Nat, 0 ≤ sn_c s n k ∧ sn_c s n k ≤ (k : Int) ∧ sn_c s n k ≤ sn_c s (n + 1) k
  | 0 => by unfold sn_c; omega
  | k + 1 => by
    have ih := sn_c_rng s n k
    unfold sn_c
    (repeat' split) <;> omega
theorem sn_c_full {s : Int → Int} {n : Int} : ∀ k : Nat, (k : Int) ≤ sn_c s n k → ∀ i : Nat, i < k → s (68 + (i : Int)) < n
  | 0, _, i, hi => absurd hi (Nat.not_lt_zero _)
  | k + 1, h, i, hi => by
    have hr := sn_c_rng s n k
    have e : sn_c s n (k + 1) = sn_c s n k + (if s (68 + (k : Int)) < n then 1 else 0) := rfl
    by_cases hc : s (68 + (k : Int)) < n
    · rw [e, if_pos hc] at h
      by_cases hk : i = k
      · rw [hk]; exact hc
      · exact sn_c_full k (by omega) i (by omega)
    · rw [e, if_neg hc] at h
      omega
theorem sn_c_0 {s : Int → Int} : ∀ k : Nat, (∀ i : Nat, i < k → 0 ≤ s (68 + (i : Int))) → sn_c s 0 k = 0
  | 0, _ => rfl
  | k + 1, h => by
    have ih := sn_c_0 k (fun i hi => h i (by omega))
    have h1 := h k (by omega)
    show sn_c s 0 k + (if s (68 + (k : Int)) < 0 then 1 else 0) = 0
    rw [ih, if_neg (by omega)]
    rfl
theorem sn_no {t : Int → Int} {n : Int} {m : Nat} (h : md_sn t n m = 0) : ∀ k : Nat, md_sn t n (m + k) = 0
  | 0 => h
  | k + 1 => by
    have ih := sn_no h k
    show (if md_sn t n (m + k) = 1 ∧ _ then (1 : Int) else 0) = 0
    rw [if_neg (by rw [ih]; intro q; exact absurd q.1 (by decide))]
theorem as_no {W : (Int → Int) → Int} {rch : Int} {s : Int → Int} {m : Nat} (h : md_as W rch s m = 0) : ∀ k : Nat, md_as W rch s (m + k) = 0
  | 0 => h
  | k + 1 => by
    have ih := as_no h k
    show (if md_as W rch s (m + k) = 1 then _ else (0 : Int)) = 0
    rw [if_neg (by rw [ih]; decide)]
theorem sn_yes {t : Int → Int} {n : Int} : ∀ k : Nat, (∀ i : Nat, i < k → t (68 + (i : Int)) ≠ n) → md_sn t n k = 1
  | 0, _ => rfl
  | k + 1, h => by
    have ih := sn_yes k (fun i hi => h i (by omega))
    unfold md_sn
    rw [if_pos ⟨ih, Or.inl (h k (by omega))⟩]
theorem as_done {W : (Int → Int) → Int} {rch : Int} {s : Int → Int} {m : Nat} (h19 : s 19 ≤ 6) (h : md_as W rch s m = 1) (hd : ∀ i : Nat, i < (s 21).toNat → s (68 + (i : Int)) < (m : Int)) : ∀ k : Nat, md_as W rch s (m + k) = 1
  | 0 => h
  | k + 1 => by
    have ih := as_done h19 h hd k
    show (if md_as W rch s (m + k) = 1 then md_sn (md_goN W rch s (m + k)) ((m + k : Nat) : Int) (s 21).toNat else 0) = 1
    rw [if_pos ih]
    refine sn_yes _ (fun i hi => ?_)
    rw [md_goN_hi h19 (by omega)]
    have := hd i hi
    omega
theorem as_out {W : (Int → Int) → Int} {rch : Int} {s : Int → Int} {n i : Int} {j j2 : Nat} (hn : n = (j : Int)) (hn2 : n ≤ 20) (hi : i = (j2 : Int)) (hi2 : i < s 21) (h68 : md_goN W rch s j (68 + i) = n) (hne : ¬ md_goN W rch s j (1 + md_goN W rch s j (62 + i)) = md_goN W rch s j (74 + i)) : 0 = md_as W rch s 21 := by
  have h1 : md_sn (md_goN W rch s j) (j : Int) (j2 + 1) = 0 := by
    unfold md_sn
    rw [← hi, ← hn]
    rw [if_neg]
    rintro ⟨-, q⟩
    rcases q with q | q
    · exact q h68
    · exact hne q
  have h2 := sn_no h1 ((s 21).toNat - (j2 + 1))
  rw [show j2 + 1 + ((s 21).toNat - (j2 + 1)) = (s 21).toNat by omega] at h2
  have h3 : md_as W rch s (j + 1) = 0 := by
    show (if md_as W rch s j = 1 then md_sn (md_goN W rch s j) (j : Int) (s 21).toNat else 0) = 0
    rw [h2]
    split <;> rfl
  have h4 := as_no h3 (21 - (j + 1))
  rw [show j + 1 + (21 - (j + 1)) = 21 by omega] at h4
  exact h4.symm
set_option maxHeartbeats 4000000 in
set_option maxRecDepth 100000 in
theorem k_X7_showsAll_n {K : gK} (t0 : Nat) (b0 : Nat) (h1 : Nat) (q0 : Nat) (j0 : Nat) (j1 : Nat) (j2 : Nat) (j3 : Nat) (j4 : Nat) (j5 : Nat) (b1 : Nat) (b2 : Nat) (b3 : Nat) (w_fewest : Value) (w_whose : Value) (w_roomsFound : Value) (w_way : Value) (w_facts : Value) (w_weighed : Value) (w_stamp : Value) (aw : Int) (cn : Int) (sp : Int) (pn : Int) (kd : Int → Int) (nb : Int → Int) (rm : Int → Int) (st : Int → Int) (rw : Int → Int) (nx : Int → Int) (pl1 : Int → Int) (pl2 : Int → Int) (pl3 : Int → Int) (s : Int → Int) (W : (Int → Int) → Int) (rch : Int) (r_aw : rI aw) (r_cn : rI cn) (r_sp : rI sp) (r_pn : rI pn) (r_kd : ∀ j, rI (kd j)) (r_nb : ∀ j, rI (nb j)) (r_rm : ∀ j, rI (rm j)) (r_st : ∀ j, rI (st j)) (r_rw : ∀ j, rI (rw j)) (r_nx : ∀ j, rI (nx j)) (r_pl1 : ∀ j, rI (pl1 j)) (r_pl2 : ∀ j, rI (pl2 j)) (r_pl3 : ∀ j, rI (pl3 j)) (hg : md_rg s) (hR9 : cs_R s kd nb rm st rw nx aw cn sp) (hW0 : (∀ b, W b = 0) ∧ rch = 9) (hs : md_rs s) (hst0 : s 0 + 21 ≤ 20000) (hsn : pn = s 21 ∧ ∀ k, 0 ≤ k → k < s 21 → pl1 k = s (62 + k) ∧ pl2 k = s (68 + k) ∧ pl3 k = s (74 + k)) : gMet K yX7_showsAll cX7_showsAll 6 (some .boolean) 4 0 0 [.ref t0, .ref b0] [cO t0 7 [.ref h1, .ref q0, w_fewest, w_whose, w_roomsFound, w_way], cO q0 2 [.null, w_facts, w_weighed, w_stamp], cO h1 5 [.ref j0, .ref j1, .ref j2, .ref j3, .ref j4, .ref j5, .int (iI aw), .int (iI cn), .int (iI sp)], cA K j0 6 kd, cA K j1 6 nb, cA K j2 6 rm, cA K j3 6 st, cA K j4 24 rw, cA K j5 6 nx, cO b0 4 [.ref b1, .ref b2, .ref b3, .int (iI pn)], cA K b1 8 pl1, cA K b2 8 pl2, cA K b3 8 pl3] (fun v9 w9 => ∃ (r : Int), ∃ (st2 : Int → Int), ∃ (nx2 : Int → Int), ∃ (sp2 : Int), v9 = some (.int (iI r)) ∧ w9 = [cO t0 7 [.ref h1, .ref q0, w_fewest, w_whose, w_roomsFound, w_way], cO q0 2 [.null, w_facts, w_weighed, w_stamp], cO h1 5 [.ref j0, .ref j1, .ref j2, .ref j3, .ref j4, .ref j5, .int (iI aw), .int (iI cn), .int (iI sp2)], cA K j0 6 kd, cA K j1 6 nb, cA K j2 6 rm, cA K j3 6 st2, cA K j4 24 rw, cA K j5 6 nx2, cO b0 4 [.ref b1, .ref b2, .ref b3, .int (iI pn)], cA K b1 8 pl1, cA K b2 8 pl2, cA K b3 8 pl3] ∧ rI r ∧ (∀ j, rI (st2 j)) ∧ (∀ j, rI (nx2 j)) ∧ rI sp2 ∧ (r = md_as W rch s 21) ∧ (∀ p, 0 ≤ p → p < 6 → 0 ≤ nx2 p ∧ nx2 p ≤ 9)) := by
  refine g_enter (by decide +kernel) (Nat.le_of_ble_eq_true rfl) (fun G hC hR => ?_)
  refine g_lv hC [0, 1] [(0, _), (1, _)] rfl ?_
  have h19 := hg.2.2.1
  have hg0 := hg.2.2.2
  have hcs := hR9.1
  have hsn9 := hs.1
  refine g_aload_n (pc := 0) hC 1 dX7_showsAll_0 rfl rfl ?_
  refine g_get (pc := 1) hC 9 fl_X7_103 dX7_showsAll_1 rfl rfl ?_
  refine g_istore_n (pc := 4) hC [(2, _), (0, _), (1, _)] dX7_showsAll_4 rfl (by decide) rfl ?_
  refine g_iconst (pc := 5) hC dX7_showsAll_5 ?_
  refine g_istore_n (pc := 6) hC [(3, _), (2, _), (0, _), (1, _)] dX7_showsAll_6 rfl (by decide) rfl ?_
  have L7 : ∀ (n1 : Nat) (n : Int) (lf : Int) (ts1 : Int → Int) (tx1 : Int → Int) (tp1 : Int) (j : Nat), (rI n) → (rI lf) → (∀ j, rI (ts1 j)) → (∀ j, rI (tx1 j)) → (rI tp1) → (n = (j : Int)) → (n ≤ 21) → (lf = s 21 - sn_c s n (s 21).toNat) → (md_as W rch s j = 1) → (0 < lf → cs_R (md_goN W rch s j) kd nb rm ts1 rw tx1 aw cn tp1) → (∀ p, 0 ≤ p → p < 6 → 0 ≤ tx1 p ∧ tx1 p ≤ 9) → 21 - n < (n1 : Int) → G 0 0 7 [(0, .ref t0), (1, .ref b0), (2, .int (iI lf)), (3, .int (iI n))] [] [cO t0 7 [.ref h1, .ref q0, w_fewest, w_whose, w_roomsFound, w_way], cO q0 2 [.null, w_facts, w_weighed, w_stamp], cO h1 5 [.ref j0, .ref j1, .ref j2, .ref j3, .ref j4, .ref j5, .int (iI aw), .int (iI cn), .int (iI tp1)], cA K j0 6 kd, cA K j1 6 nb, cA K j2 6 rm, cA K j3 6 ts1, cA K j4 24 rw, cA K j5 6 tx1, cO b0 4 [.ref b1, .ref b2, .ref b3, .int (iI pn)], cA K b1 8 pl1, cA K b2 8 pl2, cA K b3 8 pl3] := by
    intro n1
    induction n1 with
    | zero => intro n lf ts1 tx1 tp1 j r_n r_lf r_ts1 r_tx1 r_tp1 hn hn2 hlf hA hR1 htx1 hm7; exfalso; omega
    | succ n1 ih7 =>
      intro n lf ts1 tx1 tp1 j r_n r_lf r_ts1 r_tx1 r_tp1 hn hn2 hlf hA hR1 htx1 hm7
      have hcr := sn_c_rng s n (s 21).toNat
      refine g_iload_n (pc := 7) hC 3 dX7_showsAll_7 rfl rfl ?_
      refine g_bipush (pc := 8) hC (20) dX7_showsAll_8 (by decide) ?_
      refine g_icmp_gt (pc := 10) hC 120 dX7_showsAll_10 (by decide) (by omega) (by omega) (fun c10 => ?_) (fun c10 => ?_)
      · refine g_iconst (pc := 120) hC dX7_showsAll_120 ?_
        exact g_zret (pc := 121) hR dX7_showsAll_121 rfl (by omega) ⟨by omega, by omega⟩ (Nat.le_of_ble_eq_true rfl) ⟨1, ts1, tx1, tp1, rfl, rfl, (by first | assumption | omega), (by first | assumption | omega), (by first | assumption | omega), (by first | assumption | omega), (by rw [← hA, show j = 21 by omega]), htx1⟩
      · refine g_iload_n (pc := 13) hC 2 dX7_showsAll_13 rfl rfl ?_
        refine g_if_le (pc := 14) hC 120 dX7_showsAll_14 (by decide) (by omega) (fun c14 => ?_) (fun c14 => ?_)
        · refine g_iconst (pc := 120) hC dX7_showsAll_120 ?_
          exact g_zret (pc := 121) hR dX7_showsAll_121 rfl (by omega) ⟨by omega, by omega⟩ (Nat.le_of_ble_eq_true rfl) ⟨1, ts1, tx1, tp1, rfl, rfl, (by first | assumption | omega), (by first | assumption | omega), (by first | assumption | omega), (by first | assumption | omega), (by have a9 := as_done h19.2 hA (fun k hk => by have := sn_c_full (s := s) (n := n) (s 21).toNat (by omega) k hk; omega) (21 - j); rw [show j + (21 - j) = 21 by omega] at a9; exact a9.symm), htx1⟩
        · have hRj := hR1 (by omega)
          have hgj : md_rg (md_goN W rch s j) := md_goN_rg hg j (by omega)
          refine g_iconst (pc := 17) hC dX7_showsAll_17 ?_
          refine g_istore (pc := 18) hC [(4, _), (0, _), (1, _), (2, _), (3, _)] dX7_showsAll_18 (by decide) rfl ?_
          have L20 : ∀ (n2 : Nat) (i : Int) (l2 : Int) (jq : Nat), (rI i) → (rI l2) → (i = (jq : Int)) → (i ≤ s 21) → (l2 = s 21 - sn_c s n (s 21).toNat - (sn_c s (n + 1) jq - sn_c s n jq)) → (md_sn (md_goN W rch s j) n jq = 1) → s 21 - i < (n2 : Int) → G 0 0 20 [(0, .ref t0), (1, .ref b0), (2, .int (iI l2)), (3, .int (iI n)), (4, .int (iI i))] [] [cO t0 7 [.ref h1, .ref q0, w_fewest, w_whose, w_roomsFound, w_way], cO q0 2 [.null, w_facts, w_weighed, w_stamp], cO h1 5 [.ref j0, .ref j1, .ref j2, .ref j3, .ref j4, .ref j5, .int (iI aw), .int (iI cn), .int (iI tp1)], cA K j0 6 kd, cA K j1 6 nb, cA K j2 6 rm, cA K j3 6 ts1, cA K j4 24 rw, cA K j5 6 tx1, cO b0 4 [.ref b1, .ref b2, .ref b3, .int (iI pn)], cA K b1 8 pl1, cA K b2 8 pl2, cA K b3 8 pl3] := by
            intro n2
            induction n2 with
            | zero => intro i l2 jq r_i r_l2 hi hi2 hl2 hS hm20; exfalso; omega
            | succ n2 ih20 =>
              intro i l2 jq r_i r_l2 hi hi2 hl2 hS hm20
              have hcr2 := sn_c_rng s n jq
              have hcr3 := sn_c_rng s (n + 1) jq
              have hcr4 := sn_c_rng s n (s 21).toNat
              refine g_iload (pc := 20) hC 4 dX7_showsAll_20 rfl ?_
              refine g_aload_n (pc := 22) hC 1 dX7_showsAll_22 rfl rfl ?_
              refine g_get (pc := 23) hC 9 fl_X7_103 dX7_showsAll_23 rfl rfl ?_
              refine g_icmp_ge (pc := 26) hC 99 dX7_showsAll_26 (by decide) (by omega) (by omega) (fun c26 => ?_) (fun c26 => ?_)
              · have hj9 : (s 21).toNat = jq := by omega
                refine g_iload_n (pc := 99) hC 2 dX7_showsAll_99 rfl rfl ?_
                refine g_if_le (pc := 100) hC 114 dX7_showsAll_100 (by decide) (by omega) (fun c100 => ?_) (fun c100 => ?_)
                · refine g_iinc (pc := 114) hC 3 [(3, _), (0, _), (1, _), (2, _), (4, _)] dX7_showsAll_114 rfl (by decide) rfl ?_
                  refine g_goto (pc := 117) hC 7 dX7_showsAll_117 (by decide) ?_
                  refine g_lv hC [1, 2, 3, 0] [(0, _), (1, _), (2, _), (3, _)] rfl ?_
                  exact ih7 (n + 1) l2 ts1 tx1 tp1 (j + 1) (by first | assumption | omega) (by first | assumption | omega) (by first | assumption | omega) (by first | assumption | omega) r_tp1 (by first | assumption | omega) (by first | assumption | omega) (by rw [hl2, show (s 21).toNat = jq by omega]; omega) (by show (if md_as W rch s j = 1 then md_sn (md_goN W rch s j) (j : Int) (s 21).toNat else 0) = 1; rw [if_pos hA, ← hn, show (s 21).toNat = jq by omega]; exact hS) (fun h9 => absurd h9 (by omega)) htx1 (by omega)
                · refine g_aload_n (pc := 103) hC 0 dX7_showsAll_103 rfl rfl ?_
                  refine g_get (pc := 104) hC 0 fl_X7_12 dX7_showsAll_104 rfl rfl ?_
                  refine g_aload_n (pc := 107) hC 0 dX7_showsAll_107 rfl rfl ?_
                  refine g_get (pc := 108) hC 0 fl_X7_25 dX7_showsAll_108 rfl rfl ?_
                  refine g_callV (pc := 111) (qr := 2) hC [1, 2, 3, 4, 5, 6, 7, 8] (k_X5_goOneStep_n _ _ _ _ _ _ _ _ _ _ _ _ _ _ _ _ _ _ _ _ (md_goN W rch s j) W rch (by first | assumption | omega) (by first | assumption | omega) (by first | assumption | omega) (by first | assumption | omega) (by first | assumption | omega) (by first | assumption | omega) (by first | assumption | omega) (by first | assumption | omega) (by first | assumption | omega) hgj hRj (by first | assumption | omega)) cl_X5_goOneStep wm_X7_33 dX7_showsAll_111 rfl rfl rfl rfl rfl (by decide) (by decide) (by omega) (Nat.le_of_ble_eq_true rfl) rfl (fun v9 w9 hq9 => ?_)
                  obtain ⟨n3, st4, rfl, rfl, r_n3, r_st4, hR2_111⟩ := hq9
                  refine g_ws hC [cO t0 7 [.ref h1, .ref q0, w_fewest, w_whose, w_roomsFound, w_way], cO q0 2 [.null, w_facts, w_weighed, w_stamp], cO h1 5 [.ref j0, .ref j1, .ref j2, .ref j3, .ref j4, .ref j5, .int (iI aw), .int (iI cn), .int (iI (tp1 + 1))], cA K j0 6 kd, cA K j1 6 nb, cA K j2 6 rm, cA K j3 6 st4, cA K j4 24 rw, cA K j5 6 n3, cO b0 4 [.ref b1, .ref b2, .ref b3, .int (iI pn)], cA K b1 8 pl1, cA K b2 8 pl2, cA K b3 8 pl3] rfl ?_
                  refine g_st hC [] rfl ?_
                  refine g_iinc (pc := 114) hC 3 [(3, _), (0, _), (1, _), (2, _), (4, _)] dX7_showsAll_114 rfl (by decide) rfl ?_
                  refine g_goto (pc := 117) hC 7 dX7_showsAll_117 (by decide) ?_
                  refine g_lv hC [1, 2, 3, 0] [(0, _), (1, _), (2, _), (3, _)] rfl ?_
                  exact ih7 (n + 1) l2 st4 n3 (tp1 + 1) (j + 1) (by first | assumption | omega) (by first | assumption | omega) (by first | assumption | omega) (by first | assumption | omega) (by have h9 := (hR1 (by omega)).1; have h8 := hgj.2.2.2; omega) (by first | assumption | omega) (by first | assumption | omega) (by rw [hl2, show (s 21).toNat = jq by omega]; omega) (by show (if md_as W rch s j = 1 then md_sn (md_goN W rch s j) (j : Int) (s 21).toNat else 0) = 1; rw [if_pos hA, ← hn, show (s 21).toNat = jq by omega]; exact hS) (fun _ => hR2_111) (fun p h1 h2 => (hR2_111.2.2.2.1 p h1 h2).2.2) (by omega)
              · have hsk := hsn.2 i (by omega) (by omega)
                have hsv := hsn9.2.2 i (by omega) (by omega)
                have hts : ts1 (pl1 i) = ts1 (s (62 + i)) := by rw [hsk.1]
                have hs68 : (md_goN W rch s j) (68 + i) = s (68 + i) := md_goN_hi h19.2 (by omega) j
                have hs62 : (md_goN W rch s j) (62 + i) = s (62 + i) := md_goN_hi h19.2 (by omega) j
                have hs74 : (md_goN W rch s j) (74 + i) = s (74 + i) := md_goN_hi h19.2 (by omega) j
                have h19j : (md_goN W rch s j) 19 = s 19 := md_goN_hi h19.2 (by omega) j
                have hRm := (hRj.2.1 (s (62 + i)) hsv.1.1 (by rw [h19j]; exact hsv.1.2)).2.2.2.1
                refine g_iload (pc := 29) hC 4 dX7_showsAll_29 rfl ?_
                refine g_bipush (pc := 31) hC (8) dX7_showsAll_31 (by decide) ?_
                refine g_icmp_ge (pc := 33) hC 99 dX7_showsAll_33 (by decide) (by omega) (by omega) (fun c33 => by exfalso; omega) (fun c33 => ?_)
                refine g_aload_n (pc := 36) hC 1 dX7_showsAll_36 rfl rfl ?_
                refine g_get (pc := 37) hC 9 fl_X7_108 dX7_showsAll_37 rfl rfl ?_
                refine g_iload (pc := 40) hC 4 dX7_showsAll_40 rfl ?_
                refine g_iald (pc := 42) hC 11 dX7_showsAll_42 rfl (by omega) ?_
                have qz5 := r_pl2 i
                refine g_iload_n (pc := 43) hC 3 dX7_showsAll_43 rfl rfl ?_
                refine g_icmp_ne (pc := 44) hC 93 dX7_showsAll_44 (by decide) (by omega) (by omega) (fun c44 => ?_) (fun c44 => ?_)
                · refine g_iinc (pc := 93) hC 4 [(4, _), (0, _), (1, _), (2, _), (3, _)] dX7_showsAll_93 rfl (by decide) rfl ?_
                  refine g_goto (pc := 96) hC 20 dX7_showsAll_96 (by decide) ?_
                  refine g_lv hC [1, 2, 3, 4, 0] [(0, _), (1, _), (2, _), (3, _), (4, _)] rfl ?_
                  exact ih20 (i + 1) l2 (jq + 1) (by first | assumption | omega) (by first | assumption | omega) (by first | assumption | omega) (by first | assumption | omega) (by have a1 := sn_c_s (s := s) (n := n) hi; have a2 := sn_c_s (s := s) (n := n + 1) hi; omega) (sn_s1 hi hS (Or.inl (by rw [hs68]; omega))) (by omega)
                · refine g_aload_n (pc := 47) hC 1 dX7_showsAll_47 rfl rfl ?_
                  refine g_get (pc := 48) hC 9 fl_X7_111 dX7_showsAll_48 rfl rfl ?_
                  refine g_iload (pc := 51) hC 4 dX7_showsAll_51 rfl ?_
                  refine g_iald (pc := 53) hC 10 dX7_showsAll_53 rfl (by omega) ?_
                  have qz6 := r_pl1 i
                  refine g_istore (pc := 54) hC [(5, _), (0, _), (1, _), (2, _), (3, _), (4, _)] dX7_showsAll_54 (by decide) rfl ?_
                  refine g_aload_n (pc := 56) hC 1 dX7_showsAll_56 rfl rfl ?_
                  refine g_get (pc := 57) hC 0 fl_X7_12 dX7_showsAll_57 rfl rfl ?_
                  refine g_iload (pc := 60) hC 0 dX7_showsAll_60 rfl ?_
                  refine g_fnV (pc := 62) (qr := 2) hC [2] (k_X5_has _ _ _ _ _ _ _ _ _ _ _ (by first | assumption | omega) (by first | assumption | omega)) cl_X5_has wm_X7_80 dX7_showsAll_62 rfl rfl rfl rfl rfl (by decide) (by decide) ⟨by omega, by omega⟩ (Nat.le_of_ble_eq_true rfl) rfl rfl ?_
                  refine g_name hC (fun x7 e_x7 => ?_)
                  refine g_if_eq (pc := 65) hC 90 dX7_showsAll_65 (by decide) (by omega) (fun c65 => by exfalso; omega) (fun c65 => ?_)
                  refine g_aload_n (pc := 68) hC 1 dX7_showsAll_68 rfl rfl ?_
                  refine g_get (pc := 69) hC 0 fl_X7_12 dX7_showsAll_69 rfl rfl ?_
                  refine g_get (pc := 72) hC 2 fl_X7_56 dX7_showsAll_72 rfl rfl ?_
                  refine g_iload (pc := 75) hC 0 dX7_showsAll_75 rfl ?_
                  refine g_iald (pc := 77) hC 6 dX7_showsAll_77 rfl (by omega) ?_
                  have qz8 := r_ts1 (pl1 i)
                  refine g_aload_n (pc := 78) hC 2 dX7_showsAll_78 rfl rfl ?_
                  refine g_get (pc := 79) hC 9 fl_X7_114 dX7_showsAll_79 rfl rfl ?_
                  refine g_iload (pc := 82) hC 5 dX7_showsAll_82 rfl ?_
                  refine g_iald (pc := 84) hC 12 dX7_showsAll_84 rfl (by omega) ?_
                  have qz9 := r_pl3 i
                  refine g_icmp_eq (pc := 85) hC 90 dX7_showsAll_85 (by decide) (by omega) (by omega) (fun c85 => ?_) (fun c85 => ?_)
                  · refine g_iinc (pc := 90) hC 3 [(2, _), (5, _), (0, _), (1, _), (3, _), (4, _)] dX7_showsAll_90 rfl (by decide) rfl ?_
                    refine g_iinc (pc := 93) hC 5 [(4, _), (2, _), (5, _), (0, _), (1, _), (3, _)] dX7_showsAll_93 rfl (by decide) rfl ?_
                    refine g_goto (pc := 96) hC 20 dX7_showsAll_96 (by decide) ?_
                    refine g_lv hC [3, 4, 1, 5, 0] [(0, _), (1, _), (2, _), (3, _), (4, _)] rfl ?_
                    exact ih20 (i + 1) (l2 + (-1)) (jq + 1) (by first | assumption | omega) (by first | assumption | omega) (by first | assumption | omega) (by first | assumption | omega) (by have a1 := sn_c_s (s := s) (n := n) hi; have a2 := sn_c_s (s := s) (n := n + 1) hi; omega) (sn_s1 hi hS (Or.inr (by rw [hs62, hs74]; omega))) (by omega)
                  · refine g_iconst (pc := 88) hC dX7_showsAll_88 ?_
                    exact g_zret (pc := 89) hR dX7_showsAll_89 rfl (by omega) ⟨by omega, by omega⟩ (Nat.le_of_ble_eq_true rfl) ⟨0, ts1, tx1, tp1, rfl, rfl, (by first | assumption | omega), (by first | assumption | omega), (by first | assumption | omega), (by first | assumption | omega), (as_out (s := s) hn (by omega) hi (by omega) (by rw [hs68]; omega) (by rw [hs62, hs74]; omega)), htx1⟩
          refine g_lv hC [1, 2, 3, 4, 0] [(0, _), (1, _), (2, _), (3, _), (4, _)] rfl ?_
          exact L20 ((s 21 - 0 : Int).toNat + 1) 0 lf 0 (by first | assumption | omega) (by first | assumption | omega) (by first | assumption | omega) (by first | assumption | omega) (by rw [hlf]; show _ = _ - (0 - 0); omega) rfl (by omega)
  refine g_lv hC [2, 3, 1, 0] [(0, _), (1, _), (2, _), (3, _)] rfl ?_
  exact L7 ((21 - 0 : Int).toNat + 1) 0 pn st nx sp 0 (by first | assumption | omega) (by first | assumption | omega) (by first | assumption | omega) (by first | assumption | omega) (by first | assumption | omega) (by first | assumption | omega) (by first | assumption | omega) (by rw [sn_c_0 _ (fun i hi => (hsn9.2.2 i (by omega) (by omega)).2.1.1)]; omega) rfl (fun _ => hR9) (fun p h1 h2 => (hR9.2.2.2.1 p h1 h2).2.2) (by omega)
set_option maxHeartbeats 4000000 in
set_option maxRecDepth 100000 in
theorem k_X7_showsAll_r {K : gK} (t0 : Nat) (b0 : Nat) (h1 : Nat) (q0 : Nat) (o0 : Nat) (q1 : Nat) (q2 : Nat) (o1 : Nat) (j0 : Nat) (j1 : Nat) (j2 : Nat) (j3 : Nat) (j4 : Nat) (j5 : Nat) (b1 : Nat) (b2 : Nat) (b3 : Nat) (w_fewest : Value) (w_whose : Value) (w_roomsFound : Value) (w_way : Value) (stp : Int) (m : Int) (rc : Int) (aw : Int) (cn : Int) (sp : Int) (pn : Int) (fc : Int → Int) (wg : Int → Int) (od : Int → Int) (kd : Int → Int) (nb : Int → Int) (rm : Int → Int) (st : Int → Int) (rw : Int → Int) (nx : Int → Int) (pl1 : Int → Int) (pl2 : Int → Int) (pl3 : Int → Int) (s : Int → Int) (W : (Int → Int) → Int) (rch : Int) (r_stp : rI stp) (r_m : rI m) (r_rc : rI rc) (r_aw : rI aw) (r_cn : rI cn) (r_sp : rI sp) (r_pn : rI pn) (r_fc : ∀ j, rI (fc j)) (r_wg : ∀ j, rI (wg j)) (r_od : ∀ j, rI (od j)) (r_kd : ∀ j, rI (kd j)) (r_nb : ∀ j, rI (nb j)) (r_rm : ∀ j, rI (rm j)) (r_st : ∀ j, rI (st j)) (r_rw : ∀ j, rI (rw j)) (r_nx : ∀ j, rI (nx j)) (r_pl1 : ∀ j, rI (pl1 j)) (r_pl2 : ∀ j, rI (pl2 j)) (r_pl3 : ∀ j, rI (pl3 j)) (hg : md_rg s) (hR9 : cs_R s kd nb rm st rw nx aw cn sp) (hho : md_ho W od m) (hcc : md_CC W (fun z => s (26 + z)) wg stp) (hWr : ∀ b, -990 ≤ W b ∧ W b ≤ 990) (hrch : rc = rch) (hrr : 0 ≤ rch ∧ rch ≤ 99) (hs : md_rs s) (hst0 : s 0 + 21 ≤ 20000) (hsn : pn = s 21 ∧ ∀ k, 0 ≤ k → k < s 21 → pl1 k = s (62 + k) ∧ pl2 k = s (68 + k) ∧ pl3 k = s (74 + k)) : gMet K yX7_showsAll cX7_showsAll 6 (some .boolean) 4 0 0 [.ref t0, .ref b0] [cO t0 7 [.ref h1, .ref q0, w_fewest, w_whose, w_roomsFound, w_way], cO q0 2 [.ref o0, .ref q1, .ref q2, .int (iI stp)], cA K q1 6 fc, cA K q2 36000 wg, cO o0 1 [.ref o1, .int (iI m), .int (iI rc)], cA K o1 100 od, cO h1 5 [.ref j0, .ref j1, .ref j2, .ref j3, .ref j4, .ref j5, .int (iI aw), .int (iI cn), .int (iI sp)], cA K j0 6 kd, cA K j1 6 nb, cA K j2 6 rm, cA K j3 6 st, cA K j4 24 rw, cA K j5 6 nx, cO b0 4 [.ref b1, .ref b2, .ref b3, .int (iI pn)], cA K b1 8 pl1, cA K b2 8 pl2, cA K b3 8 pl3] (fun v9 w9 => ∃ (r : Int), ∃ (st2 : Int → Int), ∃ (nx2 : Int → Int), ∃ (sp2 : Int), ∃ (fc2 : Int → Int), ∃ (wg2 : Int → Int), v9 = some (.int (iI r)) ∧ w9 = [cO t0 7 [.ref h1, .ref q0, w_fewest, w_whose, w_roomsFound, w_way], cO q0 2 [.ref o0, .ref q1, .ref q2, .int (iI stp)], cA K q1 6 fc2, cA K q2 36000 wg2, cO o0 1 [.ref o1, .int (iI m), .int (iI rc)], cA K o1 100 od, cO h1 5 [.ref j0, .ref j1, .ref j2, .ref j3, .ref j4, .ref j5, .int (iI aw), .int (iI cn), .int (iI sp2)], cA K j0 6 kd, cA K j1 6 nb, cA K j2 6 rm, cA K j3 6 st2, cA K j4 24 rw, cA K j5 6 nx2, cO b0 4 [.ref b1, .ref b2, .ref b3, .int (iI pn)], cA K b1 8 pl1, cA K b2 8 pl2, cA K b3 8 pl3] ∧ rI r ∧ (∀ j, rI (st2 j)) ∧ (∀ j, rI (nx2 j)) ∧ rI sp2 ∧ (∀ j, rI (fc2 j)) ∧ (∀ j, rI (wg2 j)) ∧ (r = md_as W rch s 21) ∧ (∀ p, 0 ≤ p → p < 6 → 0 ≤ nx2 p ∧ nx2 p ≤ 9) ∧ (md_CC W (fun z => s (26 + z)) wg2 stp)) := by
  refine g_enter (by decide +kernel) (Nat.le_of_ble_eq_true rfl) (fun G hC hR => ?_)
  refine g_lv hC [0, 1] [(0, _), (1, _)] rfl ?_
  have h19 := hg.2.2.1
  have hg0 := hg.2.2.2
  have hcs := hR9.1
  have hsn9 := hs.1
  refine g_aload_n (pc := 0) hC 1 dX7_showsAll_0 rfl rfl ?_
  refine g_get (pc := 1) hC 13 fl_X7_103 dX7_showsAll_1 rfl rfl ?_
  refine g_istore_n (pc := 4) hC [(2, _), (0, _), (1, _)] dX7_showsAll_4 rfl (by decide) rfl ?_
  refine g_iconst (pc := 5) hC dX7_showsAll_5 ?_
  refine g_istore_n (pc := 6) hC [(3, _), (2, _), (0, _), (1, _)] dX7_showsAll_6 rfl (by decide) rfl ?_
  have L7 : ∀ (n1 : Nat) (n : Int) (lf : Int) (ts1 : Int → Int) (tx1 : Int → Int) (tp1 : Int) (j : Nat) (f1 : Int → Int) (w1 : Int → Int), (rI n) → (rI lf) → (∀ j, rI (ts1 j)) → (∀ j, rI (tx1 j)) → (rI tp1) → (∀ j, rI (f1 j)) → (∀ j, rI (w1 j)) → (n = (j : Int)) → (n ≤ 21) → (lf = s 21 - sn_c s n (s 21).toNat) → (md_as W rch s j = 1) → (0 < lf → cs_R (md_goN W rch s j) kd nb rm ts1 rw tx1 aw cn tp1) → (∀ p, 0 ≤ p → p < 6 → 0 ≤ tx1 p ∧ tx1 p ≤ 9) → (md_CC W (fun z => s (26 + z)) w1 stp) → 21 - n < (n1 : Int) → G 0 0 7 [(0, .ref t0), (1, .ref b0), (2, .int (iI lf)), (3, .int (iI n))] [] [cO t0 7 [.ref h1, .ref q0, w_fewest, w_whose, w_roomsFound, w_way], cO q0 2 [.ref o0, .ref q1, .ref q2, .int (iI stp)], cA K q1 6 f1, cA K q2 36000 w1, cO o0 1 [.ref o1, .int (iI m), .int (iI rc)], cA K o1 100 od, cO h1 5 [.ref j0, .ref j1, .ref j2, .ref j3, .ref j4, .ref j5, .int (iI aw), .int (iI cn), .int (iI tp1)], cA K j0 6 kd, cA K j1 6 nb, cA K j2 6 rm, cA K j3 6 ts1, cA K j4 24 rw, cA K j5 6 tx1, cO b0 4 [.ref b1, .ref b2, .ref b3, .int (iI pn)], cA K b1 8 pl1, cA K b2 8 pl2, cA K b3 8 pl3] := by
    intro n1
    induction n1 with
    | zero => intro n lf ts1 tx1 tp1 j f1 w1 r_n r_lf r_ts1 r_tx1 r_tp1 r_f1 r_w1 hn hn2 hlf hA hR1 htx1 hcc1 hm7; exfalso; omega
    | succ n1 ih7 =>
      intro n lf ts1 tx1 tp1 j f1 w1 r_n r_lf r_ts1 r_tx1 r_tp1 r_f1 r_w1 hn hn2 hlf hA hR1 htx1 hcc1 hm7
      have hcr := sn_c_rng s n (s 21).toNat
      refine g_iload_n (pc := 7) hC 3 dX7_showsAll_7 rfl rfl ?_
      refine g_bipush (pc := 8) hC (20) dX7_showsAll_8 (by decide) ?_
      refine g_icmp_gt (pc := 10) hC 120 dX7_showsAll_10 (by decide) (by omega) (by omega) (fun c10 => ?_) (fun c10 => ?_)
      · refine g_iconst (pc := 120) hC dX7_showsAll_120 ?_
        exact g_zret (pc := 121) hR dX7_showsAll_121 rfl (by omega) ⟨by omega, by omega⟩ (Nat.le_of_ble_eq_true rfl) ⟨1, ts1, tx1, tp1, f1, w1, rfl, rfl, (by first | assumption | omega), (by first | assumption | omega), (by first | assumption | omega), (by first | assumption | omega), (by first | assumption | omega), (by first | assumption | omega), (by rw [← hA, show j = 21 by omega]), htx1, hcc1⟩
      · refine g_iload_n (pc := 13) hC 2 dX7_showsAll_13 rfl rfl ?_
        refine g_if_le (pc := 14) hC 120 dX7_showsAll_14 (by decide) (by omega) (fun c14 => ?_) (fun c14 => ?_)
        · refine g_iconst (pc := 120) hC dX7_showsAll_120 ?_
          exact g_zret (pc := 121) hR dX7_showsAll_121 rfl (by omega) ⟨by omega, by omega⟩ (Nat.le_of_ble_eq_true rfl) ⟨1, ts1, tx1, tp1, f1, w1, rfl, rfl, (by first | assumption | omega), (by first | assumption | omega), (by first | assumption | omega), (by first | assumption | omega), (by first | assumption | omega), (by first | assumption | omega), (by have a9 := as_done h19.2 hA (fun k hk => by have := sn_c_full (s := s) (n := n) (s 21).toNat (by omega) k hk; omega) (21 - j); rw [show j + (21 - j) = 21 by omega] at a9; exact a9.symm), htx1, hcc1⟩
        · have hRj := hR1 (by omega)
          have hgj : md_rg (md_goN W rch s j) := md_goN_rg hg j (by omega)
          refine g_iconst (pc := 17) hC dX7_showsAll_17 ?_
          refine g_istore (pc := 18) hC [(4, _), (0, _), (1, _), (2, _), (3, _)] dX7_showsAll_18 (by decide) rfl ?_
          have L20 : ∀ (n2 : Nat) (i : Int) (l2 : Int) (jq : Nat), (rI i) → (rI l2) → (i = (jq : Int)) → (i ≤ s 21) → (l2 = s 21 - sn_c s n (s 21).toNat - (sn_c s (n + 1) jq - sn_c s n jq)) → (md_sn (md_goN W rch s j) n jq = 1) → s 21 - i < (n2 : Int) → G 0 0 20 [(0, .ref t0), (1, .ref b0), (2, .int (iI l2)), (3, .int (iI n)), (4, .int (iI i))] [] [cO t0 7 [.ref h1, .ref q0, w_fewest, w_whose, w_roomsFound, w_way], cO q0 2 [.ref o0, .ref q1, .ref q2, .int (iI stp)], cA K q1 6 f1, cA K q2 36000 w1, cO o0 1 [.ref o1, .int (iI m), .int (iI rc)], cA K o1 100 od, cO h1 5 [.ref j0, .ref j1, .ref j2, .ref j3, .ref j4, .ref j5, .int (iI aw), .int (iI cn), .int (iI tp1)], cA K j0 6 kd, cA K j1 6 nb, cA K j2 6 rm, cA K j3 6 ts1, cA K j4 24 rw, cA K j5 6 tx1, cO b0 4 [.ref b1, .ref b2, .ref b3, .int (iI pn)], cA K b1 8 pl1, cA K b2 8 pl2, cA K b3 8 pl3] := by
            intro n2
            induction n2 with
            | zero => intro i l2 jq r_i r_l2 hi hi2 hl2 hS hm20; exfalso; omega
            | succ n2 ih20 =>
              intro i l2 jq r_i r_l2 hi hi2 hl2 hS hm20
              have hcr2 := sn_c_rng s n jq
              have hcr3 := sn_c_rng s (n + 1) jq
              have hcr4 := sn_c_rng s n (s 21).toNat
              refine g_iload (pc := 20) hC 4 dX7_showsAll_20 rfl ?_
              refine g_aload_n (pc := 22) hC 1 dX7_showsAll_22 rfl rfl ?_
              refine g_get (pc := 23) hC 13 fl_X7_103 dX7_showsAll_23 rfl rfl ?_
              refine g_icmp_ge (pc := 26) hC 99 dX7_showsAll_26 (by decide) (by omega) (by omega) (fun c26 => ?_) (fun c26 => ?_)
              · have hj9 : (s 21).toNat = jq := by omega
                refine g_iload_n (pc := 99) hC 2 dX7_showsAll_99 rfl rfl ?_
                refine g_if_le (pc := 100) hC 114 dX7_showsAll_100 (by decide) (by omega) (fun c100 => ?_) (fun c100 => ?_)
                · refine g_iinc (pc := 114) hC 3 [(3, _), (0, _), (1, _), (2, _), (4, _)] dX7_showsAll_114 rfl (by decide) rfl ?_
                  refine g_goto (pc := 117) hC 7 dX7_showsAll_117 (by decide) ?_
                  refine g_lv hC [1, 2, 3, 0] [(0, _), (1, _), (2, _), (3, _)] rfl ?_
                  exact ih7 (n + 1) l2 ts1 tx1 tp1 (j + 1) f1 w1 (by first | assumption | omega) (by first | assumption | omega) (by first | assumption | omega) (by first | assumption | omega) r_tp1 (by first | assumption | omega) (by first | assumption | omega) (by first | assumption | omega) (by first | assumption | omega) (by rw [hl2, show (s 21).toNat = jq by omega]; omega) (by show (if md_as W rch s j = 1 then md_sn (md_goN W rch s j) (j : Int) (s 21).toNat else 0) = 1; rw [if_pos hA, ← hn, show (s 21).toNat = jq by omega]; exact hS) (fun h9 => absurd h9 (by omega)) htx1 hcc1 (by omega)
                · refine g_aload_n (pc := 103) hC 0 dX7_showsAll_103 rfl rfl ?_
                  refine g_get (pc := 104) hC 0 fl_X7_12 dX7_showsAll_104 rfl rfl ?_
                  refine g_aload_n (pc := 107) hC 0 dX7_showsAll_107 rfl rfl ?_
                  refine g_get (pc := 108) hC 0 fl_X7_25 dX7_showsAll_108 rfl rfl ?_
                  refine g_callV (pc := 111) (qr := 6) hC [1, 2, 3, 4, 5, 6, 7, 8, 9, 10, 11, 12] (k_X5_goOneStep_r _ _ _ _ _ _ _ _ _ _ _ _ _ _ _ _ _ _ _ _ _ _ _ _ _ _ _ (md_goN W rch s j) W rch (by first | assumption | omega) (by first | assumption | omega) (by first | assumption | omega) (by first | assumption | omega) (by first | assumption | omega) (by first | assumption | omega) (by first | assumption | omega) (by first | assumption | omega) (by first | assumption | omega) (by first | assumption | omega) (by first | assumption | omega) (by first | assumption | omega) (by first | assumption | omega) (by first | assumption | omega) (by first | assumption | omega) hgj hRj (by first | assumption | omega) ((cc_go h19.2 j).mpr hcc1) (by first | assumption | omega) (by first | assumption | omega) (by first | assumption | omega)) cl_X5_goOneStep wm_X7_33 dX7_showsAll_111 rfl rfl rfl rfl rfl (by decide) (by decide) (by omega) (Nat.le_of_ble_eq_true rfl) rfl (fun v9 w9 hq9 => ?_)
                  obtain ⟨n3, st4, fc5, wg6, rfl, rfl, r_n3, r_st4, r_fc5, r_wg6, hR2_111, hcc2_111⟩ := hq9
                  refine g_ws hC [cO t0 7 [.ref h1, .ref q0, w_fewest, w_whose, w_roomsFound, w_way], cO q0 2 [.ref o0, .ref q1, .ref q2, .int (iI stp)], cA K q1 6 fc5, cA K q2 36000 wg6, cO o0 1 [.ref o1, .int (iI m), .int (iI rc)], cA K o1 100 od, cO h1 5 [.ref j0, .ref j1, .ref j2, .ref j3, .ref j4, .ref j5, .int (iI aw), .int (iI cn), .int (iI (tp1 + 1))], cA K j0 6 kd, cA K j1 6 nb, cA K j2 6 rm, cA K j3 6 st4, cA K j4 24 rw, cA K j5 6 n3, cO b0 4 [.ref b1, .ref b2, .ref b3, .int (iI pn)], cA K b1 8 pl1, cA K b2 8 pl2, cA K b3 8 pl3] rfl ?_
                  refine g_st hC [] rfl ?_
                  refine g_iinc (pc := 114) hC 3 [(3, _), (0, _), (1, _), (2, _), (4, _)] dX7_showsAll_114 rfl (by decide) rfl ?_
                  refine g_goto (pc := 117) hC 7 dX7_showsAll_117 (by decide) ?_
                  refine g_lv hC [1, 2, 3, 0] [(0, _), (1, _), (2, _), (3, _)] rfl ?_
                  exact ih7 (n + 1) l2 st4 n3 (tp1 + 1) (j + 1) fc5 wg6 (by first | assumption | omega) (by first | assumption | omega) (by first | assumption | omega) (by first | assumption | omega) (by have h9 := (hR1 (by omega)).1; have h8 := hgj.2.2.2; omega) (by first | assumption | omega) (by first | assumption | omega) (by first | assumption | omega) (by first | assumption | omega) (by rw [hl2, show (s 21).toNat = jq by omega]; omega) (by show (if md_as W rch s j = 1 then md_sn (md_goN W rch s j) (j : Int) (s 21).toNat else 0) = 1; rw [if_pos hA, ← hn, show (s 21).toNat = jq by omega]; exact hS) (fun _ => hR2_111) (fun p h1 h2 => (hR2_111.2.2.2.1 p h1 h2).2.2) ((cc_go h19.2 j).mp hcc2_111) (by omega)
              · have hsk := hsn.2 i (by omega) (by omega)
                have hsv := hsn9.2.2 i (by omega) (by omega)
                have hts : ts1 (pl1 i) = ts1 (s (62 + i)) := by rw [hsk.1]
                have hs68 : (md_goN W rch s j) (68 + i) = s (68 + i) := md_goN_hi h19.2 (by omega) j
                have hs62 : (md_goN W rch s j) (62 + i) = s (62 + i) := md_goN_hi h19.2 (by omega) j
                have hs74 : (md_goN W rch s j) (74 + i) = s (74 + i) := md_goN_hi h19.2 (by omega) j
                have h19j : (md_goN W rch s j) 19 = s 19 := md_goN_hi h19.2 (by omega) j
                have hRm := (hRj.2.1 (s (62 + i)) hsv.1.1 (by rw [h19j]; exact hsv.1.2)).2.2.2.1
                refine g_iload (pc := 29) hC 4 dX7_showsAll_29 rfl ?_
                refine g_bipush (pc := 31) hC (8) dX7_showsAll_31 (by decide) ?_
                refine g_icmp_ge (pc := 33) hC 99 dX7_showsAll_33 (by decide) (by omega) (by omega) (fun c33 => by exfalso; omega) (fun c33 => ?_)
                refine g_aload_n (pc := 36) hC 1 dX7_showsAll_36 rfl rfl ?_
                refine g_get (pc := 37) hC 13 fl_X7_108 dX7_showsAll_37 rfl rfl ?_
                refine g_iload (pc := 40) hC 4 dX7_showsAll_40 rfl ?_
                refine g_iald (pc := 42) hC 15 dX7_showsAll_42 rfl (by omega) ?_
                have qz7 := r_pl2 i
                refine g_iload_n (pc := 43) hC 3 dX7_showsAll_43 rfl rfl ?_
                refine g_icmp_ne (pc := 44) hC 93 dX7_showsAll_44 (by decide) (by omega) (by omega) (fun c44 => ?_) (fun c44 => ?_)
                · refine g_iinc (pc := 93) hC 4 [(4, _), (0, _), (1, _), (2, _), (3, _)] dX7_showsAll_93 rfl (by decide) rfl ?_
                  refine g_goto (pc := 96) hC 20 dX7_showsAll_96 (by decide) ?_
                  refine g_lv hC [1, 2, 3, 4, 0] [(0, _), (1, _), (2, _), (3, _), (4, _)] rfl ?_
                  exact ih20 (i + 1) l2 (jq + 1) (by first | assumption | omega) (by first | assumption | omega) (by first | assumption | omega) (by first | assumption | omega) (by have a1 := sn_c_s (s := s) (n := n) hi; have a2 := sn_c_s (s := s) (n := n + 1) hi; omega) (sn_s1 hi hS (Or.inl (by rw [hs68]; omega))) (by omega)
                · refine g_aload_n (pc := 47) hC 1 dX7_showsAll_47 rfl rfl ?_
                  refine g_get (pc := 48) hC 13 fl_X7_111 dX7_showsAll_48 rfl rfl ?_
                  refine g_iload (pc := 51) hC 4 dX7_showsAll_51 rfl ?_
                  refine g_iald (pc := 53) hC 14 dX7_showsAll_53 rfl (by omega) ?_
                  have qz8 := r_pl1 i
                  refine g_istore (pc := 54) hC [(5, _), (0, _), (1, _), (2, _), (3, _), (4, _)] dX7_showsAll_54 (by decide) rfl ?_
                  refine g_aload_n (pc := 56) hC 1 dX7_showsAll_56 rfl rfl ?_
                  refine g_get (pc := 57) hC 0 fl_X7_12 dX7_showsAll_57 rfl rfl ?_
                  refine g_iload (pc := 60) hC 0 dX7_showsAll_60 rfl ?_
                  refine g_fnV (pc := 62) (qr := 6) hC [6] (k_X5_has _ _ _ _ _ _ _ _ _ _ _ (by first | assumption | omega) (by first | assumption | omega)) cl_X5_has wm_X7_80 dX7_showsAll_62 rfl rfl rfl rfl rfl (by decide) (by decide) ⟨by omega, by omega⟩ (Nat.le_of_ble_eq_true rfl) rfl rfl ?_
                  refine g_name hC (fun x9 e_x9 => ?_)
                  refine g_if_eq (pc := 65) hC 90 dX7_showsAll_65 (by decide) (by omega) (fun c65 => by exfalso; omega) (fun c65 => ?_)
                  refine g_aload_n (pc := 68) hC 1 dX7_showsAll_68 rfl rfl ?_
                  refine g_get (pc := 69) hC 0 fl_X7_12 dX7_showsAll_69 rfl rfl ?_
                  refine g_get (pc := 72) hC 6 fl_X7_56 dX7_showsAll_72 rfl rfl ?_
                  refine g_iload (pc := 75) hC 0 dX7_showsAll_75 rfl ?_
                  refine g_iald (pc := 77) hC 10 dX7_showsAll_77 rfl (by omega) ?_
                  have qz10 := r_ts1 (pl1 i)
                  refine g_aload_n (pc := 78) hC 2 dX7_showsAll_78 rfl rfl ?_
                  refine g_get (pc := 79) hC 13 fl_X7_114 dX7_showsAll_79 rfl rfl ?_
                  refine g_iload (pc := 82) hC 5 dX7_showsAll_82 rfl ?_
                  refine g_iald (pc := 84) hC 16 dX7_showsAll_84 rfl (by omega) ?_
                  have qz11 := r_pl3 i
                  refine g_icmp_eq (pc := 85) hC 90 dX7_showsAll_85 (by decide) (by omega) (by omega) (fun c85 => ?_) (fun c85 => ?_)
                  · refine g_iinc (pc := 90) hC 3 [(2, _), (5, _), (0, _), (1, _), (3, _), (4, _)] dX7_showsAll_90 rfl (by decide) rfl ?_
                    refine g_iinc (pc := 93) hC 5 [(4, _), (2, _), (5, _), (0, _), (1, _), (3, _)] dX7_showsAll_93 rfl (by decide) rfl ?_
                    refine g_goto (pc := 96) hC 20 dX7_showsAll_96 (by decide) ?_
                    refine g_lv hC [3, 4, 1, 5, 0] [(0, _), (1, _), (2, _), (3, _), (4, _)] rfl ?_
                    exact ih20 (i + 1) (l2 + (-1)) (jq + 1) (by first | assumption | omega) (by first | assumption | omega) (by first | assumption | omega) (by first | assumption | omega) (by have a1 := sn_c_s (s := s) (n := n) hi; have a2 := sn_c_s (s := s) (n := n + 1) hi; omega) (sn_s1 hi hS (Or.inr (by rw [hs62, hs74]; omega))) (by omega)
                  · refine g_iconst (pc := 88) hC dX7_showsAll_88 ?_
                    exact g_zret (pc := 89) hR dX7_showsAll_89 rfl (by omega) ⟨by omega, by omega⟩ (Nat.le_of_ble_eq_true rfl) ⟨0, ts1, tx1, tp1, f1, w1, rfl, rfl, (by first | assumption | omega), (by first | assumption | omega), (by first | assumption | omega), (by first | assumption | omega), (by first | assumption | omega), (by first | assumption | omega), (as_out (s := s) hn (by omega) hi (by omega) (by rw [hs68]; omega) (by rw [hs62, hs74]; omega)), htx1, hcc1⟩
          refine g_lv hC [1, 2, 3, 4, 0] [(0, _), (1, _), (2, _), (3, _), (4, _)] rfl ?_
          exact L20 ((s 21 - 0 : Int).toNat + 1) 0 lf 0 (by first | assumption | omega) (by first | assumption | omega) (by first | assumption | omega) (by first | assumption | omega) (by rw [hlf]; show _ = _ - (0 - 0); omega) rfl (by omega)
  refine g_lv hC [2, 3, 1, 0] [(0, _), (1, _), (2, _), (3, _)] rfl ?_
  exact L7 ((21 - 0 : Int).toNat + 1) 0 pn st nx sp 0 fc wg (by first | assumption | omega) (by first | assumption | omega) (by first | assumption | omega) (by first | assumption | omega) (by first | assumption | omega) (by first | assumption | omega) (by first | assumption | omega) (by first | assumption | omega) (by first | assumption | omega) (by rw [sn_c_0 _ (fun i hi => (hsn9.2.2 i (by omega) (by omega)).2.1.1)]; omega) rfl (fun _ => hR9) (fun p h1 h2 => (hR9.2.2.2.1 p h1 h2).2.2) (by first | assumption | omega) (by omega)
