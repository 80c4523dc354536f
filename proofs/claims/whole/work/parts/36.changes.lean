/-! THE CLASS: its calls that change what is -/
theorem see_end {s pl1 pl2 pl3 u1 u2 u3 : Int → Int} {pn un p n x : Int} (hs : 0 ≤ s 21 ∧ s 21 ≤ 6) (h : pn = s 21 ∧ ∀ k, 0 ≤ k → k < s 21 → pl1 k = s (62 + k) ∧ pl2 k = s (68 + k) ∧ pl3 k = s (74 + k)) (had : (pn = 6 ∧ u1 = pl1 ∧ u2 = pl2 ∧ u3 = pl3 ∧ un = pn) ∨ (pn < 6 ∧ u1 = upI pl1 pn p ∧ u2 = upI pl2 pn n ∧ u3 = upI pl3 pn x ∧ un = pn + 1)) (hc : ¬ p = -1 ∧ (0 ≤ p ∧ p < s 19) ∧ (0 ≤ x ∧ x ≤ 9) ∧ (0 ≤ n ∧ n ≤ 20)) : un = ne_see s p n x 21 ∧ ∀ k, 0 ≤ k → k < ne_see s p n x 21 → u1 k = ne_see s p n x (62 + k) ∧ u2 k = ne_see s p n x (68 + k) ∧ u3 k = ne_see s p n x (74 + k) := by
  have h0 := h.1
  rcases had with ⟨a, b, c, d, e⟩ | ⟨a, b, c, d, e⟩
  · have e9 : ne_see s p n x = s := by unfold ne_see; rw [if_neg hc.1, if_neg (by omega)]
    rw [e9, b, c, d, e]
    exact h
  · exact see_R hs h a b c d e (by unfold ne_see; rw [if_neg hc.1, if_pos (by omega)])
theorem plan_end {s pl1 pl2 pl3 u1 u2 u3 : Int → Int} {pn un w n : Int} (hs : 0 ≤ s 22 ∧ s 22 ≤ 8) (h : pn = s 22 ∧ ∀ k, 0 ≤ k → k < s 22 → pl1 k = s (80 + k) ∧ pl2 k = s (88 + k)) (had : (pn = 8 ∧ u1 = pl1 ∧ u2 = pl2 ∧ u3 = pl3 ∧ un = pn) ∨ (pn < 8 ∧ u1 = upI pl1 pn w ∧ u2 = upI pl2 pn n ∧ u3 = upI pl3 pn 0 ∧ un = pn + 1)) (hc : ¬ w = -1 ∧ an_isPlan s w n = 1) : un = ne_plan s w n 22 ∧ ∀ k, 0 ≤ k → k < ne_plan s w n 22 → u1 k = ne_plan s w n (80 + k) ∧ u2 k = ne_plan s w n (88 + k) := by
  have h0 := h.1
  rcases had with ⟨a, b, c, d, e⟩ | ⟨a, b, c, d, e⟩
  · have e9 : ne_plan s w n = s := by unfold ne_plan; rw [if_neg hc.1, if_neg (by omega)]
    rw [e9, b, c, e]
    exact h
  · exact row2_R (by omega) hs h a b c e (by unfold ne_plan; rw [if_neg hc.1, if_pos (by omega)])
theorem book_end {s pl1 pl2 pl3 u1 u2 u3 : Int → Int} {pn un p x : Int} (hs : 0 ≤ s 23 ∧ s 23 ≤ 8) (h : pn = s 23 ∧ ∀ k, 0 ≤ k → k < s 23 → pl1 k = s (96 + k) ∧ pl2 k = s (104 + k)) (had : (pn = 8 ∧ u1 = pl1 ∧ u2 = pl2 ∧ u3 = pl3 ∧ un = pn) ∨ (pn < 8 ∧ u1 = upI pl1 pn p ∧ u2 = upI pl2 pn x ∧ u3 = upI pl3 pn 0 ∧ un = pn + 1)) (hc : ¬ p = -1 ∧ (0 ≤ p ∧ p < s 19) ∧ (0 ≤ x ∧ x ≤ 9)) : un = ne_book s p x 23 ∧ ∀ k, 0 ≤ k → k < ne_book s p x 23 → u1 k = ne_book s p x (96 + k) ∧ u2 k = ne_book s p x (104 + k) := by
  have h0 := h.1
  rcases had with ⟨a, b, c, d, e⟩ | ⟨a, b, c, d, e⟩
  · have e9 : ne_book s p x = s := by unfold ne_book; rw [if_neg hc.1, if_neg (by omega)]
    rw [e9, b, c, e]
    exact h
  · exact row2_R (by omega) hs h a b c e (by unfold ne_book; rw [if_neg hc.1, if_pos (by omega)])
theorem no_rows {s f1 f2 f3 : Int → Int} {Y A B C : Int} : (0 : Int) = upI s Y 0 Y ∧ ∀ k, 0 ≤ k → k < upI s Y 0 Y → f1 k = upI s Y 0 (A + k) ∧ f2 k = upI s Y 0 (B + k) ∧ f3 k = upI s Y 0 (C + k) := by
  rw [upI_at]
  exact ⟨rfl, fun k h1 h2 => by omega⟩
theorem no_rows2 {s f1 f2 : Int → Int} {Y A B : Int} : (0 : Int) = upI s Y 0 Y ∧ ∀ k, 0 ≤ k → k < upI s Y 0 Y → f1 k = upI s Y 0 (A + k) ∧ f2 k = upI s Y 0 (B + k) := by
  rw [upI_at]
  exact ⟨rfl, fun k h1 h2 => by omega⟩
theorem cs_row {s kd nb rm st rw nx r2 : Int → Int} {aw cn sp p k x : Int} (h19 : 0 ≤ s 19 ∧ s 19 ≤ 6) (h : cs_R s kd nb rm st rw nx aw cn sp) (hp : 0 ≤ p ∧ p < s 19) (hk : 0 ≤ k ∧ k ≤ 3) (e : r2 = upI rw (p * 4 + k) x) : cs_R (upI s (38 + 4 * p + k) x) kd nb rm st r2 nx aw cn sp := by
  obtain ⟨⟨a0, a1, a6⟩, a2, a3, a4, a5⟩ := h
  have kn : ∀ j, j < 38 → upI s (38 + 4 * p + k) x j = s j := fun j hj => upI_ne (by omega)
  refine ⟨⟨by rw [kn 19 (by omega)]; exact a0, by rw [kn 0 (by omega)]; exact a1, a6⟩, fun q h1 h2 => ?_, fun q h1 h2 => a3 q (by rw [kn 19 (by omega)] at h1; exact h1) h2, a4, fun j h1 h2 => ?_⟩
  · rw [kn 19 (by omega)] at h2
    rw [kn _ (by omega), kn _ (by omega), kn _ (by omega), kn _ (by omega), kn _ (by omega)]
    exact a2 q h1 h2
  · rw [kn 19 (by omega), e]
    by_cases hj : j = p * 4 + k
    · rw [hj, upI_at, if_pos (by omega), show 38 + (p * 4 + k) = 38 + 4 * p + k by omega, upI_at]
    · rw [upI_ne hj, upI_ne (by omega)]
      exact a5 j h1 h2
theorem set_w {w : Int} (h : w = 0 ∨ w = 1) : cx_w w = (if w = 0 then 13 else 1) := by
  unfold cx_w
  rcases h with h | h <;> subst h <;> rfl
theorem tape_cr {s tf : Int → Int} {tz : Int} (h24 : 0 ≤ s 24 ∧ s 24 ≤ 100) (htp : ∀ q, 0 ≤ q → q < 100 → 0 ≤ s (112 + q) ∧ s (112 + q) ≤ 127) (ht : tz = s 24 ∧ ∀ q, 0 ≤ q → q < s 24 → tf q = s (112 + q)) : cr_T (md_tape s) tz tf := by
  have h := md_tape_T (s := s) (f := s) (ac := 0) h24 htp (fun _ _ _ => rfl)
  rw [ht.1]
  refine ⟨h.1, fun q hq => ?_, h.2.2⟩
  rw [h.2.1 q hq]
  by_cases hl : q < s 24
  · rw [if_pos hl, if_pos hl, ht.2 q hq hl]
  · rw [if_neg hl, if_neg hl]
theorem away_z {z : Int} (h : z = 0 ∨ z = 1) : (if z = 0 then (0 : Int) else 1) = z := by
  rcases h with h | h <;> subst h <;> rfl
set_option maxHeartbeats 4000000 in
set_option maxRecDepth 100000 in
theorem k_X9_act {K : gK} (xx : Nat) (nA : Nat) (nZ : Nat) (hh : Nat) (q0 : Nat) (t0 : Nat) (g0 : Nat) (h0 : Nat) (po : Nat) (sr : Nat) (pr : Nat) (br : Nat) (k0 : Nat) (k1 : Nat) (k2 : Nat) (k3 : Nat) (k4 : Nat) (k5 : Nat) (ga : Nat) (wx_taken : Value) (p : Int) (w : Int) (x : Int) (ho : Int) (aw : Int) (cn : Int) (sp : Int) (ran : Int) (bm : Int) (bk : Int) (bv : Int) (kd : Int → Int) (nb : Int → Int) (rm : Int → Int) (st : Int → Int) (rw : Int → Int) (nx : Int → Int) (tf : Int → Int) (s : Int → Int) (hg : md_rg s) (hR9 : cs_R s kd nb rm st rw nx aw cn sp) (r_p : rI p) (r_w : rI w) (r_cn : rI cn) : gMet K yX9_act cX9_act 4 (some .int) 14 0 0 [.ref xx, .int (iI p), .int (iI w), .int (iI x)] [cO xx 9 [.ref nA, .ref nZ, wx_taken, .ref hh, .ref q0, .ref t0, .ref g0], cO nA 8 [.ref h0, .ref po, .ref sr, .ref pr, .ref br, .int (iI ho)], cO h0 5 [.ref k0, .ref k1, .ref k2, .ref k3, .ref k4, .ref k5, .int (iI aw), .int (iI cn), .int (iI sp)], cA K k0 6 kd, cA K k1 6 nb, cA K k2 6 rm, cA K k3 6 st, cA K k4 24 rw, cA K k5 6 nx, cO g0 0 [.ref ga, .int (iI ran), .int (iI bm), .int (iI bk), .int (iI bv)], cA K ga 20 tf] (fun v9 w9 => ∃ (tf2 : Int → Int), ∃ (ran2 : Int), ∃ (bm2 : Int), ∃ (bk2 : Int), ∃ (bv2 : Int), v9 = some (.int (iI (an_act s p w x))) ∧ w9 = [cO xx 9 [.ref nA, .ref nZ, wx_taken, .ref hh, .ref q0, .ref t0, .ref g0], cO nA 8 [.ref h0, .ref po, .ref sr, .ref pr, .ref br, .int (iI ho)], cO h0 5 [.ref k0, .ref k1, .ref k2, .ref k3, .ref k4, .ref k5, .int (iI aw), .int (iI cn), .int (iI sp)], cA K k0 6 kd, cA K k1 6 nb, cA K k2 6 rm, cA K k3 6 st, cA K k4 24 rw, cA K k5 6 nx, cO g0 0 [.ref ga, .int (iI ran2), .int (iI bm2), .int (iI bk2), .int (iI bv2)], cA K ga 20 tf2] ∧ ((tf2, ran2) = ac_p (ar_act s p w) (tf, 0)) ∧ (0 ≤ ran2 ∧ ran2 ≤ 8)) := by
  refine g_enter (by decide +kernel) (Nat.le_of_ble_eq_true rfl) (fun G hC hR => ?_)
  refine g_lv hC [0, 1, 2, 3] [(0, _), (1, _), (2, _), (3, _)] rfl ?_
  have h19 := hg.2.2.1
  have hg0 := hg.2.2.2
  have hcs := hR9.1
  refine g_aload_n (pc := 0) hC 0 dX9_act_0 rfl rfl ?_
  refine g_get (pc := 1) hC 0 fl_X9_46 dX9_act_1 rfl rfl ?_
  refine g_iconst (pc := 4) hC dX9_act_4 ?_
  refine g_putI (pc := 5) hC 9 [_, _, _, _, _, _, _, _, _, cO _ _ [_, _, _, _, _], _] fl_X9_244 dX9_act_5 rfl (Nat.le_of_ble_eq_true rfl) rfl ?_
  refine g_aload_n (pc := 8) hC 0 dX9_act_8 rfl rfl ?_
  refine g_get (pc := 9) hC 0 fl_X9_12 dX9_act_9 rfl rfl ?_
  refine g_get (pc := 12) hC 1 fl_X9_85 dX9_act_12 rfl rfl ?_
  refine g_iload_n (pc := 15) hC 1 dX9_act_15 rfl rfl ?_
  refine g_fnV (pc := 16) (qr := 2) hC [2] (k_X5_has _ _ _ _ _ _ _ _ _ _ _ (by first | exact r_p | assumption | omega) (by first | exact r_cn | assumption | omega)) cl_X5_has wm_X9_94 dX9_act_16 rfl rfl rfl rfl rfl (by decide) (by decide) ⟨by omega, by omega⟩ (Nat.le_of_ble_eq_true rfl) rfl rfl ?_
  refine g_name hC (fun x16 e_x16 => ?_)
  have q_x16 := has_iff e_x16 (by omega)
  refine g_if_eq (pc := 19) hC 31 dX9_act_19 (by decide) (by first | exact r_x16 | assumption | omega) (fun c19 => ?_) (fun c19 => ?_)
  · refine g_iconst (pc := 31) hC dX9_act_31 ?_
    exact g_iret (pc := 32) hR dX9_act_32 rfl ⟨by omega, by omega⟩ (Nat.le_of_ble_eq_true rfl) ⟨tf, 0, bm, bk, bv, ret_eq (by unfold an_act; rw [if_neg (by omega)]), rfl, (by unfold ar_act; rw [if_neg (by omega)]; rfl), (by first | assumption | omega)⟩
  · refine g_iload_n (pc := 22) hC 2 dX9_act_22 rfl rfl ?_
    refine g_if_lt (pc := 23) hC 31 dX9_act_23 (by decide) (by first | exact r_w | assumption | omega) (fun c23 => ?_) (fun c23 => ?_)
    · refine g_iconst (pc := 31) hC dX9_act_31 ?_
      exact g_iret (pc := 32) hR dX9_act_32 rfl ⟨by omega, by omega⟩ (Nat.le_of_ble_eq_true rfl) ⟨tf, 0, bm, bk, bv, ret_eq (by unfold an_act; rw [if_neg (by omega)]), rfl, (by unfold ar_act; rw [if_neg (by omega)]; rfl), (by first | assumption | omega)⟩
    · refine g_iload_n (pc := 26) hC 2 dX9_act_26 rfl rfl ?_
      refine g_iconst (pc := 27) hC dX9_act_27 ?_
      refine g_icmp_lt (pc := 28) hC 33 dX9_act_28 (by decide) (by first | exact r_w | assumption | omega) (by first | assumption | decide | omega) (fun c28 => ?_) (fun c28 => ?_)
      · have hp : 0 ≤ p ∧ p < s 19 := by omega
        have hp1 := hR9.2.1 p hp.1 hp.2
        have hgp := hg.1 p hp.1 (by omega)
        refine g_aload_n (pc := 33) hC 0 dX9_act_33 rfl rfl ?_
        refine g_get (pc := 34) hC 0 fl_X9_46 dX9_act_34 rfl rfl ?_
        refine g_iload_n (pc := 37) hC 1 dX9_act_37 rfl rfl ?_
        refine g_putI (pc := 38) hC 9 [_, _, _, _, _, _, _, _, _, cO _ _ [_, _, _, _, _], _] fl_X9_247 dX9_act_38 rfl (Nat.le_of_ble_eq_true rfl) rfl ?_
        refine g_aload_n (pc := 41) hC 0 dX9_act_41 rfl rfl ?_
        refine g_get (pc := 42) hC 0 fl_X9_46 dX9_act_42 rfl rfl ?_
        refine g_aload_n (pc := 45) hC 0 dX9_act_45 rfl rfl ?_
        refine g_get (pc := 46) hC 0 fl_X9_12 dX9_act_46 rfl rfl ?_
        refine g_get (pc := 49) hC 1 fl_X9_85 dX9_act_49 rfl rfl ?_
        refine g_get (pc := 52) hC 2 fl_X9_97 dX9_act_52 rfl rfl ?_
        refine g_iload_n (pc := 55) hC 1 dX9_act_55 rfl rfl ?_
        refine g_iald (pc := 56) hC 3 dX9_act_56 rfl (by omega) ?_
        refine g_putI (pc := 57) hC 9 [_, _, _, _, _, _, _, _, _, cO _ _ [_, _, _, _, _], _] fl_X9_250 dX9_act_57 rfl (Nat.le_of_ble_eq_true rfl) rfl ?_
        refine g_aload_n (pc := 60) hC 0 dX9_act_60 rfl rfl ?_
        refine g_get (pc := 61) hC 0 fl_X9_46 dX9_act_61 rfl rfl ?_
        refine g_aload_n (pc := 64) hC 0 dX9_act_64 rfl rfl ?_
        refine g_get (pc := 65) hC 0 fl_X9_12 dX9_act_65 rfl rfl ?_
        refine g_get (pc := 68) hC 1 fl_X9_85 dX9_act_68 rfl rfl ?_
        refine g_get (pc := 71) hC 2 fl_X9_101 dX9_act_71 rfl rfl ?_
        refine g_iload_n (pc := 74) hC 1 dX9_act_74 rfl rfl ?_
        refine g_iald (pc := 75) hC 4 dX9_act_75 rfl (by omega) ?_
        refine g_putI (pc := 76) hC 9 [_, _, _, _, _, _, _, _, _, cO _ _ [_, _, _, _, _], _] fl_X9_252 dX9_act_76 rfl (Nat.le_of_ble_eq_true rfl) rfl ?_
        refine g_aload_n (pc := 79) hC 0 dX9_act_79 rfl rfl ?_
        refine g_get (pc := 80) hC 0 fl_X9_46 dX9_act_80 rfl rfl ?_
        refine g_iload_n (pc := 83) hC 2 dX9_act_83 rfl rfl ?_
        refine g_iload_n (pc := 84) hC 3 dX9_act_84 rfl rfl ?_
        refine g_callV (pc := 85) (qr := 9) hC [9, 10] (k_X0_begin _ _ _ _ _ _ _ _ _ (by omega) (by omega) (by omega)) cl_X0_begin wm_X9_254 dX9_act_85 rfl rfl rfl rfl rfl (by decide) (by decide) (by omega) (Nat.le_of_ble_eq_true rfl) rfl (fun v9 w9 hq9 => ?_)
        obtain ⟨tf5, ran5, rfl, rfl, hp_85, hn_85⟩ := hq9
        refine g_ws hC [cO xx 9 [.ref nA, .ref nZ, wx_taken, .ref hh, .ref q0, .ref t0, .ref g0], cO nA 8 [.ref h0, .ref po, .ref sr, .ref pr, .ref br, .int (iI ho)], cO h0 5 [.ref k0, .ref k1, .ref k2, .ref k3, .ref k4, .ref k5, .int (iI aw), .int (iI cn), .int (iI sp)], cA K k0 6 kd, cA K k1 6 nb, cA K k2 6 rm, cA K k3 6 st, cA K k4 24 rw, cA K k5 6 nx, cO g0 0 [.ref ga, .int (iI ran5), .int (iI p), .int (iI (kd p)), .int (iI (nb p))], cA K ga 20 tf5] rfl ?_
        refine g_st hC [.int (iI (if w = 0 then ac_b (kd p) p x else if w = 1 then ac_s (kd p) p (nb p) x else ac_w (kd p) p (nb p) x))] rfl ?_
        refine g_name hC (fun ra e_ra => ?_)
        exact g_iret (pc := 88) hR dX9_act_88 rfl ⟨by omega, by omega⟩ (Nat.le_of_ble_eq_true rfl) ⟨tf5, ran5, p, (kd p), (nb p), ret_eq (by unfold an_act; rw [if_pos (by omega), e_ra, hp1.1, hp1.2.1]), rfl, (by unfold ar_act; rw [if_pos (by omega), ← hp1.1]; exact hp_85), (by first | assumption | omega)⟩
      · refine g_iconst (pc := 31) hC dX9_act_31 ?_
        exact g_iret (pc := 32) hR dX9_act_32 rfl ⟨by omega, by omega⟩ (Nat.le_of_ble_eq_true rfl) ⟨tf, 0, bm, bk, bv, ret_eq (by unfold an_act; rw [if_neg (by omega)]), rfl, (by unfold ar_act; rw [if_neg (by omega)]; rfl), (by first | assumption | omega)⟩
set_option maxHeartbeats 4000000 in
set_option maxRecDepth 100000 in
theorem k_X9_see {K : gK} (xx : Nat) (nA : Nat) (nZ : Nat) (hh : Nat) (q0 : Nat) (t0 : Nat) (g0 : Nat) (h0 : Nat) (po : Nat) (sr : Nat) (pr : Nat) (br : Nat) (k0 : Nat) (k1 : Nat) (k2 : Nat) (k3 : Nat) (k4 : Nat) (k5 : Nat) (sr1 : Nat) (sr2 : Nat) (sr3 : Nat) (wx_taken : Value) (p : Int) (n : Int) (x : Int) (ho : Int) (aw : Int) (cn : Int) (sp : Int) (pn : Int) (kd : Int → Int) (nb : Int → Int) (rm : Int → Int) (st : Int → Int) (rw : Int → Int) (nx : Int → Int) (pl1 : Int → Int) (pl2 : Int → Int) (pl3 : Int → Int) (s : Int → Int) (r_p : rI p) (r_n : rI n) (r_x : rI x) (r_ho : rI ho) (r_aw : rI aw) (r_cn : rI cn) (r_sp : rI sp) (r_pn : rI pn) (r_kd : ∀ j, rI (kd j)) (r_nb : ∀ j, rI (nb j)) (r_rm : ∀ j, rI (rm j)) (r_st : ∀ j, rI (st j)) (r_rw : ∀ j, rI (rw j)) (r_nx : ∀ j, rI (nx j)) (r_pl1 : ∀ j, rI (pl1 j)) (r_pl2 : ∀ j, rI (pl2 j)) (r_pl3 : ∀ j, rI (pl3 j)) (hg : md_rg s) (hR9 : cs_R s kd nb rm st rw nx aw cn sp) (hs : md_rs s) (hsn : pn = s 21 ∧ ∀ k, 0 ≤ k → k < s 21 → pl1 k = s (62 + k) ∧ pl2 k = s (68 + k) ∧ pl3 k = s (74 + k)) : gMet K yX9_see cX9_see 4 (some .int) 1 0 0 [.ref xx, .int (iI p), .int (iI n), .int (iI x)] [cO xx 9 [.ref nA, .ref nZ, wx_taken, .ref hh, .ref q0, .ref t0, .ref g0], cO nA 8 [.ref h0, .ref po, .ref sr, .ref pr, .ref br, .int (iI ho)], cO h0 5 [.ref k0, .ref k1, .ref k2, .ref k3, .ref k4, .ref k5, .int (iI aw), .int (iI cn), .int (iI sp)], cA K k0 6 kd, cA K k1 6 nb, cA K k2 6 rm, cA K k3 6 st, cA K k4 24 rw, cA K k5 6 nx, cO sr 4 [.ref sr1, .ref sr2, .ref sr3, .int (iI pn)], cA K sr1 8 pl1, cA K sr2 8 pl2, cA K sr3 8 pl3] (fun v9 w9 => ∃ (u1 : Int → Int), ∃ (u2 : Int → Int), ∃ (u3 : Int → Int), ∃ (un : Int), v9 = some (.int (iI (an_see s p n x))) ∧ w9 = [cO xx 9 [.ref nA, .ref nZ, wx_taken, .ref hh, .ref q0, .ref t0, .ref g0], cO nA 8 [.ref h0, .ref po, .ref sr, .ref pr, .ref br, .int (iI ho)], cO h0 5 [.ref k0, .ref k1, .ref k2, .ref k3, .ref k4, .ref k5, .int (iI aw), .int (iI cn), .int (iI sp)], cA K k0 6 kd, cA K k1 6 nb, cA K k2 6 rm, cA K k3 6 st, cA K k4 24 rw, cA K k5 6 nx, cO sr 4 [.ref sr1, .ref sr2, .ref sr3, .int (iI un)], cA K sr1 8 u1, cA K sr2 8 u2, cA K sr3 8 u3] ∧ (∀ j, rI (u1 j)) ∧ (∀ j, rI (u2 j)) ∧ (∀ j, rI (u3 j)) ∧ rI un ∧ (un = ne_see s p n x 21 ∧ ∀ k, 0 ≤ k → k < ne_see s p n x 21 → u1 k = ne_see s p n x (62 + k) ∧ u2 k = ne_see s p n x (68 + k) ∧ u3 k = ne_see s p n x (74 + k))) := by
  refine g_enter (by decide +kernel) (Nat.le_of_ble_eq_true rfl) (fun G hC hR => ?_)
  refine g_lv hC [0, 1, 2, 3] [(0, _), (1, _), (2, _), (3, _)] rfl ?_
  have h19 := hg.2.2.1
  have hg0 := hg.2.2.2
  have hcs := hR9.1
  have hs1 := hs.1
  have hsn0 := hsn.1
  refine g_iload_n (pc := 0) hC 1 dX9_see_0 rfl rfl ?_
  refine g_iconst (pc := 1) hC dX9_see_1 ?_
  refine g_icmp_ne (pc := 2) hC 18 dX9_see_2 (by decide) (by first | exact r_p | assumption | omega) (by first | assumption | decide | omega) (fun c2 => ?_) (fun c2 => ?_)
  · refine g_aload_n (pc := 18) hC 0 dX9_see_18 rfl rfl ?_
    refine g_get (pc := 19) hC 0 fl_X9_12 dX9_see_19 rfl rfl ?_
    refine g_get (pc := 22) hC 1 fl_X9_85 dX9_see_22 rfl rfl ?_
    refine g_iload_n (pc := 25) hC 1 dX9_see_25 rfl rfl ?_
    refine g_fnV (pc := 26) (qr := 2) hC [2] (k_X5_has _ _ _ _ _ _ _ _ _ _ _ (by first | exact r_p | assumption | omega) (by first | exact r_cn | assumption | omega)) cl_X5_has wm_X9_94 dX9_see_26 rfl rfl rfl rfl rfl (by decide) (by decide) ⟨by omega, by omega⟩ (Nat.le_of_ble_eq_true rfl) rfl rfl ?_
    refine g_name hC (fun x26 e_x26 => ?_)
    have q_x26 := has_iff e_x26 (by omega)
    refine g_if_eq (pc := 29) hC 39 dX9_see_29 (by decide) (by first | exact r_x26 | assumption | omega) (fun c29 => ?_) (fun c29 => ?_)
    · refine g_iconst (pc := 39) hC dX9_see_39 ?_
      exact g_iret (pc := 40) hR dX9_see_40 rfl ⟨by omega, by omega⟩ (Nat.le_of_ble_eq_true rfl) ⟨pl1, pl2, pl3, pn, ret_eq (by unfold an_see; rw [if_neg (by omega), if_neg (by omega)]), rfl, (by first | assumption | omega), (by first | assumption | omega), (by first | assumption | omega), (by first | exact r_pn | assumption | omega), (by unfold ne_see; rw [if_neg (by omega), if_neg (by omega)]; exact hsn)⟩
    · refine g_iload_n (pc := 32) hC 3 dX9_see_32 rfl rfl ?_
      refine g_fnS (pc := 33) hC [] (k_X9_isDigit _ (by first | exact r_x | assumption | omega)) cl_X9_isDigit wm_X9_82 dX9_see_33 rfl rfl (by decide) (by decide) ⟨by omega, by omega⟩ (Nat.le_of_ble_eq_true rfl) rfl rfl ?_
      refine g_name hC (fun x33 e_x33 => ?_)
      have q_x33 := dig_iff e_x33
      refine g_if_ne (pc := 36) hC 41 dX9_see_36 (by decide) (by first | exact r_x33 | assumption | omega) (fun c36 => ?_) (fun c36 => ?_)
      · refine g_iload_n (pc := 41) hC 2 dX9_see_41 rfl rfl ?_
        refine g_if_lt (pc := 42) hC 51 dX9_see_42 (by decide) (by first | exact r_n | assumption | omega) (fun c42 => ?_) (fun c42 => ?_)
        · refine g_bipush (pc := 51) hC (-2) dX9_see_51 (by decide) ?_
          exact g_iret (pc := 53) hR dX9_see_53 rfl ⟨by omega, by omega⟩ (Nat.le_of_ble_eq_true rfl) ⟨pl1, pl2, pl3, pn, ret_eq (by unfold an_see; rw [if_neg (by omega), if_pos (by omega), if_neg (by omega)]), rfl, (by first | assumption | omega), (by first | assumption | omega), (by first | assumption | omega), (by first | exact r_pn | assumption | omega), (by unfold ne_see; rw [if_neg (by omega), if_neg (by omega)]; exact hsn)⟩
        · refine g_iload_n (pc := 45) hC 2 dX9_see_45 rfl rfl ?_
          refine g_bipush (pc := 46) hC (20) dX9_see_46 (by decide) ?_
          refine g_icmp_le (pc := 48) hC 54 dX9_see_48 (by decide) (by first | exact r_n | assumption | omega) (by first | assumption | decide | omega) (fun c48 => ?_) (fun c48 => ?_)
          · refine g_aload_n (pc := 54) hC 0 dX9_see_54 rfl rfl ?_
            refine g_get (pc := 55) hC 0 fl_X9_12 dX9_see_55 rfl rfl ?_
            refine g_get (pc := 58) hC 1 fl_X9_187 dX9_see_58 rfl rfl ?_
            refine g_bipush (pc := 61) hC (6) dX9_see_61 (by decide) ?_
            refine g_iload_n (pc := 63) hC 1 dX9_see_63 rfl rfl ?_
            refine g_iload_n (pc := 64) hC 2 dX9_see_64 rfl rfl ?_
            refine g_iload_n (pc := 65) hC 3 dX9_see_65 rfl rfl ?_
            refine g_callV (pc := 66) (qr := 9) hC [9, 10, 11, 12] (k_X4_add _ _ _ _ _ _ _ _ _ _ _ _ (by decide) (by first | exact r_p | assumption | omega) (by first | exact r_n | assumption | omega) (by first | exact r_x | assumption | omega) (by first | exact r_pn | assumption | omega) (by first | exact r_pl1 | assumption | omega) (by first | exact r_pl2 | assumption | omega) (by first | exact r_pl3 | assumption | omega) (by first | assumption | omega)) cl_X4_add wm_X9_194 dX9_see_66 rfl rfl rfl rfl rfl (by decide) (by decide) (by omega) (Nat.le_of_ble_eq_true rfl) rfl (fun v9 w9 hq9 => ?_)
            obtain ⟨v1, v2, v3, vn, rfl, rfl, r_v1, r_v2, r_v3, r_vn, had_66⟩ := hq9
            refine g_ws hC [cO xx 9 [.ref nA, .ref nZ, wx_taken, .ref hh, .ref q0, .ref t0, .ref g0], cO nA 8 [.ref h0, .ref po, .ref sr, .ref pr, .ref br, .int (iI ho)], cO h0 5 [.ref k0, .ref k1, .ref k2, .ref k3, .ref k4, .ref k5, .int (iI aw), .int (iI cn), .int (iI sp)], cA K k0 6 kd, cA K k1 6 nb, cA K k2 6 rm, cA K k3 6 st, cA K k4 24 rw, cA K k5 6 nx, cO sr 4 [.ref sr1, .ref sr2, .ref sr3, .int (iI vn)], cA K sr1 8 v1, cA K sr2 8 v2, cA K sr3 8 v3] rfl ?_
            refine g_st hC [.int (iI (if pn = 6 then -4 else pn + 1))] rfl ?_
            refine g_name hC (fun ra e_ra => ?_)
            exact g_iret (pc := 69) hR dX9_see_69 rfl ⟨by omega, by omega⟩ (Nat.le_of_ble_eq_true rfl) ⟨v1, v2, v3, vn, ret_eq (by unfold an_see; rw [if_neg (by omega), if_pos (by omega), if_pos (by omega), e_ra, ← hsn0]), rfl, (by first | assumption | omega), (by first | assumption | omega), (by first | assumption | omega), (by first | exact r_vn | assumption | omega), (see_end (by omega) hsn had_66 (by omega))⟩
          · refine g_bipush (pc := 51) hC (-2) dX9_see_51 (by decide) ?_
            exact g_iret (pc := 53) hR dX9_see_53 rfl ⟨by omega, by omega⟩ (Nat.le_of_ble_eq_true rfl) ⟨pl1, pl2, pl3, pn, ret_eq (by unfold an_see; rw [if_neg (by omega), if_pos (by omega), if_neg (by omega)]), rfl, (by first | assumption | omega), (by first | assumption | omega), (by first | assumption | omega), (by first | exact r_pn | assumption | omega), (by unfold ne_see; rw [if_neg (by omega), if_neg (by omega)]; exact hsn)⟩
      · refine g_iconst (pc := 39) hC dX9_see_39 ?_
        exact g_iret (pc := 40) hR dX9_see_40 rfl ⟨by omega, by omega⟩ (Nat.le_of_ble_eq_true rfl) ⟨pl1, pl2, pl3, pn, ret_eq (by unfold an_see; rw [if_neg (by omega), if_neg (by omega)]), rfl, (by first | assumption | omega), (by first | assumption | omega), (by first | assumption | omega), (by first | exact r_pn | assumption | omega), (by unfold ne_see; rw [if_neg (by omega), if_neg (by omega)]; exact hsn)⟩
  · refine g_aload_n (pc := 5) hC 0 dX9_see_5 rfl rfl ?_
    refine g_get (pc := 6) hC 0 fl_X9_12 dX9_see_6 rfl rfl ?_
    refine g_get (pc := 9) hC 1 fl_X9_187 dX9_see_9 rfl rfl ?_
    refine g_iconst (pc := 12) hC dX9_see_12 ?_
    refine g_putI (pc := 13) hC 9 [_, _, _, _, _, _, _, _, _, cO _ _ [_, _, _, _], _, _, _] fl_X9_191 dX9_see_13 rfl (Nat.le_of_ble_eq_true rfl) rfl ?_
    refine g_iconst (pc := 16) hC dX9_see_16 ?_
    exact g_iret (pc := 17) hR dX9_see_17 rfl ⟨by omega, by omega⟩ (Nat.le_of_ble_eq_true rfl) ⟨pl1, pl2, pl3, 0, ret_eq (by unfold an_see; rw [if_pos (by omega)]), rfl, (by first | assumption | omega), (by first | assumption | omega), (by first | assumption | omega), (by decide), (by unfold ne_see; rw [if_pos (by omega)]; exact no_rows)⟩
set_option maxHeartbeats 4000000 in
set_option maxRecDepth 100000 in
theorem k_X9_plan {K : gK} (xx : Nat) (nA : Nat) (nZ : Nat) (hh : Nat) (q0 : Nat) (t0 : Nat) (g0 : Nat) (h0 : Nat) (po : Nat) (sr : Nat) (pr : Nat) (br : Nat) (k0 : Nat) (k1 : Nat) (k2 : Nat) (k3 : Nat) (k4 : Nat) (k5 : Nat) (pr1 : Nat) (pr2 : Nat) (pr3 : Nat) (wx_taken : Value) (w : Int) (n : Int) (ho : Int) (aw : Int) (cn : Int) (sp : Int) (pn : Int) (kd : Int → Int) (nb : Int → Int) (rm : Int → Int) (st : Int → Int) (rw : Int → Int) (nx : Int → Int) (pl1 : Int → Int) (pl2 : Int → Int) (pl3 : Int → Int) (s : Int → Int) (r_w : rI w) (r_n : rI n) (r_ho : rI ho) (r_aw : rI aw) (r_cn : rI cn) (r_sp : rI sp) (r_pn : rI pn) (r_kd : ∀ j, rI (kd j)) (r_nb : ∀ j, rI (nb j)) (r_rm : ∀ j, rI (rm j)) (r_st : ∀ j, rI (st j)) (r_rw : ∀ j, rI (rw j)) (r_nx : ∀ j, rI (nx j)) (r_pl1 : ∀ j, rI (pl1 j)) (r_pl2 : ∀ j, rI (pl2 j)) (r_pl3 : ∀ j, rI (pl3 j)) (hg : md_rg s) (hR9 : cs_R s kd nb rm st rw nx aw cn sp) (hs : md_rs s) (hpl : pn = s 22 ∧ ∀ k, 0 ≤ k → k < s 22 → pl1 k = s (80 + k) ∧ pl2 k = s (88 + k)) : gMet K yX9_plan cX9_plan 3 (some .int) 2 0 0 [.ref xx, .int (iI w), .int (iI n)] [cO xx 9 [.ref nA, .ref nZ, wx_taken, .ref hh, .ref q0, .ref t0, .ref g0], cO nA 8 [.ref h0, .ref po, .ref sr, .ref pr, .ref br, .int (iI ho)], cO h0 5 [.ref k0, .ref k1, .ref k2, .ref k3, .ref k4, .ref k5, .int (iI aw), .int (iI cn), .int (iI sp)], cA K k0 6 kd, cA K k1 6 nb, cA K k2 6 rm, cA K k3 6 st, cA K k4 24 rw, cA K k5 6 nx, cO pr 4 [.ref pr1, .ref pr2, .ref pr3, .int (iI pn)], cA K pr1 8 pl1, cA K pr2 8 pl2, cA K pr3 8 pl3] (fun v9 w9 => ∃ (u1 : Int → Int), ∃ (u2 : Int → Int), ∃ (u3 : Int → Int), ∃ (un : Int), v9 = some (.int (iI (an_plan s w n))) ∧ w9 = [cO xx 9 [.ref nA, .ref nZ, wx_taken, .ref hh, .ref q0, .ref t0, .ref g0], cO nA 8 [.ref h0, .ref po, .ref sr, .ref pr, .ref br, .int (iI ho)], cO h0 5 [.ref k0, .ref k1, .ref k2, .ref k3, .ref k4, .ref k5, .int (iI aw), .int (iI cn), .int (iI sp)], cA K k0 6 kd, cA K k1 6 nb, cA K k2 6 rm, cA K k3 6 st, cA K k4 24 rw, cA K k5 6 nx, cO pr 4 [.ref pr1, .ref pr2, .ref pr3, .int (iI un)], cA K pr1 8 u1, cA K pr2 8 u2, cA K pr3 8 u3] ∧ (∀ j, rI (u1 j)) ∧ (∀ j, rI (u2 j)) ∧ (∀ j, rI (u3 j)) ∧ rI un ∧ (un = ne_plan s w n 22 ∧ ∀ k, 0 ≤ k → k < ne_plan s w n 22 → u1 k = ne_plan s w n (80 + k) ∧ u2 k = ne_plan s w n (88 + k))) := by
  refine g_enter (by decide +kernel) (Nat.le_of_ble_eq_true rfl) (fun G hC hR => ?_)
  refine g_lv hC [0, 1, 2] [(0, _), (1, _), (2, _)] rfl ?_
  have h19 := hg.2.2.1
  have hg0 := hg.2.2.2
  have hcs := hR9.1
  have hs1 := hs.2.1
  have hpl0 := hpl.1
  refine g_iload_n (pc := 0) hC 1 dX9_plan_0 rfl rfl ?_
  refine g_iconst (pc := 1) hC dX9_plan_1 ?_
  refine g_icmp_ne (pc := 2) hC 18 dX9_plan_2 (by decide) (by first | exact r_w | assumption | omega) (by first | assumption | decide | omega) (fun c2 => ?_) (fun c2 => ?_)
  · refine g_aload_n (pc := 18) hC 0 dX9_plan_18 rfl rfl ?_
    refine g_iload_n (pc := 19) hC 1 dX9_plan_19 rfl rfl ?_
    refine g_iload_n (pc := 20) hC 2 dX9_plan_20 rfl rfl ?_
    refine g_fnV (pc := 21) (qr := 0) hC [0, 1, 2] (k_X9_isPlanned _ _ _ _ _ _ _ _ _ _ _ _ _ _ _ _ _ _ _ _ _ _ _ _ _ s (by first | exact r_w | assumption | omega) (by first | exact r_n | assumption | omega) (by first | exact r_cn | assumption | omega) (by first | assumption | omega)) cl_X9_isPlanned wm_X9_227 dX9_plan_21 rfl rfl rfl rfl rfl (by decide) (by decide) ⟨by omega, by omega⟩ (Nat.le_of_ble_eq_true rfl) rfl rfl ?_
    refine g_name hC (fun x21 e_x21 => ?_)
    have q_x21 : x21 = 0 ∨ x21 = 1 := by rw [e_x21]; unfold an_isPlan; split <;> omega
    refine g_if_ne (pc := 24) hC 29 dX9_plan_24 (by decide) (by first | exact r_x21 | assumption | omega) (fun c24 => ?_) (fun c24 => ?_)
    · refine g_aload_n (pc := 29) hC 0 dX9_plan_29 rfl rfl ?_
      refine g_get (pc := 30) hC 0 fl_X9_12 dX9_plan_30 rfl rfl ?_
      refine g_get (pc := 33) hC 1 fl_X9_224 dX9_plan_33 rfl rfl ?_
      refine g_bipush (pc := 36) hC (8) dX9_plan_36 (by decide) ?_
      refine g_iload_n (pc := 38) hC 1 dX9_plan_38 rfl rfl ?_
      refine g_iload_n (pc := 39) hC 2 dX9_plan_39 rfl rfl ?_
      refine g_iconst (pc := 40) hC dX9_plan_40 ?_
      refine g_callV (pc := 41) (qr := 9) hC [9, 10, 11, 12] (k_X4_add _ _ _ _ _ _ _ _ _ _ _ _ (by decide) (by first | exact r_w | assumption | omega) (by first | exact r_n | assumption | omega) (by decide) (by first | exact r_pn | assumption | omega) (by first | exact r_pl1 | assumption | omega) (by first | exact r_pl2 | assumption | omega) (by first | exact r_pl3 | assumption | omega) (by first | assumption | omega)) cl_X4_add wm_X9_194 dX9_plan_41 rfl rfl rfl rfl rfl (by decide) (by decide) (by omega) (Nat.le_of_ble_eq_true rfl) rfl (fun v9 w9 hq9 => ?_)
      obtain ⟨v1, v2, v3, vn, rfl, rfl, r_v1, r_v2, r_v3, r_vn, had_41⟩ := hq9
      refine g_ws hC [cO xx 9 [.ref nA, .ref nZ, wx_taken, .ref hh, .ref q0, .ref t0, .ref g0], cO nA 8 [.ref h0, .ref po, .ref sr, .ref pr, .ref br, .int (iI ho)], cO h0 5 [.ref k0, .ref k1, .ref k2, .ref k3, .ref k4, .ref k5, .int (iI aw), .int (iI cn), .int (iI sp)], cA K k0 6 kd, cA K k1 6 nb, cA K k2 6 rm, cA K k3 6 st, cA K k4 24 rw, cA K k5 6 nx, cO pr 4 [.ref pr1, .ref pr2, .ref pr3, .int (iI vn)], cA K pr1 8 v1, cA K pr2 8 v2, cA K pr3 8 v3] rfl ?_
      refine g_st hC [.int (iI (if pn = 8 then -4 else pn + 1))] rfl ?_
      refine g_name hC (fun ra e_ra => ?_)
      exact g_iret (pc := 44) hR dX9_plan_44 rfl ⟨by omega, by omega⟩ (Nat.le_of_ble_eq_true rfl) ⟨v1, v2, v3, vn, ret_eq (by unfold an_plan; rw [if_neg (by omega), if_pos (by omega), e_ra, ← hpl0]), rfl, (by first | assumption | omega), (by first | assumption | omega), (by first | assumption | omega), (by first | exact r_vn | assumption | omega), (plan_end (by omega) hpl had_41 (by omega))⟩
    · refine g_iconst (pc := 27) hC dX9_plan_27 ?_
      exact g_iret (pc := 28) hR dX9_plan_28 rfl ⟨by omega, by omega⟩ (Nat.le_of_ble_eq_true rfl) ⟨pl1, pl2, pl3, pn, ret_eq (by unfold an_plan; rw [if_neg (by omega), if_neg (by omega)]), rfl, (by first | assumption | omega), (by first | assumption | omega), (by first | assumption | omega), (by first | exact r_pn | assumption | omega), (by unfold ne_plan; rw [if_neg (by omega), if_neg (by omega)]; exact hpl)⟩
  · refine g_aload_n (pc := 5) hC 0 dX9_plan_5 rfl rfl ?_
    refine g_get (pc := 6) hC 0 fl_X9_12 dX9_plan_6 rfl rfl ?_
    refine g_get (pc := 9) hC 1 fl_X9_224 dX9_plan_9 rfl rfl ?_
    refine g_iconst (pc := 12) hC dX9_plan_12 ?_
    refine g_putI (pc := 13) hC 9 [_, _, _, _, _, _, _, _, _, cO _ _ [_, _, _, _], _, _, _] fl_X9_191 dX9_plan_13 rfl (Nat.le_of_ble_eq_true rfl) rfl ?_
    refine g_iconst (pc := 16) hC dX9_plan_16 ?_
    exact g_iret (pc := 17) hR dX9_plan_17 rfl ⟨by omega, by omega⟩ (Nat.le_of_ble_eq_true rfl) ⟨pl1, pl2, pl3, 0, ret_eq (by unfold an_plan; rw [if_pos (by omega)]), rfl, (by first | assumption | omega), (by first | assumption | omega), (by first | assumption | omega), (by decide), (by unfold ne_plan; rw [if_pos (by omega)]; exact no_rows2)⟩
set_option maxHeartbeats 4000000 in
set_option maxRecDepth 100000 in
theorem k_X9_book {K : gK} (xx : Nat) (nA : Nat) (nZ : Nat) (hh : Nat) (q0 : Nat) (t0 : Nat) (g0 : Nat) (h0 : Nat) (po : Nat) (sr : Nat) (pr : Nat) (br : Nat) (k0 : Nat) (k1 : Nat) (k2 : Nat) (k3 : Nat) (k4 : Nat) (k5 : Nat) (br1 : Nat) (br2 : Nat) (br3 : Nat) (wx_taken : Value) (p : Int) (x : Int) (ho : Int) (aw : Int) (cn : Int) (sp : Int) (pn : Int) (kd : Int → Int) (nb : Int → Int) (rm : Int → Int) (st : Int → Int) (rw : Int → Int) (nx : Int → Int) (pl1 : Int → Int) (pl2 : Int → Int) (pl3 : Int → Int) (s : Int → Int) (r_p : rI p) (r_x : rI x) (r_ho : rI ho) (r_aw : rI aw) (r_cn : rI cn) (r_sp : rI sp) (r_pn : rI pn) (r_kd : ∀ j, rI (kd j)) (r_nb : ∀ j, rI (nb j)) (r_rm : ∀ j, rI (rm j)) (r_st : ∀ j, rI (st j)) (r_rw : ∀ j, rI (rw j)) (r_nx : ∀ j, rI (nx j)) (r_pl1 : ∀ j, rI (pl1 j)) (r_pl2 : ∀ j, rI (pl2 j)) (r_pl3 : ∀ j, rI (pl3 j)) (hg : md_rg s) (hR9 : cs_R s kd nb rm st rw nx aw cn sp) (hs : md_rs s) (hbk : pn = s 23 ∧ ∀ k, 0 ≤ k → k < s 23 → pl1 k = s (96 + k) ∧ pl2 k = s (104 + k)) : gMet K yX9_book cX9_book 3 (some .int) 1 0 0 [.ref xx, .int (iI p), .int (iI x)] [cO xx 9 [.ref nA, .ref nZ, wx_taken, .ref hh, .ref q0, .ref t0, .ref g0], cO nA 8 [.ref h0, .ref po, .ref sr, .ref pr, .ref br, .int (iI ho)], cO h0 5 [.ref k0, .ref k1, .ref k2, .ref k3, .ref k4, .ref k5, .int (iI aw), .int (iI cn), .int (iI sp)], cA K k0 6 kd, cA K k1 6 nb, cA K k2 6 rm, cA K k3 6 st, cA K k4 24 rw, cA K k5 6 nx, cO br 4 [.ref br1, .ref br2, .ref br3, .int (iI pn)], cA K br1 8 pl1, cA K br2 8 pl2, cA K br3 8 pl3] (fun v9 w9 => ∃ (u1 : Int → Int), ∃ (u2 : Int → Int), ∃ (u3 : Int → Int), ∃ (un : Int), v9 = some (.int (iI (an_book s p x))) ∧ w9 = [cO xx 9 [.ref nA, .ref nZ, wx_taken, .ref hh, .ref q0, .ref t0, .ref g0], cO nA 8 [.ref h0, .ref po, .ref sr, .ref pr, .ref br, .int (iI ho)], cO h0 5 [.ref k0, .ref k1, .ref k2, .ref k3, .ref k4, .ref k5, .int (iI aw), .int (iI cn), .int (iI sp)], cA K k0 6 kd, cA K k1 6 nb, cA K k2 6 rm, cA K k3 6 st, cA K k4 24 rw, cA K k5 6 nx, cO br 4 [.ref br1, .ref br2, .ref br3, .int (iI un)], cA K br1 8 u1, cA K br2 8 u2, cA K br3 8 u3] ∧ (∀ j, rI (u1 j)) ∧ (∀ j, rI (u2 j)) ∧ (∀ j, rI (u3 j)) ∧ rI un ∧ (un = ne_book s p x 23 ∧ ∀ k, 0 ≤ k → k < ne_book s p x 23 → u1 k = ne_book s p x (96 + k) ∧ u2 k = ne_book s p x (104 + k))) := by
  refine g_enter (by decide +kernel) (Nat.le_of_ble_eq_true rfl) (fun G hC hR => ?_)
  refine g_lv hC [0, 1, 2] [(0, _), (1, _), (2, _)] rfl ?_
  have h19 := hg.2.2.1
  have hg0 := hg.2.2.2
  have hcs := hR9.1
  have hs1 := hs.2.2.1
  have hbk0 := hbk.1
  refine g_iload_n (pc := 0) hC 1 dX9_book_0 rfl rfl ?_
  refine g_iconst (pc := 1) hC dX9_book_1 ?_
  refine g_icmp_ne (pc := 2) hC 18 dX9_book_2 (by decide) (by first | exact r_p | assumption | omega) (by first | assumption | decide | omega) (fun c2 => ?_) (fun c2 => ?_)
  · refine g_aload_n (pc := 18) hC 0 dX9_book_18 rfl rfl ?_
    refine g_get (pc := 19) hC 0 fl_X9_12 dX9_book_19 rfl rfl ?_
    refine g_get (pc := 22) hC 1 fl_X9_85 dX9_book_22 rfl rfl ?_
    refine g_iload_n (pc := 25) hC 1 dX9_book_25 rfl rfl ?_
    refine g_fnV (pc := 26) (qr := 2) hC [2] (k_X5_has _ _ _ _ _ _ _ _ _ _ _ (by first | exact r_p | assumption | omega) (by first | exact r_cn | assumption | omega)) cl_X5_has wm_X9_94 dX9_book_26 rfl rfl rfl rfl rfl (by decide) (by decide) ⟨by omega, by omega⟩ (Nat.le_of_ble_eq_true rfl) rfl rfl ?_
    refine g_name hC (fun x26 e_x26 => ?_)
    have q_x26 := has_iff e_x26 (by omega)
    refine g_if_eq (pc := 29) hC 39 dX9_book_29 (by decide) (by first | exact r_x26 | assumption | omega) (fun c29 => ?_) (fun c29 => ?_)
    · refine g_iconst (pc := 39) hC dX9_book_39 ?_
      exact g_iret (pc := 40) hR dX9_book_40 rfl ⟨by omega, by omega⟩ (Nat.le_of_ble_eq_true rfl) ⟨pl1, pl2, pl3, pn, ret_eq (by unfold an_book; rw [if_neg (by omega), if_neg (by omega)]), rfl, (by first | assumption | omega), (by first | assumption | omega), (by first | assumption | omega), (by first | exact r_pn | assumption | omega), (by unfold ne_book; rw [if_neg (by omega), if_neg (by omega)]; exact hbk)⟩
    · refine g_iload_n (pc := 32) hC 2 dX9_book_32 rfl rfl ?_
      refine g_fnS (pc := 33) hC [] (k_X9_isDigit _ (by first | exact r_x | assumption | omega)) cl_X9_isDigit wm_X9_82 dX9_book_33 rfl rfl (by decide) (by decide) ⟨by omega, by omega⟩ (Nat.le_of_ble_eq_true rfl) rfl rfl ?_
      refine g_name hC (fun x33 e_x33 => ?_)
      have q_x33 := dig_iff e_x33
      refine g_if_ne (pc := 36) hC 41 dX9_book_36 (by decide) (by first | exact r_x33 | assumption | omega) (fun c36 => ?_) (fun c36 => ?_)
      · refine g_aload_n (pc := 41) hC 0 dX9_book_41 rfl rfl ?_
        refine g_get (pc := 42) hC 0 fl_X9_12 dX9_book_42 rfl rfl ?_
        refine g_get (pc := 45) hC 1 fl_X9_235 dX9_book_45 rfl rfl ?_
        refine g_bipush (pc := 48) hC (8) dX9_book_48 (by decide) ?_
        refine g_iload_n (pc := 50) hC 1 dX9_book_50 rfl rfl ?_
        refine g_iload_n (pc := 51) hC 2 dX9_book_51 rfl rfl ?_
        refine g_iconst (pc := 52) hC dX9_book_52 ?_
        refine g_callV (pc := 53) (qr := 9) hC [9, 10, 11, 12] (k_X4_add _ _ _ _ _ _ _ _ _ _ _ _ (by decide) (by first | exact r_p | assumption | omega) (by first | exact r_x | assumption | omega) (by decide) (by first | exact r_pn | assumption | omega) (by first | exact r_pl1 | assumption | omega) (by first | exact r_pl2 | assumption | omega) (by first | exact r_pl3 | assumption | omega) (by first | assumption | omega)) cl_X4_add wm_X9_194 dX9_book_53 rfl rfl rfl rfl rfl (by decide) (by decide) (by omega) (Nat.le_of_ble_eq_true rfl) rfl (fun v9 w9 hq9 => ?_)
        obtain ⟨v1, v2, v3, vn, rfl, rfl, r_v1, r_v2, r_v3, r_vn, had_53⟩ := hq9
        refine g_ws hC [cO xx 9 [.ref nA, .ref nZ, wx_taken, .ref hh, .ref q0, .ref t0, .ref g0], cO nA 8 [.ref h0, .ref po, .ref sr, .ref pr, .ref br, .int (iI ho)], cO h0 5 [.ref k0, .ref k1, .ref k2, .ref k3, .ref k4, .ref k5, .int (iI aw), .int (iI cn), .int (iI sp)], cA K k0 6 kd, cA K k1 6 nb, cA K k2 6 rm, cA K k3 6 st, cA K k4 24 rw, cA K k5 6 nx, cO br 4 [.ref br1, .ref br2, .ref br3, .int (iI vn)], cA K br1 8 v1, cA K br2 8 v2, cA K br3 8 v3] rfl ?_
        refine g_st hC [.int (iI (if pn = 8 then -4 else pn + 1))] rfl ?_
        refine g_name hC (fun ra e_ra => ?_)
        exact g_iret (pc := 56) hR dX9_book_56 rfl ⟨by omega, by omega⟩ (Nat.le_of_ble_eq_true rfl) ⟨v1, v2, v3, vn, ret_eq (by unfold an_book; rw [if_neg (by omega), if_pos (by omega), e_ra, ← hbk0]), rfl, (by first | assumption | omega), (by first | assumption | omega), (by first | assumption | omega), (by first | exact r_vn | assumption | omega), (book_end (by omega) hbk had_53 (by omega))⟩
      · refine g_iconst (pc := 39) hC dX9_book_39 ?_
        exact g_iret (pc := 40) hR dX9_book_40 rfl ⟨by omega, by omega⟩ (Nat.le_of_ble_eq_true rfl) ⟨pl1, pl2, pl3, pn, ret_eq (by unfold an_book; rw [if_neg (by omega), if_neg (by omega)]), rfl, (by first | assumption | omega), (by first | assumption | omega), (by first | assumption | omega), (by first | exact r_pn | assumption | omega), (by unfold ne_book; rw [if_neg (by omega), if_neg (by omega)]; exact hbk)⟩
  · refine g_aload_n (pc := 5) hC 0 dX9_book_5 rfl rfl ?_
    refine g_get (pc := 6) hC 0 fl_X9_12 dX9_book_6 rfl rfl ?_
    refine g_get (pc := 9) hC 1 fl_X9_235 dX9_book_9 rfl rfl ?_
    refine g_iconst (pc := 12) hC dX9_book_12 ?_
    refine g_putI (pc := 13) hC 9 [_, _, _, _, _, _, _, _, _, cO _ _ [_, _, _, _], _, _, _] fl_X9_191 dX9_book_13 rfl (Nat.le_of_ble_eq_true rfl) rfl ?_
    refine g_iconst (pc := 16) hC dX9_book_16 ?_
    exact g_iret (pc := 17) hR dX9_book_17 rfl ⟨by omega, by omega⟩ (Nat.le_of_ble_eq_true rfl) ⟨pl1, pl2, pl3, 0, ret_eq (by unfold an_book; rw [if_pos (by omega)]), rfl, (by first | assumption | omega), (by first | assumption | omega), (by first | assumption | omega), (by decide), (by unfold ne_book; rw [if_pos (by omega)]; exact no_rows2)⟩
set_option maxHeartbeats 4000000 in
set_option maxRecDepth 100000 in
theorem k_X9_man_n {K : gK} (xx : Nat) (nA : Nat) (nZ : Nat) (hh : Nat) (q0 : Nat) (t0 : Nat) (g0 : Nat) (h0 : Nat) (po : Nat) (sr : Nat) (pr : Nat) (br : Nat) (k0 : Nat) (k1 : Nat) (k2 : Nat) (k3 : Nat) (k4 : Nat) (k5 : Nat) (wx_taken : Value) (wq_facts : Value) (wq_weighed : Value) (wt_trial : Value) (wt_pulls : Value) (wt_fewest : Value) (wt_whose : Value) (wt_way : Value) (kind : Int) (v : Int) (room : Int) (t : Int) (ho : Int) (stp : Int) (rf : Int) (aw : Int) (cn : Int) (sp : Int) (kd : Int → Int) (nb : Int → Int) (rm : Int → Int) (st : Int → Int) (rw : Int → Int) (nx : Int → Int) (s : Int → Int) (r_kind : rI kind) (r_v : rI v) (r_room : rI room) (r_t : rI t) (r_ho : rI ho) (r_stp : rI stp) (r_rf : rI rf) (r_aw : rI aw) (r_cn : rI cn) (r_sp : rI sp) (r_kd : ∀ j, rI (kd j)) (r_nb : ∀ j, rI (nb j)) (r_rm : ∀ j, rI (rm j)) (r_st : ∀ j, rI (st j)) (r_rw : ∀ j, rI (rw j)) (r_nx : ∀ j, rI (nx j)) (hg : md_rg s) (hR9 : cs_R s kd nb rm st rw nx aw cn sp) (hstp : 1 ≤ stp ∧ stp ≤ 900000) (hho0 : ho = 0) : gMet K yX9_man cX9_man 6 (some .int) 2 0 0 [.ref xx, .int (iI kind), .int (iI v), .int (iI room), .int (iI t)] [cO xx 9 [.ref nA, .ref nZ, wx_taken, .ref hh, .ref q0, .ref t0, .ref g0], cO nA 8 [.ref h0, .ref po, .ref sr, .ref pr, .ref br, .int (iI ho)], cO q0 2 [.null, wq_facts, wq_weighed, .int (iI stp)], cO t0 7 [wt_trial, wt_pulls, wt_fewest, wt_whose, .int (iI rf), wt_way], cO h0 5 [.ref k0, .ref k1, .ref k2, .ref k3, .ref k4, .ref k5, .int (iI aw), .int (iI cn), .int (iI sp)], cA K k0 6 kd, cA K k1 6 nb, cA K k2 6 rm, cA K k3 6 st, cA K k4 24 rw, cA K k5 6 nx] (fun v9 w9 => ∃ (kd2 : Int → Int), ∃ (nb2 : Int → Int), ∃ (rm2 : Int → Int), ∃ (st2 : Int → Int), ∃ (cn2 : Int), ∃ (stp2 : Int), ∃ (rf2 : Int), v9 = some (.int (iI (an_man s kind v room t))) ∧ w9 = [cO xx 9 [.ref nA, .ref nZ, wx_taken, .ref hh, .ref q0, .ref t0, .ref g0], cO nA 8 [.ref h0, .ref po, .ref sr, .ref pr, .ref br, .int (iI ho)], cO q0 2 [.null, wq_facts, wq_weighed, .int (iI stp2)], cO t0 7 [wt_trial, wt_pulls, wt_fewest, wt_whose, .int (iI rf2), wt_way], cO h0 5 [.ref k0, .ref k1, .ref k2, .ref k3, .ref k4, .ref k5, .int (iI aw), .int (iI cn2), .int (iI sp)], cA K k0 6 kd2, cA K k1 6 nb2, cA K k2 6 rm2, cA K k3 6 st2, cA K k4 24 rw, cA K k5 6 nx] ∧ (∀ j, rI (kd2 j)) ∧ (∀ j, rI (nb2 j)) ∧ (∀ j, rI (rm2 j)) ∧ (∀ j, rI (st2 j)) ∧ rI cn2 ∧ rI stp2 ∧ rI rf2 ∧ (cs_R (ne_man s kind v room t) kd2 nb2 rm2 st2 rw nx aw cn2 sp) ∧ (((ne_man s kind v room t) = s ∧ stp2 = stp ∧ rf2 = rf) ∨ (stp2 = stp + 1 ∧ rf2 = 0))) := by
  refine g_enter (by decide +kernel) (Nat.le_of_ble_eq_true rfl) (fun G hC hR => ?_)
  refine g_lv hC [0, 1, 2, 3, 4] [(0, _), (1, _), (2, _), (3, _), (4, _)] rfl ?_
  have h19 := hg.2.2.1
  have hg0 := hg.2.2.2
  have hcs := hR9.1
  refine g_iload_n (pc := 0) hC 1 dX9_man_0 rfl rfl ?_
  refine g_if_lt (pc := 1) hC 25 dX9_man_1 (by decide) (by first | exact r_kind | assumption | omega) (fun c1 => ?_) (fun c1 => ?_)
  · refine g_iconst (pc := 25) hC dX9_man_25 ?_
    exact g_iret (pc := 26) hR dX9_man_26 rfl ⟨by omega, by omega⟩ (Nat.le_of_ble_eq_true rfl) ⟨kd, nb, rm, st, cn, stp, rf, ret_eq (by unfold an_man; rw [if_neg (by omega)]), rfl, (by first | assumption | omega), (by first | assumption | omega), (by first | assumption | omega), (by first | assumption | omega), (by first | exact r_cn | assumption | omega), (by first | exact r_stp | assumption | omega), (by first | exact r_rf | assumption | omega), (by unfold ne_man; rw [if_neg (by omega)]; exact hR9), (Or.inl ⟨by unfold ne_man; rw [if_neg (by omega)], rfl, rfl⟩)⟩
  · refine g_iload_n (pc := 4) hC 1 dX9_man_4 rfl rfl ?_
    refine g_bipush (pc := 5) hC (7) dX9_man_5 (by decide) ?_
    refine g_icmp_ge (pc := 7) hC 25 dX9_man_7 (by decide) (by first | exact r_kind | assumption | omega) (by first | assumption | decide | omega) (fun c7 => ?_) (fun c7 => ?_)
    · refine g_iconst (pc := 25) hC dX9_man_25 ?_
      exact g_iret (pc := 26) hR dX9_man_26 rfl ⟨by omega, by omega⟩ (Nat.le_of_ble_eq_true rfl) ⟨kd, nb, rm, st, cn, stp, rf, ret_eq (by unfold an_man; rw [if_neg (by omega)]), rfl, (by first | assumption | omega), (by first | assumption | omega), (by first | assumption | omega), (by first | assumption | omega), (by first | exact r_cn | assumption | omega), (by first | exact r_stp | assumption | omega), (by first | exact r_rf | assumption | omega), (by unfold ne_man; rw [if_neg (by omega)]; exact hR9), (Or.inl ⟨by unfold ne_man; rw [if_neg (by omega)], rfl, rfl⟩)⟩
    · refine g_iload_n (pc := 10) hC 3 dX9_man_10 rfl rfl ?_
      refine g_fnS (pc := 11) hC [] (k_X9_isDigit _ (by first | exact r_room | assumption | omega)) cl_X9_isDigit wm_X9_82 dX9_man_11 rfl rfl (by decide) (by decide) ⟨by omega, by omega⟩ (Nat.le_of_ble_eq_true rfl) rfl rfl ?_
      refine g_name hC (fun x11 e_x11 => ?_)
      have q_x11 := dig_iff e_x11
      refine g_if_eq (pc := 14) hC 25 dX9_man_14 (by decide) (by first | exact r_x11 | assumption | omega) (fun c14 => ?_) (fun c14 => ?_)
      · refine g_iconst (pc := 25) hC dX9_man_25 ?_
        exact g_iret (pc := 26) hR dX9_man_26 rfl ⟨by omega, by omega⟩ (Nat.le_of_ble_eq_true rfl) ⟨kd, nb, rm, st, cn, stp, rf, ret_eq (by unfold an_man; rw [if_neg (by omega)]), rfl, (by first | assumption | omega), (by first | assumption | omega), (by first | assumption | omega), (by first | assumption | omega), (by first | exact r_cn | assumption | omega), (by first | exact r_stp | assumption | omega), (by first | exact r_rf | assumption | omega), (by unfold ne_man; rw [if_neg (by omega)]; exact hR9), (Or.inl ⟨by unfold ne_man; rw [if_neg (by omega)], rfl, rfl⟩)⟩
      · refine g_iload (pc := 17) hC 4 dX9_man_17 rfl ?_
        refine g_fnS (pc := 19) hC [] (k_X9_isDigit _ (by first | exact r_t | assumption | omega)) cl_X9_isDigit wm_X9_82 dX9_man_19 rfl rfl (by decide) (by decide) ⟨by omega, by omega⟩ (Nat.le_of_ble_eq_true rfl) rfl rfl ?_
        refine g_name hC (fun x19 e_x19 => ?_)
        have q_x19 := dig_iff e_x19
        refine g_if_ne (pc := 22) hC 27 dX9_man_22 (by decide) (by first | exact r_x19 | assumption | omega) (fun c22 => ?_) (fun c22 => ?_)
        · refine g_iload_n (pc := 27) hC 2 dX9_man_27 rfl rfl ?_
          refine g_fnS (pc := 28) hC [] (k_X9_isDigit _ (by first | exact r_v | assumption | omega)) cl_X9_isDigit wm_X9_82 dX9_man_28 rfl rfl (by decide) (by decide) ⟨by omega, by omega⟩ (Nat.le_of_ble_eq_true rfl) rfl rfl ?_
          refine g_name hC (fun x28 e_x28 => ?_)
          have q_x28 := dig_iff e_x28
          refine g_if_ne (pc := 31) hC 37 dX9_man_31 (by decide) (by first | exact r_x28 | assumption | omega) (fun c31 => ?_) (fun c31 => ?_)
          · refine g_aload_n (pc := 37) hC 0 dX9_man_37 rfl rfl ?_
            refine g_get (pc := 38) hC 0 fl_X9_12 dX9_man_38 rfl rfl ?_
            refine g_get (pc := 41) hC 1 fl_X9_85 dX9_man_41 rfl rfl ?_
            refine g_iload_n (pc := 44) hC 1 dX9_man_44 rfl rfl ?_
            refine g_iload_n (pc := 45) hC 2 dX9_man_45 rfl rfl ?_
            refine g_iload_n (pc := 46) hC 3 dX9_man_46 rfl rfl ?_
            refine g_iload (pc := 47) hC 4 dX9_man_47 rfl ?_
            refine g_callV (pc := 49) (qr := 4) hC [4, 5, 6, 7, 8, 9, 10] (k_X5_add _ _ _ _ _ _ _ _ _ _ _ _ _ _ _ _ _ _ _ _ _ (by first | exact r_kind | assumption | omega) (by first | exact r_v | assumption | omega) (by first | exact r_room | assumption | omega) (by first | exact r_t | assumption | omega) (by first | exact r_aw | assumption | omega) (by first | exact r_cn | assumption | omega) (by first | exact r_sp | assumption | omega) (by first | exact r_kd | assumption | omega) (by first | exact r_nb | assumption | omega) (by first | exact r_rm | assumption | omega) (by first | exact r_st | assumption | omega) (by first | exact r_rw | assumption | omega) (by first | exact r_nx | assumption | omega) (by first | assumption | omega) (by first | assumption | omega) (by first | assumption | omega)) cl_X5_add wm_X9_89 dX9_man_49 rfl rfl rfl rfl rfl (by decide) (by decide) (by omega) (Nat.le_of_ble_eq_true rfl) rfl (fun v9 w9 hq9 => ?_)
            obtain ⟨kd5, nb5, rm5, st5, cn5, rfl, rfl, r_kd5, r_nb5, r_rm5, r_st5, r_cn5, hR2_49⟩ := hq9
            refine g_ws hC [cO xx 9 [.ref nA, .ref nZ, wx_taken, .ref hh, .ref q0, .ref t0, .ref g0], cO nA 8 [.ref h0, .ref po, .ref sr, .ref pr, .ref br, .int (iI ho)], cO q0 2 [.null, wq_facts, wq_weighed, .int (iI stp)], cO t0 7 [wt_trial, wt_pulls, wt_fewest, wt_whose, .int (iI rf), wt_way], cO h0 5 [.ref k0, .ref k1, .ref k2, .ref k3, .ref k4, .ref k5, .int (iI aw), .int (iI cn5), .int (iI sp)], cA K k0 6 kd5, cA K k1 6 nb5, cA K k2 6 rm5, cA K k3 6 st5, cA K k4 24 rw, cA K k5 6 nx] rfl ?_
            refine g_st hC [.int (iI (if s 19 = 6 then -1 else s 19))] rfl ?_
            refine g_name hC (fun mn e_mn => ?_)
            have q_mn : (s 19 = 6 ∧ mn = -1) ∨ (¬ s 19 = 6 ∧ mn = s 19) := by rw [e_mn]; split <;> omega
            refine g_istore (pc := 52) hC [(5, _), (0, _), (1, _), (2, _), (3, _), (4, _)] dX9_man_52 (by decide) rfl ?_
            refine g_iload (pc := 54) hC 0 dX9_man_54 rfl ?_
            refine g_if_ge (pc := 56) hC 62 dX9_man_56 (by decide) (by first | exact r_mn | assumption | omega) (fun c56 => ?_) (fun c56 => ?_)
            · refine g_aload_n (pc := 62) hC 1 dX9_man_62 rfl rfl ?_
              refine g_callV (pc := 63) (qr := 0) hC [0, 1, 2, 3] (k_X9_forget_n _ _ _ _ _ _ _ _ _ _ _ _ _ _ _ _ _ _ _ _ _ _ _ _ (by first | exact r_ho | assumption | omega) (by first | exact r_stp | assumption | omega) (by first | assumption | omega)) cl_X9_forgetWorked wm_X9_79 dX9_man_63 rfl rfl rfl rfl rfl (by decide) (by decide) (by omega) (Nat.le_of_ble_eq_true rfl) rfl (fun v9 w9 hq9 => ?_)
              obtain ⟨rfl, rfl⟩ := hq9
              refine g_ws hC [cO xx 9 [.ref nA, .ref nZ, wx_taken, .ref hh, .ref q0, .ref t0, .ref g0], cO nA 8 [.ref h0, .ref po, .ref sr, .ref pr, .ref br, .int (iI ho)], cO q0 2 [.null, wq_facts, wq_weighed, .int (iI (stp + 1))], cO t0 7 [wt_trial, wt_pulls, wt_fewest, wt_whose, .int (iI 0), wt_way], cO h0 5 [.ref k0, .ref k1, .ref k2, .ref k3, .ref k4, .ref k5, .int (iI aw), .int (iI cn5), .int (iI sp)], cA K k0 6 kd5, cA K k1 6 nb5, cA K k2 6 rm5, cA K k3 6 st5, cA K k4 24 rw, cA K k5 6 nx] rfl ?_
              refine g_st hC [] rfl ?_
              refine g_iload (pc := 66) hC 0 dX9_man_66 rfl ?_
              exact g_iret (pc := 68) hR dX9_man_68 rfl ⟨by omega, by omega⟩ (Nat.le_of_ble_eq_true rfl) ⟨kd5, nb5, rm5, st5, cn5, stp + 1, 0, ret_eq (by unfold an_man; rw [if_pos (by omega), if_pos (by omega), if_neg (by omega)]; omega), rfl, (by first | assumption | omega), (by first | assumption | omega), (by first | assumption | omega), (by first | assumption | omega), (by first | exact r_cn5 | assumption | omega), (by first | assumption | omega), (by decide), (by unfold ne_man; rw [if_pos (by omega)]; rw [if_neg (by omega)] at hR2_49; exact hR2_49), (Or.inr ⟨rfl, rfl⟩)⟩
            · refine g_bipush (pc := 59) hC (-4) dX9_man_59 (by decide) ?_
              exact g_iret (pc := 61) hR dX9_man_61 rfl ⟨by omega, by omega⟩ (Nat.le_of_ble_eq_true rfl) ⟨kd5, nb5, rm5, st5, cn5, stp, rf, ret_eq (by unfold an_man; rw [if_pos (by omega), if_pos (by omega), if_pos (by omega)]), rfl, (by first | assumption | omega), (by first | assumption | omega), (by first | assumption | omega), (by first | assumption | omega), (by first | exact r_cn5 | assumption | omega), (by first | exact r_stp | assumption | omega), (by first | exact r_rf | assumption | omega), (by unfold ne_man; rw [if_neg (by omega)]; rw [if_pos (by omega)] at hR2_49; exact hR2_49), (Or.inl ⟨by unfold ne_man; rw [if_neg (by omega)], rfl, rfl⟩)⟩
          · refine g_bipush (pc := 34) hC (-2) dX9_man_34 (by decide) ?_
            exact g_iret (pc := 36) hR dX9_man_36 rfl ⟨by omega, by omega⟩ (Nat.le_of_ble_eq_true rfl) ⟨kd, nb, rm, st, cn, stp, rf, ret_eq (by unfold an_man; rw [if_pos (by omega), if_neg (by omega)]), rfl, (by first | assumption | omega), (by first | assumption | omega), (by first | assumption | omega), (by first | assumption | omega), (by first | exact r_cn | assumption | omega), (by first | exact r_stp | assumption | omega), (by first | exact r_rf | assumption | omega), (by unfold ne_man; rw [if_neg (by omega)]; exact hR9), (Or.inl ⟨by unfold ne_man; rw [if_neg (by omega)], rfl, rfl⟩)⟩
        · refine g_iconst (pc := 25) hC dX9_man_25 ?_
          exact g_iret (pc := 26) hR dX9_man_26 rfl ⟨by omega, by omega⟩ (Nat.le_of_ble_eq_true rfl) ⟨kd, nb, rm, st, cn, stp, rf, ret_eq (by unfold an_man; rw [if_neg (by omega)]), rfl, (by first | assumption | omega), (by first | assumption | omega), (by first | assumption | omega), (by first | assumption | omega), (by first | exact r_cn | assumption | omega), (by first | exact r_stp | assumption | omega), (by first | exact r_rf | assumption | omega), (by unfold ne_man; rw [if_neg (by omega)]; exact hR9), (Or.inl ⟨by unfold ne_man; rw [if_neg (by omega)], rfl, rfl⟩)⟩
set_option maxHeartbeats 4000000 in
set_option maxRecDepth 100000 in
theorem k_X9_row_n {K : gK} (xx : Nat) (nA : Nat) (nZ : Nat) (hh : Nat) (q0 : Nat) (t0 : Nat) (g0 : Nat) (h0 : Nat) (po : Nat) (sr : Nat) (pr : Nat) (br : Nat) (k0 : Nat) (k1 : Nat) (k2 : Nat) (k3 : Nat) (k4 : Nat) (k5 : Nat) (wx_taken : Value) (wq_facts : Value) (wq_weighed : Value) (wt_trial : Value) (wt_pulls : Value) (wt_fewest : Value) (wt_whose : Value) (wt_way : Value) (p : Int) (k : Int) (x : Int) (ho : Int) (stp : Int) (rf : Int) (aw : Int) (cn : Int) (sp : Int) (kd : Int → Int) (nb : Int → Int) (rm : Int → Int) (st : Int → Int) (rw : Int → Int) (nx : Int → Int) (s : Int → Int) (r_p : rI p) (r_k : rI k) (r_x : rI x) (r_ho : rI ho) (r_stp : rI stp) (r_rf : rI rf) (r_aw : rI aw) (r_cn : rI cn) (r_sp : rI sp) (r_kd : ∀ j, rI (kd j)) (r_nb : ∀ j, rI (nb j)) (r_rm : ∀ j, rI (rm j)) (r_st : ∀ j, rI (st j)) (r_rw : ∀ j, rI (rw j)) (r_nx : ∀ j, rI (nx j)) (hg : md_rg s) (hR9 : cs_R s kd nb rm st rw nx aw cn sp) (hstp : 1 ≤ stp ∧ stp ≤ 900000) (hho0 : ho = 0) : gMet K yX9_row cX9_row 6 (some .int) 2 0 0 [.ref xx, .int (iI p), .int (iI k), .int (iI x)] [cO xx 9 [.ref nA, .ref nZ, wx_taken, .ref hh, .ref q0, .ref t0, .ref g0], cO nA 8 [.ref h0, .ref po, .ref sr, .ref pr, .ref br, .int (iI ho)], cO q0 2 [.null, wq_facts, wq_weighed, .int (iI stp)], cO t0 7 [wt_trial, wt_pulls, wt_fewest, wt_whose, .int (iI rf), wt_way], cO h0 5 [.ref k0, .ref k1, .ref k2, .ref k3, .ref k4, .ref k5, .int (iI aw), .int (iI cn), .int (iI sp)], cA K k0 6 kd, cA K k1 6 nb, cA K k2 6 rm, cA K k3 6 st, cA K k4 24 rw, cA K k5 6 nx] (fun v9 w9 => ∃ (rw2 : Int → Int), ∃ (stp2 : Int), ∃ (rf2 : Int), v9 = some (.int (iI (an_row s p k x))) ∧ w9 = [cO xx 9 [.ref nA, .ref nZ, wx_taken, .ref hh, .ref q0, .ref t0, .ref g0], cO nA 8 [.ref h0, .ref po, .ref sr, .ref pr, .ref br, .int (iI ho)], cO q0 2 [.null, wq_facts, wq_weighed, .int (iI stp2)], cO t0 7 [wt_trial, wt_pulls, wt_fewest, wt_whose, .int (iI rf2), wt_way], cO h0 5 [.ref k0, .ref k1, .ref k2, .ref k3, .ref k4, .ref k5, .int (iI aw), .int (iI cn), .int (iI sp)], cA K k0 6 kd, cA K k1 6 nb, cA K k2 6 rm, cA K k3 6 st, cA K k4 24 rw2, cA K k5 6 nx] ∧ (∀ j, rI (rw2 j)) ∧ rI stp2 ∧ rI rf2 ∧ (cs_R (ne_row s p k x) kd nb rm st rw2 nx aw cn sp) ∧ (((ne_row s p k x) = s ∧ stp2 = stp ∧ rf2 = rf) ∨ (stp2 = stp + 1 ∧ rf2 = 0))) := by
  refine g_enter (by decide +kernel) (Nat.le_of_ble_eq_true rfl) (fun G hC hR => ?_)
  refine g_lv hC [0, 1, 2, 3] [(0, _), (1, _), (2, _), (3, _)] rfl ?_
  have h19 := hg.2.2.1
  have hg0 := hg.2.2.2
  have hcs := hR9.1
  refine g_aload_n (pc := 0) hC 0 dX9_row_0 rfl rfl ?_
  refine g_get (pc := 1) hC 0 fl_X9_12 dX9_row_1 rfl rfl ?_
  refine g_get (pc := 4) hC 1 fl_X9_85 dX9_row_4 rfl rfl ?_
  refine g_iload_n (pc := 7) hC 1 dX9_row_7 rfl rfl ?_
  refine g_fnV (pc := 8) (qr := 4) hC [4] (k_X5_has _ _ _ _ _ _ _ _ _ _ _ (by first | exact r_p | assumption | omega) (by first | exact r_cn | assumption | omega)) cl_X5_has wm_X9_94 dX9_row_8 rfl rfl rfl rfl rfl (by decide) (by decide) ⟨by omega, by omega⟩ (Nat.le_of_ble_eq_true rfl) rfl rfl ?_
  refine g_name hC (fun x8 e_x8 => ?_)
  have q_x8 := has_iff e_x8 (by omega)
  refine g_if_eq (pc := 11) hC 23 dX9_row_11 (by decide) (by first | exact r_x8 | assumption | omega) (fun c11 => ?_) (fun c11 => ?_)
  · refine g_iconst (pc := 23) hC dX9_row_23 ?_
    exact g_iret (pc := 24) hR dX9_row_24 rfl ⟨by omega, by omega⟩ (Nat.le_of_ble_eq_true rfl) ⟨rw, stp, rf, ret_eq (by unfold an_row; rw [if_neg (by omega)]), rfl, (by first | assumption | omega), (by first | exact r_stp | assumption | omega), (by first | exact r_rf | assumption | omega), (by unfold ne_row; rw [if_neg (by omega)]; exact hR9), (Or.inl ⟨by unfold ne_row; rw [if_neg (by omega)], rfl, rfl⟩)⟩
  · refine g_iload_n (pc := 14) hC 2 dX9_row_14 rfl rfl ?_
    refine g_if_lt (pc := 15) hC 23 dX9_row_15 (by decide) (by first | exact r_k | assumption | omega) (fun c15 => ?_) (fun c15 => ?_)
    · refine g_iconst (pc := 23) hC dX9_row_23 ?_
      exact g_iret (pc := 24) hR dX9_row_24 rfl ⟨by omega, by omega⟩ (Nat.le_of_ble_eq_true rfl) ⟨rw, stp, rf, ret_eq (by unfold an_row; rw [if_neg (by omega)]), rfl, (by first | assumption | omega), (by first | exact r_stp | assumption | omega), (by first | exact r_rf | assumption | omega), (by unfold ne_row; rw [if_neg (by omega)]; exact hR9), (Or.inl ⟨by unfold ne_row; rw [if_neg (by omega)], rfl, rfl⟩)⟩
    · refine g_iload_n (pc := 18) hC 2 dX9_row_18 rfl rfl ?_
      refine g_iconst (pc := 19) hC dX9_row_19 ?_
      refine g_icmp_lt (pc := 20) hC 25 dX9_row_20 (by decide) (by first | exact r_k | assumption | omega) (by first | assumption | decide | omega) (fun c20 => ?_) (fun c20 => ?_)
      · refine g_iload_n (pc := 25) hC 3 dX9_row_25 rfl rfl ?_
        refine g_fnS (pc := 26) hC [] (k_X9_isDigit _ (by first | exact r_x | assumption | omega)) cl_X9_isDigit wm_X9_82 dX9_row_26 rfl rfl (by decide) (by decide) ⟨by omega, by omega⟩ (Nat.le_of_ble_eq_true rfl) rfl rfl ?_
        refine g_name hC (fun x26 e_x26 => ?_)
        have q_x26 := dig_iff e_x26
        refine g_if_ne (pc := 29) hC 35 dX9_row_29 (by decide) (by first | exact r_x26 | assumption | omega) (fun c29 => ?_) (fun c29 => ?_)
        · have hp : 0 ≤ p ∧ p < s 19 := by omega
          have hp1 := hR9.2.1 p hp.1 hp.2
          have hgp := hg.1 p hp.1 (by omega)
          refine g_aload_n (pc := 35) hC 0 dX9_row_35 rfl rfl ?_
          refine g_get (pc := 36) hC 0 fl_X9_12 dX9_row_36 rfl rfl ?_
          refine g_get (pc := 39) hC 1 fl_X9_85 dX9_row_39 rfl rfl ?_
          refine g_get (pc := 42) hC 4 fl_X9_97 dX9_row_42 rfl rfl ?_
          refine g_iload_n (pc := 45) hC 1 dX9_row_45 rfl rfl ?_
          refine g_iald (pc := 46) hC 5 dX9_row_46 rfl (by omega) ?_
          have qz1 := r_kd p
          refine g_bipush (pc := 47) hC (6) dX9_row_47 (by decide) ?_
          refine g_icmp_eq (pc := 49) hC 55 dX9_row_49 (by decide) (by first | assumption | decide | omega) (by first | assumption | decide | omega) (fun c49 => ?_) (fun c49 => ?_)
          · refine g_iload_n (pc := 55) hC 1 dX9_row_55 rfl rfl ?_
            refine g_iconst (pc := 56) hC dX9_row_56 ?_
            refine g_imul (pc := 57) hC dX9_row_57 ?_
            refine g_iload_n (pc := 58) hC 2 dX9_row_58 rfl rfl ?_
            refine g_iadd (pc := 59) hC dX9_row_59 ?_
            refine g_istore (pc := 60) hC [(4, _), (0, _), (1, _), (2, _), (3, _)] dX9_row_60 (by decide) rfl ?_
            refine g_aload_n (pc := 62) hC 1 dX9_row_62 rfl rfl ?_
            refine g_get (pc := 63) hC 0 fl_X9_12 dX9_row_63 rfl rfl ?_
            refine g_get (pc := 66) hC 1 fl_X9_85 dX9_row_66 rfl rfl ?_
            refine g_get (pc := 69) hC 4 fl_X9_130 dX9_row_69 rfl rfl ?_
            refine g_iload (pc := 72) hC 0 dX9_row_72 rfl ?_
            refine g_iald (pc := 74) hC 9 dX9_row_74 rfl (by omega) ?_
            have qz2 := r_rw ((p * 4) + k)
            have hrw9 := hR9.2.2.2.2 (p * 4 + k) (by omega) (by omega)
            rw [if_pos (by omega), show 38 + (p * 4 + k) = 38 + 4 * p + k by omega] at hrw9
            refine g_istore (pc := 75) hC [(5, _), (4, _), (0, _), (1, _), (2, _), (3, _)] dX9_row_75 (by decide) rfl ?_
            refine g_aload_n (pc := 77) hC 2 dX9_row_77 rfl rfl ?_
            refine g_get (pc := 78) hC 0 fl_X9_12 dX9_row_78 rfl rfl ?_
            refine g_get (pc := 81) hC 1 fl_X9_85 dX9_row_81 rfl rfl ?_
            refine g_get (pc := 84) hC 4 fl_X9_130 dX9_row_84 rfl rfl ?_
            refine g_iload (pc := 87) hC 1 dX9_row_87 rfl ?_
            refine g_iload_n (pc := 89) hC 5 dX9_row_89 rfl rfl ?_
            refine g_iast (pc := 90) hC 9 (fun f9 => [_, _, _, _, _, _, _, _, _, cA K _ _ f9, _]) dX9_row_90 rfl (by omega) (fun _ => rfl) (fun rw5 e_rw5 => ?_)
            have r_rw5 := rng_up e_rw5 r_rw (by first | exact r_x | assumption | omega)
            refine g_aload_n (pc := 91) hC 2 dX9_row_91 rfl rfl ?_
            refine g_callV (pc := 92) (qr := 0) hC [0, 1, 2, 3] (k_X9_forget_n _ _ _ _ _ _ _ _ _ _ _ _ _ _ _ _ _ _ _ _ _ _ _ _ (by first | exact r_ho | assumption | omega) (by first | exact r_stp | assumption | omega) (by first | assumption | omega)) cl_X9_forgetWorked wm_X9_79 dX9_row_92 rfl rfl rfl rfl rfl (by decide) (by decide) (by omega) (Nat.le_of_ble_eq_true rfl) rfl (fun v9 w9 hq9 => ?_)
            obtain ⟨rfl, rfl⟩ := hq9
            refine g_ws hC [cO xx 9 [.ref nA, .ref nZ, wx_taken, .ref hh, .ref q0, .ref t0, .ref g0], cO nA 8 [.ref h0, .ref po, .ref sr, .ref pr, .ref br, .int (iI ho)], cO q0 2 [.null, wq_facts, wq_weighed, .int (iI (stp + 1))], cO t0 7 [wt_trial, wt_pulls, wt_fewest, wt_whose, .int (iI 0), wt_way], cO h0 5 [.ref k0, .ref k1, .ref k2, .ref k3, .ref k4, .ref k5, .int (iI aw), .int (iI cn), .int (iI sp)], cA K k0 6 kd, cA K k1 6 nb, cA K k2 6 rm, cA K k3 6 st, cA K k4 24 rw5, cA K k5 6 nx] rfl ?_
            refine g_st hC [] rfl ?_
            refine g_iload (pc := 95) hC 0 dX9_row_95 rfl ?_
            exact g_iret (pc := 97) hR dX9_row_97 rfl ⟨by omega, by omega⟩ (Nat.le_of_ble_eq_true rfl) ⟨rw5, stp + 1, 0, ret_eq (by unfold an_row; rw [if_pos (by omega), if_pos (by omega), if_pos (by omega), hrw9]), rfl, (by first | assumption | omega), (by first | assumption | omega), (by decide), (by unfold ne_row; rw [if_pos (by omega)]; exact cs_row h19 hR9 hp (by omega) e_rw5), (Or.inr ⟨rfl, rfl⟩)⟩
          · refine g_bipush (pc := 52) hC (-3) dX9_row_52 (by decide) ?_
            exact g_iret (pc := 54) hR dX9_row_54 rfl ⟨by omega, by omega⟩ (Nat.le_of_ble_eq_true rfl) ⟨rw, stp, rf, ret_eq (by unfold an_row; rw [if_pos (by omega), if_pos (by omega), if_neg (by omega)]), rfl, (by first | assumption | omega), (by first | exact r_stp | assumption | omega), (by first | exact r_rf | assumption | omega), (by unfold ne_row; rw [if_neg (by omega)]; exact hR9), (Or.inl ⟨by unfold ne_row; rw [if_neg (by omega)], rfl, rfl⟩)⟩
        · refine g_bipush (pc := 32) hC (-2) dX9_row_32 (by decide) ?_
          exact g_iret (pc := 34) hR dX9_row_34 rfl ⟨by omega, by omega⟩ (Nat.le_of_ble_eq_true rfl) ⟨rw, stp, rf, ret_eq (by unfold an_row; rw [if_pos (by omega), if_neg (by omega)]), rfl, (by first | assumption | omega), (by first | exact r_stp | assumption | omega), (by first | exact r_rf | assumption | omega), (by unfold ne_row; rw [if_neg (by omega)]; exact hR9), (Or.inl ⟨by unfold ne_row; rw [if_neg (by omega)], rfl, rfl⟩)⟩
      · refine g_iconst (pc := 23) hC dX9_row_23 ?_
        exact g_iret (pc := 24) hR dX9_row_24 rfl ⟨by omega, by omega⟩ (Nat.le_of_ble_eq_true rfl) ⟨rw, stp, rf, ret_eq (by unfold an_row; rw [if_neg (by omega)]), rfl, (by first | assumption | omega), (by first | exact r_stp | assumption | omega), (by first | exact r_rf | assumption | omega), (by unfold ne_row; rw [if_neg (by omega)]; exact hR9), (Or.inl ⟨by unfold ne_row; rw [if_neg (by omega)], rfl, rfl⟩)⟩
set_option maxHeartbeats 4000000 in
set_option maxRecDepth 100000 in
theorem k_X9_set_n {K : gK} (xx : Nat) (nA : Nat) (nZ : Nat) (hh : Nat) (q0 : Nat) (t0 : Nat) (g0 : Nat) (h0 : Nat) (po : Nat) (sr : Nat) (pr : Nat) (br : Nat) (k0 : Nat) (k1 : Nat) (k2 : Nat) (k3 : Nat) (k4 : Nat) (k5 : Nat) (wx_taken : Value) (wq_facts : Value) (wq_weighed : Value) (wt_trial : Value) (wt_pulls : Value) (wt_fewest : Value) (wt_whose : Value) (wt_way : Value) (p : Int) (w : Int) (x : Int) (ho : Int) (stp : Int) (rf : Int) (aw : Int) (cn : Int) (sp : Int) (kd : Int → Int) (nb : Int → Int) (rm : Int → Int) (st : Int → Int) (rw : Int → Int) (nx : Int → Int) (s : Int → Int) (r_p : rI p) (r_w : rI w) (r_x : rI x) (r_ho : rI ho) (r_stp : rI stp) (r_rf : rI rf) (r_aw : rI aw) (r_cn : rI cn) (r_sp : rI sp) (r_kd : ∀ j, rI (kd j)) (r_nb : ∀ j, rI (nb j)) (r_rm : ∀ j, rI (rm j)) (r_st : ∀ j, rI (st j)) (r_rw : ∀ j, rI (rw j)) (r_nx : ∀ j, rI (nx j)) (hg : md_rg s) (hR9 : cs_R s kd nb rm st rw nx aw cn sp) (hstp : 1 ≤ stp ∧ stp ≤ 900000) (hho0 : ho = 0) : gMet K yX9_set cX9_set 5 (some .int) 2 0 0 [.ref xx, .int (iI p), .int (iI w), .int (iI x)] [cO xx 9 [.ref nA, .ref nZ, wx_taken, .ref hh, .ref q0, .ref t0, .ref g0], cO nA 8 [.ref h0, .ref po, .ref sr, .ref pr, .ref br, .int (iI ho)], cO q0 2 [.null, wq_facts, wq_weighed, .int (iI stp)], cO t0 7 [wt_trial, wt_pulls, wt_fewest, wt_whose, .int (iI rf), wt_way], cO h0 5 [.ref k0, .ref k1, .ref k2, .ref k3, .ref k4, .ref k5, .int (iI aw), .int (iI cn), .int (iI sp)], cA K k0 6 kd, cA K k1 6 nb, cA K k2 6 rm, cA K k3 6 st, cA K k4 24 rw, cA K k5 6 nx] (fun v9 w9 => ∃ (nb2 : Int → Int), ∃ (rm2 : Int → Int), ∃ (st2 : Int → Int), ∃ (stp2 : Int), ∃ (rf2 : Int), v9 = some (.int (iI (an_set s p w x))) ∧ w9 = [cO xx 9 [.ref nA, .ref nZ, wx_taken, .ref hh, .ref q0, .ref t0, .ref g0], cO nA 8 [.ref h0, .ref po, .ref sr, .ref pr, .ref br, .int (iI ho)], cO q0 2 [.null, wq_facts, wq_weighed, .int (iI stp2)], cO t0 7 [wt_trial, wt_pulls, wt_fewest, wt_whose, .int (iI rf2), wt_way], cO h0 5 [.ref k0, .ref k1, .ref k2, .ref k3, .ref k4, .ref k5, .int (iI aw), .int (iI cn), .int (iI sp)], cA K k0 6 kd, cA K k1 6 nb2, cA K k2 6 rm2, cA K k3 6 st2, cA K k4 24 rw, cA K k5 6 nx] ∧ (∀ j, rI (nb2 j)) ∧ (∀ j, rI (rm2 j)) ∧ (∀ j, rI (st2 j)) ∧ rI stp2 ∧ rI rf2 ∧ (cs_R (ne_set s p w x) kd nb2 rm2 st2 rw nx aw cn sp) ∧ (((ne_set s p w x) = s ∧ stp2 = stp ∧ rf2 = rf) ∨ (stp2 = stp + 1 ∧ rf2 = 0))) := by
  refine g_enter (by decide +kernel) (Nat.le_of_ble_eq_true rfl) (fun G hC hR => ?_)
  refine g_lv hC [0, 1, 2, 3] [(0, _), (1, _), (2, _), (3, _)] rfl ?_
  have h19 := hg.2.2.1
  have hg0 := hg.2.2.2
  have hcs := hR9.1
  refine g_aload_n (pc := 0) hC 0 dX9_set_0 rfl rfl ?_
  refine g_get (pc := 1) hC 0 fl_X9_12 dX9_set_1 rfl rfl ?_
  refine g_get (pc := 4) hC 1 fl_X9_85 dX9_set_4 rfl rfl ?_
  refine g_iload_n (pc := 7) hC 1 dX9_set_7 rfl rfl ?_
  refine g_fnV (pc := 8) (qr := 4) hC [4] (k_X5_has _ _ _ _ _ _ _ _ _ _ _ (by first | exact r_p | assumption | omega) (by first | exact r_cn | assumption | omega)) cl_X5_has wm_X9_94 dX9_set_8 rfl rfl rfl rfl rfl (by decide) (by decide) ⟨by omega, by omega⟩ (Nat.le_of_ble_eq_true rfl) rfl rfl ?_
  refine g_name hC (fun x8 e_x8 => ?_)
  have q_x8 := has_iff e_x8 (by omega)
  refine g_if_eq (pc := 11) hC 30 dX9_set_11 (by decide) (by first | exact r_x8 | assumption | omega) (fun c11 => ?_) (fun c11 => ?_)
  · refine g_iconst (pc := 30) hC dX9_set_30 ?_
    exact g_iret (pc := 31) hR dX9_set_31 rfl ⟨by omega, by omega⟩ (Nat.le_of_ble_eq_true rfl) ⟨nb, rm, st, stp, rf, ret_eq (by unfold an_set; rw [if_neg (by omega)]), rfl, (by first | assumption | omega), (by first | assumption | omega), (by first | assumption | omega), (by first | exact r_stp | assumption | omega), (by first | exact r_rf | assumption | omega), (by unfold ne_set; rw [if_neg (by omega)]; exact hR9), (Or.inl ⟨by unfold ne_set; rw [if_neg (by omega)], rfl, rfl⟩)⟩
  · refine g_iload_n (pc := 14) hC 2 dX9_set_14 rfl rfl ?_
    refine g_if_eq (pc := 15) hC 23 dX9_set_15 (by decide) (by first | exact r_w | assumption | omega) (fun c15 => ?_) (fun c15 => ?_)
    · refine g_iload_n (pc := 23) hC 3 dX9_set_23 rfl rfl ?_
      refine g_fnS (pc := 24) hC [] (k_X9_isDigit _ (by first | exact r_x | assumption | omega)) cl_X9_isDigit wm_X9_82 dX9_set_24 rfl rfl (by decide) (by decide) ⟨by omega, by omega⟩ (Nat.le_of_ble_eq_true rfl) rfl rfl ?_
      refine g_name hC (fun x24 e_x24 => ?_)
      have q_x24 := dig_iff e_x24
      refine g_if_ne (pc := 27) hC 32 dX9_set_27 (by decide) (by first | exact r_x24 | assumption | omega) (fun c27 => ?_) (fun c27 => ?_)
      · have hp : 0 ≤ p ∧ p < s 19 := by omega
        have hp1 := hR9.2.1 p hp.1 hp.2
        have hgp := hg.1 p hp.1 (by omega)
        refine g_iload_n (pc := 32) hC 2 dX9_set_32 rfl rfl ?_
        refine g_if_ne (pc := 33) hC 51 dX9_set_33 (by decide) (by first | exact r_w | assumption | omega) (fun c33 => by exfalso; omega) (fun c33 => ?_)
        refine g_aload_n (pc := 36) hC 0 dX9_set_36 rfl rfl ?_
        refine g_get (pc := 37) hC 0 fl_X9_12 dX9_set_37 rfl rfl ?_
        refine g_get (pc := 40) hC 1 fl_X9_85 dX9_set_40 rfl rfl ?_
        refine g_get (pc := 43) hC 4 fl_X9_104 dX9_set_43 rfl rfl ?_
        refine g_iload_n (pc := 46) hC 1 dX9_set_46 rfl rfl ?_
        refine g_iald (pc := 47) hC 7 dX9_set_47 rfl (by omega) ?_
        have qz1 := r_rm p
        refine g_goto (pc := 48) hC 63 dX9_set_48 (by decide) ?_
        refine g_istore (pc := 63) hC [(4, _), (0, _), (1, _), (2, _), (3, _)] dX9_set_63 (by decide) rfl ?_
        refine g_aload_n (pc := 65) hC 1 dX9_set_65 rfl rfl ?_
        refine g_get (pc := 66) hC 0 fl_X9_12 dX9_set_66 rfl rfl ?_
        refine g_get (pc := 69) hC 1 fl_X9_85 dX9_set_69 rfl rfl ?_
        refine g_iload_n (pc := 72) hC 2 dX9_set_72 rfl rfl ?_
        refine g_iload_n (pc := 73) hC 3 dX9_set_73 rfl rfl ?_
        refine g_iload_n (pc := 74) hC 4 dX9_set_74 rfl rfl ?_
        refine g_callV (pc := 75) (qr := 4) hC [4, 5, 6, 7, 8, 9, 10] (k_X5_change _ _ _ _ _ _ _ _ _ _ _ _ _ _ _ _ _ _ _ _ (by first | exact r_p | assumption | omega) (by first | exact r_w | assumption | omega) (by first | exact r_x | assumption | omega) (by first | exact r_aw | assumption | omega) (by first | exact r_cn | assumption | omega) (by first | exact r_sp | assumption | omega) (by first | exact r_kd | assumption | omega) (by first | exact r_nb | assumption | omega) (by first | exact r_rm | assumption | omega) (by first | exact r_st | assumption | omega) (by first | exact r_rw | assumption | omega) (by first | exact r_nx | assumption | omega) (by first | assumption | omega) (by first | assumption | omega) (by first | assumption | omega)) cl_X5_change wm_X9_133 dX9_set_75 rfl rfl rfl rfl rfl (by decide) (by decide) (by omega) (Nat.le_of_ble_eq_true rfl) rfl (fun v9 w9 hq9 => ?_)
        obtain ⟨nb5, rm5, st5, rfl, rfl, r_nb5, r_rm5, r_st5, hR2_75⟩ := hq9
        refine g_ws hC [cO xx 9 [.ref nA, .ref nZ, wx_taken, .ref hh, .ref q0, .ref t0, .ref g0], cO nA 8 [.ref h0, .ref po, .ref sr, .ref pr, .ref br, .int (iI ho)], cO q0 2 [.null, wq_facts, wq_weighed, .int (iI stp)], cO t0 7 [wt_trial, wt_pulls, wt_fewest, wt_whose, .int (iI rf), wt_way], cO h0 5 [.ref k0, .ref k1, .ref k2, .ref k3, .ref k4, .ref k5, .int (iI aw), .int (iI cn), .int (iI sp)], cA K k0 6 kd, cA K k1 6 nb5, cA K k2 6 rm5, cA K k3 6 st5, cA K k4 24 rw, cA K k5 6 nx] rfl ?_
        refine g_st hC [] rfl ?_
        refine g_aload_n (pc := 78) hC 1 dX9_set_78 rfl rfl ?_
        refine g_callV (pc := 79) (qr := 0) hC [0, 1, 2, 3] (k_X9_forget_n _ _ _ _ _ _ _ _ _ _ _ _ _ _ _ _ _ _ _ _ _ _ _ _ (by first | exact r_ho | assumption | omega) (by first | exact r_stp | assumption | omega) (by first | assumption | omega)) cl_X9_forgetWorked wm_X9_79 dX9_set_79 rfl rfl rfl rfl rfl (by decide) (by decide) (by omega) (Nat.le_of_ble_eq_true rfl) rfl (fun v9 w9 hq9 => ?_)
        obtain ⟨rfl, rfl⟩ := hq9
        refine g_ws hC [cO xx 9 [.ref nA, .ref nZ, wx_taken, .ref hh, .ref q0, .ref t0, .ref g0], cO nA 8 [.ref h0, .ref po, .ref sr, .ref pr, .ref br, .int (iI ho)], cO q0 2 [.null, wq_facts, wq_weighed, .int (iI (stp + 1))], cO t0 7 [wt_trial, wt_pulls, wt_fewest, wt_whose, .int (iI 0), wt_way], cO h0 5 [.ref k0, .ref k1, .ref k2, .ref k3, .ref k4, .ref k5, .int (iI aw), .int (iI cn), .int (iI sp)], cA K k0 6 kd, cA K k1 6 nb5, cA K k2 6 rm5, cA K k3 6 st5, cA K k4 24 rw, cA K k5 6 nx] rfl ?_
        refine g_st hC [] rfl ?_
        refine g_iload (pc := 82) hC 0 dX9_set_82 rfl ?_
        exact g_iret (pc := 84) hR dX9_set_84 rfl ⟨by omega, by omega⟩ (Nat.le_of_ble_eq_true rfl) ⟨nb5, rm5, st5, stp + 1, 0, ret_eq (by unfold an_set; rw [if_pos (by omega), if_pos (by omega), hp1.2.2.1]), rfl, (by first | assumption | omega), (by first | assumption | omega), (by first | assumption | omega), (by first | assumption | omega), (by decide), (by unfold ne_set; rw [if_pos (by omega), ← set_w (by omega)]; rw [if_pos hp] at hR2_75; exact hR2_75), (Or.inr ⟨rfl, rfl⟩)⟩
      · refine g_iconst (pc := 30) hC dX9_set_30 ?_
        exact g_iret (pc := 31) hR dX9_set_31 rfl ⟨by omega, by omega⟩ (Nat.le_of_ble_eq_true rfl) ⟨nb, rm, st, stp, rf, ret_eq (by unfold an_set; rw [if_neg (by omega)]), rfl, (by first | assumption | omega), (by first | assumption | omega), (by first | assumption | omega), (by first | exact r_stp | assumption | omega), (by first | exact r_rf | assumption | omega), (by unfold ne_set; rw [if_neg (by omega)]; exact hR9), (Or.inl ⟨by unfold ne_set; rw [if_neg (by omega)], rfl, rfl⟩)⟩
    · refine g_iload_n (pc := 18) hC 2 dX9_set_18 rfl rfl ?_
      refine g_iconst (pc := 19) hC dX9_set_19 ?_
      refine g_icmp_ne (pc := 20) hC 30 dX9_set_20 (by decide) (by first | exact r_w | assumption | omega) (by first | assumption | decide | omega) (fun c20 => ?_) (fun c20 => ?_)
      · refine g_iconst (pc := 30) hC dX9_set_30 ?_
        exact g_iret (pc := 31) hR dX9_set_31 rfl ⟨by omega, by omega⟩ (Nat.le_of_ble_eq_true rfl) ⟨nb, rm, st, stp, rf, ret_eq (by unfold an_set; rw [if_neg (by omega)]), rfl, (by first | assumption | omega), (by first | assumption | omega), (by first | assumption | omega), (by first | exact r_stp | assumption | omega), (by first | exact r_rf | assumption | omega), (by unfold ne_set; rw [if_neg (by omega)]; exact hR9), (Or.inl ⟨by unfold ne_set; rw [if_neg (by omega)], rfl, rfl⟩)⟩
      · refine g_iload_n (pc := 23) hC 3 dX9_set_23 rfl rfl ?_
        refine g_fnS (pc := 24) hC [] (k_X9_isDigit _ (by first | exact r_x | assumption | omega)) cl_X9_isDigit wm_X9_82 dX9_set_24 rfl rfl (by decide) (by decide) ⟨by omega, by omega⟩ (Nat.le_of_ble_eq_true rfl) rfl rfl ?_
        refine g_name hC (fun x24 e_x24 => ?_)
        have q_x24 := dig_iff e_x24
        refine g_if_ne (pc := 27) hC 32 dX9_set_27 (by decide) (by first | exact r_x24 | assumption | omega) (fun c27 => ?_) (fun c27 => ?_)
        · have hp : 0 ≤ p ∧ p < s 19 := by omega
          have hp1 := hR9.2.1 p hp.1 hp.2
          have hgp := hg.1 p hp.1 (by omega)
          refine g_iload_n (pc := 32) hC 2 dX9_set_32 rfl rfl ?_
          refine g_if_ne (pc := 33) hC 51 dX9_set_33 (by decide) (by first | exact r_w | assumption | omega) (fun c33 => ?_) (fun c33 => by exfalso; omega)
          refine g_aload_n (pc := 51) hC 0 dX9_set_51 rfl rfl ?_
          refine g_get (pc := 52) hC 0 fl_X9_12 dX9_set_52 rfl rfl ?_
          refine g_get (pc := 55) hC 1 fl_X9_85 dX9_set_55 rfl rfl ?_
          refine g_get (pc := 58) hC 4 fl_X9_107 dX9_set_58 rfl rfl ?_
          refine g_iload_n (pc := 61) hC 1 dX9_set_61 rfl rfl ?_
          refine g_iald (pc := 62) hC 8 dX9_set_62 rfl (by omega) ?_
          have qz2 := r_st p
          refine g_istore (pc := 63) hC [(4, _), (0, _), (1, _), (2, _), (3, _)] dX9_set_63 (by decide) rfl ?_
          refine g_aload_n (pc := 65) hC 1 dX9_set_65 rfl rfl ?_
          refine g_get (pc := 66) hC 0 fl_X9_12 dX9_set_66 rfl rfl ?_
          refine g_get (pc := 69) hC 1 fl_X9_85 dX9_set_69 rfl rfl ?_
          refine g_iload_n (pc := 72) hC 2 dX9_set_72 rfl rfl ?_
          refine g_iload_n (pc := 73) hC 3 dX9_set_73 rfl rfl ?_
          refine g_iload_n (pc := 74) hC 4 dX9_set_74 rfl rfl ?_
          refine g_callV (pc := 75) (qr := 4) hC [4, 5, 6, 7, 8, 9, 10] (k_X5_change _ _ _ _ _ _ _ _ _ _ _ _ _ _ _ _ _ _ _ _ (by first | exact r_p | assumption | omega) (by first | exact r_w | assumption | omega) (by first | exact r_x | assumption | omega) (by first | exact r_aw | assumption | omega) (by first | exact r_cn | assumption | omega) (by first | exact r_sp | assumption | omega) (by first | exact r_kd | assumption | omega) (by first | exact r_nb | assumption | omega) (by first | exact r_rm | assumption | omega) (by first | exact r_st | assumption | omega) (by first | exact r_rw | assumption | omega) (by first | exact r_nx | assumption | omega) (by first | assumption | omega) (by first | assumption | omega) (by first | assumption | omega)) cl_X5_change wm_X9_133 dX9_set_75 rfl rfl rfl rfl rfl (by decide) (by decide) (by omega) (Nat.le_of_ble_eq_true rfl) rfl (fun v9 w9 hq9 => ?_)
          obtain ⟨nb5, rm5, st5, rfl, rfl, r_nb5, r_rm5, r_st5, hR2_75⟩ := hq9
          refine g_ws hC [cO xx 9 [.ref nA, .ref nZ, wx_taken, .ref hh, .ref q0, .ref t0, .ref g0], cO nA 8 [.ref h0, .ref po, .ref sr, .ref pr, .ref br, .int (iI ho)], cO q0 2 [.null, wq_facts, wq_weighed, .int (iI stp)], cO t0 7 [wt_trial, wt_pulls, wt_fewest, wt_whose, .int (iI rf), wt_way], cO h0 5 [.ref k0, .ref k1, .ref k2, .ref k3, .ref k4, .ref k5, .int (iI aw), .int (iI cn), .int (iI sp)], cA K k0 6 kd, cA K k1 6 nb5, cA K k2 6 rm5, cA K k3 6 st5, cA K k4 24 rw, cA K k5 6 nx] rfl ?_
          refine g_st hC [] rfl ?_
          refine g_aload_n (pc := 78) hC 1 dX9_set_78 rfl rfl ?_
          refine g_callV (pc := 79) (qr := 0) hC [0, 1, 2, 3] (k_X9_forget_n _ _ _ _ _ _ _ _ _ _ _ _ _ _ _ _ _ _ _ _ _ _ _ _ (by first | exact r_ho | assumption | omega) (by first | exact r_stp | assumption | omega) (by first | assumption | omega)) cl_X9_forgetWorked wm_X9_79 dX9_set_79 rfl rfl rfl rfl rfl (by decide) (by decide) (by omega) (Nat.le_of_ble_eq_true rfl) rfl (fun v9 w9 hq9 => ?_)
          obtain ⟨rfl, rfl⟩ := hq9
          refine g_ws hC [cO xx 9 [.ref nA, .ref nZ, wx_taken, .ref hh, .ref q0, .ref t0, .ref g0], cO nA 8 [.ref h0, .ref po, .ref sr, .ref pr, .ref br, .int (iI ho)], cO q0 2 [.null, wq_facts, wq_weighed, .int (iI (stp + 1))], cO t0 7 [wt_trial, wt_pulls, wt_fewest, wt_whose, .int (iI 0), wt_way], cO h0 5 [.ref k0, .ref k1, .ref k2, .ref k3, .ref k4, .ref k5, .int (iI aw), .int (iI cn), .int (iI sp)], cA K k0 6 kd, cA K k1 6 nb5, cA K k2 6 rm5, cA K k3 6 st5, cA K k4 24 rw, cA K k5 6 nx] rfl ?_
          refine g_st hC [] rfl ?_
          refine g_iload (pc := 82) hC 0 dX9_set_82 rfl ?_
          exact g_iret (pc := 84) hR dX9_set_84 rfl ⟨by omega, by omega⟩ (Nat.le_of_ble_eq_true rfl) ⟨nb5, rm5, st5, stp + 1, 0, ret_eq (by unfold an_set; rw [if_pos (by omega), if_neg (by omega), hp1.2.2.2.1]), rfl, (by first | assumption | omega), (by first | assumption | omega), (by first | assumption | omega), (by first | assumption | omega), (by decide), (by unfold ne_set; rw [if_pos (by omega), ← set_w (by omega)]; rw [if_pos hp] at hR2_75; exact hR2_75), (Or.inr ⟨rfl, rfl⟩)⟩
        · refine g_iconst (pc := 30) hC dX9_set_30 ?_
          exact g_iret (pc := 31) hR dX9_set_31 rfl ⟨by omega, by omega⟩ (Nat.le_of_ble_eq_true rfl) ⟨nb, rm, st, stp, rf, ret_eq (by unfold an_set; rw [if_neg (by omega)]), rfl, (by first | assumption | omega), (by first | assumption | omega), (by first | assumption | omega), (by first | exact r_stp | assumption | omega), (by first | exact r_rf | assumption | omega), (by unfold ne_set; rw [if_neg (by omega)]; exact hR9), (Or.inl ⟨by unfold ne_set; rw [if_neg (by omega)], rfl, rfl⟩)⟩
set_option maxHeartbeats 4000000 in
set_option maxRecDepth 100000 in
theorem k_X9_away_n {K : gK} (xx : Nat) (nA : Nat) (nZ : Nat) (hh : Nat) (q0 : Nat) (t0 : Nat) (g0 : Nat) (h0 : Nat) (po : Nat) (sr : Nat) (pr : Nat) (br : Nat) (k0 : Nat) (k1 : Nat) (k2 : Nat) (k3 : Nat) (k4 : Nat) (k5 : Nat) (wx_taken : Value) (wq_facts : Value) (wq_weighed : Value) (wt_trial : Value) (wt_pulls : Value) (wt_fewest : Value) (wt_whose : Value) (wt_way : Value) (p : Int) (z : Int) (ho : Int) (stp : Int) (rf : Int) (aw : Int) (cn : Int) (sp : Int) (kd : Int → Int) (nb : Int → Int) (rm : Int → Int) (st : Int → Int) (rw : Int → Int) (nx : Int → Int) (s : Int → Int) (r_p : rI p) (r_z : rI z) (r_ho : rI ho) (r_stp : rI stp) (r_rf : rI rf) (r_aw : rI aw) (r_cn : rI cn) (r_sp : rI sp) (r_kd : ∀ j, rI (kd j)) (r_nb : ∀ j, rI (nb j)) (r_rm : ∀ j, rI (rm j)) (r_st : ∀ j, rI (st j)) (r_rw : ∀ j, rI (rw j)) (r_nx : ∀ j, rI (nx j)) (hg : md_rg s) (hR9 : cs_R s kd nb rm st rw nx aw cn sp) (hstp : 1 ≤ stp ∧ stp ≤ 900000) (hho0 : ho = 0) (hz : z = 0 ∨ z = 1) : gMet K yX9_away cX9_away 4 (some .int) 2 0 0 [.ref xx, .int (iI p), .int (iI z)] [cO xx 9 [.ref nA, .ref nZ, wx_taken, .ref hh, .ref q0, .ref t0, .ref g0], cO nA 8 [.ref h0, .ref po, .ref sr, .ref pr, .ref br, .int (iI ho)], cO q0 2 [.null, wq_facts, wq_weighed, .int (iI stp)], cO t0 7 [wt_trial, wt_pulls, wt_fewest, wt_whose, .int (iI rf), wt_way], cO h0 5 [.ref k0, .ref k1, .ref k2, .ref k3, .ref k4, .ref k5, .int (iI aw), .int (iI cn), .int (iI sp)], cA K k0 6 kd, cA K k1 6 nb, cA K k2 6 rm, cA K k3 6 st, cA K k4 24 rw, cA K k5 6 nx] (fun v9 w9 => ∃ (aw2 : Int), ∃ (stp2 : Int), ∃ (rf2 : Int), v9 = some (.int (iI (an_away s p))) ∧ w9 = [cO xx 9 [.ref nA, .ref nZ, wx_taken, .ref hh, .ref q0, .ref t0, .ref g0], cO nA 8 [.ref h0, .ref po, .ref sr, .ref pr, .ref br, .int (iI ho)], cO q0 2 [.null, wq_facts, wq_weighed, .int (iI stp2)], cO t0 7 [wt_trial, wt_pulls, wt_fewest, wt_whose, .int (iI rf2), wt_way], cO h0 5 [.ref k0, .ref k1, .ref k2, .ref k3, .ref k4, .ref k5, .int (iI aw2), .int (iI cn), .int (iI sp)], cA K k0 6 kd, cA K k1 6 nb, cA K k2 6 rm, cA K k3 6 st, cA K k4 24 rw, cA K k5 6 nx] ∧ rI aw2 ∧ rI stp2 ∧ rI rf2 ∧ (cs_R (ne_away s p z) kd nb rm st rw nx aw2 cn sp) ∧ (((ne_away s p z) = s ∧ stp2 = stp ∧ rf2 = rf) ∨ (stp2 = stp + 1 ∧ rf2 = 0))) := by
  refine g_enter (by decide +kernel) (Nat.le_of_ble_eq_true rfl) (fun G hC hR => ?_)
  refine g_lv hC [0, 1, 2] [(0, _), (1, _), (2, _)] rfl ?_
  have h19 := hg.2.2.1
  have hg0 := hg.2.2.2
  have hcs := hR9.1
  refine g_aload_n (pc := 0) hC 0 dX9_away_0 rfl rfl ?_
  refine g_get (pc := 1) hC 0 fl_X9_12 dX9_away_1 rfl rfl ?_
  refine g_get (pc := 4) hC 1 fl_X9_85 dX9_away_4 rfl rfl ?_
  refine g_iload_n (pc := 7) hC 1 dX9_away_7 rfl rfl ?_
  refine g_fnV (pc := 8) (qr := 4) hC [4] (k_X5_has _ _ _ _ _ _ _ _ _ _ _ (by first | exact r_p | assumption | omega) (by first | exact r_cn | assumption | omega)) cl_X5_has wm_X9_94 dX9_away_8 rfl rfl rfl rfl rfl (by decide) (by decide) ⟨by omega, by omega⟩ (Nat.le_of_ble_eq_true rfl) rfl rfl ?_
  refine g_name hC (fun x8 e_x8 => ?_)
  have q_x8 := has_iff e_x8 (by omega)
  refine g_if_ne (pc := 11) hC 16 dX9_away_11 (by decide) (by first | exact r_x8 | assumption | omega) (fun c11 => ?_) (fun c11 => ?_)
  · have hp : 0 ≤ p ∧ p < s 19 := by omega
    have hp1 := hR9.2.1 p hp.1 hp.2
    have hgp := hg.1 p hp.1 (by omega)
    refine g_aload_n (pc := 16) hC 0 dX9_away_16 rfl rfl ?_
    refine g_get (pc := 17) hC 0 fl_X9_12 dX9_away_17 rfl rfl ?_
    refine g_get (pc := 20) hC 1 fl_X9_85 dX9_away_20 rfl rfl ?_
    refine g_get (pc := 23) hC 4 fl_X9_110 dX9_away_23 rfl rfl ?_
    refine g_iload_n (pc := 26) hC 1 dX9_away_26 rfl rfl ?_
    refine g_ishr (pc := 27) hC dX9_away_27 ?_
    refine g_iconst (pc := 28) hC dX9_away_28 ?_
    refine g_iand (pc := 29) hC dX9_away_29 ?_
    refine g_istore_n (pc := 30) hC [(3, _), (0, _), (1, _), (2, _)] dX9_away_30 rfl (by decide) rfl ?_
    refine g_aload_n (pc := 31) hC 1 dX9_away_31 rfl rfl ?_
    refine g_get (pc := 32) hC 0 fl_X9_12 dX9_away_32 rfl rfl ?_
    refine g_get (pc := 35) hC 1 fl_X9_85 dX9_away_35 rfl rfl ?_
    refine g_iload_n (pc := 38) hC 2 dX9_away_38 rfl rfl ?_
    refine g_iload_n (pc := 39) hC 3 dX9_away_39 rfl rfl ?_
    refine g_callV (pc := 40) (qr := 4) hC [4, 5, 6, 7, 8, 9, 10] (k_X5_send _ _ _ _ _ _ _ _ _ _ _ _ _ _ _ _ _ _ _ (by first | exact r_p | assumption | omega) (by first | exact r_z | assumption | omega) (by first | exact r_aw | assumption | omega) (by first | exact r_cn | assumption | omega) (by first | exact r_sp | assumption | omega) (by first | exact r_kd | assumption | omega) (by first | exact r_nb | assumption | omega) (by first | exact r_rm | assumption | omega) (by first | exact r_st | assumption | omega) (by first | exact r_rw | assumption | omega) (by first | exact r_nx | assumption | omega) (by first | assumption | omega) (by first | assumption | omega) (by first | assumption | omega)) cl_X5_send wm_X9_137 dX9_away_40 rfl rfl rfl rfl rfl (by decide) (by decide) (by omega) (Nat.le_of_ble_eq_true rfl) rfl (fun v9 w9 hq9 => ?_)
    obtain ⟨aw5, rfl, rfl, r_aw5, hR2_40⟩ := hq9
    refine g_ws hC [cO xx 9 [.ref nA, .ref nZ, wx_taken, .ref hh, .ref q0, .ref t0, .ref g0], cO nA 8 [.ref h0, .ref po, .ref sr, .ref pr, .ref br, .int (iI ho)], cO q0 2 [.null, wq_facts, wq_weighed, .int (iI stp)], cO t0 7 [wt_trial, wt_pulls, wt_fewest, wt_whose, .int (iI rf), wt_way], cO h0 5 [.ref k0, .ref k1, .ref k2, .ref k3, .ref k4, .ref k5, .int (iI aw5), .int (iI cn), .int (iI sp)], cA K k0 6 kd, cA K k1 6 nb, cA K k2 6 rm, cA K k3 6 st, cA K k4 24 rw, cA K k5 6 nx] rfl ?_
    refine g_st hC [] rfl ?_
    refine g_aload_n (pc := 43) hC 1 dX9_away_43 rfl rfl ?_
    refine g_callV (pc := 44) (qr := 0) hC [0, 1, 2, 3] (k_X9_forget_n _ _ _ _ _ _ _ _ _ _ _ _ _ _ _ _ _ _ _ _ _ _ _ _ (by first | exact r_ho | assumption | omega) (by first | exact r_stp | assumption | omega) (by first | assumption | omega)) cl_X9_forgetWorked wm_X9_79 dX9_away_44 rfl rfl rfl rfl rfl (by decide) (by decide) (by omega) (Nat.le_of_ble_eq_true rfl) rfl (fun v9 w9 hq9 => ?_)
    obtain ⟨rfl, rfl⟩ := hq9
    refine g_ws hC [cO xx 9 [.ref nA, .ref nZ, wx_taken, .ref hh, .ref q0, .ref t0, .ref g0], cO nA 8 [.ref h0, .ref po, .ref sr, .ref pr, .ref br, .int (iI ho)], cO q0 2 [.null, wq_facts, wq_weighed, .int (iI (stp + 1))], cO t0 7 [wt_trial, wt_pulls, wt_fewest, wt_whose, .int (iI 0), wt_way], cO h0 5 [.ref k0, .ref k1, .ref k2, .ref k3, .ref k4, .ref k5, .int (iI aw5), .int (iI cn), .int (iI sp)], cA K k0 6 kd, cA K k1 6 nb, cA K k2 6 rm, cA K k3 6 st, cA K k4 24 rw, cA K k5 6 nx] rfl ?_
    refine g_st hC [] rfl ?_
    refine g_iload_n (pc := 47) hC 0 dX9_away_47 rfl rfl ?_
    exact g_iret (pc := 48) hR dX9_away_48 rfl ⟨by omega, by omega⟩ (Nat.le_of_ble_eq_true rfl) ⟨aw5, stp + 1, 0, ret_eq (by unfold an_away; rw [if_pos (by omega), hp1.2.2.2.2]), rfl, (by first | exact r_aw5 | assumption | omega), (by first | assumption | omega), (by decide), (by unfold ne_away; rw [if_pos (by omega), away_z hz]; rw [if_pos hp] at hR2_40; exact hR2_40), (Or.inr ⟨rfl, rfl⟩)⟩
  · refine g_iconst (pc := 14) hC dX9_away_14 ?_
    exact g_iret (pc := 15) hR dX9_away_15 rfl ⟨by omega, by omega⟩ (Nat.le_of_ble_eq_true rfl) ⟨aw, stp, rf, ret_eq (by unfold an_away; rw [if_neg (by omega)]), rfl, (by first | exact r_aw | assumption | omega), (by first | exact r_stp | assumption | omega), (by first | exact r_rf | assumption | omega), (by unfold ne_away; rw [if_neg (by omega)]; exact hR9), (Or.inl ⟨by unfold ne_away; rw [if_neg (by omega)], rfl, rfl⟩)⟩
set_option maxHeartbeats 4000000 in
set_option maxRecDepth 100000 in
theorem k_X9_pass_n {K : gK} (xx : Nat) (nA : Nat) (nZ : Nat) (hh : Nat) (q0 : Nat) (t0 : Nat) (g0 : Nat) (h0 : Nat) (po : Nat) (sr : Nat) (pr : Nat) (br : Nat) (k0 : Nat) (k1 : Nat) (k2 : Nat) (k3 : Nat) (k4 : Nat) (k5 : Nat) (wx_taken : Value) (wq_facts : Value) (wq_weighed : Value) (wt_trial : Value) (wt_pulls : Value) (wt_fewest : Value) (wt_whose : Value) (wt_way : Value) (n : Int) (ho : Int) (stp : Int) (rf : Int) (aw : Int) (cn : Int) (sp : Int) (kd : Int → Int) (nb : Int → Int) (rm : Int → Int) (st : Int → Int) (rw : Int → Int) (nx : Int → Int) (s : Int → Int) (W : (Int → Int) → Int) (rch : Int) (r_n : rI n) (r_ho : rI ho) (r_stp : rI stp) (r_rf : rI rf) (r_aw : rI aw) (r_cn : rI cn) (r_sp : rI sp) (r_kd : ∀ j, rI (kd j)) (r_nb : ∀ j, rI (nb j)) (r_rm : ∀ j, rI (rm j)) (r_st : ∀ j, rI (st j)) (r_rw : ∀ j, rI (rw j)) (r_nx : ∀ j, rI (nx j)) (hg : md_rg s) (hR9 : cs_R s kd nb rm st rw nx aw cn sp) (hstp : 1 ≤ stp ∧ stp ≤ 900000) (hho0 : ho = 0) (hW0 : (∀ b, W b = 0) ∧ rch = 9) : gMet K yX9_pass cX9_pass 3 (some .int) 4 0 0 [.ref xx, .int (iI n)] [cO xx 9 [.ref nA, .ref nZ, wx_taken, .ref hh, .ref q0, .ref t0, .ref g0], cO nA 8 [.ref h0, .ref po, .ref sr, .ref pr, .ref br, .int (iI ho)], cO q0 2 [.null, wq_facts, wq_weighed, .int (iI stp)], cO t0 7 [wt_trial, wt_pulls, wt_fewest, wt_whose, .int (iI rf), wt_way], cO h0 5 [.ref k0, .ref k1, .ref k2, .ref k3, .ref k4, .ref k5, .int (iI aw), .int (iI cn), .int (iI sp)], cA K k0 6 kd, cA K k1 6 nb, cA K k2 6 rm, cA K k3 6 st, cA K k4 24 rw, cA K k5 6 nx] (fun v9 w9 => ∃ (st2 : Int → Int), ∃ (nx2 : Int → Int), ∃ (sp2 : Int), ∃ (stp2 : Int), ∃ (rf2 : Int), v9 = some (.int (iI (an_pass s n))) ∧ w9 = [cO xx 9 [.ref nA, .ref nZ, wx_taken, .ref hh, .ref q0, .ref t0, .ref g0], cO nA 8 [.ref h0, .ref po, .ref sr, .ref pr, .ref br, .int (iI ho)], cO q0 2 [.null, wq_facts, wq_weighed, .int (iI stp2)], cO t0 7 [wt_trial, wt_pulls, wt_fewest, wt_whose, .int (iI rf2), wt_way], cO h0 5 [.ref k0, .ref k1, .ref k2, .ref k3, .ref k4, .ref k5, .int (iI aw), .int (iI cn), .int (iI sp2)], cA K k0 6 kd, cA K k1 6 nb, cA K k2 6 rm, cA K k3 6 st2, cA K k4 24 rw, cA K k5 6 nx2] ∧ (∀ j, rI (st2 j)) ∧ (∀ j, rI (nx2 j)) ∧ rI sp2 ∧ rI stp2 ∧ rI rf2 ∧ (cs_R (ne_pass W rch s n) kd nb rm st2 rw nx2 aw cn sp2) ∧ (((ne_pass W rch s n) = s ∧ stp2 = stp ∧ rf2 = rf) ∨ (stp2 = stp + 1 ∧ rf2 = 0))) := by
  refine g_enter (by decide +kernel) (Nat.le_of_ble_eq_true rfl) (fun G hC hR => ?_)
  refine g_lv hC [0, 1] [(0, _), (1, _)] rfl ?_
  have h19 := hg.2.2.1
  have hg0 := hg.2.2.2
  have hcs := hR9.1
  refine g_iload_n (pc := 0) hC 1 dX9_pass_0 rfl rfl ?_
  refine g_if_lt (pc := 1) hC 10 dX9_pass_1 (by decide) (by first | exact r_n | assumption | omega) (fun c1 => ?_) (fun c1 => ?_)
  · refine g_bipush (pc := 10) hC (-2) dX9_pass_10 (by decide) ?_
    exact g_iret (pc := 12) hR dX9_pass_12 rfl ⟨by omega, by omega⟩ (Nat.le_of_ble_eq_true rfl) ⟨st, nx, sp, stp, rf, ret_eq (by unfold an_pass; rw [if_neg (by omega)]), rfl, (by first | assumption | omega), (by first | assumption | omega), (by first | exact r_sp | assumption | omega), (by first | exact r_stp | assumption | omega), (by first | exact r_rf | assumption | omega), (by unfold ne_pass; rw [if_neg (by omega)]; exact hR9), (Or.inl ⟨by unfold ne_pass; rw [if_neg (by omega)], rfl, rfl⟩)⟩
  · refine g_iload_n (pc := 4) hC 1 dX9_pass_4 rfl rfl ?_
    refine g_bipush (pc := 5) hC (60) dX9_pass_5 (by decide) ?_
    refine g_icmp_le (pc := 7) hC 13 dX9_pass_7 (by decide) (by first | exact r_n | assumption | omega) (by first | assumption | decide | omega) (fun c7 => ?_) (fun c7 => ?_)
    · refine g_aload_n (pc := 13) hC 0 dX9_pass_13 rfl rfl ?_
      refine g_get (pc := 14) hC 0 fl_X9_12 dX9_pass_14 rfl rfl ?_
      refine g_get (pc := 17) hC 1 fl_X9_85 dX9_pass_17 rfl rfl ?_
      refine g_get (pc := 20) hC 4 fl_X9_141 dX9_pass_20 rfl rfl ?_
      refine g_iload_n (pc := 23) hC 1 dX9_pass_23 rfl rfl ?_
      refine g_iadd (pc := 24) hC dX9_pass_24 ?_
      refine g_sipush (pc := 25) hC (9999) dX9_pass_25 (by decide) ?_
      refine g_icmp_le (pc := 28) hC 34 dX9_pass_28 (by decide) (by first | assumption | decide | omega) (by first | assumption | decide | omega) (fun c28 => ?_) (fun c28 => ?_)
      · refine g_iconst (pc := 34) hC dX9_pass_34 ?_
        refine g_istore_n (pc := 35) hC [(2, _), (0, _), (1, _)] dX9_pass_35 rfl (by decide) rfl ?_
        have L36 : ∀ (n1 : Nat) (i : Int) (ts1 : Int → Int) (tx1 : Int → Int) (tp1 : Int) (j : Nat), (rI i) → (∀ j, rI (ts1 j)) → (∀ j, rI (tx1 j)) → (rI tp1) → (i = (j : Int)) → (i ≤ n) → (cs_R (md_goN W rch s j) kd nb rm ts1 rw tx1 aw cn tp1) → n - i < (n1 : Int) → G 0 0 36 [(0, .ref xx), (1, .int (iI n)), (2, .int (iI i))] [] [cO xx 9 [.ref nA, .ref nZ, wx_taken, .ref hh, .ref q0, .ref t0, .ref g0], cO nA 8 [.ref h0, .ref po, .ref sr, .ref pr, .ref br, .int (iI ho)], cO q0 2 [.null, wq_facts, wq_weighed, .int (iI stp)], cO t0 7 [wt_trial, wt_pulls, wt_fewest, wt_whose, .int (iI rf), wt_way], cO h0 5 [.ref k0, .ref k1, .ref k2, .ref k3, .ref k4, .ref k5, .int (iI aw), .int (iI cn), .int (iI tp1)], cA K k0 6 kd, cA K k1 6 nb, cA K k2 6 rm, cA K k3 6 ts1, cA K k4 24 rw, cA K k5 6 tx1] := by
          intro n1
          induction n1 with
          | zero => intro i ts1 tx1 tp1 j r_i r_ts1 r_tx1 r_tp1 hi hj hR1 hm36; exfalso; omega
          | succ n1 ih36 =>
            intro i ts1 tx1 tp1 j r_i r_ts1 r_tx1 r_tp1 hi hj hR1 hm36
            have hgj : md_rg (md_goN W rch s j) := md_goN_rg hg j (by omega)
            have h0j : (md_goN W rch s j) 0 = s 0 + (j : Int) := md_goN_0 j
            have hR10 := hR1.1
            refine g_iload_n (pc := 36) hC 2 dX9_pass_36 rfl rfl ?_
            refine g_iload_n (pc := 37) hC 1 dX9_pass_37 rfl rfl ?_
            refine g_icmp_ge (pc := 38) hC 61 dX9_pass_38 (by decide) (by first | exact r_i | assumption | omega) (by first | exact r_n | assumption | omega) (fun c38 => ?_) (fun c38 => ?_)
            · have hne : ne_pass W rch s n = (md_goN W rch s j) := by unfold ne_pass; rw [if_pos (by omega), show n.toNat = j by omega]
              refine g_aload_n (pc := 61) hC 0 dX9_pass_61 rfl rfl ?_
              refine g_callV (pc := 62) (qr := 0) hC [0, 1, 2, 3] (k_X9_forget_n _ _ _ _ _ _ _ _ _ _ _ _ _ _ _ _ _ _ _ _ _ _ _ _ (by first | exact r_ho | assumption | omega) (by first | exact r_stp | assumption | omega) (by first | assumption | omega)) cl_X9_forgetWorked wm_X9_79 dX9_pass_62 rfl rfl rfl rfl rfl (by decide) (by decide) (by omega) (Nat.le_of_ble_eq_true rfl) rfl (fun v9 w9 hq9 => ?_)
              obtain ⟨rfl, rfl⟩ := hq9
              refine g_ws hC [cO xx 9 [.ref nA, .ref nZ, wx_taken, .ref hh, .ref q0, .ref t0, .ref g0], cO nA 8 [.ref h0, .ref po, .ref sr, .ref pr, .ref br, .int (iI ho)], cO q0 2 [.null, wq_facts, wq_weighed, .int (iI (stp + 1))], cO t0 7 [wt_trial, wt_pulls, wt_fewest, wt_whose, .int (iI 0), wt_way], cO h0 5 [.ref k0, .ref k1, .ref k2, .ref k3, .ref k4, .ref k5, .int (iI aw), .int (iI cn), .int (iI tp1)], cA K k0 6 kd, cA K k1 6 nb, cA K k2 6 rm, cA K k3 6 ts1, cA K k4 24 rw, cA K k5 6 tx1] rfl ?_
              refine g_st hC [] rfl ?_
              refine g_aload_n (pc := 65) hC 0 dX9_pass_65 rfl rfl ?_
              refine g_get (pc := 66) hC 0 fl_X9_12 dX9_pass_66 rfl rfl ?_
              refine g_get (pc := 69) hC 1 fl_X9_85 dX9_pass_69 rfl rfl ?_
              refine g_get (pc := 72) hC 4 fl_X9_141 dX9_pass_72 rfl rfl ?_
              exact g_iret (pc := 75) hR dX9_pass_75 rfl ⟨by omega, by omega⟩ (Nat.le_of_ble_eq_true rfl) ⟨ts1, tx1, tp1, stp + 1, 0, ret_eq (by unfold an_pass; rw [if_pos (by omega), if_neg (by omega)]; omega), rfl, (by first | assumption | omega), (by first | assumption | omega), (by first | exact r_tp1 | assumption | omega), (by first | assumption | omega), (by decide), (by rw [hne]; exact hR1), (Or.inr ⟨rfl, rfl⟩)⟩
            · refine g_aload_n (pc := 41) hC 0 dX9_pass_41 rfl rfl ?_
              refine g_get (pc := 42) hC 0 fl_X9_12 dX9_pass_42 rfl rfl ?_
              refine g_get (pc := 45) hC 1 fl_X9_85 dX9_pass_45 rfl rfl ?_
              refine g_aload_n (pc := 48) hC 0 dX9_pass_48 rfl rfl ?_
              refine g_get (pc := 49) hC 0 fl_X9_30 dX9_pass_49 rfl rfl ?_
              refine g_callV (pc := 52) (qr := 4) hC [2, 4, 5, 6, 7, 8, 9, 10] (k_X5_goOneStep_n _ _ _ _ _ _ _ _ _ _ _ _ _ _ _ _ _ _ _ _ (md_goN W rch s j) W rch (by first | exact r_aw | assumption | omega) (by first | exact r_cn | assumption | omega) (by first | exact r_tp1 | assumption | omega) (by first | exact r_kd | assumption | omega) (by first | exact r_nb | assumption | omega) (by first | exact r_rm | assumption | omega) (by first | exact r_ts1 | assumption | omega) (by first | exact r_rw | assumption | omega) (by first | exact r_tx1 | assumption | omega) hgj hR1 (by first | assumption | omega)) cl_X5_goOneStep wm_X9_155 dX9_pass_52 rfl rfl rfl rfl rfl (by decide) (by decide) (by omega) (Nat.le_of_ble_eq_true rfl) rfl (fun v9 w9 hq9 => ?_)
              obtain ⟨n2, st3, rfl, rfl, r_n2, r_st3, hR2_52⟩ := hq9
              refine g_ws hC [cO xx 9 [.ref nA, .ref nZ, wx_taken, .ref hh, .ref q0, .ref t0, .ref g0], cO nA 8 [.ref h0, .ref po, .ref sr, .ref pr, .ref br, .int (iI ho)], cO q0 2 [.null, wq_facts, wq_weighed, .int (iI stp)], cO t0 7 [wt_trial, wt_pulls, wt_fewest, wt_whose, .int (iI rf), wt_way], cO h0 5 [.ref k0, .ref k1, .ref k2, .ref k3, .ref k4, .ref k5, .int (iI aw), .int (iI cn), .int (iI (tp1 + 1))], cA K k0 6 kd, cA K k1 6 nb, cA K k2 6 rm, cA K k3 6 st3, cA K k4 24 rw, cA K k5 6 n2] rfl ?_
              refine g_st hC [] rfl ?_
              refine g_iinc (pc := 55) hC 2 [(2, _), (0, _), (1, _)] dX9_pass_55 rfl (by decide) rfl ?_
              refine g_goto (pc := 58) hC 36 dX9_pass_58 (by decide) ?_
              refine g_lv hC [1, 2, 0] [(0, _), (1, _), (2, _)] rfl ?_
              exact ih36 (i + 1) st3 n2 (tp1 + 1) (j + 1) (by first | assumption | omega) (by first | assumption | omega) (by first | assumption | omega) (by have h9 := hR1.1; have h8 := hgj.2.2.2; omega) (by first | assumption | omega) (by first | assumption | omega) hR2_52 (by omega)
        refine g_lv hC [1, 2, 0] [(0, _), (1, _), (2, _)] rfl ?_
        exact L36 ((n - 0 : Int).toNat + 1) 0 st nx sp 0 (by decide) (by first | assumption | omega) (by first | assumption | omega) (by first | exact r_sp | assumption | omega) (by first | assumption | omega) (by first | assumption | omega) hR9 (by omega)
      · refine g_bipush (pc := 31) hC (-3) dX9_pass_31 (by decide) ?_
        exact g_iret (pc := 33) hR dX9_pass_33 rfl ⟨by omega, by omega⟩ (Nat.le_of_ble_eq_true rfl) ⟨st, nx, sp, stp, rf, ret_eq (by unfold an_pass; rw [if_pos (by omega), if_pos (by omega)]), rfl, (by first | assumption | omega), (by first | assumption | omega), (by first | exact r_sp | assumption | omega), (by first | exact r_stp | assumption | omega), (by first | exact r_rf | assumption | omega), (by unfold ne_pass; rw [if_neg (by omega)]; exact hR9), (Or.inl ⟨by unfold ne_pass; rw [if_neg (by omega)], rfl, rfl⟩)⟩
    · refine g_bipush (pc := 10) hC (-2) dX9_pass_10 (by decide) ?_
      exact g_iret (pc := 12) hR dX9_pass_12 rfl ⟨by omega, by omega⟩ (Nat.le_of_ble_eq_true rfl) ⟨st, nx, sp, stp, rf, ret_eq (by unfold an_pass; rw [if_neg (by omega)]), rfl, (by first | assumption | omega), (by first | assumption | omega), (by first | exact r_sp | assumption | omega), (by first | exact r_stp | assumption | omega), (by first | exact r_rf | assumption | omega), (by unfold ne_pass; rw [if_neg (by omega)]; exact hR9), (Or.inl ⟨by unfold ne_pass; rw [if_neg (by omega)], rfl, rfl⟩)⟩
set_option maxHeartbeats 4000000 in
set_option maxRecDepth 100000 in
theorem k_X9_man_r {K : gK} (xx : Nat) (nA : Nat) (nZ : Nat) (hh : Nat) (q0 : Nat) (t0 : Nat) (g0 : Nat) (h0 : Nat) (po : Nat) (sr : Nat) (pr : Nat) (br : Nat) (o0 : Nat) (q1 : Nat) (q2 : Nat) (o1 : Nat) (k0 : Nat) (k1 : Nat) (k2 : Nat) (k3 : Nat) (k4 : Nat) (k5 : Nat) (wx_taken : Value) (wt_trial : Value) (wt_pulls : Value) (wt_fewest : Value) (wt_whose : Value) (wt_way : Value) (hm : Nat → Option Nat) (kind : Int) (v : Int) (room : Int) (t : Int) (ho : Int) (stp : Int) (m : Int) (rc : Int) (rf : Int) (aw : Int) (cn : Int) (sp : Int) (fc : Int → Int) (wg : Int → Int) (od : Int → Int) (kd : Int → Int) (nb : Int → Int) (rm : Int → Int) (st : Int → Int) (rw : Int → Int) (nx : Int → Int) (s : Int → Int) (r_kind : rI kind) (r_v : rI v) (r_room : rI room) (r_t : rI t) (r_ho : rI ho) (r_stp : rI stp) (r_m : rI m) (r_rc : rI rc) (r_rf : rI rf) (r_aw : rI aw) (r_cn : rI cn) (r_sp : rI sp) (r_fc : ∀ j, rI (fc j)) (r_wg : ∀ j, rI (wg j)) (r_od : ∀ j, rI (od j)) (r_kd : ∀ j, rI (kd j)) (r_nb : ∀ j, rI (nb j)) (r_rm : ∀ j, rI (rm j)) (r_st : ∀ j, rI (st j)) (r_rw : ∀ j, rI (rw j)) (r_nx : ∀ j, rI (nx j)) (hg : md_rg s) (hR9 : cs_R s kd nb rm st rw nx aw cn sp) (hstp : 1 ≤ stp ∧ stp ≤ 900000) (hho1 : 1 ≤ ho ∧ ho ≤ 5) (hhm : hm (ho - 1).toNat = some o0) : gMet K yX9_man cX9_man 6 (some .int) 2 0 0 [.ref xx, .int (iI kind), .int (iI v), .int (iI room), .int (iI t)] [cO xx 9 [.ref nA, .ref nZ, wx_taken, .ref hh, .ref q0, .ref t0, .ref g0], cO nA 8 [.ref h0, .ref po, .ref sr, .ref pr, .ref br, .int (iI ho)], cO q0 2 [.ref o0, .ref q1, .ref q2, .int (iI stp)], cA K q1 6 fc, cA K q2 36000 wg, cO o0 1 [.ref o1, .int (iI m), .int (iI rc)], cA K o1 100 od, cO t0 7 [wt_trial, wt_pulls, wt_fewest, wt_whose, .int (iI rf), wt_way], cO h0 5 [.ref k0, .ref k1, .ref k2, .ref k3, .ref k4, .ref k5, .int (iI aw), .int (iI cn), .int (iI sp)], cA K k0 6 kd, cA K k1 6 nb, cA K k2 6 rm, cA K k3 6 st, cA K k4 24 rw, cA K k5 6 nx, cH K hh 5 hm] (fun v9 w9 => ∃ (kd2 : Int → Int), ∃ (nb2 : Int → Int), ∃ (rm2 : Int → Int), ∃ (st2 : Int → Int), ∃ (cn2 : Int), ∃ (stp2 : Int), ∃ (rf2 : Int), v9 = some (.int (iI (an_man s kind v room t))) ∧ w9 = [cO xx 9 [.ref nA, .ref nZ, wx_taken, .ref hh, .ref q0, .ref t0, .ref g0], cO nA 8 [.ref h0, .ref po, .ref sr, .ref pr, .ref br, .int (iI ho)], cO q0 2 [.ref o0, .ref q1, .ref q2, .int (iI stp2)], cA K q1 6 fc, cA K q2 36000 wg, cO o0 1 [.ref o1, .int (iI m), .int (iI rc)], cA K o1 100 od, cO t0 7 [wt_trial, wt_pulls, wt_fewest, wt_whose, .int (iI rf2), wt_way], cO h0 5 [.ref k0, .ref k1, .ref k2, .ref k3, .ref k4, .ref k5, .int (iI aw), .int (iI cn2), .int (iI sp)], cA K k0 6 kd2, cA K k1 6 nb2, cA K k2 6 rm2, cA K k3 6 st2, cA K k4 24 rw, cA K k5 6 nx, cH K hh 5 hm] ∧ (∀ j, rI (kd2 j)) ∧ (∀ j, rI (nb2 j)) ∧ (∀ j, rI (rm2 j)) ∧ (∀ j, rI (st2 j)) ∧ rI cn2 ∧ rI stp2 ∧ rI rf2 ∧ (cs_R (ne_man s kind v room t) kd2 nb2 rm2 st2 rw nx aw cn2 sp) ∧ (((ne_man s kind v room t) = s ∧ stp2 = stp ∧ rf2 = rf) ∨ (stp2 = stp + 1 ∧ rf2 = 0))) := by
  refine g_enter (by decide +kernel) (Nat.le_of_ble_eq_true rfl) (fun G hC hR => ?_)
  refine g_lv hC [0, 1, 2, 3, 4] [(0, _), (1, _), (2, _), (3, _), (4, _)] rfl ?_
  have h19 := hg.2.2.1
  have hg0 := hg.2.2.2
  have hcs := hR9.1
  refine g_iload_n (pc := 0) hC 1 dX9_man_0 rfl rfl ?_
  refine g_if_lt (pc := 1) hC 25 dX9_man_1 (by decide) (by first | exact r_kind | assumption | omega) (fun c1 => ?_) (fun c1 => ?_)
  · refine g_iconst (pc := 25) hC dX9_man_25 ?_
    exact g_iret (pc := 26) hR dX9_man_26 rfl ⟨by omega, by omega⟩ (Nat.le_of_ble_eq_true rfl) ⟨kd, nb, rm, st, cn, stp, rf, ret_eq (by unfold an_man; rw [if_neg (by omega)]), rfl, (by first | assumption | omega), (by first | assumption | omega), (by first | assumption | omega), (by first | assumption | omega), (by first | exact r_cn | assumption | omega), (by first | exact r_stp | assumption | omega), (by first | exact r_rf | assumption | omega), (by unfold ne_man; rw [if_neg (by omega)]; exact hR9), (Or.inl ⟨by unfold ne_man; rw [if_neg (by omega)], rfl, rfl⟩)⟩
  · refine g_iload_n (pc := 4) hC 1 dX9_man_4 rfl rfl ?_
    refine g_bipush (pc := 5) hC (7) dX9_man_5 (by decide) ?_
    refine g_icmp_ge (pc := 7) hC 25 dX9_man_7 (by decide) (by first | exact r_kind | assumption | omega) (by first | assumption | decide | omega) (fun c7 => ?_) (fun c7 => ?_)
    · refine g_iconst (pc := 25) hC dX9_man_25 ?_
      exact g_iret (pc := 26) hR dX9_man_26 rfl ⟨by omega, by omega⟩ (Nat.le_of_ble_eq_true rfl) ⟨kd, nb, rm, st, cn, stp, rf, ret_eq (by unfold an_man; rw [if_neg (by omega)]), rfl, (by first | assumption | omega), (by first | assumption | omega), (by first | assumption | omega), (by first | assumption | omega), (by first | exact r_cn | assumption | omega), (by first | exact r_stp | assumption | omega), (by first | exact r_rf | assumption | omega), (by unfold ne_man; rw [if_neg (by omega)]; exact hR9), (Or.inl ⟨by unfold ne_man; rw [if_neg (by omega)], rfl, rfl⟩)⟩
    · refine g_iload_n (pc := 10) hC 3 dX9_man_10 rfl rfl ?_
      refine g_fnS (pc := 11) hC [] (k_X9_isDigit _ (by first | exact r_room | assumption | omega)) cl_X9_isDigit wm_X9_82 dX9_man_11 rfl rfl (by decide) (by decide) ⟨by omega, by omega⟩ (Nat.le_of_ble_eq_true rfl) rfl rfl ?_
      refine g_name hC (fun x11 e_x11 => ?_)
      have q_x11 := dig_iff e_x11
      refine g_if_eq (pc := 14) hC 25 dX9_man_14 (by decide) (by first | exact r_x11 | assumption | omega) (fun c14 => ?_) (fun c14 => ?_)
      · refine g_iconst (pc := 25) hC dX9_man_25 ?_
        exact g_iret (pc := 26) hR dX9_man_26 rfl ⟨by omega, by omega⟩ (Nat.le_of_ble_eq_true rfl) ⟨kd, nb, rm, st, cn, stp, rf, ret_eq (by unfold an_man; rw [if_neg (by omega)]), rfl, (by first | assumption | omega), (by first | assumption | omega), (by first | assumption | omega), (by first | assumption | omega), (by first | exact r_cn | assumption | omega), (by first | exact r_stp | assumption | omega), (by first | exact r_rf | assumption | omega), (by unfold ne_man; rw [if_neg (by omega)]; exact hR9), (Or.inl ⟨by unfold ne_man; rw [if_neg (by omega)], rfl, rfl⟩)⟩
      · refine g_iload (pc := 17) hC 4 dX9_man_17 rfl ?_
        refine g_fnS (pc := 19) hC [] (k_X9_isDigit _ (by first | exact r_t | assumption | omega)) cl_X9_isDigit wm_X9_82 dX9_man_19 rfl rfl (by decide) (by decide) ⟨by omega, by omega⟩ (Nat.le_of_ble_eq_true rfl) rfl rfl ?_
        refine g_name hC (fun x19 e_x19 => ?_)
        have q_x19 := dig_iff e_x19
        refine g_if_ne (pc := 22) hC 27 dX9_man_22 (by decide) (by first | exact r_x19 | assumption | omega) (fun c22 => ?_) (fun c22 => ?_)
        · refine g_iload_n (pc := 27) hC 2 dX9_man_27 rfl rfl ?_
          refine g_fnS (pc := 28) hC [] (k_X9_isDigit _ (by first | exact r_v | assumption | omega)) cl_X9_isDigit wm_X9_82 dX9_man_28 rfl rfl (by decide) (by decide) ⟨by omega, by omega⟩ (Nat.le_of_ble_eq_true rfl) rfl rfl ?_
          refine g_name hC (fun x28 e_x28 => ?_)
          have q_x28 := dig_iff e_x28
          refine g_if_ne (pc := 31) hC 37 dX9_man_31 (by decide) (by first | exact r_x28 | assumption | omega) (fun c31 => ?_) (fun c31 => ?_)
          · refine g_aload_n (pc := 37) hC 0 dX9_man_37 rfl rfl ?_
            refine g_get (pc := 38) hC 0 fl_X9_12 dX9_man_38 rfl rfl ?_
            refine g_get (pc := 41) hC 1 fl_X9_85 dX9_man_41 rfl rfl ?_
            refine g_iload_n (pc := 44) hC 1 dX9_man_44 rfl rfl ?_
            refine g_iload_n (pc := 45) hC 2 dX9_man_45 rfl rfl ?_
            refine g_iload_n (pc := 46) hC 3 dX9_man_46 rfl rfl ?_
            refine g_iload (pc := 47) hC 4 dX9_man_47 rfl ?_
            refine g_callV (pc := 49) (qr := 8) hC [8, 9, 10, 11, 12, 13, 14] (k_X5_add _ _ _ _ _ _ _ _ _ _ _ _ _ _ _ _ _ _ _ _ _ (by first | exact r_kind | assumption | omega) (by first | exact r_v | assumption | omega) (by first | exact r_room | assumption | omega) (by first | exact r_t | assumption | omega) (by first | exact r_aw | assumption | omega) (by first | exact r_cn | assumption | omega) (by first | exact r_sp | assumption | omega) (by first | exact r_kd | assumption | omega) (by first | exact r_nb | assumption | omega) (by first | exact r_rm | assumption | omega) (by first | exact r_st | assumption | omega) (by first | exact r_rw | assumption | omega) (by first | exact r_nx | assumption | omega) (by first | assumption | omega) (by first | assumption | omega) (by first | assumption | omega)) cl_X5_add wm_X9_89 dX9_man_49 rfl rfl rfl rfl rfl (by decide) (by decide) (by omega) (Nat.le_of_ble_eq_true rfl) rfl (fun v9 w9 hq9 => ?_)
            obtain ⟨kd5, nb5, rm5, st5, cn5, rfl, rfl, r_kd5, r_nb5, r_rm5, r_st5, r_cn5, hR2_49⟩ := hq9
            refine g_ws hC [cO xx 9 [.ref nA, .ref nZ, wx_taken, .ref hh, .ref q0, .ref t0, .ref g0], cO nA 8 [.ref h0, .ref po, .ref sr, .ref pr, .ref br, .int (iI ho)], cO q0 2 [.ref o0, .ref q1, .ref q2, .int (iI stp)], cA K q1 6 fc, cA K q2 36000 wg, cO o0 1 [.ref o1, .int (iI m), .int (iI rc)], cA K o1 100 od, cO t0 7 [wt_trial, wt_pulls, wt_fewest, wt_whose, .int (iI rf), wt_way], cO h0 5 [.ref k0, .ref k1, .ref k2, .ref k3, .ref k4, .ref k5, .int (iI aw), .int (iI cn5), .int (iI sp)], cA K k0 6 kd5, cA K k1 6 nb5, cA K k2 6 rm5, cA K k3 6 st5, cA K k4 24 rw, cA K k5 6 nx, cH K hh 5 hm] rfl ?_
            refine g_st hC [.int (iI (if s 19 = 6 then -1 else s 19))] rfl ?_
            refine g_name hC (fun mn e_mn => ?_)
            have q_mn : (s 19 = 6 ∧ mn = -1) ∨ (¬ s 19 = 6 ∧ mn = s 19) := by rw [e_mn]; split <;> omega
            refine g_istore (pc := 52) hC [(5, _), (0, _), (1, _), (2, _), (3, _), (4, _)] dX9_man_52 (by decide) rfl ?_
            refine g_iload (pc := 54) hC 0 dX9_man_54 rfl ?_
            refine g_if_ge (pc := 56) hC 62 dX9_man_56 (by decide) (by first | exact r_mn | assumption | omega) (fun c56 => ?_) (fun c56 => ?_)
            · refine g_aload_n (pc := 62) hC 1 dX9_man_62 rfl rfl ?_
              refine g_callV (pc := 63) (qr := 0) hC [0, 1, 2, 4, 7, 15] (k_X9_forget_r _ _ _ _ _ _ _ _ _ _ _ _ _ _ _ _ _ _ _ _ _ _ _ _ _ _ o0 (by first | exact r_ho | assumption | omega) (by first | exact r_stp | assumption | omega) (by first | exact r_wg | assumption | omega) (by first | assumption | omega) hhm) cl_X9_forgetWorked wm_X9_79 dX9_man_63 rfl rfl rfl rfl rfl (by decide) (by decide) (by omega) (Nat.le_of_ble_eq_true rfl) rfl (fun v9 w9 hq9 => ?_)
              obtain ⟨rfl, rfl⟩ := hq9
              refine g_ws hC [cO xx 9 [.ref nA, .ref nZ, wx_taken, .ref hh, .ref q0, .ref t0, .ref g0], cO nA 8 [.ref h0, .ref po, .ref sr, .ref pr, .ref br, .int (iI ho)], cO q0 2 [.ref o0, .ref q1, .ref q2, .int (iI (stp + 1))], cA K q1 6 fc, cA K q2 36000 wg, cO o0 1 [.ref o1, .int (iI m), .int (iI rc)], cA K o1 100 od, cO t0 7 [wt_trial, wt_pulls, wt_fewest, wt_whose, .int (iI 0), wt_way], cO h0 5 [.ref k0, .ref k1, .ref k2, .ref k3, .ref k4, .ref k5, .int (iI aw), .int (iI cn5), .int (iI sp)], cA K k0 6 kd5, cA K k1 6 nb5, cA K k2 6 rm5, cA K k3 6 st5, cA K k4 24 rw, cA K k5 6 nx, cH K hh 5 hm] rfl ?_
              refine g_st hC [] rfl ?_
              refine g_iload (pc := 66) hC 0 dX9_man_66 rfl ?_
              exact g_iret (pc := 68) hR dX9_man_68 rfl ⟨by omega, by omega⟩ (Nat.le_of_ble_eq_true rfl) ⟨kd5, nb5, rm5, st5, cn5, stp + 1, 0, ret_eq (by unfold an_man; rw [if_pos (by omega), if_pos (by omega), if_neg (by omega)]; omega), rfl, (by first | assumption | omega), (by first | assumption | omega), (by first | assumption | omega), (by first | assumption | omega), (by first | exact r_cn5 | assumption | omega), (by first | assumption | omega), (by decide), (by unfold ne_man; rw [if_pos (by omega)]; rw [if_neg (by omega)] at hR2_49; exact hR2_49), (Or.inr ⟨rfl, rfl⟩)⟩
            · refine g_bipush (pc := 59) hC (-4) dX9_man_59 (by decide) ?_
              exact g_iret (pc := 61) hR dX9_man_61 rfl ⟨by omega, by omega⟩ (Nat.le_of_ble_eq_true rfl) ⟨kd5, nb5, rm5, st5, cn5, stp, rf, ret_eq (by unfold an_man; rw [if_pos (by omega), if_pos (by omega), if_pos (by omega)]), rfl, (by first | assumption | omega), (by first | assumption | omega), (by first | assumption | omega), (by first | assumption | omega), (by first | exact r_cn5 | assumption | omega), (by first | exact r_stp | assumption | omega), (by first | exact r_rf | assumption | omega), (by unfold ne_man; rw [if_neg (by omega)]; rw [if_pos (by omega)] at hR2_49; exact hR2_49), (Or.inl ⟨by unfold ne_man; rw [if_neg (by omega)], rfl, rfl⟩)⟩
          · refine g_bipush (pc := 34) hC (-2) dX9_man_34 (by decide) ?_
            exact g_iret (pc := 36) hR dX9_man_36 rfl ⟨by omega, by omega⟩ (Nat.le_of_ble_eq_true rfl) ⟨kd, nb, rm, st, cn, stp, rf, ret_eq (by unfold an_man; rw [if_pos (by omega), if_neg (by omega)]), rfl, (by first | assumption | omega), (by first | assumption | omega), (by first | assumption | omega), (by first | assumption | omega), (by first | exact r_cn | assumption | omega), (by first | exact r_stp | assumption | omega), (by first | exact r_rf | assumption | omega), (by unfold ne_man; rw [if_neg (by omega)]; exact hR9), (Or.inl ⟨by unfold ne_man; rw [if_neg (by omega)], rfl, rfl⟩)⟩
        · refine g_iconst (pc := 25) hC dX9_man_25 ?_
          exact g_iret (pc := 26) hR dX9_man_26 rfl ⟨by omega, by omega⟩ (Nat.le_of_ble_eq_true rfl) ⟨kd, nb, rm, st, cn, stp, rf, ret_eq (by unfold an_man; rw [if_neg (by omega)]), rfl, (by first | assumption | omega), (by first | assumption | omega), (by first | assumption | omega), (by first | assumption | omega), (by first | exact r_cn | assumption | omega), (by first | exact r_stp | assumption | omega), (by first | exact r_rf | assumption | omega), (by unfold ne_man; rw [if_neg (by omega)]; exact hR9), (Or.inl ⟨by unfold ne_man; rw [if_neg (by omega)], rfl, rfl⟩)⟩
set_option maxHeartbeats 4000000 in
set_option maxRecDepth 100000 in
theorem k_X9_row_r {K : gK} (xx : Nat) (nA : Nat) (nZ : Nat) (hh : Nat) (q0 : Nat) (t0 : Nat) (g0 : Nat) (h0 : Nat) (po : Nat) (sr : Nat) (pr : Nat) (br : Nat) (o0 : Nat) (q1 : Nat) (q2 : Nat) (o1 : Nat) (k0 : Nat) (k1 : Nat) (k2 : Nat) (k3 : Nat) (k4 : Nat) (k5 : Nat) (wx_taken : Value) (wt_trial : Value) (wt_pulls : Value) (wt_fewest : Value) (wt_whose : Value) (wt_way : Value) (hm : Nat → Option Nat) (p : Int) (k : Int) (x : Int) (ho : Int) (stp : Int) (m : Int) (rc : Int) (rf : Int) (aw : Int) (cn : Int) (sp : Int) (fc : Int → Int) (wg : Int → Int) (od : Int → Int) (kd : Int → Int) (nb : Int → Int) (rm : Int → Int) (st : Int → Int) (rw : Int → Int) (nx : Int → Int) (s : Int → Int) (r_p : rI p) (r_k : rI k) (r_x : rI x) (r_ho : rI ho) (r_stp : rI stp) (r_m : rI m) (r_rc : rI rc) (r_rf : rI rf) (r_aw : rI aw) (r_cn : rI cn) (r_sp : rI sp) (r_fc : ∀ j, rI (fc j)) (r_wg : ∀ j, rI (wg j)) (r_od : ∀ j, rI (od j)) (r_kd : ∀ j, rI (kd j)) (r_nb : ∀ j, rI (nb j)) (r_rm : ∀ j, rI (rm j)) (r_st : ∀ j, rI (st j)) (r_rw : ∀ j, rI (rw j)) (r_nx : ∀ j, rI (nx j)) (hg : md_rg s) (hR9 : cs_R s kd nb rm st rw nx aw cn sp) (hstp : 1 ≤ stp ∧ stp ≤ 900000) (hho1 : 1 ≤ ho ∧ ho ≤ 5) (hhm : hm (ho - 1).toNat = some o0) : gMet K yX9_row cX9_row 6 (some .int) 2 0 0 [.ref xx, .int (iI p), .int (iI k), .int (iI x)] [cO xx 9 [.ref nA, .ref nZ, wx_taken, .ref hh, .ref q0, .ref t0, .ref g0], cO nA 8 [.ref h0, .ref po, .ref sr, .ref pr, .ref br, .int (iI ho)], cO q0 2 [.ref o0, .ref q1, .ref q2, .int (iI stp)], cA K q1 6 fc, cA K q2 36000 wg, cO o0 1 [.ref o1, .int (iI m), .int (iI rc)], cA K o1 100 od, cO t0 7 [wt_trial, wt_pulls, wt_fewest, wt_whose, .int (iI rf), wt_way], cO h0 5 [.ref k0, .ref k1, .ref k2, .ref k3, .ref k4, .ref k5, .int (iI aw), .int (iI cn), .int (iI sp)], cA K k0 6 kd, cA K k1 6 nb, cA K k2 6 rm, cA K k3 6 st, cA K k4 24 rw, cA K k5 6 nx, cH K hh 5 hm] (fun v9 w9 => ∃ (rw2 : Int → Int), ∃ (stp2 : Int), ∃ (rf2 : Int), v9 = some (.int (iI (an_row s p k x))) ∧ w9 = [cO xx 9 [.ref nA, .ref nZ, wx_taken, .ref hh, .ref q0, .ref t0, .ref g0], cO nA 8 [.ref h0, .ref po, .ref sr, .ref pr, .ref br, .int (iI ho)], cO q0 2 [.ref o0, .ref q1, .ref q2, .int (iI stp2)], cA K q1 6 fc, cA K q2 36000 wg, cO o0 1 [.ref o1, .int (iI m), .int (iI rc)], cA K o1 100 od, cO t0 7 [wt_trial, wt_pulls, wt_fewest, wt_whose, .int (iI rf2), wt_way], cO h0 5 [.ref k0, .ref k1, .ref k2, .ref k3, .ref k4, .ref k5, .int (iI aw), .int (iI cn), .int (iI sp)], cA K k0 6 kd, cA K k1 6 nb, cA K k2 6 rm, cA K k3 6 st, cA K k4 24 rw2, cA K k5 6 nx, cH K hh 5 hm] ∧ (∀ j, rI (rw2 j)) ∧ rI stp2 ∧ rI rf2 ∧ (cs_R (ne_row s p k x) kd nb rm st rw2 nx aw cn sp) ∧ (((ne_row s p k x) = s ∧ stp2 = stp ∧ rf2 = rf) ∨ (stp2 = stp + 1 ∧ rf2 = 0))) := by
  refine g_enter (by decide +kernel) (Nat.le_of_ble_eq_true rfl) (fun G hC hR => ?_)
  refine g_lv hC [0, 1, 2, 3] [(0, _), (1, _), (2, _), (3, _)] rfl ?_
  have h19 := hg.2.2.1
  have hg0 := hg.2.2.2
  have hcs := hR9.1
  refine g_aload_n (pc := 0) hC 0 dX9_row_0 rfl rfl ?_
  refine g_get (pc := 1) hC 0 fl_X9_12 dX9_row_1 rfl rfl ?_
  refine g_get (pc := 4) hC 1 fl_X9_85 dX9_row_4 rfl rfl ?_
  refine g_iload_n (pc := 7) hC 1 dX9_row_7 rfl rfl ?_
  refine g_fnV (pc := 8) (qr := 8) hC [8] (k_X5_has _ _ _ _ _ _ _ _ _ _ _ (by first | exact r_p | assumption | omega) (by first | exact r_cn | assumption | omega)) cl_X5_has wm_X9_94 dX9_row_8 rfl rfl rfl rfl rfl (by decide) (by decide) ⟨by omega, by omega⟩ (Nat.le_of_ble_eq_true rfl) rfl rfl ?_
  refine g_name hC (fun x8 e_x8 => ?_)
  have q_x8 := has_iff e_x8 (by omega)
  refine g_if_eq (pc := 11) hC 23 dX9_row_11 (by decide) (by first | exact r_x8 | assumption | omega) (fun c11 => ?_) (fun c11 => ?_)
  · refine g_iconst (pc := 23) hC dX9_row_23 ?_
    exact g_iret (pc := 24) hR dX9_row_24 rfl ⟨by omega, by omega⟩ (Nat.le_of_ble_eq_true rfl) ⟨rw, stp, rf, ret_eq (by unfold an_row; rw [if_neg (by omega)]), rfl, (by first | assumption | omega), (by first | exact r_stp | assumption | omega), (by first | exact r_rf | assumption | omega), (by unfold ne_row; rw [if_neg (by omega)]; exact hR9), (Or.inl ⟨by unfold ne_row; rw [if_neg (by omega)], rfl, rfl⟩)⟩
  · refine g_iload_n (pc := 14) hC 2 dX9_row_14 rfl rfl ?_
    refine g_if_lt (pc := 15) hC 23 dX9_row_15 (by decide) (by first | exact r_k | assumption | omega) (fun c15 => ?_) (fun c15 => ?_)
    · refine g_iconst (pc := 23) hC dX9_row_23 ?_
      exact g_iret (pc := 24) hR dX9_row_24 rfl ⟨by omega, by omega⟩ (Nat.le_of_ble_eq_true rfl) ⟨rw, stp, rf, ret_eq (by unfold an_row; rw [if_neg (by omega)]), rfl, (by first | assumption | omega), (by first | exact r_stp | assumption | omega), (by first | exact r_rf | assumption | omega), (by unfold ne_row; rw [if_neg (by omega)]; exact hR9), (Or.inl ⟨by unfold ne_row; rw [if_neg (by omega)], rfl, rfl⟩)⟩
    · refine g_iload_n (pc := 18) hC 2 dX9_row_18 rfl rfl ?_
      refine g_iconst (pc := 19) hC dX9_row_19 ?_
      refine g_icmp_lt (pc := 20) hC 25 dX9_row_20 (by decide) (by first | exact r_k | assumption | omega) (by first | assumption | decide | omega) (fun c20 => ?_) (fun c20 => ?_)
      · refine g_iload_n (pc := 25) hC 3 dX9_row_25 rfl rfl ?_
        refine g_fnS (pc := 26) hC [] (k_X9_isDigit _ (by first | exact r_x | assumption | omega)) cl_X9_isDigit wm_X9_82 dX9_row_26 rfl rfl (by decide) (by decide) ⟨by omega, by omega⟩ (Nat.le_of_ble_eq_true rfl) rfl rfl ?_
        refine g_name hC (fun x26 e_x26 => ?_)
        have q_x26 := dig_iff e_x26
        refine g_if_ne (pc := 29) hC 35 dX9_row_29 (by decide) (by first | exact r_x26 | assumption | omega) (fun c29 => ?_) (fun c29 => ?_)
        · have hp : 0 ≤ p ∧ p < s 19 := by omega
          have hp1 := hR9.2.1 p hp.1 hp.2
          have hgp := hg.1 p hp.1 (by omega)
          refine g_aload_n (pc := 35) hC 0 dX9_row_35 rfl rfl ?_
          refine g_get (pc := 36) hC 0 fl_X9_12 dX9_row_36 rfl rfl ?_
          refine g_get (pc := 39) hC 1 fl_X9_85 dX9_row_39 rfl rfl ?_
          refine g_get (pc := 42) hC 8 fl_X9_97 dX9_row_42 rfl rfl ?_
          refine g_iload_n (pc := 45) hC 1 dX9_row_45 rfl rfl ?_
          refine g_iald (pc := 46) hC 9 dX9_row_46 rfl (by omega) ?_
          have qz1 := r_kd p
          refine g_bipush (pc := 47) hC (6) dX9_row_47 (by decide) ?_
          refine g_icmp_eq (pc := 49) hC 55 dX9_row_49 (by decide) (by first | assumption | decide | omega) (by first | assumption | decide | omega) (fun c49 => ?_) (fun c49 => ?_)
          · refine g_iload_n (pc := 55) hC 1 dX9_row_55 rfl rfl ?_
            refine g_iconst (pc := 56) hC dX9_row_56 ?_
            refine g_imul (pc := 57) hC dX9_row_57 ?_
            refine g_iload_n (pc := 58) hC 2 dX9_row_58 rfl rfl ?_
            refine g_iadd (pc := 59) hC dX9_row_59 ?_
            refine g_istore (pc := 60) hC [(4, _), (0, _), (1, _), (2, _), (3, _)] dX9_row_60 (by decide) rfl ?_
            refine g_aload_n (pc := 62) hC 1 dX9_row_62 rfl rfl ?_
            refine g_get (pc := 63) hC 0 fl_X9_12 dX9_row_63 rfl rfl ?_
            refine g_get (pc := 66) hC 1 fl_X9_85 dX9_row_66 rfl rfl ?_
            refine g_get (pc := 69) hC 8 fl_X9_130 dX9_row_69 rfl rfl ?_
            refine g_iload (pc := 72) hC 0 dX9_row_72 rfl ?_
            refine g_iald (pc := 74) hC 13 dX9_row_74 rfl (by omega) ?_
            have qz2 := r_rw ((p * 4) + k)
            have hrw9 := hR9.2.2.2.2 (p * 4 + k) (by omega) (by omega)
            rw [if_pos (by omega), show 38 + (p * 4 + k) = 38 + 4 * p + k by omega] at hrw9
            refine g_istore (pc := 75) hC [(5, _), (4, _), (0, _), (1, _), (2, _), (3, _)] dX9_row_75 (by decide) rfl ?_
            refine g_aload_n (pc := 77) hC 2 dX9_row_77 rfl rfl ?_
            refine g_get (pc := 78) hC 0 fl_X9_12 dX9_row_78 rfl rfl ?_
            refine g_get (pc := 81) hC 1 fl_X9_85 dX9_row_81 rfl rfl ?_
            refine g_get (pc := 84) hC 8 fl_X9_130 dX9_row_84 rfl rfl ?_
            refine g_iload (pc := 87) hC 1 dX9_row_87 rfl ?_
            refine g_iload_n (pc := 89) hC 5 dX9_row_89 rfl rfl ?_
            refine g_iast (pc := 90) hC 13 (fun f9 => [_, _, _, _, _, _, _, _, _, _, _, _, _, cA K _ _ f9, _, _]) dX9_row_90 rfl (by omega) (fun _ => rfl) (fun rw5 e_rw5 => ?_)
            have r_rw5 := rng_up e_rw5 r_rw (by first | exact r_x | assumption | omega)
            refine g_aload_n (pc := 91) hC 2 dX9_row_91 rfl rfl ?_
            refine g_callV (pc := 92) (qr := 0) hC [0, 1, 2, 4, 7, 15] (k_X9_forget_r _ _ _ _ _ _ _ _ _ _ _ _ _ _ _ _ _ _ _ _ _ _ _ _ _ _ o0 (by first | exact r_ho | assumption | omega) (by first | exact r_stp | assumption | omega) (by first | exact r_wg | assumption | omega) (by first | assumption | omega) hhm) cl_X9_forgetWorked wm_X9_79 dX9_row_92 rfl rfl rfl rfl rfl (by decide) (by decide) (by omega) (Nat.le_of_ble_eq_true rfl) rfl (fun v9 w9 hq9 => ?_)
            obtain ⟨rfl, rfl⟩ := hq9
            refine g_ws hC [cO xx 9 [.ref nA, .ref nZ, wx_taken, .ref hh, .ref q0, .ref t0, .ref g0], cO nA 8 [.ref h0, .ref po, .ref sr, .ref pr, .ref br, .int (iI ho)], cO q0 2 [.ref o0, .ref q1, .ref q2, .int (iI (stp + 1))], cA K q1 6 fc, cA K q2 36000 wg, cO o0 1 [.ref o1, .int (iI m), .int (iI rc)], cA K o1 100 od, cO t0 7 [wt_trial, wt_pulls, wt_fewest, wt_whose, .int (iI 0), wt_way], cO h0 5 [.ref k0, .ref k1, .ref k2, .ref k3, .ref k4, .ref k5, .int (iI aw), .int (iI cn), .int (iI sp)], cA K k0 6 kd, cA K k1 6 nb, cA K k2 6 rm, cA K k3 6 st, cA K k4 24 rw5, cA K k5 6 nx, cH K hh 5 hm] rfl ?_
            refine g_st hC [] rfl ?_
            refine g_iload (pc := 95) hC 0 dX9_row_95 rfl ?_
            exact g_iret (pc := 97) hR dX9_row_97 rfl ⟨by omega, by omega⟩ (Nat.le_of_ble_eq_true rfl) ⟨rw5, stp + 1, 0, ret_eq (by unfold an_row; rw [if_pos (by omega), if_pos (by omega), if_pos (by omega), hrw9]), rfl, (by first | assumption | omega), (by first | assumption | omega), (by decide), (by unfold ne_row; rw [if_pos (by omega)]; exact cs_row h19 hR9 hp (by omega) e_rw5), (Or.inr ⟨rfl, rfl⟩)⟩
          · refine g_bipush (pc := 52) hC (-3) dX9_row_52 (by decide) ?_
            exact g_iret (pc := 54) hR dX9_row_54 rfl ⟨by omega, by omega⟩ (Nat.le_of_ble_eq_true rfl) ⟨rw, stp, rf, ret_eq (by unfold an_row; rw [if_pos (by omega), if_pos (by omega), if_neg (by omega)]), rfl, (by first | assumption | omega), (by first | exact r_stp | assumption | omega), (by first | exact r_rf | assumption | omega), (by unfold ne_row; rw [if_neg (by omega)]; exact hR9), (Or.inl ⟨by unfold ne_row; rw [if_neg (by omega)], rfl, rfl⟩)⟩
        · refine g_bipush (pc := 32) hC (-2) dX9_row_32 (by decide) ?_
          exact g_iret (pc := 34) hR dX9_row_34 rfl ⟨by omega, by omega⟩ (Nat.le_of_ble_eq_true rfl) ⟨rw, stp, rf, ret_eq (by unfold an_row; rw [if_pos (by omega), if_neg (by omega)]), rfl, (by first | assumption | omega), (by first | exact r_stp | assumption | omega), (by first | exact r_rf | assumption | omega), (by unfold ne_row; rw [if_neg (by omega)]; exact hR9), (Or.inl ⟨by unfold ne_row; rw [if_neg (by omega)], rfl, rfl⟩)⟩
      · refine g_iconst (pc := 23) hC dX9_row_23 ?_
        exact g_iret (pc := 24) hR dX9_row_24 rfl ⟨by omega, by omega⟩ (Nat.le_of_ble_eq_true rfl) ⟨rw, stp, rf, ret_eq (by unfold an_row; rw [if_neg (by omega)]), rfl, (by first | assumption | omega), (by first | exact r_stp | assumption | omega), (by first | exact r_rf | assumption | omega), (by unfold ne_row; rw [if_neg (by omega)]; exact hR9), (Or.inl ⟨by unfold ne_row; rw [if_neg (by omega)], rfl, rfl⟩)⟩
set_option maxHeartbeats 4000000 in
set_option maxRecDepth 100000 in
theorem k_X9_set_r {K : gK} (xx : Nat) (nA : Nat) (nZ : Nat) (hh : Nat) (q0 : Nat) (t0 : Nat) (g0 : Nat) (h0 : Nat) (po : Nat) (sr : Nat) (pr : Nat) (br : Nat) (o0 : Nat) (q1 : Nat) (q2 : Nat) (o1 : Nat) (k0 : Nat) (k1 : Nat) (k2 : Nat) (k3 : Nat) (k4 : Nat) (k5 : Nat) (wx_taken : Value) (wt_trial : Value) (wt_pulls : Value) (wt_fewest : Value) (wt_whose : Value) (wt_way : Value) (hm : Nat → Option Nat) (p : Int) (w : Int) (x : Int) (ho : Int) (stp : Int) (m : Int) (rc : Int) (rf : Int) (aw : Int) (cn : Int) (sp : Int) (fc : Int → Int) (wg : Int → Int) (od : Int → Int) (kd : Int → Int) (nb : Int → Int) (rm : Int → Int) (st : Int → Int) (rw : Int → Int) (nx : Int → Int) (s : Int → Int) (r_p : rI p) (r_w : rI w) (r_x : rI x) (r_ho : rI ho) (r_stp : rI stp) (r_m : rI m) (r_rc : rI rc) (r_rf : rI rf) (r_aw : rI aw) (r_cn : rI cn) (r_sp : rI sp) (r_fc : ∀ j, rI (fc j)) (r_wg : ∀ j, rI (wg j)) (r_od : ∀ j, rI (od j)) (r_kd : ∀ j, rI (kd j)) (r_nb : ∀ j, rI (nb j)) (r_rm : ∀ j, rI (rm j)) (r_st : ∀ j, rI (st j)) (r_rw : ∀ j, rI (rw j)) (r_nx : ∀ j, rI (nx j)) (hg : md_rg s) (hR9 : cs_R s kd nb rm st rw nx aw cn sp) (hstp : 1 ≤ stp ∧ stp ≤ 900000) (hho1 : 1 ≤ ho ∧ ho ≤ 5) (hhm : hm (ho - 1).toNat = some o0) : gMet K yX9_set cX9_set 5 (some .int) 2 0 0 [.ref xx, .int (iI p), .int (iI w), .int (iI x)] [cO xx 9 [.ref nA, .ref nZ, wx_taken, .ref hh, .ref q0, .ref t0, .ref g0], cO nA 8 [.ref h0, .ref po, .ref sr, .ref pr, .ref br, .int (iI ho)], cO q0 2 [.ref o0, .ref q1, .ref q2, .int (iI stp)], cA K q1 6 fc, cA K q2 36000 wg, cO o0 1 [.ref o1, .int (iI m), .int (iI rc)], cA K o1 100 od, cO t0 7 [wt_trial, wt_pulls, wt_fewest, wt_whose, .int (iI rf), wt_way], cO h0 5 [.ref k0, .ref k1, .ref k2, .ref k3, .ref k4, .ref k5, .int (iI aw), .int (iI cn), .int (iI sp)], cA K k0 6 kd, cA K k1 6 nb, cA K k2 6 rm, cA K k3 6 st, cA K k4 24 rw, cA K k5 6 nx, cH K hh 5 hm] (fun v9 w9 => ∃ (nb2 : Int → Int), ∃ (rm2 : Int → Int), ∃ (st2 : Int → Int), ∃ (stp2 : Int), ∃ (rf2 : Int), v9 = some (.int (iI (an_set s p w x))) ∧ w9 = [cO xx 9 [.ref nA, .ref nZ, wx_taken, .ref hh, .ref q0, .ref t0, .ref g0], cO nA 8 [.ref h0, .ref po, .ref sr, .ref pr, .ref br, .int (iI ho)], cO q0 2 [.ref o0, .ref q1, .ref q2, .int (iI stp2)], cA K q1 6 fc, cA K q2 36000 wg, cO o0 1 [.ref o1, .int (iI m), .int (iI rc)], cA K o1 100 od, cO t0 7 [wt_trial, wt_pulls, wt_fewest, wt_whose, .int (iI rf2), wt_way], cO h0 5 [.ref k0, .ref k1, .ref k2, .ref k3, .ref k4, .ref k5, .int (iI aw), .int (iI cn), .int (iI sp)], cA K k0 6 kd, cA K k1 6 nb2, cA K k2 6 rm2, cA K k3 6 st2, cA K k4 24 rw, cA K k5 6 nx, cH K hh 5 hm] ∧ (∀ j, rI (nb2 j)) ∧ (∀ j, rI (rm2 j)) ∧ (∀ j, rI (st2 j)) ∧ rI stp2 ∧ rI rf2 ∧ (cs_R (ne_set s p w x) kd nb2 rm2 st2 rw nx aw cn sp) ∧ (((ne_set s p w x) = s ∧ stp2 = stp ∧ rf2 = rf) ∨ (stp2 = stp + 1 ∧ rf2 = 0))) := by
  refine g_enter (by decide +kernel) (Nat.le_of_ble_eq_true rfl) (fun G hC hR => ?_)
  refine g_lv hC [0, 1, 2, 3] [(0, _), (1, _), (2, _), (3, _)] rfl ?_
  have h19 := hg.2.2.1
  have hg0 := hg.2.2.2
  have hcs := hR9.1
  refine g_aload_n (pc := 0) hC 0 dX9_set_0 rfl rfl ?_
  refine g_get (pc := 1) hC 0 fl_X9_12 dX9_set_1 rfl rfl ?_
  refine g_get (pc := 4) hC 1 fl_X9_85 dX9_set_4 rfl rfl ?_
  refine g_iload_n (pc := 7) hC 1 dX9_set_7 rfl rfl ?_
  refine g_fnV (pc := 8) (qr := 8) hC [8] (k_X5_has _ _ _ _ _ _ _ _ _ _ _ (by first | exact r_p | assumption | omega) (by first | exact r_cn | assumption | omega)) cl_X5_has wm_X9_94 dX9_set_8 rfl rfl rfl rfl rfl (by decide) (by decide) ⟨by omega, by omega⟩ (Nat.le_of_ble_eq_true rfl) rfl rfl ?_
  refine g_name hC (fun x8 e_x8 => ?_)
  have q_x8 := has_iff e_x8 (by omega)
  refine g_if_eq (pc := 11) hC 30 dX9_set_11 (by decide) (by first | exact r_x8 | assumption | omega) (fun c11 => ?_) (fun c11 => ?_)
  · refine g_iconst (pc := 30) hC dX9_set_30 ?_
    exact g_iret (pc := 31) hR dX9_set_31 rfl ⟨by omega, by omega⟩ (Nat.le_of_ble_eq_true rfl) ⟨nb, rm, st, stp, rf, ret_eq (by unfold an_set; rw [if_neg (by omega)]), rfl, (by first | assumption | omega), (by first | assumption | omega), (by first | assumption | omega), (by first | exact r_stp | assumption | omega), (by first | exact r_rf | assumption | omega), (by unfold ne_set; rw [if_neg (by omega)]; exact hR9), (Or.inl ⟨by unfold ne_set; rw [if_neg (by omega)], rfl, rfl⟩)⟩
  · refine g_iload_n (pc := 14) hC 2 dX9_set_14 rfl rfl ?_
    refine g_if_eq (pc := 15) hC 23 dX9_set_15 (by decide) (by first | exact r_w | assumption | omega) (fun c15 => ?_) (fun c15 => ?_)
    · refine g_iload_n (pc := 23) hC 3 dX9_set_23 rfl rfl ?_
      refine g_fnS (pc := 24) hC [] (k_X9_isDigit _ (by first | exact r_x | assumption | omega)) cl_X9_isDigit wm_X9_82 dX9_set_24 rfl rfl (by decide) (by decide) ⟨by omega, by omega⟩ (Nat.le_of_ble_eq_true rfl) rfl rfl ?_
      refine g_name hC (fun x24 e_x24 => ?_)
      have q_x24 := dig_iff e_x24
      refine g_if_ne (pc := 27) hC 32 dX9_set_27 (by decide) (by first | exact r_x24 | assumption | omega) (fun c27 => ?_) (fun c27 => ?_)
      · have hp : 0 ≤ p ∧ p < s 19 := by omega
        have hp1 := hR9.2.1 p hp.1 hp.2
        have hgp := hg.1 p hp.1 (by omega)
        refine g_iload_n (pc := 32) hC 2 dX9_set_32 rfl rfl ?_
        refine g_if_ne (pc := 33) hC 51 dX9_set_33 (by decide) (by first | exact r_w | assumption | omega) (fun c33 => by exfalso; omega) (fun c33 => ?_)
        refine g_aload_n (pc := 36) hC 0 dX9_set_36 rfl rfl ?_
        refine g_get (pc := 37) hC 0 fl_X9_12 dX9_set_37 rfl rfl ?_
        refine g_get (pc := 40) hC 1 fl_X9_85 dX9_set_40 rfl rfl ?_
        refine g_get (pc := 43) hC 8 fl_X9_104 dX9_set_43 rfl rfl ?_
        refine g_iload_n (pc := 46) hC 1 dX9_set_46 rfl rfl ?_
        refine g_iald (pc := 47) hC 11 dX9_set_47 rfl (by omega) ?_
        have qz1 := r_rm p
        refine g_goto (pc := 48) hC 63 dX9_set_48 (by decide) ?_
        refine g_istore (pc := 63) hC [(4, _), (0, _), (1, _), (2, _), (3, _)] dX9_set_63 (by decide) rfl ?_
        refine g_aload_n (pc := 65) hC 1 dX9_set_65 rfl rfl ?_
        refine g_get (pc := 66) hC 0 fl_X9_12 dX9_set_66 rfl rfl ?_
        refine g_get (pc := 69) hC 1 fl_X9_85 dX9_set_69 rfl rfl ?_
        refine g_iload_n (pc := 72) hC 2 dX9_set_72 rfl rfl ?_
        refine g_iload_n (pc := 73) hC 3 dX9_set_73 rfl rfl ?_
        refine g_iload_n (pc := 74) hC 4 dX9_set_74 rfl rfl ?_
        refine g_callV (pc := 75) (qr := 8) hC [8, 9, 10, 11, 12, 13, 14] (k_X5_change _ _ _ _ _ _ _ _ _ _ _ _ _ _ _ _ _ _ _ _ (by first | exact r_p | assumption | omega) (by first | exact r_w | assumption | omega) (by first | exact r_x | assumption | omega) (by first | exact r_aw | assumption | omega) (by first | exact r_cn | assumption | omega) (by first | exact r_sp | assumption | omega) (by first | exact r_kd | assumption | omega) (by first | exact r_nb | assumption | omega) (by first | exact r_rm | assumption | omega) (by first | exact r_st | assumption | omega) (by first | exact r_rw | assumption | omega) (by first | exact r_nx | assumption | omega) (by first | assumption | omega) (by first | assumption | omega) (by first | assumption | omega)) cl_X5_change wm_X9_133 dX9_set_75 rfl rfl rfl rfl rfl (by decide) (by decide) (by omega) (Nat.le_of_ble_eq_true rfl) rfl (fun v9 w9 hq9 => ?_)
        obtain ⟨nb5, rm5, st5, rfl, rfl, r_nb5, r_rm5, r_st5, hR2_75⟩ := hq9
        refine g_ws hC [cO xx 9 [.ref nA, .ref nZ, wx_taken, .ref hh, .ref q0, .ref t0, .ref g0], cO nA 8 [.ref h0, .ref po, .ref sr, .ref pr, .ref br, .int (iI ho)], cO q0 2 [.ref o0, .ref q1, .ref q2, .int (iI stp)], cA K q1 6 fc, cA K q2 36000 wg, cO o0 1 [.ref o1, .int (iI m), .int (iI rc)], cA K o1 100 od, cO t0 7 [wt_trial, wt_pulls, wt_fewest, wt_whose, .int (iI rf), wt_way], cO h0 5 [.ref k0, .ref k1, .ref k2, .ref k3, .ref k4, .ref k5, .int (iI aw), .int (iI cn), .int (iI sp)], cA K k0 6 kd, cA K k1 6 nb5, cA K k2 6 rm5, cA K k3 6 st5, cA K k4 24 rw, cA K k5 6 nx, cH K hh 5 hm] rfl ?_
        refine g_st hC [] rfl ?_
        refine g_aload_n (pc := 78) hC 1 dX9_set_78 rfl rfl ?_
        refine g_callV (pc := 79) (qr := 0) hC [0, 1, 2, 4, 7, 15] (k_X9_forget_r _ _ _ _ _ _ _ _ _ _ _ _ _ _ _ _ _ _ _ _ _ _ _ _ _ _ o0 (by first | exact r_ho | assumption | omega) (by first | exact r_stp | assumption | omega) (by first | exact r_wg | assumption | omega) (by first | assumption | omega) hhm) cl_X9_forgetWorked wm_X9_79 dX9_set_79 rfl rfl rfl rfl rfl (by decide) (by decide) (by omega) (Nat.le_of_ble_eq_true rfl) rfl (fun v9 w9 hq9 => ?_)
        obtain ⟨rfl, rfl⟩ := hq9
        refine g_ws hC [cO xx 9 [.ref nA, .ref nZ, wx_taken, .ref hh, .ref q0, .ref t0, .ref g0], cO nA 8 [.ref h0, .ref po, .ref sr, .ref pr, .ref br, .int (iI ho)], cO q0 2 [.ref o0, .ref q1, .ref q2, .int (iI (stp + 1))], cA K q1 6 fc, cA K q2 36000 wg, cO o0 1 [.ref o1, .int (iI m), .int (iI rc)], cA K o1 100 od, cO t0 7 [wt_trial, wt_pulls, wt_fewest, wt_whose, .int (iI 0), wt_way], cO h0 5 [.ref k0, .ref k1, .ref k2, .ref k3, .ref k4, .ref k5, .int (iI aw), .int (iI cn), .int (iI sp)], cA K k0 6 kd, cA K k1 6 nb5, cA K k2 6 rm5, cA K k3 6 st5, cA K k4 24 rw, cA K k5 6 nx, cH K hh 5 hm] rfl ?_
        refine g_st hC [] rfl ?_
        refine g_iload (pc := 82) hC 0 dX9_set_82 rfl ?_
        exact g_iret (pc := 84) hR dX9_set_84 rfl ⟨by omega, by omega⟩ (Nat.le_of_ble_eq_true rfl) ⟨nb5, rm5, st5, stp + 1, 0, ret_eq (by unfold an_set; rw [if_pos (by omega), if_pos (by omega), hp1.2.2.1]), rfl, (by first | assumption | omega), (by first | assumption | omega), (by first | assumption | omega), (by first | assumption | omega), (by decide), (by unfold ne_set; rw [if_pos (by omega), ← set_w (by omega)]; rw [if_pos hp] at hR2_75; exact hR2_75), (Or.inr ⟨rfl, rfl⟩)⟩
      · refine g_iconst (pc := 30) hC dX9_set_30 ?_
        exact g_iret (pc := 31) hR dX9_set_31 rfl ⟨by omega, by omega⟩ (Nat.le_of_ble_eq_true rfl) ⟨nb, rm, st, stp, rf, ret_eq (by unfold an_set; rw [if_neg (by omega)]), rfl, (by first | assumption | omega), (by first | assumption | omega), (by first | assumption | omega), (by first | exact r_stp | assumption | omega), (by first | exact r_rf | assumption | omega), (by unfold ne_set; rw [if_neg (by omega)]; exact hR9), (Or.inl ⟨by unfold ne_set; rw [if_neg (by omega)], rfl, rfl⟩)⟩
    · refine g_iload_n (pc := 18) hC 2 dX9_set_18 rfl rfl ?_
      refine g_iconst (pc := 19) hC dX9_set_19 ?_
      refine g_icmp_ne (pc := 20) hC 30 dX9_set_20 (by decide) (by first | exact r_w | assumption | omega) (by first | assumption | decide | omega) (fun c20 => ?_) (fun c20 => ?_)
      · refine g_iconst (pc := 30) hC dX9_set_30 ?_
        exact g_iret (pc := 31) hR dX9_set_31 rfl ⟨by omega, by omega⟩ (Nat.le_of_ble_eq_true rfl) ⟨nb, rm, st, stp, rf, ret_eq (by unfold an_set; rw [if_neg (by omega)]), rfl, (by first | assumption | omega), (by first | assumption | omega), (by first | assumption | omega), (by first | exact r_stp | assumption | omega), (by first | exact r_rf | assumption | omega), (by unfold ne_set; rw [if_neg (by omega)]; exact hR9), (Or.inl ⟨by unfold ne_set; rw [if_neg (by omega)], rfl, rfl⟩)⟩
      · refine g_iload_n (pc := 23) hC 3 dX9_set_23 rfl rfl ?_
        refine g_fnS (pc := 24) hC [] (k_X9_isDigit _ (by first | exact r_x | assumption | omega)) cl_X9_isDigit wm_X9_82 dX9_set_24 rfl rfl (by decide) (by decide) ⟨by omega, by omega⟩ (Nat.le_of_ble_eq_true rfl) rfl rfl ?_
        refine g_name hC (fun x24 e_x24 => ?_)
        have q_x24 := dig_iff e_x24
        refine g_if_ne (pc := 27) hC 32 dX9_set_27 (by decide) (by first | exact r_x24 | assumption | omega) (fun c27 => ?_) (fun c27 => ?_)
        · have hp : 0 ≤ p ∧ p < s 19 := by omega
          have hp1 := hR9.2.1 p hp.1 hp.2
          have hgp := hg.1 p hp.1 (by omega)
          refine g_iload_n (pc := 32) hC 2 dX9_set_32 rfl rfl ?_
          refine g_if_ne (pc := 33) hC 51 dX9_set_33 (by decide) (by first | exact r_w | assumption | omega) (fun c33 => ?_) (fun c33 => by exfalso; omega)
          refine g_aload_n (pc := 51) hC 0 dX9_set_51 rfl rfl ?_
          refine g_get (pc := 52) hC 0 fl_X9_12 dX9_set_52 rfl rfl ?_
          refine g_get (pc := 55) hC 1 fl_X9_85 dX9_set_55 rfl rfl ?_
          refine g_get (pc := 58) hC 8 fl_X9_107 dX9_set_58 rfl rfl ?_
          refine g_iload_n (pc := 61) hC 1 dX9_set_61 rfl rfl ?_
          refine g_iald (pc := 62) hC 12 dX9_set_62 rfl (by omega) ?_
          have qz2 := r_st p
          refine g_istore (pc := 63) hC [(4, _), (0, _), (1, _), (2, _), (3, _)] dX9_set_63 (by decide) rfl ?_
          refine g_aload_n (pc := 65) hC 1 dX9_set_65 rfl rfl ?_
          refine g_get (pc := 66) hC 0 fl_X9_12 dX9_set_66 rfl rfl ?_
          refine g_get (pc := 69) hC 1 fl_X9_85 dX9_set_69 rfl rfl ?_
          refine g_iload_n (pc := 72) hC 2 dX9_set_72 rfl rfl ?_
          refine g_iload_n (pc := 73) hC 3 dX9_set_73 rfl rfl ?_
          refine g_iload_n (pc := 74) hC 4 dX9_set_74 rfl rfl ?_
          refine g_callV (pc := 75) (qr := 8) hC [8, 9, 10, 11, 12, 13, 14] (k_X5_change _ _ _ _ _ _ _ _ _ _ _ _ _ _ _ _ _ _ _ _ (by first | exact r_p | assumption | omega) (by first | exact r_w | assumption | omega) (by first | exact r_x | assumption | omega) (by first | exact r_aw | assumption | omega) (by first | exact r_cn | assumption | omega) (by first | exact r_sp | assumption | omega) (by first | exact r_kd | assumption | omega) (by first | exact r_nb | assumption | omega) (by first | exact r_rm | assumption | omega) (by first | exact r_st | assumption | omega) (by first | exact r_rw | assumption | omega) (by first | exact r_nx | assumption | omega) (by first | assumption | omega) (by first | assumption | omega) (by first | assumption | omega)) cl_X5_change wm_X9_133 dX9_set_75 rfl rfl rfl rfl rfl (by decide) (by decide) (by omega) (Nat.le_of_ble_eq_true rfl) rfl (fun v9 w9 hq9 => ?_)
          obtain ⟨nb5, rm5, st5, rfl, rfl, r_nb5, r_rm5, r_st5, hR2_75⟩ := hq9
          refine g_ws hC [cO xx 9 [.ref nA, .ref nZ, wx_taken, .ref hh, .ref q0, .ref t0, .ref g0], cO nA 8 [.ref h0, .ref po, .ref sr, .ref pr, .ref br, .int (iI ho)], cO q0 2 [.ref o0, .ref q1, .ref q2, .int (iI stp)], cA K q1 6 fc, cA K q2 36000 wg, cO o0 1 [.ref o1, .int (iI m), .int (iI rc)], cA K o1 100 od, cO t0 7 [wt_trial, wt_pulls, wt_fewest, wt_whose, .int (iI rf), wt_way], cO h0 5 [.ref k0, .ref k1, .ref k2, .ref k3, .ref k4, .ref k5, .int (iI aw), .int (iI cn), .int (iI sp)], cA K k0 6 kd, cA K k1 6 nb5, cA K k2 6 rm5, cA K k3 6 st5, cA K k4 24 rw, cA K k5 6 nx, cH K hh 5 hm] rfl ?_
          refine g_st hC [] rfl ?_
          refine g_aload_n (pc := 78) hC 1 dX9_set_78 rfl rfl ?_
          refine g_callV (pc := 79) (qr := 0) hC [0, 1, 2, 4, 7, 15] (k_X9_forget_r _ _ _ _ _ _ _ _ _ _ _ _ _ _ _ _ _ _ _ _ _ _ _ _ _ _ o0 (by first | exact r_ho | assumption | omega) (by first | exact r_stp | assumption | omega) (by first | exact r_wg | assumption | omega) (by first | assumption | omega) hhm) cl_X9_forgetWorked wm_X9_79 dX9_set_79 rfl rfl rfl rfl rfl (by decide) (by decide) (by omega) (Nat.le_of_ble_eq_true rfl) rfl (fun v9 w9 hq9 => ?_)
          obtain ⟨rfl, rfl⟩ := hq9
          refine g_ws hC [cO xx 9 [.ref nA, .ref nZ, wx_taken, .ref hh, .ref q0, .ref t0, .ref g0], cO nA 8 [.ref h0, .ref po, .ref sr, .ref pr, .ref br, .int (iI ho)], cO q0 2 [.ref o0, .ref q1, .ref q2, .int (iI (stp + 1))], cA K q1 6 fc, cA K q2 36000 wg, cO o0 1 [.ref o1, .int (iI m), .int (iI rc)], cA K o1 100 od, cO t0 7 [wt_trial, wt_pulls, wt_fewest, wt_whose, .int (iI 0), wt_way], cO h0 5 [.ref k0, .ref k1, .ref k2, .ref k3, .ref k4, .ref k5, .int (iI aw), .int (iI cn), .int (iI sp)], cA K k0 6 kd, cA K k1 6 nb5, cA K k2 6 rm5, cA K k3 6 st5, cA K k4 24 rw, cA K k5 6 nx, cH K hh 5 hm] rfl ?_
          refine g_st hC [] rfl ?_
          refine g_iload (pc := 82) hC 0 dX9_set_82 rfl ?_
          exact g_iret (pc := 84) hR dX9_set_84 rfl ⟨by omega, by omega⟩ (Nat.le_of_ble_eq_true rfl) ⟨nb5, rm5, st5, stp + 1, 0, ret_eq (by unfold an_set; rw [if_pos (by omega), if_neg (by omega), hp1.2.2.2.1]), rfl, (by first | assumption | omega), (by first | assumption | omega), (by first | assumption | omega), (by first | assumption | omega), (by decide), (by unfold ne_set; rw [if_pos (by omega), ← set_w (by omega)]; rw [if_pos hp] at hR2_75; exact hR2_75), (Or.inr ⟨rfl, rfl⟩)⟩
        · refine g_iconst (pc := 30) hC dX9_set_30 ?_
          exact g_iret (pc := 31) hR dX9_set_31 rfl ⟨by omega, by omega⟩ (Nat.le_of_ble_eq_true rfl) ⟨nb, rm, st, stp, rf, ret_eq (by unfold an_set; rw [if_neg (by omega)]), rfl, (by first | assumption | omega), (by first | assumption | omega), (by first | assumption | omega), (by first | exact r_stp | assumption | omega), (by first | exact r_rf | assumption | omega), (by unfold ne_set; rw [if_neg (by omega)]; exact hR9), (Or.inl ⟨by unfold ne_set; rw [if_neg (by omega)], rfl, rfl⟩)⟩
set_option maxHeartbeats 4000000 in
set_option maxRecDepth 100000 in
theorem k_X9_away_r {K : gK} (xx : Nat) (nA : Nat) (nZ : Nat) (hh : Nat) (q0 : Nat) (t0 : Nat) (g0 : Nat) (h0 : Nat) (po : Nat) (sr : Nat) (pr : Nat) (br : Nat) (o0 : Nat) (q1 : Nat) (q2 : Nat) (o1 : Nat) (k0 : Nat) (k1 : Nat) (k2 : Nat) (k3 : Nat) (k4 : Nat) (k5 : Nat) (wx_taken : Value) (wt_trial : Value) (wt_pulls : Value) (wt_fewest : Value) (wt_whose : Value) (wt_way : Value) (hm : Nat → Option Nat) (p : Int) (z : Int) (ho : Int) (stp : Int) (m : Int) (rc : Int) (rf : Int) (aw : Int) (cn : Int) (sp : Int) (fc : Int → Int) (wg : Int → Int) (od : Int → Int) (kd : Int → Int) (nb : Int → Int) (rm : Int → Int) (st : Int → Int) (rw : Int → Int) (nx : Int → Int) (s : Int → Int) (r_p : rI p) (r_z : rI z) (r_ho : rI ho) (r_stp : rI stp) (r_m : rI m) (r_rc : rI rc) (r_rf : rI rf) (r_aw : rI aw) (r_cn : rI cn) (r_sp : rI sp) (r_fc : ∀ j, rI (fc j)) (r_wg : ∀ j, rI (wg j)) (r_od : ∀ j, rI (od j)) (r_kd : ∀ j, rI (kd j)) (r_nb : ∀ j, rI (nb j)) (r_rm : ∀ j, rI (rm j)) (r_st : ∀ j, rI (st j)) (r_rw : ∀ j, rI (rw j)) (r_nx : ∀ j, rI (nx j)) (hg : md_rg s) (hR9 : cs_R s kd nb rm st rw nx aw cn sp) (hstp : 1 ≤ stp ∧ stp ≤ 900000) (hho1 : 1 ≤ ho ∧ ho ≤ 5) (hhm : hm (ho - 1).toNat = some o0) (hz : z = 0 ∨ z = 1) : gMet K yX9_away cX9_away 4 (some .int) 2 0 0 [.ref xx, .int (iI p), .int (iI z)] [cO xx 9 [.ref nA, .ref nZ, wx_taken, .ref hh, .ref q0, .ref t0, .ref g0], cO nA 8 [.ref h0, .ref po, .ref sr, .ref pr, .ref br, .int (iI ho)], cO q0 2 [.ref o0, .ref q1, .ref q2, .int (iI stp)], cA K q1 6 fc, cA K q2 36000 wg, cO o0 1 [.ref o1, .int (iI m), .int (iI rc)], cA K o1 100 od, cO t0 7 [wt_trial, wt_pulls, wt_fewest, wt_whose, .int (iI rf), wt_way], cO h0 5 [.ref k0, .ref k1, .ref k2, .ref k3, .ref k4, .ref k5, .int (iI aw), .int (iI cn), .int (iI sp)], cA K k0 6 kd, cA K k1 6 nb, cA K k2 6 rm, cA K k3 6 st, cA K k4 24 rw, cA K k5 6 nx, cH K hh 5 hm] (fun v9 w9 => ∃ (aw2 : Int), ∃ (stp2 : Int), ∃ (rf2 : Int), v9 = some (.int (iI (an_away s p))) ∧ w9 = [cO xx 9 [.ref nA, .ref nZ, wx_taken, .ref hh, .ref q0, .ref t0, .ref g0], cO nA 8 [.ref h0, .ref po, .ref sr, .ref pr, .ref br, .int (iI ho)], cO q0 2 [.ref o0, .ref q1, .ref q2, .int (iI stp2)], cA K q1 6 fc, cA K q2 36000 wg, cO o0 1 [.ref o1, .int (iI m), .int (iI rc)], cA K o1 100 od, cO t0 7 [wt_trial, wt_pulls, wt_fewest, wt_whose, .int (iI rf2), wt_way], cO h0 5 [.ref k0, .ref k1, .ref k2, .ref k3, .ref k4, .ref k5, .int (iI aw2), .int (iI cn), .int (iI sp)], cA K k0 6 kd, cA K k1 6 nb, cA K k2 6 rm, cA K k3 6 st, cA K k4 24 rw, cA K k5 6 nx, cH K hh 5 hm] ∧ rI aw2 ∧ rI stp2 ∧ rI rf2 ∧ (cs_R (ne_away s p z) kd nb rm st rw nx aw2 cn sp) ∧ (((ne_away s p z) = s ∧ stp2 = stp ∧ rf2 = rf) ∨ (stp2 = stp + 1 ∧ rf2 = 0))) := by
  refine g_enter (by decide +kernel) (Nat.le_of_ble_eq_true rfl) (fun G hC hR => ?_)
  refine g_lv hC [0, 1, 2] [(0, _), (1, _), (2, _)] rfl ?_
  have h19 := hg.2.2.1
  have hg0 := hg.2.2.2
  have hcs := hR9.1
  refine g_aload_n (pc := 0) hC 0 dX9_away_0 rfl rfl ?_
  refine g_get (pc := 1) hC 0 fl_X9_12 dX9_away_1 rfl rfl ?_
  refine g_get (pc := 4) hC 1 fl_X9_85 dX9_away_4 rfl rfl ?_
  refine g_iload_n (pc := 7) hC 1 dX9_away_7 rfl rfl ?_
  refine g_fnV (pc := 8) (qr := 8) hC [8] (k_X5_has _ _ _ _ _ _ _ _ _ _ _ (by first | exact r_p | assumption | omega) (by first | exact r_cn | assumption | omega)) cl_X5_has wm_X9_94 dX9_away_8 rfl rfl rfl rfl rfl (by decide) (by decide) ⟨by omega, by omega⟩ (Nat.le_of_ble_eq_true rfl) rfl rfl ?_
  refine g_name hC (fun x8 e_x8 => ?_)
  have q_x8 := has_iff e_x8 (by omega)
  refine g_if_ne (pc := 11) hC 16 dX9_away_11 (by decide) (by first | exact r_x8 | assumption | omega) (fun c11 => ?_) (fun c11 => ?_)
  · have hp : 0 ≤ p ∧ p < s 19 := by omega
    have hp1 := hR9.2.1 p hp.1 hp.2
    have hgp := hg.1 p hp.1 (by omega)
    refine g_aload_n (pc := 16) hC 0 dX9_away_16 rfl rfl ?_
    refine g_get (pc := 17) hC 0 fl_X9_12 dX9_away_17 rfl rfl ?_
    refine g_get (pc := 20) hC 1 fl_X9_85 dX9_away_20 rfl rfl ?_
    refine g_get (pc := 23) hC 8 fl_X9_110 dX9_away_23 rfl rfl ?_
    refine g_iload_n (pc := 26) hC 1 dX9_away_26 rfl rfl ?_
    refine g_ishr (pc := 27) hC dX9_away_27 ?_
    refine g_iconst (pc := 28) hC dX9_away_28 ?_
    refine g_iand (pc := 29) hC dX9_away_29 ?_
    refine g_istore_n (pc := 30) hC [(3, _), (0, _), (1, _), (2, _)] dX9_away_30 rfl (by decide) rfl ?_
    refine g_aload_n (pc := 31) hC 1 dX9_away_31 rfl rfl ?_
    refine g_get (pc := 32) hC 0 fl_X9_12 dX9_away_32 rfl rfl ?_
    refine g_get (pc := 35) hC 1 fl_X9_85 dX9_away_35 rfl rfl ?_
    refine g_iload_n (pc := 38) hC 2 dX9_away_38 rfl rfl ?_
    refine g_iload_n (pc := 39) hC 3 dX9_away_39 rfl rfl ?_
    refine g_callV (pc := 40) (qr := 8) hC [8, 9, 10, 11, 12, 13, 14] (k_X5_send _ _ _ _ _ _ _ _ _ _ _ _ _ _ _ _ _ _ _ (by first | exact r_p | assumption | omega) (by first | exact r_z | assumption | omega) (by first | exact r_aw | assumption | omega) (by first | exact r_cn | assumption | omega) (by first | exact r_sp | assumption | omega) (by first | exact r_kd | assumption | omega) (by first | exact r_nb | assumption | omega) (by first | exact r_rm | assumption | omega) (by first | exact r_st | assumption | omega) (by first | exact r_rw | assumption | omega) (by first | exact r_nx | assumption | omega) (by first | assumption | omega) (by first | assumption | omega) (by first | assumption | omega)) cl_X5_send wm_X9_137 dX9_away_40 rfl rfl rfl rfl rfl (by decide) (by decide) (by omega) (Nat.le_of_ble_eq_true rfl) rfl (fun v9 w9 hq9 => ?_)
    obtain ⟨aw5, rfl, rfl, r_aw5, hR2_40⟩ := hq9
    refine g_ws hC [cO xx 9 [.ref nA, .ref nZ, wx_taken, .ref hh, .ref q0, .ref t0, .ref g0], cO nA 8 [.ref h0, .ref po, .ref sr, .ref pr, .ref br, .int (iI ho)], cO q0 2 [.ref o0, .ref q1, .ref q2, .int (iI stp)], cA K q1 6 fc, cA K q2 36000 wg, cO o0 1 [.ref o1, .int (iI m), .int (iI rc)], cA K o1 100 od, cO t0 7 [wt_trial, wt_pulls, wt_fewest, wt_whose, .int (iI rf), wt_way], cO h0 5 [.ref k0, .ref k1, .ref k2, .ref k3, .ref k4, .ref k5, .int (iI aw5), .int (iI cn), .int (iI sp)], cA K k0 6 kd, cA K k1 6 nb, cA K k2 6 rm, cA K k3 6 st, cA K k4 24 rw, cA K k5 6 nx, cH K hh 5 hm] rfl ?_
    refine g_st hC [] rfl ?_
    refine g_aload_n (pc := 43) hC 1 dX9_away_43 rfl rfl ?_
    refine g_callV (pc := 44) (qr := 0) hC [0, 1, 2, 4, 7, 15] (k_X9_forget_r _ _ _ _ _ _ _ _ _ _ _ _ _ _ _ _ _ _ _ _ _ _ _ _ _ _ o0 (by first | exact r_ho | assumption | omega) (by first | exact r_stp | assumption | omega) (by first | exact r_wg | assumption | omega) (by first | assumption | omega) hhm) cl_X9_forgetWorked wm_X9_79 dX9_away_44 rfl rfl rfl rfl rfl (by decide) (by decide) (by omega) (Nat.le_of_ble_eq_true rfl) rfl (fun v9 w9 hq9 => ?_)
    obtain ⟨rfl, rfl⟩ := hq9
    refine g_ws hC [cO xx 9 [.ref nA, .ref nZ, wx_taken, .ref hh, .ref q0, .ref t0, .ref g0], cO nA 8 [.ref h0, .ref po, .ref sr, .ref pr, .ref br, .int (iI ho)], cO q0 2 [.ref o0, .ref q1, .ref q2, .int (iI (stp + 1))], cA K q1 6 fc, cA K q2 36000 wg, cO o0 1 [.ref o1, .int (iI m), .int (iI rc)], cA K o1 100 od, cO t0 7 [wt_trial, wt_pulls, wt_fewest, wt_whose, .int (iI 0), wt_way], cO h0 5 [.ref k0, .ref k1, .ref k2, .ref k3, .ref k4, .ref k5, .int (iI aw5), .int (iI cn), .int (iI sp)], cA K k0 6 kd, cA K k1 6 nb, cA K k2 6 rm, cA K k3 6 st, cA K k4 24 rw, cA K k5 6 nx, cH K hh 5 hm] rfl ?_
    refine g_st hC [] rfl ?_
    refine g_iload_n (pc := 47) hC 0 dX9_away_47 rfl rfl ?_
    exact g_iret (pc := 48) hR dX9_away_48 rfl ⟨by omega, by omega⟩ (Nat.le_of_ble_eq_true rfl) ⟨aw5, stp + 1, 0, ret_eq (by unfold an_away; rw [if_pos (by omega), hp1.2.2.2.2]), rfl, (by first | exact r_aw5 | assumption | omega), (by first | assumption | omega), (by decide), (by unfold ne_away; rw [if_pos (by omega), away_z hz]; rw [if_pos hp] at hR2_40; exact hR2_40), (Or.inr ⟨rfl, rfl⟩)⟩
  · refine g_iconst (pc := 14) hC dX9_away_14 ?_
    exact g_iret (pc := 15) hR dX9_away_15 rfl ⟨by omega, by omega⟩ (Nat.le_of_ble_eq_true rfl) ⟨aw, stp, rf, ret_eq (by unfold an_away; rw [if_neg (by omega)]), rfl, (by first | exact r_aw | assumption | omega), (by first | exact r_stp | assumption | omega), (by first | exact r_rf | assumption | omega), (by unfold ne_away; rw [if_neg (by omega)]; exact hR9), (Or.inl ⟨by unfold ne_away; rw [if_neg (by omega)], rfl, rfl⟩)⟩
set_option maxHeartbeats 4000000 in
set_option maxRecDepth 100000 in
theorem k_X9_pass_r {K : gK} (xx : Nat) (nA : Nat) (nZ : Nat) (hh : Nat) (q0 : Nat) (t0 : Nat) (g0 : Nat) (h0 : Nat) (po : Nat) (sr : Nat) (pr : Nat) (br : Nat) (o0 : Nat) (q1 : Nat) (q2 : Nat) (o1 : Nat) (k0 : Nat) (k1 : Nat) (k2 : Nat) (k3 : Nat) (k4 : Nat) (k5 : Nat) (wx_taken : Value) (wt_trial : Value) (wt_pulls : Value) (wt_fewest : Value) (wt_whose : Value) (wt_way : Value) (hm : Nat → Option Nat) (n : Int) (ho : Int) (stp : Int) (m : Int) (rc : Int) (rf : Int) (aw : Int) (cn : Int) (sp : Int) (fc : Int → Int) (wg : Int → Int) (od : Int → Int) (kd : Int → Int) (nb : Int → Int) (rm : Int → Int) (st : Int → Int) (rw : Int → Int) (nx : Int → Int) (s : Int → Int) (W : (Int → Int) → Int) (rch : Int) (r_n : rI n) (r_ho : rI ho) (r_stp : rI stp) (r_m : rI m) (r_rc : rI rc) (r_rf : rI rf) (r_aw : rI aw) (r_cn : rI cn) (r_sp : rI sp) (r_fc : ∀ j, rI (fc j)) (r_wg : ∀ j, rI (wg j)) (r_od : ∀ j, rI (od j)) (r_kd : ∀ j, rI (kd j)) (r_nb : ∀ j, rI (nb j)) (r_rm : ∀ j, rI (rm j)) (r_st : ∀ j, rI (st j)) (r_rw : ∀ j, rI (rw j)) (r_nx : ∀ j, rI (nx j)) (hg : md_rg s) (hR9 : cs_R s kd nb rm st rw nx aw cn sp) (hstp : 1 ≤ stp ∧ stp ≤ 900000) (hho1 : 1 ≤ ho ∧ ho ≤ 5) (hhm : hm (ho - 1).toNat = some o0) (hho : md_ho W od m) (hcc : md_CC W (fun z => s (26 + z)) wg stp) (hWr : ∀ b, -990 ≤ W b ∧ W b ≤ 990) (hrch : rc = rch) (hrr : 0 ≤ rch ∧ rch ≤ 99) : gMet K yX9_pass cX9_pass 3 (some .int) 4 0 0 [.ref xx, .int (iI n)] [cO xx 9 [.ref nA, .ref nZ, wx_taken, .ref hh, .ref q0, .ref t0, .ref g0], cO nA 8 [.ref h0, .ref po, .ref sr, .ref pr, .ref br, .int (iI ho)], cO q0 2 [.ref o0, .ref q1, .ref q2, .int (iI stp)], cA K q1 6 fc, cA K q2 36000 wg, cO o0 1 [.ref o1, .int (iI m), .int (iI rc)], cA K o1 100 od, cO t0 7 [wt_trial, wt_pulls, wt_fewest, wt_whose, .int (iI rf), wt_way], cO h0 5 [.ref k0, .ref k1, .ref k2, .ref k3, .ref k4, .ref k5, .int (iI aw), .int (iI cn), .int (iI sp)], cA K k0 6 kd, cA K k1 6 nb, cA K k2 6 rm, cA K k3 6 st, cA K k4 24 rw, cA K k5 6 nx, cH K hh 5 hm] (fun v9 w9 => ∃ (st2 : Int → Int), ∃ (nx2 : Int → Int), ∃ (sp2 : Int), ∃ (stp2 : Int), ∃ (rf2 : Int), ∃ (fc2 : Int → Int), ∃ (wg2 : Int → Int), v9 = some (.int (iI (an_pass s n))) ∧ w9 = [cO xx 9 [.ref nA, .ref nZ, wx_taken, .ref hh, .ref q0, .ref t0, .ref g0], cO nA 8 [.ref h0, .ref po, .ref sr, .ref pr, .ref br, .int (iI ho)], cO q0 2 [.ref o0, .ref q1, .ref q2, .int (iI stp2)], cA K q1 6 fc2, cA K q2 36000 wg2, cO o0 1 [.ref o1, .int (iI m), .int (iI rc)], cA K o1 100 od, cO t0 7 [wt_trial, wt_pulls, wt_fewest, wt_whose, .int (iI rf2), wt_way], cO h0 5 [.ref k0, .ref k1, .ref k2, .ref k3, .ref k4, .ref k5, .int (iI aw), .int (iI cn), .int (iI sp2)], cA K k0 6 kd, cA K k1 6 nb, cA K k2 6 rm, cA K k3 6 st2, cA K k4 24 rw, cA K k5 6 nx2, cH K hh 5 hm] ∧ (∀ j, rI (st2 j)) ∧ (∀ j, rI (nx2 j)) ∧ rI sp2 ∧ rI stp2 ∧ rI rf2 ∧ (∀ j, rI (fc2 j)) ∧ (∀ j, rI (wg2 j)) ∧ (cs_R (ne_pass W rch s n) kd nb rm st2 rw nx2 aw cn sp2) ∧ (((ne_pass W rch s n) = s ∧ stp2 = stp ∧ rf2 = rf) ∨ (stp2 = stp + 1 ∧ rf2 = 0)) ∧ (md_CC W (fun z => s (26 + z)) wg2 stp)) := by
  refine g_enter (by decide +kernel) (Nat.le_of_ble_eq_true rfl) (fun G hC hR => ?_)
  refine g_lv hC [0, 1] [(0, _), (1, _)] rfl ?_
  have h19 := hg.2.2.1
  have hg0 := hg.2.2.2
  have hcs := hR9.1
  refine g_iload_n (pc := 0) hC 1 dX9_pass_0 rfl rfl ?_
  refine g_if_lt (pc := 1) hC 10 dX9_pass_1 (by decide) (by first | exact r_n | assumption | omega) (fun c1 => ?_) (fun c1 => ?_)
  · refine g_bipush (pc := 10) hC (-2) dX9_pass_10 (by decide) ?_
    exact g_iret (pc := 12) hR dX9_pass_12 rfl ⟨by omega, by omega⟩ (Nat.le_of_ble_eq_true rfl) ⟨st, nx, sp, stp, rf, fc, wg, ret_eq (by unfold an_pass; rw [if_neg (by omega)]), rfl, (by first | assumption | omega), (by first | assumption | omega), (by first | exact r_sp | assumption | omega), (by first | exact r_stp | assumption | omega), (by first | exact r_rf | assumption | omega), (by first | assumption | omega), (by first | assumption | omega), (by unfold ne_pass; rw [if_neg (by omega)]; exact hR9), (Or.inl ⟨by unfold ne_pass; rw [if_neg (by omega)], rfl, rfl⟩), hcc⟩
  · refine g_iload_n (pc := 4) hC 1 dX9_pass_4 rfl rfl ?_
    refine g_bipush (pc := 5) hC (60) dX9_pass_5 (by decide) ?_
    refine g_icmp_le (pc := 7) hC 13 dX9_pass_7 (by decide) (by first | exact r_n | assumption | omega) (by first | assumption | decide | omega) (fun c7 => ?_) (fun c7 => ?_)
    · refine g_aload_n (pc := 13) hC 0 dX9_pass_13 rfl rfl ?_
      refine g_get (pc := 14) hC 0 fl_X9_12 dX9_pass_14 rfl rfl ?_
      refine g_get (pc := 17) hC 1 fl_X9_85 dX9_pass_17 rfl rfl ?_
      refine g_get (pc := 20) hC 8 fl_X9_141 dX9_pass_20 rfl rfl ?_
      refine g_iload_n (pc := 23) hC 1 dX9_pass_23 rfl rfl ?_
      refine g_iadd (pc := 24) hC dX9_pass_24 ?_
      refine g_sipush (pc := 25) hC (9999) dX9_pass_25 (by decide) ?_
      refine g_icmp_le (pc := 28) hC 34 dX9_pass_28 (by decide) (by first | assumption | decide | omega) (by first | assumption | decide | omega) (fun c28 => ?_) (fun c28 => ?_)
      · refine g_iconst (pc := 34) hC dX9_pass_34 ?_
        refine g_istore_n (pc := 35) hC [(2, _), (0, _), (1, _)] dX9_pass_35 rfl (by decide) rfl ?_
        have L36 : ∀ (n1 : Nat) (i : Int) (ts1 : Int → Int) (tx1 : Int → Int) (tp1 : Int) (j : Nat) (f1 : Int → Int) (w1 : Int → Int), (rI i) → (∀ j, rI (ts1 j)) → (∀ j, rI (tx1 j)) → (rI tp1) → (∀ j, rI (f1 j)) → (∀ j, rI (w1 j)) → (i = (j : Int)) → (i ≤ n) → (cs_R (md_goN W rch s j) kd nb rm ts1 rw tx1 aw cn tp1) → (md_CC W (fun z => s (26 + z)) w1 stp) → n - i < (n1 : Int) → G 0 0 36 [(0, .ref xx), (1, .int (iI n)), (2, .int (iI i))] [] [cO xx 9 [.ref nA, .ref nZ, wx_taken, .ref hh, .ref q0, .ref t0, .ref g0], cO nA 8 [.ref h0, .ref po, .ref sr, .ref pr, .ref br, .int (iI ho)], cO q0 2 [.ref o0, .ref q1, .ref q2, .int (iI stp)], cA K q1 6 f1, cA K q2 36000 w1, cO o0 1 [.ref o1, .int (iI m), .int (iI rc)], cA K o1 100 od, cO t0 7 [wt_trial, wt_pulls, wt_fewest, wt_whose, .int (iI rf), wt_way], cO h0 5 [.ref k0, .ref k1, .ref k2, .ref k3, .ref k4, .ref k5, .int (iI aw), .int (iI cn), .int (iI tp1)], cA K k0 6 kd, cA K k1 6 nb, cA K k2 6 rm, cA K k3 6 ts1, cA K k4 24 rw, cA K k5 6 tx1, cH K hh 5 hm] := by
          intro n1
          induction n1 with
          | zero => intro i ts1 tx1 tp1 j f1 w1 r_i r_ts1 r_tx1 r_tp1 r_f1 r_w1 hi hj hR1 hcc1 hm36; exfalso; omega
          | succ n1 ih36 =>
            intro i ts1 tx1 tp1 j f1 w1 r_i r_ts1 r_tx1 r_tp1 r_f1 r_w1 hi hj hR1 hcc1 hm36
            have hgj : md_rg (md_goN W rch s j) := md_goN_rg hg j (by omega)
            have h0j : (md_goN W rch s j) 0 = s 0 + (j : Int) := md_goN_0 j
            have hR10 := hR1.1
            refine g_iload_n (pc := 36) hC 2 dX9_pass_36 rfl rfl ?_
            refine g_iload_n (pc := 37) hC 1 dX9_pass_37 rfl rfl ?_
            refine g_icmp_ge (pc := 38) hC 61 dX9_pass_38 (by decide) (by first | exact r_i | assumption | omega) (by first | exact r_n | assumption | omega) (fun c38 => ?_) (fun c38 => ?_)
            · have hne : ne_pass W rch s n = (md_goN W rch s j) := by unfold ne_pass; rw [if_pos (by omega), show n.toNat = j by omega]
              refine g_aload_n (pc := 61) hC 0 dX9_pass_61 rfl rfl ?_
              refine g_callV (pc := 62) (qr := 0) hC [0, 1, 2, 4, 7, 15] (k_X9_forget_r _ _ _ _ _ _ _ _ _ _ _ _ _ _ _ _ _ _ _ _ _ _ _ _ _ _ o0 (by first | exact r_ho | assumption | omega) (by first | exact r_stp | assumption | omega) (by first | exact r_w1 | assumption | omega) (by first | assumption | omega) hhm) cl_X9_forgetWorked wm_X9_79 dX9_pass_62 rfl rfl rfl rfl rfl (by decide) (by decide) (by omega) (Nat.le_of_ble_eq_true rfl) rfl (fun v9 w9 hq9 => ?_)
              obtain ⟨rfl, rfl⟩ := hq9
              refine g_ws hC [cO xx 9 [.ref nA, .ref nZ, wx_taken, .ref hh, .ref q0, .ref t0, .ref g0], cO nA 8 [.ref h0, .ref po, .ref sr, .ref pr, .ref br, .int (iI ho)], cO q0 2 [.ref o0, .ref q1, .ref q2, .int (iI (stp + 1))], cA K q1 6 f1, cA K q2 36000 w1, cO o0 1 [.ref o1, .int (iI m), .int (iI rc)], cA K o1 100 od, cO t0 7 [wt_trial, wt_pulls, wt_fewest, wt_whose, .int (iI 0), wt_way], cO h0 5 [.ref k0, .ref k1, .ref k2, .ref k3, .ref k4, .ref k5, .int (iI aw), .int (iI cn), .int (iI tp1)], cA K k0 6 kd, cA K k1 6 nb, cA K k2 6 rm, cA K k3 6 ts1, cA K k4 24 rw, cA K k5 6 tx1, cH K hh 5 hm] rfl ?_
              refine g_st hC [] rfl ?_
              refine g_aload_n (pc := 65) hC 0 dX9_pass_65 rfl rfl ?_
              refine g_get (pc := 66) hC 0 fl_X9_12 dX9_pass_66 rfl rfl ?_
              refine g_get (pc := 69) hC 1 fl_X9_85 dX9_pass_69 rfl rfl ?_
              refine g_get (pc := 72) hC 8 fl_X9_141 dX9_pass_72 rfl rfl ?_
              exact g_iret (pc := 75) hR dX9_pass_75 rfl ⟨by omega, by omega⟩ (Nat.le_of_ble_eq_true rfl) ⟨ts1, tx1, tp1, stp + 1, 0, f1, w1, ret_eq (by unfold an_pass; rw [if_pos (by omega), if_neg (by omega)]; omega), rfl, (by first | assumption | omega), (by first | assumption | omega), (by first | exact r_tp1 | assumption | omega), (by first | assumption | omega), (by decide), (by first | assumption | omega), (by first | assumption | omega), (by rw [hne]; exact hR1), (Or.inr ⟨rfl, rfl⟩), hcc1⟩
            · refine g_aload_n (pc := 41) hC 0 dX9_pass_41 rfl rfl ?_
              refine g_get (pc := 42) hC 0 fl_X9_12 dX9_pass_42 rfl rfl ?_
              refine g_get (pc := 45) hC 1 fl_X9_85 dX9_pass_45 rfl rfl ?_
              refine g_aload_n (pc := 48) hC 0 dX9_pass_48 rfl rfl ?_
              refine g_get (pc := 49) hC 0 fl_X9_30 dX9_pass_49 rfl rfl ?_
              refine g_callV (pc := 52) (qr := 8) hC [2, 3, 4, 5, 6, 8, 9, 10, 11, 12, 13, 14] (k_X5_goOneStep_r _ _ _ _ _ _ _ _ _ _ _ _ _ _ _ _ _ _ _ _ _ _ _ _ _ _ _ (md_goN W rch s j) W rch (by first | exact r_stp | assumption | omega) (by first | exact r_m | assumption | omega) (by first | exact r_rc | assumption | omega) (by first | exact r_aw | assumption | omega) (by first | exact r_cn | assumption | omega) (by first | exact r_tp1 | assumption | omega) (by first | exact r_f1 | assumption | omega) (by first | exact r_w1 | assumption | omega) (by first | exact r_od | assumption | omega) (by first | exact r_kd | assumption | omega) (by first | exact r_nb | assumption | omega) (by first | exact r_rm | assumption | omega) (by first | exact r_ts1 | assumption | omega) (by first | exact r_rw | assumption | omega) (by first | exact r_tx1 | assumption | omega) hgj hR1 (by first | assumption | omega) ((cc_go h19.2 j).mpr hcc1) (by first | assumption | omega) (by first | assumption | omega) (by first | assumption | omega)) cl_X5_goOneStep wm_X9_155 dX9_pass_52 rfl rfl rfl rfl rfl (by decide) (by decide) (by omega) (Nat.le_of_ble_eq_true rfl) rfl (fun v9 w9 hq9 => ?_)
              obtain ⟨n2, st3, fc4, wg5, rfl, rfl, r_n2, r_st3, r_fc4, r_wg5, hR2_52, hcc2_52⟩ := hq9
              refine g_ws hC [cO xx 9 [.ref nA, .ref nZ, wx_taken, .ref hh, .ref q0, .ref t0, .ref g0], cO nA 8 [.ref h0, .ref po, .ref sr, .ref pr, .ref br, .int (iI ho)], cO q0 2 [.ref o0, .ref q1, .ref q2, .int (iI stp)], cA K q1 6 fc4, cA K q2 36000 wg5, cO o0 1 [.ref o1, .int (iI m), .int (iI rc)], cA K o1 100 od, cO t0 7 [wt_trial, wt_pulls, wt_fewest, wt_whose, .int (iI rf), wt_way], cO h0 5 [.ref k0, .ref k1, .ref k2, .ref k3, .ref k4, .ref k5, .int (iI aw), .int (iI cn), .int (iI (tp1 + 1))], cA K k0 6 kd, cA K k1 6 nb, cA K k2 6 rm, cA K k3 6 st3, cA K k4 24 rw, cA K k5 6 n2, cH K hh 5 hm] (by dsimp only [gput, gputL, List.set_cons_zero, List.set_cons_succ, List.cons_append, List.nil_append]) ?_
              refine g_st hC [] rfl ?_
              refine g_iinc (pc := 55) hC 2 [(2, _), (0, _), (1, _)] dX9_pass_55 rfl (by decide) rfl ?_
              refine g_goto (pc := 58) hC 36 dX9_pass_58 (by decide) ?_
              refine g_lv hC [1, 2, 0] [(0, _), (1, _), (2, _)] rfl ?_
              exact ih36 (i + 1) st3 n2 (tp1 + 1) (j + 1) fc4 wg5 (by first | assumption | omega) (by first | assumption | omega) (by first | assumption | omega) (by have h9 := hR1.1; have h8 := hgj.2.2.2; omega) (by first | assumption | omega) (by first | assumption | omega) (by first | assumption | omega) (by first | assumption | omega) hR2_52 ((cc_go h19.2 j).mp hcc2_52) (by omega)
        refine g_lv hC [1, 2, 0] [(0, _), (1, _), (2, _)] rfl ?_
        exact L36 ((n - 0 : Int).toNat + 1) 0 st nx sp 0 fc wg (by decide) (by first | assumption | omega) (by first | assumption | omega) (by first | exact r_sp | assumption | omega) (by first | assumption | omega) (by first | assumption | omega) (by first | assumption | omega) (by first | assumption | omega) hR9 (by first | assumption | omega) (by omega)
      · refine g_bipush (pc := 31) hC (-3) dX9_pass_31 (by decide) ?_
        exact g_iret (pc := 33) hR dX9_pass_33 rfl ⟨by omega, by omega⟩ (Nat.le_of_ble_eq_true rfl) ⟨st, nx, sp, stp, rf, fc, wg, ret_eq (by unfold an_pass; rw [if_pos (by omega), if_pos (by omega)]), rfl, (by first | assumption | omega), (by first | assumption | omega), (by first | exact r_sp | assumption | omega), (by first | exact r_stp | assumption | omega), (by first | exact r_rf | assumption | omega), (by first | assumption | omega), (by first | assumption | omega), (by unfold ne_pass; rw [if_neg (by omega)]; exact hR9), (Or.inl ⟨by unfold ne_pass; rw [if_neg (by omega)], rfl, rfl⟩), hcc⟩
    · refine g_bipush (pc := 10) hC (-2) dX9_pass_10 (by decide) ?_
      exact g_iret (pc := 12) hR dX9_pass_12 rfl ⟨by omega, by omega⟩ (Nat.le_of_ble_eq_true rfl) ⟨st, nx, sp, stp, rf, fc, wg, ret_eq (by unfold an_pass; rw [if_neg (by omega)]), rfl, (by first | assumption | omega), (by first | assumption | omega), (by first | exact r_sp | assumption | omega), (by first | exact r_stp | assumption | omega), (by first | exact r_rf | assumption | omega), (by first | assumption | omega), (by first | assumption | omega), (by unfold ne_pass; rw [if_neg (by omega)]; exact hR9), (Or.inl ⟨by unfold ne_pass; rw [if_neg (by omega)], rfl, rfl⟩), hcc⟩
set_option maxHeartbeats 4000000 in
set_option maxRecDepth 100000 in
theorem k_X9_image {K : gK} (xx : Nat) (nA : Nat) (nZ : Nat) (hh : Nat) (q0 : Nat) (t0 : Nat) (g0 : Nat) (hA : Nat) (poA : Nat) (srA : Nat) (prA : Nat) (brA : Nat) (kA0 : Nat) (kA1 : Nat) (kA2 : Nat) (kA3 : Nat) (kA4 : Nat) (kA5 : Nat) (paA : Nat) (srA1 : Nat) (srA2 : Nat) (srA3 : Nat) (prA1 : Nat) (prA2 : Nat) (prA3 : Nat) (brA1 : Nat) (brA2 : Nat) (brA3 : Nat) (hZ : Nat) (poZ : Nat) (srZ : Nat) (prZ : Nat) (brZ : Nat) (kZ0 : Nat) (kZ1 : Nat) (kZ2 : Nat) (kZ3 : Nat) (kZ4 : Nat) (kZ5 : Nat) (paZ : Nat) (srZ1 : Nat) (srZ2 : Nat) (srZ3 : Nat) (prZ1 : Nat) (prZ2 : Nat) (prZ3 : Nat) (brZ1 : Nat) (brZ2 : Nat) (brZ3 : Nat) (tkn : Int) (hoA : Int) (awA : Int) (cnA : Int) (spA : Int) (tzA : Int) (senA : Int) (plnA : Int) (bonA : Int) (hoZ : Int) (awZ : Int) (cnZ : Int) (spZ : Int) (tzZ : Int) (senZ : Int) (plnZ : Int) (bonZ : Int) (kdA : Int → Int) (nbA : Int → Int) (rmA : Int → Int) (stA : Int → Int) (rwA : Int → Int) (nxA : Int → Int) (tfA : Int → Int) (seA1 : Int → Int) (seA2 : Int → Int) (seA3 : Int → Int) (plA1 : Int → Int) (plA2 : Int → Int) (plA3 : Int → Int) (boA1 : Int → Int) (boA2 : Int → Int) (boA3 : Int → Int) (kdZ : Int → Int) (nbZ : Int → Int) (rmZ : Int → Int) (stZ : Int → Int) (rwZ : Int → Int) (nxZ : Int → Int) (tfZ : Int → Int) (seZ1 : Int → Int) (seZ2 : Int → Int) (seZ3 : Int → Int) (plZ1 : Int → Int) (plZ2 : Int → Int) (plZ3 : Int → Int) (boZ1 : Int → Int) (boZ2 : Int → Int) (boZ3 : Int → Int) (s : Int → Int) (r_tkn : rI tkn) (r_hoA : rI hoA) (r_awA : rI awA) (r_cnA : rI cnA) (r_spA : rI spA) (r_tzA : rI tzA) (r_senA : rI senA) (r_plnA : rI plnA) (r_bonA : rI bonA) (r_hoZ : rI hoZ) (r_awZ : rI awZ) (r_cnZ : rI cnZ) (r_spZ : rI spZ) (r_tzZ : rI tzZ) (r_senZ : rI senZ) (r_plnZ : rI plnZ) (r_bonZ : rI bonZ) (r_kdA : ∀ j, rI (kdA j)) (r_nbA : ∀ j, rI (nbA j)) (r_rmA : ∀ j, rI (rmA j)) (r_stA : ∀ j, rI (stA j)) (r_rwA : ∀ j, rI (rwA j)) (r_nxA : ∀ j, rI (nxA j)) (r_tfA : ∀ j, rI (tfA j)) (r_seA1 : ∀ j, rI (seA1 j)) (r_seA2 : ∀ j, rI (seA2 j)) (r_seA3 : ∀ j, rI (seA3 j)) (r_plA1 : ∀ j, rI (plA1 j)) (r_plA2 : ∀ j, rI (plA2 j)) (r_plA3 : ∀ j, rI (plA3 j)) (r_boA1 : ∀ j, rI (boA1 j)) (r_boA2 : ∀ j, rI (boA2 j)) (r_boA3 : ∀ j, rI (boA3 j)) (r_kdZ : ∀ j, rI (kdZ j)) (r_nbZ : ∀ j, rI (nbZ j)) (r_rmZ : ∀ j, rI (rmZ j)) (r_stZ : ∀ j, rI (stZ j)) (r_rwZ : ∀ j, rI (rwZ j)) (r_nxZ : ∀ j, rI (nxZ j)) (r_tfZ : ∀ j, rI (tfZ j)) (r_seZ1 : ∀ j, rI (seZ1 j)) (r_seZ2 : ∀ j, rI (seZ2 j)) (r_seZ3 : ∀ j, rI (seZ3 j)) (r_plZ1 : ∀ j, rI (plZ1 j)) (r_plZ2 : ∀ j, rI (plZ2 j)) (r_plZ3 : ∀ j, rI (plZ3 j)) (r_boZ1 : ∀ j, rI (boZ1 j)) (r_boZ2 : ∀ j, rI (boZ2 j)) (r_boZ3 : ∀ j, rI (boZ3 j)) (hg : md_rg s) (hs : md_rs s) (hwR : cw_R s kdA nbA rmA stA rwA nxA awA cnA spA tfA tzA seA1 seA2 seA3 senA plA1 plA2 plnA boA1 boA2 bonA hoA) (hn0 : ∀ p, 0 ≤ p → p < 6 → 0 ≤ nxZ p ∧ nxZ p ≤ 9) : gMet K yX9_image cX9_image 1 (some .int) 3 0 0 [.ref xx] [cO xx 9 [.ref nA, .ref nZ, .int (iI tkn), .ref hh, .ref q0, .ref t0, .ref g0], cO nA 8 [.ref hA, .ref poA, .ref srA, .ref prA, .ref brA, .int (iI hoA)], cO hA 5 [.ref kA0, .ref kA1, .ref kA2, .ref kA3, .ref kA4, .ref kA5, .int (iI awA), .int (iI cnA), .int (iI spA)], cA K kA0 6 kdA, cA K kA1 6 nbA, cA K kA2 6 rmA, cA K kA3 6 stA, cA K kA4 24 rwA, cA K kA5 6 nxA, cO poA 6 [.ref paA, .int (iI tzA)], cA K paA 100 tfA, cO srA 4 [.ref srA1, .ref srA2, .ref srA3, .int (iI senA)], cA K srA1 8 seA1, cA K srA2 8 seA2, cA K srA3 8 seA3, cO prA 4 [.ref prA1, .ref prA2, .ref prA3, .int (iI plnA)], cA K prA1 8 plA1, cA K prA2 8 plA2, cA K prA3 8 plA3, cO brA 4 [.ref brA1, .ref brA2, .ref brA3, .int (iI bonA)], cA K brA1 8 boA1, cA K brA2 8 boA2, cA K brA3 8 boA3, cO nZ 8 [.ref hZ, .ref poZ, .ref srZ, .ref prZ, .ref brZ, .int (iI hoZ)], cO hZ 5 [.ref kZ0, .ref kZ1, .ref kZ2, .ref kZ3, .ref kZ4, .ref kZ5, .int (iI awZ), .int (iI cnZ), .int (iI spZ)], cA K kZ0 6 kdZ, cA K kZ1 6 nbZ, cA K kZ2 6 rmZ, cA K kZ3 6 stZ, cA K kZ4 24 rwZ, cA K kZ5 6 nxZ, cO poZ 6 [.ref paZ, .int (iI tzZ)], cA K paZ 100 tfZ, cO srZ 4 [.ref srZ1, .ref srZ2, .ref srZ3, .int (iI senZ)], cA K srZ1 8 seZ1, cA K srZ2 8 seZ2, cA K srZ3 8 seZ3, cO prZ 4 [.ref prZ1, .ref prZ2, .ref prZ3, .int (iI plnZ)], cA K prZ1 8 plZ1, cA K prZ2 8 plZ2, cA K prZ3 8 plZ3, cO brZ 4 [.ref brZ1, .ref brZ2, .ref brZ3, .int (iI bonZ)], cA K brZ1 8 boZ1, cA K brZ2 8 boZ2, cA K brZ3 8 boZ3] (fun v9 w9 => ∃ (kdC : Int → Int), ∃ (nbC : Int → Int), ∃ (rmC : Int → Int), ∃ (stC : Int → Int), ∃ (rwC : Int → Int), ∃ (tfC : Int → Int), ∃ (seC1 : Int → Int), ∃ (seC2 : Int → Int), ∃ (seC3 : Int → Int), ∃ (plC1 : Int → Int), ∃ (plC2 : Int → Int), ∃ (plC3 : Int → Int), ∃ (boC1 : Int → Int), ∃ (boC2 : Int → Int), ∃ (boC3 : Int → Int), v9 = some (.int (iI (s 19))) ∧ w9 = [cO xx 9 [.ref nA, .ref nZ, .int (iI 1), .ref hh, .ref q0, .ref t0, .ref g0], cO nA 8 [.ref hA, .ref poA, .ref srA, .ref prA, .ref brA, .int (iI hoA)], cO hA 5 [.ref kA0, .ref kA1, .ref kA2, .ref kA3, .ref kA4, .ref kA5, .int (iI awA), .int (iI cnA), .int (iI spA)], cA K kA0 6 kdA, cA K kA1 6 nbA, cA K kA2 6 rmA, cA K kA3 6 stA, cA K kA4 24 rwA, cA K kA5 6 nxA, cO poA 6 [.ref paA, .int (iI tzA)], cA K paA 100 tfA, cO srA 4 [.ref srA1, .ref srA2, .ref srA3, .int (iI senA)], cA K srA1 8 seA1, cA K srA2 8 seA2, cA K srA3 8 seA3, cO prA 4 [.ref prA1, .ref prA2, .ref prA3, .int (iI plnA)], cA K prA1 8 plA1, cA K prA2 8 plA2, cA K prA3 8 plA3, cO brA 4 [.ref brA1, .ref brA2, .ref brA3, .int (iI bonA)], cA K brA1 8 boA1, cA K brA2 8 boA2, cA K brA3 8 boA3, cO nZ 8 [.ref hZ, .ref poZ, .ref srZ, .ref prZ, .ref brZ, .int (iI hoA)], cO hZ 5 [.ref kZ0, .ref kZ1, .ref kZ2, .ref kZ3, .ref kZ4, .ref kZ5, .int (iI awA), .int (iI cnA), .int (iI spA)], cA K kZ0 6 kdC, cA K kZ1 6 nbC, cA K kZ2 6 rmC, cA K kZ3 6 stC, cA K kZ4 24 rwC, cA K kZ5 6 nxZ, cO poZ 6 [.ref paZ, .int (iI tzA)], cA K paZ 100 tfC, cO srZ 4 [.ref srZ1, .ref srZ2, .ref srZ3, .int (iI senA)], cA K srZ1 8 seC1, cA K srZ2 8 seC2, cA K srZ3 8 seC3, cO prZ 4 [.ref prZ1, .ref prZ2, .ref prZ3, .int (iI plnA)], cA K prZ1 8 plC1, cA K prZ2 8 plC2, cA K prZ3 8 plC3, cO brZ 4 [.ref brZ1, .ref brZ2, .ref brZ3, .int (iI bonA)], cA K brZ1 8 boC1, cA K brZ2 8 boC2, cA K brZ3 8 boC3] ∧ (∀ j, rI (kdC j)) ∧ (∀ j, rI (nbC j)) ∧ (∀ j, rI (rmC j)) ∧ (∀ j, rI (stC j)) ∧ (∀ j, rI (rwC j)) ∧ (∀ j, rI (tfC j)) ∧ (∀ j, rI (seC1 j)) ∧ (∀ j, rI (seC2 j)) ∧ (∀ j, rI (seC3 j)) ∧ (∀ j, rI (plC1 j)) ∧ (∀ j, rI (plC2 j)) ∧ (∀ j, rI (plC3 j)) ∧ (∀ j, rI (boC1 j)) ∧ (∀ j, rI (boC2 j)) ∧ (∀ j, rI (boC3 j)) ∧ (cw_R s kdC nbC rmC stC rwC nxZ awA cnA spA tfC tzA seC1 seC2 seC3 senA plC1 plC2 plnA boC1 boC2 bonA hoA)) := by
  refine g_enter (by decide +kernel) (Nat.le_of_ble_eq_true rfl) (fun G hC hR => ?_)
  refine g_lv hC [0] [(0, _)] rfl ?_
  have hR9 := hwR.1
  have hcs := hR9.1
  refine g_aload_n (pc := 0) hC 0 dX9_image_0 rfl rfl ?_
  refine g_get (pc := 1) hC 0 fl_X9_18 dX9_image_1 rfl rfl ?_
  refine g_aload_n (pc := 4) hC 0 dX9_image_4 rfl rfl ?_
  refine g_get (pc := 5) hC 0 fl_X9_12 dX9_image_5 rfl rfl ?_
  refine g_callV (pc := 8) (qr := 23) hC [23, 24, 25, 26, 27, 28, 29, 30, 31, 32, 33, 34, 35, 36, 37, 38, 39, 40, 41, 42, 43, 44, 1, 2, 3, 4, 5, 6, 7, 8, 9, 10, 11, 12, 13, 14, 15, 16, 17, 18, 19, 20, 21, 22] (k_X8_copyFrom _ _ _ _ _ _ _ _ _ _ _ _ _ _ _ _ _ _ _ _ _ _ _ _ _ _ _ _ _ _ _ _ _ _ _ _ _ _ _ _ _ _ _ _ _ _ _ _ _ _ _ _ _ _ _ _ _ _ _ _ _ _ _ _ _ _ _ _ _ _ _ _ _ _ _ _ _ _ _ _ _ _ _ _ _ _ _ _ _ _ _ _ s (by first | exact r_hoZ | assumption | omega) (by first | exact r_awZ | assumption | omega) (by first | exact r_cnZ | assumption | omega) (by first | exact r_spZ | assumption | omega) (by first | exact r_tzZ | assumption | omega) (by first | exact r_senZ | assumption | omega) (by first | exact r_plnZ | assumption | omega) (by first | exact r_bonZ | assumption | omega) (by first | exact r_hoA | assumption | omega) (by first | exact r_awA | assumption | omega) (by first | exact r_cnA | assumption | omega) (by first | exact r_spA | assumption | omega) (by first | exact r_tzA | assumption | omega) (by first | exact r_senA | assumption | omega) (by first | exact r_plnA | assumption | omega) (by first | exact r_bonA | assumption | omega) (by first | exact r_kdZ | assumption | omega) (by first | exact r_nbZ | assumption | omega) (by first | exact r_rmZ | assumption | omega) (by first | exact r_stZ | assumption | omega) (by first | exact r_rwZ | assumption | omega) (by first | exact r_nxZ | assumption | omega) (by first | exact r_tfZ | assumption | omega) (by first | exact r_seZ1 | assumption | omega) (by first | exact r_seZ2 | assumption | omega) (by first | exact r_seZ3 | assumption | omega) (by first | exact r_plZ1 | assumption | omega) (by first | exact r_plZ2 | assumption | omega) (by first | exact r_plZ3 | assumption | omega) (by first | exact r_boZ1 | assumption | omega) (by first | exact r_boZ2 | assumption | omega) (by first | exact r_boZ3 | assumption | omega) (by first | exact r_kdA | assumption | omega) (by first | exact r_nbA | assumption | omega) (by first | exact r_rmA | assumption | omega) (by first | exact r_stA | assumption | omega) (by first | exact r_rwA | assumption | omega) (by first | exact r_nxA | assumption | omega) (by first | exact r_tfA | assumption | omega) (by first | exact r_seA1 | assumption | omega) (by first | exact r_seA2 | assumption | omega) (by first | exact r_seA3 | assumption | omega) (by first | exact r_plA1 | assumption | omega) (by first | exact r_plA2 | assumption | omega) (by first | exact r_plA3 | assumption | omega) (by first | exact r_boA1 | assumption | omega) (by first | exact r_boA2 | assumption | omega) (by first | exact r_boA3 | assumption | omega) (by first | assumption | omega) (by first | assumption | omega) (by first | assumption | omega) (by first | assumption | omega)) cl_X8_copyFrom wm_X9_262 dX9_image_8 rfl rfl rfl rfl rfl (by decide) (by decide) (by omega) (Nat.le_of_ble_eq_true rfl) rfl (fun v9 w9 hq9 => ?_)
  obtain ⟨kdD, nbD, rmD, stD, rwD, tfD, seD1, seD2, seD3, plD1, plD2, plD3, boD1, boD2, boD3, rfl, rfl, r_kdD, r_nbD, r_rmD, r_stD, r_rwD, r_tfD, r_seD1, r_seD2, r_seD3, r_plD1, r_plD2, r_plD3, r_boD1, r_boD2, r_boD3, hwR2_8⟩ := hq9
  refine g_ws hC [cO xx 9 [.ref nA, .ref nZ, .int (iI tkn), .ref hh, .ref q0, .ref t0, .ref g0], cO nA 8 [.ref hA, .ref poA, .ref srA, .ref prA, .ref brA, .int (iI hoA)], cO hA 5 [.ref kA0, .ref kA1, .ref kA2, .ref kA3, .ref kA4, .ref kA5, .int (iI awA), .int (iI cnA), .int (iI spA)], cA K kA0 6 kdA, cA K kA1 6 nbA, cA K kA2 6 rmA, cA K kA3 6 stA, cA K kA4 24 rwA, cA K kA5 6 nxA, cO poA 6 [.ref paA, .int (iI tzA)], cA K paA 100 tfA, cO srA 4 [.ref srA1, .ref srA2, .ref srA3, .int (iI senA)], cA K srA1 8 seA1, cA K srA2 8 seA2, cA K srA3 8 seA3, cO prA 4 [.ref prA1, .ref prA2, .ref prA3, .int (iI plnA)], cA K prA1 8 plA1, cA K prA2 8 plA2, cA K prA3 8 plA3, cO brA 4 [.ref brA1, .ref brA2, .ref brA3, .int (iI bonA)], cA K brA1 8 boA1, cA K brA2 8 boA2, cA K brA3 8 boA3, cO nZ 8 [.ref hZ, .ref poZ, .ref srZ, .ref prZ, .ref brZ, .int (iI hoA)], cO hZ 5 [.ref kZ0, .ref kZ1, .ref kZ2, .ref kZ3, .ref kZ4, .ref kZ5, .int (iI awA), .int (iI cnA), .int (iI spA)], cA K kZ0 6 kdD, cA K kZ1 6 nbD, cA K kZ2 6 rmD, cA K kZ3 6 stD, cA K kZ4 24 rwD, cA K kZ5 6 nxZ, cO poZ 6 [.ref paZ, .int (iI tzA)], cA K paZ 100 tfD, cO srZ 4 [.ref srZ1, .ref srZ2, .ref srZ3, .int (iI senA)], cA K srZ1 8 seD1, cA K srZ2 8 seD2, cA K srZ3 8 seD3, cO prZ 4 [.ref prZ1, .ref prZ2, .ref prZ3, .int (iI plnA)], cA K prZ1 8 plD1, cA K prZ2 8 plD2, cA K prZ3 8 plD3, cO brZ 4 [.ref brZ1, .ref brZ2, .ref brZ3, .int (iI bonA)], cA K brZ1 8 boD1, cA K brZ2 8 boD2, cA K brZ3 8 boD3] (by dsimp only [gput, gputL, List.set_cons_zero, List.set_cons_succ, List.cons_append, List.nil_append]) ?_
  refine g_st hC [] rfl ?_
  refine g_aload_n (pc := 11) hC 0 dX9_image_11 rfl rfl ?_
  refine g_iconst (pc := 12) hC dX9_image_12 ?_
  refine g_putZ (pc := 13) hC 0 [cO _ _ [_, _, _, _, _, _, _], _, _, _, _, _, _, _, _, _, _, _, _, _, _, _, _, _, _, _, _, _, _, _, _, _, _, _, _, _, _, _, _, _, _, _, _, _, _, _, _, _, _, _, _] fl_X9_266 dX9_image_13 rfl (Nat.le_of_ble_eq_true rfl) (by omega) rfl ?_
  refine g_aload_n (pc := 16) hC 0 dX9_image_16 rfl rfl ?_
  refine g_get (pc := 17) hC 0 fl_X9_12 dX9_image_17 rfl rfl ?_
  refine g_get (pc := 20) hC 1 fl_X9_85 dX9_image_20 rfl rfl ?_
  refine g_get (pc := 23) hC 2 fl_X9_181 dX9_image_23 rfl rfl ?_
  exact g_iret (pc := 26) hR dX9_image_26 rfl ⟨by omega, by omega⟩ (Nat.le_of_ble_eq_true rfl) ⟨kdD, nbD, rmD, stD, rwD, tfD, seD1, seD2, seD3, plD1, plD2, plD3, boD1, boD2, boD3, ret_eq (by omega), rfl, (by first | assumption | omega), (by first | assumption | omega), (by first | assumption | omega), (by first | assumption | omega), (by first | assumption | omega), (by first | assumption | omega), (by first | assumption | omega), (by first | assumption | omega), (by first | assumption | omega), (by first | assumption | omega), (by first | assumption | omega), (by first | assumption | omega), (by first | assumption | omega), (by first | assumption | omega), (by first | assumption | omega), hwR2_8⟩
set_option maxHeartbeats 4000000 in
set_option maxRecDepth 100000 in
theorem k_X9_undo_0 {K : gK} (xx : Nat) (nA : Nat) (nZ : Nat) (hh : Nat) (q0 : Nat) (t0 : Nat) (g0 : Nat) (tkn : Int) (r_tkn : rI tkn) (ht0 : tkn = 0) : gFn K yX9_undo cX9_undo 1 (some .int) 3 [.ref xx] [cO xx 9 [.ref nA, .ref nZ, .int (iI tkn), .ref hh, .ref q0, .ref t0, .ref g0]] (-3) := by
  refine g_enter (by decide +kernel) (Nat.le_of_ble_eq_true rfl) (fun G hC hR => ?_)
  refine g_lv hC [0] [(0, _)] rfl ?_
  refine g_aload_n (pc := 0) hC 0 dX9_undo_0 rfl rfl ?_
  refine g_get (pc := 1) hC 0 fl_X9_266 dX9_undo_1 rfl rfl ?_
  refine g_if_ne (pc := 4) hC 10 dX9_undo_4 (by decide) (by first | exact r_tkn | assumption | omega) (fun c4 => by exfalso; omega) (fun c4 => ?_)
  refine g_bipush (pc := 7) hC (-3) dX9_undo_7 (by decide) ?_
  exact g_iret (pc := 9) hR dX9_undo_9 rfl ⟨by omega, by omega⟩ (Nat.le_of_ble_eq_true rfl) ⟨ret_eq rfl, rfl⟩
set_option maxHeartbeats 4000000 in
set_option maxRecDepth 100000 in
theorem k_X9_undo_n {K : gK} (xx : Nat) (nA : Nat) (nZ : Nat) (hh : Nat) (q0 : Nat) (t0 : Nat) (g0 : Nat) (hA : Nat) (poA : Nat) (srA : Nat) (prA : Nat) (brA : Nat) (kA0 : Nat) (kA1 : Nat) (kA2 : Nat) (kA3 : Nat) (kA4 : Nat) (kA5 : Nat) (paA : Nat) (srA1 : Nat) (srA2 : Nat) (srA3 : Nat) (prA1 : Nat) (prA2 : Nat) (prA3 : Nat) (brA1 : Nat) (brA2 : Nat) (brA3 : Nat) (hZ : Nat) (poZ : Nat) (srZ : Nat) (prZ : Nat) (brZ : Nat) (kZ0 : Nat) (kZ1 : Nat) (kZ2 : Nat) (kZ3 : Nat) (kZ4 : Nat) (kZ5 : Nat) (paZ : Nat) (srZ1 : Nat) (srZ2 : Nat) (srZ3 : Nat) (prZ1 : Nat) (prZ2 : Nat) (prZ3 : Nat) (brZ1 : Nat) (brZ2 : Nat) (brZ3 : Nat) (wq_house : Value) (wq_facts : Value) (wq_weighed : Value) (wt_trial : Value) (wt_pulls : Value) (wt_fewest : Value) (wt_whose : Value) (wt_roomsFound : Value) (wt_way : Value) (tkn : Int) (hoA : Int) (awA : Int) (cnA : Int) (spA : Int) (tzA : Int) (senA : Int) (plnA : Int) (bonA : Int) (hoZ : Int) (awZ : Int) (cnZ : Int) (spZ : Int) (tzZ : Int) (senZ : Int) (plnZ : Int) (bonZ : Int) (stp : Int) (kdA : Int → Int) (nbA : Int → Int) (rmA : Int → Int) (stA : Int → Int) (rwA : Int → Int) (nxA : Int → Int) (tfA : Int → Int) (seA1 : Int → Int) (seA2 : Int → Int) (seA3 : Int → Int) (plA1 : Int → Int) (plA2 : Int → Int) (plA3 : Int → Int) (boA1 : Int → Int) (boA2 : Int → Int) (boA3 : Int → Int) (kdZ : Int → Int) (nbZ : Int → Int) (rmZ : Int → Int) (stZ : Int → Int) (rwZ : Int → Int) (nxZ : Int → Int) (tfZ : Int → Int) (seZ1 : Int → Int) (seZ2 : Int → Int) (seZ3 : Int → Int) (plZ1 : Int → Int) (plZ2 : Int → Int) (plZ3 : Int → Int) (boZ1 : Int → Int) (boZ2 : Int → Int) (boZ3 : Int → Int) (s : Int → Int) (r_tkn : rI tkn) (r_hoA : rI hoA) (r_awA : rI awA) (r_cnA : rI cnA) (r_spA : rI spA) (r_tzA : rI tzA) (r_senA : rI senA) (r_plnA : rI plnA) (r_bonA : rI bonA) (r_hoZ : rI hoZ) (r_awZ : rI awZ) (r_cnZ : rI cnZ) (r_spZ : rI spZ) (r_tzZ : rI tzZ) (r_senZ : rI senZ) (r_plnZ : rI plnZ) (r_bonZ : rI bonZ) (r_stp : rI stp) (r_kdA : ∀ j, rI (kdA j)) (r_nbA : ∀ j, rI (nbA j)) (r_rmA : ∀ j, rI (rmA j)) (r_stA : ∀ j, rI (stA j)) (r_rwA : ∀ j, rI (rwA j)) (r_nxA : ∀ j, rI (nxA j)) (r_tfA : ∀ j, rI (tfA j)) (r_seA1 : ∀ j, rI (seA1 j)) (r_seA2 : ∀ j, rI (seA2 j)) (r_seA3 : ∀ j, rI (seA3 j)) (r_plA1 : ∀ j, rI (plA1 j)) (r_plA2 : ∀ j, rI (plA2 j)) (r_plA3 : ∀ j, rI (plA3 j)) (r_boA1 : ∀ j, rI (boA1 j)) (r_boA2 : ∀ j, rI (boA2 j)) (r_boA3 : ∀ j, rI (boA3 j)) (r_kdZ : ∀ j, rI (kdZ j)) (r_nbZ : ∀ j, rI (nbZ j)) (r_rmZ : ∀ j, rI (rmZ j)) (r_stZ : ∀ j, rI (stZ j)) (r_rwZ : ∀ j, rI (rwZ j)) (r_nxZ : ∀ j, rI (nxZ j)) (r_tfZ : ∀ j, rI (tfZ j)) (r_seZ1 : ∀ j, rI (seZ1 j)) (r_seZ2 : ∀ j, rI (seZ2 j)) (r_seZ3 : ∀ j, rI (seZ3 j)) (r_plZ1 : ∀ j, rI (plZ1 j)) (r_plZ2 : ∀ j, rI (plZ2 j)) (r_plZ3 : ∀ j, rI (plZ3 j)) (r_boZ1 : ∀ j, rI (boZ1 j)) (r_boZ2 : ∀ j, rI (boZ2 j)) (r_boZ3 : ∀ j, rI (boZ3 j)) (ht1 : tkn = 1) (hg : md_rg s) (hs : md_rs s) (hwR : cw_R s kdZ nbZ rmZ stZ rwZ nxZ awZ cnZ spZ tfZ tzZ seZ1 seZ2 seZ3 senZ plZ1 plZ2 plnZ boZ1 boZ2 bonZ hoZ) (hn0 : ∀ p, 0 ≤ p → p < 6 → 0 ≤ nxA p ∧ nxA p ≤ 9) (hho0 : hoZ = 0) : gMet K yX9_undo cX9_undo 1 (some .int) 3 0 0 [.ref xx] [cO xx 9 [.ref nA, .ref nZ, .int (iI tkn), .ref hh, .ref q0, .ref t0, .ref g0], cO nA 8 [.ref hA, .ref poA, .ref srA, .ref prA, .ref brA, .int (iI hoA)], cO hA 5 [.ref kA0, .ref kA1, .ref kA2, .ref kA3, .ref kA4, .ref kA5, .int (iI awA), .int (iI cnA), .int (iI spA)], cA K kA0 6 kdA, cA K kA1 6 nbA, cA K kA2 6 rmA, cA K kA3 6 stA, cA K kA4 24 rwA, cA K kA5 6 nxA, cO poA 6 [.ref paA, .int (iI tzA)], cA K paA 100 tfA, cO srA 4 [.ref srA1, .ref srA2, .ref srA3, .int (iI senA)], cA K srA1 8 seA1, cA K srA2 8 seA2, cA K srA3 8 seA3, cO prA 4 [.ref prA1, .ref prA2, .ref prA3, .int (iI plnA)], cA K prA1 8 plA1, cA K prA2 8 plA2, cA K prA3 8 plA3, cO brA 4 [.ref brA1, .ref brA2, .ref brA3, .int (iI bonA)], cA K brA1 8 boA1, cA K brA2 8 boA2, cA K brA3 8 boA3, cO nZ 8 [.ref hZ, .ref poZ, .ref srZ, .ref prZ, .ref brZ, .int (iI hoZ)], cO hZ 5 [.ref kZ0, .ref kZ1, .ref kZ2, .ref kZ3, .ref kZ4, .ref kZ5, .int (iI awZ), .int (iI cnZ), .int (iI spZ)], cA K kZ0 6 kdZ, cA K kZ1 6 nbZ, cA K kZ2 6 rmZ, cA K kZ3 6 stZ, cA K kZ4 24 rwZ, cA K kZ5 6 nxZ, cO poZ 6 [.ref paZ, .int (iI tzZ)], cA K paZ 100 tfZ, cO srZ 4 [.ref srZ1, .ref srZ2, .ref srZ3, .int (iI senZ)], cA K srZ1 8 seZ1, cA K srZ2 8 seZ2, cA K srZ3 8 seZ3, cO prZ 4 [.ref prZ1, .ref prZ2, .ref prZ3, .int (iI plnZ)], cA K prZ1 8 plZ1, cA K prZ2 8 plZ2, cA K prZ3 8 plZ3, cO brZ 4 [.ref brZ1, .ref brZ2, .ref brZ3, .int (iI bonZ)], cA K brZ1 8 boZ1, cA K brZ2 8 boZ2, cA K brZ3 8 boZ3, cO q0 2 [wq_house, wq_facts, wq_weighed, .int (iI stp)], cO t0 7 [wt_trial, wt_pulls, wt_fewest, wt_whose, wt_roomsFound, wt_way]] (fun v9 w9 => ∃ (kdC : Int → Int), ∃ (nbC : Int → Int), ∃ (rmC : Int → Int), ∃ (stC : Int → Int), ∃ (rwC : Int → Int), ∃ (tfC : Int → Int), ∃ (seC1 : Int → Int), ∃ (seC2 : Int → Int), ∃ (seC3 : Int → Int), ∃ (plC1 : Int → Int), ∃ (plC2 : Int → Int), ∃ (plC3 : Int → Int), ∃ (boC1 : Int → Int), ∃ (boC2 : Int → Int), ∃ (boC3 : Int → Int), v9 = some (.int (iI (s 19))) ∧ w9 = [cO xx 9 [.ref nA, .ref nZ, .int (iI tkn), .ref hh, .ref q0, .ref t0, .ref g0], cO nA 8 [.ref hA, .ref poA, .ref srA, .ref prA, .ref brA, .int (iI hoZ)], cO hA 5 [.ref kA0, .ref kA1, .ref kA2, .ref kA3, .ref kA4, .ref kA5, .int (iI awZ), .int (iI cnZ), .int (iI spZ)], cA K kA0 6 kdC, cA K kA1 6 nbC, cA K kA2 6 rmC, cA K kA3 6 stC, cA K kA4 24 rwC, cA K kA5 6 nxA, cO poA 6 [.ref paA, .int (iI tzZ)], cA K paA 100 tfC, cO srA 4 [.ref srA1, .ref srA2, .ref srA3, .int (iI senZ)], cA K srA1 8 seC1, cA K srA2 8 seC2, cA K srA3 8 seC3, cO prA 4 [.ref prA1, .ref prA2, .ref prA3, .int (iI plnZ)], cA K prA1 8 plC1, cA K prA2 8 plC2, cA K prA3 8 plC3, cO brA 4 [.ref brA1, .ref brA2, .ref brA3, .int (iI bonZ)], cA K brA1 8 boC1, cA K brA2 8 boC2, cA K brA3 8 boC3, cO nZ 8 [.ref hZ, .ref poZ, .ref srZ, .ref prZ, .ref brZ, .int (iI hoZ)], cO hZ 5 [.ref kZ0, .ref kZ1, .ref kZ2, .ref kZ3, .ref kZ4, .ref kZ5, .int (iI awZ), .int (iI cnZ), .int (iI spZ)], cA K kZ0 6 kdZ, cA K kZ1 6 nbZ, cA K kZ2 6 rmZ, cA K kZ3 6 stZ, cA K kZ4 24 rwZ, cA K kZ5 6 nxZ, cO poZ 6 [.ref paZ, .int (iI tzZ)], cA K paZ 100 tfZ, cO srZ 4 [.ref srZ1, .ref srZ2, .ref srZ3, .int (iI senZ)], cA K srZ1 8 seZ1, cA K srZ2 8 seZ2, cA K srZ3 8 seZ3, cO prZ 4 [.ref prZ1, .ref prZ2, .ref prZ3, .int (iI plnZ)], cA K prZ1 8 plZ1, cA K prZ2 8 plZ2, cA K prZ3 8 plZ3, cO brZ 4 [.ref brZ1, .ref brZ2, .ref brZ3, .int (iI bonZ)], cA K brZ1 8 boZ1, cA K brZ2 8 boZ2, cA K brZ3 8 boZ3, cO q0 2 [.null, wq_facts, wq_weighed, .int (iI (stp + 1))], cO t0 7 [wt_trial, wt_pulls, wt_fewest, wt_whose, .int (iI 0), wt_way]] ∧ (∀ j, rI (kdC j)) ∧ (∀ j, rI (nbC j)) ∧ (∀ j, rI (rmC j)) ∧ (∀ j, rI (stC j)) ∧ (∀ j, rI (rwC j)) ∧ (∀ j, rI (tfC j)) ∧ (∀ j, rI (seC1 j)) ∧ (∀ j, rI (seC2 j)) ∧ (∀ j, rI (seC3 j)) ∧ (∀ j, rI (plC1 j)) ∧ (∀ j, rI (plC2 j)) ∧ (∀ j, rI (plC3 j)) ∧ (∀ j, rI (boC1 j)) ∧ (∀ j, rI (boC2 j)) ∧ (∀ j, rI (boC3 j)) ∧ (cw_R s kdC nbC rmC stC rwC nxA awZ cnZ spZ tfC tzZ seC1 seC2 seC3 senZ plC1 plC2 plnZ boC1 boC2 bonZ hoZ)) := by
  refine g_enter (by decide +kernel) (Nat.le_of_ble_eq_true rfl) (fun G hC hR => ?_)
  refine g_lv hC [0] [(0, _)] rfl ?_
  have hR9 := hwR.1
  have hcs := hR9.1
  refine g_aload_n (pc := 0) hC 0 dX9_undo_0 rfl rfl ?_
  refine g_get (pc := 1) hC 0 fl_X9_266 dX9_undo_1 rfl rfl ?_
  refine g_if_ne (pc := 4) hC 10 dX9_undo_4 (by decide) (by first | exact r_tkn | assumption | omega) (fun c4 => ?_) (fun c4 => by exfalso; omega)
  refine g_aload_n (pc := 10) hC 0 dX9_undo_10 rfl rfl ?_
  refine g_get (pc := 11) hC 0 fl_X9_12 dX9_undo_11 rfl rfl ?_
  refine g_aload_n (pc := 14) hC 0 dX9_undo_14 rfl rfl ?_
  refine g_get (pc := 15) hC 0 fl_X9_18 dX9_undo_15 rfl rfl ?_
  refine g_callV (pc := 18) (qr := 1) hC [1, 2, 3, 4, 5, 6, 7, 8, 9, 10, 11, 12, 13, 14, 15, 16, 17, 18, 19, 20, 21, 22, 23, 24, 25, 26, 27, 28, 29, 30, 31, 32, 33, 34, 35, 36, 37, 38, 39, 40, 41, 42, 43, 44] (k_X8_copyFrom _ _ _ _ _ _ _ _ _ _ _ _ _ _ _ _ _ _ _ _ _ _ _ _ _ _ _ _ _ _ _ _ _ _ _ _ _ _ _ _ _ _ _ _ _ _ _ _ _ _ _ _ _ _ _ _ _ _ _ _ _ _ _ _ _ _ _ _ _ _ _ _ _ _ _ _ _ _ _ _ _ _ _ _ _ _ _ _ _ _ _ _ s (by first | exact r_hoA | assumption | omega) (by first | exact r_awA | assumption | omega) (by first | exact r_cnA | assumption | omega) (by first | exact r_spA | assumption | omega) (by first | exact r_tzA | assumption | omega) (by first | exact r_senA | assumption | omega) (by first | exact r_plnA | assumption | omega) (by first | exact r_bonA | assumption | omega) (by first | exact r_hoZ | assumption | omega) (by first | exact r_awZ | assumption | omega) (by first | exact r_cnZ | assumption | omega) (by first | exact r_spZ | assumption | omega) (by first | exact r_tzZ | assumption | omega) (by first | exact r_senZ | assumption | omega) (by first | exact r_plnZ | assumption | omega) (by first | exact r_bonZ | assumption | omega) (by first | exact r_kdA | assumption | omega) (by first | exact r_nbA | assumption | omega) (by first | exact r_rmA | assumption | omega) (by first | exact r_stA | assumption | omega) (by first | exact r_rwA | assumption | omega) (by first | exact r_nxA | assumption | omega) (by first | exact r_tfA | assumption | omega) (by first | exact r_seA1 | assumption | omega) (by first | exact r_seA2 | assumption | omega) (by first | exact r_seA3 | assumption | omega) (by first | exact r_plA1 | assumption | omega) (by first | exact r_plA2 | assumption | omega) (by first | exact r_plA3 | assumption | omega) (by first | exact r_boA1 | assumption | omega) (by first | exact r_boA2 | assumption | omega) (by first | exact r_boA3 | assumption | omega) (by first | exact r_kdZ | assumption | omega) (by first | exact r_nbZ | assumption | omega) (by first | exact r_rmZ | assumption | omega) (by first | exact r_stZ | assumption | omega) (by first | exact r_rwZ | assumption | omega) (by first | exact r_nxZ | assumption | omega) (by first | exact r_tfZ | assumption | omega) (by first | exact r_seZ1 | assumption | omega) (by first | exact r_seZ2 | assumption | omega) (by first | exact r_seZ3 | assumption | omega) (by first | exact r_plZ1 | assumption | omega) (by first | exact r_plZ2 | assumption | omega) (by first | exact r_plZ3 | assumption | omega) (by first | exact r_boZ1 | assumption | omega) (by first | exact r_boZ2 | assumption | omega) (by first | exact r_boZ3 | assumption | omega) (by first | assumption | omega) (by first | assumption | omega) (by first | assumption | omega) (by first | assumption | omega)) cl_X8_copyFrom wm_X9_262 dX9_undo_18 rfl rfl rfl rfl rfl (by decide) (by decide) (by omega) (Nat.le_of_ble_eq_true rfl) rfl (fun v9 w9 hq9 => ?_)
  obtain ⟨kdD, nbD, rmD, stD, rwD, tfD, seD1, seD2, seD3, plD1, plD2, plD3, boD1, boD2, boD3, rfl, rfl, r_kdD, r_nbD, r_rmD, r_stD, r_rwD, r_tfD, r_seD1, r_seD2, r_seD3, r_plD1, r_plD2, r_plD3, r_boD1, r_boD2, r_boD3, hwR2_18⟩ := hq9
  refine g_ws hC [cO xx 9 [.ref nA, .ref nZ, .int (iI tkn), .ref hh, .ref q0, .ref t0, .ref g0], cO nA 8 [.ref hA, .ref poA, .ref srA, .ref prA, .ref brA, .int (iI hoZ)], cO hA 5 [.ref kA0, .ref kA1, .ref kA2, .ref kA3, .ref kA4, .ref kA5, .int (iI awZ), .int (iI cnZ), .int (iI spZ)], cA K kA0 6 kdD, cA K kA1 6 nbD, cA K kA2 6 rmD, cA K kA3 6 stD, cA K kA4 24 rwD, cA K kA5 6 nxA, cO poA 6 [.ref paA, .int (iI tzZ)], cA K paA 100 tfD, cO srA 4 [.ref srA1, .ref srA2, .ref srA3, .int (iI senZ)], cA K srA1 8 seD1, cA K srA2 8 seD2, cA K srA3 8 seD3, cO prA 4 [.ref prA1, .ref prA2, .ref prA3, .int (iI plnZ)], cA K prA1 8 plD1, cA K prA2 8 plD2, cA K prA3 8 plD3, cO brA 4 [.ref brA1, .ref brA2, .ref brA3, .int (iI bonZ)], cA K brA1 8 boD1, cA K brA2 8 boD2, cA K brA3 8 boD3, cO nZ 8 [.ref hZ, .ref poZ, .ref srZ, .ref prZ, .ref brZ, .int (iI hoZ)], cO hZ 5 [.ref kZ0, .ref kZ1, .ref kZ2, .ref kZ3, .ref kZ4, .ref kZ5, .int (iI awZ), .int (iI cnZ), .int (iI spZ)], cA K kZ0 6 kdZ, cA K kZ1 6 nbZ, cA K kZ2 6 rmZ, cA K kZ3 6 stZ, cA K kZ4 24 rwZ, cA K kZ5 6 nxZ, cO poZ 6 [.ref paZ, .int (iI tzZ)], cA K paZ 100 tfZ, cO srZ 4 [.ref srZ1, .ref srZ2, .ref srZ3, .int (iI senZ)], cA K srZ1 8 seZ1, cA K srZ2 8 seZ2, cA K srZ3 8 seZ3, cO prZ 4 [.ref prZ1, .ref prZ2, .ref prZ3, .int (iI plnZ)], cA K prZ1 8 plZ1, cA K prZ2 8 plZ2, cA K prZ3 8 plZ3, cO brZ 4 [.ref brZ1, .ref brZ2, .ref brZ3, .int (iI bonZ)], cA K brZ1 8 boZ1, cA K brZ2 8 boZ2, cA K brZ3 8 boZ3, cO q0 2 [wq_house, wq_facts, wq_weighed, .int (iI stp)], cO t0 7 [wt_trial, wt_pulls, wt_fewest, wt_whose, wt_roomsFound, wt_way]] (by dsimp only [gput, gputL, List.set_cons_zero, List.set_cons_succ, List.cons_append, List.nil_append]) ?_
  refine g_st hC [] rfl ?_
  refine g_aload_n (pc := 21) hC 0 dX9_undo_21 rfl rfl ?_
  refine g_callV (pc := 22) (qr := 0) hC [0, 1, 45, 46] (k_X9_forget_n _ _ _ _ _ _ _ _ _ _ _ _ _ _ _ _ _ _ _ _ _ _ _ _ (by first | exact r_hoZ | assumption | omega) (by first | exact r_stp | assumption | omega) (by first | assumption | omega)) cl_X9_forgetWorked wm_X9_79 dX9_undo_22 rfl rfl rfl rfl rfl (by decide) (by decide) (by omega) (Nat.le_of_ble_eq_true rfl) rfl (fun v9 w9 hq9 => ?_)
  obtain ⟨rfl, rfl⟩ := hq9
  refine g_ws hC [cO xx 9 [.ref nA, .ref nZ, .int (iI tkn), .ref hh, .ref q0, .ref t0, .ref g0], cO nA 8 [.ref hA, .ref poA, .ref srA, .ref prA, .ref brA, .int (iI hoZ)], cO hA 5 [.ref kA0, .ref kA1, .ref kA2, .ref kA3, .ref kA4, .ref kA5, .int (iI awZ), .int (iI cnZ), .int (iI spZ)], cA K kA0 6 kdD, cA K kA1 6 nbD, cA K kA2 6 rmD, cA K kA3 6 stD, cA K kA4 24 rwD, cA K kA5 6 nxA, cO poA 6 [.ref paA, .int (iI tzZ)], cA K paA 100 tfD, cO srA 4 [.ref srA1, .ref srA2, .ref srA3, .int (iI senZ)], cA K srA1 8 seD1, cA K srA2 8 seD2, cA K srA3 8 seD3, cO prA 4 [.ref prA1, .ref prA2, .ref prA3, .int (iI plnZ)], cA K prA1 8 plD1, cA K prA2 8 plD2, cA K prA3 8 plD3, cO brA 4 [.ref brA1, .ref brA2, .ref brA3, .int (iI bonZ)], cA K brA1 8 boD1, cA K brA2 8 boD2, cA K brA3 8 boD3, cO nZ 8 [.ref hZ, .ref poZ, .ref srZ, .ref prZ, .ref brZ, .int (iI hoZ)], cO hZ 5 [.ref kZ0, .ref kZ1, .ref kZ2, .ref kZ3, .ref kZ4, .ref kZ5, .int (iI awZ), .int (iI cnZ), .int (iI spZ)], cA K kZ0 6 kdZ, cA K kZ1 6 nbZ, cA K kZ2 6 rmZ, cA K kZ3 6 stZ, cA K kZ4 24 rwZ, cA K kZ5 6 nxZ, cO poZ 6 [.ref paZ, .int (iI tzZ)], cA K paZ 100 tfZ, cO srZ 4 [.ref srZ1, .ref srZ2, .ref srZ3, .int (iI senZ)], cA K srZ1 8 seZ1, cA K srZ2 8 seZ2, cA K srZ3 8 seZ3, cO prZ 4 [.ref prZ1, .ref prZ2, .ref prZ3, .int (iI plnZ)], cA K prZ1 8 plZ1, cA K prZ2 8 plZ2, cA K prZ3 8 plZ3, cO brZ 4 [.ref brZ1, .ref brZ2, .ref brZ3, .int (iI bonZ)], cA K brZ1 8 boZ1, cA K brZ2 8 boZ2, cA K brZ3 8 boZ3, cO q0 2 [.null, wq_facts, wq_weighed, .int (iI (stp + 1))], cO t0 7 [wt_trial, wt_pulls, wt_fewest, wt_whose, .int (iI 0), wt_way]] rfl ?_
  refine g_st hC [] rfl ?_
  refine g_aload_n (pc := 25) hC 0 dX9_undo_25 rfl rfl ?_
  refine g_get (pc := 26) hC 0 fl_X9_12 dX9_undo_26 rfl rfl ?_
  refine g_get (pc := 29) hC 1 fl_X9_85 dX9_undo_29 rfl rfl ?_
  refine g_get (pc := 32) hC 2 fl_X9_181 dX9_undo_32 rfl rfl ?_
  exact g_iret (pc := 35) hR dX9_undo_35 rfl ⟨by omega, by omega⟩ (Nat.le_of_ble_eq_true rfl) ⟨kdD, nbD, rmD, stD, rwD, tfD, seD1, seD2, seD3, plD1, plD2, plD3, boD1, boD2, boD3, ret_eq (by omega), rfl, (by first | assumption | omega), (by first | assumption | omega), (by first | assumption | omega), (by first | assumption | omega), (by first | assumption | omega), (by first | assumption | omega), (by first | assumption | omega), (by first | assumption | omega), (by first | assumption | omega), (by first | assumption | omega), (by first | assumption | omega), (by first | assumption | omega), (by first | assumption | omega), (by first | assumption | omega), (by first | assumption | omega), hwR2_18⟩
set_option maxHeartbeats 4000000 in
set_option maxRecDepth 100000 in
theorem k_X9_undo_r {K : gK} (xx : Nat) (nA : Nat) (nZ : Nat) (hh : Nat) (q0 : Nat) (t0 : Nat) (g0 : Nat) (hA : Nat) (poA : Nat) (srA : Nat) (prA : Nat) (brA : Nat) (kA0 : Nat) (kA1 : Nat) (kA2 : Nat) (kA3 : Nat) (kA4 : Nat) (kA5 : Nat) (paA : Nat) (srA1 : Nat) (srA2 : Nat) (srA3 : Nat) (prA1 : Nat) (prA2 : Nat) (prA3 : Nat) (brA1 : Nat) (brA2 : Nat) (brA3 : Nat) (hZ : Nat) (poZ : Nat) (srZ : Nat) (prZ : Nat) (brZ : Nat) (kZ0 : Nat) (kZ1 : Nat) (kZ2 : Nat) (kZ3 : Nat) (kZ4 : Nat) (kZ5 : Nat) (paZ : Nat) (srZ1 : Nat) (srZ2 : Nat) (srZ3 : Nat) (prZ1 : Nat) (prZ2 : Nat) (prZ3 : Nat) (brZ1 : Nat) (brZ2 : Nat) (brZ3 : Nat) (q2 : Nat) (wq_house : Value) (wq_facts : Value) (wt_trial : Value) (wt_pulls : Value) (wt_fewest : Value) (wt_whose : Value) (wt_roomsFound : Value) (wt_way : Value) (hm : Nat → Option Nat) (tkn : Int) (hoA : Int) (awA : Int) (cnA : Int) (spA : Int) (tzA : Int) (senA : Int) (plnA : Int) (bonA : Int) (hoZ : Int) (awZ : Int) (cnZ : Int) (spZ : Int) (tzZ : Int) (senZ : Int) (plnZ : Int) (bonZ : Int) (stp : Int) (kdA : Int → Int) (nbA : Int → Int) (rmA : Int → Int) (stA : Int → Int) (rwA : Int → Int) (nxA : Int → Int) (tfA : Int → Int) (seA1 : Int → Int) (seA2 : Int → Int) (seA3 : Int → Int) (plA1 : Int → Int) (plA2 : Int → Int) (plA3 : Int → Int) (boA1 : Int → Int) (boA2 : Int → Int) (boA3 : Int → Int) (kdZ : Int → Int) (nbZ : Int → Int) (rmZ : Int → Int) (stZ : Int → Int) (rwZ : Int → Int) (nxZ : Int → Int) (tfZ : Int → Int) (seZ1 : Int → Int) (seZ2 : Int → Int) (seZ3 : Int → Int) (plZ1 : Int → Int) (plZ2 : Int → Int) (plZ3 : Int → Int) (boZ1 : Int → Int) (boZ2 : Int → Int) (boZ3 : Int → Int) (wg : Int → Int) (s : Int → Int) (o9 : Nat) (r_tkn : rI tkn) (r_hoA : rI hoA) (r_awA : rI awA) (r_cnA : rI cnA) (r_spA : rI spA) (r_tzA : rI tzA) (r_senA : rI senA) (r_plnA : rI plnA) (r_bonA : rI bonA) (r_hoZ : rI hoZ) (r_awZ : rI awZ) (r_cnZ : rI cnZ) (r_spZ : rI spZ) (r_tzZ : rI tzZ) (r_senZ : rI senZ) (r_plnZ : rI plnZ) (r_bonZ : rI bonZ) (r_stp : rI stp) (r_kdA : ∀ j, rI (kdA j)) (r_nbA : ∀ j, rI (nbA j)) (r_rmA : ∀ j, rI (rmA j)) (r_stA : ∀ j, rI (stA j)) (r_rwA : ∀ j, rI (rwA j)) (r_nxA : ∀ j, rI (nxA j)) (r_tfA : ∀ j, rI (tfA j)) (r_seA1 : ∀ j, rI (seA1 j)) (r_seA2 : ∀ j, rI (seA2 j)) (r_seA3 : ∀ j, rI (seA3 j)) (r_plA1 : ∀ j, rI (plA1 j)) (r_plA2 : ∀ j, rI (plA2 j)) (r_plA3 : ∀ j, rI (plA3 j)) (r_boA1 : ∀ j, rI (boA1 j)) (r_boA2 : ∀ j, rI (boA2 j)) (r_boA3 : ∀ j, rI (boA3 j)) (r_kdZ : ∀ j, rI (kdZ j)) (r_nbZ : ∀ j, rI (nbZ j)) (r_rmZ : ∀ j, rI (rmZ j)) (r_stZ : ∀ j, rI (stZ j)) (r_rwZ : ∀ j, rI (rwZ j)) (r_nxZ : ∀ j, rI (nxZ j)) (r_tfZ : ∀ j, rI (tfZ j)) (r_seZ1 : ∀ j, rI (seZ1 j)) (r_seZ2 : ∀ j, rI (seZ2 j)) (r_seZ3 : ∀ j, rI (seZ3 j)) (r_plZ1 : ∀ j, rI (plZ1 j)) (r_plZ2 : ∀ j, rI (plZ2 j)) (r_plZ3 : ∀ j, rI (plZ3 j)) (r_boZ1 : ∀ j, rI (boZ1 j)) (r_boZ2 : ∀ j, rI (boZ2 j)) (r_boZ3 : ∀ j, rI (boZ3 j)) (r_wg : ∀ j, rI (wg j)) (ht1 : tkn = 1) (hg : md_rg s) (hs : md_rs s) (hwR : cw_R s kdZ nbZ rmZ stZ rwZ nxZ awZ cnZ spZ tfZ tzZ seZ1 seZ2 seZ3 senZ plZ1 plZ2 plnZ boZ1 boZ2 bonZ hoZ) (hn0 : ∀ p, 0 ≤ p → p < 6 → 0 ≤ nxA p ∧ nxA p ≤ 9) (hho1 : 1 ≤ hoZ ∧ hoZ ≤ 5) (hhm : hm (hoZ - 1).toNat = some o9) : gMet K yX9_undo cX9_undo 1 (some .int) 3 0 0 [.ref xx] [cO xx 9 [.ref nA, .ref nZ, .int (iI tkn), .ref hh, .ref q0, .ref t0, .ref g0], cO nA 8 [.ref hA, .ref poA, .ref srA, .ref prA, .ref brA, .int (iI hoA)], cO hA 5 [.ref kA0, .ref kA1, .ref kA2, .ref kA3, .ref kA4, .ref kA5, .int (iI awA), .int (iI cnA), .int (iI spA)], cA K kA0 6 kdA, cA K kA1 6 nbA, cA K kA2 6 rmA, cA K kA3 6 stA, cA K kA4 24 rwA, cA K kA5 6 nxA, cO poA 6 [.ref paA, .int (iI tzA)], cA K paA 100 tfA, cO srA 4 [.ref srA1, .ref srA2, .ref srA3, .int (iI senA)], cA K srA1 8 seA1, cA K srA2 8 seA2, cA K srA3 8 seA3, cO prA 4 [.ref prA1, .ref prA2, .ref prA3, .int (iI plnA)], cA K prA1 8 plA1, cA K prA2 8 plA2, cA K prA3 8 plA3, cO brA 4 [.ref brA1, .ref brA2, .ref brA3, .int (iI bonA)], cA K brA1 8 boA1, cA K brA2 8 boA2, cA K brA3 8 boA3, cO nZ 8 [.ref hZ, .ref poZ, .ref srZ, .ref prZ, .ref brZ, .int (iI hoZ)], cO hZ 5 [.ref kZ0, .ref kZ1, .ref kZ2, .ref kZ3, .ref kZ4, .ref kZ5, .int (iI awZ), .int (iI cnZ), .int (iI spZ)], cA K kZ0 6 kdZ, cA K kZ1 6 nbZ, cA K kZ2 6 rmZ, cA K kZ3 6 stZ, cA K kZ4 24 rwZ, cA K kZ5 6 nxZ, cO poZ 6 [.ref paZ, .int (iI tzZ)], cA K paZ 100 tfZ, cO srZ 4 [.ref srZ1, .ref srZ2, .ref srZ3, .int (iI senZ)], cA K srZ1 8 seZ1, cA K srZ2 8 seZ2, cA K srZ3 8 seZ3, cO prZ 4 [.ref prZ1, .ref prZ2, .ref prZ3, .int (iI plnZ)], cA K prZ1 8 plZ1, cA K prZ2 8 plZ2, cA K prZ3 8 plZ3, cO brZ 4 [.ref brZ1, .ref brZ2, .ref brZ3, .int (iI bonZ)], cA K brZ1 8 boZ1, cA K brZ2 8 boZ2, cA K brZ3 8 boZ3, cO q0 2 [wq_house, wq_facts, .ref q2, .int (iI stp)], cA K q2 36000 wg, cH K hh 5 hm, cO t0 7 [wt_trial, wt_pulls, wt_fewest, wt_whose, wt_roomsFound, wt_way]] (fun v9 w9 => ∃ (kdC : Int → Int), ∃ (nbC : Int → Int), ∃ (rmC : Int → Int), ∃ (stC : Int → Int), ∃ (rwC : Int → Int), ∃ (tfC : Int → Int), ∃ (seC1 : Int → Int), ∃ (seC2 : Int → Int), ∃ (seC3 : Int → Int), ∃ (plC1 : Int → Int), ∃ (plC2 : Int → Int), ∃ (plC3 : Int → Int), ∃ (boC1 : Int → Int), ∃ (boC2 : Int → Int), ∃ (boC3 : Int → Int), v9 = some (.int (iI (s 19))) ∧ w9 = [cO xx 9 [.ref nA, .ref nZ, .int (iI tkn), .ref hh, .ref q0, .ref t0, .ref g0], cO nA 8 [.ref hA, .ref poA, .ref srA, .ref prA, .ref brA, .int (iI hoZ)], cO hA 5 [.ref kA0, .ref kA1, .ref kA2, .ref kA3, .ref kA4, .ref kA5, .int (iI awZ), .int (iI cnZ), .int (iI spZ)], cA K kA0 6 kdC, cA K kA1 6 nbC, cA K kA2 6 rmC, cA K kA3 6 stC, cA K kA4 24 rwC, cA K kA5 6 nxA, cO poA 6 [.ref paA, .int (iI tzZ)], cA K paA 100 tfC, cO srA 4 [.ref srA1, .ref srA2, .ref srA3, .int (iI senZ)], cA K srA1 8 seC1, cA K srA2 8 seC2, cA K srA3 8 seC3, cO prA 4 [.ref prA1, .ref prA2, .ref prA3, .int (iI plnZ)], cA K prA1 8 plC1, cA K prA2 8 plC2, cA K prA3 8 plC3, cO brA 4 [.ref brA1, .ref brA2, .ref brA3, .int (iI bonZ)], cA K brA1 8 boC1, cA K brA2 8 boC2, cA K brA3 8 boC3, cO nZ 8 [.ref hZ, .ref poZ, .ref srZ, .ref prZ, .ref brZ, .int (iI hoZ)], cO hZ 5 [.ref kZ0, .ref kZ1, .ref kZ2, .ref kZ3, .ref kZ4, .ref kZ5, .int (iI awZ), .int (iI cnZ), .int (iI spZ)], cA K kZ0 6 kdZ, cA K kZ1 6 nbZ, cA K kZ2 6 rmZ, cA K kZ3 6 stZ, cA K kZ4 24 rwZ, cA K kZ5 6 nxZ, cO poZ 6 [.ref paZ, .int (iI tzZ)], cA K paZ 100 tfZ, cO srZ 4 [.ref srZ1, .ref srZ2, .ref srZ3, .int (iI senZ)], cA K srZ1 8 seZ1, cA K srZ2 8 seZ2, cA K srZ3 8 seZ3, cO prZ 4 [.ref prZ1, .ref prZ2, .ref prZ3, .int (iI plnZ)], cA K prZ1 8 plZ1, cA K prZ2 8 plZ2, cA K prZ3 8 plZ3, cO brZ 4 [.ref brZ1, .ref brZ2, .ref brZ3, .int (iI bonZ)], cA K brZ1 8 boZ1, cA K brZ2 8 boZ2, cA K brZ3 8 boZ3, cO q0 2 [.ref o9, wq_facts, .ref q2, .int (iI (stp + 1))], cA K q2 36000 wg, cH K hh 5 hm, cO t0 7 [wt_trial, wt_pulls, wt_fewest, wt_whose, .int (iI 0), wt_way]] ∧ (∀ j, rI (kdC j)) ∧ (∀ j, rI (nbC j)) ∧ (∀ j, rI (rmC j)) ∧ (∀ j, rI (stC j)) ∧ (∀ j, rI (rwC j)) ∧ (∀ j, rI (tfC j)) ∧ (∀ j, rI (seC1 j)) ∧ (∀ j, rI (seC2 j)) ∧ (∀ j, rI (seC3 j)) ∧ (∀ j, rI (plC1 j)) ∧ (∀ j, rI (plC2 j)) ∧ (∀ j, rI (plC3 j)) ∧ (∀ j, rI (boC1 j)) ∧ (∀ j, rI (boC2 j)) ∧ (∀ j, rI (boC3 j)) ∧ (cw_R s kdC nbC rmC stC rwC nxA awZ cnZ spZ tfC tzZ seC1 seC2 seC3 senZ plC1 plC2 plnZ boC1 boC2 bonZ hoZ)) := by
  refine g_enter (by decide +kernel) (Nat.le_of_ble_eq_true rfl) (fun G hC hR => ?_)
  refine g_lv hC [0] [(0, _)] rfl ?_
  have hR9 := hwR.1
  have hcs := hR9.1
  refine g_aload_n (pc := 0) hC 0 dX9_undo_0 rfl rfl ?_
  refine g_get (pc := 1) hC 0 fl_X9_266 dX9_undo_1 rfl rfl ?_
  refine g_if_ne (pc := 4) hC 10 dX9_undo_4 (by decide) (by first | exact r_tkn | assumption | omega) (fun c4 => ?_) (fun c4 => by exfalso; omega)
  refine g_aload_n (pc := 10) hC 0 dX9_undo_10 rfl rfl ?_
  refine g_get (pc := 11) hC 0 fl_X9_12 dX9_undo_11 rfl rfl ?_
  refine g_aload_n (pc := 14) hC 0 dX9_undo_14 rfl rfl ?_
  refine g_get (pc := 15) hC 0 fl_X9_18 dX9_undo_15 rfl rfl ?_
  refine g_callV (pc := 18) (qr := 1) hC [1, 2, 3, 4, 5, 6, 7, 8, 9, 10, 11, 12, 13, 14, 15, 16, 17, 18, 19, 20, 21, 22, 23, 24, 25, 26, 27, 28, 29, 30, 31, 32, 33, 34, 35, 36, 37, 38, 39, 40, 41, 42, 43, 44] (k_X8_copyFrom _ _ _ _ _ _ _ _ _ _ _ _ _ _ _ _ _ _ _ _ _ _ _ _ _ _ _ _ _ _ _ _ _ _ _ _ _ _ _ _ _ _ _ _ _ _ _ _ _ _ _ _ _ _ _ _ _ _ _ _ _ _ _ _ _ _ _ _ _ _ _ _ _ _ _ _ _ _ _ _ _ _ _ _ _ _ _ _ _ _ _ _ s (by first | exact r_hoA | assumption | omega) (by first | exact r_awA | assumption | omega) (by first | exact r_cnA | assumption | omega) (by first | exact r_spA | assumption | omega) (by first | exact r_tzA | assumption | omega) (by first | exact r_senA | assumption | omega) (by first | exact r_plnA | assumption | omega) (by first | exact r_bonA | assumption | omega) (by first | exact r_hoZ | assumption | omega) (by first | exact r_awZ | assumption | omega) (by first | exact r_cnZ | assumption | omega) (by first | exact r_spZ | assumption | omega) (by first | exact r_tzZ | assumption | omega) (by first | exact r_senZ | assumption | omega) (by first | exact r_plnZ | assumption | omega) (by first | exact r_bonZ | assumption | omega) (by first | exact r_kdA | assumption | omega) (by first | exact r_nbA | assumption | omega) (by first | exact r_rmA | assumption | omega) (by first | exact r_stA | assumption | omega) (by first | exact r_rwA | assumption | omega) (by first | exact r_nxA | assumption | omega) (by first | exact r_tfA | assumption | omega) (by first | exact r_seA1 | assumption | omega) (by first | exact r_seA2 | assumption | omega) (by first | exact r_seA3 | assumption | omega) (by first | exact r_plA1 | assumption | omega) (by first | exact r_plA2 | assumption | omega) (by first | exact r_plA3 | assumption | omega) (by first | exact r_boA1 | assumption | omega) (by first | exact r_boA2 | assumption | omega) (by first | exact r_boA3 | assumption | omega) (by first | exact r_kdZ | assumption | omega) (by first | exact r_nbZ | assumption | omega) (by first | exact r_rmZ | assumption | omega) (by first | exact r_stZ | assumption | omega) (by first | exact r_rwZ | assumption | omega) (by first | exact r_nxZ | assumption | omega) (by first | exact r_tfZ | assumption | omega) (by first | exact r_seZ1 | assumption | omega) (by first | exact r_seZ2 | assumption | omega) (by first | exact r_seZ3 | assumption | omega) (by first | exact r_plZ1 | assumption | omega) (by first | exact r_plZ2 | assumption | omega) (by first | exact r_plZ3 | assumption | omega) (by first | exact r_boZ1 | assumption | omega) (by first | exact r_boZ2 | assumption | omega) (by first | exact r_boZ3 | assumption | omega) (by first | assumption | omega) (by first | assumption | omega) (by first | assumption | omega) (by first | assumption | omega)) cl_X8_copyFrom wm_X9_262 dX9_undo_18 rfl rfl rfl rfl rfl (by decide) (by decide) (by omega) (Nat.le_of_ble_eq_true rfl) rfl (fun v9 w9 hq9 => ?_)
  obtain ⟨kdD, nbD, rmD, stD, rwD, tfD, seD1, seD2, seD3, plD1, plD2, plD3, boD1, boD2, boD3, rfl, rfl, r_kdD, r_nbD, r_rmD, r_stD, r_rwD, r_tfD, r_seD1, r_seD2, r_seD3, r_plD1, r_plD2, r_plD3, r_boD1, r_boD2, r_boD3, hwR2_18⟩ := hq9
  refine g_ws hC [cO xx 9 [.ref nA, .ref nZ, .int (iI tkn), .ref hh, .ref q0, .ref t0, .ref g0], cO nA 8 [.ref hA, .ref poA, .ref srA, .ref prA, .ref brA, .int (iI hoZ)], cO hA 5 [.ref kA0, .ref kA1, .ref kA2, .ref kA3, .ref kA4, .ref kA5, .int (iI awZ), .int (iI cnZ), .int (iI spZ)], cA K kA0 6 kdD, cA K kA1 6 nbD, cA K kA2 6 rmD, cA K kA3 6 stD, cA K kA4 24 rwD, cA K kA5 6 nxA, cO poA 6 [.ref paA, .int (iI tzZ)], cA K paA 100 tfD, cO srA 4 [.ref srA1, .ref srA2, .ref srA3, .int (iI senZ)], cA K srA1 8 seD1, cA K srA2 8 seD2, cA K srA3 8 seD3, cO prA 4 [.ref prA1, .ref prA2, .ref prA3, .int (iI plnZ)], cA K prA1 8 plD1, cA K prA2 8 plD2, cA K prA3 8 plD3, cO brA 4 [.ref brA1, .ref brA2, .ref brA3, .int (iI bonZ)], cA K brA1 8 boD1, cA K brA2 8 boD2, cA K brA3 8 boD3, cO nZ 8 [.ref hZ, .ref poZ, .ref srZ, .ref prZ, .ref brZ, .int (iI hoZ)], cO hZ 5 [.ref kZ0, .ref kZ1, .ref kZ2, .ref kZ3, .ref kZ4, .ref kZ5, .int (iI awZ), .int (iI cnZ), .int (iI spZ)], cA K kZ0 6 kdZ, cA K kZ1 6 nbZ, cA K kZ2 6 rmZ, cA K kZ3 6 stZ, cA K kZ4 24 rwZ, cA K kZ5 6 nxZ, cO poZ 6 [.ref paZ, .int (iI tzZ)], cA K paZ 100 tfZ, cO srZ 4 [.ref srZ1, .ref srZ2, .ref srZ3, .int (iI senZ)], cA K srZ1 8 seZ1, cA K srZ2 8 seZ2, cA K srZ3 8 seZ3, cO prZ 4 [.ref prZ1, .ref prZ2, .ref prZ3, .int (iI plnZ)], cA K prZ1 8 plZ1, cA K prZ2 8 plZ2, cA K prZ3 8 plZ3, cO brZ 4 [.ref brZ1, .ref brZ2, .ref brZ3, .int (iI bonZ)], cA K brZ1 8 boZ1, cA K brZ2 8 boZ2, cA K brZ3 8 boZ3, cO q0 2 [wq_house, wq_facts, .ref q2, .int (iI stp)], cA K q2 36000 wg, cH K hh 5 hm, cO t0 7 [wt_trial, wt_pulls, wt_fewest, wt_whose, wt_roomsFound, wt_way]] (by dsimp only [gput, gputL, List.set_cons_zero, List.set_cons_succ, List.cons_append, List.nil_append]) ?_
  refine g_st hC [] rfl ?_
  refine g_aload_n (pc := 21) hC 0 dX9_undo_21 rfl rfl ?_
  refine g_callV (pc := 22) (qr := 0) hC [0, 1, 45, 46, 48, 47] (k_X9_forget_r _ _ _ _ _ _ _ _ _ _ _ _ _ _ _ _ _ _ _ _ _ _ _ _ _ _ o9 (by first | exact r_hoZ | assumption | omega) (by first | exact r_stp | assumption | omega) (by first | exact r_wg | assumption | omega) (by first | assumption | omega) hhm) cl_X9_forgetWorked wm_X9_79 dX9_undo_22 rfl rfl rfl rfl rfl (by decide) (by decide) (by omega) (Nat.le_of_ble_eq_true rfl) rfl (fun v9 w9 hq9 => ?_)
  obtain ⟨rfl, rfl⟩ := hq9
  refine g_ws hC [cO xx 9 [.ref nA, .ref nZ, .int (iI tkn), .ref hh, .ref q0, .ref t0, .ref g0], cO nA 8 [.ref hA, .ref poA, .ref srA, .ref prA, .ref brA, .int (iI hoZ)], cO hA 5 [.ref kA0, .ref kA1, .ref kA2, .ref kA3, .ref kA4, .ref kA5, .int (iI awZ), .int (iI cnZ), .int (iI spZ)], cA K kA0 6 kdD, cA K kA1 6 nbD, cA K kA2 6 rmD, cA K kA3 6 stD, cA K kA4 24 rwD, cA K kA5 6 nxA, cO poA 6 [.ref paA, .int (iI tzZ)], cA K paA 100 tfD, cO srA 4 [.ref srA1, .ref srA2, .ref srA3, .int (iI senZ)], cA K srA1 8 seD1, cA K srA2 8 seD2, cA K srA3 8 seD3, cO prA 4 [.ref prA1, .ref prA2, .ref prA3, .int (iI plnZ)], cA K prA1 8 plD1, cA K prA2 8 plD2, cA K prA3 8 plD3, cO brA 4 [.ref brA1, .ref brA2, .ref brA3, .int (iI bonZ)], cA K brA1 8 boD1, cA K brA2 8 boD2, cA K brA3 8 boD3, cO nZ 8 [.ref hZ, .ref poZ, .ref srZ, .ref prZ, .ref brZ, .int (iI hoZ)], cO hZ 5 [.ref kZ0, .ref kZ1, .ref kZ2, .ref kZ3, .ref kZ4, .ref kZ5, .int (iI awZ), .int (iI cnZ), .int (iI spZ)], cA K kZ0 6 kdZ, cA K kZ1 6 nbZ, cA K kZ2 6 rmZ, cA K kZ3 6 stZ, cA K kZ4 24 rwZ, cA K kZ5 6 nxZ, cO poZ 6 [.ref paZ, .int (iI tzZ)], cA K paZ 100 tfZ, cO srZ 4 [.ref srZ1, .ref srZ2, .ref srZ3, .int (iI senZ)], cA K srZ1 8 seZ1, cA K srZ2 8 seZ2, cA K srZ3 8 seZ3, cO prZ 4 [.ref prZ1, .ref prZ2, .ref prZ3, .int (iI plnZ)], cA K prZ1 8 plZ1, cA K prZ2 8 plZ2, cA K prZ3 8 plZ3, cO brZ 4 [.ref brZ1, .ref brZ2, .ref brZ3, .int (iI bonZ)], cA K brZ1 8 boZ1, cA K brZ2 8 boZ2, cA K brZ3 8 boZ3, cO q0 2 [.ref o9, wq_facts, .ref q2, .int (iI (stp + 1))], cA K q2 36000 wg, cH K hh 5 hm, cO t0 7 [wt_trial, wt_pulls, wt_fewest, wt_whose, .int (iI 0), wt_way]] rfl ?_
  refine g_st hC [] rfl ?_
  refine g_aload_n (pc := 25) hC 0 dX9_undo_25 rfl rfl ?_
  refine g_get (pc := 26) hC 0 fl_X9_12 dX9_undo_26 rfl rfl ?_
  refine g_get (pc := 29) hC 1 fl_X9_85 dX9_undo_29 rfl rfl ?_
  refine g_get (pc := 32) hC 2 fl_X9_181 dX9_undo_32 rfl rfl ?_
  exact g_iret (pc := 35) hR dX9_undo_35 rfl ⟨by omega, by omega⟩ (Nat.le_of_ble_eq_true rfl) ⟨kdD, nbD, rmD, stD, rwD, tfD, seD1, seD2, seD3, plD1, plD2, plD3, boD1, boD2, boD3, ret_eq (by omega), rfl, (by first | assumption | omega), (by first | assumption | omega), (by first | assumption | omega), (by first | assumption | omega), (by first | assumption | omega), (by first | assumption | omega), (by first | assumption | omega), (by first | assumption | omega), (by first | assumption | omega), (by first | assumption | omega), (by first | assumption | omega), (by first | assumption | omega), (by first | assumption | omega), (by first | assumption | omega), (by first | assumption | omega), hwR2_18⟩
set_option maxHeartbeats 4000000 in
set_option maxRecDepth 100000 in
theorem k_X3_init {K : gK} (g9 : Nat) (po : Nat) (o8 : Nat) (wr_number : Value) (wr_at : Value) : gMet K yX3_init cX3_init 3 none 1 0 0 [.ref g9, .ref po, .ref o8] [cO g9 3 [.null, .null, wr_number, wr_at]] (fun v9 w9 => v9 = none ∧ w9 = [cO g9 3 [.ref po, .ref o8, wr_number, wr_at]]) := by
  refine g_enter (by decide +kernel) (Nat.le_of_ble_eq_true rfl) (fun G hC hR => ?_)
  refine g_lv hC [0, 1, 2] [(0, _), (1, _), (2, _)] rfl ?_
  refine g_aload_n (pc := 0) hC 0 dX3_init_0 rfl rfl ?_
  refine g_objInit (pc := 1) hC wm_X3_3 (Nat.le_of_ble_eq_true rfl) (by decide) dX3_init_1 ?_
  refine g_aload_n (pc := 4) hC 0 dX3_init_4 rfl rfl ?_
  refine g_aload_n (pc := 5) hC 1 dX3_init_5 rfl rfl ?_
  refine g_putFR (pc := 6) hC 0 [cO _ _ [_, _, _, _]] fl_X3_9 dX3_init_6 rfl (Nat.le_of_ble_eq_true rfl) rfl rfl rfl rfl ?_
  refine g_aload_n (pc := 9) hC 0 dX3_init_9 rfl rfl ?_
  refine g_aload_n (pc := 10) hC 2 dX3_init_10 rfl rfl ?_
  refine g_putFR (pc := 11) hC 0 [cO _ _ [_, _, _, _]] fl_X3_15 dX3_init_11 rfl (Nat.le_of_ble_eq_true rfl) rfl rfl rfl rfl ?_
  exact g_vret (pc := 14) hR dX3_init_14 rfl ⟨by omega, by omega⟩ (Nat.le_of_ble_eq_true rfl) ⟨rfl, rfl⟩
set_option maxHeartbeats 4000000 in
set_option maxRecDepth 100000 in
theorem k_X9_house_f {K : gK} (xx : Nat) (nA : Nat) (nZ : Nat) (hh : Nat) (q0 : Nat) (t0 : Nat) (g0 : Nat) (h0 : Nat) (po : Nat) (sr : Nat) (pr : Nat) (br : Nat) (wx_taken : Value) (hm : Nat → Option Nat) (ho : Int) (s : Int → Int) (r_ho : rI ho) (h5 : ho = 5 ∧ s 20 = 5) : gFn K yX9_house cX9_house 3 (some .int) 26 [.ref xx] [cO xx 9 [.ref nA, .ref nZ, wx_taken, .ref hh, .ref q0, .ref t0, .ref g0], cO nA 8 [.ref h0, .ref po, .ref sr, .ref pr, .ref br, .int (iI ho)], cH K hh 5 hm] (an_house s) := by
  refine g_enter (by decide +kernel) (Nat.le_of_ble_eq_true rfl) (fun G hC hR => ?_)
  refine g_lv hC [0] [(0, _)] rfl ?_
  refine g_aload_n (pc := 0) hC 0 dX9_house_0 rfl rfl ?_
  refine g_get (pc := 1) hC 0 fl_X9_12 dX9_house_1 rfl rfl ?_
  refine g_get (pc := 4) hC 1 fl_X9_65 dX9_house_4 rfl rfl ?_
  refine g_aload_n (pc := 7) hC 0 dX9_house_7 rfl rfl ?_
  refine g_get (pc := 8) hC 0 fl_X9_23 dX9_house_8 rfl rfl ?_
  refine g_alenH (pc := 11) hC 2 dX9_house_11 rfl ?_
  refine g_st hC [.int (iI 5), _] rfl ?_
  refine g_icmp_lt (pc := 12) hC 18 dX9_house_12 (by decide) (by first | exact r_ho | assumption | omega) (by first | assumption | decide | omega) (fun c12 => by exfalso; omega) (fun c12 => ?_)
  refine g_bipush (pc := 15) hC (-4) dX9_house_15 (by decide) ?_
  exact g_iret (pc := 17) hR dX9_house_17 rfl ⟨by omega, by omega⟩ (Nat.le_of_ble_eq_true rfl) ⟨ret_eq (by unfold an_house; rw [if_pos h5.2]), rfl⟩
set_option maxHeartbeats 4000000 in
set_option maxRecDepth 100000 in
theorem k_X9_house_no {K : gK} (xx : Nat) (nA : Nat) (nZ : Nat) (hh : Nat) (q0 : Nat) (t0 : Nat) (g0 : Nat) (h0 : Nat) (po : Nat) (sr : Nat) (pr : Nat) (br : Nat) (pa : Nat) (o8 : Nat) (o7 : Nat) (wx_taken : Value) (hm : Nat → Option Nat) (ho : Int) (tz : Int) (m8 : Int) (rc8 : Int) (tf : Int → Int) (od8 : Int → Int) (s : Int → Int) (r_ho : rI ho) (r_tz : rI tz) (r_m8 : rI m8) (r_rc8 : rI rc8) (r_tf : ∀ j, rI (tf j)) (r_od8 : ∀ j, rI (od8 j)) (h20 : ho = s 20 ∧ 0 ≤ ho ∧ ho < 5) (hhm : hm ho.toNat = some o8) (h24 : 0 ≤ s 24 ∧ s 24 ≤ 100) (htp : ∀ q, 0 ≤ q → q < 100 → 0 ≤ s (112 + q) ∧ s (112 + q) ≤ 127) (ht : tz = s 24 ∧ ∀ q, 0 ≤ q → q < s 24 → tf q = s (112 + q)) (hok : ¬ ((px_house s).1 = 0 ∧ (px_house s).2.1 = s 24)) : gMet K yX9_house cX9_house 3 (some .int) 26 1 4 [.ref xx] [cO xx 9 [.ref nA, .ref nZ, wx_taken, .ref hh, .ref q0, .ref t0, .ref g0], cO nA 8 [.ref h0, .ref po, .ref sr, .ref pr, .ref br, .int (iI ho)], cO po 6 [.ref pa, .int (iI tz)], cA K pa 100 tf, cH K hh 5 hm, cO o8 1 [.ref o7, .int (iI m8), .int (iI rc8)], cA K o7 100 od8] (fun v9 w9 => ∃ (od2 : Int → Int), ∃ (m2 : Int), ∃ (rc2 : Int), ∃ (l2 : List Int), ∃ (w2 : Int), ∃ (p2 : Int), v9 = some (.int (iI (an_house s))) ∧ w9 = [cO xx 9 [.ref nA, .ref nZ, wx_taken, .ref hh, .ref q0, .ref t0, .ref g0], cO nA 8 [.ref h0, .ref po, .ref sr, .ref pr, .ref br, .int (iI ho)], cO po 6 [.ref pa, .int (iI 0)], cA K pa 100 tf, cH K hh 5 hm, cO o8 1 [.ref o7, .int (iI m2), .int (iI rc2)], cA K o7 100 od2] ∧ (∀ j, rI (od2 j)) ∧ rI m2 ∧ rI rc2 ∧ rI w2 ∧ rI p2 ∧ ((w2, p2, l2, rc2) = px_house s) ∧ (cr_L l2 od2 m2)) := by
  refine g_enter (by decide +kernel) (Nat.le_of_ble_eq_true rfl) (fun G hC hR => ?_)
  refine g_lv hC [0] [(0, _)] rfl ?_
  refine g_aload_n (pc := 0) hC 0 dX9_house_0 rfl rfl ?_
  refine g_get (pc := 1) hC 0 fl_X9_12 dX9_house_1 rfl rfl ?_
  refine g_get (pc := 4) hC 1 fl_X9_65 dX9_house_4 rfl rfl ?_
  refine g_aload_n (pc := 7) hC 0 dX9_house_7 rfl rfl ?_
  refine g_get (pc := 8) hC 0 fl_X9_23 dX9_house_8 rfl rfl ?_
  refine g_alenH (pc := 11) hC 4 dX9_house_11 rfl ?_
  refine g_st hC [.int (iI 5), _] rfl ?_
  refine g_icmp_lt (pc := 12) hC 18 dX9_house_12 (by decide) (by first | exact r_ho | assumption | omega) (by first | assumption | decide | omega) (fun c12 => ?_) (fun c12 => by exfalso; omega)
  refine g_new (pc := 18) hC (ty := tyX3) (fs := [.null, .null, .int (iI 0), .int (iI 0)]) (fun a9 => [_, _, _, _, _, _, _, cO a9 3 _]) wc_X9_67 in_X3 tyX3_ok wi_X3 wz_X3 rfl (by decide +kernel) (by omega) dX9_house_18 (fun _ => rfl) (fun a1 => ?_)
  refine g_dup (pc := 21) hC dX9_house_21 rfl ?_
  refine g_aload_n (pc := 22) hC 0 dX9_house_22 rfl rfl ?_
  refine g_get (pc := 23) hC 0 fl_X9_12 dX9_house_23 rfl rfl ?_
  refine g_get (pc := 26) hC 1 fl_X9_51 dX9_house_26 rfl rfl ?_
  refine g_aload_n (pc := 29) hC 0 dX9_house_29 rfl rfl ?_
  refine g_get (pc := 30) hC 0 fl_X9_23 dX9_house_30 rfl rfl ?_
  refine g_aload_n (pc := 33) hC 0 dX9_house_33 rfl rfl ?_
  refine g_get (pc := 34) hC 0 fl_X9_12 dX9_house_34 rfl rfl ?_
  refine g_get (pc := 37) hC 1 fl_X9_65 dX9_house_37 rfl rfl ?_
  refine g_aldH (pc := 40) hC (j := ho.toNat) 4 dX9_house_40 rfl (by omega) (by omega) hhm ?_
  refine g_callI (pc := 41) hC [7] (k_X3_init _ _ _ _ _ ) cl_X3_init wm_X9_69 dX9_house_41 rfl rfl (by decide) (by decide) (by omega) (Nat.le_of_ble_eq_true rfl) rfl (fun v9 w9 hq9 => ?_)
  obtain ⟨rfl, rfl⟩ := hq9
  refine g_ws hC [cO xx 9 [.ref nA, .ref nZ, wx_taken, .ref hh, .ref q0, .ref t0, .ref g0], cO nA 8 [.ref h0, .ref po, .ref sr, .ref pr, .ref br, .int (iI ho)], cO po 6 [.ref pa, .int (iI tz)], cA K pa 100 tf, cH K hh 5 hm, cO o8 1 [.ref o7, .int (iI m8), .int (iI rc8)], cA K o7 100 od8, cO a1 3 [.ref po, .ref o8, .int (iI 0), .int (iI 0)]] rfl ?_
  refine g_st hC [_] rfl ?_
  refine g_astore_n (pc := 44) hC [(1, _), (0, _)] dX9_house_44 rfl (by decide) rfl ?_
  refine g_aload_n (pc := 45) hC 0 dX9_house_45 rfl rfl ?_
  refine g_callV (pc := 46) (qr := 7) hC [7, 2, 3, 5, 6] (k_X3_readHouse _ _ _ _ _ _ _ _ _ _ _ (md_tape s) (by decide) (by first | exact r_tz | assumption | omega) (by first | exact r_m8 | assumption | omega) (by first | exact r_rc8 | assumption | omega) (by first | exact r_tf | assumption | omega) (by first | exact r_od8 | assumption | omega) (tape_cr h24 htp ht) (by omega)) cl_X3_readHouse wm_X9_72 dX9_house_46 rfl rfl rfl rfl rfl (by decide) (by decide) (by omega) (Nat.le_of_ble_eq_true rfl) rfl (fun v9 w9 hq9 => ?_)
  obtain ⟨r5, p5, nm5, m5, od5, l5, rc5, w5, rfl, rfl, r_r5, r_p5, r_nm5, r_m5, r_od5, r_rc5, r_w5, hz_46, hr_46, hL2_46, hb_46, hl2_46, hnm2_46, hrc2_46⟩ := hq9
  refine g_ws hC [cO xx 9 [.ref nA, .ref nZ, wx_taken, .ref hh, .ref q0, .ref t0, .ref g0], cO nA 8 [.ref h0, .ref po, .ref sr, .ref pr, .ref br, .int (iI ho)], cO po 6 [.ref pa, .int (iI tz)], cA K pa 100 tf, cH K hh 5 hm, cO o8 1 [.ref o7, .int (iI m5), .int (iI rc5)], cA K o7 100 od5, cO a1 3 [.ref po, .ref o8, .int (iI nm5), .int (iI p5)]] rfl ?_
  refine g_st hC [.int (iI r5)] rfl ?_
  have hz5 : (w5, p5, l5, rc5) = px_house s := hz_46
  have hok5 : ¬ (w5 = 0 ∧ p5 = s 24) := by rw [← hz5] at hok; exact hok
  have hr5 : r5 = 0 := by rw [hr_46, if_neg (by omega)]
  refine g_istore_n (pc := 49) hC [(2, _), (1, _), (0, _)] dX9_house_49 rfl (by decide) rfl ?_
  refine g_aload_n (pc := 50) hC 2 dX9_house_50 rfl rfl ?_
  refine g_get (pc := 51) hC 0 fl_X9_12 dX9_house_51 rfl rfl ?_
  refine g_get (pc := 54) hC 1 fl_X9_51 dX9_house_54 rfl rfl ?_
  refine g_iconst (pc := 57) hC dX9_house_57 ?_
  refine g_putI (pc := 58) hC 2 [_, _, cO _ _ [_, _], _, _, _, _, _] fl_X9_61 dX9_house_58 rfl (Nat.le_of_ble_eq_true rfl) rfl ?_
  refine g_iload_n (pc := 61) hC 0 dX9_house_61 rfl rfl ?_
  refine g_if_ne (pc := 62) hC 73 dX9_house_62 (by decide) (by first | exact r_r5 | assumption | omega) (fun c62 => by exfalso; omega) (fun c62 => ?_)
  refine g_bipush (pc := 65) hC (-10) dX9_house_65 (by decide) ?_
  refine g_aload_n (pc := 67) hC 1 dX9_house_67 rfl rfl ?_
  refine g_get (pc := 68) hC 7 fl_X9_76 dX9_house_68 rfl rfl ?_
  refine g_isub (pc := 71) hC dX9_house_71 ?_
  refine g_wsub hC [0, 1, 2, 3, 4, 5, 6] [_, _, _, _, _, _, _] (by decide) rfl ?_
  exact g_iret (pc := 72) hR dX9_house_72 rfl ⟨by omega, by omega⟩ (Nat.le_of_ble_eq_true rfl) ⟨od5, m5, rc5, l5, w5, p5, ret_eq (by unfold an_house; rw [if_neg (by omega), if_neg hok, ← hz5]), rfl, (by first | assumption | omega), (by first | exact r_m5 | assumption | omega), (by first | exact r_rc5 | assumption | omega), (by first | exact r_w5 | assumption | omega), (by first | exact r_p5 | assumption | omega), hz5, hL2_46⟩
set_option maxHeartbeats 4000000 in
set_option maxRecDepth 100000 in
theorem k_X9_house_r {K : gK} (xx : Nat) (nA : Nat) (nZ : Nat) (hh : Nat) (q0 : Nat) (t0 : Nat) (g0 : Nat) (h0 : Nat) (po : Nat) (sr : Nat) (pr : Nat) (br : Nat) (pa : Nat) (o8 : Nat) (o7 : Nat) (q2 : Nat) (wx_taken : Value) (wq_house : Value) (wq_facts : Value) (wt_trial : Value) (wt_pulls : Value) (wt_fewest : Value) (wt_whose : Value) (wt_roomsFound : Value) (wt_way : Value) (hm : Nat → Option Nat) (ho : Int) (tz : Int) (m8 : Int) (rc8 : Int) (stp : Int) (tf : Int → Int) (od8 : Int → Int) (wg : Int → Int) (s : Int → Int) (r_ho : rI ho) (r_tz : rI tz) (r_m8 : rI m8) (r_rc8 : rI rc8) (r_stp : rI stp) (r_tf : ∀ j, rI (tf j)) (r_od8 : ∀ j, rI (od8 j)) (r_wg : ∀ j, rI (wg j)) (h20 : ho = s 20 ∧ 0 ≤ ho ∧ ho < 5) (hhm : hm ho.toNat = some o8) (h24 : 0 ≤ s 24 ∧ s 24 ≤ 100) (htp : ∀ q, 0 ≤ q → q < 100 → 0 ≤ s (112 + q) ∧ s (112 + q) ≤ 127) (ht : tz = s 24 ∧ ∀ q, 0 ≤ q → q < s 24 → tf q = s (112 + q)) (hok : (px_house s).1 = 0 ∧ (px_house s).2.1 = s 24) : gMet K yX9_house cX9_house 3 (some .int) 26 1 4 [.ref xx] [cO xx 9 [.ref nA, .ref nZ, wx_taken, .ref hh, .ref q0, .ref t0, .ref g0], cO nA 8 [.ref h0, .ref po, .ref sr, .ref pr, .ref br, .int (iI ho)], cO po 6 [.ref pa, .int (iI tz)], cA K pa 100 tf, cH K hh 5 hm, cO o8 1 [.ref o7, .int (iI m8), .int (iI rc8)], cA K o7 100 od8, cO q0 2 [wq_house, wq_facts, .ref q2, .int (iI stp)], cA K q2 36000 wg, cO t0 7 [wt_trial, wt_pulls, wt_fewest, wt_whose, wt_roomsFound, wt_way]] (fun v9 w9 => ∃ (od2 : Int → Int), ∃ (m2 : Int), ∃ (rc2 : Int), ∃ (l2 : List Int), ∃ (w2 : Int), ∃ (p2 : Int), v9 = some (.int (iI (an_house s))) ∧ w9 = [cO xx 9 [.ref nA, .ref nZ, wx_taken, .ref hh, .ref q0, .ref t0, .ref g0], cO nA 8 [.ref h0, .ref po, .ref sr, .ref pr, .ref br, .int (iI (ho + 1))], cO po 6 [.ref pa, .int (iI 0)], cA K pa 100 tf, cH K hh 5 hm, cO o8 1 [.ref o7, .int (iI m2), .int (iI rc2)], cA K o7 100 od2, cO q0 2 [.ref o8, wq_facts, .ref q2, .int (iI (stp + 1))], cA K q2 36000 wg, cO t0 7 [wt_trial, wt_pulls, wt_fewest, wt_whose, .int (iI 0), wt_way]] ∧ (∀ j, rI (od2 j)) ∧ rI m2 ∧ rI rc2 ∧ rI w2 ∧ rI p2 ∧ ((w2, p2, l2, rc2) = px_house s) ∧ (cr_L l2 od2 m2)) := by
  refine g_enter (by decide +kernel) (Nat.le_of_ble_eq_true rfl) (fun G hC hR => ?_)
  refine g_lv hC [0] [(0, _)] rfl ?_
  refine g_aload_n (pc := 0) hC 0 dX9_house_0 rfl rfl ?_
  refine g_get (pc := 1) hC 0 fl_X9_12 dX9_house_1 rfl rfl ?_
  refine g_get (pc := 4) hC 1 fl_X9_65 dX9_house_4 rfl rfl ?_
  refine g_aload_n (pc := 7) hC 0 dX9_house_7 rfl rfl ?_
  refine g_get (pc := 8) hC 0 fl_X9_23 dX9_house_8 rfl rfl ?_
  refine g_alenH (pc := 11) hC 4 dX9_house_11 rfl ?_
  refine g_st hC [.int (iI 5), _] rfl ?_
  refine g_icmp_lt (pc := 12) hC 18 dX9_house_12 (by decide) (by first | exact r_ho | assumption | omega) (by first | assumption | decide | omega) (fun c12 => ?_) (fun c12 => by exfalso; omega)
  refine g_new (pc := 18) hC (ty := tyX3) (fs := [.null, .null, .int (iI 0), .int (iI 0)]) (fun a9 => [_, _, _, _, _, _, _, _, _, _, cO a9 3 _]) wc_X9_67 in_X3 tyX3_ok wi_X3 wz_X3 rfl (by decide +kernel) (by omega) dX9_house_18 (fun _ => rfl) (fun a1 => ?_)
  refine g_dup (pc := 21) hC dX9_house_21 rfl ?_
  refine g_aload_n (pc := 22) hC 0 dX9_house_22 rfl rfl ?_
  refine g_get (pc := 23) hC 0 fl_X9_12 dX9_house_23 rfl rfl ?_
  refine g_get (pc := 26) hC 1 fl_X9_51 dX9_house_26 rfl rfl ?_
  refine g_aload_n (pc := 29) hC 0 dX9_house_29 rfl rfl ?_
  refine g_get (pc := 30) hC 0 fl_X9_23 dX9_house_30 rfl rfl ?_
  refine g_aload_n (pc := 33) hC 0 dX9_house_33 rfl rfl ?_
  refine g_get (pc := 34) hC 0 fl_X9_12 dX9_house_34 rfl rfl ?_
  refine g_get (pc := 37) hC 1 fl_X9_65 dX9_house_37 rfl rfl ?_
  refine g_aldH (pc := 40) hC (j := ho.toNat) 4 dX9_house_40 rfl (by omega) (by omega) hhm ?_
  refine g_callI (pc := 41) hC [10] (k_X3_init _ _ _ _ _ ) cl_X3_init wm_X9_69 dX9_house_41 rfl rfl (by decide) (by decide) (by omega) (Nat.le_of_ble_eq_true rfl) rfl (fun v9 w9 hq9 => ?_)
  obtain ⟨rfl, rfl⟩ := hq9
  refine g_ws hC [cO xx 9 [.ref nA, .ref nZ, wx_taken, .ref hh, .ref q0, .ref t0, .ref g0], cO nA 8 [.ref h0, .ref po, .ref sr, .ref pr, .ref br, .int (iI ho)], cO po 6 [.ref pa, .int (iI tz)], cA K pa 100 tf, cH K hh 5 hm, cO o8 1 [.ref o7, .int (iI m8), .int (iI rc8)], cA K o7 100 od8, cO q0 2 [wq_house, wq_facts, .ref q2, .int (iI stp)], cA K q2 36000 wg, cO t0 7 [wt_trial, wt_pulls, wt_fewest, wt_whose, wt_roomsFound, wt_way], cO a1 3 [.ref po, .ref o8, .int (iI 0), .int (iI 0)]] rfl ?_
  refine g_st hC [_] rfl ?_
  refine g_astore_n (pc := 44) hC [(1, _), (0, _)] dX9_house_44 rfl (by decide) rfl ?_
  refine g_aload_n (pc := 45) hC 0 dX9_house_45 rfl rfl ?_
  refine g_callV (pc := 46) (qr := 10) hC [10, 2, 3, 5, 6] (k_X3_readHouse _ _ _ _ _ _ _ _ _ _ _ (md_tape s) (by decide) (by first | exact r_tz | assumption | omega) (by first | exact r_m8 | assumption | omega) (by first | exact r_rc8 | assumption | omega) (by first | exact r_tf | assumption | omega) (by first | exact r_od8 | assumption | omega) (tape_cr h24 htp ht) (by omega)) cl_X3_readHouse wm_X9_72 dX9_house_46 rfl rfl rfl rfl rfl (by decide) (by decide) (by omega) (Nat.le_of_ble_eq_true rfl) rfl (fun v9 w9 hq9 => ?_)
  obtain ⟨r5, p5, nm5, m5, od5, l5, rc5, w5, rfl, rfl, r_r5, r_p5, r_nm5, r_m5, r_od5, r_rc5, r_w5, hz_46, hr_46, hL2_46, hb_46, hl2_46, hnm2_46, hrc2_46⟩ := hq9
  refine g_ws hC [cO xx 9 [.ref nA, .ref nZ, wx_taken, .ref hh, .ref q0, .ref t0, .ref g0], cO nA 8 [.ref h0, .ref po, .ref sr, .ref pr, .ref br, .int (iI ho)], cO po 6 [.ref pa, .int (iI tz)], cA K pa 100 tf, cH K hh 5 hm, cO o8 1 [.ref o7, .int (iI m5), .int (iI rc5)], cA K o7 100 od5, cO q0 2 [wq_house, wq_facts, .ref q2, .int (iI stp)], cA K q2 36000 wg, cO t0 7 [wt_trial, wt_pulls, wt_fewest, wt_whose, wt_roomsFound, wt_way], cO a1 3 [.ref po, .ref o8, .int (iI nm5), .int (iI p5)]] rfl ?_
  refine g_st hC [.int (iI r5)] rfl ?_
  have hz5 : (w5, p5, l5, rc5) = px_house s := hz_46
  have hok5 : w5 = 0 ∧ p5 = s 24 := by rw [← hz5] at hok; exact hok
  have hr5 : r5 = 1 := by rw [hr_46, if_pos (by omega)]
  refine g_istore_n (pc := 49) hC [(2, _), (1, _), (0, _)] dX9_house_49 rfl (by decide) rfl ?_
  refine g_aload_n (pc := 50) hC 2 dX9_house_50 rfl rfl ?_
  refine g_get (pc := 51) hC 0 fl_X9_12 dX9_house_51 rfl rfl ?_
  refine g_get (pc := 54) hC 1 fl_X9_51 dX9_house_54 rfl rfl ?_
  refine g_iconst (pc := 57) hC dX9_house_57 ?_
  refine g_putI (pc := 58) hC 2 [_, _, cO _ _ [_, _], _, _, _, _, _, _, _, _] fl_X9_61 dX9_house_58 rfl (Nat.le_of_ble_eq_true rfl) rfl ?_
  refine g_iload_n (pc := 61) hC 0 dX9_house_61 rfl rfl ?_
  refine g_if_ne (pc := 62) hC 73 dX9_house_62 (by decide) (by first | exact r_r5 | assumption | omega) (fun c62 => ?_) (fun c62 => by exfalso; omega)
  refine g_aload_n (pc := 73) hC 2 dX9_house_73 rfl rfl ?_
  refine g_get (pc := 74) hC 0 fl_X9_12 dX9_house_74 rfl rfl ?_
  refine g_dup (pc := 77) hC dX9_house_77 rfl ?_
  refine g_get (pc := 78) hC 1 fl_X9_65 dX9_house_78 rfl rfl ?_
  refine g_iconst (pc := 81) hC dX9_house_81 ?_
  refine g_iadd (pc := 82) hC dX9_house_82 ?_
  refine g_putI (pc := 83) hC 1 [_, cO _ _ [_, _, _, _, _, _], _, _, _, _, _, _, _, _, _] fl_X9_65 dX9_house_83 rfl (Nat.le_of_ble_eq_true rfl) rfl ?_
  refine g_aload_n (pc := 86) hC 2 dX9_house_86 rfl rfl ?_
  refine g_callV (pc := 87) (qr := 0) hC [0, 1, 7, 8, 9, 4] (k_X9_forget_r _ _ _ _ _ _ _ _ _ _ _ _ _ _ _ _ _ _ _ _ _ _ _ _ _ _ o8 (by first | assumption | omega) (by first | exact r_stp | assumption | omega) (by first | exact r_wg | assumption | omega) (by first | assumption | omega) (by rw [show ho + 1 - 1 = ho by omega]; exact hhm)) cl_X9_forgetWorked wm_X9_79 dX9_house_87 rfl rfl rfl rfl rfl (by decide) (by decide) (by omega) (Nat.le_of_ble_eq_true rfl) rfl (fun v9 w9 hq9 => ?_)
  obtain ⟨rfl, rfl⟩ := hq9
  refine g_ws hC [cO xx 9 [.ref nA, .ref nZ, wx_taken, .ref hh, .ref q0, .ref t0, .ref g0], cO nA 8 [.ref h0, .ref po, .ref sr, .ref pr, .ref br, .int (iI (ho + 1))], cO po 6 [.ref pa, .int (iI 0)], cA K pa 100 tf, cH K hh 5 hm, cO o8 1 [.ref o7, .int (iI m5), .int (iI rc5)], cA K o7 100 od5, cO q0 2 [.ref o8, wq_facts, .ref q2, .int (iI (stp + 1))], cA K q2 36000 wg, cO t0 7 [wt_trial, wt_pulls, wt_fewest, wt_whose, .int (iI 0), wt_way], cO a1 3 [.ref po, .ref o8, .int (iI nm5), .int (iI p5)]] rfl ?_
  refine g_st hC [] rfl ?_
  refine g_aload_n (pc := 90) hC 2 dX9_house_90 rfl rfl ?_
  refine g_get (pc := 91) hC 0 fl_X9_12 dX9_house_91 rfl rfl ?_
  refine g_get (pc := 94) hC 1 fl_X9_65 dX9_house_94 rfl rfl ?_
  refine g_iconst (pc := 97) hC dX9_house_97 ?_
  refine g_isub (pc := 98) hC dX9_house_98 ?_
  refine g_wsub hC [0, 1, 2, 3, 4, 5, 6, 7, 8, 9] [_, _, _, _, _, _, _, _, _, _] (by decide) rfl ?_
  exact g_iret (pc := 99) hR dX9_house_99 rfl ⟨by omega, by omega⟩ (Nat.le_of_ble_eq_true rfl) ⟨od5, m5, rc5, l5, w5, p5, ret_eq (by unfold an_house; rw [if_neg (by omega), if_pos hok]; omega), rfl, (by first | assumption | omega), (by first | exact r_m5 | assumption | omega), (by first | exact r_rc5 | assumption | omega), (by first | exact r_w5 | assumption | omega), (by first | exact r_p5 | assumption | omega), hz5, hL2_46⟩
set_option maxHeartbeats 4000000 in
set_option maxRecDepth 100000 in
theorem k_X9_house_a {K : gK} (xx : Nat) (nA : Nat) (nZ : Nat) (hh : Nat) (q0 : Nat) (t0 : Nat) (g0 : Nat) (h0 : Nat) (po : Nat) (sr : Nat) (pr : Nat) (br : Nat) (pa : Nat) (o8 : Nat) (o7 : Nat) (q2 : Nat) (wx_taken : Value) (wq_house : Value) (wq_facts : Value) (wt_trial : Value) (wt_pulls : Value) (wt_fewest : Value) (wt_whose : Value) (wt_roomsFound : Value) (wt_way : Value) (hm : Nat → Option Nat) (ho : Int) (tz : Int) (m8 : Int) (rc8 : Int) (stp : Int) (tf : Int → Int) (od8 : Int → Int) (wg : Int → Int) (s : Int → Int) (r_ho : rI ho) (r_tz : rI tz) (r_m8 : rI m8) (r_rc8 : rI rc8) (r_stp : rI stp) (r_tf : ∀ j, rI (tf j)) (r_od8 : ∀ j, rI (od8 j)) (r_wg : ∀ j, rI (wg j)) (h20 : ho = s 20 ∧ 0 ≤ ho ∧ ho < 5) (hhm : hm ho.toNat = some o8) (h24 : 0 ≤ s 24 ∧ s 24 ≤ 100) (htp : ∀ q, 0 ≤ q → q < 100 → 0 ≤ s (112 + q) ∧ s (112 + q) ≤ 127) (ht : tz = s 24 ∧ ∀ q, 0 ≤ q → q < s 24 → tf q = s (112 + q)) (hok : (px_house s).1 = 0 ∧ (px_house s).2.1 = s 24) : gMet K yX9_house cX9_house 3 (some .int) 26 2 36004 [.ref xx] [cO xx 9 [.ref nA, .ref nZ, wx_taken, .ref hh, .ref q0, .ref t0, .ref g0], cO nA 8 [.ref h0, .ref po, .ref sr, .ref pr, .ref br, .int (iI ho)], cO po 6 [.ref pa, .int (iI tz)], cA K pa 100 tf, cH K hh 5 hm, cO o8 1 [.ref o7, .int (iI m8), .int (iI rc8)], cA K o7 100 od8, cO q0 2 [wq_house, wq_facts, .ref q2, .int (iI stp)], cA K q2 0 wg, cO t0 7 [wt_trial, wt_pulls, wt_fewest, wt_whose, wt_roomsFound, wt_way]] (fun v9 w9 => ∃ (od2 : Int → Int), ∃ (m2 : Int), ∃ (rc2 : Int), ∃ (l2 : List Int), ∃ (w2 : Int), ∃ (p2 : Int), ∃ (q3 : Nat), v9 = some (.int (iI (an_house s))) ∧ w9 = [cO xx 9 [.ref nA, .ref nZ, wx_taken, .ref hh, .ref q0, .ref t0, .ref g0], cO nA 8 [.ref h0, .ref po, .ref sr, .ref pr, .ref br, .int (iI (ho + 1))], cO po 6 [.ref pa, .int (iI 0)], cA K pa 100 tf, cH K hh 5 hm, cO o8 1 [.ref o7, .int (iI m2), .int (iI rc2)], cA K o7 100 od2, cO q0 2 [.ref o8, wq_facts, .ref q3, .int (iI (stp + 1))], cA K q2 0 wg, cO t0 7 [wt_trial, wt_pulls, wt_fewest, wt_whose, .int (iI 0), wt_way], cA K q3 36000 (fun _ => 0)] ∧ (∀ j, rI (od2 j)) ∧ rI m2 ∧ rI rc2 ∧ rI w2 ∧ rI p2 ∧ ((w2, p2, l2, rc2) = px_house s) ∧ (cr_L l2 od2 m2)) := by
  refine g_enter (by decide +kernel) (Nat.le_of_ble_eq_true rfl) (fun G hC hR => ?_)
  refine g_lv hC [0] [(0, _)] rfl ?_
  refine g_aload_n (pc := 0) hC 0 dX9_house_0 rfl rfl ?_
  refine g_get (pc := 1) hC 0 fl_X9_12 dX9_house_1 rfl rfl ?_
  refine g_get (pc := 4) hC 1 fl_X9_65 dX9_house_4 rfl rfl ?_
  refine g_aload_n (pc := 7) hC 0 dX9_house_7 rfl rfl ?_
  refine g_get (pc := 8) hC 0 fl_X9_23 dX9_house_8 rfl rfl ?_
  refine g_alenH (pc := 11) hC 4 dX9_house_11 rfl ?_
  refine g_st hC [.int (iI 5), _] rfl ?_
  refine g_icmp_lt (pc := 12) hC 18 dX9_house_12 (by decide) (by first | exact r_ho | assumption | omega) (by first | assumption | decide | omega) (fun c12 => ?_) (fun c12 => by exfalso; omega)
  refine g_new (pc := 18) hC (ty := tyX3) (fs := [.null, .null, .int (iI 0), .int (iI 0)]) (fun a9 => [_, _, _, _, _, _, _, _, _, _, cO a9 3 _]) wc_X9_67 in_X3 tyX3_ok wi_X3 wz_X3 rfl (by decide +kernel) (by omega) dX9_house_18 (fun _ => rfl) (fun a1 => ?_)
  refine g_dup (pc := 21) hC dX9_house_21 rfl ?_
  refine g_aload_n (pc := 22) hC 0 dX9_house_22 rfl rfl ?_
  refine g_get (pc := 23) hC 0 fl_X9_12 dX9_house_23 rfl rfl ?_
  refine g_get (pc := 26) hC 1 fl_X9_51 dX9_house_26 rfl rfl ?_
  refine g_aload_n (pc := 29) hC 0 dX9_house_29 rfl rfl ?_
  refine g_get (pc := 30) hC 0 fl_X9_23 dX9_house_30 rfl rfl ?_
  refine g_aload_n (pc := 33) hC 0 dX9_house_33 rfl rfl ?_
  refine g_get (pc := 34) hC 0 fl_X9_12 dX9_house_34 rfl rfl ?_
  refine g_get (pc := 37) hC 1 fl_X9_65 dX9_house_37 rfl rfl ?_
  refine g_aldH (pc := 40) hC (j := ho.toNat) 4 dX9_house_40 rfl (by omega) (by omega) hhm ?_
  refine g_callI (pc := 41) hC [10] (k_X3_init _ _ _ _ _ ) cl_X3_init wm_X9_69 dX9_house_41 rfl rfl (by decide) (by decide) (by omega) (Nat.le_of_ble_eq_true rfl) rfl (fun v9 w9 hq9 => ?_)
  obtain ⟨rfl, rfl⟩ := hq9
  refine g_ws hC [cO xx 9 [.ref nA, .ref nZ, wx_taken, .ref hh, .ref q0, .ref t0, .ref g0], cO nA 8 [.ref h0, .ref po, .ref sr, .ref pr, .ref br, .int (iI ho)], cO po 6 [.ref pa, .int (iI tz)], cA K pa 100 tf, cH K hh 5 hm, cO o8 1 [.ref o7, .int (iI m8), .int (iI rc8)], cA K o7 100 od8, cO q0 2 [wq_house, wq_facts, .ref q2, .int (iI stp)], cA K q2 0 wg, cO t0 7 [wt_trial, wt_pulls, wt_fewest, wt_whose, wt_roomsFound, wt_way], cO a1 3 [.ref po, .ref o8, .int (iI 0), .int (iI 0)]] rfl ?_
  refine g_st hC [_] rfl ?_
  refine g_astore_n (pc := 44) hC [(1, _), (0, _)] dX9_house_44 rfl (by decide) rfl ?_
  refine g_aload_n (pc := 45) hC 0 dX9_house_45 rfl rfl ?_
  refine g_callV (pc := 46) (qr := 10) hC [10, 2, 3, 5, 6] (k_X3_readHouse _ _ _ _ _ _ _ _ _ _ _ (md_tape s) (by decide) (by first | exact r_tz | assumption | omega) (by first | exact r_m8 | assumption | omega) (by first | exact r_rc8 | assumption | omega) (by first | exact r_tf | assumption | omega) (by first | exact r_od8 | assumption | omega) (tape_cr h24 htp ht) (by omega)) cl_X3_readHouse wm_X9_72 dX9_house_46 rfl rfl rfl rfl rfl (by decide) (by decide) (by omega) (Nat.le_of_ble_eq_true rfl) rfl (fun v9 w9 hq9 => ?_)
  obtain ⟨r5, p5, nm5, m5, od5, l5, rc5, w5, rfl, rfl, r_r5, r_p5, r_nm5, r_m5, r_od5, r_rc5, r_w5, hz_46, hr_46, hL2_46, hb_46, hl2_46, hnm2_46, hrc2_46⟩ := hq9
  refine g_ws hC [cO xx 9 [.ref nA, .ref nZ, wx_taken, .ref hh, .ref q0, .ref t0, .ref g0], cO nA 8 [.ref h0, .ref po, .ref sr, .ref pr, .ref br, .int (iI ho)], cO po 6 [.ref pa, .int (iI tz)], cA K pa 100 tf, cH K hh 5 hm, cO o8 1 [.ref o7, .int (iI m5), .int (iI rc5)], cA K o7 100 od5, cO q0 2 [wq_house, wq_facts, .ref q2, .int (iI stp)], cA K q2 0 wg, cO t0 7 [wt_trial, wt_pulls, wt_fewest, wt_whose, wt_roomsFound, wt_way], cO a1 3 [.ref po, .ref o8, .int (iI nm5), .int (iI p5)]] rfl ?_
  refine g_st hC [.int (iI r5)] rfl ?_
  have hz5 : (w5, p5, l5, rc5) = px_house s := hz_46
  have hok5 : w5 = 0 ∧ p5 = s 24 := by rw [← hz5] at hok; exact hok
  have hr5 : r5 = 1 := by rw [hr_46, if_pos (by omega)]
  refine g_istore_n (pc := 49) hC [(2, _), (1, _), (0, _)] dX9_house_49 rfl (by decide) rfl ?_
  refine g_aload_n (pc := 50) hC 2 dX9_house_50 rfl rfl ?_
  refine g_get (pc := 51) hC 0 fl_X9_12 dX9_house_51 rfl rfl ?_
  refine g_get (pc := 54) hC 1 fl_X9_51 dX9_house_54 rfl rfl ?_
  refine g_iconst (pc := 57) hC dX9_house_57 ?_
  refine g_putI (pc := 58) hC 2 [_, _, cO _ _ [_, _], _, _, _, _, _, _, _, _] fl_X9_61 dX9_house_58 rfl (Nat.le_of_ble_eq_true rfl) rfl ?_
  refine g_iload_n (pc := 61) hC 0 dX9_house_61 rfl rfl ?_
  refine g_if_ne (pc := 62) hC 73 dX9_house_62 (by decide) (by first | exact r_r5 | assumption | omega) (fun c62 => ?_) (fun c62 => by exfalso; omega)
  refine g_aload_n (pc := 73) hC 2 dX9_house_73 rfl rfl ?_
  refine g_get (pc := 74) hC 0 fl_X9_12 dX9_house_74 rfl rfl ?_
  refine g_dup (pc := 77) hC dX9_house_77 rfl ?_
  refine g_get (pc := 78) hC 1 fl_X9_65 dX9_house_78 rfl rfl ?_
  refine g_iconst (pc := 81) hC dX9_house_81 ?_
  refine g_iadd (pc := 82) hC dX9_house_82 ?_
  refine g_putI (pc := 83) hC 1 [_, cO _ _ [_, _, _, _, _, _], _, _, _, _, _, _, _, _, _] fl_X9_65 dX9_house_83 rfl (Nat.le_of_ble_eq_true rfl) rfl ?_
  refine g_aload_n (pc := 86) hC 2 dX9_house_86 rfl rfl ?_
  refine g_callV (pc := 87) (qr := 0) hC [0, 1, 7, 8, 9, 4] (k_X9_forget_a _ _ _ _ _ _ _ _ _ _ _ _ _ _ _ _ _ _ _ _ _ _ _ _ _ _ o8 (by first | assumption | omega) (by first | exact r_stp | assumption | omega) (by first | exact r_wg | assumption | omega) (by first | assumption | omega) (by rw [show ho + 1 - 1 = ho by omega]; exact hhm)) cl_X9_forgetWorked wm_X9_79 dX9_house_87 rfl rfl rfl rfl rfl (by decide) (by decide) (by omega) (Nat.le_of_ble_eq_true rfl) rfl (fun v9 w9 hq9 => ?_)
  obtain ⟨q9, rfl, rfl⟩ := hq9
  refine g_ws hC [cO xx 9 [.ref nA, .ref nZ, wx_taken, .ref hh, .ref q0, .ref t0, .ref g0], cO nA 8 [.ref h0, .ref po, .ref sr, .ref pr, .ref br, .int (iI (ho + 1))], cO po 6 [.ref pa, .int (iI 0)], cA K pa 100 tf, cH K hh 5 hm, cO o8 1 [.ref o7, .int (iI m5), .int (iI rc5)], cA K o7 100 od5, cO q0 2 [.ref o8, wq_facts, .ref q9, .int (iI (stp + 1))], cA K q2 0 wg, cO t0 7 [wt_trial, wt_pulls, wt_fewest, wt_whose, .int (iI 0), wt_way], cO a1 3 [.ref po, .ref o8, .int (iI nm5), .int (iI p5)], cA K q9 36000 (fun _ => 0)] rfl ?_
  refine g_st hC [] rfl ?_
  refine g_aload_n (pc := 90) hC 2 dX9_house_90 rfl rfl ?_
  refine g_get (pc := 91) hC 0 fl_X9_12 dX9_house_91 rfl rfl ?_
  refine g_get (pc := 94) hC 1 fl_X9_65 dX9_house_94 rfl rfl ?_
  refine g_iconst (pc := 97) hC dX9_house_97 ?_
  refine g_isub (pc := 98) hC dX9_house_98 ?_
  refine g_wsub hC [0, 1, 2, 3, 4, 5, 6, 7, 8, 9, 11] [_, _, _, _, _, _, _, _, _, _, _] (by decide) rfl ?_
  exact g_iret (pc := 99) hR dX9_house_99 rfl ⟨by omega, by omega⟩ (Nat.le_of_ble_eq_true rfl) ⟨od5, m5, rc5, l5, w5, p5, q9, ret_eq (by unfold an_house; rw [if_neg (by omega), if_pos hok]; omega), rfl, (by first | assumption | omega), (by first | exact r_m5 | assumption | omega), (by first | exact r_rc5 | assumption | omega), (by first | exact r_w5 | assumption | omega), (by first | exact r_p5 | assumption | omega), hz5, hL2_46⟩
