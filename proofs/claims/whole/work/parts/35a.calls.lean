/-! THE CLASS: its calls -/
def awN (a : Int) : Nat → Int
  | 0 => 0
  | p + 1 => bOr (awN a p) (bShl (bAnd (bShr a (p : Int)) 1) (p : Int))
theorem awN_all : ∀ (n : Fin 7) (a : Fin 64), ((List.range 6).all (fun p => decide (p < n.val) || bAnd (bShr (a.val : Int) (p : Int)) 1 == 0)) = true → awN (a.val : Int) n.val = (a.val : Int) := by decide +kernel
theorem awb_N {s : Int → Int} {aw : Int} (h : ∀ p, 0 ≤ p → p < s 19 → bAnd (bShr aw p) 1 = s (7 + p)) : ∀ n : Nat, (n : Int) ≤ s 19 → md_awb s n = awN aw n
  | 0, _ => rfl
  | n + 1, hn => by
    have ih := awb_N h n (by omega)
    unfold md_awb awN
    rw [ih, h (n : Int) (by omega) (by omega)]
theorem awb_at {s kd nb rm st rw nx : Int → Int} {aw cn sp : Int} (h19 : 0 ≤ s 19 ∧ s 19 ≤ 6) (h : cs_R s kd nb rm st rw nx aw cn sp) : md_awb s (s 19).toNat = aw := by
  have ha := h.1.2.2
  have h1 := awN_all ⟨(s 19).toNat, by omega⟩ ⟨aw.toNat, by omega⟩
  have e : ((aw.toNat : Nat) : Int) = aw := by omega
  simp only [e] at h1
  rw [awb_N (fun p q1 q2 => (h.2.1 p q1 q2).2.2.2.2) (s 19).toNat (by omega)]
  refine h1 ?_
  rw [List.all_eq_true]
  intro p hp
  have hp2 := List.mem_range.mp hp
  by_cases hq : p < (s 19).toNat
  · simp [hq]
  · have h3 := h.2.2.1 (p : Int) (by omega) (by omega)
    simp [h3]
theorem ld_cases {W : (Int → Int) → Int} {rch : Int} {s : Int → Int} {p ld : Int} (h : 0 ≤ s 19) (e : ld = ld_of (md_lead W rch s p)) : (ld = -1 ∧ md_lead W rch s p = -5) ∨ ((0 ≤ ld ∧ ld < s 19) ∧ ld = md_lead W rch s p) := by
  have hr := md_lead_rng (W := W) (rch := rch) (s := s) (p := p) h
  rw [e]
  unfold ld_of
  by_cases h1 : md_lead W rch s p = -5
  · rw [if_pos h1]; exact Or.inl ⟨rfl, h1⟩
  · rw [if_neg h1]; exact Or.inr ⟨by omega, rfl⟩
theorem of_5 {W : (Int → Int) → Int} {rch : Int} {s : Int → Int} {p ld x : Int} (h : 0 ≤ s 19) (e : ld = ld_of (md_lead W rch s p)) (e2 : x = if ld < 0 then -5 else ld) : x = md_lead W rch s p := by
  rcases ld_cases h e with ⟨h1, h2⟩ | ⟨h1, h2⟩
  · rw [if_pos (by omega)] at e2; omega
  · rw [if_neg (by omega)] at e2; omega
theorem see_R {s pl1 pl2 pl3 u1 u2 u3 t : Int → Int} {pn un p n x : Int} (hs : 0 ≤ s 21 ∧ s 21 ≤ 6) (h : pn = s 21 ∧ ∀ k, 0 ≤ k → k < s 21 → pl1 k = s (62 + k) ∧ pl2 k = s (68 + k) ∧ pl3 k = s (74 + k)) (h6 : pn < 6) (e1 : u1 = upI pl1 pn p) (e2 : u2 = upI pl2 pn n) (e3 : u3 = upI pl3 pn x) (en : un = pn + 1) (et : t = upI (upI (upI (upI s (62 + s 21) p) (68 + s 21) n) (74 + s 21) x) 21 (s 21 + 1)) : un = t 21 ∧ ∀ k, 0 ≤ k → k < t 21 → u1 k = t (62 + k) ∧ u2 k = t (68 + k) ∧ u3 k = t (74 + k) := by
  have h21 : t 21 = s 21 + 1 := by rw [et, upI_at]
  rw [h21]
  refine ⟨by omega, fun k h1 h2 => ?_⟩
  rw [e1, e2, e3, et]
  by_cases hk : k = s 21
  · rw [hk, h.1, upI_at, upI_at, upI_at, upI_ne (by omega), upI_ne (by omega), upI_ne (by omega), upI_at, upI_ne (by omega), upI_ne (by omega), upI_at, upI_ne (by omega), upI_at]
    exact ⟨rfl, rfl, rfl⟩
  · have h9 := h.2 k h1 (by omega)
    rw [upI_ne (by omega), upI_ne (by omega), upI_ne (by omega), upI_ne (by omega), upI_ne (by omega), upI_ne (by omega), upI_ne (by omega), upI_ne (by omega), upI_ne (by omega), upI_ne (by omega), upI_ne (by omega), upI_ne (by omega), upI_ne (by omega), upI_ne (by omega), upI_ne (by omega)]
    exact h9
theorem row2_R {s pl1 pl2 u1 u2 t : Int → Int} {pn un a b Y A B : Int} (hy : Y < A ∧ A + 8 ≤ B) (hs : 0 ≤ s Y ∧ s Y ≤ 8) (h : pn = s Y ∧ ∀ k, 0 ≤ k → k < s Y → pl1 k = s (A + k) ∧ pl2 k = s (B + k)) (h6 : pn < 8) (e1 : u1 = upI pl1 pn a) (e2 : u2 = upI pl2 pn b) (en : un = pn + 1) (et : t = upI (upI (upI s (A + s Y) a) (B + s Y) b) Y (s Y + 1)) : un = t Y ∧ ∀ k, 0 ≤ k → k < t Y → u1 k = t (A + k) ∧ u2 k = t (B + k) := by
  have h21 : t Y = s Y + 1 := by rw [et, upI_at]
  rw [h21]
  refine ⟨by omega, fun k h1 h2 => ?_⟩
  rw [e1, e2, et]
  by_cases hk : k = s Y
  · rw [hk, h.1, upI_at, upI_at, upI_ne (by omega), upI_ne (by omega), upI_at, upI_ne (by omega), upI_at]
    exact ⟨rfl, rfl⟩
  · have h9 := h.2 k h1 (by omega)
    rw [upI_ne (by omega), upI_ne (by omega), upI_ne (by omega), upI_ne (by omega), upI_ne (by omega), upI_ne (by omega), upI_ne (by omega), upI_ne (by omega)]
    exact h9
theorem feed_0 {s tf tf2 : Int → Int} {tz tz2 g : Int} (ht : tz = s 24 ∧ ∀ q, 0 ≤ q → q < s 24 → tf q = s (112 + q)) (h : tz = 100) (had : (tz = 100 ∧ tf2 = tf ∧ tz2 = tz) ∨ (tz < 100 ∧ tf2 = upI tf tz g ∧ tz2 = tz + 1)) : tz2 = s 24 ∧ ∀ q, 0 ≤ q → q < s 24 → tf2 q = s (112 + q) := by
  rcases had with ⟨a, b, c⟩ | ⟨a, b, c⟩
  · rw [b, c]; exact ht
  · omega
theorem feed_1 {s t tf tf2 : Int → Int} {tz tz2 g : Int} (ht : tz = s 24 ∧ ∀ q, 0 ≤ q → q < s 24 → tf q = s (112 + q)) (h24 : 0 ≤ s 24 ∧ s 24 ≤ 100) (h : ¬ tz = 100) (had : (tz = 100 ∧ tf2 = tf ∧ tz2 = tz) ∨ (tz < 100 ∧ tf2 = upI tf tz g ∧ tz2 = tz + 1)) (et : t = upI (upI s (112 + s 24) g) 24 (s 24 + 1)) : tz2 = t 24 ∧ ∀ q, 0 ≤ q → q < t 24 → tf2 q = t (112 + q) := by
  have h2 : t 24 = s 24 + 1 := by rw [et, upI_at]
  rw [h2]
  rcases had with ⟨a, b, c⟩ | ⟨a, b, c⟩
  · omega
  · refine ⟨by omega, fun q h3 h4 => ?_⟩
    rw [b, et]
    by_cases hq : q = s 24
    · rw [hq, ht.1, upI_at, upI_ne (by omega), upI_at]
    · rw [upI_ne (by omega), upI_ne (by omega), upI_ne (by omega)]
      exact ht.2 q h3 (by omega)
set_option maxHeartbeats 4000000 in
set_option maxRecDepth 100000 in
theorem k_X9_steer {K : gK} (xx : Nat) (nA : Nat) (nZ : Nat) (hh : Nat) (q0 : Nat) (t0 : Nat) (g0 : Nat) (h0 : Nat) (po : Nat) (sr : Nat) (pr : Nat) (br : Nat) (k0 : Nat) (k1 : Nat) (k2 : Nat) (k3 : Nat) (k4 : Nat) (k5 : Nat) (wx_taken : Value) (p : Int) (x : Int) (ho : Int) (aw : Int) (cn : Int) (sp : Int) (kd : Int → Int) (nb : Int → Int) (rm : Int → Int) (st : Int → Int) (rw : Int → Int) (nx : Int → Int) (s : Int → Int) (r_p : rI p) (r_x : rI x) (r_ho : rI ho) (r_aw : rI aw) (r_cn : rI cn) (r_sp : rI sp) (r_kd : ∀ j, rI (kd j)) (r_nb : ∀ j, rI (nb j)) (r_rm : ∀ j, rI (rm j)) (r_st : ∀ j, rI (st j)) (r_rw : ∀ j, rI (rw j)) (r_nx : ∀ j, rI (nx j)) (hg : md_rg s) (hR9 : cs_R s kd nb rm st rw nx aw cn sp) : gFn K yX9_steer cX9_steer 4 (some .int) 1 [.ref xx, .int (iI p), .int (iI x)] [cO xx 9 [.ref nA, .ref nZ, wx_taken, .ref hh, .ref q0, .ref t0, .ref g0], cO nA 8 [.ref h0, .ref po, .ref sr, .ref pr, .ref br, .int (iI ho)], cO h0 5 [.ref k0, .ref k1, .ref k2, .ref k3, .ref k4, .ref k5, .int (iI aw), .int (iI cn), .int (iI sp)], cA K k0 6 kd, cA K k1 6 nb, cA K k2 6 rm, cA K k3 6 st, cA K k4 24 rw, cA K k5 6 nx] (an_steer s p x) := by
  refine g_enter (by decide +kernel) (Nat.le_of_ble_eq_true rfl) (fun G hC hR => ?_)
  refine g_lv hC [0, 1, 2] [(0, _), (1, _), (2, _)] rfl ?_
  have h19 := hg.2.2.1
  have hg0 := hg.2.2.2
  have hcs := hR9.1
  refine g_aload_n (pc := 0) hC 0 dX9_steer_0 rfl rfl ?_
  refine g_get (pc := 1) hC 0 fl_X9_12 dX9_steer_1 rfl rfl ?_
  refine g_get (pc := 4) hC 1 fl_X9_85 dX9_steer_4 rfl rfl ?_
  refine g_iload_n (pc := 7) hC 1 dX9_steer_7 rfl rfl ?_
  refine g_fnV (pc := 8) (qr := 2) hC [2] (k_X5_has _ _ _ _ _ _ _ _ _ _ _ (by first | exact r_p | assumption | omega) (by first | exact r_cn | assumption | omega)) cl_X5_has wm_X9_94 dX9_steer_8 rfl rfl rfl rfl rfl (by decide) (by decide) ⟨by omega, by omega⟩ (Nat.le_of_ble_eq_true rfl) rfl rfl ?_
  refine g_name hC (fun x8 e_x8 => ?_)
  have q_x8 := has_iff e_x8 (by omega)
  refine g_if_eq (pc := 11) hC 21 dX9_steer_11 (by decide) (by first | exact r_x8 | assumption | omega) (fun c11 => ?_) (fun c11 => ?_)
  · refine g_iconst (pc := 21) hC dX9_steer_21 ?_
    exact g_iret (pc := 22) hR dX9_steer_22 rfl ⟨by omega, by omega⟩ (Nat.le_of_ble_eq_true rfl) ⟨ret_eq (by unfold an_steer; rw [if_neg (by omega)]), rfl⟩
  · refine g_iload_n (pc := 14) hC 2 dX9_steer_14 rfl rfl ?_
    refine g_fnS (pc := 15) hC [] (k_X9_isDigit _ (by first | exact r_x | assumption | omega)) cl_X9_isDigit wm_X9_82 dX9_steer_15 rfl rfl (by decide) (by decide) ⟨by omega, by omega⟩ (Nat.le_of_ble_eq_true rfl) rfl rfl ?_
    refine g_name hC (fun x15 e_x15 => ?_)
    have q_x15 := dig_iff e_x15
    refine g_if_ne (pc := 18) hC 23 dX9_steer_18 (by decide) (by first | exact r_x15 | assumption | omega) (fun c18 => ?_) (fun c18 => ?_)
    · have hp : 0 ≤ p ∧ p < s 19 := by omega
      have hp1 := hR9.2.1 p hp.1 hp.2
      have hgp := hg.1 p hp.1 (by omega)
      refine g_aload_n (pc := 23) hC 0 dX9_steer_23 rfl rfl ?_
      refine g_get (pc := 24) hC 0 fl_X9_12 dX9_steer_24 rfl rfl ?_
      refine g_get (pc := 27) hC 1 fl_X9_85 dX9_steer_27 rfl rfl ?_
      refine g_iload_n (pc := 30) hC 1 dX9_steer_30 rfl rfl ?_
      refine g_fnV (pc := 31) (qr := 2) hC [2] (k_X5_isAway _ _ _ _ _ _ _ _ _ _ _ (by first | exact r_p | assumption | omega) (by first | exact r_aw | assumption | omega)) cl_X5_isAway wm_X9_169 dX9_steer_31 rfl rfl rfl rfl rfl (by decide) (by decide) ⟨by omega, by omega⟩ (Nat.le_of_ble_eq_true rfl) rfl rfl ?_
      refine g_name hC (fun x31 e_x31 => ?_)
      rw [hp1.2.2.2.2] at e_x31
      have hx31 : (x31 = 0 ∧ s (7 + p) = 0) ∨ (x31 = 1 ∧ ¬ s (7 + p) = 0) := by rw [e_x31]; split <;> omega
      refine g_if_ne (pc := 34) hC 57 dX9_steer_34 (by decide) (by first | exact r_x31 | assumption | omega) (fun c34 => ?_) (fun c34 => ?_)
      · refine g_iconst (pc := 57) hC dX9_steer_57 ?_
        refine g_istore_n (pc := 58) hC [(3, _), (0, _), (1, _), (2, _)] dX9_steer_58 rfl (by decide) rfl ?_
        refine g_iload_n (pc := 59) hC 0 dX9_steer_59 rfl rfl ?_
        refine g_if_eq (pc := 60) hC 72 dX9_steer_60 (by decide) (by first | assumption | decide | omega) (fun c60 => ?_) (fun c60 => by exfalso; omega)
        refine g_bipush (pc := 72) hC (-5) dX9_steer_72 (by decide) ?_
        exact g_iret (pc := 74) hR dX9_steer_74 rfl ⟨by omega, by omega⟩ (Nat.le_of_ble_eq_true rfl) ⟨ret_eq (by unfold an_steer; rw [if_pos (by omega), if_neg (by omega)]), rfl⟩
      · refine g_aload_n (pc := 37) hC 0 dX9_steer_37 rfl rfl ?_
        refine g_get (pc := 38) hC 0 fl_X9_12 dX9_steer_38 rfl rfl ?_
        refine g_get (pc := 41) hC 1 fl_X9_85 dX9_steer_41 rfl rfl ?_
        refine g_get (pc := 44) hC 2 fl_X9_107 dX9_steer_44 rfl rfl ?_
        refine g_iload_n (pc := 47) hC 1 dX9_steer_47 rfl rfl ?_
        refine g_iald (pc := 48) hC 6 dX9_steer_48 rfl (by omega) ?_
        have qz1 := r_st p
        refine g_iload_n (pc := 49) hC 2 dX9_steer_49 rfl rfl ?_
        refine g_icmp_eq (pc := 50) hC 57 dX9_steer_50 (by decide) (by first | assumption | decide | omega) (by first | exact r_x | assumption | omega) (fun c50 => ?_) (fun c50 => ?_)
        · refine g_iconst (pc := 57) hC dX9_steer_57 ?_
          refine g_istore_n (pc := 58) hC [(3, _), (0, _), (1, _), (2, _)] dX9_steer_58 rfl (by decide) rfl ?_
          refine g_iload_n (pc := 59) hC 0 dX9_steer_59 rfl rfl ?_
          refine g_if_eq (pc := 60) hC 72 dX9_steer_60 (by decide) (by first | assumption | decide | omega) (fun c60 => ?_) (fun c60 => by exfalso; omega)
          refine g_bipush (pc := 72) hC (-5) dX9_steer_72 (by decide) ?_
          exact g_iret (pc := 74) hR dX9_steer_74 rfl ⟨by omega, by omega⟩ (Nat.le_of_ble_eq_true rfl) ⟨ret_eq (by unfold an_steer; rw [if_pos (by omega), if_pos (by omega), if_pos (by omega)]), rfl⟩
        · refine g_iconst (pc := 53) hC dX9_steer_53 ?_
          refine g_goto (pc := 54) hC 58 dX9_steer_54 (by decide) ?_
          refine g_istore_n (pc := 58) hC [(3, _), (0, _), (1, _), (2, _)] dX9_steer_58 rfl (by decide) rfl ?_
          refine g_iload_n (pc := 59) hC 0 dX9_steer_59 rfl rfl ?_
          refine g_if_eq (pc := 60) hC 72 dX9_steer_60 (by decide) (by first | assumption | decide | omega) (fun c60 => by exfalso; omega) (fun c60 => ?_)
          refine g_iload_n (pc := 63) hC 2 dX9_steer_63 rfl rfl ?_
          refine g_bipush (pc := 64) hC (10) dX9_steer_64 (by decide) ?_
          refine g_imul (pc := 66) hC dX9_steer_66 ?_
          refine g_iload_n (pc := 67) hC 3 dX9_steer_67 rfl rfl ?_
          refine g_iadd (pc := 68) hC dX9_steer_68 ?_
          refine g_goto (pc := 69) hC 74 dX9_steer_69 (by decide) ?_
          exact g_iret (pc := 74) hR dX9_steer_74 rfl ⟨by omega, by omega⟩ (Nat.le_of_ble_eq_true rfl) ⟨ret_eq (by unfold an_steer; rw [if_pos (by omega), if_pos (by omega), if_neg (by omega)]; omega), rfl⟩
    · refine g_iconst (pc := 21) hC dX9_steer_21 ?_
      exact g_iret (pc := 22) hR dX9_steer_22 rfl ⟨by omega, by omega⟩ (Nat.le_of_ble_eq_true rfl) ⟨ret_eq (by unfold an_steer; rw [if_neg (by omega)]), rfl⟩
set_option maxHeartbeats 4000000 in
set_option maxRecDepth 100000 in
theorem k_X9_mean {K : gK} (xx : Nat) (nA : Nat) (nZ : Nat) (hh : Nat) (q0 : Nat) (t0 : Nat) (g0 : Nat) (h0 : Nat) (po : Nat) (sr : Nat) (pr : Nat) (br : Nat) (k0 : Nat) (k1 : Nat) (k2 : Nat) (k3 : Nat) (k4 : Nat) (k5 : Nat) (wx_taken : Value) (part : Int) (ho : Int) (aw : Int) (cn : Int) (sp : Int) (kd : Int → Int) (nb : Int → Int) (rm : Int → Int) (st : Int → Int) (rw : Int → Int) (nx : Int → Int) (s : Int → Int) (r_part : rI part) (r_ho : rI ho) (r_aw : rI aw) (r_cn : rI cn) (r_sp : rI sp) (r_kd : ∀ j, rI (kd j)) (r_nb : ∀ j, rI (nb j)) (r_rm : ∀ j, rI (rm j)) (r_st : ∀ j, rI (st j)) (r_rw : ∀ j, rI (rw j)) (r_nx : ∀ j, rI (nx j)) (hg : md_rg s) (hR9 : cs_R s kd nb rm st rw nx aw cn sp) : gMet K yX9_mean cX9_mean 3 (some .long) 2 0 0 [.ref xx, .int (iI part)] [cO xx 9 [.ref nA, .ref nZ, wx_taken, .ref hh, .ref q0, .ref t0, .ref g0], cO nA 8 [.ref h0, .ref po, .ref sr, .ref pr, .ref br, .int (iI ho)], cO h0 5 [.ref k0, .ref k1, .ref k2, .ref k3, .ref k4, .ref k5, .int (iI aw), .int (iI cn), .int (iI sp)], cA K k0 6 kd, cA K k1 6 nb, cA K k2 6 rm, cA K k3 6 st, cA K k4 24 rw, cA K k5 6 nx] (fun v9 w9 => v9 = some (.long (iL (an_mean s part))) ∧ w9 = [cO xx 9 [.ref nA, .ref nZ, wx_taken, .ref hh, .ref q0, .ref t0, .ref g0], cO nA 8 [.ref h0, .ref po, .ref sr, .ref pr, .ref br, .int (iI ho)], cO h0 5 [.ref k0, .ref k1, .ref k2, .ref k3, .ref k4, .ref k5, .int (iI aw), .int (iI cn), .int (iI sp)], cA K k0 6 kd, cA K k1 6 nb, cA K k2 6 rm, cA K k3 6 st, cA K k4 24 rw, cA K k5 6 nx]) := by
  refine g_enter (by decide +kernel) (Nat.le_of_ble_eq_true rfl) (fun G hC hR => ?_)
  refine g_lv hC [0, 1] [(0, _), (1, _)] rfl ?_
  have h19 := hg.2.2.1
  have hg0 := hg.2.2.2
  have hcs := hR9.1
  refine g_aload_n (pc := 0) hC 0 dX9_mean_0 rfl rfl ?_
  refine g_get (pc := 1) hC 0 fl_X9_12 dX9_mean_1 rfl rfl ?_
  refine g_get (pc := 4) hC 1 fl_X9_85 dX9_mean_4 rfl rfl ?_
  refine g_fnV (pc := 7) (qr := 2) hC [2, 3, 4, 5, 6, 7, 8] (k_X5_present _ _ _ _ _ _ _ _ _ _ _ _ _ _ _ _ _ (by first | exact r_aw | assumption | omega) (by first | exact r_cn | assumption | omega) (by first | exact r_sp | assumption | omega) (by first | exact r_kd | assumption | omega) (by first | exact r_nb | assumption | omega) (by first | exact r_rm | assumption | omega) (by first | exact r_st | assumption | omega) (by first | exact r_rw | assumption | omega) (by first | exact r_nx | assumption | omega) (by first | assumption | omega) (by first | assumption | omega)) cl_X5_present wm_X9_217 dX9_mean_7 rfl rfl rfl rfl rfl (by decide) (by decide) ⟨by omega, by omega⟩ (Nat.le_of_ble_eq_true rfl) rfl rfl ?_
  refine g_name hC (fun pr9 e_pr9 => ?_)
  have q_pr9 := md_sm_rng hg (s 19).toNat (by omega)
  refine g_istore_n (pc := 10) hC [(2, _), (0, _), (1, _)] dX9_mean_10 rfl (by decide) rfl ?_
  refine g_iload_n (pc := 11) hC 0 dX9_mean_11 rfl rfl ?_
  refine g_if_eq (pc := 12) hC 24 dX9_mean_12 (by decide) (by first | exact r_pr9 | assumption | omega) (fun c12 => ?_) (fun c12 => ?_)
  · refine g_ldc2 (pc := 24) hC (-9223372036854775808) wo_X9_207 (by decide) dX9_mean_24 ?_
    exact g_lret (pc := 27) hR dX9_mean_27 rfl ⟨by omega, by omega⟩ (Nat.le_of_ble_eq_true rfl) ⟨ret_eqL (by unfold an_mean; rw [if_neg (by omega)]), rfl⟩
  · refine g_iload_n (pc := 15) hC 2 dX9_mean_15 rfl rfl ?_
    refine g_if_eq (pc := 16) hC 28 dX9_mean_16 (by decide) (by first | exact r_part | assumption | omega) (fun c16 => ?_) (fun c16 => ?_)
    · refine g_aload_n (pc := 28) hC 1 dX9_mean_28 rfl rfl ?_
      refine g_get (pc := 29) hC 0 fl_X9_12 dX9_mean_29 rfl rfl ?_
      refine g_get (pc := 32) hC 1 fl_X9_85 dX9_mean_32 rfl rfl ?_
      refine g_iconst (pc := 35) hC dX9_mean_35 ?_
      refine g_fnV (pc := 36) (qr := 2) hC [2, 3, 4, 5, 6, 7, 8] (k_X5_sumOfStates _ _ _ _ _ _ _ _ _ _ _ _ _ _ _ _ _ s (by decide) (by first | exact r_aw | assumption | omega) (by first | exact r_cn | assumption | omega) (by first | exact r_sp | assumption | omega) (by first | exact r_kd | assumption | omega) (by first | exact r_nb | assumption | omega) (by first | exact r_rm | assumption | omega) (by first | exact r_st | assumption | omega) (by first | exact r_rw | assumption | omega) (by first | exact r_nx | assumption | omega) (by first | assumption | omega) (by first | assumption | omega) (by omega)) cl_X5_sumOfStates wm_X9_220 dX9_mean_36 rfl rfl rfl rfl rfl (by decide) (by decide) ⟨by omega, by omega⟩ (Nat.le_of_ble_eq_true rfl) rfl rfl ?_
      refine g_name hC (fun sm e_sm => ?_)
      rw [if_pos rfl] at e_sm
      refine g_iload_n (pc := 39) hC 0 dX9_mean_39 rfl rfl ?_
      refine g_iload_n (pc := 40) hC 2 dX9_mean_40 rfl rfl ?_
      refine g_callS (pc := 41) hC [] (k_X9_partOf _ _ _ (by first | exact r_sm | assumption | omega) (by first | exact r_pr9 | assumption | omega) (by first | exact r_part | assumption | omega) (by omega) (by omega)) cl_X9_partOf wm_X9_213 dX9_mean_41 rfl rfl (by decide) (by decide) (by omega) (Nat.le_of_ble_eq_true rfl) rfl (fun v9 w9 hq9 => ?_)
      obtain ⟨rfl, rfl⟩ := hq9
      refine g_ws hC [cO xx 9 [.ref nA, .ref nZ, wx_taken, .ref hh, .ref q0, .ref t0, .ref g0], cO nA 8 [.ref h0, .ref po, .ref sr, .ref pr, .ref br, .int (iI ho)], cO h0 5 [.ref k0, .ref k1, .ref k2, .ref k3, .ref k4, .ref k5, .int (iI aw), .int (iI cn), .int (iI sp)], cA K k0 6 kd, cA K k1 6 nb, cA K k2 6 rm, cA K k3 6 st, cA K k4 24 rw, cA K k5 6 nx] rfl ?_
      refine g_st hC [.long (iL (md_low sm pr9 part))] rfl ?_
      exact g_lret (pc := 44) hR dX9_mean_44 rfl ⟨by omega, by omega⟩ (Nat.le_of_ble_eq_true rfl) ⟨ret_eqL (by unfold an_mean; rw [if_pos (by omega), e_sm, e_pr9]), rfl⟩
    · refine g_iload_n (pc := 19) hC 2 dX9_mean_19 rfl rfl ?_
      refine g_iconst (pc := 20) hC dX9_mean_20 ?_
      refine g_icmp_eq (pc := 21) hC 28 dX9_mean_21 (by decide) (by first | exact r_part | assumption | omega) (by first | assumption | decide | omega) (fun c21 => ?_) (fun c21 => ?_)
      · refine g_aload_n (pc := 28) hC 1 dX9_mean_28 rfl rfl ?_
        refine g_get (pc := 29) hC 0 fl_X9_12 dX9_mean_29 rfl rfl ?_
        refine g_get (pc := 32) hC 1 fl_X9_85 dX9_mean_32 rfl rfl ?_
        refine g_iconst (pc := 35) hC dX9_mean_35 ?_
        refine g_fnV (pc := 36) (qr := 2) hC [2, 3, 4, 5, 6, 7, 8] (k_X5_sumOfStates _ _ _ _ _ _ _ _ _ _ _ _ _ _ _ _ _ s (by decide) (by first | exact r_aw | assumption | omega) (by first | exact r_cn | assumption | omega) (by first | exact r_sp | assumption | omega) (by first | exact r_kd | assumption | omega) (by first | exact r_nb | assumption | omega) (by first | exact r_rm | assumption | omega) (by first | exact r_st | assumption | omega) (by first | exact r_rw | assumption | omega) (by first | exact r_nx | assumption | omega) (by first | assumption | omega) (by first | assumption | omega) (by omega)) cl_X5_sumOfStates wm_X9_220 dX9_mean_36 rfl rfl rfl rfl rfl (by decide) (by decide) ⟨by omega, by omega⟩ (Nat.le_of_ble_eq_true rfl) rfl rfl ?_
        refine g_name hC (fun sm e_sm => ?_)
        rw [if_pos rfl] at e_sm
        refine g_iload_n (pc := 39) hC 0 dX9_mean_39 rfl rfl ?_
        refine g_iload_n (pc := 40) hC 2 dX9_mean_40 rfl rfl ?_
        refine g_callS (pc := 41) hC [] (k_X9_partOf _ _ _ (by first | exact r_sm | assumption | omega) (by first | exact r_pr9 | assumption | omega) (by first | exact r_part | assumption | omega) (by omega) (by omega)) cl_X9_partOf wm_X9_213 dX9_mean_41 rfl rfl (by decide) (by decide) (by omega) (Nat.le_of_ble_eq_true rfl) rfl (fun v9 w9 hq9 => ?_)
        obtain ⟨rfl, rfl⟩ := hq9
        refine g_ws hC [cO xx 9 [.ref nA, .ref nZ, wx_taken, .ref hh, .ref q0, .ref t0, .ref g0], cO nA 8 [.ref h0, .ref po, .ref sr, .ref pr, .ref br, .int (iI ho)], cO h0 5 [.ref k0, .ref k1, .ref k2, .ref k3, .ref k4, .ref k5, .int (iI aw), .int (iI cn), .int (iI sp)], cA K k0 6 kd, cA K k1 6 nb, cA K k2 6 rm, cA K k3 6 st, cA K k4 24 rw, cA K k5 6 nx] rfl ?_
        refine g_st hC [.long (iL (md_low sm pr9 part))] rfl ?_
        exact g_lret (pc := 44) hR dX9_mean_44 rfl ⟨by omega, by omega⟩ (Nat.le_of_ble_eq_true rfl) ⟨ret_eqL (by unfold an_mean; rw [if_pos (by omega), e_sm, e_pr9]), rfl⟩
      · refine g_ldc2 (pc := 24) hC (-9223372036854775808) wo_X9_207 (by decide) dX9_mean_24 ?_
        exact g_lret (pc := 27) hR dX9_mean_27 rfl ⟨by omega, by omega⟩ (Nat.le_of_ble_eq_true rfl) ⟨ret_eqL (by unfold an_mean; rw [if_neg (by omega)]), rfl⟩
set_option maxHeartbeats 4000000 in
set_option maxRecDepth 100000 in
theorem k_X9_looked {K : gK} (xx : Nat) (nA : Nat) (nZ : Nat) (hh : Nat) (q0 : Nat) (t0 : Nat) (g0 : Nat) (h0 : Nat) (po : Nat) (sr : Nat) (pr : Nat) (br : Nat) (k0 : Nat) (k1 : Nat) (k2 : Nat) (k3 : Nat) (k4 : Nat) (k5 : Nat) (br1 : Nat) (br2 : Nat) (br3 : Nat) (wx_taken : Value) (ho : Int) (aw : Int) (cn : Int) (sp : Int) (pn : Int) (kd : Int → Int) (nb : Int → Int) (rm : Int → Int) (st : Int → Int) (rw : Int → Int) (nx : Int → Int) (pl1 : Int → Int) (pl2 : Int → Int) (pl3 : Int → Int) (s : Int → Int) (r_ho : rI ho) (r_aw : rI aw) (r_cn : rI cn) (r_sp : rI sp) (r_pn : rI pn) (r_kd : ∀ j, rI (kd j)) (r_nb : ∀ j, rI (nb j)) (r_rm : ∀ j, rI (rm j)) (r_st : ∀ j, rI (st j)) (r_rw : ∀ j, rI (rw j)) (r_nx : ∀ j, rI (nx j)) (r_pl1 : ∀ j, rI (pl1 j)) (r_pl2 : ∀ j, rI (pl2 j)) (r_pl3 : ∀ j, rI (pl3 j)) (hg : md_rg s) (hR9 : cs_R s kd nb rm st rw nx aw cn sp) (hs : md_rs s) (hbk : pn = s 23 ∧ ∀ k, 0 ≤ k → k < s 23 → pl1 k = s (96 + k) ∧ pl2 k = s (104 + k)) : gFn K yX9_looked cX9_looked 4 (some .int) 1 [.ref xx] [cO xx 9 [.ref nA, .ref nZ, wx_taken, .ref hh, .ref q0, .ref t0, .ref g0], cO nA 8 [.ref h0, .ref po, .ref sr, .ref pr, .ref br, .int (iI ho)], cO h0 5 [.ref k0, .ref k1, .ref k2, .ref k3, .ref k4, .ref k5, .int (iI aw), .int (iI cn), .int (iI sp)], cA K k0 6 kd, cA K k1 6 nb, cA K k2 6 rm, cA K k3 6 st, cA K k4 24 rw, cA K k5 6 nx, cO br 4 [.ref br1, .ref br2, .ref br3, .int (iI pn)], cA K br1 8 pl1, cA K br2 8 pl2, cA K br3 8 pl3] (an_looked s) := by
  refine g_enter (by decide +kernel) (Nat.le_of_ble_eq_true rfl) (fun G hC hR => ?_)
  refine g_lv hC [0] [(0, _)] rfl ?_
  have h19 := hg.2.2.1
  have hg0 := hg.2.2.2
  have hcs := hR9.1
  have hs1 := hs.2.2.1
  refine g_aload_n (pc := 0) hC 0 dX9_looked_0 rfl rfl ?_
  refine g_get (pc := 1) hC 0 fl_X9_12 dX9_looked_1 rfl rfl ?_
  refine g_get (pc := 4) hC 1 fl_X9_235 dX9_looked_4 rfl rfl ?_
  refine g_astore_n (pc := 7) hC [(1, _), (0, _)] dX9_looked_7 rfl (by decide) rfl ?_
  refine g_iconst (pc := 8) hC dX9_looked_8 ?_
  refine g_istore_n (pc := 9) hC [(2, _), (1, _), (0, _)] dX9_looked_9 rfl (by decide) rfl ?_
  have L10 : ∀ (n1 : Nat) (i : Int) (j : Nat), (rI i) → (i = (j : Int)) → (i ≤ s 23) → (md_lk s j = -5) → s 23 - i < (n1 : Int) → G 0 0 10 [(0, .ref xx), (1, .ref br), (2, .int (iI i))] [] [cO xx 9 [.ref nA, .ref nZ, wx_taken, .ref hh, .ref q0, .ref t0, .ref g0], cO nA 8 [.ref h0, .ref po, .ref sr, .ref pr, .ref br, .int (iI ho)], cO h0 5 [.ref k0, .ref k1, .ref k2, .ref k3, .ref k4, .ref k5, .int (iI aw), .int (iI cn), .int (iI sp)], cA K k0 6 kd, cA K k1 6 nb, cA K k2 6 rm, cA K k3 6 st, cA K k4 24 rw, cA K k5 6 nx, cO br 4 [.ref br1, .ref br2, .ref br3, .int (iI pn)], cA K br1 8 pl1, cA K br2 8 pl2, cA K br3 8 pl3] := by
    intro n1
    induction n1 with
    | zero => intro i j r_i hi hj hx hm10; exfalso; omega
    | succ n1 ih10 =>
      intro i j r_i hi hj hx hm10
      refine g_iload_n (pc := 10) hC 2 dX9_looked_10 rfl rfl ?_
      refine g_aload_n (pc := 11) hC 1 dX9_looked_11 rfl rfl ?_
      refine g_get (pc := 12) hC 9 fl_X9_191 dX9_looked_12 rfl rfl ?_
      refine g_icmp_ge (pc := 15) hC 74 dX9_looked_15 (by decide) (by first | exact r_i | assumption | omega) (by first | exact r_pn | assumption | omega) (fun c15 => ?_) (fun c15 => ?_)
      · have hj9 : (s 23).toNat = j := by omega
        refine g_bipush (pc := 74) hC (-5) dX9_looked_74 (by decide) ?_
        exact g_iret (pc := 76) hR dX9_looked_76 rfl ⟨by omega, by omega⟩ (Nat.le_of_ble_eq_true rfl) ⟨ret_eq (by unfold an_looked; rw [hj9, hx]), rfl⟩
      · have hbk9 := hbk.2 i (by omega) (by omega)
        have hbv := hs1.2.2 i (by omega) (by omega)
        have hRp := (hR9.2.1 (pl1 i) (by omega) (by omega)).2.2.2.1
        have hst9 : s (1 + pl1 i) = s (1 + s (96 + i)) := by rw [hbk9.1]
        refine g_iload_n (pc := 18) hC 2 dX9_looked_18 rfl rfl ?_
        refine g_bipush (pc := 19) hC (8) dX9_looked_19 (by decide) ?_
        refine g_icmp_ge (pc := 21) hC 74 dX9_looked_21 (by decide) (by first | exact r_i | assumption | omega) (by first | assumption | decide | omega) (fun c21 => by exfalso; omega) (fun c21 => ?_)
        refine g_aload_n (pc := 24) hC 1 dX9_looked_24 rfl rfl ?_
        refine g_get (pc := 25) hC 9 fl_X9_238 dX9_looked_25 rfl rfl ?_
        refine g_iload_n (pc := 28) hC 2 dX9_looked_28 rfl rfl ?_
        refine g_iald (pc := 29) hC 10 dX9_looked_29 rfl (by omega) ?_
        have qz2 := r_pl1 i
        refine g_istore_n (pc := 30) hC [(3, _), (0, _), (1, _), (2, _)] dX9_looked_30 rfl (by decide) rfl ?_
        refine g_aload_n (pc := 31) hC 1 dX9_looked_31 rfl rfl ?_
        refine g_get (pc := 32) hC 0 fl_X9_12 dX9_looked_32 rfl rfl ?_
        refine g_get (pc := 35) hC 1 fl_X9_85 dX9_looked_35 rfl rfl ?_
        refine g_iload_n (pc := 38) hC 0 dX9_looked_38 rfl rfl ?_
        refine g_fnV (pc := 39) (qr := 2) hC [2] (k_X5_has _ _ _ _ _ _ _ _ _ _ _ (by first | assumption | omega) (by first | exact r_cn | assumption | omega)) cl_X5_has wm_X9_94 dX9_looked_39 rfl rfl rfl rfl rfl (by decide) (by decide) ⟨by omega, by omega⟩ (Nat.le_of_ble_eq_true rfl) rfl rfl ?_
        refine g_name hC (fun x39 e_x39 => ?_)
        have q_x39 := has_iff e_x39 (by omega)
        refine g_if_eq (pc := 42) hC 68 dX9_looked_42 (by decide) (by first | exact r_x39 | assumption | omega) (fun c42 => by exfalso; omega) (fun c42 => ?_)
        refine g_aload_n (pc := 45) hC 1 dX9_looked_45 rfl rfl ?_
        refine g_get (pc := 46) hC 0 fl_X9_12 dX9_looked_46 rfl rfl ?_
        refine g_get (pc := 49) hC 1 fl_X9_85 dX9_looked_49 rfl rfl ?_
        refine g_get (pc := 52) hC 2 fl_X9_107 dX9_looked_52 rfl rfl ?_
        refine g_iload_n (pc := 55) hC 0 dX9_looked_55 rfl rfl ?_
        refine g_iald (pc := 56) hC 6 dX9_looked_56 rfl (by omega) ?_
        have qz3 := r_st (pl1 i)
        refine g_aload_n (pc := 57) hC 2 dX9_looked_57 rfl rfl ?_
        refine g_get (pc := 58) hC 9 fl_X9_241 dX9_looked_58 rfl rfl ?_
        refine g_iload_n (pc := 61) hC 3 dX9_looked_61 rfl rfl ?_
        refine g_iald (pc := 62) hC 11 dX9_looked_62 rfl (by omega) ?_
        have qz4 := r_pl2 i
        refine g_icmp_eq (pc := 63) hC 68 dX9_looked_63 (by decide) (by first | assumption | decide | omega) (by first | assumption | decide | omega) (fun c63 => ?_) (fun c63 => ?_)
        · refine g_iinc (pc := 68) hC 3 [(2, _), (3, _), (0, _), (1, _)] dX9_looked_68 rfl (by decide) rfl ?_
          refine g_goto (pc := 71) hC 10 dX9_looked_71 (by decide) ?_
          refine g_lv hC [2, 3, 0] [(0, _), (1, _), (2, _)] rfl ?_
          exact ih10 (i + 1) (j + 1) (by first | assumption | omega) (by first | assumption | omega) (by first | assumption | omega) (by unfold md_lk; rw [if_pos hx, ← hi, if_pos (by omega)]) (by omega)
        · refine g_iload_n (pc := 66) hC 3 dX9_looked_66 rfl rfl ?_
          exact g_iret (pc := 67) hR dX9_looked_67 rfl ⟨by omega, by omega⟩ (Nat.le_of_ble_eq_true rfl) ⟨ret_eq (md_lkD hi (by omega) hx (by omega)), rfl⟩
  refine g_lv hC [2, 1, 0] [(0, _), (1, _), (2, _)] rfl ?_
  exact L10 ((s 23 - 0 : Int).toNat + 1) 0 0 (by decide) (by first | assumption | omega) (by first | assumption | omega) rfl (by omega)
set_option maxHeartbeats 4000000 in
set_option maxRecDepth 100000 in
theorem k_X9_as {K : gK} (xx : Nat) (nA : Nat) (nZ : Nat) (hh : Nat) (q0 : Nat) (t0 : Nat) (g0 : Nat) (h0 : Nat) (po : Nat) (sr : Nat) (pr : Nat) (br : Nat) (k0 : Nat) (k1 : Nat) (k2 : Nat) (k3 : Nat) (k4 : Nat) (k5 : Nat) (wx_taken : Value) (p : Int) (k : Int) (ho : Int) (aw : Int) (cn : Int) (sp : Int) (kd : Int → Int) (nb : Int → Int) (rm : Int → Int) (st : Int → Int) (rw : Int → Int) (nx : Int → Int) (s : Int → Int) (r_p : rI p) (r_k : rI k) (r_ho : rI ho) (r_aw : rI aw) (r_cn : rI cn) (r_sp : rI sp) (r_kd : ∀ j, rI (kd j)) (r_nb : ∀ j, rI (nb j)) (r_rm : ∀ j, rI (rm j)) (r_st : ∀ j, rI (st j)) (r_rw : ∀ j, rI (rw j)) (r_nx : ∀ j, rI (nx j)) (hg : md_rg s) (hR9 : cs_R s kd nb rm st rw nx aw cn sp) : gFn K yX9_as cX9_as 3 (some .int) 2 [.ref xx, .int (iI p), .int (iI k)] [cO xx 9 [.ref nA, .ref nZ, wx_taken, .ref hh, .ref q0, .ref t0, .ref g0], cO nA 8 [.ref h0, .ref po, .ref sr, .ref pr, .ref br, .int (iI ho)], cO h0 5 [.ref k0, .ref k1, .ref k2, .ref k3, .ref k4, .ref k5, .int (iI aw), .int (iI cn), .int (iI sp)], cA K k0 6 kd, cA K k1 6 nb, cA K k2 6 rm, cA K k3 6 st, cA K k4 24 rw, cA K k5 6 nx] (an_as s p k) := by
  refine g_enter (by decide +kernel) (Nat.le_of_ble_eq_true rfl) (fun G hC hR => ?_)
  refine g_lv hC [0, 1, 2] [(0, _), (1, _), (2, _)] rfl ?_
  have h19 := hg.2.2.1
  have hg0 := hg.2.2.2
  have hcs := hR9.1
  refine g_aload_n (pc := 0) hC 0 dX9_as_0 rfl rfl ?_
  refine g_get (pc := 1) hC 0 fl_X9_12 dX9_as_1 rfl rfl ?_
  refine g_get (pc := 4) hC 1 fl_X9_85 dX9_as_4 rfl rfl ?_
  refine g_iload_n (pc := 7) hC 1 dX9_as_7 rfl rfl ?_
  refine g_fnV (pc := 8) (qr := 2) hC [2] (k_X5_has _ _ _ _ _ _ _ _ _ _ _ (by first | exact r_p | assumption | omega) (by first | exact r_cn | assumption | omega)) cl_X5_has wm_X9_94 dX9_as_8 rfl rfl rfl rfl rfl (by decide) (by decide) ⟨by omega, by omega⟩ (Nat.le_of_ble_eq_true rfl) rfl rfl ?_
  refine g_name hC (fun x8 e_x8 => ?_)
  have q_x8 := has_iff e_x8 (by omega)
  refine g_if_eq (pc := 11) hC 24 dX9_as_11 (by decide) (by first | exact r_x8 | assumption | omega) (fun c11 => ?_) (fun c11 => ?_)
  · refine g_iconst (pc := 24) hC dX9_as_24 ?_
    exact g_iret (pc := 25) hR dX9_as_25 rfl ⟨by omega, by omega⟩ (Nat.le_of_ble_eq_true rfl) ⟨ret_eq (by unfold an_as; rw [if_neg (by omega)]), rfl⟩
  · refine g_iload_n (pc := 14) hC 2 dX9_as_14 rfl rfl ?_
    refine g_if_lt (pc := 15) hC 24 dX9_as_15 (by decide) (by first | exact r_k | assumption | omega) (fun c15 => ?_) (fun c15 => ?_)
    · refine g_iconst (pc := 24) hC dX9_as_24 ?_
      exact g_iret (pc := 25) hR dX9_as_25 rfl ⟨by omega, by omega⟩ (Nat.le_of_ble_eq_true rfl) ⟨ret_eq (by unfold an_as; rw [if_neg (by omega)]), rfl⟩
    · refine g_iload_n (pc := 18) hC 2 dX9_as_18 rfl rfl ?_
      refine g_bipush (pc := 19) hC (7) dX9_as_19 (by decide) ?_
      refine g_icmp_lt (pc := 21) hC 26 dX9_as_21 (by decide) (by first | exact r_k | assumption | omega) (by first | assumption | decide | omega) (fun c21 => ?_) (fun c21 => ?_)
      · have hp : 0 ≤ p ∧ p < s 19 := by omega
        have hp1 := hR9.2.1 p hp.1 hp.2
        have hgp := hg.1 p hp.1 (by omega)
        refine g_aload_n (pc := 26) hC 0 dX9_as_26 rfl rfl ?_
        refine g_get (pc := 27) hC 0 fl_X9_12 dX9_as_27 rfl rfl ?_
        refine g_get (pc := 30) hC 1 fl_X9_85 dX9_as_30 rfl rfl ?_
        refine g_get (pc := 33) hC 2 fl_X9_97 dX9_as_33 rfl rfl ?_
        refine g_iload_n (pc := 36) hC 1 dX9_as_36 rfl rfl ?_
        refine g_iald (pc := 37) hC 3 dX9_as_37 rfl (by omega) ?_
        have qz1 := r_kd p
        refine g_iload_n (pc := 38) hC 2 dX9_as_38 rfl rfl ?_
        refine g_fnS (pc := 39) hC [] (k_X9_isUnder _ _ (by first | assumption | omega) (by first | exact r_k | assumption | omega) (by first | assumption | omega)) cl_X9_isUnder wm_X9_259 dX9_as_39 rfl rfl (by decide) (by decide) ⟨by omega, by omega⟩ (Nat.le_of_ble_eq_true rfl) rfl rfl ?_
        refine g_name hC (fun x39 e_x39 => ?_)
        have q_x39 : x39 = 0 ∨ x39 = 1 := by rw [e_x39]; exact ac_un_01 _ _
        rw [hp1.1] at e_x39
        refine g_if_eq (pc := 42) hC 60 dX9_as_42 (by decide) (by first | exact r_x39 | assumption | omega) (fun c42 => ?_) (fun c42 => ?_)
        · refine g_bipush (pc := 60) hC (-6) dX9_as_60 (by decide) ?_
          exact g_iret (pc := 62) hR dX9_as_62 rfl ⟨by omega, by omega⟩ (Nat.le_of_ble_eq_true rfl) ⟨ret_eq (by unfold an_as; rw [if_pos (by omega), if_neg (by omega)]), rfl⟩
        · refine g_aload_n (pc := 45) hC 0 dX9_as_45 rfl rfl ?_
          refine g_get (pc := 46) hC 0 fl_X9_12 dX9_as_46 rfl rfl ?_
          refine g_get (pc := 49) hC 1 fl_X9_85 dX9_as_49 rfl rfl ?_
          refine g_get (pc := 52) hC 2 fl_X9_101 dX9_as_52 rfl rfl ?_
          refine g_iload_n (pc := 55) hC 1 dX9_as_55 rfl rfl ?_
          refine g_iald (pc := 56) hC 4 dX9_as_56 rfl (by omega) ?_
          have qz2 := r_nb p
          refine g_goto (pc := 57) hC 62 dX9_as_57 (by decide) ?_
          exact g_iret (pc := 62) hR dX9_as_62 rfl ⟨by omega, by omega⟩ (Nat.le_of_ble_eq_true rfl) ⟨ret_eq (by unfold an_as; rw [if_pos (by omega), if_pos (by omega)]; omega), rfl⟩
      · refine g_iconst (pc := 24) hC dX9_as_24 ?_
        exact g_iret (pc := 25) hR dX9_as_25 rfl ⟨by omega, by omega⟩ (Nat.le_of_ble_eq_true rfl) ⟨ret_eq (by unfold an_as; rw [if_neg (by omega)]), rfl⟩
set_option maxHeartbeats 4000000 in
set_option maxRecDepth 100000 in
theorem k_X9_count {K : gK} (xx : Nat) (nA : Nat) (nZ : Nat) (hh : Nat) (q0 : Nat) (t0 : Nat) (g0 : Nat) (h0 : Nat) (po : Nat) (sr : Nat) (pr : Nat) (br : Nat) (k0 : Nat) (k1 : Nat) (k2 : Nat) (k3 : Nat) (k4 : Nat) (k5 : Nat) (pa : Nat) (wx_taken : Value) (ws_first : Value) (ws_second : Value) (ws_third : Value) (wp_first : Value) (wp_second : Value) (wp_third : Value) (wb_first : Value) (wb_second : Value) (wb_third : Value) (wg_trace : Value) (wg_man : Value) (wg_kind : Value) (wg_number : Value) (w : Int) (ho : Int) (aw : Int) (cn : Int) (sp : Int) (tz : Int) (en : Int) (ln : Int) (bn : Int) (ran : Int) (s : Int → Int) (r_w : rI w) (r_ho : rI ho) (r_aw : rI aw) (r_cn : rI cn) (r_sp : rI sp) (r_tz : rI tz) (r_en : rI en) (r_ln : rI ln) (r_bn : rI bn) (r_ran : rI ran) (hcn : cn = s 19 ∧ ho = s 20 ∧ en = s 21 ∧ ln = s 22 ∧ bn = s 23 ∧ tz = s 24) : gFn K yX9_count cX9_count 2 (some .int) 0 [.ref xx, .int (iI w)] [cO xx 9 [.ref nA, .ref nZ, wx_taken, .ref hh, .ref q0, .ref t0, .ref g0], cO nA 8 [.ref h0, .ref po, .ref sr, .ref pr, .ref br, .int (iI ho)], cO h0 5 [.ref k0, .ref k1, .ref k2, .ref k3, .ref k4, .ref k5, .int (iI aw), .int (iI cn), .int (iI sp)], cO po 6 [.ref pa, .int (iI tz)], cO sr 4 [ws_first, ws_second, ws_third, .int (iI en)], cO pr 4 [wp_first, wp_second, wp_third, .int (iI ln)], cO br 4 [wb_first, wb_second, wb_third, .int (iI bn)], cO g0 0 [wg_trace, .int (iI ran), wg_man, wg_kind, wg_number]] (if w = 6 then ran else if 0 ≤ w ∧ w ≤ 5 then s (19 + w) else -1) := by
  refine g_enter (by decide +kernel) (Nat.le_of_ble_eq_true rfl) (fun G hC hR => ?_)
  refine g_lv hC [0, 1] [(0, _), (1, _)] rfl ?_
  refine g_iload_n (pc := 0) hC 1 dX9_count_0 rfl rfl ?_
  by_cases k1_0 : w = 0
  · refine g_tswIn (pc := 1) hC (0) (off := 43) 44 dX9_count_1 k1_0 (by omega) (by decide) (by decide) ?_
    refine g_aload_n (pc := 44) hC 0 dX9_count_44 rfl rfl ?_
    refine g_get (pc := 45) hC 0 fl_X9_12 dX9_count_45 rfl rfl ?_
    refine g_get (pc := 48) hC 1 fl_X9_85 dX9_count_48 rfl rfl ?_
    refine g_get (pc := 51) hC 2 fl_X9_181 dX9_count_51 rfl rfl ?_
    exact g_iret (pc := 54) hR dX9_count_54 rfl ⟨by omega, by omega⟩ (Nat.le_of_ble_eq_true rfl) ⟨ret_eq (by rw [if_neg (by omega), if_pos (by omega), show 19 + w = 19 by omega]; omega), rfl⟩
  by_cases k1_1 : w = 1
  · refine g_tswIn (pc := 1) hC (1) (off := 54) 55 dX9_count_1 k1_1 (by omega) (by decide) (by decide) ?_
    refine g_aload_n (pc := 55) hC 0 dX9_count_55 rfl rfl ?_
    refine g_get (pc := 56) hC 0 fl_X9_12 dX9_count_56 rfl rfl ?_
    refine g_get (pc := 59) hC 1 fl_X9_65 dX9_count_59 rfl rfl ?_
    exact g_iret (pc := 62) hR dX9_count_62 rfl ⟨by omega, by omega⟩ (Nat.le_of_ble_eq_true rfl) ⟨ret_eq (by rw [if_neg (by omega), if_pos (by omega), show 19 + w = 20 by omega]; omega), rfl⟩
  by_cases k1_2 : w = 2
  · refine g_tswIn (pc := 1) hC (2) (off := 62) 63 dX9_count_1 k1_2 (by omega) (by decide) (by decide) ?_
    refine g_aload_n (pc := 63) hC 0 dX9_count_63 rfl rfl ?_
    refine g_get (pc := 64) hC 0 fl_X9_12 dX9_count_64 rfl rfl ?_
    refine g_get (pc := 67) hC 1 fl_X9_187 dX9_count_67 rfl rfl ?_
    refine g_get (pc := 70) hC 4 fl_X9_191 dX9_count_70 rfl rfl ?_
    exact g_iret (pc := 73) hR dX9_count_73 rfl ⟨by omega, by omega⟩ (Nat.le_of_ble_eq_true rfl) ⟨ret_eq (by rw [if_neg (by omega), if_pos (by omega), show 19 + w = 21 by omega]; omega), rfl⟩
  by_cases k1_3 : w = 3
  · refine g_tswIn (pc := 1) hC (3) (off := 73) 74 dX9_count_1 k1_3 (by omega) (by decide) (by decide) ?_
    refine g_aload_n (pc := 74) hC 0 dX9_count_74 rfl rfl ?_
    refine g_get (pc := 75) hC 0 fl_X9_12 dX9_count_75 rfl rfl ?_
    refine g_get (pc := 78) hC 1 fl_X9_224 dX9_count_78 rfl rfl ?_
    refine g_get (pc := 81) hC 5 fl_X9_191 dX9_count_81 rfl rfl ?_
    exact g_iret (pc := 84) hR dX9_count_84 rfl ⟨by omega, by omega⟩ (Nat.le_of_ble_eq_true rfl) ⟨ret_eq (by rw [if_neg (by omega), if_pos (by omega), show 19 + w = 22 by omega]; omega), rfl⟩
  by_cases k1_4 : w = 4
  · refine g_tswIn (pc := 1) hC (4) (off := 84) 85 dX9_count_1 k1_4 (by omega) (by decide) (by decide) ?_
    refine g_aload_n (pc := 85) hC 0 dX9_count_85 rfl rfl ?_
    refine g_get (pc := 86) hC 0 fl_X9_12 dX9_count_86 rfl rfl ?_
    refine g_get (pc := 89) hC 1 fl_X9_235 dX9_count_89 rfl rfl ?_
    refine g_get (pc := 92) hC 6 fl_X9_191 dX9_count_92 rfl rfl ?_
    exact g_iret (pc := 95) hR dX9_count_95 rfl ⟨by omega, by omega⟩ (Nat.le_of_ble_eq_true rfl) ⟨ret_eq (by rw [if_neg (by omega), if_pos (by omega), show 19 + w = 23 by omega]; omega), rfl⟩
  by_cases k1_5 : w = 5
  · refine g_tswIn (pc := 1) hC (5) (off := 95) 96 dX9_count_1 k1_5 (by omega) (by decide) (by decide) ?_
    refine g_aload_n (pc := 96) hC 0 dX9_count_96 rfl rfl ?_
    refine g_get (pc := 97) hC 0 fl_X9_12 dX9_count_97 rfl rfl ?_
    refine g_get (pc := 100) hC 1 fl_X9_51 dX9_count_100 rfl rfl ?_
    refine g_get (pc := 103) hC 3 fl_X9_61 dX9_count_103 rfl rfl ?_
    exact g_iret (pc := 106) hR dX9_count_106 rfl ⟨by omega, by omega⟩ (Nat.le_of_ble_eq_true rfl) ⟨ret_eq (by rw [if_neg (by omega), if_pos (by omega), show 19 + w = 24 by omega]; omega), rfl⟩
  by_cases k1_6 : w = 6
  · refine g_tswIn (pc := 1) hC (6) (off := 106) 107 dX9_count_1 k1_6 (by omega) (by decide) (by decide) ?_
    refine g_aload_n (pc := 107) hC 0 dX9_count_107 rfl rfl ?_
    refine g_get (pc := 108) hC 0 fl_X9_46 dX9_count_108 rfl rfl ?_
    refine g_get (pc := 111) hC 7 fl_X9_244 dX9_count_111 rfl rfl ?_
    exact g_iret (pc := 114) hR dX9_count_114 rfl ⟨by omega, by omega⟩ (Nat.le_of_ble_eq_true rfl) ⟨ret_eq (by rw [if_pos (by omega)]), rfl⟩
  refine g_tswOut (pc := 1) hC 115 dX9_count_1 (by omega) (by omega) (by decide) ?_
  refine g_iconst (pc := 115) hC dX9_count_115 ?_
  exact g_iret (pc := 116) hR dX9_count_116 rfl ⟨by omega, by omega⟩ (Nat.le_of_ble_eq_true rfl) ⟨ret_eq (by rw [if_neg (by omega), if_neg (by omega)]), rfl⟩
set_option maxHeartbeats 4000000 in
set_option maxRecDepth 100000 in
theorem k_X9_feed {K : gK} (xx : Nat) (nA : Nat) (nZ : Nat) (hh : Nat) (q0 : Nat) (t0 : Nat) (g0 : Nat) (h0 : Nat) (po : Nat) (sr : Nat) (pr : Nat) (br : Nat) (pa : Nat) (wx_taken : Value) (g : Int) (ho : Int) (tz : Int) (tf : Int → Int) (s : Int → Int) (r_g : rI g) (r_ho : rI ho) (r_tz : rI tz) (r_tf : ∀ j, rI (tf j)) (ht : tz = s 24 ∧ ∀ q, 0 ≤ q → q < s 24 → tf q = s (112 + q)) (h24 : 0 ≤ s 24 ∧ s 24 ≤ 100) : gMet K yX9_feed cX9_feed 2 (some .int) 1 0 0 [.ref xx, .int (iI g)] [cO xx 9 [.ref nA, .ref nZ, wx_taken, .ref hh, .ref q0, .ref t0, .ref g0], cO nA 8 [.ref h0, .ref po, .ref sr, .ref pr, .ref br, .int (iI ho)], cO po 6 [.ref pa, .int (iI tz)], cA K pa 100 tf] (fun v9 w9 => ∃ (tf2 : Int → Int), ∃ (tz2 : Int), v9 = some (.int (iI (an_feed s g))) ∧ w9 = [cO xx 9 [.ref nA, .ref nZ, wx_taken, .ref hh, .ref q0, .ref t0, .ref g0], cO nA 8 [.ref h0, .ref po, .ref sr, .ref pr, .ref br, .int (iI ho)], cO po 6 [.ref pa, .int (iI tz2)], cA K pa 100 tf2] ∧ (∀ j, rI (tf2 j)) ∧ rI tz2 ∧ (tz2 = ne_feed s g 24 ∧ ∀ q, 0 ≤ q → q < ne_feed s g 24 → tf2 q = ne_feed s g (112 + q))) := by
  refine g_enter (by decide +kernel) (Nat.le_of_ble_eq_true rfl) (fun G hC hR => ?_)
  refine g_lv hC [0, 1] [(0, _), (1, _)] rfl ?_
  refine g_iload_n (pc := 0) hC 1 dX9_feed_0 rfl rfl ?_
  refine g_if_lt (pc := 1) hC 10 dX9_feed_1 (by decide) (by first | exact r_g | assumption | omega) (fun c1 => ?_) (fun c1 => ?_)
  · refine g_bipush (pc := 10) hC (-2) dX9_feed_10 (by decide) ?_
    exact g_iret (pc := 12) hR dX9_feed_12 rfl ⟨by omega, by omega⟩ (Nat.le_of_ble_eq_true rfl) ⟨tf, tz, ret_eq (by unfold an_feed; rw [if_neg (by omega)]), rfl, (by first | assumption | omega), (by first | exact r_tz | assumption | omega), (by unfold ne_feed; rw [if_neg (by omega)]; exact ht)⟩
  · refine g_iload_n (pc := 4) hC 1 dX9_feed_4 rfl rfl ?_
    refine g_bipush (pc := 5) hC (127) dX9_feed_5 (by decide) ?_
    refine g_icmp_le (pc := 7) hC 13 dX9_feed_7 (by decide) (by first | exact r_g | assumption | omega) (by first | assumption | decide | omega) (fun c7 => ?_) (fun c7 => ?_)
    · refine g_aload_n (pc := 13) hC 0 dX9_feed_13 rfl rfl ?_
      refine g_get (pc := 14) hC 0 fl_X9_12 dX9_feed_14 rfl rfl ?_
      refine g_get (pc := 17) hC 1 fl_X9_51 dX9_feed_17 rfl rfl ?_
      refine g_iload_n (pc := 20) hC 1 dX9_feed_20 rfl rfl ?_
      refine g_callV (pc := 21) (qr := 2) hC [2, 3] (k_X6_add _ _ _ _ _ (by first | exact r_g | assumption | omega) (by first | exact r_tz | assumption | omega) (by first | exact r_tf | assumption | omega) (by first | assumption | omega)) cl_X6_add wm_X9_55 dX9_feed_21 rfl rfl rfl rfl rfl (by decide) (by decide) (by omega) (Nat.le_of_ble_eq_true rfl) rfl (fun v9 w9 hq9 => ?_)
      obtain ⟨tf5, tz5, rfl, rfl, r_tf5, r_tz5, had_21⟩ := hq9
      refine g_ws hC [cO xx 9 [.ref nA, .ref nZ, wx_taken, .ref hh, .ref q0, .ref t0, .ref g0], cO nA 8 [.ref h0, .ref po, .ref sr, .ref pr, .ref br, .int (iI ho)], cO po 6 [.ref pa, .int (iI tz5)], cA K pa 100 tf5] rfl ?_
      refine g_st hC [.int (iI (if tz = 100 then 0 else 1))] rfl ?_
      refine g_name hC (fun x21 e_x21 => ?_)
      have hx21 : (x21 = 0 ∧ tz = 100) ∨ (x21 = 1 ∧ ¬ tz = 100) := by rw [e_x21]; split <;> omega
      refine g_if_eq (pc := 24) hC 40 dX9_feed_24 (by decide) (by first | exact r_x21 | assumption | omega) (fun c24 => ?_) (fun c24 => ?_)
      · refine g_bipush (pc := 40) hC (-4) dX9_feed_40 (by decide) ?_
        exact g_iret (pc := 42) hR dX9_feed_42 rfl ⟨by omega, by omega⟩ (Nat.le_of_ble_eq_true rfl) ⟨tf5, tz5, ret_eq (by unfold an_feed; rw [if_pos (by omega), if_pos (by omega)]), rfl, (by first | assumption | omega), (by first | exact r_tz5 | assumption | omega), (by unfold ne_feed; rw [if_neg (by omega)]; exact feed_0 ht (by omega) had_21)⟩
      · refine g_aload_n (pc := 27) hC 0 dX9_feed_27 rfl rfl ?_
        refine g_get (pc := 28) hC 0 fl_X9_12 dX9_feed_28 rfl rfl ?_
        refine g_get (pc := 31) hC 1 fl_X9_51 dX9_feed_31 rfl rfl ?_
        refine g_get (pc := 34) hC 2 fl_X9_61 dX9_feed_34 rfl rfl ?_
        refine g_goto (pc := 37) hC 42 dX9_feed_37 (by decide) ?_
        exact g_iret (pc := 42) hR dX9_feed_42 rfl ⟨by omega, by omega⟩ (Nat.le_of_ble_eq_true rfl) ⟨tf5, tz5, ret_eq (by unfold an_feed; rw [if_pos (by omega), if_neg (by omega)]; omega), rfl, (by first | assumption | omega), (by first | exact r_tz5 | assumption | omega), (feed_1 ht h24 (by omega) had_21 (by unfold ne_feed; rw [if_pos (by omega)]))⟩
    · refine g_bipush (pc := 10) hC (-2) dX9_feed_10 (by decide) ?_
      exact g_iret (pc := 12) hR dX9_feed_12 rfl ⟨by omega, by omega⟩ (Nat.le_of_ble_eq_true rfl) ⟨tf, tz, ret_eq (by unfold an_feed; rw [if_neg (by omega)]), rfl, (by first | assumption | omega), (by first | exact r_tz | assumption | omega), (by unfold ne_feed; rw [if_neg (by omega)]; exact ht)⟩
set_option maxHeartbeats 4000000 in
set_option maxRecDepth 100000 in
theorem k_X9_trace {K : gK} (xx : Nat) (nA : Nat) (nZ : Nat) (hh : Nat) (q0 : Nat) (t0 : Nat) (g0 : Nat) (h0 : Nat) (po : Nat) (sr : Nat) (pr : Nat) (br : Nat) (ga : Nat) (wx_taken : Value) (i : Int) (ho : Int) (ran : Int) (nb : Int) (kd : Int) (tv : Int) (tf : Int → Int) (s : Int → Int) (hr : 0 ≤ ran ∧ ran ≤ 100) (r_i : rI i) : gFn K yX9_trace cX9_trace 2 (some .int) 0 [.ref xx, .int (iI i)] [cO xx 9 [.ref nA, .ref nZ, wx_taken, .ref hh, .ref q0, .ref t0, .ref g0], cO nA 8 [.ref h0, .ref po, .ref sr, .ref pr, .ref br, .int (iI ho)], cO g0 0 [.ref ga, .int (iI ran), .int (iI nb), .int (iI kd), .int (iI tv)], cA K ga 20 tf] (if 0 ≤ i ∧ i < ran ∧ i < 20 then tf i else -1) := by
  refine g_enter (by decide +kernel) (Nat.le_of_ble_eq_true rfl) (fun G hC hR => ?_)
  refine g_lv hC [0, 1] [(0, _), (1, _)] rfl ?_
  refine g_iload_n (pc := 0) hC 1 dX9_trace_0 rfl rfl ?_
  refine g_if_lt (pc := 1) hC 33 dX9_trace_1 (by decide) (by first | exact r_i | assumption | omega) (fun c1 => ?_) (fun c1 => ?_)
  · refine g_iconst (pc := 33) hC dX9_trace_33 ?_
    exact g_iret (pc := 34) hR dX9_trace_34 rfl ⟨by omega, by omega⟩ (Nat.le_of_ble_eq_true rfl) ⟨ret_eq (by rw [if_neg (by omega)]), rfl⟩
  · refine g_iload_n (pc := 4) hC 1 dX9_trace_4 rfl rfl ?_
    refine g_aload_n (pc := 5) hC 0 dX9_trace_5 rfl rfl ?_
    refine g_get (pc := 6) hC 0 fl_X9_46 dX9_trace_6 rfl rfl ?_
    refine g_get (pc := 9) hC 2 fl_X9_244 dX9_trace_9 rfl rfl ?_
    refine g_icmp_ge (pc := 12) hC 33 dX9_trace_12 (by decide) (by first | exact r_i | assumption | omega) (by first | exact r_ran | assumption | omega) (fun c12 => ?_) (fun c12 => ?_)
    · refine g_iconst (pc := 33) hC dX9_trace_33 ?_
      exact g_iret (pc := 34) hR dX9_trace_34 rfl ⟨by omega, by omega⟩ (Nat.le_of_ble_eq_true rfl) ⟨ret_eq (by rw [if_neg (by omega)]), rfl⟩
    · refine g_iload_n (pc := 15) hC 1 dX9_trace_15 rfl rfl ?_
      refine g_bipush (pc := 16) hC (20) dX9_trace_16 (by decide) ?_
      refine g_icmp_ge (pc := 18) hC 33 dX9_trace_18 (by decide) (by first | exact r_i | assumption | omega) (by first | assumption | decide | omega) (fun c18 => ?_) (fun c18 => ?_)
      · refine g_iconst (pc := 33) hC dX9_trace_33 ?_
        exact g_iret (pc := 34) hR dX9_trace_34 rfl ⟨by omega, by omega⟩ (Nat.le_of_ble_eq_true rfl) ⟨ret_eq (by rw [if_neg (by omega)]), rfl⟩
      · refine g_aload_n (pc := 21) hC 0 dX9_trace_21 rfl rfl ?_
        refine g_get (pc := 22) hC 0 fl_X9_46 dX9_trace_22 rfl rfl ?_
        refine g_get (pc := 25) hC 2 fl_X9_256 dX9_trace_25 rfl rfl ?_
        refine g_iload_n (pc := 28) hC 1 dX9_trace_28 rfl rfl ?_
        refine g_iald (pc := 29) hC 3 dX9_trace_29 rfl (by omega) ?_
        refine g_goto (pc := 30) hC 34 dX9_trace_30 (by decide) ?_
        exact g_iret (pc := 34) hR dX9_trace_34 rfl ⟨by omega, by omega⟩ (Nat.le_of_ble_eq_true rfl) ⟨ret_eq (by rw [if_pos (by omega)]), rfl⟩
