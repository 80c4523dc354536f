theorem md_pull_rng {W : (Int → Int) → Int} {rch : Int} {s : Int → Int} (hT : md_TK s W rch) (hg : md_rg s) {p q : Int} (hp : 0 ≤ p ∧ p < 6) (hq : 0 ≤ q ∧ q < 6) : -1000 ≤ md_pull W s p q ∧ md_pull W s p q ≤ 1000 := by
  have h1 := hT.2.2 (tk_b p q (s (26 + p)) (s (1 + q)) (md_apart s p q) (s 0 % 10))
  have h2 := md_apart_rng hg hp hq
  unfold md_pull
  omega
theorem md_pl_rng {W : (Int → Int) → Int} {rch : Int} {s : Int → Int} (hT : md_TK s W rch) (hg : md_rg s) {p q : Int} (hp : 0 ≤ p ∧ p < 6) (hq : 0 ≤ q ∧ q < 6) : -1000 ≤ md_pl W rch s p q ∧ md_pl W rch s p q ≤ 1000 := by
  have h1 := md_pull_rng hT hg hp hq
  unfold md_pl
  (repeat' split) <;> omega
theorem md_tells {W : (Int → Int) → Int} {rch : Int} {s : Int → Int} (hT : md_TK s W rch) : (if s 25 = -1 then 9 else s (212 + s 25)) = rch := by
  rcases hT.1 with ⟨a, b, c⟩ | ⟨a, b, c, d⟩
  · rw [if_pos a, b]
  · rw [if_neg (by omega), c]
theorem md_ld_s {W : (Int → Int) → Int} {rch : Int} {s : Int → Int} {p i : Int} {j : Nat} {best most b2 m2 x : Int} (hi : i = (j : Int)) (hx : x = md_pl W rch s p i) (hb : best = (md_ld W rch s p j).1) (hm : most = (md_ld W rch s p j).2) (hb2 : b2 = if most < x then i else best) (hm2 : m2 = if most < x then x else most) : b2 = (md_ld W rch s p (j + 1)).1 ∧ m2 = (md_ld W rch s p (j + 1)).2 := by
  have e : md_ld W rch s p (j + 1) = if (md_ld W rch s p j).2 < md_pl W rch s p (j : Int) then ((j : Int), md_pl W rch s p (j : Int)) else md_ld W rch s p j := rfl
  rw [e, ← hm, ← hi, ← hx]
  split
  · rw [if_pos (by assumption)] at hb2 hm2
    exact ⟨hb2, hm2⟩
  · rw [if_neg (by assumption)] at hb2 hm2
    exact ⟨by rw [hb2, hb], by rw [hm2, hm]⟩
theorem md_goD {W : (Int → Int) → Int} {rch : Int} {s f f2 : Int → Int} {i : Int} (h19 : s 19 ≤ 6) (hi : i = s 19) (h : ∀ j, f j = if 1 ≤ j ∧ j < 1 + i then md_next W rch s (j - 1) else s j) (e : f2 = upI f 0 (f 0 + 1)) : f2 = md_go W rch s := by
  funext j
  rw [e]
  unfold upI md_go
  by_cases hj : j = 0
  · rw [if_pos hj, if_neg (by omega), if_pos hj, h 0, if_neg (by omega)]
  · rw [if_neg hj, if_neg hj, h j, hi]
theorem md_f19 {W : (Int → Int) → Int} {rch : Int} {s f : Int → Int} {i : Int} (h19 : i ≤ 6) (h : ∀ j, f j = if 1 ≤ j ∧ j < 1 + i then md_next W rch s (j - 1) else s j) : f 19 = s 19 ∧ f 0 = s 0 := ⟨by rw [h, if_neg (by omega)], by rw [h, if_neg (by omega)]⟩
theorem md_goU {W : (Int → Int) → Int} {rch : Int} {s f f2 : Int → Int} {i x : Int} (hi : 0 ≤ i) (hx : x = md_next W rch s i) (e : f2 = upI f (1 + i) x) (h : ∀ j, f j = if 1 ≤ j ∧ j < 1 + i then md_next W rch s (j - 1) else s j) : ∀ j, f2 j = if 1 ≤ j ∧ j < 1 + (i + 1) then md_next W rch s (j - 1) else s j := by
  intro j
  rw [e]
  by_cases hj : j = 1 + i
  · rw [hj, if_pos (by omega), upI_at, show 1 + i - 1 = i by omega, hx]
  · rw [upI_ne hj, h j]
    by_cases h2 : 1 ≤ j ∧ j < 1 + i
    · rw [if_pos h2, if_pos (by omega)]
    · rw [if_neg h2, if_neg (by omega)]
theorem md_leadD {W : (Int → Int) → Int} {rch : Int} {s : Int → Int} {p i best : Int} {j : Nat} (hi : i = (j : Int)) (h1 : i = s 19) (ha : i = 0 ∨ s (7 + p) = 0) (hb : best = (md_ld W rch s p j).1) : best = md_lead W rch s p := by
  have hj : (s 19).toNat = j := by omega
  unfold md_lead
  rw [hj, hb]
  rcases ha with h | h
  · have h0 : j = 0 := by omega
    rw [h0]
    split <;> rfl
  · rw [if_pos h]
theorem md_PC_kd {W : (Int → Int) → Int} {k1 k2 u : Int → Int} (h : ∀ z, 0 ≤ z → z < 6 → k1 z = k2 z) : md_PC W k1 u ↔ md_PC W k2 u := by
  constructor
  · intro h9 p q x d t a1 a2 a3 a4 a5 a6 a7 a8 a9 a10
    rw [← h p a1 a2]
    exact h9 p q x d t a1 a2 a3 a4 a5 a6 a7 a8 a9 a10
  · intro h9 p q x d t a1 a2 a3 a4 a5 a6 a7 a8 a9 a10
    rw [h p a1 a2]
    exact h9 p q x d t a1 a2 a3 a4 a5 a6 a7 a8 a9 a10
set_option maxHeartbeats 4000000 in
set_option maxRecDepth 100000 in
theorem k_X10_pullOf {K : gK} (m0 : Nat) (m1 : Nat) (m10 : Nat) (m11 : Nat) (m12 : Nat) (w_thrown : Value) (w_image : Value) (w_frame : Value) (w_hasImage : Value) (w_act : Value) (w_spot : Value) (w_end : Value) (w_isWrong : Value) (w_open : Value) (w_next : Value) (w_first : Value) (w_order : Value) (w_bestOrder : Value) (w_rooms : Value) (w_leastUnlike : Value) (w_bodies : Value) (w_ran : Value) (w_kind : Value) (w_number : Value) (w_tellsV : Value) (p : Int) (q : Int) (ik : Int) (s : Int → Int) (fb : Int → Int) (ft : Int → Int) (fu : Int → Int) (W : (Int → Int) → Int) (rch : Int) (r_p : rI p) (r_q : rI q) (r_ik : rI ik) (r_s : ∀ j, rI (s j)) (r_fb : ∀ j, rI (fb j)) (r_ft : rZ ft) (r_fu : ∀ j, rI (fu j)) (hp : 0 ≤ p ∧ p < 6) (hq : 0 ≤ q ∧ q < 6) (hg : md_rg s) (hT : md_TK s W rch) (hk : ik = 0 ∨ (ik = 1 ∧ md_PC W (fun z => s (26 + z)) fu)) : gMet K yX10_pullOf cX10_pullOf 4 (some .int) 2 0 0 [.ref m0, .int (iI p), .int (iI q)] [cO m0 10 [w_thrown, .ref m1, w_image, w_frame, w_hasImage, w_act, w_spot, w_end, w_isWrong, w_open, .ref m10, .ref m11, .ref m12, .int (iI ik), w_next, w_first, w_order, w_bestOrder, w_rooms, w_leastUnlike, w_bodies, w_ran, w_kind, w_number, w_tellsV], cA K m1 922 s, cA K m10 6 fb, cZ K m11 64 ft, cA K m12 36000 fu] (fun v9 w9 => ∃ (fb2 : Int → Int), ∃ (ft2 : Int → Int), ∃ (fu2 : Int → Int), v9 = some (.int (iI (md_pull W s p q))) ∧ w9 = [cO m0 10 [w_thrown, .ref m1, w_image, w_frame, w_hasImage, w_act, w_spot, w_end, w_isWrong, w_open, .ref m10, .ref m11, .ref m12, .int (iI ik), w_next, w_first, w_order, w_bestOrder, w_rooms, w_leastUnlike, w_bodies, w_ran, w_kind, w_number, w_tellsV], cA K m1 922 s, cA K m10 6 fb2, cZ K m11 64 ft2, cA K m12 36000 fu2] ∧ (∀ j, rI (fb2 j)) ∧ rZ ft2 ∧ (∀ j, rI (fu2 j)) ∧ (ik = 0 ∨ (ik = 1 ∧ md_PC W (fun z => s (26 + z)) fu2))) := by
  refine g_enter (by decide +kernel) (Nat.le_of_ble_eq_true rfl) (fun G hC hR => ?_)
  refine g_lv hC [0, 1, 2] [(0, _), (1, _), (2, _)] rfl ?_
  have hgp := hg.1 p hp.1 hp.2
  have hgq := hg.1 q hq.1 hq.2
  have hap := md_apart_rng hg hp hq
  have hg0 := hg.2.2.2
  have hpr := md_pull_rng hT hg hp hq
  refine g_aload_n (pc := 0) hC 0 dX10_pullOf_0 rfl rfl ?_
  refine g_get (pc := 1) hC 0 fl_X10_142 dX10_pullOf_1 rfl rfl ?_
  have hikr : rI ik := r_ik
  refine g_if_ne (pc := 4) hC 14 dX10_pullOf_4 (by decide) (by omega) (fun c4 => ?_) (fun c4 => ?_)
  · have hPC : md_PC W (fun z => s (26 + z)) fu := by
      rcases hk with h9 | h9
      · exact absurd h9 c4
      · exact h9.2
    have hpc : fu ((((p * 6 + q) * 10 + s (1 + q)) * 10 + md_apart s p q) * 10 + s 0 % 10) = 1000000000 ∨ fu ((((p * 6 + q) * 10 + s (1 + q)) * 10 + md_apart s p q) * 10 + s 0 % 10) = 10 - md_apart s p q + W (tk_b p q (s (26 + p)) (s (1 + q)) (md_apart s p q) (s 0 % 10)) := hPC p q (s (1 + q)) (md_apart s p q) (s 0 % 10) hp.1 hp.2 hq.1 hq.2 (by omega) (by omega) (by omega) (by omega) (by omega) (by omega)
    refine g_iload_n (pc := 14) hC 1 dX10_pullOf_14 rfl rfl ?_
    refine g_bipush (pc := 15) hC (6) dX10_pullOf_15 (by decide) ?_
    refine g_imul (pc := 17) hC dX10_pullOf_17 ?_
    refine g_iload_n (pc := 18) hC 2 dX10_pullOf_18 rfl rfl ?_
    refine g_iadd (pc := 19) hC dX10_pullOf_19 ?_
    refine g_bipush (pc := 20) hC (10) dX10_pullOf_20 (by decide) ?_
    refine g_imul (pc := 22) hC dX10_pullOf_22 ?_
    refine g_aload_n (pc := 23) hC 0 dX10_pullOf_23 rfl rfl ?_
    refine g_get (pc := 24) hC 0 fl_X10_9 dX10_pullOf_24 rfl rfl ?_
    refine g_iconst (pc := 27) hC dX10_pullOf_27 ?_
    refine g_iload_n (pc := 28) hC 2 dX10_pullOf_28 rfl rfl ?_
    refine g_iadd (pc := 29) hC dX10_pullOf_29 ?_
    refine g_iald (pc := 30) hC 1 dX10_pullOf_30 rfl (by omega) ?_
    have q1 := r_s (1 + q)
    refine g_iadd (pc := 31) hC dX10_pullOf_31 ?_
    refine g_bipush (pc := 32) hC (10) dX10_pullOf_32 (by decide) ?_
    refine g_imul (pc := 34) hC dX10_pullOf_34 ?_
    refine g_aload_n (pc := 35) hC 0 dX10_pullOf_35 rfl rfl ?_
    refine g_iload_n (pc := 36) hC 1 dX10_pullOf_36 rfl rfl ?_
    refine g_iload_n (pc := 37) hC 2 dX10_pullOf_37 rfl rfl ?_
    refine g_fnV (pc := 38) (qr := 0) hC [0, 1] (k_X10_apart _ _ _ _ _ _ _ _ _ _ _ _ _ _ _ _ _ _ _ _ _ _ _ _ _ _ _ _ _ (by first | assumption | omega) (by first | assumption | omega) (by first | assumption | omega) (by first | assumption | omega) (by first | assumption | omega) (md_rm hg)) cl_X10_apart wm_X10_134 dX10_pullOf_38 rfl rfl rfl rfl rfl (by decide) (by decide) ⟨by omega, by omega⟩ (Nat.le_of_ble_eq_true rfl) rfl rfl ?_
    refine g_iadd (pc := 41) hC dX10_pullOf_41 ?_
    refine g_bipush (pc := 42) hC (10) dX10_pullOf_42 (by decide) ?_
    refine g_imul (pc := 44) hC dX10_pullOf_44 ?_
    refine g_aload_n (pc := 45) hC 0 dX10_pullOf_45 rfl rfl ?_
    refine g_get (pc := 46) hC 0 fl_X10_9 dX10_pullOf_46 rfl rfl ?_
    refine g_iconst (pc := 49) hC dX10_pullOf_49 ?_
    refine g_iald (pc := 50) hC 1 dX10_pullOf_50 rfl (by omega) ?_
    have q3 := r_s 0
    refine g_bipush (pc := 51) hC (10) dX10_pullOf_51 (by decide) ?_
    refine g_irem (pc := 53) hC dX10_pullOf_53 (by omega) (by omega) ?_
    refine g_iadd (pc := 54) hC dX10_pullOf_54 ?_
    refine g_istore_n (pc := 55) hC [(3, _), (0, _), (1, _), (2, _)] dX10_pullOf_55 rfl (by decide) rfl ?_
    refine g_aload_n (pc := 56) hC 1 dX10_pullOf_56 rfl rfl ?_
    refine g_get (pc := 57) hC 0 fl_X10_29 dX10_pullOf_57 rfl rfl ?_
    refine g_iload_n (pc := 60) hC 0 dX10_pullOf_60 rfl rfl ?_
    refine g_iald (pc := 61) hC 4 dX10_pullOf_61 rfl (by omega) ?_
    have q4 := r_fu ((((((((p * 6) + q) * 10) + (s (1 + q))) * 10) + (md_apart s p q)) * 10) + ((s 0) % 10))
    refine g_ldc (pc := 62) hC (1000000000) wo_X10_141 (by decide) dX10_pullOf_62 ?_
    refine g_icmp_ne (pc := 64) hC 79 dX10_pullOf_64 (by decide) (by omega) (by omega) (fun c64 => ?_) (fun c64 => ?_)
    · refine g_aload_n (pc := 79) hC 1 dX10_pullOf_79 rfl rfl ?_
      refine g_get (pc := 80) hC 0 fl_X10_29 dX10_pullOf_80 rfl rfl ?_
      refine g_iload_n (pc := 83) hC 0 dX10_pullOf_83 rfl rfl ?_
      refine g_iald (pc := 84) hC 4 dX10_pullOf_84 rfl (by omega) ?_
      have q5 := r_fu ((((((((p * 6) + q) * 10) + (s (1 + q))) * 10) + (md_apart s p q)) * 10) + ((s 0) % 10))
      exact g_iret (pc := 85) hR dX10_pullOf_85 rfl ⟨by omega, by omega⟩ (Nat.le_of_ble_eq_true rfl) ⟨fb, ft, fu, ret_eq (by unfold md_pull; omega), rfl, (by first | assumption | omega), (by first | assumption | omega), (by first | assumption | omega), (Or.inr ⟨by omega, hPC⟩)⟩
    · refine g_aload_n (pc := 67) hC 1 dX10_pullOf_67 rfl rfl ?_
      refine g_get (pc := 68) hC 0 fl_X10_29 dX10_pullOf_68 rfl rfl ?_
      refine g_iload_n (pc := 71) hC 0 dX10_pullOf_71 rfl rfl ?_
      refine g_aload_n (pc := 72) hC 1 dX10_pullOf_72 rfl rfl ?_
      refine g_iload_n (pc := 73) hC 2 dX10_pullOf_73 rfl rfl ?_
      refine g_iload_n (pc := 74) hC 3 dX10_pullOf_74 rfl rfl ?_
      refine g_callV (pc := 75) (qr := 0) hC [0, 1, 2, 3] (k_X10_pullRead _ _ _ _ _ _ _ _ _ _ _ _ _ _ _ _ _ _ _ _ _ _ _ _ _ _ _ _ _ _ _ _ _ (by first | assumption | omega) (by first | assumption | omega) (by first | assumption | omega) (by first | assumption | omega) (by first | assumption | omega) (by first | assumption | omega) (by first | assumption | omega) (by first | assumption | omega) (by first | assumption | omega)) cl_X10_pullRead wm_X10_145 dX10_pullOf_75 rfl rfl rfl rfl rfl (by decide) (by decide) (by omega) (Nat.le_of_ble_eq_true rfl) rfl (fun v9 w9 hq9 => ?_)
      obtain ⟨fb6, ft7, rfl, rfl, r_fb6, r_ft7⟩ := hq9
      refine g_ws hC [cO m0 10 [w_thrown, .ref m1, w_image, w_frame, w_hasImage, w_act, w_spot, w_end, w_isWrong, w_open, .ref m10, .ref m11, .ref m12, .int (iI ik), w_next, w_first, w_order, w_bestOrder, w_rooms, w_leastUnlike, w_bodies, w_ran, w_kind, w_number, w_tellsV], cA K m1 922 s, cA K m10 6 fb6, cZ K m11 64 ft7, cA K m12 36000 fu] rfl ?_
      refine g_st hC [.int (iI (md_pull W s p q)), _, _] rfl ?_
      refine g_iast (pc := 78) hC 4 (fun f9 => [_, _, _, _, cA K _ _ f9]) dX10_pullOf_78 rfl (by omega) (fun _ => rfl) (fun g1 e_g1 => ?_)
      have r_g1 := rng_up e_g1 r_fu (by omega)
      have hPC2 := md_PC_up (W := W) (kd := fun z => s (26 + z)) hp hq hgq.1 hap (show 0 ≤ s 0 % 10 ∧ s 0 % 10 ≤ 9 by omega) e_g1 hPC
      have hg1 : g1 ((((p * 6 + q) * 10 + s (1 + q)) * 10 + md_apart s p q) * 10 + s 0 % 10) = md_pull W s p q := by rw [e_g1]; exact upI_at _ _ _
      refine g_aload_n (pc := 79) hC 1 dX10_pullOf_79 rfl rfl ?_
      refine g_get (pc := 80) hC 0 fl_X10_29 dX10_pullOf_80 rfl rfl ?_
      refine g_iload_n (pc := 83) hC 0 dX10_pullOf_83 rfl rfl ?_
      refine g_iald (pc := 84) hC 4 dX10_pullOf_84 rfl (by omega) ?_
      have q8 := r_g1 ((((((((p * 6) + q) * 10) + (s (1 + q))) * 10) + (md_apart s p q)) * 10) + ((s 0) % 10))
      exact g_iret (pc := 85) hR dX10_pullOf_85 rfl ⟨by omega, by omega⟩ (Nat.le_of_ble_eq_true rfl) ⟨fb6, ft7, g1, ret_eq hg1, rfl, (by first | assumption | omega), (by first | assumption | omega), (by first | assumption | omega), (Or.inr ⟨by omega, hPC2⟩)⟩
  · refine g_aload_n (pc := 7) hC 0 dX10_pullOf_7 rfl rfl ?_
    refine g_iload_n (pc := 8) hC 1 dX10_pullOf_8 rfl rfl ?_
    refine g_iload_n (pc := 9) hC 2 dX10_pullOf_9 rfl rfl ?_
    refine g_callV (pc := 10) (qr := 0) hC [0, 1, 2, 3] (k_X10_pullRead _ _ _ _ _ _ _ _ _ _ _ _ _ _ _ _ _ _ _ _ _ _ _ _ _ _ _ _ _ _ _ _ _ (by first | assumption | omega) (by first | assumption | omega) (by first | assumption | omega) (by first | assumption | omega) (by first | assumption | omega) (by first | assumption | omega) (by first | assumption | omega) (by first | assumption | omega) (by first | assumption | omega)) cl_X10_pullRead wm_X10_145 dX10_pullOf_10 rfl rfl rfl rfl rfl (by decide) (by decide) (by omega) (Nat.le_of_ble_eq_true rfl) rfl (fun v9 w9 hq9 => ?_)
    obtain ⟨fb9, ft10, rfl, rfl, r_fb9, r_ft10⟩ := hq9
    refine g_ws hC [cO m0 10 [w_thrown, .ref m1, w_image, w_frame, w_hasImage, w_act, w_spot, w_end, w_isWrong, w_open, .ref m10, .ref m11, .ref m12, .int (iI ik), w_next, w_first, w_order, w_bestOrder, w_rooms, w_leastUnlike, w_bodies, w_ran, w_kind, w_number, w_tellsV], cA K m1 922 s, cA K m10 6 fb9, cZ K m11 64 ft10, cA K m12 36000 fu] rfl ?_
    refine g_st hC [.int (iI (md_pull W s p q))] rfl ?_
    exact g_iret (pc := 13) hR dX10_pullOf_13 rfl ⟨by omega, by omega⟩ (Nat.le_of_ble_eq_true rfl) ⟨fb9, ft10, fu, ret_eq rfl, rfl, (by first | assumption | omega), (by first | assumption | omega), (by first | assumption | omega), (Or.inl c4)⟩
set_option maxHeartbeats 4000000 in
set_option maxRecDepth 100000 in
theorem k_X10_leaderOf {K : gK} (m0 : Nat) (m1 : Nat) (m10 : Nat) (m11 : Nat) (m12 : Nat) (w_thrown : Value) (w_image : Value) (w_frame : Value) (w_hasImage : Value) (w_act : Value) (w_spot : Value) (w_end : Value) (w_isWrong : Value) (w_open : Value) (w_next : Value) (w_first : Value) (w_order : Value) (w_bestOrder : Value) (w_rooms : Value) (w_leastUnlike : Value) (w_bodies : Value) (w_ran : Value) (w_kind : Value) (w_number : Value) (w_tellsV : Value) (p : Int) (ik : Int) (s : Int → Int) (fb : Int → Int) (ft : Int → Int) (fu : Int → Int) (W : (Int → Int) → Int) (rch : Int) (r_p : rI p) (r_ik : rI ik) (r_s : ∀ j, rI (s j)) (r_fb : ∀ j, rI (fb j)) (r_ft : rZ ft) (r_fu : ∀ j, rI (fu j)) (hp : 0 ≤ p ∧ p < 6) (hg : md_rg s) (hT : md_TK s W rch) (hk : ik = 0 ∨ (ik = 1 ∧ md_PC W (fun z => s (26 + z)) fu)) : gMet K yX10_leaderOf cX10_leaderOf 7 (some .int) 3 0 0 [.ref m0, .int (iI p)] [cO m0 10 [w_thrown, .ref m1, w_image, w_frame, w_hasImage, w_act, w_spot, w_end, w_isWrong, w_open, .ref m10, .ref m11, .ref m12, .int (iI ik), w_next, w_first, w_order, w_bestOrder, w_rooms, w_leastUnlike, w_bodies, w_ran, w_kind, w_number, w_tellsV], cA K m1 922 s, cA K m10 6 fb, cZ K m11 64 ft, cA K m12 36000 fu] (fun v9 w9 => ∃ (fb2 : Int → Int), ∃ (ft2 : Int → Int), ∃ (fu2 : Int → Int), v9 = some (.int (iI (md_lead W rch s p))) ∧ w9 = [cO m0 10 [w_thrown, .ref m1, w_image, w_frame, w_hasImage, w_act, w_spot, w_end, w_isWrong, w_open, .ref m10, .ref m11, .ref m12, .int (iI ik), w_next, w_first, w_order, w_bestOrder, w_rooms, w_leastUnlike, w_bodies, w_ran, w_kind, w_number, w_tellsV], cA K m1 922 s, cA K m10 6 fb2, cZ K m11 64 ft2, cA K m12 36000 fu2] ∧ (∀ j, rI (fb2 j)) ∧ rZ ft2 ∧ (∀ j, rI (fu2 j)) ∧ (ik = 0 ∨ (ik = 1 ∧ md_PC W (fun z => s (26 + z)) fu2))) := by
  refine g_enter (by decide +kernel) (Nat.le_of_ble_eq_true rfl) (fun G hC hR => ?_)
  refine g_lv hC [0, 1] [(0, _), (1, _)] rfl ?_
  have hgp := hg.1 p hp.1 hp.2
  have hg0 := hg.2.2.2
  have h19 := hg.2.2.1
  have h25 : -1 ≤ s 25 ∧ s 25 ≤ 4 := by rcases hT.1 with ⟨a, b, c⟩ | ⟨a, b, c⟩ <;> omega
  have hrc := hT.2.1
  refine g_bipush (pc := 0) hC (-5) dX10_leaderOf_0 (by decide) ?_
  refine g_istore_n (pc := 2) hC [(2, _), (0, _), (1, _)] dX10_leaderOf_2 rfl (by decide) rfl ?_
  refine g_iconst (pc := 3) hC dX10_leaderOf_3 ?_
  refine g_istore_n (pc := 4) hC [(3, _), (2, _), (0, _), (1, _)] dX10_leaderOf_4 rfl (by decide) rfl ?_
  refine g_iconst (pc := 5) hC dX10_leaderOf_5 ?_
  refine g_istore (pc := 6) hC [(4, _), (3, _), (2, _), (0, _), (1, _)] dX10_leaderOf_6 (by decide) rfl ?_
  have L8 : ∀ (n1 : Nat) (i : Int) (best : Int) (most : Int) (f1 : Int → Int) (f2 : Int → Int) (f3 : Int → Int) (j : Nat), (rI i) → (rI best) → (rI most) → (∀ j, rI (f1 j)) → (rZ f2) → (∀ j, rI (f3 j)) → (i = (j : Int) ∧ i ≤ s 19) → (best = (md_ld W rch s p j).1) → (most = (md_ld W rch s p j).2) → (ik = 0 ∨ (ik = 1 ∧ md_PC W (fun z => s (26 + z)) f3)) → (i = 0 ∨ s (7 + p) = 0) → s 19 - i < (n1 : Int) → G 0 0 8 [(0, .ref m0), (1, .int (iI p)), (2, .int (iI best)), (3, .int (iI most)), (4, .int (iI i))] [] [cO m0 10 [w_thrown, .ref m1, w_image, w_frame, w_hasImage, w_act, w_spot, w_end, w_isWrong, w_open, .ref m10, .ref m11, .ref m12, .int (iI ik), w_next, w_first, w_order, w_bestOrder, w_rooms, w_leastUnlike, w_bodies, w_ran, w_kind, w_number, w_tellsV], cA K m1 922 s, cA K m10 6 f1, cZ K m11 64 f2, cA K m12 36000 f3] := by
    intro n1
    induction n1 with
    | zero => intro i best most f1 f2 f3 j r_i r_best r_most r_f1 r_f2 r_f3 hi hb hm hk3 ha hm8; exfalso; omega
    | succ n1 ih8 =>
      intro i best most f1 f2 f3 j r_i r_best r_most r_f1 r_f2 r_f3 hi hb hm hk3 ha hm8
      refine g_iload (pc := 8) hC 4 dX10_leaderOf_8 rfl ?_
      refine g_aload_n (pc := 10) hC 0 dX10_leaderOf_10 rfl rfl ?_
      refine g_get (pc := 11) hC 0 fl_X10_9 dX10_leaderOf_11 rfl rfl ?_
      refine g_bipush (pc := 14) hC (19) dX10_leaderOf_14 (by decide) ?_
      refine g_iald (pc := 16) hC 1 dX10_leaderOf_16 rfl (by omega) ?_
      have q2 := r_s 19
      refine g_icmp_ge (pc := 17) hC 127 dX10_leaderOf_17 (by decide) (by omega) (by omega) (fun c17 => ?_) (fun c17 => ?_)
      · refine g_iload_n (pc := 127) hC 2 dX10_leaderOf_127 rfl rfl ?_
        exact g_iret (pc := 128) hR dX10_leaderOf_128 rfl ⟨by omega, by omega⟩ (Nat.le_of_ble_eq_true rfl) ⟨f1, f2, f3, ret_eq (md_leadD (by omega) (by omega) ha hb), rfl, (by first | assumption | omega), (by first | assumption | omega), (by first | assumption | omega), hk3⟩
      · have hgi := hg.1 i (by omega) (by omega)
        have hlr := md_ld_rng W rch s p j
        refine g_aload_n (pc := 20) hC 0 dX10_leaderOf_20 rfl rfl ?_
        refine g_get (pc := 21) hC 0 fl_X10_9 dX10_leaderOf_21 rfl rfl ?_
        refine g_bipush (pc := 24) hC (7) dX10_leaderOf_24 (by decide) ?_
        refine g_iload_n (pc := 26) hC 1 dX10_leaderOf_26 rfl rfl ?_
        refine g_iadd (pc := 27) hC dX10_leaderOf_27 ?_
        refine g_iald (pc := 28) hC 1 dX10_leaderOf_28 rfl (by omega) ?_
        have q3 := r_s (7 + p)
        refine g_if_ne (pc := 29) hC 127 dX10_leaderOf_29 (by decide) (by omega) (fun c29 => ?_) (fun c29 => ?_)
        · refine g_iload_n (pc := 127) hC 2 dX10_leaderOf_127 rfl rfl ?_
          exact g_iret (pc := 128) hR dX10_leaderOf_128 rfl ⟨by omega, by omega⟩ (Nat.le_of_ble_eq_true rfl) ⟨f1, f2, f3, ret_eq (by unfold md_lead; rw [if_neg c29, hb, show j = 0 by omega]; rfl), rfl, (by first | assumption | omega), (by first | assumption | omega), (by first | assumption | omega), hk3⟩
        · have J93 : ∀ (x : Int) (g1 : Int → Int) (g2 : Int → Int) (g3 : Int → Int), (rI x) → (∀ j, rI (g1 j)) → (rZ g2) → (∀ j, rI (g3 j)) → (x = md_pl W rch s p i) → (-1000 ≤ x ∧ x ≤ 1000) → (ik = 0 ∨ (ik = 1 ∧ md_PC W (fun z => s (26 + z)) g3)) → G 0 0 93 [(0, .ref m0), (1, .int (iI p)), (2, .int (iI best)), (3, .int (iI most)), (4, .int (iI i))] [.int (iI x)] [cO m0 10 [w_thrown, .ref m1, w_image, w_frame, w_hasImage, w_act, w_spot, w_end, w_isWrong, w_open, .ref m10, .ref m11, .ref m12, .int (iI ik), w_next, w_first, w_order, w_bestOrder, w_rooms, w_leastUnlike, w_bodies, w_ran, w_kind, w_number, w_tellsV], cA K m1 922 s, cA K m10 6 g1, cZ K m11 64 g2, cA K m12 36000 g3] := by
            intro x g1 g2 g3 r_x r_g1 r_g2 r_g3 hx hxr hk4
            refine g_istore (pc := 93) hC [(6, _), (0, _), (1, _), (2, _), (3, _), (4, _)] dX10_leaderOf_93 (by decide) rfl ?_
            refine g_iload (pc := 95) hC 0 dX10_leaderOf_95 rfl ?_
            refine g_iload_n (pc := 97) hC 4 dX10_leaderOf_97 rfl rfl ?_
            refine g_icmp_le (pc := 98) hC 106 dX10_leaderOf_98 (by decide) (by omega) (by omega) (fun c98 => ?_) (fun c98 => ?_)
            · refine g_iload_n (pc := 106) hC 3 dX10_leaderOf_106 rfl rfl ?_
              refine g_istore_n (pc := 107) hC [(2, _), (6, _), (0, _), (1, _), (3, _), (4, _)] dX10_leaderOf_107 rfl (by decide) rfl ?_
              refine g_iload (pc := 108) hC 1 dX10_leaderOf_108 rfl ?_
              refine g_iload_n (pc := 110) hC 4 dX10_leaderOf_110 rfl rfl ?_
              refine g_icmp_le (pc := 111) hC 119 dX10_leaderOf_111 (by decide) (by omega) (by omega) (fun c111 => ?_) (fun c111 => by exfalso; omega)
              refine g_iload_n (pc := 119) hC 4 dX10_leaderOf_119 rfl rfl ?_
              refine g_istore_n (pc := 120) hC [(3, _), (2, _), (6, _), (0, _), (1, _), (4, _)] dX10_leaderOf_120 rfl (by decide) rfl ?_
              refine g_iinc (pc := 121) hC 5 [(4, _), (3, _), (2, _), (6, _), (0, _), (1, _)] dX10_leaderOf_121 rfl (by decide) rfl ?_
              refine g_goto (pc := 124) hC 8 dX10_leaderOf_124 (by decide) ?_
              refine g_lv hC [4, 5, 2, 1, 0] [(0, _), (1, _), (2, _), (3, _), (4, _)] rfl ?_
              exact ih8 (i + 1) best most g1 g2 g3 (j + 1) (by first | assumption | omega) (by first | assumption | omega) (by first | assumption | omega) (by first | assumption | omega) (by first | assumption | omega) (by first | assumption | omega) (by first | assumption | omega) (md_ld_s hi.1 hx hb hm (b2 := _) (m2 := _) (by omega) rfl).1 (md_ld_s hi.1 hx hb hm (b2 := _) (m2 := _) rfl (by omega)).2 (by first | assumption | omega) (by first | assumption | omega) (by omega)
            · refine g_iload (pc := 101) hC 5 dX10_leaderOf_101 rfl ?_
              refine g_goto (pc := 103) hC 107 dX10_leaderOf_103 (by decide) ?_
              refine g_istore_n (pc := 107) hC [(2, _), (6, _), (0, _), (1, _), (3, _), (4, _)] dX10_leaderOf_107 rfl (by decide) rfl ?_
              refine g_iload (pc := 108) hC 1 dX10_leaderOf_108 rfl ?_
              refine g_iload_n (pc := 110) hC 4 dX10_leaderOf_110 rfl rfl ?_
              refine g_icmp_le (pc := 111) hC 119 dX10_leaderOf_111 (by decide) (by omega) (by omega) (fun c111 => by exfalso; omega) (fun c111 => ?_)
              refine g_iload (pc := 114) hC 1 dX10_leaderOf_114 rfl ?_
              refine g_goto (pc := 116) hC 120 dX10_leaderOf_116 (by decide) ?_
              refine g_istore_n (pc := 120) hC [(3, _), (2, _), (6, _), (0, _), (1, _), (4, _)] dX10_leaderOf_120 rfl (by decide) rfl ?_
              refine g_iinc (pc := 121) hC 5 [(4, _), (3, _), (2, _), (6, _), (0, _), (1, _)] dX10_leaderOf_121 rfl (by decide) rfl ?_
              refine g_goto (pc := 124) hC 8 dX10_leaderOf_124 (by decide) ?_
              refine g_lv hC [4, 5, 2, 1, 0] [(0, _), (1, _), (2, _), (3, _), (4, _)] rfl ?_
              exact ih8 (i + 1) i x g1 g2 g3 (j + 1) (by first | assumption | omega) (by first | assumption | omega) (by first | assumption | omega) (by first | assumption | omega) (by first | assumption | omega) (by first | assumption | omega) (by first | assumption | omega) (md_ld_s hi.1 hx hb hm (b2 := _) (m2 := _) (by omega) rfl).1 (md_ld_s hi.1 hx hb hm (b2 := _) (m2 := _) rfl (by omega)).2 (by first | assumption | omega) (by first | assumption | omega) (by omega)
          refine g_iload (pc := 32) hC 4 dX10_leaderOf_32 rfl ?_
          refine g_iload_n (pc := 34) hC 1 dX10_leaderOf_34 rfl rfl ?_
          refine g_icmp_eq (pc := 35) hC 74 dX10_leaderOf_35 (by decide) (by omega) (by omega) (fun c35 => ?_) (fun c35 => ?_)
          · refine g_iconst (pc := 74) hC dX10_leaderOf_74 ?_
            refine g_istore (pc := 75) hC [(5, _), (0, _), (1, _), (2, _), (3, _), (4, _)] dX10_leaderOf_75 (by decide) rfl ?_
            refine g_iload (pc := 77) hC 0 dX10_leaderOf_77 rfl ?_
            refine g_if_eq (pc := 79) hC 92 dX10_leaderOf_79 (by decide) (by omega) (fun c79 => ?_) (fun c79 => by exfalso; omega)
            refine g_iconst (pc := 92) hC dX10_leaderOf_92 ?_
            refine g_lv hC [1, 2, 3, 4, 5] [(0, _), (1, _), (2, _), (3, _), (4, _)] rfl ?_
            exact J93 0 f1 f2 f3 (by first | assumption | omega) (by first | assumption | omega) (by first | assumption | omega) (by first | assumption | omega) (by unfold md_pl; rw [if_pos c35]) (by first | assumption | omega) (by first | assumption | omega)
          · refine g_aload_n (pc := 38) hC 0 dX10_leaderOf_38 rfl rfl ?_
            refine g_get (pc := 39) hC 0 fl_X10_9 dX10_leaderOf_39 rfl rfl ?_
            refine g_bipush (pc := 42) hC (7) dX10_leaderOf_42 (by decide) ?_
            refine g_iload (pc := 44) hC 4 dX10_leaderOf_44 rfl ?_
            refine g_iadd (pc := 46) hC dX10_leaderOf_46 ?_
            refine g_iald (pc := 47) hC 1 dX10_leaderOf_47 rfl (by omega) ?_
            have q4 := r_s (7 + i)
            refine g_if_ne (pc := 48) hC 74 dX10_leaderOf_48 (by decide) (by omega) (fun c48 => ?_) (fun c48 => ?_)
            · refine g_iconst (pc := 74) hC dX10_leaderOf_74 ?_
              refine g_istore (pc := 75) hC [(5, _), (0, _), (1, _), (2, _), (3, _), (4, _)] dX10_leaderOf_75 (by decide) rfl ?_
              refine g_iload (pc := 77) hC 0 dX10_leaderOf_77 rfl ?_
              refine g_if_eq (pc := 79) hC 92 dX10_leaderOf_79 (by decide) (by omega) (fun c79 => ?_) (fun c79 => by exfalso; omega)
              refine g_iconst (pc := 92) hC dX10_leaderOf_92 ?_
              refine g_lv hC [1, 2, 3, 4, 5] [(0, _), (1, _), (2, _), (3, _), (4, _)] rfl ?_
              exact J93 0 f1 f2 f3 (by first | assumption | omega) (by first | assumption | omega) (by first | assumption | omega) (by first | assumption | omega) (by unfold md_pl; rw [if_neg c35, if_neg c48]) (by first | assumption | omega) (by first | assumption | omega)
            · refine g_aload_n (pc := 51) hC 0 dX10_leaderOf_51 rfl rfl ?_
              refine g_iload_n (pc := 52) hC 1 dX10_leaderOf_52 rfl rfl ?_
              refine g_iload (pc := 53) hC 4 dX10_leaderOf_53 rfl ?_
              refine g_fnV (pc := 55) (qr := 0) hC [0, 1] (k_X10_apart _ _ _ _ _ _ _ _ _ _ _ _ _ _ _ _ _ _ _ _ _ _ _ _ _ _ _ _ _ (by first | assumption | omega) (by first | assumption | omega) (by first | assumption | omega) hp (by first | assumption | omega) (md_rm hg)) cl_X10_apart wm_X10_134 dX10_leaderOf_55 rfl rfl rfl rfl rfl (by decide) (by decide) ⟨by omega, by omega⟩ (Nat.le_of_ble_eq_true rfl) rfl rfl ?_
              have hap := md_apart_rng hg hp (q := i) (by omega)
              refine g_aload_n (pc := 58) hC 0 dX10_leaderOf_58 rfl rfl ?_
              refine g_sipush (pc := 59) hC (212) dX10_leaderOf_59 (by decide) ?_
              refine g_bipush (pc := 62) hC (9) dX10_leaderOf_62 (by decide) ?_
              refine g_fnV (pc := 64) (qr := 0) hC [0, 1] (k_X10_tellsOf _ _ _ _ _ _ _ _ _ _ _ _ _ _ _ _ _ _ _ _ _ _ _ _ _ _ _ _ _ (by first | assumption | omega) (by first | assumption | omega) (by first | assumption | omega) (by first | assumption | omega) (by first | assumption | omega)) cl_X10_tellsOf wm_X10_138 dX10_leaderOf_64 rfl rfl rfl rfl rfl (by decide) (by decide) ⟨by omega, by omega⟩ (Nat.le_of_ble_eq_true rfl) rfl rfl ?_
              refine g_name hC (fun x5 e_x5 => ?_)
              rw [md_tells hT] at e_x5
              refine g_icmp_gt (pc := 67) hC 74 dX10_leaderOf_67 (by decide) (by omega) (by omega) (fun c67 => ?_) (fun c67 => ?_)
              · refine g_iconst (pc := 74) hC dX10_leaderOf_74 ?_
                refine g_istore (pc := 75) hC [(5, _), (0, _), (1, _), (2, _), (3, _), (4, _)] dX10_leaderOf_75 (by decide) rfl ?_
                refine g_iload (pc := 77) hC 0 dX10_leaderOf_77 rfl ?_
                refine g_if_eq (pc := 79) hC 92 dX10_leaderOf_79 (by decide) (by omega) (fun c79 => ?_) (fun c79 => by exfalso; omega)
                refine g_iconst (pc := 92) hC dX10_leaderOf_92 ?_
                refine g_lv hC [1, 2, 3, 4, 5] [(0, _), (1, _), (2, _), (3, _), (4, _)] rfl ?_
                exact J93 0 f1 f2 f3 (by first | assumption | omega) (by first | assumption | omega) (by first | assumption | omega) (by first | assumption | omega) (by unfold md_pl; rw [if_neg c35, if_pos c48, if_neg (by omega)]) (by first | assumption | omega) (by first | assumption | omega)
              · refine g_iconst (pc := 70) hC dX10_leaderOf_70 ?_
                refine g_goto (pc := 71) hC 75 dX10_leaderOf_71 (by decide) ?_
                refine g_istore (pc := 75) hC [(5, _), (0, _), (1, _), (2, _), (3, _), (4, _)] dX10_leaderOf_75 (by decide) rfl ?_
                refine g_iload (pc := 77) hC 0 dX10_leaderOf_77 rfl ?_
                refine g_if_eq (pc := 79) hC 92 dX10_leaderOf_79 (by decide) (by omega) (fun c79 => by exfalso; omega) (fun c79 => ?_)
                refine g_aload_n (pc := 82) hC 1 dX10_leaderOf_82 rfl rfl ?_
                refine g_iload_n (pc := 83) hC 2 dX10_leaderOf_83 rfl rfl ?_
                refine g_iload (pc := 84) hC 5 dX10_leaderOf_84 rfl ?_
                refine g_callV (pc := 86) (qr := 0) hC [0, 1, 2, 3, 4] (k_X10_pullOf _ _ _ _ _ _ _ _ _ _ _ _ _ _ _ _ _ _ _ _ _ _ _ _ _ _ _ _ _ _ _ _ _ _ (by first | assumption | omega) (by first | assumption | omega) (by first | assumption | omega) (by first | assumption | omega) (by first | assumption | omega) (by first | assumption | omega) (by first | assumption | omega) (by first | assumption | omega) (by first | assumption | omega) (by first | assumption | omega) (by first | assumption | omega) hk3) cl_X10_pullOf wm_X10_148 dX10_leaderOf_86 rfl rfl rfl rfl rfl (by decide) (by decide) (by omega) (Nat.le_of_ble_eq_true rfl) rfl (fun v9 w9 hq9 => ?_)
                obtain ⟨fb6, ft7, fu8, rfl, rfl, r_fb6, r_ft7, r_fu8, hk2_86⟩ := hq9
                refine g_ws hC [cO m0 10 [w_thrown, .ref m1, w_image, w_frame, w_hasImage, w_act, w_spot, w_end, w_isWrong, w_open, .ref m10, .ref m11, .ref m12, .int (iI ik), w_next, w_first, w_order, w_bestOrder, w_rooms, w_leastUnlike, w_bodies, w_ran, w_kind, w_number, w_tellsV], cA K m1 922 s, cA K m10 6 fb6, cZ K m11 64 ft7, cA K m12 36000 fu8] rfl ?_
                refine g_st hC [.int (iI (md_pull W s p i))] rfl ?_
                have hpr := md_pull_rng hT hg hp (q := i) (by omega)
                refine g_goto (pc := 89) hC 93 dX10_leaderOf_89 (by decide) ?_
                refine g_lv hC [1, 2, 3, 4, 5] [(0, _), (1, _), (2, _), (3, _), (4, _)] rfl ?_
                exact J93 (md_pull W s p i) fb6 ft7 fu8 (by first | assumption | omega) (by first | assumption | omega) (by first | assumption | omega) (by first | assumption | omega) (by unfold md_pl; rw [if_neg c35, if_pos c48, if_pos (by omega)]) (by first | assumption | omega) (by first | assumption | omega)
  refine g_lv hC [3, 4, 2, 1, 0] [(0, _), (1, _), (2, _), (3, _), (4, _)] rfl ?_
  exact L8 ((s 19 - 0 : Int).toNat + 1) 0 (-5) 0 fb ft fu 0 (by first | assumption | omega) (by first | assumption | omega) (by first | assumption | omega) (by first | assumption | omega) (by first | assumption | omega) (by first | assumption | omega) (by first | assumption | omega) rfl rfl (by first | assumption | omega) (by first | assumption | omega) (by omega)
set_option maxHeartbeats 4000000 in
set_option maxRecDepth 100000 in
theorem k_X10_nextOf {K : gK} (m0 : Nat) (m1 : Nat) (m10 : Nat) (m11 : Nat) (m12 : Nat) (w_thrown : Value) (w_image : Value) (w_frame : Value) (w_hasImage : Value) (w_act : Value) (w_spot : Value) (w_end : Value) (w_isWrong : Value) (w_open : Value) (w_next : Value) (w_first : Value) (w_order : Value) (w_bestOrder : Value) (w_rooms : Value) (w_leastUnlike : Value) (w_bodies : Value) (w_ran : Value) (w_kind : Value) (w_number : Value) (w_tellsV : Value) (p : Int) (ik : Int) (s : Int → Int) (fb : Int → Int) (ft : Int → Int) (fu : Int → Int) (W : (Int → Int) → Int) (rch : Int) (r_p : rI p) (r_ik : rI ik) (r_s : ∀ j, rI (s j)) (r_fb : ∀ j, rI (fb j)) (r_ft : rZ ft) (r_fu : ∀ j, rI (fu j)) (hp : 0 ≤ p ∧ p < 6) (hg : md_rg s) (hT : md_TK s W rch) (hk : ik = 0 ∨ (ik = 1 ∧ md_PC W (fun z => s (26 + z)) fu)) : gMet K yX10_nextOf cX10_nextOf 7 (some .int) 4 0 0 [.ref m0, .int (iI p)] [cO m0 10 [w_thrown, .ref m1, w_image, w_frame, w_hasImage, w_act, w_spot, w_end, w_isWrong, w_open, .ref m10, .ref m11, .ref m12, .int (iI ik), w_next, w_first, w_order, w_bestOrder, w_rooms, w_leastUnlike, w_bodies, w_ran, w_kind, w_number, w_tellsV], cA K m1 922 s, cA K m10 6 fb, cZ K m11 64 ft, cA K m12 36000 fu] (fun v9 w9 => ∃ (fb2 : Int → Int), ∃ (ft2 : Int → Int), ∃ (fu2 : Int → Int), v9 = some (.int (iI (md_next W rch s p))) ∧ w9 = [cO m0 10 [w_thrown, .ref m1, w_image, w_frame, w_hasImage, w_act, w_spot, w_end, w_isWrong, w_open, .ref m10, .ref m11, .ref m12, .int (iI ik), w_next, w_first, w_order, w_bestOrder, w_rooms, w_leastUnlike, w_bodies, w_ran, w_kind, w_number, w_tellsV], cA K m1 922 s, cA K m10 6 fb2, cZ K m11 64 ft2, cA K m12 36000 fu2] ∧ (∀ j, rI (fb2 j)) ∧ rZ ft2 ∧ (∀ j, rI (fu2 j)) ∧ (ik = 0 ∨ (ik = 1 ∧ md_PC W (fun z => s (26 + z)) fu2))) := by
  refine g_enter (by decide +kernel) (Nat.le_of_ble_eq_true rfl) (fun G hC hR => ?_)
  refine g_lv hC [0, 1] [(0, _), (1, _)] rfl ?_
  have hgp := hg.1 p hp.1 hp.2
  have hg0 := hg.2.2.2
  have h19 := hg.2.2.1
  have hlr := md_lead_rng (W := W) (rch := rch) (p := p) h19.1
  refine g_aload_n (pc := 0) hC 0 dX10_nextOf_0 rfl rfl ?_
  refine g_get (pc := 1) hC 0 fl_X10_9 dX10_nextOf_1 rfl rfl ?_
  refine g_iconst (pc := 4) hC dX10_nextOf_4 ?_
  refine g_iload_n (pc := 5) hC 1 dX10_nextOf_5 rfl rfl ?_
  refine g_iadd (pc := 6) hC dX10_nextOf_6 ?_
  refine g_iald (pc := 7) hC 1 dX10_nextOf_7 rfl (by omega) ?_
  have q1 := r_s (1 + p)
  refine g_istore_n (pc := 8) hC [(2, _), (0, _), (1, _)] dX10_nextOf_8 rfl (by decide) rfl ?_
  refine g_aload_n (pc := 9) hC 1 dX10_nextOf_9 rfl rfl ?_
  refine g_iload_n (pc := 10) hC 2 dX10_nextOf_10 rfl rfl ?_
  refine g_callV (pc := 11) (qr := 0) hC [0, 1, 2, 3, 4] (k_X10_leaderOf _ _ _ _ _ _ _ _ _ _ _ _ _ _ _ _ _ _ _ _ _ _ _ _ _ _ _ _ _ _ _ _ _ (by first | assumption | omega) (by first | assumption | omega) (by first | assumption | omega) (by first | assumption | omega) (by first | assumption | omega) (by first | assumption | omega) (by first | assumption | omega) (by first | assumption | omega) (by first | assumption | omega) (by first | assumption | omega)) cl_X10_leaderOf wm_X10_151 dX10_nextOf_11 rfl rfl rfl rfl rfl (by decide) (by decide) (by omega) (Nat.le_of_ble_eq_true rfl) rfl (fun v9 w9 hq9 => ?_)
  obtain ⟨fb2, ft3, fu4, rfl, rfl, r_fb2, r_ft3, r_fu4, hk2_11⟩ := hq9
  refine g_ws hC [cO m0 10 [w_thrown, .ref m1, w_image, w_frame, w_hasImage, w_act, w_spot, w_end, w_isWrong, w_open, .ref m10, .ref m11, .ref m12, .int (iI ik), w_next, w_first, w_order, w_bestOrder, w_rooms, w_leastUnlike, w_bodies, w_ran, w_kind, w_number, w_tellsV], cA K m1 922 s, cA K m10 6 fb2, cZ K m11 64 ft3, cA K m12 36000 fu4] rfl ?_
  refine g_st hC [.int (iI (md_lead W rch s p))] rfl ?_
  refine g_istore_n (pc := 14) hC [(3, _), (2, _), (0, _), (1, _)] dX10_nextOf_14 rfl (by decide) rfl ?_
  refine g_iload_n (pc := 15) hC 0 dX10_nextOf_15 rfl rfl ?_
  refine g_bipush (pc := 16) hC (-5) dX10_nextOf_16 (by decide) ?_
  refine g_icmp_ne (pc := 18) hC 23 dX10_nextOf_18 (by decide) (by omega) (by omega) (fun c18 => ?_) (fun c18 => ?_)
  · have hlq : 0 ≤ md_lead W rch s p ∧ md_lead W rch s p < 6 := by omega
    have hgq := hg.1 _ hlq.1 hlq.2
    refine g_aload_n (pc := 23) hC 2 dX10_nextOf_23 rfl rfl ?_
    refine g_get (pc := 24) hC 0 fl_X10_9 dX10_nextOf_24 rfl rfl ?_
    refine g_iconst (pc := 27) hC dX10_nextOf_27 ?_
    refine g_iload_n (pc := 28) hC 0 dX10_nextOf_28 rfl rfl ?_
    refine g_iadd (pc := 29) hC dX10_nextOf_29 ?_
    refine g_iald (pc := 30) hC 1 dX10_nextOf_30 rfl (by omega) ?_
    have q5 := r_s (1 + (md_lead W rch s p))
    refine g_istore (pc := 31) hC [(4, _), (3, _), (2, _), (0, _), (1, _)] dX10_nextOf_31 (by decide) rfl ?_
    have J45 : ∀ (x : Int), (rI x) → (x = if s (1 + p) < s (1 + md_lead W rch s p) then s (1 + md_lead W rch s p) else s (1 + p)) → G 0 0 45 [(0, .ref m0), (1, .int (iI p)), (2, .int (iI (s (1 + p)))), (3, .int (iI (md_lead W rch s p))), (4, .int (iI (s (1 + (md_lead W rch s p)))))] [.int (iI x)] [cO m0 10 [w_thrown, .ref m1, w_image, w_frame, w_hasImage, w_act, w_spot, w_end, w_isWrong, w_open, .ref m10, .ref m11, .ref m12, .int (iI ik), w_next, w_first, w_order, w_bestOrder, w_rooms, w_leastUnlike, w_bodies, w_ran, w_kind, w_number, w_tellsV], cA K m1 922 s, cA K m10 6 fb2, cZ K m11 64 ft3, cA K m12 36000 fu4] := by
      intro x r_x hx
      refine g_istore (pc := 45) hC [(5, _), (0, _), (1, _), (2, _), (3, _), (4, _)] dX10_nextOf_45 (by decide) rfl ?_
      have J64 : ∀ (y : Int), (rI y) → (y = if s 0 % 2 = 0 then s (1 + md_lead W rch s p) else s (1 + p)) → G 0 0 64 [(0, .ref m0), (1, .int (iI p)), (2, .int (iI (s (1 + p)))), (3, .int (iI (md_lead W rch s p))), (4, .int (iI (s (1 + (md_lead W rch s p))))), (5, .int (iI x))] [.int (iI y)] [cO m0 10 [w_thrown, .ref m1, w_image, w_frame, w_hasImage, w_act, w_spot, w_end, w_isWrong, w_open, .ref m10, .ref m11, .ref m12, .int (iI ik), w_next, w_first, w_order, w_bestOrder, w_rooms, w_leastUnlike, w_bodies, w_ran, w_kind, w_number, w_tellsV], cA K m1 922 s, cA K m10 6 fb2, cZ K m11 64 ft3, cA K m12 36000 fu4] := by
        intro y r_y hy
        refine g_istore (pc := 64) hC [(6, _), (0, _), (1, _), (2, _), (3, _), (4, _), (5, _)] dX10_nextOf_64 (by decide) rfl ?_
        refine g_aload_n (pc := 66) hC 1 dX10_nextOf_66 rfl rfl ?_
        refine g_get (pc := 67) hC 0 fl_X10_9 dX10_nextOf_67 rfl rfl ?_
        refine g_bipush (pc := 70) hC (26) dX10_nextOf_70 (by decide) ?_
        refine g_iload_n (pc := 72) hC 2 dX10_nextOf_72 rfl rfl ?_
        refine g_iadd (pc := 73) hC dX10_nextOf_73 ?_
        refine g_iald (pc := 74) hC 1 dX10_nextOf_74 rfl (by omega) ?_
        have q6 := r_s (26 + p)
        by_cases k75_1 : s (26 + p) = 1
        · refine g_tswIn (pc := 75) hC (1) (off := 37) 112 dX10_nextOf_75 k75_1 (by omega) (by decide) (by decide) ?_
          refine g_iload (pc := 112) hC 6 dX10_nextOf_112 rfl ?_
          exact g_iret (pc := 114) hR dX10_nextOf_114 rfl ⟨by omega, by omega⟩ (Nat.le_of_ble_eq_true rfl) ⟨fb2, ft3, fu4, ret_eq (by unfold md_next md_nx; rw [if_neg c18]; (repeat' split) <;> omega), rfl, (by first | assumption | omega), (by first | assumption | omega), (by first | assumption | omega), (by assumption)⟩
        by_cases k75_2 : s (26 + p) = 2
        · refine g_tswIn (pc := 75) hC (2) (off := 40) 115 dX10_nextOf_75 k75_2 (by omega) (by decide) (by decide) ?_
          refine g_iload (pc := 115) hC 0 dX10_nextOf_115 rfl ?_
          exact g_iret (pc := 117) hR dX10_nextOf_117 rfl ⟨by omega, by omega⟩ (Nat.le_of_ble_eq_true rfl) ⟨fb2, ft3, fu4, ret_eq (by unfold md_next md_nx; rw [if_neg c18]; (repeat' split) <;> omega), rfl, (by first | assumption | omega), (by first | assumption | omega), (by first | assumption | omega), (by assumption)⟩
        by_cases k75_3 : s (26 + p) = 3
        · refine g_tswIn (pc := 75) hC (3) (off := 43) 118 dX10_nextOf_75 k75_3 (by omega) (by decide) (by decide) ?_
          refine g_iload (pc := 118) hC 5 dX10_nextOf_118 rfl ?_
          refine g_iload_n (pc := 120) hC 3 dX10_nextOf_120 rfl rfl ?_
          refine g_iadd (pc := 121) hC dX10_nextOf_121 ?_
          refine g_iconst (pc := 122) hC dX10_nextOf_122 ?_
          refine g_idiv (pc := 123) hC dX10_nextOf_123 (by omega) (by omega) ?_
          exact g_iret (pc := 124) hR dX10_nextOf_124 rfl ⟨by omega, by omega⟩ (Nat.le_of_ble_eq_true rfl) ⟨fb2, ft3, fu4, ret_eq (by unfold md_next md_nx; rw [if_neg c18]; (repeat' split) <;> omega), rfl, (by first | assumption | omega), (by first | assumption | omega), (by first | assumption | omega), (by assumption)⟩
        by_cases k75_4 : s (26 + p) = 4
        · refine g_tswIn (pc := 75) hC (4) (off := 50) 125 dX10_nextOf_75 k75_4 (by omega) (by decide) (by decide) ?_
          refine g_aload_n (pc := 125) hC 1 dX10_nextOf_125 rfl rfl ?_
          refine g_get (pc := 126) hC 0 fl_X10_9 dX10_nextOf_126 rfl rfl ?_
          refine g_iconst (pc := 129) hC dX10_nextOf_129 ?_
          refine g_iald (pc := 130) hC 1 dX10_nextOf_130 rfl (by omega) ?_
          have q7 := r_s 0
          refine g_iconst (pc := 131) hC dX10_nextOf_131 ?_
          refine g_irem (pc := 132) hC dX10_nextOf_132 (by omega) (by omega) ?_
          refine g_if_ne (pc := 133) hC 150 dX10_nextOf_133 (by decide) (by omega) (fun c133 => ?_) (fun c133 => ?_)
          · refine g_iload (pc := 150) hC 6 dX10_nextOf_150 rfl ?_
            exact g_iret (pc := 152) hR dX10_nextOf_152 rfl ⟨by omega, by omega⟩ (Nat.le_of_ble_eq_true rfl) ⟨fb2, ft3, fu4, ret_eq (by unfold md_next md_nx; rw [if_neg c18]; (repeat' split) <;> omega), rfl, (by first | assumption | omega), (by first | assumption | omega), (by first | assumption | omega), (by assumption)⟩
          · refine g_iload (pc := 136) hC 6 dX10_nextOf_136 rfl ?_
            refine g_bipush (pc := 138) hC (9) dX10_nextOf_138 (by decide) ?_
            refine g_icmp_ge (pc := 140) hC 150 dX10_nextOf_140 (by decide) (by omega) (by omega) (fun c140 => ?_) (fun c140 => ?_)
            · refine g_iload (pc := 150) hC 6 dX10_nextOf_150 rfl ?_
              exact g_iret (pc := 152) hR dX10_nextOf_152 rfl ⟨by omega, by omega⟩ (Nat.le_of_ble_eq_true rfl) ⟨fb2, ft3, fu4, ret_eq (by unfold md_next md_nx; rw [if_neg c18]; (repeat' split) <;> omega), rfl, (by first | assumption | omega), (by first | assumption | omega), (by first | assumption | omega), (by assumption)⟩
            · refine g_iload (pc := 143) hC 6 dX10_nextOf_143 rfl ?_
              refine g_iconst (pc := 145) hC dX10_nextOf_145 ?_
              refine g_iadd (pc := 146) hC dX10_nextOf_146 ?_
              refine g_goto (pc := 147) hC 152 dX10_nextOf_147 (by decide) ?_
              exact g_iret (pc := 152) hR dX10_nextOf_152 rfl ⟨by omega, by omega⟩ (Nat.le_of_ble_eq_true rfl) ⟨fb2, ft3, fu4, ret_eq (by unfold md_next md_nx; rw [if_neg c18]; (repeat' split) <;> omega), rfl, (by first | assumption | omega), (by first | assumption | omega), (by first | assumption | omega), (by assumption)⟩
        by_cases k75_5 : s (26 + p) = 5
        · refine g_tswIn (pc := 75) hC (5) (off := 78) 153 dX10_nextOf_75 k75_5 (by omega) (by decide) (by decide) ?_
          refine g_aload_n (pc := 153) hC 1 dX10_nextOf_153 rfl rfl ?_
          refine g_iload_n (pc := 154) hC 2 dX10_nextOf_154 rfl rfl ?_
          refine g_iload_n (pc := 155) hC 4 dX10_nextOf_155 rfl rfl ?_
          refine g_fnV (pc := 156) (qr := 0) hC [0, 1] (k_X10_apart _ _ _ _ _ _ _ _ _ _ _ _ _ _ _ _ _ _ _ _ _ _ _ _ _ _ _ _ _ (by first | assumption | omega) (by first | assumption | omega) (by first | assumption | omega) (by first | assumption | omega) hlq (md_rm hg)) cl_X10_apart wm_X10_134 dX10_nextOf_156 rfl rfl rfl rfl rfl (by decide) (by decide) ⟨by omega, by omega⟩ (Nat.le_of_ble_eq_true rfl) rfl rfl ?_
          have hap := md_apart_rng hg hp hlq
          refine g_aload_n (pc := 159) hC 1 dX10_nextOf_159 rfl rfl ?_
          refine g_get (pc := 160) hC 0 fl_X10_9 dX10_nextOf_160 rfl rfl ?_
          refine g_bipush (pc := 163) hC (32) dX10_nextOf_163 (by decide) ?_
          refine g_iload_n (pc := 165) hC 2 dX10_nextOf_165 rfl rfl ?_
          refine g_iadd (pc := 166) hC dX10_nextOf_166 ?_
          refine g_iald (pc := 167) hC 1 dX10_nextOf_167 rfl (by omega) ?_
          have q9 := r_s (32 + p)
          refine g_icmp_le (pc := 168) hC 175 dX10_nextOf_168 (by decide) (by omega) (by omega) (fun c168 => ?_) (fun c168 => ?_)
          · refine g_iload (pc := 175) hC 0 dX10_nextOf_175 rfl ?_
            exact g_iret (pc := 177) hR dX10_nextOf_177 rfl ⟨by omega, by omega⟩ (Nat.le_of_ble_eq_true rfl) ⟨fb2, ft3, fu4, ret_eq (by unfold md_next md_nx; rw [if_neg c18]; (repeat' split) <;> omega), rfl, (by first | assumption | omega), (by first | assumption | omega), (by first | assumption | omega), (by assumption)⟩
          · refine g_iload_n (pc := 171) hC 3 dX10_nextOf_171 rfl rfl ?_
            refine g_goto (pc := 172) hC 177 dX10_nextOf_172 (by decide) ?_
            exact g_iret (pc := 177) hR dX10_nextOf_177 rfl ⟨by omega, by omega⟩ (Nat.le_of_ble_eq_true rfl) ⟨fb2, ft3, fu4, ret_eq (by unfold md_next md_nx; rw [if_neg c18]; (repeat' split) <;> omega), rfl, (by first | assumption | omega), (by first | assumption | omega), (by first | assumption | omega), (by assumption)⟩
        by_cases k75_6 : s (26 + p) = 6
        · refine g_tswIn (pc := 75) hC (6) (off := 103) 178 dX10_nextOf_75 k75_6 (by omega) (by decide) (by decide) ?_
          refine g_iload (pc := 178) hC 5 dX10_nextOf_178 rfl ?_
          refine g_iload_n (pc := 180) hC 3 dX10_nextOf_180 rfl rfl ?_
          refine g_iadd (pc := 181) hC dX10_nextOf_181 ?_
          refine g_iconst (pc := 182) hC dX10_nextOf_182 ?_
          refine g_idiv (pc := 183) hC dX10_nextOf_183 (by omega) (by omega) ?_
          refine g_aload_n (pc := 184) hC 1 dX10_nextOf_184 rfl rfl ?_
          refine g_get (pc := 185) hC 0 fl_X10_9 dX10_nextOf_185 rfl rfl ?_
          refine g_bipush (pc := 188) hC (38) dX10_nextOf_188 (by decide) ?_
          refine g_iconst (pc := 190) hC dX10_nextOf_190 ?_
          refine g_iload_n (pc := 191) hC 2 dX10_nextOf_191 rfl rfl ?_
          refine g_imul (pc := 192) hC dX10_nextOf_192 ?_
          refine g_iadd (pc := 193) hC dX10_nextOf_193 ?_
          refine g_aload_n (pc := 194) hC 1 dX10_nextOf_194 rfl rfl ?_
          refine g_get (pc := 195) hC 0 fl_X10_9 dX10_nextOf_195 rfl rfl ?_
          refine g_iconst (pc := 198) hC dX10_nextOf_198 ?_
          refine g_iald (pc := 199) hC 1 dX10_nextOf_199 rfl (by omega) ?_
          have q10 := r_s 0
          refine g_iconst (pc := 200) hC dX10_nextOf_200 ?_
          refine g_irem (pc := 201) hC dX10_nextOf_201 (by omega) (by omega) ?_
          refine g_iadd (pc := 202) hC dX10_nextOf_202 ?_
          refine g_iald (pc := 203) hC 1 dX10_nextOf_203 rfl (by omega) ?_
          have q11 := r_s ((38 + (4 * p)) + ((s 0) % 4))
          have hrw := hg.2.1 (38 + 4 * p + s 0 % 4) (by omega) (by omega)
          refine g_iadd (pc := 204) hC dX10_nextOf_204 ?_
          refine g_bipush (pc := 205) hC (10) dX10_nextOf_205 (by decide) ?_
          refine g_irem (pc := 207) hC dX10_nextOf_207 (by omega) (by omega) ?_
          exact g_iret (pc := 208) hR dX10_nextOf_208 rfl ⟨by omega, by omega⟩ (Nat.le_of_ble_eq_true rfl) ⟨fb2, ft3, fu4, ret_eq (by unfold md_next md_nx; rw [if_neg c18]; (repeat' split) <;> omega), rfl, (by first | assumption | omega), (by first | assumption | omega), (by first | assumption | omega), (by assumption)⟩
        refine g_tswOut (pc := 75) hC 209 dX10_nextOf_75 (by omega) (by omega) (by decide) ?_
        refine g_iload (pc := 209) hC 5 dX10_nextOf_209 rfl ?_
        exact g_iret (pc := 211) hR dX10_nextOf_211 rfl ⟨by omega, by omega⟩ (Nat.le_of_ble_eq_true rfl) ⟨fb2, ft3, fu4, ret_eq (by unfold md_next md_nx; rw [if_neg c18]; (repeat' split) <;> omega), rfl, (by first | assumption | omega), (by first | assumption | omega), (by first | assumption | omega), (by assumption)⟩
      refine g_aload_n (pc := 47) hC 1 dX10_nextOf_47 rfl rfl ?_
      refine g_get (pc := 48) hC 0 fl_X10_9 dX10_nextOf_48 rfl rfl ?_
      refine g_iconst (pc := 51) hC dX10_nextOf_51 ?_
      refine g_iald (pc := 52) hC 1 dX10_nextOf_52 rfl (by omega) ?_
      have q12 := r_s 0
      refine g_iconst (pc := 53) hC dX10_nextOf_53 ?_
      refine g_irem (pc := 54) hC dX10_nextOf_54 (by omega) (by omega) ?_
      refine g_if_ne (pc := 55) hC 63 dX10_nextOf_55 (by decide) (by omega) (fun c55 => ?_) (fun c55 => ?_)
      · refine g_iload_n (pc := 63) hC 3 dX10_nextOf_63 rfl rfl ?_
        refine g_lv hC [1, 2, 3, 4, 5, 0] [(0, _), (1, _), (2, _), (3, _), (4, _), (5, _)] rfl ?_
        exact J64 (s (1 + p)) (by first | assumption | omega) (by first | assumption | omega)
      · refine g_iload (pc := 58) hC 5 dX10_nextOf_58 rfl ?_
        refine g_goto (pc := 60) hC 64 dX10_nextOf_60 (by decide) ?_
        refine g_lv hC [1, 2, 3, 4, 5, 0] [(0, _), (1, _), (2, _), (3, _), (4, _), (5, _)] rfl ?_
        exact J64 (s (1 + (md_lead W rch s p))) (by first | assumption | omega) (by first | assumption | omega)
    refine g_iload (pc := 33) hC 0 dX10_nextOf_33 rfl ?_
    refine g_iload_n (pc := 35) hC 2 dX10_nextOf_35 rfl rfl ?_
    refine g_icmp_le (pc := 36) hC 44 dX10_nextOf_36 (by decide) (by omega) (by omega) (fun c36 => ?_) (fun c36 => ?_)
    · refine g_iload_n (pc := 44) hC 2 dX10_nextOf_44 rfl rfl ?_
      refine g_lv hC [3, 4, 2, 1, 0] [(0, _), (1, _), (2, _), (3, _), (4, _)] rfl ?_
      exact J45 (s (1 + p)) (by first | assumption | omega) (by first | assumption | omega)
    · refine g_iload (pc := 39) hC 0 dX10_nextOf_39 rfl ?_
      refine g_goto (pc := 41) hC 45 dX10_nextOf_41 (by decide) ?_
      refine g_lv hC [3, 4, 2, 1, 0] [(0, _), (1, _), (2, _), (3, _), (4, _)] rfl ?_
      exact J45 (s (1 + (md_lead W rch s p))) (by first | assumption | omega) (by first | assumption | omega)
  · refine g_iload_n (pc := 21) hC 1 dX10_nextOf_21 rfl rfl ?_
    exact g_iret (pc := 22) hR dX10_nextOf_22 rfl ⟨by omega, by omega⟩ (Nat.le_of_ble_eq_true rfl) ⟨fb2, ft3, fu4, ret_eq (by unfold md_next; rw [if_pos c18]), rfl, (by first | assumption | omega), (by first | assumption | omega), (by first | assumption | omega), (by assumption)⟩
set_option maxHeartbeats 4000000 in
set_option maxRecDepth 100000 in
theorem k_X10_goes {K : gK} (m0 : Nat) (m1 : Nat) (m10 : Nat) (m11 : Nat) (m12 : Nat) (m14 : Nat) (w_thrown : Value) (w_image : Value) (w_frame : Value) (w_hasImage : Value) (w_act : Value) (w_spot : Value) (w_end : Value) (w_isWrong : Value) (w_open : Value) (w_first : Value) (w_order : Value) (w_bestOrder : Value) (w_rooms : Value) (w_leastUnlike : Value) (w_bodies : Value) (w_ran : Value) (w_kind : Value) (w_number : Value) (w_tellsV : Value) (ik : Int) (s : Int → Int) (fb : Int → Int) (ft : Int → Int) (fu : Int → Int) (fn : Int → Int) (W : (Int → Int) → Int) (rch : Int) (r_ik : rI ik) (r_s : ∀ j, rI (s j)) (r_fb : ∀ j, rI (fb j)) (r_ft : rZ ft) (r_fu : ∀ j, rI (fu j)) (r_fn : ∀ j, rI (fn j)) (hg : md_rg s) (h0 : s 0 < 20000) (hT : md_TK s W rch) (hk : ik = 0 ∨ (ik = 1 ∧ md_PC W (fun z => s (26 + z)) fu)) : gMet K yX10_goes cX10_goes 2 none 5 0 0 [.ref m0] [cO m0 10 [w_thrown, .ref m1, w_image, w_frame, w_hasImage, w_act, w_spot, w_end, w_isWrong, w_open, .ref m10, .ref m11, .ref m12, .int (iI ik), .ref m14, w_first, w_order, w_bestOrder, w_rooms, w_leastUnlike, w_bodies, w_ran, w_kind, w_number, w_tellsV], cA K m1 922 s, cA K m10 6 fb, cZ K m11 64 ft, cA K m12 36000 fu, cA K m14 6 fn] (fun v9 w9 => ∃ (s2 : Int → Int), ∃ (fb2 : Int → Int), ∃ (ft2 : Int → Int), ∃ (fu2 : Int → Int), ∃ (fn2 : Int → Int), v9 = none ∧ w9 = [cO m0 10 [w_thrown, .ref m1, w_image, w_frame, w_hasImage, w_act, w_spot, w_end, w_isWrong, w_open, .ref m10, .ref m11, .ref m12, .int (iI ik), .ref m14, w_first, w_order, w_bestOrder, w_rooms, w_leastUnlike, w_bodies, w_ran, w_kind, w_number, w_tellsV], cA K m1 922 s2, cA K m10 6 fb2, cZ K m11 64 ft2, cA K m12 36000 fu2, cA K m14 6 fn2] ∧ (∀ j, rI (s2 j)) ∧ (∀ j, rI (fb2 j)) ∧ rZ ft2 ∧ (∀ j, rI (fu2 j)) ∧ (∀ j, rI (fn2 j)) ∧ (s2 = md_go W rch s) ∧ (ik = 0 ∨ (ik = 1 ∧ md_PC W (fun z => s (26 + z)) fu2))) := by
  refine g_enter (by decide +kernel) (Nat.le_of_ble_eq_true rfl) (fun G hC hR => ?_)
  refine g_lv hC [0] [(0, _)] rfl ?_
  have hg0 := hg.2.2.2
  have h19 := hg.2.2.1
  refine g_iconst (pc := 0) hC dX10_goes_0 ?_
  refine g_istore_n (pc := 1) hC [(1, _), (0, _)] dX10_goes_1 rfl (by decide) rfl ?_
  have L2 : ∀ (n1 : Nat) (i : Int) (f1 : Int → Int) (f2 : Int → Int) (f3 : Int → Int) (f4 : Int → Int), (rI i) → (∀ j, rI (f1 j)) → (rZ f2) → (∀ j, rI (f3 j)) → (∀ j, rI (f4 j)) → (0 ≤ i ∧ i ≤ s 19) → (∀ j, 0 ≤ j → j < i → f4 j = md_next W rch s j) → (ik = 0 ∨ (ik = 1 ∧ md_PC W (fun z => s (26 + z)) f3)) → s 19 - i < (n1 : Int) → G 0 0 2 [(0, .ref m0), (1, .int (iI i))] [] [cO m0 10 [w_thrown, .ref m1, w_image, w_frame, w_hasImage, w_act, w_spot, w_end, w_isWrong, w_open, .ref m10, .ref m11, .ref m12, .int (iI ik), .ref m14, w_first, w_order, w_bestOrder, w_rooms, w_leastUnlike, w_bodies, w_ran, w_kind, w_number, w_tellsV], cA K m1 922 s, cA K m10 6 f1, cZ K m11 64 f2, cA K m12 36000 f3, cA K m14 6 f4] := by
    intro n1
    induction n1 with
    | zero => intro i f1 f2 f3 f4 r_i r_f1 r_f2 r_f3 r_f4 hi hn hk3 hm2; exfalso; omega
    | succ n1 ih2 =>
      intro i f1 f2 f3 f4 r_i r_f1 r_f2 r_f3 r_f4 hi hn hk3 hm2
      refine g_iload_n (pc := 2) hC 1 dX10_goes_2 rfl rfl ?_
      refine g_aload_n (pc := 3) hC 0 dX10_goes_3 rfl rfl ?_
      refine g_get (pc := 4) hC 0 fl_X10_9 dX10_goes_4 rfl rfl ?_
      refine g_bipush (pc := 7) hC (19) dX10_goes_7 (by decide) ?_
      refine g_iald (pc := 9) hC 1 dX10_goes_9 rfl (by omega) ?_
      have q2 := r_s 19
      refine g_icmp_ge (pc := 10) hC 30 dX10_goes_10 (by decide) (by omega) (by omega) (fun c10 => ?_) (fun c10 => ?_)
      · refine g_iconst (pc := 30) hC dX10_goes_30 ?_
        refine g_istore_n (pc := 31) hC [(1, _), (0, _)] dX10_goes_31 rfl (by decide) rfl ?_
        have L32 : ∀ (n3 : Nat) (i2 : Int) (t : Int → Int), (rI i2) → (∀ j, rI (t j)) → (0 ≤ i2 ∧ i2 ≤ s 19) → (∀ j, t j = if 1 ≤ j ∧ j < 1 + i2 then md_next W rch s (j - 1) else s j) → s 19 - i2 < (n3 : Int) → G 0 0 32 [(0, .ref m0), (1, .int (iI i2))] [] [cO m0 10 [w_thrown, .ref m1, w_image, w_frame, w_hasImage, w_act, w_spot, w_end, w_isWrong, w_open, .ref m10, .ref m11, .ref m12, .int (iI ik), .ref m14, w_first, w_order, w_bestOrder, w_rooms, w_leastUnlike, w_bodies, w_ran, w_kind, w_number, w_tellsV], cA K m1 922 t, cA K m10 6 f1, cZ K m11 64 f2, cA K m12 36000 f3, cA K m14 6 f4] := by
          intro n3
          induction n3 with
          | zero => intro i2 t r_i2 r_t hi2 ht hm32; exfalso; omega
          | succ n3 ih32 =>
            intro i2 t r_i2 r_t hi2 ht hm32
            have ht9 := md_f19 (by omega) ht
            refine g_iload_n (pc := 32) hC 1 dX10_goes_32 rfl rfl ?_
            refine g_aload_n (pc := 33) hC 0 dX10_goes_33 rfl rfl ?_
            refine g_get (pc := 34) hC 0 fl_X10_9 dX10_goes_34 rfl rfl ?_
            refine g_bipush (pc := 37) hC (19) dX10_goes_37 (by decide) ?_
            refine g_iald (pc := 39) hC 1 dX10_goes_39 rfl (by omega) ?_
            have q4 := r_t 19
            refine g_icmp_ge (pc := 40) hC 63 dX10_goes_40 (by decide) (by omega) (by omega) (fun c40 => ?_) (fun c40 => ?_)
            · refine g_aload_n (pc := 63) hC 0 dX10_goes_63 rfl rfl ?_
              refine g_get (pc := 64) hC 0 fl_X10_9 dX10_goes_64 rfl rfl ?_
              refine g_iconst (pc := 67) hC dX10_goes_67 ?_
              refine g_dup2 (pc := 68) hC dX10_goes_68 rfl rfl ?_
              refine g_iald (pc := 69) hC 1 dX10_goes_69 rfl (by omega) ?_
              have q5 := r_t 0
              refine g_iconst (pc := 70) hC dX10_goes_70 ?_
              refine g_iadd (pc := 71) hC dX10_goes_71 ?_
              refine g_iast (pc := 72) hC 1 (fun f9 => [_, cA K _ _ f9, _, _, _, _]) dX10_goes_72 rfl (by omega) (fun _ => rfl) (fun t3 e_t3 => ?_)
              have r_t3 := rng_up e_t3 r_t (by omega)
              exact g_vret (pc := 73) hR dX10_goes_73 rfl ⟨by omega, by omega⟩ (Nat.le_of_ble_eq_true rfl) ⟨t3, f1, f2, f3, f4, rfl, rfl, (by first | assumption | omega), (by first | assumption | omega), (by first | assumption | omega), (by first | assumption | omega), (by first | assumption | omega), (md_goD (i := i2) h19.2 (by omega) ht e_t3), hk3⟩
            · refine g_aload_n (pc := 43) hC 0 dX10_goes_43 rfl rfl ?_
              refine g_get (pc := 44) hC 0 fl_X10_9 dX10_goes_44 rfl rfl ?_
              refine g_iconst (pc := 47) hC dX10_goes_47 ?_
              refine g_iload_n (pc := 48) hC 1 dX10_goes_48 rfl rfl ?_
              refine g_iadd (pc := 49) hC dX10_goes_49 ?_
              refine g_aload_n (pc := 50) hC 0 dX10_goes_50 rfl rfl ?_
              refine g_get (pc := 51) hC 0 fl_X10_32 dX10_goes_51 rfl rfl ?_
              refine g_iload_n (pc := 54) hC 1 dX10_goes_54 rfl rfl ?_
              refine g_iald (pc := 55) hC 5 dX10_goes_55 rfl (by omega) ?_
              have q6 := r_f4 i2
              refine g_iast (pc := 56) hC 1 (fun f9 => [_, cA K _ _ f9, _, _, _, _]) dX10_goes_56 rfl (by omega) (fun _ => rfl) (fun t2 e_t2 => ?_)
              have r_t2 := rng_up e_t2 r_t (by omega)
              refine g_iinc (pc := 57) hC 1 [(1, _), (0, _)] dX10_goes_57 rfl (by decide) rfl ?_
              refine g_goto (pc := 60) hC 32 dX10_goes_60 (by decide) ?_
              refine g_lv hC [1, 0] [(0, _), (1, _)] rfl ?_
              exact ih32 (i2 + 1) t2 (by first | assumption | omega) (by first | assumption | omega) (by first | assumption | omega) (md_goU hi2.1 (hn i2 hi2.1 (by omega)) e_t2 ht) (by omega)
        refine g_lv hC [1, 0] [(0, _), (1, _)] rfl ?_
        exact L32 ((s 19 - 0 : Int).toNat + 1) 0 s (by first | assumption | omega) (by first | assumption | omega) (by first | assumption | omega) (fun j => by rw [if_neg (by omega)]) (by omega)
      · refine g_aload_n (pc := 13) hC 0 dX10_goes_13 rfl rfl ?_
        refine g_get (pc := 14) hC 0 fl_X10_32 dX10_goes_14 rfl rfl ?_
        refine g_iload_n (pc := 17) hC 1 dX10_goes_17 rfl rfl ?_
        refine g_aload_n (pc := 18) hC 0 dX10_goes_18 rfl rfl ?_
        refine g_iload_n (pc := 19) hC 1 dX10_goes_19 rfl rfl ?_
        refine g_callV (pc := 20) (qr := 0) hC [0, 1, 2, 3, 4] (k_X10_nextOf _ _ _ _ _ _ _ _ _ _ _ _ _ _ _ _ _ _ _ _ _ _ _ _ _ _ _ _ _ _ _ _ _ (by first | assumption | omega) (by first | assumption | omega) (by first | assumption | omega) (by first | assumption | omega) (by first | assumption | omega) (by first | assumption | omega) (by first | assumption | omega) (by first | assumption | omega) (by first | assumption | omega) hk3) cl_X10_nextOf wm_X10_162 dX10_goes_20 rfl rfl rfl rfl rfl (by decide) (by decide) (by omega) (Nat.le_of_ble_eq_true rfl) rfl (fun v9 w9 hq9 => ?_)
        obtain ⟨fb7, ft8, fu9, rfl, rfl, r_fb7, r_ft8, r_fu9, hk2_20⟩ := hq9
        refine g_ws hC [cO m0 10 [w_thrown, .ref m1, w_image, w_frame, w_hasImage, w_act, w_spot, w_end, w_isWrong, w_open, .ref m10, .ref m11, .ref m12, .int (iI ik), .ref m14, w_first, w_order, w_bestOrder, w_rooms, w_leastUnlike, w_bodies, w_ran, w_kind, w_number, w_tellsV], cA K m1 922 s, cA K m10 6 fb7, cZ K m11 64 ft8, cA K m12 36000 fu9, cA K m14 6 f4] rfl ?_
        refine g_st hC [.int (iI (md_next W rch s i)), _, _] rfl ?_
        have hnr := md_next_rng (W := W) (rch := rch) hg (p := i) (by omega)
        refine g_iast (pc := 23) hC 5 (fun f9 => [_, _, _, _, _, cA K _ _ f9]) dX10_goes_23 rfl (by omega) (fun _ => rfl) (fun g4 e_g4 => ?_)
        have r_g4 := rng_up e_g4 r_f4 (by omega)
        refine g_iinc (pc := 24) hC 1 [(1, _), (0, _)] dX10_goes_24 rfl (by decide) rfl ?_
        refine g_goto (pc := 27) hC 2 dX10_goes_27 (by decide) ?_
        refine g_lv hC [1, 0] [(0, _), (1, _)] rfl ?_
        exact ih2 (i + 1) fb7 ft8 fu9 g4 (by first | assumption | omega) (by first | assumption | omega) (by first | assumption | omega) (by first | assumption | omega) (by first | assumption | omega) (by first | assumption | omega) (up_lt e_g4 hn) (by first | assumption | omega) (by omega)
  refine g_lv hC [1, 0] [(0, _), (1, _)] rfl ?_
  exact L2 ((s 19 - 0 : Int).toNat + 1) 0 fb ft fu fn (by first | assumption | omega) (by first | assumption | omega) (by first | assumption | omega) (by first | assumption | omega) (by first | assumption | omega) (by first | assumption | omega) (fun j h1 h2 => by omega) (by first | assumption | omega) (by omega)
set_option maxHeartbeats 4000000 in
set_option maxRecDepth 100000 in
theorem k_X10_goesOn {K : gK} (m0 : Nat) (m1 : Nat) (m10 : Nat) (m11 : Nat) (m12 : Nat) (m14 : Nat) (w_thrown : Value) (w_image : Value) (w_frame : Value) (w_hasImage : Value) (w_act : Value) (w_spot : Value) (w_end : Value) (w_isWrong : Value) (w_open : Value) (w_first : Value) (w_order : Value) (w_bestOrder : Value) (w_rooms : Value) (w_leastUnlike : Value) (w_bodies : Value) (w_ran : Value) (w_kind : Value) (w_number : Value) (w_tellsV : Value) (n : Int) (ik : Int) (s : Int → Int) (fb : Int → Int) (ft : Int → Int) (fu : Int → Int) (fn : Int → Int) (W : (Int → Int) → Int) (rch : Int) (r_n : rI n) (r_ik : rI ik) (r_s : ∀ j, rI (s j)) (r_fb : ∀ j, rI (fb j)) (r_ft : rZ ft) (r_fu : ∀ j, rI (fu j)) (r_fn : ∀ j, rI (fn j)) (hn : 0 ≤ n ∧ n ≤ 100) (hg : md_rg s) (h0 : s 0 + n ≤ 20000) (hT : md_TK s W rch) (hk : ik = 0 ∨ (ik = 1 ∧ md_PC W (fun z => s (26 + z)) fu)) : gMet K yX10_goesOn cX10_goesOn 3 none 6 0 0 [.ref m0, .int (iI n)] [cO m0 10 [w_thrown, .ref m1, w_image, w_frame, w_hasImage, w_act, w_spot, w_end, w_isWrong, w_open, .ref m10, .ref m11, .ref m12, .int (iI ik), .ref m14, w_first, w_order, w_bestOrder, w_rooms, w_leastUnlike, w_bodies, w_ran, w_kind, w_number, w_tellsV], cA K m1 922 s, cA K m10 6 fb, cZ K m11 64 ft, cA K m12 36000 fu, cA K m14 6 fn] (fun v9 w9 => ∃ (s2 : Int → Int), ∃ (fb2 : Int → Int), ∃ (ft2 : Int → Int), ∃ (fu2 : Int → Int), ∃ (fn2 : Int → Int), v9 = none ∧ w9 = [cO m0 10 [w_thrown, .ref m1, w_image, w_frame, w_hasImage, w_act, w_spot, w_end, w_isWrong, w_open, .ref m10, .ref m11, .ref m12, .int (iI ik), .ref m14, w_first, w_order, w_bestOrder, w_rooms, w_leastUnlike, w_bodies, w_ran, w_kind, w_number, w_tellsV], cA K m1 922 s2, cA K m10 6 fb2, cZ K m11 64 ft2, cA K m12 36000 fu2, cA K m14 6 fn2] ∧ (∀ j, rI (s2 j)) ∧ (∀ j, rI (fb2 j)) ∧ rZ ft2 ∧ (∀ j, rI (fu2 j)) ∧ (∀ j, rI (fn2 j)) ∧ (s2 = md_goN W rch s n.toNat) ∧ (ik = 0 ∨ (ik = 1 ∧ md_PC W (fun z => s (26 + z)) fu2))) := by
  refine g_enter (by decide +kernel) (Nat.le_of_ble_eq_true rfl) (fun G hC hR => ?_)
  refine g_lv hC [0, 1] [(0, _), (1, _)] rfl ?_
  have hg0 := hg.2.2.2
  have h19 := hg.2.2.1
  refine g_iconst (pc := 0) hC dX10_goesOn_0 ?_
  refine g_istore_n (pc := 1) hC [(2, _), (0, _), (1, _)] dX10_goesOn_1 rfl (by decide) rfl ?_
  have L2 : ∀ (n1 : Nat) (i : Int) (f0 : Int → Int) (f1 : Int → Int) (f2 : Int → Int) (f3 : Int → Int) (f4 : Int → Int) (j : Nat), (rI i) → (∀ j, rI (f0 j)) → (∀ j, rI (f1 j)) → (rZ f2) → (∀ j, rI (f3 j)) → (∀ j, rI (f4 j)) → (i = (j : Int) ∧ i ≤ n) → (f0 = md_goN W rch s j) → (ik = 0 ∨ (ik = 1 ∧ md_PC W (fun z => s (26 + z)) f3)) → n - i < (n1 : Int) → G 0 0 2 [(0, .ref m0), (1, .int (iI n)), (2, .int (iI i))] [] [cO m0 10 [w_thrown, .ref m1, w_image, w_frame, w_hasImage, w_act, w_spot, w_end, w_isWrong, w_open, .ref m10, .ref m11, .ref m12, .int (iI ik), .ref m14, w_first, w_order, w_bestOrder, w_rooms, w_leastUnlike, w_bodies, w_ran, w_kind, w_number, w_tellsV], cA K m1 922 f0, cA K m10 6 f1, cZ K m11 64 f2, cA K m12 36000 f3, cA K m14 6 f4] := by
    intro n1
    induction n1 with
    | zero => intro i f0 f1 f2 f3 f4 j r_i r_f0 r_f1 r_f2 r_f3 r_f4 hi hf hk3 hm2; exfalso; omega
    | succ n1 ih2 =>
      intro i f0 f1 f2 f3 f4 j r_i r_f0 r_f1 r_f2 r_f3 r_f4 hi hf hk3 hm2
      refine g_iload_n (pc := 2) hC 2 dX10_goesOn_2 rfl rfl ?_
      refine g_iload_n (pc := 3) hC 1 dX10_goesOn_3 rfl rfl ?_
      refine g_icmp_ge (pc := 4) hC 17 dX10_goesOn_4 (by decide) (by omega) (by omega) (fun c4 => ?_) (fun c4 => ?_)
      · exact g_vret (pc := 17) hR dX10_goesOn_17 rfl ⟨by omega, by omega⟩ (Nat.le_of_ble_eq_true rfl) ⟨f0, f1, f2, f3, f4, rfl, rfl, (by first | assumption | omega), (by first | assumption | omega), (by first | assumption | omega), (by first | assumption | omega), (by first | assumption | omega), (by rw [hf, show n.toNat = j by omega]), hk3⟩
      · refine g_aload_n (pc := 7) hC 0 dX10_goesOn_7 rfl rfl ?_
        have hgj : md_rg f0 := by rw [hf]; exact md_goN_rg hg j (by omega)
        have hTj : md_TK f0 W rch := by rw [hf]; exact md_TK_same (fun z hz => md_goN_hi h19.2 (by omega) j) hT
        have hkj : ∀ u : Int → Int, md_PC W (fun z => f0 (26 + z)) u ↔ md_PC W (fun z => s (26 + z)) u := by
          intro u
          exact md_PC_kd (fun z hz hz2 => by rw [hf]; exact md_goN_hi h19.2 (by omega) j)
        refine g_callV (pc := 8) (qr := 0) hC [0, 1, 2, 3, 4, 5] (k_X10_goes _ _ _ _ _ _ _ _ _ _ _ _ _ _ _ _ _ _ _ _ _ _ _ _ _ _ _ _ _ _ _ _ _ (by first | assumption | omega) (by first | assumption | omega) (by first | assumption | omega) (by first | assumption | omega) (by first | assumption | omega) (by first | assumption | omega) hgj (by rw [hf, md_goN_0]; omega) hTj (by rw [hkj]; exact hk3)) cl_X10_goes wm_X10_175 dX10_goesOn_8 rfl rfl rfl rfl rfl (by decide) (by decide) (by omega) (Nat.le_of_ble_eq_true rfl) rfl (fun v9 w9 hq9 => ?_)
        obtain ⟨s2, fb3, ft4, fu5, fn6, rfl, rfl, r_s2, r_fb3, r_ft4, r_fu5, r_fn6, hs_8, hk2_8⟩ := hq9
        refine g_ws hC [cO m0 10 [w_thrown, .ref m1, w_image, w_frame, w_hasImage, w_act, w_spot, w_end, w_isWrong, w_open, .ref m10, .ref m11, .ref m12, .int (iI ik), .ref m14, w_first, w_order, w_bestOrder, w_rooms, w_leastUnlike, w_bodies, w_ran, w_kind, w_number, w_tellsV], cA K m1 922 s2, cA K m10 6 fb3, cZ K m11 64 ft4, cA K m12 36000 fu5, cA K m14 6 fn6] rfl ?_
        refine g_st hC [] rfl ?_
        refine g_iinc (pc := 11) hC 2 [(2, _), (0, _), (1, _)] dX10_goesOn_11 rfl (by decide) rfl ?_
        refine g_goto (pc := 14) hC 2 dX10_goesOn_14 (by decide) ?_
        refine g_lv hC [1, 2, 0] [(0, _), (1, _), (2, _)] rfl ?_
        exact ih2 (i + 1) s2 fb3 ft4 fu5 fn6 (j + 1) (by first | assumption | omega) (by first | assumption | omega) (by first | assumption | omega) (by first | assumption | omega) (by first | assumption | omega) (by first | assumption | omega) (by first | assumption | omega) (by rw [hs_8, hf]; rfl) (by rw [hkj] at hk2_8; exact hk2_8) (by omega)
  refine g_lv hC [1, 2, 0] [(0, _), (1, _), (2, _)] rfl ?_
  exact L2 ((n - 0 : Int).toNat + 1) 0 s fb ft fu fn 0 (by first | assumption | omega) (by first | assumption | omega) (by first | assumption | omega) (by first | assumption | omega) (by first | assumption | omega) (by first | assumption | omega) (by first | assumption | omega) rfl (by first | assumption | omega) (by omega)
