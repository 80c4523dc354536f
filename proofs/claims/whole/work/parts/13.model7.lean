theorem md_low_rng {up low part : Int} (hu : 0 ≤ up ∧ up ≤ 1000) (hl : 1 ≤ low ∧ low ≤ 1000) : 0 ≤ md_low up low part ∧ md_low up low part ≤ 1000 := by
  have hG0 : 1 ≤ Nat.gcd up.toNat low.toNat := Nat.gcd_pos_of_pos_right _ (by omega)
  unfold md_low
  have h1 : 0 ≤ (if part = 0 then up else low) ∧ (if part = 0 then up else low) ≤ 1000 := by split <;> omega
  have h2 := Int.ediv_nonneg h1.1 (show (0 : Int) ≤ ((Nat.gcd up.toNat low.toNat : Nat) : Int) by omega)
  have h3 := Int.ediv_le_self ((Nat.gcd up.toNat low.toNat : Nat) : Int) h1.1
  omega
theorem md_lk_rng (s : Int → Int) : ∀ n : Nat, md_lk s n = -5 ∨ (0 ≤ md_lk s n ∧ md_lk s n < (n : Int))
  | 0 => Or.inl rfl
  | n + 1 => by
    have ih := md_lk_rng s n
    unfold md_lk
    (repeat' split) <;> omega
theorem ac_un_01 (kd k : Int) : ac_un kd k = 0 ∨ ac_un kd k = 1 := by
  unfold ac_un
  split <;> omega
theorem cp_all {s im f : Int → Int} {i : Int} (hi : 922 ≤ i) (hs : md_cano s) (hm : md_cano im) (h : ∀ j, f j = if 0 ≤ j ∧ j < i then s j else im j) (hc : ∀ j, 922 ≤ j → f j = im j) : f = s := by
  funext j
  by_cases hj : j < 0 ∨ 922 ≤ j
  · rw [hs j hj]
    rcases hj with h1 | h1
    · rw [h j, if_neg (by omega)]; exact hm j (by omega)
    · rw [hc j h1]; exact hm j (by omega)
  · rw [h j, if_pos (by omega)]
theorem md_lkD {s : Int → Int} {i : Int} {j : Nat} (hi : i = (j : Int)) (hj : i < s 23) (hx : md_lk s j = -5) (hc : ¬ s (1 + s (96 + i)) = s (104 + i)) : i = an_looked s := by
  have e : md_lk s (j + 1) = i := by
    unfold md_lk
    rw [if_pos hx, ← hi, if_neg hc]
  have h := md_lk_st (s := s) (n := j + 1) (by rw [e]; omega) ((s 23).toNat - (j + 1))
  unfold an_looked
  rw [show (s 23).toNat = j + 1 + ((s 23).toNat - (j + 1)) by omega, h, e]
set_option maxHeartbeats 4000000 in
set_option maxRecDepth 100000 in
theorem k_X10_odds {K : gK} (m0 : Nat) (m1 : Nat) (m3 : Nat) (m10 : Nat) (m11 : Nat) (m12 : Nat) (m14 : Nat) (w_thrown : Value) (w_image : Value) (w_hasImage : Value) (w_act : Value) (w_spot : Value) (w_end : Value) (w_isWrong : Value) (w_open : Value) (w_first : Value) (w_order : Value) (w_bestOrder : Value) (w_rooms : Value) (w_leastUnlike : Value) (w_bodies : Value) (w_ran : Value) (w_kind : Value) (w_number : Value) (w_tellsV : Value) (p : Int) (q : Int) (x : Int) (n : Int) (part : Int) (ik : Int) (s : Int → Int) (fr : Int → Int) (fb : Int → Int) (ft : Int → Int) (fu : Int → Int) (fn : Int → Int) (W : (Int → Int) → Int) (rch : Int) (r_p : rI p) (r_q : rI q) (r_x : rI x) (r_n : rI n) (r_part : rI part) (r_ik : rI ik) (r_s : ∀ j, rI (s j)) (r_fr : ∀ j, rI (fr j)) (r_fb : ∀ j, rI (fb j)) (r_ft : rZ ft) (r_fu : ∀ j, rI (fu j)) (r_fn : ∀ j, rI (fn j)) (hg : md_rg s) (h0 : s 0 + 61 ≤ 20000) (hT : md_TK s W rch) (hik : ik = 0) : gMet K yX10_odds cX10_odds 8 (some .long) 7 0 0 [.ref m0, .int (iI p), .int (iI q), .int (iI x), .int (iI n), .int (iI part)] [cO m0 10 [w_thrown, .ref m1, w_image, .ref m3, w_hasImage, w_act, w_spot, w_end, w_isWrong, w_open, .ref m10, .ref m11, .ref m12, .int (iI ik), .ref m14, w_first, w_order, w_bestOrder, w_rooms, w_leastUnlike, w_bodies, w_ran, w_kind, w_number, w_tellsV], cA K m1 922 s, cA K m3 19 fr, cA K m10 6 fb, cZ K m11 64 ft, cA K m12 36000 fu, cA K m14 6 fn] (fun v9 w9 => ∃ (fr2 : Int → Int), ∃ (fb2 : Int → Int), ∃ (ft2 : Int → Int), ∃ (fu2 : Int → Int), ∃ (fn2 : Int → Int), ∃ (ik2 : Int), v9 = some (.long (iL (an_odds W rch s p q x n part))) ∧ w9 = [cO m0 10 [w_thrown, .ref m1, w_image, .ref m3, w_hasImage, w_act, w_spot, w_end, w_isWrong, w_open, .ref m10, .ref m11, .ref m12, .int (iI ik2), .ref m14, w_first, w_order, w_bestOrder, w_rooms, w_leastUnlike, w_bodies, w_ran, w_kind, w_number, w_tellsV], cA K m1 922 s, cA K m3 19 fr2, cA K m10 6 fb2, cZ K m11 64 ft2, cA K m12 36000 fu2, cA K m14 6 fn2] ∧ (∀ j, rI (fr2 j)) ∧ (∀ j, rI (fb2 j)) ∧ rZ ft2 ∧ (∀ j, rI (fu2 j)) ∧ (∀ j, rI (fn2 j)) ∧ rI ik2 ∧ (ik2 = 0)) := by
  refine g_enter (by decide +kernel) (Nat.le_of_ble_eq_true rfl) (fun G hC hR => ?_)
  refine g_lv hC [0, 1, 2, 3, 4, 5] [(0, _), (1, _), (2, _), (3, _), (4, _), (5, _)] rfl ?_
  have hg0 := hg.2.2.2
  have h19 := hg.2.2.1
  refine g_aload_n (pc := 0) hC 0 dX10_odds_0 rfl rfl ?_
  refine g_iload_n (pc := 1) hC 1 dX10_odds_1 rfl rfl ?_
  refine g_fnV (pc := 2) (qr := 0) hC [0, 1] (k_X10_isMan _ _ _ _ _ _ _ _ _ _ _ _ _ _ _ _ _ _ _ _ _ _ _ _ _ _ _ _ (by first | assumption | omega) (by first | assumption | omega) (by first | assumption | omega)) cl_X10_isMan wm_X10_159 dX10_odds_2 rfl rfl rfl rfl rfl (by decide) (by decide) ⟨by omega, by omega⟩ (Nat.le_of_ble_eq_true rfl) rfl rfl ?_
  refine g_name hC (fun x1 e_x1 => ?_)
  refine g_if_eq (pc := 5) hC 44 dX10_odds_5 (by decide) (by omega) (fun c5 => ?_) (fun c5 => ?_)
  · refine g_ldc2 (pc := 44) hC (-9223372036854775808) wo_X10_220 (by decide) dX10_odds_44 ?_
    exact g_lret (pc := 47) hR dX10_odds_47 rfl ⟨by omega, by omega⟩ (Nat.le_of_ble_eq_true rfl) ⟨fr, fb, ft, fu, fn, ik, ret_eqL (by unfold an_odds; rw [if_neg (by omega)]), rfl, (by first | assumption | omega), (by first | assumption | omega), (by first | assumption | omega), (by first | assumption | omega), (by first | assumption | omega), (by first | assumption | omega), (by first | assumption | omega)⟩
  · refine g_aload_n (pc := 8) hC 0 dX10_odds_8 rfl rfl ?_
    refine g_iload_n (pc := 9) hC 2 dX10_odds_9 rfl rfl ?_
    refine g_fnV (pc := 10) (qr := 0) hC [0, 1] (k_X10_isMan _ _ _ _ _ _ _ _ _ _ _ _ _ _ _ _ _ _ _ _ _ _ _ _ _ _ _ _ (by first | assumption | omega) (by first | assumption | omega) (by first | assumption | omega)) cl_X10_isMan wm_X10_159 dX10_odds_10 rfl rfl rfl rfl rfl (by decide) (by decide) ⟨by omega, by omega⟩ (Nat.le_of_ble_eq_true rfl) rfl rfl ?_
    refine g_name hC (fun x2 e_x2 => ?_)
    refine g_if_eq (pc := 13) hC 44 dX10_odds_13 (by decide) (by omega) (fun c13 => ?_) (fun c13 => ?_)
    · refine g_ldc2 (pc := 44) hC (-9223372036854775808) wo_X10_220 (by decide) dX10_odds_44 ?_
      exact g_lret (pc := 47) hR dX10_odds_47 rfl ⟨by omega, by omega⟩ (Nat.le_of_ble_eq_true rfl) ⟨fr, fb, ft, fu, fn, ik, ret_eqL (by unfold an_odds; rw [if_neg (by omega)]), rfl, (by first | assumption | omega), (by first | assumption | omega), (by first | assumption | omega), (by first | assumption | omega), (by first | assumption | omega), (by first | assumption | omega), (by first | assumption | omega)⟩
    · refine g_iload_n (pc := 16) hC 3 dX10_odds_16 rfl rfl ?_
      refine g_fnS (pc := 17) hC [] (k_X10_isDigit _ (by first | assumption | omega)) cl_X10_isDigit wm_X10_155 dX10_odds_17 rfl rfl (by decide) (by decide) ⟨by omega, by omega⟩ (Nat.le_of_ble_eq_true rfl) rfl rfl ?_
      refine g_name hC (fun x3 e_x3 => ?_)
      refine g_if_eq (pc := 20) hC 44 dX10_odds_20 (by decide) (by omega) (fun c20 => ?_) (fun c20 => ?_)
      · refine g_ldc2 (pc := 44) hC (-9223372036854775808) wo_X10_220 (by decide) dX10_odds_44 ?_
        exact g_lret (pc := 47) hR dX10_odds_47 rfl ⟨by omega, by omega⟩ (Nat.le_of_ble_eq_true rfl) ⟨fr, fb, ft, fu, fn, ik, ret_eqL (by unfold an_odds; rw [if_neg (by omega)]), rfl, (by first | assumption | omega), (by first | assumption | omega), (by first | assumption | omega), (by first | assumption | omega), (by first | assumption | omega), (by first | assumption | omega), (by first | assumption | omega)⟩
      · refine g_iload (pc := 23) hC 4 dX10_odds_23 rfl ?_
        refine g_iconst (pc := 25) hC dX10_odds_25 ?_
        refine g_bipush (pc := 26) hC (60) dX10_odds_26 (by decide) ?_
        refine g_fnS (pc := 28) hC [] (k_X10_in _ _ _ (by first | assumption | omega) (by first | assumption | omega) (by first | assumption | omega)) cl_X10_in wm_X10_54 dX10_odds_28 rfl rfl (by decide) (by decide) ⟨by omega, by omega⟩ (Nat.le_of_ble_eq_true rfl) rfl rfl ?_
        refine g_name hC (fun x4 e_x4 => ?_)
        refine g_if_eq (pc := 31) hC 44 dX10_odds_31 (by decide) (by omega) (fun c31 => ?_) (fun c31 => ?_)
        · refine g_ldc2 (pc := 44) hC (-9223372036854775808) wo_X10_220 (by decide) dX10_odds_44 ?_
          exact g_lret (pc := 47) hR dX10_odds_47 rfl ⟨by omega, by omega⟩ (Nat.le_of_ble_eq_true rfl) ⟨fr, fb, ft, fu, fn, ik, ret_eqL (by unfold an_odds; rw [if_neg (by omega)]), rfl, (by first | assumption | omega), (by first | assumption | omega), (by first | assumption | omega), (by first | assumption | omega), (by first | assumption | omega), (by first | assumption | omega), (by first | assumption | omega)⟩
        · refine g_iload (pc := 34) hC 5 dX10_odds_34 rfl ?_
          refine g_iconst (pc := 36) hC dX10_odds_36 ?_
          refine g_iconst (pc := 37) hC dX10_odds_37 ?_
          refine g_fnS (pc := 38) hC [] (k_X10_in _ _ _ (by first | assumption | omega) (by first | assumption | omega) (by first | assumption | omega)) cl_X10_in wm_X10_54 dX10_odds_38 rfl rfl (by decide) (by decide) ⟨by omega, by omega⟩ (Nat.le_of_ble_eq_true rfl) rfl rfl ?_
          refine g_name hC (fun x5 e_x5 => ?_)
          refine g_if_ne (pc := 41) hC 48 dX10_odds_41 (by decide) (by omega) (fun c41 => ?_) (fun c41 => ?_)
          · refine g_aload_n (pc := 48) hC 0 dX10_odds_48 rfl rfl ?_
            refine g_callV (pc := 49) (qr := 0) hC [0, 5] (k_X10_begins _ _ _ _ _ _ _ _ _ _ _ _ _ _ _ _ _ _ _ _ _ _ _ _ _ _ _ (by first | assumption | omega)) cl_X10_begins wm_X10_190 dX10_odds_49 rfl rfl rfl rfl rfl (by decide) (by decide) (by omega) (Nat.le_of_ble_eq_true rfl) rfl (fun v9 w9 hq9 => ?_)
            obtain ⟨fu1, rfl, rfl, r_fu1, hkb⟩ := hq9
            refine g_ws hC [cO m0 10 [w_thrown, .ref m1, w_image, .ref m3, w_hasImage, w_act, w_spot, w_end, w_isWrong, w_open, .ref m10, .ref m11, .ref m12, .int (iI 1), .ref m14, w_first, w_order, w_bestOrder, w_rooms, w_leastUnlike, w_bodies, w_ran, w_kind, w_number, w_tellsV], cA K m1 922 s, cA K m3 19 fr, cA K m10 6 fb, cZ K m11 64 ft, cA K m12 36000 fu1, cA K m14 6 fn] rfl ?_
            refine g_st hC [] rfl ?_
            have hk3 : md_PC W (fun z => s (26 + z)) fu1 := md_PC0 hkb
            refine g_iconst (pc := 52) hC dX10_odds_52 ?_
            refine g_istore (pc := 53) hC [(6, _), (0, _), (1, _), (2, _), (3, _), (4, _), (5, _)] dX10_odds_53 (by decide) rfl ?_
            refine g_iconst (pc := 55) hC dX10_odds_55 ?_
            refine g_istore (pc := 56) hC [(7, _), (6, _), (0, _), (1, _), (2, _), (3, _), (4, _), (5, _)] dX10_odds_56 (by decide) rfl ?_
            have L58 : ∀ (n6 : Nat) (i : Int) (y : Int) (g : Int → Int) (f1 : Int → Int) (f2 : Int → Int) (f3 : Int → Int) (f4 : Int → Int) (j : Nat), (rI i) → (rI y) → (∀ j, rI (g j)) → (∀ j, rI (f1 j)) → (rZ f2) → (∀ j, rI (f3 j)) → (∀ j, rI (f4 j)) → (i = (j : Int)) → (i ≤ 10) → (y = md_up W rch s p q x n.toNat j) → (md_PC W (fun z => s (26 + z)) f3) → 10 - i < (n6 : Int) → G 0 0 58 [(0, .ref m0), (1, .int (iI p)), (2, .int (iI q)), (3, .int (iI x)), (4, .int (iI n)), (5, .int (iI part)), (6, .int (iI y)), (7, .int (iI i))] [] [cO m0 10 [w_thrown, .ref m1, w_image, .ref m3, w_hasImage, w_act, w_spot, w_end, w_isWrong, w_open, .ref m10, .ref m11, .ref m12, .int (iI 1), .ref m14, w_first, w_order, w_bestOrder, w_rooms, w_leastUnlike, w_bodies, w_ran, w_kind, w_number, w_tellsV], cA K m1 922 s, cA K m3 19 g, cA K m10 6 f1, cZ K m11 64 f2, cA K m12 36000 f3, cA K m14 6 f4] := by
              intro n6
              induction n6 with
              | zero => intro i y g f1 f2 f3 f4 j r_i r_y r_g r_f1 r_f2 r_f3 r_f4 hi hj hy hk4 hm58; exfalso; omega
              | succ n6 ih58 =>
                intro i y g f1 f2 f3 f4 j r_i r_y r_g r_f1 r_f2 r_f3 r_f4 hi hj hy hk4 hm58
                have hur := md_up_rng W rch s p q x n.toNat j
                refine g_iload (pc := 58) hC 7 dX10_odds_58 rfl ?_
                refine g_bipush (pc := 60) hC (10) dX10_odds_60 (by decide) ?_
                refine g_icmp_ge (pc := 62) hC 117 dX10_odds_62 (by decide) (by omega) (by omega) (fun c62 => ?_) (fun c62 => ?_)
                · refine g_aload_n (pc := 117) hC 0 dX10_odds_117 rfl rfl ?_
                  refine g_iload (pc := 118) hC 6 dX10_odds_118 rfl ?_
                  refine g_callV (pc := 120) (qr := 0) hC [0] (k_X10_ends _ _ _ _ _ _ _ _ _ _ _ _ _ _ _ _ _ _ _ _ _ _ _ _ _ _ _ (by first | assumption | omega)) cl_X10_ends wm_X10_197 dX10_odds_120 rfl rfl rfl rfl rfl (by decide) (by decide) (by omega) (Nat.le_of_ble_eq_true rfl) rfl (fun v9 w9 hq9 => ?_)
                  obtain ⟨rfl, rfl⟩ := hq9
                  refine g_ws hC [cO m0 10 [w_thrown, .ref m1, w_image, .ref m3, w_hasImage, w_act, w_spot, w_end, w_isWrong, w_open, .ref m10, .ref m11, .ref m12, .int (iI 0), .ref m14, w_first, w_order, w_bestOrder, w_rooms, w_leastUnlike, w_bodies, w_ran, w_kind, w_number, w_tellsV], cA K m1 922 s, cA K m3 19 g, cA K m10 6 f1, cZ K m11 64 f2, cA K m12 36000 f3, cA K m14 6 f4] rfl ?_
                  refine g_st hC [.int (iI y)] rfl ?_
                  refine g_i2l (pc := 123) hC dX10_odds_123 (by omega) ?_
                  refine g_ldc2 (pc := 124) hC (10) wo_X10_222 (by decide) dX10_odds_124 ?_
                  refine g_iload (pc := 127) hC 5 dX10_odds_127 rfl ?_
                  refine g_callS (pc := 129) hC [] (k_X10_lowest _ _ _ (by first | assumption | omega) (by first | assumption | omega) (by first | assumption | omega)) cl_X10_lowest wm_X10_224 dX10_odds_129 rfl rfl (by decide) (by decide) (by omega) (Nat.le_of_ble_eq_true rfl) rfl (fun v9 w9 hq9 => ?_)
                  obtain ⟨rfl, rfl⟩ := hq9
                  refine g_ws hC [cO m0 10 [w_thrown, .ref m1, w_image, .ref m3, w_hasImage, w_act, w_spot, w_end, w_isWrong, w_open, .ref m10, .ref m11, .ref m12, .int (iI 0), .ref m14, w_first, w_order, w_bestOrder, w_rooms, w_leastUnlike, w_bodies, w_ran, w_kind, w_number, w_tellsV], cA K m1 922 s, cA K m3 19 g, cA K m10 6 f1, cZ K m11 64 f2, cA K m12 36000 f3, cA K m14 6 f4] rfl ?_
                  refine g_st hC [.long (iL (md_low y 10 part))] rfl ?_
                  exact g_lret (pc := 132) hR dX10_odds_132 rfl ⟨by omega, by omega⟩ (Nat.le_of_ble_eq_true rfl) ⟨g, f1, f2, f3, f4, 0, ret_eqL (by unfold an_odds; rw [if_pos (by omega), hy, show j = 10 by omega]), rfl, (by first | assumption | omega), (by first | assumption | omega), (by first | assumption | omega), (by first | assumption | omega), (by first | assumption | omega), (by first | assumption | omega), (by first | assumption | omega)⟩
                · refine g_aload_n (pc := 65) hC 0 dX10_odds_65 rfl rfl ?_
                  refine g_callV (pc := 66) (qr := 0) hC [0, 1, 2] (k_X10_keeps _ _ _ _ _ _ _ _ _ _ _ _ _ _ _ _ _ _ _ _ _ _ _ _ _ _ _ _ (by first | assumption | omega) (by first | assumption | omega)) cl_X10_keeps wm_X10_169 dX10_odds_66 rfl rfl rfl rfl rfl (by decide) (by decide) (by omega) (Nat.le_of_ble_eq_true rfl) rfl (fun v9 w9 hq9 => ?_)
                  obtain ⟨g1, rfl, rfl, r_g1, hkp⟩ := hq9
                  refine g_ws hC [cO m0 10 [w_thrown, .ref m1, w_image, .ref m3, w_hasImage, w_act, w_spot, w_end, w_isWrong, w_open, .ref m10, .ref m11, .ref m12, .int (iI 1), .ref m14, w_first, w_order, w_bestOrder, w_rooms, w_leastUnlike, w_bodies, w_ran, w_kind, w_number, w_tellsV], cA K m1 922 s, cA K m3 19 g1, cA K m10 6 f1, cZ K m11 64 f2, cA K m12 36000 f3, cA K m14 6 f4] rfl ?_
                  refine g_st hC [] rfl ?_
                  refine g_aload_n (pc := 69) hC 0 dX10_odds_69 rfl rfl ?_
                  refine g_get (pc := 70) hC 0 fl_X10_9 dX10_odds_70 rfl rfl ?_
                  refine g_iconst (pc := 73) hC dX10_odds_73 ?_
                  refine g_iload_n (pc := 74) hC 1 dX10_odds_74 rfl rfl ?_
                  refine g_iadd (pc := 75) hC dX10_odds_75 ?_
                  refine g_iload (pc := 76) hC 7 dX10_odds_76 rfl ?_
                  refine g_iast (pc := 78) hC 1 (fun f9 => [_, cA K _ _ f9, _, _, _, _, _]) dX10_odds_78 rfl (by omega) (fun _ => rfl) (fun t1 e_t1 => ?_)
                  have r_t1 := rng_up e_t1 r_s (by omega)
                  have htr := md_try hg hT e_t1 (by omega) (by omega)
                  refine g_aload_n (pc := 79) hC 0 dX10_odds_79 rfl rfl ?_
                  refine g_iload (pc := 80) hC 4 dX10_odds_80 rfl ?_
                  refine g_callV (pc := 82) (qr := 0) hC [0, 1, 3, 4, 5, 6] (k_X10_goesOn _ _ _ _ _ _ _ _ _ _ _ _ _ _ _ _ _ _ _ _ _ _ _ _ _ _ _ _ _ _ _ _ _ _ (by first | assumption | omega) (by first | assumption | omega) (by first | assumption | omega) (by first | assumption | omega) (by first | assumption | omega) (by first | assumption | omega) (by first | assumption | omega) (by first | assumption | omega) htr.1 (by rw [htr.2.2.1]; omega) htr.2.1 (Or.inr ⟨rfl, (htr.2.2.2.2 _).mpr hk4⟩)) cl_X10_goesOn wm_X10_187 dX10_odds_82 rfl rfl rfl rfl rfl (by decide) (by decide) (by omega) (Nat.le_of_ble_eq_true rfl) rfl (fun v9 w9 hq9 => ?_)
                  obtain ⟨t2, fb7, ft8, fu9, fn10, rfl, rfl, r_t2, r_fb7, r_ft8, r_fu9, r_fn10, hs_82, hk2_82⟩ := hq9
                  refine g_ws hC [cO m0 10 [w_thrown, .ref m1, w_image, .ref m3, w_hasImage, w_act, w_spot, w_end, w_isWrong, w_open, .ref m10, .ref m11, .ref m12, .int (iI 1), .ref m14, w_first, w_order, w_bestOrder, w_rooms, w_leastUnlike, w_bodies, w_ran, w_kind, w_number, w_tellsV], cA K m1 922 t2, cA K m3 19 g1, cA K m10 6 fb7, cZ K m11 64 ft8, cA K m12 36000 fu9, cA K m14 6 fn10] rfl ?_
                  refine g_st hC [] rfl ?_
                  have hout := md_tells_out h19.2 (by omega) e_t1 hs_82
                  have hs9 : t2 = md_goN W rch (upI s (1 + p) i) n.toNat := by rw [hs_82, e_t1]
                  refine g_iload (pc := 85) hC 6 dX10_odds_85 rfl ?_
                  refine g_aload_n (pc := 87) hC 0 dX10_odds_87 rfl rfl ?_
                  refine g_get (pc := 88) hC 0 fl_X10_9 dX10_odds_88 rfl rfl ?_
                  refine g_iconst (pc := 91) hC dX10_odds_91 ?_
                  refine g_iload_n (pc := 92) hC 2 dX10_odds_92 rfl rfl ?_
                  refine g_iadd (pc := 93) hC dX10_odds_93 ?_
                  refine g_iald (pc := 94) hC 1 dX10_odds_94 rfl (by omega) ?_
                  have q11 := r_t2 (1 + q)
                  refine g_iload_n (pc := 95) hC 3 dX10_odds_95 rfl rfl ?_
                  refine g_icmp_ne (pc := 96) hC 103 dX10_odds_96 (by decide) (by omega) (by omega) (fun c96 => ?_) (fun c96 => ?_)
                  · refine g_iconst (pc := 103) hC dX10_odds_103 ?_
                    refine g_iadd (pc := 104) hC dX10_odds_104 ?_
                    refine g_istore (pc := 105) hC [(6, _), (0, _), (1, _), (2, _), (3, _), (4, _), (5, _), (7, _)] dX10_odds_105 (by decide) rfl ?_
                    refine g_aload_n (pc := 107) hC 1 dX10_odds_107 rfl rfl ?_
                    refine g_callV (pc := 108) (qr := 0) hC [0, 1, 2] (k_X10_goesBack _ _ _ _ _ _ _ _ _ _ _ _ _ _ _ _ _ _ _ _ _ _ _ _ _ _ _ _ (by first | assumption | omega) (by first | assumption | omega)) cl_X10_goesBack wm_X10_178 dX10_odds_108 rfl rfl rfl rfl rfl (by decide) (by decide) (by omega) (Nat.le_of_ble_eq_true rfl) rfl (fun v9 w9 hq9 => ?_)
                    obtain ⟨t3, rfl, rfl, r_t3, hb_108⟩ := hq9
                    refine g_ws hC [cO m0 10 [w_thrown, .ref m1, w_image, .ref m3, w_hasImage, w_act, w_spot, w_end, w_isWrong, w_open, .ref m10, .ref m11, .ref m12, .int (iI 1), .ref m14, w_first, w_order, w_bestOrder, w_rooms, w_leastUnlike, w_bodies, w_ran, w_kind, w_number, w_tellsV], cA K m1 922 t3, cA K m3 19 g1, cA K m10 6 fb7, cZ K m11 64 ft8, cA K m12 36000 fu9, cA K m14 6 fn10] rfl ?_
                    refine g_st hC [] rfl ?_
                    rw [show (t3 : Int → Int) = s from (md_back hkp hout.1 hb_108)]
                    refine g_iinc (pc := 111) hC 7 [(7, _), (6, _), (0, _), (1, _), (2, _), (3, _), (4, _), (5, _)] dX10_odds_111 rfl (by decide) rfl ?_
                    refine g_goto (pc := 114) hC 58 dX10_odds_114 (by decide) ?_
                    refine g_lv hC [2, 3, 4, 5, 6, 7, 1, 0] [(0, _), (1, _), (2, _), (3, _), (4, _), (5, _), (6, _), (7, _)] rfl ?_
                    exact ih58 (i + 1) (y + 0) g1 fb7 ft8 fu9 fn10 (j + 1) (by first | assumption | omega) (by first | assumption | omega) (by first | assumption | omega) (by first | assumption | omega) (by first | assumption | omega) (by first | assumption | omega) (by first | assumption | omega) (by first | assumption | omega) (by first | assumption | omega) (md_up_s hi hs9 hy (by rw [if_neg c96])) ((htr.2.2.2.2 _).mp (hk2_82.resolve_left (by decide)).2) (by omega)
                  · refine g_iconst (pc := 99) hC dX10_odds_99 ?_
                    refine g_goto (pc := 100) hC 104 dX10_odds_100 (by decide) ?_
                    refine g_iadd (pc := 104) hC dX10_odds_104 ?_
                    refine g_istore (pc := 105) hC [(6, _), (0, _), (1, _), (2, _), (3, _), (4, _), (5, _), (7, _)] dX10_odds_105 (by decide) rfl ?_
                    refine g_aload_n (pc := 107) hC 1 dX10_odds_107 rfl rfl ?_
                    refine g_callV (pc := 108) (qr := 0) hC [0, 1, 2] (k_X10_goesBack _ _ _ _ _ _ _ _ _ _ _ _ _ _ _ _ _ _ _ _ _ _ _ _ _ _ _ _ (by first | assumption | omega) (by first | assumption | omega)) cl_X10_goesBack wm_X10_178 dX10_odds_108 rfl rfl rfl rfl rfl (by decide) (by decide) (by omega) (Nat.le_of_ble_eq_true rfl) rfl (fun v9 w9 hq9 => ?_)
                    obtain ⟨t3, rfl, rfl, r_t3, hb_108⟩ := hq9
                    refine g_ws hC [cO m0 10 [w_thrown, .ref m1, w_image, .ref m3, w_hasImage, w_act, w_spot, w_end, w_isWrong, w_open, .ref m10, .ref m11, .ref m12, .int (iI 1), .ref m14, w_first, w_order, w_bestOrder, w_rooms, w_leastUnlike, w_bodies, w_ran, w_kind, w_number, w_tellsV], cA K m1 922 t3, cA K m3 19 g1, cA K m10 6 fb7, cZ K m11 64 ft8, cA K m12 36000 fu9, cA K m14 6 fn10] rfl ?_
                    refine g_st hC [] rfl ?_
                    rw [show (t3 : Int → Int) = s from (md_back hkp hout.1 hb_108)]
                    refine g_iinc (pc := 111) hC 7 [(7, _), (6, _), (0, _), (1, _), (2, _), (3, _), (4, _), (5, _)] dX10_odds_111 rfl (by decide) rfl ?_
                    refine g_goto (pc := 114) hC 58 dX10_odds_114 (by decide) ?_
                    refine g_lv hC [2, 3, 4, 5, 6, 7, 1, 0] [(0, _), (1, _), (2, _), (3, _), (4, _), (5, _), (6, _), (7, _)] rfl ?_
                    exact ih58 (i + 1) (y + 1) g1 fb7 ft8 fu9 fn10 (j + 1) (by first | assumption | omega) (by first | assumption | omega) (by first | assumption | omega) (by first | assumption | omega) (by first | assumption | omega) (by first | assumption | omega) (by first | assumption | omega) (by first | assumption | omega) (by first | assumption | omega) (md_up_s hi hs9 hy (by rw [if_pos c96])) ((htr.2.2.2.2 _).mp (hk2_82.resolve_left (by decide)).2) (by omega)
            refine g_lv hC [2, 3, 4, 5, 6, 7, 1, 0] [(0, _), (1, _), (2, _), (3, _), (4, _), (5, _), (6, _), (7, _)] rfl ?_
            exact L58 ((10 - 0 : Int).toNat + 1) 0 0 fr fb ft fu1 fn 0 (by first | assumption | omega) (by first | assumption | omega) (by first | assumption | omega) (by first | assumption | omega) (by first | assumption | omega) (by first | assumption | omega) (by first | assumption | omega) (by first | assumption | omega) (by first | assumption | omega) rfl (by first | assumption | omega) (by omega)
          · refine g_ldc2 (pc := 44) hC (-9223372036854775808) wo_X10_220 (by decide) dX10_odds_44 ?_
            exact g_lret (pc := 47) hR dX10_odds_47 rfl ⟨by omega, by omega⟩ (Nat.le_of_ble_eq_true rfl) ⟨fr, fb, ft, fu, fn, ik, ret_eqL (by unfold an_odds; rw [if_neg (by omega)]), rfl, (by first | assumption | omega), (by first | assumption | omega), (by first | assumption | omega), (by first | assumption | omega), (by first | assumption | omega), (by first | assumption | omega), (by first | assumption | omega)⟩
set_option maxHeartbeats 4000000 in
set_option maxRecDepth 100000 in
theorem k_X10_mean {K : gK} (m0 : Nat) (m1 : Nat) (w_thrown : Value) (w_image : Value) (w_frame : Value) (w_hasImage : Value) (w_act : Value) (w_spot : Value) (w_end : Value) (w_isWrong : Value) (w_open : Value) (w_by : Value) (w_truths : Value) (w_pulls : Value) (w_isKeeping : Value) (w_next : Value) (w_first : Value) (w_order : Value) (w_bestOrder : Value) (w_rooms : Value) (w_leastUnlike : Value) (w_bodies : Value) (w_ran : Value) (w_kind : Value) (w_number : Value) (w_tellsV : Value) (part : Int) (s : Int → Int) (r_part : rI part) (r_s : ∀ j, rI (s j)) (hg : md_rg s) : gMet K yX10_mean cX10_mean 7 (some .long) 1 0 0 [.ref m0, .int (iI part)] [cO m0 10 [w_thrown, .ref m1, w_image, w_frame, w_hasImage, w_act, w_spot, w_end, w_isWrong, w_open, w_by, w_truths, w_pulls, w_isKeeping, w_next, w_first, w_order, w_bestOrder, w_rooms, w_leastUnlike, w_bodies, w_ran, w_kind, w_number, w_tellsV], cA K m1 922 s] (fun v9 w9 => v9 = some (.long (iL (an_mean s part))) ∧ w9 = [cO m0 10 [w_thrown, .ref m1, w_image, w_frame, w_hasImage, w_act, w_spot, w_end, w_isWrong, w_open, w_by, w_truths, w_pulls, w_isKeeping, w_next, w_first, w_order, w_bestOrder, w_rooms, w_leastUnlike, w_bodies, w_ran, w_kind, w_number, w_tellsV], cA K m1 922 s]) := by
  refine g_enter (by decide +kernel) (Nat.le_of_ble_eq_true rfl) (fun G hC hR => ?_)
  refine g_lv hC [0, 1] [(0, _), (1, _)] rfl ?_
  have hg0 := hg.2.2.2
  have h19 := hg.2.2.1
  refine g_lconst (pc := 0) hC (0) dX10_mean_0 (by decide) ?_
  refine g_lstore_n (pc := 1) hC [(2, _), (0, _), (1, _)] dX10_mean_1 rfl (by decide) rfl ?_
  refine g_lconst (pc := 2) hC (0) dX10_mean_2 (by decide) ?_
  refine g_lstore (pc := 3) hC [(4, _), (2, _), (0, _), (1, _)] dX10_mean_3 (by decide) rfl ?_
  refine g_iconst (pc := 5) hC dX10_mean_5 ?_
  refine g_istore (pc := 6) hC [(6, _), (4, _), (2, _), (0, _), (1, _)] dX10_mean_6 (by decide) rfl ?_
  have L8 : ∀ (n1 : Nat) (i : Int) (a : Int) (b : Int) (j : Nat), (rI i) → (rI a) → (rI b) → (i = (j : Int)) → (i ≤ s 19) → (a = (md_sm s j).1) → (b = (md_sm s j).2) → s 19 - i < (n1 : Int) → G 0 0 8 [(0, .ref m0), (1, .int (iI part)), (2, .long (iL a)), (4, .long (iL b)), (6, .int (iI i))] [] [cO m0 10 [w_thrown, .ref m1, w_image, w_frame, w_hasImage, w_act, w_spot, w_end, w_isWrong, w_open, w_by, w_truths, w_pulls, w_isKeeping, w_next, w_first, w_order, w_bestOrder, w_rooms, w_leastUnlike, w_bodies, w_ran, w_kind, w_number, w_tellsV], cA K m1 922 s] := by
    intro n1
    induction n1 with
    | zero => intro i a b j r_i r_a r_b hi hj ha hb hm8; exfalso; omega
    | succ n1 ih8 =>
      intro i a b j r_i r_a r_b hi hj ha hb hm8
      have hsm := md_sm_rng hg j (by omega)
      refine g_iload (pc := 8) hC 4 dX10_mean_8 rfl ?_
      refine g_aload_n (pc := 10) hC 0 dX10_mean_10 rfl rfl ?_
      refine g_get (pc := 11) hC 0 fl_X10_9 dX10_mean_11 rfl rfl ?_
      refine g_bipush (pc := 14) hC (19) dX10_mean_14 (by decide) ?_
      refine g_iald (pc := 16) hC 1 dX10_mean_16 rfl (by omega) ?_
      have q2 := r_s 19
      refine g_icmp_ge (pc := 17) hC 79 dX10_mean_17 (by decide) (by omega) (by omega) (fun c17 => ?_) (fun c17 => ?_)
      · have hj9 : (s 19).toNat = j := by omega
        refine g_iload_n (pc := 79) hC 1 dX10_mean_79 rfl rfl ?_
        refine g_iconst (pc := 80) hC dX10_mean_80 ?_
        refine g_iconst (pc := 81) hC dX10_mean_81 ?_
        refine g_fnS (pc := 82) hC [] (k_X10_in _ _ _ (by first | assumption | omega) (by first | assumption | omega) (by first | assumption | omega)) cl_X10_in wm_X10_54 dX10_mean_82 rfl rfl (by decide) (by decide) ⟨by omega, by omega⟩ (Nat.le_of_ble_eq_true rfl) rfl rfl ?_
        refine g_name hC (fun x3 e_x3 => ?_)
        refine g_if_eq (pc := 85) hC 95 dX10_mean_85 (by decide) (by omega) (fun c85 => ?_) (fun c85 => ?_)
        · refine g_ldc2 (pc := 95) hC (-9223372036854775808) wo_X10_220 (by decide) dX10_mean_95 ?_
          refine g_goto (pc := 98) hC 108 dX10_mean_98 (by decide) ?_
          exact g_lret (pc := 108) hR dX10_mean_108 rfl ⟨by omega, by omega⟩ (Nat.le_of_ble_eq_true rfl) ⟨ret_eqL (by unfold an_mean; rw [hj9, ← hb, if_neg (by omega)]), rfl⟩
        · refine g_lload (pc := 88) hC 3 dX10_mean_88 rfl ?_
          refine g_lconst (pc := 90) hC (0) dX10_mean_90 (by decide) ?_
          refine g_lcmp (pc := 91) hC dX10_mean_91 (by omega) (by omega) ?_
          refine g_if_ne (pc := 92) hC 101 dX10_mean_92 (by decide) (by omega) (fun c92 => ?_) (fun c92 => ?_)
          · refine g_lload_n (pc := 101) hC 2 dX10_mean_101 rfl rfl ?_
            refine g_lload (pc := 102) hC 3 dX10_mean_102 rfl ?_
            refine g_iload_n (pc := 104) hC 1 dX10_mean_104 rfl rfl ?_
            refine g_callS (pc := 105) hC [] (k_X10_lowest _ _ _ (by first | assumption | omega) (by first | assumption | omega) (by first | assumption | omega)) cl_X10_lowest wm_X10_224 dX10_mean_105 rfl rfl (by decide) (by decide) (by omega) (Nat.le_of_ble_eq_true rfl) rfl (fun v9 w9 hq9 => ?_)
            obtain ⟨rfl, rfl⟩ := hq9
            refine g_ws hC [cO m0 10 [w_thrown, .ref m1, w_image, w_frame, w_hasImage, w_act, w_spot, w_end, w_isWrong, w_open, w_by, w_truths, w_pulls, w_isKeeping, w_next, w_first, w_order, w_bestOrder, w_rooms, w_leastUnlike, w_bodies, w_ran, w_kind, w_number, w_tellsV], cA K m1 922 s] rfl ?_
            refine g_st hC [.long (iL (md_low a b part))] rfl ?_
            exact g_lret (pc := 108) hR dX10_mean_108 rfl ⟨by omega, by omega⟩ (Nat.le_of_ble_eq_true rfl) ⟨ret_eqL (by unfold an_mean; rw [hj9, ← ha, ← hb, if_pos (by omega)]), rfl⟩
          · refine g_ldc2 (pc := 95) hC (-9223372036854775808) wo_X10_220 (by decide) dX10_mean_95 ?_
            refine g_goto (pc := 98) hC 108 dX10_mean_98 (by decide) ?_
            exact g_lret (pc := 108) hR dX10_mean_108 rfl ⟨by omega, by omega⟩ (Nat.le_of_ble_eq_true rfl) ⟨ret_eqL (by unfold an_mean; rw [hj9, ← hb, if_neg (by omega)]), rfl⟩
      · have hgi := hg.1 i (by omega) (by omega)
        refine g_lload_n (pc := 20) hC 2 dX10_mean_20 rfl rfl ?_
        refine g_aload_n (pc := 21) hC 0 dX10_mean_21 rfl rfl ?_
        refine g_get (pc := 22) hC 0 fl_X10_9 dX10_mean_22 rfl rfl ?_
        refine g_bipush (pc := 25) hC (7) dX10_mean_25 (by decide) ?_
        refine g_iload (pc := 27) hC 4 dX10_mean_27 rfl ?_
        refine g_iadd (pc := 29) hC dX10_mean_29 ?_
        refine g_iald (pc := 30) hC 1 dX10_mean_30 rfl (by omega) ?_
        have q4 := r_s (7 + i)
        refine g_if_ne (pc := 31) hC 47 dX10_mean_31 (by decide) (by omega) (fun c31 => ?_) (fun c31 => ?_)
        · refine g_lconst (pc := 47) hC (0) dX10_mean_47 (by decide) ?_
          refine g_ladd (pc := 48) hC dX10_mean_48 ?_
          refine g_lstore_n (pc := 49) hC [(2, _), (0, _), (1, _), (4, _), (6, _)] dX10_mean_49 rfl (by decide) rfl ?_
          refine g_lload (pc := 50) hC 3 dX10_mean_50 rfl ?_
          refine g_aload_n (pc := 52) hC 1 dX10_mean_52 rfl rfl ?_
          refine g_get (pc := 53) hC 0 fl_X10_9 dX10_mean_53 rfl rfl ?_
          refine g_bipush (pc := 56) hC (7) dX10_mean_56 (by decide) ?_
          refine g_iload (pc := 58) hC 4 dX10_mean_58 rfl ?_
          refine g_iadd (pc := 60) hC dX10_mean_60 ?_
          refine g_iald (pc := 61) hC 1 dX10_mean_61 rfl (by omega) ?_
          have q5 := r_s (7 + i)
          refine g_if_ne (pc := 62) hC 69 dX10_mean_62 (by decide) (by omega) (fun c62 => ?_) (fun c62 => by exfalso; omega)
          refine g_lconst (pc := 69) hC (0) dX10_mean_69 (by decide) ?_
          refine g_ladd (pc := 70) hC dX10_mean_70 ?_
          refine g_lstore (pc := 71) hC [(4, _), (2, _), (0, _), (1, _), (6, _)] dX10_mean_71 (by decide) rfl ?_
          refine g_iinc (pc := 73) hC 4 [(6, _), (4, _), (2, _), (0, _), (1, _)] dX10_mean_73 rfl (by decide) rfl ?_
          refine g_goto (pc := 76) hC 8 dX10_mean_76 (by decide) ?_
          refine g_lv hC [3, 4, 2, 1, 0] [(0, _), (1, _), (2, _), (4, _), (6, _)] rfl ?_
          exact ih8 (i + 1) (a + 0) (b + 0) (j + 1) (by first | assumption | omega) (by first | assumption | omega) (by first | assumption | omega) (by first | assumption | omega) (by first | assumption | omega) (md_sm_s hi ha hb (a2 := _) (b2 := _) (by omega) rfl).1 (md_sm_s hi ha hb (a2 := _) (b2 := _) rfl (by omega)).2 (by omega)
        · refine g_aload_n (pc := 34) hC 0 dX10_mean_34 rfl rfl ?_
          refine g_get (pc := 35) hC 0 fl_X10_9 dX10_mean_35 rfl rfl ?_
          refine g_iconst (pc := 38) hC dX10_mean_38 ?_
          refine g_iload (pc := 39) hC 4 dX10_mean_39 rfl ?_
          refine g_iadd (pc := 41) hC dX10_mean_41 ?_
          refine g_iald (pc := 42) hC 1 dX10_mean_42 rfl (by omega) ?_
          have q6 := r_s (1 + i)
          refine g_i2l (pc := 43) hC dX10_mean_43 (by omega) ?_
          refine g_goto (pc := 44) hC 48 dX10_mean_44 (by decide) ?_
          refine g_ladd (pc := 48) hC dX10_mean_48 ?_
          refine g_lstore_n (pc := 49) hC [(2, _), (0, _), (1, _), (4, _), (6, _)] dX10_mean_49 rfl (by decide) rfl ?_
          refine g_lload (pc := 50) hC 3 dX10_mean_50 rfl ?_
          refine g_aload_n (pc := 52) hC 1 dX10_mean_52 rfl rfl ?_
          refine g_get (pc := 53) hC 0 fl_X10_9 dX10_mean_53 rfl rfl ?_
          refine g_bipush (pc := 56) hC (7) dX10_mean_56 (by decide) ?_
          refine g_iload (pc := 58) hC 4 dX10_mean_58 rfl ?_
          refine g_iadd (pc := 60) hC dX10_mean_60 ?_
          refine g_iald (pc := 61) hC 1 dX10_mean_61 rfl (by omega) ?_
          have q7 := r_s (7 + i)
          refine g_if_ne (pc := 62) hC 69 dX10_mean_62 (by decide) (by omega) (fun c62 => by exfalso; omega) (fun c62 => ?_)
          refine g_lconst (pc := 65) hC (1) dX10_mean_65 (by decide) ?_
          refine g_goto (pc := 66) hC 70 dX10_mean_66 (by decide) ?_
          refine g_ladd (pc := 70) hC dX10_mean_70 ?_
          refine g_lstore (pc := 71) hC [(4, _), (2, _), (0, _), (1, _), (6, _)] dX10_mean_71 (by decide) rfl ?_
          refine g_iinc (pc := 73) hC 4 [(6, _), (4, _), (2, _), (0, _), (1, _)] dX10_mean_73 rfl (by decide) rfl ?_
          refine g_goto (pc := 76) hC 8 dX10_mean_76 (by decide) ?_
          refine g_lv hC [3, 4, 2, 1, 0] [(0, _), (1, _), (2, _), (4, _), (6, _)] rfl ?_
          exact ih8 (i + 1) (a + (s (1 + i))) (b + 1) (j + 1) (by first | assumption | omega) (by first | assumption | omega) (by first | assumption | omega) (by first | assumption | omega) (by first | assumption | omega) (md_sm_s hi ha hb (a2 := _) (b2 := _) (by omega) rfl).1 (md_sm_s hi ha hb (a2 := _) (b2 := _) rfl (by omega)).2 (by omega)
  refine g_lv hC [3, 4, 2, 1, 0] [(0, _), (1, _), (2, _), (4, _), (6, _)] rfl ?_
  exact L8 ((s 19 - 0 : Int).toNat + 1) 0 0 0 0 (by first | assumption | omega) (by first | assumption | omega) (by first | assumption | omega) (by first | assumption | omega) (by first | assumption | omega) rfl rfl (by omega)
set_option maxHeartbeats 4000000 in
set_option maxRecDepth 100000 in
theorem k_X10_isPlan {K : gK} (m0 : Nat) (m1 : Nat) (w_thrown : Value) (w_image : Value) (w_frame : Value) (w_hasImage : Value) (w_act : Value) (w_spot : Value) (w_end : Value) (w_isWrong : Value) (w_open : Value) (w_by : Value) (w_truths : Value) (w_pulls : Value) (w_isKeeping : Value) (w_next : Value) (w_first : Value) (w_order : Value) (w_bestOrder : Value) (w_rooms : Value) (w_leastUnlike : Value) (w_bodies : Value) (w_ran : Value) (w_kind : Value) (w_number : Value) (w_tellsV : Value) (w : Int) (n : Int) (s : Int → Int) (r_w : rI w) (r_n : rI n) (r_s : ∀ j, rI (s j)) (hg : md_rg s) : gFn K yX10_isPlan cX10_isPlan 3 (some .boolean) 2 [.ref m0, .int (iI w), .int (iI n)] [cO m0 10 [w_thrown, .ref m1, w_image, w_frame, w_hasImage, w_act, w_spot, w_end, w_isWrong, w_open, w_by, w_truths, w_pulls, w_isKeeping, w_next, w_first, w_order, w_bestOrder, w_rooms, w_leastUnlike, w_bodies, w_ran, w_kind, w_number, w_tellsV], cA K m1 922 s] (an_isPlan s w n) := by
  refine g_enter (by decide +kernel) (Nat.le_of_ble_eq_true rfl) (fun G hC hR => ?_)
  refine g_lv hC [0, 1, 2] [(0, _), (1, _), (2, _)] rfl ?_
  have hg0 := hg.2.2.2
  have h19 := hg.2.2.1
  refine g_iload_n (pc := 0) hC 1 dX10_isPlan_0 rfl rfl ?_
  refine g_if_eq (pc := 1) hC 41 dX10_isPlan_1 (by decide) (by omega) (fun c1 => ?_) (fun c1 => ?_)
  · refine g_iconst (pc := 41) hC dX10_isPlan_41 ?_
    refine g_goto (pc := 42) hC 46 dX10_isPlan_42 (by decide) ?_
    exact g_zret (pc := 46) hR dX10_isPlan_46 rfl (by omega) ⟨by omega, by omega⟩ (Nat.le_of_ble_eq_true rfl) ⟨ret_eq (by unfold an_isPlan; (repeat' split) <;> omega), rfl⟩
  · refine g_iload_n (pc := 4) hC 1 dX10_isPlan_4 rfl rfl ?_
    refine g_iconst (pc := 5) hC dX10_isPlan_5 ?_
    refine g_iconst (pc := 6) hC dX10_isPlan_6 ?_
    refine g_fnS (pc := 7) hC [] (k_X10_in _ _ _ (by first | assumption | omega) (by first | assumption | omega) (by first | assumption | omega)) cl_X10_in wm_X10_54 dX10_isPlan_7 rfl rfl (by decide) (by decide) ⟨by omega, by omega⟩ (Nat.le_of_ble_eq_true rfl) rfl rfl ?_
    refine g_name hC (fun x1 e_x1 => ?_)
    refine g_if_eq (pc := 10) hC 21 dX10_isPlan_10 (by decide) (by omega) (fun c10 => ?_) (fun c10 => ?_)
    · refine g_iload_n (pc := 21) hC 1 dX10_isPlan_21 rfl rfl ?_
      refine g_iconst (pc := 22) hC dX10_isPlan_22 ?_
      refine g_icmp_ne (pc := 23) hC 45 dX10_isPlan_23 (by decide) (by omega) (by omega) (fun c23 => ?_) (fun c23 => ?_)
      · refine g_iconst (pc := 45) hC dX10_isPlan_45 ?_
        exact g_zret (pc := 46) hR dX10_isPlan_46 rfl (by omega) ⟨by omega, by omega⟩ (Nat.le_of_ble_eq_true rfl) ⟨ret_eq (by unfold an_isPlan; (repeat' split) <;> omega), rfl⟩
      · refine g_iload_n (pc := 26) hC 2 dX10_isPlan_26 rfl rfl ?_
        refine g_if_lt (pc := 27) hC 45 dX10_isPlan_27 (by decide) (by omega) (fun c27 => ?_) (fun c27 => ?_)
        · refine g_iconst (pc := 45) hC dX10_isPlan_45 ?_
          exact g_zret (pc := 46) hR dX10_isPlan_46 rfl (by omega) ⟨by omega, by omega⟩ (Nat.le_of_ble_eq_true rfl) ⟨ret_eq (by unfold an_isPlan; (repeat' split) <;> omega), rfl⟩
        · refine g_aload_n (pc := 30) hC 0 dX10_isPlan_30 rfl rfl ?_
          refine g_iload_n (pc := 31) hC 2 dX10_isPlan_31 rfl rfl ?_
          refine g_bipush (pc := 32) hC (10) dX10_isPlan_32 (by decide) ?_
          refine g_idiv (pc := 34) hC dX10_isPlan_34 (by omega) (by omega) ?_
          refine g_fnV (pc := 35) (qr := 0) hC [0, 1] (k_X10_isMan _ _ _ _ _ _ _ _ _ _ _ _ _ _ _ _ _ _ _ _ _ _ _ _ _ _ _ _ (by first | assumption | omega) (by first | assumption | omega) (by first | assumption | omega)) cl_X10_isMan wm_X10_159 dX10_isPlan_35 rfl rfl rfl rfl rfl (by decide) (by decide) ⟨by omega, by omega⟩ (Nat.le_of_ble_eq_true rfl) rfl rfl ?_
          refine g_name hC (fun x2 e_x2 => ?_)
          refine g_if_eq (pc := 38) hC 45 dX10_isPlan_38 (by decide) (by omega) (fun c38 => ?_) (fun c38 => ?_)
          · refine g_iconst (pc := 45) hC dX10_isPlan_45 ?_
            exact g_zret (pc := 46) hR dX10_isPlan_46 rfl (by omega) ⟨by omega, by omega⟩ (Nat.le_of_ble_eq_true rfl) ⟨ret_eq (by unfold an_isPlan; (repeat' split) <;> omega), rfl⟩
          · refine g_iconst (pc := 41) hC dX10_isPlan_41 ?_
            refine g_goto (pc := 42) hC 46 dX10_isPlan_42 (by decide) ?_
            exact g_zret (pc := 46) hR dX10_isPlan_46 rfl (by omega) ⟨by omega, by omega⟩ (Nat.le_of_ble_eq_true rfl) ⟨ret_eq (by unfold an_isPlan; (repeat' split) <;> omega), rfl⟩
    · refine g_aload_n (pc := 13) hC 0 dX10_isPlan_13 rfl rfl ?_
      refine g_iload_n (pc := 14) hC 2 dX10_isPlan_14 rfl rfl ?_
      refine g_fnV (pc := 15) (qr := 0) hC [0, 1] (k_X10_isMan _ _ _ _ _ _ _ _ _ _ _ _ _ _ _ _ _ _ _ _ _ _ _ _ _ _ _ _ (by first | assumption | omega) (by first | assumption | omega) (by first | assumption | omega)) cl_X10_isMan wm_X10_159 dX10_isPlan_15 rfl rfl rfl rfl rfl (by decide) (by decide) ⟨by omega, by omega⟩ (Nat.le_of_ble_eq_true rfl) rfl rfl ?_
      refine g_name hC (fun x3 e_x3 => ?_)
      refine g_if_ne (pc := 18) hC 41 dX10_isPlan_18 (by decide) (by omega) (fun c18 => ?_) (fun c18 => ?_)
      · refine g_iconst (pc := 41) hC dX10_isPlan_41 ?_
        refine g_goto (pc := 42) hC 46 dX10_isPlan_42 (by decide) ?_
        exact g_zret (pc := 46) hR dX10_isPlan_46 rfl (by omega) ⟨by omega, by omega⟩ (Nat.le_of_ble_eq_true rfl) ⟨ret_eq (by unfold an_isPlan; (repeat' split) <;> omega), rfl⟩
      · refine g_iload_n (pc := 21) hC 1 dX10_isPlan_21 rfl rfl ?_
        refine g_iconst (pc := 22) hC dX10_isPlan_22 ?_
        refine g_icmp_ne (pc := 23) hC 45 dX10_isPlan_23 (by decide) (by omega) (by omega) (fun c23 => ?_) (fun c23 => ?_)
        · refine g_iconst (pc := 45) hC dX10_isPlan_45 ?_
          exact g_zret (pc := 46) hR dX10_isPlan_46 rfl (by omega) ⟨by omega, by omega⟩ (Nat.le_of_ble_eq_true rfl) ⟨ret_eq (by unfold an_isPlan; (repeat' split) <;> omega), rfl⟩
        · refine g_iload_n (pc := 26) hC 2 dX10_isPlan_26 rfl rfl ?_
          refine g_if_lt (pc := 27) hC 45 dX10_isPlan_27 (by decide) (by omega) (fun c27 => ?_) (fun c27 => ?_)
          · refine g_iconst (pc := 45) hC dX10_isPlan_45 ?_
            exact g_zret (pc := 46) hR dX10_isPlan_46 rfl (by omega) ⟨by omega, by omega⟩ (Nat.le_of_ble_eq_true rfl) ⟨ret_eq (by unfold an_isPlan; (repeat' split) <;> omega), rfl⟩
          · refine g_aload_n (pc := 30) hC 0 dX10_isPlan_30 rfl rfl ?_
            refine g_iload_n (pc := 31) hC 2 dX10_isPlan_31 rfl rfl ?_
            refine g_bipush (pc := 32) hC (10) dX10_isPlan_32 (by decide) ?_
            refine g_idiv (pc := 34) hC dX10_isPlan_34 (by omega) (by omega) ?_
            refine g_fnV (pc := 35) (qr := 0) hC [0, 1] (k_X10_isMan _ _ _ _ _ _ _ _ _ _ _ _ _ _ _ _ _ _ _ _ _ _ _ _ _ _ _ _ (by first | assumption | omega) (by first | assumption | omega) (by first | assumption | omega)) cl_X10_isMan wm_X10_159 dX10_isPlan_35 rfl rfl rfl rfl rfl (by decide) (by decide) ⟨by omega, by omega⟩ (Nat.le_of_ble_eq_true rfl) rfl rfl ?_
            refine g_name hC (fun x4 e_x4 => ?_)
            refine g_if_eq (pc := 38) hC 45 dX10_isPlan_38 (by decide) (by omega) (fun c38 => ?_) (fun c38 => ?_)
            · refine g_iconst (pc := 45) hC dX10_isPlan_45 ?_
              exact g_zret (pc := 46) hR dX10_isPlan_46 rfl (by omega) ⟨by omega, by omega⟩ (Nat.le_of_ble_eq_true rfl) ⟨ret_eq (by unfold an_isPlan; (repeat' split) <;> omega), rfl⟩
            · refine g_iconst (pc := 41) hC dX10_isPlan_41 ?_
              refine g_goto (pc := 42) hC 46 dX10_isPlan_42 (by decide) ?_
              exact g_zret (pc := 46) hR dX10_isPlan_46 rfl (by omega) ⟨by omega, by omega⟩ (Nat.le_of_ble_eq_true rfl) ⟨ret_eq (by unfold an_isPlan; (repeat' split) <;> omega), rfl⟩
set_option maxHeartbeats 4000000 in
set_option maxRecDepth 100000 in
theorem k_X10_plan {K : gK} (m0 : Nat) (m1 : Nat) (w_thrown : Value) (w_image : Value) (w_frame : Value) (w_hasImage : Value) (w_act : Value) (w_spot : Value) (w_end : Value) (w_isWrong : Value) (w_open : Value) (w_by : Value) (w_truths : Value) (w_pulls : Value) (w_isKeeping : Value) (w_next : Value) (w_first : Value) (w_order : Value) (w_bestOrder : Value) (w_rooms : Value) (w_leastUnlike : Value) (w_bodies : Value) (w_ran : Value) (w_kind : Value) (w_number : Value) (w_tellsV : Value) (w : Int) (n : Int) (s : Int → Int) (r_w : rI w) (r_n : rI n) (r_s : ∀ j, rI (s j)) (hg : md_rg s) (hs : md_rs s) : gMet K yX10_plan cX10_plan 3 (some .int) 3 0 0 [.ref m0, .int (iI w), .int (iI n)] [cO m0 10 [w_thrown, .ref m1, w_image, w_frame, w_hasImage, w_act, w_spot, w_end, w_isWrong, w_open, w_by, w_truths, w_pulls, w_isKeeping, w_next, w_first, w_order, w_bestOrder, w_rooms, w_leastUnlike, w_bodies, w_ran, w_kind, w_number, w_tellsV], cA K m1 922 s] (fun v9 w9 => ∃ (s2 : Int → Int), v9 = some (.int (iI (an_plan s w n))) ∧ w9 = [cO m0 10 [w_thrown, .ref m1, w_image, w_frame, w_hasImage, w_act, w_spot, w_end, w_isWrong, w_open, w_by, w_truths, w_pulls, w_isKeeping, w_next, w_first, w_order, w_bestOrder, w_rooms, w_leastUnlike, w_bodies, w_ran, w_kind, w_number, w_tellsV], cA K m1 922 s2] ∧ (∀ j, rI (s2 j)) ∧ (s2 = ne_plan s w n)) := by
  refine g_enter (by decide +kernel) (Nat.le_of_ble_eq_true rfl) (fun G hC hR => ?_)
  refine g_lv hC [0, 1, 2] [(0, _), (1, _), (2, _)] rfl ?_
  have hg0 := hg.2.2.2
  have h19 := hg.2.2.1
  have hs1 := hs.2.1
  refine g_iload_n (pc := 0) hC 1 dX10_plan_0 rfl rfl ?_
  refine g_iconst (pc := 1) hC dX10_plan_1 ?_
  refine g_icmp_ne (pc := 2) hC 15 dX10_plan_2 (by decide) (by omega) (by omega) (fun c2 => ?_) (fun c2 => ?_)
  · refine g_aload_n (pc := 15) hC 0 dX10_plan_15 rfl rfl ?_
    refine g_iload_n (pc := 16) hC 1 dX10_plan_16 rfl rfl ?_
    refine g_iload_n (pc := 17) hC 2 dX10_plan_17 rfl rfl ?_
    refine g_fnV (pc := 18) (qr := 0) hC [0, 1] (k_X10_isPlan _ _ _ _ _ _ _ _ _ _ _ _ _ _ _ _ _ _ _ _ _ _ _ _ _ _ _ _ _ (by first | assumption | omega) (by first | assumption | omega) (by first | assumption | omega) (by first | assumption | omega)) cl_X10_isPlan wm_X10_228 dX10_plan_18 rfl rfl rfl rfl rfl (by decide) (by decide) ⟨by omega, by omega⟩ (Nat.le_of_ble_eq_true rfl) rfl rfl ?_
    refine g_name hC (fun x1 e_x1 => ?_)
    have hpl : an_isPlan s w n = 0 ∨ an_isPlan s w n = 1 := by unfold an_isPlan; split <;> omega
    refine g_if_ne (pc := 21) hC 26 dX10_plan_21 (by decide) (by omega) (fun c21 => ?_) (fun c21 => ?_)
    · refine g_aload_n (pc := 26) hC 0 dX10_plan_26 rfl rfl ?_
      refine g_get (pc := 27) hC 0 fl_X10_9 dX10_plan_27 rfl rfl ?_
      refine g_bipush (pc := 30) hC (22) dX10_plan_30 (by decide) ?_
      refine g_iald (pc := 32) hC 1 dX10_plan_32 rfl (by omega) ?_
      have q2 := r_s 22
      refine g_bipush (pc := 33) hC (8) dX10_plan_33 (by decide) ?_
      refine g_icmp_ne (pc := 35) hC 41 dX10_plan_35 (by decide) (by omega) (by omega) (fun c35 => ?_) (fun c35 => ?_)
      · refine g_aload_n (pc := 41) hC 0 dX10_plan_41 rfl rfl ?_
        refine g_get (pc := 42) hC 0 fl_X10_9 dX10_plan_42 rfl rfl ?_
        refine g_bipush (pc := 45) hC (80) dX10_plan_45 (by decide) ?_
        refine g_aload_n (pc := 47) hC 0 dX10_plan_47 rfl rfl ?_
        refine g_get (pc := 48) hC 0 fl_X10_9 dX10_plan_48 rfl rfl ?_
        refine g_bipush (pc := 51) hC (22) dX10_plan_51 (by decide) ?_
        refine g_iald (pc := 53) hC 1 dX10_plan_53 rfl (by omega) ?_
        have q3 := r_s 22
        refine g_iadd (pc := 54) hC dX10_plan_54 ?_
        refine g_iload_n (pc := 55) hC 1 dX10_plan_55 rfl rfl ?_
        refine g_iast (pc := 56) hC 1 (fun f9 => [_, cA K _ _ f9]) dX10_plan_56 rfl (by omega) (fun _ => rfl) (fun s4 e_s4 => ?_)
        have r_s4 := rng_up e_s4 r_s (by omega)
        have t4 : s4 22 = s 22 := by rw [e_s4]; exact upI_ne (by omega)
        refine g_aload_n (pc := 57) hC 0 dX10_plan_57 rfl rfl ?_
        refine g_get (pc := 58) hC 0 fl_X10_9 dX10_plan_58 rfl rfl ?_
        refine g_bipush (pc := 61) hC (88) dX10_plan_61 (by decide) ?_
        refine g_aload_n (pc := 63) hC 0 dX10_plan_63 rfl rfl ?_
        refine g_get (pc := 64) hC 0 fl_X10_9 dX10_plan_64 rfl rfl ?_
        refine g_bipush (pc := 67) hC (22) dX10_plan_67 (by decide) ?_
        refine g_iald (pc := 69) hC 1 dX10_plan_69 rfl (by omega) ?_
        have q4 := r_s4 22
        refine g_iadd (pc := 70) hC dX10_plan_70 ?_
        refine g_iload_n (pc := 71) hC 2 dX10_plan_71 rfl rfl ?_
        refine g_iast (pc := 72) hC 1 (fun f9 => [_, cA K _ _ f9]) dX10_plan_72 rfl (by omega) (fun _ => rfl) (fun s5 e_s5 => ?_)
        have r_s5 := rng_up e_s5 r_s4 (by omega)
        have t5 : s5 22 = s 22 := by rw [e_s5, t4]; rw [← t4]; exact upI_ne (by omega)
        refine g_aload_n (pc := 73) hC 0 dX10_plan_73 rfl rfl ?_
        refine g_get (pc := 74) hC 0 fl_X10_9 dX10_plan_74 rfl rfl ?_
        refine g_bipush (pc := 77) hC (22) dX10_plan_77 (by decide) ?_
        refine g_dup2 (pc := 79) hC dX10_plan_79 rfl rfl ?_
        refine g_iald (pc := 80) hC 1 dX10_plan_80 rfl (by omega) ?_
        have q5 := r_s5 22
        refine g_iconst (pc := 81) hC dX10_plan_81 ?_
        refine g_iadd (pc := 82) hC dX10_plan_82 ?_
        refine g_iast (pc := 83) hC 1 (fun f9 => [_, cA K _ _ f9]) dX10_plan_83 rfl (by omega) (fun _ => rfl) (fun s7 e_s7 => ?_)
        have r_s7 := rng_up e_s7 r_s5 (by omega)
        have t7 : s7 22 = s 22 + 1 := by rw [e_s7, t5]; exact upI_at _ _ _
        refine g_aload_n (pc := 84) hC 0 dX10_plan_84 rfl rfl ?_
        refine g_get (pc := 85) hC 0 fl_X10_9 dX10_plan_85 rfl rfl ?_
        refine g_bipush (pc := 88) hC (22) dX10_plan_88 (by decide) ?_
        refine g_iald (pc := 90) hC 1 dX10_plan_90 rfl (by omega) ?_
        have q6 := r_s7 22
        exact g_iret (pc := 91) hR dX10_plan_91 rfl ⟨by omega, by omega⟩ (Nat.le_of_ble_eq_true rfl) ⟨s7, ret_eq (by unfold an_plan; (repeat' split) <;> omega), rfl, (by first | assumption | omega), (by unfold ne_plan; rw [if_neg (by omega), if_pos (by omega), e_s7, t5, e_s5, t4, e_s4])⟩
      · refine g_bipush (pc := 38) hC (-4) dX10_plan_38 (by decide) ?_
        exact g_iret (pc := 40) hR dX10_plan_40 rfl ⟨by omega, by omega⟩ (Nat.le_of_ble_eq_true rfl) ⟨s, ret_eq (by unfold an_plan; (repeat' split) <;> omega), rfl, (by first | assumption | omega), (by unfold ne_plan; rw [if_neg (by omega), if_neg (by omega)])⟩
    · refine g_iconst (pc := 24) hC dX10_plan_24 ?_
      exact g_iret (pc := 25) hR dX10_plan_25 rfl ⟨by omega, by omega⟩ (Nat.le_of_ble_eq_true rfl) ⟨s, ret_eq (by unfold an_plan; (repeat' split) <;> omega), rfl, (by first | assumption | omega), (by unfold ne_plan; rw [if_neg (by omega), if_neg (by omega)])⟩
  · refine g_aload_n (pc := 5) hC 0 dX10_plan_5 rfl rfl ?_
    refine g_get (pc := 6) hC 0 fl_X10_9 dX10_plan_6 rfl rfl ?_
    refine g_bipush (pc := 9) hC (22) dX10_plan_9 (by decide) ?_
    refine g_iconst (pc := 11) hC dX10_plan_11 ?_
    refine g_iast (pc := 12) hC 1 (fun f9 => [_, cA K _ _ f9]) dX10_plan_12 rfl (by omega) (fun _ => rfl) (fun s3 e_s3 => ?_)
    have r_s3 := rng_up e_s3 r_s (by omega)
    refine g_iconst (pc := 13) hC dX10_plan_13 ?_
    exact g_iret (pc := 14) hR dX10_plan_14 rfl ⟨by omega, by omega⟩ (Nat.le_of_ble_eq_true rfl) ⟨s3, ret_eq (by unfold an_plan; (repeat' split) <;> omega), rfl, (by first | assumption | omega), (by unfold ne_plan; rw [if_pos (by omega), e_s3])⟩
set_option maxHeartbeats 4000000 in
set_option maxRecDepth 100000 in
theorem k_X10_goesBy {K : gK} (m0 : Nat) (m1 : Nat) (m10 : Nat) (m11 : Nat) (m12 : Nat) (m14 : Nat) (w_thrown : Value) (w_image : Value) (w_frame : Value) (w_hasImage : Value) (w_act : Value) (w_spot : Value) (w_end : Value) (w_isWrong : Value) (w_open : Value) (w_first : Value) (w_order : Value) (w_bestOrder : Value) (w_rooms : Value) (w_leastUnlike : Value) (w_bodies : Value) (w_ran : Value) (w_kind : Value) (w_number : Value) (w_tellsV : Value) (w : Int) (n : Int) (ik : Int) (s : Int → Int) (fb : Int → Int) (ft : Int → Int) (fu : Int → Int) (fn : Int → Int) (W : (Int → Int) → Int) (rch : Int) (r_w : rI w) (r_n : rI n) (r_ik : rI ik) (r_s : ∀ j, rI (s j)) (r_fb : ∀ j, rI (fb j)) (r_ft : rZ ft) (r_fu : ∀ j, rI (fu j)) (r_fn : ∀ j, rI (fn j)) (hw : w = 0 ∨ ((w = 1 ∨ w = 2) ∧ 0 ≤ n ∧ n < s 19) ∨ (w = 3 ∧ 0 ≤ n ∧ n < 10 * s 19)) (hg : md_rg s) (h0 : s 0 < 20000) (hT : md_TK s W rch) (hk : ik = 0 ∨ (ik = 1 ∧ md_PC W (fun z => s (26 + z)) fu)) : gMet K yX10_goesBy cX10_goesBy 3 none 6 0 0 [.ref m0, .int (iI w), .int (iI n)] [cO m0 10 [w_thrown, .ref m1, w_image, w_frame, w_hasImage, w_act, w_spot, w_end, w_isWrong, w_open, .ref m10, .ref m11, .ref m12, .int (iI ik), .ref m14, w_first, w_order, w_bestOrder, w_rooms, w_leastUnlike, w_bodies, w_ran, w_kind, w_number, w_tellsV], cA K m1 922 s, cA K m10 6 fb, cZ K m11 64 ft, cA K m12 36000 fu, cA K m14 6 fn] (fun v9 w9 => ∃ (s2 : Int → Int), ∃ (fb2 : Int → Int), ∃ (ft2 : Int → Int), ∃ (fu2 : Int → Int), ∃ (fn2 : Int → Int), v9 = none ∧ w9 = [cO m0 10 [w_thrown, .ref m1, w_image, w_frame, w_hasImage, w_act, w_spot, w_end, w_isWrong, w_open, .ref m10, .ref m11, .ref m12, .int (iI ik), .ref m14, w_first, w_order, w_bestOrder, w_rooms, w_leastUnlike, w_bodies, w_ran, w_kind, w_number, w_tellsV], cA K m1 922 s2, cA K m10 6 fb2, cZ K m11 64 ft2, cA K m12 36000 fu2, cA K m14 6 fn2] ∧ (∀ j, rI (s2 j)) ∧ (∀ j, rI (fb2 j)) ∧ rZ ft2 ∧ (∀ j, rI (fu2 j)) ∧ (∀ j, rI (fn2 j)) ∧ (s2 = md_by W rch s w n) ∧ (ik = 0 ∨ (ik = 1 ∧ md_PC W (fun z => s (26 + z)) fu2))) := by
  refine g_enter (by decide +kernel) (Nat.le_of_ble_eq_true rfl) (fun G hC hR => ?_)
  refine g_lv hC [0, 1, 2] [(0, _), (1, _), (2, _)] rfl ?_
  have hg0 := hg.2.2.2
  have h19 := hg.2.2.1
  refine g_iload_n (pc := 0) hC 1 dX10_goesBy_0 rfl rfl ?_
  refine g_if_ne (pc := 1) hC 11 dX10_goesBy_1 (by decide) (by omega) (fun c1 => ?_) (fun c1 => ?_)
  · refine g_iload_n (pc := 11) hC 1 dX10_goesBy_11 rfl rfl ?_
    refine g_iconst (pc := 12) hC dX10_goesBy_12 ?_
    refine g_icmp_ne (pc := 13) hC 35 dX10_goesBy_13 (by decide) (by omega) (by omega) (fun c13 => ?_) (fun c13 => ?_)
    · refine g_aload_n (pc := 35) hC 0 dX10_goesBy_35 rfl rfl ?_
      refine g_get (pc := 36) hC 0 fl_X10_9 dX10_goesBy_36 rfl rfl ?_
      refine g_bipush (pc := 39) hC (7) dX10_goesBy_39 (by decide) ?_
      refine g_iload_n (pc := 41) hC 2 dX10_goesBy_41 rfl rfl ?_
      refine g_iadd (pc := 42) hC dX10_goesBy_42 ?_
      refine g_iload_n (pc := 43) hC 1 dX10_goesBy_43 rfl rfl ?_
      refine g_iconst (pc := 44) hC dX10_goesBy_44 ?_
      refine g_icmp_ne (pc := 45) hC 52 dX10_goesBy_45 (by decide) (by omega) (by omega) (fun c45 => ?_) (fun c45 => ?_)
      · refine g_iconst (pc := 52) hC dX10_goesBy_52 ?_
        refine g_iast (pc := 53) hC 1 (fun f9 => [_, cA K _ _ f9, _, _, _, _]) dX10_goesBy_53 rfl (by omega) (fun _ => rfl) (fun s5 e_s5 => ?_)
        have r_s5 := rng_up e_s5 r_s (by omega)
        exact g_vret (pc := 54) hR dX10_goesBy_54 rfl ⟨by omega, by omega⟩ (Nat.le_of_ble_eq_true rfl) ⟨s5, fb, ft, fu, fn, rfl, rfl, (by first | assumption | omega), (by first | assumption | omega), (by first | assumption | omega), (by first | assumption | omega), (by first | assumption | omega), (by unfold md_by; rw [if_neg c1, if_neg c13, if_neg c45, e_s5]), (by first | assumption | omega)⟩
      · refine g_iconst (pc := 48) hC dX10_goesBy_48 ?_
        refine g_goto (pc := 49) hC 53 dX10_goesBy_49 (by decide) ?_
        refine g_iast (pc := 53) hC 1 (fun f9 => [_, cA K _ _ f9, _, _, _, _]) dX10_goesBy_53 rfl (by omega) (fun _ => rfl) (fun s5 e_s5 => ?_)
        have r_s5 := rng_up e_s5 r_s (by omega)
        exact g_vret (pc := 54) hR dX10_goesBy_54 rfl ⟨by omega, by omega⟩ (Nat.le_of_ble_eq_true rfl) ⟨s5, fb, ft, fu, fn, rfl, rfl, (by first | assumption | omega), (by first | assumption | omega), (by first | assumption | omega), (by first | assumption | omega), (by first | assumption | omega), (by unfold md_by; rw [if_neg c1, if_neg c13, if_pos c45, e_s5]), (by first | assumption | omega)⟩
    · refine g_aload_n (pc := 16) hC 0 dX10_goesBy_16 rfl rfl ?_
      refine g_get (pc := 17) hC 0 fl_X10_9 dX10_goesBy_17 rfl rfl ?_
      refine g_bipush (pc := 20) hC (13) dX10_goesBy_20 (by decide) ?_
      refine g_iload_n (pc := 22) hC 2 dX10_goesBy_22 rfl rfl ?_
      refine g_bipush (pc := 23) hC (10) dX10_goesBy_23 (by decide) ?_
      refine g_idiv (pc := 25) hC dX10_goesBy_25 (by omega) (by omega) ?_
      refine g_iadd (pc := 26) hC dX10_goesBy_26 ?_
      refine g_iload_n (pc := 27) hC 2 dX10_goesBy_27 rfl rfl ?_
      refine g_bipush (pc := 28) hC (10) dX10_goesBy_28 (by decide) ?_
      refine g_irem (pc := 30) hC dX10_goesBy_30 (by omega) (by omega) ?_
      refine g_iast (pc := 31) hC 1 (fun f9 => [_, cA K _ _ f9, _, _, _, _]) dX10_goesBy_31 rfl (by omega) (fun _ => rfl) (fun s4 e_s4 => ?_)
      have r_s4 := rng_up e_s4 r_s (by omega)
      refine g_goto (pc := 32) hC 54 dX10_goesBy_32 (by decide) ?_
      exact g_vret (pc := 54) hR dX10_goesBy_54 rfl ⟨by omega, by omega⟩ (Nat.le_of_ble_eq_true rfl) ⟨s4, fb, ft, fu, fn, rfl, rfl, (by first | assumption | omega), (by first | assumption | omega), (by first | assumption | omega), (by first | assumption | omega), (by first | assumption | omega), (by unfold md_by; rw [if_neg c1, if_pos c13, e_s4]), (by first | assumption | omega)⟩
  · refine g_aload_n (pc := 4) hC 0 dX10_goesBy_4 rfl rfl ?_
    refine g_callV (pc := 5) (qr := 0) hC [0, 1, 2, 3, 4, 5] (k_X10_goes _ _ _ _ _ _ _ _ _ _ _ _ _ _ _ _ _ _ _ _ _ _ _ _ _ _ _ _ _ _ _ _ _ (by first | assumption | omega) (by first | assumption | omega) (by first | assumption | omega) (by first | assumption | omega) (by first | assumption | omega) (by first | assumption | omega) (by first | assumption | omega) (by first | assumption | omega) (by first | assumption | omega) (by first | assumption | omega)) cl_X10_goes wm_X10_175 dX10_goesBy_5 rfl rfl rfl rfl rfl (by decide) (by decide) (by omega) (Nat.le_of_ble_eq_true rfl) rfl (fun v9 w9 hq9 => ?_)
    obtain ⟨s1, fb2, ft3, fu4, fn5, rfl, rfl, r_s1, r_fb2, r_ft3, r_fu4, r_fn5, hs_5, hk2_5⟩ := hq9
    refine g_ws hC [cO m0 10 [w_thrown, .ref m1, w_image, w_frame, w_hasImage, w_act, w_spot, w_end, w_isWrong, w_open, .ref m10, .ref m11, .ref m12, .int (iI ik), .ref m14, w_first, w_order, w_bestOrder, w_rooms, w_leastUnlike, w_bodies, w_ran, w_kind, w_number, w_tellsV], cA K m1 922 s1, cA K m10 6 fb2, cZ K m11 64 ft3, cA K m12 36000 fu4, cA K m14 6 fn5] rfl ?_
    refine g_st hC [] rfl ?_
    refine g_goto (pc := 8) hC 54 dX10_goesBy_8 (by decide) ?_
    exact g_vret (pc := 54) hR dX10_goesBy_54 rfl ⟨by omega, by omega⟩ (Nat.le_of_ble_eq_true rfl) ⟨s1, fb2, ft3, fu4, fn5, rfl, rfl, (by first | assumption | omega), (by first | assumption | omega), (by first | assumption | omega), (by first | assumption | omega), (by first | assumption | omega), (by unfold md_by; rw [if_pos c1, hs_5]), (by first | assumption | omega)⟩
set_option maxHeartbeats 4000000 in
set_option maxRecDepth 100000 in
theorem k_X10_done {K : gK} (m0 : Nat) (m1 : Nat) (m3 : Nat) (m10 : Nat) (m11 : Nat) (m12 : Nat) (m14 : Nat) (w_thrown : Value) (w_image : Value) (w_hasImage : Value) (w_act : Value) (w_spot : Value) (w_end : Value) (w_isWrong : Value) (w_open : Value) (w_first : Value) (w_order : Value) (w_bestOrder : Value) (w_rooms : Value) (w_leastUnlike : Value) (w_bodies : Value) (w_ran : Value) (w_kind : Value) (w_number : Value) (w_tellsV : Value) (w : Int) (ik : Int) (s : Int → Int) (fr : Int → Int) (fb : Int → Int) (ft : Int → Int) (fu : Int → Int) (fn : Int → Int) (W : (Int → Int) → Int) (rch : Int) (r_w : rI w) (r_ik : rI ik) (r_s : ∀ j, rI (s j)) (r_fr : ∀ j, rI (fr j)) (r_fb : ∀ j, rI (fb j)) (r_ft : rZ ft) (r_fu : ∀ j, rI (fu j)) (r_fn : ∀ j, rI (fn j)) (hg : md_rg s) (h0 : s 0 ≤ 10000) (hs : md_rs s) (hT : md_TK s W rch) (hk : ik = 0 ∨ (ik = 1 ∧ md_PC W (fun z => s (26 + z)) fu)) : gMet K yX10_done cX10_done 4 (some .int) 7 0 0 [.ref m0, .int (iI w)] [cO m0 10 [w_thrown, .ref m1, w_image, .ref m3, w_hasImage, w_act, w_spot, w_end, w_isWrong, w_open, .ref m10, .ref m11, .ref m12, .int (iI ik), .ref m14, w_first, w_order, w_bestOrder, w_rooms, w_leastUnlike, w_bodies, w_ran, w_kind, w_number, w_tellsV], cA K m1 922 s, cA K m3 19 fr, cA K m10 6 fb, cZ K m11 64 ft, cA K m12 36000 fu, cA K m14 6 fn] (fun v9 w9 => ∃ (fr2 : Int → Int), ∃ (fb2 : Int → Int), ∃ (ft2 : Int → Int), ∃ (fu2 : Int → Int), ∃ (fn2 : Int → Int), v9 = some (.int (iI (an_done W rch s w))) ∧ w9 = [cO m0 10 [w_thrown, .ref m1, w_image, .ref m3, w_hasImage, w_act, w_spot, w_end, w_isWrong, w_open, .ref m10, .ref m11, .ref m12, .int (iI ik), .ref m14, w_first, w_order, w_bestOrder, w_rooms, w_leastUnlike, w_bodies, w_ran, w_kind, w_number, w_tellsV], cA K m1 922 s, cA K m3 19 fr2, cA K m10 6 fb2, cZ K m11 64 ft2, cA K m12 36000 fu2, cA K m14 6 fn2] ∧ (∀ j, rI (fr2 j)) ∧ (∀ j, rI (fb2 j)) ∧ rZ ft2 ∧ (∀ j, rI (fu2 j)) ∧ (∀ j, rI (fn2 j)) ∧ (ik = 0 ∨ (ik = 1 ∧ md_PC W (fun z => s (26 + z)) fu2))) := by
  refine g_enter (by decide +kernel) (Nat.le_of_ble_eq_true rfl) (fun G hC hR => ?_)
  refine g_lv hC [0, 1] [(0, _), (1, _)] rfl ?_
  have hg0 := hg.2.2.2
  have h19 := hg.2.2.1
  have hpl9 := hs.2.1
  refine g_iload_n (pc := 0) hC 1 dX10_done_0 rfl rfl ?_
  refine g_iconst (pc := 1) hC dX10_done_1 ?_
  refine g_iconst (pc := 2) hC dX10_done_2 ?_
  refine g_fnS (pc := 3) hC [] (k_X10_in _ _ _ (by first | assumption | omega) (by first | assumption | omega) (by first | assumption | omega)) cl_X10_in wm_X10_54 dX10_done_3 rfl rfl (by decide) (by decide) ⟨by omega, by omega⟩ (Nat.le_of_ble_eq_true rfl) rfl rfl ?_
  refine g_name hC (fun x1 e_x1 => ?_)
  refine g_if_ne (pc := 6) hC 11 dX10_done_6 (by decide) (by omega) (fun c6 => ?_) (fun c6 => ?_)
  · refine g_aload_n (pc := 11) hC 0 dX10_done_11 rfl rfl ?_
    refine g_callV (pc := 12) (qr := 0) hC [0, 1, 2] (k_X10_keeps _ _ _ _ _ _ _ _ _ _ _ _ _ _ _ _ _ _ _ _ _ _ _ _ _ _ _ _ (by first | assumption | omega) (by first | assumption | omega)) cl_X10_keeps wm_X10_169 dX10_done_12 rfl rfl rfl rfl rfl (by decide) (by decide) (by omega) (Nat.le_of_ble_eq_true rfl) rfl (fun v9 w9 hq9 => ?_)
    obtain ⟨fr2, rfl, rfl, r_fr2, hkp⟩ := hq9
    refine g_ws hC [cO m0 10 [w_thrown, .ref m1, w_image, .ref m3, w_hasImage, w_act, w_spot, w_end, w_isWrong, w_open, .ref m10, .ref m11, .ref m12, .int (iI ik), .ref m14, w_first, w_order, w_bestOrder, w_rooms, w_leastUnlike, w_bodies, w_ran, w_kind, w_number, w_tellsV], cA K m1 922 s, cA K m3 19 fr2, cA K m10 6 fb, cZ K m11 64 ft, cA K m12 36000 fu, cA K m14 6 fn] rfl ?_
    refine g_st hC [] rfl ?_
    refine g_iconst (pc := 15) hC dX10_done_15 ?_
    refine g_istore_n (pc := 16) hC [(2, _), (0, _), (1, _)] dX10_done_16 rfl (by decide) rfl ?_
    have L17 : ∀ (n3 : Nat) (i : Int) (f0 : Int → Int) (f1 : Int → Int) (f2 : Int → Int) (f3 : Int → Int) (f4 : Int → Int) (j : Nat), (rI i) → (∀ j, rI (f0 j)) → (∀ j, rI (f1 j)) → (rZ f2) → (∀ j, rI (f3 j)) → (∀ j, rI (f4 j)) → (i = (j : Int)) → (i ≤ s 22) → (f0 = md_pn W rch s j) → (ik = 0 ∨ (ik = 1 ∧ md_PC W (fun z => s (26 + z)) f3)) → s 22 - i < (n3 : Int) → G 0 0 17 [(0, .ref m0), (1, .int (iI w)), (2, .int (iI i))] [] [cO m0 10 [w_thrown, .ref m1, w_image, .ref m3, w_hasImage, w_act, w_spot, w_end, w_isWrong, w_open, .ref m10, .ref m11, .ref m12, .int (iI ik), .ref m14, w_first, w_order, w_bestOrder, w_rooms, w_leastUnlike, w_bodies, w_ran, w_kind, w_number, w_tellsV], cA K m1 922 f0, cA K m3 19 fr2, cA K m10 6 f1, cZ K m11 64 f2, cA K m12 36000 f3, cA K m14 6 f4] := by
      intro n3
      induction n3 with
      | zero => intro i f0 f1 f2 f3 f4 j r_i r_f0 r_f1 r_f2 r_f3 r_f4 hi hj hf hk3 hm17; exfalso; omega
      | succ n3 ih17 =>
        intro i f0 f1 f2 f3 f4 j r_i r_f0 r_f1 r_f2 r_f3 r_f4 hi hj hf hk3 hm17
        have hpa := md_pn_all (W := W) (rch := rch) hg hs (by omega) j (by omega)
        rw [← hf] at hpa
        have ho1 := hpa.2.2 22 (by omega)
        have ho4 := hpa.2.2 19 (by omega)
        refine g_iload_n (pc := 17) hC 2 dX10_done_17 rfl rfl ?_
        refine g_aload_n (pc := 18) hC 0 dX10_done_18 rfl rfl ?_
        refine g_get (pc := 19) hC 0 fl_X10_9 dX10_done_19 rfl rfl ?_
        refine g_bipush (pc := 22) hC (22) dX10_done_22 (by decide) ?_
        refine g_iald (pc := 24) hC 1 dX10_done_24 rfl (by omega) ?_
        have q4 := r_f0 22
        refine g_icmp_ge (pc := 25) hC 56 dX10_done_25 (by decide) (by omega) (by omega) (fun c25 => ?_) (fun c25 => ?_)
        · have hj9 : (s 22).toNat = j := by omega
          refine g_iconst (pc := 56) hC dX10_done_56 ?_
          refine g_istore_n (pc := 57) hC [(2, _), (0, _), (1, _)] dX10_done_57 rfl (by decide) rfl ?_
          refine g_iconst (pc := 58) hC dX10_done_58 ?_
          refine g_istore_n (pc := 59) hC [(3, _), (2, _), (0, _), (1, _)] dX10_done_59 rfl (by decide) rfl ?_
          have L60 : ∀ (n5 : Nat) (q : Int) (y : Int) (j2 : Nat), (rI q) → (rI y) → (q = (j2 : Int)) → (q ≤ s 19) → (y = md_ss f0 j2) → s 19 - q < (n5 : Int) → G 0 0 60 [(0, .ref m0), (1, .int (iI w)), (2, .int (iI y)), (3, .int (iI q))] [] [cO m0 10 [w_thrown, .ref m1, w_image, .ref m3, w_hasImage, w_act, w_spot, w_end, w_isWrong, w_open, .ref m10, .ref m11, .ref m12, .int (iI ik), .ref m14, w_first, w_order, w_bestOrder, w_rooms, w_leastUnlike, w_bodies, w_ran, w_kind, w_number, w_tellsV], cA K m1 922 f0, cA K m3 19 fr2, cA K m10 6 f1, cZ K m11 64 f2, cA K m12 36000 f3, cA K m14 6 f4] := by
            intro n5
            induction n5 with
            | zero => intro q y j2 r_q r_y hq hq2 hy hm60; exfalso; omega
            | succ n5 ih60 =>
              intro q y j2 r_q r_y hq hq2 hy hm60
              have hss := md_ss_rng hpa.1 j2 (by omega)
              refine g_iload_n (pc := 60) hC 3 dX10_done_60 rfl rfl ?_
              refine g_aload_n (pc := 61) hC 0 dX10_done_61 rfl rfl ?_
              refine g_get (pc := 62) hC 0 fl_X10_9 dX10_done_62 rfl rfl ?_
              refine g_bipush (pc := 65) hC (19) dX10_done_65 (by decide) ?_
              refine g_iald (pc := 67) hC 1 dX10_done_67 rfl (by omega) ?_
              have q6 := r_f0 19
              refine g_icmp_ge (pc := 68) hC 88 dX10_done_68 (by decide) (by omega) (by omega) (fun c68 => ?_) (fun c68 => ?_)
              · refine g_iload_n (pc := 88) hC 1 dX10_done_88 rfl rfl ?_
                refine g_if_ne (pc := 89) hC 99 dX10_done_89 (by decide) (by omega) (fun c89 => ?_) (fun c89 => ?_)
                · refine g_iload_n (pc := 99) hC 2 dX10_done_99 rfl rfl ?_
                  refine g_istore_n (pc := 100) hC [(3, _), (0, _), (1, _), (2, _)] dX10_done_100 rfl (by decide) rfl ?_
                  refine g_aload_n (pc := 101) hC 1 dX10_done_101 rfl rfl ?_
                  refine g_callV (pc := 102) (qr := 0) hC [0, 1, 2] (k_X10_goesBack _ _ _ _ _ _ _ _ _ _ _ _ _ _ _ _ _ _ _ _ _ _ _ _ _ _ _ _ (by first | assumption | omega) (by first | assumption | omega)) cl_X10_goesBack wm_X10_178 dX10_done_102 rfl rfl rfl rfl rfl (by decide) (by decide) (by omega) (Nat.le_of_ble_eq_true rfl) rfl (fun v9 w9 hq9 => ?_)
                  obtain ⟨s3, rfl, rfl, r_s3, hb_102⟩ := hq9
                  refine g_ws hC [cO m0 10 [w_thrown, .ref m1, w_image, .ref m3, w_hasImage, w_act, w_spot, w_end, w_isWrong, w_open, .ref m10, .ref m11, .ref m12, .int (iI ik), .ref m14, w_first, w_order, w_bestOrder, w_rooms, w_leastUnlike, w_bodies, w_ran, w_kind, w_number, w_tellsV], cA K m1 922 s3, cA K m3 19 fr2, cA K m10 6 f1, cZ K m11 64 f2, cA K m12 36000 f3, cA K m14 6 f4] rfl ?_
                  refine g_st hC [] rfl ?_
                  rw [show (s3 : Int → Int) = s from (md_back hkp hpa.2.2 hb_102)]
                  refine g_iload_n (pc := 105) hC 0 dX10_done_105 rfl rfl ?_
                  exact g_iret (pc := 106) hR dX10_done_106 rfl ⟨by omega, by omega⟩ (Nat.le_of_ble_eq_true rfl) ⟨fr2, f1, f2, f3, f4, ret_eq (by unfold an_done; rw [if_pos (by omega), if_neg (by omega), hj9, ← hf, hy, show (s 19).toNat = j2 by omega] <;> assumption), rfl, (by first | assumption | omega), (by first | assumption | omega), (by first | assumption | omega), (by first | assumption | omega), (by first | assumption | omega), (by assumption)⟩
                · refine g_aload_n (pc := 92) hC 0 dX10_done_92 rfl rfl ?_
                  refine g_fnV (pc := 93) (qr := 0) hC [0, 1] (k_X10_unlike _ _ _ _ _ _ _ _ _ _ _ _ _ _ _ _ _ _ _ _ _ _ _ _ _ _ _ (by first | assumption | omega) hpa.1) cl_X10_unlike wm_X10_172 dX10_done_93 rfl rfl rfl rfl rfl (by decide) (by decide) ⟨by omega, by omega⟩ (Nat.le_of_ble_eq_true rfl) rfl rfl ?_
                  refine g_name hC (fun x7 e_x7 => ?_)
                  have q_x7 : 0 ≤ x7 ∧ x7 ≤ 10 := by rw [e_x7]; exact md_unl_rng _
                  refine g_goto (pc := 96) hC 100 dX10_done_96 (by decide) ?_
                  refine g_istore_n (pc := 100) hC [(3, _), (0, _), (1, _), (2, _)] dX10_done_100 rfl (by decide) rfl ?_
                  refine g_aload_n (pc := 101) hC 1 dX10_done_101 rfl rfl ?_
                  refine g_callV (pc := 102) (qr := 0) hC [0, 1, 2] (k_X10_goesBack _ _ _ _ _ _ _ _ _ _ _ _ _ _ _ _ _ _ _ _ _ _ _ _ _ _ _ _ (by first | assumption | omega) (by first | assumption | omega)) cl_X10_goesBack wm_X10_178 dX10_done_102 rfl rfl rfl rfl rfl (by decide) (by decide) (by omega) (Nat.le_of_ble_eq_true rfl) rfl (fun v9 w9 hq9 => ?_)
                  obtain ⟨s3, rfl, rfl, r_s3, hb_102⟩ := hq9
                  refine g_ws hC [cO m0 10 [w_thrown, .ref m1, w_image, .ref m3, w_hasImage, w_act, w_spot, w_end, w_isWrong, w_open, .ref m10, .ref m11, .ref m12, .int (iI ik), .ref m14, w_first, w_order, w_bestOrder, w_rooms, w_leastUnlike, w_bodies, w_ran, w_kind, w_number, w_tellsV], cA K m1 922 s3, cA K m3 19 fr2, cA K m10 6 f1, cZ K m11 64 f2, cA K m12 36000 f3, cA K m14 6 f4] rfl ?_
                  refine g_st hC [] rfl ?_
                  rw [show (s3 : Int → Int) = s from (md_back hkp hpa.2.2 hb_102)]
                  refine g_iload_n (pc := 105) hC 0 dX10_done_105 rfl rfl ?_
                  exact g_iret (pc := 106) hR dX10_done_106 rfl ⟨by omega, by omega⟩ (Nat.le_of_ble_eq_true rfl) ⟨fr2, f1, f2, f3, f4, ret_eq (by unfold an_done; rw [if_pos (by omega), if_pos (by omega), hj9, ← hf] <;> assumption), rfl, (by first | assumption | omega), (by first | assumption | omega), (by first | assumption | omega), (by first | assumption | omega), (by first | assumption | omega), (by assumption)⟩
              · have hgq := hpa.1.1 q (by omega) (by omega)
                refine g_iload_n (pc := 71) hC 2 dX10_done_71 rfl rfl ?_
                refine g_aload_n (pc := 72) hC 0 dX10_done_72 rfl rfl ?_
                refine g_get (pc := 73) hC 0 fl_X10_9 dX10_done_73 rfl rfl ?_
                refine g_iconst (pc := 76) hC dX10_done_76 ?_
                refine g_iload_n (pc := 77) hC 3 dX10_done_77 rfl rfl ?_
                refine g_iadd (pc := 78) hC dX10_done_78 ?_
                refine g_iald (pc := 79) hC 1 dX10_done_79 rfl (by omega) ?_
                have q8 := r_f0 (1 + q)
                refine g_iadd (pc := 80) hC dX10_done_80 ?_
                refine g_istore_n (pc := 81) hC [(2, _), (0, _), (1, _), (3, _)] dX10_done_81 rfl (by decide) rfl ?_
                refine g_iinc (pc := 82) hC 3 [(3, _), (2, _), (0, _), (1, _)] dX10_done_82 rfl (by decide) rfl ?_
                refine g_goto (pc := 85) hC 60 dX10_done_85 (by decide) ?_
                refine g_lv hC [2, 3, 1, 0] [(0, _), (1, _), (2, _), (3, _)] rfl ?_
                exact ih60 (q + 1) (y + (f0 (1 + q))) (j2 + 1) (by first | assumption | omega) (by first | assumption | omega) (by first | assumption | omega) (by first | assumption | omega) (by rw [hy, hq]; rfl) (by omega)
          refine g_lv hC [2, 3, 1, 0] [(0, _), (1, _), (2, _), (3, _)] rfl ?_
          exact L60 ((s 19 - 0 : Int).toNat + 1) 0 0 0 (by first | assumption | omega) (by first | assumption | omega) (by first | assumption | omega) (by first | assumption | omega) rfl (by omega)
        · have ho2 := hpa.2.2 (80 + i) (by omega)
          have ho3 := hpa.2.2 (88 + i) (by omega)
          have hpk := hpl9.2.2 i (by omega) (by omega)
          have hTj : md_TK f0 W rch := md_TKs (fun z hz => hpa.2.2 z (by omega)) hT
          have hkj : ∀ u : Int → Int, md_PC W (fun z => f0 (26 + z)) u ↔ md_PC W (fun z => s (26 + z)) u := by
            intro u
            exact md_PC_kd (fun z hz hz2 => hpa.2.2 _ (by omega))
          refine g_aload_n (pc := 28) hC 0 dX10_done_28 rfl rfl ?_
          refine g_aload_n (pc := 29) hC 0 dX10_done_29 rfl rfl ?_
          refine g_get (pc := 30) hC 0 fl_X10_9 dX10_done_30 rfl rfl ?_
          refine g_bipush (pc := 33) hC (80) dX10_done_33 (by decide) ?_
          refine g_iload_n (pc := 35) hC 2 dX10_done_35 rfl rfl ?_
          refine g_iadd (pc := 36) hC dX10_done_36 ?_
          refine g_iald (pc := 37) hC 1 dX10_done_37 rfl (by omega) ?_
          have q9 := r_f0 (80 + i)
          refine g_aload_n (pc := 38) hC 0 dX10_done_38 rfl rfl ?_
          refine g_get (pc := 39) hC 0 fl_X10_9 dX10_done_39 rfl rfl ?_
          refine g_bipush (pc := 42) hC (88) dX10_done_42 (by decide) ?_
          refine g_iload_n (pc := 44) hC 2 dX10_done_44 rfl rfl ?_
          refine g_iadd (pc := 45) hC dX10_done_45 ?_
          refine g_iald (pc := 46) hC 1 dX10_done_46 rfl (by omega) ?_
          have q10 := r_f0 (88 + i)
          refine g_callV (pc := 47) (qr := 0) hC [0, 1, 3, 4, 5, 6] (k_X10_goesBy _ _ _ _ _ _ _ _ _ _ _ _ _ _ _ _ _ _ _ _ _ _ _ _ _ _ _ _ _ _ _ _ _ _ _ (by first | assumption | omega) (by first | assumption | omega) (by first | assumption | omega) (by first | assumption | omega) (by first | assumption | omega) (by first | assumption | omega) (by first | assumption | omega) (by first | assumption | omega) (by rw [ho2, ho3, ho4]; exact hpk) hpa.1 (by omega) hTj (by rw [hkj]; exact hk3)) cl_X10_goesBy wm_X10_232 dX10_done_47 rfl rfl rfl rfl rfl (by decide) (by decide) (by omega) (Nat.le_of_ble_eq_true rfl) rfl (fun v9 w9 hq9 => ?_)
          obtain ⟨t1, fb11, ft12, fu13, fn14, rfl, rfl, r_t1, r_fb11, r_ft12, r_fu13, r_fn14, hs2_47, hk2_47⟩ := hq9
          refine g_ws hC [cO m0 10 [w_thrown, .ref m1, w_image, .ref m3, w_hasImage, w_act, w_spot, w_end, w_isWrong, w_open, .ref m10, .ref m11, .ref m12, .int (iI ik), .ref m14, w_first, w_order, w_bestOrder, w_rooms, w_leastUnlike, w_bodies, w_ran, w_kind, w_number, w_tellsV], cA K m1 922 t1, cA K m3 19 fr2, cA K m10 6 fb11, cZ K m11 64 ft12, cA K m12 36000 fu13, cA K m14 6 fn14] rfl ?_
          refine g_st hC [] rfl ?_
          refine g_iinc (pc := 50) hC 2 [(2, _), (0, _), (1, _)] dX10_done_50 rfl (by decide) rfl ?_
          refine g_goto (pc := 53) hC 17 dX10_done_53 (by decide) ?_
          refine g_lv hC [1, 2, 0] [(0, _), (1, _), (2, _)] rfl ?_
          exact ih17 (i + 1) t1 fb11 ft12 fu13 fn14 (j + 1) (by first | assumption | omega) (by first | assumption | omega) (by first | assumption | omega) (by first | assumption | omega) (by first | assumption | omega) (by first | assumption | omega) (by first | assumption | omega) (by first | assumption | omega) (by rw [hs2_47, ho2, ho3, hf, hi]; rfl) (by rw [hkj] at hk2_47; exact hk2_47) (by omega)
    refine g_lv hC [1, 2, 0] [(0, _), (1, _), (2, _)] rfl ?_
    exact L17 ((s 22 - 0 : Int).toNat + 1) 0 s fb ft fu fn 0 (by first | assumption | omega) (by first | assumption | omega) (by first | assumption | omega) (by first | assumption | omega) (by first | assumption | omega) (by first | assumption | omega) (by first | assumption | omega) (by first | assumption | omega) rfl (by first | assumption | omega) (by omega)
  · refine g_iconst (pc := 9) hC dX10_done_9 ?_
    exact g_iret (pc := 10) hR dX10_done_10 rfl ⟨by omega, by omega⟩ (Nat.le_of_ble_eq_true rfl) ⟨fr, fb, ft, fu, fn, ret_eq (by unfold an_done; rw [if_neg (by omega)]), rfl, (by first | assumption | omega), (by first | assumption | omega), (by first | assumption | omega), (by first | assumption | omega), (by first | assumption | omega), (by assumption)⟩
set_option maxHeartbeats 4000000 in
set_option maxRecDepth 100000 in
theorem k_X10_book {K : gK} (m0 : Nat) (m1 : Nat) (w_thrown : Value) (w_image : Value) (w_frame : Value) (w_hasImage : Value) (w_act : Value) (w_spot : Value) (w_end : Value) (w_isWrong : Value) (w_open : Value) (w_by : Value) (w_truths : Value) (w_pulls : Value) (w_isKeeping : Value) (w_next : Value) (w_first : Value) (w_order : Value) (w_bestOrder : Value) (w_rooms : Value) (w_leastUnlike : Value) (w_bodies : Value) (w_ran : Value) (w_kind : Value) (w_number : Value) (w_tellsV : Value) (p : Int) (x : Int) (s : Int → Int) (r_p : rI p) (r_x : rI x) (r_s : ∀ j, rI (s j)) (hg : md_rg s) (hs : md_rs s) : gMet K yX10_book cX10_book 3 (some .int) 2 0 0 [.ref m0, .int (iI p), .int (iI x)] [cO m0 10 [w_thrown, .ref m1, w_image, w_frame, w_hasImage, w_act, w_spot, w_end, w_isWrong, w_open, w_by, w_truths, w_pulls, w_isKeeping, w_next, w_first, w_order, w_bestOrder, w_rooms, w_leastUnlike, w_bodies, w_ran, w_kind, w_number, w_tellsV], cA K m1 922 s] (fun v9 w9 => ∃ (s2 : Int → Int), v9 = some (.int (iI (an_book s p x))) ∧ w9 = [cO m0 10 [w_thrown, .ref m1, w_image, w_frame, w_hasImage, w_act, w_spot, w_end, w_isWrong, w_open, w_by, w_truths, w_pulls, w_isKeeping, w_next, w_first, w_order, w_bestOrder, w_rooms, w_leastUnlike, w_bodies, w_ran, w_kind, w_number, w_tellsV], cA K m1 922 s2] ∧ (∀ j, rI (s2 j)) ∧ (s2 = ne_book s p x)) := by
  refine g_enter (by decide +kernel) (Nat.le_of_ble_eq_true rfl) (fun G hC hR => ?_)
  refine g_lv hC [0, 1, 2] [(0, _), (1, _), (2, _)] rfl ?_
  have hg0 := hg.2.2.2
  have h19 := hg.2.2.1
  have hs1 := hs.2.2.1
  refine g_iload_n (pc := 0) hC 1 dX10_book_0 rfl rfl ?_
  refine g_iconst (pc := 1) hC dX10_book_1 ?_
  refine g_icmp_ne (pc := 2) hC 15 dX10_book_2 (by decide) (by omega) (by omega) (fun c2 => ?_) (fun c2 => ?_)
  · refine g_aload_n (pc := 15) hC 0 dX10_book_15 rfl rfl ?_
    refine g_iload_n (pc := 16) hC 1 dX10_book_16 rfl rfl ?_
    refine g_fnV (pc := 17) (qr := 0) hC [0, 1] (k_X10_isMan _ _ _ _ _ _ _ _ _ _ _ _ _ _ _ _ _ _ _ _ _ _ _ _ _ _ _ _ (by first | assumption | omega) (by first | assumption | omega) (by first | assumption | omega)) cl_X10_isMan wm_X10_159 dX10_book_17 rfl rfl rfl rfl rfl (by decide) (by decide) ⟨by omega, by omega⟩ (Nat.le_of_ble_eq_true rfl) rfl rfl ?_
    refine g_name hC (fun x1 e_x1 => ?_)
    refine g_if_eq (pc := 20) hC 30 dX10_book_20 (by decide) (by omega) (fun c20 => ?_) (fun c20 => ?_)
    · refine g_iconst (pc := 30) hC dX10_book_30 ?_
      exact g_iret (pc := 31) hR dX10_book_31 rfl ⟨by omega, by omega⟩ (Nat.le_of_ble_eq_true rfl) ⟨s, ret_eq (by unfold an_book; (repeat' split) <;> omega), rfl, (by first | assumption | omega), (by unfold ne_book; rw [if_neg (by omega), if_neg (by omega)])⟩
    · refine g_iload_n (pc := 23) hC 2 dX10_book_23 rfl rfl ?_
      refine g_fnS (pc := 24) hC [] (k_X10_isDigit _ (by first | assumption | omega)) cl_X10_isDigit wm_X10_155 dX10_book_24 rfl rfl (by decide) (by decide) ⟨by omega, by omega⟩ (Nat.le_of_ble_eq_true rfl) rfl rfl ?_
      refine g_name hC (fun x2 e_x2 => ?_)
      refine g_if_ne (pc := 27) hC 32 dX10_book_27 (by decide) (by omega) (fun c27 => ?_) (fun c27 => ?_)
      · refine g_aload_n (pc := 32) hC 0 dX10_book_32 rfl rfl ?_
        refine g_get (pc := 33) hC 0 fl_X10_9 dX10_book_33 rfl rfl ?_
        refine g_bipush (pc := 36) hC (23) dX10_book_36 (by decide) ?_
        refine g_iald (pc := 38) hC 1 dX10_book_38 rfl (by omega) ?_
        have q3 := r_s 23
        refine g_bipush (pc := 39) hC (8) dX10_book_39 (by decide) ?_
        refine g_icmp_ne (pc := 41) hC 47 dX10_book_41 (by decide) (by omega) (by omega) (fun c41 => ?_) (fun c41 => ?_)
        · refine g_aload_n (pc := 47) hC 0 dX10_book_47 rfl rfl ?_
          refine g_get (pc := 48) hC 0 fl_X10_9 dX10_book_48 rfl rfl ?_
          refine g_bipush (pc := 51) hC (96) dX10_book_51 (by decide) ?_
          refine g_aload_n (pc := 53) hC 0 dX10_book_53 rfl rfl ?_
          refine g_get (pc := 54) hC 0 fl_X10_9 dX10_book_54 rfl rfl ?_
          refine g_bipush (pc := 57) hC (23) dX10_book_57 (by decide) ?_
          refine g_iald (pc := 59) hC 1 dX10_book_59 rfl (by omega) ?_
          have q4 := r_s 23
          refine g_iadd (pc := 60) hC dX10_book_60 ?_
          refine g_iload_n (pc := 61) hC 1 dX10_book_61 rfl rfl ?_
          refine g_iast (pc := 62) hC 1 (fun f9 => [_, cA K _ _ f9]) dX10_book_62 rfl (by omega) (fun _ => rfl) (fun s4 e_s4 => ?_)
          have r_s4 := rng_up e_s4 r_s (by omega)
          have t4 : s4 23 = s 23 := by rw [e_s4]; exact upI_ne (by omega)
          refine g_aload_n (pc := 63) hC 0 dX10_book_63 rfl rfl ?_
          refine g_get (pc := 64) hC 0 fl_X10_9 dX10_book_64 rfl rfl ?_
          refine g_bipush (pc := 67) hC (104) dX10_book_67 (by decide) ?_
          refine g_aload_n (pc := 69) hC 0 dX10_book_69 rfl rfl ?_
          refine g_get (pc := 70) hC 0 fl_X10_9 dX10_book_70 rfl rfl ?_
          refine g_bipush (pc := 73) hC (23) dX10_book_73 (by decide) ?_
          refine g_iald (pc := 75) hC 1 dX10_book_75 rfl (by omega) ?_
          have q5 := r_s4 23
          refine g_iadd (pc := 76) hC dX10_book_76 ?_
          refine g_iload_n (pc := 77) hC 2 dX10_book_77 rfl rfl ?_
          refine g_iast (pc := 78) hC 1 (fun f9 => [_, cA K _ _ f9]) dX10_book_78 rfl (by omega) (fun _ => rfl) (fun s5 e_s5 => ?_)
          have r_s5 := rng_up e_s5 r_s4 (by omega)
          have t5 : s5 23 = s 23 := by rw [e_s5, t4]; rw [← t4]; exact upI_ne (by omega)
          refine g_aload_n (pc := 79) hC 0 dX10_book_79 rfl rfl ?_
          refine g_get (pc := 80) hC 0 fl_X10_9 dX10_book_80 rfl rfl ?_
          refine g_bipush (pc := 83) hC (23) dX10_book_83 (by decide) ?_
          refine g_dup2 (pc := 85) hC dX10_book_85 rfl rfl ?_
          refine g_iald (pc := 86) hC 1 dX10_book_86 rfl (by omega) ?_
          have q6 := r_s5 23
          refine g_iconst (pc := 87) hC dX10_book_87 ?_
          refine g_iadd (pc := 88) hC dX10_book_88 ?_
          refine g_iast (pc := 89) hC 1 (fun f9 => [_, cA K _ _ f9]) dX10_book_89 rfl (by omega) (fun _ => rfl) (fun s7 e_s7 => ?_)
          have r_s7 := rng_up e_s7 r_s5 (by omega)
          have t7 : s7 23 = s 23 + 1 := by rw [e_s7, t5]; exact upI_at _ _ _
          refine g_aload_n (pc := 90) hC 0 dX10_book_90 rfl rfl ?_
          refine g_get (pc := 91) hC 0 fl_X10_9 dX10_book_91 rfl rfl ?_
          refine g_bipush (pc := 94) hC (23) dX10_book_94 (by decide) ?_
          refine g_iald (pc := 96) hC 1 dX10_book_96 rfl (by omega) ?_
          have q7 := r_s7 23
          exact g_iret (pc := 97) hR dX10_book_97 rfl ⟨by omega, by omega⟩ (Nat.le_of_ble_eq_true rfl) ⟨s7, ret_eq (by unfold an_book; (repeat' split) <;> omega), rfl, (by first | assumption | omega), (by unfold ne_book; rw [if_neg (by omega), if_pos (by omega), e_s7, t5, e_s5, t4, e_s4])⟩
        · refine g_bipush (pc := 44) hC (-4) dX10_book_44 (by decide) ?_
          exact g_iret (pc := 46) hR dX10_book_46 rfl ⟨by omega, by omega⟩ (Nat.le_of_ble_eq_true rfl) ⟨s, ret_eq (by unfold an_book; (repeat' split) <;> omega), rfl, (by first | assumption | omega), (by unfold ne_book; rw [if_neg (by omega), if_neg (by omega)])⟩
      · refine g_iconst (pc := 30) hC dX10_book_30 ?_
        exact g_iret (pc := 31) hR dX10_book_31 rfl ⟨by omega, by omega⟩ (Nat.le_of_ble_eq_true rfl) ⟨s, ret_eq (by unfold an_book; (repeat' split) <;> omega), rfl, (by first | assumption | omega), (by unfold ne_book; rw [if_neg (by omega), if_neg (by omega)])⟩
  · refine g_aload_n (pc := 5) hC 0 dX10_book_5 rfl rfl ?_
    refine g_get (pc := 6) hC 0 fl_X10_9 dX10_book_6 rfl rfl ?_
    refine g_bipush (pc := 9) hC (23) dX10_book_9 (by decide) ?_
    refine g_iconst (pc := 11) hC dX10_book_11 ?_
    refine g_iast (pc := 12) hC 1 (fun f9 => [_, cA K _ _ f9]) dX10_book_12 rfl (by omega) (fun _ => rfl) (fun s3 e_s3 => ?_)
    have r_s3 := rng_up e_s3 r_s (by omega)
    refine g_iconst (pc := 13) hC dX10_book_13 ?_
    exact g_iret (pc := 14) hR dX10_book_14 rfl ⟨by omega, by omega⟩ (Nat.le_of_ble_eq_true rfl) ⟨s3, ret_eq (by unfold an_book; (repeat' split) <;> omega), rfl, (by first | assumption | omega), (by unfold ne_book; rw [if_pos (by omega), e_s3])⟩
set_option maxHeartbeats 4000000 in
set_option maxRecDepth 100000 in
theorem k_X10_looked {K : gK} (m0 : Nat) (m1 : Nat) (w_thrown : Value) (w_image : Value) (w_frame : Value) (w_hasImage : Value) (w_act : Value) (w_spot : Value) (w_end : Value) (w_isWrong : Value) (w_open : Value) (w_by : Value) (w_truths : Value) (w_pulls : Value) (w_isKeeping : Value) (w_next : Value) (w_first : Value) (w_order : Value) (w_bestOrder : Value) (w_rooms : Value) (w_leastUnlike : Value) (w_bodies : Value) (w_ran : Value) (w_kind : Value) (w_number : Value) (w_tellsV : Value) (s : Int → Int) (r_s : ∀ j, rI (s j)) (hg : md_rg s) (hs : md_rs s) : gFn K yX10_looked cX10_looked 2 (some .int) 0 [.ref m0] [cO m0 10 [w_thrown, .ref m1, w_image, w_frame, w_hasImage, w_act, w_spot, w_end, w_isWrong, w_open, w_by, w_truths, w_pulls, w_isKeeping, w_next, w_first, w_order, w_bestOrder, w_rooms, w_leastUnlike, w_bodies, w_ran, w_kind, w_number, w_tellsV], cA K m1 922 s] (an_looked s) := by
  refine g_enter (by decide +kernel) (Nat.le_of_ble_eq_true rfl) (fun G hC hR => ?_)
  refine g_lv hC [0] [(0, _)] rfl ?_
  have hg0 := hg.2.2.2
  have h19 := hg.2.2.1
  have hs1 := hs.2.2.1
  refine g_iconst (pc := 0) hC dX10_looked_0 ?_
  refine g_istore_n (pc := 1) hC [(1, _), (0, _)] dX10_looked_1 rfl (by decide) rfl ?_
  have L2 : ∀ (n1 : Nat) (i : Int) (j : Nat), (rI i) → (i = (j : Int)) → (i ≤ s 23) → (md_lk s j = -5) → s 23 - i < (n1 : Int) → G 0 0 2 [(0, .ref m0), (1, .int (iI i))] [] [cO m0 10 [w_thrown, .ref m1, w_image, w_frame, w_hasImage, w_act, w_spot, w_end, w_isWrong, w_open, w_by, w_truths, w_pulls, w_isKeeping, w_next, w_first, w_order, w_bestOrder, w_rooms, w_leastUnlike, w_bodies, w_ran, w_kind, w_number, w_tellsV], cA K m1 922 s] := by
    intro n1
    induction n1 with
    | zero => intro i j r_i hi hj hx hm2; exfalso; omega
    | succ n1 ih2 =>
      intro i j r_i hi hj hx hm2
      refine g_iload_n (pc := 2) hC 1 dX10_looked_2 rfl rfl ?_
      refine g_aload_n (pc := 3) hC 0 dX10_looked_3 rfl rfl ?_
      refine g_get (pc := 4) hC 0 fl_X10_9 dX10_looked_4 rfl rfl ?_
      refine g_bipush (pc := 7) hC (23) dX10_looked_7 (by decide) ?_
      refine g_iald (pc := 9) hC 1 dX10_looked_9 rfl (by omega) ?_
      have q2 := r_s 23
      refine g_icmp_ge (pc := 10) hC 49 dX10_looked_10 (by decide) (by omega) (by omega) (fun c10 => ?_) (fun c10 => ?_)
      · refine g_bipush (pc := 49) hC (-5) dX10_looked_49 (by decide) ?_
        exact g_iret (pc := 51) hR dX10_looked_51 rfl ⟨by omega, by omega⟩ (Nat.le_of_ble_eq_true rfl) ⟨ret_eq (by unfold an_looked; rw [show (s 23).toNat = j by omega, hx]), rfl⟩
      · have hbk := hs1.2.2 i (by omega) (by omega)
        refine g_aload_n (pc := 13) hC 0 dX10_looked_13 rfl rfl ?_
        refine g_get (pc := 14) hC 0 fl_X10_9 dX10_looked_14 rfl rfl ?_
        refine g_iconst (pc := 17) hC dX10_looked_17 ?_
        refine g_aload_n (pc := 18) hC 0 dX10_looked_18 rfl rfl ?_
        refine g_get (pc := 19) hC 0 fl_X10_9 dX10_looked_19 rfl rfl ?_
        refine g_bipush (pc := 22) hC (96) dX10_looked_22 (by decide) ?_
        refine g_iload_n (pc := 24) hC 1 dX10_looked_24 rfl rfl ?_
        refine g_iadd (pc := 25) hC dX10_looked_25 ?_
        refine g_iald (pc := 26) hC 1 dX10_looked_26 rfl (by omega) ?_
        have q3 := r_s (96 + i)
        refine g_iadd (pc := 27) hC dX10_looked_27 ?_
        refine g_iald (pc := 28) hC 1 dX10_looked_28 rfl (by omega) ?_
        have q4 := r_s (1 + (s (96 + i)))
        refine g_aload_n (pc := 29) hC 0 dX10_looked_29 rfl rfl ?_
        refine g_get (pc := 30) hC 0 fl_X10_9 dX10_looked_30 rfl rfl ?_
        refine g_bipush (pc := 33) hC (104) dX10_looked_33 (by decide) ?_
        refine g_iload_n (pc := 35) hC 1 dX10_looked_35 rfl rfl ?_
        refine g_iadd (pc := 36) hC dX10_looked_36 ?_
        refine g_iald (pc := 37) hC 1 dX10_looked_37 rfl (by omega) ?_
        have q5 := r_s (104 + i)
        refine g_icmp_eq (pc := 38) hC 43 dX10_looked_38 (by decide) (by omega) (by omega) (fun c38 => ?_) (fun c38 => ?_)
        · refine g_iinc (pc := 43) hC 1 [(1, _), (0, _)] dX10_looked_43 rfl (by decide) rfl ?_
          refine g_goto (pc := 46) hC 2 dX10_looked_46 (by decide) ?_
          refine g_lv hC [1, 0] [(0, _), (1, _)] rfl ?_
          exact ih2 (i + 1) (j + 1) (by first | assumption | omega) (by first | assumption | omega) (by first | assumption | omega) (by unfold md_lk; rw [if_pos hx, ← hi, if_pos c38]) (by omega)
        · refine g_iload_n (pc := 41) hC 1 dX10_looked_41 rfl rfl ?_
          exact g_iret (pc := 42) hR dX10_looked_42 rfl ⟨by omega, by omega⟩ (Nat.le_of_ble_eq_true rfl) ⟨ret_eq (md_lkD hi (by omega) hx c38), rfl⟩
  refine g_lv hC [1, 0] [(0, _), (1, _)] rfl ?_
  exact L2 ((s 23 - 0 : Int).toNat + 1) 0 0 (by first | assumption | omega) (by first | assumption | omega) (by first | assumption | omega) rfl (by omega)
set_option maxHeartbeats 4000000 in
set_option maxRecDepth 100000 in
theorem k_X10_isUnder {K : gK} (kd : Int) (k : Int) (r_kd : rI kd) (r_k : rI k) : gFn K yX10_isUnder cX10_isUnder 2 (some .boolean) 0 [.int (iI kd), .int (iI k)] [] (ac_un kd k) := by
  refine g_enter (by decide +kernel) (Nat.le_of_ble_eq_true rfl) (fun G hC hR => ?_)
  refine g_lv hC [0, 1] [(0, _), (1, _)] rfl ?_
  refine g_iload_n (pc := 0) hC 1 dX10_isUnder_0 rfl rfl ?_
  refine g_if_eq (pc := 1) hC 25 dX10_isUnder_1 (by decide) (by omega) (fun c1 => ?_) (fun c1 => ?_)
  · refine g_iconst (pc := 25) hC dX10_isUnder_25 ?_
    refine g_goto (pc := 26) hC 30 dX10_isUnder_26 (by decide) ?_
    exact g_zret (pc := 30) hR dX10_isUnder_30 rfl (by omega) ⟨by omega, by omega⟩ (Nat.le_of_ble_eq_true rfl) ⟨ret_eq (by unfold ac_un; (repeat' split) <;> omega), rfl⟩
  · refine g_iload_n (pc := 4) hC 1 dX10_isUnder_4 rfl rfl ?_
    refine g_iload_n (pc := 5) hC 0 dX10_isUnder_5 rfl rfl ?_
    refine g_icmp_eq (pc := 6) hC 25 dX10_isUnder_6 (by decide) (by omega) (by omega) (fun c6 => ?_) (fun c6 => ?_)
    · refine g_iconst (pc := 25) hC dX10_isUnder_25 ?_
      refine g_goto (pc := 26) hC 30 dX10_isUnder_26 (by decide) ?_
      exact g_zret (pc := 30) hR dX10_isUnder_30 rfl (by omega) ⟨by omega, by omega⟩ (Nat.le_of_ble_eq_true rfl) ⟨ret_eq (by unfold ac_un; (repeat' split) <;> omega), rfl⟩
    · refine g_iload_n (pc := 9) hC 1 dX10_isUnder_9 rfl rfl ?_
      refine g_if_le (pc := 10) hC 29 dX10_isUnder_10 (by decide) (by omega) (fun c10 => ?_) (fun c10 => ?_)
      · refine g_iconst (pc := 29) hC dX10_isUnder_29 ?_
        exact g_zret (pc := 30) hR dX10_isUnder_30 rfl (by omega) ⟨by omega, by omega⟩ (Nat.le_of_ble_eq_true rfl) ⟨ret_eq (by unfold ac_un; (repeat' split) <;> omega), rfl⟩
      · refine g_iload_n (pc := 13) hC 1 dX10_isUnder_13 rfl rfl ?_
        refine g_iconst (pc := 14) hC dX10_isUnder_14 ?_
        refine g_icmp_ge (pc := 15) hC 29 dX10_isUnder_15 (by decide) (by omega) (by omega) (fun c15 => ?_) (fun c15 => ?_)
        · refine g_iconst (pc := 29) hC dX10_isUnder_29 ?_
          exact g_zret (pc := 30) hR dX10_isUnder_30 rfl (by omega) ⟨by omega, by omega⟩ (Nat.le_of_ble_eq_true rfl) ⟨ret_eq (by unfold ac_un; (repeat' split) <;> omega), rfl⟩
        · refine g_iload_n (pc := 18) hC 0 dX10_isUnder_18 rfl rfl ?_
          refine g_iload_n (pc := 19) hC 1 dX10_isUnder_19 rfl rfl ?_
          refine g_iconst (pc := 20) hC dX10_isUnder_20 ?_
          refine g_iadd (pc := 21) hC dX10_isUnder_21 ?_
          refine g_icmp_ne (pc := 22) hC 29 dX10_isUnder_22 (by decide) (by omega) (by omega) (fun c22 => ?_) (fun c22 => ?_)
          · refine g_iconst (pc := 29) hC dX10_isUnder_29 ?_
            exact g_zret (pc := 30) hR dX10_isUnder_30 rfl (by omega) ⟨by omega, by omega⟩ (Nat.le_of_ble_eq_true rfl) ⟨ret_eq (by unfold ac_un; (repeat' split) <;> omega), rfl⟩
          · refine g_iconst (pc := 25) hC dX10_isUnder_25 ?_
            refine g_goto (pc := 26) hC 30 dX10_isUnder_26 (by decide) ?_
            exact g_zret (pc := 30) hR dX10_isUnder_30 rfl (by omega) ⟨by omega, by omega⟩ (Nat.le_of_ble_eq_true rfl) ⟨ret_eq (by unfold ac_un; (repeat' split) <;> omega), rfl⟩
set_option maxHeartbeats 4000000 in
set_option maxRecDepth 100000 in
theorem k_X10_ranBody {K : gK} (m0 : Nat) (m20 : Nat) (w_thrown : Value) (w_s : Value) (w_image : Value) (w_frame : Value) (w_hasImage : Value) (w_act : Value) (w_spot : Value) (w_end : Value) (w_isWrong : Value) (w_open : Value) (w_by : Value) (w_truths : Value) (w_pulls : Value) (w_isKeeping : Value) (w_next : Value) (w_first : Value) (w_order : Value) (w_bestOrder : Value) (w_rooms : Value) (w_leastUnlike : Value) (w_kind : Value) (w_number : Value) (w_tellsV : Value) (b : Int) (ran : Int) (bo : Int → Int) (hr : 0 ≤ ran ∧ ran ≤ 19) : gMet K yX10_ranBody cX10_ranBody 2 none 0 0 0 [.ref m0, .int (iI b)] [cO m0 10 [w_thrown, w_s, w_image, w_frame, w_hasImage, w_act, w_spot, w_end, w_isWrong, w_open, w_by, w_truths, w_pulls, w_isKeeping, w_next, w_first, w_order, w_bestOrder, w_rooms, w_leastUnlike, .ref m20, .int (iI ran), w_kind, w_number, w_tellsV], cA K m20 20 bo] (fun v9 w9 => ∃ (bo2 : Int → Int), ∃ (ran2 : Int), v9 = none ∧ w9 = [cO m0 10 [w_thrown, w_s, w_image, w_frame, w_hasImage, w_act, w_spot, w_end, w_isWrong, w_open, w_by, w_truths, w_pulls, w_isKeeping, w_next, w_first, w_order, w_bestOrder, w_rooms, w_leastUnlike, .ref m20, .int (iI ran2), w_kind, w_number, w_tellsV], cA K m20 20 bo2] ∧ ((bo2, ran2) = ac_p ([b]) (bo, ran)) ∧ (ran ≤ ran2 ∧ ran2 ≤ ran + 1)) := by
  refine g_enter (by decide +kernel) (Nat.le_of_ble_eq_true rfl) (fun G hC hR => ?_)
  refine g_lv hC [0, 1] [(0, _), (1, _)] rfl ?_
  refine g_aload_n (pc := 0) hC 0 dX10_ranBody_0 rfl rfl ?_
  refine g_get (pc := 1) hC 0 fl_X10_235 dX10_ranBody_1 rfl rfl ?_
  refine g_bipush (pc := 4) hC (20) dX10_ranBody_4 (by decide) ?_
  refine g_icmp_ge (pc := 6) hC 19 dX10_ranBody_6 (by decide) (by omega) (by omega) (fun c6 => by exfalso; omega) (fun c6 => ?_)
  refine g_aload_n (pc := 9) hC 0 dX10_ranBody_9 rfl rfl ?_
  refine g_get (pc := 10) hC 0 fl_X10_47 dX10_ranBody_10 rfl rfl ?_
  refine g_aload_n (pc := 13) hC 0 dX10_ranBody_13 rfl rfl ?_
  refine g_get (pc := 14) hC 0 fl_X10_235 dX10_ranBody_14 rfl rfl ?_
  refine g_iload_n (pc := 17) hC 1 dX10_ranBody_17 rfl rfl ?_
  refine g_iast (pc := 18) hC 1 (fun f9 => [_, cA K _ _ f9]) dX10_ranBody_18 rfl (by omega) (fun _ => rfl) (fun bo3 e_bo3 => ?_)
  refine g_aload_n (pc := 19) hC 0 dX10_ranBody_19 rfl rfl ?_
  refine g_dup (pc := 20) hC dX10_ranBody_20 rfl ?_
  refine g_get (pc := 21) hC 0 fl_X10_235 dX10_ranBody_21 rfl rfl ?_
  refine g_iconst (pc := 24) hC dX10_ranBody_24 ?_
  refine g_iadd (pc := 25) hC dX10_ranBody_25 ?_
  refine g_putI (pc := 26) hC 0 [cO _ _ [_, _, _, _, _, _, _, _, _, _, _, _, _, _, _, _, _, _, _, _, _, _, _, _, _], _] fl_X10_235 dX10_ranBody_26 rfl (Nat.le_of_ble_eq_true rfl) rfl ?_
  exact g_vret (pc := 29) hR dX10_ranBody_29 rfl ⟨by omega, by omega⟩ (Nat.le_of_ble_eq_true rfl) ⟨bo3, ran + 1, rfl, rfl, (by rw [e_bo3]; rfl), (by first | assumption | omega)⟩
set_option maxHeartbeats 4000000 in
set_option maxRecDepth 100000 in
theorem k_X10_plainBows {K : gK} (m0 : Nat) (m20 : Nat) (w_thrown : Value) (w_s : Value) (w_image : Value) (w_frame : Value) (w_hasImage : Value) (w_act : Value) (w_spot : Value) (w_end : Value) (w_isWrong : Value) (w_open : Value) (w_by : Value) (w_truths : Value) (w_pulls : Value) (w_isKeeping : Value) (w_next : Value) (w_first : Value) (w_order : Value) (w_bestOrder : Value) (w_rooms : Value) (w_leastUnlike : Value) (x : Int) (ran : Int) (kd : Int) (nb : Int) (tv : Int) (bo : Int → Int) (hr : 0 ≤ ran ∧ ran ≤ 18) (hkd : 0 ≤ kd ∧ kd ≤ 6) : gMet K yX10_plainBows cX10_plainBows 2 (some .int) 1 0 0 [.ref m0, .int (iI x)] [cO m0 10 [w_thrown, w_s, w_image, w_frame, w_hasImage, w_act, w_spot, w_end, w_isWrong, w_open, w_by, w_truths, w_pulls, w_isKeeping, w_next, w_first, w_order, w_bestOrder, w_rooms, w_leastUnlike, .ref m20, .int (iI ran), .int (iI kd), .int (iI nb), .int (iI tv)], cA K m20 20 bo] (fun v9 w9 => ∃ (bo2 : Int → Int), ∃ (ran2 : Int), v9 = some (.int (iI (x + nb))) ∧ w9 = [cO m0 10 [w_thrown, w_s, w_image, w_frame, w_hasImage, w_act, w_spot, w_end, w_isWrong, w_open, w_by, w_truths, w_pulls, w_isKeeping, w_next, w_first, w_order, w_bestOrder, w_rooms, w_leastUnlike, .ref m20, .int (iI ran2), .int (iI kd), .int (iI nb), .int (iI tv)], cA K m20 20 bo2] ∧ ((bo2, ran2) = ac_p ([1]) (bo, ran)) ∧ (ran ≤ ran2 ∧ ran2 ≤ ran + 1)) := by
  refine g_enter (by decide +kernel) (Nat.le_of_ble_eq_true rfl) (fun G hC hR => ?_)
  refine g_lv hC [0, 1] [(0, _), (1, _)] rfl ?_
  refine g_aload_n (pc := 0) hC 0 dX10_plainBows_0 rfl rfl ?_
  refine g_iconst (pc := 1) hC dX10_plainBows_1 ?_
  refine g_callV (pc := 2) (qr := 0) hC [0, 1] (k_X10_ranBody _ _ _ _ _ _ _ _ _ _ _ _ _ _ _ _ _ _ _ _ _ _ _ _ _ _ _ _ (by first | assumption | omega)) cl_X10_ranBody wm_X10_238 dX10_plainBows_2 rfl rfl rfl rfl rfl (by decide) (by decide) (by omega) (Nat.le_of_ble_eq_true rfl) rfl (fun v9 w9 hq9 => ?_)
  obtain ⟨bo1, ran2, rfl, rfl, hp_2, hn_2⟩ := hq9
  refine g_ws hC [cO m0 10 [w_thrown, w_s, w_image, w_frame, w_hasImage, w_act, w_spot, w_end, w_isWrong, w_open, w_by, w_truths, w_pulls, w_isKeeping, w_next, w_first, w_order, w_bestOrder, w_rooms, w_leastUnlike, .ref m20, .int (iI ran2), .int (iI kd), .int (iI nb), .int (iI tv)], cA K m20 20 bo1] rfl ?_
  refine g_st hC [] rfl ?_
  refine g_iload_n (pc := 5) hC 1 dX10_plainBows_5 rfl rfl ?_
  refine g_aload_n (pc := 6) hC 0 dX10_plainBows_6 rfl rfl ?_
  refine g_get (pc := 7) hC 0 fl_X10_241 dX10_plainBows_7 rfl rfl ?_
  refine g_iadd (pc := 10) hC dX10_plainBows_10 ?_
  exact g_iret (pc := 11) hR dX10_plainBows_11 rfl ⟨by omega, by omega⟩ (Nat.le_of_ble_eq_true rfl) ⟨bo1, ran2, ret_eq rfl, rfl, hp_2, (by first | assumption | omega)⟩
set_option maxHeartbeats 4000000 in
set_option maxRecDepth 100000 in
theorem k_X10_bowsActs {K : gK} (m0 : Nat) (m20 : Nat) (w_thrown : Value) (w_s : Value) (w_image : Value) (w_frame : Value) (w_hasImage : Value) (w_act : Value) (w_spot : Value) (w_end : Value) (w_isWrong : Value) (w_open : Value) (w_by : Value) (w_truths : Value) (w_pulls : Value) (w_isKeeping : Value) (w_next : Value) (w_first : Value) (w_order : Value) (w_bestOrder : Value) (w_rooms : Value) (w_leastUnlike : Value) (x : Int) (ran : Int) (kd : Int) (nb : Int) (tv : Int) (bo : Int → Int) (hr : 0 ≤ ran ∧ ran ≤ 16) (hkd : 0 ≤ kd ∧ kd ≤ 6) : gMet K yX10_bowsActs cX10_bowsActs 2 (some .int) 2 0 0 [.ref m0, .int (iI x)] [cO m0 10 [w_thrown, w_s, w_image, w_frame, w_hasImage, w_act, w_spot, w_end, w_isWrong, w_open, w_by, w_truths, w_pulls, w_isKeeping, w_next, w_first, w_order, w_bestOrder, w_rooms, w_leastUnlike, .ref m20, .int (iI ran), .int (iI kd), .int (iI nb), .int (iI tv)], cA K m20 20 bo] (fun v9 w9 => ∃ (bo2 : Int → Int), ∃ (ran2 : Int), v9 = some (.int (iI (ac_b kd nb x))) ∧ w9 = [cO m0 10 [w_thrown, w_s, w_image, w_frame, w_hasImage, w_act, w_spot, w_end, w_isWrong, w_open, w_by, w_truths, w_pulls, w_isKeeping, w_next, w_first, w_order, w_bestOrder, w_rooms, w_leastUnlike, .ref m20, .int (iI ran2), .int (iI kd), .int (iI nb), .int (iI tv)], cA K m20 20 bo2] ∧ ((bo2, ran2) = ac_p (ar_b kd) (bo, ran)) ∧ (ran ≤ ran2 ∧ ran2 ≤ ran + 2)) := by
  refine g_enter (by decide +kernel) (Nat.le_of_ble_eq_true rfl) (fun G hC hR => ?_)
  refine g_lv hC [0, 1] [(0, _), (1, _)] rfl ?_
  refine g_aload_n (pc := 0) hC 0 dX10_bowsActs_0 rfl rfl ?_
  refine g_get (pc := 1) hC 0 fl_X10_244 dX10_bowsActs_1 rfl rfl ?_
  refine g_iconst (pc := 4) hC dX10_bowsActs_4 ?_
  refine g_fnS (pc := 5) hC [] (k_X10_isUnder _ _ (by first | assumption | omega) (by first | assumption | omega)) cl_X10_isUnder wm_X10_247 dX10_bowsActs_5 rfl rfl (by decide) (by decide) ⟨by omega, by omega⟩ (Nat.le_of_ble_eq_true rfl) rfl rfl ?_
  refine g_name hC (fun x1 e_x1 => ?_)
  have q_x1 : x1 = 0 ∨ x1 = 1 := by rw [e_x1]; exact ac_un_01 _ _
  refine g_if_eq (pc := 8) hC 25 dX10_bowsActs_8 (by decide) (by omega) (fun c8 => ?_) (fun c8 => ?_)
  · refine g_aload_n (pc := 25) hC 0 dX10_bowsActs_25 rfl rfl ?_
    refine g_get (pc := 26) hC 0 fl_X10_244 dX10_bowsActs_26 rfl rfl ?_
    refine g_iconst (pc := 29) hC dX10_bowsActs_29 ?_
    refine g_icmp_ne (pc := 30) hC 50 dX10_bowsActs_30 (by decide) (by omega) (by omega) (fun c30 => ?_) (fun c30 => ?_)
    · refine g_aload_n (pc := 50) hC 0 dX10_bowsActs_50 rfl rfl ?_
      refine g_iload_n (pc := 51) hC 1 dX10_bowsActs_51 rfl rfl ?_
      refine g_callV (pc := 52) (qr := 0) hC [0, 1] (k_X10_plainBows _ _ _ _ _ _ _ _ _ _ _ _ _ _ _ _ _ _ _ _ _ _ _ _ _ _ _ _ (by first | assumption | omega) (by first | assumption | omega)) cl_X10_plainBows wm_X10_250 dX10_bowsActs_52 rfl rfl rfl rfl rfl (by decide) (by decide) (by omega) (Nat.le_of_ble_eq_true rfl) rfl (fun v9 w9 hq9 => ?_)
      obtain ⟨bo2, ran3, rfl, rfl, hp_52, hn_52⟩ := hq9
      refine g_ws hC [cO m0 10 [w_thrown, w_s, w_image, w_frame, w_hasImage, w_act, w_spot, w_end, w_isWrong, w_open, w_by, w_truths, w_pulls, w_isKeeping, w_next, w_first, w_order, w_bestOrder, w_rooms, w_leastUnlike, .ref m20, .int (iI ran3), .int (iI kd), .int (iI nb), .int (iI tv)], cA K m20 20 bo2] rfl ?_
      refine g_st hC [.int (iI (x + nb))] rfl ?_
      exact g_iret (pc := 55) hR dX10_bowsActs_55 rfl ⟨by omega, by omega⟩ (Nat.le_of_ble_eq_true rfl) ⟨bo2, ran3, ret_eq (by unfold ac_b; rw [if_neg (by omega), if_neg c30]), rfl, (by unfold ar_b; rw [if_neg (by omega), if_neg c30, hp_52]), (by first | assumption | omega)⟩
    · refine g_aload_n (pc := 33) hC 0 dX10_bowsActs_33 rfl rfl ?_
      refine g_bipush (pc := 34) hC (51) dX10_bowsActs_34 (by decide) ?_
      refine g_callV (pc := 36) (qr := 0) hC [0, 1] (k_X10_ranBody _ _ _ _ _ _ _ _ _ _ _ _ _ _ _ _ _ _ _ _ _ _ _ _ _ _ _ _ (by first | assumption | omega)) cl_X10_ranBody wm_X10_238 dX10_bowsActs_36 rfl rfl rfl rfl rfl (by decide) (by decide) (by omega) (Nat.le_of_ble_eq_true rfl) rfl (fun v9 w9 hq9 => ?_)
      obtain ⟨bo4, ran5, rfl, rfl, hp_36, hn_36⟩ := hq9
      refine g_ws hC [cO m0 10 [w_thrown, w_s, w_image, w_frame, w_hasImage, w_act, w_spot, w_end, w_isWrong, w_open, w_by, w_truths, w_pulls, w_isKeeping, w_next, w_first, w_order, w_bestOrder, w_rooms, w_leastUnlike, .ref m20, .int (iI ran5), .int (iI kd), .int (iI nb), .int (iI tv)], cA K m20 20 bo4] rfl ?_
      refine g_st hC [] rfl ?_
      refine g_aload_n (pc := 39) hC 0 dX10_bowsActs_39 rfl rfl ?_
      refine g_iload_n (pc := 40) hC 1 dX10_bowsActs_40 rfl rfl ?_
      refine g_callV (pc := 41) (qr := 0) hC [0, 1] (k_X10_plainBows _ _ _ _ _ _ _ _ _ _ _ _ _ _ _ _ _ _ _ _ _ _ _ _ _ _ _ _ (by first | assumption | omega) (by first | assumption | omega)) cl_X10_plainBows wm_X10_250 dX10_bowsActs_41 rfl rfl rfl rfl rfl (by decide) (by decide) (by omega) (Nat.le_of_ble_eq_true rfl) rfl (fun v9 w9 hq9 => ?_)
      obtain ⟨bo6, ran7, rfl, rfl, hp_41, hn_41⟩ := hq9
      refine g_ws hC [cO m0 10 [w_thrown, w_s, w_image, w_frame, w_hasImage, w_act, w_spot, w_end, w_isWrong, w_open, w_by, w_truths, w_pulls, w_isKeeping, w_next, w_first, w_order, w_bestOrder, w_rooms, w_leastUnlike, .ref m20, .int (iI ran7), .int (iI kd), .int (iI nb), .int (iI tv)], cA K m20 20 bo6] rfl ?_
      refine g_st hC [.int (iI (x + nb))] rfl ?_
      refine g_aload_n (pc := 44) hC 0 dX10_bowsActs_44 rfl rfl ?_
      refine g_get (pc := 45) hC 0 fl_X10_241 dX10_bowsActs_45 rfl rfl ?_
      refine g_ixor (pc := 48) hC dX10_bowsActs_48 ?_
      exact g_iret (pc := 49) hR dX10_bowsActs_49 rfl ⟨by omega, by omega⟩ (Nat.le_of_ble_eq_true rfl) ⟨bo6, ran7, ret_eq (by unfold ac_b; rw [if_neg (by omega), if_pos c30]), rfl, (by unfold ar_b; rw [if_neg (by omega), if_pos c30, hp_41, hp_36]; rfl), (by first | assumption | omega)⟩
  · refine g_aload_n (pc := 11) hC 0 dX10_bowsActs_11 rfl rfl ?_
    refine g_bipush (pc := 12) hC (11) dX10_bowsActs_12 (by decide) ?_
    refine g_callV (pc := 14) (qr := 0) hC [0, 1] (k_X10_ranBody _ _ _ _ _ _ _ _ _ _ _ _ _ _ _ _ _ _ _ _ _ _ _ _ _ _ _ _ (by first | assumption | omega)) cl_X10_ranBody wm_X10_238 dX10_bowsActs_14 rfl rfl rfl rfl rfl (by decide) (by decide) (by omega) (Nat.le_of_ble_eq_true rfl) rfl (fun v9 w9 hq9 => ?_)
    obtain ⟨bo8, ran9, rfl, rfl, hp_14, hn_14⟩ := hq9
    refine g_ws hC [cO m0 10 [w_thrown, w_s, w_image, w_frame, w_hasImage, w_act, w_spot, w_end, w_isWrong, w_open, w_by, w_truths, w_pulls, w_isKeeping, w_next, w_first, w_order, w_bestOrder, w_rooms, w_leastUnlike, .ref m20, .int (iI ran9), .int (iI kd), .int (iI nb), .int (iI tv)], cA K m20 20 bo8] rfl ?_
    refine g_st hC [] rfl ?_
    refine g_aload_n (pc := 17) hC 0 dX10_bowsActs_17 rfl rfl ?_
    refine g_iload_n (pc := 18) hC 1 dX10_bowsActs_18 rfl rfl ?_
    refine g_iconst (pc := 19) hC dX10_bowsActs_19 ?_
    refine g_imul (pc := 20) hC dX10_bowsActs_20 ?_
    refine g_callV (pc := 21) (qr := 0) hC [0, 1] (k_X10_plainBows _ _ _ _ _ _ _ _ _ _ _ _ _ _ _ _ _ _ _ _ _ _ _ _ _ _ _ _ (by first | assumption | omega) (by first | assumption | omega)) cl_X10_plainBows wm_X10_250 dX10_bowsActs_21 rfl rfl rfl rfl rfl (by decide) (by decide) (by omega) (Nat.le_of_ble_eq_true rfl) rfl (fun v9 w9 hq9 => ?_)
    obtain ⟨bo10, ran11, rfl, rfl, hp_21, hn_21⟩ := hq9
    refine g_ws hC [cO m0 10 [w_thrown, w_s, w_image, w_frame, w_hasImage, w_act, w_spot, w_end, w_isWrong, w_open, w_by, w_truths, w_pulls, w_isKeeping, w_next, w_first, w_order, w_bestOrder, w_rooms, w_leastUnlike, .ref m20, .int (iI ran11), .int (iI kd), .int (iI nb), .int (iI tv)], cA K m20 20 bo10] rfl ?_
    refine g_st hC [.int (iI ((x * 3) + nb))] rfl ?_
    exact g_iret (pc := 24) hR dX10_bowsActs_24 rfl ⟨by omega, by omega⟩ (Nat.le_of_ble_eq_true rfl) ⟨bo10, ran11, ret_eq (by unfold ac_b; rw [if_pos (by omega)]), rfl, (by unfold ar_b; rw [if_pos (by omega), hp_21, hp_14]; rfl), (by first | assumption | omega)⟩
set_option maxHeartbeats 4000000 in
set_option maxRecDepth 100000 in
theorem k_X10_plainServes {K : gK} (m0 : Nat) (m20 : Nat) (w_thrown : Value) (w_s : Value) (w_image : Value) (w_frame : Value) (w_hasImage : Value) (w_act : Value) (w_spot : Value) (w_end : Value) (w_isWrong : Value) (w_open : Value) (w_by : Value) (w_truths : Value) (w_pulls : Value) (w_isKeeping : Value) (w_next : Value) (w_first : Value) (w_order : Value) (w_bestOrder : Value) (w_rooms : Value) (w_leastUnlike : Value) (x : Int) (ran : Int) (kd : Int) (nb : Int) (tv : Int) (bo : Int → Int) (hr : 0 ≤ ran ∧ ran ≤ 14) (hkd : 0 ≤ kd ∧ kd ≤ 6) : gMet K yX10_plainServes cX10_plainServes 2 (some .int) 3 0 0 [.ref m0, .int (iI x)] [cO m0 10 [w_thrown, w_s, w_image, w_frame, w_hasImage, w_act, w_spot, w_end, w_isWrong, w_open, w_by, w_truths, w_pulls, w_isKeeping, w_next, w_first, w_order, w_bestOrder, w_rooms, w_leastUnlike, .ref m20, .int (iI ran), .int (iI kd), .int (iI nb), .int (iI tv)], cA K m20 20 bo] (fun v9 w9 => ∃ (bo2 : Int → Int), ∃ (ran2 : Int), v9 = some (.int (iI (ac_b kd nb x - tv))) ∧ w9 = [cO m0 10 [w_thrown, w_s, w_image, w_frame, w_hasImage, w_act, w_spot, w_end, w_isWrong, w_open, w_by, w_truths, w_pulls, w_isKeeping, w_next, w_first, w_order, w_bestOrder, w_rooms, w_leastUnlike, .ref m20, .int (iI ran2), .int (iI kd), .int (iI nb), .int (iI tv)], cA K m20 20 bo2] ∧ ((bo2, ran2) = ac_p ([2] ++ ar_b kd) (bo, ran)) ∧ (ran ≤ ran2 ∧ ran2 ≤ ran + 3)) := by
  refine g_enter (by decide +kernel) (Nat.le_of_ble_eq_true rfl) (fun G hC hR => ?_)
  refine g_lv hC [0, 1] [(0, _), (1, _)] rfl ?_
  refine g_aload_n (pc := 0) hC 0 dX10_plainServes_0 rfl rfl ?_
  refine g_iconst (pc := 1) hC dX10_plainServes_1 ?_
  refine g_callV (pc := 2) (qr := 0) hC [0, 1] (k_X10_ranBody _ _ _ _ _ _ _ _ _ _ _ _ _ _ _ _ _ _ _ _ _ _ _ _ _ _ _ _ (by first | assumption | omega)) cl_X10_ranBody wm_X10_238 dX10_plainServes_2 rfl rfl rfl rfl rfl (by decide) (by decide) (by omega) (Nat.le_of_ble_eq_true rfl) rfl (fun v9 w9 hq9 => ?_)
  obtain ⟨bo1, ran2, rfl, rfl, hp_2, hn_2⟩ := hq9
  refine g_ws hC [cO m0 10 [w_thrown, w_s, w_image, w_frame, w_hasImage, w_act, w_spot, w_end, w_isWrong, w_open, w_by, w_truths, w_pulls, w_isKeeping, w_next, w_first, w_order, w_bestOrder, w_rooms, w_leastUnlike, .ref m20, .int (iI ran2), .int (iI kd), .int (iI nb), .int (iI tv)], cA K m20 20 bo1] rfl ?_
  refine g_st hC [] rfl ?_
  refine g_aload_n (pc := 5) hC 0 dX10_plainServes_5 rfl rfl ?_
  refine g_iload_n (pc := 6) hC 1 dX10_plainServes_6 rfl rfl ?_
  refine g_callV (pc := 7) (qr := 0) hC [0, 1] (k_X10_bowsActs _ _ _ _ _ _ _ _ _ _ _ _ _ _ _ _ _ _ _ _ _ _ _ _ _ _ _ _ (by first | assumption | omega) (by first | assumption | omega)) cl_X10_bowsActs wm_X10_253 dX10_plainServes_7 rfl rfl rfl rfl rfl (by decide) (by decide) (by omega) (Nat.le_of_ble_eq_true rfl) rfl (fun v9 w9 hq9 => ?_)
  obtain ⟨bo3, ran4, rfl, rfl, hp_7, hn_7⟩ := hq9
  refine g_ws hC [cO m0 10 [w_thrown, w_s, w_image, w_frame, w_hasImage, w_act, w_spot, w_end, w_isWrong, w_open, w_by, w_truths, w_pulls, w_isKeeping, w_next, w_first, w_order, w_bestOrder, w_rooms, w_leastUnlike, .ref m20, .int (iI ran4), .int (iI kd), .int (iI nb), .int (iI tv)], cA K m20 20 bo3] rfl ?_
  refine g_st hC [.int (iI (ac_b kd nb x))] rfl ?_
  refine g_aload_n (pc := 10) hC 0 dX10_plainServes_10 rfl rfl ?_
  refine g_get (pc := 11) hC 0 fl_X10_256 dX10_plainServes_11 rfl rfl ?_
  refine g_isub (pc := 14) hC dX10_plainServes_14 ?_
  exact g_iret (pc := 15) hR dX10_plainServes_15 rfl ⟨by omega, by omega⟩ (Nat.le_of_ble_eq_true rfl) ⟨bo3, ran4, ret_eq rfl, rfl, (by rw [hp_7, hp_2]; rfl), (by first | assumption | omega)⟩
set_option maxHeartbeats 4000000 in
set_option maxRecDepth 100000 in
theorem k_X10_servesActs {K : gK} (m0 : Nat) (m20 : Nat) (w_thrown : Value) (w_s : Value) (w_image : Value) (w_frame : Value) (w_hasImage : Value) (w_act : Value) (w_spot : Value) (w_end : Value) (w_isWrong : Value) (w_open : Value) (w_by : Value) (w_truths : Value) (w_pulls : Value) (w_isKeeping : Value) (w_next : Value) (w_first : Value) (w_order : Value) (w_bestOrder : Value) (w_rooms : Value) (w_leastUnlike : Value) (x : Int) (ran : Int) (kd : Int) (nb : Int) (tv : Int) (bo : Int → Int) (hr : 0 ≤ ran ∧ ran ≤ 12) (hkd : 0 ≤ kd ∧ kd ≤ 6) : gMet K yX10_servesActs cX10_servesActs 2 (some .int) 4 0 0 [.ref m0, .int (iI x)] [cO m0 10 [w_thrown, w_s, w_image, w_frame, w_hasImage, w_act, w_spot, w_end, w_isWrong, w_open, w_by, w_truths, w_pulls, w_isKeeping, w_next, w_first, w_order, w_bestOrder, w_rooms, w_leastUnlike, .ref m20, .int (iI ran), .int (iI kd), .int (iI nb), .int (iI tv)], cA K m20 20 bo] (fun v9 w9 => ∃ (bo2 : Int → Int), ∃ (ran2 : Int), v9 = some (.int (iI (ac_s kd nb tv x))) ∧ w9 = [cO m0 10 [w_thrown, w_s, w_image, w_frame, w_hasImage, w_act, w_spot, w_end, w_isWrong, w_open, w_by, w_truths, w_pulls, w_isKeeping, w_next, w_first, w_order, w_bestOrder, w_rooms, w_leastUnlike, .ref m20, .int (iI ran2), .int (iI kd), .int (iI nb), .int (iI tv)], cA K m20 20 bo2] ∧ ((bo2, ran2) = ac_p (ar_s kd) (bo, ran)) ∧ (ran ≤ ran2 ∧ ran2 ≤ ran + 4)) := by
  refine g_enter (by decide +kernel) (Nat.le_of_ble_eq_true rfl) (fun G hC hR => ?_)
  refine g_lv hC [0, 1] [(0, _), (1, _)] rfl ?_
  refine g_aload_n (pc := 0) hC 0 dX10_servesActs_0 rfl rfl ?_
  refine g_get (pc := 1) hC 0 fl_X10_244 dX10_servesActs_1 rfl rfl ?_
  refine g_iconst (pc := 4) hC dX10_servesActs_4 ?_
  refine g_fnS (pc := 5) hC [] (k_X10_isUnder _ _ (by first | assumption | omega) (by first | assumption | omega)) cl_X10_isUnder wm_X10_247 dX10_servesActs_5 rfl rfl (by decide) (by decide) ⟨by omega, by omega⟩ (Nat.le_of_ble_eq_true rfl) rfl rfl ?_
  refine g_name hC (fun x1 e_x1 => ?_)
  have q_x1 : x1 = 0 ∨ x1 = 1 := by rw [e_x1]; exact ac_un_01 _ _
  refine g_if_eq (pc := 8) hC 24 dX10_servesActs_8 (by decide) (by omega) (fun c8 => ?_) (fun c8 => ?_)
  · refine g_aload_n (pc := 24) hC 0 dX10_servesActs_24 rfl rfl ?_
    refine g_get (pc := 25) hC 0 fl_X10_244 dX10_servesActs_25 rfl rfl ?_
    refine g_bipush (pc := 28) hC (6) dX10_servesActs_28 (by decide) ?_
    refine g_icmp_ne (pc := 30) hC 50 dX10_servesActs_30 (by decide) (by omega) (by omega) (fun c30 => ?_) (fun c30 => ?_)
    · refine g_aload_n (pc := 50) hC 0 dX10_servesActs_50 rfl rfl ?_
      refine g_iload_n (pc := 51) hC 1 dX10_servesActs_51 rfl rfl ?_
      refine g_callV (pc := 52) (qr := 0) hC [0, 1] (k_X10_plainServes _ _ _ _ _ _ _ _ _ _ _ _ _ _ _ _ _ _ _ _ _ _ _ _ _ _ _ _ (by first | assumption | omega) (by first | assumption | omega)) cl_X10_plainServes wm_X10_259 dX10_servesActs_52 rfl rfl rfl rfl rfl (by decide) (by decide) (by omega) (Nat.le_of_ble_eq_true rfl) rfl (fun v9 w9 hq9 => ?_)
      obtain ⟨bo2, ran3, rfl, rfl, hp_52, hn_52⟩ := hq9
      refine g_ws hC [cO m0 10 [w_thrown, w_s, w_image, w_frame, w_hasImage, w_act, w_spot, w_end, w_isWrong, w_open, w_by, w_truths, w_pulls, w_isKeeping, w_next, w_first, w_order, w_bestOrder, w_rooms, w_leastUnlike, .ref m20, .int (iI ran3), .int (iI kd), .int (iI nb), .int (iI tv)], cA K m20 20 bo2] rfl ?_
      refine g_st hC [.int (iI (ac_b kd nb x - tv))] rfl ?_
      exact g_iret (pc := 55) hR dX10_servesActs_55 rfl ⟨by omega, by omega⟩ (Nat.le_of_ble_eq_true rfl) ⟨bo2, ran3, ret_eq (by unfold ac_s; rw [if_neg (by omega), if_neg c30]), rfl, (by unfold ar_s; rw [if_neg (by omega), if_neg c30, hp_52]), (by first | assumption | omega)⟩
    · refine g_aload_n (pc := 33) hC 0 dX10_servesActs_33 rfl rfl ?_
      refine g_bipush (pc := 34) hC (61) dX10_servesActs_34 (by decide) ?_
      refine g_callV (pc := 36) (qr := 0) hC [0, 1] (k_X10_ranBody _ _ _ _ _ _ _ _ _ _ _ _ _ _ _ _ _ _ _ _ _ _ _ _ _ _ _ _ (by first | assumption | omega)) cl_X10_ranBody wm_X10_238 dX10_servesActs_36 rfl rfl rfl rfl rfl (by decide) (by decide) (by omega) (Nat.le_of_ble_eq_true rfl) rfl (fun v9 w9 hq9 => ?_)
      obtain ⟨bo4, ran5, rfl, rfl, hp_36, hn_36⟩ := hq9
      refine g_ws hC [cO m0 10 [w_thrown, w_s, w_image, w_frame, w_hasImage, w_act, w_spot, w_end, w_isWrong, w_open, w_by, w_truths, w_pulls, w_isKeeping, w_next, w_first, w_order, w_bestOrder, w_rooms, w_leastUnlike, .ref m20, .int (iI ran5), .int (iI kd), .int (iI nb), .int (iI tv)], cA K m20 20 bo4] rfl ?_
      refine g_st hC [] rfl ?_
      refine g_aload_n (pc := 39) hC 0 dX10_servesActs_39 rfl rfl ?_
      refine g_iload_n (pc := 40) hC 1 dX10_servesActs_40 rfl rfl ?_
      refine g_callV (pc := 41) (qr := 0) hC [0, 1] (k_X10_plainServes _ _ _ _ _ _ _ _ _ _ _ _ _ _ _ _ _ _ _ _ _ _ _ _ _ _ _ _ (by first | assumption | omega) (by first | assumption | omega)) cl_X10_plainServes wm_X10_259 dX10_servesActs_41 rfl rfl rfl rfl rfl (by decide) (by decide) (by omega) (Nat.le_of_ble_eq_true rfl) rfl (fun v9 w9 hq9 => ?_)
      obtain ⟨bo6, ran7, rfl, rfl, hp_41, hn_41⟩ := hq9
      refine g_ws hC [cO m0 10 [w_thrown, w_s, w_image, w_frame, w_hasImage, w_act, w_spot, w_end, w_isWrong, w_open, w_by, w_truths, w_pulls, w_isKeeping, w_next, w_first, w_order, w_bestOrder, w_rooms, w_leastUnlike, .ref m20, .int (iI ran7), .int (iI kd), .int (iI nb), .int (iI tv)], cA K m20 20 bo6] rfl ?_
      refine g_st hC [.int (iI (ac_b kd nb x - tv))] rfl ?_
      refine g_aload_n (pc := 44) hC 0 dX10_servesActs_44 rfl rfl ?_
      refine g_get (pc := 45) hC 0 fl_X10_256 dX10_servesActs_45 rfl rfl ?_
      refine g_iadd (pc := 48) hC dX10_servesActs_48 ?_
      exact g_iret (pc := 49) hR dX10_servesActs_49 rfl ⟨by omega, by omega⟩ (Nat.le_of_ble_eq_true rfl) ⟨bo6, ran7, ret_eq (by unfold ac_s; rw [if_neg (by omega), if_pos c30]), rfl, (by unfold ar_s; rw [if_neg (by omega), if_pos c30, hp_41, hp_36]; rfl), (by first | assumption | omega)⟩
  · refine g_aload_n (pc := 11) hC 0 dX10_servesActs_11 rfl rfl ?_
    refine g_bipush (pc := 12) hC (21) dX10_servesActs_12 (by decide) ?_
    refine g_callV (pc := 14) (qr := 0) hC [0, 1] (k_X10_ranBody _ _ _ _ _ _ _ _ _ _ _ _ _ _ _ _ _ _ _ _ _ _ _ _ _ _ _ _ (by first | assumption | omega)) cl_X10_ranBody wm_X10_238 dX10_servesActs_14 rfl rfl rfl rfl rfl (by decide) (by decide) (by omega) (Nat.le_of_ble_eq_true rfl) rfl (fun v9 w9 hq9 => ?_)
    obtain ⟨bo8, ran9, rfl, rfl, hp_14, hn_14⟩ := hq9
    refine g_ws hC [cO m0 10 [w_thrown, w_s, w_image, w_frame, w_hasImage, w_act, w_spot, w_end, w_isWrong, w_open, w_by, w_truths, w_pulls, w_isKeeping, w_next, w_first, w_order, w_bestOrder, w_rooms, w_leastUnlike, .ref m20, .int (iI ran9), .int (iI kd), .int (iI nb), .int (iI tv)], cA K m20 20 bo8] rfl ?_
    refine g_st hC [] rfl ?_
    refine g_aload_n (pc := 17) hC 0 dX10_servesActs_17 rfl rfl ?_
    refine g_iload_n (pc := 18) hC 1 dX10_servesActs_18 rfl rfl ?_
    refine g_callV (pc := 19) (qr := 0) hC [0, 1] (k_X10_plainServes _ _ _ _ _ _ _ _ _ _ _ _ _ _ _ _ _ _ _ _ _ _ _ _ _ _ _ _ (by first | assumption | omega) (by first | assumption | omega)) cl_X10_plainServes wm_X10_259 dX10_servesActs_19 rfl rfl rfl rfl rfl (by decide) (by decide) (by omega) (Nat.le_of_ble_eq_true rfl) rfl (fun v9 w9 hq9 => ?_)
    obtain ⟨bo10, ran11, rfl, rfl, hp_19, hn_19⟩ := hq9
    refine g_ws hC [cO m0 10 [w_thrown, w_s, w_image, w_frame, w_hasImage, w_act, w_spot, w_end, w_isWrong, w_open, w_by, w_truths, w_pulls, w_isKeeping, w_next, w_first, w_order, w_bestOrder, w_rooms, w_leastUnlike, .ref m20, .int (iI ran11), .int (iI kd), .int (iI nb), .int (iI tv)], cA K m20 20 bo10] rfl ?_
    refine g_st hC [.int (iI (ac_b kd nb x - tv))] rfl ?_
    refine g_ineg (pc := 22) hC dX10_servesActs_22 ?_
    exact g_iret (pc := 23) hR dX10_servesActs_23 rfl ⟨by omega, by omega⟩ (Nat.le_of_ble_eq_true rfl) ⟨bo10, ran11, ret_eq (by unfold ac_s; rw [if_pos (by omega)]), rfl, (by unfold ar_s; rw [if_pos (by omega), hp_19, hp_14]; rfl), (by first | assumption | omega)⟩
set_option maxHeartbeats 4000000 in
set_option maxRecDepth 100000 in
theorem k_X10_plainTelling {K : gK} (m0 : Nat) (m20 : Nat) (w_thrown : Value) (w_s : Value) (w_image : Value) (w_frame : Value) (w_hasImage : Value) (w_act : Value) (w_spot : Value) (w_end : Value) (w_isWrong : Value) (w_open : Value) (w_by : Value) (w_truths : Value) (w_pulls : Value) (w_isKeeping : Value) (w_next : Value) (w_first : Value) (w_order : Value) (w_bestOrder : Value) (w_rooms : Value) (w_leastUnlike : Value) (x : Int) (ran : Int) (kd : Int) (nb : Int) (tv : Int) (bo : Int → Int) (hr : 0 ≤ ran ∧ ran ≤ 10) (hkd : 0 ≤ kd ∧ kd ≤ 6) : gMet K yX10_plainTelling cX10_plainTelling 2 (some .int) 5 0 0 [.ref m0, .int (iI x)] [cO m0 10 [w_thrown, w_s, w_image, w_frame, w_hasImage, w_act, w_spot, w_end, w_isWrong, w_open, w_by, w_truths, w_pulls, w_isKeeping, w_next, w_first, w_order, w_bestOrder, w_rooms, w_leastUnlike, .ref m20, .int (iI ran), .int (iI kd), .int (iI nb), .int (iI tv)], cA K m20 20 bo] (fun v9 w9 => ∃ (bo2 : Int → Int), ∃ (ran2 : Int), v9 = some (.int (iI (ac_s kd nb tv x * 2))) ∧ w9 = [cO m0 10 [w_thrown, w_s, w_image, w_frame, w_hasImage, w_act, w_spot, w_end, w_isWrong, w_open, w_by, w_truths, w_pulls, w_isKeeping, w_next, w_first, w_order, w_bestOrder, w_rooms, w_leastUnlike, .ref m20, .int (iI ran2), .int (iI kd), .int (iI nb), .int (iI tv)], cA K m20 20 bo2] ∧ ((bo2, ran2) = ac_p ([3] ++ ar_s kd) (bo, ran)) ∧ (ran ≤ ran2 ∧ ran2 ≤ ran + 5)) := by
  refine g_enter (by decide +kernel) (Nat.le_of_ble_eq_true rfl) (fun G hC hR => ?_)
  refine g_lv hC [0, 1] [(0, _), (1, _)] rfl ?_
  refine g_aload_n (pc := 0) hC 0 dX10_plainTelling_0 rfl rfl ?_
  refine g_iconst (pc := 1) hC dX10_plainTelling_1 ?_
  refine g_callV (pc := 2) (qr := 0) hC [0, 1] (k_X10_ranBody _ _ _ _ _ _ _ _ _ _ _ _ _ _ _ _ _ _ _ _ _ _ _ _ _ _ _ _ (by first | assumption | omega)) cl_X10_ranBody wm_X10_238 dX10_plainTelling_2 rfl rfl rfl rfl rfl (by decide) (by decide) (by omega) (Nat.le_of_ble_eq_true rfl) rfl (fun v9 w9 hq9 => ?_)
  obtain ⟨bo1, ran2, rfl, rfl, hp_2, hn_2⟩ := hq9
  refine g_ws hC [cO m0 10 [w_thrown, w_s, w_image, w_frame, w_hasImage, w_act, w_spot, w_end, w_isWrong, w_open, w_by, w_truths, w_pulls, w_isKeeping, w_next, w_first, w_order, w_bestOrder, w_rooms, w_leastUnlike, .ref m20, .int (iI ran2), .int (iI kd), .int (iI nb), .int (iI tv)], cA K m20 20 bo1] rfl ?_
  refine g_st hC [] rfl ?_
  refine g_aload_n (pc := 5) hC 0 dX10_plainTelling_5 rfl rfl ?_
  refine g_iload_n (pc := 6) hC 1 dX10_plainTelling_6 rfl rfl ?_
  refine g_callV (pc := 7) (qr := 0) hC [0, 1] (k_X10_servesActs _ _ _ _ _ _ _ _ _ _ _ _ _ _ _ _ _ _ _ _ _ _ _ _ _ _ _ _ (by first | assumption | omega) (by first | assumption | omega)) cl_X10_servesActs wm_X10_262 dX10_plainTelling_7 rfl rfl rfl rfl rfl (by decide) (by decide) (by omega) (Nat.le_of_ble_eq_true rfl) rfl (fun v9 w9 hq9 => ?_)
  obtain ⟨bo3, ran4, rfl, rfl, hp_7, hn_7⟩ := hq9
  refine g_ws hC [cO m0 10 [w_thrown, w_s, w_image, w_frame, w_hasImage, w_act, w_spot, w_end, w_isWrong, w_open, w_by, w_truths, w_pulls, w_isKeeping, w_next, w_first, w_order, w_bestOrder, w_rooms, w_leastUnlike, .ref m20, .int (iI ran4), .int (iI kd), .int (iI nb), .int (iI tv)], cA K m20 20 bo3] rfl ?_
  refine g_st hC [.int (iI (ac_s kd nb tv x))] rfl ?_
  refine g_iconst (pc := 10) hC dX10_plainTelling_10 ?_
  refine g_imul (pc := 11) hC dX10_plainTelling_11 ?_
  exact g_iret (pc := 12) hR dX10_plainTelling_12 rfl ⟨by omega, by omega⟩ (Nat.le_of_ble_eq_true rfl) ⟨bo3, ran4, ret_eq rfl, rfl, (by rw [hp_7, hp_2]; rfl), (by first | assumption | omega)⟩
set_option maxHeartbeats 4000000 in
set_option maxRecDepth 100000 in
theorem k_X10_weepsActs {K : gK} (m0 : Nat) (m20 : Nat) (w_thrown : Value) (w_s : Value) (w_image : Value) (w_frame : Value) (w_hasImage : Value) (w_act : Value) (w_spot : Value) (w_end : Value) (w_isWrong : Value) (w_open : Value) (w_by : Value) (w_truths : Value) (w_pulls : Value) (w_isKeeping : Value) (w_next : Value) (w_first : Value) (w_order : Value) (w_bestOrder : Value) (w_rooms : Value) (w_leastUnlike : Value) (x : Int) (ran : Int) (kd : Int) (nb : Int) (tv : Int) (bo : Int → Int) (hr : 0 ≤ ran ∧ ran ≤ 4) (hkd : 0 ≤ kd ∧ kd ≤ 6) : gMet K yX10_weepsActs cX10_weepsActs 3 (some .int) 6 0 0 [.ref m0, .int (iI x)] [cO m0 10 [w_thrown, w_s, w_image, w_frame, w_hasImage, w_act, w_spot, w_end, w_isWrong, w_open, w_by, w_truths, w_pulls, w_isKeeping, w_next, w_first, w_order, w_bestOrder, w_rooms, w_leastUnlike, .ref m20, .int (iI ran), .int (iI kd), .int (iI nb), .int (iI tv)], cA K m20 20 bo] (fun v9 w9 => ∃ (bo2 : Int → Int), ∃ (ran2 : Int), v9 = some (.int (iI (ac_w kd nb tv x))) ∧ w9 = [cO m0 10 [w_thrown, w_s, w_image, w_frame, w_hasImage, w_act, w_spot, w_end, w_isWrong, w_open, w_by, w_truths, w_pulls, w_isKeeping, w_next, w_first, w_order, w_bestOrder, w_rooms, w_leastUnlike, .ref m20, .int (iI ran2), .int (iI kd), .int (iI nb), .int (iI tv)], cA K m20 20 bo2] ∧ ((bo2, ran2) = ac_p (ar_w kd) (bo, ran)) ∧ (ran ≤ ran2 ∧ ran2 ≤ ran + 8)) := by
  refine g_enter (by decide +kernel) (Nat.le_of_ble_eq_true rfl) (fun G hC hR => ?_)
  refine g_lv hC [0, 1] [(0, _), (1, _)] rfl ?_
  refine g_aload_n (pc := 0) hC 0 dX10_weepsActs_0 rfl rfl ?_
  refine g_get (pc := 1) hC 0 fl_X10_244 dX10_weepsActs_1 rfl rfl ?_
  refine g_iconst (pc := 4) hC dX10_weepsActs_4 ?_
  refine g_fnS (pc := 5) hC [] (k_X10_isUnder _ _ (by first | assumption | omega) (by first | assumption | omega)) cl_X10_isUnder wm_X10_247 dX10_weepsActs_5 rfl rfl (by decide) (by decide) ⟨by omega, by omega⟩ (Nat.le_of_ble_eq_true rfl) rfl rfl ?_
  refine g_name hC (fun x1 e_x1 => ?_)
  have q_x1 : x1 = 0 ∨ x1 = 1 := by rw [e_x1]; exact ac_un_01 _ _
  refine g_if_eq (pc := 8) hC 26 dX10_weepsActs_8 (by decide) (by omega) (fun c8 => ?_) (fun c8 => ?_)
  · refine g_aload_n (pc := 26) hC 0 dX10_weepsActs_26 rfl rfl ?_
    refine g_get (pc := 27) hC 0 fl_X10_244 dX10_weepsActs_27 rfl rfl ?_
    refine g_iconst (pc := 30) hC dX10_weepsActs_30 ?_
    refine g_icmp_ne (pc := 31) hC 56 dX10_weepsActs_31 (by decide) (by omega) (by omega) (fun c31 => ?_) (fun c31 => ?_)
    · refine g_aload_n (pc := 56) hC 0 dX10_weepsActs_56 rfl rfl ?_
      refine g_iload_n (pc := 57) hC 1 dX10_weepsActs_57 rfl rfl ?_
      refine g_callV (pc := 58) (qr := 0) hC [0, 1] (k_X10_plainTelling _ _ _ _ _ _ _ _ _ _ _ _ _ _ _ _ _ _ _ _ _ _ _ _ _ _ _ _ (by first | assumption | omega) (by first | assumption | omega)) cl_X10_plainTelling wm_X10_265 dX10_weepsActs_58 rfl rfl rfl rfl rfl (by decide) (by decide) (by omega) (Nat.le_of_ble_eq_true rfl) rfl (fun v9 w9 hq9 => ?_)
      obtain ⟨bo2, ran3, rfl, rfl, hp_58, hn_58⟩ := hq9
      refine g_ws hC [cO m0 10 [w_thrown, w_s, w_image, w_frame, w_hasImage, w_act, w_spot, w_end, w_isWrong, w_open, w_by, w_truths, w_pulls, w_isKeeping, w_next, w_first, w_order, w_bestOrder, w_rooms, w_leastUnlike, .ref m20, .int (iI ran3), .int (iI kd), .int (iI nb), .int (iI tv)], cA K m20 20 bo2] rfl ?_
      refine g_st hC [.int (iI (ac_s kd nb tv x * 2))] rfl ?_
      exact g_iret (pc := 61) hR dX10_weepsActs_61 rfl ⟨by omega, by omega⟩ (Nat.le_of_ble_eq_true rfl) ⟨bo2, ran3, ret_eq (by unfold ac_w; rw [if_neg (by omega), if_neg c31]), rfl, (by unfold ar_w; rw [if_neg (by omega), if_neg c31, hp_58]), (by first | assumption | omega)⟩
    · refine g_aload_n (pc := 34) hC 0 dX10_weepsActs_34 rfl rfl ?_
      refine g_bipush (pc := 35) hC (41) dX10_weepsActs_35 (by decide) ?_
      refine g_callV (pc := 37) (qr := 0) hC [0, 1] (k_X10_ranBody _ _ _ _ _ _ _ _ _ _ _ _ _ _ _ _ _ _ _ _ _ _ _ _ _ _ _ _ (by first | assumption | omega)) cl_X10_ranBody wm_X10_238 dX10_weepsActs_37 rfl rfl rfl rfl rfl (by decide) (by decide) (by omega) (Nat.le_of_ble_eq_true rfl) rfl (fun v9 w9 hq9 => ?_)
      obtain ⟨bo4, ran5, rfl, rfl, hp_37, hn_37⟩ := hq9
      refine g_ws hC [cO m0 10 [w_thrown, w_s, w_image, w_frame, w_hasImage, w_act, w_spot, w_end, w_isWrong, w_open, w_by, w_truths, w_pulls, w_isKeeping, w_next, w_first, w_order, w_bestOrder, w_rooms, w_leastUnlike, .ref m20, .int (iI ran5), .int (iI kd), .int (iI nb), .int (iI tv)], cA K m20 20 bo4] rfl ?_
      refine g_st hC [] rfl ?_
      refine g_aload_n (pc := 40) hC 0 dX10_weepsActs_40 rfl rfl ?_
      refine g_iload_n (pc := 41) hC 1 dX10_weepsActs_41 rfl rfl ?_
      refine g_iconst (pc := 42) hC dX10_weepsActs_42 ?_
      refine g_isub (pc := 43) hC dX10_weepsActs_43 ?_
      refine g_callV (pc := 44) (qr := 0) hC [0, 1] (k_X10_plainTelling _ _ _ _ _ _ _ _ _ _ _ _ _ _ _ _ _ _ _ _ _ _ _ _ _ _ _ _ (by first | assumption | omega) (by first | assumption | omega)) cl_X10_plainTelling wm_X10_265 dX10_weepsActs_44 rfl rfl rfl rfl rfl (by decide) (by decide) (by omega) (Nat.le_of_ble_eq_true rfl) rfl (fun v9 w9 hq9 => ?_)
      obtain ⟨bo6, ran7, rfl, rfl, hp_44, hn_44⟩ := hq9
      refine g_ws hC [cO m0 10 [w_thrown, w_s, w_image, w_frame, w_hasImage, w_act, w_spot, w_end, w_isWrong, w_open, w_by, w_truths, w_pulls, w_isKeeping, w_next, w_first, w_order, w_bestOrder, w_rooms, w_leastUnlike, .ref m20, .int (iI ran7), .int (iI kd), .int (iI nb), .int (iI tv)], cA K m20 20 bo6] rfl ?_
      refine g_st hC [.int (iI (ac_s kd nb tv (x - 1) * 2))] rfl ?_
      refine g_istore_n (pc := 47) hC [(2, _), (0, _), (1, _)] dX10_weepsActs_47 rfl (by decide) rfl ?_
      refine g_iload_n (pc := 48) hC 0 dX10_weepsActs_48 rfl rfl ?_
      refine g_aload_n (pc := 49) hC 1 dX10_weepsActs_49 rfl rfl ?_
      refine g_iconst (pc := 50) hC dX10_weepsActs_50 ?_
      refine g_callV (pc := 51) (qr := 0) hC [0, 1] (k_X10_bowsActs _ _ _ _ _ _ _ _ _ _ _ _ _ _ _ _ _ _ _ _ _ _ _ _ _ _ _ _ (by first | assumption | omega) (by first | assumption | omega)) cl_X10_bowsActs wm_X10_253 dX10_weepsActs_51 rfl rfl rfl rfl rfl (by decide) (by decide) (by omega) (Nat.le_of_ble_eq_true rfl) rfl (fun v9 w9 hq9 => ?_)
      obtain ⟨bo8, ran9, rfl, rfl, hp_51, hn_51⟩ := hq9
      refine g_ws hC [cO m0 10 [w_thrown, w_s, w_image, w_frame, w_hasImage, w_act, w_spot, w_end, w_isWrong, w_open, w_by, w_truths, w_pulls, w_isKeeping, w_next, w_first, w_order, w_bestOrder, w_rooms, w_leastUnlike, .ref m20, .int (iI ran9), .int (iI kd), .int (iI nb), .int (iI tv)], cA K m20 20 bo8] rfl ?_
      refine g_st hC [.int (iI (ac_b kd nb 2)), _] rfl ?_
      refine g_iadd (pc := 54) hC dX10_weepsActs_54 ?_
      exact g_iret (pc := 55) hR dX10_weepsActs_55 rfl ⟨by omega, by omega⟩ (Nat.le_of_ble_eq_true rfl) ⟨bo8, ran9, ret_eq (by unfold ac_w; rw [if_neg (by omega), if_pos c31]), rfl, (by unfold ar_w; rw [if_neg (by omega), if_pos c31, hp_51, hp_44, hp_37, ac_p_app [3], ac_p_app ([41, 3] ++ ar_s kd), ac_p_app [41, 3]]; rfl), (by first | assumption | omega)⟩
  · refine g_aload_n (pc := 11) hC 0 dX10_weepsActs_11 rfl rfl ?_
    refine g_bipush (pc := 12) hC (31) dX10_weepsActs_12 (by decide) ?_
    refine g_callV (pc := 14) (qr := 0) hC [0, 1] (k_X10_ranBody _ _ _ _ _ _ _ _ _ _ _ _ _ _ _ _ _ _ _ _ _ _ _ _ _ _ _ _ (by first | assumption | omega)) cl_X10_ranBody wm_X10_238 dX10_weepsActs_14 rfl rfl rfl rfl rfl (by decide) (by decide) (by omega) (Nat.le_of_ble_eq_true rfl) rfl (fun v9 w9 hq9 => ?_)
    obtain ⟨bo10, ran11, rfl, rfl, hp_14, hn_14⟩ := hq9
    refine g_ws hC [cO m0 10 [w_thrown, w_s, w_image, w_frame, w_hasImage, w_act, w_spot, w_end, w_isWrong, w_open, w_by, w_truths, w_pulls, w_isKeeping, w_next, w_first, w_order, w_bestOrder, w_rooms, w_leastUnlike, .ref m20, .int (iI ran11), .int (iI kd), .int (iI nb), .int (iI tv)], cA K m20 20 bo10] rfl ?_
    refine g_st hC [] rfl ?_
    refine g_aload_n (pc := 17) hC 0 dX10_weepsActs_17 rfl rfl ?_
    refine g_iload_n (pc := 18) hC 1 dX10_weepsActs_18 rfl rfl ?_
    refine g_callV (pc := 19) (qr := 0) hC [0, 1] (k_X10_plainTelling _ _ _ _ _ _ _ _ _ _ _ _ _ _ _ _ _ _ _ _ _ _ _ _ _ _ _ _ (by first | assumption | omega) (by first | assumption | omega)) cl_X10_plainTelling wm_X10_265 dX10_weepsActs_19 rfl rfl rfl rfl rfl (by decide) (by decide) (by omega) (Nat.le_of_ble_eq_true rfl) rfl (fun v9 w9 hq9 => ?_)
    obtain ⟨bo12, ran13, rfl, rfl, hp_19, hn_19⟩ := hq9
    refine g_ws hC [cO m0 10 [w_thrown, w_s, w_image, w_frame, w_hasImage, w_act, w_spot, w_end, w_isWrong, w_open, w_by, w_truths, w_pulls, w_isKeeping, w_next, w_first, w_order, w_bestOrder, w_rooms, w_leastUnlike, .ref m20, .int (iI ran13), .int (iI kd), .int (iI nb), .int (iI tv)], cA K m20 20 bo12] rfl ?_
    refine g_st hC [.int (iI (ac_s kd nb tv x * 2))] rfl ?_
    refine g_bipush (pc := 22) hC (7) dX10_weepsActs_22 (by decide) ?_
    refine g_ixor (pc := 24) hC dX10_weepsActs_24 ?_
    exact g_iret (pc := 25) hR dX10_weepsActs_25 rfl ⟨by omega, by omega⟩ (Nat.le_of_ble_eq_true rfl) ⟨bo12, ran13, ret_eq (by unfold ac_w; rw [if_pos (by omega)]), rfl, (by unfold ar_w; rw [if_pos (by omega), hp_19, hp_14]; rfl), (by first | assumption | omega)⟩
set_option maxHeartbeats 4000000 in
set_option maxRecDepth 100000 in
theorem k_X10_act {K : gK} (m0 : Nat) (m1 : Nat) (m20 : Nat) (w_thrown : Value) (w_image : Value) (w_frame : Value) (w_hasImage : Value) (w_act : Value) (w_spot : Value) (w_end : Value) (w_isWrong : Value) (w_open : Value) (w_by : Value) (w_truths : Value) (w_pulls : Value) (w_isKeeping : Value) (w_next : Value) (w_first : Value) (w_order : Value) (w_bestOrder : Value) (w_rooms : Value) (w_leastUnlike : Value) (p : Int) (w : Int) (x : Int) (ran : Int) (kd : Int) (nb : Int) (tv : Int) (s : Int → Int) (bo : Int → Int) (hg : md_rg s) (hpr : rI p) (hwr : rI w) (hsr : ∀ j, rI (s j)) : gMet K yX10_act cX10_act 4 (some .int) 7 0 0 [.ref m0, .int (iI p), .int (iI w), .int (iI x)] [cO m0 10 [w_thrown, .ref m1, w_image, w_frame, w_hasImage, w_act, w_spot, w_end, w_isWrong, w_open, w_by, w_truths, w_pulls, w_isKeeping, w_next, w_first, w_order, w_bestOrder, w_rooms, w_leastUnlike, .ref m20, .int (iI ran), .int (iI kd), .int (iI nb), .int (iI tv)], cA K m1 922 s, cA K m20 20 bo] (fun v9 w9 => ∃ (bo2 : Int → Int), ∃ (ran2 : Int), ∃ (kd2 : Int), ∃ (nb2 : Int), ∃ (tv2 : Int), v9 = some (.int (iI (an_act s p w x))) ∧ w9 = [cO m0 10 [w_thrown, .ref m1, w_image, w_frame, w_hasImage, w_act, w_spot, w_end, w_isWrong, w_open, w_by, w_truths, w_pulls, w_isKeeping, w_next, w_first, w_order, w_bestOrder, w_rooms, w_leastUnlike, .ref m20, .int (iI ran2), .int (iI kd2), .int (iI nb2), .int (iI tv2)], cA K m1 922 s, cA K m20 20 bo2] ∧ ((bo2, ran2) = ac_p (ar_act s p w) (bo, 0)) ∧ (0 ≤ ran2 ∧ ran2 ≤ 8)) := by
  refine g_enter (by decide +kernel) (Nat.le_of_ble_eq_true rfl) (fun G hC hR => ?_)
  refine g_lv hC [0, 1, 2, 3] [(0, _), (1, _), (2, _), (3, _)] rfl ?_
  have hg0 := hg.2.2.2
  have h19 := hg.2.2.1
  refine g_aload_n (pc := 0) hC 0 dX10_act_0 rfl rfl ?_
  refine g_iconst (pc := 1) hC dX10_act_1 ?_
  refine g_putI (pc := 2) hC 0 [cO _ _ [_, _, _, _, _, _, _, _, _, _, _, _, _, _, _, _, _, _, _, _, _, _, _, _, _], _, _] fl_X10_235 dX10_act_2 rfl (Nat.le_of_ble_eq_true rfl) rfl ?_
  refine g_aload_n (pc := 5) hC 0 dX10_act_5 rfl rfl ?_
  refine g_iload_n (pc := 6) hC 1 dX10_act_6 rfl rfl ?_
  refine g_fnV (pc := 7) (qr := 0) hC [0, 1] (k_X10_isMan _ _ _ _ _ _ _ _ _ _ _ _ _ _ _ _ _ _ _ _ _ _ _ _ _ _ _ _ (by first | assumption | omega) (by first | assumption | omega) (by first | assumption | omega)) cl_X10_isMan wm_X10_159 dX10_act_7 rfl rfl rfl rfl rfl (by decide) (by decide) ⟨by omega, by omega⟩ (Nat.le_of_ble_eq_true rfl) rfl rfl ?_
  refine g_name hC (fun x1 e_x1 => ?_)
  refine g_if_eq (pc := 10) hC 22 dX10_act_10 (by decide) (by omega) (fun c10 => ?_) (fun c10 => ?_)
  · refine g_iconst (pc := 22) hC dX10_act_22 ?_
    exact g_iret (pc := 23) hR dX10_act_23 rfl ⟨by omega, by omega⟩ (Nat.le_of_ble_eq_true rfl) ⟨bo, 0, kd, nb, tv, ret_eq (by unfold an_act; rw [if_neg (by omega)]), rfl, (by unfold ar_act; rw [if_neg (by omega)]; rfl), (by first | assumption | omega)⟩
  · refine g_iload_n (pc := 13) hC 2 dX10_act_13 rfl rfl ?_
    refine g_iconst (pc := 14) hC dX10_act_14 ?_
    refine g_iconst (pc := 15) hC dX10_act_15 ?_
    refine g_fnS (pc := 16) hC [] (k_X10_in _ _ _ (by first | assumption | omega) (by first | assumption | omega) (by first | assumption | omega)) cl_X10_in wm_X10_54 dX10_act_16 rfl rfl (by decide) (by decide) ⟨by omega, by omega⟩ (Nat.le_of_ble_eq_true rfl) rfl rfl ?_
    refine g_name hC (fun x2 e_x2 => ?_)
    refine g_if_ne (pc := 19) hC 24 dX10_act_19 (by decide) (by omega) (fun c19 => ?_) (fun c19 => ?_)
    · refine g_aload_n (pc := 24) hC 0 dX10_act_24 rfl rfl ?_
      refine g_aload_n (pc := 25) hC 0 dX10_act_25 rfl rfl ?_
      refine g_get (pc := 26) hC 0 fl_X10_9 dX10_act_26 rfl rfl ?_
      refine g_bipush (pc := 29) hC (26) dX10_act_29 (by decide) ?_
      refine g_iload_n (pc := 31) hC 1 dX10_act_31 rfl rfl ?_
      refine g_iadd (pc := 32) hC dX10_act_32 ?_
      refine g_iald (pc := 33) hC 1 dX10_act_33 rfl (by omega) ?_
      have hgp := hg.1 p (by omega) (by omega)
      refine g_putI (pc := 34) hC 0 [cO _ _ [_, _, _, _, _, _, _, _, _, _, _, _, _, _, _, _, _, _, _, _, _, _, _, _, _], _, _] fl_X10_244 dX10_act_34 rfl (Nat.le_of_ble_eq_true rfl) rfl ?_
      refine g_aload_n (pc := 37) hC 0 dX10_act_37 rfl rfl ?_
      refine g_iload_n (pc := 38) hC 1 dX10_act_38 rfl rfl ?_
      refine g_putI (pc := 39) hC 0 [cO _ _ [_, _, _, _, _, _, _, _, _, _, _, _, _, _, _, _, _, _, _, _, _, _, _, _, _], _, _] fl_X10_241 dX10_act_39 rfl (Nat.le_of_ble_eq_true rfl) rfl ?_
      refine g_aload_n (pc := 42) hC 0 dX10_act_42 rfl rfl ?_
      refine g_aload_n (pc := 43) hC 0 dX10_act_43 rfl rfl ?_
      refine g_get (pc := 44) hC 0 fl_X10_9 dX10_act_44 rfl rfl ?_
      refine g_bipush (pc := 47) hC (32) dX10_act_47 (by decide) ?_
      refine g_iload_n (pc := 49) hC 1 dX10_act_49 rfl rfl ?_
      refine g_iadd (pc := 50) hC dX10_act_50 ?_
      refine g_iald (pc := 51) hC 1 dX10_act_51 rfl (by omega) ?_
      refine g_putI (pc := 52) hC 0 [cO _ _ [_, _, _, _, _, _, _, _, _, _, _, _, _, _, _, _, _, _, _, _, _, _, _, _, _], _, _] fl_X10_256 dX10_act_52 rfl (Nat.le_of_ble_eq_true rfl) rfl ?_
      refine g_iload_n (pc := 55) hC 2 dX10_act_55 rfl rfl ?_
      refine g_if_ne (pc := 56) hC 67 dX10_act_56 (by decide) (by omega) (fun c56 => ?_) (fun c56 => ?_)
      · refine g_iload_n (pc := 67) hC 2 dX10_act_67 rfl rfl ?_
        refine g_iconst (pc := 68) hC dX10_act_68 ?_
        refine g_icmp_ne (pc := 69) hC 80 dX10_act_69 (by decide) (by omega) (by omega) (fun c69 => ?_) (fun c69 => ?_)
        · refine g_aload_n (pc := 80) hC 0 dX10_act_80 rfl rfl ?_
          refine g_iload_n (pc := 81) hC 3 dX10_act_81 rfl rfl ?_
          refine g_callV (pc := 82) (qr := 0) hC [0, 2] (k_X10_weepsActs _ _ _ _ _ _ _ _ _ _ _ _ _ _ _ _ _ _ _ _ _ _ _ _ _ _ _ _ (by first | assumption | omega) (by first | assumption | omega)) cl_X10_weepsActs wm_X10_268 dX10_act_82 rfl rfl rfl rfl rfl (by decide) (by decide) (by omega) (Nat.le_of_ble_eq_true rfl) rfl (fun v9 w9 hq9 => ?_)
          obtain ⟨bo3, ran4, rfl, rfl, hp_82, hn_82⟩ := hq9
          refine g_ws hC [cO m0 10 [w_thrown, .ref m1, w_image, w_frame, w_hasImage, w_act, w_spot, w_end, w_isWrong, w_open, w_by, w_truths, w_pulls, w_isKeeping, w_next, w_first, w_order, w_bestOrder, w_rooms, w_leastUnlike, .ref m20, .int (iI ran4), .int (iI (s (26 + p))), .int (iI p), .int (iI (s (32 + p)))], cA K m1 922 s, cA K m20 20 bo3] rfl ?_
          refine g_st hC [.int (iI (ac_w (s (26 + p)) p (s (32 + p)) x))] rfl ?_
          exact g_iret (pc := 85) hR dX10_act_85 rfl ⟨by omega, by omega⟩ (Nat.le_of_ble_eq_true rfl) ⟨bo3, ran4, (s (26 + p)), p, (s (32 + p)), ret_eq (by unfold an_act; rw [if_pos (by omega), if_neg (by omega), if_neg (by omega)]), rfl, (by unfold ar_act; rw [if_pos (by omega), if_neg (by omega), if_neg (by omega), hp_82]), (by first | assumption | omega)⟩
        · refine g_aload_n (pc := 72) hC 0 dX10_act_72 rfl rfl ?_
          refine g_iload_n (pc := 73) hC 3 dX10_act_73 rfl rfl ?_
          refine g_callV (pc := 74) (qr := 0) hC [0, 2] (k_X10_servesActs _ _ _ _ _ _ _ _ _ _ _ _ _ _ _ _ _ _ _ _ _ _ _ _ _ _ _ _ (by first | assumption | omega) (by first | assumption | omega)) cl_X10_servesActs wm_X10_262 dX10_act_74 rfl rfl rfl rfl rfl (by decide) (by decide) (by omega) (Nat.le_of_ble_eq_true rfl) rfl (fun v9 w9 hq9 => ?_)
          obtain ⟨bo5, ran6, rfl, rfl, hp_74, hn_74⟩ := hq9
          refine g_ws hC [cO m0 10 [w_thrown, .ref m1, w_image, w_frame, w_hasImage, w_act, w_spot, w_end, w_isWrong, w_open, w_by, w_truths, w_pulls, w_isKeeping, w_next, w_first, w_order, w_bestOrder, w_rooms, w_leastUnlike, .ref m20, .int (iI ran6), .int (iI (s (26 + p))), .int (iI p), .int (iI (s (32 + p)))], cA K m1 922 s, cA K m20 20 bo5] rfl ?_
          refine g_st hC [.int (iI (ac_s (s (26 + p)) p (s (32 + p)) x))] rfl ?_
          refine g_goto (pc := 77) hC 85 dX10_act_77 (by decide) ?_
          exact g_iret (pc := 85) hR dX10_act_85 rfl ⟨by omega, by omega⟩ (Nat.le_of_ble_eq_true rfl) ⟨bo5, ran6, (s (26 + p)), p, (s (32 + p)), ret_eq (by unfold an_act; rw [if_pos (by omega), if_neg (by omega), if_pos (by omega)]), rfl, (by unfold ar_act; rw [if_pos (by omega), if_neg (by omega), if_pos (by omega), hp_74]), (by first | assumption | omega)⟩
      · refine g_aload_n (pc := 59) hC 0 dX10_act_59 rfl rfl ?_
        refine g_iload_n (pc := 60) hC 3 dX10_act_60 rfl rfl ?_
        refine g_callV (pc := 61) (qr := 0) hC [0, 2] (k_X10_bowsActs _ _ _ _ _ _ _ _ _ _ _ _ _ _ _ _ _ _ _ _ _ _ _ _ _ _ _ _ (by first | assumption | omega) (by first | assumption | omega)) cl_X10_bowsActs wm_X10_253 dX10_act_61 rfl rfl rfl rfl rfl (by decide) (by decide) (by omega) (Nat.le_of_ble_eq_true rfl) rfl (fun v9 w9 hq9 => ?_)
        obtain ⟨bo7, ran8, rfl, rfl, hp_61, hn_61⟩ := hq9
        refine g_ws hC [cO m0 10 [w_thrown, .ref m1, w_image, w_frame, w_hasImage, w_act, w_spot, w_end, w_isWrong, w_open, w_by, w_truths, w_pulls, w_isKeeping, w_next, w_first, w_order, w_bestOrder, w_rooms, w_leastUnlike, .ref m20, .int (iI ran8), .int (iI (s (26 + p))), .int (iI p), .int (iI (s (32 + p)))], cA K m1 922 s, cA K m20 20 bo7] rfl ?_
        refine g_st hC [.int (iI (ac_b (s (26 + p)) p x))] rfl ?_
        refine g_goto (pc := 64) hC 85 dX10_act_64 (by decide) ?_
        exact g_iret (pc := 85) hR dX10_act_85 rfl ⟨by omega, by omega⟩ (Nat.le_of_ble_eq_true rfl) ⟨bo7, ran8, (s (26 + p)), p, (s (32 + p)), ret_eq (by unfold an_act; rw [if_pos (by omega), if_pos (by omega)]), rfl, (by unfold ar_act; rw [if_pos (by omega), if_pos (by omega), hp_61]), (by first | assumption | omega)⟩
    · refine g_iconst (pc := 22) hC dX10_act_22 ?_
      exact g_iret (pc := 23) hR dX10_act_23 rfl ⟨by omega, by omega⟩ (Nat.le_of_ble_eq_true rfl) ⟨bo, 0, kd, nb, tv, ret_eq (by unfold an_act; rw [if_neg (by omega)]), rfl, (by unfold ar_act; rw [if_neg (by omega)]; rfl), (by first | assumption | omega)⟩
set_option maxHeartbeats 4000000 in
set_option maxRecDepth 100000 in
theorem k_X10_trace {K : gK} (m0 : Nat) (m20 : Nat) (w_thrown : Value) (w_s : Value) (w_image : Value) (w_frame : Value) (w_hasImage : Value) (w_act : Value) (w_spot : Value) (w_end : Value) (w_isWrong : Value) (w_open : Value) (w_by : Value) (w_truths : Value) (w_pulls : Value) (w_isKeeping : Value) (w_next : Value) (w_first : Value) (w_order : Value) (w_bestOrder : Value) (w_rooms : Value) (w_leastUnlike : Value) (w_kind : Value) (w_number : Value) (w_tellsV : Value) (i : Int) (ran : Int) (bo : Int → Int) (r_i : rI i) (r_ran : rI ran) (r_bo : ∀ j, rI (bo j)) (hr : 0 ≤ ran ∧ ran ≤ 100) : gFn K yX10_trace cX10_trace 2 (some .int) 1 [.ref m0, .int (iI i)] [cO m0 10 [w_thrown, w_s, w_image, w_frame, w_hasImage, w_act, w_spot, w_end, w_isWrong, w_open, w_by, w_truths, w_pulls, w_isKeeping, w_next, w_first, w_order, w_bestOrder, w_rooms, w_leastUnlike, .ref m20, .int (iI ran), w_kind, w_number, w_tellsV], cA K m20 20 bo] (if 0 ≤ i ∧ i < ran ∧ i < 20 then bo i else -1) := by
  refine g_enter (by decide +kernel) (Nat.le_of_ble_eq_true rfl) (fun G hC hR => ?_)
  refine g_lv hC [0, 1] [(0, _), (1, _)] rfl ?_
  refine g_iload_n (pc := 0) hC 1 dX10_trace_0 rfl rfl ?_
  refine g_iconst (pc := 1) hC dX10_trace_1 ?_
  refine g_aload_n (pc := 2) hC 0 dX10_trace_2 rfl rfl ?_
  refine g_get (pc := 3) hC 0 fl_X10_235 dX10_trace_3 rfl rfl ?_
  refine g_bipush (pc := 6) hC (20) dX10_trace_6 (by decide) ?_
  refine g_icmp_ge (pc := 8) hC 18 dX10_trace_8 (by decide) (by omega) (by omega) (fun c8 => ?_) (fun c8 => ?_)
  · refine g_bipush (pc := 18) hC (20) dX10_trace_18 (by decide) ?_
    refine g_iconst (pc := 20) hC dX10_trace_20 ?_
    refine g_isub (pc := 21) hC dX10_trace_21 ?_
    refine g_fnS (pc := 22) hC [] (k_X10_in _ _ _ (by first | assumption | omega) (by first | assumption | omega) (by first | assumption | omega)) cl_X10_in wm_X10_54 dX10_trace_22 rfl rfl (by decide) (by decide) ⟨by omega, by omega⟩ (Nat.le_of_ble_eq_true rfl) rfl rfl ?_
    refine g_name hC (fun x1 e_x1 => ?_)
    refine g_if_eq (pc := 25) hC 37 dX10_trace_25 (by decide) (by omega) (fun c25 => ?_) (fun c25 => ?_)
    · refine g_iconst (pc := 37) hC dX10_trace_37 ?_
      exact g_iret (pc := 38) hR dX10_trace_38 rfl ⟨by omega, by omega⟩ (Nat.le_of_ble_eq_true rfl) ⟨ret_eq (by omega), rfl⟩
    · refine g_aload_n (pc := 28) hC 0 dX10_trace_28 rfl rfl ?_
      refine g_get (pc := 29) hC 0 fl_X10_47 dX10_trace_29 rfl rfl ?_
      refine g_iload_n (pc := 32) hC 1 dX10_trace_32 rfl rfl ?_
      refine g_iald (pc := 33) hC 1 dX10_trace_33 rfl (by omega) ?_
      have q2 := r_bo i
      refine g_goto (pc := 34) hC 38 dX10_trace_34 (by decide) ?_
      exact g_iret (pc := 38) hR dX10_trace_38 rfl ⟨by omega, by omega⟩ (Nat.le_of_ble_eq_true rfl) ⟨ret_eq (by omega), rfl⟩
  · refine g_aload_n (pc := 11) hC 0 dX10_trace_11 rfl rfl ?_
    refine g_get (pc := 12) hC 0 fl_X10_235 dX10_trace_12 rfl rfl ?_
    refine g_goto (pc := 15) hC 20 dX10_trace_15 (by decide) ?_
    refine g_iconst (pc := 20) hC dX10_trace_20 ?_
    refine g_isub (pc := 21) hC dX10_trace_21 ?_
    refine g_fnS (pc := 22) hC [] (k_X10_in _ _ _ (by first | assumption | omega) (by first | assumption | omega) (by first | assumption | omega)) cl_X10_in wm_X10_54 dX10_trace_22 rfl rfl (by decide) (by decide) ⟨by omega, by omega⟩ (Nat.le_of_ble_eq_true rfl) rfl rfl ?_
    refine g_name hC (fun x3 e_x3 => ?_)
    refine g_if_eq (pc := 25) hC 37 dX10_trace_25 (by decide) (by omega) (fun c25 => ?_) (fun c25 => ?_)
    · refine g_iconst (pc := 37) hC dX10_trace_37 ?_
      exact g_iret (pc := 38) hR dX10_trace_38 rfl ⟨by omega, by omega⟩ (Nat.le_of_ble_eq_true rfl) ⟨ret_eq (by omega), rfl⟩
    · refine g_aload_n (pc := 28) hC 0 dX10_trace_28 rfl rfl ?_
      refine g_get (pc := 29) hC 0 fl_X10_47 dX10_trace_29 rfl rfl ?_
      refine g_iload_n (pc := 32) hC 1 dX10_trace_32 rfl rfl ?_
      refine g_iald (pc := 33) hC 1 dX10_trace_33 rfl (by omega) ?_
      have q4 := r_bo i
      refine g_goto (pc := 34) hC 38 dX10_trace_34 (by decide) ?_
      exact g_iret (pc := 38) hR dX10_trace_38 rfl ⟨by omega, by omega⟩ (Nat.le_of_ble_eq_true rfl) ⟨ret_eq (by omega), rfl⟩
set_option maxHeartbeats 4000000 in
set_option maxRecDepth 100000 in
theorem k_X10_as {K : gK} (m0 : Nat) (m1 : Nat) (w_thrown : Value) (w_image : Value) (w_frame : Value) (w_hasImage : Value) (w_act : Value) (w_spot : Value) (w_end : Value) (w_isWrong : Value) (w_open : Value) (w_by : Value) (w_truths : Value) (w_pulls : Value) (w_isKeeping : Value) (w_next : Value) (w_first : Value) (w_order : Value) (w_bestOrder : Value) (w_rooms : Value) (w_leastUnlike : Value) (w_bodies : Value) (w_ran : Value) (w_kind : Value) (w_number : Value) (w_tellsV : Value) (p : Int) (k : Int) (s : Int → Int) (r_p : rI p) (r_k : rI k) (r_s : ∀ j, rI (s j)) (hg : md_rg s) : gFn K yX10_as cX10_as 3 (some .int) 2 [.ref m0, .int (iI p), .int (iI k)] [cO m0 10 [w_thrown, .ref m1, w_image, w_frame, w_hasImage, w_act, w_spot, w_end, w_isWrong, w_open, w_by, w_truths, w_pulls, w_isKeeping, w_next, w_first, w_order, w_bestOrder, w_rooms, w_leastUnlike, w_bodies, w_ran, w_kind, w_number, w_tellsV], cA K m1 922 s] (an_as s p k) := by
  refine g_enter (by decide +kernel) (Nat.le_of_ble_eq_true rfl) (fun G hC hR => ?_)
  refine g_lv hC [0, 1, 2] [(0, _), (1, _), (2, _)] rfl ?_
  have hg0 := hg.2.2.2
  have h19 := hg.2.2.1
  refine g_aload_n (pc := 0) hC 0 dX10_as_0 rfl rfl ?_
  refine g_iload_n (pc := 1) hC 1 dX10_as_1 rfl rfl ?_
  refine g_fnV (pc := 2) (qr := 0) hC [0, 1] (k_X10_isMan _ _ _ _ _ _ _ _ _ _ _ _ _ _ _ _ _ _ _ _ _ _ _ _ _ _ _ _ (by first | assumption | omega) (by first | assumption | omega) (by first | assumption | omega)) cl_X10_isMan wm_X10_159 dX10_as_2 rfl rfl rfl rfl rfl (by decide) (by decide) ⟨by omega, by omega⟩ (Nat.le_of_ble_eq_true rfl) rfl rfl ?_
  refine g_name hC (fun x1 e_x1 => ?_)
  refine g_if_eq (pc := 5) hC 18 dX10_as_5 (by decide) (by omega) (fun c5 => ?_) (fun c5 => ?_)
  · refine g_iconst (pc := 18) hC dX10_as_18 ?_
    exact g_iret (pc := 19) hR dX10_as_19 rfl ⟨by omega, by omega⟩ (Nat.le_of_ble_eq_true rfl) ⟨ret_eq (by unfold an_as; (repeat' split) <;> omega), rfl⟩
  · refine g_iload_n (pc := 8) hC 2 dX10_as_8 rfl rfl ?_
    refine g_iconst (pc := 9) hC dX10_as_9 ?_
    refine g_bipush (pc := 10) hC (6) dX10_as_10 (by decide) ?_
    refine g_fnS (pc := 12) hC [] (k_X10_in _ _ _ (by first | assumption | omega) (by first | assumption | omega) (by first | assumption | omega)) cl_X10_in wm_X10_54 dX10_as_12 rfl rfl (by decide) (by decide) ⟨by omega, by omega⟩ (Nat.le_of_ble_eq_true rfl) rfl rfl ?_
    refine g_name hC (fun x2 e_x2 => ?_)
    refine g_if_ne (pc := 15) hC 20 dX10_as_15 (by decide) (by omega) (fun c15 => ?_) (fun c15 => ?_)
    · refine g_aload_n (pc := 20) hC 0 dX10_as_20 rfl rfl ?_
      refine g_get (pc := 21) hC 0 fl_X10_9 dX10_as_21 rfl rfl ?_
      refine g_bipush (pc := 24) hC (26) dX10_as_24 (by decide) ?_
      refine g_iload_n (pc := 26) hC 1 dX10_as_26 rfl rfl ?_
      refine g_iadd (pc := 27) hC dX10_as_27 ?_
      refine g_iald (pc := 28) hC 1 dX10_as_28 rfl (by omega) ?_
      have q3 := r_s (26 + p)
      refine g_iload_n (pc := 29) hC 2 dX10_as_29 rfl rfl ?_
      refine g_fnS (pc := 30) hC [] (k_X10_isUnder _ _ (by first | assumption | omega) (by first | assumption | omega)) cl_X10_isUnder wm_X10_247 dX10_as_30 rfl rfl (by decide) (by decide) ⟨by omega, by omega⟩ (Nat.le_of_ble_eq_true rfl) rfl rfl ?_
      refine g_name hC (fun x4 e_x4 => ?_)
      have q_x4 : x4 = 0 ∨ x4 = 1 := by rw [e_x4]; exact ac_un_01 _ _
      refine g_if_eq (pc := 33) hC 48 dX10_as_33 (by decide) (by omega) (fun c33 => ?_) (fun c33 => ?_)
      · refine g_bipush (pc := 48) hC (-6) dX10_as_48 (by decide) ?_
        exact g_iret (pc := 50) hR dX10_as_50 rfl ⟨by omega, by omega⟩ (Nat.le_of_ble_eq_true rfl) ⟨ret_eq (by unfold an_as; (repeat' split) <;> omega), rfl⟩
      · refine g_aload_n (pc := 36) hC 0 dX10_as_36 rfl rfl ?_
        refine g_get (pc := 37) hC 0 fl_X10_9 dX10_as_37 rfl rfl ?_
        refine g_bipush (pc := 40) hC (32) dX10_as_40 (by decide) ?_
        refine g_iload_n (pc := 42) hC 1 dX10_as_42 rfl rfl ?_
        refine g_iadd (pc := 43) hC dX10_as_43 ?_
        refine g_iald (pc := 44) hC 1 dX10_as_44 rfl (by omega) ?_
        have q5 := r_s (32 + p)
        refine g_goto (pc := 45) hC 50 dX10_as_45 (by decide) ?_
        exact g_iret (pc := 50) hR dX10_as_50 rfl ⟨by omega, by omega⟩ (Nat.le_of_ble_eq_true rfl) ⟨ret_eq (by unfold an_as; (repeat' split) <;> omega), rfl⟩
    · refine g_iconst (pc := 18) hC dX10_as_18 ?_
      exact g_iret (pc := 19) hR dX10_as_19 rfl ⟨by omega, by omega⟩ (Nat.le_of_ble_eq_true rfl) ⟨ret_eq (by unfold an_as; (repeat' split) <;> omega), rfl⟩
set_option maxHeartbeats 4000000 in
set_option maxRecDepth 100000 in
theorem k_X10_image {K : gK} (m0 : Nat) (m1 : Nat) (m2 : Nat) (w_thrown : Value) (w_frame : Value) (w_act : Value) (w_spot : Value) (w_end : Value) (w_isWrong : Value) (w_open : Value) (w_by : Value) (w_truths : Value) (w_pulls : Value) (w_isKeeping : Value) (w_next : Value) (w_first : Value) (w_order : Value) (w_bestOrder : Value) (w_rooms : Value) (w_leastUnlike : Value) (w_bodies : Value) (w_ran : Value) (w_kind : Value) (w_number : Value) (w_tellsV : Value) (hi : Int) (s : Int → Int) (im : Int → Int) (r_hi : rI hi) (r_s : ∀ j, rI (s j)) (r_im : ∀ j, rI (im j)) (hcs : md_cano s) (hci : md_cano im) : gMet K yX10_image cX10_image 2 (some .int) 0 0 0 [.ref m0] [cO m0 10 [w_thrown, .ref m1, .ref m2, w_frame, .int (iI hi), w_act, w_spot, w_end, w_isWrong, w_open, w_by, w_truths, w_pulls, w_isKeeping, w_next, w_first, w_order, w_bestOrder, w_rooms, w_leastUnlike, w_bodies, w_ran, w_kind, w_number, w_tellsV], cA K m1 922 s, cA K m2 922 im] (fun v9 w9 => ∃ (im2 : Int → Int), v9 = some (.int (iI (s 19))) ∧ w9 = [cO m0 10 [w_thrown, .ref m1, .ref m2, w_frame, .int (iI 1), w_act, w_spot, w_end, w_isWrong, w_open, w_by, w_truths, w_pulls, w_isKeeping, w_next, w_first, w_order, w_bestOrder, w_rooms, w_leastUnlike, w_bodies, w_ran, w_kind, w_number, w_tellsV], cA K m1 922 s, cA K m2 922 im2] ∧ (∀ j, rI (im2 j)) ∧ (im2 = s)) := by
  refine g_enter (by decide +kernel) (Nat.le_of_ble_eq_true rfl) (fun G hC hR => ?_)
  refine g_lv hC [0] [(0, _)] rfl ?_
  refine g_iconst (pc := 0) hC dX10_image_0 ?_
  refine g_istore_n (pc := 1) hC [(1, _), (0, _)] dX10_image_1 rfl (by decide) rfl ?_
  have L2 : ∀ (n1 : Nat) (i : Int) (f : Int → Int), (rI i) → (∀ j, rI (f j)) → (0 ≤ i ∧ i ≤ 922) → (∀ j, f j = if 0 ≤ j ∧ j < i then s j else im j) → 922 - i < (n1 : Int) → G 0 0 2 [(0, .ref m0), (1, .int (iI i))] [] [cO m0 10 [w_thrown, .ref m1, .ref m2, w_frame, .int (iI hi), w_act, w_spot, w_end, w_isWrong, w_open, w_by, w_truths, w_pulls, w_isKeeping, w_next, w_first, w_order, w_bestOrder, w_rooms, w_leastUnlike, w_bodies, w_ran, w_kind, w_number, w_tellsV], cA K m1 922 s, cA K m2 922 f] := by
    intro n1
    induction n1 with
    | zero => intro i f r_i r_f hi9 hf hm2; exfalso; omega
    | succ n1 ih2 =>
      intro i f r_i r_f hi9 hf hm2
      refine g_iload_n (pc := 2) hC 1 dX10_image_2 rfl rfl ?_
      refine g_sipush (pc := 3) hC (922) dX10_image_3 (by decide) ?_
      refine g_icmp_ge (pc := 6) hC 27 dX10_image_6 (by decide) (by omega) (by omega) (fun c6 => ?_) (fun c6 => ?_)
      · refine g_aload_n (pc := 27) hC 0 dX10_image_27 rfl rfl ?_
        refine g_iconst (pc := 28) hC dX10_image_28 ?_
        refine g_putZ (pc := 29) hC 0 [cO _ _ [_, _, _, _, _, _, _, _, _, _, _, _, _, _, _, _, _, _, _, _, _, _, _, _, _], _, _] fl_X10_271 dX10_image_29 rfl (Nat.le_of_ble_eq_true rfl) (by omega) rfl ?_
        refine g_aload_n (pc := 32) hC 0 dX10_image_32 rfl rfl ?_
        refine g_get (pc := 33) hC 0 fl_X10_9 dX10_image_33 rfl rfl ?_
        refine g_bipush (pc := 36) hC (19) dX10_image_36 (by decide) ?_
        refine g_iald (pc := 38) hC 1 dX10_image_38 rfl (by omega) ?_
        have q2 := r_s 19
        exact g_iret (pc := 39) hR dX10_image_39 rfl ⟨by omega, by omega⟩ (Nat.le_of_ble_eq_true rfl) ⟨f, ret_eq rfl, rfl, (by first | assumption | omega), (cp_all (i := i) (by omega) hcs hci hf (fun j hj => by rw [hf j, if_neg (by omega)]))⟩
      · refine g_aload_n (pc := 9) hC 0 dX10_image_9 rfl rfl ?_
        refine g_get (pc := 10) hC 0 fl_X10_15 dX10_image_10 rfl rfl ?_
        refine g_iload_n (pc := 13) hC 1 dX10_image_13 rfl rfl ?_
        refine g_aload_n (pc := 14) hC 0 dX10_image_14 rfl rfl ?_
        refine g_get (pc := 15) hC 0 fl_X10_9 dX10_image_15 rfl rfl ?_
        refine g_iload_n (pc := 18) hC 1 dX10_image_18 rfl rfl ?_
        refine g_iald (pc := 19) hC 1 dX10_image_19 rfl (by omega) ?_
        have q3 := r_s i
        refine g_iast (pc := 20) hC 2 (fun f9 => [_, _, cA K _ _ f9]) dX10_image_20 rfl (by omega) (fun _ => rfl) (fun f5 e_f5 => ?_)
        have r_f5 := rng_up e_f5 r_f (by omega)
        refine g_iinc (pc := 21) hC 1 [(1, _), (0, _)] dX10_image_21 rfl (by decide) rfl ?_
        refine g_goto (pc := 24) hC 2 dX10_image_24 (by decide) ?_
        refine g_lv hC [1, 0] [(0, _), (1, _)] rfl ?_
        exact ih2 (i + 1) f5 (by first | assumption | omega) (by first | assumption | omega) (by first | assumption | omega) (up_if hi9.1 e_f5 hf) (by omega)
  refine g_lv hC [1, 0] [(0, _), (1, _)] rfl ?_
  exact L2 ((922 - 0 : Int).toNat + 1) 0 im (by first | assumption | omega) (by first | assumption | omega) (by first | assumption | omega) (fun j => by rw [if_neg (by omega)]) (by omega)
set_option maxHeartbeats 4000000 in
set_option maxRecDepth 100000 in
theorem k_X10_undo {K : gK} (m0 : Nat) (m1 : Nat) (m2 : Nat) (w_thrown : Value) (w_frame : Value) (w_act : Value) (w_spot : Value) (w_end : Value) (w_isWrong : Value) (w_open : Value) (w_by : Value) (w_truths : Value) (w_pulls : Value) (w_isKeeping : Value) (w_next : Value) (w_first : Value) (w_order : Value) (w_bestOrder : Value) (w_rooms : Value) (w_leastUnlike : Value) (w_bodies : Value) (w_ran : Value) (w_kind : Value) (w_number : Value) (w_tellsV : Value) (hi : Int) (s : Int → Int) (im : Int → Int) (r_hi : rI hi) (r_s : ∀ j, rI (s j)) (r_im : ∀ j, rI (im j)) (hcs : md_cano s) (hci : md_cano im) : gMet K yX10_undo cX10_undo 2 (some .int) 0 0 0 [.ref m0] [cO m0 10 [w_thrown, .ref m1, .ref m2, w_frame, .int (iI hi), w_act, w_spot, w_end, w_isWrong, w_open, w_by, w_truths, w_pulls, w_isKeeping, w_next, w_first, w_order, w_bestOrder, w_rooms, w_leastUnlike, w_bodies, w_ran, w_kind, w_number, w_tellsV], cA K m1 922 s, cA K m2 922 im] (fun v9 w9 => ∃ (s2 : Int → Int), v9 = some (.int (iI (if hi = 0 then -3 else im 19))) ∧ w9 = [cO m0 10 [w_thrown, .ref m1, .ref m2, w_frame, .int (iI hi), w_act, w_spot, w_end, w_isWrong, w_open, w_by, w_truths, w_pulls, w_isKeeping, w_next, w_first, w_order, w_bestOrder, w_rooms, w_leastUnlike, w_bodies, w_ran, w_kind, w_number, w_tellsV], cA K m1 922 s2, cA K m2 922 im] ∧ (∀ j, rI (s2 j)) ∧ (s2 = if hi = 0 then s else im)) := by
  refine g_enter (by decide +kernel) (Nat.le_of_ble_eq_true rfl) (fun G hC hR => ?_)
  refine g_lv hC [0] [(0, _)] rfl ?_
  refine g_aload_n (pc := 0) hC 0 dX10_undo_0 rfl rfl ?_
  refine g_get (pc := 1) hC 0 fl_X10_271 dX10_undo_1 rfl rfl ?_
  refine g_if_ne (pc := 4) hC 10 dX10_undo_4 (by decide) (by omega) (fun c4 => ?_) (fun c4 => ?_)
  · refine g_iconst (pc := 10) hC dX10_undo_10 ?_
    refine g_istore_n (pc := 11) hC [(1, _), (0, _)] dX10_undo_11 rfl (by decide) rfl ?_
    have L12 : ∀ (n1 : Nat) (i : Int) (f : Int → Int), (rI i) → (∀ j, rI (f j)) → (0 ≤ i ∧ i ≤ 922) → (∀ j, f j = if 0 ≤ j ∧ j < i then im j else s j) → 922 - i < (n1 : Int) → G 0 0 12 [(0, .ref m0), (1, .int (iI i))] [] [cO m0 10 [w_thrown, .ref m1, .ref m2, w_frame, .int (iI hi), w_act, w_spot, w_end, w_isWrong, w_open, w_by, w_truths, w_pulls, w_isKeeping, w_next, w_first, w_order, w_bestOrder, w_rooms, w_leastUnlike, w_bodies, w_ran, w_kind, w_number, w_tellsV], cA K m1 922 f, cA K m2 922 im] := by
      intro n1
      induction n1 with
      | zero => intro i f r_i r_f hi9 hf hm12; exfalso; omega
      | succ n1 ih12 =>
        intro i f r_i r_f hi9 hf hm12
        refine g_iload_n (pc := 12) hC 1 dX10_undo_12 rfl rfl ?_
        refine g_sipush (pc := 13) hC (922) dX10_undo_13 (by decide) ?_
        refine g_icmp_ge (pc := 16) hC 37 dX10_undo_16 (by decide) (by omega) (by omega) (fun c16 => ?_) (fun c16 => ?_)
        · have hfm : f = im := cp_all (i := i) (by omega) hci hcs hf (fun j hj => by rw [hf j, if_neg (by omega)])
          refine g_aload_n (pc := 37) hC 0 dX10_undo_37 rfl rfl ?_
          refine g_get (pc := 38) hC 0 fl_X10_9 dX10_undo_38 rfl rfl ?_
          refine g_bipush (pc := 41) hC (19) dX10_undo_41 (by decide) ?_
          refine g_iald (pc := 43) hC 1 dX10_undo_43 rfl (by omega) ?_
          have q2 := r_f 19
          exact g_iret (pc := 44) hR dX10_undo_44 rfl ⟨by omega, by omega⟩ (Nat.le_of_ble_eq_true rfl) ⟨f, ret_eq (by rw [if_neg c4, hfm]), rfl, (by first | assumption | omega), (by rw [if_neg c4, hfm])⟩
        · refine g_aload_n (pc := 19) hC 0 dX10_undo_19 rfl rfl ?_
          refine g_get (pc := 20) hC 0 fl_X10_9 dX10_undo_20 rfl rfl ?_
          refine g_iload_n (pc := 23) hC 1 dX10_undo_23 rfl rfl ?_
          refine g_aload_n (pc := 24) hC 0 dX10_undo_24 rfl rfl ?_
          refine g_get (pc := 25) hC 0 fl_X10_15 dX10_undo_25 rfl rfl ?_
          refine g_iload_n (pc := 28) hC 1 dX10_undo_28 rfl rfl ?_
          refine g_iald (pc := 29) hC 2 dX10_undo_29 rfl (by omega) ?_
          have q3 := r_im i
          refine g_iast (pc := 30) hC 1 (fun f9 => [_, cA K _ _ f9, _]) dX10_undo_30 rfl (by omega) (fun _ => rfl) (fun f5 e_f5 => ?_)
          have r_f5 := rng_up e_f5 r_f (by omega)
          refine g_iinc (pc := 31) hC 1 [(1, _), (0, _)] dX10_undo_31 rfl (by decide) rfl ?_
          refine g_goto (pc := 34) hC 12 dX10_undo_34 (by decide) ?_
          refine g_lv hC [1, 0] [(0, _), (1, _)] rfl ?_
          exact ih12 (i + 1) f5 (by first | assumption | omega) (by first | assumption | omega) (by first | assumption | omega) (up_if hi9.1 e_f5 hf) (by omega)
    refine g_lv hC [1, 0] [(0, _), (1, _)] rfl ?_
    exact L12 ((922 - 0 : Int).toNat + 1) 0 s (by first | assumption | omega) (by first | assumption | omega) (by first | assumption | omega) (fun j => by rw [if_neg (by omega)]) (by omega)
  · refine g_bipush (pc := 7) hC (-3) dX10_undo_7 (by decide) ?_
    exact g_iret (pc := 9) hR dX10_undo_9 rfl ⟨by omega, by omega⟩ (Nat.le_of_ble_eq_true rfl) ⟨s, ret_eq (by rw [if_pos c4]), rfl, (by first | assumption | omega), (by rw [if_pos c4])⟩
set_option maxHeartbeats 4000000 in
set_option maxRecDepth 100000 in
theorem k_X10_count {K : gK} (m0 : Nat) (m1 : Nat) (w_thrown : Value) (w_image : Value) (w_frame : Value) (w_hasImage : Value) (w_act : Value) (w_spot : Value) (w_end : Value) (w_isWrong : Value) (w_open : Value) (w_by : Value) (w_truths : Value) (w_pulls : Value) (w_isKeeping : Value) (w_next : Value) (w_first : Value) (w_order : Value) (w_bestOrder : Value) (w_rooms : Value) (w_leastUnlike : Value) (w_bodies : Value) (w_kind : Value) (w_number : Value) (w_tellsV : Value) (w : Int) (ran : Int) (s : Int → Int) (r_w : rI w) (r_ran : rI ran) (r_s : ∀ j, rI (s j)) : gFn K yX10_count cX10_count 2 (some .int) 1 [.ref m0, .int (iI w)] [cO m0 10 [w_thrown, .ref m1, w_image, w_frame, w_hasImage, w_act, w_spot, w_end, w_isWrong, w_open, w_by, w_truths, w_pulls, w_isKeeping, w_next, w_first, w_order, w_bestOrder, w_rooms, w_leastUnlike, w_bodies, .int (iI ran), w_kind, w_number, w_tellsV], cA K m1 922 s] (if w = 6 then ran else if 0 ≤ w ∧ w ≤ 5 then s (19 + w) else -1) := by
  refine g_enter (by decide +kernel) (Nat.le_of_ble_eq_true rfl) (fun G hC hR => ?_)
  refine g_lv hC [0, 1] [(0, _), (1, _)] rfl ?_
  refine g_iload_n (pc := 0) hC 1 dX10_count_0 rfl rfl ?_
  refine g_bipush (pc := 1) hC (6) dX10_count_1 (by decide) ?_
  refine g_icmp_ne (pc := 3) hC 13 dX10_count_3 (by decide) (by omega) (by omega) (fun c3 => ?_) (fun c3 => ?_)
  · refine g_iload_n (pc := 13) hC 1 dX10_count_13 rfl rfl ?_
    refine g_iconst (pc := 14) hC dX10_count_14 ?_
    refine g_iconst (pc := 15) hC dX10_count_15 ?_
    refine g_fnS (pc := 16) hC [] (k_X10_in _ _ _ (by first | assumption | omega) (by first | assumption | omega) (by first | assumption | omega)) cl_X10_in wm_X10_54 dX10_count_16 rfl rfl (by decide) (by decide) ⟨by omega, by omega⟩ (Nat.le_of_ble_eq_true rfl) rfl rfl ?_
    refine g_name hC (fun x1 e_x1 => ?_)
    refine g_if_eq (pc := 19) hC 34 dX10_count_19 (by decide) (by omega) (fun c19 => ?_) (fun c19 => ?_)
    · refine g_iconst (pc := 34) hC dX10_count_34 ?_
      exact g_iret (pc := 35) hR dX10_count_35 rfl ⟨by omega, by omega⟩ (Nat.le_of_ble_eq_true rfl) ⟨ret_eq (by omega), rfl⟩
    · refine g_aload_n (pc := 22) hC 0 dX10_count_22 rfl rfl ?_
      refine g_get (pc := 23) hC 0 fl_X10_9 dX10_count_23 rfl rfl ?_
      refine g_bipush (pc := 26) hC (19) dX10_count_26 (by decide) ?_
      refine g_iload_n (pc := 28) hC 1 dX10_count_28 rfl rfl ?_
      refine g_iadd (pc := 29) hC dX10_count_29 ?_
      refine g_iald (pc := 30) hC 1 dX10_count_30 rfl (by omega) ?_
      have q2 := r_s (19 + w)
      refine g_goto (pc := 31) hC 35 dX10_count_31 (by decide) ?_
      exact g_iret (pc := 35) hR dX10_count_35 rfl ⟨by omega, by omega⟩ (Nat.le_of_ble_eq_true rfl) ⟨ret_eq (by omega), rfl⟩
  · refine g_aload_n (pc := 6) hC 0 dX10_count_6 rfl rfl ?_
    refine g_get (pc := 7) hC 0 fl_X10_235 dX10_count_7 rfl rfl ?_
    refine g_goto (pc := 10) hC 35 dX10_count_10 (by decide) ?_
    exact g_iret (pc := 35) hR dX10_count_35 rfl ⟨by omega, by omega⟩ (Nat.le_of_ble_eq_true rfl) ⟨ret_eq (by omega), rfl⟩
set_option maxHeartbeats 4000000 in
set_option maxRecDepth 100000 in
theorem k_X10_init {K : gK} (m0 : Nat) : gMet K yX10_init cX10_init 1 none 1 12 37983 [.ref m0] [cO m0 10 [.int (iI 0), .null, .null, .null, .int (iI 0), .int (iI 0), .int (iI 0), .int (iI 0), .int (iI 0), .int (iI 0), .null, .null, .null, .int (iI 0), .null, .null, .null, .null, .null, .int (iI 0), .null, .int (iI 0), .int (iI 0), .int (iI 0), .int (iI 0)]] (fun v9 w9 => ∃ (m1 : Nat), ∃ (m2 : Nat), ∃ (m3 : Nat), ∃ (m10 : Nat), ∃ (m11 : Nat), ∃ (m12 : Nat), ∃ (m14 : Nat), ∃ (m15 : Nat), ∃ (m16 : Nat), ∃ (m17 : Nat), ∃ (m18 : Nat), ∃ (m20 : Nat), ∃ (s2 : Int → Int), v9 = none ∧ w9 = [cO m0 10 [.int (iI 0), .ref m1, .ref m2, .ref m3, .int (iI 0), .int (iI 0), .int (iI 0), .int (iI 0), .int (iI 0), .int (iI 0), .ref m10, .ref m11, .ref m12, .int (iI 0), .ref m14, .ref m15, .ref m16, .ref m17, .ref m18, .int (iI 0), .ref m20, .int (iI 0), .int (iI 0), .int (iI 0), .int (iI 0)], cA K m1 922 s2, cA K m2 922 (fun _ => 0), cA K m3 19 (fun _ => 0), cA K m10 6 (fun _ => 0), cZ K m11 64 (fun _ => 0), cA K m12 36000 (fun _ => 0), cA K m14 6 (fun _ => 0), cA K m15 6 (fun _ => 0), cA K m16 6 (fun _ => 0), cA K m17 6 (fun _ => 0), cA K m18 6 (fun _ => 0), cA K m20 20 (fun _ => 0)] ∧ (s2 = upI (fun _ => 0) 25 (-1))) := by
  refine g_enter (by decide +kernel) (Nat.le_of_ble_eq_true rfl) (fun G hC hR => ?_)
  refine g_lv hC [0] [(0, _)] rfl ?_
  refine g_aload_n (pc := 0) hC 0 dX10_init_0 rfl rfl ?_
  refine g_objInit (pc := 1) hC wm_X10_3 (Nat.le_of_ble_eq_true rfl) (by decide) dX10_init_1 ?_
  refine g_aload_n (pc := 4) hC 0 dX10_init_4 rfl rfl ?_
  refine g_sipush (pc := 5) hC (922) dX10_init_5 (by decide) ?_
  refine g_newI (pc := 8) hC 922 (fun a9 => [_, cA K a9 922 (fun _ => 0)]) dX10_init_8 (by omega) (by omega) (fun _ => rfl) (fun a1 => ?_)
  refine g_putFA (pc := 10) hC 0 [cO _ _ [_, _, _, _, _, _, _, _, _, _, _, _, _, _, _, _, _, _, _, _, _, _, _, _, _], _] fl_X10_9 dX10_init_10 rfl (Nat.le_of_ble_eq_true rfl) rfl rfl rfl rfl ?_
  refine g_aload_n (pc := 13) hC 0 dX10_init_13 rfl rfl ?_
  refine g_sipush (pc := 14) hC (922) dX10_init_14 (by decide) ?_
  refine g_newI (pc := 17) hC 922 (fun a9 => [_, _, cA K a9 922 (fun _ => 0)]) dX10_init_17 (by omega) (by omega) (fun _ => rfl) (fun a2 => ?_)
  refine g_putFA (pc := 19) hC 0 [cO _ _ [_, _, _, _, _, _, _, _, _, _, _, _, _, _, _, _, _, _, _, _, _, _, _, _, _], _, _] fl_X10_15 dX10_init_19 rfl (Nat.le_of_ble_eq_true rfl) rfl rfl rfl rfl ?_
  refine g_aload_n (pc := 22) hC 0 dX10_init_22 rfl rfl ?_
  refine g_bipush (pc := 23) hC (19) dX10_init_23 (by decide) ?_
  refine g_newI (pc := 25) hC 19 (fun a9 => [_, _, _, cA K a9 19 (fun _ => 0)]) dX10_init_25 (by omega) (by omega) (fun _ => rfl) (fun a3 => ?_)
  refine g_putFA (pc := 27) hC 0 [cO _ _ [_, _, _, _, _, _, _, _, _, _, _, _, _, _, _, _, _, _, _, _, _, _, _, _, _], _, _, _] fl_X10_18 dX10_init_27 rfl (Nat.le_of_ble_eq_true rfl) rfl rfl rfl rfl ?_
  refine g_aload_n (pc := 30) hC 0 dX10_init_30 rfl rfl ?_
  refine g_bipush (pc := 31) hC (6) dX10_init_31 (by decide) ?_
  refine g_newI (pc := 33) hC 6 (fun a9 => [_, _, _, _, cA K a9 6 (fun _ => 0)]) dX10_init_33 (by omega) (by omega) (fun _ => rfl) (fun a4 => ?_)
  refine g_putFA (pc := 35) hC 0 [cO _ _ [_, _, _, _, _, _, _, _, _, _, _, _, _, _, _, _, _, _, _, _, _, _, _, _, _], _, _, _, _] fl_X10_21 dX10_init_35 rfl (Nat.le_of_ble_eq_true rfl) rfl rfl rfl rfl ?_
  refine g_aload_n (pc := 38) hC 0 dX10_init_38 rfl rfl ?_
  refine g_bipush (pc := 39) hC (64) dX10_init_39 (by decide) ?_
  refine g_newZ (pc := 41) hC 64 (fun a9 => [_, _, _, _, _, cZ K a9 64 (fun _ => 0)]) dX10_init_41 (by omega) (by omega) (fun _ => rfl) (fun a5 => ?_)
  refine g_putFA (pc := 43) hC 0 [cO _ _ [_, _, _, _, _, _, _, _, _, _, _, _, _, _, _, _, _, _, _, _, _, _, _, _, _], _, _, _, _, _] fl_X10_24 dX10_init_43 rfl (Nat.le_of_ble_eq_true rfl) rfl rfl rfl rfl ?_
  refine g_aload_n (pc := 46) hC 0 dX10_init_46 rfl rfl ?_
  refine g_ldc (pc := 47) hC (36000) wo_X10_28 (by decide) dX10_init_47 ?_
  refine g_newI (pc := 49) hC 36000 (fun a9 => [_, _, _, _, _, _, cA K a9 36000 (fun _ => 0)]) dX10_init_49 (by omega) (by omega) (fun _ => rfl) (fun a6 => ?_)
  refine g_putFA (pc := 51) hC 0 [cO _ _ [_, _, _, _, _, _, _, _, _, _, _, _, _, _, _, _, _, _, _, _, _, _, _, _, _], _, _, _, _, _, _] fl_X10_29 dX10_init_51 rfl (Nat.le_of_ble_eq_true rfl) rfl rfl rfl rfl ?_
  refine g_aload_n (pc := 54) hC 0 dX10_init_54 rfl rfl ?_
  refine g_bipush (pc := 55) hC (6) dX10_init_55 (by decide) ?_
  refine g_newI (pc := 57) hC 6 (fun a9 => [_, _, _, _, _, _, _, cA K a9 6 (fun _ => 0)]) dX10_init_57 (by omega) (by omega) (fun _ => rfl) (fun a7 => ?_)
  refine g_putFA (pc := 59) hC 0 [cO _ _ [_, _, _, _, _, _, _, _, _, _, _, _, _, _, _, _, _, _, _, _, _, _, _, _, _], _, _, _, _, _, _, _] fl_X10_32 dX10_init_59 rfl (Nat.le_of_ble_eq_true rfl) rfl rfl rfl rfl ?_
  refine g_aload_n (pc := 62) hC 0 dX10_init_62 rfl rfl ?_
  refine g_bipush (pc := 63) hC (6) dX10_init_63 (by decide) ?_
  refine g_newI (pc := 65) hC 6 (fun a9 => [_, _, _, _, _, _, _, _, cA K a9 6 (fun _ => 0)]) dX10_init_65 (by omega) (by omega) (fun _ => rfl) (fun a8 => ?_)
  refine g_putFA (pc := 67) hC 0 [cO _ _ [_, _, _, _, _, _, _, _, _, _, _, _, _, _, _, _, _, _, _, _, _, _, _, _, _], _, _, _, _, _, _, _, _] fl_X10_35 dX10_init_67 rfl (Nat.le_of_ble_eq_true rfl) rfl rfl rfl rfl ?_
  refine g_aload_n (pc := 70) hC 0 dX10_init_70 rfl rfl ?_
  refine g_bipush (pc := 71) hC (6) dX10_init_71 (by decide) ?_
  refine g_newI (pc := 73) hC 6 (fun a9 => [_, _, _, _, _, _, _, _, _, cA K a9 6 (fun _ => 0)]) dX10_init_73 (by omega) (by omega) (fun _ => rfl) (fun a9 => ?_)
  refine g_putFA (pc := 75) hC 0 [cO _ _ [_, _, _, _, _, _, _, _, _, _, _, _, _, _, _, _, _, _, _, _, _, _, _, _, _], _, _, _, _, _, _, _, _, _] fl_X10_38 dX10_init_75 rfl (Nat.le_of_ble_eq_true rfl) rfl rfl rfl rfl ?_
  refine g_aload_n (pc := 78) hC 0 dX10_init_78 rfl rfl ?_
  refine g_bipush (pc := 79) hC (6) dX10_init_79 (by decide) ?_
  refine g_newI (pc := 81) hC 6 (fun a9 => [_, _, _, _, _, _, _, _, _, _, cA K a9 6 (fun _ => 0)]) dX10_init_81 (by omega) (by omega) (fun _ => rfl) (fun a10 => ?_)
  refine g_putFA (pc := 83) hC 0 [cO _ _ [_, _, _, _, _, _, _, _, _, _, _, _, _, _, _, _, _, _, _, _, _, _, _, _, _], _, _, _, _, _, _, _, _, _, _] fl_X10_41 dX10_init_83 rfl (Nat.le_of_ble_eq_true rfl) rfl rfl rfl rfl ?_
  refine g_aload_n (pc := 86) hC 0 dX10_init_86 rfl rfl ?_
  refine g_bipush (pc := 87) hC (6) dX10_init_87 (by decide) ?_
  refine g_newI (pc := 89) hC 6 (fun a9 => [_, _, _, _, _, _, _, _, _, _, _, cA K a9 6 (fun _ => 0)]) dX10_init_89 (by omega) (by omega) (fun _ => rfl) (fun a11 => ?_)
  refine g_putFA (pc := 91) hC 0 [cO _ _ [_, _, _, _, _, _, _, _, _, _, _, _, _, _, _, _, _, _, _, _, _, _, _, _, _], _, _, _, _, _, _, _, _, _, _, _] fl_X10_44 dX10_init_91 rfl (Nat.le_of_ble_eq_true rfl) rfl rfl rfl rfl ?_
  refine g_aload_n (pc := 94) hC 0 dX10_init_94 rfl rfl ?_
  refine g_bipush (pc := 95) hC (20) dX10_init_95 (by decide) ?_
  refine g_newI (pc := 97) hC 20 (fun a9 => [_, _, _, _, _, _, _, _, _, _, _, _, cA K a9 20 (fun _ => 0)]) dX10_init_97 (by omega) (by omega) (fun _ => rfl) (fun a12 => ?_)
  refine g_putFA (pc := 99) hC 0 [cO _ _ [_, _, _, _, _, _, _, _, _, _, _, _, _, _, _, _, _, _, _, _, _, _, _, _, _], _, _, _, _, _, _, _, _, _, _, _, _] fl_X10_47 dX10_init_99 rfl (Nat.le_of_ble_eq_true rfl) rfl rfl rfl rfl ?_
  refine g_aload_n (pc := 102) hC 0 dX10_init_102 rfl rfl ?_
  refine g_get (pc := 103) hC 0 fl_X10_9 dX10_init_103 rfl rfl ?_
  refine g_bipush (pc := 106) hC (25) dX10_init_106 (by decide) ?_
  refine g_iconst (pc := 108) hC dX10_init_108 ?_
  refine g_iast (pc := 109) hC 1 (fun f9 => [_, cA K _ _ f9, _, _, _, _, _, _, _, _, _, _, _]) dX10_init_109 rfl (by omega) (fun _ => rfl) (fun s3 e_s3 => ?_)
  exact g_vret (pc := 110) hR dX10_init_110 rfl ⟨by omega, by omega⟩ (Nat.le_of_ble_eq_true rfl) ⟨a1, a2, a3, a4, a5, a6, a7, a8, a9, a10, a11, a12, s3, rfl, rfl, e_s3⟩
