theorem md_fm_s {W : (Int → Int) → Int} {rch : Int} {s : Int → Int} {w i n l y n2 l2 : Int} {k : Nat} (hi : i = 9 - (k : Int)) (hn : n = (md_fm W rch s w k).1) (hl : l = (md_fm W rch s w k).2) (hy : y = md_as W rch (upI s w i) 21) (hn2 : n2 = if y = 0 then n else n + 1) (hl2 : l2 = if y = 0 then l else i) : n2 = (md_fm W rch s w (k + 1)).1 ∧ l2 = (md_fm W rch s w (k + 1)).2 := by
  have e : md_fm W rch s w (k + 1) = if md_as W rch (upI s w (9 - (k : Int))) 21 = 0 then md_fm W rch s w k else ((md_fm W rch s w k).1 + 1, 9 - (k : Int)) := rfl
  rw [e, ← hi, ← hy]
  split
  · rw [if_pos (by assumption)] at hn2 hl2
    exact ⟨by rw [hn2, hn], by rw [hl2, hl]⟩
  · rw [if_neg (by assumption)] at hn2 hl2
    exact ⟨by rw [hn2, hn], hl2⟩
theorem md_backV {s sv s2 fr s3 : Int → Int} {w x : Int} (hw : 32 ≤ w) (e : s2 = upI sv w x) (h1 : ∀ j, 0 ≤ j → j < 19 → fr j = sv j) (h3 : ∀ j, s3 j = if 0 ≤ j ∧ j < 19 then fr j else s2 j) (hsv : ∀ j, j ≠ w → sv j = s j) : s3 = upI s w x := by
  funext j
  rw [h3]
  unfold upI
  split
  · rw [if_neg (by omega), h1 j (by omega) (by omega), hsv j (by omega)]
  · rw [e]
    unfold upI
    split
    · rfl
    · exact hsv j (by assumption)
theorem upI_back {s sv s9 : Int → Int} {w : Int} (e : s9 = upI sv w (s w)) (h : ∀ z, z ≠ w → sv z = s z) : s9 = s := by
  funext z
  rw [e]
  by_cases hz : z = w
  · rw [hz]; exact upI_at _ _ _
  · rw [upI_ne hz]; exact h z hz
theorem md_PC0 {W : (Int → Int) → Int} {kd fu : Int → Int} (h : ∀ j, 0 ≤ j → j < 36000 → fu j = 1000000000) : md_PC W kd fu := fun p q x d t a1 a2 a3 a4 a5 a6 a7 a8 a9 a10 => Or.inl (h _ (by omega) (by omega))
theorem md_tq_s {W : (Int → Int) → Int} {rch : Int} {s f : Int → Int} {p st x y z i t0 : Int} {n q : Nat} (hi : i = (q : Int)) (hf : f = md_goN W rch (upI s (1 + p) st) n) (hy : y = md_tq W rch s p n st x q) (ht : 0 < st → t0 = md_goN W rch (upI s (1 + p) 0) n (1 + i)) (hz : z = if st ≤ 0 then 0 else if f (1 + i) = t0 then 0 else bShl 1 i) : bOr y z = md_tq W rch s p n st x (q + 1) := by
  rw [show md_tq W rch s p n st x (q + 1) = bOr (md_tq W rch s p n st x q) (if st ≤ 0 then 0 else if md_goN W rch (upI s (1 + p) st) n (1 + (q : Int)) = md_goN W rch (upI s (1 + p) 0) n (1 + (q : Int)) then 0 else bShl 1 (q : Int)) from rfl, ← hf, ← hi, hy, hz]
  split
  · rfl
  · rw [ht (by omega)]
theorem md_up_s {W : (Int → Int) → Int} {rch : Int} {s f : Int → Int} {p q x i y z : Int} {n k : Nat} (hi : i = (k : Int)) (hf : f = md_goN W rch (upI s (1 + p) i) n) (hy : y = md_up W rch s p q x n k) (hz : z = if f (1 + q) = x then 1 else 0) : y + z = md_up W rch s p q x n (k + 1) := by
  rw [show md_up W rch s p q x n (k + 1) = md_up W rch s p q x n k + (if md_goN W rch (upI s (1 + p) (k : Int)) n (1 + q) = x then 1 else 0) from rfl, ← hi, ← hf, hy, hz]
theorem md_sm_s {s : Int → Int} {i a b a2 b2 : Int} {p : Nat} (hi : i = (p : Int)) (ha : a = (md_sm s p).1) (hb : b = (md_sm s p).2) (ha2 : a2 = if s (7 + i) = 0 then a + s (1 + i) else a) (hb2 : b2 = if s (7 + i) = 0 then b + 1 else b) : a2 = (md_sm s (p + 1)).1 ∧ b2 = (md_sm s (p + 1)).2 := by
  have e : md_sm s (p + 1) = if s (7 + (p : Int)) = 0 then ((md_sm s p).1 + s (1 + (p : Int)), (md_sm s p).2 + 1) else md_sm s p := rfl
  rw [e, ← hi]
  split
  · rw [if_pos (by assumption)] at ha2 hb2
    exact ⟨by rw [ha2, ha], by rw [hb2, hb]⟩
  · rw [if_neg (by assumption)] at ha2 hb2
    exact ⟨by rw [ha2, ha], by rw [hb2, hb]⟩
theorem md_gcd_s {a b G : Nat} (h : Nat.gcd a b = G) (hb : b ≠ 0) : Nat.gcd b (a % b) = G := by
  rw [← h, Nat.gcd_comm a b, Nat.gcd_rec b a, Nat.gcd_comm]
theorem md_gcd_0 {a b G : Nat} (h : Nat.gcd a b = G) (hb : (b : Int) = 0) : (a : Int) = (G : Int) := by
  have h0 : b = 0 := by omega
  rw [h0, Nat.gcd_zero_right] at h
  rw [h]
/-- the fewest steps till one is in a state, fewer than L, else L: what STEER needs of it -/
def md_sp (s : Int → Int) (p x L r : Int) : Prop := (0 ≤ r ∧ r ≤ L) ∧ (0 < L → s (1 + p) = x → r = 0) ∧ (0 < L → ¬ s (1 + p) = x → 1 ≤ r) ∧ (¬ s (7 + p) = 0 → ¬ s (1 + p) = x → r = L)
set_option maxHeartbeats 4000000 in
set_option maxRecDepth 100000 in
theorem k_X10_states {K : gK} (m0 : Nat) (m1 : Nat) (m3 : Nat) (m10 : Nat) (m11 : Nat) (m12 : Nat) (m14 : Nat) (w_thrown : Value) (w_image : Value) (w_hasImage : Value) (w_act : Value) (w_spot : Value) (w_end : Value) (w_isWrong : Value) (w_open : Value) (w_first : Value) (w_order : Value) (w_bestOrder : Value) (w_rooms : Value) (w_leastUnlike : Value) (w_bodies : Value) (w_ran : Value) (w_kind : Value) (w_number : Value) (w_tellsV : Value) (p : Int) (ik : Int) (s : Int → Int) (fr : Int → Int) (fb : Int → Int) (ft : Int → Int) (fu : Int → Int) (fn : Int → Int) (W : (Int → Int) → Int) (rch : Int) (r_p : rI p) (r_ik : rI ik) (r_s : ∀ j, rI (s j)) (r_fr : ∀ j, rI (fr j)) (r_fb : ∀ j, rI (fb j)) (r_ft : rZ ft) (r_fu : ∀ j, rI (fu j)) (r_fn : ∀ j, rI (fn j)) (hg : md_rg s) (h0 : s 0 + 21 ≤ 20000) (hs : md_rs s) (hT : md_TK s W rch) (hik : ik = 0) : gMet K yX10_states cX10_states 2 (some .int) 8 0 0 [.ref m0, .int (iI p)] [cO m0 10 [w_thrown, .ref m1, w_image, .ref m3, w_hasImage, w_act, w_spot, w_end, w_isWrong, w_open, .ref m10, .ref m11, .ref m12, .int (iI ik), .ref m14, w_first, w_order, w_bestOrder, w_rooms, w_leastUnlike, w_bodies, w_ran, w_kind, w_number, w_tellsV], cA K m1 922 s, cA K m3 19 fr, cA K m10 6 fb, cZ K m11 64 ft, cA K m12 36000 fu, cA K m14 6 fn] (fun v9 w9 => ∃ (fr2 : Int → Int), ∃ (fb2 : Int → Int), ∃ (ft2 : Int → Int), ∃ (fu2 : Int → Int), ∃ (fn2 : Int → Int), ∃ (ik2 : Int), v9 = some (.int (iI (an_states W rch s p))) ∧ w9 = [cO m0 10 [w_thrown, .ref m1, w_image, .ref m3, w_hasImage, w_act, w_spot, w_end, w_isWrong, w_open, .ref m10, .ref m11, .ref m12, .int (iI ik2), .ref m14, w_first, w_order, w_bestOrder, w_rooms, w_leastUnlike, w_bodies, w_ran, w_kind, w_number, w_tellsV], cA K m1 922 s, cA K m3 19 fr2, cA K m10 6 fb2, cZ K m11 64 ft2, cA K m12 36000 fu2, cA K m14 6 fn2] ∧ (∀ j, rI (fr2 j)) ∧ (∀ j, rI (fb2 j)) ∧ rZ ft2 ∧ (∀ j, rI (fu2 j)) ∧ (∀ j, rI (fn2 j)) ∧ rI ik2 ∧ (ik2 = 0)) := by
  refine g_enter (by decide +kernel) (Nat.le_of_ble_eq_true rfl) (fun G hC hR => ?_)
  refine g_lv hC [0, 1] [(0, _), (1, _)] rfl ?_
  have hg0 := hg.2.2.2
  have h19 := hg.2.2.1
  refine g_aload_n (pc := 0) hC 0 dX10_states_0 rfl rfl ?_
  refine g_iload_n (pc := 1) hC 1 dX10_states_1 rfl rfl ?_
  refine g_fnV (pc := 2) (qr := 0) hC [0, 1] (k_X10_isMan _ _ _ _ _ _ _ _ _ _ _ _ _ _ _ _ _ _ _ _ _ _ _ _ _ _ _ _ (by first | assumption | omega) (by first | assumption | omega) (by first | assumption | omega)) cl_X10_isMan wm_X10_159 dX10_states_2 rfl rfl rfl rfl rfl (by decide) (by decide) ⟨by omega, by omega⟩ (Nat.le_of_ble_eq_true rfl) rfl rfl ?_
  refine g_name hC (fun x1 e_x1 => ?_)
  refine g_if_eq (pc := 5) hC 18 dX10_states_5 (by decide) (by omega) (fun c5 => ?_) (fun c5 => ?_)
  · refine g_iconst (pc := 18) hC dX10_states_18 ?_
    exact g_iret (pc := 19) hR dX10_states_19 rfl ⟨by omega, by omega⟩ (Nat.le_of_ble_eq_true rfl) ⟨fr, fb, ft, fu, fn, ik, ret_eq (by unfold an_states; (repeat' split) <;> omega), rfl, (by first | assumption | omega), (by first | assumption | omega), (by first | assumption | omega), (by first | assumption | omega), (by first | assumption | omega), (by first | assumption | omega), (by first | assumption | omega)⟩
  · refine g_aload_n (pc := 8) hC 0 dX10_states_8 rfl rfl ?_
    refine g_iconst (pc := 9) hC dX10_states_9 ?_
    refine g_iload_n (pc := 10) hC 1 dX10_states_10 rfl rfl ?_
    refine g_iadd (pc := 11) hC dX10_states_11 ?_
    refine g_callV (pc := 12) (qr := 0) hC [0, 1, 2, 3, 4, 5, 6] (k_X10_fitting _ _ _ _ _ _ _ _ _ _ _ _ _ _ _ _ _ _ _ _ _ _ _ _ _ _ _ _ _ _ _ _ _ _ _ (by first | assumption | omega) (by first | assumption | omega) (by first | assumption | omega) (by first | assumption | omega) (by first | assumption | omega) (by first | assumption | omega) (by first | assumption | omega) (by first | assumption | omega) (by first | assumption | omega) (by first | assumption | omega) (by first | assumption | omega) (by first | assumption | omega) (by first | assumption | omega)) cl_X10_fitting wm_X10_217 dX10_states_12 rfl rfl rfl rfl rfl (by decide) (by decide) (by omega) (Nat.le_of_ble_eq_true rfl) rfl (fun v9 w9 hq9 => ?_)
    obtain ⟨fr2, fb3, ft4, fu5, fn6, rfl, rfl, r_fr2, r_fb3, r_ft4, r_fu5, r_fn6⟩ := hq9
    refine g_ws hC [cO m0 10 [w_thrown, .ref m1, w_image, .ref m3, w_hasImage, w_act, w_spot, w_end, w_isWrong, w_open, .ref m10, .ref m11, .ref m12, .int (iI 0), .ref m14, w_first, w_order, w_bestOrder, w_rooms, w_leastUnlike, w_bodies, w_ran, w_kind, w_number, w_tellsV], cA K m1 922 s, cA K m3 19 fr2, cA K m10 6 fb3, cZ K m11 64 ft4, cA K m12 36000 fu5, cA K m14 6 fn6] rfl ?_
    refine g_st hC [.int (iI (md_fit W rch s (1 + p) 10))] rfl ?_
    refine g_goto (pc := 15) hC 19 dX10_states_15 (by decide) ?_
    exact g_iret (pc := 19) hR dX10_states_19 rfl ⟨by omega, by omega⟩ (Nat.le_of_ble_eq_true rfl) ⟨fr2, fb3, ft4, fu5, fn6, 0, ret_eq (by unfold an_states; (repeat' split) <;> omega), rfl, (by first | assumption | omega), (by first | assumption | omega), (by first | assumption | omega), (by first | assumption | omega), (by first | assumption | omega), (by first | assumption | omega), (by first | assumption | omega)⟩
set_option maxHeartbeats 4000000 in
set_option maxRecDepth 100000 in
theorem k_X10_where {K : gK} (m0 : Nat) (m1 : Nat) (m3 : Nat) (m10 : Nat) (m11 : Nat) (m12 : Nat) (m14 : Nat) (w_thrown : Value) (w_image : Value) (w_hasImage : Value) (w_act : Value) (w_spot : Value) (w_end : Value) (w_isWrong : Value) (w_open : Value) (w_first : Value) (w_order : Value) (w_bestOrder : Value) (w_rooms : Value) (w_leastUnlike : Value) (w_bodies : Value) (w_ran : Value) (w_kind : Value) (w_number : Value) (w_tellsV : Value) (p : Int) (ik : Int) (s : Int → Int) (fr : Int → Int) (fb : Int → Int) (ft : Int → Int) (fu : Int → Int) (fn : Int → Int) (W : (Int → Int) → Int) (rch : Int) (r_p : rI p) (r_ik : rI ik) (r_s : ∀ j, rI (s j)) (r_fr : ∀ j, rI (fr j)) (r_fb : ∀ j, rI (fb j)) (r_ft : rZ ft) (r_fu : ∀ j, rI (fu j)) (r_fn : ∀ j, rI (fn j)) (hg : md_rg s) (h0 : s 0 + 21 ≤ 20000) (hs : md_rs s) (hT : md_TK s W rch) (hik : ik = 0) : gMet K yX10_where cX10_where 2 (some .int) 8 0 0 [.ref m0, .int (iI p)] [cO m0 10 [w_thrown, .ref m1, w_image, .ref m3, w_hasImage, w_act, w_spot, w_end, w_isWrong, w_open, .ref m10, .ref m11, .ref m12, .int (iI ik), .ref m14, w_first, w_order, w_bestOrder, w_rooms, w_leastUnlike, w_bodies, w_ran, w_kind, w_number, w_tellsV], cA K m1 922 s, cA K m3 19 fr, cA K m10 6 fb, cZ K m11 64 ft, cA K m12 36000 fu, cA K m14 6 fn] (fun v9 w9 => ∃ (fr2 : Int → Int), ∃ (fb2 : Int → Int), ∃ (ft2 : Int → Int), ∃ (fu2 : Int → Int), ∃ (fn2 : Int → Int), ∃ (ik2 : Int), v9 = some (.int (iI (an_where W rch s p))) ∧ w9 = [cO m0 10 [w_thrown, .ref m1, w_image, .ref m3, w_hasImage, w_act, w_spot, w_end, w_isWrong, w_open, .ref m10, .ref m11, .ref m12, .int (iI ik2), .ref m14, w_first, w_order, w_bestOrder, w_rooms, w_leastUnlike, w_bodies, w_ran, w_kind, w_number, w_tellsV], cA K m1 922 s, cA K m3 19 fr2, cA K m10 6 fb2, cZ K m11 64 ft2, cA K m12 36000 fu2, cA K m14 6 fn2] ∧ (∀ j, rI (fr2 j)) ∧ (∀ j, rI (fb2 j)) ∧ rZ ft2 ∧ (∀ j, rI (fu2 j)) ∧ (∀ j, rI (fn2 j)) ∧ rI ik2 ∧ (ik2 = 0)) := by
  refine g_enter (by decide +kernel) (Nat.le_of_ble_eq_true rfl) (fun G hC hR => ?_)
  refine g_lv hC [0, 1] [(0, _), (1, _)] rfl ?_
  have hg0 := hg.2.2.2
  have h19 := hg.2.2.1
  refine g_aload_n (pc := 0) hC 0 dX10_where_0 rfl rfl ?_
  refine g_iload_n (pc := 1) hC 1 dX10_where_1 rfl rfl ?_
  refine g_fnV (pc := 2) (qr := 0) hC [0, 1] (k_X10_isMan _ _ _ _ _ _ _ _ _ _ _ _ _ _ _ _ _ _ _ _ _ _ _ _ _ _ _ _ (by first | assumption | omega) (by first | assumption | omega) (by first | assumption | omega)) cl_X10_isMan wm_X10_159 dX10_where_2 rfl rfl rfl rfl rfl (by decide) (by decide) ⟨by omega, by omega⟩ (Nat.le_of_ble_eq_true rfl) rfl rfl ?_
  refine g_name hC (fun x1 e_x1 => ?_)
  refine g_if_eq (pc := 5) hC 19 dX10_where_5 (by decide) (by omega) (fun c5 => ?_) (fun c5 => ?_)
  · refine g_iconst (pc := 19) hC dX10_where_19 ?_
    exact g_iret (pc := 20) hR dX10_where_20 rfl ⟨by omega, by omega⟩ (Nat.le_of_ble_eq_true rfl) ⟨fr, fb, ft, fu, fn, ik, ret_eq (by unfold an_where; (repeat' split) <;> omega), rfl, (by first | assumption | omega), (by first | assumption | omega), (by first | assumption | omega), (by first | assumption | omega), (by first | assumption | omega), (by first | assumption | omega), (by first | assumption | omega)⟩
  · refine g_aload_n (pc := 8) hC 0 dX10_where_8 rfl rfl ?_
    refine g_bipush (pc := 9) hC (13) dX10_where_9 (by decide) ?_
    refine g_iload_n (pc := 11) hC 1 dX10_where_11 rfl rfl ?_
    refine g_iadd (pc := 12) hC dX10_where_12 ?_
    refine g_callV (pc := 13) (qr := 0) hC [0, 1, 2, 3, 4, 5, 6] (k_X10_fitting _ _ _ _ _ _ _ _ _ _ _ _ _ _ _ _ _ _ _ _ _ _ _ _ _ _ _ _ _ _ _ _ _ _ _ (by first | assumption | omega) (by first | assumption | omega) (by first | assumption | omega) (by first | assumption | omega) (by first | assumption | omega) (by first | assumption | omega) (by first | assumption | omega) (by first | assumption | omega) (by first | assumption | omega) (by first | assumption | omega) (by first | assumption | omega) (by first | assumption | omega) (by first | assumption | omega)) cl_X10_fitting wm_X10_217 dX10_where_13 rfl rfl rfl rfl rfl (by decide) (by decide) (by omega) (Nat.le_of_ble_eq_true rfl) rfl (fun v9 w9 hq9 => ?_)
    obtain ⟨fr2, fb3, ft4, fu5, fn6, rfl, rfl, r_fr2, r_fb3, r_ft4, r_fu5, r_fn6⟩ := hq9
    refine g_ws hC [cO m0 10 [w_thrown, .ref m1, w_image, .ref m3, w_hasImage, w_act, w_spot, w_end, w_isWrong, w_open, .ref m10, .ref m11, .ref m12, .int (iI 0), .ref m14, w_first, w_order, w_bestOrder, w_rooms, w_leastUnlike, w_bodies, w_ran, w_kind, w_number, w_tellsV], cA K m1 922 s, cA K m3 19 fr2, cA K m10 6 fb3, cZ K m11 64 ft4, cA K m12 36000 fu5, cA K m14 6 fn6] rfl ?_
    refine g_st hC [.int (iI (md_fit W rch s (13 + p) 10))] rfl ?_
    refine g_goto (pc := 16) hC 20 dX10_where_16 (by decide) ?_
    exact g_iret (pc := 20) hR dX10_where_20 rfl ⟨by omega, by omega⟩ (Nat.le_of_ble_eq_true rfl) ⟨fr2, fb3, ft4, fu5, fn6, 0, ret_eq (by unfold an_where; (repeat' split) <;> omega), rfl, (by first | assumption | omega), (by first | assumption | omega), (by first | assumption | omega), (by first | assumption | omega), (by first | assumption | omega), (by first | assumption | omega), (by first | assumption | omega)⟩
set_option maxHeartbeats 4000000 in
set_option maxRecDepth 100000 in
theorem k_X10_firm {K : gK} (m0 : Nat) (m1 : Nat) (m3 : Nat) (m10 : Nat) (m11 : Nat) (m12 : Nat) (m14 : Nat) (w_thrown : Value) (w_image : Value) (w_hasImage : Value) (w_act : Value) (w_spot : Value) (w_end : Value) (w_isWrong : Value) (w_open : Value) (w_first : Value) (w_order : Value) (w_bestOrder : Value) (w_rooms : Value) (w_leastUnlike : Value) (w_bodies : Value) (w_ran : Value) (w_kind : Value) (w_number : Value) (w_tellsV : Value) (p : Int) (w : Int) (ik : Int) (s : Int → Int) (fr : Int → Int) (fb : Int → Int) (ft : Int → Int) (fu : Int → Int) (fn : Int → Int) (W : (Int → Int) → Int) (rch : Int) (r_p : rI p) (r_w : rI w) (r_ik : rI ik) (r_s : ∀ j, rI (s j)) (r_fr : ∀ j, rI (fr j)) (r_fb : ∀ j, rI (fb j)) (r_ft : rZ ft) (r_fu : ∀ j, rI (fu j)) (r_fn : ∀ j, rI (fn j)) (hg : md_rg s) (h0 : s 0 + 21 ≤ 20000) (hs : md_rs s) (hT : md_TK s W rch) (hik : ik = 0) : gMet K yX10_firm cX10_firm 8 (some .int) 7 0 0 [.ref m0, .int (iI p), .int (iI w)] [cO m0 10 [w_thrown, .ref m1, w_image, .ref m3, w_hasImage, w_act, w_spot, w_end, w_isWrong, w_open, .ref m10, .ref m11, .ref m12, .int (iI ik), .ref m14, w_first, w_order, w_bestOrder, w_rooms, w_leastUnlike, w_bodies, w_ran, w_kind, w_number, w_tellsV], cA K m1 922 s, cA K m3 19 fr, cA K m10 6 fb, cZ K m11 64 ft, cA K m12 36000 fu, cA K m14 6 fn] (fun v9 w9 => ∃ (fr2 : Int → Int), ∃ (fb2 : Int → Int), ∃ (ft2 : Int → Int), ∃ (fu2 : Int → Int), ∃ (fn2 : Int → Int), ∃ (ik2 : Int), v9 = some (.int (iI (an_firm W rch s p w))) ∧ w9 = [cO m0 10 [w_thrown, .ref m1, w_image, .ref m3, w_hasImage, w_act, w_spot, w_end, w_isWrong, w_open, .ref m10, .ref m11, .ref m12, .int (iI ik2), .ref m14, w_first, w_order, w_bestOrder, w_rooms, w_leastUnlike, w_bodies, w_ran, w_kind, w_number, w_tellsV], cA K m1 922 s, cA K m3 19 fr2, cA K m10 6 fb2, cZ K m11 64 ft2, cA K m12 36000 fu2, cA K m14 6 fn2] ∧ (∀ j, rI (fr2 j)) ∧ (∀ j, rI (fb2 j)) ∧ rZ ft2 ∧ (∀ j, rI (fu2 j)) ∧ (∀ j, rI (fn2 j)) ∧ rI ik2 ∧ (ik2 = 0)) := by
  refine g_enter (by decide +kernel) (Nat.le_of_ble_eq_true rfl) (fun G hC hR => ?_)
  refine g_lv hC [0, 1, 2] [(0, _), (1, _), (2, _)] rfl ?_
  have hg0 := hg.2.2.2
  have h19 := hg.2.2.1
  refine g_aload_n (pc := 0) hC 0 dX10_firm_0 rfl rfl ?_
  refine g_iload_n (pc := 1) hC 1 dX10_firm_1 rfl rfl ?_
  refine g_fnV (pc := 2) (qr := 0) hC [0, 1] (k_X10_isMan _ _ _ _ _ _ _ _ _ _ _ _ _ _ _ _ _ _ _ _ _ _ _ _ _ _ _ _ (by first | assumption | omega) (by first | assumption | omega) (by first | assumption | omega)) cl_X10_isMan wm_X10_159 dX10_firm_2 rfl rfl rfl rfl rfl (by decide) (by decide) ⟨by omega, by omega⟩ (Nat.le_of_ble_eq_true rfl) rfl rfl ?_
  refine g_name hC (fun x1 e_x1 => ?_)
  refine g_if_eq (pc := 5) hC 17 dX10_firm_5 (by decide) (by omega) (fun c5 => ?_) (fun c5 => ?_)
  · refine g_iconst (pc := 17) hC dX10_firm_17 ?_
    exact g_iret (pc := 18) hR dX10_firm_18 rfl ⟨by omega, by omega⟩ (Nat.le_of_ble_eq_true rfl) ⟨fr, fb, ft, fu, fn, ik, ret_eq (by unfold an_firm; rw [if_neg (by omega)]), rfl, (by first | assumption | omega), (by first | assumption | omega), (by first | assumption | omega), (by first | assumption | omega), (by first | assumption | omega), (by first | assumption | omega), (by first | assumption | omega)⟩
  · refine g_iload_n (pc := 8) hC 2 dX10_firm_8 rfl rfl ?_
    refine g_iconst (pc := 9) hC dX10_firm_9 ?_
    refine g_iconst (pc := 10) hC dX10_firm_10 ?_
    refine g_fnS (pc := 11) hC [] (k_X10_in _ _ _ (by first | assumption | omega) (by first | assumption | omega) (by first | assumption | omega)) cl_X10_in wm_X10_54 dX10_firm_11 rfl rfl (by decide) (by decide) ⟨by omega, by omega⟩ (Nat.le_of_ble_eq_true rfl) rfl rfl ?_
    refine g_name hC (fun x2 e_x2 => ?_)
    refine g_if_ne (pc := 14) hC 19 dX10_firm_14 (by decide) (by omega) (fun c14 => ?_) (fun c14 => ?_)
    · refine g_aload_n (pc := 19) hC 0 dX10_firm_19 rfl rfl ?_
      refine g_get (pc := 20) hC 0 fl_X10_9 dX10_firm_20 rfl rfl ?_
      refine g_bipush (pc := 23) hC (32) dX10_firm_23 (by decide) ?_
      refine g_iload_n (pc := 25) hC 1 dX10_firm_25 rfl rfl ?_
      refine g_iadd (pc := 26) hC dX10_firm_26 ?_
      refine g_iald (pc := 27) hC 1 dX10_firm_27 rfl (by omega) ?_
      have q3 := r_s (32 + p)
      refine g_istore_n (pc := 28) hC [(3, _), (0, _), (1, _), (2, _)] dX10_firm_28 rfl (by decide) rfl ?_
      have hv9 := hg.1 p (by omega) (by omega)
      refine g_aload_n (pc := 29) hC 1 dX10_firm_29 rfl rfl ?_
      refine g_callV (pc := 30) (qr := 0) hC [0, 5] (k_X10_begins _ _ _ _ _ _ _ _ _ _ _ _ _ _ _ _ _ _ _ _ _ _ _ _ _ _ _ (by first | assumption | omega)) cl_X10_begins wm_X10_190 dX10_firm_30 rfl rfl rfl rfl rfl (by decide) (by decide) (by omega) (Nat.le_of_ble_eq_true rfl) rfl (fun v9 w9 hq9 => ?_)
      obtain ⟨fu1, rfl, rfl, r_fu1, hkb⟩ := hq9
      refine g_ws hC [cO m0 10 [w_thrown, .ref m1, w_image, .ref m3, w_hasImage, w_act, w_spot, w_end, w_isWrong, w_open, .ref m10, .ref m11, .ref m12, .int (iI 1), .ref m14, w_first, w_order, w_bestOrder, w_rooms, w_leastUnlike, w_bodies, w_ran, w_kind, w_number, w_tellsV], cA K m1 922 s, cA K m3 19 fr, cA K m10 6 fb, cZ K m11 64 ft, cA K m12 36000 fu1, cA K m14 6 fn] rfl ?_
      refine g_st hC [] rfl ?_
      have hk3 : md_PC W (fun z => s (26 + z)) fu1 := md_PC0 hkb
      refine g_iconst (pc := 33) hC dX10_firm_33 ?_
      refine g_istore (pc := 34) hC [(4, _), (3, _), (0, _), (1, _), (2, _)] dX10_firm_34 (by decide) rfl ?_
      refine g_bipush (pc := 36) hC (-5) dX10_firm_36 (by decide) ?_
      refine g_istore (pc := 38) hC [(5, _), (4, _), (3, _), (0, _), (1, _), (2, _)] dX10_firm_38 (by decide) rfl ?_
      refine g_bipush (pc := 40) hC (9) dX10_firm_40 (by decide) ?_
      refine g_istore (pc := 42) hC [(6, _), (5, _), (4, _), (3, _), (0, _), (1, _), (2, _)] dX10_firm_42 (by decide) rfl ?_
      have L44 : ∀ (n4 : Nat) (i : Int) (n : Int) (l : Int) (sv : Int → Int) (g : Int → Int) (f1 : Int → Int) (f2 : Int → Int) (f3 : Int → Int) (f4 : Int → Int) (j : Nat), (rI i) → (rI n) → (rI l) → (∀ j, rI (sv j)) → (∀ j, rI (g j)) → (∀ j, rI (f1 j)) → (rZ f2) → (∀ j, rI (f3 j)) → (∀ j, rI (f4 j)) → (i = 9 - (j : Int)) → ((j : Int) ≤ 10) → (n = (md_fm W rch s (32 + p) j).1) → (l = (md_fm W rch s (32 + p) j).2) → (∀ z, z ≠ 32 + p → sv z = s z) → (0 ≤ sv (32 + p) ∧ sv (32 + p) ≤ 9) → (md_PC W (fun z => s (26 + z)) f3) → 10 - (j : Int) < (n4 : Int) → G 0 0 44 [(0, .ref m0), (1, .int (iI p)), (2, .int (iI w)), (3, .int (iI (s (32 + p)))), (4, .int (iI n)), (5, .int (iI l)), (6, .int (iI i))] [] [cO m0 10 [w_thrown, .ref m1, w_image, .ref m3, w_hasImage, w_act, w_spot, w_end, w_isWrong, w_open, .ref m10, .ref m11, .ref m12, .int (iI 1), .ref m14, w_first, w_order, w_bestOrder, w_rooms, w_leastUnlike, w_bodies, w_ran, w_kind, w_number, w_tellsV], cA K m1 922 sv, cA K m3 19 g, cA K m10 6 f1, cZ K m11 64 f2, cA K m12 36000 f3, cA K m14 6 f4] := by
        intro n4
        induction n4 with
        | zero => intro i n l sv g f1 f2 f3 f4 j r_i r_n r_l r_sv r_g r_f1 r_f2 r_f3 r_f4 hi hj hn hl hsv hvr hk4 hm44; exfalso; omega
        | succ n4 ih44 =>
          intro i n l sv g f1 f2 f3 f4 j r_i r_n r_l r_sv r_g r_f1 r_f2 r_f3 r_f4 hi hj hn hl hsv hvr hk4 hm44
          have hfr := md_fm_rng W rch s (32 + p) j
          refine g_iload (pc := 44) hC 6 dX10_firm_44 rfl ?_
          refine g_if_lt (pc := 46) hC 105 dX10_firm_46 (by decide) (by omega) (fun c46 => ?_) (fun c46 => ?_)
          · refine g_aload_n (pc := 105) hC 0 dX10_firm_105 rfl rfl ?_
            refine g_get (pc := 106) hC 0 fl_X10_9 dX10_firm_106 rfl rfl ?_
            refine g_bipush (pc := 109) hC (32) dX10_firm_109 (by decide) ?_
            refine g_iload_n (pc := 111) hC 1 dX10_firm_111 rfl rfl ?_
            refine g_iadd (pc := 112) hC dX10_firm_112 ?_
            refine g_iload_n (pc := 113) hC 3 dX10_firm_113 rfl rfl ?_
            refine g_iast (pc := 114) hC 1 (fun f9 => [_, cA K _ _ f9, _, _, _, _, _]) dX10_firm_114 rfl (by omega) (fun _ => rfl) (fun s9 e_s9 => ?_)
            have r_s9 := rng_up e_s9 r_sv (by omega)
            rw [show (s9 : Int → Int) = s from (upI_back e_s9 hsv)]
            refine g_aload_n (pc := 115) hC 0 dX10_firm_115 rfl rfl ?_
            refine g_iload_n (pc := 116) hC 2 dX10_firm_116 rfl rfl ?_
            refine g_if_ne (pc := 117) hC 125 dX10_firm_117 (by decide) (by omega) (fun c117 => ?_) (fun c117 => ?_)
            · refine g_iload (pc := 125) hC 5 dX10_firm_125 rfl ?_
              refine g_callV (pc := 127) (qr := 0) hC [0] (k_X10_ends _ _ _ _ _ _ _ _ _ _ _ _ _ _ _ _ _ _ _ _ _ _ _ _ _ _ _ (by first | assumption | omega)) cl_X10_ends wm_X10_197 dX10_firm_127 rfl rfl rfl rfl rfl (by decide) (by decide) (by omega) (Nat.le_of_ble_eq_true rfl) rfl (fun v9 w9 hq9 => ?_)
              obtain ⟨rfl, rfl⟩ := hq9
              refine g_ws hC [cO m0 10 [w_thrown, .ref m1, w_image, .ref m3, w_hasImage, w_act, w_spot, w_end, w_isWrong, w_open, .ref m10, .ref m11, .ref m12, .int (iI 0), .ref m14, w_first, w_order, w_bestOrder, w_rooms, w_leastUnlike, w_bodies, w_ran, w_kind, w_number, w_tellsV], cA K m1 922 s, cA K m3 19 g, cA K m10 6 f1, cZ K m11 64 f2, cA K m12 36000 f3, cA K m14 6 f4] rfl ?_
              refine g_st hC [.int (iI l)] rfl ?_
              exact g_iret (pc := 130) hR dX10_firm_130 rfl ⟨by omega, by omega⟩ (Nat.le_of_ble_eq_true rfl) ⟨g, f1, f2, f3, f4, 0, ret_eq (by unfold an_firm; rw [if_pos (by omega), if_neg (by omega), hl, show j = 10 by omega]), rfl, (by first | assumption | omega), (by first | assumption | omega), (by first | assumption | omega), (by first | assumption | omega), (by first | assumption | omega), (by first | assumption | omega), (by first | assumption | omega)⟩
            · refine g_iload (pc := 120) hC 4 dX10_firm_120 rfl ?_
              refine g_goto (pc := 122) hC 127 dX10_firm_122 (by decide) ?_
              refine g_callV (pc := 127) (qr := 0) hC [0] (k_X10_ends _ _ _ _ _ _ _ _ _ _ _ _ _ _ _ _ _ _ _ _ _ _ _ _ _ _ _ (by first | assumption | omega)) cl_X10_ends wm_X10_197 dX10_firm_127 rfl rfl rfl rfl rfl (by decide) (by decide) (by omega) (Nat.le_of_ble_eq_true rfl) rfl (fun v9 w9 hq9 => ?_)
              obtain ⟨rfl, rfl⟩ := hq9
              refine g_ws hC [cO m0 10 [w_thrown, .ref m1, w_image, .ref m3, w_hasImage, w_act, w_spot, w_end, w_isWrong, w_open, .ref m10, .ref m11, .ref m12, .int (iI 0), .ref m14, w_first, w_order, w_bestOrder, w_rooms, w_leastUnlike, w_bodies, w_ran, w_kind, w_number, w_tellsV], cA K m1 922 s, cA K m3 19 g, cA K m10 6 f1, cZ K m11 64 f2, cA K m12 36000 f3, cA K m14 6 f4] rfl ?_
              refine g_st hC [.int (iI n)] rfl ?_
              exact g_iret (pc := 130) hR dX10_firm_130 rfl ⟨by omega, by omega⟩ (Nat.le_of_ble_eq_true rfl) ⟨g, f1, f2, f3, f4, 0, ret_eq (by unfold an_firm; rw [if_pos (by omega), if_pos (by omega), hn, show j = 10 by omega]), rfl, (by first | assumption | omega), (by first | assumption | omega), (by first | assumption | omega), (by first | assumption | omega), (by first | assumption | omega), (by first | assumption | omega), (by first | assumption | omega)⟩
          · refine g_aload_n (pc := 49) hC 0 dX10_firm_49 rfl rfl ?_
            refine g_callV (pc := 50) (qr := 0) hC [0, 1, 2] (k_X10_keeps _ _ _ _ _ _ _ _ _ _ _ _ _ _ _ _ _ _ _ _ _ _ _ _ _ _ _ _ (by first | assumption | omega) (by first | assumption | omega)) cl_X10_keeps wm_X10_169 dX10_firm_50 rfl rfl rfl rfl rfl (by decide) (by decide) (by omega) (Nat.le_of_ble_eq_true rfl) rfl (fun v9 w9 hq9 => ?_)
            obtain ⟨g1, rfl, rfl, r_g1, hkp⟩ := hq9
            refine g_ws hC [cO m0 10 [w_thrown, .ref m1, w_image, .ref m3, w_hasImage, w_act, w_spot, w_end, w_isWrong, w_open, .ref m10, .ref m11, .ref m12, .int (iI 1), .ref m14, w_first, w_order, w_bestOrder, w_rooms, w_leastUnlike, w_bodies, w_ran, w_kind, w_number, w_tellsV], cA K m1 922 sv, cA K m3 19 g1, cA K m10 6 f1, cZ K m11 64 f2, cA K m12 36000 f3, cA K m14 6 f4] rfl ?_
            refine g_st hC [] rfl ?_
            refine g_aload_n (pc := 53) hC 0 dX10_firm_53 rfl rfl ?_
            refine g_get (pc := 54) hC 0 fl_X10_9 dX10_firm_54 rfl rfl ?_
            refine g_bipush (pc := 57) hC (32) dX10_firm_57 (by decide) ?_
            refine g_iload_n (pc := 59) hC 1 dX10_firm_59 rfl rfl ?_
            refine g_iadd (pc := 60) hC dX10_firm_60 ?_
            refine g_iload (pc := 61) hC 6 dX10_firm_61 rfl ?_
            refine g_iast (pc := 63) hC 1 (fun f9 => [_, cA K _ _ f9, _, _, _, _, _]) dX10_firm_63 rfl (by omega) (fun _ => rfl) (fun t1 e_t1 => ?_)
            have r_t1 := rng_up e_t1 r_sv (by omega)
            have e_t9 : t1 = upI s (32 + p) i := by
              funext z
              rw [e_t1]
              unfold upI
              split
              · rfl
              · exact hsv z (by assumption)
            have htr := md_try hg hT e_t9 (by omega) (by omega)
            have hst : md_rs t1 := md_rs_same htr.2.2.2.1 (fun z hz hz2 => by rw [e_t9]; exact upI_ne (by omega)) hs
            refine g_aload_n (pc := 64) hC 0 dX10_firm_64 rfl rfl ?_
            refine g_callV (pc := 65) (qr := 0) hC [0, 1, 2, 3, 4, 5, 6] (k_X10_areAsSeen _ _ _ _ _ _ _ _ _ _ _ _ _ _ _ _ _ _ _ _ _ _ _ _ _ _ _ _ _ _ _ _ _ _ (by first | assumption | omega) (by first | assumption | omega) (by first | assumption | omega) (by first | assumption | omega) (by first | assumption | omega) (by first | assumption | omega) (by first | assumption | omega) htr.1 (by rw [htr.2.2.1]; omega) hst htr.2.1 (Or.inr ⟨rfl, (htr.2.2.2.2 _).mpr hk4⟩)) cl_X10_areAsSeen wm_X10_213 dX10_firm_65 rfl rfl rfl rfl rfl (by decide) (by decide) (by omega) (Nat.le_of_ble_eq_true rfl) rfl (fun v9 w9 hq9 => ?_)
            obtain ⟨t2, fb5, ft6, fu7, fn8, rfl, rfl, r_t2, r_fb5, r_ft6, r_fu7, r_fn8, hk2_65, hb_65⟩ := hq9
            refine g_ws hC [cO m0 10 [w_thrown, .ref m1, w_image, .ref m3, w_hasImage, w_act, w_spot, w_end, w_isWrong, w_open, .ref m10, .ref m11, .ref m12, .int (iI 1), .ref m14, w_first, w_order, w_bestOrder, w_rooms, w_leastUnlike, w_bodies, w_ran, w_kind, w_number, w_tellsV], cA K m1 922 t2, cA K m3 19 g1, cA K m10 6 fb5, cZ K m11 64 ft6, cA K m12 36000 fu7, cA K m14 6 fn8] rfl ?_
            refine g_st hC [.int (iI (md_as W rch t1 21))] rfl ?_
            refine g_name hC (fun y1 e_y1 => ?_)
            have h01 := md_as_01 W rch t1 21
            rw [← e_y1] at h01
            rw [e_t9] at e_y1
            rw [show (t2 : Int → Int) = (upI s (32 + p) i) from (md_backV (by omega) e_t1 hkp hb_65 hsv)]
            refine g_istore (pc := 68) hC [(7, _), (0, _), (1, _), (2, _), (3, _), (4, _), (5, _), (6, _)] dX10_firm_68 (by decide) rfl ?_
            refine g_iload (pc := 70) hC 5 dX10_firm_70 rfl ?_
            refine g_iload (pc := 72) hC 0 dX10_firm_72 rfl ?_
            refine g_if_eq (pc := 74) hC 81 dX10_firm_74 (by decide) (by omega) (fun c74 => ?_) (fun c74 => ?_)
            · refine g_iconst (pc := 81) hC dX10_firm_81 ?_
              refine g_iadd (pc := 82) hC dX10_firm_82 ?_
              refine g_istore (pc := 83) hC [(4, _), (7, _), (0, _), (1, _), (2, _), (3, _), (5, _), (6, _)] dX10_firm_83 (by decide) rfl ?_
              refine g_iload (pc := 85) hC 1 dX10_firm_85 rfl ?_
              refine g_if_eq (pc := 87) hC 95 dX10_firm_87 (by decide) (by omega) (fun c87 => ?_) (fun c87 => by exfalso; omega)
              refine g_iload (pc := 95) hC 6 dX10_firm_95 rfl ?_
              refine g_istore (pc := 97) hC [(5, _), (4, _), (7, _), (0, _), (1, _), (2, _), (3, _), (6, _)] dX10_firm_97 (by decide) rfl ?_
              refine g_iinc (pc := 99) hC 7 [(6, _), (5, _), (4, _), (7, _), (0, _), (1, _), (2, _), (3, _)] dX10_firm_99 rfl (by decide) rfl ?_
              refine g_goto (pc := 102) hC 44 dX10_firm_102 (by decide) ?_
              refine g_lv hC [4, 5, 6, 7, 2, 1, 0] [(0, _), (1, _), (2, _), (3, _), (4, _), (5, _), (6, _)] rfl ?_
              exact ih44 (i + (-1)) (n + 0) l (upI s (32 + p) i) g1 fb5 ft6 fu7 fn8 (j + 1) (by first | assumption | omega) (by first | assumption | omega) (by first | assumption | omega) (fun z => by unfold upI; split; omega; exact r_s z) (by first | assumption | omega) (by first | assumption | omega) (by first | assumption | omega) (by first | assumption | omega) (by first | assumption | omega) (by first | assumption | omega) (by first | assumption | omega) (md_fm_s hi hn hl e_y1 (n2 := _) (l2 := _) (by omega) rfl).1 (md_fm_s hi hn hl e_y1 (n2 := _) (l2 := _) rfl (by omega)).2 (fun z hz => upI_ne hz) (by rw [upI_at]; omega) (by rcases hk2_65 with h9 | h9; exact absurd h9 (by decide); exact (htr.2.2.2.2 _).mp h9.2) (by omega)
            · refine g_iconst (pc := 77) hC dX10_firm_77 ?_
              refine g_goto (pc := 78) hC 82 dX10_firm_78 (by decide) ?_
              refine g_iadd (pc := 82) hC dX10_firm_82 ?_
              refine g_istore (pc := 83) hC [(4, _), (7, _), (0, _), (1, _), (2, _), (3, _), (5, _), (6, _)] dX10_firm_83 (by decide) rfl ?_
              refine g_iload (pc := 85) hC 1 dX10_firm_85 rfl ?_
              refine g_if_eq (pc := 87) hC 95 dX10_firm_87 (by decide) (by omega) (fun c87 => by exfalso; omega) (fun c87 => ?_)
              refine g_iload (pc := 90) hC 7 dX10_firm_90 rfl ?_
              refine g_goto (pc := 92) hC 97 dX10_firm_92 (by decide) ?_
              refine g_istore (pc := 97) hC [(5, _), (4, _), (7, _), (0, _), (1, _), (2, _), (3, _), (6, _)] dX10_firm_97 (by decide) rfl ?_
              refine g_iinc (pc := 99) hC 7 [(6, _), (5, _), (4, _), (7, _), (0, _), (1, _), (2, _), (3, _)] dX10_firm_99 rfl (by decide) rfl ?_
              refine g_goto (pc := 102) hC 44 dX10_firm_102 (by decide) ?_
              refine g_lv hC [4, 5, 6, 7, 2, 1, 0] [(0, _), (1, _), (2, _), (3, _), (4, _), (5, _), (6, _)] rfl ?_
              exact ih44 (i + (-1)) (n + 1) i (upI s (32 + p) i) g1 fb5 ft6 fu7 fn8 (j + 1) (by first | assumption | omega) (by first | assumption | omega) (by first | assumption | omega) (fun z => by unfold upI; split; omega; exact r_s z) (by first | assumption | omega) (by first | assumption | omega) (by first | assumption | omega) (by first | assumption | omega) (by first | assumption | omega) (by first | assumption | omega) (by first | assumption | omega) (md_fm_s hi hn hl e_y1 (n2 := _) (l2 := _) (by omega) rfl).1 (md_fm_s hi hn hl e_y1 (n2 := _) (l2 := _) rfl (by omega)).2 (fun z hz => upI_ne hz) (by rw [upI_at]; omega) (by rcases hk2_65 with h9 | h9; exact absurd h9 (by decide); exact (htr.2.2.2.2 _).mp h9.2) (by omega)
      refine g_lv hC [4, 5, 6, 3, 2, 1, 0] [(0, _), (1, _), (2, _), (3, _), (4, _), (5, _), (6, _)] rfl ?_
      exact L44 ((10 - (0 : Int) : Int).toNat + 1) 9 0 (-5) s fr fb ft fu1 fn 0 (by first | assumption | omega) (by first | assumption | omega) (by first | assumption | omega) (by first | assumption | omega) (by first | assumption | omega) (by first | assumption | omega) (by first | assumption | omega) (by first | assumption | omega) (by first | assumption | omega) (by omega) (by first | assumption | omega) rfl rfl (fun z _ => rfl) (by omega) (by first | assumption | omega) (by omega)
    · refine g_iconst (pc := 17) hC dX10_firm_17 ?_
      exact g_iret (pc := 18) hR dX10_firm_18 rfl ⟨by omega, by omega⟩ (Nat.le_of_ble_eq_true rfl) ⟨fr, fb, ft, fu, fn, ik, ret_eq (by unfold an_firm; rw [if_neg (by omega)]), rfl, (by first | assumption | omega), (by first | assumption | omega), (by first | assumption | omega), (by first | assumption | omega), (by first | assumption | omega), (by first | assumption | omega), (by first | assumption | omega)⟩
set_option maxHeartbeats 4000000 in
set_option maxRecDepth 100000 in
theorem k_X10_stepsTo {K : gK} (m0 : Nat) (m1 : Nat) (m3 : Nat) (m10 : Nat) (m11 : Nat) (m12 : Nat) (m14 : Nat) (w_thrown : Value) (w_image : Value) (w_hasImage : Value) (w_act : Value) (w_spot : Value) (w_end : Value) (w_isWrong : Value) (w_open : Value) (w_first : Value) (w_order : Value) (w_bestOrder : Value) (w_rooms : Value) (w_leastUnlike : Value) (w_bodies : Value) (w_ran : Value) (w_kind : Value) (w_number : Value) (w_tellsV : Value) (p : Int) (x : Int) (L : Int) (ik : Int) (s : Int → Int) (fr : Int → Int) (fb : Int → Int) (ft : Int → Int) (fu : Int → Int) (fn : Int → Int) (W : (Int → Int) → Int) (rch : Int) (r_p : rI p) (r_x : rI x) (r_L : rI L) (r_ik : rI ik) (r_s : ∀ j, rI (s j)) (r_fr : ∀ j, rI (fr j)) (r_fb : ∀ j, rI (fb j)) (r_ft : rZ ft) (r_fu : ∀ j, rI (fu j)) (r_fn : ∀ j, rI (fn j)) (hp : 0 ≤ p ∧ p < 6) (hL : 0 ≤ L) (hg : md_rg s) (h0 : s 0 + 21 ≤ 20000) (hT : md_TK s W rch) (hk : ik = 0 ∨ (ik = 1 ∧ md_PC W (fun z => s (26 + z)) fu)) : gMet K yX10_stepsTo cX10_stepsTo 6 (some .int) 6 0 0 [.ref m0, .int (iI p), .int (iI x), .int (iI L)] [cO m0 10 [w_thrown, .ref m1, w_image, .ref m3, w_hasImage, w_act, w_spot, w_end, w_isWrong, w_open, .ref m10, .ref m11, .ref m12, .int (iI ik), .ref m14, w_first, w_order, w_bestOrder, w_rooms, w_leastUnlike, w_bodies, w_ran, w_kind, w_number, w_tellsV], cA K m1 922 s, cA K m3 19 fr, cA K m10 6 fb, cZ K m11 64 ft, cA K m12 36000 fu, cA K m14 6 fn] (fun v9 w9 => ∃ (r : Int), ∃ (s2 : Int → Int), ∃ (fb2 : Int → Int), ∃ (ft2 : Int → Int), ∃ (fu2 : Int → Int), ∃ (fn2 : Int → Int), v9 = some (.int (iI r)) ∧ w9 = [cO m0 10 [w_thrown, .ref m1, w_image, .ref m3, w_hasImage, w_act, w_spot, w_end, w_isWrong, w_open, .ref m10, .ref m11, .ref m12, .int (iI ik), .ref m14, w_first, w_order, w_bestOrder, w_rooms, w_leastUnlike, w_bodies, w_ran, w_kind, w_number, w_tellsV], cA K m1 922 s2, cA K m3 19 fr, cA K m10 6 fb2, cZ K m11 64 ft2, cA K m12 36000 fu2, cA K m14 6 fn2] ∧ rI r ∧ (∀ j, rI (s2 j)) ∧ (∀ j, rI (fb2 j)) ∧ rZ ft2 ∧ (∀ j, rI (fu2 j)) ∧ (∀ j, rI (fn2 j)) ∧ (md_sp s p x L r) ∧ (ik = 0 ∨ (ik = 1 ∧ md_PC W (fun z => s (26 + z)) fu2)) ∧ (∀ j, s2 j = if 0 ≤ j ∧ j < 19 then fr j else s j)) := by
  refine g_enter (by decide +kernel) (Nat.le_of_ble_eq_true rfl) (fun G hC hR => ?_)
  refine g_lv hC [0, 1, 2, 3] [(0, _), (1, _), (2, _), (3, _)] rfl ?_
  have hg0 := hg.2.2.2
  have h19 := hg.2.2.1
  refine g_iload_n (pc := 0) hC 3 dX10_stepsTo_0 rfl rfl ?_
  refine g_istore (pc := 1) hC [(4, _), (0, _), (1, _), (2, _), (3, _)] dX10_stepsTo_1 (by decide) rfl ?_
  refine g_iconst (pc := 3) hC dX10_stepsTo_3 ?_
  refine g_istore (pc := 4) hC [(5, _), (4, _), (0, _), (1, _), (2, _), (3, _)] dX10_stepsTo_4 (by decide) rfl ?_
  have L6 : ∀ (n1 : Nat) (i : Int) (r : Int) (f0 : Int → Int) (f1 : Int → Int) (f2 : Int → Int) (f3 : Int → Int) (f4 : Int → Int) (j : Nat), (rI i) → (rI r) → (∀ j, rI (f0 j)) → (∀ j, rI (f1 j)) → (rZ f2) → (∀ j, rI (f3 j)) → (∀ j, rI (f4 j)) → (i = (j : Int)) → (i ≤ 21) → (f0 = md_goN W rch s j) → (0 ≤ r ∧ r ≤ L) → (i = 0 → r = L) → (1 ≤ i → 0 < L → s (1 + p) = x → r = 0) → (0 < L → ¬ s (1 + p) = x → 1 ≤ r) → (¬ s (7 + p) = 0 → ¬ s (1 + p) = x → r = L) → (ik = 0 ∨ (ik = 1 ∧ md_PC W (fun z => s (26 + z)) f3)) → 21 - i < (n1 : Int) → G 0 0 6 [(0, .ref m0), (1, .int (iI p)), (2, .int (iI x)), (3, .int (iI L)), (4, .int (iI r)), (5, .int (iI i))] [] [cO m0 10 [w_thrown, .ref m1, w_image, .ref m3, w_hasImage, w_act, w_spot, w_end, w_isWrong, w_open, .ref m10, .ref m11, .ref m12, .int (iI ik), .ref m14, w_first, w_order, w_bestOrder, w_rooms, w_leastUnlike, w_bodies, w_ran, w_kind, w_number, w_tellsV], cA K m1 922 f0, cA K m3 19 fr, cA K m10 6 f1, cZ K m11 64 f2, cA K m12 36000 f3, cA K m14 6 f4] := by
    intro n1
    induction n1 with
    | zero => intro i r f0 f1 f2 f3 f4 j r_i r_r r_f0 r_f1 r_f2 r_f3 r_f4 hi hj hf hr0 hr1 hr2 hr3 hr4 hk3 hm6; exfalso; omega
    | succ n1 ih6 =>
      intro i r f0 f1 f2 f3 f4 j r_i r_r r_f0 r_f1 r_f2 r_f3 r_f4 hi hj hf hr0 hr1 hr2 hr3 hr4 hk3 hm6
      have hp0 : j = 0 → f0 (1 + p) = s (1 + p) := fun h9 => by rw [hf, h9]; rfl
      have hpa : ¬ s (7 + p) = 0 → f0 (1 + p) = s (1 + p) := fun h9 => by rw [hf]; exact md_goN_away h19.2 hp h9 j
      have hgj : md_rg f0 := by rw [hf]; exact md_goN_rg hg j (by omega)
      have hTj : md_TK f0 W rch := by rw [hf]; exact md_TK_same (fun z hz => md_goN_hi h19.2 (by omega) j) hT
      have hkj : ∀ u : Int → Int, md_PC W (fun z => f0 (26 + z)) u ↔ md_PC W (fun z => s (26 + z)) u := by
        intro u
        exact md_PC_kd (fun z hz hz2 => by rw [hf]; exact md_goN_hi h19.2 (by omega) j)
      refine g_iload (pc := 6) hC 5 dX10_stepsTo_6 rfl ?_
      refine g_bipush (pc := 8) hC (20) dX10_stepsTo_8 (by decide) ?_
      refine g_icmp_gt (pc := 10) hC 55 dX10_stepsTo_10 (by decide) (by omega) (by omega) (fun c10 => ?_) (fun c10 => ?_)
      · refine g_aload_n (pc := 55) hC 0 dX10_stepsTo_55 rfl rfl ?_
        refine g_callV (pc := 56) (qr := 0) hC [0, 1, 2] (k_X10_goesBack _ _ _ _ _ _ _ _ _ _ _ _ _ _ _ _ _ _ _ _ _ _ _ _ _ _ _ _ (by first | assumption | omega) (by first | assumption | omega)) cl_X10_goesBack wm_X10_178 dX10_stepsTo_56 rfl rfl rfl rfl rfl (by decide) (by decide) (by omega) (Nat.le_of_ble_eq_true rfl) rfl (fun v9 w9 hq9 => ?_)
        obtain ⟨s3, rfl, rfl, r_s3, hb_56⟩ := hq9
        refine g_ws hC [cO m0 10 [w_thrown, .ref m1, w_image, .ref m3, w_hasImage, w_act, w_spot, w_end, w_isWrong, w_open, .ref m10, .ref m11, .ref m12, .int (iI ik), .ref m14, w_first, w_order, w_bestOrder, w_rooms, w_leastUnlike, w_bodies, w_ran, w_kind, w_number, w_tellsV], cA K m1 922 s3, cA K m3 19 fr, cA K m10 6 f1, cZ K m11 64 f2, cA K m12 36000 f3, cA K m14 6 f4] rfl ?_
        refine g_st hC [] rfl ?_
        refine g_iload (pc := 59) hC 4 dX10_stepsTo_59 rfl ?_
        exact g_iret (pc := 61) hR dX10_stepsTo_61 rfl ⟨by omega, by omega⟩ (Nat.le_of_ble_eq_true rfl) ⟨r, s3, f1, f2, f3, f4, rfl, rfl, (by first | assumption | omega), (by first | assumption | omega), (by first | assumption | omega), (by first | assumption | omega), (by first | assumption | omega), (by first | assumption | omega), ⟨hr0, fun h8 h9 => by omega, hr3, hr4⟩, hk3, (md_backF (fun z hz => by rw [hf]; exact md_goN_out h19.2 (by omega) j) hb_56)⟩
      · refine g_iload (pc := 13) hC 5 dX10_stepsTo_13 rfl ?_
        refine g_iload_n (pc := 15) hC 3 dX10_stepsTo_15 rfl rfl ?_
        refine g_icmp_ge (pc := 16) hC 55 dX10_stepsTo_16 (by decide) (by omega) (by omega) (fun c16 => ?_) (fun c16 => ?_)
        · refine g_aload_n (pc := 55) hC 0 dX10_stepsTo_55 rfl rfl ?_
          refine g_callV (pc := 56) (qr := 0) hC [0, 1, 2] (k_X10_goesBack _ _ _ _ _ _ _ _ _ _ _ _ _ _ _ _ _ _ _ _ _ _ _ _ _ _ _ _ (by first | assumption | omega) (by first | assumption | omega)) cl_X10_goesBack wm_X10_178 dX10_stepsTo_56 rfl rfl rfl rfl rfl (by decide) (by decide) (by omega) (Nat.le_of_ble_eq_true rfl) rfl (fun v9 w9 hq9 => ?_)
          obtain ⟨s3, rfl, rfl, r_s3, hb_56⟩ := hq9
          refine g_ws hC [cO m0 10 [w_thrown, .ref m1, w_image, .ref m3, w_hasImage, w_act, w_spot, w_end, w_isWrong, w_open, .ref m10, .ref m11, .ref m12, .int (iI ik), .ref m14, w_first, w_order, w_bestOrder, w_rooms, w_leastUnlike, w_bodies, w_ran, w_kind, w_number, w_tellsV], cA K m1 922 s3, cA K m3 19 fr, cA K m10 6 f1, cZ K m11 64 f2, cA K m12 36000 f3, cA K m14 6 f4] rfl ?_
          refine g_st hC [] rfl ?_
          refine g_iload (pc := 59) hC 4 dX10_stepsTo_59 rfl ?_
          exact g_iret (pc := 61) hR dX10_stepsTo_61 rfl ⟨by omega, by omega⟩ (Nat.le_of_ble_eq_true rfl) ⟨r, s3, f1, f2, f3, f4, rfl, rfl, (by first | assumption | omega), (by first | assumption | omega), (by first | assumption | omega), (by first | assumption | omega), (by first | assumption | omega), (by first | assumption | omega), ⟨hr0, fun h8 h9 => by omega, hr3, hr4⟩, hk3, (md_backF (fun z hz => by rw [hf]; exact md_goN_out h19.2 (by omega) j) hb_56)⟩
        · refine g_iload (pc := 19) hC 4 dX10_stepsTo_19 rfl ?_
          refine g_iload_n (pc := 21) hC 3 dX10_stepsTo_21 rfl rfl ?_
          refine g_icmp_ne (pc := 22) hC 55 dX10_stepsTo_22 (by decide) (by omega) (by omega) (fun c22 => ?_) (fun c22 => ?_)
          · refine g_aload_n (pc := 55) hC 0 dX10_stepsTo_55 rfl rfl ?_
            refine g_callV (pc := 56) (qr := 0) hC [0, 1, 2] (k_X10_goesBack _ _ _ _ _ _ _ _ _ _ _ _ _ _ _ _ _ _ _ _ _ _ _ _ _ _ _ _ (by first | assumption | omega) (by first | assumption | omega)) cl_X10_goesBack wm_X10_178 dX10_stepsTo_56 rfl rfl rfl rfl rfl (by decide) (by decide) (by omega) (Nat.le_of_ble_eq_true rfl) rfl (fun v9 w9 hq9 => ?_)
            obtain ⟨s3, rfl, rfl, r_s3, hb_56⟩ := hq9
            refine g_ws hC [cO m0 10 [w_thrown, .ref m1, w_image, .ref m3, w_hasImage, w_act, w_spot, w_end, w_isWrong, w_open, .ref m10, .ref m11, .ref m12, .int (iI ik), .ref m14, w_first, w_order, w_bestOrder, w_rooms, w_leastUnlike, w_bodies, w_ran, w_kind, w_number, w_tellsV], cA K m1 922 s3, cA K m3 19 fr, cA K m10 6 f1, cZ K m11 64 f2, cA K m12 36000 f3, cA K m14 6 f4] rfl ?_
            refine g_st hC [] rfl ?_
            refine g_iload (pc := 59) hC 4 dX10_stepsTo_59 rfl ?_
            exact g_iret (pc := 61) hR dX10_stepsTo_61 rfl ⟨by omega, by omega⟩ (Nat.le_of_ble_eq_true rfl) ⟨r, s3, f1, f2, f3, f4, rfl, rfl, (by first | assumption | omega), (by first | assumption | omega), (by first | assumption | omega), (by first | assumption | omega), (by first | assumption | omega), (by first | assumption | omega), ⟨hr0, fun h8 h9 => by omega, hr3, hr4⟩, hk3, (md_backF (fun z hz => by rw [hf]; exact md_goN_out h19.2 (by omega) j) hb_56)⟩
          · refine g_aload_n (pc := 25) hC 0 dX10_stepsTo_25 rfl rfl ?_
            refine g_get (pc := 26) hC 0 fl_X10_9 dX10_stepsTo_26 rfl rfl ?_
            refine g_iconst (pc := 29) hC dX10_stepsTo_29 ?_
            refine g_iload_n (pc := 30) hC 1 dX10_stepsTo_30 rfl rfl ?_
            refine g_iadd (pc := 31) hC dX10_stepsTo_31 ?_
            refine g_iald (pc := 32) hC 1 dX10_stepsTo_32 rfl (by omega) ?_
            have q2 := r_f0 (1 + p)
            refine g_iload_n (pc := 33) hC 2 dX10_stepsTo_33 rfl rfl ?_
            refine g_icmp_ne (pc := 34) hC 42 dX10_stepsTo_34 (by decide) (by omega) (by omega) (fun c34 => ?_) (fun c34 => ?_)
            · refine g_iload_n (pc := 42) hC 3 dX10_stepsTo_42 rfl rfl ?_
              refine g_istore (pc := 43) hC [(4, _), (0, _), (1, _), (2, _), (3, _), (5, _)] dX10_stepsTo_43 (by decide) rfl ?_
              refine g_aload_n (pc := 45) hC 1 dX10_stepsTo_45 rfl rfl ?_
              refine g_callV (pc := 46) (qr := 0) hC [0, 1, 3, 4, 5, 6] (k_X10_goes _ _ _ _ _ _ _ _ _ _ _ _ _ _ _ _ _ _ _ _ _ _ _ _ _ _ _ _ _ _ _ _ _ (by first | assumption | omega) (by first | assumption | omega) (by first | assumption | omega) (by first | assumption | omega) (by first | assumption | omega) (by first | assumption | omega) hgj (by rw [hf, md_goN_0]; omega) hTj (by rw [hkj]; exact hk3)) cl_X10_goes wm_X10_175 dX10_stepsTo_46 rfl rfl rfl rfl rfl (by decide) (by decide) (by omega) (Nat.le_of_ble_eq_true rfl) rfl (fun v9 w9 hq9 => ?_)
              obtain ⟨s3, fb4, ft5, fu6, fn7, rfl, rfl, r_s3, r_fb4, r_ft5, r_fu6, r_fn7, hs_46, hk2_46⟩ := hq9
              refine g_ws hC [cO m0 10 [w_thrown, .ref m1, w_image, .ref m3, w_hasImage, w_act, w_spot, w_end, w_isWrong, w_open, .ref m10, .ref m11, .ref m12, .int (iI ik), .ref m14, w_first, w_order, w_bestOrder, w_rooms, w_leastUnlike, w_bodies, w_ran, w_kind, w_number, w_tellsV], cA K m1 922 s3, cA K m3 19 fr, cA K m10 6 fb4, cZ K m11 64 ft5, cA K m12 36000 fu6, cA K m14 6 fn7] rfl ?_
              refine g_st hC [] rfl ?_
              refine g_iinc (pc := 49) hC 5 [(5, _), (4, _), (0, _), (1, _), (2, _), (3, _)] dX10_stepsTo_49 rfl (by decide) rfl ?_
              refine g_goto (pc := 52) hC 6 dX10_stepsTo_52 (by decide) ?_
              refine g_lv hC [2, 3, 4, 5, 1, 0] [(0, _), (1, _), (2, _), (3, _), (4, _), (5, _)] rfl ?_
              exact ih6 (i + 1) L s3 fb4 ft5 fu6 fn7 (j + 1) (by first | assumption | omega) (by first | assumption | omega) (by first | assumption | omega) (by first | assumption | omega) (by first | assumption | omega) (by first | assumption | omega) (by first | assumption | omega) (by first | assumption | omega) (by first | assumption | omega) (by rw [hs_46, hf]; rfl) (by first | assumption | omega) (by first | assumption | omega) (by first | assumption | omega) (by first | assumption | omega) (by first | assumption | omega) (by rw [hkj] at hk2_46; exact hk2_46) (by omega)
            · refine g_iload (pc := 37) hC 5 dX10_stepsTo_37 rfl ?_
              refine g_goto (pc := 39) hC 43 dX10_stepsTo_39 (by decide) ?_
              refine g_istore (pc := 43) hC [(4, _), (0, _), (1, _), (2, _), (3, _), (5, _)] dX10_stepsTo_43 (by decide) rfl ?_
              refine g_aload_n (pc := 45) hC 1 dX10_stepsTo_45 rfl rfl ?_
              refine g_callV (pc := 46) (qr := 0) hC [0, 1, 3, 4, 5, 6] (k_X10_goes _ _ _ _ _ _ _ _ _ _ _ _ _ _ _ _ _ _ _ _ _ _ _ _ _ _ _ _ _ _ _ _ _ (by first | assumption | omega) (by first | assumption | omega) (by first | assumption | omega) (by first | assumption | omega) (by first | assumption | omega) (by first | assumption | omega) hgj (by rw [hf, md_goN_0]; omega) hTj (by rw [hkj]; exact hk3)) cl_X10_goes wm_X10_175 dX10_stepsTo_46 rfl rfl rfl rfl rfl (by decide) (by decide) (by omega) (Nat.le_of_ble_eq_true rfl) rfl (fun v9 w9 hq9 => ?_)
              obtain ⟨s8, fb9, ft10, fu11, fn12, rfl, rfl, r_s8, r_fb9, r_ft10, r_fu11, r_fn12, hs_46, hk2_46⟩ := hq9
              refine g_ws hC [cO m0 10 [w_thrown, .ref m1, w_image, .ref m3, w_hasImage, w_act, w_spot, w_end, w_isWrong, w_open, .ref m10, .ref m11, .ref m12, .int (iI ik), .ref m14, w_first, w_order, w_bestOrder, w_rooms, w_leastUnlike, w_bodies, w_ran, w_kind, w_number, w_tellsV], cA K m1 922 s8, cA K m3 19 fr, cA K m10 6 fb9, cZ K m11 64 ft10, cA K m12 36000 fu11, cA K m14 6 fn12] rfl ?_
              refine g_st hC [] rfl ?_
              refine g_iinc (pc := 49) hC 5 [(5, _), (4, _), (0, _), (1, _), (2, _), (3, _)] dX10_stepsTo_49 rfl (by decide) rfl ?_
              refine g_goto (pc := 52) hC 6 dX10_stepsTo_52 (by decide) ?_
              refine g_lv hC [2, 3, 4, 5, 1, 0] [(0, _), (1, _), (2, _), (3, _), (4, _), (5, _)] rfl ?_
              exact ih6 (i + 1) i s8 fb9 ft10 fu11 fn12 (j + 1) (by first | assumption | omega) (by first | assumption | omega) (by first | assumption | omega) (by first | assumption | omega) (by first | assumption | omega) (by first | assumption | omega) (by first | assumption | omega) (by first | assumption | omega) (by first | assumption | omega) (by rw [hs_46, hf]; rfl) (by first | assumption | omega) (by first | assumption | omega) (by first | assumption | omega) (by first | assumption | omega) (by first | assumption | omega) (by rw [hkj] at hk2_46; exact hk2_46) (by omega)
  refine g_lv hC [2, 3, 4, 5, 1, 0] [(0, _), (1, _), (2, _), (3, _), (4, _), (5, _)] rfl ?_
  exact L6 ((21 - 0 : Int).toNat + 1) 0 L s fb ft fu fn 0 (by first | assumption | omega) (by first | assumption | omega) (by first | assumption | omega) (by first | assumption | omega) (by first | assumption | omega) (by first | assumption | omega) (by first | assumption | omega) (by first | assumption | omega) (by first | assumption | omega) rfl (by first | assumption | omega) (by first | assumption | omega) (by first | assumption | omega) (by first | assumption | omega) (by first | assumption | omega) (by first | assumption | omega) (by omega)
set_option maxHeartbeats 4000000 in
set_option maxRecDepth 100000 in
theorem k_X10_steer {K : gK} (m0 : Nat) (m1 : Nat) (m3 : Nat) (m10 : Nat) (m11 : Nat) (m12 : Nat) (m14 : Nat) (w_thrown : Value) (w_image : Value) (w_hasImage : Value) (w_act : Value) (w_spot : Value) (w_end : Value) (w_isWrong : Value) (w_open : Value) (w_first : Value) (w_order : Value) (w_bestOrder : Value) (w_rooms : Value) (w_leastUnlike : Value) (w_bodies : Value) (w_ran : Value) (w_kind : Value) (w_number : Value) (w_tellsV : Value) (p : Int) (x : Int) (ik : Int) (s : Int → Int) (fr : Int → Int) (fb : Int → Int) (ft : Int → Int) (fu : Int → Int) (fn : Int → Int) (W : (Int → Int) → Int) (rch : Int) (r_p : rI p) (r_x : rI x) (r_ik : rI ik) (r_s : ∀ j, rI (s j)) (r_fr : ∀ j, rI (fr j)) (r_fb : ∀ j, rI (fb j)) (r_ft : rZ ft) (r_fu : ∀ j, rI (fu j)) (r_fn : ∀ j, rI (fn j)) (hg : md_rg s) (h0 : s 0 + 21 ≤ 20000) (hT : md_TK s W rch) (hik : ik = 0) : gMet K yX10_steer cX10_steer 7 (some .int) 7 0 0 [.ref m0, .int (iI p), .int (iI x)] [cO m0 10 [w_thrown, .ref m1, w_image, .ref m3, w_hasImage, w_act, w_spot, w_end, w_isWrong, w_open, .ref m10, .ref m11, .ref m12, .int (iI ik), .ref m14, w_first, w_order, w_bestOrder, w_rooms, w_leastUnlike, w_bodies, w_ran, w_kind, w_number, w_tellsV], cA K m1 922 s, cA K m3 19 fr, cA K m10 6 fb, cZ K m11 64 ft, cA K m12 36000 fu, cA K m14 6 fn] (fun v9 w9 => ∃ (fr2 : Int → Int), ∃ (fb2 : Int → Int), ∃ (ft2 : Int → Int), ∃ (fu2 : Int → Int), ∃ (fn2 : Int → Int), ∃ (ik2 : Int), v9 = some (.int (iI (an_steer s p x))) ∧ w9 = [cO m0 10 [w_thrown, .ref m1, w_image, .ref m3, w_hasImage, w_act, w_spot, w_end, w_isWrong, w_open, .ref m10, .ref m11, .ref m12, .int (iI ik2), .ref m14, w_first, w_order, w_bestOrder, w_rooms, w_leastUnlike, w_bodies, w_ran, w_kind, w_number, w_tellsV], cA K m1 922 s, cA K m3 19 fr2, cA K m10 6 fb2, cZ K m11 64 ft2, cA K m12 36000 fu2, cA K m14 6 fn2] ∧ (∀ j, rI (fr2 j)) ∧ (∀ j, rI (fb2 j)) ∧ rZ ft2 ∧ (∀ j, rI (fu2 j)) ∧ (∀ j, rI (fn2 j)) ∧ rI ik2 ∧ (ik2 = 0)) := by
  refine g_enter (by decide +kernel) (Nat.le_of_ble_eq_true rfl) (fun G hC hR => ?_)
  refine g_lv hC [0, 1, 2] [(0, _), (1, _), (2, _)] rfl ?_
  have hg0 := hg.2.2.2
  have h19 := hg.2.2.1
  refine g_aload_n (pc := 0) hC 0 dX10_steer_0 rfl rfl ?_
  refine g_iload_n (pc := 1) hC 1 dX10_steer_1 rfl rfl ?_
  refine g_fnV (pc := 2) (qr := 0) hC [0, 1] (k_X10_isMan _ _ _ _ _ _ _ _ _ _ _ _ _ _ _ _ _ _ _ _ _ _ _ _ _ _ _ _ (by first | assumption | omega) (by first | assumption | omega) (by first | assumption | omega)) cl_X10_isMan wm_X10_159 dX10_steer_2 rfl rfl rfl rfl rfl (by decide) (by decide) ⟨by omega, by omega⟩ (Nat.le_of_ble_eq_true rfl) rfl rfl ?_
  refine g_name hC (fun x1 e_x1 => ?_)
  refine g_if_eq (pc := 5) hC 15 dX10_steer_5 (by decide) (by omega) (fun c5 => ?_) (fun c5 => ?_)
  · refine g_iconst (pc := 15) hC dX10_steer_15 ?_
    exact g_iret (pc := 16) hR dX10_steer_16 rfl ⟨by omega, by omega⟩ (Nat.le_of_ble_eq_true rfl) ⟨fr, fb, ft, fu, fn, ik, ret_eq (by unfold an_steer; rw [if_neg (by omega)]), rfl, (by first | assumption | omega), (by first | assumption | omega), (by first | assumption | omega), (by first | assumption | omega), (by first | assumption | omega), (by first | assumption | omega), (by first | assumption | omega)⟩
  · refine g_iload_n (pc := 8) hC 2 dX10_steer_8 rfl rfl ?_
    refine g_fnS (pc := 9) hC [] (k_X10_isDigit _ (by first | assumption | omega)) cl_X10_isDigit wm_X10_155 dX10_steer_9 rfl rfl (by decide) (by decide) ⟨by omega, by omega⟩ (Nat.le_of_ble_eq_true rfl) rfl rfl ?_
    refine g_name hC (fun x2 e_x2 => ?_)
    refine g_if_ne (pc := 12) hC 17 dX10_steer_12 (by decide) (by omega) (fun c12 => ?_) (fun c12 => ?_)
    · refine g_aload_n (pc := 17) hC 0 dX10_steer_17 rfl rfl ?_
      refine g_callV (pc := 18) (qr := 0) hC [0, 5] (k_X10_begins _ _ _ _ _ _ _ _ _ _ _ _ _ _ _ _ _ _ _ _ _ _ _ _ _ _ _ (by first | assumption | omega)) cl_X10_begins wm_X10_190 dX10_steer_18 rfl rfl rfl rfl rfl (by decide) (by decide) (by omega) (Nat.le_of_ble_eq_true rfl) rfl (fun v9 w9 hq9 => ?_)
      obtain ⟨fu1, rfl, rfl, r_fu1, hkb⟩ := hq9
      refine g_ws hC [cO m0 10 [w_thrown, .ref m1, w_image, .ref m3, w_hasImage, w_act, w_spot, w_end, w_isWrong, w_open, .ref m10, .ref m11, .ref m12, .int (iI 1), .ref m14, w_first, w_order, w_bestOrder, w_rooms, w_leastUnlike, w_bodies, w_ran, w_kind, w_number, w_tellsV], cA K m1 922 s, cA K m3 19 fr, cA K m10 6 fb, cZ K m11 64 ft, cA K m12 36000 fu1, cA K m14 6 fn] rfl ?_
      refine g_st hC [] rfl ?_
      have hk3 : md_PC W (fun z => s (26 + z)) fu1 := md_PC0 hkb
      refine g_aload_n (pc := 21) hC 0 dX10_steer_21 rfl rfl ?_
      refine g_callV (pc := 22) (qr := 0) hC [0, 1, 2] (k_X10_keeps _ _ _ _ _ _ _ _ _ _ _ _ _ _ _ _ _ _ _ _ _ _ _ _ _ _ _ _ (by first | assumption | omega) (by first | assumption | omega)) cl_X10_keeps wm_X10_169 dX10_steer_22 rfl rfl rfl rfl rfl (by decide) (by decide) (by omega) (Nat.le_of_ble_eq_true rfl) rfl (fun v9 w9 hq9 => ?_)
      obtain ⟨g0, rfl, rfl, r_g0, hkp0⟩ := hq9
      refine g_ws hC [cO m0 10 [w_thrown, .ref m1, w_image, .ref m3, w_hasImage, w_act, w_spot, w_end, w_isWrong, w_open, .ref m10, .ref m11, .ref m12, .int (iI 1), .ref m14, w_first, w_order, w_bestOrder, w_rooms, w_leastUnlike, w_bodies, w_ran, w_kind, w_number, w_tellsV], cA K m1 922 s, cA K m3 19 g0, cA K m10 6 fb, cZ K m11 64 ft, cA K m12 36000 fu1, cA K m14 6 fn] rfl ?_
      refine g_st hC [] rfl ?_
      have hgp := hg.1 p (by omega) (by omega)
      refine g_aload_n (pc := 25) hC 0 dX10_steer_25 rfl rfl ?_
      refine g_iload_n (pc := 26) hC 1 dX10_steer_26 rfl rfl ?_
      refine g_iload_n (pc := 27) hC 2 dX10_steer_27 rfl rfl ?_
      refine g_ldc (pc := 28) hC (1000000000) wo_X10_141 (by decide) dX10_steer_28 ?_
      refine g_callV (pc := 30) (qr := 0) hC [0, 1, 2, 3, 4, 5, 6] (k_X10_stepsTo _ _ _ _ _ _ _ _ _ _ _ _ _ _ _ _ _ _ _ _ _ _ _ _ _ _ _ _ _ _ _ _ _ _ _ _ _ (by first | assumption | omega) (by first | assumption | omega) (by first | assumption | omega) (by first | assumption | omega) (by first | assumption | omega) (by first | assumption | omega) (by first | assumption | omega) (by first | assumption | omega) (by first | assumption | omega) (by first | assumption | omega) (by first | assumption | omega) (by first | assumption | omega) (by first | assumption | omega) (by first | assumption | omega) (by first | assumption | omega) (Or.inr ⟨rfl, hk3⟩)) cl_X10_stepsTo wm_X10_193 dX10_steer_30 rfl rfl rfl rfl rfl (by decide) (by decide) (by omega) (Nat.le_of_ble_eq_true rfl) rfl (fun v9 w9 hq9 => ?_)
      obtain ⟨r0, t0, fb3, ft4, fu5, fn6, rfl, rfl, r_r0, r_t0, r_fb3, r_ft4, r_fu5, r_fn6, hr_30, hk2_30, hb_30⟩ := hq9
      refine g_ws hC [cO m0 10 [w_thrown, .ref m1, w_image, .ref m3, w_hasImage, w_act, w_spot, w_end, w_isWrong, w_open, .ref m10, .ref m11, .ref m12, .int (iI 1), .ref m14, w_first, w_order, w_bestOrder, w_rooms, w_leastUnlike, w_bodies, w_ran, w_kind, w_number, w_tellsV], cA K m1 922 t0, cA K m3 19 g0, cA K m10 6 fb3, cZ K m11 64 ft4, cA K m12 36000 fu5, cA K m14 6 fn6] rfl ?_
      refine g_st hC [.int (iI r0)] rfl ?_
      rw [show (t0 : Int → Int) = s from (md_back hkp0 (fun _ _ => rfl) hb_30)]
      have hk4a := (hk2_30.resolve_left (by decide)).2
      refine g_istore_n (pc := 33) hC [(3, _), (0, _), (1, _), (2, _)] dX10_steer_33 rfl (by decide) rfl ?_
      refine g_bipush (pc := 34) hC (-5) dX10_steer_34 (by decide) ?_
      refine g_istore (pc := 36) hC [(4, _), (3, _), (0, _), (1, _), (2, _)] dX10_steer_36 (by decide) rfl ?_
      refine g_iconst (pc := 38) hC dX10_steer_38 ?_
      refine g_istore (pc := 39) hC [(5, _), (4, _), (3, _), (0, _), (1, _), (2, _)] dX10_steer_39 (by decide) rfl ?_
      have L41 : ∀ (n7 : Nat) (k : Int) (L : Int) (best : Int) (g : Int → Int) (f1 : Int → Int) (f2 : Int → Int) (f3 : Int → Int) (f4 : Int → Int), (rI k) → (rI L) → (rI best) → (∀ j, rI (g j)) → (∀ j, rI (f1 j)) → (rZ f2) → (∀ j, rI (f3 j)) → (∀ j, rI (f4 j)) → (0 ≤ k ∧ k ≤ 10 * s 19) → (0 ≤ L ∧ L ≤ 1000000000) → ((¬ s (7 + p) = 0 ∨ s (1 + p) = x) → best = -5) → (s (1 + p) = x → L = 0) → (s (7 + p) = 0 → ¬ s (1 + p) = x → (k ≤ 10 * p + x → 1 ≤ L) ∧ (10 * p + x < k → L = 0 ∧ best = 10 * p + x)) → (md_PC W (fun z => s (26 + z)) f3) → 10 * s 19 - k < (n7 : Int) → G 0 0 41 [(0, .ref m0), (1, .int (iI p)), (2, .int (iI x)), (3, .int (iI L)), (4, .int (iI best)), (5, .int (iI k))] [] [cO m0 10 [w_thrown, .ref m1, w_image, .ref m3, w_hasImage, w_act, w_spot, w_end, w_isWrong, w_open, .ref m10, .ref m11, .ref m12, .int (iI 1), .ref m14, w_first, w_order, w_bestOrder, w_rooms, w_leastUnlike, w_bodies, w_ran, w_kind, w_number, w_tellsV], cA K m1 922 s, cA K m3 19 g, cA K m10 6 f1, cZ K m11 64 f2, cA K m12 36000 f3, cA K m14 6 f4] := by
        intro n7
        induction n7 with
        | zero => intro k L best g f1 f2 f3 f4 r_k r_L r_best r_g r_f1 r_f2 r_f3 r_f4 hkr hL hA hA2 hB hk4 hm41; exfalso; omega
        | succ n7 ih41 =>
          intro k L best g f1 f2 f3 f4 r_k r_L r_best r_g r_f1 r_f2 r_f3 r_f4 hkr hL hA hA2 hB hk4 hm41
          refine g_iload (pc := 41) hC 5 dX10_steer_41 rfl ?_
          refine g_bipush (pc := 43) hC (10) dX10_steer_43 (by decide) ?_
          refine g_aload_n (pc := 45) hC 0 dX10_steer_45 rfl rfl ?_
          refine g_get (pc := 46) hC 0 fl_X10_9 dX10_steer_46 rfl rfl ?_
          refine g_bipush (pc := 49) hC (19) dX10_steer_49 (by decide) ?_
          refine g_iald (pc := 51) hC 1 dX10_steer_51 rfl (by omega) ?_
          have q8 := r_s 19
          refine g_imul (pc := 52) hC dX10_steer_52 ?_
          refine g_icmp_ge (pc := 53) hC 126 dX10_steer_53 (by decide) (by omega) (by omega) (fun c53 => ?_) (fun c53 => ?_)
          · refine g_aload_n (pc := 126) hC 0 dX10_steer_126 rfl rfl ?_
            refine g_iload (pc := 127) hC 4 dX10_steer_127 rfl ?_
            refine g_callV (pc := 129) (qr := 0) hC [0] (k_X10_ends _ _ _ _ _ _ _ _ _ _ _ _ _ _ _ _ _ _ _ _ _ _ _ _ _ _ _ (by first | assumption | omega)) cl_X10_ends wm_X10_197 dX10_steer_129 rfl rfl rfl rfl rfl (by decide) (by decide) (by omega) (Nat.le_of_ble_eq_true rfl) rfl (fun v9 w9 hq9 => ?_)
            obtain ⟨rfl, rfl⟩ := hq9
            refine g_ws hC [cO m0 10 [w_thrown, .ref m1, w_image, .ref m3, w_hasImage, w_act, w_spot, w_end, w_isWrong, w_open, .ref m10, .ref m11, .ref m12, .int (iI 0), .ref m14, w_first, w_order, w_bestOrder, w_rooms, w_leastUnlike, w_bodies, w_ran, w_kind, w_number, w_tellsV], cA K m1 922 s, cA K m3 19 g, cA K m10 6 f1, cZ K m11 64 f2, cA K m12 36000 f3, cA K m14 6 f4] rfl ?_
            refine g_st hC [.int (iI best)] rfl ?_
            exact g_iret (pc := 132) hR dX10_steer_132 rfl ⟨by omega, by omega⟩ (Nat.le_of_ble_eq_true rfl) ⟨g, f1, f2, f3, f4, 0, ret_eq (by unfold an_steer; rw [if_pos (by omega)]; (repeat' split) <;> omega), rfl, (by first | assumption | omega), (by first | assumption | omega), (by first | assumption | omega), (by first | assumption | omega), (by first | assumption | omega), (by first | assumption | omega), (by first | assumption | omega)⟩
          · refine g_aload_n (pc := 56) hC 0 dX10_steer_56 rfl rfl ?_
            refine g_get (pc := 57) hC 0 fl_X10_9 dX10_steer_57 rfl rfl ?_
            refine g_bipush (pc := 60) hC (7) dX10_steer_60 (by decide) ?_
            refine g_iload (pc := 62) hC 5 dX10_steer_62 rfl ?_
            refine g_bipush (pc := 64) hC (10) dX10_steer_64 (by decide) ?_
            refine g_idiv (pc := 66) hC dX10_steer_66 (by omega) (by omega) ?_
            refine g_iadd (pc := 67) hC dX10_steer_67 ?_
            refine g_iald (pc := 68) hC 1 dX10_steer_68 rfl (by omega) ?_
            have q9 := r_s (7 + (k / 10))
            refine g_if_ne (pc := 69) hC 120 dX10_steer_69 (by decide) (by omega) (fun c69 => ?_) (fun c69 => ?_)
            · refine g_iinc (pc := 120) hC 5 [(5, _), (0, _), (1, _), (2, _), (3, _), (4, _)] dX10_steer_120 rfl (by decide) rfl ?_
              refine g_goto (pc := 123) hC 41 dX10_steer_123 (by decide) ?_
              refine g_lv hC [1, 2, 3, 4, 5, 0] [(0, _), (1, _), (2, _), (3, _), (4, _), (5, _)] rfl ?_
              exact ih41 (k + 1) L best g f1 f2 f3 f4 (by first | assumption | omega) (by first | assumption | omega) (by first | assumption | omega) (by first | assumption | omega) (by first | assumption | omega) (by first | assumption | omega) (by first | assumption | omega) (by first | assumption | omega) (by first | assumption | omega) (by first | assumption | omega) hA hA2 (fun h8 h9 => by have h7 := hB h8 h9; have h6 : ¬ k / 10 = p := fun h6 => c69 (by rw [h6]; exact h8); omega) hk4 (by omega)
            · have hkk : 0 ≤ k / 10 ∧ k / 10 < 6 := by omega
              have h70 : k / 10 = p → s (7 + p) = 0 := fun h9 => by rw [← h9]; exact c69
              refine g_aload_n (pc := 72) hC 0 dX10_steer_72 rfl rfl ?_
              refine g_callV (pc := 73) (qr := 0) hC [0, 1, 2] (k_X10_keeps _ _ _ _ _ _ _ _ _ _ _ _ _ _ _ _ _ _ _ _ _ _ _ _ _ _ _ _ (by first | assumption | omega) (by first | assumption | omega)) cl_X10_keeps wm_X10_169 dX10_steer_73 rfl rfl rfl rfl rfl (by decide) (by decide) (by omega) (Nat.le_of_ble_eq_true rfl) rfl (fun v9 w9 hq9 => ?_)
              obtain ⟨g1, rfl, rfl, r_g1, hkp⟩ := hq9
              refine g_ws hC [cO m0 10 [w_thrown, .ref m1, w_image, .ref m3, w_hasImage, w_act, w_spot, w_end, w_isWrong, w_open, .ref m10, .ref m11, .ref m12, .int (iI 1), .ref m14, w_first, w_order, w_bestOrder, w_rooms, w_leastUnlike, w_bodies, w_ran, w_kind, w_number, w_tellsV], cA K m1 922 s, cA K m3 19 g1, cA K m10 6 f1, cZ K m11 64 f2, cA K m12 36000 f3, cA K m14 6 f4] rfl ?_
              refine g_st hC [] rfl ?_
              refine g_aload_n (pc := 76) hC 0 dX10_steer_76 rfl rfl ?_
              refine g_get (pc := 77) hC 0 fl_X10_9 dX10_steer_77 rfl rfl ?_
              refine g_iconst (pc := 80) hC dX10_steer_80 ?_
              refine g_iload (pc := 81) hC 5 dX10_steer_81 rfl ?_
              refine g_bipush (pc := 83) hC (10) dX10_steer_83 (by decide) ?_
              refine g_idiv (pc := 85) hC dX10_steer_85 (by omega) (by omega) ?_
              refine g_iadd (pc := 86) hC dX10_steer_86 ?_
              refine g_iload (pc := 87) hC 5 dX10_steer_87 rfl ?_
              refine g_bipush (pc := 89) hC (10) dX10_steer_89 (by decide) ?_
              refine g_irem (pc := 91) hC dX10_steer_91 (by omega) (by omega) ?_
              refine g_iast (pc := 92) hC 1 (fun f9 => [_, cA K _ _ f9, _, _, _, _, _]) dX10_steer_92 rfl (by omega) (fun _ => rfl) (fun t1 e_t1 => ?_)
              have r_t1 := rng_up e_t1 r_s (by omega)
              have htr := md_try hg hT e_t1 (by omega) (by omega)
              have t7 : t1 (7 + p) = s (7 + p) := by rw [e_t1]; exact upI_ne (by omega)
              have t1p : t1 (1 + p) = if k / 10 = p then k % 10 else s (1 + p) := by
                rw [e_t1]
                unfold upI
                by_cases h9 : k / 10 = p
                · rw [if_pos h9, if_pos (by omega)]
                · rw [if_neg h9, if_neg (by omega)]
              refine g_aload_n (pc := 93) hC 0 dX10_steer_93 rfl rfl ?_
              refine g_iload_n (pc := 94) hC 1 dX10_steer_94 rfl rfl ?_
              refine g_iload_n (pc := 95) hC 2 dX10_steer_95 rfl rfl ?_
              refine g_iload_n (pc := 96) hC 3 dX10_steer_96 rfl rfl ?_
              refine g_callV (pc := 97) (qr := 0) hC [0, 1, 2, 3, 4, 5, 6] (k_X10_stepsTo _ _ _ _ _ _ _ _ _ _ _ _ _ _ _ _ _ _ _ _ _ _ _ _ _ _ _ _ _ _ _ _ _ _ _ _ _ (by first | assumption | omega) (by first | assumption | omega) (by first | assumption | omega) (by first | assumption | omega) (by first | assumption | omega) (by first | assumption | omega) (by first | assumption | omega) (by first | assumption | omega) (by first | assumption | omega) (by first | assumption | omega) (by first | assumption | omega) (by first | assumption | omega) htr.1 (by rw [htr.2.2.1]; omega) htr.2.1 (Or.inr ⟨rfl, (htr.2.2.2.2 _).mpr hk4⟩)) cl_X10_stepsTo wm_X10_193 dX10_steer_97 rfl rfl rfl rfl rfl (by decide) (by decide) (by omega) (Nat.le_of_ble_eq_true rfl) rfl (fun v9 w9 hq9 => ?_)
              obtain ⟨r1, t2, fb10, ft11, fu12, fn13, rfl, rfl, r_r1, r_t2, r_fb10, r_ft11, r_fu12, r_fn13, hr_97, hk2_97, hb_97⟩ := hq9
              refine g_ws hC [cO m0 10 [w_thrown, .ref m1, w_image, .ref m3, w_hasImage, w_act, w_spot, w_end, w_isWrong, w_open, .ref m10, .ref m11, .ref m12, .int (iI 1), .ref m14, w_first, w_order, w_bestOrder, w_rooms, w_leastUnlike, w_bodies, w_ran, w_kind, w_number, w_tellsV], cA K m1 922 t2, cA K m3 19 g1, cA K m10 6 fb10, cZ K m11 64 ft11, cA K m12 36000 fu12, cA K m14 6 fn13] rfl ?_
              refine g_st hC [.int (iI r1)] rfl ?_
              rw [show (t2 : Int → Int) = s from (md_backU e_t1 (by omega) hkp hb_97)]
              obtain ⟨q1, q2, q3, q4⟩ := hr_97
              rw [t7] at q4
              have hfin : (s (1 + p) = x → r1 = 0) := fun h9 => by have h8 := hA2 h9; omega
              refine g_istore (pc := 100) hC [(6, _), (0, _), (1, _), (2, _), (3, _), (4, _), (5, _)] dX10_steer_100 (by decide) rfl ?_
              refine g_iload (pc := 102) hC 0 dX10_steer_102 rfl ?_
              refine g_iload_n (pc := 104) hC 4 dX10_steer_104 rfl rfl ?_
              refine g_icmp_ge (pc := 105) hC 113 dX10_steer_105 (by decide) (by omega) (by omega) (fun c105 => ?_) (fun c105 => ?_)
              · refine g_iload (pc := 113) hC 5 dX10_steer_113 rfl ?_
                refine g_istore (pc := 115) hC [(4, _), (6, _), (0, _), (1, _), (2, _), (3, _), (5, _)] dX10_steer_115 (by decide) rfl ?_
                refine g_iload (pc := 117) hC 1 dX10_steer_117 rfl ?_
                refine g_istore_n (pc := 119) hC [(3, _), (4, _), (6, _), (0, _), (1, _), (2, _), (5, _)] dX10_steer_119 rfl (by decide) rfl ?_
                refine g_iinc (pc := 120) hC 6 [(5, _), (3, _), (4, _), (6, _), (0, _), (1, _), (2, _)] dX10_steer_120 rfl (by decide) rfl ?_
                refine g_goto (pc := 123) hC 41 dX10_steer_123 (by decide) ?_
                refine g_lv hC [4, 5, 6, 1, 2, 0] [(0, _), (1, _), (2, _), (3, _), (4, _), (5, _)] rfl ?_
                exact ih41 (k + 1) r1 best g1 fb10 ft11 fu12 fn13 (by first | assumption | omega) (by first | assumption | omega) (by first | assumption | omega) (by first | assumption | omega) (by first | assumption | omega) (by first | assumption | omega) (by first | assumption | omega) (by first | assumption | omega) (by first | assumption | omega) (by first | assumption | omega) (fun h9 => by have h8 := hA h9; omega) (fun h9 => by have h8 := hA2 h9; omega) (fun h8 h9 => by have h7 := hB h8 h9; omega) (by rcases hk2_97 with h9 | h9; exact absurd h9 (by decide); exact (htr.2.2.2.2 _).mp h9.2) (by omega)
              · refine g_iload (pc := 108) hC 6 dX10_steer_108 rfl ?_
                refine g_goto (pc := 110) hC 115 dX10_steer_110 (by decide) ?_
                refine g_istore (pc := 115) hC [(4, _), (6, _), (0, _), (1, _), (2, _), (3, _), (5, _)] dX10_steer_115 (by decide) rfl ?_
                refine g_iload (pc := 117) hC 1 dX10_steer_117 rfl ?_
                refine g_istore_n (pc := 119) hC [(3, _), (4, _), (6, _), (0, _), (1, _), (2, _), (5, _)] dX10_steer_119 rfl (by decide) rfl ?_
                refine g_iinc (pc := 120) hC 6 [(5, _), (3, _), (4, _), (6, _), (0, _), (1, _), (2, _)] dX10_steer_120 rfl (by decide) rfl ?_
                refine g_goto (pc := 123) hC 41 dX10_steer_123 (by decide) ?_
                refine g_lv hC [4, 5, 6, 1, 2, 0] [(0, _), (1, _), (2, _), (3, _), (4, _), (5, _)] rfl ?_
                exact ih41 (k + 1) r1 k g1 fb10 ft11 fu12 fn13 (by first | assumption | omega) (by first | assumption | omega) (by first | assumption | omega) (by first | assumption | omega) (by first | assumption | omega) (by first | assumption | omega) (by first | assumption | omega) (by first | assumption | omega) (by first | assumption | omega) (by first | assumption | omega) (fun h9 => by have h8 := hA h9; omega) (fun h9 => by have h8 := hA2 h9; omega) (fun h8 h9 => by have h7 := hB h8 h9; omega) (by rcases hk2_97 with h9 | h9; exact absurd h9 (by decide); exact (htr.2.2.2.2 _).mp h9.2) (by omega)
      refine g_lv hC [3, 4, 5, 2, 1, 0] [(0, _), (1, _), (2, _), (3, _), (4, _), (5, _)] rfl ?_
      exact L41 ((10 * s 19 - 0 : Int).toNat + 1) 0 r0 (-5) g0 fb3 ft4 fu5 fn6 (by first | assumption | omega) (by first | assumption | omega) (by first | assumption | omega) (by first | assumption | omega) (by first | assumption | omega) (by first | assumption | omega) (by first | assumption | omega) (by first | assumption | omega) (by first | assumption | omega) (by have h9 := hr_30.1; omega) (fun _ => rfl) (fun h9 => hr_30.2.1 (by decide) h9) (fun h8 h9 => ⟨fun _ => hr_30.2.2.1 (by decide) h9, fun h7 => by omega⟩) hk4a (by omega)
    · refine g_iconst (pc := 15) hC dX10_steer_15 ?_
      exact g_iret (pc := 16) hR dX10_steer_16 rfl ⟨by omega, by omega⟩ (Nat.le_of_ble_eq_true rfl) ⟨fr, fb, ft, fu, fn, ik, ret_eq (by unfold an_steer; rw [if_neg (by omega)]), rfl, (by first | assumption | omega), (by first | assumption | omega), (by first | assumption | omega), (by first | assumption | omega), (by first | assumption | omega), (by first | assumption | omega), (by first | assumption | omega)⟩
