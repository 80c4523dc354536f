theorem px_spl_s {T : Int → Int} {k j : Nat} {w p w1 p1 w2 p2 x i : Int} (hi : i = (j : Int)) (h : (w1, p1) = px_spl T k j w p) (hx : x = sx k i) (h2 : (w2, p2) = px_must T x w1 p1) : (w2, p2) = px_spl T k (j + 1) w p := by
  unfold px_spl
  rw [← h, h2, hx, hi]
def px_much (T : Int → Int) (kind : Int) (k : Nat) (z : pZ) : pZ :=
  px_emit (kind - (px_fig T (px_spl T k (sl k).toNat z.1 z.2.1).1 (px_spl T k (sl k).toNat z.1 z.2.1).2).2.2) (px_some T (px_fac T 5) ((px_must T 32 (px_fig T (px_spl T k (sl k).toNat z.1 z.2.1).1 (px_spl T k (sl k).toNat z.1 z.2.1).2).1 (px_fig T (px_spl T k (sl k).toNat z.1 z.2.1).1 (px_spl T k (sl k).toNat z.1 z.2.1).2).2.1).1, (px_must T 32 (px_fig T (px_spl T k (sl k).toNat z.1 z.2.1).1 (px_spl T k (sl k).toNat z.1 z.2.1).2).1 (px_fig T (px_spl T k (sl k).toNat z.1 z.2.1).1 (px_spl T k (sl k).toNat z.1 z.2.1).2).2.1).2, z.2.2))
theorem px_much_is {T : Int → Int} {kind v w p w1 p1 w2 p2 w3 p3 w4 p4 : Int} {k : Nat} {l l4 l5 : List Int} (h1 : (w1, p1) = px_spl T k (sl k).toNat w p) (h2 : (w2, p2, v) = px_fig T w1 p1) (h3 : (w3, p3) = px_must T 32 w2 p2) (h4 : (w4, p4, l4) = px_some T (px_fac T 5) (w3, p3, l)) (h5 : l5 = if w4 = 0 then l4 ++ [kind - v] else l4) : (w4, p4, l5) = px_much T kind k (w, p, l) := by
  unfold px_much
  show _ = px_emit (kind - (px_fig T (px_spl T k (sl k).toNat w p).1 (px_spl T k (sl k).toNat w p).2).2.2) (px_some T (px_fac T 5) ((px_must T 32 (px_fig T (px_spl T k (sl k).toNat w p).1 (px_spl T k (sl k).toNat w p).2).1 (px_fig T (px_spl T k (sl k).toNat w p).1 (px_spl T k (sl k).toNat w p).2).2.1).1, (px_must T 32 (px_fig T (px_spl T k (sl k).toNat w p).1 (px_spl T k (sl k).toNat w p).2).1 (px_fig T (px_spl T k (sl k).toNat w p).1 (px_spl T k (sl k).toNat w p).2).2.1).2, l))
  rw [← h1]
  show _ = px_emit (kind - (px_fig T w1 p1).2.2) (px_some T (px_fac T 5) ((px_must T 32 (px_fig T w1 p1).1 (px_fig T w1 p1).2.1).1, (px_must T 32 (px_fig T w1 p1).1 (px_fig T w1 p1).2.1).2, l))
  rw [← h2]
  show _ = px_emit (kind - v) (px_some T (px_fac T 5) ((px_must T 32 w2 p2).1, (px_must T 32 w2 p2).2, l))
  rw [← h3]
  show _ = px_emit (kind - v) (px_some T (px_fac T 5) (w3, p3, l))
  rw [← h4]
  exact (px_emit_is h5).symm
def px_tell (T : Int → Int) (k : Nat) (w p : Int) : Int × Int × Int := px_fig T (px_spl T k (sl k).toNat w p).1 (px_spl T k (sl k).toNat w p).2
theorem px_tell_is {T : Int → Int} {w p w1 p1 w2 p2 v : Int} {k : Nat} (h1 : (w1, p1) = px_spl T k (sl k).toNat w p) (h2 : (w2, p2, v) = px_fig T w1 p1) : (w2, p2, v) = px_tell T k w p := by
  unfold px_tell
  rw [← h1]
  exact h2
/-- a clause: wrong, place, tokens, reach -/
def px_cl (T : Int → Int) (p : Int) (l : List Int) (rc : Int) : Int × Int × List Int × Int :=
  if T p = 114 then ((px_tell T 0 0 p).1, (px_tell T 0 0 p).2.1, l, if (px_tell T 0 0 p).1 = 0 then (px_tell T 0 0 p).2.2 else rc)
  else if T p = 104 then ((px_much T (-10) 1 (0, p, l)).1, (px_much T (-10) 1 (0, p, l)).2.1, (px_much T (-10) 1 (0, p, l)).2.2, rc)
  else if T p = 115 then ((px_much T (-200) 2 (0, p, l)).1, (px_much T (-200) 2 (0, p, l)).2.1, (px_much T (-200) 2 (0, p, l)).2.2, rc) else (1, p, l, rc)
def px_hs (T : Int → Int) : Nat → Int × Int × List Int × Int → Int × Int × List Int × Int
  | 0, z => z
  | f + 1, z => if z.1 = 0 ∧ T z.2.1 = 59 then px_hs T f (px_cl T (z.2.1 + 1) z.2.2.1 z.2.2.2) else z
theorem px_hs_end {T : Int → Int} {f : Nat} {z : Int × Int × List Int × Int} (h : ¬ (z.1 = 0 ∧ T z.2.1 = 59)) : px_hs T f z = z := by
  cases f with
  | zero => rfl
  | succ f => unfold px_hs; rw [if_neg h]
theorem px_hs_s {T : Int → Int} {f : Nat} {w p w2 p2 rc rc2 : Int} {l l2 : List Int} {z : Int × Int × List Int × Int} (hz : px_hs T (f + 1) (w, p, l, rc) = z) (hw : w = 0) (hc : T p = 59) (h : (w2, p2, l2, rc2) = px_cl T (p + 1) l rc) : px_hs T f (w2, p2, l2, rc2) = z := by
  rw [← hz, px_hs, if_pos ⟨hw, hc⟩]
  show _ = px_hs T f (px_cl T (p + 1) l rc)
  rw [← h]
theorem px_row_rc {s0 : Int → Int} {ac rc v : Int} {l : List Int} (ha : 0 ≤ ac ∧ ac ≤ 4) : upI (px_row (upI s0 (212 + ac) rc) ac l) (212 + ac) v = px_row (upI s0 (212 + ac) v) ac l := by
  funext j
  by_cases hj : j = 212 + ac
  · rw [hj, upI_at, px_row_lo ha.1 (by omega), upI_at]
  · rw [upI_ne hj]
    unfold px_row
    rw [upI_ne hj, upI_ne hj]
theorem px_cl_r {T : Int → Int} {w p w2 p2 v rc rc2 : Int} {l : List Int} (hw : w = 0) (hc : T p = 114) (h : (w2, p2, v) = px_tell T 0 w p) (h2 : rc2 = if w2 = 0 then v else rc) : (w2, p2, l, rc2) = px_cl T p l rc := by
  subst hw
  unfold px_cl
  rw [if_pos hc, ← h, h2]
theorem px_cl_h {T : Int → Int} {w p w2 p2 rc : Int} {l l2 : List Int} (hw : w = 0) (hc : T p = 104) (h : (w2, p2, l2) = px_much T (-10) 1 (w, p, l)) : (w2, p2, l2, rc) = px_cl T p l rc := by
  subst hw
  unfold px_cl
  rw [if_neg (by omega), if_pos hc, ← h]
theorem px_cl_s {T : Int → Int} {w p w2 p2 rc : Int} {l l2 : List Int} (hw : w = 0) (hc : T p = 115) (h : (w2, p2, l2) = px_much T (-200) 2 (w, p, l)) : (w2, p2, l2, rc) = px_cl T p l rc := by
  subst hw
  unfold px_cl
  rw [if_neg (by omega), if_neg (by omega), if_pos hc, ← h]
theorem px_cl_no {T : Int → Int} {p rc : Int} {l : List Int} (h1 : ¬ T p = 104) (h2 : ¬ T p = 114) (h3 : ¬ T p = 115) : (1, p, l, rc) = px_cl T p l rc := by
  unfold px_cl
  rw [if_neg h2, if_neg h1, if_neg h3]
theorem px_row_rc2 {s0 s s2 : Int → Int} {ac rc v w : Int} {l : List Int} (ha : 0 ≤ ac ∧ ac ≤ 4) (hs : s = px_row (upI s0 (212 + ac) rc) ac l) (h : s2 = if w = 0 then upI s (212 + ac) v else s) : s2 = px_row (upI s0 (212 + ac) (if w = 0 then v else rc)) ac l := by
  by_cases hw : w = 0
  · rw [if_pos hw] at h ⊢
    rw [h, hs]
    exact px_row_rc ha
  · rw [if_neg hw] at h ⊢
    rw [h, hs]
theorem px_T2 {T s s2 : Int → Int} {e : Int} (hf : ∀ q, 0 ≤ q → q < 100 → s2 (112 + q) = s (112 + q)) (h : md_T T e s) : md_T T e s2 := by
  refine ⟨h.1, fun q hq => ?_, h.2.2⟩
  have h9 := h.1
  rw [h.2.1 q hq]
  by_cases hq2 : q < e
  · rw [if_pos hq2, if_pos hq2, hf q hq (by omega)]
  · rw [if_neg hq2, if_neg hq2]
/-- the tape's signs -/
def md_tape (s : Int → Int) : Int → Int := fun q => if 0 ≤ q ∧ q < s 24 then s (112 + q) else -1
theorem md_tape_T {s f : Int → Int} {ac : Int} (h24 : 0 ≤ s 24 ∧ s 24 ≤ 100) (ht : ∀ q, 0 ≤ q → q < 100 → 0 ≤ s (112 + q) ∧ s (112 + q) ≤ 127) (hf : ∀ q, 0 ≤ q → q < 100 → f (112 + q) = s (112 + q)) : md_T (md_tape s) (s 24) f := by
  refine ⟨h24, fun q hq => ?_, fun q => ?_, fun q h1 h2 => ?_⟩
  · unfold md_tape
    by_cases h : q < s 24
    · rw [if_pos ⟨hq, h⟩, if_pos h, hf q hq (by omega)]
    · rw [if_neg (by omega), if_neg h]
  · unfold md_tape
    split
    · have := ht q (by omega) (by omega); omega
    · omega
  · unfold md_tape
    rw [if_pos ⟨h1, h2⟩]
    exact (ht q h1 (by omega)).1
def px_house (s : Int → Int) : Int × Int × List Int × Int := px_hs (md_tape s) 9 (px_cl (md_tape s) 0 [] 9)
def an_house (s : Int → Int) : Int := if s 20 = 5 then -4 else if (px_house s).1 = 0 ∧ (px_house s).2.1 = s 24 then s 20 else -10 - (px_house s).2.1
def ne_read (s : Int → Int) : Int → Int := px_row (upI (upI s 24 0) (212 + s 20) (px_house s).2.2.2) (s 20) (px_house s).2.2.1
def ne_house (s : Int → Int) : Int → Int := if s 20 = 5 then s else if (px_house s).1 = 0 ∧ (px_house s).2.1 = s 24 then upI (upI (ne_read s) 20 (s 20 + 1)) 25 (s 20) else ne_read s
theorem px_row_00 {s0 f1 f2 f3 : Int → Int} {ac a b c : Int} (ha : 0 ≤ ac ∧ ac ≤ 4) (hc : c = 212 + ac) (hb : b = 217 + ac) (e1 : f1 = s0) (e2 : f2 = upI f1 c a) (e3 : f3 = upI f2 b 0) : f3 = px_row (upI s0 (212 + ac) a) ac [] := by
  rw [e3, e2, e1, hb, hc]
  funext j
  unfold px_row
  rw [if_neg (by simp only [List.length_nil]; omega)]
  by_cases hj : j = 217 + ac
  · rw [if_pos hj, hj, upI_at]; rfl
  · rw [if_neg hj, upI_ne hj]
theorem an_house_ok {s : Int → Int} {w p rc : Int} {l : List Int} (h5 : ¬ s 20 = 5) (hz : (w, p, l, rc) = px_house s) (hw : w = 0) (hp : p = s 24) : s 20 = an_house s := by
  unfold an_house
  rw [if_neg h5, ← hz, if_pos ⟨hw, hp⟩]
theorem an_house_no {s : Int → Int} {w p rc : Int} {l : List Int} (h5 : ¬ s 20 = 5) (hz : (w, p, l, rc) = px_house s) (h : ¬ (w = 0 ∧ p = s 24)) : -10 - p = an_house s := by
  unfold an_house
  rw [if_neg h5, ← hz, if_neg h]
theorem ne_house_ok {s f f1 f2 : Int → Int} {w p rc : Int} {l : List Int} (h20 : 0 ≤ s 20) (h5 : ¬ s 20 = 5) (hz : (w, p, l, rc) = px_house s) (hw : w = 0) (hp : p = s 24) (hf : f = px_row (upI (upI s 24 0) (212 + s 20) rc) (s 20) l) (e1 : f1 = upI f 20 (f 20 + 1)) (e2 : f2 = upI f1 25 (s 20)) : f2 = ne_house s := by
  have h : f 20 = s 20 := by rw [hf, px_row_lo h20 (by omega), upI_ne (by omega), upI_ne (by omega)]
  unfold ne_house ne_read
  rw [if_neg h5, ← hz, if_pos ⟨hw, hp⟩, e2, e1, h, hf]
theorem ne_house_no {s f : Int → Int} {w p rc : Int} {l : List Int} (h5 : ¬ s 20 = 5) (hz : (w, p, l, rc) = px_house s) (h : ¬ (w = 0 ∧ p = s 24)) (hf : f = px_row (upI (upI s 24 0) (212 + s 20) rc) (s 20) l) : f = ne_house s := by
  unfold ne_house ne_read
  rw [if_neg h5, ← hz, if_neg h, hf]
set_option maxHeartbeats 4000000 in
set_option maxRecDepth 100000 in
theorem k_X10_here {K : gK} (m0 : Nat) (m1 : Nat) (w_thrown : Value) (w_image : Value) (w_frame : Value) (w_hasImage : Value) (w_by : Value) (w_truths : Value) (w_pulls : Value) (w_isKeeping : Value) (w_next : Value) (w_first : Value) (w_order : Value) (w_bestOrder : Value) (w_rooms : Value) (w_leastUnlike : Value) (w_bodies : Value) (w_ran : Value) (w_kind : Value) (w_number : Value) (w_tellsV : Value) (ac : Int) (p : Int) (e : Int) (w : Int) (o : Int) (s : Int → Int) (T : Int → Int) (r_ac : rI ac) (r_p : rI p) (r_e : rI e) (r_w : rI w) (r_o : rI o) (r_s : ∀ j, rI (s j)) (hT : md_T T e s) (hp : 0 ≤ p ∧ p ≤ e) : gFn K yX10_here cX10_here 1 (some .int) 0 [.ref m0] [cO m0 10 [w_thrown, .ref m1, w_image, w_frame, w_hasImage, .int (iI ac), .int (iI p), .int (iI e), .int (iI w), .int (iI o), w_by, w_truths, w_pulls, w_isKeeping, w_next, w_first, w_order, w_bestOrder, w_rooms, w_leastUnlike, w_bodies, w_ran, w_kind, w_number, w_tellsV], cA K m1 922 s] (T p) := by
  refine g_enter (by decide +kernel) (Nat.le_of_ble_eq_true rfl) (fun G hC hR => ?_)
  refine g_lv hC [0] [(0, _)] rfl ?_
  have hge := hT.1
  refine g_aload_n (pc := 0) hC 0 dX10_here_0 rfl rfl ?_
  refine g_get (pc := 1) hC 0 fl_X10_58 dX10_here_1 rfl rfl ?_
  refine g_aload_n (pc := 4) hC 0 dX10_here_4 rfl rfl ?_
  refine g_get (pc := 5) hC 0 fl_X10_61 dX10_here_5 rfl rfl ?_
  refine g_icmp_ge (pc := 8) hC 26 dX10_here_8 (by decide) (by omega) (by omega) (fun c8 => ?_) (fun c8 => ?_)
  · refine g_iconst (pc := 26) hC dX10_here_26 ?_
    exact g_iret (pc := 27) hR dX10_here_27 rfl ⟨by omega, by omega⟩ (Nat.le_of_ble_eq_true rfl) ⟨ret_eq (by rw [hT.2.1 p (by omega), if_neg (by omega)]), rfl⟩
  · refine g_aload_n (pc := 11) hC 0 dX10_here_11 rfl rfl ?_
    refine g_get (pc := 12) hC 0 fl_X10_9 dX10_here_12 rfl rfl ?_
    refine g_bipush (pc := 15) hC (112) dX10_here_15 (by decide) ?_
    refine g_aload_n (pc := 17) hC 0 dX10_here_17 rfl rfl ?_
    refine g_get (pc := 18) hC 0 fl_X10_58 dX10_here_18 rfl rfl ?_
    refine g_iadd (pc := 21) hC dX10_here_21 ?_
    refine g_iald (pc := 22) hC 1 dX10_here_22 rfl (by omega) ?_
    have q1 := r_s (112 + p)
    refine g_goto (pc := 23) hC 27 dX10_here_23 (by decide) ?_
    exact g_iret (pc := 27) hR dX10_here_27 rfl ⟨by omega, by omega⟩ (Nat.le_of_ble_eq_true rfl) ⟨ret_eq (by rw [hT.2.1 p (by omega), if_pos (by omega)]), rfl⟩
set_option maxHeartbeats 4000000 in
set_option maxRecDepth 100000 in
theorem k_X10_must {K : gK} (m0 : Nat) (m1 : Nat) (w_thrown : Value) (w_image : Value) (w_frame : Value) (w_hasImage : Value) (w_by : Value) (w_truths : Value) (w_pulls : Value) (w_isKeeping : Value) (w_next : Value) (w_first : Value) (w_order : Value) (w_bestOrder : Value) (w_rooms : Value) (w_leastUnlike : Value) (w_bodies : Value) (w_ran : Value) (w_kind : Value) (w_number : Value) (w_tellsV : Value) (c : Int) (ac : Int) (p : Int) (e : Int) (w : Int) (o : Int) (s : Int → Int) (T : Int → Int) (r_c : rI c) (r_ac : rI ac) (r_p : rI p) (r_e : rI e) (r_w : rI w) (r_o : rI o) (r_s : ∀ j, rI (s j)) (hT : md_T T e s) (hp : 0 ≤ p ∧ p ≤ e) (hw : w = 0 ∨ w = 1) (hc : 0 ≤ c ∧ c ≤ 127) : gMet K yX10_must cX10_must 2 none 1 0 0 [.ref m0, .int (iI c)] [cO m0 10 [w_thrown, .ref m1, w_image, w_frame, w_hasImage, .int (iI ac), .int (iI p), .int (iI e), .int (iI w), .int (iI o), w_by, w_truths, w_pulls, w_isKeeping, w_next, w_first, w_order, w_bestOrder, w_rooms, w_leastUnlike, w_bodies, w_ran, w_kind, w_number, w_tellsV], cA K m1 922 s] (fun v9 w9 => ∃ (w2 : Int), ∃ (p2 : Int), v9 = none ∧ w9 = [cO m0 10 [w_thrown, .ref m1, w_image, w_frame, w_hasImage, .int (iI ac), .int (iI p2), .int (iI e), .int (iI w2), .int (iI o), w_by, w_truths, w_pulls, w_isKeeping, w_next, w_first, w_order, w_bestOrder, w_rooms, w_leastUnlike, w_bodies, w_ran, w_kind, w_number, w_tellsV], cA K m1 922 s] ∧ rI w2 ∧ rI p2 ∧ ((w2, p2) = px_must T c w p) ∧ ((w2 = 0 ∨ w2 = 1) ∧ p ≤ p2 ∧ p2 ≤ e) ∧ (w2 = 0 → w = 0 ∧ p2 = p + 1)) := by
  refine g_enter (by decide +kernel) (Nat.le_of_ble_eq_true rfl) (fun G hC hR => ?_)
  refine g_lv hC [0, 1] [(0, _), (1, _)] rfl ?_
  have hge := hT.1
  refine g_aload_n (pc := 0) hC 0 dX10_must_0 rfl rfl ?_
  refine g_aload_n (pc := 1) hC 0 dX10_must_1 rfl rfl ?_
  refine g_get (pc := 2) hC 0 fl_X10_64 dX10_must_2 rfl rfl ?_
  refine g_if_ne (pc := 5) hC 16 dX10_must_5 (by decide) (by omega) (fun c5 => ?_) (fun c5 => ?_)
  · refine g_iconst (pc := 16) hC dX10_must_16 ?_
    refine g_goto (pc := 17) hC 21 dX10_must_17 (by decide) ?_
    refine g_putZ (pc := 21) hC 0 [cO _ _ [_, _, _, _, _, _, _, _, _, _, _, _, _, _, _, _, _, _, _, _, _, _, _, _, _], _] fl_X10_64 dX10_must_21 rfl (Nat.le_of_ble_eq_true rfl) (by omega) rfl ?_
    refine g_aload_n (pc := 24) hC 0 dX10_must_24 rfl rfl ?_
    refine g_dup (pc := 25) hC dX10_must_25 rfl ?_
    refine g_get (pc := 26) hC 0 fl_X10_58 dX10_must_26 rfl rfl ?_
    refine g_aload_n (pc := 29) hC 0 dX10_must_29 rfl rfl ?_
    refine g_get (pc := 30) hC 0 fl_X10_64 dX10_must_30 rfl rfl ?_
    refine g_if_eq (pc := 33) hC 40 dX10_must_33 (by decide) (by omega) (fun c33 => by exfalso; omega) (fun c33 => ?_)
    refine g_iconst (pc := 36) hC dX10_must_36 ?_
    refine g_goto (pc := 37) hC 41 dX10_must_37 (by decide) ?_
    refine g_iadd (pc := 41) hC dX10_must_41 ?_
    refine g_st hC [.int (iI p), .ref m0] (by rw [Int.add_zero]) ?_
    refine g_putI (pc := 42) hC 0 [cO _ _ [_, _, _, _, _, _, _, _, _, _, _, _, _, _, _, _, _, _, _, _, _, _, _, _, _], _] fl_X10_58 dX10_must_42 rfl (Nat.le_of_ble_eq_true rfl) rfl ?_
    exact g_vret (pc := 45) hR dX10_must_45 rfl ⟨by omega, by omega⟩ (Nat.le_of_ble_eq_true rfl) ⟨1, p, rfl, rfl, (by first | assumption | omega), (by first | assumption | omega), (by unfold px_must; split <;> (rw [Prod.mk.injEq]; omega)), (by first | assumption | omega), (by first | assumption | omega)⟩
  · refine g_aload_n (pc := 8) hC 0 dX10_must_8 rfl rfl ?_
    refine g_fnV (pc := 9) (qr := 0) hC [0, 1] (k_X10_here _ _ _ _ _ _ _ _ _ _ _ _ _ _ _ _ _ _ _ _ _ _ _ _ _ _ _ _ (by first | assumption | omega) (by first | assumption | omega) (by first | assumption | omega) (by first | assumption | omega) (by first | assumption | omega) (by first | assumption | omega) (by first | assumption | omega) (by first | assumption | omega)) cl_X10_here wm_X10_68 dX10_must_9 rfl rfl rfl rfl rfl (by decide) (by decide) ⟨by omega, by omega⟩ (Nat.le_of_ble_eq_true rfl) rfl rfl ?_
    refine g_name hC (fun x1 e_x1 => ?_)
    have q_x1 : -1 ≤ x1 ∧ x1 ≤ 127 := by rw [e_x1]; exact hT.2.2.1 _
    refine g_iload_n (pc := 12) hC 1 dX10_must_12 rfl rfl ?_
    refine g_icmp_eq (pc := 13) hC 20 dX10_must_13 (by decide) (by omega) (by omega) (fun c13 => ?_) (fun c13 => ?_)
    · have hpl := px_lt hT hp.1 (show T p = c by omega) hc.1
      refine g_iconst (pc := 20) hC dX10_must_20 ?_
      refine g_putZ (pc := 21) hC 0 [cO _ _ [_, _, _, _, _, _, _, _, _, _, _, _, _, _, _, _, _, _, _, _, _, _, _, _, _], _] fl_X10_64 dX10_must_21 rfl (Nat.le_of_ble_eq_true rfl) (by omega) rfl ?_
      refine g_aload_n (pc := 24) hC 0 dX10_must_24 rfl rfl ?_
      refine g_dup (pc := 25) hC dX10_must_25 rfl ?_
      refine g_get (pc := 26) hC 0 fl_X10_58 dX10_must_26 rfl rfl ?_
      refine g_aload_n (pc := 29) hC 0 dX10_must_29 rfl rfl ?_
      refine g_get (pc := 30) hC 0 fl_X10_64 dX10_must_30 rfl rfl ?_
      refine g_if_eq (pc := 33) hC 40 dX10_must_33 (by decide) (by omega) (fun c33 => ?_) (fun c33 => by exfalso; omega)
      refine g_iconst (pc := 40) hC dX10_must_40 ?_
      refine g_iadd (pc := 41) hC dX10_must_41 ?_
      refine g_putI (pc := 42) hC 0 [cO _ _ [_, _, _, _, _, _, _, _, _, _, _, _, _, _, _, _, _, _, _, _, _, _, _, _, _], _] fl_X10_58 dX10_must_42 rfl (Nat.le_of_ble_eq_true rfl) rfl ?_
      exact g_vret (pc := 45) hR dX10_must_45 rfl ⟨by omega, by omega⟩ (Nat.le_of_ble_eq_true rfl) ⟨0, p + 1, rfl, rfl, (by first | assumption | omega), (by first | assumption | omega), (by unfold px_must; split <;> (rw [Prod.mk.injEq]; omega)), (by first | assumption | omega), (by first | assumption | omega)⟩
    · refine g_iconst (pc := 16) hC dX10_must_16 ?_
      refine g_goto (pc := 17) hC 21 dX10_must_17 (by decide) ?_
      refine g_putZ (pc := 21) hC 0 [cO _ _ [_, _, _, _, _, _, _, _, _, _, _, _, _, _, _, _, _, _, _, _, _, _, _, _, _], _] fl_X10_64 dX10_must_21 rfl (Nat.le_of_ble_eq_true rfl) (by omega) rfl ?_
      refine g_aload_n (pc := 24) hC 0 dX10_must_24 rfl rfl ?_
      refine g_dup (pc := 25) hC dX10_must_25 rfl ?_
      refine g_get (pc := 26) hC 0 fl_X10_58 dX10_must_26 rfl rfl ?_
      refine g_aload_n (pc := 29) hC 0 dX10_must_29 rfl rfl ?_
      refine g_get (pc := 30) hC 0 fl_X10_64 dX10_must_30 rfl rfl ?_
      refine g_if_eq (pc := 33) hC 40 dX10_must_33 (by decide) (by omega) (fun c33 => by exfalso; omega) (fun c33 => ?_)
      refine g_iconst (pc := 36) hC dX10_must_36 ?_
      refine g_goto (pc := 37) hC 41 dX10_must_37 (by decide) ?_
      refine g_iadd (pc := 41) hC dX10_must_41 ?_
      refine g_st hC [.int (iI p), .ref m0] (by rw [Int.add_zero]) ?_
      refine g_putI (pc := 42) hC 0 [cO _ _ [_, _, _, _, _, _, _, _, _, _, _, _, _, _, _, _, _, _, _, _, _, _, _, _, _], _] fl_X10_58 dX10_must_42 rfl (Nat.le_of_ble_eq_true rfl) rfl ?_
      exact g_vret (pc := 45) hR dX10_must_45 rfl ⟨by omega, by omega⟩ (Nat.le_of_ble_eq_true rfl) ⟨1, p, rfl, rfl, (by first | assumption | omega), (by first | assumption | omega), (by unfold px_must; split <;> (rw [Prod.mk.injEq]; omega)), (by first | assumption | omega), (by first | assumption | omega)⟩
set_option maxHeartbeats 4000000 in
set_option maxRecDepth 100000 in
theorem k_X10_spells {K : gK} (m0 : Nat) (m1 : Nat) (w_thrown : Value) (w_image : Value) (w_frame : Value) (w_hasImage : Value) (w_by : Value) (w_truths : Value) (w_pulls : Value) (w_isKeeping : Value) (w_next : Value) (w_first : Value) (w_order : Value) (w_bestOrder : Value) (w_rooms : Value) (w_leastUnlike : Value) (w_bodies : Value) (w_ran : Value) (w_kind : Value) (w_number : Value) (w_tellsV : Value) (ac : Int) (p : Int) (e : Int) (w : Int) (o : Int) (s : Int → Int) (T : Int → Int) (k : Nat) (r_ac : rI ac) (r_p : rI p) (r_e : rI e) (r_w : rI w) (r_o : rI o) (r_s : ∀ j, rI (s j)) (hT : md_T T e s) (hp : 0 ≤ p ∧ p ≤ e) (hw : w = 0 ∨ w = 1) (hk : k < 7) : gMet K yX10_spells cX10_spells 3 none 4 0 0 [.ref m0, .ref (K.2.2.1 k)] [cO m0 10 [w_thrown, .ref m1, w_image, w_frame, w_hasImage, .int (iI ac), .int (iI p), .int (iI e), .int (iI w), .int (iI o), w_by, w_truths, w_pulls, w_isKeeping, w_next, w_first, w_order, w_bestOrder, w_rooms, w_leastUnlike, w_bodies, w_ran, w_kind, w_number, w_tellsV], cA K m1 922 s] (fun v9 w9 => ∃ (w2 : Int), ∃ (p2 : Int), v9 = none ∧ w9 = [cO m0 10 [w_thrown, .ref m1, w_image, w_frame, w_hasImage, .int (iI ac), .int (iI p2), .int (iI e), .int (iI w2), .int (iI o), w_by, w_truths, w_pulls, w_isKeeping, w_next, w_first, w_order, w_bestOrder, w_rooms, w_leastUnlike, w_bodies, w_ran, w_kind, w_number, w_tellsV], cA K m1 922 s] ∧ rI w2 ∧ rI p2 ∧ ((w2, p2) = px_spl T k (sl k).toNat w p) ∧ ((w2 = 0 ∨ w2 = 1) ∧ p ≤ p2 ∧ p2 ≤ e) ∧ (w2 = 0 → w = 0 ∧ p2 = p + sl k)) := by
  refine g_enter (by decide +kernel) (Nat.le_of_ble_eq_true rfl) (fun G hC hR => ?_)
  refine g_lv hC [0, 1] [(0, _), (1, _)] rfl ?_
  have hge := hT.1
  have hsl := sl_rng hk
  refine g_iconst (pc := 0) hC dX10_spells_0 ?_
  refine g_istore_n (pc := 1) hC [(2, _), (0, _), (1, _)] dX10_spells_1 rfl (by decide) rfl ?_
  have L2 : ∀ (n1 : Nat) (i : Int) (w1 : Int) (p1 : Int) (j : Nat), (rI i) → (rI w1) → (rI p1) → (i = (j : Int)) → (i ≤ sl k) → ((w1, p1) = px_spl T k j w p) → ((w1 = 0 ∨ w1 = 1) ∧ p ≤ p1 ∧ p1 ≤ e) → (w1 = 0 → w = 0 ∧ p1 = p + i) → sl k - i < (n1 : Int) → G 0 0 2 [(0, .ref m0), (1, .ref (K.2.2.1 k)), (2, .int (iI i))] [] [cO m0 10 [w_thrown, .ref m1, w_image, w_frame, w_hasImage, .int (iI ac), .int (iI p1), .int (iI e), .int (iI w1), .int (iI o), w_by, w_truths, w_pulls, w_isKeeping, w_next, w_first, w_order, w_bestOrder, w_rooms, w_leastUnlike, w_bodies, w_ran, w_kind, w_number, w_tellsV], cA K m1 922 s] := by
    intro n1
    induction n1 with
    | zero => intro i w1 p1 j r_i r_w1 r_p1 hi hj hz hb1 hw1 hm2; exfalso; omega
    | succ n1 ih2 =>
      intro i w1 p1 j r_i r_w1 r_p1 hi hj hz hb1 hw1 hm2
      refine g_iload_n (pc := 2) hC 2 dX10_spells_2 rfl rfl ?_
      refine g_aload_n (pc := 3) hC 1 dX10_spells_3 rfl rfl ?_
      refine g_fnVk (pc := 4) hC [] (k_J0_length_8abf5 _ (by first | assumption | omega)) cl_J0_length_8abf5 wm_X10_72 dX10_spells_4 rfl (by first | assumption | omega) rfl rfl (by decide) (by decide) ⟨by omega, by omega⟩ (Nat.le_of_ble_eq_true rfl) rfl rfl ?_
      refine g_name hC (fun x2 e_x2 => ?_)
      refine g_icmp_ge (pc := 7) hC 25 dX10_spells_7 (by decide) (by omega) (by omega) (fun c7 => ?_) (fun c7 => ?_)
      · have hj9 : (sl k).toNat = j := by omega
        exact g_vret (pc := 25) hR dX10_spells_25 rfl ⟨by omega, by omega⟩ (Nat.le_of_ble_eq_true rfl) ⟨w1, p1, rfl, rfl, (by first | assumption | omega), (by first | assumption | omega), (by rw [hj9]; exact hz), (by first | assumption | omega), (by first | assumption | omega)⟩
      · refine g_aload_n (pc := 10) hC 0 dX10_spells_10 rfl rfl ?_
        refine g_aload_n (pc := 11) hC 1 dX10_spells_11 rfl rfl ?_
        refine g_iload_n (pc := 12) hC 2 dX10_spells_12 rfl rfl ?_
        refine g_fnVk (pc := 13) hC [] (k_J0_charAt_5068e _ _ (by first | assumption | omega) (by first | assumption | omega) (by first | assumption | omega)) cl_J0_charAt_5068e wm_X10_77 dX10_spells_13 rfl (by first | assumption | omega) rfl rfl (by decide) (by decide) ⟨by omega, by omega⟩ (Nat.le_of_ble_eq_true rfl) rfl rfl ?_
        refine g_name hC (fun x13 e_x13 => ?_)
        have hsx := sx_rng (k := k) (i := i) hk (by omega)
        refine g_callV (pc := 16) (qr := 0) hC [0, 1] (k_X10_must _ _ _ _ _ _ _ _ _ _ _ _ _ _ _ _ _ _ _ _ _ _ _ _ _ _ _ _ _ (by first | assumption | omega) (by first | assumption | omega) (by first | assumption | omega) (by first | assumption | omega) (by first | assumption | omega) (by first | assumption | omega) (by first | assumption | omega) (by first | assumption | omega) (by first | assumption | omega) (by first | assumption | omega) (by first | assumption | omega)) cl_X10_must wm_X10_81 dX10_spells_16 rfl rfl rfl rfl rfl (by decide) (by decide) (by omega) (Nat.le_of_ble_eq_true rfl) rfl (fun v9 w9 hq9 => ?_)
        obtain ⟨w3, p4, rfl, rfl, r_w3, r_p4, hz_16, hb_16, hw0_16⟩ := hq9
        refine g_ws hC [cO m0 10 [w_thrown, .ref m1, w_image, w_frame, w_hasImage, .int (iI ac), .int (iI p4), .int (iI e), .int (iI w3), .int (iI o), w_by, w_truths, w_pulls, w_isKeeping, w_next, w_first, w_order, w_bestOrder, w_rooms, w_leastUnlike, w_bodies, w_ran, w_kind, w_number, w_tellsV], cA K m1 922 s] rfl ?_
        refine g_st hC [] rfl ?_
        refine g_iinc (pc := 19) hC 2 [(2, _), (0, _), (1, _)] dX10_spells_19 rfl (by decide) rfl ?_
        refine g_goto (pc := 22) hC 2 dX10_spells_22 (by decide) ?_
        refine g_lv hC [1, 2, 0] [(0, _), (1, _), (2, _)] rfl ?_
        exact ih2 (i + 1) w3 p4 (j + 1) (by first | assumption | omega) (by first | assumption | omega) (by first | assumption | omega) (by first | assumption | omega) (by first | assumption | omega) (px_spl_s hi hz e_x13 hz_16) (by first | assumption | omega) (by first | assumption | omega) (by omega)
  refine g_lv hC [1, 2, 0] [(0, _), (1, _), (2, _)] rfl ?_
  exact L2 ((sl k - 0 : Int).toNat + 1) 0 w p 0 (by first | assumption | omega) (by first | assumption | omega) (by first | assumption | omega) (by first | assumption | omega) (by first | assumption | omega) rfl (by first | assumption | omega) (by first | assumption | omega) (by omega)
set_option maxHeartbeats 4000000 in
set_option maxRecDepth 100000 in
theorem k_X10_figures {K : gK} (m0 : Nat) (m1 : Nat) (w_thrown : Value) (w_image : Value) (w_frame : Value) (w_hasImage : Value) (w_by : Value) (w_truths : Value) (w_pulls : Value) (w_isKeeping : Value) (w_next : Value) (w_first : Value) (w_order : Value) (w_bestOrder : Value) (w_rooms : Value) (w_leastUnlike : Value) (w_bodies : Value) (w_ran : Value) (w_kind : Value) (w_number : Value) (w_tellsV : Value) (ac : Int) (p : Int) (e : Int) (w : Int) (o : Int) (s : Int → Int) (T : Int → Int) (r_ac : rI ac) (r_p : rI p) (r_e : rI e) (r_w : rI w) (r_o : rI o) (r_s : ∀ j, rI (s j)) (hT : md_T T e s) (hp : 0 ≤ p ∧ p ≤ e) (hw : w = 0 ∨ w = 1) : gMet K yX10_figures cX10_figures 3 (some .int) 1 0 0 [.ref m0] [cO m0 10 [w_thrown, .ref m1, w_image, w_frame, w_hasImage, .int (iI ac), .int (iI p), .int (iI e), .int (iI w), .int (iI o), w_by, w_truths, w_pulls, w_isKeeping, w_next, w_first, w_order, w_bestOrder, w_rooms, w_leastUnlike, w_bodies, w_ran, w_kind, w_number, w_tellsV], cA K m1 922 s] (fun v9 w9 => ∃ (w2 : Int), ∃ (p2 : Int), ∃ (v : Int), v9 = some (.int (iI v)) ∧ w9 = [cO m0 10 [w_thrown, .ref m1, w_image, w_frame, w_hasImage, .int (iI ac), .int (iI p2), .int (iI e), .int (iI w2), .int (iI o), w_by, w_truths, w_pulls, w_isKeeping, w_next, w_first, w_order, w_bestOrder, w_rooms, w_leastUnlike, w_bodies, w_ran, w_kind, w_number, w_tellsV], cA K m1 922 s] ∧ rI w2 ∧ rI p2 ∧ rI v ∧ ((w2, p2, v) = px_fig T w p) ∧ ((w2 = 0 ∨ w2 = 1) ∧ p ≤ p2 ∧ p2 ≤ e) ∧ (0 ≤ v ∧ v ≤ 99) ∧ (w2 = 0 → w = 0 ∧ p < p2)) := by
  refine g_enter (by decide +kernel) (Nat.le_of_ble_eq_true rfl) (fun G hC hR => ?_)
  refine g_lv hC [0] [(0, _)] rfl ?_
  have hge := hT.1
  refine g_aload_n (pc := 0) hC 0 dX10_figures_0 rfl rfl ?_
  refine g_aload_n (pc := 1) hC 0 dX10_figures_1 rfl rfl ?_
  refine g_get (pc := 2) hC 0 fl_X10_64 dX10_figures_2 rfl rfl ?_
  refine g_if_ne (pc := 5) hC 22 dX10_figures_5 (by decide) (by omega) (fun c5 => ?_) (fun c5 => ?_)
  · refine g_iconst (pc := 22) hC dX10_figures_22 ?_
    refine g_goto (pc := 23) hC 27 dX10_figures_23 (by decide) ?_
    refine g_putZ (pc := 27) hC 0 [cO _ _ [_, _, _, _, _, _, _, _, _, _, _, _, _, _, _, _, _, _, _, _, _, _, _, _, _], _] fl_X10_64 dX10_figures_27 rfl (Nat.le_of_ble_eq_true rfl) (by omega) rfl ?_
    refine g_iconst (pc := 30) hC dX10_figures_30 ?_
    refine g_istore_n (pc := 31) hC [(1, _), (0, _)] dX10_figures_31 rfl (by decide) rfl ?_
    refine g_iconst (pc := 32) hC dX10_figures_32 ?_
    refine g_istore_n (pc := 33) hC [(2, _), (1, _), (0, _)] dX10_figures_33 rfl (by decide) rfl ?_
    refine g_iload_n (pc := 34) hC 0 dX10_figures_34 rfl rfl ?_
    refine g_iconst (pc := 35) hC dX10_figures_35 ?_
    refine g_icmp_ge (pc := 36) hC 97 dX10_figures_36 (by decide) (by omega) (by omega) (fun c36 => by exfalso; omega) (fun c36 => ?_)
    refine g_aload_n (pc := 39) hC 2 dX10_figures_39 rfl rfl ?_
    refine g_get (pc := 40) hC 0 fl_X10_64 dX10_figures_40 rfl rfl ?_
    refine g_if_ne (pc := 43) hC 97 dX10_figures_43 (by decide) (by omega) (fun c43 => ?_) (fun c43 => by exfalso; omega)
    refine g_iload_n (pc := 97) hC 1 dX10_figures_97 rfl rfl ?_
    exact g_iret (pc := 98) hR dX10_figures_98 rfl ⟨by omega, by omega⟩ (Nat.le_of_ble_eq_true rfl) ⟨1, p, 0, rfl, rfl, (by first | assumption | omega), (by first | assumption | omega), (by first | assumption | omega), (by unfold px_fig; (repeat' split) <;> (rw [Prod.mk.injEq, Prod.mk.injEq]; omega)), (by first | assumption | omega), (by first | assumption | omega), (by first | assumption | omega)⟩
  · refine g_aload_n (pc := 8) hC 0 dX10_figures_8 rfl rfl ?_
    refine g_fnV (pc := 9) (qr := 0) hC [0, 1] (k_X10_here _ _ _ _ _ _ _ _ _ _ _ _ _ _ _ _ _ _ _ _ _ _ _ _ _ _ _ _ (by first | assumption | omega) (by first | assumption | omega) (by first | assumption | omega) (by first | assumption | omega) (by first | assumption | omega) (by first | assumption | omega) (by first | assumption | omega) (by first | assumption | omega)) cl_X10_here wm_X10_68 dX10_figures_9 rfl rfl rfl rfl rfl (by decide) (by decide) ⟨by omega, by omega⟩ (Nat.le_of_ble_eq_true rfl) rfl rfl ?_
    refine g_name hC (fun x1 e_x1 => ?_)
    have q_x1 : -1 ≤ x1 ∧ x1 ≤ 127 := by rw [e_x1]; exact hT.2.2.1 _
    refine g_bipush (pc := 12) hC (48) dX10_figures_12 (by decide) ?_
    refine g_bipush (pc := 14) hC (57) dX10_figures_14 (by decide) ?_
    refine g_fnS (pc := 16) hC [] (k_X10_in _ _ _ (by first | assumption | omega) (by first | assumption | omega) (by first | assumption | omega)) cl_X10_in wm_X10_54 dX10_figures_16 rfl rfl (by decide) (by decide) ⟨by omega, by omega⟩ (Nat.le_of_ble_eq_true rfl) rfl rfl ?_
    refine g_name hC (fun x2 e_x2 => ?_)
    refine g_if_ne (pc := 19) hC 26 dX10_figures_19 (by decide) (by omega) (fun c19 => ?_) (fun c19 => ?_)
    · refine g_iconst (pc := 26) hC dX10_figures_26 ?_
      refine g_putZ (pc := 27) hC 0 [cO _ _ [_, _, _, _, _, _, _, _, _, _, _, _, _, _, _, _, _, _, _, _, _, _, _, _, _], _] fl_X10_64 dX10_figures_27 rfl (Nat.le_of_ble_eq_true rfl) (by omega) rfl ?_
      refine g_iconst (pc := 30) hC dX10_figures_30 ?_
      refine g_istore_n (pc := 31) hC [(1, _), (0, _)] dX10_figures_31 rfl (by decide) rfl ?_
      refine g_iconst (pc := 32) hC dX10_figures_32 ?_
      refine g_istore_n (pc := 33) hC [(2, _), (1, _), (0, _)] dX10_figures_33 rfl (by decide) rfl ?_
      refine g_iload_n (pc := 34) hC 0 dX10_figures_34 rfl rfl ?_
      refine g_iconst (pc := 35) hC dX10_figures_35 ?_
      refine g_icmp_ge (pc := 36) hC 97 dX10_figures_36 (by decide) (by omega) (by omega) (fun c36 => by exfalso; omega) (fun c36 => ?_)
      refine g_aload_n (pc := 39) hC 2 dX10_figures_39 rfl rfl ?_
      refine g_get (pc := 40) hC 0 fl_X10_64 dX10_figures_40 rfl rfl ?_
      refine g_if_ne (pc := 43) hC 97 dX10_figures_43 (by decide) (by omega) (fun c43 => by exfalso; omega) (fun c43 => ?_)
      refine g_aload_n (pc := 46) hC 2 dX10_figures_46 rfl rfl ?_
      refine g_fnV (pc := 47) (qr := 0) hC [0, 1] (k_X10_here _ _ _ _ _ _ _ _ _ _ _ _ _ _ _ _ _ _ _ _ _ _ _ _ _ _ _ _ (by first | assumption | omega) (by first | assumption | omega) (by first | assumption | omega) (by first | assumption | omega) (by first | assumption | omega) (by first | assumption | omega) (by first | assumption | omega) (by first | assumption | omega)) cl_X10_here wm_X10_68 dX10_figures_47 rfl rfl rfl rfl rfl (by decide) (by decide) ⟨by omega, by omega⟩ (Nat.le_of_ble_eq_true rfl) rfl rfl ?_
      refine g_name hC (fun x3 e_x3 => ?_)
      have q_x3 : -1 ≤ x3 ∧ x3 ≤ 127 := by rw [e_x3]; exact hT.2.2.1 _
      refine g_bipush (pc := 50) hC (48) dX10_figures_50 (by decide) ?_
      refine g_bipush (pc := 52) hC (57) dX10_figures_52 (by decide) ?_
      refine g_fnS (pc := 54) hC [] (k_X10_in _ _ _ (by first | assumption | omega) (by first | assumption | omega) (by first | assumption | omega)) cl_X10_in wm_X10_54 dX10_figures_54 rfl rfl (by decide) (by decide) ⟨by omega, by omega⟩ (Nat.le_of_ble_eq_true rfl) rfl rfl ?_
      refine g_name hC (fun x4 e_x4 => ?_)
      refine g_if_eq (pc := 57) hC 97 dX10_figures_57 (by decide) (by omega) (fun c57 => ?_) (fun c57 => ?_)
      · refine g_iload_n (pc := 97) hC 1 dX10_figures_97 rfl rfl ?_
        exact g_iret (pc := 98) hR dX10_figures_98 rfl ⟨by omega, by omega⟩ (Nat.le_of_ble_eq_true rfl) ⟨0, p, 0, rfl, rfl, (by first | assumption | omega), (by first | assumption | omega), (by first | assumption | omega), (by unfold px_fig; (repeat' split) <;> (rw [Prod.mk.injEq, Prod.mk.injEq]; omega)), (by first | assumption | omega), (by first | assumption | omega), (by first | assumption | omega)⟩
      · refine g_iload_n (pc := 60) hC 0 dX10_figures_60 rfl rfl ?_
        refine g_if_eq (pc := 61) hC 68 dX10_figures_61 (by decide) (by omega) (fun c61 => ?_) (fun c61 => by exfalso; omega)
        refine g_bipush (pc := 68) hC (10) dX10_figures_68 (by decide) ?_
        refine g_iload_n (pc := 70) hC 1 dX10_figures_70 rfl rfl ?_
        refine g_imul (pc := 71) hC dX10_figures_71 ?_
        refine g_aload_n (pc := 72) hC 2 dX10_figures_72 rfl rfl ?_
        refine g_fnV (pc := 73) (qr := 0) hC [0, 1] (k_X10_here _ _ _ _ _ _ _ _ _ _ _ _ _ _ _ _ _ _ _ _ _ _ _ _ _ _ _ _ (by first | assumption | omega) (by first | assumption | omega) (by first | assumption | omega) (by first | assumption | omega) (by first | assumption | omega) (by first | assumption | omega) (by first | assumption | omega) (by first | assumption | omega)) cl_X10_here wm_X10_68 dX10_figures_73 rfl rfl rfl rfl rfl (by decide) (by decide) ⟨by omega, by omega⟩ (Nat.le_of_ble_eq_true rfl) rfl rfl ?_
        refine g_name hC (fun x73a e_x73a => ?_)
        have q_x73a : -1 ≤ x73a ∧ x73a ≤ 127 := by rw [e_x73a]; exact hT.2.2.1 _
        have hpla := px_lt hT (by omega) e_x73a.symm (by omega)
        refine g_iadd (pc := 76) hC dX10_figures_76 ?_
        refine g_bipush (pc := 77) hC (48) dX10_figures_77 (by decide) ?_
        refine g_isub (pc := 79) hC dX10_figures_79 ?_
        refine g_istore_n (pc := 80) hC [(1, _), (2, _), (0, _)] dX10_figures_80 rfl (by decide) rfl ?_
        refine g_aload_n (pc := 81) hC 2 dX10_figures_81 rfl rfl ?_
        refine g_dup (pc := 82) hC dX10_figures_82 rfl ?_
        refine g_get (pc := 83) hC 0 fl_X10_58 dX10_figures_83 rfl rfl ?_
        refine g_iconst (pc := 86) hC dX10_figures_86 ?_
        refine g_iadd (pc := 87) hC dX10_figures_87 ?_
        refine g_putI (pc := 88) hC 0 [cO _ _ [_, _, _, _, _, _, _, _, _, _, _, _, _, _, _, _, _, _, _, _, _, _, _, _, _], _] fl_X10_58 dX10_figures_88 rfl (Nat.le_of_ble_eq_true rfl) rfl ?_
        refine g_iinc (pc := 91) hC 1 [(2, _), (1, _), (0, _)] dX10_figures_91 rfl (by decide) rfl ?_
        refine g_lv hC [0, 1, 2] [(2, .int (iI 1)), (1, _), (0, _)] rfl ?_
        refine g_goto (pc := 94) hC 34 dX10_figures_94 (by decide) ?_
        refine g_iload_n (pc := 34) hC 0 dX10_figures_34 rfl rfl ?_
        refine g_iconst (pc := 35) hC dX10_figures_35 ?_
        refine g_icmp_ge (pc := 36) hC 97 dX10_figures_36 (by decide) (by omega) (by omega) (fun c36 => by exfalso; omega) (fun c36 => ?_)
        refine g_aload_n (pc := 39) hC 2 dX10_figures_39 rfl rfl ?_
        refine g_get (pc := 40) hC 0 fl_X10_64 dX10_figures_40 rfl rfl ?_
        refine g_if_ne (pc := 43) hC 97 dX10_figures_43 (by decide) (by omega) (fun c43 => by exfalso; omega) (fun c43 => ?_)
        refine g_aload_n (pc := 46) hC 2 dX10_figures_46 rfl rfl ?_
        refine g_fnV (pc := 47) (qr := 0) hC [0, 1] (k_X10_here _ _ _ _ _ _ _ _ _ _ _ _ _ _ _ _ _ _ _ _ _ _ _ _ _ _ _ _ (by first | assumption | omega) (by first | assumption | omega) (by first | assumption | omega) (by first | assumption | omega) (by first | assumption | omega) (by first | assumption | omega) (by first | assumption | omega) (by first | assumption | omega)) cl_X10_here wm_X10_68 dX10_figures_47 rfl rfl rfl rfl rfl (by decide) (by decide) ⟨by omega, by omega⟩ (Nat.le_of_ble_eq_true rfl) rfl rfl ?_
        refine g_name hC (fun x5 e_x5 => ?_)
        have q_x5 : -1 ≤ x5 ∧ x5 ≤ 127 := by rw [e_x5]; exact hT.2.2.1 _
        refine g_bipush (pc := 50) hC (48) dX10_figures_50 (by decide) ?_
        refine g_bipush (pc := 52) hC (57) dX10_figures_52 (by decide) ?_
        refine g_fnS (pc := 54) hC [] (k_X10_in _ _ _ (by first | assumption | omega) (by first | assumption | omega) (by first | assumption | omega)) cl_X10_in wm_X10_54 dX10_figures_54 rfl rfl (by decide) (by decide) ⟨by omega, by omega⟩ (Nat.le_of_ble_eq_true rfl) rfl rfl ?_
        refine g_name hC (fun x6 e_x6 => ?_)
        refine g_if_eq (pc := 57) hC 97 dX10_figures_57 (by decide) (by omega) (fun c57 => ?_) (fun c57 => ?_)
        · refine g_iload_n (pc := 97) hC 1 dX10_figures_97 rfl rfl ?_
          exact g_iret (pc := 98) hR dX10_figures_98 rfl ⟨by omega, by omega⟩ (Nat.le_of_ble_eq_true rfl) ⟨0, p + 1, ((10 * 0) + x73a) - 48, rfl, rfl, (by first | assumption | omega), (by first | assumption | omega), (by first | assumption | omega), (by unfold px_fig; (repeat' split) <;> (rw [Prod.mk.injEq, Prod.mk.injEq]; omega)), (by first | assumption | omega), (by first | assumption | omega), (by first | assumption | omega)⟩
        · refine g_iload_n (pc := 60) hC 0 dX10_figures_60 rfl rfl ?_
          refine g_if_eq (pc := 61) hC 68 dX10_figures_61 (by decide) (by omega) (fun c61 => by exfalso; omega) (fun c61 => ?_)
          refine g_iload_n (pc := 64) hC 1 dX10_figures_64 rfl rfl ?_
          refine g_if_le (pc := 65) hC 97 dX10_figures_65 (by decide) (by omega) (fun c65 => ?_) (fun c65 => ?_)
          · refine g_iload_n (pc := 97) hC 1 dX10_figures_97 rfl rfl ?_
            exact g_iret (pc := 98) hR dX10_figures_98 rfl ⟨by omega, by omega⟩ (Nat.le_of_ble_eq_true rfl) ⟨0, p + 1, ((10 * 0) + x73a) - 48, rfl, rfl, (by first | assumption | omega), (by first | assumption | omega), (by first | assumption | omega), (by unfold px_fig; (repeat' split) <;> (rw [Prod.mk.injEq, Prod.mk.injEq]; omega)), (by first | assumption | omega), (by first | assumption | omega), (by first | assumption | omega)⟩
          · refine g_bipush (pc := 68) hC (10) dX10_figures_68 (by decide) ?_
            refine g_iload_n (pc := 70) hC 1 dX10_figures_70 rfl rfl ?_
            refine g_imul (pc := 71) hC dX10_figures_71 ?_
            refine g_aload_n (pc := 72) hC 2 dX10_figures_72 rfl rfl ?_
            refine g_fnV (pc := 73) (qr := 0) hC [0, 1] (k_X10_here _ _ _ _ _ _ _ _ _ _ _ _ _ _ _ _ _ _ _ _ _ _ _ _ _ _ _ _ (by first | assumption | omega) (by first | assumption | omega) (by first | assumption | omega) (by first | assumption | omega) (by first | assumption | omega) (by first | assumption | omega) (by first | assumption | omega) (by first | assumption | omega)) cl_X10_here wm_X10_68 dX10_figures_73 rfl rfl rfl rfl rfl (by decide) (by decide) ⟨by omega, by omega⟩ (Nat.le_of_ble_eq_true rfl) rfl rfl ?_
            refine g_name hC (fun x73b e_x73b => ?_)
            have q_x73b : -1 ≤ x73b ∧ x73b ≤ 127 := by rw [e_x73b]; exact hT.2.2.1 _
            have hplb := px_lt hT (by omega) e_x73b.symm (by omega)
            refine g_iadd (pc := 76) hC dX10_figures_76 ?_
            refine g_bipush (pc := 77) hC (48) dX10_figures_77 (by decide) ?_
            refine g_isub (pc := 79) hC dX10_figures_79 ?_
            refine g_istore_n (pc := 80) hC [(1, _), (2, _), (0, _)] dX10_figures_80 rfl (by decide) rfl ?_
            refine g_aload_n (pc := 81) hC 2 dX10_figures_81 rfl rfl ?_
            refine g_dup (pc := 82) hC dX10_figures_82 rfl ?_
            refine g_get (pc := 83) hC 0 fl_X10_58 dX10_figures_83 rfl rfl ?_
            refine g_iconst (pc := 86) hC dX10_figures_86 ?_
            refine g_iadd (pc := 87) hC dX10_figures_87 ?_
            refine g_putI (pc := 88) hC 0 [cO _ _ [_, _, _, _, _, _, _, _, _, _, _, _, _, _, _, _, _, _, _, _, _, _, _, _, _], _] fl_X10_58 dX10_figures_88 rfl (Nat.le_of_ble_eq_true rfl) rfl ?_
            refine g_iinc (pc := 91) hC 1 [(2, _), (1, _), (0, _)] dX10_figures_91 rfl (by decide) rfl ?_
            refine g_lv hC [0, 1, 2] [(2, .int (iI 2)), (1, _), (0, _)] rfl ?_
            refine g_goto (pc := 94) hC 34 dX10_figures_94 (by decide) ?_
            refine g_iload_n (pc := 34) hC 0 dX10_figures_34 rfl rfl ?_
            refine g_iconst (pc := 35) hC dX10_figures_35 ?_
            refine g_icmp_ge (pc := 36) hC 97 dX10_figures_36 (by decide) (by omega) (by omega) (fun c36 => ?_) (fun c36 => by exfalso; omega)
            refine g_iload_n (pc := 97) hC 1 dX10_figures_97 rfl rfl ?_
            exact g_iret (pc := 98) hR dX10_figures_98 rfl ⟨by omega, by omega⟩ (Nat.le_of_ble_eq_true rfl) ⟨0, (p + 1) + 1, ((10 * (((10 * 0) + x73a) - 48)) + x73b) - 48, rfl, rfl, (by first | assumption | omega), (by first | assumption | omega), (by first | assumption | omega), (by unfold px_fig; (repeat' split) <;> (rw [Prod.mk.injEq, Prod.mk.injEq]; omega)), (by first | assumption | omega), (by first | assumption | omega), (by first | assumption | omega)⟩
    · refine g_iconst (pc := 22) hC dX10_figures_22 ?_
      refine g_goto (pc := 23) hC 27 dX10_figures_23 (by decide) ?_
      refine g_putZ (pc := 27) hC 0 [cO _ _ [_, _, _, _, _, _, _, _, _, _, _, _, _, _, _, _, _, _, _, _, _, _, _, _, _], _] fl_X10_64 dX10_figures_27 rfl (Nat.le_of_ble_eq_true rfl) (by omega) rfl ?_
      refine g_iconst (pc := 30) hC dX10_figures_30 ?_
      refine g_istore_n (pc := 31) hC [(1, _), (0, _)] dX10_figures_31 rfl (by decide) rfl ?_
      refine g_iconst (pc := 32) hC dX10_figures_32 ?_
      refine g_istore_n (pc := 33) hC [(2, _), (1, _), (0, _)] dX10_figures_33 rfl (by decide) rfl ?_
      refine g_iload_n (pc := 34) hC 0 dX10_figures_34 rfl rfl ?_
      refine g_iconst (pc := 35) hC dX10_figures_35 ?_
      refine g_icmp_ge (pc := 36) hC 97 dX10_figures_36 (by decide) (by omega) (by omega) (fun c36 => by exfalso; omega) (fun c36 => ?_)
      refine g_aload_n (pc := 39) hC 2 dX10_figures_39 rfl rfl ?_
      refine g_get (pc := 40) hC 0 fl_X10_64 dX10_figures_40 rfl rfl ?_
      refine g_if_ne (pc := 43) hC 97 dX10_figures_43 (by decide) (by omega) (fun c43 => ?_) (fun c43 => by exfalso; omega)
      refine g_iload_n (pc := 97) hC 1 dX10_figures_97 rfl rfl ?_
      exact g_iret (pc := 98) hR dX10_figures_98 rfl ⟨by omega, by omega⟩ (Nat.le_of_ble_eq_true rfl) ⟨1, p, 0, rfl, rfl, (by first | assumption | omega), (by first | assumption | omega), (by first | assumption | omega), (by unfold px_fig; (repeat' split) <;> (rw [Prod.mk.injEq, Prod.mk.injEq]; omega)), (by first | assumption | omega), (by first | assumption | omega), (by first | assumption | omega)⟩
set_option maxHeartbeats 4000000 in
set_option maxRecDepth 100000 in
theorem k_X10_among {K : gK} (m0 : Nat) (m1 : Nat) (w_thrown : Value) (w_image : Value) (w_frame : Value) (w_hasImage : Value) (w_by : Value) (w_truths : Value) (w_pulls : Value) (w_isKeeping : Value) (w_next : Value) (w_first : Value) (w_order : Value) (w_bestOrder : Value) (w_rooms : Value) (w_leastUnlike : Value) (w_bodies : Value) (w_ran : Value) (w_kind : Value) (w_number : Value) (w_tellsV : Value) (ac : Int) (p : Int) (e : Int) (w : Int) (o : Int) (s : Int → Int) (T : Int → Int) (k : Nat) (r_ac : rI ac) (r_p : rI p) (r_e : rI e) (r_w : rI w) (r_o : rI o) (r_s : ∀ j, rI (s j)) (hT : md_T T e s) (hp : 0 ≤ p ∧ p ≤ e) (hk : k < 7) : gMet K yX10_among cX10_among 3 (some .int) 4 0 0 [.ref m0, .ref (K.2.2.1 k)] [cO m0 10 [w_thrown, .ref m1, w_image, w_frame, w_hasImage, .int (iI ac), .int (iI p), .int (iI e), .int (iI w), .int (iI o), w_by, w_truths, w_pulls, w_isKeeping, w_next, w_first, w_order, w_bestOrder, w_rooms, w_leastUnlike, w_bodies, w_ran, w_kind, w_number, w_tellsV], cA K m1 922 s] (fun v9 w9 => ∃ (p2 : Int), v9 = some (.int (iI (px_am k (T p) (sl k).toNat))) ∧ w9 = [cO m0 10 [w_thrown, .ref m1, w_image, w_frame, w_hasImage, .int (iI ac), .int (iI p2), .int (iI e), .int (iI w), .int (iI o), w_by, w_truths, w_pulls, w_isKeeping, w_next, w_first, w_order, w_bestOrder, w_rooms, w_leastUnlike, w_bodies, w_ran, w_kind, w_number, w_tellsV], cA K m1 922 s] ∧ rI p2 ∧ (p2 = if px_am k (T p) (sl k).toNat = -1 then p else p + 1) ∧ (p ≤ p2 ∧ p2 ≤ e)) := by
  refine g_enter (by decide +kernel) (Nat.le_of_ble_eq_true rfl) (fun G hC hR => ?_)
  refine g_lv hC [0, 1] [(0, _), (1, _)] rfl ?_
  have hge := hT.1
  have hsl := sl_rng hk
  refine g_iconst (pc := 0) hC dX10_among_0 ?_
  refine g_istore_n (pc := 1) hC [(2, _), (0, _), (1, _)] dX10_among_1 rfl (by decide) rfl ?_
  have L2 : ∀ (n1 : Nat) (i : Int) (j : Nat), (rI i) → (i = (j : Int)) → (i ≤ sl k) → (px_am k (T p) j = -1) → sl k - i < (n1 : Int) → G 0 0 2 [(0, .ref m0), (1, .ref (K.2.2.1 k)), (2, .int (iI i))] [] [cO m0 10 [w_thrown, .ref m1, w_image, w_frame, w_hasImage, .int (iI ac), .int (iI p), .int (iI e), .int (iI w), .int (iI o), w_by, w_truths, w_pulls, w_isKeeping, w_next, w_first, w_order, w_bestOrder, w_rooms, w_leastUnlike, w_bodies, w_ran, w_kind, w_number, w_tellsV], cA K m1 922 s] := by
    intro n1
    induction n1 with
    | zero => intro i j r_i hi hj hx hm2; exfalso; omega
    | succ n1 ih2 =>
      intro i j r_i hi hj hx hm2
      refine g_iload_n (pc := 2) hC 2 dX10_among_2 rfl rfl ?_
      refine g_aload_n (pc := 3) hC 1 dX10_among_3 rfl rfl ?_
      refine g_fnVk (pc := 4) hC [] (k_J0_length_8abf5 _ (by first | assumption | omega)) cl_J0_length_8abf5 wm_X10_72 dX10_among_4 rfl (by first | assumption | omega) rfl rfl (by decide) (by decide) ⟨by omega, by omega⟩ (Nat.le_of_ble_eq_true rfl) rfl rfl ?_
      refine g_name hC (fun x2 e_x2 => ?_)
      refine g_icmp_ge (pc := 7) hC 40 dX10_among_7 (by decide) (by omega) (by omega) (fun c7 => ?_) (fun c7 => ?_)
      · have hj9 : (sl k).toNat = j := by omega
        refine g_iconst (pc := 40) hC dX10_among_40 ?_
        exact g_iret (pc := 41) hR dX10_among_41 rfl ⟨by omega, by omega⟩ (Nat.le_of_ble_eq_true rfl) ⟨p, ret_eq (by rw [hj9, hx]), rfl, (by first | assumption | omega), (by rw [hj9, hx, if_pos rfl]), (by first | assumption | omega)⟩
      · refine g_aload_n (pc := 10) hC 0 dX10_among_10 rfl rfl ?_
        refine g_fnV (pc := 11) (qr := 0) hC [0, 1] (k_X10_here _ _ _ _ _ _ _ _ _ _ _ _ _ _ _ _ _ _ _ _ _ _ _ _ _ _ _ _ (by first | assumption | omega) (by first | assumption | omega) (by first | assumption | omega) (by first | assumption | omega) (by first | assumption | omega) (by first | assumption | omega) (by first | assumption | omega) (by first | assumption | omega)) cl_X10_here wm_X10_68 dX10_among_11 rfl rfl rfl rfl rfl (by decide) (by decide) ⟨by omega, by omega⟩ (Nat.le_of_ble_eq_true rfl) rfl rfl ?_
        refine g_name hC (fun x11 e_x11 => ?_)
        have q_x11 : -1 ≤ x11 ∧ x11 ≤ 127 := by rw [e_x11]; exact hT.2.2.1 _
        refine g_aload_n (pc := 14) hC 1 dX10_among_14 rfl rfl ?_
        refine g_iload_n (pc := 15) hC 2 dX10_among_15 rfl rfl ?_
        refine g_fnVk (pc := 16) hC [] (k_J0_charAt_5068e _ _ (by first | assumption | omega) (by first | assumption | omega) (by first | assumption | omega)) cl_J0_charAt_5068e wm_X10_77 dX10_among_16 rfl (by first | assumption | omega) rfl rfl (by decide) (by decide) ⟨by omega, by omega⟩ (Nat.le_of_ble_eq_true rfl) rfl rfl ?_
        refine g_name hC (fun x16 e_x16 => ?_)
        have hsx := sx_rng (k := k) (i := i) hk (by omega)
        refine g_icmp_ne (pc := 19) hC 34 dX10_among_19 (by decide) (by omega) (by omega) (fun c19 => ?_) (fun c19 => ?_)
        · refine g_iinc (pc := 34) hC 2 [(2, _), (0, _), (1, _)] dX10_among_34 rfl (by decide) rfl ?_
          refine g_goto (pc := 37) hC 2 dX10_among_37 (by decide) ?_
          refine g_lv hC [1, 2, 0] [(0, _), (1, _), (2, _)] rfl ?_
          exact ih2 (i + 1) (j + 1) (by first | assumption | omega) (by first | assumption | omega) (by first | assumption | omega) (px_am_no hi hx (by omega)) (by omega)
        · have hhit := px_am_hit hi hx (show T p = sx k i by omega) (by omega)
          have hpl := px_lt hT hp.1 (show T p = sx k i by omega) hsx.1
          refine g_aload_n (pc := 22) hC 0 dX10_among_22 rfl rfl ?_
          refine g_dup (pc := 23) hC dX10_among_23 rfl ?_
          refine g_get (pc := 24) hC 0 fl_X10_58 dX10_among_24 rfl rfl ?_
          refine g_iconst (pc := 27) hC dX10_among_27 ?_
          refine g_iadd (pc := 28) hC dX10_among_28 ?_
          refine g_putI (pc := 29) hC 0 [cO _ _ [_, _, _, _, _, _, _, _, _, _, _, _, _, _, _, _, _, _, _, _, _, _, _, _, _], _] fl_X10_58 dX10_among_29 rfl (Nat.le_of_ble_eq_true rfl) rfl ?_
          refine g_iload_n (pc := 32) hC 2 dX10_among_32 rfl rfl ?_
          exact g_iret (pc := 33) hR dX10_among_33 rfl ⟨by omega, by omega⟩ (Nat.le_of_ble_eq_true rfl) ⟨p + 1, ret_eq hhit, rfl, (by first | assumption | omega), (by rw [← hhit, if_neg (by omega)]), (by first | assumption | omega)⟩
  refine g_lv hC [1, 2, 0] [(0, _), (1, _), (2, _)] rfl ?_
  exact L2 ((sl k - 0 : Int).toNat + 1) 0 0 (by first | assumption | omega) (by first | assumption | omega) (by first | assumption | omega) rfl (by omega)
set_option maxHeartbeats 4000000 in
set_option maxRecDepth 100000 in
theorem k_X10_emits {K : gK} (m0 : Nat) (m1 : Nat) (w_thrown : Value) (w_image : Value) (w_frame : Value) (w_hasImage : Value) (w_by : Value) (w_truths : Value) (w_pulls : Value) (w_isKeeping : Value) (w_next : Value) (w_first : Value) (w_order : Value) (w_bestOrder : Value) (w_rooms : Value) (w_leastUnlike : Value) (w_bodies : Value) (w_ran : Value) (w_kind : Value) (w_number : Value) (w_tellsV : Value) (x : Int) (ac : Int) (p : Int) (e : Int) (w : Int) (o : Int) (s : Int → Int) (T : Int → Int) (s0 : Int → Int) (l : List Int) (r_x : rI x) (r_ac : rI ac) (r_p : rI p) (r_e : rI e) (r_w : rI w) (r_o : rI o) (r_s : ∀ j, rI (s j)) (hT : md_T T e s) (hs : s = px_row s0 ac l) (hac : 0 ≤ ac ∧ ac ≤ 4) (hl : (l.length : Int) ≤ 110) : gMet K yX10_emits cX10_emits 2 none 0 0 0 [.ref m0, .int (iI x)] [cO m0 10 [w_thrown, .ref m1, w_image, w_frame, w_hasImage, .int (iI ac), .int (iI p), .int (iI e), .int (iI w), .int (iI o), w_by, w_truths, w_pulls, w_isKeeping, w_next, w_first, w_order, w_bestOrder, w_rooms, w_leastUnlike, w_bodies, w_ran, w_kind, w_number, w_tellsV], cA K m1 922 s] (fun v9 w9 => ∃ (s2 : Int → Int), ∃ (l2 : List Int), v9 = none ∧ w9 = [cO m0 10 [w_thrown, .ref m1, w_image, w_frame, w_hasImage, .int (iI ac), .int (iI p), .int (iI e), .int (iI w), .int (iI o), w_by, w_truths, w_pulls, w_isKeeping, w_next, w_first, w_order, w_bestOrder, w_rooms, w_leastUnlike, w_bodies, w_ran, w_kind, w_number, w_tellsV], cA K m1 922 s2] ∧ (∀ j, rI (s2 j)) ∧ (l2 = if w = 0 then l ++ [x] else l) ∧ (s2 = px_row s0 ac l2) ∧ (md_T T e s2) ∧ ((l2.length : Int) = (l.length : Int) + (if w = 0 then 1 else 0))) := by
  refine g_enter (by decide +kernel) (Nat.le_of_ble_eq_true rfl) (fun G hC hR => ?_)
  refine g_lv hC [0, 1] [(0, _), (1, _)] rfl ?_
  have hln : s (217 + ac) = (l.length : Int) := by rw [hs]; exact px_row_n hac
  refine g_aload_n (pc := 0) hC 0 dX10_emits_0 rfl rfl ?_
  refine g_get (pc := 1) hC 0 fl_X10_64 dX10_emits_1 rfl rfl ?_
  refine g_if_ne (pc := 4) hC 56 dX10_emits_4 (by decide) (by omega) (fun c4 => ?_) (fun c4 => ?_)
  · exact g_vret (pc := 56) hR dX10_emits_56 rfl ⟨by omega, by omega⟩ (Nat.le_of_ble_eq_true rfl) ⟨s, l, rfl, rfl, (by first | assumption | omega), (by rw [if_neg c4]), hs, hT, (by rw [if_neg c4]; omega)⟩
  · refine g_aload_n (pc := 7) hC 0 dX10_emits_7 rfl rfl ?_
    refine g_get (pc := 8) hC 0 fl_X10_9 dX10_emits_8 rfl rfl ?_
    refine g_sipush (pc := 11) hC (222) dX10_emits_11 (by decide) ?_
    refine g_sipush (pc := 14) hC (140) dX10_emits_14 (by decide) ?_
    refine g_aload_n (pc := 17) hC 0 dX10_emits_17 rfl rfl ?_
    refine g_get (pc := 18) hC 0 fl_X10_85 dX10_emits_18 rfl rfl ?_
    refine g_imul (pc := 21) hC dX10_emits_21 ?_
    refine g_iadd (pc := 22) hC dX10_emits_22 ?_
    refine g_aload_n (pc := 23) hC 0 dX10_emits_23 rfl rfl ?_
    refine g_get (pc := 24) hC 0 fl_X10_9 dX10_emits_24 rfl rfl ?_
    refine g_sipush (pc := 27) hC (217) dX10_emits_27 (by decide) ?_
    refine g_aload_n (pc := 30) hC 0 dX10_emits_30 rfl rfl ?_
    refine g_get (pc := 31) hC 0 fl_X10_85 dX10_emits_31 rfl rfl ?_
    refine g_iadd (pc := 34) hC dX10_emits_34 ?_
    refine g_iald (pc := 35) hC 1 dX10_emits_35 rfl (by omega) ?_
    have q1 := r_s (217 + ac)
    refine g_iadd (pc := 36) hC dX10_emits_36 ?_
    refine g_iload_n (pc := 37) hC 1 dX10_emits_37 rfl rfl ?_
    refine g_iast (pc := 38) hC 1 (fun f9 => [_, cA K _ _ f9]) dX10_emits_38 rfl (by omega) (fun _ => rfl) (fun f1 e_f1 => ?_)
    have r_f1 := rng_up e_f1 r_s (by omega)
    refine g_aload_n (pc := 39) hC 0 dX10_emits_39 rfl rfl ?_
    refine g_get (pc := 40) hC 0 fl_X10_9 dX10_emits_40 rfl rfl ?_
    refine g_sipush (pc := 43) hC (217) dX10_emits_43 (by decide) ?_
    refine g_aload_n (pc := 46) hC 0 dX10_emits_46 rfl rfl ?_
    refine g_get (pc := 47) hC 0 fl_X10_85 dX10_emits_47 rfl rfl ?_
    refine g_iadd (pc := 50) hC dX10_emits_50 ?_
    refine g_dup2 (pc := 51) hC dX10_emits_51 rfl rfl ?_
    refine g_iald (pc := 52) hC 1 dX10_emits_52 rfl (by omega) ?_
    have q2 := r_f1 (217 + ac)
    refine g_iconst (pc := 53) hC dX10_emits_53 ?_
    refine g_iadd (pc := 54) hC dX10_emits_54 ?_
    have h17 : f1 (217 + ac) = s (217 + ac) := by rw [e_f1]; exact upI_ne (by omega)
    refine g_iast (pc := 55) hC 1 (fun f9 => [_, cA K _ _ f9]) dX10_emits_55 rfl (by omega) (fun _ => rfl) (fun f2 e_f2 => ?_)
    have r_f2 := rng_up e_f2 r_f1 (by omega)
    have hrow := px_row_app hac hs rfl e_f1 e_f2
    exact g_vret (pc := 56) hR dX10_emits_56 rfl ⟨by omega, by omega⟩ (Nat.le_of_ble_eq_true rfl) ⟨f2, (l ++ [x]), rfl, rfl, (by first | assumption | omega), (by rw [if_pos (by omega)]), hrow, (px_T hac.1 hs hrow hT), (by rw [if_pos (by omega)]; simp only [List.length_append, List.length_cons, List.length_nil]; omega)⟩
set_option maxHeartbeats 4000000 in
set_option maxRecDepth 100000 in
theorem k_X10_must_W {K : gK} (m0 : Nat) (m1 : Nat) (w_thrown : Value) (w_image : Value) (w_frame : Value) (w_hasImage : Value) (w_by : Value) (w_truths : Value) (w_pulls : Value) (w_isKeeping : Value) (w_next : Value) (w_first : Value) (w_order : Value) (w_bestOrder : Value) (w_rooms : Value) (w_leastUnlike : Value) (w_bodies : Value) (w_ran : Value) (w_kind : Value) (w_number : Value) (w_tellsV : Value) (c : Int) (ac : Int) (p : Int) (e : Int) (o : Int) (s : Int → Int) (r_c : rI c) (r_ac : rI ac) (r_p : rI p) (r_e : rI e) (r_o : rI o) (r_s : ∀ j, rI (s j)) : gMet K yX10_must cX10_must 2 none 1 0 0 [.ref m0, .int (iI c)] [cO m0 10 [w_thrown, .ref m1, w_image, w_frame, w_hasImage, .int (iI ac), .int (iI p), .int (iI e), .int (iI 1), .int (iI o), w_by, w_truths, w_pulls, w_isKeeping, w_next, w_first, w_order, w_bestOrder, w_rooms, w_leastUnlike, w_bodies, w_ran, w_kind, w_number, w_tellsV], cA K m1 922 s] (fun v9 w9 => v9 = none ∧ w9 = [cO m0 10 [w_thrown, .ref m1, w_image, w_frame, w_hasImage, .int (iI ac), .int (iI p), .int (iI e), .int (iI 1), .int (iI o), w_by, w_truths, w_pulls, w_isKeeping, w_next, w_first, w_order, w_bestOrder, w_rooms, w_leastUnlike, w_bodies, w_ran, w_kind, w_number, w_tellsV], cA K m1 922 s]) := by
  refine g_enter (by decide +kernel) (Nat.le_of_ble_eq_true rfl) (fun G hC hR => ?_)
  refine g_lv hC [0, 1] [(0, _), (1, _)] rfl ?_
  refine g_aload_n (pc := 0) hC 0 dX10_must_0 rfl rfl ?_
  refine g_aload_n (pc := 1) hC 0 dX10_must_1 rfl rfl ?_
  refine g_get (pc := 2) hC 0 fl_X10_64 dX10_must_2 rfl rfl ?_
  refine g_if_ne (pc := 5) hC 16 dX10_must_5 (by decide) (by omega) (fun c5 => ?_) (fun c5 => by exfalso; omega)
  refine g_iconst (pc := 16) hC dX10_must_16 ?_
  refine g_goto (pc := 17) hC 21 dX10_must_17 (by decide) ?_
  refine g_putZ (pc := 21) hC 0 [cO _ _ [_, _, _, _, _, _, _, _, _, _, _, _, _, _, _, _, _, _, _, _, _, _, _, _, _], _] fl_X10_64 dX10_must_21 rfl (Nat.le_of_ble_eq_true rfl) (by omega) rfl ?_
  refine g_aload_n (pc := 24) hC 0 dX10_must_24 rfl rfl ?_
  refine g_dup (pc := 25) hC dX10_must_25 rfl ?_
  refine g_get (pc := 26) hC 0 fl_X10_58 dX10_must_26 rfl rfl ?_
  refine g_aload_n (pc := 29) hC 0 dX10_must_29 rfl rfl ?_
  refine g_get (pc := 30) hC 0 fl_X10_64 dX10_must_30 rfl rfl ?_
  refine g_if_eq (pc := 33) hC 40 dX10_must_33 (by decide) (by omega) (fun c33 => by exfalso; omega) (fun c33 => ?_)
  refine g_iconst (pc := 36) hC dX10_must_36 ?_
  refine g_goto (pc := 37) hC 41 dX10_must_37 (by decide) ?_
  refine g_iadd (pc := 41) hC dX10_must_41 ?_
  refine g_st hC [.int (iI p), .ref m0] (by rw [Int.add_zero]) ?_
  refine g_putI (pc := 42) hC 0 [cO _ _ [_, _, _, _, _, _, _, _, _, _, _, _, _, _, _, _, _, _, _, _, _, _, _, _, _], _] fl_X10_58 dX10_must_42 rfl (Nat.le_of_ble_eq_true rfl) rfl ?_
  exact g_vret (pc := 45) hR dX10_must_45 rfl ⟨by omega, by omega⟩ (Nat.le_of_ble_eq_true rfl) ⟨rfl, rfl⟩
set_option maxHeartbeats 4000000 in
set_option maxRecDepth 100000 in
theorem k_X10_emits_W {K : gK} (m0 : Nat) (m1 : Nat) (w_thrown : Value) (w_image : Value) (w_frame : Value) (w_hasImage : Value) (w_by : Value) (w_truths : Value) (w_pulls : Value) (w_isKeeping : Value) (w_next : Value) (w_first : Value) (w_order : Value) (w_bestOrder : Value) (w_rooms : Value) (w_leastUnlike : Value) (w_bodies : Value) (w_ran : Value) (w_kind : Value) (w_number : Value) (w_tellsV : Value) (x : Int) (ac : Int) (p : Int) (e : Int) (o : Int) (s : Int → Int) (r_x : rI x) (r_ac : rI ac) (r_p : rI p) (r_e : rI e) (r_o : rI o) (r_s : ∀ j, rI (s j)) : gMet K yX10_emits cX10_emits 2 none 0 0 0 [.ref m0, .int (iI x)] [cO m0 10 [w_thrown, .ref m1, w_image, w_frame, w_hasImage, .int (iI ac), .int (iI p), .int (iI e), .int (iI 1), .int (iI o), w_by, w_truths, w_pulls, w_isKeeping, w_next, w_first, w_order, w_bestOrder, w_rooms, w_leastUnlike, w_bodies, w_ran, w_kind, w_number, w_tellsV], cA K m1 922 s] (fun v9 w9 => v9 = none ∧ w9 = [cO m0 10 [w_thrown, .ref m1, w_image, w_frame, w_hasImage, .int (iI ac), .int (iI p), .int (iI e), .int (iI 1), .int (iI o), w_by, w_truths, w_pulls, w_isKeeping, w_next, w_first, w_order, w_bestOrder, w_rooms, w_leastUnlike, w_bodies, w_ran, w_kind, w_number, w_tellsV], cA K m1 922 s]) := by
  refine g_enter (by decide +kernel) (Nat.le_of_ble_eq_true rfl) (fun G hC hR => ?_)
  refine g_lv hC [0, 1] [(0, _), (1, _)] rfl ?_
  refine g_aload_n (pc := 0) hC 0 dX10_emits_0 rfl rfl ?_
  refine g_get (pc := 1) hC 0 fl_X10_64 dX10_emits_1 rfl rfl ?_
  refine g_if_ne (pc := 4) hC 56 dX10_emits_4 (by decide) (by omega) (fun c4 => ?_) (fun c4 => by exfalso; omega)
  exact g_vret (pc := 56) hR dX10_emits_56 rfl ⟨by omega, by omega⟩ (Nat.le_of_ble_eq_true rfl) ⟨rfl, rfl⟩
set_option maxHeartbeats 4000000 in
set_option maxRecDepth 100000 in
theorem k_X10_factor_W {K : gK} (m0 : Nat) (m1 : Nat) (w_thrown : Value) (w_image : Value) (w_frame : Value) (w_hasImage : Value) (w_by : Value) (w_truths : Value) (w_pulls : Value) (w_isKeeping : Value) (w_next : Value) (w_first : Value) (w_order : Value) (w_bestOrder : Value) (w_rooms : Value) (w_leastUnlike : Value) (w_bodies : Value) (w_ran : Value) (w_kind : Value) (w_number : Value) (w_tellsV : Value) (ac : Int) (p : Int) (e : Int) (o : Int) (s : Int → Int) (r_ac : rI ac) (r_p : rI p) (r_e : rI e) (r_o : rI o) (r_s : ∀ j, rI (s j)) : gMet K yX10_factor cX10_factor 5 none 0 0 0 [.ref m0] [cO m0 10 [w_thrown, .ref m1, w_image, w_frame, w_hasImage, .int (iI ac), .int (iI p), .int (iI e), .int (iI 1), .int (iI o), w_by, w_truths, w_pulls, w_isKeeping, w_next, w_first, w_order, w_bestOrder, w_rooms, w_leastUnlike, w_bodies, w_ran, w_kind, w_number, w_tellsV], cA K m1 922 s] (fun v9 w9 => v9 = none ∧ w9 = [cO m0 10 [w_thrown, .ref m1, w_image, w_frame, w_hasImage, .int (iI ac), .int (iI p), .int (iI e), .int (iI 1), .int (iI o), w_by, w_truths, w_pulls, w_isKeeping, w_next, w_first, w_order, w_bestOrder, w_rooms, w_leastUnlike, w_bodies, w_ran, w_kind, w_number, w_tellsV], cA K m1 922 s]) := by
  refine g_enter (by decide +kernel) (Nat.le_of_ble_eq_true rfl) (fun G hC hR => ?_)
  refine g_lv hC [0] [(0, _)] rfl ?_
  refine g_aload_n (pc := 0) hC 0 dX10_factor_0 rfl rfl ?_
  refine g_get (pc := 1) hC 0 fl_X10_64 dX10_factor_1 rfl rfl ?_
  refine g_if_eq (pc := 4) hC 8 dX10_factor_4 (by decide) (by omega) (fun c4 => by exfalso; omega) (fun c4 => ?_)
  exact g_vret (pc := 7) hR dX10_factor_7 rfl ⟨by omega, by omega⟩ (Nat.le_of_ble_eq_true rfl) ⟨rfl, rfl⟩
set_option maxHeartbeats 4000000 in
set_option maxRecDepth 100000 in
theorem k_X10_every_W {K : gK} (m0 : Nat) (m1 : Nat) (w_thrown : Value) (w_image : Value) (w_frame : Value) (w_hasImage : Value) (w_by : Value) (w_truths : Value) (w_pulls : Value) (w_isKeeping : Value) (w_next : Value) (w_first : Value) (w_order : Value) (w_bestOrder : Value) (w_rooms : Value) (w_leastUnlike : Value) (w_bodies : Value) (w_ran : Value) (w_kind : Value) (w_number : Value) (w_tellsV : Value) (ac : Int) (p : Int) (e : Int) (o : Int) (s : Int → Int) (r_ac : rI ac) (r_p : rI p) (r_e : rI e) (r_o : rI o) (r_s : ∀ j, rI (s j)) : gMet K yX10_every cX10_every 1 none 1 0 0 [.ref m0] [cO m0 10 [w_thrown, .ref m1, w_image, w_frame, w_hasImage, .int (iI ac), .int (iI p), .int (iI e), .int (iI 1), .int (iI o), w_by, w_truths, w_pulls, w_isKeeping, w_next, w_first, w_order, w_bestOrder, w_rooms, w_leastUnlike, w_bodies, w_ran, w_kind, w_number, w_tellsV], cA K m1 922 s] (fun v9 w9 => v9 = none ∧ w9 = [cO m0 10 [w_thrown, .ref m1, w_image, w_frame, w_hasImage, .int (iI ac), .int (iI p), .int (iI e), .int (iI 1), .int (iI o), w_by, w_truths, w_pulls, w_isKeeping, w_next, w_first, w_order, w_bestOrder, w_rooms, w_leastUnlike, w_bodies, w_ran, w_kind, w_number, w_tellsV], cA K m1 922 s]) := by
  refine g_enter (by decide +kernel) (Nat.le_of_ble_eq_true rfl) (fun G hC hR => ?_)
  refine g_lv hC [0] [(0, _)] rfl ?_
  refine g_aload_n (pc := 0) hC 0 dX10_every_0 rfl rfl ?_
  refine g_callV (pc := 1) (qr := 0) hC [0, 1] (k_X10_factor_W _ _ _ _ _ _ _ _ _ _ _ _ _ _ _ _ _ _ _ _ _ _ _ _ _ _ (by first | assumption | omega) (by first | assumption | omega) (by first | assumption | omega) (by first | assumption | omega) (by first | assumption | omega)) cl_X10_factor wm_X10_91 dX10_every_1 rfl rfl rfl rfl rfl (by decide) (by decide) (by omega) (Nat.le_of_ble_eq_true rfl) rfl (fun v9 w9 hq9 => ?_)
  obtain ⟨rfl, rfl⟩ := hq9
  refine g_ws hC [cO m0 10 [w_thrown, .ref m1, w_image, w_frame, w_hasImage, .int (iI ac), .int (iI p), .int (iI e), .int (iI 1), .int (iI o), w_by, w_truths, w_pulls, w_isKeeping, w_next, w_first, w_order, w_bestOrder, w_rooms, w_leastUnlike, w_bodies, w_ran, w_kind, w_number, w_tellsV], cA K m1 922 s] rfl ?_
  refine g_st hC [] rfl ?_
  refine g_aload_n (pc := 4) hC 0 dX10_every_4 rfl rfl ?_
  refine g_get (pc := 5) hC 0 fl_X10_64 dX10_every_5 rfl rfl ?_
  refine g_if_ne (pc := 8) hC 43 dX10_every_8 (by decide) (by omega) (fun c8 => ?_) (fun c8 => by exfalso; omega)
  exact g_vret (pc := 43) hR dX10_every_43 rfl ⟨by omega, by omega⟩ (Nat.le_of_ble_eq_true rfl) ⟨rfl, rfl⟩
set_option maxHeartbeats 4000000 in
set_option maxRecDepth 100000 in
theorem k_X10_some_W {K : gK} (m0 : Nat) (m1 : Nat) (w_thrown : Value) (w_image : Value) (w_frame : Value) (w_hasImage : Value) (w_by : Value) (w_truths : Value) (w_pulls : Value) (w_isKeeping : Value) (w_next : Value) (w_first : Value) (w_order : Value) (w_bestOrder : Value) (w_rooms : Value) (w_leastUnlike : Value) (w_bodies : Value) (w_ran : Value) (w_kind : Value) (w_number : Value) (w_tellsV : Value) (ac : Int) (p : Int) (e : Int) (o : Int) (s : Int → Int) (r_ac : rI ac) (r_p : rI p) (r_e : rI e) (r_o : rI o) (r_s : ∀ j, rI (s j)) : gMet K yX10_some cX10_some 1 none 2 0 0 [.ref m0] [cO m0 10 [w_thrown, .ref m1, w_image, w_frame, w_hasImage, .int (iI ac), .int (iI p), .int (iI e), .int (iI 1), .int (iI o), w_by, w_truths, w_pulls, w_isKeeping, w_next, w_first, w_order, w_bestOrder, w_rooms, w_leastUnlike, w_bodies, w_ran, w_kind, w_number, w_tellsV], cA K m1 922 s] (fun v9 w9 => v9 = none ∧ w9 = [cO m0 10 [w_thrown, .ref m1, w_image, w_frame, w_hasImage, .int (iI ac), .int (iI p), .int (iI e), .int (iI 1), .int (iI o), w_by, w_truths, w_pulls, w_isKeeping, w_next, w_first, w_order, w_bestOrder, w_rooms, w_leastUnlike, w_bodies, w_ran, w_kind, w_number, w_tellsV], cA K m1 922 s]) := by
  refine g_enter (by decide +kernel) (Nat.le_of_ble_eq_true rfl) (fun G hC hR => ?_)
  refine g_lv hC [0] [(0, _)] rfl ?_
  refine g_aload_n (pc := 0) hC 0 dX10_some_0 rfl rfl ?_
  refine g_callV (pc := 1) (qr := 0) hC [0, 1] (k_X10_every_W _ _ _ _ _ _ _ _ _ _ _ _ _ _ _ _ _ _ _ _ _ _ _ _ _ _ (by first | assumption | omega) (by first | assumption | omega) (by first | assumption | omega) (by first | assumption | omega) (by first | assumption | omega)) cl_X10_every wm_X10_111 dX10_some_1 rfl rfl rfl rfl rfl (by decide) (by decide) (by omega) (Nat.le_of_ble_eq_true rfl) rfl (fun v9 w9 hq9 => ?_)
  obtain ⟨rfl, rfl⟩ := hq9
  refine g_ws hC [cO m0 10 [w_thrown, .ref m1, w_image, w_frame, w_hasImage, .int (iI ac), .int (iI p), .int (iI e), .int (iI 1), .int (iI o), w_by, w_truths, w_pulls, w_isKeeping, w_next, w_first, w_order, w_bestOrder, w_rooms, w_leastUnlike, w_bodies, w_ran, w_kind, w_number, w_tellsV], cA K m1 922 s] rfl ?_
  refine g_st hC [] rfl ?_
  refine g_aload_n (pc := 4) hC 0 dX10_some_4 rfl rfl ?_
  refine g_get (pc := 5) hC 0 fl_X10_64 dX10_some_5 rfl rfl ?_
  refine g_if_ne (pc := 8) hC 43 dX10_some_8 (by decide) (by omega) (fun c8 => ?_) (fun c8 => by exfalso; omega)
  exact g_vret (pc := 43) hR dX10_some_43 rfl ⟨by omega, by omega⟩ (Nat.le_of_ble_eq_true rfl) ⟨rfl, rfl⟩
set_option maxHeartbeats 4000000 in
set_option maxRecDepth 100000 in
theorem k_X10_factor_0 {K : gK} (m0 : Nat) (m1 : Nat) (w_thrown : Value) (w_image : Value) (w_frame : Value) (w_hasImage : Value) (w_by : Value) (w_truths : Value) (w_pulls : Value) (w_isKeeping : Value) (w_next : Value) (w_first : Value) (w_order : Value) (w_bestOrder : Value) (w_rooms : Value) (w_leastUnlike : Value) (w_bodies : Value) (w_ran : Value) (w_kind : Value) (w_number : Value) (w_tellsV : Value) (ac : Int) (p : Int) (e : Int) (w : Int) (o : Int) (s : Int → Int) (T : Int → Int) (s0 : Int → Int) (l : List Int) (r_ac : rI ac) (r_p : rI p) (r_e : rI e) (r_w : rI w) (r_o : rI o) (r_s : ∀ j, rI (s j)) (hT : md_T T e s) (hs : s = px_row s0 ac l) (hac : 0 ≤ ac ∧ ac ≤ 4) (hp : 0 ≤ p ∧ p ≤ e) (hw : w = 0 ∨ w = 1) (ho : w = 0 → o = 5) (hl : (l.length : Int) ≤ p) : gMet K yX10_factor cX10_factor 5 none 6 0 0 [.ref m0] [cO m0 10 [w_thrown, .ref m1, w_image, w_frame, w_hasImage, .int (iI ac), .int (iI p), .int (iI e), .int (iI w), .int (iI o), w_by, w_truths, w_pulls, w_isKeeping, w_next, w_first, w_order, w_bestOrder, w_rooms, w_leastUnlike, w_bodies, w_ran, w_kind, w_number, w_tellsV], cA K m1 922 s] (fun v9 w9 => ∃ (w2 : Int), ∃ (p2 : Int), ∃ (o2 : Int), ∃ (s2 : Int → Int), ∃ (l2 : List Int), v9 = none ∧ w9 = [cO m0 10 [w_thrown, .ref m1, w_image, w_frame, w_hasImage, .int (iI ac), .int (iI p2), .int (iI e), .int (iI w2), .int (iI o2), w_by, w_truths, w_pulls, w_isKeeping, w_next, w_first, w_order, w_bestOrder, w_rooms, w_leastUnlike, w_bodies, w_ran, w_kind, w_number, w_tellsV], cA K m1 922 s2] ∧ rI w2 ∧ rI p2 ∧ rI o2 ∧ (∀ j, rI (s2 j)) ∧ ((w2, p2, l2) = px_fac T 0 (w, p, l)) ∧ (s2 = px_row s0 ac l2) ∧ (md_T T e s2) ∧ (o2 = o ∧ (w2 = 0 → o = 5 ∧ w = 0)) ∧ ((w2 = 0 ∨ w2 = 1) ∧ p ≤ p2 ∧ p2 ≤ e) ∧ ((l2.length : Int) + p ≤ (l.length : Int) + p2)) := by
  refine g_enter (by decide +kernel) (Nat.le_of_ble_eq_true rfl) (fun G hC hR => ?_)
  refine g_lv hC [0] [(0, _)] rfl ?_
  have hge := hT.1
  refine g_aload_n (pc := 0) hC 0 dX10_factor_0 rfl rfl ?_
  refine g_get (pc := 1) hC 0 fl_X10_64 dX10_factor_1 rfl rfl ?_
  refine g_if_eq (pc := 4) hC 8 dX10_factor_4 (by decide) (by omega) (fun c4 => ?_) (fun c4 => ?_)
  · have ho9 := ho c4
    refine g_aload_n (pc := 8) hC 0 dX10_factor_8 rfl rfl ?_
    refine g_fnV (pc := 9) (qr := 0) hC [0, 1] (k_X10_here _ _ _ _ _ _ _ _ _ _ _ _ _ _ _ _ _ _ _ _ _ _ _ _ _ _ _ _ (by first | assumption | omega) (by first | assumption | omega) (by first | assumption | omega) (by first | assumption | omega) (by first | assumption | omega) (by first | assumption | omega) (by first | assumption | omega) (by first | assumption | omega)) cl_X10_here wm_X10_68 dX10_factor_9 rfl rfl rfl rfl rfl (by decide) (by decide) ⟨by omega, by omega⟩ (Nat.le_of_ble_eq_true rfl) rfl rfl ?_
    refine g_name hC (fun x9 e_x9 => ?_)
    have q_x9 : -1 ≤ x9 ∧ x9 ≤ 127 := by rw [e_x9]; exact hT.2.2.1 _
    refine g_istore_n (pc := 12) hC [(1, _), (0, _)] dX10_factor_12 rfl (by decide) rfl ?_
    refine g_iload_n (pc := 13) hC 0 dX10_factor_13 rfl rfl ?_
    refine g_bipush (pc := 14) hC (33) dX10_factor_14 (by decide) ?_
    refine g_icmp_eq (pc := 16) hC 25 dX10_factor_16 (by decide) (by omega) (by omega) (fun c16 => ?_) (fun c16 => ?_)
    · have hlt := px_lt hT hp.1 (show T p = 33 by omega) (by omega)
      refine g_aload_n (pc := 25) hC 1 dX10_factor_25 rfl rfl ?_
      refine g_aload_n (pc := 26) hC 1 dX10_factor_26 rfl rfl ?_
      refine g_get (pc := 27) hC 0 fl_X10_88 dX10_factor_27 rfl rfl ?_
      refine g_iconst (pc := 30) hC dX10_factor_30 ?_
      refine g_icmp_ne (pc := 31) hC 38 dX10_factor_31 (by decide) (by omega) (by omega) (fun c31 => by exfalso; omega) (fun c31 => ?_)
      refine g_iconst (pc := 34) hC dX10_factor_34 ?_
      refine g_goto (pc := 35) hC 39 dX10_factor_35 (by decide) ?_
      refine g_putZ (pc := 39) hC 0 [cO _ _ [_, _, _, _, _, _, _, _, _, _, _, _, _, _, _, _, _, _, _, _, _, _, _, _, _], _] fl_X10_64 dX10_factor_39 rfl (Nat.le_of_ble_eq_true rfl) (by omega) rfl ?_
      refine g_aload_n (pc := 42) hC 1 dX10_factor_42 rfl rfl ?_
      refine g_dup (pc := 43) hC dX10_factor_43 rfl ?_
      refine g_get (pc := 44) hC 0 fl_X10_88 dX10_factor_44 rfl rfl ?_
      refine g_iconst (pc := 47) hC dX10_factor_47 ?_
      refine g_iadd (pc := 48) hC dX10_factor_48 ?_
      refine g_putI (pc := 49) hC 0 [cO _ _ [_, _, _, _, _, _, _, _, _, _, _, _, _, _, _, _, _, _, _, _, _, _, _, _, _], _] fl_X10_88 dX10_factor_49 rfl (Nat.le_of_ble_eq_true rfl) rfl ?_
      refine g_aload_n (pc := 52) hC 1 dX10_factor_52 rfl rfl ?_
      refine g_dup (pc := 53) hC dX10_factor_53 rfl ?_
      refine g_get (pc := 54) hC 0 fl_X10_58 dX10_factor_54 rfl rfl ?_
      refine g_aload_n (pc := 57) hC 1 dX10_factor_57 rfl rfl ?_
      refine g_get (pc := 58) hC 0 fl_X10_64 dX10_factor_58 rfl rfl ?_
      refine g_if_eq (pc := 61) hC 68 dX10_factor_61 (by decide) (by omega) (fun c61 => by exfalso; omega) (fun c61 => ?_)
      refine g_iconst (pc := 64) hC dX10_factor_64 ?_
      refine g_goto (pc := 65) hC 69 dX10_factor_65 (by decide) ?_
      refine g_iadd (pc := 69) hC dX10_factor_69 ?_
      refine g_st hC [.int (iI p), .ref m0] (by rw [Int.add_zero]) ?_
      refine g_putI (pc := 70) hC 0 [cO _ _ [_, _, _, _, _, _, _, _, _, _, _, _, _, _, _, _, _, _, _, _, _, _, _, _, _], _] fl_X10_58 dX10_factor_70 rfl (Nat.le_of_ble_eq_true rfl) rfl ?_
      refine g_iload_n (pc := 73) hC 0 dX10_factor_73 rfl rfl ?_
      refine g_bipush (pc := 74) hC (33) dX10_factor_74 (by decide) ?_
      refine g_icmp_ne (pc := 76) hC 91 dX10_factor_76 (by decide) (by omega) (by omega) (fun c76 => by exfalso; omega) (fun c76 => ?_)
      refine g_aload_n (pc := 79) hC 1 dX10_factor_79 rfl rfl ?_
      refine g_callV (pc := 80) (qr := 0) hC [0, 1] (k_X10_factor_W _ _ _ _ _ _ _ _ _ _ _ _ _ _ _ _ _ _ _ _ _ _ _ _ _ _ (by first | assumption | omega) (by first | assumption | omega) (by first | assumption | omega) (by first | assumption | omega) (by first | assumption | omega)) cl_X10_factor wm_X10_91 dX10_factor_80 rfl rfl rfl rfl rfl (by decide) (by decide) (by omega) (Nat.le_of_ble_eq_true rfl) rfl (fun v9 w9 hq9 => ?_)
      obtain ⟨rfl, rfl⟩ := hq9
      refine g_ws hC [cO m0 10 [w_thrown, .ref m1, w_image, w_frame, w_hasImage, .int (iI ac), .int (iI p), .int (iI e), .int (iI 1), .int (iI (o + 1)), w_by, w_truths, w_pulls, w_isKeeping, w_next, w_first, w_order, w_bestOrder, w_rooms, w_leastUnlike, w_bodies, w_ran, w_kind, w_number, w_tellsV], cA K m1 922 s] rfl ?_
      refine g_st hC [] rfl ?_
      refine g_aload_n (pc := 83) hC 1 dX10_factor_83 rfl rfl ?_
      refine g_iconst (pc := 84) hC dX10_factor_84 ?_
      refine g_callV (pc := 85) (qr := 0) hC [0, 1] (k_X10_emits_W _ _ _ _ _ _ _ _ _ _ _ _ _ _ _ _ _ _ _ _ _ _ _ _ _ _ _ (by first | assumption | omega) (by first | assumption | omega) (by first | assumption | omega) (by first | assumption | omega) (by first | assumption | omega) (by first | assumption | omega)) cl_X10_emits wm_X10_94 dX10_factor_85 rfl rfl rfl rfl rfl (by decide) (by decide) (by omega) (Nat.le_of_ble_eq_true rfl) rfl (fun v9 w9 hq9 => ?_)
      obtain ⟨rfl, rfl⟩ := hq9
      refine g_ws hC [cO m0 10 [w_thrown, .ref m1, w_image, w_frame, w_hasImage, .int (iI ac), .int (iI p), .int (iI e), .int (iI 1), .int (iI (o + 1)), w_by, w_truths, w_pulls, w_isKeeping, w_next, w_first, w_order, w_bestOrder, w_rooms, w_leastUnlike, w_bodies, w_ran, w_kind, w_number, w_tellsV], cA K m1 922 s] rfl ?_
      refine g_st hC [] rfl ?_
      refine g_goto (pc := 88) hC 101 dX10_factor_88 (by decide) ?_
      refine g_aload_n (pc := 101) hC 1 dX10_factor_101 rfl rfl ?_
      refine g_dup (pc := 102) hC dX10_factor_102 rfl ?_
      refine g_get (pc := 103) hC 0 fl_X10_88 dX10_factor_103 rfl rfl ?_
      refine g_iconst (pc := 106) hC dX10_factor_106 ?_
      refine g_isub (pc := 107) hC dX10_factor_107 ?_
      refine g_putI (pc := 108) hC 0 [cO _ _ [_, _, _, _, _, _, _, _, _, _, _, _, _, _, _, _, _, _, _, _, _, _, _, _, _], _] fl_X10_88 dX10_factor_108 rfl (Nat.le_of_ble_eq_true rfl) rfl ?_
      exact g_vret (pc := 111) hR dX10_factor_111 rfl ⟨by omega, by omega⟩ (Nat.le_of_ble_eq_true rfl) ⟨1, p, (o + 1) - 1, s, l, rfl, rfl, (by first | assumption | omega), (by first | assumption | omega), (by first | assumption | omega), (by first | assumption | omega), (px_fac_0 c4 (by omega)), hs, hT, (by first | assumption | omega), (by first | assumption | omega), (by first | assumption | omega)⟩
    · refine g_iload_n (pc := 19) hC 0 dX10_factor_19 rfl rfl ?_
      refine g_bipush (pc := 20) hC (40) dX10_factor_20 (by decide) ?_
      refine g_icmp_ne (pc := 22) hC 112 dX10_factor_22 (by decide) (by omega) (by omega) (fun c22 => ?_) (fun c22 => ?_)
      · refine g_aload_n (pc := 112) hC 1 dX10_factor_112 rfl rfl ?_
        refine g_ldcS_X10_100 (pc := 113) hC rfl dX10_factor_113 ?_
        refine g_callV (pc := 115) (qr := 0) hC [0, 1] (k_X10_among _ _ _ _ _ _ _ _ _ _ _ _ _ _ _ _ _ _ _ _ _ _ _ _ _ _ _ _ _ (by first | assumption | omega) (by first | assumption | omega) (by first | assumption | omega) (by first | assumption | omega) (by first | assumption | omega) (by first | assumption | omega) (by first | assumption | omega) (by first | assumption | omega) (by first | assumption | omega)) cl_X10_among wm_X10_102 dX10_factor_115 rfl rfl rfl rfl rfl (by decide) (by decide) (by omega) (Nat.le_of_ble_eq_true rfl) rfl (fun v9 w9 hq9 => ?_)
        obtain ⟨pa, rfl, rfl, r_pa, hp2_115, hb_115⟩ := hq9
        refine g_ws hC [cO m0 10 [w_thrown, .ref m1, w_image, w_frame, w_hasImage, .int (iI ac), .int (iI pa), .int (iI e), .int (iI w), .int (iI o), w_by, w_truths, w_pulls, w_isKeeping, w_next, w_first, w_order, w_bestOrder, w_rooms, w_leastUnlike, w_bodies, w_ran, w_kind, w_number, w_tellsV], cA K m1 922 s] rfl ?_
        refine g_st hC [.int (iI (px_am 5 (T p) (sl 5).toNat))] rfl ?_
        refine g_name hC (fun a1 e_a1 => ?_)
        have ham := px_am_rng 5 (T p) (sl 5).toNat
        have hs5 := sl_rng (k := 5) (by decide)
        refine g_istore_n (pc := 118) hC [(2, _), (1, _), (0, _)] dX10_factor_118 rfl (by decide) rfl ?_
        refine g_aload_n (pc := 119) hC 2 dX10_factor_119 rfl rfl ?_
        refine g_iload_n (pc := 120) hC 0 dX10_factor_120 rfl rfl ?_
        refine g_iconst (pc := 121) hC dX10_factor_121 ?_
        refine g_icmp_ne (pc := 122) hC 129 dX10_factor_122 (by decide) (by omega) (by omega) (fun c122 => ?_) (fun c122 => ?_)
        · refine g_iconst (pc := 129) hC dX10_factor_129 ?_
          refine g_putZ (pc := 130) hC 0 [cO _ _ [_, _, _, _, _, _, _, _, _, _, _, _, _, _, _, _, _, _, _, _, _, _, _, _, _], _] fl_X10_64 dX10_factor_130 rfl (Nat.le_of_ble_eq_true rfl) (by omega) rfl ?_
          refine g_aload_n (pc := 133) hC 2 dX10_factor_133 rfl rfl ?_
          refine g_get (pc := 134) hC 0 fl_X10_64 dX10_factor_134 rfl rfl ?_
          refine g_if_eq (pc := 137) hC 144 dX10_factor_137 (by decide) (by omega) (fun c137 => ?_) (fun c137 => by exfalso; omega)
          refine g_aload_n (pc := 144) hC 2 dX10_factor_144 rfl rfl ?_
          refine g_ldcS_X10_106 (pc := 145) hC rfl dX10_factor_145 ?_
          refine g_callV (pc := 147) (qr := 0) hC [0, 1] (k_X10_among _ _ _ _ _ _ _ _ _ _ _ _ _ _ _ _ _ _ _ _ _ _ _ _ _ _ _ _ _ (by first | assumption | omega) (by first | assumption | omega) (by first | assumption | omega) (by first | assumption | omega) (by first | assumption | omega) (by first | assumption | omega) (by first | assumption | omega) (by first | assumption | omega) (by first | assumption | omega)) cl_X10_among wm_X10_102 dX10_factor_147 rfl rfl rfl rfl rfl (by decide) (by decide) (by omega) (Nat.le_of_ble_eq_true rfl) rfl (fun v9 w9 hq9 => ?_)
          obtain ⟨pb, rfl, rfl, r_pb, hp2_147, hb_147⟩ := hq9
          refine g_ws hC [cO m0 10 [w_thrown, .ref m1, w_image, w_frame, w_hasImage, .int (iI ac), .int (iI pb), .int (iI e), .int (iI 0), .int (iI o), w_by, w_truths, w_pulls, w_isKeeping, w_next, w_first, w_order, w_bestOrder, w_rooms, w_leastUnlike, w_bodies, w_ran, w_kind, w_number, w_tellsV], cA K m1 922 s] rfl ?_
          refine g_st hC [.int (iI (px_am 6 (T pa) (sl 6).toNat))] rfl ?_
          refine g_name hC (fun b1 e_b1 => ?_)
          have hbm := px_am_rng 6 (T pa) (sl 6).toNat
          have hs6 := sl_rng (k := 6) (by decide)
          refine g_istore_n (pc := 150) hC [(3, _), (2, _), (1, _), (0, _)] dX10_factor_150 rfl (by decide) rfl ?_
          refine g_aload_n (pc := 151) hC 3 dX10_factor_151 rfl rfl ?_
          refine g_aload_n (pc := 152) hC 3 dX10_factor_152 rfl rfl ?_
          refine g_get (pc := 153) hC 0 fl_X10_64 dX10_factor_153 rfl rfl ?_
          refine g_if_ne (pc := 156) hC 164 dX10_factor_156 (by decide) (by omega) (fun c156 => by exfalso; omega) (fun c156 => ?_)
          refine g_iload_n (pc := 159) hC 0 dX10_factor_159 rfl rfl ?_
          refine g_iconst (pc := 160) hC dX10_factor_160 ?_
          refine g_icmp_ne (pc := 161) hC 168 dX10_factor_161 (by decide) (by omega) (by omega) (fun c161 => ?_) (fun c161 => ?_)
          · refine g_iconst (pc := 168) hC dX10_factor_168 ?_
            refine g_putZ (pc := 169) hC 0 [cO _ _ [_, _, _, _, _, _, _, _, _, _, _, _, _, _, _, _, _, _, _, _, _, _, _, _, _], _] fl_X10_64 dX10_factor_169 rfl (Nat.le_of_ble_eq_true rfl) (by omega) rfl ?_
            refine g_aload_n (pc := 172) hC 3 dX10_factor_172 rfl rfl ?_
            refine g_callV (pc := 173) (qr := 0) hC [0, 1] (k_X10_figures _ _ _ _ _ _ _ _ _ _ _ _ _ _ _ _ _ _ _ _ _ _ _ _ _ _ _ _ (by first | assumption | omega) (by first | assumption | omega) (by first | assumption | omega) (by first | assumption | omega) (by first | assumption | omega) (by first | assumption | omega) (by first | assumption | omega) (by first | assumption | omega) (by first | assumption | omega)) cl_X10_figures wm_X10_108 dX10_factor_173 rfl rfl rfl rfl rfl (by decide) (by decide) (by omega) (Nat.le_of_ble_eq_true rfl) rfl (fun v9 w9 hq9 => ?_)
            obtain ⟨w3, p3, v3, rfl, rfl, r_w3, r_p3, r_v3, hz_173, hb_173, hv_173, hw0_173⟩ := hq9
            refine g_ws hC [cO m0 10 [w_thrown, .ref m1, w_image, w_frame, w_hasImage, .int (iI ac), .int (iI p3), .int (iI e), .int (iI w3), .int (iI o), w_by, w_truths, w_pulls, w_isKeeping, w_next, w_first, w_order, w_bestOrder, w_rooms, w_leastUnlike, w_bodies, w_ran, w_kind, w_number, w_tellsV], cA K m1 922 s] rfl ?_
            refine g_st hC [.int (iI v3)] rfl ?_
            skip
            refine g_istore (pc := 176) hC [(4, _), (3, _), (2, _), (1, _), (0, _)] dX10_factor_176 (by decide) rfl ?_
            refine g_aload_n (pc := 178) hC 4 dX10_factor_178 rfl rfl ?_
            refine g_iload_n (pc := 179) hC 2 dX10_factor_179 rfl rfl ?_
            refine g_bipush (pc := 180) hC (8) dX10_factor_180 (by decide) ?_
            refine g_iload_n (pc := 182) hC 1 dX10_factor_182 rfl rfl ?_
            refine g_imul (pc := 183) hC dX10_factor_183 ?_
            refine g_iadd (pc := 184) hC dX10_factor_184 ?_
            refine g_bipush (pc := 185) hC (32) dX10_factor_185 (by decide) ?_
            refine g_iload (pc := 187) hC 0 dX10_factor_187 rfl ?_
            refine g_imul (pc := 189) hC dX10_factor_189 ?_
            refine g_iadd (pc := 190) hC dX10_factor_190 ?_
            refine g_callV (pc := 191) (qr := 0) hC [0, 1] (k_X10_emits _ _ _ _ _ _ _ _ _ _ _ _ _ _ _ _ _ _ _ _ _ _ _ _ _ _ _ _ _ _ _ (by first | assumption | omega) (by first | assumption | omega) (by first | assumption | omega) (by first | assumption | omega) (by first | assumption | omega) (by first | assumption | omega) (by first | assumption | omega) (by first | assumption | omega) (by first | assumption | omega) (by first | assumption | omega) (by first | assumption | omega)) cl_X10_emits wm_X10_94 dX10_factor_191 rfl rfl rfl rfl rfl (by decide) (by decide) (by omega) (Nat.le_of_ble_eq_true rfl) rfl (fun v9 w9 hq9 => ?_)
            obtain ⟨s4, l4, rfl, rfl, r_s4, h4_191, hs2_191, hT2_191, hl2_191⟩ := hq9
            refine g_ws hC [cO m0 10 [w_thrown, .ref m1, w_image, w_frame, w_hasImage, .int (iI ac), .int (iI p3), .int (iI e), .int (iI w3), .int (iI o), w_by, w_truths, w_pulls, w_isKeeping, w_next, w_first, w_order, w_bestOrder, w_rooms, w_leastUnlike, w_bodies, w_ran, w_kind, w_number, w_tellsV], cA K m1 922 s4] rfl ?_
            refine g_st hC [] rfl ?_
            exact g_vret (pc := 194) hR dX10_factor_194 rfl ⟨by omega, by omega⟩ (Nat.le_of_ble_eq_true rfl) ⟨w3, p3, o, s4, l4, rfl, rfl, (by first | assumption | omega), (by first | assumption | omega), (by first | assumption | omega), (by first | assumption | omega), (px_fac_t c4 (by omega) (by omega) (px_tst_C e_a1 c122 hp2_115 e_b1 c161 hp2_147 hz_173 h4_191)), hs2_191, hT2_191, (by first | assumption | omega), (by first | assumption | omega), (by first | assumption | omega)⟩
          · refine g_iconst (pc := 164) hC dX10_factor_164 ?_
            refine g_goto (pc := 165) hC 169 dX10_factor_165 (by decide) ?_
            refine g_putZ (pc := 169) hC 0 [cO _ _ [_, _, _, _, _, _, _, _, _, _, _, _, _, _, _, _, _, _, _, _, _, _, _, _, _], _] fl_X10_64 dX10_factor_169 rfl (Nat.le_of_ble_eq_true rfl) (by omega) rfl ?_
            refine g_aload_n (pc := 172) hC 3 dX10_factor_172 rfl rfl ?_
            refine g_callV (pc := 173) (qr := 0) hC [0, 1] (k_X10_figures _ _ _ _ _ _ _ _ _ _ _ _ _ _ _ _ _ _ _ _ _ _ _ _ _ _ _ _ (by first | assumption | omega) (by first | assumption | omega) (by first | assumption | omega) (by first | assumption | omega) (by first | assumption | omega) (by first | assumption | omega) (by first | assumption | omega) (by first | assumption | omega) (by first | assumption | omega)) cl_X10_figures wm_X10_108 dX10_factor_173 rfl rfl rfl rfl rfl (by decide) (by decide) (by omega) (Nat.le_of_ble_eq_true rfl) rfl (fun v9 w9 hq9 => ?_)
            obtain ⟨w3, p3, v3, rfl, rfl, r_w3, r_p3, r_v3, hz_173, hb_173, hv_173, hw0_173⟩ := hq9
            refine g_ws hC [cO m0 10 [w_thrown, .ref m1, w_image, w_frame, w_hasImage, .int (iI ac), .int (iI p3), .int (iI e), .int (iI w3), .int (iI o), w_by, w_truths, w_pulls, w_isKeeping, w_next, w_first, w_order, w_bestOrder, w_rooms, w_leastUnlike, w_bodies, w_ran, w_kind, w_number, w_tellsV], cA K m1 922 s] rfl ?_
            refine g_st hC [.int (iI v3)] rfl ?_
            have hfw := px_fig_w (by omega) hz_173
            refine g_istore (pc := 176) hC [(4, _), (3, _), (2, _), (1, _), (0, _)] dX10_factor_176 (by decide) rfl ?_
            refine g_aload_n (pc := 178) hC 4 dX10_factor_178 rfl rfl ?_
            refine g_iload_n (pc := 179) hC 2 dX10_factor_179 rfl rfl ?_
            refine g_bipush (pc := 180) hC (8) dX10_factor_180 (by decide) ?_
            refine g_iload_n (pc := 182) hC 1 dX10_factor_182 rfl rfl ?_
            refine g_imul (pc := 183) hC dX10_factor_183 ?_
            refine g_iadd (pc := 184) hC dX10_factor_184 ?_
            refine g_bipush (pc := 185) hC (32) dX10_factor_185 (by decide) ?_
            refine g_iload (pc := 187) hC 0 dX10_factor_187 rfl ?_
            refine g_imul (pc := 189) hC dX10_factor_189 ?_
            refine g_iadd (pc := 190) hC dX10_factor_190 ?_
            refine g_callV (pc := 191) (qr := 0) hC [0, 1] (k_X10_emits _ _ _ _ _ _ _ _ _ _ _ _ _ _ _ _ _ _ _ _ _ _ _ _ _ _ _ _ _ _ _ (by first | assumption | omega) (by first | assumption | omega) (by first | assumption | omega) (by first | assumption | omega) (by first | assumption | omega) (by first | assumption | omega) (by first | assumption | omega) (by first | assumption | omega) (by first | assumption | omega) (by first | assumption | omega) (by first | assumption | omega)) cl_X10_emits wm_X10_94 dX10_factor_191 rfl rfl rfl rfl rfl (by decide) (by decide) (by omega) (Nat.le_of_ble_eq_true rfl) rfl (fun v9 w9 hq9 => ?_)
            obtain ⟨s4, l4, rfl, rfl, r_s4, h4_191, hs2_191, hT2_191, hl2_191⟩ := hq9
            refine g_ws hC [cO m0 10 [w_thrown, .ref m1, w_image, w_frame, w_hasImage, .int (iI ac), .int (iI p3), .int (iI e), .int (iI w3), .int (iI o), w_by, w_truths, w_pulls, w_isKeeping, w_next, w_first, w_order, w_bestOrder, w_rooms, w_leastUnlike, w_bodies, w_ran, w_kind, w_number, w_tellsV], cA K m1 922 s4] rfl ?_
            refine g_st hC [] rfl ?_
            exact g_vret (pc := 194) hR dX10_factor_194 rfl ⟨by omega, by omega⟩ (Nat.le_of_ble_eq_true rfl) ⟨w3, p3, o, s4, l4, rfl, rfl, (by first | assumption | omega), (by first | assumption | omega), (by first | assumption | omega), (by first | assumption | omega), (px_fac_t c4 (by omega) (by omega) (px_tst_B e_a1 c122 hp2_115 e_b1 c161 hp2_147 hz_173 h4_191)), hs2_191, hT2_191, (by first | assumption | omega), (by first | assumption | omega), (by first | assumption | omega)⟩
        · refine g_iconst (pc := 125) hC dX10_factor_125 ?_
          refine g_goto (pc := 126) hC 130 dX10_factor_126 (by decide) ?_
          refine g_putZ (pc := 130) hC 0 [cO _ _ [_, _, _, _, _, _, _, _, _, _, _, _, _, _, _, _, _, _, _, _, _, _, _, _, _], _] fl_X10_64 dX10_factor_130 rfl (Nat.le_of_ble_eq_true rfl) (by omega) rfl ?_
          refine g_aload_n (pc := 133) hC 2 dX10_factor_133 rfl rfl ?_
          refine g_get (pc := 134) hC 0 fl_X10_64 dX10_factor_134 rfl rfl ?_
          refine g_if_eq (pc := 137) hC 144 dX10_factor_137 (by decide) (by omega) (fun c137 => by exfalso; omega) (fun c137 => ?_)
          refine g_iconst (pc := 140) hC dX10_factor_140 ?_
          refine g_goto (pc := 141) hC 150 dX10_factor_141 (by decide) ?_
          refine g_istore_n (pc := 150) hC [(3, _), (2, _), (1, _), (0, _)] dX10_factor_150 rfl (by decide) rfl ?_
          refine g_aload_n (pc := 151) hC 3 dX10_factor_151 rfl rfl ?_
          refine g_aload_n (pc := 152) hC 3 dX10_factor_152 rfl rfl ?_
          refine g_get (pc := 153) hC 0 fl_X10_64 dX10_factor_153 rfl rfl ?_
          refine g_if_ne (pc := 156) hC 164 dX10_factor_156 (by decide) (by omega) (fun c156 => ?_) (fun c156 => by exfalso; omega)
          refine g_iconst (pc := 164) hC dX10_factor_164 ?_
          refine g_goto (pc := 165) hC 169 dX10_factor_165 (by decide) ?_
          refine g_putZ (pc := 169) hC 0 [cO _ _ [_, _, _, _, _, _, _, _, _, _, _, _, _, _, _, _, _, _, _, _, _, _, _, _, _], _] fl_X10_64 dX10_factor_169 rfl (Nat.le_of_ble_eq_true rfl) (by omega) rfl ?_
          refine g_aload_n (pc := 172) hC 3 dX10_factor_172 rfl rfl ?_
          refine g_callV (pc := 173) (qr := 0) hC [0, 1] (k_X10_figures _ _ _ _ _ _ _ _ _ _ _ _ _ _ _ _ _ _ _ _ _ _ _ _ _ _ _ _ (by first | assumption | omega) (by first | assumption | omega) (by first | assumption | omega) (by first | assumption | omega) (by first | assumption | omega) (by first | assumption | omega) (by first | assumption | omega) (by first | assumption | omega) (by first | assumption | omega)) cl_X10_figures wm_X10_108 dX10_factor_173 rfl rfl rfl rfl rfl (by decide) (by decide) (by omega) (Nat.le_of_ble_eq_true rfl) rfl (fun v9 w9 hq9 => ?_)
          obtain ⟨w3, p3, v3, rfl, rfl, r_w3, r_p3, r_v3, hz_173, hb_173, hv_173, hw0_173⟩ := hq9
          refine g_ws hC [cO m0 10 [w_thrown, .ref m1, w_image, w_frame, w_hasImage, .int (iI ac), .int (iI p3), .int (iI e), .int (iI w3), .int (iI o), w_by, w_truths, w_pulls, w_isKeeping, w_next, w_first, w_order, w_bestOrder, w_rooms, w_leastUnlike, w_bodies, w_ran, w_kind, w_number, w_tellsV], cA K m1 922 s] rfl ?_
          refine g_st hC [.int (iI v3)] rfl ?_
          have hfw := px_fig_w (by omega) hz_173
          refine g_istore (pc := 176) hC [(4, _), (3, _), (2, _), (1, _), (0, _)] dX10_factor_176 (by decide) rfl ?_
          refine g_aload_n (pc := 178) hC 4 dX10_factor_178 rfl rfl ?_
          refine g_iload_n (pc := 179) hC 2 dX10_factor_179 rfl rfl ?_
          refine g_bipush (pc := 180) hC (8) dX10_factor_180 (by decide) ?_
          refine g_iload_n (pc := 182) hC 1 dX10_factor_182 rfl rfl ?_
          refine g_imul (pc := 183) hC dX10_factor_183 ?_
          refine g_iadd (pc := 184) hC dX10_factor_184 ?_
          refine g_bipush (pc := 185) hC (32) dX10_factor_185 (by decide) ?_
          refine g_iload (pc := 187) hC 0 dX10_factor_187 rfl ?_
          refine g_imul (pc := 189) hC dX10_factor_189 ?_
          refine g_iadd (pc := 190) hC dX10_factor_190 ?_
          refine g_callV (pc := 191) (qr := 0) hC [0, 1] (k_X10_emits _ _ _ _ _ _ _ _ _ _ _ _ _ _ _ _ _ _ _ _ _ _ _ _ _ _ _ _ _ _ _ (by first | assumption | omega) (by first | assumption | omega) (by first | assumption | omega) (by first | assumption | omega) (by first | assumption | omega) (by first | assumption | omega) (by first | assumption | omega) (by first | assumption | omega) (by first | assumption | omega) (by first | assumption | omega) (by first | assumption | omega)) cl_X10_emits wm_X10_94 dX10_factor_191 rfl rfl rfl rfl rfl (by decide) (by decide) (by omega) (Nat.le_of_ble_eq_true rfl) rfl (fun v9 w9 hq9 => ?_)
          obtain ⟨s4, l4, rfl, rfl, r_s4, h4_191, hs2_191, hT2_191, hl2_191⟩ := hq9
          refine g_ws hC [cO m0 10 [w_thrown, .ref m1, w_image, w_frame, w_hasImage, .int (iI ac), .int (iI p3), .int (iI e), .int (iI w3), .int (iI o), w_by, w_truths, w_pulls, w_isKeeping, w_next, w_first, w_order, w_bestOrder, w_rooms, w_leastUnlike, w_bodies, w_ran, w_kind, w_number, w_tellsV], cA K m1 922 s4] rfl ?_
          refine g_st hC [] rfl ?_
          exact g_vret (pc := 194) hR dX10_factor_194 rfl ⟨by omega, by omega⟩ (Nat.le_of_ble_eq_true rfl) ⟨w3, p3, o, s4, l4, rfl, rfl, (by first | assumption | omega), (by first | assumption | omega), (by first | assumption | omega), (by first | assumption | omega), (px_fac_t c4 (by omega) (by omega) (px_tst_A e_a1 c122 hp2_115 hz_173 h4_191)), hs2_191, hT2_191, (by first | assumption | omega), (by first | assumption | omega), (by first | assumption | omega)⟩
      · have hlt := px_lt hT hp.1 (show T p = 40 by omega) (by omega)
        refine g_aload_n (pc := 25) hC 1 dX10_factor_25 rfl rfl ?_
        refine g_aload_n (pc := 26) hC 1 dX10_factor_26 rfl rfl ?_
        refine g_get (pc := 27) hC 0 fl_X10_88 dX10_factor_27 rfl rfl ?_
        refine g_iconst (pc := 30) hC dX10_factor_30 ?_
        refine g_icmp_ne (pc := 31) hC 38 dX10_factor_31 (by decide) (by omega) (by omega) (fun c31 => by exfalso; omega) (fun c31 => ?_)
        refine g_iconst (pc := 34) hC dX10_factor_34 ?_
        refine g_goto (pc := 35) hC 39 dX10_factor_35 (by decide) ?_
        refine g_putZ (pc := 39) hC 0 [cO _ _ [_, _, _, _, _, _, _, _, _, _, _, _, _, _, _, _, _, _, _, _, _, _, _, _, _], _] fl_X10_64 dX10_factor_39 rfl (Nat.le_of_ble_eq_true rfl) (by omega) rfl ?_
        refine g_aload_n (pc := 42) hC 1 dX10_factor_42 rfl rfl ?_
        refine g_dup (pc := 43) hC dX10_factor_43 rfl ?_
        refine g_get (pc := 44) hC 0 fl_X10_88 dX10_factor_44 rfl rfl ?_
        refine g_iconst (pc := 47) hC dX10_factor_47 ?_
        refine g_iadd (pc := 48) hC dX10_factor_48 ?_
        refine g_putI (pc := 49) hC 0 [cO _ _ [_, _, _, _, _, _, _, _, _, _, _, _, _, _, _, _, _, _, _, _, _, _, _, _, _], _] fl_X10_88 dX10_factor_49 rfl (Nat.le_of_ble_eq_true rfl) rfl ?_
        refine g_aload_n (pc := 52) hC 1 dX10_factor_52 rfl rfl ?_
        refine g_dup (pc := 53) hC dX10_factor_53 rfl ?_
        refine g_get (pc := 54) hC 0 fl_X10_58 dX10_factor_54 rfl rfl ?_
        refine g_aload_n (pc := 57) hC 1 dX10_factor_57 rfl rfl ?_
        refine g_get (pc := 58) hC 0 fl_X10_64 dX10_factor_58 rfl rfl ?_
        refine g_if_eq (pc := 61) hC 68 dX10_factor_61 (by decide) (by omega) (fun c61 => by exfalso; omega) (fun c61 => ?_)
        refine g_iconst (pc := 64) hC dX10_factor_64 ?_
        refine g_goto (pc := 65) hC 69 dX10_factor_65 (by decide) ?_
        refine g_iadd (pc := 69) hC dX10_factor_69 ?_
        refine g_st hC [.int (iI p), .ref m0] (by rw [Int.add_zero]) ?_
        refine g_putI (pc := 70) hC 0 [cO _ _ [_, _, _, _, _, _, _, _, _, _, _, _, _, _, _, _, _, _, _, _, _, _, _, _, _], _] fl_X10_58 dX10_factor_70 rfl (Nat.le_of_ble_eq_true rfl) rfl ?_
        refine g_iload_n (pc := 73) hC 0 dX10_factor_73 rfl rfl ?_
        refine g_bipush (pc := 74) hC (33) dX10_factor_74 (by decide) ?_
        refine g_icmp_ne (pc := 76) hC 91 dX10_factor_76 (by decide) (by omega) (by omega) (fun c76 => ?_) (fun c76 => by exfalso; omega)
        refine g_aload_n (pc := 91) hC 1 dX10_factor_91 rfl rfl ?_
        refine g_callV (pc := 92) (qr := 0) hC [0, 1] (k_X10_some_W _ _ _ _ _ _ _ _ _ _ _ _ _ _ _ _ _ _ _ _ _ _ _ _ _ _ (by first | assumption | omega) (by first | assumption | omega) (by first | assumption | omega) (by first | assumption | omega) (by first | assumption | omega)) cl_X10_some wm_X10_97 dX10_factor_92 rfl rfl rfl rfl rfl (by decide) (by decide) (by omega) (Nat.le_of_ble_eq_true rfl) rfl (fun v9 w9 hq9 => ?_)
        obtain ⟨rfl, rfl⟩ := hq9
        refine g_ws hC [cO m0 10 [w_thrown, .ref m1, w_image, w_frame, w_hasImage, .int (iI ac), .int (iI p), .int (iI e), .int (iI 1), .int (iI (o + 1)), w_by, w_truths, w_pulls, w_isKeeping, w_next, w_first, w_order, w_bestOrder, w_rooms, w_leastUnlike, w_bodies, w_ran, w_kind, w_number, w_tellsV], cA K m1 922 s] rfl ?_
        refine g_st hC [] rfl ?_
        refine g_aload_n (pc := 95) hC 1 dX10_factor_95 rfl rfl ?_
        refine g_bipush (pc := 96) hC (41) dX10_factor_96 (by decide) ?_
        refine g_callV (pc := 98) (qr := 0) hC [0, 1] (k_X10_must_W _ _ _ _ _ _ _ _ _ _ _ _ _ _ _ _ _ _ _ _ _ _ _ _ _ _ _ (by first | assumption | omega) (by first | assumption | omega) (by first | assumption | omega) (by first | assumption | omega) (by first | assumption | omega) (by first | assumption | omega)) cl_X10_must wm_X10_81 dX10_factor_98 rfl rfl rfl rfl rfl (by decide) (by decide) (by omega) (Nat.le_of_ble_eq_true rfl) rfl (fun v9 w9 hq9 => ?_)
        obtain ⟨rfl, rfl⟩ := hq9
        refine g_ws hC [cO m0 10 [w_thrown, .ref m1, w_image, w_frame, w_hasImage, .int (iI ac), .int (iI p), .int (iI e), .int (iI 1), .int (iI (o + 1)), w_by, w_truths, w_pulls, w_isKeeping, w_next, w_first, w_order, w_bestOrder, w_rooms, w_leastUnlike, w_bodies, w_ran, w_kind, w_number, w_tellsV], cA K m1 922 s] rfl ?_
        refine g_st hC [] rfl ?_
        refine g_aload_n (pc := 101) hC 1 dX10_factor_101 rfl rfl ?_
        refine g_dup (pc := 102) hC dX10_factor_102 rfl ?_
        refine g_get (pc := 103) hC 0 fl_X10_88 dX10_factor_103 rfl rfl ?_
        refine g_iconst (pc := 106) hC dX10_factor_106 ?_
        refine g_isub (pc := 107) hC dX10_factor_107 ?_
        refine g_putI (pc := 108) hC 0 [cO _ _ [_, _, _, _, _, _, _, _, _, _, _, _, _, _, _, _, _, _, _, _, _, _, _, _, _], _] fl_X10_88 dX10_factor_108 rfl (Nat.le_of_ble_eq_true rfl) rfl ?_
        exact g_vret (pc := 111) hR dX10_factor_111 rfl ⟨by omega, by omega⟩ (Nat.le_of_ble_eq_true rfl) ⟨1, p, (o + 1) - 1, s, l, rfl, rfl, (by first | assumption | omega), (by first | assumption | omega), (by first | assumption | omega), (by first | assumption | omega), (px_fac_0 c4 (by omega)), hs, hT, (by first | assumption | omega), (by first | assumption | omega), (by first | assumption | omega)⟩
  · exact g_vret (pc := 7) hR dX10_factor_7 rfl ⟨by omega, by omega⟩ (Nat.le_of_ble_eq_true rfl) ⟨w, p, o, s, l, rfl, rfl, (by first | assumption | omega), (by first | assumption | omega), (by first | assumption | omega), (by first | assumption | omega), (px_fac_w c4).symm, hs, hT, (by first | assumption | omega), (by first | assumption | omega), (by first | assumption | omega)⟩
set_option maxHeartbeats 4000000 in
set_option maxRecDepth 100000 in
theorem k_X10_every_0 {K : gK} (m0 : Nat) (m1 : Nat) (w_thrown : Value) (w_image : Value) (w_frame : Value) (w_hasImage : Value) (w_by : Value) (w_truths : Value) (w_pulls : Value) (w_isKeeping : Value) (w_next : Value) (w_first : Value) (w_order : Value) (w_bestOrder : Value) (w_rooms : Value) (w_leastUnlike : Value) (w_bodies : Value) (w_ran : Value) (w_kind : Value) (w_number : Value) (w_tellsV : Value) (ac : Int) (p : Int) (e : Int) (w : Int) (o : Int) (s : Int → Int) (T : Int → Int) (s0 : Int → Int) (l : List Int) (r_ac : rI ac) (r_p : rI p) (r_e : rI e) (r_w : rI w) (r_o : rI o) (r_s : ∀ j, rI (s j)) (hT : md_T T e s) (hs : s = px_row s0 ac l) (hac : 0 ≤ ac ∧ ac ≤ 4) (hp : 0 ≤ p ∧ p ≤ e) (hw : w = 0 ∨ w = 1) (ho : w = 0 → o = 5) (hl : (l.length : Int) ≤ p) : gMet K yX10_every cX10_every 1 none 7 0 0 [.ref m0] [cO m0 10 [w_thrown, .ref m1, w_image, w_frame, w_hasImage, .int (iI ac), .int (iI p), .int (iI e), .int (iI w), .int (iI o), w_by, w_truths, w_pulls, w_isKeeping, w_next, w_first, w_order, w_bestOrder, w_rooms, w_leastUnlike, w_bodies, w_ran, w_kind, w_number, w_tellsV], cA K m1 922 s] (fun v9 w9 => ∃ (w2 : Int), ∃ (p2 : Int), ∃ (o2 : Int), ∃ (s2 : Int → Int), ∃ (l2 : List Int), v9 = none ∧ w9 = [cO m0 10 [w_thrown, .ref m1, w_image, w_frame, w_hasImage, .int (iI ac), .int (iI p2), .int (iI e), .int (iI w2), .int (iI o2), w_by, w_truths, w_pulls, w_isKeeping, w_next, w_first, w_order, w_bestOrder, w_rooms, w_leastUnlike, w_bodies, w_ran, w_kind, w_number, w_tellsV], cA K m1 922 s2] ∧ rI w2 ∧ rI p2 ∧ rI o2 ∧ (∀ j, rI (s2 j)) ∧ ((w2, p2, l2) = px_every T (px_fac T 0) (w, p, l)) ∧ (s2 = px_row s0 ac l2) ∧ (md_T T e s2) ∧ (o2 = o ∧ (w2 = 0 → o = 5 ∧ w = 0)) ∧ ((w2 = 0 ∨ w2 = 1) ∧ p ≤ p2 ∧ p2 ≤ e) ∧ ((l2.length : Int) + p ≤ (l.length : Int) + p2)) := by
  refine g_enter (by decide +kernel) (Nat.le_of_ble_eq_true rfl) (fun G hC hR => ?_)
  refine g_lv hC [0] [(0, _)] rfl ?_
  have hge := hT.1
  refine g_aload_n (pc := 0) hC 0 dX10_every_0 rfl rfl ?_
  refine g_callV (pc := 1) (qr := 0) hC [0, 1] (k_X10_factor_0 _ _ _ _ _ _ _ _ _ _ _ _ _ _ _ _ _ _ _ _ _ _ _ _ _ _ _ _ _ _ (by first | assumption | omega) (by first | assumption | omega) (by first | assumption | omega) (by first | assumption | omega) (by first | assumption | omega) (by first | assumption | omega) (by first | assumption | omega) (by first | assumption | omega) (by first | assumption | omega) (by first | assumption | omega) (by first | assumption | omega) (by first | assumption | omega) (by first | assumption | omega)) cl_X10_factor wm_X10_91 dX10_every_1 rfl rfl rfl rfl rfl (by decide) (by decide) (by omega) (Nat.le_of_ble_eq_true rfl) rfl (fun v9 w9 hq9 => ?_)
  obtain ⟨w3, p3, o3, s3, l3, rfl, rfl, r_w3, r_p3, r_o3, r_s3, hz_1, hs2_1, hT2_1, ho2_1, hb_1, hl2_1⟩ := hq9
  refine g_ws hC [cO m0 10 [w_thrown, .ref m1, w_image, w_frame, w_hasImage, .int (iI ac), .int (iI p3), .int (iI e), .int (iI w3), .int (iI o3), w_by, w_truths, w_pulls, w_isKeeping, w_next, w_first, w_order, w_bestOrder, w_rooms, w_leastUnlike, w_bodies, w_ran, w_kind, w_number, w_tellsV], cA K m1 922 s3] rfl ?_
  refine g_st hC [] rfl ?_
  have L4 : ∀ (n1 : Nat) (w1 : Int) (p1 : Int) (o1 : Int) (f1 : Int → Int) (l1 : List Int) (f : Nat), (rI w1) → (rI p1) → (rI o1) → (∀ j, rI (f1 j)) → (f1 = px_row s0 ac l1) → (md_T T e f1) → (px_ev T (px_fac T 0) f (w1, p1, l1) = px_every T (px_fac T 0) (w, p, l)) → ((w1 = 0 ∨ w1 = 1) ∧ p ≤ p1 ∧ p1 ≤ e) → (o1 = o ∧ (w1 = 0 → o = 5 ∧ w = 0)) → ((l1.length : Int) + p ≤ (l.length : Int) + p1) → (e - p1 ≤ (f : Int)) → e - p1 < (n1 : Int) → G 0 0 4 [(0, .ref m0)] [] [cO m0 10 [w_thrown, .ref m1, w_image, w_frame, w_hasImage, .int (iI ac), .int (iI p1), .int (iI e), .int (iI w1), .int (iI o1), w_by, w_truths, w_pulls, w_isKeeping, w_next, w_first, w_order, w_bestOrder, w_rooms, w_leastUnlike, w_bodies, w_ran, w_kind, w_number, w_tellsV], cA K m1 922 f1] := by
    intro n1
    induction n1 with
    | zero => intro w1 p1 o1 f1 l1 f r_w1 r_p1 r_o1 r_f1 hs1 hT1 hz hb1 ho1 hl1 hf hm4; exfalso; omega
    | succ n1 ih4 =>
      intro w1 p1 o1 f1 l1 f r_w1 r_p1 r_o1 r_f1 hs1 hT1 hz hb1 ho1 hl1 hf hm4
      refine g_aload_n (pc := 4) hC 0 dX10_every_4 rfl rfl ?_
      refine g_get (pc := 5) hC 0 fl_X10_64 dX10_every_5 rfl rfl ?_
      refine g_if_ne (pc := 8) hC 43 dX10_every_8 (by decide) (by omega) (fun c8 => ?_) (fun c8 => ?_)
      · exact g_vret (pc := 43) hR dX10_every_43 rfl ⟨by omega, by omega⟩ (Nat.le_of_ble_eq_true rfl) ⟨w1, p1, o1, f1, l1, rfl, rfl, (by first | assumption | omega), (by first | assumption | omega), (by first | assumption | omega), (by first | assumption | omega), (by rw [← hz]; exact (px_ev_end (fun h9 => c8 h9.1)).symm), hs1, hT1, ho1, hb1, hl1⟩
      · refine g_aload_n (pc := 11) hC 0 dX10_every_11 rfl rfl ?_
        refine g_fnV (pc := 12) (qr := 0) hC [0, 1] (k_X10_here _ _ _ _ _ _ _ _ _ _ _ _ _ _ _ _ _ _ _ _ _ _ _ _ _ _ _ _ (by first | assumption | omega) (by first | assumption | omega) (by first | assumption | omega) (by first | assumption | omega) (by first | assumption | omega) (by first | assumption | omega) (by first | assumption | omega) (by first | assumption | omega)) cl_X10_here wm_X10_68 dX10_every_12 rfl rfl rfl rfl rfl (by decide) (by decide) ⟨by omega, by omega⟩ (Nat.le_of_ble_eq_true rfl) rfl rfl ?_
        refine g_name hC (fun x2 e_x2 => ?_)
        have q_x2 : -1 ≤ x2 ∧ x2 ≤ 127 := by rw [e_x2]; exact hT.2.2.1 _
        refine g_bipush (pc := 15) hC (38) dX10_every_15 (by decide) ?_
        refine g_icmp_ne (pc := 17) hC 43 dX10_every_17 (by decide) (by omega) (by omega) (fun c17 => ?_) (fun c17 => ?_)
        · exact g_vret (pc := 43) hR dX10_every_43 rfl ⟨by omega, by omega⟩ (Nat.le_of_ble_eq_true rfl) ⟨w1, p1, o1, f1, l1, rfl, rfl, (by first | assumption | omega), (by first | assumption | omega), (by first | assumption | omega), (by first | assumption | omega), (by rw [← hz]; exact (px_ev_end (fun h9 => absurd (show T p1 = 38 from h9.2) (by omega))).symm), hs1, hT1, ho1, hb1, hl1⟩
        · have hlt := px_lt hT1 (by omega) (show T p1 = 38 by omega) (by omega)
          obtain ⟨g9, rfl⟩ : ∃ g9, f = g9 + 1 := ⟨f - 1, by omega⟩
          refine g_aload_n (pc := 20) hC 0 dX10_every_20 rfl rfl ?_
          refine g_dup (pc := 21) hC dX10_every_21 rfl ?_
          refine g_get (pc := 22) hC 0 fl_X10_58 dX10_every_22 rfl rfl ?_
          refine g_iconst (pc := 25) hC dX10_every_25 ?_
          refine g_iadd (pc := 26) hC dX10_every_26 ?_
          refine g_putI (pc := 27) hC 0 [cO _ _ [_, _, _, _, _, _, _, _, _, _, _, _, _, _, _, _, _, _, _, _, _, _, _, _, _], _] fl_X10_58 dX10_every_27 rfl (Nat.le_of_ble_eq_true rfl) rfl ?_
          refine g_aload_n (pc := 30) hC 0 dX10_every_30 rfl rfl ?_
          refine g_callV (pc := 31) (qr := 0) hC [0, 1] (k_X10_factor_0 _ _ _ _ _ _ _ _ _ _ _ _ _ _ _ _ _ _ _ _ _ _ _ _ _ _ _ _ _ _ (by first | assumption | omega) (by first | assumption | omega) (by first | assumption | omega) (by first | assumption | omega) (by first | assumption | omega) (by first | assumption | omega) (by first | assumption | omega) (by first | assumption | omega) (by first | assumption | omega) (by first | assumption | omega) (by first | assumption | omega) (by first | assumption | omega) (by first | assumption | omega)) cl_X10_factor wm_X10_91 dX10_every_31 rfl rfl rfl rfl rfl (by decide) (by decide) (by omega) (Nat.le_of_ble_eq_true rfl) rfl (fun v9 w9 hq9 => ?_)
          obtain ⟨w5, p5, o5, s5, l5, rfl, rfl, r_w5, r_p5, r_o5, r_s5, hz_31, hs2_31, hT2_31, ho2_31, hb_31, hl2_31⟩ := hq9
          refine g_ws hC [cO m0 10 [w_thrown, .ref m1, w_image, w_frame, w_hasImage, .int (iI ac), .int (iI p5), .int (iI e), .int (iI w5), .int (iI o5), w_by, w_truths, w_pulls, w_isKeeping, w_next, w_first, w_order, w_bestOrder, w_rooms, w_leastUnlike, w_bodies, w_ran, w_kind, w_number, w_tellsV], cA K m1 922 s5] rfl ?_
          refine g_st hC [] rfl ?_
          refine g_aload_n (pc := 34) hC 0 dX10_every_34 rfl rfl ?_
          refine g_bipush (pc := 35) hC (-2) dX10_every_35 (by decide) ?_
          refine g_callV (pc := 37) (qr := 0) hC [0, 1] (k_X10_emits _ _ _ _ _ _ _ _ _ _ _ _ _ _ _ _ _ _ _ _ _ _ _ _ _ _ _ _ _ _ _ (by first | assumption | omega) (by first | assumption | omega) (by first | assumption | omega) (by first | assumption | omega) (by first | assumption | omega) (by first | assumption | omega) (by first | assumption | omega) (by first | assumption | omega) (by first | assumption | omega) (by first | assumption | omega) (by first | assumption | omega)) cl_X10_emits wm_X10_94 dX10_every_37 rfl rfl rfl rfl rfl (by decide) (by decide) (by omega) (Nat.le_of_ble_eq_true rfl) rfl (fun v9 w9 hq9 => ?_)
          obtain ⟨s6, l6, rfl, rfl, r_s6, h4_37, hs2_37, hT2_37, hl2_37⟩ := hq9
          refine g_ws hC [cO m0 10 [w_thrown, .ref m1, w_image, w_frame, w_hasImage, .int (iI ac), .int (iI p5), .int (iI e), .int (iI w5), .int (iI o5), w_by, w_truths, w_pulls, w_isKeeping, w_next, w_first, w_order, w_bestOrder, w_rooms, w_leastUnlike, w_bodies, w_ran, w_kind, w_number, w_tellsV], cA K m1 922 s6] rfl ?_
          refine g_st hC [] rfl ?_
          refine g_goto (pc := 40) hC 4 dX10_every_40 (by decide) ?_
          exact ih4 w5 p5 o5 s6 l6 g9 (by first | assumption | omega) (by first | assumption | omega) (by first | assumption | omega) (by first | assumption | omega) (by first | assumption | omega) (by first | assumption | omega) (px_ev_s hz (by omega) (by omega) hz_31 h4_37) (by first | assumption | omega) (by first | assumption | omega) (by first | assumption | omega) (by first | assumption | omega) (by omega)
  exact L4 ((e - p3 : Int).toNat + 1) w3 p3 o3 s3 l3 101 (by first | assumption | omega) (by first | assumption | omega) (by first | assumption | omega) (by first | assumption | omega) (by first | assumption | omega) (by first | assumption | omega) (by unfold px_every; rw [← hz_1]) (by first | assumption | omega) (by first | assumption | omega) (by first | assumption | omega) (by first | assumption | omega) (by omega)
set_option maxHeartbeats 4000000 in
set_option maxRecDepth 100000 in
theorem k_X10_some_0 {K : gK} (m0 : Nat) (m1 : Nat) (w_thrown : Value) (w_image : Value) (w_frame : Value) (w_hasImage : Value) (w_by : Value) (w_truths : Value) (w_pulls : Value) (w_isKeeping : Value) (w_next : Value) (w_first : Value) (w_order : Value) (w_bestOrder : Value) (w_rooms : Value) (w_leastUnlike : Value) (w_bodies : Value) (w_ran : Value) (w_kind : Value) (w_number : Value) (w_tellsV : Value) (ac : Int) (p : Int) (e : Int) (w : Int) (o : Int) (s : Int → Int) (T : Int → Int) (s0 : Int → Int) (l : List Int) (r_ac : rI ac) (r_p : rI p) (r_e : rI e) (r_w : rI w) (r_o : rI o) (r_s : ∀ j, rI (s j)) (hT : md_T T e s) (hs : s = px_row s0 ac l) (hac : 0 ≤ ac ∧ ac ≤ 4) (hp : 0 ≤ p ∧ p ≤ e) (hw : w = 0 ∨ w = 1) (ho : w = 0 → o = 5) (hl : (l.length : Int) ≤ p) : gMet K yX10_some cX10_some 1 none 8 0 0 [.ref m0] [cO m0 10 [w_thrown, .ref m1, w_image, w_frame, w_hasImage, .int (iI ac), .int (iI p), .int (iI e), .int (iI w), .int (iI o), w_by, w_truths, w_pulls, w_isKeeping, w_next, w_first, w_order, w_bestOrder, w_rooms, w_leastUnlike, w_bodies, w_ran, w_kind, w_number, w_tellsV], cA K m1 922 s] (fun v9 w9 => ∃ (w2 : Int), ∃ (p2 : Int), ∃ (o2 : Int), ∃ (s2 : Int → Int), ∃ (l2 : List Int), v9 = none ∧ w9 = [cO m0 10 [w_thrown, .ref m1, w_image, w_frame, w_hasImage, .int (iI ac), .int (iI p2), .int (iI e), .int (iI w2), .int (iI o2), w_by, w_truths, w_pulls, w_isKeeping, w_next, w_first, w_order, w_bestOrder, w_rooms, w_leastUnlike, w_bodies, w_ran, w_kind, w_number, w_tellsV], cA K m1 922 s2] ∧ rI w2 ∧ rI p2 ∧ rI o2 ∧ (∀ j, rI (s2 j)) ∧ ((w2, p2, l2) = px_some T (px_fac T 0) (w, p, l)) ∧ (s2 = px_row s0 ac l2) ∧ (md_T T e s2) ∧ (o2 = o ∧ (w2 = 0 → o = 5 ∧ w = 0)) ∧ ((w2 = 0 ∨ w2 = 1) ∧ p ≤ p2 ∧ p2 ≤ e) ∧ ((l2.length : Int) + p ≤ (l.length : Int) + p2)) := by
  refine g_enter (by decide +kernel) (Nat.le_of_ble_eq_true rfl) (fun G hC hR => ?_)
  refine g_lv hC [0] [(0, _)] rfl ?_
  have hge := hT.1
  refine g_aload_n (pc := 0) hC 0 dX10_some_0 rfl rfl ?_
  refine g_callV (pc := 1) (qr := 0) hC [0, 1] (k_X10_every_0 _ _ _ _ _ _ _ _ _ _ _ _ _ _ _ _ _ _ _ _ _ _ _ _ _ _ _ _ _ _ (by first | assumption | omega) (by first | assumption | omega) (by first | assumption | omega) (by first | assumption | omega) (by first | assumption | omega) (by first | assumption | omega) (by first | assumption | omega) (by first | assumption | omega) (by first | assumption | omega) (by first | assumption | omega) (by first | assumption | omega) (by first | assumption | omega) (by first | assumption | omega)) cl_X10_every wm_X10_111 dX10_some_1 rfl rfl rfl rfl rfl (by decide) (by decide) (by omega) (Nat.le_of_ble_eq_true rfl) rfl (fun v9 w9 hq9 => ?_)
  obtain ⟨w3, p3, o3, s3, l3, rfl, rfl, r_w3, r_p3, r_o3, r_s3, hz_1, hs2_1, hT2_1, ho2_1, hb_1, hl2_1⟩ := hq9
  refine g_ws hC [cO m0 10 [w_thrown, .ref m1, w_image, w_frame, w_hasImage, .int (iI ac), .int (iI p3), .int (iI e), .int (iI w3), .int (iI o3), w_by, w_truths, w_pulls, w_isKeeping, w_next, w_first, w_order, w_bestOrder, w_rooms, w_leastUnlike, w_bodies, w_ran, w_kind, w_number, w_tellsV], cA K m1 922 s3] rfl ?_
  refine g_st hC [] rfl ?_
  have L4 : ∀ (n1 : Nat) (w1 : Int) (p1 : Int) (o1 : Int) (f1 : Int → Int) (l1 : List Int) (f : Nat), (rI w1) → (rI p1) → (rI o1) → (∀ j, rI (f1 j)) → (f1 = px_row s0 ac l1) → (md_T T e f1) → (px_so T (px_fac T 0) f (w1, p1, l1) = px_some T (px_fac T 0) (w, p, l)) → ((w1 = 0 ∨ w1 = 1) ∧ p ≤ p1 ∧ p1 ≤ e) → (o1 = o ∧ (w1 = 0 → o = 5 ∧ w = 0)) → ((l1.length : Int) + p ≤ (l.length : Int) + p1) → (e - p1 ≤ (f : Int)) → e - p1 < (n1 : Int) → G 0 0 4 [(0, .ref m0)] [] [cO m0 10 [w_thrown, .ref m1, w_image, w_frame, w_hasImage, .int (iI ac), .int (iI p1), .int (iI e), .int (iI w1), .int (iI o1), w_by, w_truths, w_pulls, w_isKeeping, w_next, w_first, w_order, w_bestOrder, w_rooms, w_leastUnlike, w_bodies, w_ran, w_kind, w_number, w_tellsV], cA K m1 922 f1] := by
    intro n1
    induction n1 with
    | zero => intro w1 p1 o1 f1 l1 f r_w1 r_p1 r_o1 r_f1 hs1 hT1 hz hb1 ho1 hl1 hf hm4; exfalso; omega
    | succ n1 ih4 =>
      intro w1 p1 o1 f1 l1 f r_w1 r_p1 r_o1 r_f1 hs1 hT1 hz hb1 ho1 hl1 hf hm4
      refine g_aload_n (pc := 4) hC 0 dX10_some_4 rfl rfl ?_
      refine g_get (pc := 5) hC 0 fl_X10_64 dX10_some_5 rfl rfl ?_
      refine g_if_ne (pc := 8) hC 43 dX10_some_8 (by decide) (by omega) (fun c8 => ?_) (fun c8 => ?_)
      · exact g_vret (pc := 43) hR dX10_some_43 rfl ⟨by omega, by omega⟩ (Nat.le_of_ble_eq_true rfl) ⟨w1, p1, o1, f1, l1, rfl, rfl, (by first | assumption | omega), (by first | assumption | omega), (by first | assumption | omega), (by first | assumption | omega), (by rw [← hz]; exact (px_so_end (fun h9 => c8 h9.1)).symm), hs1, hT1, ho1, hb1, hl1⟩
      · refine g_aload_n (pc := 11) hC 0 dX10_some_11 rfl rfl ?_
        refine g_fnV (pc := 12) (qr := 0) hC [0, 1] (k_X10_here _ _ _ _ _ _ _ _ _ _ _ _ _ _ _ _ _ _ _ _ _ _ _ _ _ _ _ _ (by first | assumption | omega) (by first | assumption | omega) (by first | assumption | omega) (by first | assumption | omega) (by first | assumption | omega) (by first | assumption | omega) (by first | assumption | omega) (by first | assumption | omega)) cl_X10_here wm_X10_68 dX10_some_12 rfl rfl rfl rfl rfl (by decide) (by decide) ⟨by omega, by omega⟩ (Nat.le_of_ble_eq_true rfl) rfl rfl ?_
        refine g_name hC (fun x2 e_x2 => ?_)
        have q_x2 : -1 ≤ x2 ∧ x2 ≤ 127 := by rw [e_x2]; exact hT.2.2.1 _
        refine g_bipush (pc := 15) hC (124) dX10_some_15 (by decide) ?_
        refine g_icmp_ne (pc := 17) hC 43 dX10_some_17 (by decide) (by omega) (by omega) (fun c17 => ?_) (fun c17 => ?_)
        · exact g_vret (pc := 43) hR dX10_some_43 rfl ⟨by omega, by omega⟩ (Nat.le_of_ble_eq_true rfl) ⟨w1, p1, o1, f1, l1, rfl, rfl, (by first | assumption | omega), (by first | assumption | omega), (by first | assumption | omega), (by first | assumption | omega), (by rw [← hz]; exact (px_so_end (fun h9 => absurd (show T p1 = 124 from h9.2) (by omega))).symm), hs1, hT1, ho1, hb1, hl1⟩
        · have hlt := px_lt hT1 (by omega) (show T p1 = 124 by omega) (by omega)
          obtain ⟨g9, rfl⟩ : ∃ g9, f = g9 + 1 := ⟨f - 1, by omega⟩
          refine g_aload_n (pc := 20) hC 0 dX10_some_20 rfl rfl ?_
          refine g_dup (pc := 21) hC dX10_some_21 rfl ?_
          refine g_get (pc := 22) hC 0 fl_X10_58 dX10_some_22 rfl rfl ?_
          refine g_iconst (pc := 25) hC dX10_some_25 ?_
          refine g_iadd (pc := 26) hC dX10_some_26 ?_
          refine g_putI (pc := 27) hC 0 [cO _ _ [_, _, _, _, _, _, _, _, _, _, _, _, _, _, _, _, _, _, _, _, _, _, _, _, _], _] fl_X10_58 dX10_some_27 rfl (Nat.le_of_ble_eq_true rfl) rfl ?_
          refine g_aload_n (pc := 30) hC 0 dX10_some_30 rfl rfl ?_
          refine g_callV (pc := 31) (qr := 0) hC [0, 1] (k_X10_every_0 _ _ _ _ _ _ _ _ _ _ _ _ _ _ _ _ _ _ _ _ _ _ _ _ _ _ _ _ _ _ (by first | assumption | omega) (by first | assumption | omega) (by first | assumption | omega) (by first | assumption | omega) (by first | assumption | omega) (by first | assumption | omega) (by first | assumption | omega) (by first | assumption | omega) (by first | assumption | omega) (by first | assumption | omega) (by first | assumption | omega) (by first | assumption | omega) (by first | assumption | omega)) cl_X10_every wm_X10_111 dX10_some_31 rfl rfl rfl rfl rfl (by decide) (by decide) (by omega) (Nat.le_of_ble_eq_true rfl) rfl (fun v9 w9 hq9 => ?_)
          obtain ⟨w5, p5, o5, s5, l5, rfl, rfl, r_w5, r_p5, r_o5, r_s5, hz_31, hs2_31, hT2_31, ho2_31, hb_31, hl2_31⟩ := hq9
          refine g_ws hC [cO m0 10 [w_thrown, .ref m1, w_image, w_frame, w_hasImage, .int (iI ac), .int (iI p5), .int (iI e), .int (iI w5), .int (iI o5), w_by, w_truths, w_pulls, w_isKeeping, w_next, w_first, w_order, w_bestOrder, w_rooms, w_leastUnlike, w_bodies, w_ran, w_kind, w_number, w_tellsV], cA K m1 922 s5] rfl ?_
          refine g_st hC [] rfl ?_
          refine g_aload_n (pc := 34) hC 0 dX10_some_34 rfl rfl ?_
          refine g_bipush (pc := 35) hC (-3) dX10_some_35 (by decide) ?_
          refine g_callV (pc := 37) (qr := 0) hC [0, 1] (k_X10_emits _ _ _ _ _ _ _ _ _ _ _ _ _ _ _ _ _ _ _ _ _ _ _ _ _ _ _ _ _ _ _ (by first | assumption | omega) (by first | assumption | omega) (by first | assumption | omega) (by first | assumption | omega) (by first | assumption | omega) (by first | assumption | omega) (by first | assumption | omega) (by first | assumption | omega) (by first | assumption | omega) (by first | assumption | omega) (by first | assumption | omega)) cl_X10_emits wm_X10_94 dX10_some_37 rfl rfl rfl rfl rfl (by decide) (by decide) (by omega) (Nat.le_of_ble_eq_true rfl) rfl (fun v9 w9 hq9 => ?_)
          obtain ⟨s6, l6, rfl, rfl, r_s6, h4_37, hs2_37, hT2_37, hl2_37⟩ := hq9
          refine g_ws hC [cO m0 10 [w_thrown, .ref m1, w_image, w_frame, w_hasImage, .int (iI ac), .int (iI p5), .int (iI e), .int (iI w5), .int (iI o5), w_by, w_truths, w_pulls, w_isKeeping, w_next, w_first, w_order, w_bestOrder, w_rooms, w_leastUnlike, w_bodies, w_ran, w_kind, w_number, w_tellsV], cA K m1 922 s6] rfl ?_
          refine g_st hC [] rfl ?_
          refine g_goto (pc := 40) hC 4 dX10_some_40 (by decide) ?_
          exact ih4 w5 p5 o5 s6 l6 g9 (by first | assumption | omega) (by first | assumption | omega) (by first | assumption | omega) (by first | assumption | omega) (by first | assumption | omega) (by first | assumption | omega) (px_so_s hz (by omega) (by omega) hz_31 h4_37) (by first | assumption | omega) (by first | assumption | omega) (by first | assumption | omega) (by first | assumption | omega) (by omega)
  exact L4 ((e - p3 : Int).toNat + 1) w3 p3 o3 s3 l3 101 (by first | assumption | omega) (by first | assumption | omega) (by first | assumption | omega) (by first | assumption | omega) (by first | assumption | omega) (by first | assumption | omega) (by unfold px_some; rw [← hz_1]) (by first | assumption | omega) (by first | assumption | omega) (by first | assumption | omega) (by first | assumption | omega) (by omega)
set_option maxHeartbeats 4000000 in
set_option maxRecDepth 100000 in
theorem k_X10_factor_1 {K : gK} (m0 : Nat) (m1 : Nat) (w_thrown : Value) (w_image : Value) (w_frame : Value) (w_hasImage : Value) (w_by : Value) (w_truths : Value) (w_pulls : Value) (w_isKeeping : Value) (w_next : Value) (w_first : Value) (w_order : Value) (w_bestOrder : Value) (w_rooms : Value) (w_leastUnlike : Value) (w_bodies : Value) (w_ran : Value) (w_kind : Value) (w_number : Value) (w_tellsV : Value) (ac : Int) (p : Int) (e : Int) (w : Int) (o : Int) (s : Int → Int) (T : Int → Int) (s0 : Int → Int) (l : List Int) (r_ac : rI ac) (r_p : rI p) (r_e : rI e) (r_w : rI w) (r_o : rI o) (r_s : ∀ j, rI (s j)) (hT : md_T T e s) (hs : s = px_row s0 ac l) (hac : 0 ≤ ac ∧ ac ≤ 4) (hp : 0 ≤ p ∧ p ≤ e) (hw : w = 0 ∨ w = 1) (ho : w = 0 → o = 4) (hl : (l.length : Int) ≤ p) : gMet K yX10_factor cX10_factor 5 none 9 0 0 [.ref m0] [cO m0 10 [w_thrown, .ref m1, w_image, w_frame, w_hasImage, .int (iI ac), .int (iI p), .int (iI e), .int (iI w), .int (iI o), w_by, w_truths, w_pulls, w_isKeeping, w_next, w_first, w_order, w_bestOrder, w_rooms, w_leastUnlike, w_bodies, w_ran, w_kind, w_number, w_tellsV], cA K m1 922 s] (fun v9 w9 => ∃ (w2 : Int), ∃ (p2 : Int), ∃ (o2 : Int), ∃ (s2 : Int → Int), ∃ (l2 : List Int), v9 = none ∧ w9 = [cO m0 10 [w_thrown, .ref m1, w_image, w_frame, w_hasImage, .int (iI ac), .int (iI p2), .int (iI e), .int (iI w2), .int (iI o2), w_by, w_truths, w_pulls, w_isKeeping, w_next, w_first, w_order, w_bestOrder, w_rooms, w_leastUnlike, w_bodies, w_ran, w_kind, w_number, w_tellsV], cA K m1 922 s2] ∧ rI w2 ∧ rI p2 ∧ rI o2 ∧ (∀ j, rI (s2 j)) ∧ ((w2, p2, l2) = px_fac T 1 (w, p, l)) ∧ (s2 = px_row s0 ac l2) ∧ (md_T T e s2) ∧ (o2 = o ∧ (w2 = 0 → o = 4 ∧ w = 0)) ∧ ((w2 = 0 ∨ w2 = 1) ∧ p ≤ p2 ∧ p2 ≤ e) ∧ ((l2.length : Int) + p ≤ (l.length : Int) + p2)) := by
  refine g_enter (by decide +kernel) (Nat.le_of_ble_eq_true rfl) (fun G hC hR => ?_)
  refine g_lv hC [0] [(0, _)] rfl ?_
  have hge := hT.1
  refine g_aload_n (pc := 0) hC 0 dX10_factor_0 rfl rfl ?_
  refine g_get (pc := 1) hC 0 fl_X10_64 dX10_factor_1 rfl rfl ?_
  refine g_if_eq (pc := 4) hC 8 dX10_factor_4 (by decide) (by omega) (fun c4 => ?_) (fun c4 => ?_)
  · have ho9 := ho c4
    refine g_aload_n (pc := 8) hC 0 dX10_factor_8 rfl rfl ?_
    refine g_fnV (pc := 9) (qr := 0) hC [0, 1] (k_X10_here _ _ _ _ _ _ _ _ _ _ _ _ _ _ _ _ _ _ _ _ _ _ _ _ _ _ _ _ (by first | assumption | omega) (by first | assumption | omega) (by first | assumption | omega) (by first | assumption | omega) (by first | assumption | omega) (by first | assumption | omega) (by first | assumption | omega) (by first | assumption | omega)) cl_X10_here wm_X10_68 dX10_factor_9 rfl rfl rfl rfl rfl (by decide) (by decide) ⟨by omega, by omega⟩ (Nat.le_of_ble_eq_true rfl) rfl rfl ?_
    refine g_name hC (fun x9 e_x9 => ?_)
    have q_x9 : -1 ≤ x9 ∧ x9 ≤ 127 := by rw [e_x9]; exact hT.2.2.1 _
    refine g_istore_n (pc := 12) hC [(1, _), (0, _)] dX10_factor_12 rfl (by decide) rfl ?_
    refine g_iload_n (pc := 13) hC 0 dX10_factor_13 rfl rfl ?_
    refine g_bipush (pc := 14) hC (33) dX10_factor_14 (by decide) ?_
    refine g_icmp_eq (pc := 16) hC 25 dX10_factor_16 (by decide) (by omega) (by omega) (fun c16 => ?_) (fun c16 => ?_)
    · have hlt := px_lt hT hp.1 (show T p = 33 by omega) (by omega)
      refine g_aload_n (pc := 25) hC 1 dX10_factor_25 rfl rfl ?_
      refine g_aload_n (pc := 26) hC 1 dX10_factor_26 rfl rfl ?_
      refine g_get (pc := 27) hC 0 fl_X10_88 dX10_factor_27 rfl rfl ?_
      refine g_iconst (pc := 30) hC dX10_factor_30 ?_
      refine g_icmp_ne (pc := 31) hC 38 dX10_factor_31 (by decide) (by omega) (by omega) (fun c31 => ?_) (fun c31 => by exfalso; omega)
      refine g_iconst (pc := 38) hC dX10_factor_38 ?_
      refine g_putZ (pc := 39) hC 0 [cO _ _ [_, _, _, _, _, _, _, _, _, _, _, _, _, _, _, _, _, _, _, _, _, _, _, _, _], _] fl_X10_64 dX10_factor_39 rfl (Nat.le_of_ble_eq_true rfl) (by omega) rfl ?_
      refine g_aload_n (pc := 42) hC 1 dX10_factor_42 rfl rfl ?_
      refine g_dup (pc := 43) hC dX10_factor_43 rfl ?_
      refine g_get (pc := 44) hC 0 fl_X10_88 dX10_factor_44 rfl rfl ?_
      refine g_iconst (pc := 47) hC dX10_factor_47 ?_
      refine g_iadd (pc := 48) hC dX10_factor_48 ?_
      refine g_putI (pc := 49) hC 0 [cO _ _ [_, _, _, _, _, _, _, _, _, _, _, _, _, _, _, _, _, _, _, _, _, _, _, _, _], _] fl_X10_88 dX10_factor_49 rfl (Nat.le_of_ble_eq_true rfl) rfl ?_
      refine g_aload_n (pc := 52) hC 1 dX10_factor_52 rfl rfl ?_
      refine g_dup (pc := 53) hC dX10_factor_53 rfl ?_
      refine g_get (pc := 54) hC 0 fl_X10_58 dX10_factor_54 rfl rfl ?_
      refine g_aload_n (pc := 57) hC 1 dX10_factor_57 rfl rfl ?_
      refine g_get (pc := 58) hC 0 fl_X10_64 dX10_factor_58 rfl rfl ?_
      refine g_if_eq (pc := 61) hC 68 dX10_factor_61 (by decide) (by omega) (fun c61 => ?_) (fun c61 => by exfalso; omega)
      refine g_iconst (pc := 68) hC dX10_factor_68 ?_
      refine g_iadd (pc := 69) hC dX10_factor_69 ?_
      refine g_putI (pc := 70) hC 0 [cO _ _ [_, _, _, _, _, _, _, _, _, _, _, _, _, _, _, _, _, _, _, _, _, _, _, _, _], _] fl_X10_58 dX10_factor_70 rfl (Nat.le_of_ble_eq_true rfl) rfl ?_
      refine g_iload_n (pc := 73) hC 0 dX10_factor_73 rfl rfl ?_
      refine g_bipush (pc := 74) hC (33) dX10_factor_74 (by decide) ?_
      refine g_icmp_ne (pc := 76) hC 91 dX10_factor_76 (by decide) (by omega) (by omega) (fun c76 => by exfalso; omega) (fun c76 => ?_)
      refine g_aload_n (pc := 79) hC 1 dX10_factor_79 rfl rfl ?_
      refine g_callV (pc := 80) (qr := 0) hC [0, 1] (k_X10_factor_0 _ _ _ _ _ _ _ _ _ _ _ _ _ _ _ _ _ _ _ _ _ _ _ _ _ _ _ _ _ _ (by first | assumption | omega) (by first | assumption | omega) (by first | assumption | omega) (by first | assumption | omega) (by first | assumption | omega) (by first | assumption | omega) (by first | assumption | omega) (by first | assumption | omega) (by first | assumption | omega) (by first | assumption | omega) (by first | assumption | omega) (by first | assumption | omega) (by first | assumption | omega)) cl_X10_factor wm_X10_91 dX10_factor_80 rfl rfl rfl rfl rfl (by decide) (by decide) (by omega) (Nat.le_of_ble_eq_true rfl) rfl (fun v9 w9 hq9 => ?_)
      obtain ⟨w3, p3, o3, s3, l3, rfl, rfl, r_w3, r_p3, r_o3, r_s3, hz_80, hs2_80, hT2_80, ho2_80, hb_80, hl2_80⟩ := hq9
      refine g_ws hC [cO m0 10 [w_thrown, .ref m1, w_image, w_frame, w_hasImage, .int (iI ac), .int (iI p3), .int (iI e), .int (iI w3), .int (iI o3), w_by, w_truths, w_pulls, w_isKeeping, w_next, w_first, w_order, w_bestOrder, w_rooms, w_leastUnlike, w_bodies, w_ran, w_kind, w_number, w_tellsV], cA K m1 922 s3] rfl ?_
      refine g_st hC [] rfl ?_
      refine g_aload_n (pc := 83) hC 1 dX10_factor_83 rfl rfl ?_
      refine g_iconst (pc := 84) hC dX10_factor_84 ?_
      refine g_callV (pc := 85) (qr := 0) hC [0, 1] (k_X10_emits _ _ _ _ _ _ _ _ _ _ _ _ _ _ _ _ _ _ _ _ _ _ _ _ _ _ _ _ _ _ _ (by first | assumption | omega) (by first | assumption | omega) (by first | assumption | omega) (by first | assumption | omega) (by first | assumption | omega) (by first | assumption | omega) (by first | assumption | omega) (by first | assumption | omega) (by first | assumption | omega) (by first | assumption | omega) (by first | assumption | omega)) cl_X10_emits wm_X10_94 dX10_factor_85 rfl rfl rfl rfl rfl (by decide) (by decide) (by omega) (Nat.le_of_ble_eq_true rfl) rfl (fun v9 w9 hq9 => ?_)
      obtain ⟨s4, l4, rfl, rfl, r_s4, h4_85, hs2_85, hT2_85, hl2_85⟩ := hq9
      refine g_ws hC [cO m0 10 [w_thrown, .ref m1, w_image, w_frame, w_hasImage, .int (iI ac), .int (iI p3), .int (iI e), .int (iI w3), .int (iI o3), w_by, w_truths, w_pulls, w_isKeeping, w_next, w_first, w_order, w_bestOrder, w_rooms, w_leastUnlike, w_bodies, w_ran, w_kind, w_number, w_tellsV], cA K m1 922 s4] rfl ?_
      refine g_st hC [] rfl ?_
      refine g_goto (pc := 88) hC 101 dX10_factor_88 (by decide) ?_
      refine g_aload_n (pc := 101) hC 1 dX10_factor_101 rfl rfl ?_
      refine g_dup (pc := 102) hC dX10_factor_102 rfl ?_
      refine g_get (pc := 103) hC 0 fl_X10_88 dX10_factor_103 rfl rfl ?_
      refine g_iconst (pc := 106) hC dX10_factor_106 ?_
      refine g_isub (pc := 107) hC dX10_factor_107 ?_
      refine g_putI (pc := 108) hC 0 [cO _ _ [_, _, _, _, _, _, _, _, _, _, _, _, _, _, _, _, _, _, _, _, _, _, _, _, _], _] fl_X10_88 dX10_factor_108 rfl (Nat.le_of_ble_eq_true rfl) rfl ?_
      exact g_vret (pc := 111) hR dX10_factor_111 rfl ⟨by omega, by omega⟩ (Nat.le_of_ble_eq_true rfl) ⟨w3, p3, o3 - 1, s4, l4, rfl, rfl, (by first | assumption | omega), (by first | assumption | omega), (by first | assumption | omega), (by first | assumption | omega), (px_fac_not c4 (by omega) hz_80 h4_85), hs2_85, hT2_85, (by first | assumption | omega), (by first | assumption | omega), (by first | assumption | omega)⟩
    · refine g_iload_n (pc := 19) hC 0 dX10_factor_19 rfl rfl ?_
      refine g_bipush (pc := 20) hC (40) dX10_factor_20 (by decide) ?_
      refine g_icmp_ne (pc := 22) hC 112 dX10_factor_22 (by decide) (by omega) (by omega) (fun c22 => ?_) (fun c22 => ?_)
      · refine g_aload_n (pc := 112) hC 1 dX10_factor_112 rfl rfl ?_
        refine g_ldcS_X10_100 (pc := 113) hC rfl dX10_factor_113 ?_
        refine g_callV (pc := 115) (qr := 0) hC [0, 1] (k_X10_among _ _ _ _ _ _ _ _ _ _ _ _ _ _ _ _ _ _ _ _ _ _ _ _ _ _ _ _ _ (by first | assumption | omega) (by first | assumption | omega) (by first | assumption | omega) (by first | assumption | omega) (by first | assumption | omega) (by first | assumption | omega) (by first | assumption | omega) (by first | assumption | omega) (by first | assumption | omega)) cl_X10_among wm_X10_102 dX10_factor_115 rfl rfl rfl rfl rfl (by decide) (by decide) (by omega) (Nat.le_of_ble_eq_true rfl) rfl (fun v9 w9 hq9 => ?_)
        obtain ⟨pa, rfl, rfl, r_pa, hp2_115, hb_115⟩ := hq9
        refine g_ws hC [cO m0 10 [w_thrown, .ref m1, w_image, w_frame, w_hasImage, .int (iI ac), .int (iI pa), .int (iI e), .int (iI w), .int (iI o), w_by, w_truths, w_pulls, w_isKeeping, w_next, w_first, w_order, w_bestOrder, w_rooms, w_leastUnlike, w_bodies, w_ran, w_kind, w_number, w_tellsV], cA K m1 922 s] rfl ?_
        refine g_st hC [.int (iI (px_am 5 (T p) (sl 5).toNat))] rfl ?_
        refine g_name hC (fun a1 e_a1 => ?_)
        have ham := px_am_rng 5 (T p) (sl 5).toNat
        have hs5 := sl_rng (k := 5) (by decide)
        refine g_istore_n (pc := 118) hC [(2, _), (1, _), (0, _)] dX10_factor_118 rfl (by decide) rfl ?_
        refine g_aload_n (pc := 119) hC 2 dX10_factor_119 rfl rfl ?_
        refine g_iload_n (pc := 120) hC 0 dX10_factor_120 rfl rfl ?_
        refine g_iconst (pc := 121) hC dX10_factor_121 ?_
        refine g_icmp_ne (pc := 122) hC 129 dX10_factor_122 (by decide) (by omega) (by omega) (fun c122 => ?_) (fun c122 => ?_)
        · refine g_iconst (pc := 129) hC dX10_factor_129 ?_
          refine g_putZ (pc := 130) hC 0 [cO _ _ [_, _, _, _, _, _, _, _, _, _, _, _, _, _, _, _, _, _, _, _, _, _, _, _, _], _] fl_X10_64 dX10_factor_130 rfl (Nat.le_of_ble_eq_true rfl) (by omega) rfl ?_
          refine g_aload_n (pc := 133) hC 2 dX10_factor_133 rfl rfl ?_
          refine g_get (pc := 134) hC 0 fl_X10_64 dX10_factor_134 rfl rfl ?_
          refine g_if_eq (pc := 137) hC 144 dX10_factor_137 (by decide) (by omega) (fun c137 => ?_) (fun c137 => by exfalso; omega)
          refine g_aload_n (pc := 144) hC 2 dX10_factor_144 rfl rfl ?_
          refine g_ldcS_X10_106 (pc := 145) hC rfl dX10_factor_145 ?_
          refine g_callV (pc := 147) (qr := 0) hC [0, 1] (k_X10_among _ _ _ _ _ _ _ _ _ _ _ _ _ _ _ _ _ _ _ _ _ _ _ _ _ _ _ _ _ (by first | assumption | omega) (by first | assumption | omega) (by first | assumption | omega) (by first | assumption | omega) (by first | assumption | omega) (by first | assumption | omega) (by first | assumption | omega) (by first | assumption | omega) (by first | assumption | omega)) cl_X10_among wm_X10_102 dX10_factor_147 rfl rfl rfl rfl rfl (by decide) (by decide) (by omega) (Nat.le_of_ble_eq_true rfl) rfl (fun v9 w9 hq9 => ?_)
          obtain ⟨pb, rfl, rfl, r_pb, hp2_147, hb_147⟩ := hq9
          refine g_ws hC [cO m0 10 [w_thrown, .ref m1, w_image, w_frame, w_hasImage, .int (iI ac), .int (iI pb), .int (iI e), .int (iI 0), .int (iI o), w_by, w_truths, w_pulls, w_isKeeping, w_next, w_first, w_order, w_bestOrder, w_rooms, w_leastUnlike, w_bodies, w_ran, w_kind, w_number, w_tellsV], cA K m1 922 s] rfl ?_
          refine g_st hC [.int (iI (px_am 6 (T pa) (sl 6).toNat))] rfl ?_
          refine g_name hC (fun b1 e_b1 => ?_)
          have hbm := px_am_rng 6 (T pa) (sl 6).toNat
          have hs6 := sl_rng (k := 6) (by decide)
          refine g_istore_n (pc := 150) hC [(3, _), (2, _), (1, _), (0, _)] dX10_factor_150 rfl (by decide) rfl ?_
          refine g_aload_n (pc := 151) hC 3 dX10_factor_151 rfl rfl ?_
          refine g_aload_n (pc := 152) hC 3 dX10_factor_152 rfl rfl ?_
          refine g_get (pc := 153) hC 0 fl_X10_64 dX10_factor_153 rfl rfl ?_
          refine g_if_ne (pc := 156) hC 164 dX10_factor_156 (by decide) (by omega) (fun c156 => by exfalso; omega) (fun c156 => ?_)
          refine g_iload_n (pc := 159) hC 0 dX10_factor_159 rfl rfl ?_
          refine g_iconst (pc := 160) hC dX10_factor_160 ?_
          refine g_icmp_ne (pc := 161) hC 168 dX10_factor_161 (by decide) (by omega) (by omega) (fun c161 => ?_) (fun c161 => ?_)
          · refine g_iconst (pc := 168) hC dX10_factor_168 ?_
            refine g_putZ (pc := 169) hC 0 [cO _ _ [_, _, _, _, _, _, _, _, _, _, _, _, _, _, _, _, _, _, _, _, _, _, _, _, _], _] fl_X10_64 dX10_factor_169 rfl (Nat.le_of_ble_eq_true rfl) (by omega) rfl ?_
            refine g_aload_n (pc := 172) hC 3 dX10_factor_172 rfl rfl ?_
            refine g_callV (pc := 173) (qr := 0) hC [0, 1] (k_X10_figures _ _ _ _ _ _ _ _ _ _ _ _ _ _ _ _ _ _ _ _ _ _ _ _ _ _ _ _ (by first | assumption | omega) (by first | assumption | omega) (by first | assumption | omega) (by first | assumption | omega) (by first | assumption | omega) (by first | assumption | omega) (by first | assumption | omega) (by first | assumption | omega) (by first | assumption | omega)) cl_X10_figures wm_X10_108 dX10_factor_173 rfl rfl rfl rfl rfl (by decide) (by decide) (by omega) (Nat.le_of_ble_eq_true rfl) rfl (fun v9 w9 hq9 => ?_)
            obtain ⟨w3, p3, v3, rfl, rfl, r_w3, r_p3, r_v3, hz_173, hb_173, hv_173, hw0_173⟩ := hq9
            refine g_ws hC [cO m0 10 [w_thrown, .ref m1, w_image, w_frame, w_hasImage, .int (iI ac), .int (iI p3), .int (iI e), .int (iI w3), .int (iI o), w_by, w_truths, w_pulls, w_isKeeping, w_next, w_first, w_order, w_bestOrder, w_rooms, w_leastUnlike, w_bodies, w_ran, w_kind, w_number, w_tellsV], cA K m1 922 s] rfl ?_
            refine g_st hC [.int (iI v3)] rfl ?_
            skip
            refine g_istore (pc := 176) hC [(4, _), (3, _), (2, _), (1, _), (0, _)] dX10_factor_176 (by decide) rfl ?_
            refine g_aload_n (pc := 178) hC 4 dX10_factor_178 rfl rfl ?_
            refine g_iload_n (pc := 179) hC 2 dX10_factor_179 rfl rfl ?_
            refine g_bipush (pc := 180) hC (8) dX10_factor_180 (by decide) ?_
            refine g_iload_n (pc := 182) hC 1 dX10_factor_182 rfl rfl ?_
            refine g_imul (pc := 183) hC dX10_factor_183 ?_
            refine g_iadd (pc := 184) hC dX10_factor_184 ?_
            refine g_bipush (pc := 185) hC (32) dX10_factor_185 (by decide) ?_
            refine g_iload (pc := 187) hC 0 dX10_factor_187 rfl ?_
            refine g_imul (pc := 189) hC dX10_factor_189 ?_
            refine g_iadd (pc := 190) hC dX10_factor_190 ?_
            refine g_callV (pc := 191) (qr := 0) hC [0, 1] (k_X10_emits _ _ _ _ _ _ _ _ _ _ _ _ _ _ _ _ _ _ _ _ _ _ _ _ _ _ _ _ _ _ _ (by first | assumption | omega) (by first | assumption | omega) (by first | assumption | omega) (by first | assumption | omega) (by first | assumption | omega) (by first | assumption | omega) (by first | assumption | omega) (by first | assumption | omega) (by first | assumption | omega) (by first | assumption | omega) (by first | assumption | omega)) cl_X10_emits wm_X10_94 dX10_factor_191 rfl rfl rfl rfl rfl (by decide) (by decide) (by omega) (Nat.le_of_ble_eq_true rfl) rfl (fun v9 w9 hq9 => ?_)
            obtain ⟨s4, l4, rfl, rfl, r_s4, h4_191, hs2_191, hT2_191, hl2_191⟩ := hq9
            refine g_ws hC [cO m0 10 [w_thrown, .ref m1, w_image, w_frame, w_hasImage, .int (iI ac), .int (iI p3), .int (iI e), .int (iI w3), .int (iI o), w_by, w_truths, w_pulls, w_isKeeping, w_next, w_first, w_order, w_bestOrder, w_rooms, w_leastUnlike, w_bodies, w_ran, w_kind, w_number, w_tellsV], cA K m1 922 s4] rfl ?_
            refine g_st hC [] rfl ?_
            exact g_vret (pc := 194) hR dX10_factor_194 rfl ⟨by omega, by omega⟩ (Nat.le_of_ble_eq_true rfl) ⟨w3, p3, o, s4, l4, rfl, rfl, (by first | assumption | omega), (by first | assumption | omega), (by first | assumption | omega), (by first | assumption | omega), (px_fac_t c4 (by omega) (by omega) (px_tst_C e_a1 c122 hp2_115 e_b1 c161 hp2_147 hz_173 h4_191)), hs2_191, hT2_191, (by first | assumption | omega), (by first | assumption | omega), (by first | assumption | omega)⟩
          · refine g_iconst (pc := 164) hC dX10_factor_164 ?_
            refine g_goto (pc := 165) hC 169 dX10_factor_165 (by decide) ?_
            refine g_putZ (pc := 169) hC 0 [cO _ _ [_, _, _, _, _, _, _, _, _, _, _, _, _, _, _, _, _, _, _, _, _, _, _, _, _], _] fl_X10_64 dX10_factor_169 rfl (Nat.le_of_ble_eq_true rfl) (by omega) rfl ?_
            refine g_aload_n (pc := 172) hC 3 dX10_factor_172 rfl rfl ?_
            refine g_callV (pc := 173) (qr := 0) hC [0, 1] (k_X10_figures _ _ _ _ _ _ _ _ _ _ _ _ _ _ _ _ _ _ _ _ _ _ _ _ _ _ _ _ (by first | assumption | omega) (by first | assumption | omega) (by first | assumption | omega) (by first | assumption | omega) (by first | assumption | omega) (by first | assumption | omega) (by first | assumption | omega) (by first | assumption | omega) (by first | assumption | omega)) cl_X10_figures wm_X10_108 dX10_factor_173 rfl rfl rfl rfl rfl (by decide) (by decide) (by omega) (Nat.le_of_ble_eq_true rfl) rfl (fun v9 w9 hq9 => ?_)
            obtain ⟨w3, p3, v3, rfl, rfl, r_w3, r_p3, r_v3, hz_173, hb_173, hv_173, hw0_173⟩ := hq9
            refine g_ws hC [cO m0 10 [w_thrown, .ref m1, w_image, w_frame, w_hasImage, .int (iI ac), .int (iI p3), .int (iI e), .int (iI w3), .int (iI o), w_by, w_truths, w_pulls, w_isKeeping, w_next, w_first, w_order, w_bestOrder, w_rooms, w_leastUnlike, w_bodies, w_ran, w_kind, w_number, w_tellsV], cA K m1 922 s] rfl ?_
            refine g_st hC [.int (iI v3)] rfl ?_
            have hfw := px_fig_w (by omega) hz_173
            refine g_istore (pc := 176) hC [(4, _), (3, _), (2, _), (1, _), (0, _)] dX10_factor_176 (by decide) rfl ?_
            refine g_aload_n (pc := 178) hC 4 dX10_factor_178 rfl rfl ?_
            refine g_iload_n (pc := 179) hC 2 dX10_factor_179 rfl rfl ?_
            refine g_bipush (pc := 180) hC (8) dX10_factor_180 (by decide) ?_
            refine g_iload_n (pc := 182) hC 1 dX10_factor_182 rfl rfl ?_
            refine g_imul (pc := 183) hC dX10_factor_183 ?_
            refine g_iadd (pc := 184) hC dX10_factor_184 ?_
            refine g_bipush (pc := 185) hC (32) dX10_factor_185 (by decide) ?_
            refine g_iload (pc := 187) hC 0 dX10_factor_187 rfl ?_
            refine g_imul (pc := 189) hC dX10_factor_189 ?_
            refine g_iadd (pc := 190) hC dX10_factor_190 ?_
            refine g_callV (pc := 191) (qr := 0) hC [0, 1] (k_X10_emits _ _ _ _ _ _ _ _ _ _ _ _ _ _ _ _ _ _ _ _ _ _ _ _ _ _ _ _ _ _ _ (by first | assumption | omega) (by first | assumption | omega) (by first | assumption | omega) (by first | assumption | omega) (by first | assumption | omega) (by first | assumption | omega) (by first | assumption | omega) (by first | assumption | omega) (by first | assumption | omega) (by first | assumption | omega) (by first | assumption | omega)) cl_X10_emits wm_X10_94 dX10_factor_191 rfl rfl rfl rfl rfl (by decide) (by decide) (by omega) (Nat.le_of_ble_eq_true rfl) rfl (fun v9 w9 hq9 => ?_)
            obtain ⟨s4, l4, rfl, rfl, r_s4, h4_191, hs2_191, hT2_191, hl2_191⟩ := hq9
            refine g_ws hC [cO m0 10 [w_thrown, .ref m1, w_image, w_frame, w_hasImage, .int (iI ac), .int (iI p3), .int (iI e), .int (iI w3), .int (iI o), w_by, w_truths, w_pulls, w_isKeeping, w_next, w_first, w_order, w_bestOrder, w_rooms, w_leastUnlike, w_bodies, w_ran, w_kind, w_number, w_tellsV], cA K m1 922 s4] rfl ?_
            refine g_st hC [] rfl ?_
            exact g_vret (pc := 194) hR dX10_factor_194 rfl ⟨by omega, by omega⟩ (Nat.le_of_ble_eq_true rfl) ⟨w3, p3, o, s4, l4, rfl, rfl, (by first | assumption | omega), (by first | assumption | omega), (by first | assumption | omega), (by first | assumption | omega), (px_fac_t c4 (by omega) (by omega) (px_tst_B e_a1 c122 hp2_115 e_b1 c161 hp2_147 hz_173 h4_191)), hs2_191, hT2_191, (by first | assumption | omega), (by first | assumption | omega), (by first | assumption | omega)⟩
        · refine g_iconst (pc := 125) hC dX10_factor_125 ?_
          refine g_goto (pc := 126) hC 130 dX10_factor_126 (by decide) ?_
          refine g_putZ (pc := 130) hC 0 [cO _ _ [_, _, _, _, _, _, _, _, _, _, _, _, _, _, _, _, _, _, _, _, _, _, _, _, _], _] fl_X10_64 dX10_factor_130 rfl (Nat.le_of_ble_eq_true rfl) (by omega) rfl ?_
          refine g_aload_n (pc := 133) hC 2 dX10_factor_133 rfl rfl ?_
          refine g_get (pc := 134) hC 0 fl_X10_64 dX10_factor_134 rfl rfl ?_
          refine g_if_eq (pc := 137) hC 144 dX10_factor_137 (by decide) (by omega) (fun c137 => by exfalso; omega) (fun c137 => ?_)
          refine g_iconst (pc := 140) hC dX10_factor_140 ?_
          refine g_goto (pc := 141) hC 150 dX10_factor_141 (by decide) ?_
          refine g_istore_n (pc := 150) hC [(3, _), (2, _), (1, _), (0, _)] dX10_factor_150 rfl (by decide) rfl ?_
          refine g_aload_n (pc := 151) hC 3 dX10_factor_151 rfl rfl ?_
          refine g_aload_n (pc := 152) hC 3 dX10_factor_152 rfl rfl ?_
          refine g_get (pc := 153) hC 0 fl_X10_64 dX10_factor_153 rfl rfl ?_
          refine g_if_ne (pc := 156) hC 164 dX10_factor_156 (by decide) (by omega) (fun c156 => ?_) (fun c156 => by exfalso; omega)
          refine g_iconst (pc := 164) hC dX10_factor_164 ?_
          refine g_goto (pc := 165) hC 169 dX10_factor_165 (by decide) ?_
          refine g_putZ (pc := 169) hC 0 [cO _ _ [_, _, _, _, _, _, _, _, _, _, _, _, _, _, _, _, _, _, _, _, _, _, _, _, _], _] fl_X10_64 dX10_factor_169 rfl (Nat.le_of_ble_eq_true rfl) (by omega) rfl ?_
          refine g_aload_n (pc := 172) hC 3 dX10_factor_172 rfl rfl ?_
          refine g_callV (pc := 173) (qr := 0) hC [0, 1] (k_X10_figures _ _ _ _ _ _ _ _ _ _ _ _ _ _ _ _ _ _ _ _ _ _ _ _ _ _ _ _ (by first | assumption | omega) (by first | assumption | omega) (by first | assumption | omega) (by first | assumption | omega) (by first | assumption | omega) (by first | assumption | omega) (by first | assumption | omega) (by first | assumption | omega) (by first | assumption | omega)) cl_X10_figures wm_X10_108 dX10_factor_173 rfl rfl rfl rfl rfl (by decide) (by decide) (by omega) (Nat.le_of_ble_eq_true rfl) rfl (fun v9 w9 hq9 => ?_)
          obtain ⟨w3, p3, v3, rfl, rfl, r_w3, r_p3, r_v3, hz_173, hb_173, hv_173, hw0_173⟩ := hq9
          refine g_ws hC [cO m0 10 [w_thrown, .ref m1, w_image, w_frame, w_hasImage, .int (iI ac), .int (iI p3), .int (iI e), .int (iI w3), .int (iI o), w_by, w_truths, w_pulls, w_isKeeping, w_next, w_first, w_order, w_bestOrder, w_rooms, w_leastUnlike, w_bodies, w_ran, w_kind, w_number, w_tellsV], cA K m1 922 s] rfl ?_
          refine g_st hC [.int (iI v3)] rfl ?_
          have hfw := px_fig_w (by omega) hz_173
          refine g_istore (pc := 176) hC [(4, _), (3, _), (2, _), (1, _), (0, _)] dX10_factor_176 (by decide) rfl ?_
          refine g_aload_n (pc := 178) hC 4 dX10_factor_178 rfl rfl ?_
          refine g_iload_n (pc := 179) hC 2 dX10_factor_179 rfl rfl ?_
          refine g_bipush (pc := 180) hC (8) dX10_factor_180 (by decide) ?_
          refine g_iload_n (pc := 182) hC 1 dX10_factor_182 rfl rfl ?_
          refine g_imul (pc := 183) hC dX10_factor_183 ?_
          refine g_iadd (pc := 184) hC dX10_factor_184 ?_
          refine g_bipush (pc := 185) hC (32) dX10_factor_185 (by decide) ?_
          refine g_iload (pc := 187) hC 0 dX10_factor_187 rfl ?_
          refine g_imul (pc := 189) hC dX10_factor_189 ?_
          refine g_iadd (pc := 190) hC dX10_factor_190 ?_
          refine g_callV (pc := 191) (qr := 0) hC [0, 1] (k_X10_emits _ _ _ _ _ _ _ _ _ _ _ _ _ _ _ _ _ _ _ _ _ _ _ _ _ _ _ _ _ _ _ (by first | assumption | omega) (by first | assumption | omega) (by first | assumption | omega) (by first | assumption | omega) (by first | assumption | omega) (by first | assumption | omega) (by first | assumption | omega) (by first | assumption | omega) (by first | assumption | omega) (by first | assumption | omega) (by first | assumption | omega)) cl_X10_emits wm_X10_94 dX10_factor_191 rfl rfl rfl rfl rfl (by decide) (by decide) (by omega) (Nat.le_of_ble_eq_true rfl) rfl (fun v9 w9 hq9 => ?_)
          obtain ⟨s4, l4, rfl, rfl, r_s4, h4_191, hs2_191, hT2_191, hl2_191⟩ := hq9
          refine g_ws hC [cO m0 10 [w_thrown, .ref m1, w_image, w_frame, w_hasImage, .int (iI ac), .int (iI p3), .int (iI e), .int (iI w3), .int (iI o), w_by, w_truths, w_pulls, w_isKeeping, w_next, w_first, w_order, w_bestOrder, w_rooms, w_leastUnlike, w_bodies, w_ran, w_kind, w_number, w_tellsV], cA K m1 922 s4] rfl ?_
          refine g_st hC [] rfl ?_
          exact g_vret (pc := 194) hR dX10_factor_194 rfl ⟨by omega, by omega⟩ (Nat.le_of_ble_eq_true rfl) ⟨w3, p3, o, s4, l4, rfl, rfl, (by first | assumption | omega), (by first | assumption | omega), (by first | assumption | omega), (by first | assumption | omega), (px_fac_t c4 (by omega) (by omega) (px_tst_A e_a1 c122 hp2_115 hz_173 h4_191)), hs2_191, hT2_191, (by first | assumption | omega), (by first | assumption | omega), (by first | assumption | omega)⟩
      · have hlt := px_lt hT hp.1 (show T p = 40 by omega) (by omega)
        refine g_aload_n (pc := 25) hC 1 dX10_factor_25 rfl rfl ?_
        refine g_aload_n (pc := 26) hC 1 dX10_factor_26 rfl rfl ?_
        refine g_get (pc := 27) hC 0 fl_X10_88 dX10_factor_27 rfl rfl ?_
        refine g_iconst (pc := 30) hC dX10_factor_30 ?_
        refine g_icmp_ne (pc := 31) hC 38 dX10_factor_31 (by decide) (by omega) (by omega) (fun c31 => ?_) (fun c31 => by exfalso; omega)
        refine g_iconst (pc := 38) hC dX10_factor_38 ?_
        refine g_putZ (pc := 39) hC 0 [cO _ _ [_, _, _, _, _, _, _, _, _, _, _, _, _, _, _, _, _, _, _, _, _, _, _, _, _], _] fl_X10_64 dX10_factor_39 rfl (Nat.le_of_ble_eq_true rfl) (by omega) rfl ?_
        refine g_aload_n (pc := 42) hC 1 dX10_factor_42 rfl rfl ?_
        refine g_dup (pc := 43) hC dX10_factor_43 rfl ?_
        refine g_get (pc := 44) hC 0 fl_X10_88 dX10_factor_44 rfl rfl ?_
        refine g_iconst (pc := 47) hC dX10_factor_47 ?_
        refine g_iadd (pc := 48) hC dX10_factor_48 ?_
        refine g_putI (pc := 49) hC 0 [cO _ _ [_, _, _, _, _, _, _, _, _, _, _, _, _, _, _, _, _, _, _, _, _, _, _, _, _], _] fl_X10_88 dX10_factor_49 rfl (Nat.le_of_ble_eq_true rfl) rfl ?_
        refine g_aload_n (pc := 52) hC 1 dX10_factor_52 rfl rfl ?_
        refine g_dup (pc := 53) hC dX10_factor_53 rfl ?_
        refine g_get (pc := 54) hC 0 fl_X10_58 dX10_factor_54 rfl rfl ?_
        refine g_aload_n (pc := 57) hC 1 dX10_factor_57 rfl rfl ?_
        refine g_get (pc := 58) hC 0 fl_X10_64 dX10_factor_58 rfl rfl ?_
        refine g_if_eq (pc := 61) hC 68 dX10_factor_61 (by decide) (by omega) (fun c61 => ?_) (fun c61 => by exfalso; omega)
        refine g_iconst (pc := 68) hC dX10_factor_68 ?_
        refine g_iadd (pc := 69) hC dX10_factor_69 ?_
        refine g_putI (pc := 70) hC 0 [cO _ _ [_, _, _, _, _, _, _, _, _, _, _, _, _, _, _, _, _, _, _, _, _, _, _, _, _], _] fl_X10_58 dX10_factor_70 rfl (Nat.le_of_ble_eq_true rfl) rfl ?_
        refine g_iload_n (pc := 73) hC 0 dX10_factor_73 rfl rfl ?_
        refine g_bipush (pc := 74) hC (33) dX10_factor_74 (by decide) ?_
        refine g_icmp_ne (pc := 76) hC 91 dX10_factor_76 (by decide) (by omega) (by omega) (fun c76 => ?_) (fun c76 => by exfalso; omega)
        refine g_aload_n (pc := 91) hC 1 dX10_factor_91 rfl rfl ?_
        refine g_callV (pc := 92) (qr := 0) hC [0, 1] (k_X10_some_0 _ _ _ _ _ _ _ _ _ _ _ _ _ _ _ _ _ _ _ _ _ _ _ _ _ _ _ _ _ _ (by first | assumption | omega) (by first | assumption | omega) (by first | assumption | omega) (by first | assumption | omega) (by first | assumption | omega) (by first | assumption | omega) (by first | assumption | omega) (by first | assumption | omega) (by first | assumption | omega) (by first | assumption | omega) (by first | assumption | omega) (by first | assumption | omega) (by first | assumption | omega)) cl_X10_some wm_X10_97 dX10_factor_92 rfl rfl rfl rfl rfl (by decide) (by decide) (by omega) (Nat.le_of_ble_eq_true rfl) rfl (fun v9 w9 hq9 => ?_)
        obtain ⟨w3, p3, o3, s3, l3, rfl, rfl, r_w3, r_p3, r_o3, r_s3, hz_92, hs2_92, hT2_92, ho2_92, hb_92, hl2_92⟩ := hq9
        refine g_ws hC [cO m0 10 [w_thrown, .ref m1, w_image, w_frame, w_hasImage, .int (iI ac), .int (iI p3), .int (iI e), .int (iI w3), .int (iI o3), w_by, w_truths, w_pulls, w_isKeeping, w_next, w_first, w_order, w_bestOrder, w_rooms, w_leastUnlike, w_bodies, w_ran, w_kind, w_number, w_tellsV], cA K m1 922 s3] rfl ?_
        refine g_st hC [] rfl ?_
        refine g_aload_n (pc := 95) hC 1 dX10_factor_95 rfl rfl ?_
        refine g_bipush (pc := 96) hC (41) dX10_factor_96 (by decide) ?_
        refine g_callV (pc := 98) (qr := 0) hC [0, 1] (k_X10_must _ _ _ _ _ _ _ _ _ _ _ _ _ _ _ _ _ _ _ _ _ _ _ _ _ _ _ _ _ (by first | assumption | omega) (by first | assumption | omega) (by first | assumption | omega) (by first | assumption | omega) (by first | assumption | omega) (by first | assumption | omega) (by first | assumption | omega) (by first | assumption | omega) (by first | assumption | omega) (by first | assumption | omega) (by first | assumption | omega)) cl_X10_must wm_X10_81 dX10_factor_98 rfl rfl rfl rfl rfl (by decide) (by decide) (by omega) (Nat.le_of_ble_eq_true rfl) rfl (fun v9 w9 hq9 => ?_)
        obtain ⟨w4, p4, rfl, rfl, r_w4, r_p4, hz_98, hb_98, hw0_98⟩ := hq9
        refine g_ws hC [cO m0 10 [w_thrown, .ref m1, w_image, w_frame, w_hasImage, .int (iI ac), .int (iI p4), .int (iI e), .int (iI w4), .int (iI o3), w_by, w_truths, w_pulls, w_isKeeping, w_next, w_first, w_order, w_bestOrder, w_rooms, w_leastUnlike, w_bodies, w_ran, w_kind, w_number, w_tellsV], cA K m1 922 s3] rfl ?_
        refine g_st hC [] rfl ?_
        refine g_aload_n (pc := 101) hC 1 dX10_factor_101 rfl rfl ?_
        refine g_dup (pc := 102) hC dX10_factor_102 rfl ?_
        refine g_get (pc := 103) hC 0 fl_X10_88 dX10_factor_103 rfl rfl ?_
        refine g_iconst (pc := 106) hC dX10_factor_106 ?_
        refine g_isub (pc := 107) hC dX10_factor_107 ?_
        refine g_putI (pc := 108) hC 0 [cO _ _ [_, _, _, _, _, _, _, _, _, _, _, _, _, _, _, _, _, _, _, _, _, _, _, _, _], _] fl_X10_88 dX10_factor_108 rfl (Nat.le_of_ble_eq_true rfl) rfl ?_
        exact g_vret (pc := 111) hR dX10_factor_111 rfl ⟨by omega, by omega⟩ (Nat.le_of_ble_eq_true rfl) ⟨w4, p4, o3 - 1, s3, l3, rfl, rfl, (by first | assumption | omega), (by first | assumption | omega), (by first | assumption | omega), (by first | assumption | omega), (px_fac_br c4 (by omega) hz_92 hz_98), hs2_92, hT2_92, (by first | assumption | omega), (by first | assumption | omega), (by first | assumption | omega)⟩
  · exact g_vret (pc := 7) hR dX10_factor_7 rfl ⟨by omega, by omega⟩ (Nat.le_of_ble_eq_true rfl) ⟨w, p, o, s, l, rfl, rfl, (by first | assumption | omega), (by first | assumption | omega), (by first | assumption | omega), (by first | assumption | omega), (px_fac_w c4).symm, hs, hT, (by first | assumption | omega), (by first | assumption | omega), (by first | assumption | omega)⟩
set_option maxHeartbeats 4000000 in
set_option maxRecDepth 100000 in
theorem k_X10_every_1 {K : gK} (m0 : Nat) (m1 : Nat) (w_thrown : Value) (w_image : Value) (w_frame : Value) (w_hasImage : Value) (w_by : Value) (w_truths : Value) (w_pulls : Value) (w_isKeeping : Value) (w_next : Value) (w_first : Value) (w_order : Value) (w_bestOrder : Value) (w_rooms : Value) (w_leastUnlike : Value) (w_bodies : Value) (w_ran : Value) (w_kind : Value) (w_number : Value) (w_tellsV : Value) (ac : Int) (p : Int) (e : Int) (w : Int) (o : Int) (s : Int → Int) (T : Int → Int) (s0 : Int → Int) (l : List Int) (r_ac : rI ac) (r_p : rI p) (r_e : rI e) (r_w : rI w) (r_o : rI o) (r_s : ∀ j, rI (s j)) (hT : md_T T e s) (hs : s = px_row s0 ac l) (hac : 0 ≤ ac ∧ ac ≤ 4) (hp : 0 ≤ p ∧ p ≤ e) (hw : w = 0 ∨ w = 1) (ho : w = 0 → o = 4) (hl : (l.length : Int) ≤ p) : gMet K yX10_every cX10_every 1 none 10 0 0 [.ref m0] [cO m0 10 [w_thrown, .ref m1, w_image, w_frame, w_hasImage, .int (iI ac), .int (iI p), .int (iI e), .int (iI w), .int (iI o), w_by, w_truths, w_pulls, w_isKeeping, w_next, w_first, w_order, w_bestOrder, w_rooms, w_leastUnlike, w_bodies, w_ran, w_kind, w_number, w_tellsV], cA K m1 922 s] (fun v9 w9 => ∃ (w2 : Int), ∃ (p2 : Int), ∃ (o2 : Int), ∃ (s2 : Int → Int), ∃ (l2 : List Int), v9 = none ∧ w9 = [cO m0 10 [w_thrown, .ref m1, w_image, w_frame, w_hasImage, .int (iI ac), .int (iI p2), .int (iI e), .int (iI w2), .int (iI o2), w_by, w_truths, w_pulls, w_isKeeping, w_next, w_first, w_order, w_bestOrder, w_rooms, w_leastUnlike, w_bodies, w_ran, w_kind, w_number, w_tellsV], cA K m1 922 s2] ∧ rI w2 ∧ rI p2 ∧ rI o2 ∧ (∀ j, rI (s2 j)) ∧ ((w2, p2, l2) = px_every T (px_fac T 1) (w, p, l)) ∧ (s2 = px_row s0 ac l2) ∧ (md_T T e s2) ∧ (o2 = o ∧ (w2 = 0 → o = 4 ∧ w = 0)) ∧ ((w2 = 0 ∨ w2 = 1) ∧ p ≤ p2 ∧ p2 ≤ e) ∧ ((l2.length : Int) + p ≤ (l.length : Int) + p2)) := by
  refine g_enter (by decide +kernel) (Nat.le_of_ble_eq_true rfl) (fun G hC hR => ?_)
  refine g_lv hC [0] [(0, _)] rfl ?_
  have hge := hT.1
  refine g_aload_n (pc := 0) hC 0 dX10_every_0 rfl rfl ?_
  refine g_callV (pc := 1) (qr := 0) hC [0, 1] (k_X10_factor_1 _ _ _ _ _ _ _ _ _ _ _ _ _ _ _ _ _ _ _ _ _ _ _ _ _ _ _ _ _ _ (by first | assumption | omega) (by first | assumption | omega) (by first | assumption | omega) (by first | assumption | omega) (by first | assumption | omega) (by first | assumption | omega) (by first | assumption | omega) (by first | assumption | omega) (by first | assumption | omega) (by first | assumption | omega) (by first | assumption | omega) (by first | assumption | omega) (by first | assumption | omega)) cl_X10_factor wm_X10_91 dX10_every_1 rfl rfl rfl rfl rfl (by decide) (by decide) (by omega) (Nat.le_of_ble_eq_true rfl) rfl (fun v9 w9 hq9 => ?_)
  obtain ⟨w3, p3, o3, s3, l3, rfl, rfl, r_w3, r_p3, r_o3, r_s3, hz_1, hs2_1, hT2_1, ho2_1, hb_1, hl2_1⟩ := hq9
  refine g_ws hC [cO m0 10 [w_thrown, .ref m1, w_image, w_frame, w_hasImage, .int (iI ac), .int (iI p3), .int (iI e), .int (iI w3), .int (iI o3), w_by, w_truths, w_pulls, w_isKeeping, w_next, w_first, w_order, w_bestOrder, w_rooms, w_leastUnlike, w_bodies, w_ran, w_kind, w_number, w_tellsV], cA K m1 922 s3] rfl ?_
  refine g_st hC [] rfl ?_
  have L4 : ∀ (n1 : Nat) (w1 : Int) (p1 : Int) (o1 : Int) (f1 : Int → Int) (l1 : List Int) (f : Nat), (rI w1) → (rI p1) → (rI o1) → (∀ j, rI (f1 j)) → (f1 = px_row s0 ac l1) → (md_T T e f1) → (px_ev T (px_fac T 1) f (w1, p1, l1) = px_every T (px_fac T 1) (w, p, l)) → ((w1 = 0 ∨ w1 = 1) ∧ p ≤ p1 ∧ p1 ≤ e) → (o1 = o ∧ (w1 = 0 → o = 4 ∧ w = 0)) → ((l1.length : Int) + p ≤ (l.length : Int) + p1) → (e - p1 ≤ (f : Int)) → e - p1 < (n1 : Int) → G 0 0 4 [(0, .ref m0)] [] [cO m0 10 [w_thrown, .ref m1, w_image, w_frame, w_hasImage, .int (iI ac), .int (iI p1), .int (iI e), .int (iI w1), .int (iI o1), w_by, w_truths, w_pulls, w_isKeeping, w_next, w_first, w_order, w_bestOrder, w_rooms, w_leastUnlike, w_bodies, w_ran, w_kind, w_number, w_tellsV], cA K m1 922 f1] := by
    intro n1
    induction n1 with
    | zero => intro w1 p1 o1 f1 l1 f r_w1 r_p1 r_o1 r_f1 hs1 hT1 hz hb1 ho1 hl1 hf hm4; exfalso; omega
    | succ n1 ih4 =>
      intro w1 p1 o1 f1 l1 f r_w1 r_p1 r_o1 r_f1 hs1 hT1 hz hb1 ho1 hl1 hf hm4
      refine g_aload_n (pc := 4) hC 0 dX10_every_4 rfl rfl ?_
      refine g_get (pc := 5) hC 0 fl_X10_64 dX10_every_5 rfl rfl ?_
      refine g_if_ne (pc := 8) hC 43 dX10_every_8 (by decide) (by omega) (fun c8 => ?_) (fun c8 => ?_)
      · exact g_vret (pc := 43) hR dX10_every_43 rfl ⟨by omega, by omega⟩ (Nat.le_of_ble_eq_true rfl) ⟨w1, p1, o1, f1, l1, rfl, rfl, (by first | assumption | omega), (by first | assumption | omega), (by first | assumption | omega), (by first | assumption | omega), (by rw [← hz]; exact (px_ev_end (fun h9 => c8 h9.1)).symm), hs1, hT1, ho1, hb1, hl1⟩
      · refine g_aload_n (pc := 11) hC 0 dX10_every_11 rfl rfl ?_
        refine g_fnV (pc := 12) (qr := 0) hC [0, 1] (k_X10_here _ _ _ _ _ _ _ _ _ _ _ _ _ _ _ _ _ _ _ _ _ _ _ _ _ _ _ _ (by first | assumption | omega) (by first | assumption | omega) (by first | assumption | omega) (by first | assumption | omega) (by first | assumption | omega) (by first | assumption | omega) (by first | assumption | omega) (by first | assumption | omega)) cl_X10_here wm_X10_68 dX10_every_12 rfl rfl rfl rfl rfl (by decide) (by decide) ⟨by omega, by omega⟩ (Nat.le_of_ble_eq_true rfl) rfl rfl ?_
        refine g_name hC (fun x2 e_x2 => ?_)
        have q_x2 : -1 ≤ x2 ∧ x2 ≤ 127 := by rw [e_x2]; exact hT.2.2.1 _
        refine g_bipush (pc := 15) hC (38) dX10_every_15 (by decide) ?_
        refine g_icmp_ne (pc := 17) hC 43 dX10_every_17 (by decide) (by omega) (by omega) (fun c17 => ?_) (fun c17 => ?_)
        · exact g_vret (pc := 43) hR dX10_every_43 rfl ⟨by omega, by omega⟩ (Nat.le_of_ble_eq_true rfl) ⟨w1, p1, o1, f1, l1, rfl, rfl, (by first | assumption | omega), (by first | assumption | omega), (by first | assumption | omega), (by first | assumption | omega), (by rw [← hz]; exact (px_ev_end (fun h9 => absurd (show T p1 = 38 from h9.2) (by omega))).symm), hs1, hT1, ho1, hb1, hl1⟩
        · have hlt := px_lt hT1 (by omega) (show T p1 = 38 by omega) (by omega)
          obtain ⟨g9, rfl⟩ : ∃ g9, f = g9 + 1 := ⟨f - 1, by omega⟩
          refine g_aload_n (pc := 20) hC 0 dX10_every_20 rfl rfl ?_
          refine g_dup (pc := 21) hC dX10_every_21 rfl ?_
          refine g_get (pc := 22) hC 0 fl_X10_58 dX10_every_22 rfl rfl ?_
          refine g_iconst (pc := 25) hC dX10_every_25 ?_
          refine g_iadd (pc := 26) hC dX10_every_26 ?_
          refine g_putI (pc := 27) hC 0 [cO _ _ [_, _, _, _, _, _, _, _, _, _, _, _, _, _, _, _, _, _, _, _, _, _, _, _, _], _] fl_X10_58 dX10_every_27 rfl (Nat.le_of_ble_eq_true rfl) rfl ?_
          refine g_aload_n (pc := 30) hC 0 dX10_every_30 rfl rfl ?_
          refine g_callV (pc := 31) (qr := 0) hC [0, 1] (k_X10_factor_1 _ _ _ _ _ _ _ _ _ _ _ _ _ _ _ _ _ _ _ _ _ _ _ _ _ _ _ _ _ _ (by first | assumption | omega) (by first | assumption | omega) (by first | assumption | omega) (by first | assumption | omega) (by first | assumption | omega) (by first | assumption | omega) (by first | assumption | omega) (by first | assumption | omega) (by first | assumption | omega) (by first | assumption | omega) (by first | assumption | omega) (by first | assumption | omega) (by first | assumption | omega)) cl_X10_factor wm_X10_91 dX10_every_31 rfl rfl rfl rfl rfl (by decide) (by decide) (by omega) (Nat.le_of_ble_eq_true rfl) rfl (fun v9 w9 hq9 => ?_)
          obtain ⟨w5, p5, o5, s5, l5, rfl, rfl, r_w5, r_p5, r_o5, r_s5, hz_31, hs2_31, hT2_31, ho2_31, hb_31, hl2_31⟩ := hq9
          refine g_ws hC [cO m0 10 [w_thrown, .ref m1, w_image, w_frame, w_hasImage, .int (iI ac), .int (iI p5), .int (iI e), .int (iI w5), .int (iI o5), w_by, w_truths, w_pulls, w_isKeeping, w_next, w_first, w_order, w_bestOrder, w_rooms, w_leastUnlike, w_bodies, w_ran, w_kind, w_number, w_tellsV], cA K m1 922 s5] rfl ?_
          refine g_st hC [] rfl ?_
          refine g_aload_n (pc := 34) hC 0 dX10_every_34 rfl rfl ?_
          refine g_bipush (pc := 35) hC (-2) dX10_every_35 (by decide) ?_
          refine g_callV (pc := 37) (qr := 0) hC [0, 1] (k_X10_emits _ _ _ _ _ _ _ _ _ _ _ _ _ _ _ _ _ _ _ _ _ _ _ _ _ _ _ _ _ _ _ (by first | assumption | omega) (by first | assumption | omega) (by first | assumption | omega) (by first | assumption | omega) (by first | assumption | omega) (by first | assumption | omega) (by first | assumption | omega) (by first | assumption | omega) (by first | assumption | omega) (by first | assumption | omega) (by first | assumption | omega)) cl_X10_emits wm_X10_94 dX10_every_37 rfl rfl rfl rfl rfl (by decide) (by decide) (by omega) (Nat.le_of_ble_eq_true rfl) rfl (fun v9 w9 hq9 => ?_)
          obtain ⟨s6, l6, rfl, rfl, r_s6, h4_37, hs2_37, hT2_37, hl2_37⟩ := hq9
          refine g_ws hC [cO m0 10 [w_thrown, .ref m1, w_image, w_frame, w_hasImage, .int (iI ac), .int (iI p5), .int (iI e), .int (iI w5), .int (iI o5), w_by, w_truths, w_pulls, w_isKeeping, w_next, w_first, w_order, w_bestOrder, w_rooms, w_leastUnlike, w_bodies, w_ran, w_kind, w_number, w_tellsV], cA K m1 922 s6] rfl ?_
          refine g_st hC [] rfl ?_
          refine g_goto (pc := 40) hC 4 dX10_every_40 (by decide) ?_
          exact ih4 w5 p5 o5 s6 l6 g9 (by first | assumption | omega) (by first | assumption | omega) (by first | assumption | omega) (by first | assumption | omega) (by first | assumption | omega) (by first | assumption | omega) (px_ev_s hz (by omega) (by omega) hz_31 h4_37) (by first | assumption | omega) (by first | assumption | omega) (by first | assumption | omega) (by first | assumption | omega) (by omega)
  exact L4 ((e - p3 : Int).toNat + 1) w3 p3 o3 s3 l3 101 (by first | assumption | omega) (by first | assumption | omega) (by first | assumption | omega) (by first | assumption | omega) (by first | assumption | omega) (by first | assumption | omega) (by unfold px_every; rw [← hz_1]) (by first | assumption | omega) (by first | assumption | omega) (by first | assumption | omega) (by first | assumption | omega) (by omega)
set_option maxHeartbeats 4000000 in
set_option maxRecDepth 100000 in
theorem k_X10_some_1 {K : gK} (m0 : Nat) (m1 : Nat) (w_thrown : Value) (w_image : Value) (w_frame : Value) (w_hasImage : Value) (w_by : Value) (w_truths : Value) (w_pulls : Value) (w_isKeeping : Value) (w_next : Value) (w_first : Value) (w_order : Value) (w_bestOrder : Value) (w_rooms : Value) (w_leastUnlike : Value) (w_bodies : Value) (w_ran : Value) (w_kind : Value) (w_number : Value) (w_tellsV : Value) (ac : Int) (p : Int) (e : Int) (w : Int) (o : Int) (s : Int → Int) (T : Int → Int) (s0 : Int → Int) (l : List Int) (r_ac : rI ac) (r_p : rI p) (r_e : rI e) (r_w : rI w) (r_o : rI o) (r_s : ∀ j, rI (s j)) (hT : md_T T e s) (hs : s = px_row s0 ac l) (hac : 0 ≤ ac ∧ ac ≤ 4) (hp : 0 ≤ p ∧ p ≤ e) (hw : w = 0 ∨ w = 1) (ho : w = 0 → o = 4) (hl : (l.length : Int) ≤ p) : gMet K yX10_some cX10_some 1 none 11 0 0 [.ref m0] [cO m0 10 [w_thrown, .ref m1, w_image, w_frame, w_hasImage, .int (iI ac), .int (iI p), .int (iI e), .int (iI w), .int (iI o), w_by, w_truths, w_pulls, w_isKeeping, w_next, w_first, w_order, w_bestOrder, w_rooms, w_leastUnlike, w_bodies, w_ran, w_kind, w_number, w_tellsV], cA K m1 922 s] (fun v9 w9 => ∃ (w2 : Int), ∃ (p2 : Int), ∃ (o2 : Int), ∃ (s2 : Int → Int), ∃ (l2 : List Int), v9 = none ∧ w9 = [cO m0 10 [w_thrown, .ref m1, w_image, w_frame, w_hasImage, .int (iI ac), .int (iI p2), .int (iI e), .int (iI w2), .int (iI o2), w_by, w_truths, w_pulls, w_isKeeping, w_next, w_first, w_order, w_bestOrder, w_rooms, w_leastUnlike, w_bodies, w_ran, w_kind, w_number, w_tellsV], cA K m1 922 s2] ∧ rI w2 ∧ rI p2 ∧ rI o2 ∧ (∀ j, rI (s2 j)) ∧ ((w2, p2, l2) = px_some T (px_fac T 1) (w, p, l)) ∧ (s2 = px_row s0 ac l2) ∧ (md_T T e s2) ∧ (o2 = o ∧ (w2 = 0 → o = 4 ∧ w = 0)) ∧ ((w2 = 0 ∨ w2 = 1) ∧ p ≤ p2 ∧ p2 ≤ e) ∧ ((l2.length : Int) + p ≤ (l.length : Int) + p2)) := by
  refine g_enter (by decide +kernel) (Nat.le_of_ble_eq_true rfl) (fun G hC hR => ?_)
  refine g_lv hC [0] [(0, _)] rfl ?_
  have hge := hT.1
  refine g_aload_n (pc := 0) hC 0 dX10_some_0 rfl rfl ?_
  refine g_callV (pc := 1) (qr := 0) hC [0, 1] (k_X10_every_1 _ _ _ _ _ _ _ _ _ _ _ _ _ _ _ _ _ _ _ _ _ _ _ _ _ _ _ _ _ _ (by first | assumption | omega) (by first | assumption | omega) (by first | assumption | omega) (by first | assumption | omega) (by first | assumption | omega) (by first | assumption | omega) (by first | assumption | omega) (by first | assumption | omega) (by first | assumption | omega) (by first | assumption | omega) (by first | assumption | omega) (by first | assumption | omega) (by first | assumption | omega)) cl_X10_every wm_X10_111 dX10_some_1 rfl rfl rfl rfl rfl (by decide) (by decide) (by omega) (Nat.le_of_ble_eq_true rfl) rfl (fun v9 w9 hq9 => ?_)
  obtain ⟨w3, p3, o3, s3, l3, rfl, rfl, r_w3, r_p3, r_o3, r_s3, hz_1, hs2_1, hT2_1, ho2_1, hb_1, hl2_1⟩ := hq9
  refine g_ws hC [cO m0 10 [w_thrown, .ref m1, w_image, w_frame, w_hasImage, .int (iI ac), .int (iI p3), .int (iI e), .int (iI w3), .int (iI o3), w_by, w_truths, w_pulls, w_isKeeping, w_next, w_first, w_order, w_bestOrder, w_rooms, w_leastUnlike, w_bodies, w_ran, w_kind, w_number, w_tellsV], cA K m1 922 s3] rfl ?_
  refine g_st hC [] rfl ?_
  have L4 : ∀ (n1 : Nat) (w1 : Int) (p1 : Int) (o1 : Int) (f1 : Int → Int) (l1 : List Int) (f : Nat), (rI w1) → (rI p1) → (rI o1) → (∀ j, rI (f1 j)) → (f1 = px_row s0 ac l1) → (md_T T e f1) → (px_so T (px_fac T 1) f (w1, p1, l1) = px_some T (px_fac T 1) (w, p, l)) → ((w1 = 0 ∨ w1 = 1) ∧ p ≤ p1 ∧ p1 ≤ e) → (o1 = o ∧ (w1 = 0 → o = 4 ∧ w = 0)) → ((l1.length : Int) + p ≤ (l.length : Int) + p1) → (e - p1 ≤ (f : Int)) → e - p1 < (n1 : Int) → G 0 0 4 [(0, .ref m0)] [] [cO m0 10 [w_thrown, .ref m1, w_image, w_frame, w_hasImage, .int (iI ac), .int (iI p1), .int (iI e), .int (iI w1), .int (iI o1), w_by, w_truths, w_pulls, w_isKeeping, w_next, w_first, w_order, w_bestOrder, w_rooms, w_leastUnlike, w_bodies, w_ran, w_kind, w_number, w_tellsV], cA K m1 922 f1] := by
    intro n1
    induction n1 with
    | zero => intro w1 p1 o1 f1 l1 f r_w1 r_p1 r_o1 r_f1 hs1 hT1 hz hb1 ho1 hl1 hf hm4; exfalso; omega
    | succ n1 ih4 =>
      intro w1 p1 o1 f1 l1 f r_w1 r_p1 r_o1 r_f1 hs1 hT1 hz hb1 ho1 hl1 hf hm4
      refine g_aload_n (pc := 4) hC 0 dX10_some_4 rfl rfl ?_
      refine g_get (pc := 5) hC 0 fl_X10_64 dX10_some_5 rfl rfl ?_
      refine g_if_ne (pc := 8) hC 43 dX10_some_8 (by decide) (by omega) (fun c8 => ?_) (fun c8 => ?_)
      · exact g_vret (pc := 43) hR dX10_some_43 rfl ⟨by omega, by omega⟩ (Nat.le_of_ble_eq_true rfl) ⟨w1, p1, o1, f1, l1, rfl, rfl, (by first | assumption | omega), (by first | assumption | omega), (by first | assumption | omega), (by first | assumption | omega), (by rw [← hz]; exact (px_so_end (fun h9 => c8 h9.1)).symm), hs1, hT1, ho1, hb1, hl1⟩
      · refine g_aload_n (pc := 11) hC 0 dX10_some_11 rfl rfl ?_
        refine g_fnV (pc := 12) (qr := 0) hC [0, 1] (k_X10_here _ _ _ _ _ _ _ _ _ _ _ _ _ _ _ _ _ _ _ _ _ _ _ _ _ _ _ _ (by first | assumption | omega) (by first | assumption | omega) (by first | assumption | omega) (by first | assumption | omega) (by first | assumption | omega) (by first | assumption | omega) (by first | assumption | omega) (by first | assumption | omega)) cl_X10_here wm_X10_68 dX10_some_12 rfl rfl rfl rfl rfl (by decide) (by decide) ⟨by omega, by omega⟩ (Nat.le_of_ble_eq_true rfl) rfl rfl ?_
        refine g_name hC (fun x2 e_x2 => ?_)
        have q_x2 : -1 ≤ x2 ∧ x2 ≤ 127 := by rw [e_x2]; exact hT.2.2.1 _
        refine g_bipush (pc := 15) hC (124) dX10_some_15 (by decide) ?_
        refine g_icmp_ne (pc := 17) hC 43 dX10_some_17 (by decide) (by omega) (by omega) (fun c17 => ?_) (fun c17 => ?_)
        · exact g_vret (pc := 43) hR dX10_some_43 rfl ⟨by omega, by omega⟩ (Nat.le_of_ble_eq_true rfl) ⟨w1, p1, o1, f1, l1, rfl, rfl, (by first | assumption | omega), (by first | assumption | omega), (by first | assumption | omega), (by first | assumption | omega), (by rw [← hz]; exact (px_so_end (fun h9 => absurd (show T p1 = 124 from h9.2) (by omega))).symm), hs1, hT1, ho1, hb1, hl1⟩
        · have hlt := px_lt hT1 (by omega) (show T p1 = 124 by omega) (by omega)
          obtain ⟨g9, rfl⟩ : ∃ g9, f = g9 + 1 := ⟨f - 1, by omega⟩
          refine g_aload_n (pc := 20) hC 0 dX10_some_20 rfl rfl ?_
          refine g_dup (pc := 21) hC dX10_some_21 rfl ?_
          refine g_get (pc := 22) hC 0 fl_X10_58 dX10_some_22 rfl rfl ?_
          refine g_iconst (pc := 25) hC dX10_some_25 ?_
          refine g_iadd (pc := 26) hC dX10_some_26 ?_
          refine g_putI (pc := 27) hC 0 [cO _ _ [_, _, _, _, _, _, _, _, _, _, _, _, _, _, _, _, _, _, _, _, _, _, _, _, _], _] fl_X10_58 dX10_some_27 rfl (Nat.le_of_ble_eq_true rfl) rfl ?_
          refine g_aload_n (pc := 30) hC 0 dX10_some_30 rfl rfl ?_
          refine g_callV (pc := 31) (qr := 0) hC [0, 1] (k_X10_every_1 _ _ _ _ _ _ _ _ _ _ _ _ _ _ _ _ _ _ _ _ _ _ _ _ _ _ _ _ _ _ (by first | assumption | omega) (by first | assumption | omega) (by first | assumption | omega) (by first | assumption | omega) (by first | assumption | omega) (by first | assumption | omega) (by first | assumption | omega) (by first | assumption | omega) (by first | assumption | omega) (by first | assumption | omega) (by first | assumption | omega) (by first | assumption | omega) (by first | assumption | omega)) cl_X10_every wm_X10_111 dX10_some_31 rfl rfl rfl rfl rfl (by decide) (by decide) (by omega) (Nat.le_of_ble_eq_true rfl) rfl (fun v9 w9 hq9 => ?_)
          obtain ⟨w5, p5, o5, s5, l5, rfl, rfl, r_w5, r_p5, r_o5, r_s5, hz_31, hs2_31, hT2_31, ho2_31, hb_31, hl2_31⟩ := hq9
          refine g_ws hC [cO m0 10 [w_thrown, .ref m1, w_image, w_frame, w_hasImage, .int (iI ac), .int (iI p5), .int (iI e), .int (iI w5), .int (iI o5), w_by, w_truths, w_pulls, w_isKeeping, w_next, w_first, w_order, w_bestOrder, w_rooms, w_leastUnlike, w_bodies, w_ran, w_kind, w_number, w_tellsV], cA K m1 922 s5] rfl ?_
          refine g_st hC [] rfl ?_
          refine g_aload_n (pc := 34) hC 0 dX10_some_34 rfl rfl ?_
          refine g_bipush (pc := 35) hC (-3) dX10_some_35 (by decide) ?_
          refine g_callV (pc := 37) (qr := 0) hC [0, 1] (k_X10_emits _ _ _ _ _ _ _ _ _ _ _ _ _ _ _ _ _ _ _ _ _ _ _ _ _ _ _ _ _ _ _ (by first | assumption | omega) (by first | assumption | omega) (by first | assumption | omega) (by first | assumption | omega) (by first | assumption | omega) (by first | assumption | omega) (by first | assumption | omega) (by first | assumption | omega) (by first | assumption | omega) (by first | assumption | omega) (by first | assumption | omega)) cl_X10_emits wm_X10_94 dX10_some_37 rfl rfl rfl rfl rfl (by decide) (by decide) (by omega) (Nat.le_of_ble_eq_true rfl) rfl (fun v9 w9 hq9 => ?_)
          obtain ⟨s6, l6, rfl, rfl, r_s6, h4_37, hs2_37, hT2_37, hl2_37⟩ := hq9
          refine g_ws hC [cO m0 10 [w_thrown, .ref m1, w_image, w_frame, w_hasImage, .int (iI ac), .int (iI p5), .int (iI e), .int (iI w5), .int (iI o5), w_by, w_truths, w_pulls, w_isKeeping, w_next, w_first, w_order, w_bestOrder, w_rooms, w_leastUnlike, w_bodies, w_ran, w_kind, w_number, w_tellsV], cA K m1 922 s6] rfl ?_
          refine g_st hC [] rfl ?_
          refine g_goto (pc := 40) hC 4 dX10_some_40 (by decide) ?_
          exact ih4 w5 p5 o5 s6 l6 g9 (by first | assumption | omega) (by first | assumption | omega) (by first | assumption | omega) (by first | assumption | omega) (by first | assumption | omega) (by first | assumption | omega) (px_so_s hz (by omega) (by omega) hz_31 h4_37) (by first | assumption | omega) (by first | assumption | omega) (by first | assumption | omega) (by first | assumption | omega) (by omega)
  exact L4 ((e - p3 : Int).toNat + 1) w3 p3 o3 s3 l3 101 (by first | assumption | omega) (by first | assumption | omega) (by first | assumption | omega) (by first | assumption | omega) (by first | assumption | omega) (by first | assumption | omega) (by unfold px_some; rw [← hz_1]) (by first | assumption | omega) (by first | assumption | omega) (by first | assumption | omega) (by first | assumption | omega) (by omega)
set_option maxHeartbeats 4000000 in
set_option maxRecDepth 100000 in
theorem k_X10_factor_2 {K : gK} (m0 : Nat) (m1 : Nat) (w_thrown : Value) (w_image : Value) (w_frame : Value) (w_hasImage : Value) (w_by : Value) (w_truths : Value) (w_pulls : Value) (w_isKeeping : Value) (w_next : Value) (w_first : Value) (w_order : Value) (w_bestOrder : Value) (w_rooms : Value) (w_leastUnlike : Value) (w_bodies : Value) (w_ran : Value) (w_kind : Value) (w_number : Value) (w_tellsV : Value) (ac : Int) (p : Int) (e : Int) (w : Int) (o : Int) (s : Int → Int) (T : Int → Int) (s0 : Int → Int) (l : List Int) (r_ac : rI ac) (r_p : rI p) (r_e : rI e) (r_w : rI w) (r_o : rI o) (r_s : ∀ j, rI (s j)) (hT : md_T T e s) (hs : s = px_row s0 ac l) (hac : 0 ≤ ac ∧ ac ≤ 4) (hp : 0 ≤ p ∧ p ≤ e) (hw : w = 0 ∨ w = 1) (ho : w = 0 → o = 3) (hl : (l.length : Int) ≤ p) : gMet K yX10_factor cX10_factor 5 none 12 0 0 [.ref m0] [cO m0 10 [w_thrown, .ref m1, w_image, w_frame, w_hasImage, .int (iI ac), .int (iI p), .int (iI e), .int (iI w), .int (iI o), w_by, w_truths, w_pulls, w_isKeeping, w_next, w_first, w_order, w_bestOrder, w_rooms, w_leastUnlike, w_bodies, w_ran, w_kind, w_number, w_tellsV], cA K m1 922 s] (fun v9 w9 => ∃ (w2 : Int), ∃ (p2 : Int), ∃ (o2 : Int), ∃ (s2 : Int → Int), ∃ (l2 : List Int), v9 = none ∧ w9 = [cO m0 10 [w_thrown, .ref m1, w_image, w_frame, w_hasImage, .int (iI ac), .int (iI p2), .int (iI e), .int (iI w2), .int (iI o2), w_by, w_truths, w_pulls, w_isKeeping, w_next, w_first, w_order, w_bestOrder, w_rooms, w_leastUnlike, w_bodies, w_ran, w_kind, w_number, w_tellsV], cA K m1 922 s2] ∧ rI w2 ∧ rI p2 ∧ rI o2 ∧ (∀ j, rI (s2 j)) ∧ ((w2, p2, l2) = px_fac T 2 (w, p, l)) ∧ (s2 = px_row s0 ac l2) ∧ (md_T T e s2) ∧ (o2 = o ∧ (w2 = 0 → o = 3 ∧ w = 0)) ∧ ((w2 = 0 ∨ w2 = 1) ∧ p ≤ p2 ∧ p2 ≤ e) ∧ ((l2.length : Int) + p ≤ (l.length : Int) + p2)) := by
  refine g_enter (by decide +kernel) (Nat.le_of_ble_eq_true rfl) (fun G hC hR => ?_)
  refine g_lv hC [0] [(0, _)] rfl ?_
  have hge := hT.1
  refine g_aload_n (pc := 0) hC 0 dX10_factor_0 rfl rfl ?_
  refine g_get (pc := 1) hC 0 fl_X10_64 dX10_factor_1 rfl rfl ?_
  refine g_if_eq (pc := 4) hC 8 dX10_factor_4 (by decide) (by omega) (fun c4 => ?_) (fun c4 => ?_)
  · have ho9 := ho c4
    refine g_aload_n (pc := 8) hC 0 dX10_factor_8 rfl rfl ?_
    refine g_fnV (pc := 9) (qr := 0) hC [0, 1] (k_X10_here _ _ _ _ _ _ _ _ _ _ _ _ _ _ _ _ _ _ _ _ _ _ _ _ _ _ _ _ (by first | assumption | omega) (by first | assumption | omega) (by first | assumption | omega) (by first | assumption | omega) (by first | assumption | omega) (by first | assumption | omega) (by first | assumption | omega) (by first | assumption | omega)) cl_X10_here wm_X10_68 dX10_factor_9 rfl rfl rfl rfl rfl (by decide) (by decide) ⟨by omega, by omega⟩ (Nat.le_of_ble_eq_true rfl) rfl rfl ?_
    refine g_name hC (fun x9 e_x9 => ?_)
    have q_x9 : -1 ≤ x9 ∧ x9 ≤ 127 := by rw [e_x9]; exact hT.2.2.1 _
    refine g_istore_n (pc := 12) hC [(1, _), (0, _)] dX10_factor_12 rfl (by decide) rfl ?_
    refine g_iload_n (pc := 13) hC 0 dX10_factor_13 rfl rfl ?_
    refine g_bipush (pc := 14) hC (33) dX10_factor_14 (by decide) ?_
    refine g_icmp_eq (pc := 16) hC 25 dX10_factor_16 (by decide) (by omega) (by omega) (fun c16 => ?_) (fun c16 => ?_)
    · have hlt := px_lt hT hp.1 (show T p = 33 by omega) (by omega)
      refine g_aload_n (pc := 25) hC 1 dX10_factor_25 rfl rfl ?_
      refine g_aload_n (pc := 26) hC 1 dX10_factor_26 rfl rfl ?_
      refine g_get (pc := 27) hC 0 fl_X10_88 dX10_factor_27 rfl rfl ?_
      refine g_iconst (pc := 30) hC dX10_factor_30 ?_
      refine g_icmp_ne (pc := 31) hC 38 dX10_factor_31 (by decide) (by omega) (by omega) (fun c31 => ?_) (fun c31 => by exfalso; omega)
      refine g_iconst (pc := 38) hC dX10_factor_38 ?_
      refine g_putZ (pc := 39) hC 0 [cO _ _ [_, _, _, _, _, _, _, _, _, _, _, _, _, _, _, _, _, _, _, _, _, _, _, _, _], _] fl_X10_64 dX10_factor_39 rfl (Nat.le_of_ble_eq_true rfl) (by omega) rfl ?_
      refine g_aload_n (pc := 42) hC 1 dX10_factor_42 rfl rfl ?_
      refine g_dup (pc := 43) hC dX10_factor_43 rfl ?_
      refine g_get (pc := 44) hC 0 fl_X10_88 dX10_factor_44 rfl rfl ?_
      refine g_iconst (pc := 47) hC dX10_factor_47 ?_
      refine g_iadd (pc := 48) hC dX10_factor_48 ?_
      refine g_putI (pc := 49) hC 0 [cO _ _ [_, _, _, _, _, _, _, _, _, _, _, _, _, _, _, _, _, _, _, _, _, _, _, _, _], _] fl_X10_88 dX10_factor_49 rfl (Nat.le_of_ble_eq_true rfl) rfl ?_
      refine g_aload_n (pc := 52) hC 1 dX10_factor_52 rfl rfl ?_
      refine g_dup (pc := 53) hC dX10_factor_53 rfl ?_
      refine g_get (pc := 54) hC 0 fl_X10_58 dX10_factor_54 rfl rfl ?_
      refine g_aload_n (pc := 57) hC 1 dX10_factor_57 rfl rfl ?_
      refine g_get (pc := 58) hC 0 fl_X10_64 dX10_factor_58 rfl rfl ?_
      refine g_if_eq (pc := 61) hC 68 dX10_factor_61 (by decide) (by omega) (fun c61 => ?_) (fun c61 => by exfalso; omega)
      refine g_iconst (pc := 68) hC dX10_factor_68 ?_
      refine g_iadd (pc := 69) hC dX10_factor_69 ?_
      refine g_putI (pc := 70) hC 0 [cO _ _ [_, _, _, _, _, _, _, _, _, _, _, _, _, _, _, _, _, _, _, _, _, _, _, _, _], _] fl_X10_58 dX10_factor_70 rfl (Nat.le_of_ble_eq_true rfl) rfl ?_
      refine g_iload_n (pc := 73) hC 0 dX10_factor_73 rfl rfl ?_
      refine g_bipush (pc := 74) hC (33) dX10_factor_74 (by decide) ?_
      refine g_icmp_ne (pc := 76) hC 91 dX10_factor_76 (by decide) (by omega) (by omega) (fun c76 => by exfalso; omega) (fun c76 => ?_)
      refine g_aload_n (pc := 79) hC 1 dX10_factor_79 rfl rfl ?_
      refine g_callV (pc := 80) (qr := 0) hC [0, 1] (k_X10_factor_1 _ _ _ _ _ _ _ _ _ _ _ _ _ _ _ _ _ _ _ _ _ _ _ _ _ _ _ _ _ _ (by first | assumption | omega) (by first | assumption | omega) (by first | assumption | omega) (by first | assumption | omega) (by first | assumption | omega) (by first | assumption | omega) (by first | assumption | omega) (by first | assumption | omega) (by first | assumption | omega) (by first | assumption | omega) (by first | assumption | omega) (by first | assumption | omega) (by first | assumption | omega)) cl_X10_factor wm_X10_91 dX10_factor_80 rfl rfl rfl rfl rfl (by decide) (by decide) (by omega) (Nat.le_of_ble_eq_true rfl) rfl (fun v9 w9 hq9 => ?_)
      obtain ⟨w3, p3, o3, s3, l3, rfl, rfl, r_w3, r_p3, r_o3, r_s3, hz_80, hs2_80, hT2_80, ho2_80, hb_80, hl2_80⟩ := hq9
      refine g_ws hC [cO m0 10 [w_thrown, .ref m1, w_image, w_frame, w_hasImage, .int (iI ac), .int (iI p3), .int (iI e), .int (iI w3), .int (iI o3), w_by, w_truths, w_pulls, w_isKeeping, w_next, w_first, w_order, w_bestOrder, w_rooms, w_leastUnlike, w_bodies, w_ran, w_kind, w_number, w_tellsV], cA K m1 922 s3] rfl ?_
      refine g_st hC [] rfl ?_
      refine g_aload_n (pc := 83) hC 1 dX10_factor_83 rfl rfl ?_
      refine g_iconst (pc := 84) hC dX10_factor_84 ?_
      refine g_callV (pc := 85) (qr := 0) hC [0, 1] (k_X10_emits _ _ _ _ _ _ _ _ _ _ _ _ _ _ _ _ _ _ _ _ _ _ _ _ _ _ _ _ _ _ _ (by first | assumption | omega) (by first | assumption | omega) (by first | assumption | omega) (by first | assumption | omega) (by first | assumption | omega) (by first | assumption | omega) (by first | assumption | omega) (by first | assumption | omega) (by first | assumption | omega) (by first | assumption | omega) (by first | assumption | omega)) cl_X10_emits wm_X10_94 dX10_factor_85 rfl rfl rfl rfl rfl (by decide) (by decide) (by omega) (Nat.le_of_ble_eq_true rfl) rfl (fun v9 w9 hq9 => ?_)
      obtain ⟨s4, l4, rfl, rfl, r_s4, h4_85, hs2_85, hT2_85, hl2_85⟩ := hq9
      refine g_ws hC [cO m0 10 [w_thrown, .ref m1, w_image, w_frame, w_hasImage, .int (iI ac), .int (iI p3), .int (iI e), .int (iI w3), .int (iI o3), w_by, w_truths, w_pulls, w_isKeeping, w_next, w_first, w_order, w_bestOrder, w_rooms, w_leastUnlike, w_bodies, w_ran, w_kind, w_number, w_tellsV], cA K m1 922 s4] rfl ?_
      refine g_st hC [] rfl ?_
      refine g_goto (pc := 88) hC 101 dX10_factor_88 (by decide) ?_
      refine g_aload_n (pc := 101) hC 1 dX10_factor_101 rfl rfl ?_
      refine g_dup (pc := 102) hC dX10_factor_102 rfl ?_
      refine g_get (pc := 103) hC 0 fl_X10_88 dX10_factor_103 rfl rfl ?_
      refine g_iconst (pc := 106) hC dX10_factor_106 ?_
      refine g_isub (pc := 107) hC dX10_factor_107 ?_
      refine g_putI (pc := 108) hC 0 [cO _ _ [_, _, _, _, _, _, _, _, _, _, _, _, _, _, _, _, _, _, _, _, _, _, _, _, _], _] fl_X10_88 dX10_factor_108 rfl (Nat.le_of_ble_eq_true rfl) rfl ?_
      exact g_vret (pc := 111) hR dX10_factor_111 rfl ⟨by omega, by omega⟩ (Nat.le_of_ble_eq_true rfl) ⟨w3, p3, o3 - 1, s4, l4, rfl, rfl, (by first | assumption | omega), (by first | assumption | omega), (by first | assumption | omega), (by first | assumption | omega), (px_fac_not c4 (by omega) hz_80 h4_85), hs2_85, hT2_85, (by first | assumption | omega), (by first | assumption | omega), (by first | assumption | omega)⟩
    · refine g_iload_n (pc := 19) hC 0 dX10_factor_19 rfl rfl ?_
      refine g_bipush (pc := 20) hC (40) dX10_factor_20 (by decide) ?_
      refine g_icmp_ne (pc := 22) hC 112 dX10_factor_22 (by decide) (by omega) (by omega) (fun c22 => ?_) (fun c22 => ?_)
      · refine g_aload_n (pc := 112) hC 1 dX10_factor_112 rfl rfl ?_
        refine g_ldcS_X10_100 (pc := 113) hC rfl dX10_factor_113 ?_
        refine g_callV (pc := 115) (qr := 0) hC [0, 1] (k_X10_among _ _ _ _ _ _ _ _ _ _ _ _ _ _ _ _ _ _ _ _ _ _ _ _ _ _ _ _ _ (by first | assumption | omega) (by first | assumption | omega) (by first | assumption | omega) (by first | assumption | omega) (by first | assumption | omega) (by first | assumption | omega) (by first | assumption | omega) (by first | assumption | omega) (by first | assumption | omega)) cl_X10_among wm_X10_102 dX10_factor_115 rfl rfl rfl rfl rfl (by decide) (by decide) (by omega) (Nat.le_of_ble_eq_true rfl) rfl (fun v9 w9 hq9 => ?_)
        obtain ⟨pa, rfl, rfl, r_pa, hp2_115, hb_115⟩ := hq9
        refine g_ws hC [cO m0 10 [w_thrown, .ref m1, w_image, w_frame, w_hasImage, .int (iI ac), .int (iI pa), .int (iI e), .int (iI w), .int (iI o), w_by, w_truths, w_pulls, w_isKeeping, w_next, w_first, w_order, w_bestOrder, w_rooms, w_leastUnlike, w_bodies, w_ran, w_kind, w_number, w_tellsV], cA K m1 922 s] rfl ?_
        refine g_st hC [.int (iI (px_am 5 (T p) (sl 5).toNat))] rfl ?_
        refine g_name hC (fun a1 e_a1 => ?_)
        have ham := px_am_rng 5 (T p) (sl 5).toNat
        have hs5 := sl_rng (k := 5) (by decide)
        refine g_istore_n (pc := 118) hC [(2, _), (1, _), (0, _)] dX10_factor_118 rfl (by decide) rfl ?_
        refine g_aload_n (pc := 119) hC 2 dX10_factor_119 rfl rfl ?_
        refine g_iload_n (pc := 120) hC 0 dX10_factor_120 rfl rfl ?_
        refine g_iconst (pc := 121) hC dX10_factor_121 ?_
        refine g_icmp_ne (pc := 122) hC 129 dX10_factor_122 (by decide) (by omega) (by omega) (fun c122 => ?_) (fun c122 => ?_)
        · refine g_iconst (pc := 129) hC dX10_factor_129 ?_
          refine g_putZ (pc := 130) hC 0 [cO _ _ [_, _, _, _, _, _, _, _, _, _, _, _, _, _, _, _, _, _, _, _, _, _, _, _, _], _] fl_X10_64 dX10_factor_130 rfl (Nat.le_of_ble_eq_true rfl) (by omega) rfl ?_
          refine g_aload_n (pc := 133) hC 2 dX10_factor_133 rfl rfl ?_
          refine g_get (pc := 134) hC 0 fl_X10_64 dX10_factor_134 rfl rfl ?_
          refine g_if_eq (pc := 137) hC 144 dX10_factor_137 (by decide) (by omega) (fun c137 => ?_) (fun c137 => by exfalso; omega)
          refine g_aload_n (pc := 144) hC 2 dX10_factor_144 rfl rfl ?_
          refine g_ldcS_X10_106 (pc := 145) hC rfl dX10_factor_145 ?_
          refine g_callV (pc := 147) (qr := 0) hC [0, 1] (k_X10_among _ _ _ _ _ _ _ _ _ _ _ _ _ _ _ _ _ _ _ _ _ _ _ _ _ _ _ _ _ (by first | assumption | omega) (by first | assumption | omega) (by first | assumption | omega) (by first | assumption | omega) (by first | assumption | omega) (by first | assumption | omega) (by first | assumption | omega) (by first | assumption | omega) (by first | assumption | omega)) cl_X10_among wm_X10_102 dX10_factor_147 rfl rfl rfl rfl rfl (by decide) (by decide) (by omega) (Nat.le_of_ble_eq_true rfl) rfl (fun v9 w9 hq9 => ?_)
          obtain ⟨pb, rfl, rfl, r_pb, hp2_147, hb_147⟩ := hq9
          refine g_ws hC [cO m0 10 [w_thrown, .ref m1, w_image, w_frame, w_hasImage, .int (iI ac), .int (iI pb), .int (iI e), .int (iI 0), .int (iI o), w_by, w_truths, w_pulls, w_isKeeping, w_next, w_first, w_order, w_bestOrder, w_rooms, w_leastUnlike, w_bodies, w_ran, w_kind, w_number, w_tellsV], cA K m1 922 s] rfl ?_
          refine g_st hC [.int (iI (px_am 6 (T pa) (sl 6).toNat))] rfl ?_
          refine g_name hC (fun b1 e_b1 => ?_)
          have hbm := px_am_rng 6 (T pa) (sl 6).toNat
          have hs6 := sl_rng (k := 6) (by decide)
          refine g_istore_n (pc := 150) hC [(3, _), (2, _), (1, _), (0, _)] dX10_factor_150 rfl (by decide) rfl ?_
          refine g_aload_n (pc := 151) hC 3 dX10_factor_151 rfl rfl ?_
          refine g_aload_n (pc := 152) hC 3 dX10_factor_152 rfl rfl ?_
          refine g_get (pc := 153) hC 0 fl_X10_64 dX10_factor_153 rfl rfl ?_
          refine g_if_ne (pc := 156) hC 164 dX10_factor_156 (by decide) (by omega) (fun c156 => by exfalso; omega) (fun c156 => ?_)
          refine g_iload_n (pc := 159) hC 0 dX10_factor_159 rfl rfl ?_
          refine g_iconst (pc := 160) hC dX10_factor_160 ?_
          refine g_icmp_ne (pc := 161) hC 168 dX10_factor_161 (by decide) (by omega) (by omega) (fun c161 => ?_) (fun c161 => ?_)
          · refine g_iconst (pc := 168) hC dX10_factor_168 ?_
            refine g_putZ (pc := 169) hC 0 [cO _ _ [_, _, _, _, _, _, _, _, _, _, _, _, _, _, _, _, _, _, _, _, _, _, _, _, _], _] fl_X10_64 dX10_factor_169 rfl (Nat.le_of_ble_eq_true rfl) (by omega) rfl ?_
            refine g_aload_n (pc := 172) hC 3 dX10_factor_172 rfl rfl ?_
            refine g_callV (pc := 173) (qr := 0) hC [0, 1] (k_X10_figures _ _ _ _ _ _ _ _ _ _ _ _ _ _ _ _ _ _ _ _ _ _ _ _ _ _ _ _ (by first | assumption | omega) (by first | assumption | omega) (by first | assumption | omega) (by first | assumption | omega) (by first | assumption | omega) (by first | assumption | omega) (by first | assumption | omega) (by first | assumption | omega) (by first | assumption | omega)) cl_X10_figures wm_X10_108 dX10_factor_173 rfl rfl rfl rfl rfl (by decide) (by decide) (by omega) (Nat.le_of_ble_eq_true rfl) rfl (fun v9 w9 hq9 => ?_)
            obtain ⟨w3, p3, v3, rfl, rfl, r_w3, r_p3, r_v3, hz_173, hb_173, hv_173, hw0_173⟩ := hq9
            refine g_ws hC [cO m0 10 [w_thrown, .ref m1, w_image, w_frame, w_hasImage, .int (iI ac), .int (iI p3), .int (iI e), .int (iI w3), .int (iI o), w_by, w_truths, w_pulls, w_isKeeping, w_next, w_first, w_order, w_bestOrder, w_rooms, w_leastUnlike, w_bodies, w_ran, w_kind, w_number, w_tellsV], cA K m1 922 s] rfl ?_
            refine g_st hC [.int (iI v3)] rfl ?_
            skip
            refine g_istore (pc := 176) hC [(4, _), (3, _), (2, _), (1, _), (0, _)] dX10_factor_176 (by decide) rfl ?_
            refine g_aload_n (pc := 178) hC 4 dX10_factor_178 rfl rfl ?_
            refine g_iload_n (pc := 179) hC 2 dX10_factor_179 rfl rfl ?_
            refine g_bipush (pc := 180) hC (8) dX10_factor_180 (by decide) ?_
            refine g_iload_n (pc := 182) hC 1 dX10_factor_182 rfl rfl ?_
            refine g_imul (pc := 183) hC dX10_factor_183 ?_
            refine g_iadd (pc := 184) hC dX10_factor_184 ?_
            refine g_bipush (pc := 185) hC (32) dX10_factor_185 (by decide) ?_
            refine g_iload (pc := 187) hC 0 dX10_factor_187 rfl ?_
            refine g_imul (pc := 189) hC dX10_factor_189 ?_
            refine g_iadd (pc := 190) hC dX10_factor_190 ?_
            refine g_callV (pc := 191) (qr := 0) hC [0, 1] (k_X10_emits _ _ _ _ _ _ _ _ _ _ _ _ _ _ _ _ _ _ _ _ _ _ _ _ _ _ _ _ _ _ _ (by first | assumption | omega) (by first | assumption | omega) (by first | assumption | omega) (by first | assumption | omega) (by first | assumption | omega) (by first | assumption | omega) (by first | assumption | omega) (by first | assumption | omega) (by first | assumption | omega) (by first | assumption | omega) (by first | assumption | omega)) cl_X10_emits wm_X10_94 dX10_factor_191 rfl rfl rfl rfl rfl (by decide) (by decide) (by omega) (Nat.le_of_ble_eq_true rfl) rfl (fun v9 w9 hq9 => ?_)
            obtain ⟨s4, l4, rfl, rfl, r_s4, h4_191, hs2_191, hT2_191, hl2_191⟩ := hq9
            refine g_ws hC [cO m0 10 [w_thrown, .ref m1, w_image, w_frame, w_hasImage, .int (iI ac), .int (iI p3), .int (iI e), .int (iI w3), .int (iI o), w_by, w_truths, w_pulls, w_isKeeping, w_next, w_first, w_order, w_bestOrder, w_rooms, w_leastUnlike, w_bodies, w_ran, w_kind, w_number, w_tellsV], cA K m1 922 s4] rfl ?_
            refine g_st hC [] rfl ?_
            exact g_vret (pc := 194) hR dX10_factor_194 rfl ⟨by omega, by omega⟩ (Nat.le_of_ble_eq_true rfl) ⟨w3, p3, o, s4, l4, rfl, rfl, (by first | assumption | omega), (by first | assumption | omega), (by first | assumption | omega), (by first | assumption | omega), (px_fac_t c4 (by omega) (by omega) (px_tst_C e_a1 c122 hp2_115 e_b1 c161 hp2_147 hz_173 h4_191)), hs2_191, hT2_191, (by first | assumption | omega), (by first | assumption | omega), (by first | assumption | omega)⟩
          · refine g_iconst (pc := 164) hC dX10_factor_164 ?_
            refine g_goto (pc := 165) hC 169 dX10_factor_165 (by decide) ?_
            refine g_putZ (pc := 169) hC 0 [cO _ _ [_, _, _, _, _, _, _, _, _, _, _, _, _, _, _, _, _, _, _, _, _, _, _, _, _], _] fl_X10_64 dX10_factor_169 rfl (Nat.le_of_ble_eq_true rfl) (by omega) rfl ?_
            refine g_aload_n (pc := 172) hC 3 dX10_factor_172 rfl rfl ?_
            refine g_callV (pc := 173) (qr := 0) hC [0, 1] (k_X10_figures _ _ _ _ _ _ _ _ _ _ _ _ _ _ _ _ _ _ _ _ _ _ _ _ _ _ _ _ (by first | assumption | omega) (by first | assumption | omega) (by first | assumption | omega) (by first | assumption | omega) (by first | assumption | omega) (by first | assumption | omega) (by first | assumption | omega) (by first | assumption | omega) (by first | assumption | omega)) cl_X10_figures wm_X10_108 dX10_factor_173 rfl rfl rfl rfl rfl (by decide) (by decide) (by omega) (Nat.le_of_ble_eq_true rfl) rfl (fun v9 w9 hq9 => ?_)
            obtain ⟨w3, p3, v3, rfl, rfl, r_w3, r_p3, r_v3, hz_173, hb_173, hv_173, hw0_173⟩ := hq9
            refine g_ws hC [cO m0 10 [w_thrown, .ref m1, w_image, w_frame, w_hasImage, .int (iI ac), .int (iI p3), .int (iI e), .int (iI w3), .int (iI o), w_by, w_truths, w_pulls, w_isKeeping, w_next, w_first, w_order, w_bestOrder, w_rooms, w_leastUnlike, w_bodies, w_ran, w_kind, w_number, w_tellsV], cA K m1 922 s] rfl ?_
            refine g_st hC [.int (iI v3)] rfl ?_
            have hfw := px_fig_w (by omega) hz_173
            refine g_istore (pc := 176) hC [(4, _), (3, _), (2, _), (1, _), (0, _)] dX10_factor_176 (by decide) rfl ?_
            refine g_aload_n (pc := 178) hC 4 dX10_factor_178 rfl rfl ?_
            refine g_iload_n (pc := 179) hC 2 dX10_factor_179 rfl rfl ?_
            refine g_bipush (pc := 180) hC (8) dX10_factor_180 (by decide) ?_
            refine g_iload_n (pc := 182) hC 1 dX10_factor_182 rfl rfl ?_
            refine g_imul (pc := 183) hC dX10_factor_183 ?_
            refine g_iadd (pc := 184) hC dX10_factor_184 ?_
            refine g_bipush (pc := 185) hC (32) dX10_factor_185 (by decide) ?_
            refine g_iload (pc := 187) hC 0 dX10_factor_187 rfl ?_
            refine g_imul (pc := 189) hC dX10_factor_189 ?_
            refine g_iadd (pc := 190) hC dX10_factor_190 ?_
            refine g_callV (pc := 191) (qr := 0) hC [0, 1] (k_X10_emits _ _ _ _ _ _ _ _ _ _ _ _ _ _ _ _ _ _ _ _ _ _ _ _ _ _ _ _ _ _ _ (by first | assumption | omega) (by first | assumption | omega) (by first | assumption | omega) (by first | assumption | omega) (by first | assumption | omega) (by first | assumption | omega) (by first | assumption | omega) (by first | assumption | omega) (by first | assumption | omega) (by first | assumption | omega) (by first | assumption | omega)) cl_X10_emits wm_X10_94 dX10_factor_191 rfl rfl rfl rfl rfl (by decide) (by decide) (by omega) (Nat.le_of_ble_eq_true rfl) rfl (fun v9 w9 hq9 => ?_)
            obtain ⟨s4, l4, rfl, rfl, r_s4, h4_191, hs2_191, hT2_191, hl2_191⟩ := hq9
            refine g_ws hC [cO m0 10 [w_thrown, .ref m1, w_image, w_frame, w_hasImage, .int (iI ac), .int (iI p3), .int (iI e), .int (iI w3), .int (iI o), w_by, w_truths, w_pulls, w_isKeeping, w_next, w_first, w_order, w_bestOrder, w_rooms, w_leastUnlike, w_bodies, w_ran, w_kind, w_number, w_tellsV], cA K m1 922 s4] rfl ?_
            refine g_st hC [] rfl ?_
            exact g_vret (pc := 194) hR dX10_factor_194 rfl ⟨by omega, by omega⟩ (Nat.le_of_ble_eq_true rfl) ⟨w3, p3, o, s4, l4, rfl, rfl, (by first | assumption | omega), (by first | assumption | omega), (by first | assumption | omega), (by first | assumption | omega), (px_fac_t c4 (by omega) (by omega) (px_tst_B e_a1 c122 hp2_115 e_b1 c161 hp2_147 hz_173 h4_191)), hs2_191, hT2_191, (by first | assumption | omega), (by first | assumption | omega), (by first | assumption | omega)⟩
        · refine g_iconst (pc := 125) hC dX10_factor_125 ?_
          refine g_goto (pc := 126) hC 130 dX10_factor_126 (by decide) ?_
          refine g_putZ (pc := 130) hC 0 [cO _ _ [_, _, _, _, _, _, _, _, _, _, _, _, _, _, _, _, _, _, _, _, _, _, _, _, _], _] fl_X10_64 dX10_factor_130 rfl (Nat.le_of_ble_eq_true rfl) (by omega) rfl ?_
          refine g_aload_n (pc := 133) hC 2 dX10_factor_133 rfl rfl ?_
          refine g_get (pc := 134) hC 0 fl_X10_64 dX10_factor_134 rfl rfl ?_
          refine g_if_eq (pc := 137) hC 144 dX10_factor_137 (by decide) (by omega) (fun c137 => by exfalso; omega) (fun c137 => ?_)
          refine g_iconst (pc := 140) hC dX10_factor_140 ?_
          refine g_goto (pc := 141) hC 150 dX10_factor_141 (by decide) ?_
          refine g_istore_n (pc := 150) hC [(3, _), (2, _), (1, _), (0, _)] dX10_factor_150 rfl (by decide) rfl ?_
          refine g_aload_n (pc := 151) hC 3 dX10_factor_151 rfl rfl ?_
          refine g_aload_n (pc := 152) hC 3 dX10_factor_152 rfl rfl ?_
          refine g_get (pc := 153) hC 0 fl_X10_64 dX10_factor_153 rfl rfl ?_
          refine g_if_ne (pc := 156) hC 164 dX10_factor_156 (by decide) (by omega) (fun c156 => ?_) (fun c156 => by exfalso; omega)
          refine g_iconst (pc := 164) hC dX10_factor_164 ?_
          refine g_goto (pc := 165) hC 169 dX10_factor_165 (by decide) ?_
          refine g_putZ (pc := 169) hC 0 [cO _ _ [_, _, _, _, _, _, _, _, _, _, _, _, _, _, _, _, _, _, _, _, _, _, _, _, _], _] fl_X10_64 dX10_factor_169 rfl (Nat.le_of_ble_eq_true rfl) (by omega) rfl ?_
          refine g_aload_n (pc := 172) hC 3 dX10_factor_172 rfl rfl ?_
          refine g_callV (pc := 173) (qr := 0) hC [0, 1] (k_X10_figures _ _ _ _ _ _ _ _ _ _ _ _ _ _ _ _ _ _ _ _ _ _ _ _ _ _ _ _ (by first | assumption | omega) (by first | assumption | omega) (by first | assumption | omega) (by first | assumption | omega) (by first | assumption | omega) (by first | assumption | omega) (by first | assumption | omega) (by first | assumption | omega) (by first | assumption | omega)) cl_X10_figures wm_X10_108 dX10_factor_173 rfl rfl rfl rfl rfl (by decide) (by decide) (by omega) (Nat.le_of_ble_eq_true rfl) rfl (fun v9 w9 hq9 => ?_)
          obtain ⟨w3, p3, v3, rfl, rfl, r_w3, r_p3, r_v3, hz_173, hb_173, hv_173, hw0_173⟩ := hq9
          refine g_ws hC [cO m0 10 [w_thrown, .ref m1, w_image, w_frame, w_hasImage, .int (iI ac), .int (iI p3), .int (iI e), .int (iI w3), .int (iI o), w_by, w_truths, w_pulls, w_isKeeping, w_next, w_first, w_order, w_bestOrder, w_rooms, w_leastUnlike, w_bodies, w_ran, w_kind, w_number, w_tellsV], cA K m1 922 s] rfl ?_
          refine g_st hC [.int (iI v3)] rfl ?_
          have hfw := px_fig_w (by omega) hz_173
          refine g_istore (pc := 176) hC [(4, _), (3, _), (2, _), (1, _), (0, _)] dX10_factor_176 (by decide) rfl ?_
          refine g_aload_n (pc := 178) hC 4 dX10_factor_178 rfl rfl ?_
          refine g_iload_n (pc := 179) hC 2 dX10_factor_179 rfl rfl ?_
          refine g_bipush (pc := 180) hC (8) dX10_factor_180 (by decide) ?_
          refine g_iload_n (pc := 182) hC 1 dX10_factor_182 rfl rfl ?_
          refine g_imul (pc := 183) hC dX10_factor_183 ?_
          refine g_iadd (pc := 184) hC dX10_factor_184 ?_
          refine g_bipush (pc := 185) hC (32) dX10_factor_185 (by decide) ?_
          refine g_iload (pc := 187) hC 0 dX10_factor_187 rfl ?_
          refine g_imul (pc := 189) hC dX10_factor_189 ?_
          refine g_iadd (pc := 190) hC dX10_factor_190 ?_
          refine g_callV (pc := 191) (qr := 0) hC [0, 1] (k_X10_emits _ _ _ _ _ _ _ _ _ _ _ _ _ _ _ _ _ _ _ _ _ _ _ _ _ _ _ _ _ _ _ (by first | assumption | omega) (by first | assumption | omega) (by first | assumption | omega) (by first | assumption | omega) (by first | assumption | omega) (by first | assumption | omega) (by first | assumption | omega) (by first | assumption | omega) (by first | assumption | omega) (by first | assumption | omega) (by first | assumption | omega)) cl_X10_emits wm_X10_94 dX10_factor_191 rfl rfl rfl rfl rfl (by decide) (by decide) (by omega) (Nat.le_of_ble_eq_true rfl) rfl (fun v9 w9 hq9 => ?_)
          obtain ⟨s4, l4, rfl, rfl, r_s4, h4_191, hs2_191, hT2_191, hl2_191⟩ := hq9
          refine g_ws hC [cO m0 10 [w_thrown, .ref m1, w_image, w_frame, w_hasImage, .int (iI ac), .int (iI p3), .int (iI e), .int (iI w3), .int (iI o), w_by, w_truths, w_pulls, w_isKeeping, w_next, w_first, w_order, w_bestOrder, w_rooms, w_leastUnlike, w_bodies, w_ran, w_kind, w_number, w_tellsV], cA K m1 922 s4] rfl ?_
          refine g_st hC [] rfl ?_
          exact g_vret (pc := 194) hR dX10_factor_194 rfl ⟨by omega, by omega⟩ (Nat.le_of_ble_eq_true rfl) ⟨w3, p3, o, s4, l4, rfl, rfl, (by first | assumption | omega), (by first | assumption | omega), (by first | assumption | omega), (by first | assumption | omega), (px_fac_t c4 (by omega) (by omega) (px_tst_A e_a1 c122 hp2_115 hz_173 h4_191)), hs2_191, hT2_191, (by first | assumption | omega), (by first | assumption | omega), (by first | assumption | omega)⟩
      · have hlt := px_lt hT hp.1 (show T p = 40 by omega) (by omega)
        refine g_aload_n (pc := 25) hC 1 dX10_factor_25 rfl rfl ?_
        refine g_aload_n (pc := 26) hC 1 dX10_factor_26 rfl rfl ?_
        refine g_get (pc := 27) hC 0 fl_X10_88 dX10_factor_27 rfl rfl ?_
        refine g_iconst (pc := 30) hC dX10_factor_30 ?_
        refine g_icmp_ne (pc := 31) hC 38 dX10_factor_31 (by decide) (by omega) (by omega) (fun c31 => ?_) (fun c31 => by exfalso; omega)
        refine g_iconst (pc := 38) hC dX10_factor_38 ?_
        refine g_putZ (pc := 39) hC 0 [cO _ _ [_, _, _, _, _, _, _, _, _, _, _, _, _, _, _, _, _, _, _, _, _, _, _, _, _], _] fl_X10_64 dX10_factor_39 rfl (Nat.le_of_ble_eq_true rfl) (by omega) rfl ?_
        refine g_aload_n (pc := 42) hC 1 dX10_factor_42 rfl rfl ?_
        refine g_dup (pc := 43) hC dX10_factor_43 rfl ?_
        refine g_get (pc := 44) hC 0 fl_X10_88 dX10_factor_44 rfl rfl ?_
        refine g_iconst (pc := 47) hC dX10_factor_47 ?_
        refine g_iadd (pc := 48) hC dX10_factor_48 ?_
        refine g_putI (pc := 49) hC 0 [cO _ _ [_, _, _, _, _, _, _, _, _, _, _, _, _, _, _, _, _, _, _, _, _, _, _, _, _], _] fl_X10_88 dX10_factor_49 rfl (Nat.le_of_ble_eq_true rfl) rfl ?_
        refine g_aload_n (pc := 52) hC 1 dX10_factor_52 rfl rfl ?_
        refine g_dup (pc := 53) hC dX10_factor_53 rfl ?_
        refine g_get (pc := 54) hC 0 fl_X10_58 dX10_factor_54 rfl rfl ?_
        refine g_aload_n (pc := 57) hC 1 dX10_factor_57 rfl rfl ?_
        refine g_get (pc := 58) hC 0 fl_X10_64 dX10_factor_58 rfl rfl ?_
        refine g_if_eq (pc := 61) hC 68 dX10_factor_61 (by decide) (by omega) (fun c61 => ?_) (fun c61 => by exfalso; omega)
        refine g_iconst (pc := 68) hC dX10_factor_68 ?_
        refine g_iadd (pc := 69) hC dX10_factor_69 ?_
        refine g_putI (pc := 70) hC 0 [cO _ _ [_, _, _, _, _, _, _, _, _, _, _, _, _, _, _, _, _, _, _, _, _, _, _, _, _], _] fl_X10_58 dX10_factor_70 rfl (Nat.le_of_ble_eq_true rfl) rfl ?_
        refine g_iload_n (pc := 73) hC 0 dX10_factor_73 rfl rfl ?_
        refine g_bipush (pc := 74) hC (33) dX10_factor_74 (by decide) ?_
        refine g_icmp_ne (pc := 76) hC 91 dX10_factor_76 (by decide) (by omega) (by omega) (fun c76 => ?_) (fun c76 => by exfalso; omega)
        refine g_aload_n (pc := 91) hC 1 dX10_factor_91 rfl rfl ?_
        refine g_callV (pc := 92) (qr := 0) hC [0, 1] (k_X10_some_1 _ _ _ _ _ _ _ _ _ _ _ _ _ _ _ _ _ _ _ _ _ _ _ _ _ _ _ _ _ _ (by first | assumption | omega) (by first | assumption | omega) (by first | assumption | omega) (by first | assumption | omega) (by first | assumption | omega) (by first | assumption | omega) (by first | assumption | omega) (by first | assumption | omega) (by first | assumption | omega) (by first | assumption | omega) (by first | assumption | omega) (by first | assumption | omega) (by first | assumption | omega)) cl_X10_some wm_X10_97 dX10_factor_92 rfl rfl rfl rfl rfl (by decide) (by decide) (by omega) (Nat.le_of_ble_eq_true rfl) rfl (fun v9 w9 hq9 => ?_)
        obtain ⟨w3, p3, o3, s3, l3, rfl, rfl, r_w3, r_p3, r_o3, r_s3, hz_92, hs2_92, hT2_92, ho2_92, hb_92, hl2_92⟩ := hq9
        refine g_ws hC [cO m0 10 [w_thrown, .ref m1, w_image, w_frame, w_hasImage, .int (iI ac), .int (iI p3), .int (iI e), .int (iI w3), .int (iI o3), w_by, w_truths, w_pulls, w_isKeeping, w_next, w_first, w_order, w_bestOrder, w_rooms, w_leastUnlike, w_bodies, w_ran, w_kind, w_number, w_tellsV], cA K m1 922 s3] rfl ?_
        refine g_st hC [] rfl ?_
        refine g_aload_n (pc := 95) hC 1 dX10_factor_95 rfl rfl ?_
        refine g_bipush (pc := 96) hC (41) dX10_factor_96 (by decide) ?_
        refine g_callV (pc := 98) (qr := 0) hC [0, 1] (k_X10_must _ _ _ _ _ _ _ _ _ _ _ _ _ _ _ _ _ _ _ _ _ _ _ _ _ _ _ _ _ (by first | assumption | omega) (by first | assumption | omega) (by first | assumption | omega) (by first | assumption | omega) (by first | assumption | omega) (by first | assumption | omega) (by first | assumption | omega) (by first | assumption | omega) (by first | assumption | omega) (by first | assumption | omega) (by first | assumption | omega)) cl_X10_must wm_X10_81 dX10_factor_98 rfl rfl rfl rfl rfl (by decide) (by decide) (by omega) (Nat.le_of_ble_eq_true rfl) rfl (fun v9 w9 hq9 => ?_)
        obtain ⟨w4, p4, rfl, rfl, r_w4, r_p4, hz_98, hb_98, hw0_98⟩ := hq9
        refine g_ws hC [cO m0 10 [w_thrown, .ref m1, w_image, w_frame, w_hasImage, .int (iI ac), .int (iI p4), .int (iI e), .int (iI w4), .int (iI o3), w_by, w_truths, w_pulls, w_isKeeping, w_next, w_first, w_order, w_bestOrder, w_rooms, w_leastUnlike, w_bodies, w_ran, w_kind, w_number, w_tellsV], cA K m1 922 s3] rfl ?_
        refine g_st hC [] rfl ?_
        refine g_aload_n (pc := 101) hC 1 dX10_factor_101 rfl rfl ?_
        refine g_dup (pc := 102) hC dX10_factor_102 rfl ?_
        refine g_get (pc := 103) hC 0 fl_X10_88 dX10_factor_103 rfl rfl ?_
        refine g_iconst (pc := 106) hC dX10_factor_106 ?_
        refine g_isub (pc := 107) hC dX10_factor_107 ?_
        refine g_putI (pc := 108) hC 0 [cO _ _ [_, _, _, _, _, _, _, _, _, _, _, _, _, _, _, _, _, _, _, _, _, _, _, _, _], _] fl_X10_88 dX10_factor_108 rfl (Nat.le_of_ble_eq_true rfl) rfl ?_
        exact g_vret (pc := 111) hR dX10_factor_111 rfl ⟨by omega, by omega⟩ (Nat.le_of_ble_eq_true rfl) ⟨w4, p4, o3 - 1, s3, l3, rfl, rfl, (by first | assumption | omega), (by first | assumption | omega), (by first | assumption | omega), (by first | assumption | omega), (px_fac_br c4 (by omega) hz_92 hz_98), hs2_92, hT2_92, (by first | assumption | omega), (by first | assumption | omega), (by first | assumption | omega)⟩
  · exact g_vret (pc := 7) hR dX10_factor_7 rfl ⟨by omega, by omega⟩ (Nat.le_of_ble_eq_true rfl) ⟨w, p, o, s, l, rfl, rfl, (by first | assumption | omega), (by first | assumption | omega), (by first | assumption | omega), (by first | assumption | omega), (px_fac_w c4).symm, hs, hT, (by first | assumption | omega), (by first | assumption | omega), (by first | assumption | omega)⟩
set_option maxHeartbeats 4000000 in
set_option maxRecDepth 100000 in
theorem k_X10_every_2 {K : gK} (m0 : Nat) (m1 : Nat) (w_thrown : Value) (w_image : Value) (w_frame : Value) (w_hasImage : Value) (w_by : Value) (w_truths : Value) (w_pulls : Value) (w_isKeeping : Value) (w_next : Value) (w_first : Value) (w_order : Value) (w_bestOrder : Value) (w_rooms : Value) (w_leastUnlike : Value) (w_bodies : Value) (w_ran : Value) (w_kind : Value) (w_number : Value) (w_tellsV : Value) (ac : Int) (p : Int) (e : Int) (w : Int) (o : Int) (s : Int → Int) (T : Int → Int) (s0 : Int → Int) (l : List Int) (r_ac : rI ac) (r_p : rI p) (r_e : rI e) (r_w : rI w) (r_o : rI o) (r_s : ∀ j, rI (s j)) (hT : md_T T e s) (hs : s = px_row s0 ac l) (hac : 0 ≤ ac ∧ ac ≤ 4) (hp : 0 ≤ p ∧ p ≤ e) (hw : w = 0 ∨ w = 1) (ho : w = 0 → o = 3) (hl : (l.length : Int) ≤ p) : gMet K yX10_every cX10_every 1 none 13 0 0 [.ref m0] [cO m0 10 [w_thrown, .ref m1, w_image, w_frame, w_hasImage, .int (iI ac), .int (iI p), .int (iI e), .int (iI w), .int (iI o), w_by, w_truths, w_pulls, w_isKeeping, w_next, w_first, w_order, w_bestOrder, w_rooms, w_leastUnlike, w_bodies, w_ran, w_kind, w_number, w_tellsV], cA K m1 922 s] (fun v9 w9 => ∃ (w2 : Int), ∃ (p2 : Int), ∃ (o2 : Int), ∃ (s2 : Int → Int), ∃ (l2 : List Int), v9 = none ∧ w9 = [cO m0 10 [w_thrown, .ref m1, w_image, w_frame, w_hasImage, .int (iI ac), .int (iI p2), .int (iI e), .int (iI w2), .int (iI o2), w_by, w_truths, w_pulls, w_isKeeping, w_next, w_first, w_order, w_bestOrder, w_rooms, w_leastUnlike, w_bodies, w_ran, w_kind, w_number, w_tellsV], cA K m1 922 s2] ∧ rI w2 ∧ rI p2 ∧ rI o2 ∧ (∀ j, rI (s2 j)) ∧ ((w2, p2, l2) = px_every T (px_fac T 2) (w, p, l)) ∧ (s2 = px_row s0 ac l2) ∧ (md_T T e s2) ∧ (o2 = o ∧ (w2 = 0 → o = 3 ∧ w = 0)) ∧ ((w2 = 0 ∨ w2 = 1) ∧ p ≤ p2 ∧ p2 ≤ e) ∧ ((l2.length : Int) + p ≤ (l.length : Int) + p2)) := by
  refine g_enter (by decide +kernel) (Nat.le_of_ble_eq_true rfl) (fun G hC hR => ?_)
  refine g_lv hC [0] [(0, _)] rfl ?_
  have hge := hT.1
  refine g_aload_n (pc := 0) hC 0 dX10_every_0 rfl rfl ?_
  refine g_callV (pc := 1) (qr := 0) hC [0, 1] (k_X10_factor_2 _ _ _ _ _ _ _ _ _ _ _ _ _ _ _ _ _ _ _ _ _ _ _ _ _ _ _ _ _ _ (by first | assumption | omega) (by first | assumption | omega) (by first | assumption | omega) (by first | assumption | omega) (by first | assumption | omega) (by first | assumption | omega) (by first | assumption | omega) (by first | assumption | omega) (by first | assumption | omega) (by first | assumption | omega) (by first | assumption | omega) (by first | assumption | omega) (by first | assumption | omega)) cl_X10_factor wm_X10_91 dX10_every_1 rfl rfl rfl rfl rfl (by decide) (by decide) (by omega) (Nat.le_of_ble_eq_true rfl) rfl (fun v9 w9 hq9 => ?_)
  obtain ⟨w3, p3, o3, s3, l3, rfl, rfl, r_w3, r_p3, r_o3, r_s3, hz_1, hs2_1, hT2_1, ho2_1, hb_1, hl2_1⟩ := hq9
  refine g_ws hC [cO m0 10 [w_thrown, .ref m1, w_image, w_frame, w_hasImage, .int (iI ac), .int (iI p3), .int (iI e), .int (iI w3), .int (iI o3), w_by, w_truths, w_pulls, w_isKeeping, w_next, w_first, w_order, w_bestOrder, w_rooms, w_leastUnlike, w_bodies, w_ran, w_kind, w_number, w_tellsV], cA K m1 922 s3] rfl ?_
  refine g_st hC [] rfl ?_
  have L4 : ∀ (n1 : Nat) (w1 : Int) (p1 : Int) (o1 : Int) (f1 : Int → Int) (l1 : List Int) (f : Nat), (rI w1) → (rI p1) → (rI o1) → (∀ j, rI (f1 j)) → (f1 = px_row s0 ac l1) → (md_T T e f1) → (px_ev T (px_fac T 2) f (w1, p1, l1) = px_every T (px_fac T 2) (w, p, l)) → ((w1 = 0 ∨ w1 = 1) ∧ p ≤ p1 ∧ p1 ≤ e) → (o1 = o ∧ (w1 = 0 → o = 3 ∧ w = 0)) → ((l1.length : Int) + p ≤ (l.length : Int) + p1) → (e - p1 ≤ (f : Int)) → e - p1 < (n1 : Int) → G 0 0 4 [(0, .ref m0)] [] [cO m0 10 [w_thrown, .ref m1, w_image, w_frame, w_hasImage, .int (iI ac), .int (iI p1), .int (iI e), .int (iI w1), .int (iI o1), w_by, w_truths, w_pulls, w_isKeeping, w_next, w_first, w_order, w_bestOrder, w_rooms, w_leastUnlike, w_bodies, w_ran, w_kind, w_number, w_tellsV], cA K m1 922 f1] := by
    intro n1
    induction n1 with
    | zero => intro w1 p1 o1 f1 l1 f r_w1 r_p1 r_o1 r_f1 hs1 hT1 hz hb1 ho1 hl1 hf hm4; exfalso; omega
    | succ n1 ih4 =>
      intro w1 p1 o1 f1 l1 f r_w1 r_p1 r_o1 r_f1 hs1 hT1 hz hb1 ho1 hl1 hf hm4
      refine g_aload_n (pc := 4) hC 0 dX10_every_4 rfl rfl ?_
      refine g_get (pc := 5) hC 0 fl_X10_64 dX10_every_5 rfl rfl ?_
      refine g_if_ne (pc := 8) hC 43 dX10_every_8 (by decide) (by omega) (fun c8 => ?_) (fun c8 => ?_)
      · exact g_vret (pc := 43) hR dX10_every_43 rfl ⟨by omega, by omega⟩ (Nat.le_of_ble_eq_true rfl) ⟨w1, p1, o1, f1, l1, rfl, rfl, (by first | assumption | omega), (by first | assumption | omega), (by first | assumption | omega), (by first | assumption | omega), (by rw [← hz]; exact (px_ev_end (fun h9 => c8 h9.1)).symm), hs1, hT1, ho1, hb1, hl1⟩
      · refine g_aload_n (pc := 11) hC 0 dX10_every_11 rfl rfl ?_
        refine g_fnV (pc := 12) (qr := 0) hC [0, 1] (k_X10_here _ _ _ _ _ _ _ _ _ _ _ _ _ _ _ _ _ _ _ _ _ _ _ _ _ _ _ _ (by first | assumption | omega) (by first | assumption | omega) (by first | assumption | omega) (by first | assumption | omega) (by first | assumption | omega) (by first | assumption | omega) (by first | assumption | omega) (by first | assumption | omega)) cl_X10_here wm_X10_68 dX10_every_12 rfl rfl rfl rfl rfl (by decide) (by decide) ⟨by omega, by omega⟩ (Nat.le_of_ble_eq_true rfl) rfl rfl ?_
        refine g_name hC (fun x2 e_x2 => ?_)
        have q_x2 : -1 ≤ x2 ∧ x2 ≤ 127 := by rw [e_x2]; exact hT.2.2.1 _
        refine g_bipush (pc := 15) hC (38) dX10_every_15 (by decide) ?_
        refine g_icmp_ne (pc := 17) hC 43 dX10_every_17 (by decide) (by omega) (by omega) (fun c17 => ?_) (fun c17 => ?_)
        · exact g_vret (pc := 43) hR dX10_every_43 rfl ⟨by omega, by omega⟩ (Nat.le_of_ble_eq_true rfl) ⟨w1, p1, o1, f1, l1, rfl, rfl, (by first | assumption | omega), (by first | assumption | omega), (by first | assumption | omega), (by first | assumption | omega), (by rw [← hz]; exact (px_ev_end (fun h9 => absurd (show T p1 = 38 from h9.2) (by omega))).symm), hs1, hT1, ho1, hb1, hl1⟩
        · have hlt := px_lt hT1 (by omega) (show T p1 = 38 by omega) (by omega)
          obtain ⟨g9, rfl⟩ : ∃ g9, f = g9 + 1 := ⟨f - 1, by omega⟩
          refine g_aload_n (pc := 20) hC 0 dX10_every_20 rfl rfl ?_
          refine g_dup (pc := 21) hC dX10_every_21 rfl ?_
          refine g_get (pc := 22) hC 0 fl_X10_58 dX10_every_22 rfl rfl ?_
          refine g_iconst (pc := 25) hC dX10_every_25 ?_
          refine g_iadd (pc := 26) hC dX10_every_26 ?_
          refine g_putI (pc := 27) hC 0 [cO _ _ [_, _, _, _, _, _, _, _, _, _, _, _, _, _, _, _, _, _, _, _, _, _, _, _, _], _] fl_X10_58 dX10_every_27 rfl (Nat.le_of_ble_eq_true rfl) rfl ?_
          refine g_aload_n (pc := 30) hC 0 dX10_every_30 rfl rfl ?_
          refine g_callV (pc := 31) (qr := 0) hC [0, 1] (k_X10_factor_2 _ _ _ _ _ _ _ _ _ _ _ _ _ _ _ _ _ _ _ _ _ _ _ _ _ _ _ _ _ _ (by first | assumption | omega) (by first | assumption | omega) (by first | assumption | omega) (by first | assumption | omega) (by first | assumption | omega) (by first | assumption | omega) (by first | assumption | omega) (by first | assumption | omega) (by first | assumption | omega) (by first | assumption | omega) (by first | assumption | omega) (by first | assumption | omega) (by first | assumption | omega)) cl_X10_factor wm_X10_91 dX10_every_31 rfl rfl rfl rfl rfl (by decide) (by decide) (by omega) (Nat.le_of_ble_eq_true rfl) rfl (fun v9 w9 hq9 => ?_)
          obtain ⟨w5, p5, o5, s5, l5, rfl, rfl, r_w5, r_p5, r_o5, r_s5, hz_31, hs2_31, hT2_31, ho2_31, hb_31, hl2_31⟩ := hq9
          refine g_ws hC [cO m0 10 [w_thrown, .ref m1, w_image, w_frame, w_hasImage, .int (iI ac), .int (iI p5), .int (iI e), .int (iI w5), .int (iI o5), w_by, w_truths, w_pulls, w_isKeeping, w_next, w_first, w_order, w_bestOrder, w_rooms, w_leastUnlike, w_bodies, w_ran, w_kind, w_number, w_tellsV], cA K m1 922 s5] rfl ?_
          refine g_st hC [] rfl ?_
          refine g_aload_n (pc := 34) hC 0 dX10_every_34 rfl rfl ?_
          refine g_bipush (pc := 35) hC (-2) dX10_every_35 (by decide) ?_
          refine g_callV (pc := 37) (qr := 0) hC [0, 1] (k_X10_emits _ _ _ _ _ _ _ _ _ _ _ _ _ _ _ _ _ _ _ _ _ _ _ _ _ _ _ _ _ _ _ (by first | assumption | omega) (by first | assumption | omega) (by first | assumption | omega) (by first | assumption | omega) (by first | assumption | omega) (by first | assumption | omega) (by first | assumption | omega) (by first | assumption | omega) (by first | assumption | omega) (by first | assumption | omega) (by first | assumption | omega)) cl_X10_emits wm_X10_94 dX10_every_37 rfl rfl rfl rfl rfl (by decide) (by decide) (by omega) (Nat.le_of_ble_eq_true rfl) rfl (fun v9 w9 hq9 => ?_)
          obtain ⟨s6, l6, rfl, rfl, r_s6, h4_37, hs2_37, hT2_37, hl2_37⟩ := hq9
          refine g_ws hC [cO m0 10 [w_thrown, .ref m1, w_image, w_frame, w_hasImage, .int (iI ac), .int (iI p5), .int (iI e), .int (iI w5), .int (iI o5), w_by, w_truths, w_pulls, w_isKeeping, w_next, w_first, w_order, w_bestOrder, w_rooms, w_leastUnlike, w_bodies, w_ran, w_kind, w_number, w_tellsV], cA K m1 922 s6] rfl ?_
          refine g_st hC [] rfl ?_
          refine g_goto (pc := 40) hC 4 dX10_every_40 (by decide) ?_
          exact ih4 w5 p5 o5 s6 l6 g9 (by first | assumption | omega) (by first | assumption | omega) (by first | assumption | omega) (by first | assumption | omega) (by first | assumption | omega) (by first | assumption | omega) (px_ev_s hz (by omega) (by omega) hz_31 h4_37) (by first | assumption | omega) (by first | assumption | omega) (by first | assumption | omega) (by first | assumption | omega) (by omega)
  exact L4 ((e - p3 : Int).toNat + 1) w3 p3 o3 s3 l3 101 (by first | assumption | omega) (by first | assumption | omega) (by first | assumption | omega) (by first | assumption | omega) (by first | assumption | omega) (by first | assumption | omega) (by unfold px_every; rw [← hz_1]) (by first | assumption | omega) (by first | assumption | omega) (by first | assumption | omega) (by first | assumption | omega) (by omega)
set_option maxHeartbeats 4000000 in
set_option maxRecDepth 100000 in
theorem k_X10_some_2 {K : gK} (m0 : Nat) (m1 : Nat) (w_thrown : Value) (w_image : Value) (w_frame : Value) (w_hasImage : Value) (w_by : Value) (w_truths : Value) (w_pulls : Value) (w_isKeeping : Value) (w_next : Value) (w_first : Value) (w_order : Value) (w_bestOrder : Value) (w_rooms : Value) (w_leastUnlike : Value) (w_bodies : Value) (w_ran : Value) (w_kind : Value) (w_number : Value) (w_tellsV : Value) (ac : Int) (p : Int) (e : Int) (w : Int) (o : Int) (s : Int → Int) (T : Int → Int) (s0 : Int → Int) (l : List Int) (r_ac : rI ac) (r_p : rI p) (r_e : rI e) (r_w : rI w) (r_o : rI o) (r_s : ∀ j, rI (s j)) (hT : md_T T e s) (hs : s = px_row s0 ac l) (hac : 0 ≤ ac ∧ ac ≤ 4) (hp : 0 ≤ p ∧ p ≤ e) (hw : w = 0 ∨ w = 1) (ho : w = 0 → o = 3) (hl : (l.length : Int) ≤ p) : gMet K yX10_some cX10_some 1 none 14 0 0 [.ref m0] [cO m0 10 [w_thrown, .ref m1, w_image, w_frame, w_hasImage, .int (iI ac), .int (iI p), .int (iI e), .int (iI w), .int (iI o), w_by, w_truths, w_pulls, w_isKeeping, w_next, w_first, w_order, w_bestOrder, w_rooms, w_leastUnlike, w_bodies, w_ran, w_kind, w_number, w_tellsV], cA K m1 922 s] (fun v9 w9 => ∃ (w2 : Int), ∃ (p2 : Int), ∃ (o2 : Int), ∃ (s2 : Int → Int), ∃ (l2 : List Int), v9 = none ∧ w9 = [cO m0 10 [w_thrown, .ref m1, w_image, w_frame, w_hasImage, .int (iI ac), .int (iI p2), .int (iI e), .int (iI w2), .int (iI o2), w_by, w_truths, w_pulls, w_isKeeping, w_next, w_first, w_order, w_bestOrder, w_rooms, w_leastUnlike, w_bodies, w_ran, w_kind, w_number, w_tellsV], cA K m1 922 s2] ∧ rI w2 ∧ rI p2 ∧ rI o2 ∧ (∀ j, rI (s2 j)) ∧ ((w2, p2, l2) = px_some T (px_fac T 2) (w, p, l)) ∧ (s2 = px_row s0 ac l2) ∧ (md_T T e s2) ∧ (o2 = o ∧ (w2 = 0 → o = 3 ∧ w = 0)) ∧ ((w2 = 0 ∨ w2 = 1) ∧ p ≤ p2 ∧ p2 ≤ e) ∧ ((l2.length : Int) + p ≤ (l.length : Int) + p2)) := by
  refine g_enter (by decide +kernel) (Nat.le_of_ble_eq_true rfl) (fun G hC hR => ?_)
  refine g_lv hC [0] [(0, _)] rfl ?_
  have hge := hT.1
  refine g_aload_n (pc := 0) hC 0 dX10_some_0 rfl rfl ?_
  refine g_callV (pc := 1) (qr := 0) hC [0, 1] (k_X10_every_2 _ _ _ _ _ _ _ _ _ _ _ _ _ _ _ _ _ _ _ _ _ _ _ _ _ _ _ _ _ _ (by first | assumption | omega) (by first | assumption | omega) (by first | assumption | omega) (by first | assumption | omega) (by first | assumption | omega) (by first | assumption | omega) (by first | assumption | omega) (by first | assumption | omega) (by first | assumption | omega) (by first | assumption | omega) (by first | assumption | omega) (by first | assumption | omega) (by first | assumption | omega)) cl_X10_every wm_X10_111 dX10_some_1 rfl rfl rfl rfl rfl (by decide) (by decide) (by omega) (Nat.le_of_ble_eq_true rfl) rfl (fun v9 w9 hq9 => ?_)
  obtain ⟨w3, p3, o3, s3, l3, rfl, rfl, r_w3, r_p3, r_o3, r_s3, hz_1, hs2_1, hT2_1, ho2_1, hb_1, hl2_1⟩ := hq9
  refine g_ws hC [cO m0 10 [w_thrown, .ref m1, w_image, w_frame, w_hasImage, .int (iI ac), .int (iI p3), .int (iI e), .int (iI w3), .int (iI o3), w_by, w_truths, w_pulls, w_isKeeping, w_next, w_first, w_order, w_bestOrder, w_rooms, w_leastUnlike, w_bodies, w_ran, w_kind, w_number, w_tellsV], cA K m1 922 s3] rfl ?_
  refine g_st hC [] rfl ?_
  have L4 : ∀ (n1 : Nat) (w1 : Int) (p1 : Int) (o1 : Int) (f1 : Int → Int) (l1 : List Int) (f : Nat), (rI w1) → (rI p1) → (rI o1) → (∀ j, rI (f1 j)) → (f1 = px_row s0 ac l1) → (md_T T e f1) → (px_so T (px_fac T 2) f (w1, p1, l1) = px_some T (px_fac T 2) (w, p, l)) → ((w1 = 0 ∨ w1 = 1) ∧ p ≤ p1 ∧ p1 ≤ e) → (o1 = o ∧ (w1 = 0 → o = 3 ∧ w = 0)) → ((l1.length : Int) + p ≤ (l.length : Int) + p1) → (e - p1 ≤ (f : Int)) → e - p1 < (n1 : Int) → G 0 0 4 [(0, .ref m0)] [] [cO m0 10 [w_thrown, .ref m1, w_image, w_frame, w_hasImage, .int (iI ac), .int (iI p1), .int (iI e), .int (iI w1), .int (iI o1), w_by, w_truths, w_pulls, w_isKeeping, w_next, w_first, w_order, w_bestOrder, w_rooms, w_leastUnlike, w_bodies, w_ran, w_kind, w_number, w_tellsV], cA K m1 922 f1] := by
    intro n1
    induction n1 with
    | zero => intro w1 p1 o1 f1 l1 f r_w1 r_p1 r_o1 r_f1 hs1 hT1 hz hb1 ho1 hl1 hf hm4; exfalso; omega
    | succ n1 ih4 =>
      intro w1 p1 o1 f1 l1 f r_w1 r_p1 r_o1 r_f1 hs1 hT1 hz hb1 ho1 hl1 hf hm4
      refine g_aload_n (pc := 4) hC 0 dX10_some_4 rfl rfl ?_
      refine g_get (pc := 5) hC 0 fl_X10_64 dX10_some_5 rfl rfl ?_
      refine g_if_ne (pc := 8) hC 43 dX10_some_8 (by decide) (by omega) (fun c8 => ?_) (fun c8 => ?_)
      · exact g_vret (pc := 43) hR dX10_some_43 rfl ⟨by omega, by omega⟩ (Nat.le_of_ble_eq_true rfl) ⟨w1, p1, o1, f1, l1, rfl, rfl, (by first | assumption | omega), (by first | assumption | omega), (by first | assumption | omega), (by first | assumption | omega), (by rw [← hz]; exact (px_so_end (fun h9 => c8 h9.1)).symm), hs1, hT1, ho1, hb1, hl1⟩
      · refine g_aload_n (pc := 11) hC 0 dX10_some_11 rfl rfl ?_
        refine g_fnV (pc := 12) (qr := 0) hC [0, 1] (k_X10_here _ _ _ _ _ _ _ _ _ _ _ _ _ _ _ _ _ _ _ _ _ _ _ _ _ _ _ _ (by first | assumption | omega) (by first | assumption | omega) (by first | assumption | omega) (by first | assumption | omega) (by first | assumption | omega) (by first | assumption | omega) (by first | assumption | omega) (by first | assumption | omega)) cl_X10_here wm_X10_68 dX10_some_12 rfl rfl rfl rfl rfl (by decide) (by decide) ⟨by omega, by omega⟩ (Nat.le_of_ble_eq_true rfl) rfl rfl ?_
        refine g_name hC (fun x2 e_x2 => ?_)
        have q_x2 : -1 ≤ x2 ∧ x2 ≤ 127 := by rw [e_x2]; exact hT.2.2.1 _
        refine g_bipush (pc := 15) hC (124) dX10_some_15 (by decide) ?_
        refine g_icmp_ne (pc := 17) hC 43 dX10_some_17 (by decide) (by omega) (by omega) (fun c17 => ?_) (fun c17 => ?_)
        · exact g_vret (pc := 43) hR dX10_some_43 rfl ⟨by omega, by omega⟩ (Nat.le_of_ble_eq_true rfl) ⟨w1, p1, o1, f1, l1, rfl, rfl, (by first | assumption | omega), (by first | assumption | omega), (by first | assumption | omega), (by first | assumption | omega), (by rw [← hz]; exact (px_so_end (fun h9 => absurd (show T p1 = 124 from h9.2) (by omega))).symm), hs1, hT1, ho1, hb1, hl1⟩
        · have hlt := px_lt hT1 (by omega) (show T p1 = 124 by omega) (by omega)
          obtain ⟨g9, rfl⟩ : ∃ g9, f = g9 + 1 := ⟨f - 1, by omega⟩
          refine g_aload_n (pc := 20) hC 0 dX10_some_20 rfl rfl ?_
          refine g_dup (pc := 21) hC dX10_some_21 rfl ?_
          refine g_get (pc := 22) hC 0 fl_X10_58 dX10_some_22 rfl rfl ?_
          refine g_iconst (pc := 25) hC dX10_some_25 ?_
          refine g_iadd (pc := 26) hC dX10_some_26 ?_
          refine g_putI (pc := 27) hC 0 [cO _ _ [_, _, _, _, _, _, _, _, _, _, _, _, _, _, _, _, _, _, _, _, _, _, _, _, _], _] fl_X10_58 dX10_some_27 rfl (Nat.le_of_ble_eq_true rfl) rfl ?_
          refine g_aload_n (pc := 30) hC 0 dX10_some_30 rfl rfl ?_
          refine g_callV (pc := 31) (qr := 0) hC [0, 1] (k_X10_every_2 _ _ _ _ _ _ _ _ _ _ _ _ _ _ _ _ _ _ _ _ _ _ _ _ _ _ _ _ _ _ (by first | assumption | omega) (by first | assumption | omega) (by first | assumption | omega) (by first | assumption | omega) (by first | assumption | omega) (by first | assumption | omega) (by first | assumption | omega) (by first | assumption | omega) (by first | assumption | omega) (by first | assumption | omega) (by first | assumption | omega) (by first | assumption | omega) (by first | assumption | omega)) cl_X10_every wm_X10_111 dX10_some_31 rfl rfl rfl rfl rfl (by decide) (by decide) (by omega) (Nat.le_of_ble_eq_true rfl) rfl (fun v9 w9 hq9 => ?_)
          obtain ⟨w5, p5, o5, s5, l5, rfl, rfl, r_w5, r_p5, r_o5, r_s5, hz_31, hs2_31, hT2_31, ho2_31, hb_31, hl2_31⟩ := hq9
          refine g_ws hC [cO m0 10 [w_thrown, .ref m1, w_image, w_frame, w_hasImage, .int (iI ac), .int (iI p5), .int (iI e), .int (iI w5), .int (iI o5), w_by, w_truths, w_pulls, w_isKeeping, w_next, w_first, w_order, w_bestOrder, w_rooms, w_leastUnlike, w_bodies, w_ran, w_kind, w_number, w_tellsV], cA K m1 922 s5] rfl ?_
          refine g_st hC [] rfl ?_
          refine g_aload_n (pc := 34) hC 0 dX10_some_34 rfl rfl ?_
          refine g_bipush (pc := 35) hC (-3) dX10_some_35 (by decide) ?_
          refine g_callV (pc := 37) (qr := 0) hC [0, 1] (k_X10_emits _ _ _ _ _ _ _ _ _ _ _ _ _ _ _ _ _ _ _ _ _ _ _ _ _ _ _ _ _ _ _ (by first | assumption | omega) (by first | assumption | omega) (by first | assumption | omega) (by first | assumption | omega) (by first | assumption | omega) (by first | assumption | omega) (by first | assumption | omega) (by first | assumption | omega) (by first | assumption | omega) (by first | assumption | omega) (by first | assumption | omega)) cl_X10_emits wm_X10_94 dX10_some_37 rfl rfl rfl rfl rfl (by decide) (by decide) (by omega) (Nat.le_of_ble_eq_true rfl) rfl (fun v9 w9 hq9 => ?_)
          obtain ⟨s6, l6, rfl, rfl, r_s6, h4_37, hs2_37, hT2_37, hl2_37⟩ := hq9
          refine g_ws hC [cO m0 10 [w_thrown, .ref m1, w_image, w_frame, w_hasImage, .int (iI ac), .int (iI p5), .int (iI e), .int (iI w5), .int (iI o5), w_by, w_truths, w_pulls, w_isKeeping, w_next, w_first, w_order, w_bestOrder, w_rooms, w_leastUnlike, w_bodies, w_ran, w_kind, w_number, w_tellsV], cA K m1 922 s6] rfl ?_
          refine g_st hC [] rfl ?_
          refine g_goto (pc := 40) hC 4 dX10_some_40 (by decide) ?_
          exact ih4 w5 p5 o5 s6 l6 g9 (by first | assumption | omega) (by first | assumption | omega) (by first | assumption | omega) (by first | assumption | omega) (by first | assumption | omega) (by first | assumption | omega) (px_so_s hz (by omega) (by omega) hz_31 h4_37) (by first | assumption | omega) (by first | assumption | omega) (by first | assumption | omega) (by first | assumption | omega) (by omega)
  exact L4 ((e - p3 : Int).toNat + 1) w3 p3 o3 s3 l3 101 (by first | assumption | omega) (by first | assumption | omega) (by first | assumption | omega) (by first | assumption | omega) (by first | assumption | omega) (by first | assumption | omega) (by unfold px_some; rw [← hz_1]) (by first | assumption | omega) (by first | assumption | omega) (by first | assumption | omega) (by first | assumption | omega) (by omega)
set_option maxHeartbeats 4000000 in
set_option maxRecDepth 100000 in
theorem k_X10_factor_3 {K : gK} (m0 : Nat) (m1 : Nat) (w_thrown : Value) (w_image : Value) (w_frame : Value) (w_hasImage : Value) (w_by : Value) (w_truths : Value) (w_pulls : Value) (w_isKeeping : Value) (w_next : Value) (w_first : Value) (w_order : Value) (w_bestOrder : Value) (w_rooms : Value) (w_leastUnlike : Value) (w_bodies : Value) (w_ran : Value) (w_kind : Value) (w_number : Value) (w_tellsV : Value) (ac : Int) (p : Int) (e : Int) (w : Int) (o : Int) (s : Int → Int) (T : Int → Int) (s0 : Int → Int) (l : List Int) (r_ac : rI ac) (r_p : rI p) (r_e : rI e) (r_w : rI w) (r_o : rI o) (r_s : ∀ j, rI (s j)) (hT : md_T T e s) (hs : s = px_row s0 ac l) (hac : 0 ≤ ac ∧ ac ≤ 4) (hp : 0 ≤ p ∧ p ≤ e) (hw : w = 0 ∨ w = 1) (ho : w = 0 → o = 2) (hl : (l.length : Int) ≤ p) : gMet K yX10_factor cX10_factor 5 none 15 0 0 [.ref m0] [cO m0 10 [w_thrown, .ref m1, w_image, w_frame, w_hasImage, .int (iI ac), .int (iI p), .int (iI e), .int (iI w), .int (iI o), w_by, w_truths, w_pulls, w_isKeeping, w_next, w_first, w_order, w_bestOrder, w_rooms, w_leastUnlike, w_bodies, w_ran, w_kind, w_number, w_tellsV], cA K m1 922 s] (fun v9 w9 => ∃ (w2 : Int), ∃ (p2 : Int), ∃ (o2 : Int), ∃ (s2 : Int → Int), ∃ (l2 : List Int), v9 = none ∧ w9 = [cO m0 10 [w_thrown, .ref m1, w_image, w_frame, w_hasImage, .int (iI ac), .int (iI p2), .int (iI e), .int (iI w2), .int (iI o2), w_by, w_truths, w_pulls, w_isKeeping, w_next, w_first, w_order, w_bestOrder, w_rooms, w_leastUnlike, w_bodies, w_ran, w_kind, w_number, w_tellsV], cA K m1 922 s2] ∧ rI w2 ∧ rI p2 ∧ rI o2 ∧ (∀ j, rI (s2 j)) ∧ ((w2, p2, l2) = px_fac T 3 (w, p, l)) ∧ (s2 = px_row s0 ac l2) ∧ (md_T T e s2) ∧ (o2 = o ∧ (w2 = 0 → o = 2 ∧ w = 0)) ∧ ((w2 = 0 ∨ w2 = 1) ∧ p ≤ p2 ∧ p2 ≤ e) ∧ ((l2.length : Int) + p ≤ (l.length : Int) + p2)) := by
  refine g_enter (by decide +kernel) (Nat.le_of_ble_eq_true rfl) (fun G hC hR => ?_)
  refine g_lv hC [0] [(0, _)] rfl ?_
  have hge := hT.1
  refine g_aload_n (pc := 0) hC 0 dX10_factor_0 rfl rfl ?_
  refine g_get (pc := 1) hC 0 fl_X10_64 dX10_factor_1 rfl rfl ?_
  refine g_if_eq (pc := 4) hC 8 dX10_factor_4 (by decide) (by omega) (fun c4 => ?_) (fun c4 => ?_)
  · have ho9 := ho c4
    refine g_aload_n (pc := 8) hC 0 dX10_factor_8 rfl rfl ?_
    refine g_fnV (pc := 9) (qr := 0) hC [0, 1] (k_X10_here _ _ _ _ _ _ _ _ _ _ _ _ _ _ _ _ _ _ _ _ _ _ _ _ _ _ _ _ (by first | assumption | omega) (by first | assumption | omega) (by first | assumption | omega) (by first | assumption | omega) (by first | assumption | omega) (by first | assumption | omega) (by first | assumption | omega) (by first | assumption | omega)) cl_X10_here wm_X10_68 dX10_factor_9 rfl rfl rfl rfl rfl (by decide) (by decide) ⟨by omega, by omega⟩ (Nat.le_of_ble_eq_true rfl) rfl rfl ?_
    refine g_name hC (fun x9 e_x9 => ?_)
    have q_x9 : -1 ≤ x9 ∧ x9 ≤ 127 := by rw [e_x9]; exact hT.2.2.1 _
    refine g_istore_n (pc := 12) hC [(1, _), (0, _)] dX10_factor_12 rfl (by decide) rfl ?_
    refine g_iload_n (pc := 13) hC 0 dX10_factor_13 rfl rfl ?_
    refine g_bipush (pc := 14) hC (33) dX10_factor_14 (by decide) ?_
    refine g_icmp_eq (pc := 16) hC 25 dX10_factor_16 (by decide) (by omega) (by omega) (fun c16 => ?_) (fun c16 => ?_)
    · have hlt := px_lt hT hp.1 (show T p = 33 by omega) (by omega)
      refine g_aload_n (pc := 25) hC 1 dX10_factor_25 rfl rfl ?_
      refine g_aload_n (pc := 26) hC 1 dX10_factor_26 rfl rfl ?_
      refine g_get (pc := 27) hC 0 fl_X10_88 dX10_factor_27 rfl rfl ?_
      refine g_iconst (pc := 30) hC dX10_factor_30 ?_
      refine g_icmp_ne (pc := 31) hC 38 dX10_factor_31 (by decide) (by omega) (by omega) (fun c31 => ?_) (fun c31 => by exfalso; omega)
      refine g_iconst (pc := 38) hC dX10_factor_38 ?_
      refine g_putZ (pc := 39) hC 0 [cO _ _ [_, _, _, _, _, _, _, _, _, _, _, _, _, _, _, _, _, _, _, _, _, _, _, _, _], _] fl_X10_64 dX10_factor_39 rfl (Nat.le_of_ble_eq_true rfl) (by omega) rfl ?_
      refine g_aload_n (pc := 42) hC 1 dX10_factor_42 rfl rfl ?_
      refine g_dup (pc := 43) hC dX10_factor_43 rfl ?_
      refine g_get (pc := 44) hC 0 fl_X10_88 dX10_factor_44 rfl rfl ?_
      refine g_iconst (pc := 47) hC dX10_factor_47 ?_
      refine g_iadd (pc := 48) hC dX10_factor_48 ?_
      refine g_putI (pc := 49) hC 0 [cO _ _ [_, _, _, _, _, _, _, _, _, _, _, _, _, _, _, _, _, _, _, _, _, _, _, _, _], _] fl_X10_88 dX10_factor_49 rfl (Nat.le_of_ble_eq_true rfl) rfl ?_
      refine g_aload_n (pc := 52) hC 1 dX10_factor_52 rfl rfl ?_
      refine g_dup (pc := 53) hC dX10_factor_53 rfl ?_
      refine g_get (pc := 54) hC 0 fl_X10_58 dX10_factor_54 rfl rfl ?_
      refine g_aload_n (pc := 57) hC 1 dX10_factor_57 rfl rfl ?_
      refine g_get (pc := 58) hC 0 fl_X10_64 dX10_factor_58 rfl rfl ?_
      refine g_if_eq (pc := 61) hC 68 dX10_factor_61 (by decide) (by omega) (fun c61 => ?_) (fun c61 => by exfalso; omega)
      refine g_iconst (pc := 68) hC dX10_factor_68 ?_
      refine g_iadd (pc := 69) hC dX10_factor_69 ?_
      refine g_putI (pc := 70) hC 0 [cO _ _ [_, _, _, _, _, _, _, _, _, _, _, _, _, _, _, _, _, _, _, _, _, _, _, _, _], _] fl_X10_58 dX10_factor_70 rfl (Nat.le_of_ble_eq_true rfl) rfl ?_
      refine g_iload_n (pc := 73) hC 0 dX10_factor_73 rfl rfl ?_
      refine g_bipush (pc := 74) hC (33) dX10_factor_74 (by decide) ?_
      refine g_icmp_ne (pc := 76) hC 91 dX10_factor_76 (by decide) (by omega) (by omega) (fun c76 => by exfalso; omega) (fun c76 => ?_)
      refine g_aload_n (pc := 79) hC 1 dX10_factor_79 rfl rfl ?_
      refine g_callV (pc := 80) (qr := 0) hC [0, 1] (k_X10_factor_2 _ _ _ _ _ _ _ _ _ _ _ _ _ _ _ _ _ _ _ _ _ _ _ _ _ _ _ _ _ _ (by first | assumption | omega) (by first | assumption | omega) (by first | assumption | omega) (by first | assumption | omega) (by first | assumption | omega) (by first | assumption | omega) (by first | assumption | omega) (by first | assumption | omega) (by first | assumption | omega) (by first | assumption | omega) (by first | assumption | omega) (by first | assumption | omega) (by first | assumption | omega)) cl_X10_factor wm_X10_91 dX10_factor_80 rfl rfl rfl rfl rfl (by decide) (by decide) (by omega) (Nat.le_of_ble_eq_true rfl) rfl (fun v9 w9 hq9 => ?_)
      obtain ⟨w3, p3, o3, s3, l3, rfl, rfl, r_w3, r_p3, r_o3, r_s3, hz_80, hs2_80, hT2_80, ho2_80, hb_80, hl2_80⟩ := hq9
      refine g_ws hC [cO m0 10 [w_thrown, .ref m1, w_image, w_frame, w_hasImage, .int (iI ac), .int (iI p3), .int (iI e), .int (iI w3), .int (iI o3), w_by, w_truths, w_pulls, w_isKeeping, w_next, w_first, w_order, w_bestOrder, w_rooms, w_leastUnlike, w_bodies, w_ran, w_kind, w_number, w_tellsV], cA K m1 922 s3] rfl ?_
      refine g_st hC [] rfl ?_
      refine g_aload_n (pc := 83) hC 1 dX10_factor_83 rfl rfl ?_
      refine g_iconst (pc := 84) hC dX10_factor_84 ?_
      refine g_callV (pc := 85) (qr := 0) hC [0, 1] (k_X10_emits _ _ _ _ _ _ _ _ _ _ _ _ _ _ _ _ _ _ _ _ _ _ _ _ _ _ _ _ _ _ _ (by first | assumption | omega) (by first | assumption | omega) (by first | assumption | omega) (by first | assumption | omega) (by first | assumption | omega) (by first | assumption | omega) (by first | assumption | omega) (by first | assumption | omega) (by first | assumption | omega) (by first | assumption | omega) (by first | assumption | omega)) cl_X10_emits wm_X10_94 dX10_factor_85 rfl rfl rfl rfl rfl (by decide) (by decide) (by omega) (Nat.le_of_ble_eq_true rfl) rfl (fun v9 w9 hq9 => ?_)
      obtain ⟨s4, l4, rfl, rfl, r_s4, h4_85, hs2_85, hT2_85, hl2_85⟩ := hq9
      refine g_ws hC [cO m0 10 [w_thrown, .ref m1, w_image, w_frame, w_hasImage, .int (iI ac), .int (iI p3), .int (iI e), .int (iI w3), .int (iI o3), w_by, w_truths, w_pulls, w_isKeeping, w_next, w_first, w_order, w_bestOrder, w_rooms, w_leastUnlike, w_bodies, w_ran, w_kind, w_number, w_tellsV], cA K m1 922 s4] rfl ?_
      refine g_st hC [] rfl ?_
      refine g_goto (pc := 88) hC 101 dX10_factor_88 (by decide) ?_
      refine g_aload_n (pc := 101) hC 1 dX10_factor_101 rfl rfl ?_
      refine g_dup (pc := 102) hC dX10_factor_102 rfl ?_
      refine g_get (pc := 103) hC 0 fl_X10_88 dX10_factor_103 rfl rfl ?_
      refine g_iconst (pc := 106) hC dX10_factor_106 ?_
      refine g_isub (pc := 107) hC dX10_factor_107 ?_
      refine g_putI (pc := 108) hC 0 [cO _ _ [_, _, _, _, _, _, _, _, _, _, _, _, _, _, _, _, _, _, _, _, _, _, _, _, _], _] fl_X10_88 dX10_factor_108 rfl (Nat.le_of_ble_eq_true rfl) rfl ?_
      exact g_vret (pc := 111) hR dX10_factor_111 rfl ⟨by omega, by omega⟩ (Nat.le_of_ble_eq_true rfl) ⟨w3, p3, o3 - 1, s4, l4, rfl, rfl, (by first | assumption | omega), (by first | assumption | omega), (by first | assumption | omega), (by first | assumption | omega), (px_fac_not c4 (by omega) hz_80 h4_85), hs2_85, hT2_85, (by first | assumption | omega), (by first | assumption | omega), (by first | assumption | omega)⟩
    · refine g_iload_n (pc := 19) hC 0 dX10_factor_19 rfl rfl ?_
      refine g_bipush (pc := 20) hC (40) dX10_factor_20 (by decide) ?_
      refine g_icmp_ne (pc := 22) hC 112 dX10_factor_22 (by decide) (by omega) (by omega) (fun c22 => ?_) (fun c22 => ?_)
      · refine g_aload_n (pc := 112) hC 1 dX10_factor_112 rfl rfl ?_
        refine g_ldcS_X10_100 (pc := 113) hC rfl dX10_factor_113 ?_
        refine g_callV (pc := 115) (qr := 0) hC [0, 1] (k_X10_among _ _ _ _ _ _ _ _ _ _ _ _ _ _ _ _ _ _ _ _ _ _ _ _ _ _ _ _ _ (by first | assumption | omega) (by first | assumption | omega) (by first | assumption | omega) (by first | assumption | omega) (by first | assumption | omega) (by first | assumption | omega) (by first | assumption | omega) (by first | assumption | omega) (by first | assumption | omega)) cl_X10_among wm_X10_102 dX10_factor_115 rfl rfl rfl rfl rfl (by decide) (by decide) (by omega) (Nat.le_of_ble_eq_true rfl) rfl (fun v9 w9 hq9 => ?_)
        obtain ⟨pa, rfl, rfl, r_pa, hp2_115, hb_115⟩ := hq9
        refine g_ws hC [cO m0 10 [w_thrown, .ref m1, w_image, w_frame, w_hasImage, .int (iI ac), .int (iI pa), .int (iI e), .int (iI w), .int (iI o), w_by, w_truths, w_pulls, w_isKeeping, w_next, w_first, w_order, w_bestOrder, w_rooms, w_leastUnlike, w_bodies, w_ran, w_kind, w_number, w_tellsV], cA K m1 922 s] rfl ?_
        refine g_st hC [.int (iI (px_am 5 (T p) (sl 5).toNat))] rfl ?_
        refine g_name hC (fun a1 e_a1 => ?_)
        have ham := px_am_rng 5 (T p) (sl 5).toNat
        have hs5 := sl_rng (k := 5) (by decide)
        refine g_istore_n (pc := 118) hC [(2, _), (1, _), (0, _)] dX10_factor_118 rfl (by decide) rfl ?_
        refine g_aload_n (pc := 119) hC 2 dX10_factor_119 rfl rfl ?_
        refine g_iload_n (pc := 120) hC 0 dX10_factor_120 rfl rfl ?_
        refine g_iconst (pc := 121) hC dX10_factor_121 ?_
        refine g_icmp_ne (pc := 122) hC 129 dX10_factor_122 (by decide) (by omega) (by omega) (fun c122 => ?_) (fun c122 => ?_)
        · refine g_iconst (pc := 129) hC dX10_factor_129 ?_
          refine g_putZ (pc := 130) hC 0 [cO _ _ [_, _, _, _, _, _, _, _, _, _, _, _, _, _, _, _, _, _, _, _, _, _, _, _, _], _] fl_X10_64 dX10_factor_130 rfl (Nat.le_of_ble_eq_true rfl) (by omega) rfl ?_
          refine g_aload_n (pc := 133) hC 2 dX10_factor_133 rfl rfl ?_
          refine g_get (pc := 134) hC 0 fl_X10_64 dX10_factor_134 rfl rfl ?_
          refine g_if_eq (pc := 137) hC 144 dX10_factor_137 (by decide) (by omega) (fun c137 => ?_) (fun c137 => by exfalso; omega)
          refine g_aload_n (pc := 144) hC 2 dX10_factor_144 rfl rfl ?_
          refine g_ldcS_X10_106 (pc := 145) hC rfl dX10_factor_145 ?_
          refine g_callV (pc := 147) (qr := 0) hC [0, 1] (k_X10_among _ _ _ _ _ _ _ _ _ _ _ _ _ _ _ _ _ _ _ _ _ _ _ _ _ _ _ _ _ (by first | assumption | omega) (by first | assumption | omega) (by first | assumption | omega) (by first | assumption | omega) (by first | assumption | omega) (by first | assumption | omega) (by first | assumption | omega) (by first | assumption | omega) (by first | assumption | omega)) cl_X10_among wm_X10_102 dX10_factor_147 rfl rfl rfl rfl rfl (by decide) (by decide) (by omega) (Nat.le_of_ble_eq_true rfl) rfl (fun v9 w9 hq9 => ?_)
          obtain ⟨pb, rfl, rfl, r_pb, hp2_147, hb_147⟩ := hq9
          refine g_ws hC [cO m0 10 [w_thrown, .ref m1, w_image, w_frame, w_hasImage, .int (iI ac), .int (iI pb), .int (iI e), .int (iI 0), .int (iI o), w_by, w_truths, w_pulls, w_isKeeping, w_next, w_first, w_order, w_bestOrder, w_rooms, w_leastUnlike, w_bodies, w_ran, w_kind, w_number, w_tellsV], cA K m1 922 s] rfl ?_
          refine g_st hC [.int (iI (px_am 6 (T pa) (sl 6).toNat))] rfl ?_
          refine g_name hC (fun b1 e_b1 => ?_)
          have hbm := px_am_rng 6 (T pa) (sl 6).toNat
          have hs6 := sl_rng (k := 6) (by decide)
          refine g_istore_n (pc := 150) hC [(3, _), (2, _), (1, _), (0, _)] dX10_factor_150 rfl (by decide) rfl ?_
          refine g_aload_n (pc := 151) hC 3 dX10_factor_151 rfl rfl ?_
          refine g_aload_n (pc := 152) hC 3 dX10_factor_152 rfl rfl ?_
          refine g_get (pc := 153) hC 0 fl_X10_64 dX10_factor_153 rfl rfl ?_
          refine g_if_ne (pc := 156) hC 164 dX10_factor_156 (by decide) (by omega) (fun c156 => by exfalso; omega) (fun c156 => ?_)
          refine g_iload_n (pc := 159) hC 0 dX10_factor_159 rfl rfl ?_
          refine g_iconst (pc := 160) hC dX10_factor_160 ?_
          refine g_icmp_ne (pc := 161) hC 168 dX10_factor_161 (by decide) (by omega) (by omega) (fun c161 => ?_) (fun c161 => ?_)
          · refine g_iconst (pc := 168) hC dX10_factor_168 ?_
            refine g_putZ (pc := 169) hC 0 [cO _ _ [_, _, _, _, _, _, _, _, _, _, _, _, _, _, _, _, _, _, _, _, _, _, _, _, _], _] fl_X10_64 dX10_factor_169 rfl (Nat.le_of_ble_eq_true rfl) (by omega) rfl ?_
            refine g_aload_n (pc := 172) hC 3 dX10_factor_172 rfl rfl ?_
            refine g_callV (pc := 173) (qr := 0) hC [0, 1] (k_X10_figures _ _ _ _ _ _ _ _ _ _ _ _ _ _ _ _ _ _ _ _ _ _ _ _ _ _ _ _ (by first | assumption | omega) (by first | assumption | omega) (by first | assumption | omega) (by first | assumption | omega) (by first | assumption | omega) (by first | assumption | omega) (by first | assumption | omega) (by first | assumption | omega) (by first | assumption | omega)) cl_X10_figures wm_X10_108 dX10_factor_173 rfl rfl rfl rfl rfl (by decide) (by decide) (by omega) (Nat.le_of_ble_eq_true rfl) rfl (fun v9 w9 hq9 => ?_)
            obtain ⟨w3, p3, v3, rfl, rfl, r_w3, r_p3, r_v3, hz_173, hb_173, hv_173, hw0_173⟩ := hq9
            refine g_ws hC [cO m0 10 [w_thrown, .ref m1, w_image, w_frame, w_hasImage, .int (iI ac), .int (iI p3), .int (iI e), .int (iI w3), .int (iI o), w_by, w_truths, w_pulls, w_isKeeping, w_next, w_first, w_order, w_bestOrder, w_rooms, w_leastUnlike, w_bodies, w_ran, w_kind, w_number, w_tellsV], cA K m1 922 s] rfl ?_
            refine g_st hC [.int (iI v3)] rfl ?_
            skip
            refine g_istore (pc := 176) hC [(4, _), (3, _), (2, _), (1, _), (0, _)] dX10_factor_176 (by decide) rfl ?_
            refine g_aload_n (pc := 178) hC 4 dX10_factor_178 rfl rfl ?_
            refine g_iload_n (pc := 179) hC 2 dX10_factor_179 rfl rfl ?_
            refine g_bipush (pc := 180) hC (8) dX10_factor_180 (by decide) ?_
            refine g_iload_n (pc := 182) hC 1 dX10_factor_182 rfl rfl ?_
            refine g_imul (pc := 183) hC dX10_factor_183 ?_
            refine g_iadd (pc := 184) hC dX10_factor_184 ?_
            refine g_bipush (pc := 185) hC (32) dX10_factor_185 (by decide) ?_
            refine g_iload (pc := 187) hC 0 dX10_factor_187 rfl ?_
            refine g_imul (pc := 189) hC dX10_factor_189 ?_
            refine g_iadd (pc := 190) hC dX10_factor_190 ?_
            refine g_callV (pc := 191) (qr := 0) hC [0, 1] (k_X10_emits _ _ _ _ _ _ _ _ _ _ _ _ _ _ _ _ _ _ _ _ _ _ _ _ _ _ _ _ _ _ _ (by first | assumption | omega) (by first | assumption | omega) (by first | assumption | omega) (by first | assumption | omega) (by first | assumption | omega) (by first | assumption | omega) (by first | assumption | omega) (by first | assumption | omega) (by first | assumption | omega) (by first | assumption | omega) (by first | assumption | omega)) cl_X10_emits wm_X10_94 dX10_factor_191 rfl rfl rfl rfl rfl (by decide) (by decide) (by omega) (Nat.le_of_ble_eq_true rfl) rfl (fun v9 w9 hq9 => ?_)
            obtain ⟨s4, l4, rfl, rfl, r_s4, h4_191, hs2_191, hT2_191, hl2_191⟩ := hq9
            refine g_ws hC [cO m0 10 [w_thrown, .ref m1, w_image, w_frame, w_hasImage, .int (iI ac), .int (iI p3), .int (iI e), .int (iI w3), .int (iI o), w_by, w_truths, w_pulls, w_isKeeping, w_next, w_first, w_order, w_bestOrder, w_rooms, w_leastUnlike, w_bodies, w_ran, w_kind, w_number, w_tellsV], cA K m1 922 s4] rfl ?_
            refine g_st hC [] rfl ?_
            exact g_vret (pc := 194) hR dX10_factor_194 rfl ⟨by omega, by omega⟩ (Nat.le_of_ble_eq_true rfl) ⟨w3, p3, o, s4, l4, rfl, rfl, (by first | assumption | omega), (by first | assumption | omega), (by first | assumption | omega), (by first | assumption | omega), (px_fac_t c4 (by omega) (by omega) (px_tst_C e_a1 c122 hp2_115 e_b1 c161 hp2_147 hz_173 h4_191)), hs2_191, hT2_191, (by first | assumption | omega), (by first | assumption | omega), (by first | assumption | omega)⟩
          · refine g_iconst (pc := 164) hC dX10_factor_164 ?_
            refine g_goto (pc := 165) hC 169 dX10_factor_165 (by decide) ?_
            refine g_putZ (pc := 169) hC 0 [cO _ _ [_, _, _, _, _, _, _, _, _, _, _, _, _, _, _, _, _, _, _, _, _, _, _, _, _], _] fl_X10_64 dX10_factor_169 rfl (Nat.le_of_ble_eq_true rfl) (by omega) rfl ?_
            refine g_aload_n (pc := 172) hC 3 dX10_factor_172 rfl rfl ?_
            refine g_callV (pc := 173) (qr := 0) hC [0, 1] (k_X10_figures _ _ _ _ _ _ _ _ _ _ _ _ _ _ _ _ _ _ _ _ _ _ _ _ _ _ _ _ (by first | assumption | omega) (by first | assumption | omega) (by first | assumption | omega) (by first | assumption | omega) (by first | assumption | omega) (by first | assumption | omega) (by first | assumption | omega) (by first | assumption | omega) (by first | assumption | omega)) cl_X10_figures wm_X10_108 dX10_factor_173 rfl rfl rfl rfl rfl (by decide) (by decide) (by omega) (Nat.le_of_ble_eq_true rfl) rfl (fun v9 w9 hq9 => ?_)
            obtain ⟨w3, p3, v3, rfl, rfl, r_w3, r_p3, r_v3, hz_173, hb_173, hv_173, hw0_173⟩ := hq9
            refine g_ws hC [cO m0 10 [w_thrown, .ref m1, w_image, w_frame, w_hasImage, .int (iI ac), .int (iI p3), .int (iI e), .int (iI w3), .int (iI o), w_by, w_truths, w_pulls, w_isKeeping, w_next, w_first, w_order, w_bestOrder, w_rooms, w_leastUnlike, w_bodies, w_ran, w_kind, w_number, w_tellsV], cA K m1 922 s] rfl ?_
            refine g_st hC [.int (iI v3)] rfl ?_
            have hfw := px_fig_w (by omega) hz_173
            refine g_istore (pc := 176) hC [(4, _), (3, _), (2, _), (1, _), (0, _)] dX10_factor_176 (by decide) rfl ?_
            refine g_aload_n (pc := 178) hC 4 dX10_factor_178 rfl rfl ?_
            refine g_iload_n (pc := 179) hC 2 dX10_factor_179 rfl rfl ?_
            refine g_bipush (pc := 180) hC (8) dX10_factor_180 (by decide) ?_
            refine g_iload_n (pc := 182) hC 1 dX10_factor_182 rfl rfl ?_
            refine g_imul (pc := 183) hC dX10_factor_183 ?_
            refine g_iadd (pc := 184) hC dX10_factor_184 ?_
            refine g_bipush (pc := 185) hC (32) dX10_factor_185 (by decide) ?_
            refine g_iload (pc := 187) hC 0 dX10_factor_187 rfl ?_
            refine g_imul (pc := 189) hC dX10_factor_189 ?_
            refine g_iadd (pc := 190) hC dX10_factor_190 ?_
            refine g_callV (pc := 191) (qr := 0) hC [0, 1] (k_X10_emits _ _ _ _ _ _ _ _ _ _ _ _ _ _ _ _ _ _ _ _ _ _ _ _ _ _ _ _ _ _ _ (by first | assumption | omega) (by first | assumption | omega) (by first | assumption | omega) (by first | assumption | omega) (by first | assumption | omega) (by first | assumption | omega) (by first | assumption | omega) (by first | assumption | omega) (by first | assumption | omega) (by first | assumption | omega) (by first | assumption | omega)) cl_X10_emits wm_X10_94 dX10_factor_191 rfl rfl rfl rfl rfl (by decide) (by decide) (by omega) (Nat.le_of_ble_eq_true rfl) rfl (fun v9 w9 hq9 => ?_)
            obtain ⟨s4, l4, rfl, rfl, r_s4, h4_191, hs2_191, hT2_191, hl2_191⟩ := hq9
            refine g_ws hC [cO m0 10 [w_thrown, .ref m1, w_image, w_frame, w_hasImage, .int (iI ac), .int (iI p3), .int (iI e), .int (iI w3), .int (iI o), w_by, w_truths, w_pulls, w_isKeeping, w_next, w_first, w_order, w_bestOrder, w_rooms, w_leastUnlike, w_bodies, w_ran, w_kind, w_number, w_tellsV], cA K m1 922 s4] rfl ?_
            refine g_st hC [] rfl ?_
            exact g_vret (pc := 194) hR dX10_factor_194 rfl ⟨by omega, by omega⟩ (Nat.le_of_ble_eq_true rfl) ⟨w3, p3, o, s4, l4, rfl, rfl, (by first | assumption | omega), (by first | assumption | omega), (by first | assumption | omega), (by first | assumption | omega), (px_fac_t c4 (by omega) (by omega) (px_tst_B e_a1 c122 hp2_115 e_b1 c161 hp2_147 hz_173 h4_191)), hs2_191, hT2_191, (by first | assumption | omega), (by first | assumption | omega), (by first | assumption | omega)⟩
        · refine g_iconst (pc := 125) hC dX10_factor_125 ?_
          refine g_goto (pc := 126) hC 130 dX10_factor_126 (by decide) ?_
          refine g_putZ (pc := 130) hC 0 [cO _ _ [_, _, _, _, _, _, _, _, _, _, _, _, _, _, _, _, _, _, _, _, _, _, _, _, _], _] fl_X10_64 dX10_factor_130 rfl (Nat.le_of_ble_eq_true rfl) (by omega) rfl ?_
          refine g_aload_n (pc := 133) hC 2 dX10_factor_133 rfl rfl ?_
          refine g_get (pc := 134) hC 0 fl_X10_64 dX10_factor_134 rfl rfl ?_
          refine g_if_eq (pc := 137) hC 144 dX10_factor_137 (by decide) (by omega) (fun c137 => by exfalso; omega) (fun c137 => ?_)
          refine g_iconst (pc := 140) hC dX10_factor_140 ?_
          refine g_goto (pc := 141) hC 150 dX10_factor_141 (by decide) ?_
          refine g_istore_n (pc := 150) hC [(3, _), (2, _), (1, _), (0, _)] dX10_factor_150 rfl (by decide) rfl ?_
          refine g_aload_n (pc := 151) hC 3 dX10_factor_151 rfl rfl ?_
          refine g_aload_n (pc := 152) hC 3 dX10_factor_152 rfl rfl ?_
          refine g_get (pc := 153) hC 0 fl_X10_64 dX10_factor_153 rfl rfl ?_
          refine g_if_ne (pc := 156) hC 164 dX10_factor_156 (by decide) (by omega) (fun c156 => ?_) (fun c156 => by exfalso; omega)
          refine g_iconst (pc := 164) hC dX10_factor_164 ?_
          refine g_goto (pc := 165) hC 169 dX10_factor_165 (by decide) ?_
          refine g_putZ (pc := 169) hC 0 [cO _ _ [_, _, _, _, _, _, _, _, _, _, _, _, _, _, _, _, _, _, _, _, _, _, _, _, _], _] fl_X10_64 dX10_factor_169 rfl (Nat.le_of_ble_eq_true rfl) (by omega) rfl ?_
          refine g_aload_n (pc := 172) hC 3 dX10_factor_172 rfl rfl ?_
          refine g_callV (pc := 173) (qr := 0) hC [0, 1] (k_X10_figures _ _ _ _ _ _ _ _ _ _ _ _ _ _ _ _ _ _ _ _ _ _ _ _ _ _ _ _ (by first | assumption | omega) (by first | assumption | omega) (by first | assumption | omega) (by first | assumption | omega) (by first | assumption | omega) (by first | assumption | omega) (by first | assumption | omega) (by first | assumption | omega) (by first | assumption | omega)) cl_X10_figures wm_X10_108 dX10_factor_173 rfl rfl rfl rfl rfl (by decide) (by decide) (by omega) (Nat.le_of_ble_eq_true rfl) rfl (fun v9 w9 hq9 => ?_)
          obtain ⟨w3, p3, v3, rfl, rfl, r_w3, r_p3, r_v3, hz_173, hb_173, hv_173, hw0_173⟩ := hq9
          refine g_ws hC [cO m0 10 [w_thrown, .ref m1, w_image, w_frame, w_hasImage, .int (iI ac), .int (iI p3), .int (iI e), .int (iI w3), .int (iI o), w_by, w_truths, w_pulls, w_isKeeping, w_next, w_first, w_order, w_bestOrder, w_rooms, w_leastUnlike, w_bodies, w_ran, w_kind, w_number, w_tellsV], cA K m1 922 s] rfl ?_
          refine g_st hC [.int (iI v3)] rfl ?_
          have hfw := px_fig_w (by omega) hz_173
          refine g_istore (pc := 176) hC [(4, _), (3, _), (2, _), (1, _), (0, _)] dX10_factor_176 (by decide) rfl ?_
          refine g_aload_n (pc := 178) hC 4 dX10_factor_178 rfl rfl ?_
          refine g_iload_n (pc := 179) hC 2 dX10_factor_179 rfl rfl ?_
          refine g_bipush (pc := 180) hC (8) dX10_factor_180 (by decide) ?_
          refine g_iload_n (pc := 182) hC 1 dX10_factor_182 rfl rfl ?_
          refine g_imul (pc := 183) hC dX10_factor_183 ?_
          refine g_iadd (pc := 184) hC dX10_factor_184 ?_
          refine g_bipush (pc := 185) hC (32) dX10_factor_185 (by decide) ?_
          refine g_iload (pc := 187) hC 0 dX10_factor_187 rfl ?_
          refine g_imul (pc := 189) hC dX10_factor_189 ?_
          refine g_iadd (pc := 190) hC dX10_factor_190 ?_
          refine g_callV (pc := 191) (qr := 0) hC [0, 1] (k_X10_emits _ _ _ _ _ _ _ _ _ _ _ _ _ _ _ _ _ _ _ _ _ _ _ _ _ _ _ _ _ _ _ (by first | assumption | omega) (by first | assumption | omega) (by first | assumption | omega) (by first | assumption | omega) (by first | assumption | omega) (by first | assumption | omega) (by first | assumption | omega) (by first | assumption | omega) (by first | assumption | omega) (by first | assumption | omega) (by first | assumption | omega)) cl_X10_emits wm_X10_94 dX10_factor_191 rfl rfl rfl rfl rfl (by decide) (by decide) (by omega) (Nat.le_of_ble_eq_true rfl) rfl (fun v9 w9 hq9 => ?_)
          obtain ⟨s4, l4, rfl, rfl, r_s4, h4_191, hs2_191, hT2_191, hl2_191⟩ := hq9
          refine g_ws hC [cO m0 10 [w_thrown, .ref m1, w_image, w_frame, w_hasImage, .int (iI ac), .int (iI p3), .int (iI e), .int (iI w3), .int (iI o), w_by, w_truths, w_pulls, w_isKeeping, w_next, w_first, w_order, w_bestOrder, w_rooms, w_leastUnlike, w_bodies, w_ran, w_kind, w_number, w_tellsV], cA K m1 922 s4] rfl ?_
          refine g_st hC [] rfl ?_
          exact g_vret (pc := 194) hR dX10_factor_194 rfl ⟨by omega, by omega⟩ (Nat.le_of_ble_eq_true rfl) ⟨w3, p3, o, s4, l4, rfl, rfl, (by first | assumption | omega), (by first | assumption | omega), (by first | assumption | omega), (by first | assumption | omega), (px_fac_t c4 (by omega) (by omega) (px_tst_A e_a1 c122 hp2_115 hz_173 h4_191)), hs2_191, hT2_191, (by first | assumption | omega), (by first | assumption | omega), (by first | assumption | omega)⟩
      · have hlt := px_lt hT hp.1 (show T p = 40 by omega) (by omega)
        refine g_aload_n (pc := 25) hC 1 dX10_factor_25 rfl rfl ?_
        refine g_aload_n (pc := 26) hC 1 dX10_factor_26 rfl rfl ?_
        refine g_get (pc := 27) hC 0 fl_X10_88 dX10_factor_27 rfl rfl ?_
        refine g_iconst (pc := 30) hC dX10_factor_30 ?_
        refine g_icmp_ne (pc := 31) hC 38 dX10_factor_31 (by decide) (by omega) (by omega) (fun c31 => ?_) (fun c31 => by exfalso; omega)
        refine g_iconst (pc := 38) hC dX10_factor_38 ?_
        refine g_putZ (pc := 39) hC 0 [cO _ _ [_, _, _, _, _, _, _, _, _, _, _, _, _, _, _, _, _, _, _, _, _, _, _, _, _], _] fl_X10_64 dX10_factor_39 rfl (Nat.le_of_ble_eq_true rfl) (by omega) rfl ?_
        refine g_aload_n (pc := 42) hC 1 dX10_factor_42 rfl rfl ?_
        refine g_dup (pc := 43) hC dX10_factor_43 rfl ?_
        refine g_get (pc := 44) hC 0 fl_X10_88 dX10_factor_44 rfl rfl ?_
        refine g_iconst (pc := 47) hC dX10_factor_47 ?_
        refine g_iadd (pc := 48) hC dX10_factor_48 ?_
        refine g_putI (pc := 49) hC 0 [cO _ _ [_, _, _, _, _, _, _, _, _, _, _, _, _, _, _, _, _, _, _, _, _, _, _, _, _], _] fl_X10_88 dX10_factor_49 rfl (Nat.le_of_ble_eq_true rfl) rfl ?_
        refine g_aload_n (pc := 52) hC 1 dX10_factor_52 rfl rfl ?_
        refine g_dup (pc := 53) hC dX10_factor_53 rfl ?_
        refine g_get (pc := 54) hC 0 fl_X10_58 dX10_factor_54 rfl rfl ?_
        refine g_aload_n (pc := 57) hC 1 dX10_factor_57 rfl rfl ?_
        refine g_get (pc := 58) hC 0 fl_X10_64 dX10_factor_58 rfl rfl ?_
        refine g_if_eq (pc := 61) hC 68 dX10_factor_61 (by decide) (by omega) (fun c61 => ?_) (fun c61 => by exfalso; omega)
        refine g_iconst (pc := 68) hC dX10_factor_68 ?_
        refine g_iadd (pc := 69) hC dX10_factor_69 ?_
        refine g_putI (pc := 70) hC 0 [cO _ _ [_, _, _, _, _, _, _, _, _, _, _, _, _, _, _, _, _, _, _, _, _, _, _, _, _], _] fl_X10_58 dX10_factor_70 rfl (Nat.le_of_ble_eq_true rfl) rfl ?_
        refine g_iload_n (pc := 73) hC 0 dX10_factor_73 rfl rfl ?_
        refine g_bipush (pc := 74) hC (33) dX10_factor_74 (by decide) ?_
        refine g_icmp_ne (pc := 76) hC 91 dX10_factor_76 (by decide) (by omega) (by omega) (fun c76 => ?_) (fun c76 => by exfalso; omega)
        refine g_aload_n (pc := 91) hC 1 dX10_factor_91 rfl rfl ?_
        refine g_callV (pc := 92) (qr := 0) hC [0, 1] (k_X10_some_2 _ _ _ _ _ _ _ _ _ _ _ _ _ _ _ _ _ _ _ _ _ _ _ _ _ _ _ _ _ _ (by first | assumption | omega) (by first | assumption | omega) (by first | assumption | omega) (by first | assumption | omega) (by first | assumption | omega) (by first | assumption | omega) (by first | assumption | omega) (by first | assumption | omega) (by first | assumption | omega) (by first | assumption | omega) (by first | assumption | omega) (by first | assumption | omega) (by first | assumption | omega)) cl_X10_some wm_X10_97 dX10_factor_92 rfl rfl rfl rfl rfl (by decide) (by decide) (by omega) (Nat.le_of_ble_eq_true rfl) rfl (fun v9 w9 hq9 => ?_)
        obtain ⟨w3, p3, o3, s3, l3, rfl, rfl, r_w3, r_p3, r_o3, r_s3, hz_92, hs2_92, hT2_92, ho2_92, hb_92, hl2_92⟩ := hq9
        refine g_ws hC [cO m0 10 [w_thrown, .ref m1, w_image, w_frame, w_hasImage, .int (iI ac), .int (iI p3), .int (iI e), .int (iI w3), .int (iI o3), w_by, w_truths, w_pulls, w_isKeeping, w_next, w_first, w_order, w_bestOrder, w_rooms, w_leastUnlike, w_bodies, w_ran, w_kind, w_number, w_tellsV], cA K m1 922 s3] rfl ?_
        refine g_st hC [] rfl ?_
        refine g_aload_n (pc := 95) hC 1 dX10_factor_95 rfl rfl ?_
        refine g_bipush (pc := 96) hC (41) dX10_factor_96 (by decide) ?_
        refine g_callV (pc := 98) (qr := 0) hC [0, 1] (k_X10_must _ _ _ _ _ _ _ _ _ _ _ _ _ _ _ _ _ _ _ _ _ _ _ _ _ _ _ _ _ (by first | assumption | omega) (by first | assumption | omega) (by first | assumption | omega) (by first | assumption | omega) (by first | assumption | omega) (by first | assumption | omega) (by first | assumption | omega) (by first | assumption | omega) (by first | assumption | omega) (by first | assumption | omega) (by first | assumption | omega)) cl_X10_must wm_X10_81 dX10_factor_98 rfl rfl rfl rfl rfl (by decide) (by decide) (by omega) (Nat.le_of_ble_eq_true rfl) rfl (fun v9 w9 hq9 => ?_)
        obtain ⟨w4, p4, rfl, rfl, r_w4, r_p4, hz_98, hb_98, hw0_98⟩ := hq9
        refine g_ws hC [cO m0 10 [w_thrown, .ref m1, w_image, w_frame, w_hasImage, .int (iI ac), .int (iI p4), .int (iI e), .int (iI w4), .int (iI o3), w_by, w_truths, w_pulls, w_isKeeping, w_next, w_first, w_order, w_bestOrder, w_rooms, w_leastUnlike, w_bodies, w_ran, w_kind, w_number, w_tellsV], cA K m1 922 s3] rfl ?_
        refine g_st hC [] rfl ?_
        refine g_aload_n (pc := 101) hC 1 dX10_factor_101 rfl rfl ?_
        refine g_dup (pc := 102) hC dX10_factor_102 rfl ?_
        refine g_get (pc := 103) hC 0 fl_X10_88 dX10_factor_103 rfl rfl ?_
        refine g_iconst (pc := 106) hC dX10_factor_106 ?_
        refine g_isub (pc := 107) hC dX10_factor_107 ?_
        refine g_putI (pc := 108) hC 0 [cO _ _ [_, _, _, _, _, _, _, _, _, _, _, _, _, _, _, _, _, _, _, _, _, _, _, _, _], _] fl_X10_88 dX10_factor_108 rfl (Nat.le_of_ble_eq_true rfl) rfl ?_
        exact g_vret (pc := 111) hR dX10_factor_111 rfl ⟨by omega, by omega⟩ (Nat.le_of_ble_eq_true rfl) ⟨w4, p4, o3 - 1, s3, l3, rfl, rfl, (by first | assumption | omega), (by first | assumption | omega), (by first | assumption | omega), (by first | assumption | omega), (px_fac_br c4 (by omega) hz_92 hz_98), hs2_92, hT2_92, (by first | assumption | omega), (by first | assumption | omega), (by first | assumption | omega)⟩
  · exact g_vret (pc := 7) hR dX10_factor_7 rfl ⟨by omega, by omega⟩ (Nat.le_of_ble_eq_true rfl) ⟨w, p, o, s, l, rfl, rfl, (by first | assumption | omega), (by first | assumption | omega), (by first | assumption | omega), (by first | assumption | omega), (px_fac_w c4).symm, hs, hT, (by first | assumption | omega), (by first | assumption | omega), (by first | assumption | omega)⟩
set_option maxHeartbeats 4000000 in
set_option maxRecDepth 100000 in
theorem k_X10_every_3 {K : gK} (m0 : Nat) (m1 : Nat) (w_thrown : Value) (w_image : Value) (w_frame : Value) (w_hasImage : Value) (w_by : Value) (w_truths : Value) (w_pulls : Value) (w_isKeeping : Value) (w_next : Value) (w_first : Value) (w_order : Value) (w_bestOrder : Value) (w_rooms : Value) (w_leastUnlike : Value) (w_bodies : Value) (w_ran : Value) (w_kind : Value) (w_number : Value) (w_tellsV : Value) (ac : Int) (p : Int) (e : Int) (w : Int) (o : Int) (s : Int → Int) (T : Int → Int) (s0 : Int → Int) (l : List Int) (r_ac : rI ac) (r_p : rI p) (r_e : rI e) (r_w : rI w) (r_o : rI o) (r_s : ∀ j, rI (s j)) (hT : md_T T e s) (hs : s = px_row s0 ac l) (hac : 0 ≤ ac ∧ ac ≤ 4) (hp : 0 ≤ p ∧ p ≤ e) (hw : w = 0 ∨ w = 1) (ho : w = 0 → o = 2) (hl : (l.length : Int) ≤ p) : gMet K yX10_every cX10_every 1 none 16 0 0 [.ref m0] [cO m0 10 [w_thrown, .ref m1, w_image, w_frame, w_hasImage, .int (iI ac), .int (iI p), .int (iI e), .int (iI w), .int (iI o), w_by, w_truths, w_pulls, w_isKeeping, w_next, w_first, w_order, w_bestOrder, w_rooms, w_leastUnlike, w_bodies, w_ran, w_kind, w_number, w_tellsV], cA K m1 922 s] (fun v9 w9 => ∃ (w2 : Int), ∃ (p2 : Int), ∃ (o2 : Int), ∃ (s2 : Int → Int), ∃ (l2 : List Int), v9 = none ∧ w9 = [cO m0 10 [w_thrown, .ref m1, w_image, w_frame, w_hasImage, .int (iI ac), .int (iI p2), .int (iI e), .int (iI w2), .int (iI o2), w_by, w_truths, w_pulls, w_isKeeping, w_next, w_first, w_order, w_bestOrder, w_rooms, w_leastUnlike, w_bodies, w_ran, w_kind, w_number, w_tellsV], cA K m1 922 s2] ∧ rI w2 ∧ rI p2 ∧ rI o2 ∧ (∀ j, rI (s2 j)) ∧ ((w2, p2, l2) = px_every T (px_fac T 3) (w, p, l)) ∧ (s2 = px_row s0 ac l2) ∧ (md_T T e s2) ∧ (o2 = o ∧ (w2 = 0 → o = 2 ∧ w = 0)) ∧ ((w2 = 0 ∨ w2 = 1) ∧ p ≤ p2 ∧ p2 ≤ e) ∧ ((l2.length : Int) + p ≤ (l.length : Int) + p2)) := by
  refine g_enter (by decide +kernel) (Nat.le_of_ble_eq_true rfl) (fun G hC hR => ?_)
  refine g_lv hC [0] [(0, _)] rfl ?_
  have hge := hT.1
  refine g_aload_n (pc := 0) hC 0 dX10_every_0 rfl rfl ?_
  refine g_callV (pc := 1) (qr := 0) hC [0, 1] (k_X10_factor_3 _ _ _ _ _ _ _ _ _ _ _ _ _ _ _ _ _ _ _ _ _ _ _ _ _ _ _ _ _ _ (by first | assumption | omega) (by first | assumption | omega) (by first | assumption | omega) (by first | assumption | omega) (by first | assumption | omega) (by first | assumption | omega) (by first | assumption | omega) (by first | assumption | omega) (by first | assumption | omega) (by first | assumption | omega) (by first | assumption | omega) (by first | assumption | omega) (by first | assumption | omega)) cl_X10_factor wm_X10_91 dX10_every_1 rfl rfl rfl rfl rfl (by decide) (by decide) (by omega) (Nat.le_of_ble_eq_true rfl) rfl (fun v9 w9 hq9 => ?_)
  obtain ⟨w3, p3, o3, s3, l3, rfl, rfl, r_w3, r_p3, r_o3, r_s3, hz_1, hs2_1, hT2_1, ho2_1, hb_1, hl2_1⟩ := hq9
  refine g_ws hC [cO m0 10 [w_thrown, .ref m1, w_image, w_frame, w_hasImage, .int (iI ac), .int (iI p3), .int (iI e), .int (iI w3), .int (iI o3), w_by, w_truths, w_pulls, w_isKeeping, w_next, w_first, w_order, w_bestOrder, w_rooms, w_leastUnlike, w_bodies, w_ran, w_kind, w_number, w_tellsV], cA K m1 922 s3] rfl ?_
  refine g_st hC [] rfl ?_
  have L4 : ∀ (n1 : Nat) (w1 : Int) (p1 : Int) (o1 : Int) (f1 : Int → Int) (l1 : List Int) (f : Nat), (rI w1) → (rI p1) → (rI o1) → (∀ j, rI (f1 j)) → (f1 = px_row s0 ac l1) → (md_T T e f1) → (px_ev T (px_fac T 3) f (w1, p1, l1) = px_every T (px_fac T 3) (w, p, l)) → ((w1 = 0 ∨ w1 = 1) ∧ p ≤ p1 ∧ p1 ≤ e) → (o1 = o ∧ (w1 = 0 → o = 2 ∧ w = 0)) → ((l1.length : Int) + p ≤ (l.length : Int) + p1) → (e - p1 ≤ (f : Int)) → e - p1 < (n1 : Int) → G 0 0 4 [(0, .ref m0)] [] [cO m0 10 [w_thrown, .ref m1, w_image, w_frame, w_hasImage, .int (iI ac), .int (iI p1), .int (iI e), .int (iI w1), .int (iI o1), w_by, w_truths, w_pulls, w_isKeeping, w_next, w_first, w_order, w_bestOrder, w_rooms, w_leastUnlike, w_bodies, w_ran, w_kind, w_number, w_tellsV], cA K m1 922 f1] := by
    intro n1
    induction n1 with
    | zero => intro w1 p1 o1 f1 l1 f r_w1 r_p1 r_o1 r_f1 hs1 hT1 hz hb1 ho1 hl1 hf hm4; exfalso; omega
    | succ n1 ih4 =>
      intro w1 p1 o1 f1 l1 f r_w1 r_p1 r_o1 r_f1 hs1 hT1 hz hb1 ho1 hl1 hf hm4
      refine g_aload_n (pc := 4) hC 0 dX10_every_4 rfl rfl ?_
      refine g_get (pc := 5) hC 0 fl_X10_64 dX10_every_5 rfl rfl ?_
      refine g_if_ne (pc := 8) hC 43 dX10_every_8 (by decide) (by omega) (fun c8 => ?_) (fun c8 => ?_)
      · exact g_vret (pc := 43) hR dX10_every_43 rfl ⟨by omega, by omega⟩ (Nat.le_of_ble_eq_true rfl) ⟨w1, p1, o1, f1, l1, rfl, rfl, (by first | assumption | omega), (by first | assumption | omega), (by first | assumption | omega), (by first | assumption | omega), (by rw [← hz]; exact (px_ev_end (fun h9 => c8 h9.1)).symm), hs1, hT1, ho1, hb1, hl1⟩
      · refine g_aload_n (pc := 11) hC 0 dX10_every_11 rfl rfl ?_
        refine g_fnV (pc := 12) (qr := 0) hC [0, 1] (k_X10_here _ _ _ _ _ _ _ _ _ _ _ _ _ _ _ _ _ _ _ _ _ _ _ _ _ _ _ _ (by first | assumption | omega) (by first | assumption | omega) (by first | assumption | omega) (by first | assumption | omega) (by first | assumption | omega) (by first | assumption | omega) (by first | assumption | omega) (by first | assumption | omega)) cl_X10_here wm_X10_68 dX10_every_12 rfl rfl rfl rfl rfl (by decide) (by decide) ⟨by omega, by omega⟩ (Nat.le_of_ble_eq_true rfl) rfl rfl ?_
        refine g_name hC (fun x2 e_x2 => ?_)
        have q_x2 : -1 ≤ x2 ∧ x2 ≤ 127 := by rw [e_x2]; exact hT.2.2.1 _
        refine g_bipush (pc := 15) hC (38) dX10_every_15 (by decide) ?_
        refine g_icmp_ne (pc := 17) hC 43 dX10_every_17 (by decide) (by omega) (by omega) (fun c17 => ?_) (fun c17 => ?_)
        · exact g_vret (pc := 43) hR dX10_every_43 rfl ⟨by omega, by omega⟩ (Nat.le_of_ble_eq_true rfl) ⟨w1, p1, o1, f1, l1, rfl, rfl, (by first | assumption | omega), (by first | assumption | omega), (by first | assumption | omega), (by first | assumption | omega), (by rw [← hz]; exact (px_ev_end (fun h9 => absurd (show T p1 = 38 from h9.2) (by omega))).symm), hs1, hT1, ho1, hb1, hl1⟩
        · have hlt := px_lt hT1 (by omega) (show T p1 = 38 by omega) (by omega)
          obtain ⟨g9, rfl⟩ : ∃ g9, f = g9 + 1 := ⟨f - 1, by omega⟩
          refine g_aload_n (pc := 20) hC 0 dX10_every_20 rfl rfl ?_
          refine g_dup (pc := 21) hC dX10_every_21 rfl ?_
          refine g_get (pc := 22) hC 0 fl_X10_58 dX10_every_22 rfl rfl ?_
          refine g_iconst (pc := 25) hC dX10_every_25 ?_
          refine g_iadd (pc := 26) hC dX10_every_26 ?_
          refine g_putI (pc := 27) hC 0 [cO _ _ [_, _, _, _, _, _, _, _, _, _, _, _, _, _, _, _, _, _, _, _, _, _, _, _, _], _] fl_X10_58 dX10_every_27 rfl (Nat.le_of_ble_eq_true rfl) rfl ?_
          refine g_aload_n (pc := 30) hC 0 dX10_every_30 rfl rfl ?_
          refine g_callV (pc := 31) (qr := 0) hC [0, 1] (k_X10_factor_3 _ _ _ _ _ _ _ _ _ _ _ _ _ _ _ _ _ _ _ _ _ _ _ _ _ _ _ _ _ _ (by first | assumption | omega) (by first | assumption | omega) (by first | assumption | omega) (by first | assumption | omega) (by first | assumption | omega) (by first | assumption | omega) (by first | assumption | omega) (by first | assumption | omega) (by first | assumption | omega) (by first | assumption | omega) (by first | assumption | omega) (by first | assumption | omega) (by first | assumption | omega)) cl_X10_factor wm_X10_91 dX10_every_31 rfl rfl rfl rfl rfl (by decide) (by decide) (by omega) (Nat.le_of_ble_eq_true rfl) rfl (fun v9 w9 hq9 => ?_)
          obtain ⟨w5, p5, o5, s5, l5, rfl, rfl, r_w5, r_p5, r_o5, r_s5, hz_31, hs2_31, hT2_31, ho2_31, hb_31, hl2_31⟩ := hq9
          refine g_ws hC [cO m0 10 [w_thrown, .ref m1, w_image, w_frame, w_hasImage, .int (iI ac), .int (iI p5), .int (iI e), .int (iI w5), .int (iI o5), w_by, w_truths, w_pulls, w_isKeeping, w_next, w_first, w_order, w_bestOrder, w_rooms, w_leastUnlike, w_bodies, w_ran, w_kind, w_number, w_tellsV], cA K m1 922 s5] rfl ?_
          refine g_st hC [] rfl ?_
          refine g_aload_n (pc := 34) hC 0 dX10_every_34 rfl rfl ?_
          refine g_bipush (pc := 35) hC (-2) dX10_every_35 (by decide) ?_
          refine g_callV (pc := 37) (qr := 0) hC [0, 1] (k_X10_emits _ _ _ _ _ _ _ _ _ _ _ _ _ _ _ _ _ _ _ _ _ _ _ _ _ _ _ _ _ _ _ (by first | assumption | omega) (by first | assumption | omega) (by first | assumption | omega) (by first | assumption | omega) (by first | assumption | omega) (by first | assumption | omega) (by first | assumption | omega) (by first | assumption | omega) (by first | assumption | omega) (by first | assumption | omega) (by first | assumption | omega)) cl_X10_emits wm_X10_94 dX10_every_37 rfl rfl rfl rfl rfl (by decide) (by decide) (by omega) (Nat.le_of_ble_eq_true rfl) rfl (fun v9 w9 hq9 => ?_)
          obtain ⟨s6, l6, rfl, rfl, r_s6, h4_37, hs2_37, hT2_37, hl2_37⟩ := hq9
          refine g_ws hC [cO m0 10 [w_thrown, .ref m1, w_image, w_frame, w_hasImage, .int (iI ac), .int (iI p5), .int (iI e), .int (iI w5), .int (iI o5), w_by, w_truths, w_pulls, w_isKeeping, w_next, w_first, w_order, w_bestOrder, w_rooms, w_leastUnlike, w_bodies, w_ran, w_kind, w_number, w_tellsV], cA K m1 922 s6] rfl ?_
          refine g_st hC [] rfl ?_
          refine g_goto (pc := 40) hC 4 dX10_every_40 (by decide) ?_
          exact ih4 w5 p5 o5 s6 l6 g9 (by first | assumption | omega) (by first | assumption | omega) (by first | assumption | omega) (by first | assumption | omega) (by first | assumption | omega) (by first | assumption | omega) (px_ev_s hz (by omega) (by omega) hz_31 h4_37) (by first | assumption | omega) (by first | assumption | omega) (by first | assumption | omega) (by first | assumption | omega) (by omega)
  exact L4 ((e - p3 : Int).toNat + 1) w3 p3 o3 s3 l3 101 (by first | assumption | omega) (by first | assumption | omega) (by first | assumption | omega) (by first | assumption | omega) (by first | assumption | omega) (by first | assumption | omega) (by unfold px_every; rw [← hz_1]) (by first | assumption | omega) (by first | assumption | omega) (by first | assumption | omega) (by first | assumption | omega) (by omega)
set_option maxHeartbeats 4000000 in
set_option maxRecDepth 100000 in
theorem k_X10_some_3 {K : gK} (m0 : Nat) (m1 : Nat) (w_thrown : Value) (w_image : Value) (w_frame : Value) (w_hasImage : Value) (w_by : Value) (w_truths : Value) (w_pulls : Value) (w_isKeeping : Value) (w_next : Value) (w_first : Value) (w_order : Value) (w_bestOrder : Value) (w_rooms : Value) (w_leastUnlike : Value) (w_bodies : Value) (w_ran : Value) (w_kind : Value) (w_number : Value) (w_tellsV : Value) (ac : Int) (p : Int) (e : Int) (w : Int) (o : Int) (s : Int → Int) (T : Int → Int) (s0 : Int → Int) (l : List Int) (r_ac : rI ac) (r_p : rI p) (r_e : rI e) (r_w : rI w) (r_o : rI o) (r_s : ∀ j, rI (s j)) (hT : md_T T e s) (hs : s = px_row s0 ac l) (hac : 0 ≤ ac ∧ ac ≤ 4) (hp : 0 ≤ p ∧ p ≤ e) (hw : w = 0 ∨ w = 1) (ho : w = 0 → o = 2) (hl : (l.length : Int) ≤ p) : gMet K yX10_some cX10_some 1 none 17 0 0 [.ref m0] [cO m0 10 [w_thrown, .ref m1, w_image, w_frame, w_hasImage, .int (iI ac), .int (iI p), .int (iI e), .int (iI w), .int (iI o), w_by, w_truths, w_pulls, w_isKeeping, w_next, w_first, w_order, w_bestOrder, w_rooms, w_leastUnlike, w_bodies, w_ran, w_kind, w_number, w_tellsV], cA K m1 922 s] (fun v9 w9 => ∃ (w2 : Int), ∃ (p2 : Int), ∃ (o2 : Int), ∃ (s2 : Int → Int), ∃ (l2 : List Int), v9 = none ∧ w9 = [cO m0 10 [w_thrown, .ref m1, w_image, w_frame, w_hasImage, .int (iI ac), .int (iI p2), .int (iI e), .int (iI w2), .int (iI o2), w_by, w_truths, w_pulls, w_isKeeping, w_next, w_first, w_order, w_bestOrder, w_rooms, w_leastUnlike, w_bodies, w_ran, w_kind, w_number, w_tellsV], cA K m1 922 s2] ∧ rI w2 ∧ rI p2 ∧ rI o2 ∧ (∀ j, rI (s2 j)) ∧ ((w2, p2, l2) = px_some T (px_fac T 3) (w, p, l)) ∧ (s2 = px_row s0 ac l2) ∧ (md_T T e s2) ∧ (o2 = o ∧ (w2 = 0 → o = 2 ∧ w = 0)) ∧ ((w2 = 0 ∨ w2 = 1) ∧ p ≤ p2 ∧ p2 ≤ e) ∧ ((l2.length : Int) + p ≤ (l.length : Int) + p2)) := by
  refine g_enter (by decide +kernel) (Nat.le_of_ble_eq_true rfl) (fun G hC hR => ?_)
  refine g_lv hC [0] [(0, _)] rfl ?_
  have hge := hT.1
  refine g_aload_n (pc := 0) hC 0 dX10_some_0 rfl rfl ?_
  refine g_callV (pc := 1) (qr := 0) hC [0, 1] (k_X10_every_3 _ _ _ _ _ _ _ _ _ _ _ _ _ _ _ _ _ _ _ _ _ _ _ _ _ _ _ _ _ _ (by first | assumption | omega) (by first | assumption | omega) (by first | assumption | omega) (by first | assumption | omega) (by first | assumption | omega) (by first | assumption | omega) (by first | assumption | omega) (by first | assumption | omega) (by first | assumption | omega) (by first | assumption | omega) (by first | assumption | omega) (by first | assumption | omega) (by first | assumption | omega)) cl_X10_every wm_X10_111 dX10_some_1 rfl rfl rfl rfl rfl (by decide) (by decide) (by omega) (Nat.le_of_ble_eq_true rfl) rfl (fun v9 w9 hq9 => ?_)
  obtain ⟨w3, p3, o3, s3, l3, rfl, rfl, r_w3, r_p3, r_o3, r_s3, hz_1, hs2_1, hT2_1, ho2_1, hb_1, hl2_1⟩ := hq9
  refine g_ws hC [cO m0 10 [w_thrown, .ref m1, w_image, w_frame, w_hasImage, .int (iI ac), .int (iI p3), .int (iI e), .int (iI w3), .int (iI o3), w_by, w_truths, w_pulls, w_isKeeping, w_next, w_first, w_order, w_bestOrder, w_rooms, w_leastUnlike, w_bodies, w_ran, w_kind, w_number, w_tellsV], cA K m1 922 s3] rfl ?_
  refine g_st hC [] rfl ?_
  have L4 : ∀ (n1 : Nat) (w1 : Int) (p1 : Int) (o1 : Int) (f1 : Int → Int) (l1 : List Int) (f : Nat), (rI w1) → (rI p1) → (rI o1) → (∀ j, rI (f1 j)) → (f1 = px_row s0 ac l1) → (md_T T e f1) → (px_so T (px_fac T 3) f (w1, p1, l1) = px_some T (px_fac T 3) (w, p, l)) → ((w1 = 0 ∨ w1 = 1) ∧ p ≤ p1 ∧ p1 ≤ e) → (o1 = o ∧ (w1 = 0 → o = 2 ∧ w = 0)) → ((l1.length : Int) + p ≤ (l.length : Int) + p1) → (e - p1 ≤ (f : Int)) → e - p1 < (n1 : Int) → G 0 0 4 [(0, .ref m0)] [] [cO m0 10 [w_thrown, .ref m1, w_image, w_frame, w_hasImage, .int (iI ac), .int (iI p1), .int (iI e), .int (iI w1), .int (iI o1), w_by, w_truths, w_pulls, w_isKeeping, w_next, w_first, w_order, w_bestOrder, w_rooms, w_leastUnlike, w_bodies, w_ran, w_kind, w_number, w_tellsV], cA K m1 922 f1] := by
    intro n1
    induction n1 with
    | zero => intro w1 p1 o1 f1 l1 f r_w1 r_p1 r_o1 r_f1 hs1 hT1 hz hb1 ho1 hl1 hf hm4; exfalso; omega
    | succ n1 ih4 =>
      intro w1 p1 o1 f1 l1 f r_w1 r_p1 r_o1 r_f1 hs1 hT1 hz hb1 ho1 hl1 hf hm4
      refine g_aload_n (pc := 4) hC 0 dX10_some_4 rfl rfl ?_
      refine g_get (pc := 5) hC 0 fl_X10_64 dX10_some_5 rfl rfl ?_
      refine g_if_ne (pc := 8) hC 43 dX10_some_8 (by decide) (by omega) (fun c8 => ?_) (fun c8 => ?_)
      · exact g_vret (pc := 43) hR dX10_some_43 rfl ⟨by omega, by omega⟩ (Nat.le_of_ble_eq_true rfl) ⟨w1, p1, o1, f1, l1, rfl, rfl, (by first | assumption | omega), (by first | assumption | omega), (by first | assumption | omega), (by first | assumption | omega), (by rw [← hz]; exact (px_so_end (fun h9 => c8 h9.1)).symm), hs1, hT1, ho1, hb1, hl1⟩
      · refine g_aload_n (pc := 11) hC 0 dX10_some_11 rfl rfl ?_
        refine g_fnV (pc := 12) (qr := 0) hC [0, 1] (k_X10_here _ _ _ _ _ _ _ _ _ _ _ _ _ _ _ _ _ _ _ _ _ _ _ _ _ _ _ _ (by first | assumption | omega) (by first | assumption | omega) (by first | assumption | omega) (by first | assumption | omega) (by first | assumption | omega) (by first | assumption | omega) (by first | assumption | omega) (by first | assumption | omega)) cl_X10_here wm_X10_68 dX10_some_12 rfl rfl rfl rfl rfl (by decide) (by decide) ⟨by omega, by omega⟩ (Nat.le_of_ble_eq_true rfl) rfl rfl ?_
        refine g_name hC (fun x2 e_x2 => ?_)
        have q_x2 : -1 ≤ x2 ∧ x2 ≤ 127 := by rw [e_x2]; exact hT.2.2.1 _
        refine g_bipush (pc := 15) hC (124) dX10_some_15 (by decide) ?_
        refine g_icmp_ne (pc := 17) hC 43 dX10_some_17 (by decide) (by omega) (by omega) (fun c17 => ?_) (fun c17 => ?_)
        · exact g_vret (pc := 43) hR dX10_some_43 rfl ⟨by omega, by omega⟩ (Nat.le_of_ble_eq_true rfl) ⟨w1, p1, o1, f1, l1, rfl, rfl, (by first | assumption | omega), (by first | assumption | omega), (by first | assumption | omega), (by first | assumption | omega), (by rw [← hz]; exact (px_so_end (fun h9 => absurd (show T p1 = 124 from h9.2) (by omega))).symm), hs1, hT1, ho1, hb1, hl1⟩
        · have hlt := px_lt hT1 (by omega) (show T p1 = 124 by omega) (by omega)
          obtain ⟨g9, rfl⟩ : ∃ g9, f = g9 + 1 := ⟨f - 1, by omega⟩
          refine g_aload_n (pc := 20) hC 0 dX10_some_20 rfl rfl ?_
          refine g_dup (pc := 21) hC dX10_some_21 rfl ?_
          refine g_get (pc := 22) hC 0 fl_X10_58 dX10_some_22 rfl rfl ?_
          refine g_iconst (pc := 25) hC dX10_some_25 ?_
          refine g_iadd (pc := 26) hC dX10_some_26 ?_
          refine g_putI (pc := 27) hC 0 [cO _ _ [_, _, _, _, _, _, _, _, _, _, _, _, _, _, _, _, _, _, _, _, _, _, _, _, _], _] fl_X10_58 dX10_some_27 rfl (Nat.le_of_ble_eq_true rfl) rfl ?_
          refine g_aload_n (pc := 30) hC 0 dX10_some_30 rfl rfl ?_
          refine g_callV (pc := 31) (qr := 0) hC [0, 1] (k_X10_every_3 _ _ _ _ _ _ _ _ _ _ _ _ _ _ _ _ _ _ _ _ _ _ _ _ _ _ _ _ _ _ (by first | assumption | omega) (by first | assumption | omega) (by first | assumption | omega) (by first | assumption | omega) (by first | assumption | omega) (by first | assumption | omega) (by first | assumption | omega) (by first | assumption | omega) (by first | assumption | omega) (by first | assumption | omega) (by first | assumption | omega) (by first | assumption | omega) (by first | assumption | omega)) cl_X10_every wm_X10_111 dX10_some_31 rfl rfl rfl rfl rfl (by decide) (by decide) (by omega) (Nat.le_of_ble_eq_true rfl) rfl (fun v9 w9 hq9 => ?_)
          obtain ⟨w5, p5, o5, s5, l5, rfl, rfl, r_w5, r_p5, r_o5, r_s5, hz_31, hs2_31, hT2_31, ho2_31, hb_31, hl2_31⟩ := hq9
          refine g_ws hC [cO m0 10 [w_thrown, .ref m1, w_image, w_frame, w_hasImage, .int (iI ac), .int (iI p5), .int (iI e), .int (iI w5), .int (iI o5), w_by, w_truths, w_pulls, w_isKeeping, w_next, w_first, w_order, w_bestOrder, w_rooms, w_leastUnlike, w_bodies, w_ran, w_kind, w_number, w_tellsV], cA K m1 922 s5] rfl ?_
          refine g_st hC [] rfl ?_
          refine g_aload_n (pc := 34) hC 0 dX10_some_34 rfl rfl ?_
          refine g_bipush (pc := 35) hC (-3) dX10_some_35 (by decide) ?_
          refine g_callV (pc := 37) (qr := 0) hC [0, 1] (k_X10_emits _ _ _ _ _ _ _ _ _ _ _ _ _ _ _ _ _ _ _ _ _ _ _ _ _ _ _ _ _ _ _ (by first | assumption | omega) (by first | assumption | omega) (by first | assumption | omega) (by first | assumption | omega) (by first | assumption | omega) (by first | assumption | omega) (by first | assumption | omega) (by first | assumption | omega) (by first | assumption | omega) (by first | assumption | omega) (by first | assumption | omega)) cl_X10_emits wm_X10_94 dX10_some_37 rfl rfl rfl rfl rfl (by decide) (by decide) (by omega) (Nat.le_of_ble_eq_true rfl) rfl (fun v9 w9 hq9 => ?_)
          obtain ⟨s6, l6, rfl, rfl, r_s6, h4_37, hs2_37, hT2_37, hl2_37⟩ := hq9
          refine g_ws hC [cO m0 10 [w_thrown, .ref m1, w_image, w_frame, w_hasImage, .int (iI ac), .int (iI p5), .int (iI e), .int (iI w5), .int (iI o5), w_by, w_truths, w_pulls, w_isKeeping, w_next, w_first, w_order, w_bestOrder, w_rooms, w_leastUnlike, w_bodies, w_ran, w_kind, w_number, w_tellsV], cA K m1 922 s6] rfl ?_
          refine g_st hC [] rfl ?_
          refine g_goto (pc := 40) hC 4 dX10_some_40 (by decide) ?_
          exact ih4 w5 p5 o5 s6 l6 g9 (by first | assumption | omega) (by first | assumption | omega) (by first | assumption | omega) (by first | assumption | omega) (by first | assumption | omega) (by first | assumption | omega) (px_so_s hz (by omega) (by omega) hz_31 h4_37) (by first | assumption | omega) (by first | assumption | omega) (by first | assumption | omega) (by first | assumption | omega) (by omega)
  exact L4 ((e - p3 : Int).toNat + 1) w3 p3 o3 s3 l3 101 (by first | assumption | omega) (by first | assumption | omega) (by first | assumption | omega) (by first | assumption | omega) (by first | assumption | omega) (by first | assumption | omega) (by unfold px_some; rw [← hz_1]) (by first | assumption | omega) (by first | assumption | omega) (by first | assumption | omega) (by first | assumption | omega) (by omega)
set_option maxHeartbeats 4000000 in
set_option maxRecDepth 100000 in
theorem k_X10_factor_4 {K : gK} (m0 : Nat) (m1 : Nat) (w_thrown : Value) (w_image : Value) (w_frame : Value) (w_hasImage : Value) (w_by : Value) (w_truths : Value) (w_pulls : Value) (w_isKeeping : Value) (w_next : Value) (w_first : Value) (w_order : Value) (w_bestOrder : Value) (w_rooms : Value) (w_leastUnlike : Value) (w_bodies : Value) (w_ran : Value) (w_kind : Value) (w_number : Value) (w_tellsV : Value) (ac : Int) (p : Int) (e : Int) (w : Int) (o : Int) (s : Int → Int) (T : Int → Int) (s0 : Int → Int) (l : List Int) (r_ac : rI ac) (r_p : rI p) (r_e : rI e) (r_w : rI w) (r_o : rI o) (r_s : ∀ j, rI (s j)) (hT : md_T T e s) (hs : s = px_row s0 ac l) (hac : 0 ≤ ac ∧ ac ≤ 4) (hp : 0 ≤ p ∧ p ≤ e) (hw : w = 0 ∨ w = 1) (ho : w = 0 → o = 1) (hl : (l.length : Int) ≤ p) : gMet K yX10_factor cX10_factor 5 none 18 0 0 [.ref m0] [cO m0 10 [w_thrown, .ref m1, w_image, w_frame, w_hasImage, .int (iI ac), .int (iI p), .int (iI e), .int (iI w), .int (iI o), w_by, w_truths, w_pulls, w_isKeeping, w_next, w_first, w_order, w_bestOrder, w_rooms, w_leastUnlike, w_bodies, w_ran, w_kind, w_number, w_tellsV], cA K m1 922 s] (fun v9 w9 => ∃ (w2 : Int), ∃ (p2 : Int), ∃ (o2 : Int), ∃ (s2 : Int → Int), ∃ (l2 : List Int), v9 = none ∧ w9 = [cO m0 10 [w_thrown, .ref m1, w_image, w_frame, w_hasImage, .int (iI ac), .int (iI p2), .int (iI e), .int (iI w2), .int (iI o2), w_by, w_truths, w_pulls, w_isKeeping, w_next, w_first, w_order, w_bestOrder, w_rooms, w_leastUnlike, w_bodies, w_ran, w_kind, w_number, w_tellsV], cA K m1 922 s2] ∧ rI w2 ∧ rI p2 ∧ rI o2 ∧ (∀ j, rI (s2 j)) ∧ ((w2, p2, l2) = px_fac T 4 (w, p, l)) ∧ (s2 = px_row s0 ac l2) ∧ (md_T T e s2) ∧ (o2 = o ∧ (w2 = 0 → o = 1 ∧ w = 0)) ∧ ((w2 = 0 ∨ w2 = 1) ∧ p ≤ p2 ∧ p2 ≤ e) ∧ ((l2.length : Int) + p ≤ (l.length : Int) + p2)) := by
  refine g_enter (by decide +kernel) (Nat.le_of_ble_eq_true rfl) (fun G hC hR => ?_)
  refine g_lv hC [0] [(0, _)] rfl ?_
  have hge := hT.1
  refine g_aload_n (pc := 0) hC 0 dX10_factor_0 rfl rfl ?_
  refine g_get (pc := 1) hC 0 fl_X10_64 dX10_factor_1 rfl rfl ?_
  refine g_if_eq (pc := 4) hC 8 dX10_factor_4 (by decide) (by omega) (fun c4 => ?_) (fun c4 => ?_)
  · have ho9 := ho c4
    refine g_aload_n (pc := 8) hC 0 dX10_factor_8 rfl rfl ?_
    refine g_fnV (pc := 9) (qr := 0) hC [0, 1] (k_X10_here _ _ _ _ _ _ _ _ _ _ _ _ _ _ _ _ _ _ _ _ _ _ _ _ _ _ _ _ (by first | assumption | omega) (by first | assumption | omega) (by first | assumption | omega) (by first | assumption | omega) (by first | assumption | omega) (by first | assumption | omega) (by first | assumption | omega) (by first | assumption | omega)) cl_X10_here wm_X10_68 dX10_factor_9 rfl rfl rfl rfl rfl (by decide) (by decide) ⟨by omega, by omega⟩ (Nat.le_of_ble_eq_true rfl) rfl rfl ?_
    refine g_name hC (fun x9 e_x9 => ?_)
    have q_x9 : -1 ≤ x9 ∧ x9 ≤ 127 := by rw [e_x9]; exact hT.2.2.1 _
    refine g_istore_n (pc := 12) hC [(1, _), (0, _)] dX10_factor_12 rfl (by decide) rfl ?_
    refine g_iload_n (pc := 13) hC 0 dX10_factor_13 rfl rfl ?_
    refine g_bipush (pc := 14) hC (33) dX10_factor_14 (by decide) ?_
    refine g_icmp_eq (pc := 16) hC 25 dX10_factor_16 (by decide) (by omega) (by omega) (fun c16 => ?_) (fun c16 => ?_)
    · have hlt := px_lt hT hp.1 (show T p = 33 by omega) (by omega)
      refine g_aload_n (pc := 25) hC 1 dX10_factor_25 rfl rfl ?_
      refine g_aload_n (pc := 26) hC 1 dX10_factor_26 rfl rfl ?_
      refine g_get (pc := 27) hC 0 fl_X10_88 dX10_factor_27 rfl rfl ?_
      refine g_iconst (pc := 30) hC dX10_factor_30 ?_
      refine g_icmp_ne (pc := 31) hC 38 dX10_factor_31 (by decide) (by omega) (by omega) (fun c31 => ?_) (fun c31 => by exfalso; omega)
      refine g_iconst (pc := 38) hC dX10_factor_38 ?_
      refine g_putZ (pc := 39) hC 0 [cO _ _ [_, _, _, _, _, _, _, _, _, _, _, _, _, _, _, _, _, _, _, _, _, _, _, _, _], _] fl_X10_64 dX10_factor_39 rfl (Nat.le_of_ble_eq_true rfl) (by omega) rfl ?_
      refine g_aload_n (pc := 42) hC 1 dX10_factor_42 rfl rfl ?_
      refine g_dup (pc := 43) hC dX10_factor_43 rfl ?_
      refine g_get (pc := 44) hC 0 fl_X10_88 dX10_factor_44 rfl rfl ?_
      refine g_iconst (pc := 47) hC dX10_factor_47 ?_
      refine g_iadd (pc := 48) hC dX10_factor_48 ?_
      refine g_putI (pc := 49) hC 0 [cO _ _ [_, _, _, _, _, _, _, _, _, _, _, _, _, _, _, _, _, _, _, _, _, _, _, _, _], _] fl_X10_88 dX10_factor_49 rfl (Nat.le_of_ble_eq_true rfl) rfl ?_
      refine g_aload_n (pc := 52) hC 1 dX10_factor_52 rfl rfl ?_
      refine g_dup (pc := 53) hC dX10_factor_53 rfl ?_
      refine g_get (pc := 54) hC 0 fl_X10_58 dX10_factor_54 rfl rfl ?_
      refine g_aload_n (pc := 57) hC 1 dX10_factor_57 rfl rfl ?_
      refine g_get (pc := 58) hC 0 fl_X10_64 dX10_factor_58 rfl rfl ?_
      refine g_if_eq (pc := 61) hC 68 dX10_factor_61 (by decide) (by omega) (fun c61 => ?_) (fun c61 => by exfalso; omega)
      refine g_iconst (pc := 68) hC dX10_factor_68 ?_
      refine g_iadd (pc := 69) hC dX10_factor_69 ?_
      refine g_putI (pc := 70) hC 0 [cO _ _ [_, _, _, _, _, _, _, _, _, _, _, _, _, _, _, _, _, _, _, _, _, _, _, _, _], _] fl_X10_58 dX10_factor_70 rfl (Nat.le_of_ble_eq_true rfl) rfl ?_
      refine g_iload_n (pc := 73) hC 0 dX10_factor_73 rfl rfl ?_
      refine g_bipush (pc := 74) hC (33) dX10_factor_74 (by decide) ?_
      refine g_icmp_ne (pc := 76) hC 91 dX10_factor_76 (by decide) (by omega) (by omega) (fun c76 => by exfalso; omega) (fun c76 => ?_)
      refine g_aload_n (pc := 79) hC 1 dX10_factor_79 rfl rfl ?_
      refine g_callV (pc := 80) (qr := 0) hC [0, 1] (k_X10_factor_3 _ _ _ _ _ _ _ _ _ _ _ _ _ _ _ _ _ _ _ _ _ _ _ _ _ _ _ _ _ _ (by first | assumption | omega) (by first | assumption | omega) (by first | assumption | omega) (by first | assumption | omega) (by first | assumption | omega) (by first | assumption | omega) (by first | assumption | omega) (by first | assumption | omega) (by first | assumption | omega) (by first | assumption | omega) (by first | assumption | omega) (by first | assumption | omega) (by first | assumption | omega)) cl_X10_factor wm_X10_91 dX10_factor_80 rfl rfl rfl rfl rfl (by decide) (by decide) (by omega) (Nat.le_of_ble_eq_true rfl) rfl (fun v9 w9 hq9 => ?_)
      obtain ⟨w3, p3, o3, s3, l3, rfl, rfl, r_w3, r_p3, r_o3, r_s3, hz_80, hs2_80, hT2_80, ho2_80, hb_80, hl2_80⟩ := hq9
      refine g_ws hC [cO m0 10 [w_thrown, .ref m1, w_image, w_frame, w_hasImage, .int (iI ac), .int (iI p3), .int (iI e), .int (iI w3), .int (iI o3), w_by, w_truths, w_pulls, w_isKeeping, w_next, w_first, w_order, w_bestOrder, w_rooms, w_leastUnlike, w_bodies, w_ran, w_kind, w_number, w_tellsV], cA K m1 922 s3] rfl ?_
      refine g_st hC [] rfl ?_
      refine g_aload_n (pc := 83) hC 1 dX10_factor_83 rfl rfl ?_
      refine g_iconst (pc := 84) hC dX10_factor_84 ?_
      refine g_callV (pc := 85) (qr := 0) hC [0, 1] (k_X10_emits _ _ _ _ _ _ _ _ _ _ _ _ _ _ _ _ _ _ _ _ _ _ _ _ _ _ _ _ _ _ _ (by first | assumption | omega) (by first | assumption | omega) (by first | assumption | omega) (by first | assumption | omega) (by first | assumption | omega) (by first | assumption | omega) (by first | assumption | omega) (by first | assumption | omega) (by first | assumption | omega) (by first | assumption | omega) (by first | assumption | omega)) cl_X10_emits wm_X10_94 dX10_factor_85 rfl rfl rfl rfl rfl (by decide) (by decide) (by omega) (Nat.le_of_ble_eq_true rfl) rfl (fun v9 w9 hq9 => ?_)
      obtain ⟨s4, l4, rfl, rfl, r_s4, h4_85, hs2_85, hT2_85, hl2_85⟩ := hq9
      refine g_ws hC [cO m0 10 [w_thrown, .ref m1, w_image, w_frame, w_hasImage, .int (iI ac), .int (iI p3), .int (iI e), .int (iI w3), .int (iI o3), w_by, w_truths, w_pulls, w_isKeeping, w_next, w_first, w_order, w_bestOrder, w_rooms, w_leastUnlike, w_bodies, w_ran, w_kind, w_number, w_tellsV], cA K m1 922 s4] rfl ?_
      refine g_st hC [] rfl ?_
      refine g_goto (pc := 88) hC 101 dX10_factor_88 (by decide) ?_
      refine g_aload_n (pc := 101) hC 1 dX10_factor_101 rfl rfl ?_
      refine g_dup (pc := 102) hC dX10_factor_102 rfl ?_
      refine g_get (pc := 103) hC 0 fl_X10_88 dX10_factor_103 rfl rfl ?_
      refine g_iconst (pc := 106) hC dX10_factor_106 ?_
      refine g_isub (pc := 107) hC dX10_factor_107 ?_
      refine g_putI (pc := 108) hC 0 [cO _ _ [_, _, _, _, _, _, _, _, _, _, _, _, _, _, _, _, _, _, _, _, _, _, _, _, _], _] fl_X10_88 dX10_factor_108 rfl (Nat.le_of_ble_eq_true rfl) rfl ?_
      exact g_vret (pc := 111) hR dX10_factor_111 rfl ⟨by omega, by omega⟩ (Nat.le_of_ble_eq_true rfl) ⟨w3, p3, o3 - 1, s4, l4, rfl, rfl, (by first | assumption | omega), (by first | assumption | omega), (by first | assumption | omega), (by first | assumption | omega), (px_fac_not c4 (by omega) hz_80 h4_85), hs2_85, hT2_85, (by first | assumption | omega), (by first | assumption | omega), (by first | assumption | omega)⟩
    · refine g_iload_n (pc := 19) hC 0 dX10_factor_19 rfl rfl ?_
      refine g_bipush (pc := 20) hC (40) dX10_factor_20 (by decide) ?_
      refine g_icmp_ne (pc := 22) hC 112 dX10_factor_22 (by decide) (by omega) (by omega) (fun c22 => ?_) (fun c22 => ?_)
      · refine g_aload_n (pc := 112) hC 1 dX10_factor_112 rfl rfl ?_
        refine g_ldcS_X10_100 (pc := 113) hC rfl dX10_factor_113 ?_
        refine g_callV (pc := 115) (qr := 0) hC [0, 1] (k_X10_among _ _ _ _ _ _ _ _ _ _ _ _ _ _ _ _ _ _ _ _ _ _ _ _ _ _ _ _ _ (by first | assumption | omega) (by first | assumption | omega) (by first | assumption | omega) (by first | assumption | omega) (by first | assumption | omega) (by first | assumption | omega) (by first | assumption | omega) (by first | assumption | omega) (by first | assumption | omega)) cl_X10_among wm_X10_102 dX10_factor_115 rfl rfl rfl rfl rfl (by decide) (by decide) (by omega) (Nat.le_of_ble_eq_true rfl) rfl (fun v9 w9 hq9 => ?_)
        obtain ⟨pa, rfl, rfl, r_pa, hp2_115, hb_115⟩ := hq9
        refine g_ws hC [cO m0 10 [w_thrown, .ref m1, w_image, w_frame, w_hasImage, .int (iI ac), .int (iI pa), .int (iI e), .int (iI w), .int (iI o), w_by, w_truths, w_pulls, w_isKeeping, w_next, w_first, w_order, w_bestOrder, w_rooms, w_leastUnlike, w_bodies, w_ran, w_kind, w_number, w_tellsV], cA K m1 922 s] rfl ?_
        refine g_st hC [.int (iI (px_am 5 (T p) (sl 5).toNat))] rfl ?_
        refine g_name hC (fun a1 e_a1 => ?_)
        have ham := px_am_rng 5 (T p) (sl 5).toNat
        have hs5 := sl_rng (k := 5) (by decide)
        refine g_istore_n (pc := 118) hC [(2, _), (1, _), (0, _)] dX10_factor_118 rfl (by decide) rfl ?_
        refine g_aload_n (pc := 119) hC 2 dX10_factor_119 rfl rfl ?_
        refine g_iload_n (pc := 120) hC 0 dX10_factor_120 rfl rfl ?_
        refine g_iconst (pc := 121) hC dX10_factor_121 ?_
        refine g_icmp_ne (pc := 122) hC 129 dX10_factor_122 (by decide) (by omega) (by omega) (fun c122 => ?_) (fun c122 => ?_)
        · refine g_iconst (pc := 129) hC dX10_factor_129 ?_
          refine g_putZ (pc := 130) hC 0 [cO _ _ [_, _, _, _, _, _, _, _, _, _, _, _, _, _, _, _, _, _, _, _, _, _, _, _, _], _] fl_X10_64 dX10_factor_130 rfl (Nat.le_of_ble_eq_true rfl) (by omega) rfl ?_
          refine g_aload_n (pc := 133) hC 2 dX10_factor_133 rfl rfl ?_
          refine g_get (pc := 134) hC 0 fl_X10_64 dX10_factor_134 rfl rfl ?_
          refine g_if_eq (pc := 137) hC 144 dX10_factor_137 (by decide) (by omega) (fun c137 => ?_) (fun c137 => by exfalso; omega)
          refine g_aload_n (pc := 144) hC 2 dX10_factor_144 rfl rfl ?_
          refine g_ldcS_X10_106 (pc := 145) hC rfl dX10_factor_145 ?_
          refine g_callV (pc := 147) (qr := 0) hC [0, 1] (k_X10_among _ _ _ _ _ _ _ _ _ _ _ _ _ _ _ _ _ _ _ _ _ _ _ _ _ _ _ _ _ (by first | assumption | omega) (by first | assumption | omega) (by first | assumption | omega) (by first | assumption | omega) (by first | assumption | omega) (by first | assumption | omega) (by first | assumption | omega) (by first | assumption | omega) (by first | assumption | omega)) cl_X10_among wm_X10_102 dX10_factor_147 rfl rfl rfl rfl rfl (by decide) (by decide) (by omega) (Nat.le_of_ble_eq_true rfl) rfl (fun v9 w9 hq9 => ?_)
          obtain ⟨pb, rfl, rfl, r_pb, hp2_147, hb_147⟩ := hq9
          refine g_ws hC [cO m0 10 [w_thrown, .ref m1, w_image, w_frame, w_hasImage, .int (iI ac), .int (iI pb), .int (iI e), .int (iI 0), .int (iI o), w_by, w_truths, w_pulls, w_isKeeping, w_next, w_first, w_order, w_bestOrder, w_rooms, w_leastUnlike, w_bodies, w_ran, w_kind, w_number, w_tellsV], cA K m1 922 s] rfl ?_
          refine g_st hC [.int (iI (px_am 6 (T pa) (sl 6).toNat))] rfl ?_
          refine g_name hC (fun b1 e_b1 => ?_)
          have hbm := px_am_rng 6 (T pa) (sl 6).toNat
          have hs6 := sl_rng (k := 6) (by decide)
          refine g_istore_n (pc := 150) hC [(3, _), (2, _), (1, _), (0, _)] dX10_factor_150 rfl (by decide) rfl ?_
          refine g_aload_n (pc := 151) hC 3 dX10_factor_151 rfl rfl ?_
          refine g_aload_n (pc := 152) hC 3 dX10_factor_152 rfl rfl ?_
          refine g_get (pc := 153) hC 0 fl_X10_64 dX10_factor_153 rfl rfl ?_
          refine g_if_ne (pc := 156) hC 164 dX10_factor_156 (by decide) (by omega) (fun c156 => by exfalso; omega) (fun c156 => ?_)
          refine g_iload_n (pc := 159) hC 0 dX10_factor_159 rfl rfl ?_
          refine g_iconst (pc := 160) hC dX10_factor_160 ?_
          refine g_icmp_ne (pc := 161) hC 168 dX10_factor_161 (by decide) (by omega) (by omega) (fun c161 => ?_) (fun c161 => ?_)
          · refine g_iconst (pc := 168) hC dX10_factor_168 ?_
            refine g_putZ (pc := 169) hC 0 [cO _ _ [_, _, _, _, _, _, _, _, _, _, _, _, _, _, _, _, _, _, _, _, _, _, _, _, _], _] fl_X10_64 dX10_factor_169 rfl (Nat.le_of_ble_eq_true rfl) (by omega) rfl ?_
            refine g_aload_n (pc := 172) hC 3 dX10_factor_172 rfl rfl ?_
            refine g_callV (pc := 173) (qr := 0) hC [0, 1] (k_X10_figures _ _ _ _ _ _ _ _ _ _ _ _ _ _ _ _ _ _ _ _ _ _ _ _ _ _ _ _ (by first | assumption | omega) (by first | assumption | omega) (by first | assumption | omega) (by first | assumption | omega) (by first | assumption | omega) (by first | assumption | omega) (by first | assumption | omega) (by first | assumption | omega) (by first | assumption | omega)) cl_X10_figures wm_X10_108 dX10_factor_173 rfl rfl rfl rfl rfl (by decide) (by decide) (by omega) (Nat.le_of_ble_eq_true rfl) rfl (fun v9 w9 hq9 => ?_)
            obtain ⟨w3, p3, v3, rfl, rfl, r_w3, r_p3, r_v3, hz_173, hb_173, hv_173, hw0_173⟩ := hq9
            refine g_ws hC [cO m0 10 [w_thrown, .ref m1, w_image, w_frame, w_hasImage, .int (iI ac), .int (iI p3), .int (iI e), .int (iI w3), .int (iI o), w_by, w_truths, w_pulls, w_isKeeping, w_next, w_first, w_order, w_bestOrder, w_rooms, w_leastUnlike, w_bodies, w_ran, w_kind, w_number, w_tellsV], cA K m1 922 s] rfl ?_
            refine g_st hC [.int (iI v3)] rfl ?_
            skip
            refine g_istore (pc := 176) hC [(4, _), (3, _), (2, _), (1, _), (0, _)] dX10_factor_176 (by decide) rfl ?_
            refine g_aload_n (pc := 178) hC 4 dX10_factor_178 rfl rfl ?_
            refine g_iload_n (pc := 179) hC 2 dX10_factor_179 rfl rfl ?_
            refine g_bipush (pc := 180) hC (8) dX10_factor_180 (by decide) ?_
            refine g_iload_n (pc := 182) hC 1 dX10_factor_182 rfl rfl ?_
            refine g_imul (pc := 183) hC dX10_factor_183 ?_
            refine g_iadd (pc := 184) hC dX10_factor_184 ?_
            refine g_bipush (pc := 185) hC (32) dX10_factor_185 (by decide) ?_
            refine g_iload (pc := 187) hC 0 dX10_factor_187 rfl ?_
            refine g_imul (pc := 189) hC dX10_factor_189 ?_
            refine g_iadd (pc := 190) hC dX10_factor_190 ?_
            refine g_callV (pc := 191) (qr := 0) hC [0, 1] (k_X10_emits _ _ _ _ _ _ _ _ _ _ _ _ _ _ _ _ _ _ _ _ _ _ _ _ _ _ _ _ _ _ _ (by first | assumption | omega) (by first | assumption | omega) (by first | assumption | omega) (by first | assumption | omega) (by first | assumption | omega) (by first | assumption | omega) (by first | assumption | omega) (by first | assumption | omega) (by first | assumption | omega) (by first | assumption | omega) (by first | assumption | omega)) cl_X10_emits wm_X10_94 dX10_factor_191 rfl rfl rfl rfl rfl (by decide) (by decide) (by omega) (Nat.le_of_ble_eq_true rfl) rfl (fun v9 w9 hq9 => ?_)
            obtain ⟨s4, l4, rfl, rfl, r_s4, h4_191, hs2_191, hT2_191, hl2_191⟩ := hq9
            refine g_ws hC [cO m0 10 [w_thrown, .ref m1, w_image, w_frame, w_hasImage, .int (iI ac), .int (iI p3), .int (iI e), .int (iI w3), .int (iI o), w_by, w_truths, w_pulls, w_isKeeping, w_next, w_first, w_order, w_bestOrder, w_rooms, w_leastUnlike, w_bodies, w_ran, w_kind, w_number, w_tellsV], cA K m1 922 s4] rfl ?_
            refine g_st hC [] rfl ?_
            exact g_vret (pc := 194) hR dX10_factor_194 rfl ⟨by omega, by omega⟩ (Nat.le_of_ble_eq_true rfl) ⟨w3, p3, o, s4, l4, rfl, rfl, (by first | assumption | omega), (by first | assumption | omega), (by first | assumption | omega), (by first | assumption | omega), (px_fac_t c4 (by omega) (by omega) (px_tst_C e_a1 c122 hp2_115 e_b1 c161 hp2_147 hz_173 h4_191)), hs2_191, hT2_191, (by first | assumption | omega), (by first | assumption | omega), (by first | assumption | omega)⟩
          · refine g_iconst (pc := 164) hC dX10_factor_164 ?_
            refine g_goto (pc := 165) hC 169 dX10_factor_165 (by decide) ?_
            refine g_putZ (pc := 169) hC 0 [cO _ _ [_, _, _, _, _, _, _, _, _, _, _, _, _, _, _, _, _, _, _, _, _, _, _, _, _], _] fl_X10_64 dX10_factor_169 rfl (Nat.le_of_ble_eq_true rfl) (by omega) rfl ?_
            refine g_aload_n (pc := 172) hC 3 dX10_factor_172 rfl rfl ?_
            refine g_callV (pc := 173) (qr := 0) hC [0, 1] (k_X10_figures _ _ _ _ _ _ _ _ _ _ _ _ _ _ _ _ _ _ _ _ _ _ _ _ _ _ _ _ (by first | assumption | omega) (by first | assumption | omega) (by first | assumption | omega) (by first | assumption | omega) (by first | assumption | omega) (by first | assumption | omega) (by first | assumption | omega) (by first | assumption | omega) (by first | assumption | omega)) cl_X10_figures wm_X10_108 dX10_factor_173 rfl rfl rfl rfl rfl (by decide) (by decide) (by omega) (Nat.le_of_ble_eq_true rfl) rfl (fun v9 w9 hq9 => ?_)
            obtain ⟨w3, p3, v3, rfl, rfl, r_w3, r_p3, r_v3, hz_173, hb_173, hv_173, hw0_173⟩ := hq9
            refine g_ws hC [cO m0 10 [w_thrown, .ref m1, w_image, w_frame, w_hasImage, .int (iI ac), .int (iI p3), .int (iI e), .int (iI w3), .int (iI o), w_by, w_truths, w_pulls, w_isKeeping, w_next, w_first, w_order, w_bestOrder, w_rooms, w_leastUnlike, w_bodies, w_ran, w_kind, w_number, w_tellsV], cA K m1 922 s] rfl ?_
            refine g_st hC [.int (iI v3)] rfl ?_
            have hfw := px_fig_w (by omega) hz_173
            refine g_istore (pc := 176) hC [(4, _), (3, _), (2, _), (1, _), (0, _)] dX10_factor_176 (by decide) rfl ?_
            refine g_aload_n (pc := 178) hC 4 dX10_factor_178 rfl rfl ?_
            refine g_iload_n (pc := 179) hC 2 dX10_factor_179 rfl rfl ?_
            refine g_bipush (pc := 180) hC (8) dX10_factor_180 (by decide) ?_
            refine g_iload_n (pc := 182) hC 1 dX10_factor_182 rfl rfl ?_
            refine g_imul (pc := 183) hC dX10_factor_183 ?_
            refine g_iadd (pc := 184) hC dX10_factor_184 ?_
            refine g_bipush (pc := 185) hC (32) dX10_factor_185 (by decide) ?_
            refine g_iload (pc := 187) hC 0 dX10_factor_187 rfl ?_
            refine g_imul (pc := 189) hC dX10_factor_189 ?_
            refine g_iadd (pc := 190) hC dX10_factor_190 ?_
            refine g_callV (pc := 191) (qr := 0) hC [0, 1] (k_X10_emits _ _ _ _ _ _ _ _ _ _ _ _ _ _ _ _ _ _ _ _ _ _ _ _ _ _ _ _ _ _ _ (by first | assumption | omega) (by first | assumption | omega) (by first | assumption | omega) (by first | assumption | omega) (by first | assumption | omega) (by first | assumption | omega) (by first | assumption | omega) (by first | assumption | omega) (by first | assumption | omega) (by first | assumption | omega) (by first | assumption | omega)) cl_X10_emits wm_X10_94 dX10_factor_191 rfl rfl rfl rfl rfl (by decide) (by decide) (by omega) (Nat.le_of_ble_eq_true rfl) rfl (fun v9 w9 hq9 => ?_)
            obtain ⟨s4, l4, rfl, rfl, r_s4, h4_191, hs2_191, hT2_191, hl2_191⟩ := hq9
            refine g_ws hC [cO m0 10 [w_thrown, .ref m1, w_image, w_frame, w_hasImage, .int (iI ac), .int (iI p3), .int (iI e), .int (iI w3), .int (iI o), w_by, w_truths, w_pulls, w_isKeeping, w_next, w_first, w_order, w_bestOrder, w_rooms, w_leastUnlike, w_bodies, w_ran, w_kind, w_number, w_tellsV], cA K m1 922 s4] rfl ?_
            refine g_st hC [] rfl ?_
            exact g_vret (pc := 194) hR dX10_factor_194 rfl ⟨by omega, by omega⟩ (Nat.le_of_ble_eq_true rfl) ⟨w3, p3, o, s4, l4, rfl, rfl, (by first | assumption | omega), (by first | assumption | omega), (by first | assumption | omega), (by first | assumption | omega), (px_fac_t c4 (by omega) (by omega) (px_tst_B e_a1 c122 hp2_115 e_b1 c161 hp2_147 hz_173 h4_191)), hs2_191, hT2_191, (by first | assumption | omega), (by first | assumption | omega), (by first | assumption | omega)⟩
        · refine g_iconst (pc := 125) hC dX10_factor_125 ?_
          refine g_goto (pc := 126) hC 130 dX10_factor_126 (by decide) ?_
          refine g_putZ (pc := 130) hC 0 [cO _ _ [_, _, _, _, _, _, _, _, _, _, _, _, _, _, _, _, _, _, _, _, _, _, _, _, _], _] fl_X10_64 dX10_factor_130 rfl (Nat.le_of_ble_eq_true rfl) (by omega) rfl ?_
          refine g_aload_n (pc := 133) hC 2 dX10_factor_133 rfl rfl ?_
          refine g_get (pc := 134) hC 0 fl_X10_64 dX10_factor_134 rfl rfl ?_
          refine g_if_eq (pc := 137) hC 144 dX10_factor_137 (by decide) (by omega) (fun c137 => by exfalso; omega) (fun c137 => ?_)
          refine g_iconst (pc := 140) hC dX10_factor_140 ?_
          refine g_goto (pc := 141) hC 150 dX10_factor_141 (by decide) ?_
          refine g_istore_n (pc := 150) hC [(3, _), (2, _), (1, _), (0, _)] dX10_factor_150 rfl (by decide) rfl ?_
          refine g_aload_n (pc := 151) hC 3 dX10_factor_151 rfl rfl ?_
          refine g_aload_n (pc := 152) hC 3 dX10_factor_152 rfl rfl ?_
          refine g_get (pc := 153) hC 0 fl_X10_64 dX10_factor_153 rfl rfl ?_
          refine g_if_ne (pc := 156) hC 164 dX10_factor_156 (by decide) (by omega) (fun c156 => ?_) (fun c156 => by exfalso; omega)
          refine g_iconst (pc := 164) hC dX10_factor_164 ?_
          refine g_goto (pc := 165) hC 169 dX10_factor_165 (by decide) ?_
          refine g_putZ (pc := 169) hC 0 [cO _ _ [_, _, _, _, _, _, _, _, _, _, _, _, _, _, _, _, _, _, _, _, _, _, _, _, _], _] fl_X10_64 dX10_factor_169 rfl (Nat.le_of_ble_eq_true rfl) (by omega) rfl ?_
          refine g_aload_n (pc := 172) hC 3 dX10_factor_172 rfl rfl ?_
          refine g_callV (pc := 173) (qr := 0) hC [0, 1] (k_X10_figures _ _ _ _ _ _ _ _ _ _ _ _ _ _ _ _ _ _ _ _ _ _ _ _ _ _ _ _ (by first | assumption | omega) (by first | assumption | omega) (by first | assumption | omega) (by first | assumption | omega) (by first | assumption | omega) (by first | assumption | omega) (by first | assumption | omega) (by first | assumption | omega) (by first | assumption | omega)) cl_X10_figures wm_X10_108 dX10_factor_173 rfl rfl rfl rfl rfl (by decide) (by decide) (by omega) (Nat.le_of_ble_eq_true rfl) rfl (fun v9 w9 hq9 => ?_)
          obtain ⟨w3, p3, v3, rfl, rfl, r_w3, r_p3, r_v3, hz_173, hb_173, hv_173, hw0_173⟩ := hq9
          refine g_ws hC [cO m0 10 [w_thrown, .ref m1, w_image, w_frame, w_hasImage, .int (iI ac), .int (iI p3), .int (iI e), .int (iI w3), .int (iI o), w_by, w_truths, w_pulls, w_isKeeping, w_next, w_first, w_order, w_bestOrder, w_rooms, w_leastUnlike, w_bodies, w_ran, w_kind, w_number, w_tellsV], cA K m1 922 s] rfl ?_
          refine g_st hC [.int (iI v3)] rfl ?_
          have hfw := px_fig_w (by omega) hz_173
          refine g_istore (pc := 176) hC [(4, _), (3, _), (2, _), (1, _), (0, _)] dX10_factor_176 (by decide) rfl ?_
          refine g_aload_n (pc := 178) hC 4 dX10_factor_178 rfl rfl ?_
          refine g_iload_n (pc := 179) hC 2 dX10_factor_179 rfl rfl ?_
          refine g_bipush (pc := 180) hC (8) dX10_factor_180 (by decide) ?_
          refine g_iload_n (pc := 182) hC 1 dX10_factor_182 rfl rfl ?_
          refine g_imul (pc := 183) hC dX10_factor_183 ?_
          refine g_iadd (pc := 184) hC dX10_factor_184 ?_
          refine g_bipush (pc := 185) hC (32) dX10_factor_185 (by decide) ?_
          refine g_iload (pc := 187) hC 0 dX10_factor_187 rfl ?_
          refine g_imul (pc := 189) hC dX10_factor_189 ?_
          refine g_iadd (pc := 190) hC dX10_factor_190 ?_
          refine g_callV (pc := 191) (qr := 0) hC [0, 1] (k_X10_emits _ _ _ _ _ _ _ _ _ _ _ _ _ _ _ _ _ _ _ _ _ _ _ _ _ _ _ _ _ _ _ (by first | assumption | omega) (by first | assumption | omega) (by first | assumption | omega) (by first | assumption | omega) (by first | assumption | omega) (by first | assumption | omega) (by first | assumption | omega) (by first | assumption | omega) (by first | assumption | omega) (by first | assumption | omega) (by first | assumption | omega)) cl_X10_emits wm_X10_94 dX10_factor_191 rfl rfl rfl rfl rfl (by decide) (by decide) (by omega) (Nat.le_of_ble_eq_true rfl) rfl (fun v9 w9 hq9 => ?_)
          obtain ⟨s4, l4, rfl, rfl, r_s4, h4_191, hs2_191, hT2_191, hl2_191⟩ := hq9
          refine g_ws hC [cO m0 10 [w_thrown, .ref m1, w_image, w_frame, w_hasImage, .int (iI ac), .int (iI p3), .int (iI e), .int (iI w3), .int (iI o), w_by, w_truths, w_pulls, w_isKeeping, w_next, w_first, w_order, w_bestOrder, w_rooms, w_leastUnlike, w_bodies, w_ran, w_kind, w_number, w_tellsV], cA K m1 922 s4] rfl ?_
          refine g_st hC [] rfl ?_
          exact g_vret (pc := 194) hR dX10_factor_194 rfl ⟨by omega, by omega⟩ (Nat.le_of_ble_eq_true rfl) ⟨w3, p3, o, s4, l4, rfl, rfl, (by first | assumption | omega), (by first | assumption | omega), (by first | assumption | omega), (by first | assumption | omega), (px_fac_t c4 (by omega) (by omega) (px_tst_A e_a1 c122 hp2_115 hz_173 h4_191)), hs2_191, hT2_191, (by first | assumption | omega), (by first | assumption | omega), (by first | assumption | omega)⟩
      · have hlt := px_lt hT hp.1 (show T p = 40 by omega) (by omega)
        refine g_aload_n (pc := 25) hC 1 dX10_factor_25 rfl rfl ?_
        refine g_aload_n (pc := 26) hC 1 dX10_factor_26 rfl rfl ?_
        refine g_get (pc := 27) hC 0 fl_X10_88 dX10_factor_27 rfl rfl ?_
        refine g_iconst (pc := 30) hC dX10_factor_30 ?_
        refine g_icmp_ne (pc := 31) hC 38 dX10_factor_31 (by decide) (by omega) (by omega) (fun c31 => ?_) (fun c31 => by exfalso; omega)
        refine g_iconst (pc := 38) hC dX10_factor_38 ?_
        refine g_putZ (pc := 39) hC 0 [cO _ _ [_, _, _, _, _, _, _, _, _, _, _, _, _, _, _, _, _, _, _, _, _, _, _, _, _], _] fl_X10_64 dX10_factor_39 rfl (Nat.le_of_ble_eq_true rfl) (by omega) rfl ?_
        refine g_aload_n (pc := 42) hC 1 dX10_factor_42 rfl rfl ?_
        refine g_dup (pc := 43) hC dX10_factor_43 rfl ?_
        refine g_get (pc := 44) hC 0 fl_X10_88 dX10_factor_44 rfl rfl ?_
        refine g_iconst (pc := 47) hC dX10_factor_47 ?_
        refine g_iadd (pc := 48) hC dX10_factor_48 ?_
        refine g_putI (pc := 49) hC 0 [cO _ _ [_, _, _, _, _, _, _, _, _, _, _, _, _, _, _, _, _, _, _, _, _, _, _, _, _], _] fl_X10_88 dX10_factor_49 rfl (Nat.le_of_ble_eq_true rfl) rfl ?_
        refine g_aload_n (pc := 52) hC 1 dX10_factor_52 rfl rfl ?_
        refine g_dup (pc := 53) hC dX10_factor_53 rfl ?_
        refine g_get (pc := 54) hC 0 fl_X10_58 dX10_factor_54 rfl rfl ?_
        refine g_aload_n (pc := 57) hC 1 dX10_factor_57 rfl rfl ?_
        refine g_get (pc := 58) hC 0 fl_X10_64 dX10_factor_58 rfl rfl ?_
        refine g_if_eq (pc := 61) hC 68 dX10_factor_61 (by decide) (by omega) (fun c61 => ?_) (fun c61 => by exfalso; omega)
        refine g_iconst (pc := 68) hC dX10_factor_68 ?_
        refine g_iadd (pc := 69) hC dX10_factor_69 ?_
        refine g_putI (pc := 70) hC 0 [cO _ _ [_, _, _, _, _, _, _, _, _, _, _, _, _, _, _, _, _, _, _, _, _, _, _, _, _], _] fl_X10_58 dX10_factor_70 rfl (Nat.le_of_ble_eq_true rfl) rfl ?_
        refine g_iload_n (pc := 73) hC 0 dX10_factor_73 rfl rfl ?_
        refine g_bipush (pc := 74) hC (33) dX10_factor_74 (by decide) ?_
        refine g_icmp_ne (pc := 76) hC 91 dX10_factor_76 (by decide) (by omega) (by omega) (fun c76 => ?_) (fun c76 => by exfalso; omega)
        refine g_aload_n (pc := 91) hC 1 dX10_factor_91 rfl rfl ?_
        refine g_callV (pc := 92) (qr := 0) hC [0, 1] (k_X10_some_3 _ _ _ _ _ _ _ _ _ _ _ _ _ _ _ _ _ _ _ _ _ _ _ _ _ _ _ _ _ _ (by first | assumption | omega) (by first | assumption | omega) (by first | assumption | omega) (by first | assumption | omega) (by first | assumption | omega) (by first | assumption | omega) (by first | assumption | omega) (by first | assumption | omega) (by first | assumption | omega) (by first | assumption | omega) (by first | assumption | omega) (by first | assumption | omega) (by first | assumption | omega)) cl_X10_some wm_X10_97 dX10_factor_92 rfl rfl rfl rfl rfl (by decide) (by decide) (by omega) (Nat.le_of_ble_eq_true rfl) rfl (fun v9 w9 hq9 => ?_)
        obtain ⟨w3, p3, o3, s3, l3, rfl, rfl, r_w3, r_p3, r_o3, r_s3, hz_92, hs2_92, hT2_92, ho2_92, hb_92, hl2_92⟩ := hq9
        refine g_ws hC [cO m0 10 [w_thrown, .ref m1, w_image, w_frame, w_hasImage, .int (iI ac), .int (iI p3), .int (iI e), .int (iI w3), .int (iI o3), w_by, w_truths, w_pulls, w_isKeeping, w_next, w_first, w_order, w_bestOrder, w_rooms, w_leastUnlike, w_bodies, w_ran, w_kind, w_number, w_tellsV], cA K m1 922 s3] rfl ?_
        refine g_st hC [] rfl ?_
        refine g_aload_n (pc := 95) hC 1 dX10_factor_95 rfl rfl ?_
        refine g_bipush (pc := 96) hC (41) dX10_factor_96 (by decide) ?_
        refine g_callV (pc := 98) (qr := 0) hC [0, 1] (k_X10_must _ _ _ _ _ _ _ _ _ _ _ _ _ _ _ _ _ _ _ _ _ _ _ _ _ _ _ _ _ (by first | assumption | omega) (by first | assumption | omega) (by first | assumption | omega) (by first | assumption | omega) (by first | assumption | omega) (by first | assumption | omega) (by first | assumption | omega) (by first | assumption | omega) (by first | assumption | omega) (by first | assumption | omega) (by first | assumption | omega)) cl_X10_must wm_X10_81 dX10_factor_98 rfl rfl rfl rfl rfl (by decide) (by decide) (by omega) (Nat.le_of_ble_eq_true rfl) rfl (fun v9 w9 hq9 => ?_)
        obtain ⟨w4, p4, rfl, rfl, r_w4, r_p4, hz_98, hb_98, hw0_98⟩ := hq9
        refine g_ws hC [cO m0 10 [w_thrown, .ref m1, w_image, w_frame, w_hasImage, .int (iI ac), .int (iI p4), .int (iI e), .int (iI w4), .int (iI o3), w_by, w_truths, w_pulls, w_isKeeping, w_next, w_first, w_order, w_bestOrder, w_rooms, w_leastUnlike, w_bodies, w_ran, w_kind, w_number, w_tellsV], cA K m1 922 s3] rfl ?_
        refine g_st hC [] rfl ?_
        refine g_aload_n (pc := 101) hC 1 dX10_factor_101 rfl rfl ?_
        refine g_dup (pc := 102) hC dX10_factor_102 rfl ?_
        refine g_get (pc := 103) hC 0 fl_X10_88 dX10_factor_103 rfl rfl ?_
        refine g_iconst (pc := 106) hC dX10_factor_106 ?_
        refine g_isub (pc := 107) hC dX10_factor_107 ?_
        refine g_putI (pc := 108) hC 0 [cO _ _ [_, _, _, _, _, _, _, _, _, _, _, _, _, _, _, _, _, _, _, _, _, _, _, _, _], _] fl_X10_88 dX10_factor_108 rfl (Nat.le_of_ble_eq_true rfl) rfl ?_
        exact g_vret (pc := 111) hR dX10_factor_111 rfl ⟨by omega, by omega⟩ (Nat.le_of_ble_eq_true rfl) ⟨w4, p4, o3 - 1, s3, l3, rfl, rfl, (by first | assumption | omega), (by first | assumption | omega), (by first | assumption | omega), (by first | assumption | omega), (px_fac_br c4 (by omega) hz_92 hz_98), hs2_92, hT2_92, (by first | assumption | omega), (by first | assumption | omega), (by first | assumption | omega)⟩
  · exact g_vret (pc := 7) hR dX10_factor_7 rfl ⟨by omega, by omega⟩ (Nat.le_of_ble_eq_true rfl) ⟨w, p, o, s, l, rfl, rfl, (by first | assumption | omega), (by first | assumption | omega), (by first | assumption | omega), (by first | assumption | omega), (px_fac_w c4).symm, hs, hT, (by first | assumption | omega), (by first | assumption | omega), (by first | assumption | omega)⟩
set_option maxHeartbeats 4000000 in
set_option maxRecDepth 100000 in
theorem k_X10_every_4 {K : gK} (m0 : Nat) (m1 : Nat) (w_thrown : Value) (w_image : Value) (w_frame : Value) (w_hasImage : Value) (w_by : Value) (w_truths : Value) (w_pulls : Value) (w_isKeeping : Value) (w_next : Value) (w_first : Value) (w_order : Value) (w_bestOrder : Value) (w_rooms : Value) (w_leastUnlike : Value) (w_bodies : Value) (w_ran : Value) (w_kind : Value) (w_number : Value) (w_tellsV : Value) (ac : Int) (p : Int) (e : Int) (w : Int) (o : Int) (s : Int → Int) (T : Int → Int) (s0 : Int → Int) (l : List Int) (r_ac : rI ac) (r_p : rI p) (r_e : rI e) (r_w : rI w) (r_o : rI o) (r_s : ∀ j, rI (s j)) (hT : md_T T e s) (hs : s = px_row s0 ac l) (hac : 0 ≤ ac ∧ ac ≤ 4) (hp : 0 ≤ p ∧ p ≤ e) (hw : w = 0 ∨ w = 1) (ho : w = 0 → o = 1) (hl : (l.length : Int) ≤ p) : gMet K yX10_every cX10_every 1 none 19 0 0 [.ref m0] [cO m0 10 [w_thrown, .ref m1, w_image, w_frame, w_hasImage, .int (iI ac), .int (iI p), .int (iI e), .int (iI w), .int (iI o), w_by, w_truths, w_pulls, w_isKeeping, w_next, w_first, w_order, w_bestOrder, w_rooms, w_leastUnlike, w_bodies, w_ran, w_kind, w_number, w_tellsV], cA K m1 922 s] (fun v9 w9 => ∃ (w2 : Int), ∃ (p2 : Int), ∃ (o2 : Int), ∃ (s2 : Int → Int), ∃ (l2 : List Int), v9 = none ∧ w9 = [cO m0 10 [w_thrown, .ref m1, w_image, w_frame, w_hasImage, .int (iI ac), .int (iI p2), .int (iI e), .int (iI w2), .int (iI o2), w_by, w_truths, w_pulls, w_isKeeping, w_next, w_first, w_order, w_bestOrder, w_rooms, w_leastUnlike, w_bodies, w_ran, w_kind, w_number, w_tellsV], cA K m1 922 s2] ∧ rI w2 ∧ rI p2 ∧ rI o2 ∧ (∀ j, rI (s2 j)) ∧ ((w2, p2, l2) = px_every T (px_fac T 4) (w, p, l)) ∧ (s2 = px_row s0 ac l2) ∧ (md_T T e s2) ∧ (o2 = o ∧ (w2 = 0 → o = 1 ∧ w = 0)) ∧ ((w2 = 0 ∨ w2 = 1) ∧ p ≤ p2 ∧ p2 ≤ e) ∧ ((l2.length : Int) + p ≤ (l.length : Int) + p2)) := by
  refine g_enter (by decide +kernel) (Nat.le_of_ble_eq_true rfl) (fun G hC hR => ?_)
  refine g_lv hC [0] [(0, _)] rfl ?_
  have hge := hT.1
  refine g_aload_n (pc := 0) hC 0 dX10_every_0 rfl rfl ?_
  refine g_callV (pc := 1) (qr := 0) hC [0, 1] (k_X10_factor_4 _ _ _ _ _ _ _ _ _ _ _ _ _ _ _ _ _ _ _ _ _ _ _ _ _ _ _ _ _ _ (by first | assumption | omega) (by first | assumption | omega) (by first | assumption | omega) (by first | assumption | omega) (by first | assumption | omega) (by first | assumption | omega) (by first | assumption | omega) (by first | assumption | omega) (by first | assumption | omega) (by first | assumption | omega) (by first | assumption | omega) (by first | assumption | omega) (by first | assumption | omega)) cl_X10_factor wm_X10_91 dX10_every_1 rfl rfl rfl rfl rfl (by decide) (by decide) (by omega) (Nat.le_of_ble_eq_true rfl) rfl (fun v9 w9 hq9 => ?_)
  obtain ⟨w3, p3, o3, s3, l3, rfl, rfl, r_w3, r_p3, r_o3, r_s3, hz_1, hs2_1, hT2_1, ho2_1, hb_1, hl2_1⟩ := hq9
  refine g_ws hC [cO m0 10 [w_thrown, .ref m1, w_image, w_frame, w_hasImage, .int (iI ac), .int (iI p3), .int (iI e), .int (iI w3), .int (iI o3), w_by, w_truths, w_pulls, w_isKeeping, w_next, w_first, w_order, w_bestOrder, w_rooms, w_leastUnlike, w_bodies, w_ran, w_kind, w_number, w_tellsV], cA K m1 922 s3] rfl ?_
  refine g_st hC [] rfl ?_
  have L4 : ∀ (n1 : Nat) (w1 : Int) (p1 : Int) (o1 : Int) (f1 : Int → Int) (l1 : List Int) (f : Nat), (rI w1) → (rI p1) → (rI o1) → (∀ j, rI (f1 j)) → (f1 = px_row s0 ac l1) → (md_T T e f1) → (px_ev T (px_fac T 4) f (w1, p1, l1) = px_every T (px_fac T 4) (w, p, l)) → ((w1 = 0 ∨ w1 = 1) ∧ p ≤ p1 ∧ p1 ≤ e) → (o1 = o ∧ (w1 = 0 → o = 1 ∧ w = 0)) → ((l1.length : Int) + p ≤ (l.length : Int) + p1) → (e - p1 ≤ (f : Int)) → e - p1 < (n1 : Int) → G 0 0 4 [(0, .ref m0)] [] [cO m0 10 [w_thrown, .ref m1, w_image, w_frame, w_hasImage, .int (iI ac), .int (iI p1), .int (iI e), .int (iI w1), .int (iI o1), w_by, w_truths, w_pulls, w_isKeeping, w_next, w_first, w_order, w_bestOrder, w_rooms, w_leastUnlike, w_bodies, w_ran, w_kind, w_number, w_tellsV], cA K m1 922 f1] := by
    intro n1
    induction n1 with
    | zero => intro w1 p1 o1 f1 l1 f r_w1 r_p1 r_o1 r_f1 hs1 hT1 hz hb1 ho1 hl1 hf hm4; exfalso; omega
    | succ n1 ih4 =>
      intro w1 p1 o1 f1 l1 f r_w1 r_p1 r_o1 r_f1 hs1 hT1 hz hb1 ho1 hl1 hf hm4
      refine g_aload_n (pc := 4) hC 0 dX10_every_4 rfl rfl ?_
      refine g_get (pc := 5) hC 0 fl_X10_64 dX10_every_5 rfl rfl ?_
      refine g_if_ne (pc := 8) hC 43 dX10_every_8 (by decide) (by omega) (fun c8 => ?_) (fun c8 => ?_)
      · exact g_vret (pc := 43) hR dX10_every_43 rfl ⟨by omega, by omega⟩ (Nat.le_of_ble_eq_true rfl) ⟨w1, p1, o1, f1, l1, rfl, rfl, (by first | assumption | omega), (by first | assumption | omega), (by first | assumption | omega), (by first | assumption | omega), (by rw [← hz]; exact (px_ev_end (fun h9 => c8 h9.1)).symm), hs1, hT1, ho1, hb1, hl1⟩
      · refine g_aload_n (pc := 11) hC 0 dX10_every_11 rfl rfl ?_
        refine g_fnV (pc := 12) (qr := 0) hC [0, 1] (k_X10_here _ _ _ _ _ _ _ _ _ _ _ _ _ _ _ _ _ _ _ _ _ _ _ _ _ _ _ _ (by first | assumption | omega) (by first | assumption | omega) (by first | assumption | omega) (by first | assumption | omega) (by first | assumption | omega) (by first | assumption | omega) (by first | assumption | omega) (by first | assumption | omega)) cl_X10_here wm_X10_68 dX10_every_12 rfl rfl rfl rfl rfl (by decide) (by decide) ⟨by omega, by omega⟩ (Nat.le_of_ble_eq_true rfl) rfl rfl ?_
        refine g_name hC (fun x2 e_x2 => ?_)
        have q_x2 : -1 ≤ x2 ∧ x2 ≤ 127 := by rw [e_x2]; exact hT.2.2.1 _
        refine g_bipush (pc := 15) hC (38) dX10_every_15 (by decide) ?_
        refine g_icmp_ne (pc := 17) hC 43 dX10_every_17 (by decide) (by omega) (by omega) (fun c17 => ?_) (fun c17 => ?_)
        · exact g_vret (pc := 43) hR dX10_every_43 rfl ⟨by omega, by omega⟩ (Nat.le_of_ble_eq_true rfl) ⟨w1, p1, o1, f1, l1, rfl, rfl, (by first | assumption | omega), (by first | assumption | omega), (by first | assumption | omega), (by first | assumption | omega), (by rw [← hz]; exact (px_ev_end (fun h9 => absurd (show T p1 = 38 from h9.2) (by omega))).symm), hs1, hT1, ho1, hb1, hl1⟩
        · have hlt := px_lt hT1 (by omega) (show T p1 = 38 by omega) (by omega)
          obtain ⟨g9, rfl⟩ : ∃ g9, f = g9 + 1 := ⟨f - 1, by omega⟩
          refine g_aload_n (pc := 20) hC 0 dX10_every_20 rfl rfl ?_
          refine g_dup (pc := 21) hC dX10_every_21 rfl ?_
          refine g_get (pc := 22) hC 0 fl_X10_58 dX10_every_22 rfl rfl ?_
          refine g_iconst (pc := 25) hC dX10_every_25 ?_
          refine g_iadd (pc := 26) hC dX10_every_26 ?_
          refine g_putI (pc := 27) hC 0 [cO _ _ [_, _, _, _, _, _, _, _, _, _, _, _, _, _, _, _, _, _, _, _, _, _, _, _, _], _] fl_X10_58 dX10_every_27 rfl (Nat.le_of_ble_eq_true rfl) rfl ?_
          refine g_aload_n (pc := 30) hC 0 dX10_every_30 rfl rfl ?_
          refine g_callV (pc := 31) (qr := 0) hC [0, 1] (k_X10_factor_4 _ _ _ _ _ _ _ _ _ _ _ _ _ _ _ _ _ _ _ _ _ _ _ _ _ _ _ _ _ _ (by first | assumption | omega) (by first | assumption | omega) (by first | assumption | omega) (by first | assumption | omega) (by first | assumption | omega) (by first | assumption | omega) (by first | assumption | omega) (by first | assumption | omega) (by first | assumption | omega) (by first | assumption | omega) (by first | assumption | omega) (by first | assumption | omega) (by first | assumption | omega)) cl_X10_factor wm_X10_91 dX10_every_31 rfl rfl rfl rfl rfl (by decide) (by decide) (by omega) (Nat.le_of_ble_eq_true rfl) rfl (fun v9 w9 hq9 => ?_)
          obtain ⟨w5, p5, o5, s5, l5, rfl, rfl, r_w5, r_p5, r_o5, r_s5, hz_31, hs2_31, hT2_31, ho2_31, hb_31, hl2_31⟩ := hq9
          refine g_ws hC [cO m0 10 [w_thrown, .ref m1, w_image, w_frame, w_hasImage, .int (iI ac), .int (iI p5), .int (iI e), .int (iI w5), .int (iI o5), w_by, w_truths, w_pulls, w_isKeeping, w_next, w_first, w_order, w_bestOrder, w_rooms, w_leastUnlike, w_bodies, w_ran, w_kind, w_number, w_tellsV], cA K m1 922 s5] rfl ?_
          refine g_st hC [] rfl ?_
          refine g_aload_n (pc := 34) hC 0 dX10_every_34 rfl rfl ?_
          refine g_bipush (pc := 35) hC (-2) dX10_every_35 (by decide) ?_
          refine g_callV (pc := 37) (qr := 0) hC [0, 1] (k_X10_emits _ _ _ _ _ _ _ _ _ _ _ _ _ _ _ _ _ _ _ _ _ _ _ _ _ _ _ _ _ _ _ (by first | assumption | omega) (by first | assumption | omega) (by first | assumption | omega) (by first | assumption | omega) (by first | assumption | omega) (by first | assumption | omega) (by first | assumption | omega) (by first | assumption | omega) (by first | assumption | omega) (by first | assumption | omega) (by first | assumption | omega)) cl_X10_emits wm_X10_94 dX10_every_37 rfl rfl rfl rfl rfl (by decide) (by decide) (by omega) (Nat.le_of_ble_eq_true rfl) rfl (fun v9 w9 hq9 => ?_)
          obtain ⟨s6, l6, rfl, rfl, r_s6, h4_37, hs2_37, hT2_37, hl2_37⟩ := hq9
          refine g_ws hC [cO m0 10 [w_thrown, .ref m1, w_image, w_frame, w_hasImage, .int (iI ac), .int (iI p5), .int (iI e), .int (iI w5), .int (iI o5), w_by, w_truths, w_pulls, w_isKeeping, w_next, w_first, w_order, w_bestOrder, w_rooms, w_leastUnlike, w_bodies, w_ran, w_kind, w_number, w_tellsV], cA K m1 922 s6] rfl ?_
          refine g_st hC [] rfl ?_
          refine g_goto (pc := 40) hC 4 dX10_every_40 (by decide) ?_
          exact ih4 w5 p5 o5 s6 l6 g9 (by first | assumption | omega) (by first | assumption | omega) (by first | assumption | omega) (by first | assumption | omega) (by first | assumption | omega) (by first | assumption | omega) (px_ev_s hz (by omega) (by omega) hz_31 h4_37) (by first | assumption | omega) (by first | assumption | omega) (by first | assumption | omega) (by first | assumption | omega) (by omega)
  exact L4 ((e - p3 : Int).toNat + 1) w3 p3 o3 s3 l3 101 (by first | assumption | omega) (by first | assumption | omega) (by first | assumption | omega) (by first | assumption | omega) (by first | assumption | omega) (by first | assumption | omega) (by unfold px_every; rw [← hz_1]) (by first | assumption | omega) (by first | assumption | omega) (by first | assumption | omega) (by first | assumption | omega) (by omega)
set_option maxHeartbeats 4000000 in
set_option maxRecDepth 100000 in
theorem k_X10_some_4 {K : gK} (m0 : Nat) (m1 : Nat) (w_thrown : Value) (w_image : Value) (w_frame : Value) (w_hasImage : Value) (w_by : Value) (w_truths : Value) (w_pulls : Value) (w_isKeeping : Value) (w_next : Value) (w_first : Value) (w_order : Value) (w_bestOrder : Value) (w_rooms : Value) (w_leastUnlike : Value) (w_bodies : Value) (w_ran : Value) (w_kind : Value) (w_number : Value) (w_tellsV : Value) (ac : Int) (p : Int) (e : Int) (w : Int) (o : Int) (s : Int → Int) (T : Int → Int) (s0 : Int → Int) (l : List Int) (r_ac : rI ac) (r_p : rI p) (r_e : rI e) (r_w : rI w) (r_o : rI o) (r_s : ∀ j, rI (s j)) (hT : md_T T e s) (hs : s = px_row s0 ac l) (hac : 0 ≤ ac ∧ ac ≤ 4) (hp : 0 ≤ p ∧ p ≤ e) (hw : w = 0 ∨ w = 1) (ho : w = 0 → o = 1) (hl : (l.length : Int) ≤ p) : gMet K yX10_some cX10_some 1 none 20 0 0 [.ref m0] [cO m0 10 [w_thrown, .ref m1, w_image, w_frame, w_hasImage, .int (iI ac), .int (iI p), .int (iI e), .int (iI w), .int (iI o), w_by, w_truths, w_pulls, w_isKeeping, w_next, w_first, w_order, w_bestOrder, w_rooms, w_leastUnlike, w_bodies, w_ran, w_kind, w_number, w_tellsV], cA K m1 922 s] (fun v9 w9 => ∃ (w2 : Int), ∃ (p2 : Int), ∃ (o2 : Int), ∃ (s2 : Int → Int), ∃ (l2 : List Int), v9 = none ∧ w9 = [cO m0 10 [w_thrown, .ref m1, w_image, w_frame, w_hasImage, .int (iI ac), .int (iI p2), .int (iI e), .int (iI w2), .int (iI o2), w_by, w_truths, w_pulls, w_isKeeping, w_next, w_first, w_order, w_bestOrder, w_rooms, w_leastUnlike, w_bodies, w_ran, w_kind, w_number, w_tellsV], cA K m1 922 s2] ∧ rI w2 ∧ rI p2 ∧ rI o2 ∧ (∀ j, rI (s2 j)) ∧ ((w2, p2, l2) = px_some T (px_fac T 4) (w, p, l)) ∧ (s2 = px_row s0 ac l2) ∧ (md_T T e s2) ∧ (o2 = o ∧ (w2 = 0 → o = 1 ∧ w = 0)) ∧ ((w2 = 0 ∨ w2 = 1) ∧ p ≤ p2 ∧ p2 ≤ e) ∧ ((l2.length : Int) + p ≤ (l.length : Int) + p2)) := by
  refine g_enter (by decide +kernel) (Nat.le_of_ble_eq_true rfl) (fun G hC hR => ?_)
  refine g_lv hC [0] [(0, _)] rfl ?_
  have hge := hT.1
  refine g_aload_n (pc := 0) hC 0 dX10_some_0 rfl rfl ?_
  refine g_callV (pc := 1) (qr := 0) hC [0, 1] (k_X10_every_4 _ _ _ _ _ _ _ _ _ _ _ _ _ _ _ _ _ _ _ _ _ _ _ _ _ _ _ _ _ _ (by first | assumption | omega) (by first | assumption | omega) (by first | assumption | omega) (by first | assumption | omega) (by first | assumption | omega) (by first | assumption | omega) (by first | assumption | omega) (by first | assumption | omega) (by first | assumption | omega) (by first | assumption | omega) (by first | assumption | omega) (by first | assumption | omega) (by first | assumption | omega)) cl_X10_every wm_X10_111 dX10_some_1 rfl rfl rfl rfl rfl (by decide) (by decide) (by omega) (Nat.le_of_ble_eq_true rfl) rfl (fun v9 w9 hq9 => ?_)
  obtain ⟨w3, p3, o3, s3, l3, rfl, rfl, r_w3, r_p3, r_o3, r_s3, hz_1, hs2_1, hT2_1, ho2_1, hb_1, hl2_1⟩ := hq9
  refine g_ws hC [cO m0 10 [w_thrown, .ref m1, w_image, w_frame, w_hasImage, .int (iI ac), .int (iI p3), .int (iI e), .int (iI w3), .int (iI o3), w_by, w_truths, w_pulls, w_isKeeping, w_next, w_first, w_order, w_bestOrder, w_rooms, w_leastUnlike, w_bodies, w_ran, w_kind, w_number, w_tellsV], cA K m1 922 s3] rfl ?_
  refine g_st hC [] rfl ?_
  have L4 : ∀ (n1 : Nat) (w1 : Int) (p1 : Int) (o1 : Int) (f1 : Int → Int) (l1 : List Int) (f : Nat), (rI w1) → (rI p1) → (rI o1) → (∀ j, rI (f1 j)) → (f1 = px_row s0 ac l1) → (md_T T e f1) → (px_so T (px_fac T 4) f (w1, p1, l1) = px_some T (px_fac T 4) (w, p, l)) → ((w1 = 0 ∨ w1 = 1) ∧ p ≤ p1 ∧ p1 ≤ e) → (o1 = o ∧ (w1 = 0 → o = 1 ∧ w = 0)) → ((l1.length : Int) + p ≤ (l.length : Int) + p1) → (e - p1 ≤ (f : Int)) → e - p1 < (n1 : Int) → G 0 0 4 [(0, .ref m0)] [] [cO m0 10 [w_thrown, .ref m1, w_image, w_frame, w_hasImage, .int (iI ac), .int (iI p1), .int (iI e), .int (iI w1), .int (iI o1), w_by, w_truths, w_pulls, w_isKeeping, w_next, w_first, w_order, w_bestOrder, w_rooms, w_leastUnlike, w_bodies, w_ran, w_kind, w_number, w_tellsV], cA K m1 922 f1] := by
    intro n1
    induction n1 with
    | zero => intro w1 p1 o1 f1 l1 f r_w1 r_p1 r_o1 r_f1 hs1 hT1 hz hb1 ho1 hl1 hf hm4; exfalso; omega
    | succ n1 ih4 =>
      intro w1 p1 o1 f1 l1 f r_w1 r_p1 r_o1 r_f1 hs1 hT1 hz hb1 ho1 hl1 hf hm4
      refine g_aload_n (pc := 4) hC 0 dX10_some_4 rfl rfl ?_
      refine g_get (pc := 5) hC 0 fl_X10_64 dX10_some_5 rfl rfl ?_
      refine g_if_ne (pc := 8) hC 43 dX10_some_8 (by decide) (by omega) (fun c8 => ?_) (fun c8 => ?_)
      · exact g_vret (pc := 43) hR dX10_some_43 rfl ⟨by omega, by omega⟩ (Nat.le_of_ble_eq_true rfl) ⟨w1, p1, o1, f1, l1, rfl, rfl, (by first | assumption | omega), (by first | assumption | omega), (by first | assumption | omega), (by first | assumption | omega), (by rw [← hz]; exact (px_so_end (fun h9 => c8 h9.1)).symm), hs1, hT1, ho1, hb1, hl1⟩
      · refine g_aload_n (pc := 11) hC 0 dX10_some_11 rfl rfl ?_
        refine g_fnV (pc := 12) (qr := 0) hC [0, 1] (k_X10_here _ _ _ _ _ _ _ _ _ _ _ _ _ _ _ _ _ _ _ _ _ _ _ _ _ _ _ _ (by first | assumption | omega) (by first | assumption | omega) (by first | assumption | omega) (by first | assumption | omega) (by first | assumption | omega) (by first | assumption | omega) (by first | assumption | omega) (by first | assumption | omega)) cl_X10_here wm_X10_68 dX10_some_12 rfl rfl rfl rfl rfl (by decide) (by decide) ⟨by omega, by omega⟩ (Nat.le_of_ble_eq_true rfl) rfl rfl ?_
        refine g_name hC (fun x2 e_x2 => ?_)
        have q_x2 : -1 ≤ x2 ∧ x2 ≤ 127 := by rw [e_x2]; exact hT.2.2.1 _
        refine g_bipush (pc := 15) hC (124) dX10_some_15 (by decide) ?_
        refine g_icmp_ne (pc := 17) hC 43 dX10_some_17 (by decide) (by omega) (by omega) (fun c17 => ?_) (fun c17 => ?_)
        · exact g_vret (pc := 43) hR dX10_some_43 rfl ⟨by omega, by omega⟩ (Nat.le_of_ble_eq_true rfl) ⟨w1, p1, o1, f1, l1, rfl, rfl, (by first | assumption | omega), (by first | assumption | omega), (by first | assumption | omega), (by first | assumption | omega), (by rw [← hz]; exact (px_so_end (fun h9 => absurd (show T p1 = 124 from h9.2) (by omega))).symm), hs1, hT1, ho1, hb1, hl1⟩
        · have hlt := px_lt hT1 (by omega) (show T p1 = 124 by omega) (by omega)
          obtain ⟨g9, rfl⟩ : ∃ g9, f = g9 + 1 := ⟨f - 1, by omega⟩
          refine g_aload_n (pc := 20) hC 0 dX10_some_20 rfl rfl ?_
          refine g_dup (pc := 21) hC dX10_some_21 rfl ?_
          refine g_get (pc := 22) hC 0 fl_X10_58 dX10_some_22 rfl rfl ?_
          refine g_iconst (pc := 25) hC dX10_some_25 ?_
          refine g_iadd (pc := 26) hC dX10_some_26 ?_
          refine g_putI (pc := 27) hC 0 [cO _ _ [_, _, _, _, _, _, _, _, _, _, _, _, _, _, _, _, _, _, _, _, _, _, _, _, _], _] fl_X10_58 dX10_some_27 rfl (Nat.le_of_ble_eq_true rfl) rfl ?_
          refine g_aload_n (pc := 30) hC 0 dX10_some_30 rfl rfl ?_
          refine g_callV (pc := 31) (qr := 0) hC [0, 1] (k_X10_every_4 _ _ _ _ _ _ _ _ _ _ _ _ _ _ _ _ _ _ _ _ _ _ _ _ _ _ _ _ _ _ (by first | assumption | omega) (by first | assumption | omega) (by first | assumption | omega) (by first | assumption | omega) (by first | assumption | omega) (by first | assumption | omega) (by first | assumption | omega) (by first | assumption | omega) (by first | assumption | omega) (by first | assumption | omega) (by first | assumption | omega) (by first | assumption | omega) (by first | assumption | omega)) cl_X10_every wm_X10_111 dX10_some_31 rfl rfl rfl rfl rfl (by decide) (by decide) (by omega) (Nat.le_of_ble_eq_true rfl) rfl (fun v9 w9 hq9 => ?_)
          obtain ⟨w5, p5, o5, s5, l5, rfl, rfl, r_w5, r_p5, r_o5, r_s5, hz_31, hs2_31, hT2_31, ho2_31, hb_31, hl2_31⟩ := hq9
          refine g_ws hC [cO m0 10 [w_thrown, .ref m1, w_image, w_frame, w_hasImage, .int (iI ac), .int (iI p5), .int (iI e), .int (iI w5), .int (iI o5), w_by, w_truths, w_pulls, w_isKeeping, w_next, w_first, w_order, w_bestOrder, w_rooms, w_leastUnlike, w_bodies, w_ran, w_kind, w_number, w_tellsV], cA K m1 922 s5] rfl ?_
          refine g_st hC [] rfl ?_
          refine g_aload_n (pc := 34) hC 0 dX10_some_34 rfl rfl ?_
          refine g_bipush (pc := 35) hC (-3) dX10_some_35 (by decide) ?_
          refine g_callV (pc := 37) (qr := 0) hC [0, 1] (k_X10_emits _ _ _ _ _ _ _ _ _ _ _ _ _ _ _ _ _ _ _ _ _ _ _ _ _ _ _ _ _ _ _ (by first | assumption | omega) (by first | assumption | omega) (by first | assumption | omega) (by first | assumption | omega) (by first | assumption | omega) (by first | assumption | omega) (by first | assumption | omega) (by first | assumption | omega) (by first | assumption | omega) (by first | assumption | omega) (by first | assumption | omega)) cl_X10_emits wm_X10_94 dX10_some_37 rfl rfl rfl rfl rfl (by decide) (by decide) (by omega) (Nat.le_of_ble_eq_true rfl) rfl (fun v9 w9 hq9 => ?_)
          obtain ⟨s6, l6, rfl, rfl, r_s6, h4_37, hs2_37, hT2_37, hl2_37⟩ := hq9
          refine g_ws hC [cO m0 10 [w_thrown, .ref m1, w_image, w_frame, w_hasImage, .int (iI ac), .int (iI p5), .int (iI e), .int (iI w5), .int (iI o5), w_by, w_truths, w_pulls, w_isKeeping, w_next, w_first, w_order, w_bestOrder, w_rooms, w_leastUnlike, w_bodies, w_ran, w_kind, w_number, w_tellsV], cA K m1 922 s6] rfl ?_
          refine g_st hC [] rfl ?_
          refine g_goto (pc := 40) hC 4 dX10_some_40 (by decide) ?_
          exact ih4 w5 p5 o5 s6 l6 g9 (by first | assumption | omega) (by first | assumption | omega) (by first | assumption | omega) (by first | assumption | omega) (by first | assumption | omega) (by first | assumption | omega) (px_so_s hz (by omega) (by omega) hz_31 h4_37) (by first | assumption | omega) (by first | assumption | omega) (by first | assumption | omega) (by first | assumption | omega) (by omega)
  exact L4 ((e - p3 : Int).toNat + 1) w3 p3 o3 s3 l3 101 (by first | assumption | omega) (by first | assumption | omega) (by first | assumption | omega) (by first | assumption | omega) (by first | assumption | omega) (by first | assumption | omega) (by unfold px_some; rw [← hz_1]) (by first | assumption | omega) (by first | assumption | omega) (by first | assumption | omega) (by first | assumption | omega) (by omega)
set_option maxHeartbeats 4000000 in
set_option maxRecDepth 100000 in
theorem k_X10_factor_5 {K : gK} (m0 : Nat) (m1 : Nat) (w_thrown : Value) (w_image : Value) (w_frame : Value) (w_hasImage : Value) (w_by : Value) (w_truths : Value) (w_pulls : Value) (w_isKeeping : Value) (w_next : Value) (w_first : Value) (w_order : Value) (w_bestOrder : Value) (w_rooms : Value) (w_leastUnlike : Value) (w_bodies : Value) (w_ran : Value) (w_kind : Value) (w_number : Value) (w_tellsV : Value) (ac : Int) (p : Int) (e : Int) (w : Int) (o : Int) (s : Int → Int) (T : Int → Int) (s0 : Int → Int) (l : List Int) (r_ac : rI ac) (r_p : rI p) (r_e : rI e) (r_w : rI w) (r_o : rI o) (r_s : ∀ j, rI (s j)) (hT : md_T T e s) (hs : s = px_row s0 ac l) (hac : 0 ≤ ac ∧ ac ≤ 4) (hp : 0 ≤ p ∧ p ≤ e) (hw : w = 0 ∨ w = 1) (ho : w = 0 → o = 0) (hl : (l.length : Int) ≤ p) : gMet K yX10_factor cX10_factor 5 none 21 0 0 [.ref m0] [cO m0 10 [w_thrown, .ref m1, w_image, w_frame, w_hasImage, .int (iI ac), .int (iI p), .int (iI e), .int (iI w), .int (iI o), w_by, w_truths, w_pulls, w_isKeeping, w_next, w_first, w_order, w_bestOrder, w_rooms, w_leastUnlike, w_bodies, w_ran, w_kind, w_number, w_tellsV], cA K m1 922 s] (fun v9 w9 => ∃ (w2 : Int), ∃ (p2 : Int), ∃ (o2 : Int), ∃ (s2 : Int → Int), ∃ (l2 : List Int), v9 = none ∧ w9 = [cO m0 10 [w_thrown, .ref m1, w_image, w_frame, w_hasImage, .int (iI ac), .int (iI p2), .int (iI e), .int (iI w2), .int (iI o2), w_by, w_truths, w_pulls, w_isKeeping, w_next, w_first, w_order, w_bestOrder, w_rooms, w_leastUnlike, w_bodies, w_ran, w_kind, w_number, w_tellsV], cA K m1 922 s2] ∧ rI w2 ∧ rI p2 ∧ rI o2 ∧ (∀ j, rI (s2 j)) ∧ ((w2, p2, l2) = px_fac T 5 (w, p, l)) ∧ (s2 = px_row s0 ac l2) ∧ (md_T T e s2) ∧ (o2 = o ∧ (w2 = 0 → o = 0 ∧ w = 0)) ∧ ((w2 = 0 ∨ w2 = 1) ∧ p ≤ p2 ∧ p2 ≤ e) ∧ ((l2.length : Int) + p ≤ (l.length : Int) + p2)) := by
  refine g_enter (by decide +kernel) (Nat.le_of_ble_eq_true rfl) (fun G hC hR => ?_)
  refine g_lv hC [0] [(0, _)] rfl ?_
  have hge := hT.1
  refine g_aload_n (pc := 0) hC 0 dX10_factor_0 rfl rfl ?_
  refine g_get (pc := 1) hC 0 fl_X10_64 dX10_factor_1 rfl rfl ?_
  refine g_if_eq (pc := 4) hC 8 dX10_factor_4 (by decide) (by omega) (fun c4 => ?_) (fun c4 => ?_)
  · have ho9 := ho c4
    refine g_aload_n (pc := 8) hC 0 dX10_factor_8 rfl rfl ?_
    refine g_fnV (pc := 9) (qr := 0) hC [0, 1] (k_X10_here _ _ _ _ _ _ _ _ _ _ _ _ _ _ _ _ _ _ _ _ _ _ _ _ _ _ _ _ (by first | assumption | omega) (by first | assumption | omega) (by first | assumption | omega) (by first | assumption | omega) (by first | assumption | omega) (by first | assumption | omega) (by first | assumption | omega) (by first | assumption | omega)) cl_X10_here wm_X10_68 dX10_factor_9 rfl rfl rfl rfl rfl (by decide) (by decide) ⟨by omega, by omega⟩ (Nat.le_of_ble_eq_true rfl) rfl rfl ?_
    refine g_name hC (fun x9 e_x9 => ?_)
    have q_x9 : -1 ≤ x9 ∧ x9 ≤ 127 := by rw [e_x9]; exact hT.2.2.1 _
    refine g_istore_n (pc := 12) hC [(1, _), (0, _)] dX10_factor_12 rfl (by decide) rfl ?_
    refine g_iload_n (pc := 13) hC 0 dX10_factor_13 rfl rfl ?_
    refine g_bipush (pc := 14) hC (33) dX10_factor_14 (by decide) ?_
    refine g_icmp_eq (pc := 16) hC 25 dX10_factor_16 (by decide) (by omega) (by omega) (fun c16 => ?_) (fun c16 => ?_)
    · have hlt := px_lt hT hp.1 (show T p = 33 by omega) (by omega)
      refine g_aload_n (pc := 25) hC 1 dX10_factor_25 rfl rfl ?_
      refine g_aload_n (pc := 26) hC 1 dX10_factor_26 rfl rfl ?_
      refine g_get (pc := 27) hC 0 fl_X10_88 dX10_factor_27 rfl rfl ?_
      refine g_iconst (pc := 30) hC dX10_factor_30 ?_
      refine g_icmp_ne (pc := 31) hC 38 dX10_factor_31 (by decide) (by omega) (by omega) (fun c31 => ?_) (fun c31 => by exfalso; omega)
      refine g_iconst (pc := 38) hC dX10_factor_38 ?_
      refine g_putZ (pc := 39) hC 0 [cO _ _ [_, _, _, _, _, _, _, _, _, _, _, _, _, _, _, _, _, _, _, _, _, _, _, _, _], _] fl_X10_64 dX10_factor_39 rfl (Nat.le_of_ble_eq_true rfl) (by omega) rfl ?_
      refine g_aload_n (pc := 42) hC 1 dX10_factor_42 rfl rfl ?_
      refine g_dup (pc := 43) hC dX10_factor_43 rfl ?_
      refine g_get (pc := 44) hC 0 fl_X10_88 dX10_factor_44 rfl rfl ?_
      refine g_iconst (pc := 47) hC dX10_factor_47 ?_
      refine g_iadd (pc := 48) hC dX10_factor_48 ?_
      refine g_putI (pc := 49) hC 0 [cO _ _ [_, _, _, _, _, _, _, _, _, _, _, _, _, _, _, _, _, _, _, _, _, _, _, _, _], _] fl_X10_88 dX10_factor_49 rfl (Nat.le_of_ble_eq_true rfl) rfl ?_
      refine g_aload_n (pc := 52) hC 1 dX10_factor_52 rfl rfl ?_
      refine g_dup (pc := 53) hC dX10_factor_53 rfl ?_
      refine g_get (pc := 54) hC 0 fl_X10_58 dX10_factor_54 rfl rfl ?_
      refine g_aload_n (pc := 57) hC 1 dX10_factor_57 rfl rfl ?_
      refine g_get (pc := 58) hC 0 fl_X10_64 dX10_factor_58 rfl rfl ?_
      refine g_if_eq (pc := 61) hC 68 dX10_factor_61 (by decide) (by omega) (fun c61 => ?_) (fun c61 => by exfalso; omega)
      refine g_iconst (pc := 68) hC dX10_factor_68 ?_
      refine g_iadd (pc := 69) hC dX10_factor_69 ?_
      refine g_putI (pc := 70) hC 0 [cO _ _ [_, _, _, _, _, _, _, _, _, _, _, _, _, _, _, _, _, _, _, _, _, _, _, _, _], _] fl_X10_58 dX10_factor_70 rfl (Nat.le_of_ble_eq_true rfl) rfl ?_
      refine g_iload_n (pc := 73) hC 0 dX10_factor_73 rfl rfl ?_
      refine g_bipush (pc := 74) hC (33) dX10_factor_74 (by decide) ?_
      refine g_icmp_ne (pc := 76) hC 91 dX10_factor_76 (by decide) (by omega) (by omega) (fun c76 => by exfalso; omega) (fun c76 => ?_)
      refine g_aload_n (pc := 79) hC 1 dX10_factor_79 rfl rfl ?_
      refine g_callV (pc := 80) (qr := 0) hC [0, 1] (k_X10_factor_4 _ _ _ _ _ _ _ _ _ _ _ _ _ _ _ _ _ _ _ _ _ _ _ _ _ _ _ _ _ _ (by first | assumption | omega) (by first | assumption | omega) (by first | assumption | omega) (by first | assumption | omega) (by first | assumption | omega) (by first | assumption | omega) (by first | assumption | omega) (by first | assumption | omega) (by first | assumption | omega) (by first | assumption | omega) (by first | assumption | omega) (by first | assumption | omega) (by first | assumption | omega)) cl_X10_factor wm_X10_91 dX10_factor_80 rfl rfl rfl rfl rfl (by decide) (by decide) (by omega) (Nat.le_of_ble_eq_true rfl) rfl (fun v9 w9 hq9 => ?_)
      obtain ⟨w3, p3, o3, s3, l3, rfl, rfl, r_w3, r_p3, r_o3, r_s3, hz_80, hs2_80, hT2_80, ho2_80, hb_80, hl2_80⟩ := hq9
      refine g_ws hC [cO m0 10 [w_thrown, .ref m1, w_image, w_frame, w_hasImage, .int (iI ac), .int (iI p3), .int (iI e), .int (iI w3), .int (iI o3), w_by, w_truths, w_pulls, w_isKeeping, w_next, w_first, w_order, w_bestOrder, w_rooms, w_leastUnlike, w_bodies, w_ran, w_kind, w_number, w_tellsV], cA K m1 922 s3] rfl ?_
      refine g_st hC [] rfl ?_
      refine g_aload_n (pc := 83) hC 1 dX10_factor_83 rfl rfl ?_
      refine g_iconst (pc := 84) hC dX10_factor_84 ?_
      refine g_callV (pc := 85) (qr := 0) hC [0, 1] (k_X10_emits _ _ _ _ _ _ _ _ _ _ _ _ _ _ _ _ _ _ _ _ _ _ _ _ _ _ _ _ _ _ _ (by first | assumption | omega) (by first | assumption | omega) (by first | assumption | omega) (by first | assumption | omega) (by first | assumption | omega) (by first | assumption | omega) (by first | assumption | omega) (by first | assumption | omega) (by first | assumption | omega) (by first | assumption | omega) (by first | assumption | omega)) cl_X10_emits wm_X10_94 dX10_factor_85 rfl rfl rfl rfl rfl (by decide) (by decide) (by omega) (Nat.le_of_ble_eq_true rfl) rfl (fun v9 w9 hq9 => ?_)
      obtain ⟨s4, l4, rfl, rfl, r_s4, h4_85, hs2_85, hT2_85, hl2_85⟩ := hq9
      refine g_ws hC [cO m0 10 [w_thrown, .ref m1, w_image, w_frame, w_hasImage, .int (iI ac), .int (iI p3), .int (iI e), .int (iI w3), .int (iI o3), w_by, w_truths, w_pulls, w_isKeeping, w_next, w_first, w_order, w_bestOrder, w_rooms, w_leastUnlike, w_bodies, w_ran, w_kind, w_number, w_tellsV], cA K m1 922 s4] rfl ?_
      refine g_st hC [] rfl ?_
      refine g_goto (pc := 88) hC 101 dX10_factor_88 (by decide) ?_
      refine g_aload_n (pc := 101) hC 1 dX10_factor_101 rfl rfl ?_
      refine g_dup (pc := 102) hC dX10_factor_102 rfl ?_
      refine g_get (pc := 103) hC 0 fl_X10_88 dX10_factor_103 rfl rfl ?_
      refine g_iconst (pc := 106) hC dX10_factor_106 ?_
      refine g_isub (pc := 107) hC dX10_factor_107 ?_
      refine g_putI (pc := 108) hC 0 [cO _ _ [_, _, _, _, _, _, _, _, _, _, _, _, _, _, _, _, _, _, _, _, _, _, _, _, _], _] fl_X10_88 dX10_factor_108 rfl (Nat.le_of_ble_eq_true rfl) rfl ?_
      exact g_vret (pc := 111) hR dX10_factor_111 rfl ⟨by omega, by omega⟩ (Nat.le_of_ble_eq_true rfl) ⟨w3, p3, o3 - 1, s4, l4, rfl, rfl, (by first | assumption | omega), (by first | assumption | omega), (by first | assumption | omega), (by first | assumption | omega), (px_fac_not c4 (by omega) hz_80 h4_85), hs2_85, hT2_85, (by first | assumption | omega), (by first | assumption | omega), (by first | assumption | omega)⟩
    · refine g_iload_n (pc := 19) hC 0 dX10_factor_19 rfl rfl ?_
      refine g_bipush (pc := 20) hC (40) dX10_factor_20 (by decide) ?_
      refine g_icmp_ne (pc := 22) hC 112 dX10_factor_22 (by decide) (by omega) (by omega) (fun c22 => ?_) (fun c22 => ?_)
      · refine g_aload_n (pc := 112) hC 1 dX10_factor_112 rfl rfl ?_
        refine g_ldcS_X10_100 (pc := 113) hC rfl dX10_factor_113 ?_
        refine g_callV (pc := 115) (qr := 0) hC [0, 1] (k_X10_among _ _ _ _ _ _ _ _ _ _ _ _ _ _ _ _ _ _ _ _ _ _ _ _ _ _ _ _ _ (by first | assumption | omega) (by first | assumption | omega) (by first | assumption | omega) (by first | assumption | omega) (by first | assumption | omega) (by first | assumption | omega) (by first | assumption | omega) (by first | assumption | omega) (by first | assumption | omega)) cl_X10_among wm_X10_102 dX10_factor_115 rfl rfl rfl rfl rfl (by decide) (by decide) (by omega) (Nat.le_of_ble_eq_true rfl) rfl (fun v9 w9 hq9 => ?_)
        obtain ⟨pa, rfl, rfl, r_pa, hp2_115, hb_115⟩ := hq9
        refine g_ws hC [cO m0 10 [w_thrown, .ref m1, w_image, w_frame, w_hasImage, .int (iI ac), .int (iI pa), .int (iI e), .int (iI w), .int (iI o), w_by, w_truths, w_pulls, w_isKeeping, w_next, w_first, w_order, w_bestOrder, w_rooms, w_leastUnlike, w_bodies, w_ran, w_kind, w_number, w_tellsV], cA K m1 922 s] rfl ?_
        refine g_st hC [.int (iI (px_am 5 (T p) (sl 5).toNat))] rfl ?_
        refine g_name hC (fun a1 e_a1 => ?_)
        have ham := px_am_rng 5 (T p) (sl 5).toNat
        have hs5 := sl_rng (k := 5) (by decide)
        refine g_istore_n (pc := 118) hC [(2, _), (1, _), (0, _)] dX10_factor_118 rfl (by decide) rfl ?_
        refine g_aload_n (pc := 119) hC 2 dX10_factor_119 rfl rfl ?_
        refine g_iload_n (pc := 120) hC 0 dX10_factor_120 rfl rfl ?_
        refine g_iconst (pc := 121) hC dX10_factor_121 ?_
        refine g_icmp_ne (pc := 122) hC 129 dX10_factor_122 (by decide) (by omega) (by omega) (fun c122 => ?_) (fun c122 => ?_)
        · refine g_iconst (pc := 129) hC dX10_factor_129 ?_
          refine g_putZ (pc := 130) hC 0 [cO _ _ [_, _, _, _, _, _, _, _, _, _, _, _, _, _, _, _, _, _, _, _, _, _, _, _, _], _] fl_X10_64 dX10_factor_130 rfl (Nat.le_of_ble_eq_true rfl) (by omega) rfl ?_
          refine g_aload_n (pc := 133) hC 2 dX10_factor_133 rfl rfl ?_
          refine g_get (pc := 134) hC 0 fl_X10_64 dX10_factor_134 rfl rfl ?_
          refine g_if_eq (pc := 137) hC 144 dX10_factor_137 (by decide) (by omega) (fun c137 => ?_) (fun c137 => by exfalso; omega)
          refine g_aload_n (pc := 144) hC 2 dX10_factor_144 rfl rfl ?_
          refine g_ldcS_X10_106 (pc := 145) hC rfl dX10_factor_145 ?_
          refine g_callV (pc := 147) (qr := 0) hC [0, 1] (k_X10_among _ _ _ _ _ _ _ _ _ _ _ _ _ _ _ _ _ _ _ _ _ _ _ _ _ _ _ _ _ (by first | assumption | omega) (by first | assumption | omega) (by first | assumption | omega) (by first | assumption | omega) (by first | assumption | omega) (by first | assumption | omega) (by first | assumption | omega) (by first | assumption | omega) (by first | assumption | omega)) cl_X10_among wm_X10_102 dX10_factor_147 rfl rfl rfl rfl rfl (by decide) (by decide) (by omega) (Nat.le_of_ble_eq_true rfl) rfl (fun v9 w9 hq9 => ?_)
          obtain ⟨pb, rfl, rfl, r_pb, hp2_147, hb_147⟩ := hq9
          refine g_ws hC [cO m0 10 [w_thrown, .ref m1, w_image, w_frame, w_hasImage, .int (iI ac), .int (iI pb), .int (iI e), .int (iI 0), .int (iI o), w_by, w_truths, w_pulls, w_isKeeping, w_next, w_first, w_order, w_bestOrder, w_rooms, w_leastUnlike, w_bodies, w_ran, w_kind, w_number, w_tellsV], cA K m1 922 s] rfl ?_
          refine g_st hC [.int (iI (px_am 6 (T pa) (sl 6).toNat))] rfl ?_
          refine g_name hC (fun b1 e_b1 => ?_)
          have hbm := px_am_rng 6 (T pa) (sl 6).toNat
          have hs6 := sl_rng (k := 6) (by decide)
          refine g_istore_n (pc := 150) hC [(3, _), (2, _), (1, _), (0, _)] dX10_factor_150 rfl (by decide) rfl ?_
          refine g_aload_n (pc := 151) hC 3 dX10_factor_151 rfl rfl ?_
          refine g_aload_n (pc := 152) hC 3 dX10_factor_152 rfl rfl ?_
          refine g_get (pc := 153) hC 0 fl_X10_64 dX10_factor_153 rfl rfl ?_
          refine g_if_ne (pc := 156) hC 164 dX10_factor_156 (by decide) (by omega) (fun c156 => by exfalso; omega) (fun c156 => ?_)
          refine g_iload_n (pc := 159) hC 0 dX10_factor_159 rfl rfl ?_
          refine g_iconst (pc := 160) hC dX10_factor_160 ?_
          refine g_icmp_ne (pc := 161) hC 168 dX10_factor_161 (by decide) (by omega) (by omega) (fun c161 => ?_) (fun c161 => ?_)
          · refine g_iconst (pc := 168) hC dX10_factor_168 ?_
            refine g_putZ (pc := 169) hC 0 [cO _ _ [_, _, _, _, _, _, _, _, _, _, _, _, _, _, _, _, _, _, _, _, _, _, _, _, _], _] fl_X10_64 dX10_factor_169 rfl (Nat.le_of_ble_eq_true rfl) (by omega) rfl ?_
            refine g_aload_n (pc := 172) hC 3 dX10_factor_172 rfl rfl ?_
            refine g_callV (pc := 173) (qr := 0) hC [0, 1] (k_X10_figures _ _ _ _ _ _ _ _ _ _ _ _ _ _ _ _ _ _ _ _ _ _ _ _ _ _ _ _ (by first | assumption | omega) (by first | assumption | omega) (by first | assumption | omega) (by first | assumption | omega) (by first | assumption | omega) (by first | assumption | omega) (by first | assumption | omega) (by first | assumption | omega) (by first | assumption | omega)) cl_X10_figures wm_X10_108 dX10_factor_173 rfl rfl rfl rfl rfl (by decide) (by decide) (by omega) (Nat.le_of_ble_eq_true rfl) rfl (fun v9 w9 hq9 => ?_)
            obtain ⟨w3, p3, v3, rfl, rfl, r_w3, r_p3, r_v3, hz_173, hb_173, hv_173, hw0_173⟩ := hq9
            refine g_ws hC [cO m0 10 [w_thrown, .ref m1, w_image, w_frame, w_hasImage, .int (iI ac), .int (iI p3), .int (iI e), .int (iI w3), .int (iI o), w_by, w_truths, w_pulls, w_isKeeping, w_next, w_first, w_order, w_bestOrder, w_rooms, w_leastUnlike, w_bodies, w_ran, w_kind, w_number, w_tellsV], cA K m1 922 s] rfl ?_
            refine g_st hC [.int (iI v3)] rfl ?_
            skip
            refine g_istore (pc := 176) hC [(4, _), (3, _), (2, _), (1, _), (0, _)] dX10_factor_176 (by decide) rfl ?_
            refine g_aload_n (pc := 178) hC 4 dX10_factor_178 rfl rfl ?_
            refine g_iload_n (pc := 179) hC 2 dX10_factor_179 rfl rfl ?_
            refine g_bipush (pc := 180) hC (8) dX10_factor_180 (by decide) ?_
            refine g_iload_n (pc := 182) hC 1 dX10_factor_182 rfl rfl ?_
            refine g_imul (pc := 183) hC dX10_factor_183 ?_
            refine g_iadd (pc := 184) hC dX10_factor_184 ?_
            refine g_bipush (pc := 185) hC (32) dX10_factor_185 (by decide) ?_
            refine g_iload (pc := 187) hC 0 dX10_factor_187 rfl ?_
            refine g_imul (pc := 189) hC dX10_factor_189 ?_
            refine g_iadd (pc := 190) hC dX10_factor_190 ?_
            refine g_callV (pc := 191) (qr := 0) hC [0, 1] (k_X10_emits _ _ _ _ _ _ _ _ _ _ _ _ _ _ _ _ _ _ _ _ _ _ _ _ _ _ _ _ _ _ _ (by first | assumption | omega) (by first | assumption | omega) (by first | assumption | omega) (by first | assumption | omega) (by first | assumption | omega) (by first | assumption | omega) (by first | assumption | omega) (by first | assumption | omega) (by first | assumption | omega) (by first | assumption | omega) (by first | assumption | omega)) cl_X10_emits wm_X10_94 dX10_factor_191 rfl rfl rfl rfl rfl (by decide) (by decide) (by omega) (Nat.le_of_ble_eq_true rfl) rfl (fun v9 w9 hq9 => ?_)
            obtain ⟨s4, l4, rfl, rfl, r_s4, h4_191, hs2_191, hT2_191, hl2_191⟩ := hq9
            refine g_ws hC [cO m0 10 [w_thrown, .ref m1, w_image, w_frame, w_hasImage, .int (iI ac), .int (iI p3), .int (iI e), .int (iI w3), .int (iI o), w_by, w_truths, w_pulls, w_isKeeping, w_next, w_first, w_order, w_bestOrder, w_rooms, w_leastUnlike, w_bodies, w_ran, w_kind, w_number, w_tellsV], cA K m1 922 s4] rfl ?_
            refine g_st hC [] rfl ?_
            exact g_vret (pc := 194) hR dX10_factor_194 rfl ⟨by omega, by omega⟩ (Nat.le_of_ble_eq_true rfl) ⟨w3, p3, o, s4, l4, rfl, rfl, (by first | assumption | omega), (by first | assumption | omega), (by first | assumption | omega), (by first | assumption | omega), (px_fac_t c4 (by omega) (by omega) (px_tst_C e_a1 c122 hp2_115 e_b1 c161 hp2_147 hz_173 h4_191)), hs2_191, hT2_191, (by first | assumption | omega), (by first | assumption | omega), (by first | assumption | omega)⟩
          · refine g_iconst (pc := 164) hC dX10_factor_164 ?_
            refine g_goto (pc := 165) hC 169 dX10_factor_165 (by decide) ?_
            refine g_putZ (pc := 169) hC 0 [cO _ _ [_, _, _, _, _, _, _, _, _, _, _, _, _, _, _, _, _, _, _, _, _, _, _, _, _], _] fl_X10_64 dX10_factor_169 rfl (Nat.le_of_ble_eq_true rfl) (by omega) rfl ?_
            refine g_aload_n (pc := 172) hC 3 dX10_factor_172 rfl rfl ?_
            refine g_callV (pc := 173) (qr := 0) hC [0, 1] (k_X10_figures _ _ _ _ _ _ _ _ _ _ _ _ _ _ _ _ _ _ _ _ _ _ _ _ _ _ _ _ (by first | assumption | omega) (by first | assumption | omega) (by first | assumption | omega) (by first | assumption | omega) (by first | assumption | omega) (by first | assumption | omega) (by first | assumption | omega) (by first | assumption | omega) (by first | assumption | omega)) cl_X10_figures wm_X10_108 dX10_factor_173 rfl rfl rfl rfl rfl (by decide) (by decide) (by omega) (Nat.le_of_ble_eq_true rfl) rfl (fun v9 w9 hq9 => ?_)
            obtain ⟨w3, p3, v3, rfl, rfl, r_w3, r_p3, r_v3, hz_173, hb_173, hv_173, hw0_173⟩ := hq9
            refine g_ws hC [cO m0 10 [w_thrown, .ref m1, w_image, w_frame, w_hasImage, .int (iI ac), .int (iI p3), .int (iI e), .int (iI w3), .int (iI o), w_by, w_truths, w_pulls, w_isKeeping, w_next, w_first, w_order, w_bestOrder, w_rooms, w_leastUnlike, w_bodies, w_ran, w_kind, w_number, w_tellsV], cA K m1 922 s] rfl ?_
            refine g_st hC [.int (iI v3)] rfl ?_
            have hfw := px_fig_w (by omega) hz_173
            refine g_istore (pc := 176) hC [(4, _), (3, _), (2, _), (1, _), (0, _)] dX10_factor_176 (by decide) rfl ?_
            refine g_aload_n (pc := 178) hC 4 dX10_factor_178 rfl rfl ?_
            refine g_iload_n (pc := 179) hC 2 dX10_factor_179 rfl rfl ?_
            refine g_bipush (pc := 180) hC (8) dX10_factor_180 (by decide) ?_
            refine g_iload_n (pc := 182) hC 1 dX10_factor_182 rfl rfl ?_
            refine g_imul (pc := 183) hC dX10_factor_183 ?_
            refine g_iadd (pc := 184) hC dX10_factor_184 ?_
            refine g_bipush (pc := 185) hC (32) dX10_factor_185 (by decide) ?_
            refine g_iload (pc := 187) hC 0 dX10_factor_187 rfl ?_
            refine g_imul (pc := 189) hC dX10_factor_189 ?_
            refine g_iadd (pc := 190) hC dX10_factor_190 ?_
            refine g_callV (pc := 191) (qr := 0) hC [0, 1] (k_X10_emits _ _ _ _ _ _ _ _ _ _ _ _ _ _ _ _ _ _ _ _ _ _ _ _ _ _ _ _ _ _ _ (by first | assumption | omega) (by first | assumption | omega) (by first | assumption | omega) (by first | assumption | omega) (by first | assumption | omega) (by first | assumption | omega) (by first | assumption | omega) (by first | assumption | omega) (by first | assumption | omega) (by first | assumption | omega) (by first | assumption | omega)) cl_X10_emits wm_X10_94 dX10_factor_191 rfl rfl rfl rfl rfl (by decide) (by decide) (by omega) (Nat.le_of_ble_eq_true rfl) rfl (fun v9 w9 hq9 => ?_)
            obtain ⟨s4, l4, rfl, rfl, r_s4, h4_191, hs2_191, hT2_191, hl2_191⟩ := hq9
            refine g_ws hC [cO m0 10 [w_thrown, .ref m1, w_image, w_frame, w_hasImage, .int (iI ac), .int (iI p3), .int (iI e), .int (iI w3), .int (iI o), w_by, w_truths, w_pulls, w_isKeeping, w_next, w_first, w_order, w_bestOrder, w_rooms, w_leastUnlike, w_bodies, w_ran, w_kind, w_number, w_tellsV], cA K m1 922 s4] rfl ?_
            refine g_st hC [] rfl ?_
            exact g_vret (pc := 194) hR dX10_factor_194 rfl ⟨by omega, by omega⟩ (Nat.le_of_ble_eq_true rfl) ⟨w3, p3, o, s4, l4, rfl, rfl, (by first | assumption | omega), (by first | assumption | omega), (by first | assumption | omega), (by first | assumption | omega), (px_fac_t c4 (by omega) (by omega) (px_tst_B e_a1 c122 hp2_115 e_b1 c161 hp2_147 hz_173 h4_191)), hs2_191, hT2_191, (by first | assumption | omega), (by first | assumption | omega), (by first | assumption | omega)⟩
        · refine g_iconst (pc := 125) hC dX10_factor_125 ?_
          refine g_goto (pc := 126) hC 130 dX10_factor_126 (by decide) ?_
          refine g_putZ (pc := 130) hC 0 [cO _ _ [_, _, _, _, _, _, _, _, _, _, _, _, _, _, _, _, _, _, _, _, _, _, _, _, _], _] fl_X10_64 dX10_factor_130 rfl (Nat.le_of_ble_eq_true rfl) (by omega) rfl ?_
          refine g_aload_n (pc := 133) hC 2 dX10_factor_133 rfl rfl ?_
          refine g_get (pc := 134) hC 0 fl_X10_64 dX10_factor_134 rfl rfl ?_
          refine g_if_eq (pc := 137) hC 144 dX10_factor_137 (by decide) (by omega) (fun c137 => by exfalso; omega) (fun c137 => ?_)
          refine g_iconst (pc := 140) hC dX10_factor_140 ?_
          refine g_goto (pc := 141) hC 150 dX10_factor_141 (by decide) ?_
          refine g_istore_n (pc := 150) hC [(3, _), (2, _), (1, _), (0, _)] dX10_factor_150 rfl (by decide) rfl ?_
          refine g_aload_n (pc := 151) hC 3 dX10_factor_151 rfl rfl ?_
          refine g_aload_n (pc := 152) hC 3 dX10_factor_152 rfl rfl ?_
          refine g_get (pc := 153) hC 0 fl_X10_64 dX10_factor_153 rfl rfl ?_
          refine g_if_ne (pc := 156) hC 164 dX10_factor_156 (by decide) (by omega) (fun c156 => ?_) (fun c156 => by exfalso; omega)
          refine g_iconst (pc := 164) hC dX10_factor_164 ?_
          refine g_goto (pc := 165) hC 169 dX10_factor_165 (by decide) ?_
          refine g_putZ (pc := 169) hC 0 [cO _ _ [_, _, _, _, _, _, _, _, _, _, _, _, _, _, _, _, _, _, _, _, _, _, _, _, _], _] fl_X10_64 dX10_factor_169 rfl (Nat.le_of_ble_eq_true rfl) (by omega) rfl ?_
          refine g_aload_n (pc := 172) hC 3 dX10_factor_172 rfl rfl ?_
          refine g_callV (pc := 173) (qr := 0) hC [0, 1] (k_X10_figures _ _ _ _ _ _ _ _ _ _ _ _ _ _ _ _ _ _ _ _ _ _ _ _ _ _ _ _ (by first | assumption | omega) (by first | assumption | omega) (by first | assumption | omega) (by first | assumption | omega) (by first | assumption | omega) (by first | assumption | omega) (by first | assumption | omega) (by first | assumption | omega) (by first | assumption | omega)) cl_X10_figures wm_X10_108 dX10_factor_173 rfl rfl rfl rfl rfl (by decide) (by decide) (by omega) (Nat.le_of_ble_eq_true rfl) rfl (fun v9 w9 hq9 => ?_)
          obtain ⟨w3, p3, v3, rfl, rfl, r_w3, r_p3, r_v3, hz_173, hb_173, hv_173, hw0_173⟩ := hq9
          refine g_ws hC [cO m0 10 [w_thrown, .ref m1, w_image, w_frame, w_hasImage, .int (iI ac), .int (iI p3), .int (iI e), .int (iI w3), .int (iI o), w_by, w_truths, w_pulls, w_isKeeping, w_next, w_first, w_order, w_bestOrder, w_rooms, w_leastUnlike, w_bodies, w_ran, w_kind, w_number, w_tellsV], cA K m1 922 s] rfl ?_
          refine g_st hC [.int (iI v3)] rfl ?_
          have hfw := px_fig_w (by omega) hz_173
          refine g_istore (pc := 176) hC [(4, _), (3, _), (2, _), (1, _), (0, _)] dX10_factor_176 (by decide) rfl ?_
          refine g_aload_n (pc := 178) hC 4 dX10_factor_178 rfl rfl ?_
          refine g_iload_n (pc := 179) hC 2 dX10_factor_179 rfl rfl ?_
          refine g_bipush (pc := 180) hC (8) dX10_factor_180 (by decide) ?_
          refine g_iload_n (pc := 182) hC 1 dX10_factor_182 rfl rfl ?_
          refine g_imul (pc := 183) hC dX10_factor_183 ?_
          refine g_iadd (pc := 184) hC dX10_factor_184 ?_
          refine g_bipush (pc := 185) hC (32) dX10_factor_185 (by decide) ?_
          refine g_iload (pc := 187) hC 0 dX10_factor_187 rfl ?_
          refine g_imul (pc := 189) hC dX10_factor_189 ?_
          refine g_iadd (pc := 190) hC dX10_factor_190 ?_
          refine g_callV (pc := 191) (qr := 0) hC [0, 1] (k_X10_emits _ _ _ _ _ _ _ _ _ _ _ _ _ _ _ _ _ _ _ _ _ _ _ _ _ _ _ _ _ _ _ (by first | assumption | omega) (by first | assumption | omega) (by first | assumption | omega) (by first | assumption | omega) (by first | assumption | omega) (by first | assumption | omega) (by first | assumption | omega) (by first | assumption | omega) (by first | assumption | omega) (by first | assumption | omega) (by first | assumption | omega)) cl_X10_emits wm_X10_94 dX10_factor_191 rfl rfl rfl rfl rfl (by decide) (by decide) (by omega) (Nat.le_of_ble_eq_true rfl) rfl (fun v9 w9 hq9 => ?_)
          obtain ⟨s4, l4, rfl, rfl, r_s4, h4_191, hs2_191, hT2_191, hl2_191⟩ := hq9
          refine g_ws hC [cO m0 10 [w_thrown, .ref m1, w_image, w_frame, w_hasImage, .int (iI ac), .int (iI p3), .int (iI e), .int (iI w3), .int (iI o), w_by, w_truths, w_pulls, w_isKeeping, w_next, w_first, w_order, w_bestOrder, w_rooms, w_leastUnlike, w_bodies, w_ran, w_kind, w_number, w_tellsV], cA K m1 922 s4] rfl ?_
          refine g_st hC [] rfl ?_
          exact g_vret (pc := 194) hR dX10_factor_194 rfl ⟨by omega, by omega⟩ (Nat.le_of_ble_eq_true rfl) ⟨w3, p3, o, s4, l4, rfl, rfl, (by first | assumption | omega), (by first | assumption | omega), (by first | assumption | omega), (by first | assumption | omega), (px_fac_t c4 (by omega) (by omega) (px_tst_A e_a1 c122 hp2_115 hz_173 h4_191)), hs2_191, hT2_191, (by first | assumption | omega), (by first | assumption | omega), (by first | assumption | omega)⟩
      · have hlt := px_lt hT hp.1 (show T p = 40 by omega) (by omega)
        refine g_aload_n (pc := 25) hC 1 dX10_factor_25 rfl rfl ?_
        refine g_aload_n (pc := 26) hC 1 dX10_factor_26 rfl rfl ?_
        refine g_get (pc := 27) hC 0 fl_X10_88 dX10_factor_27 rfl rfl ?_
        refine g_iconst (pc := 30) hC dX10_factor_30 ?_
        refine g_icmp_ne (pc := 31) hC 38 dX10_factor_31 (by decide) (by omega) (by omega) (fun c31 => ?_) (fun c31 => by exfalso; omega)
        refine g_iconst (pc := 38) hC dX10_factor_38 ?_
        refine g_putZ (pc := 39) hC 0 [cO _ _ [_, _, _, _, _, _, _, _, _, _, _, _, _, _, _, _, _, _, _, _, _, _, _, _, _], _] fl_X10_64 dX10_factor_39 rfl (Nat.le_of_ble_eq_true rfl) (by omega) rfl ?_
        refine g_aload_n (pc := 42) hC 1 dX10_factor_42 rfl rfl ?_
        refine g_dup (pc := 43) hC dX10_factor_43 rfl ?_
        refine g_get (pc := 44) hC 0 fl_X10_88 dX10_factor_44 rfl rfl ?_
        refine g_iconst (pc := 47) hC dX10_factor_47 ?_
        refine g_iadd (pc := 48) hC dX10_factor_48 ?_
        refine g_putI (pc := 49) hC 0 [cO _ _ [_, _, _, _, _, _, _, _, _, _, _, _, _, _, _, _, _, _, _, _, _, _, _, _, _], _] fl_X10_88 dX10_factor_49 rfl (Nat.le_of_ble_eq_true rfl) rfl ?_
        refine g_aload_n (pc := 52) hC 1 dX10_factor_52 rfl rfl ?_
        refine g_dup (pc := 53) hC dX10_factor_53 rfl ?_
        refine g_get (pc := 54) hC 0 fl_X10_58 dX10_factor_54 rfl rfl ?_
        refine g_aload_n (pc := 57) hC 1 dX10_factor_57 rfl rfl ?_
        refine g_get (pc := 58) hC 0 fl_X10_64 dX10_factor_58 rfl rfl ?_
        refine g_if_eq (pc := 61) hC 68 dX10_factor_61 (by decide) (by omega) (fun c61 => ?_) (fun c61 => by exfalso; omega)
        refine g_iconst (pc := 68) hC dX10_factor_68 ?_
        refine g_iadd (pc := 69) hC dX10_factor_69 ?_
        refine g_putI (pc := 70) hC 0 [cO _ _ [_, _, _, _, _, _, _, _, _, _, _, _, _, _, _, _, _, _, _, _, _, _, _, _, _], _] fl_X10_58 dX10_factor_70 rfl (Nat.le_of_ble_eq_true rfl) rfl ?_
        refine g_iload_n (pc := 73) hC 0 dX10_factor_73 rfl rfl ?_
        refine g_bipush (pc := 74) hC (33) dX10_factor_74 (by decide) ?_
        refine g_icmp_ne (pc := 76) hC 91 dX10_factor_76 (by decide) (by omega) (by omega) (fun c76 => ?_) (fun c76 => by exfalso; omega)
        refine g_aload_n (pc := 91) hC 1 dX10_factor_91 rfl rfl ?_
        refine g_callV (pc := 92) (qr := 0) hC [0, 1] (k_X10_some_4 _ _ _ _ _ _ _ _ _ _ _ _ _ _ _ _ _ _ _ _ _ _ _ _ _ _ _ _ _ _ (by first | assumption | omega) (by first | assumption | omega) (by first | assumption | omega) (by first | assumption | omega) (by first | assumption | omega) (by first | assumption | omega) (by first | assumption | omega) (by first | assumption | omega) (by first | assumption | omega) (by first | assumption | omega) (by first | assumption | omega) (by first | assumption | omega) (by first | assumption | omega)) cl_X10_some wm_X10_97 dX10_factor_92 rfl rfl rfl rfl rfl (by decide) (by decide) (by omega) (Nat.le_of_ble_eq_true rfl) rfl (fun v9 w9 hq9 => ?_)
        obtain ⟨w3, p3, o3, s3, l3, rfl, rfl, r_w3, r_p3, r_o3, r_s3, hz_92, hs2_92, hT2_92, ho2_92, hb_92, hl2_92⟩ := hq9
        refine g_ws hC [cO m0 10 [w_thrown, .ref m1, w_image, w_frame, w_hasImage, .int (iI ac), .int (iI p3), .int (iI e), .int (iI w3), .int (iI o3), w_by, w_truths, w_pulls, w_isKeeping, w_next, w_first, w_order, w_bestOrder, w_rooms, w_leastUnlike, w_bodies, w_ran, w_kind, w_number, w_tellsV], cA K m1 922 s3] rfl ?_
        refine g_st hC [] rfl ?_
        refine g_aload_n (pc := 95) hC 1 dX10_factor_95 rfl rfl ?_
        refine g_bipush (pc := 96) hC (41) dX10_factor_96 (by decide) ?_
        refine g_callV (pc := 98) (qr := 0) hC [0, 1] (k_X10_must _ _ _ _ _ _ _ _ _ _ _ _ _ _ _ _ _ _ _ _ _ _ _ _ _ _ _ _ _ (by first | assumption | omega) (by first | assumption | omega) (by first | assumption | omega) (by first | assumption | omega) (by first | assumption | omega) (by first | assumption | omega) (by first | assumption | omega) (by first | assumption | omega) (by first | assumption | omega) (by first | assumption | omega) (by first | assumption | omega)) cl_X10_must wm_X10_81 dX10_factor_98 rfl rfl rfl rfl rfl (by decide) (by decide) (by omega) (Nat.le_of_ble_eq_true rfl) rfl (fun v9 w9 hq9 => ?_)
        obtain ⟨w4, p4, rfl, rfl, r_w4, r_p4, hz_98, hb_98, hw0_98⟩ := hq9
        refine g_ws hC [cO m0 10 [w_thrown, .ref m1, w_image, w_frame, w_hasImage, .int (iI ac), .int (iI p4), .int (iI e), .int (iI w4), .int (iI o3), w_by, w_truths, w_pulls, w_isKeeping, w_next, w_first, w_order, w_bestOrder, w_rooms, w_leastUnlike, w_bodies, w_ran, w_kind, w_number, w_tellsV], cA K m1 922 s3] rfl ?_
        refine g_st hC [] rfl ?_
        refine g_aload_n (pc := 101) hC 1 dX10_factor_101 rfl rfl ?_
        refine g_dup (pc := 102) hC dX10_factor_102 rfl ?_
        refine g_get (pc := 103) hC 0 fl_X10_88 dX10_factor_103 rfl rfl ?_
        refine g_iconst (pc := 106) hC dX10_factor_106 ?_
        refine g_isub (pc := 107) hC dX10_factor_107 ?_
        refine g_putI (pc := 108) hC 0 [cO _ _ [_, _, _, _, _, _, _, _, _, _, _, _, _, _, _, _, _, _, _, _, _, _, _, _, _], _] fl_X10_88 dX10_factor_108 rfl (Nat.le_of_ble_eq_true rfl) rfl ?_
        exact g_vret (pc := 111) hR dX10_factor_111 rfl ⟨by omega, by omega⟩ (Nat.le_of_ble_eq_true rfl) ⟨w4, p4, o3 - 1, s3, l3, rfl, rfl, (by first | assumption | omega), (by first | assumption | omega), (by first | assumption | omega), (by first | assumption | omega), (px_fac_br c4 (by omega) hz_92 hz_98), hs2_92, hT2_92, (by first | assumption | omega), (by first | assumption | omega), (by first | assumption | omega)⟩
  · exact g_vret (pc := 7) hR dX10_factor_7 rfl ⟨by omega, by omega⟩ (Nat.le_of_ble_eq_true rfl) ⟨w, p, o, s, l, rfl, rfl, (by first | assumption | omega), (by first | assumption | omega), (by first | assumption | omega), (by first | assumption | omega), (px_fac_w c4).symm, hs, hT, (by first | assumption | omega), (by first | assumption | omega), (by first | assumption | omega)⟩
set_option maxHeartbeats 4000000 in
set_option maxRecDepth 100000 in
theorem k_X10_every_5 {K : gK} (m0 : Nat) (m1 : Nat) (w_thrown : Value) (w_image : Value) (w_frame : Value) (w_hasImage : Value) (w_by : Value) (w_truths : Value) (w_pulls : Value) (w_isKeeping : Value) (w_next : Value) (w_first : Value) (w_order : Value) (w_bestOrder : Value) (w_rooms : Value) (w_leastUnlike : Value) (w_bodies : Value) (w_ran : Value) (w_kind : Value) (w_number : Value) (w_tellsV : Value) (ac : Int) (p : Int) (e : Int) (w : Int) (o : Int) (s : Int → Int) (T : Int → Int) (s0 : Int → Int) (l : List Int) (r_ac : rI ac) (r_p : rI p) (r_e : rI e) (r_w : rI w) (r_o : rI o) (r_s : ∀ j, rI (s j)) (hT : md_T T e s) (hs : s = px_row s0 ac l) (hac : 0 ≤ ac ∧ ac ≤ 4) (hp : 0 ≤ p ∧ p ≤ e) (hw : w = 0 ∨ w = 1) (ho : w = 0 → o = 0) (hl : (l.length : Int) ≤ p) : gMet K yX10_every cX10_every 1 none 22 0 0 [.ref m0] [cO m0 10 [w_thrown, .ref m1, w_image, w_frame, w_hasImage, .int (iI ac), .int (iI p), .int (iI e), .int (iI w), .int (iI o), w_by, w_truths, w_pulls, w_isKeeping, w_next, w_first, w_order, w_bestOrder, w_rooms, w_leastUnlike, w_bodies, w_ran, w_kind, w_number, w_tellsV], cA K m1 922 s] (fun v9 w9 => ∃ (w2 : Int), ∃ (p2 : Int), ∃ (o2 : Int), ∃ (s2 : Int → Int), ∃ (l2 : List Int), v9 = none ∧ w9 = [cO m0 10 [w_thrown, .ref m1, w_image, w_frame, w_hasImage, .int (iI ac), .int (iI p2), .int (iI e), .int (iI w2), .int (iI o2), w_by, w_truths, w_pulls, w_isKeeping, w_next, w_first, w_order, w_bestOrder, w_rooms, w_leastUnlike, w_bodies, w_ran, w_kind, w_number, w_tellsV], cA K m1 922 s2] ∧ rI w2 ∧ rI p2 ∧ rI o2 ∧ (∀ j, rI (s2 j)) ∧ ((w2, p2, l2) = px_every T (px_fac T 5) (w, p, l)) ∧ (s2 = px_row s0 ac l2) ∧ (md_T T e s2) ∧ (o2 = o ∧ (w2 = 0 → o = 0 ∧ w = 0)) ∧ ((w2 = 0 ∨ w2 = 1) ∧ p ≤ p2 ∧ p2 ≤ e) ∧ ((l2.length : Int) + p ≤ (l.length : Int) + p2)) := by
  refine g_enter (by decide +kernel) (Nat.le_of_ble_eq_true rfl) (fun G hC hR => ?_)
  refine g_lv hC [0] [(0, _)] rfl ?_
  have hge := hT.1
  refine g_aload_n (pc := 0) hC 0 dX10_every_0 rfl rfl ?_
  refine g_callV (pc := 1) (qr := 0) hC [0, 1] (k_X10_factor_5 _ _ _ _ _ _ _ _ _ _ _ _ _ _ _ _ _ _ _ _ _ _ _ _ _ _ _ _ _ _ (by first | assumption | omega) (by first | assumption | omega) (by first | assumption | omega) (by first | assumption | omega) (by first | assumption | omega) (by first | assumption | omega) (by first | assumption | omega) (by first | assumption | omega) (by first | assumption | omega) (by first | assumption | omega) (by first | assumption | omega) (by first | assumption | omega) (by first | assumption | omega)) cl_X10_factor wm_X10_91 dX10_every_1 rfl rfl rfl rfl rfl (by decide) (by decide) (by omega) (Nat.le_of_ble_eq_true rfl) rfl (fun v9 w9 hq9 => ?_)
  obtain ⟨w3, p3, o3, s3, l3, rfl, rfl, r_w3, r_p3, r_o3, r_s3, hz_1, hs2_1, hT2_1, ho2_1, hb_1, hl2_1⟩ := hq9
  refine g_ws hC [cO m0 10 [w_thrown, .ref m1, w_image, w_frame, w_hasImage, .int (iI ac), .int (iI p3), .int (iI e), .int (iI w3), .int (iI o3), w_by, w_truths, w_pulls, w_isKeeping, w_next, w_first, w_order, w_bestOrder, w_rooms, w_leastUnlike, w_bodies, w_ran, w_kind, w_number, w_tellsV], cA K m1 922 s3] rfl ?_
  refine g_st hC [] rfl ?_
  have L4 : ∀ (n1 : Nat) (w1 : Int) (p1 : Int) (o1 : Int) (f1 : Int → Int) (l1 : List Int) (f : Nat), (rI w1) → (rI p1) → (rI o1) → (∀ j, rI (f1 j)) → (f1 = px_row s0 ac l1) → (md_T T e f1) → (px_ev T (px_fac T 5) f (w1, p1, l1) = px_every T (px_fac T 5) (w, p, l)) → ((w1 = 0 ∨ w1 = 1) ∧ p ≤ p1 ∧ p1 ≤ e) → (o1 = o ∧ (w1 = 0 → o = 0 ∧ w = 0)) → ((l1.length : Int) + p ≤ (l.length : Int) + p1) → (e - p1 ≤ (f : Int)) → e - p1 < (n1 : Int) → G 0 0 4 [(0, .ref m0)] [] [cO m0 10 [w_thrown, .ref m1, w_image, w_frame, w_hasImage, .int (iI ac), .int (iI p1), .int (iI e), .int (iI w1), .int (iI o1), w_by, w_truths, w_pulls, w_isKeeping, w_next, w_first, w_order, w_bestOrder, w_rooms, w_leastUnlike, w_bodies, w_ran, w_kind, w_number, w_tellsV], cA K m1 922 f1] := by
    intro n1
    induction n1 with
    | zero => intro w1 p1 o1 f1 l1 f r_w1 r_p1 r_o1 r_f1 hs1 hT1 hz hb1 ho1 hl1 hf hm4; exfalso; omega
    | succ n1 ih4 =>
      intro w1 p1 o1 f1 l1 f r_w1 r_p1 r_o1 r_f1 hs1 hT1 hz hb1 ho1 hl1 hf hm4
      refine g_aload_n (pc := 4) hC 0 dX10_every_4 rfl rfl ?_
      refine g_get (pc := 5) hC 0 fl_X10_64 dX10_every_5 rfl rfl ?_
      refine g_if_ne (pc := 8) hC 43 dX10_every_8 (by decide) (by omega) (fun c8 => ?_) (fun c8 => ?_)
      · exact g_vret (pc := 43) hR dX10_every_43 rfl ⟨by omega, by omega⟩ (Nat.le_of_ble_eq_true rfl) ⟨w1, p1, o1, f1, l1, rfl, rfl, (by first | assumption | omega), (by first | assumption | omega), (by first | assumption | omega), (by first | assumption | omega), (by rw [← hz]; exact (px_ev_end (fun h9 => c8 h9.1)).symm), hs1, hT1, ho1, hb1, hl1⟩
      · refine g_aload_n (pc := 11) hC 0 dX10_every_11 rfl rfl ?_
        refine g_fnV (pc := 12) (qr := 0) hC [0, 1] (k_X10_here _ _ _ _ _ _ _ _ _ _ _ _ _ _ _ _ _ _ _ _ _ _ _ _ _ _ _ _ (by first | assumption | omega) (by first | assumption | omega) (by first | assumption | omega) (by first | assumption | omega) (by first | assumption | omega) (by first | assumption | omega) (by first | assumption | omega) (by first | assumption | omega)) cl_X10_here wm_X10_68 dX10_every_12 rfl rfl rfl rfl rfl (by decide) (by decide) ⟨by omega, by omega⟩ (Nat.le_of_ble_eq_true rfl) rfl rfl ?_
        refine g_name hC (fun x2 e_x2 => ?_)
        have q_x2 : -1 ≤ x2 ∧ x2 ≤ 127 := by rw [e_x2]; exact hT.2.2.1 _
        refine g_bipush (pc := 15) hC (38) dX10_every_15 (by decide) ?_
        refine g_icmp_ne (pc := 17) hC 43 dX10_every_17 (by decide) (by omega) (by omega) (fun c17 => ?_) (fun c17 => ?_)
        · exact g_vret (pc := 43) hR dX10_every_43 rfl ⟨by omega, by omega⟩ (Nat.le_of_ble_eq_true rfl) ⟨w1, p1, o1, f1, l1, rfl, rfl, (by first | assumption | omega), (by first | assumption | omega), (by first | assumption | omega), (by first | assumption | omega), (by rw [← hz]; exact (px_ev_end (fun h9 => absurd (show T p1 = 38 from h9.2) (by omega))).symm), hs1, hT1, ho1, hb1, hl1⟩
        · have hlt := px_lt hT1 (by omega) (show T p1 = 38 by omega) (by omega)
          obtain ⟨g9, rfl⟩ : ∃ g9, f = g9 + 1 := ⟨f - 1, by omega⟩
          refine g_aload_n (pc := 20) hC 0 dX10_every_20 rfl rfl ?_
          refine g_dup (pc := 21) hC dX10_every_21 rfl ?_
          refine g_get (pc := 22) hC 0 fl_X10_58 dX10_every_22 rfl rfl ?_
          refine g_iconst (pc := 25) hC dX10_every_25 ?_
          refine g_iadd (pc := 26) hC dX10_every_26 ?_
          refine g_putI (pc := 27) hC 0 [cO _ _ [_, _, _, _, _, _, _, _, _, _, _, _, _, _, _, _, _, _, _, _, _, _, _, _, _], _] fl_X10_58 dX10_every_27 rfl (Nat.le_of_ble_eq_true rfl) rfl ?_
          refine g_aload_n (pc := 30) hC 0 dX10_every_30 rfl rfl ?_
          refine g_callV (pc := 31) (qr := 0) hC [0, 1] (k_X10_factor_5 _ _ _ _ _ _ _ _ _ _ _ _ _ _ _ _ _ _ _ _ _ _ _ _ _ _ _ _ _ _ (by first | assumption | omega) (by first | assumption | omega) (by first | assumption | omega) (by first | assumption | omega) (by first | assumption | omega) (by first | assumption | omega) (by first | assumption | omega) (by first | assumption | omega) (by first | assumption | omega) (by first | assumption | omega) (by first | assumption | omega) (by first | assumption | omega) (by first | assumption | omega)) cl_X10_factor wm_X10_91 dX10_every_31 rfl rfl rfl rfl rfl (by decide) (by decide) (by omega) (Nat.le_of_ble_eq_true rfl) rfl (fun v9 w9 hq9 => ?_)
          obtain ⟨w5, p5, o5, s5, l5, rfl, rfl, r_w5, r_p5, r_o5, r_s5, hz_31, hs2_31, hT2_31, ho2_31, hb_31, hl2_31⟩ := hq9
          refine g_ws hC [cO m0 10 [w_thrown, .ref m1, w_image, w_frame, w_hasImage, .int (iI ac), .int (iI p5), .int (iI e), .int (iI w5), .int (iI o5), w_by, w_truths, w_pulls, w_isKeeping, w_next, w_first, w_order, w_bestOrder, w_rooms, w_leastUnlike, w_bodies, w_ran, w_kind, w_number, w_tellsV], cA K m1 922 s5] rfl ?_
          refine g_st hC [] rfl ?_
          refine g_aload_n (pc := 34) hC 0 dX10_every_34 rfl rfl ?_
          refine g_bipush (pc := 35) hC (-2) dX10_every_35 (by decide) ?_
          refine g_callV (pc := 37) (qr := 0) hC [0, 1] (k_X10_emits _ _ _ _ _ _ _ _ _ _ _ _ _ _ _ _ _ _ _ _ _ _ _ _ _ _ _ _ _ _ _ (by first | assumption | omega) (by first | assumption | omega) (by first | assumption | omega) (by first | assumption | omega) (by first | assumption | omega) (by first | assumption | omega) (by first | assumption | omega) (by first | assumption | omega) (by first | assumption | omega) (by first | assumption | omega) (by first | assumption | omega)) cl_X10_emits wm_X10_94 dX10_every_37 rfl rfl rfl rfl rfl (by decide) (by decide) (by omega) (Nat.le_of_ble_eq_true rfl) rfl (fun v9 w9 hq9 => ?_)
          obtain ⟨s6, l6, rfl, rfl, r_s6, h4_37, hs2_37, hT2_37, hl2_37⟩ := hq9
          refine g_ws hC [cO m0 10 [w_thrown, .ref m1, w_image, w_frame, w_hasImage, .int (iI ac), .int (iI p5), .int (iI e), .int (iI w5), .int (iI o5), w_by, w_truths, w_pulls, w_isKeeping, w_next, w_first, w_order, w_bestOrder, w_rooms, w_leastUnlike, w_bodies, w_ran, w_kind, w_number, w_tellsV], cA K m1 922 s6] rfl ?_
          refine g_st hC [] rfl ?_
          refine g_goto (pc := 40) hC 4 dX10_every_40 (by decide) ?_
          exact ih4 w5 p5 o5 s6 l6 g9 (by first | assumption | omega) (by first | assumption | omega) (by first | assumption | omega) (by first | assumption | omega) (by first | assumption | omega) (by first | assumption | omega) (px_ev_s hz (by omega) (by omega) hz_31 h4_37) (by first | assumption | omega) (by first | assumption | omega) (by first | assumption | omega) (by first | assumption | omega) (by omega)
  exact L4 ((e - p3 : Int).toNat + 1) w3 p3 o3 s3 l3 101 (by first | assumption | omega) (by first | assumption | omega) (by first | assumption | omega) (by first | assumption | omega) (by first | assumption | omega) (by first | assumption | omega) (by unfold px_every; rw [← hz_1]) (by first | assumption | omega) (by first | assumption | omega) (by first | assumption | omega) (by first | assumption | omega) (by omega)
set_option maxHeartbeats 4000000 in
set_option maxRecDepth 100000 in
theorem k_X10_some_5 {K : gK} (m0 : Nat) (m1 : Nat) (w_thrown : Value) (w_image : Value) (w_frame : Value) (w_hasImage : Value) (w_by : Value) (w_truths : Value) (w_pulls : Value) (w_isKeeping : Value) (w_next : Value) (w_first : Value) (w_order : Value) (w_bestOrder : Value) (w_rooms : Value) (w_leastUnlike : Value) (w_bodies : Value) (w_ran : Value) (w_kind : Value) (w_number : Value) (w_tellsV : Value) (ac : Int) (p : Int) (e : Int) (w : Int) (o : Int) (s : Int → Int) (T : Int → Int) (s0 : Int → Int) (l : List Int) (r_ac : rI ac) (r_p : rI p) (r_e : rI e) (r_w : rI w) (r_o : rI o) (r_s : ∀ j, rI (s j)) (hT : md_T T e s) (hs : s = px_row s0 ac l) (hac : 0 ≤ ac ∧ ac ≤ 4) (hp : 0 ≤ p ∧ p ≤ e) (hw : w = 0 ∨ w = 1) (ho : w = 0 → o = 0) (hl : (l.length : Int) ≤ p) : gMet K yX10_some cX10_some 1 none 23 0 0 [.ref m0] [cO m0 10 [w_thrown, .ref m1, w_image, w_frame, w_hasImage, .int (iI ac), .int (iI p), .int (iI e), .int (iI w), .int (iI o), w_by, w_truths, w_pulls, w_isKeeping, w_next, w_first, w_order, w_bestOrder, w_rooms, w_leastUnlike, w_bodies, w_ran, w_kind, w_number, w_tellsV], cA K m1 922 s] (fun v9 w9 => ∃ (w2 : Int), ∃ (p2 : Int), ∃ (o2 : Int), ∃ (s2 : Int → Int), ∃ (l2 : List Int), v9 = none ∧ w9 = [cO m0 10 [w_thrown, .ref m1, w_image, w_frame, w_hasImage, .int (iI ac), .int (iI p2), .int (iI e), .int (iI w2), .int (iI o2), w_by, w_truths, w_pulls, w_isKeeping, w_next, w_first, w_order, w_bestOrder, w_rooms, w_leastUnlike, w_bodies, w_ran, w_kind, w_number, w_tellsV], cA K m1 922 s2] ∧ rI w2 ∧ rI p2 ∧ rI o2 ∧ (∀ j, rI (s2 j)) ∧ ((w2, p2, l2) = px_some T (px_fac T 5) (w, p, l)) ∧ (s2 = px_row s0 ac l2) ∧ (md_T T e s2) ∧ (o2 = o ∧ (w2 = 0 → o = 0 ∧ w = 0)) ∧ ((w2 = 0 ∨ w2 = 1) ∧ p ≤ p2 ∧ p2 ≤ e) ∧ ((l2.length : Int) + p ≤ (l.length : Int) + p2)) := by
  refine g_enter (by decide +kernel) (Nat.le_of_ble_eq_true rfl) (fun G hC hR => ?_)
  refine g_lv hC [0] [(0, _)] rfl ?_
  have hge := hT.1
  refine g_aload_n (pc := 0) hC 0 dX10_some_0 rfl rfl ?_
  refine g_callV (pc := 1) (qr := 0) hC [0, 1] (k_X10_every_5 _ _ _ _ _ _ _ _ _ _ _ _ _ _ _ _ _ _ _ _ _ _ _ _ _ _ _ _ _ _ (by first | assumption | omega) (by first | assumption | omega) (by first | assumption | omega) (by first | assumption | omega) (by first | assumption | omega) (by first | assumption | omega) (by first | assumption | omega) (by first | assumption | omega) (by first | assumption | omega) (by first | assumption | omega) (by first | assumption | omega) (by first | assumption | omega) (by first | assumption | omega)) cl_X10_every wm_X10_111 dX10_some_1 rfl rfl rfl rfl rfl (by decide) (by decide) (by omega) (Nat.le_of_ble_eq_true rfl) rfl (fun v9 w9 hq9 => ?_)
  obtain ⟨w3, p3, o3, s3, l3, rfl, rfl, r_w3, r_p3, r_o3, r_s3, hz_1, hs2_1, hT2_1, ho2_1, hb_1, hl2_1⟩ := hq9
  refine g_ws hC [cO m0 10 [w_thrown, .ref m1, w_image, w_frame, w_hasImage, .int (iI ac), .int (iI p3), .int (iI e), .int (iI w3), .int (iI o3), w_by, w_truths, w_pulls, w_isKeeping, w_next, w_first, w_order, w_bestOrder, w_rooms, w_leastUnlike, w_bodies, w_ran, w_kind, w_number, w_tellsV], cA K m1 922 s3] rfl ?_
  refine g_st hC [] rfl ?_
  have L4 : ∀ (n1 : Nat) (w1 : Int) (p1 : Int) (o1 : Int) (f1 : Int → Int) (l1 : List Int) (f : Nat), (rI w1) → (rI p1) → (rI o1) → (∀ j, rI (f1 j)) → (f1 = px_row s0 ac l1) → (md_T T e f1) → (px_so T (px_fac T 5) f (w1, p1, l1) = px_some T (px_fac T 5) (w, p, l)) → ((w1 = 0 ∨ w1 = 1) ∧ p ≤ p1 ∧ p1 ≤ e) → (o1 = o ∧ (w1 = 0 → o = 0 ∧ w = 0)) → ((l1.length : Int) + p ≤ (l.length : Int) + p1) → (e - p1 ≤ (f : Int)) → e - p1 < (n1 : Int) → G 0 0 4 [(0, .ref m0)] [] [cO m0 10 [w_thrown, .ref m1, w_image, w_frame, w_hasImage, .int (iI ac), .int (iI p1), .int (iI e), .int (iI w1), .int (iI o1), w_by, w_truths, w_pulls, w_isKeeping, w_next, w_first, w_order, w_bestOrder, w_rooms, w_leastUnlike, w_bodies, w_ran, w_kind, w_number, w_tellsV], cA K m1 922 f1] := by
    intro n1
    induction n1 with
    | zero => intro w1 p1 o1 f1 l1 f r_w1 r_p1 r_o1 r_f1 hs1 hT1 hz hb1 ho1 hl1 hf hm4; exfalso; omega
    | succ n1 ih4 =>
      intro w1 p1 o1 f1 l1 f r_w1 r_p1 r_o1 r_f1 hs1 hT1 hz hb1 ho1 hl1 hf hm4
      refine g_aload_n (pc := 4) hC 0 dX10_some_4 rfl rfl ?_
      refine g_get (pc := 5) hC 0 fl_X10_64 dX10_some_5 rfl rfl ?_
      refine g_if_ne (pc := 8) hC 43 dX10_some_8 (by decide) (by omega) (fun c8 => ?_) (fun c8 => ?_)
      · exact g_vret (pc := 43) hR dX10_some_43 rfl ⟨by omega, by omega⟩ (Nat.le_of_ble_eq_true rfl) ⟨w1, p1, o1, f1, l1, rfl, rfl, (by first | assumption | omega), (by first | assumption | omega), (by first | assumption | omega), (by first | assumption | omega), (by rw [← hz]; exact (px_so_end (fun h9 => c8 h9.1)).symm), hs1, hT1, ho1, hb1, hl1⟩
      · refine g_aload_n (pc := 11) hC 0 dX10_some_11 rfl rfl ?_
        refine g_fnV (pc := 12) (qr := 0) hC [0, 1] (k_X10_here _ _ _ _ _ _ _ _ _ _ _ _ _ _ _ _ _ _ _ _ _ _ _ _ _ _ _ _ (by first | assumption | omega) (by first | assumption | omega) (by first | assumption | omega) (by first | assumption | omega) (by first | assumption | omega) (by first | assumption | omega) (by first | assumption | omega) (by first | assumption | omega)) cl_X10_here wm_X10_68 dX10_some_12 rfl rfl rfl rfl rfl (by decide) (by decide) ⟨by omega, by omega⟩ (Nat.le_of_ble_eq_true rfl) rfl rfl ?_
        refine g_name hC (fun x2 e_x2 => ?_)
        have q_x2 : -1 ≤ x2 ∧ x2 ≤ 127 := by rw [e_x2]; exact hT.2.2.1 _
        refine g_bipush (pc := 15) hC (124) dX10_some_15 (by decide) ?_
        refine g_icmp_ne (pc := 17) hC 43 dX10_some_17 (by decide) (by omega) (by omega) (fun c17 => ?_) (fun c17 => ?_)
        · exact g_vret (pc := 43) hR dX10_some_43 rfl ⟨by omega, by omega⟩ (Nat.le_of_ble_eq_true rfl) ⟨w1, p1, o1, f1, l1, rfl, rfl, (by first | assumption | omega), (by first | assumption | omega), (by first | assumption | omega), (by first | assumption | omega), (by rw [← hz]; exact (px_so_end (fun h9 => absurd (show T p1 = 124 from h9.2) (by omega))).symm), hs1, hT1, ho1, hb1, hl1⟩
        · have hlt := px_lt hT1 (by omega) (show T p1 = 124 by omega) (by omega)
          obtain ⟨g9, rfl⟩ : ∃ g9, f = g9 + 1 := ⟨f - 1, by omega⟩
          refine g_aload_n (pc := 20) hC 0 dX10_some_20 rfl rfl ?_
          refine g_dup (pc := 21) hC dX10_some_21 rfl ?_
          refine g_get (pc := 22) hC 0 fl_X10_58 dX10_some_22 rfl rfl ?_
          refine g_iconst (pc := 25) hC dX10_some_25 ?_
          refine g_iadd (pc := 26) hC dX10_some_26 ?_
          refine g_putI (pc := 27) hC 0 [cO _ _ [_, _, _, _, _, _, _, _, _, _, _, _, _, _, _, _, _, _, _, _, _, _, _, _, _], _] fl_X10_58 dX10_some_27 rfl (Nat.le_of_ble_eq_true rfl) rfl ?_
          refine g_aload_n (pc := 30) hC 0 dX10_some_30 rfl rfl ?_
          refine g_callV (pc := 31) (qr := 0) hC [0, 1] (k_X10_every_5 _ _ _ _ _ _ _ _ _ _ _ _ _ _ _ _ _ _ _ _ _ _ _ _ _ _ _ _ _ _ (by first | assumption | omega) (by first | assumption | omega) (by first | assumption | omega) (by first | assumption | omega) (by first | assumption | omega) (by first | assumption | omega) (by first | assumption | omega) (by first | assumption | omega) (by first | assumption | omega) (by first | assumption | omega) (by first | assumption | omega) (by first | assumption | omega) (by first | assumption | omega)) cl_X10_every wm_X10_111 dX10_some_31 rfl rfl rfl rfl rfl (by decide) (by decide) (by omega) (Nat.le_of_ble_eq_true rfl) rfl (fun v9 w9 hq9 => ?_)
          obtain ⟨w5, p5, o5, s5, l5, rfl, rfl, r_w5, r_p5, r_o5, r_s5, hz_31, hs2_31, hT2_31, ho2_31, hb_31, hl2_31⟩ := hq9
          refine g_ws hC [cO m0 10 [w_thrown, .ref m1, w_image, w_frame, w_hasImage, .int (iI ac), .int (iI p5), .int (iI e), .int (iI w5), .int (iI o5), w_by, w_truths, w_pulls, w_isKeeping, w_next, w_first, w_order, w_bestOrder, w_rooms, w_leastUnlike, w_bodies, w_ran, w_kind, w_number, w_tellsV], cA K m1 922 s5] rfl ?_
          refine g_st hC [] rfl ?_
          refine g_aload_n (pc := 34) hC 0 dX10_some_34 rfl rfl ?_
          refine g_bipush (pc := 35) hC (-3) dX10_some_35 (by decide) ?_
          refine g_callV (pc := 37) (qr := 0) hC [0, 1] (k_X10_emits _ _ _ _ _ _ _ _ _ _ _ _ _ _ _ _ _ _ _ _ _ _ _ _ _ _ _ _ _ _ _ (by first | assumption | omega) (by first | assumption | omega) (by first | assumption | omega) (by first | assumption | omega) (by first | assumption | omega) (by first | assumption | omega) (by first | assumption | omega) (by first | assumption | omega) (by first | assumption | omega) (by first | assumption | omega) (by first | assumption | omega)) cl_X10_emits wm_X10_94 dX10_some_37 rfl rfl rfl rfl rfl (by decide) (by decide) (by omega) (Nat.le_of_ble_eq_true rfl) rfl (fun v9 w9 hq9 => ?_)
          obtain ⟨s6, l6, rfl, rfl, r_s6, h4_37, hs2_37, hT2_37, hl2_37⟩ := hq9
          refine g_ws hC [cO m0 10 [w_thrown, .ref m1, w_image, w_frame, w_hasImage, .int (iI ac), .int (iI p5), .int (iI e), .int (iI w5), .int (iI o5), w_by, w_truths, w_pulls, w_isKeeping, w_next, w_first, w_order, w_bestOrder, w_rooms, w_leastUnlike, w_bodies, w_ran, w_kind, w_number, w_tellsV], cA K m1 922 s6] rfl ?_
          refine g_st hC [] rfl ?_
          refine g_goto (pc := 40) hC 4 dX10_some_40 (by decide) ?_
          exact ih4 w5 p5 o5 s6 l6 g9 (by first | assumption | omega) (by first | assumption | omega) (by first | assumption | omega) (by first | assumption | omega) (by first | assumption | omega) (by first | assumption | omega) (px_so_s hz (by omega) (by omega) hz_31 h4_37) (by first | assumption | omega) (by first | assumption | omega) (by first | assumption | omega) (by first | assumption | omega) (by omega)
  exact L4 ((e - p3 : Int).toNat + 1) w3 p3 o3 s3 l3 101 (by first | assumption | omega) (by first | assumption | omega) (by first | assumption | omega) (by first | assumption | omega) (by first | assumption | omega) (by first | assumption | omega) (by unfold px_some; rw [← hz_1]) (by first | assumption | omega) (by first | assumption | omega) (by first | assumption | omega) (by first | assumption | omega) (by omega)
set_option maxHeartbeats 4000000 in
set_option maxRecDepth 100000 in
theorem k_X10_much {K : gK} (m0 : Nat) (m1 : Nat) (w_thrown : Value) (w_image : Value) (w_frame : Value) (w_hasImage : Value) (w_by : Value) (w_truths : Value) (w_pulls : Value) (w_isKeeping : Value) (w_next : Value) (w_first : Value) (w_order : Value) (w_bestOrder : Value) (w_rooms : Value) (w_leastUnlike : Value) (w_bodies : Value) (w_ran : Value) (w_kind : Value) (w_number : Value) (w_tellsV : Value) (kd : Int) (ac : Int) (p : Int) (e : Int) (w : Int) (o : Int) (s : Int → Int) (T : Int → Int) (s0 : Int → Int) (l : List Int) (k : Nat) (r_kd : rI kd) (r_ac : rI ac) (r_p : rI p) (r_e : rI e) (r_w : rI w) (r_o : rI o) (r_s : ∀ j, rI (s j)) (hT : md_T T e s) (hs : s = px_row s0 ac l) (hac : 0 ≤ ac ∧ ac ≤ 4) (hp : 0 ≤ p ∧ p ≤ e) (hw : w = 0 ∨ w = 1) (ho : w = 0 → o = 0) (hl : (l.length : Int) ≤ p) (hk : k < 7) (hkd : -200 ≤ kd ∧ kd ≤ -10) : gMet K yX10_much cX10_much 4 none 24 0 0 [.ref m0, .int (iI kd), .ref (K.2.2.1 k)] [cO m0 10 [w_thrown, .ref m1, w_image, w_frame, w_hasImage, .int (iI ac), .int (iI p), .int (iI e), .int (iI w), .int (iI o), w_by, w_truths, w_pulls, w_isKeeping, w_next, w_first, w_order, w_bestOrder, w_rooms, w_leastUnlike, w_bodies, w_ran, w_kind, w_number, w_tellsV], cA K m1 922 s] (fun v9 w9 => ∃ (w2 : Int), ∃ (p2 : Int), ∃ (o2 : Int), ∃ (s2 : Int → Int), ∃ (l2 : List Int), v9 = none ∧ w9 = [cO m0 10 [w_thrown, .ref m1, w_image, w_frame, w_hasImage, .int (iI ac), .int (iI p2), .int (iI e), .int (iI w2), .int (iI o2), w_by, w_truths, w_pulls, w_isKeeping, w_next, w_first, w_order, w_bestOrder, w_rooms, w_leastUnlike, w_bodies, w_ran, w_kind, w_number, w_tellsV], cA K m1 922 s2] ∧ rI w2 ∧ rI p2 ∧ rI o2 ∧ (∀ j, rI (s2 j)) ∧ ((w2, p2, l2) = px_much T kd k (w, p, l)) ∧ (s2 = px_row s0 ac l2) ∧ (md_T T e s2) ∧ (o2 = o ∧ (w2 = 0 → o = 0 ∧ w = 0)) ∧ ((w2 = 0 ∨ w2 = 1) ∧ p ≤ p2 ∧ p2 ≤ e) ∧ ((l2.length : Int) + p ≤ (l.length : Int) + p2)) := by
  refine g_enter (by decide +kernel) (Nat.le_of_ble_eq_true rfl) (fun G hC hR => ?_)
  refine g_lv hC [0, 1, 2] [(0, _), (1, _), (2, _)] rfl ?_
  have hge := hT.1
  have hsl := sl_rng hk
  refine g_aload_n (pc := 0) hC 0 dX10_much_0 rfl rfl ?_
  refine g_aload_n (pc := 1) hC 2 dX10_much_1 rfl rfl ?_
  refine g_callV (pc := 2) (qr := 0) hC [0, 1] (k_X10_spells _ _ _ _ _ _ _ _ _ _ _ _ _ _ _ _ _ _ _ _ _ _ _ _ _ _ _ _ _ (by first | assumption | omega) (by first | assumption | omega) (by first | assumption | omega) (by first | assumption | omega) (by first | assumption | omega) (by first | assumption | omega) (by first | assumption | omega) (by first | assumption | omega) (by first | assumption | omega) (by first | assumption | omega)) cl_X10_spells wm_X10_114 dX10_much_2 rfl rfl rfl rfl rfl (by decide) (by decide) (by omega) (Nat.le_of_ble_eq_true rfl) rfl (fun v9 w9 hq9 => ?_)
  obtain ⟨w1, p1, rfl, rfl, r_w1, r_p1, hz_2, hb_2, hw0_2⟩ := hq9
  refine g_ws hC [cO m0 10 [w_thrown, .ref m1, w_image, w_frame, w_hasImage, .int (iI ac), .int (iI p1), .int (iI e), .int (iI w1), .int (iI o), w_by, w_truths, w_pulls, w_isKeeping, w_next, w_first, w_order, w_bestOrder, w_rooms, w_leastUnlike, w_bodies, w_ran, w_kind, w_number, w_tellsV], cA K m1 922 s] rfl ?_
  refine g_st hC [] rfl ?_
  refine g_aload_n (pc := 5) hC 0 dX10_much_5 rfl rfl ?_
  refine g_callV (pc := 6) (qr := 0) hC [0, 1] (k_X10_figures _ _ _ _ _ _ _ _ _ _ _ _ _ _ _ _ _ _ _ _ _ _ _ _ _ _ _ _ (by first | assumption | omega) (by first | assumption | omega) (by first | assumption | omega) (by first | assumption | omega) (by first | assumption | omega) (by first | assumption | omega) (by first | assumption | omega) (by first | assumption | omega) (by first | assumption | omega)) cl_X10_figures wm_X10_108 dX10_much_6 rfl rfl rfl rfl rfl (by decide) (by decide) (by omega) (Nat.le_of_ble_eq_true rfl) rfl (fun v9 w9 hq9 => ?_)
  obtain ⟨w3, p3, v3, rfl, rfl, r_w3, r_p3, r_v3, hz_6, hb_6, hv_6, hw0_6⟩ := hq9
  refine g_ws hC [cO m0 10 [w_thrown, .ref m1, w_image, w_frame, w_hasImage, .int (iI ac), .int (iI p3), .int (iI e), .int (iI w3), .int (iI o), w_by, w_truths, w_pulls, w_isKeeping, w_next, w_first, w_order, w_bestOrder, w_rooms, w_leastUnlike, w_bodies, w_ran, w_kind, w_number, w_tellsV], cA K m1 922 s] rfl ?_
  refine g_st hC [.int (iI v3)] rfl ?_
  refine g_istore_n (pc := 9) hC [(3, _), (0, _), (1, _), (2, _)] dX10_much_9 rfl (by decide) rfl ?_
  refine g_aload_n (pc := 10) hC 1 dX10_much_10 rfl rfl ?_
  refine g_bipush (pc := 11) hC (32) dX10_much_11 (by decide) ?_
  refine g_callV (pc := 13) (qr := 0) hC [0, 1] (k_X10_must _ _ _ _ _ _ _ _ _ _ _ _ _ _ _ _ _ _ _ _ _ _ _ _ _ _ _ _ _ (by first | assumption | omega) (by first | assumption | omega) (by first | assumption | omega) (by first | assumption | omega) (by first | assumption | omega) (by first | assumption | omega) (by first | assumption | omega) (by first | assumption | omega) (by first | assumption | omega) (by first | assumption | omega) (by first | assumption | omega)) cl_X10_must wm_X10_81 dX10_much_13 rfl rfl rfl rfl rfl (by decide) (by decide) (by omega) (Nat.le_of_ble_eq_true rfl) rfl (fun v9 w9 hq9 => ?_)
  obtain ⟨w4, p4, rfl, rfl, r_w4, r_p4, hz_13, hb_13, hw0_13⟩ := hq9
  refine g_ws hC [cO m0 10 [w_thrown, .ref m1, w_image, w_frame, w_hasImage, .int (iI ac), .int (iI p4), .int (iI e), .int (iI w4), .int (iI o), w_by, w_truths, w_pulls, w_isKeeping, w_next, w_first, w_order, w_bestOrder, w_rooms, w_leastUnlike, w_bodies, w_ran, w_kind, w_number, w_tellsV], cA K m1 922 s] rfl ?_
  refine g_st hC [] rfl ?_
  refine g_aload_n (pc := 16) hC 1 dX10_much_16 rfl rfl ?_
  refine g_callV (pc := 17) (qr := 0) hC [0, 1] (k_X10_some_5 _ _ _ _ _ _ _ _ _ _ _ _ _ _ _ _ _ _ _ _ _ _ _ _ _ _ _ _ _ _ (by first | assumption | omega) (by first | assumption | omega) (by first | assumption | omega) (by first | assumption | omega) (by first | assumption | omega) (by first | assumption | omega) (by first | assumption | omega) (by first | assumption | omega) (by first | assumption | omega) (by first | assumption | omega) (by first | assumption | omega) (by first | assumption | omega) (by first | assumption | omega)) cl_X10_some wm_X10_97 dX10_much_17 rfl rfl rfl rfl rfl (by decide) (by decide) (by omega) (Nat.le_of_ble_eq_true rfl) rfl (fun v9 w9 hq9 => ?_)
  obtain ⟨w5, p5, o5, s5, l5, rfl, rfl, r_w5, r_p5, r_o5, r_s5, hz_17, hs2_17, hT2_17, ho2_17, hb_17, hl2_17⟩ := hq9
  refine g_ws hC [cO m0 10 [w_thrown, .ref m1, w_image, w_frame, w_hasImage, .int (iI ac), .int (iI p5), .int (iI e), .int (iI w5), .int (iI o5), w_by, w_truths, w_pulls, w_isKeeping, w_next, w_first, w_order, w_bestOrder, w_rooms, w_leastUnlike, w_bodies, w_ran, w_kind, w_number, w_tellsV], cA K m1 922 s5] rfl ?_
  refine g_st hC [] rfl ?_
  refine g_aload_n (pc := 20) hC 1 dX10_much_20 rfl rfl ?_
  refine g_iload_n (pc := 21) hC 2 dX10_much_21 rfl rfl ?_
  refine g_iload_n (pc := 22) hC 0 dX10_much_22 rfl rfl ?_
  refine g_isub (pc := 23) hC dX10_much_23 ?_
  refine g_callV (pc := 24) (qr := 0) hC [0, 1] (k_X10_emits _ _ _ _ _ _ _ _ _ _ _ _ _ _ _ _ _ _ _ _ _ _ _ _ _ _ _ _ _ _ _ (by first | assumption | omega) (by first | assumption | omega) (by first | assumption | omega) (by first | assumption | omega) (by first | assumption | omega) (by first | assumption | omega) (by first | assumption | omega) (by first | assumption | omega) (by first | assumption | omega) (by first | assumption | omega) (by first | assumption | omega)) cl_X10_emits wm_X10_94 dX10_much_24 rfl rfl rfl rfl rfl (by decide) (by decide) (by omega) (Nat.le_of_ble_eq_true rfl) rfl (fun v9 w9 hq9 => ?_)
  obtain ⟨s6, l6, rfl, rfl, r_s6, h4_24, hs2_24, hT2_24, hl2_24⟩ := hq9
  refine g_ws hC [cO m0 10 [w_thrown, .ref m1, w_image, w_frame, w_hasImage, .int (iI ac), .int (iI p5), .int (iI e), .int (iI w5), .int (iI o5), w_by, w_truths, w_pulls, w_isKeeping, w_next, w_first, w_order, w_bestOrder, w_rooms, w_leastUnlike, w_bodies, w_ran, w_kind, w_number, w_tellsV], cA K m1 922 s6] rfl ?_
  refine g_st hC [] rfl ?_
  exact g_vret (pc := 27) hR dX10_much_27 rfl ⟨by omega, by omega⟩ (Nat.le_of_ble_eq_true rfl) ⟨w5, p5, o5, s6, l6, rfl, rfl, (by first | assumption | omega), (by first | assumption | omega), (by first | assumption | omega), (by first | assumption | omega), (px_much_is hz_2 hz_6 hz_13 hz_17 h4_24), (by first | assumption | omega), (by first | assumption | omega), (by first | assumption | omega), (by first | assumption | omega), (by first | assumption | omega)⟩
set_option maxHeartbeats 4000000 in
set_option maxRecDepth 100000 in
theorem k_X10_tellsHere {K : gK} (m0 : Nat) (m1 : Nat) (w_thrown : Value) (w_image : Value) (w_frame : Value) (w_hasImage : Value) (w_by : Value) (w_truths : Value) (w_pulls : Value) (w_isKeeping : Value) (w_next : Value) (w_first : Value) (w_order : Value) (w_bestOrder : Value) (w_rooms : Value) (w_leastUnlike : Value) (w_bodies : Value) (w_ran : Value) (w_kind : Value) (w_number : Value) (w_tellsV : Value) (ac : Int) (p : Int) (e : Int) (w : Int) (o : Int) (s : Int → Int) (T : Int → Int) (k : Nat) (r_ac : rI ac) (r_p : rI p) (r_e : rI e) (r_w : rI w) (r_o : rI o) (r_s : ∀ j, rI (s j)) (hT : md_T T e s) (hac : 0 ≤ ac ∧ ac ≤ 4) (hp : 0 ≤ p ∧ p ≤ e) (hw : w = 0 ∨ w = 1) (hk : k < 7) : gMet K yX10_tellsHere cX10_tellsHere 4 none 5 0 0 [.ref m0, .int (iI 212), .ref (K.2.2.1 k)] [cO m0 10 [w_thrown, .ref m1, w_image, w_frame, w_hasImage, .int (iI ac), .int (iI p), .int (iI e), .int (iI w), .int (iI o), w_by, w_truths, w_pulls, w_isKeeping, w_next, w_first, w_order, w_bestOrder, w_rooms, w_leastUnlike, w_bodies, w_ran, w_kind, w_number, w_tellsV], cA K m1 922 s] (fun v9 w9 => ∃ (w2 : Int), ∃ (p2 : Int), ∃ (s2 : Int → Int), ∃ (v : Int), v9 = none ∧ w9 = [cO m0 10 [w_thrown, .ref m1, w_image, w_frame, w_hasImage, .int (iI ac), .int (iI p2), .int (iI e), .int (iI w2), .int (iI o), w_by, w_truths, w_pulls, w_isKeeping, w_next, w_first, w_order, w_bestOrder, w_rooms, w_leastUnlike, w_bodies, w_ran, w_kind, w_number, w_tellsV], cA K m1 922 s2] ∧ rI w2 ∧ rI p2 ∧ (∀ j, rI (s2 j)) ∧ rI v ∧ ((w2, p2, v) = px_tell T k w p) ∧ (s2 = if w2 = 0 then upI s (212 + ac) v else s) ∧ ((w2 = 0 ∨ w2 = 1) ∧ p ≤ p2 ∧ p2 ≤ e) ∧ (0 ≤ v ∧ v ≤ 99) ∧ (w2 = 0 → w = 0 ∧ p < p2)) := by
  refine g_enter (by decide +kernel) (Nat.le_of_ble_eq_true rfl) (fun G hC hR => ?_)
  refine g_lv hC [0, 1, 2] [(0, _), (1, _), (2, _)] rfl ?_
  have hge := hT.1
  have hsl := sl_rng hk
  refine g_aload_n (pc := 0) hC 0 dX10_tellsHere_0 rfl rfl ?_
  refine g_aload_n (pc := 1) hC 2 dX10_tellsHere_1 rfl rfl ?_
  refine g_callV (pc := 2) (qr := 0) hC [0, 1] (k_X10_spells _ _ _ _ _ _ _ _ _ _ _ _ _ _ _ _ _ _ _ _ _ _ _ _ _ _ _ _ _ (by first | assumption | omega) (by first | assumption | omega) (by first | assumption | omega) (by first | assumption | omega) (by first | assumption | omega) (by first | assumption | omega) (by first | assumption | omega) (by first | assumption | omega) (by first | assumption | omega) (by first | assumption | omega)) cl_X10_spells wm_X10_114 dX10_tellsHere_2 rfl rfl rfl rfl rfl (by decide) (by decide) (by omega) (Nat.le_of_ble_eq_true rfl) rfl (fun v9 w9 hq9 => ?_)
  obtain ⟨w1, p1, rfl, rfl, r_w1, r_p1, hz_2, hb_2, hw0_2⟩ := hq9
  refine g_ws hC [cO m0 10 [w_thrown, .ref m1, w_image, w_frame, w_hasImage, .int (iI ac), .int (iI p1), .int (iI e), .int (iI w1), .int (iI o), w_by, w_truths, w_pulls, w_isKeeping, w_next, w_first, w_order, w_bestOrder, w_rooms, w_leastUnlike, w_bodies, w_ran, w_kind, w_number, w_tellsV], cA K m1 922 s] rfl ?_
  refine g_st hC [] rfl ?_
  refine g_aload_n (pc := 5) hC 0 dX10_tellsHere_5 rfl rfl ?_
  refine g_callV (pc := 6) (qr := 0) hC [0, 1] (k_X10_figures _ _ _ _ _ _ _ _ _ _ _ _ _ _ _ _ _ _ _ _ _ _ _ _ _ _ _ _ (by first | assumption | omega) (by first | assumption | omega) (by first | assumption | omega) (by first | assumption | omega) (by first | assumption | omega) (by first | assumption | omega) (by first | assumption | omega) (by first | assumption | omega) (by first | assumption | omega)) cl_X10_figures wm_X10_108 dX10_tellsHere_6 rfl rfl rfl rfl rfl (by decide) (by decide) (by omega) (Nat.le_of_ble_eq_true rfl) rfl (fun v9 w9 hq9 => ?_)
  obtain ⟨w3, p3, v3, rfl, rfl, r_w3, r_p3, r_v3, hz_6, hb_6, hv_6, hw0_6⟩ := hq9
  refine g_ws hC [cO m0 10 [w_thrown, .ref m1, w_image, w_frame, w_hasImage, .int (iI ac), .int (iI p3), .int (iI e), .int (iI w3), .int (iI o), w_by, w_truths, w_pulls, w_isKeeping, w_next, w_first, w_order, w_bestOrder, w_rooms, w_leastUnlike, w_bodies, w_ran, w_kind, w_number, w_tellsV], cA K m1 922 s] rfl ?_
  refine g_st hC [.int (iI v3)] rfl ?_
  refine g_istore_n (pc := 9) hC [(3, _), (0, _), (1, _), (2, _)] dX10_tellsHere_9 rfl (by decide) rfl ?_
  refine g_aload_n (pc := 10) hC 1 dX10_tellsHere_10 rfl rfl ?_
  refine g_get (pc := 11) hC 0 fl_X10_64 dX10_tellsHere_11 rfl rfl ?_
  refine g_if_ne (pc := 14) hC 29 dX10_tellsHere_14 (by decide) (by omega) (fun c14 => ?_) (fun c14 => ?_)
  · exact g_vret (pc := 29) hR dX10_tellsHere_29 rfl ⟨by omega, by omega⟩ (Nat.le_of_ble_eq_true rfl) ⟨w3, p3, s, v3, rfl, rfl, (by first | assumption | omega), (by first | assumption | omega), (by first | assumption | omega), (by first | assumption | omega), (px_tell_is hz_2 hz_6), (by rw [if_neg c14]), (by first | assumption | omega), (by first | assumption | omega), (by first | assumption | omega)⟩
  · refine g_aload_n (pc := 17) hC 1 dX10_tellsHere_17 rfl rfl ?_
    refine g_get (pc := 18) hC 0 fl_X10_9 dX10_tellsHere_18 rfl rfl ?_
    refine g_iload_n (pc := 21) hC 2 dX10_tellsHere_21 rfl rfl ?_
    refine g_aload_n (pc := 22) hC 1 dX10_tellsHere_22 rfl rfl ?_
    refine g_get (pc := 23) hC 0 fl_X10_85 dX10_tellsHere_23 rfl rfl ?_
    refine g_iadd (pc := 26) hC dX10_tellsHere_26 ?_
    refine g_iload_n (pc := 27) hC 0 dX10_tellsHere_27 rfl rfl ?_
    refine g_iast (pc := 28) hC 1 (fun f9 => [_, cA K _ _ f9]) dX10_tellsHere_28 rfl (by omega) (fun _ => rfl) (fun s3 e_s3 => ?_)
    have r_s3 := rng_up e_s3 r_s (by omega)
    exact g_vret (pc := 29) hR dX10_tellsHere_29 rfl ⟨by omega, by omega⟩ (Nat.le_of_ble_eq_true rfl) ⟨w3, p3, s3, v3, rfl, rfl, (by first | assumption | omega), (by first | assumption | omega), (by first | assumption | omega), (by first | assumption | omega), (px_tell_is hz_2 hz_6), (by rw [if_pos (by omega), e_s3]), (by first | assumption | omega), (by first | assumption | omega), (by first | assumption | omega)⟩
set_option maxHeartbeats 4000000 in
set_option maxRecDepth 100000 in
theorem k_X10_clauseHere {K : gK} (m0 : Nat) (m1 : Nat) (w_thrown : Value) (w_image : Value) (w_frame : Value) (w_hasImage : Value) (w_by : Value) (w_truths : Value) (w_pulls : Value) (w_isKeeping : Value) (w_next : Value) (w_first : Value) (w_order : Value) (w_bestOrder : Value) (w_rooms : Value) (w_leastUnlike : Value) (w_bodies : Value) (w_ran : Value) (w_kind : Value) (w_number : Value) (w_tellsV : Value) (ac : Int) (p : Int) (e : Int) (w : Int) (o : Int) (s : Int → Int) (T : Int → Int) (s0 : Int → Int) (l : List Int) (rc : Int) (r_ac : rI ac) (r_p : rI p) (r_e : rI e) (r_w : rI w) (r_o : rI o) (r_s : ∀ j, rI (s j)) (hT : md_T T e s) (hs : s = px_row (upI s0 (212 + ac) rc) ac l) (hac : 0 ≤ ac ∧ ac ≤ 4) (hp : 0 ≤ p ∧ p ≤ e) (hw : w = 0) (ho : w = 0 → o = 0) (hl : (l.length : Int) ≤ p) (hrc : 0 ≤ rc ∧ rc ≤ 99) : gMet K yX10_clauseHere cX10_clauseHere 1 none 25 0 0 [.ref m0] [cO m0 10 [w_thrown, .ref m1, w_image, w_frame, w_hasImage, .int (iI ac), .int (iI p), .int (iI e), .int (iI w), .int (iI o), w_by, w_truths, w_pulls, w_isKeeping, w_next, w_first, w_order, w_bestOrder, w_rooms, w_leastUnlike, w_bodies, w_ran, w_kind, w_number, w_tellsV], cA K m1 922 s] (fun v9 w9 => ∃ (w2 : Int), ∃ (p2 : Int), ∃ (o2 : Int), ∃ (s2 : Int → Int), ∃ (l2 : List Int), ∃ (rc2 : Int), v9 = none ∧ w9 = [cO m0 10 [w_thrown, .ref m1, w_image, w_frame, w_hasImage, .int (iI ac), .int (iI p2), .int (iI e), .int (iI w2), .int (iI o2), w_by, w_truths, w_pulls, w_isKeeping, w_next, w_first, w_order, w_bestOrder, w_rooms, w_leastUnlike, w_bodies, w_ran, w_kind, w_number, w_tellsV], cA K m1 922 s2] ∧ rI w2 ∧ rI p2 ∧ rI o2 ∧ (∀ j, rI (s2 j)) ∧ rI rc2 ∧ ((w2, p2, l2, rc2) = px_cl T p l rc) ∧ (s2 = px_row (upI s0 (212 + ac) rc2) ac l2) ∧ (md_T T e s2) ∧ (o2 = o ∧ (w2 = 0 → o = 0 ∧ w = 0)) ∧ ((w2 = 0 ∨ w2 = 1) ∧ p ≤ p2 ∧ p2 ≤ e) ∧ ((l2.length : Int) + p ≤ (l.length : Int) + p2) ∧ (0 ≤ rc2 ∧ rc2 ≤ 99)) := by
  refine g_enter (by decide +kernel) (Nat.le_of_ble_eq_true rfl) (fun G hC hR => ?_)
  refine g_lv hC [0] [(0, _)] rfl ?_
  have hge := hT.1
  refine g_aload_n (pc := 0) hC 0 dX10_clauseHere_0 rfl rfl ?_
  refine g_fnV (pc := 1) (qr := 0) hC [0, 1] (k_X10_here _ _ _ _ _ _ _ _ _ _ _ _ _ _ _ _ _ _ _ _ _ _ _ _ _ _ _ _ (by first | assumption | omega) (by first | assumption | omega) (by first | assumption | omega) (by first | assumption | omega) (by first | assumption | omega) (by first | assumption | omega) (by first | assumption | omega) (by first | assumption | omega)) cl_X10_here wm_X10_68 dX10_clauseHere_1 rfl rfl rfl rfl rfl (by decide) (by decide) ⟨by omega, by omega⟩ (Nat.le_of_ble_eq_true rfl) rfl rfl ?_
  refine g_name hC (fun x1 e_x1 => ?_)
  have q_x1 : -1 ≤ x1 ∧ x1 ≤ 127 := by rw [e_x1]; exact hT.2.2.1 _
  by_cases k4_104 : x1 = 104
  · refine g_lsw (pc := 4) hC 52 dX10_clauseHere_4 (by decide) (by omega) (off := 48) (by rw [k4_104]; decide) (by decide) ?_
    refine g_aload_n (pc := 52) hC 0 dX10_clauseHere_52 rfl rfl ?_
    refine g_bipush (pc := 53) hC (-10) dX10_clauseHere_53 (by decide) ?_
    refine g_ldcS_X10_124 (pc := 55) hC rfl dX10_clauseHere_55 ?_
    refine g_callV (pc := 57) (qr := 0) hC [0, 1] (k_X10_much _ _ _ _ _ _ _ _ _ _ _ _ _ _ _ _ _ _ _ _ _ _ _ _ _ _ _ _ _ _ _ _ (by first | assumption | omega) (by first | assumption | omega) (by first | assumption | omega) (by first | assumption | omega) (by first | assumption | omega) (by first | assumption | omega) (by first | assumption | omega) (by first | assumption | omega) (by first | assumption | omega) (by first | assumption | omega) (by first | assumption | omega) (by first | assumption | omega) (by first | assumption | omega) (by first | assumption | omega) (by first | assumption | omega) (by first | assumption | omega)) cl_X10_much wm_X10_126 dX10_clauseHere_57 rfl rfl rfl rfl rfl (by decide) (by decide) (by omega) (Nat.le_of_ble_eq_true rfl) rfl (fun v9 w9 hq9 => ?_)
    obtain ⟨w3, p3, o3, s3, l3, rfl, rfl, r_w3, r_p3, r_o3, r_s3, hz_57, hs2_57, hT2_57, ho2_57, hb_57, hl2_57⟩ := hq9
    refine g_ws hC [cO m0 10 [w_thrown, .ref m1, w_image, w_frame, w_hasImage, .int (iI ac), .int (iI p3), .int (iI e), .int (iI w3), .int (iI o3), w_by, w_truths, w_pulls, w_isKeeping, w_next, w_first, w_order, w_bestOrder, w_rooms, w_leastUnlike, w_bodies, w_ran, w_kind, w_number, w_tellsV], cA K m1 922 s3] rfl ?_
    refine g_st hC [] rfl ?_
    refine g_goto (pc := 60) hC 80 dX10_clauseHere_60 (by decide) ?_
    exact g_vret (pc := 80) hR dX10_clauseHere_80 rfl ⟨by omega, by omega⟩ (Nat.le_of_ble_eq_true rfl) ⟨w3, p3, o3, s3, l3, rc, rfl, rfl, (by first | assumption | omega), (by first | assumption | omega), (by first | assumption | omega), (by first | assumption | omega), (by first | assumption | omega), (px_cl_h hw (by omega) hz_57), hs2_57, hT2_57, (by first | assumption | omega), (by first | assumption | omega), (by first | assumption | omega), hrc⟩
  by_cases k4_114 : x1 = 114
  · refine g_lsw (pc := 4) hC 40 dX10_clauseHere_4 (by decide) (by omega) (off := 36) (by rw [k4_114]; decide) (by decide) ?_
    refine g_aload_n (pc := 40) hC 0 dX10_clauseHere_40 rfl rfl ?_
    refine g_sipush (pc := 41) hC (212) dX10_clauseHere_41 (by decide) ?_
    refine g_ldcS_X10_118 (pc := 44) hC rfl dX10_clauseHere_44 ?_
    refine g_callV (pc := 46) (qr := 0) hC [0, 1] (k_X10_tellsHere _ _ _ _ _ _ _ _ _ _ _ _ _ _ _ _ _ _ _ _ _ _ _ _ _ _ _ _ _ (by first | assumption | omega) (by first | assumption | omega) (by first | assumption | omega) (by first | assumption | omega) (by first | assumption | omega) (by first | assumption | omega) (by first | assumption | omega) (by first | assumption | omega) (by first | assumption | omega) (by first | assumption | omega) (by first | assumption | omega)) cl_X10_tellsHere wm_X10_120 dX10_clauseHere_46 rfl rfl rfl rfl rfl (by decide) (by decide) (by omega) (Nat.le_of_ble_eq_true rfl) rfl (fun v9 w9 hq9 => ?_)
    obtain ⟨w3, p3, s3, v3, rfl, rfl, r_w3, r_p3, r_s3, r_v3, hz_46, hs2_46, hb_46, hv_46, hw0_46⟩ := hq9
    refine g_ws hC [cO m0 10 [w_thrown, .ref m1, w_image, w_frame, w_hasImage, .int (iI ac), .int (iI p3), .int (iI e), .int (iI w3), .int (iI o), w_by, w_truths, w_pulls, w_isKeeping, w_next, w_first, w_order, w_bestOrder, w_rooms, w_leastUnlike, w_bodies, w_ran, w_kind, w_number, w_tellsV], cA K m1 922 s3] rfl ?_
    refine g_st hC [] rfl ?_
    refine g_goto (pc := 49) hC 80 dX10_clauseHere_49 (by decide) ?_
    exact g_vret (pc := 80) hR dX10_clauseHere_80 rfl ⟨by omega, by omega⟩ (Nat.le_of_ble_eq_true rfl) ⟨w3, p3, o, s3, l, (if w3 = 0 then v3 else rc), rfl, rfl, (by first | assumption | omega), (by first | assumption | omega), (by first | assumption | omega), (by first | assumption | omega), (by first | assumption | omega), (px_cl_r hw (by omega) hz_46 rfl), (px_row_rc2 hac hs hs2_46), (px_T2 (fun q h1 h2 => by rw [hs2_46]; (by_cases h9 : w3 = 0) <;> (first | (rw [if_pos h9]; exact upI_ne (by omega)) | rw [if_neg h9])) hT), (by first | assumption | omega), (by first | assumption | omega), (by first | assumption | omega), (by omega)⟩
  by_cases k4_115 : x1 = 115
  · refine g_lsw (pc := 4) hC 63 dX10_clauseHere_4 (by decide) (by omega) (off := 59) (by rw [k4_115]; decide) (by decide) ?_
    refine g_aload_n (pc := 63) hC 0 dX10_clauseHere_63 rfl rfl ?_
    refine g_sipush (pc := 64) hC (-200) dX10_clauseHere_64 (by decide) ?_
    refine g_ldcS_X10_129 (pc := 67) hC rfl dX10_clauseHere_67 ?_
    refine g_callV (pc := 69) (qr := 0) hC [0, 1] (k_X10_much _ _ _ _ _ _ _ _ _ _ _ _ _ _ _ _ _ _ _ _ _ _ _ _ _ _ _ _ _ _ _ _ (by first | assumption | omega) (by first | assumption | omega) (by first | assumption | omega) (by first | assumption | omega) (by first | assumption | omega) (by first | assumption | omega) (by first | assumption | omega) (by first | assumption | omega) (by first | assumption | omega) (by first | assumption | omega) (by first | assumption | omega) (by first | assumption | omega) (by first | assumption | omega) (by first | assumption | omega) (by first | assumption | omega) (by first | assumption | omega)) cl_X10_much wm_X10_126 dX10_clauseHere_69 rfl rfl rfl rfl rfl (by decide) (by decide) (by omega) (Nat.le_of_ble_eq_true rfl) rfl (fun v9 w9 hq9 => ?_)
    obtain ⟨w3, p3, o3, s3, l3, rfl, rfl, r_w3, r_p3, r_o3, r_s3, hz_69, hs2_69, hT2_69, ho2_69, hb_69, hl2_69⟩ := hq9
    refine g_ws hC [cO m0 10 [w_thrown, .ref m1, w_image, w_frame, w_hasImage, .int (iI ac), .int (iI p3), .int (iI e), .int (iI w3), .int (iI o3), w_by, w_truths, w_pulls, w_isKeeping, w_next, w_first, w_order, w_bestOrder, w_rooms, w_leastUnlike, w_bodies, w_ran, w_kind, w_number, w_tellsV], cA K m1 922 s3] rfl ?_
    refine g_st hC [] rfl ?_
    refine g_goto (pc := 72) hC 80 dX10_clauseHere_72 (by decide) ?_
    exact g_vret (pc := 80) hR dX10_clauseHere_80 rfl ⟨by omega, by omega⟩ (Nat.le_of_ble_eq_true rfl) ⟨w3, p3, o3, s3, l3, rc, rfl, rfl, (by first | assumption | omega), (by first | assumption | omega), (by first | assumption | omega), (by first | assumption | omega), (by first | assumption | omega), (px_cl_s hw (by omega) hz_69), hs2_69, hT2_69, (by first | assumption | omega), (by first | assumption | omega), (by first | assumption | omega), hrc⟩
  refine g_lsw (pc := 4) hC 75 dX10_clauseHere_4 (by decide) (by omega) (off := 71) (by simp only [Op.lookupswitch.offset_cons, if_neg (Ne.symm k4_104), if_neg (Ne.symm k4_114), if_neg (Ne.symm k4_115)]; rfl) (by decide) ?_
  refine g_aload_n (pc := 75) hC 0 dX10_clauseHere_75 rfl rfl ?_
  refine g_iconst (pc := 76) hC dX10_clauseHere_76 ?_
  refine g_putZ (pc := 77) hC 0 [cO _ _ [_, _, _, _, _, _, _, _, _, _, _, _, _, _, _, _, _, _, _, _, _, _, _, _, _], _] fl_X10_64 dX10_clauseHere_77 rfl (Nat.le_of_ble_eq_true rfl) (by omega) rfl ?_
  exact g_vret (pc := 80) hR dX10_clauseHere_80 rfl ⟨by omega, by omega⟩ (Nat.le_of_ble_eq_true rfl) ⟨1, p, o, s, l, rc, rfl, rfl, (by first | assumption | omega), (by first | assumption | omega), (by first | assumption | omega), (by first | assumption | omega), (by first | assumption | omega), (px_cl_no (by omega) (by omega) (by omega)), hs, hT, (by first | assumption | omega), (by first | assumption | omega), (by first | assumption | omega), hrc⟩
set_option maxHeartbeats 4000000 in
set_option maxRecDepth 100000 in
theorem k_X10_house {K : gK} (m0 : Nat) (m1 : Nat) (w_thrown : Value) (w_image : Value) (w_frame : Value) (w_hasImage : Value) (w_by : Value) (w_truths : Value) (w_pulls : Value) (w_isKeeping : Value) (w_next : Value) (w_first : Value) (w_order : Value) (w_bestOrder : Value) (w_rooms : Value) (w_leastUnlike : Value) (w_bodies : Value) (w_ran : Value) (w_kind : Value) (w_number : Value) (w_tellsV : Value) (ac : Int) (p : Int) (e : Int) (w : Int) (o : Int) (s : Int → Int) (r_ac : rI ac) (r_p : rI p) (r_e : rI e) (r_w : rI w) (r_o : rI o) (r_s : ∀ j, rI (s j)) (hw : w = 0 ∨ w = 1) (h20 : 0 ≤ s 20 ∧ s 20 ≤ 5) (h24 : 0 ≤ s 24 ∧ s 24 ≤ 100) (htp : ∀ q, 0 ≤ q → q < 100 → 0 ≤ s (112 + q) ∧ s (112 + q) ≤ 127) : gMet K yX10_house cX10_house 2 (some .int) 26 0 0 [.ref m0] [cO m0 10 [w_thrown, .ref m1, w_image, w_frame, w_hasImage, .int (iI ac), .int (iI p), .int (iI e), .int (iI w), .int (iI o), w_by, w_truths, w_pulls, w_isKeeping, w_next, w_first, w_order, w_bestOrder, w_rooms, w_leastUnlike, w_bodies, w_ran, w_kind, w_number, w_tellsV], cA K m1 922 s] (fun v9 w9 => ∃ (ac2 : Int), ∃ (p2 : Int), ∃ (e2 : Int), ∃ (w2 : Int), ∃ (o2 : Int), ∃ (s2 : Int → Int), v9 = some (.int (iI (an_house s))) ∧ w9 = [cO m0 10 [w_thrown, .ref m1, w_image, w_frame, w_hasImage, .int (iI ac2), .int (iI p2), .int (iI e2), .int (iI w2), .int (iI o2), w_by, w_truths, w_pulls, w_isKeeping, w_next, w_first, w_order, w_bestOrder, w_rooms, w_leastUnlike, w_bodies, w_ran, w_kind, w_number, w_tellsV], cA K m1 922 s2] ∧ rI ac2 ∧ rI p2 ∧ rI e2 ∧ rI w2 ∧ rI o2 ∧ (∀ j, rI (s2 j)) ∧ (s2 = ne_house s) ∧ (w2 = 0 ∨ w2 = 1)) := by
  refine g_enter (by decide +kernel) (Nat.le_of_ble_eq_true rfl) (fun G hC hR => ?_)
  refine g_lv hC [0] [(0, _)] rfl ?_
  refine g_aload_n (pc := 0) hC 0 dX10_house_0 rfl rfl ?_
  refine g_get (pc := 1) hC 0 fl_X10_9 dX10_house_1 rfl rfl ?_
  refine g_bipush (pc := 4) hC (20) dX10_house_4 (by decide) ?_
  refine g_iald (pc := 6) hC 1 dX10_house_6 rfl (by omega) ?_
  have q1 := r_s 20
  refine g_iconst (pc := 7) hC dX10_house_7 ?_
  refine g_icmp_ne (pc := 8) hC 14 dX10_house_8 (by decide) (by omega) (by omega) (fun c8 => ?_) (fun c8 => ?_)
  · refine g_aload_n (pc := 14) hC 0 dX10_house_14 rfl rfl ?_
    refine g_aload_n (pc := 15) hC 0 dX10_house_15 rfl rfl ?_
    refine g_get (pc := 16) hC 0 fl_X10_9 dX10_house_16 rfl rfl ?_
    refine g_bipush (pc := 19) hC (20) dX10_house_19 (by decide) ?_
    refine g_iald (pc := 21) hC 1 dX10_house_21 rfl (by omega) ?_
    have q2 := r_s 20
    refine g_putI (pc := 22) hC 0 [cO _ _ [_, _, _, _, _, _, _, _, _, _, _, _, _, _, _, _, _, _, _, _, _, _, _, _, _], _] fl_X10_85 dX10_house_22 rfl (Nat.le_of_ble_eq_true rfl) rfl ?_
    refine g_aload_n (pc := 25) hC 0 dX10_house_25 rfl rfl ?_
    refine g_aload_n (pc := 26) hC 0 dX10_house_26 rfl rfl ?_
    refine g_get (pc := 27) hC 0 fl_X10_9 dX10_house_27 rfl rfl ?_
    refine g_bipush (pc := 30) hC (24) dX10_house_30 (by decide) ?_
    refine g_iald (pc := 32) hC 1 dX10_house_32 rfl (by omega) ?_
    have q3 := r_s 24
    refine g_putI (pc := 33) hC 0 [cO _ _ [_, _, _, _, _, _, _, _, _, _, _, _, _, _, _, _, _, _, _, _, _, _, _, _, _], _] fl_X10_61 dX10_house_33 rfl (Nat.le_of_ble_eq_true rfl) rfl ?_
    refine g_aload_n (pc := 36) hC 0 dX10_house_36 rfl rfl ?_
    refine g_get (pc := 37) hC 0 fl_X10_9 dX10_house_37 rfl rfl ?_
    refine g_bipush (pc := 40) hC (24) dX10_house_40 (by decide) ?_
    refine g_iconst (pc := 42) hC dX10_house_42 ?_
    refine g_iast (pc := 43) hC 1 (fun f9 => [_, cA K _ _ f9]) dX10_house_43 rfl (by omega) (fun _ => rfl) (fun f1 e_f1 => ?_)
    have r_f1 := rng_up e_f1 r_s (by omega)
    refine g_aload_n (pc := 44) hC 0 dX10_house_44 rfl rfl ?_
    refine g_get (pc := 45) hC 0 fl_X10_9 dX10_house_45 rfl rfl ?_
    refine g_sipush (pc := 48) hC (212) dX10_house_48 (by decide) ?_
    refine g_aload_n (pc := 51) hC 0 dX10_house_51 rfl rfl ?_
    refine g_get (pc := 52) hC 0 fl_X10_85 dX10_house_52 rfl rfl ?_
    refine g_iadd (pc := 55) hC dX10_house_55 ?_
    refine g_bipush (pc := 56) hC (9) dX10_house_56 (by decide) ?_
    refine g_iast (pc := 58) hC 1 (fun f9 => [_, cA K _ _ f9]) dX10_house_58 rfl (by omega) (fun _ => rfl) (fun f2 e_f2 => ?_)
    have r_f2 := rng_up e_f2 r_f1 (by omega)
    refine g_aload_n (pc := 59) hC 0 dX10_house_59 rfl rfl ?_
    refine g_get (pc := 60) hC 0 fl_X10_9 dX10_house_60 rfl rfl ?_
    refine g_sipush (pc := 63) hC (217) dX10_house_63 (by decide) ?_
    refine g_aload_n (pc := 66) hC 0 dX10_house_66 rfl rfl ?_
    refine g_get (pc := 67) hC 0 fl_X10_85 dX10_house_67 rfl rfl ?_
    refine g_iadd (pc := 70) hC dX10_house_70 ?_
    refine g_iconst (pc := 71) hC dX10_house_71 ?_
    refine g_iast (pc := 72) hC 1 (fun f9 => [_, cA K _ _ f9]) dX10_house_72 rfl (by omega) (fun _ => rfl) (fun f3 e_f3 => ?_)
    have r_f3 := rng_up e_f3 r_f2 (by omega)
    have hac : 0 ≤ s 20 ∧ s 20 ≤ 4 := by omega
    have hrow := px_row_00 hac rfl rfl e_f1 e_f2 e_f3
    have hT := md_tape_T (s := s) (f := f3) (ac := s 20) h24 htp (fun q h1 h2 => by rw [e_f3, upI_ne (by omega), e_f2, upI_ne (by omega), e_f1, upI_ne (by omega)])
    refine g_aload_n (pc := 73) hC 0 dX10_house_73 rfl rfl ?_
    refine g_iconst (pc := 74) hC dX10_house_74 ?_
    refine g_putI (pc := 75) hC 0 [cO _ _ [_, _, _, _, _, _, _, _, _, _, _, _, _, _, _, _, _, _, _, _, _, _, _, _, _], _] fl_X10_58 dX10_house_75 rfl (Nat.le_of_ble_eq_true rfl) rfl ?_
    refine g_aload_n (pc := 78) hC 0 dX10_house_78 rfl rfl ?_
    refine g_iconst (pc := 79) hC dX10_house_79 ?_
    refine g_putZ (pc := 80) hC 0 [cO _ _ [_, _, _, _, _, _, _, _, _, _, _, _, _, _, _, _, _, _, _, _, _, _, _, _, _], _] fl_X10_64 dX10_house_80 rfl (Nat.le_of_ble_eq_true rfl) (by omega) rfl ?_
    refine g_aload_n (pc := 83) hC 0 dX10_house_83 rfl rfl ?_
    refine g_iconst (pc := 84) hC dX10_house_84 ?_
    refine g_putI (pc := 85) hC 0 [cO _ _ [_, _, _, _, _, _, _, _, _, _, _, _, _, _, _, _, _, _, _, _, _, _, _, _, _], _] fl_X10_88 dX10_house_85 rfl (Nat.le_of_ble_eq_true rfl) rfl ?_
    refine g_iconst (pc := 88) hC dX10_house_88 ?_
    refine g_istore_n (pc := 89) hC [(1, _), (0, _)] dX10_house_89 rfl (by decide) rfl ?_
    refine g_aload_n (pc := 90) hC 1 dX10_house_90 rfl rfl ?_
    refine g_callV (pc := 91) (qr := 0) hC [0, 1] (k_X10_clauseHere _ _ _ _ _ _ _ _ _ _ _ _ _ _ _ _ _ _ _ _ _ _ _ _ _ _ _ _ _ _ _ (by first | assumption | omega) (by first | assumption | omega) (by first | assumption | omega) (by first | assumption | omega) (by first | assumption | omega) (by first | assumption | omega) (by first | assumption | omega) hrow (by first | assumption | omega) (by first | assumption | omega) (by first | assumption | omega) (by first | assumption | omega) (by simp only [List.length_nil]; omega) (by omega)) cl_X10_clauseHere wm_X10_131 dX10_house_91 rfl rfl rfl rfl rfl (by decide) (by decide) (by omega) (Nat.le_of_ble_eq_true rfl) rfl (fun v9 w9 hq9 => ?_)
    obtain ⟨w3, p3, o3, s3, l3, rc3, rfl, rfl, r_w3, r_p3, r_o3, r_s3, r_rc3, hz_91, hs2_91, hT2_91, ho2_91, hb_91, hl2_91, hrc2_91⟩ := hq9
    refine g_ws hC [cO m0 10 [w_thrown, .ref m1, w_image, w_frame, w_hasImage, .int (iI (s 20)), .int (iI p3), .int (iI (s 24)), .int (iI w3), .int (iI o3), w_by, w_truths, w_pulls, w_isKeeping, w_next, w_first, w_order, w_bestOrder, w_rooms, w_leastUnlike, w_bodies, w_ran, w_kind, w_number, w_tellsV], cA K m1 922 s3] rfl ?_
    refine g_st hC [] rfl ?_
    simp only [List.length_nil] at hl2_91
    have L94 : ∀ (n4 : Nat) (n1 : Int) (w1 : Int) (p1 : Int) (o1 : Int) (f4 : Int → Int) (l1 : List Int) (rc1 : Int) (f9 : Nat), (rI n1) → (rI w1) → (rI p1) → (rI o1) → (∀ j, rI (f4 j)) → (rI rc1) → (f4 = px_row (upI (upI s 24 0) (212 + s 20) rc1) (s 20) l1) → (md_T (md_tape s) (s 24) f4) → (px_hs (md_tape s) f9 (w1, p1, l1, rc1) = px_house s) → ((w1 = 0 ∨ w1 = 1) ∧ 0 ≤ p1 ∧ p1 ≤ s 24) → (o1 = 0) → ((l1.length : Int) ≤ p1) → (n1 = 10 - (f9 : Int)) → (0 ≤ rc1 ∧ rc1 ≤ 99) → (f9 : Int) < (n4 : Int) → G 0 0 94 [(0, .ref m0), (1, .int (iI n1))] [] [cO m0 10 [w_thrown, .ref m1, w_image, w_frame, w_hasImage, .int (iI (s 20)), .int (iI p1), .int (iI (s 24)), .int (iI w1), .int (iI o1), w_by, w_truths, w_pulls, w_isKeeping, w_next, w_first, w_order, w_bestOrder, w_rooms, w_leastUnlike, w_bodies, w_ran, w_kind, w_number, w_tellsV], cA K m1 922 f4] := by
      intro n4
      induction n4 with
      | zero => intro n1 w1 p1 o1 f4 l1 rc1 f9 r_n1 r_w1 r_p1 r_o1 r_f4 r_rc1 hs1 hT1 hz hb1 ho1 hl1 hn hrc1 hm94; exfalso; omega
      | succ n4 ih94 =>
        intro n1 w1 p1 o1 f4 l1 rc1 f9 r_n1 r_w1 r_p1 r_o1 r_f4 r_rc1 hs1 hT1 hz hb1 ho1 hl1 hn hrc1 hm94
        refine g_aload_n (pc := 94) hC 0 dX10_house_94 rfl rfl ?_
        refine g_get (pc := 95) hC 0 fl_X10_64 dX10_house_95 rfl rfl ?_
        refine g_if_ne (pc := 98) hC 136 dX10_house_98 (by decide) (by omega) (fun c98 => ?_) (fun c98 => ?_)
        · refine g_aload_n (pc := 136) hC 0 dX10_house_136 rfl rfl ?_
          refine g_get (pc := 137) hC 0 fl_X10_64 dX10_house_137 rfl rfl ?_
          refine g_if_ne (pc := 140) hC 154 dX10_house_140 (by decide) (by omega) (fun c140 => ?_) (fun c140 => ?_)
          · refine g_bipush (pc := 154) hC (-10) dX10_house_154 (by decide) ?_
            refine g_aload_n (pc := 156) hC 0 dX10_house_156 rfl rfl ?_
            refine g_get (pc := 157) hC 0 fl_X10_58 dX10_house_157 rfl rfl ?_
            refine g_isub (pc := 160) hC dX10_house_160 ?_
            have hz9 : (w1, p1, l1, rc1) = px_house s := (by rw [← hz]; exact (px_hs_end (fun h9 => c98 h9.1)).symm)
            exact g_iret (pc := 161) hR dX10_house_161 rfl ⟨by omega, by omega⟩ (Nat.le_of_ble_eq_true rfl) ⟨(s 20), p1, (s 24), w1, o1, f4, ret_eq (an_house_no c8 hz9 (by omega)), rfl, (by first | assumption | omega), (by first | assumption | omega), (by first | assumption | omega), (by first | assumption | omega), (by first | assumption | omega), (by first | assumption | omega), (ne_house_no c8 hz9 (by omega) hs1), (by first | assumption | omega)⟩
          · refine g_aload_n (pc := 143) hC 0 dX10_house_143 rfl rfl ?_
            refine g_get (pc := 144) hC 0 fl_X10_58 dX10_house_144 rfl rfl ?_
            refine g_aload_n (pc := 147) hC 0 dX10_house_147 rfl rfl ?_
            refine g_get (pc := 148) hC 0 fl_X10_61 dX10_house_148 rfl rfl ?_
            refine g_icmp_eq (pc := 151) hC 162 dX10_house_151 (by decide) (by omega) (by omega) (fun c151 => ?_) (fun c151 => ?_)
            · refine g_aload_n (pc := 162) hC 0 dX10_house_162 rfl rfl ?_
              refine g_get (pc := 163) hC 0 fl_X10_9 dX10_house_163 rfl rfl ?_
              refine g_bipush (pc := 166) hC (20) dX10_house_166 (by decide) ?_
              refine g_dup2 (pc := 168) hC dX10_house_168 rfl rfl ?_
              refine g_iald (pc := 169) hC 1 dX10_house_169 rfl (by omega) ?_
              have q5 := r_f4 20
              refine g_iconst (pc := 170) hC dX10_house_170 ?_
              refine g_iadd (pc := 171) hC dX10_house_171 ?_
              have h20f : f4 20 = s 20 := by rw [hs1, px_row_lo h20.1 (by omega), upI_ne (by omega), upI_ne (by omega)]
              refine g_iast (pc := 172) hC 1 (fun f9 => [_, cA K _ _ f9]) dX10_house_172 rfl (by omega) (fun _ => rfl) (fun f6 e_f6 => ?_)
              have r_f6 := rng_up e_f6 r_f4 (by omega)
              refine g_aload_n (pc := 173) hC 0 dX10_house_173 rfl rfl ?_
              refine g_get (pc := 174) hC 0 fl_X10_9 dX10_house_174 rfl rfl ?_
              refine g_bipush (pc := 177) hC (25) dX10_house_177 (by decide) ?_
              refine g_aload_n (pc := 179) hC 0 dX10_house_179 rfl rfl ?_
              refine g_get (pc := 180) hC 0 fl_X10_85 dX10_house_180 rfl rfl ?_
              refine g_iast (pc := 183) hC 1 (fun f9 => [_, cA K _ _ f9]) dX10_house_183 rfl (by omega) (fun _ => rfl) (fun f7 e_f7 => ?_)
              have r_f7 := rng_up e_f7 r_f6 (by omega)
              refine g_aload_n (pc := 184) hC 0 dX10_house_184 rfl rfl ?_
              refine g_get (pc := 185) hC 0 fl_X10_85 dX10_house_185 rfl rfl ?_
              have hz9 : (w1, p1, l1, rc1) = px_house s := (by rw [← hz]; exact (px_hs_end (fun h9 => c98 h9.1)).symm)
              exact g_iret (pc := 188) hR dX10_house_188 rfl ⟨by omega, by omega⟩ (Nat.le_of_ble_eq_true rfl) ⟨(s 20), p1, (s 24), w1, o1, f7, ret_eq (an_house_ok c8 hz9 (by omega) (by omega)), rfl, (by first | assumption | omega), (by first | assumption | omega), (by first | assumption | omega), (by first | assumption | omega), (by first | assumption | omega), (by first | assumption | omega), (ne_house_ok h20.1 c8 hz9 (by omega) (by omega) hs1 e_f6 e_f7), (by first | assumption | omega)⟩
            · refine g_bipush (pc := 154) hC (-10) dX10_house_154 (by decide) ?_
              refine g_aload_n (pc := 156) hC 0 dX10_house_156 rfl rfl ?_
              refine g_get (pc := 157) hC 0 fl_X10_58 dX10_house_157 rfl rfl ?_
              refine g_isub (pc := 160) hC dX10_house_160 ?_
              have hz9 : (w1, p1, l1, rc1) = px_house s := (by rw [← hz]; exact (px_hs_end (fun h9 => c98 h9.1)).symm)
              exact g_iret (pc := 161) hR dX10_house_161 rfl ⟨by omega, by omega⟩ (Nat.le_of_ble_eq_true rfl) ⟨(s 20), p1, (s 24), w1, o1, f4, ret_eq (an_house_no c8 hz9 (by omega)), rfl, (by first | assumption | omega), (by first | assumption | omega), (by first | assumption | omega), (by first | assumption | omega), (by first | assumption | omega), (by first | assumption | omega), (ne_house_no c8 hz9 (by omega) hs1), (by first | assumption | omega)⟩
        · refine g_iload_n (pc := 101) hC 1 dX10_house_101 rfl rfl ?_
          refine g_bipush (pc := 102) hC (10) dX10_house_102 (by decide) ?_
          refine g_icmp_ge (pc := 104) hC 136 dX10_house_104 (by decide) (by omega) (by omega) (fun c104 => ?_) (fun c104 => ?_)
          · refine g_aload_n (pc := 136) hC 0 dX10_house_136 rfl rfl ?_
            refine g_get (pc := 137) hC 0 fl_X10_64 dX10_house_137 rfl rfl ?_
            refine g_if_ne (pc := 140) hC 154 dX10_house_140 (by decide) (by omega) (fun c140 => ?_) (fun c140 => ?_)
            · refine g_bipush (pc := 154) hC (-10) dX10_house_154 (by decide) ?_
              refine g_aload_n (pc := 156) hC 0 dX10_house_156 rfl rfl ?_
              refine g_get (pc := 157) hC 0 fl_X10_58 dX10_house_157 rfl rfl ?_
              refine g_isub (pc := 160) hC dX10_house_160 ?_
              have hz9 : (w1, p1, l1, rc1) = px_house s := (by rw [← hz, show f9 = 0 by omega]; rfl)
              exact g_iret (pc := 161) hR dX10_house_161 rfl ⟨by omega, by omega⟩ (Nat.le_of_ble_eq_true rfl) ⟨(s 20), p1, (s 24), w1, o1, f4, ret_eq (an_house_no c8 hz9 (by omega)), rfl, (by first | assumption | omega), (by first | assumption | omega), (by first | assumption | omega), (by first | assumption | omega), (by first | assumption | omega), (by first | assumption | omega), (ne_house_no c8 hz9 (by omega) hs1), (by first | assumption | omega)⟩
            · refine g_aload_n (pc := 143) hC 0 dX10_house_143 rfl rfl ?_
              refine g_get (pc := 144) hC 0 fl_X10_58 dX10_house_144 rfl rfl ?_
              refine g_aload_n (pc := 147) hC 0 dX10_house_147 rfl rfl ?_
              refine g_get (pc := 148) hC 0 fl_X10_61 dX10_house_148 rfl rfl ?_
              refine g_icmp_eq (pc := 151) hC 162 dX10_house_151 (by decide) (by omega) (by omega) (fun c151 => ?_) (fun c151 => ?_)
              · refine g_aload_n (pc := 162) hC 0 dX10_house_162 rfl rfl ?_
                refine g_get (pc := 163) hC 0 fl_X10_9 dX10_house_163 rfl rfl ?_
                refine g_bipush (pc := 166) hC (20) dX10_house_166 (by decide) ?_
                refine g_dup2 (pc := 168) hC dX10_house_168 rfl rfl ?_
                refine g_iald (pc := 169) hC 1 dX10_house_169 rfl (by omega) ?_
                have q6 := r_f4 20
                refine g_iconst (pc := 170) hC dX10_house_170 ?_
                refine g_iadd (pc := 171) hC dX10_house_171 ?_
                have h20f : f4 20 = s 20 := by rw [hs1, px_row_lo h20.1 (by omega), upI_ne (by omega), upI_ne (by omega)]
                refine g_iast (pc := 172) hC 1 (fun f9 => [_, cA K _ _ f9]) dX10_house_172 rfl (by omega) (fun _ => rfl) (fun f6 e_f6 => ?_)
                have r_f6 := rng_up e_f6 r_f4 (by omega)
                refine g_aload_n (pc := 173) hC 0 dX10_house_173 rfl rfl ?_
                refine g_get (pc := 174) hC 0 fl_X10_9 dX10_house_174 rfl rfl ?_
                refine g_bipush (pc := 177) hC (25) dX10_house_177 (by decide) ?_
                refine g_aload_n (pc := 179) hC 0 dX10_house_179 rfl rfl ?_
                refine g_get (pc := 180) hC 0 fl_X10_85 dX10_house_180 rfl rfl ?_
                refine g_iast (pc := 183) hC 1 (fun f9 => [_, cA K _ _ f9]) dX10_house_183 rfl (by omega) (fun _ => rfl) (fun f7 e_f7 => ?_)
                have r_f7 := rng_up e_f7 r_f6 (by omega)
                refine g_aload_n (pc := 184) hC 0 dX10_house_184 rfl rfl ?_
                refine g_get (pc := 185) hC 0 fl_X10_85 dX10_house_185 rfl rfl ?_
                have hz9 : (w1, p1, l1, rc1) = px_house s := (by rw [← hz, show f9 = 0 by omega]; rfl)
                exact g_iret (pc := 188) hR dX10_house_188 rfl ⟨by omega, by omega⟩ (Nat.le_of_ble_eq_true rfl) ⟨(s 20), p1, (s 24), w1, o1, f7, ret_eq (an_house_ok c8 hz9 (by omega) (by omega)), rfl, (by first | assumption | omega), (by first | assumption | omega), (by first | assumption | omega), (by first | assumption | omega), (by first | assumption | omega), (by first | assumption | omega), (ne_house_ok h20.1 c8 hz9 (by omega) (by omega) hs1 e_f6 e_f7), (by first | assumption | omega)⟩
              · refine g_bipush (pc := 154) hC (-10) dX10_house_154 (by decide) ?_
                refine g_aload_n (pc := 156) hC 0 dX10_house_156 rfl rfl ?_
                refine g_get (pc := 157) hC 0 fl_X10_58 dX10_house_157 rfl rfl ?_
                refine g_isub (pc := 160) hC dX10_house_160 ?_
                have hz9 : (w1, p1, l1, rc1) = px_house s := (by rw [← hz, show f9 = 0 by omega]; rfl)
                exact g_iret (pc := 161) hR dX10_house_161 rfl ⟨by omega, by omega⟩ (Nat.le_of_ble_eq_true rfl) ⟨(s 20), p1, (s 24), w1, o1, f4, ret_eq (an_house_no c8 hz9 (by omega)), rfl, (by first | assumption | omega), (by first | assumption | omega), (by first | assumption | omega), (by first | assumption | omega), (by first | assumption | omega), (by first | assumption | omega), (ne_house_no c8 hz9 (by omega) hs1), (by first | assumption | omega)⟩
          · refine g_aload_n (pc := 107) hC 0 dX10_house_107 rfl rfl ?_
            refine g_fnV (pc := 108) (qr := 0) hC [0, 1] (k_X10_here _ _ _ _ _ _ _ _ _ _ _ _ _ _ _ _ _ _ _ _ _ _ _ _ _ _ _ _ (by first | assumption | omega) (by first | assumption | omega) (by first | assumption | omega) (by first | assumption | omega) (by first | assumption | omega) (by first | assumption | omega) hT1 (by first | assumption | omega)) cl_X10_here wm_X10_68 dX10_house_108 rfl rfl rfl rfl rfl (by decide) (by decide) ⟨by omega, by omega⟩ (Nat.le_of_ble_eq_true rfl) rfl rfl ?_
            refine g_name hC (fun x7 e_x7 => ?_)
            have q_x7 : -1 ≤ x7 ∧ x7 ≤ 127 := by rw [e_x7]; exact hT.2.2.1 _
            refine g_bipush (pc := 111) hC (59) dX10_house_111 (by decide) ?_
            refine g_icmp_ne (pc := 113) hC 136 dX10_house_113 (by decide) (by omega) (by omega) (fun c113 => ?_) (fun c113 => ?_)
            · refine g_aload_n (pc := 136) hC 0 dX10_house_136 rfl rfl ?_
              refine g_get (pc := 137) hC 0 fl_X10_64 dX10_house_137 rfl rfl ?_
              refine g_if_ne (pc := 140) hC 154 dX10_house_140 (by decide) (by omega) (fun c140 => ?_) (fun c140 => ?_)
              · refine g_bipush (pc := 154) hC (-10) dX10_house_154 (by decide) ?_
                refine g_aload_n (pc := 156) hC 0 dX10_house_156 rfl rfl ?_
                refine g_get (pc := 157) hC 0 fl_X10_58 dX10_house_157 rfl rfl ?_
                refine g_isub (pc := 160) hC dX10_house_160 ?_
                have hz9 : (w1, p1, l1, rc1) = px_house s := (by rw [← hz]; exact (px_hs_end (fun h9 => absurd (show md_tape s p1 = 59 from h9.2) (by omega))).symm)
                exact g_iret (pc := 161) hR dX10_house_161 rfl ⟨by omega, by omega⟩ (Nat.le_of_ble_eq_true rfl) ⟨(s 20), p1, (s 24), w1, o1, f4, ret_eq (an_house_no c8 hz9 (by omega)), rfl, (by first | assumption | omega), (by first | assumption | omega), (by first | assumption | omega), (by first | assumption | omega), (by first | assumption | omega), (by first | assumption | omega), (ne_house_no c8 hz9 (by omega) hs1), (by first | assumption | omega)⟩
              · refine g_aload_n (pc := 143) hC 0 dX10_house_143 rfl rfl ?_
                refine g_get (pc := 144) hC 0 fl_X10_58 dX10_house_144 rfl rfl ?_
                refine g_aload_n (pc := 147) hC 0 dX10_house_147 rfl rfl ?_
                refine g_get (pc := 148) hC 0 fl_X10_61 dX10_house_148 rfl rfl ?_
                refine g_icmp_eq (pc := 151) hC 162 dX10_house_151 (by decide) (by omega) (by omega) (fun c151 => ?_) (fun c151 => ?_)
                · refine g_aload_n (pc := 162) hC 0 dX10_house_162 rfl rfl ?_
                  refine g_get (pc := 163) hC 0 fl_X10_9 dX10_house_163 rfl rfl ?_
                  refine g_bipush (pc := 166) hC (20) dX10_house_166 (by decide) ?_
                  refine g_dup2 (pc := 168) hC dX10_house_168 rfl rfl ?_
                  refine g_iald (pc := 169) hC 1 dX10_house_169 rfl (by omega) ?_
                  have q8 := r_f4 20
                  refine g_iconst (pc := 170) hC dX10_house_170 ?_
                  refine g_iadd (pc := 171) hC dX10_house_171 ?_
                  have h20f : f4 20 = s 20 := by rw [hs1, px_row_lo h20.1 (by omega), upI_ne (by omega), upI_ne (by omega)]
                  refine g_iast (pc := 172) hC 1 (fun f9 => [_, cA K _ _ f9]) dX10_house_172 rfl (by omega) (fun _ => rfl) (fun f6 e_f6 => ?_)
                  have r_f6 := rng_up e_f6 r_f4 (by omega)
                  refine g_aload_n (pc := 173) hC 0 dX10_house_173 rfl rfl ?_
                  refine g_get (pc := 174) hC 0 fl_X10_9 dX10_house_174 rfl rfl ?_
                  refine g_bipush (pc := 177) hC (25) dX10_house_177 (by decide) ?_
                  refine g_aload_n (pc := 179) hC 0 dX10_house_179 rfl rfl ?_
                  refine g_get (pc := 180) hC 0 fl_X10_85 dX10_house_180 rfl rfl ?_
                  refine g_iast (pc := 183) hC 1 (fun f9 => [_, cA K _ _ f9]) dX10_house_183 rfl (by omega) (fun _ => rfl) (fun f7 e_f7 => ?_)
                  have r_f7 := rng_up e_f7 r_f6 (by omega)
                  refine g_aload_n (pc := 184) hC 0 dX10_house_184 rfl rfl ?_
                  refine g_get (pc := 185) hC 0 fl_X10_85 dX10_house_185 rfl rfl ?_
                  have hz9 : (w1, p1, l1, rc1) = px_house s := (by rw [← hz]; exact (px_hs_end (fun h9 => absurd (show md_tape s p1 = 59 from h9.2) (by omega))).symm)
                  exact g_iret (pc := 188) hR dX10_house_188 rfl ⟨by omega, by omega⟩ (Nat.le_of_ble_eq_true rfl) ⟨(s 20), p1, (s 24), w1, o1, f7, ret_eq (an_house_ok c8 hz9 (by omega) (by omega)), rfl, (by first | assumption | omega), (by first | assumption | omega), (by first | assumption | omega), (by first | assumption | omega), (by first | assumption | omega), (by first | assumption | omega), (ne_house_ok h20.1 c8 hz9 (by omega) (by omega) hs1 e_f6 e_f7), (by first | assumption | omega)⟩
                · refine g_bipush (pc := 154) hC (-10) dX10_house_154 (by decide) ?_
                  refine g_aload_n (pc := 156) hC 0 dX10_house_156 rfl rfl ?_
                  refine g_get (pc := 157) hC 0 fl_X10_58 dX10_house_157 rfl rfl ?_
                  refine g_isub (pc := 160) hC dX10_house_160 ?_
                  have hz9 : (w1, p1, l1, rc1) = px_house s := (by rw [← hz]; exact (px_hs_end (fun h9 => absurd (show md_tape s p1 = 59 from h9.2) (by omega))).symm)
                  exact g_iret (pc := 161) hR dX10_house_161 rfl ⟨by omega, by omega⟩ (Nat.le_of_ble_eq_true rfl) ⟨(s 20), p1, (s 24), w1, o1, f4, ret_eq (an_house_no c8 hz9 (by omega)), rfl, (by first | assumption | omega), (by first | assumption | omega), (by first | assumption | omega), (by first | assumption | omega), (by first | assumption | omega), (by first | assumption | omega), (ne_house_no c8 hz9 (by omega) hs1), (by first | assumption | omega)⟩
            · have hlt := px_lt hT1 (by omega) (show md_tape s p1 = 59 by omega) (by omega)
              obtain ⟨g9, rfl⟩ : ∃ g9, f9 = g9 + 1 := ⟨f9 - 1, by omega⟩
              refine g_aload_n (pc := 116) hC 0 dX10_house_116 rfl rfl ?_
              refine g_dup (pc := 117) hC dX10_house_117 rfl ?_
              refine g_get (pc := 118) hC 0 fl_X10_58 dX10_house_118 rfl rfl ?_
              refine g_iconst (pc := 121) hC dX10_house_121 ?_
              refine g_iadd (pc := 122) hC dX10_house_122 ?_
              refine g_putI (pc := 123) hC 0 [cO _ _ [_, _, _, _, _, _, _, _, _, _, _, _, _, _, _, _, _, _, _, _, _, _, _, _, _], _] fl_X10_58 dX10_house_123 rfl (Nat.le_of_ble_eq_true rfl) rfl ?_
              refine g_aload_n (pc := 126) hC 0 dX10_house_126 rfl rfl ?_
              refine g_callV (pc := 127) (qr := 0) hC [0, 1] (k_X10_clauseHere _ _ _ _ _ _ _ _ _ _ _ _ _ _ _ _ _ _ _ _ _ _ _ _ _ _ _ _ _ _ _ (by first | assumption | omega) (by first | assumption | omega) (by first | assumption | omega) (by first | assumption | omega) (by first | assumption | omega) (by first | assumption | omega) (by first | assumption | omega) hs1 (by first | assumption | omega) (by first | assumption | omega) (by first | assumption | omega) (by first | assumption | omega) (by first | assumption | omega) (by first | assumption | omega)) cl_X10_clauseHere wm_X10_131 dX10_house_127 rfl rfl rfl rfl rfl (by decide) (by decide) (by omega) (Nat.le_of_ble_eq_true rfl) rfl (fun v9 w9 hq9 => ?_)
              obtain ⟨w6, p6, o6, s6, l6, rc6, rfl, rfl, r_w6, r_p6, r_o6, r_s6, r_rc6, hz_127, hs2_127, hT2_127, ho2_127, hb_127, hl2_127, hrc2_127⟩ := hq9
              refine g_ws hC [cO m0 10 [w_thrown, .ref m1, w_image, w_frame, w_hasImage, .int (iI (s 20)), .int (iI p6), .int (iI (s 24)), .int (iI w6), .int (iI o6), w_by, w_truths, w_pulls, w_isKeeping, w_next, w_first, w_order, w_bestOrder, w_rooms, w_leastUnlike, w_bodies, w_ran, w_kind, w_number, w_tellsV], cA K m1 922 s6] rfl ?_
              refine g_st hC [] rfl ?_
              refine g_iinc (pc := 130) hC 1 [(1, _), (0, _)] dX10_house_130 rfl (by decide) rfl ?_
              refine g_goto (pc := 133) hC 94 dX10_house_133 (by decide) ?_
              refine g_lv hC [1, 0] [(0, _), (1, _)] rfl ?_
              exact ih94 (n1 + 1) w6 p6 o6 s6 l6 rc6 g9 (by first | assumption | omega) (by first | assumption | omega) (by first | assumption | omega) (by first | assumption | omega) (by first | assumption | omega) (by first | assumption | omega) (by first | assumption | omega) (by first | assumption | omega) (px_hs_s hz (by omega) (by omega) hz_127) (by first | assumption | omega) (by first | assumption | omega) (by first | assumption | omega) (by first | assumption | omega) (by first | assumption | omega) (by omega)
    refine g_lv hC [1, 0] [(0, _), (1, _)] rfl ?_
    exact L94 (((9 : Int) : Int).toNat + 1) 1 w3 p3 o3 s3 l3 rc3 9 (by first | assumption | omega) (by first | assumption | omega) (by first | assumption | omega) (by first | assumption | omega) (by first | assumption | omega) (by first | assumption | omega) (by first | assumption | omega) (by first | assumption | omega) (by unfold px_house; rw [← hz_91]) (by first | assumption | omega) (by first | assumption | omega) (by first | assumption | omega) (by first | assumption | omega) (by first | assumption | omega) (by omega)
  · refine g_bipush (pc := 11) hC (-4) dX10_house_11 (by decide) ?_
    exact g_iret (pc := 13) hR dX10_house_13 rfl ⟨by omega, by omega⟩ (Nat.le_of_ble_eq_true rfl) ⟨ac, p, e, w, o, s, ret_eq (by unfold an_house; rw [if_pos (by omega)]), rfl, (by first | assumption | omega), (by first | assumption | omega), (by first | assumption | omega), (by first | assumption | omega), (by first | assumption | omega), (by first | assumption | omega), (by unfold ne_house; rw [if_pos (by omega)]), (by first | assumption | omega)⟩
