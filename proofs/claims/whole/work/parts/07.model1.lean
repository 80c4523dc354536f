theorem up_lt {f f2 g : Int → Int} {lo i : Int} (e : f2 = upI f i (g i)) (h : ∀ j, lo ≤ j → j < i → f j = g j) : ∀ j, lo ≤ j → j < i + 1 → f2 j = g j := by
  intro j h1 h2
  rw [e]
  by_cases hj : j = i
  · rw [hj]; exact upI_at _ _ _
  · rw [upI_ne hj]; exact h j h1 (by omega)
theorem up_if {f f2 g s : Int → Int} {lo i : Int} (hi : lo ≤ i) (e : f2 = upI f i (g i)) (h : ∀ j, f j = if lo ≤ j ∧ j < i then g j else s j) : ∀ j, f2 j = if lo ≤ j ∧ j < i + 1 then g j else s j := by
  intro j
  rw [e]
  by_cases hj : j = i
  · rw [hj, if_pos (by omega)]; exact upI_at _ _ _
  · rw [upI_ne hj, h j]
    by_cases h2 : lo ≤ j ∧ j < i
    · rw [if_pos h2, if_pos (by omega)]
    · rw [if_neg h2, if_neg (by omega)]
theorem md_back {s sn fr s3 : Int → Int} (h1 : ∀ j, 0 ≤ j → j < 19 → fr j = s j) (h2 : ∀ j, j < 0 ∨ 19 ≤ j → sn j = s j) (h3 : ∀ j, s3 j = if 0 ≤ j ∧ j < 19 then fr j else sn j) : s3 = s := by
  funext j
  rw [h3]
  split
  · exact h1 j (by omega) (by omega)
  · exact h2 j (by omega)
theorem md_goN_lo {W : (Int → Int) → Int} {rch : Int} {s : Int → Int} {j : Int} (hj : j < 0) : ∀ n : Nat, md_goN W rch s n j = s j
  | 0 => rfl
  | n + 1 => by
    unfold md_goN md_go
    rw [if_neg (by omega), if_neg (by omega), md_goN_lo hj n]
theorem md_goN_out {W : (Int → Int) → Int} {rch : Int} {s : Int → Int} (h : s 19 ≤ 6) {j : Int} (hj : j < 0 ∨ 7 ≤ j) (n : Nat) : md_goN W rch s n j = s j := by
  rcases hj with h2 | h2
  · exact md_goN_lo h2 n
  · exact md_goN_hi h h2 n
theorem tk_b6 {p q k x d t : Int} {f1 f2 f3 f4 f5 f6 f : Int → Int} (e1 : f1 = upI f 0 p) (e2 : f2 = upI f1 1 q) (e3 : f3 = upI f2 2 k) (e4 : f4 = upI f3 3 x) (e5 : f5 = upI f4 4 d) (e6 : f6 = upI f5 5 t) : ∀ j, 0 ≤ j → j < 6 → f6 j = tk_b p q k x d t j := by
  intro j h1 h2
  rw [e6, e5, e4, e3, e2, e1]
  unfold upI tk_b
  rcases (by omega : j = 0 ∨ j = 1 ∨ j = 2 ∨ j = 3 ∨ j = 4 ∨ j = 5) with rfl | rfl | rfl | rfl | rfl | rfl <;> simp
/-- a stack of truths in a row, and its picture -/
def tkR (f : Int → Int) (top sum base : Int) (z : (Int → Int) × Int × Int) : Prop := (∀ k, 0 ≤ k → k < top → f k = z.1 k) ∧ top = z.2.1 ∧ sum = base + z.2.2
theorem tkR_test {f g b : Int → Int} {top sum base t : Int} {z : (Int → Int) × Int × Int} (h : tkR f top sum base z) (ht : 0 ≤ t) (e : g = upI f top (tk_test b t)) : tkR g (top + 1) sum base (tk_step b z t) := by
  obtain ⟨h1, h2, h3⟩ := h
  unfold tk_step
  rw [if_pos ht]
  refine ⟨fun k k1 k2 => ?_, by rw [h2], h3⟩
  show g k = upI z.1 z.2.1 (tk_test b t) k
  rw [e, ← h2]
  unfold upI
  by_cases hk : k = top
  · rw [if_pos hk, if_pos hk]
  · rw [if_neg hk, if_neg hk]
    exact h1 k k1 (by omega)
theorem tkR_not {f g b : Int → Int} {top sum base t v : Int} {z : (Int → Int) × Int × Int} (h : tkR f top sum base z) (ht : t = -1) (h1t : 1 ≤ top) (e : g = upI f (top - 1) v) (hv : v = if f (top - 1) = 0 then 1 else 0) : tkR g top sum base (tk_step b z t) := by
  obtain ⟨h1, h2, h3⟩ := h
  unfold tk_step
  rw [if_neg (by omega), if_pos ht]
  refine ⟨fun k k1 k2 => ?_, h2, h3⟩
  show g k = upI z.1 (z.2.1 - 1) (if z.1 (z.2.1 - 1) = 0 then 1 else 0) k
  rw [e, ← h2, ← h1 (top - 1) (by omega) (by omega), ← hv]
  unfold upI
  by_cases hk : k = top - 1
  · rw [if_pos hk, if_pos hk]
  · rw [if_neg hk, if_neg hk]
    exact h1 k k1 (by omega)
theorem tkR_two {f g b : Int → Int} {top sum base t v i : Int} {z : (Int → Int) × Int × Int} (h : tkR f top sum base z) (ht : t < -1 ∧ -10 < t) (h1t : 2 ≤ top) (e : g = upI f i v) (hi : i = top - 2) (hv : v = if t = -2 then (if f (top - 2) = 0 then 0 else if f (top - 1) = 0 then 0 else 1) else (if f (top - 2) = 0 then (if f (top - 1) = 0 then 0 else 1) else 1)) : tkR g (top - 1) sum base (tk_step b z t) := by
  obtain ⟨h1, h2, h3⟩ := h
  unfold tk_step
  rw [if_neg (by omega), if_neg (by omega), if_pos (by omega)]
  refine ⟨fun k k1 k2 => ?_, by rw [h2], h3⟩
  show g k = upI z.1 (z.2.1 - 2) _ k
  rw [e, hi, ← h2, ← h1 (top - 1) (by omega) (by omega), ← h1 (top - 2) (by omega) (by omega), ← hv]
  unfold upI
  by_cases hk : k = top - 2
  · rw [if_pos hk, if_pos hk]
  · rw [if_neg hk, if_neg hk]
    exact h1 k k1 (by omega)
theorem tkR_end {f b : Int → Int} {top sum base t sum2 : Int} {z : (Int → Int) × Int × Int} (h : tkR f top sum base z) (ht : t ≤ -10) (h1t : 1 ≤ top) (hs : sum2 = sum + (if f 0 = 0 then 0 else if -200 < t then -10 - t else 200 + t)) : tkR f 0 sum2 base (tk_step b z t) := by
  obtain ⟨h1, h2, h3⟩ := h
  unfold tk_step
  rw [if_neg (by omega), if_neg (by omega), if_neg (by omega)]
  refine ⟨fun k k1 k2 => by omega, rfl, ?_⟩
  show sum2 = base + (z.2.2 + _)
  rw [hs, h3, ← h1 0 (by omega) (by omega)]
  omega
theorem md_pullEnd {W : (Int → Int) → Int} {rch : Int} {s f : Int → Int} {p q top sum x : Int} {j : Nat} (hT : md_TK s W rch) (hz : tkR f top sum (10 - md_apart s p q) (tk_run (md_tok s) (tk_b p q (s (26 + p)) (s (1 + q)) (md_apart s p q) (s 0 % 10)) j)) (hj : (j : Int) = x) (h1 : s 25 = -1 → x = 0) (h2 : 0 ≤ s 25 → x = s (217 + s 25)) : sum = md_pull W s p q := by
  unfold md_pull
  rw [hz.2.2]
  rcases hT.1 with ⟨a, b, c⟩ | ⟨a, b, c, d1, d2, d3, d4⟩
  · have hj0 : j = 0 := by have := h1 a; omega
    rw [c, hj0]
    rfl
  · have hjn : j = (s (217 + s 25)).toNat := by have := h2 a; omega
    rw [d4, hjn]
set_option maxHeartbeats 4000000 in
set_option maxRecDepth 100000 in
theorem k_X10_apart {K : gK} (m0 : Nat) (m1 : Nat) (w_thrown : Value) (w_image : Value) (w_frame : Value) (w_hasImage : Value) (w_act : Value) (w_spot : Value) (w_end : Value) (w_isWrong : Value) (w_open : Value) (w_by : Value) (w_truths : Value) (w_pulls : Value) (w_isKeeping : Value) (w_next : Value) (w_first : Value) (w_order : Value) (w_bestOrder : Value) (w_rooms : Value) (w_leastUnlike : Value) (w_bodies : Value) (w_ran : Value) (w_kind : Value) (w_number : Value) (w_tellsV : Value) (p : Int) (q : Int) (s : Int → Int) (r_p : rI p) (r_q : rI q) (r_s : ∀ j, rI (s j)) (hp : 0 ≤ p ∧ p < 6) (hq : 0 ≤ q ∧ q < 6) (hr : ∀ j, 13 ≤ j → j < 19 → 0 ≤ s j ∧ s j ≤ 9) : gFn K yX10_apart cX10_apart 4 (some .int) 0 [.ref m0, .int (iI p), .int (iI q)] [cO m0 10 [w_thrown, .ref m1, w_image, w_frame, w_hasImage, w_act, w_spot, w_end, w_isWrong, w_open, w_by, w_truths, w_pulls, w_isKeeping, w_next, w_first, w_order, w_bestOrder, w_rooms, w_leastUnlike, w_bodies, w_ran, w_kind, w_number, w_tellsV], cA K m1 922 s] (md_apart s p q) := by
  refine g_enter (by decide +kernel) (Nat.le_of_ble_eq_true rfl) (fun G hC hR => ?_)
  refine g_lv hC [0, 1, 2] [(0, _), (1, _), (2, _)] rfl ?_
  refine g_aload_n (pc := 0) hC 0 dX10_apart_0 rfl rfl ?_
  refine g_get (pc := 1) hC 0 fl_X10_9 dX10_apart_1 rfl rfl ?_
  refine g_bipush (pc := 4) hC (13) dX10_apart_4 (by decide) ?_
  refine g_iload_n (pc := 6) hC 1 dX10_apart_6 rfl rfl ?_
  refine g_iadd (pc := 7) hC dX10_apart_7 ?_
  refine g_iald (pc := 8) hC 1 dX10_apart_8 rfl (by omega) ?_
  have q1 := r_s (13 + p)
  refine g_aload_n (pc := 9) hC 0 dX10_apart_9 rfl rfl ?_
  refine g_get (pc := 10) hC 0 fl_X10_9 dX10_apart_10 rfl rfl ?_
  refine g_bipush (pc := 13) hC (13) dX10_apart_13 (by decide) ?_
  refine g_iload_n (pc := 15) hC 2 dX10_apart_15 rfl rfl ?_
  refine g_iadd (pc := 16) hC dX10_apart_16 ?_
  refine g_iald (pc := 17) hC 1 dX10_apart_17 rfl (by omega) ?_
  have q2 := r_s (13 + q)
  have hrp := hr (13 + p) (by omega) (by omega)
  have hrq := hr (13 + q) (by omega) (by omega)
  refine g_isub (pc := 18) hC dX10_apart_18 ?_
  refine g_istore_n (pc := 19) hC [(3, _), (0, _), (1, _), (2, _)] dX10_apart_19 rfl (by decide) rfl ?_
  refine g_iload_n (pc := 20) hC 0 dX10_apart_20 rfl rfl ?_
  refine g_if_ge (pc := 21) hC 29 dX10_apart_21 (by decide) (by omega) (fun c21 => ?_) (fun c21 => ?_)
  · refine g_iload_n (pc := 29) hC 0 dX10_apart_29 rfl rfl ?_
    exact g_iret (pc := 30) hR dX10_apart_30 rfl ⟨by omega, by omega⟩ (Nat.le_of_ble_eq_true rfl) ⟨ret_eq (by unfold md_apart; omega), rfl⟩
  · refine g_iload_n (pc := 24) hC 0 dX10_apart_24 rfl rfl ?_
    refine g_ineg (pc := 25) hC dX10_apart_25 ?_
    refine g_goto (pc := 26) hC 30 dX10_apart_26 (by decide) ?_
    exact g_iret (pc := 30) hR dX10_apart_30 rfl ⟨by omega, by omega⟩ (Nat.le_of_ble_eq_true rfl) ⟨ret_eq (by unfold md_apart; omega), rfl⟩
set_option maxHeartbeats 4000000 in
set_option maxRecDepth 100000 in
theorem k_X10_keeps {K : gK} (m0 : Nat) (m1 : Nat) (m3 : Nat) (w_thrown : Value) (w_image : Value) (w_hasImage : Value) (w_act : Value) (w_spot : Value) (w_end : Value) (w_isWrong : Value) (w_open : Value) (w_by : Value) (w_truths : Value) (w_pulls : Value) (w_isKeeping : Value) (w_next : Value) (w_first : Value) (w_order : Value) (w_bestOrder : Value) (w_rooms : Value) (w_leastUnlike : Value) (w_bodies : Value) (w_ran : Value) (w_kind : Value) (w_number : Value) (w_tellsV : Value) (s : Int → Int) (fr : Int → Int) (r_s : ∀ j, rI (s j)) (r_fr : ∀ j, rI (fr j)) : gMet K yX10_keeps cX10_keeps 2 none 0 0 0 [.ref m0] [cO m0 10 [w_thrown, .ref m1, w_image, .ref m3, w_hasImage, w_act, w_spot, w_end, w_isWrong, w_open, w_by, w_truths, w_pulls, w_isKeeping, w_next, w_first, w_order, w_bestOrder, w_rooms, w_leastUnlike, w_bodies, w_ran, w_kind, w_number, w_tellsV], cA K m1 922 s, cA K m3 19 fr] (fun v9 w9 => ∃ (fr2 : Int → Int), v9 = none ∧ w9 = [cO m0 10 [w_thrown, .ref m1, w_image, .ref m3, w_hasImage, w_act, w_spot, w_end, w_isWrong, w_open, w_by, w_truths, w_pulls, w_isKeeping, w_next, w_first, w_order, w_bestOrder, w_rooms, w_leastUnlike, w_bodies, w_ran, w_kind, w_number, w_tellsV], cA K m1 922 s, cA K m3 19 fr2] ∧ (∀ j, rI (fr2 j)) ∧ (∀ j, 0 ≤ j → j < 19 → fr2 j = s j)) := by
  refine g_enter (by decide +kernel) (Nat.le_of_ble_eq_true rfl) (fun G hC hR => ?_)
  refine g_lv hC [0] [(0, _)] rfl ?_
  refine g_iconst (pc := 0) hC dX10_keeps_0 ?_
  refine g_istore_n (pc := 1) hC [(1, _), (0, _)] dX10_keeps_1 rfl (by decide) rfl ?_
  have L2 : ∀ (n1 : Nat) (i : Int) (f : Int → Int), (rI i) → (∀ j, rI (f j)) → (0 ≤ i ∧ i ≤ 19) → (∀ j, 0 ≤ j → j < i → f j = s j) → 19 - i < (n1 : Int) → G 0 0 2 [(0, .ref m0), (1, .int (iI i))] [] [cO m0 10 [w_thrown, .ref m1, w_image, .ref m3, w_hasImage, w_act, w_spot, w_end, w_isWrong, w_open, w_by, w_truths, w_pulls, w_isKeeping, w_next, w_first, w_order, w_bestOrder, w_rooms, w_leastUnlike, w_bodies, w_ran, w_kind, w_number, w_tellsV], cA K m1 922 s, cA K m3 19 f] := by
    intro n1
    induction n1 with
    | zero => intro i f r_i r_f hi hk hm2; exfalso; omega
    | succ n1 ih2 =>
      intro i f r_i r_f hi hk hm2
      refine g_iload_n (pc := 2) hC 1 dX10_keeps_2 rfl rfl ?_
      refine g_bipush (pc := 3) hC (19) dX10_keeps_3 (by decide) ?_
      refine g_icmp_ge (pc := 5) hC 26 dX10_keeps_5 (by decide) (by omega) (by omega) (fun c5 => ?_) (fun c5 => ?_)
      · exact g_vret (pc := 26) hR dX10_keeps_26 rfl ⟨by omega, by omega⟩ (Nat.le_of_ble_eq_true rfl) ⟨f, rfl, rfl, (by first | assumption | omega), (fun j h1 h2 => hk j h1 (by omega))⟩
      · refine g_aload_n (pc := 8) hC 0 dX10_keeps_8 rfl rfl ?_
        refine g_get (pc := 9) hC 0 fl_X10_18 dX10_keeps_9 rfl rfl ?_
        refine g_iload_n (pc := 12) hC 1 dX10_keeps_12 rfl rfl ?_
        refine g_aload_n (pc := 13) hC 0 dX10_keeps_13 rfl rfl ?_
        refine g_get (pc := 14) hC 0 fl_X10_9 dX10_keeps_14 rfl rfl ?_
        refine g_iload_n (pc := 17) hC 1 dX10_keeps_17 rfl rfl ?_
        refine g_iald (pc := 18) hC 1 dX10_keeps_18 rfl (by omega) ?_
        have q2 := r_s i
        refine g_iast (pc := 19) hC 2 (fun f9 => [_, _, cA K _ _ f9]) dX10_keeps_19 rfl (by omega) (fun _ => rfl) (fun f5 e_f5 => ?_)
        have r_f5 := rng_up e_f5 r_f (by omega)
        refine g_iinc (pc := 20) hC 1 [(1, _), (0, _)] dX10_keeps_20 rfl (by decide) rfl ?_
        refine g_goto (pc := 23) hC 2 dX10_keeps_23 (by decide) ?_
        refine g_lv hC [1, 0] [(0, _), (1, _)] rfl ?_
        exact ih2 (i + 1) f5 (by first | assumption | omega) (by first | assumption | omega) (by first | assumption | omega) (up_lt e_f5 hk) (by omega)
  refine g_lv hC [1, 0] [(0, _), (1, _)] rfl ?_
  exact L2 ((19 - 0 : Int).toNat + 1) 0 fr (by first | assumption | omega) (by first | assumption | omega) (by first | assumption | omega) (fun j h1 h2 => by omega) (by omega)
set_option maxHeartbeats 4000000 in
set_option maxRecDepth 100000 in
theorem k_X10_goesBack {K : gK} (m0 : Nat) (m1 : Nat) (m3 : Nat) (w_thrown : Value) (w_image : Value) (w_hasImage : Value) (w_act : Value) (w_spot : Value) (w_end : Value) (w_isWrong : Value) (w_open : Value) (w_by : Value) (w_truths : Value) (w_pulls : Value) (w_isKeeping : Value) (w_next : Value) (w_first : Value) (w_order : Value) (w_bestOrder : Value) (w_rooms : Value) (w_leastUnlike : Value) (w_bodies : Value) (w_ran : Value) (w_kind : Value) (w_number : Value) (w_tellsV : Value) (s : Int → Int) (fr : Int → Int) (r_s : ∀ j, rI (s j)) (r_fr : ∀ j, rI (fr j)) : gMet K yX10_goesBack cX10_goesBack 2 none 0 0 0 [.ref m0] [cO m0 10 [w_thrown, .ref m1, w_image, .ref m3, w_hasImage, w_act, w_spot, w_end, w_isWrong, w_open, w_by, w_truths, w_pulls, w_isKeeping, w_next, w_first, w_order, w_bestOrder, w_rooms, w_leastUnlike, w_bodies, w_ran, w_kind, w_number, w_tellsV], cA K m1 922 s, cA K m3 19 fr] (fun v9 w9 => ∃ (s2 : Int → Int), v9 = none ∧ w9 = [cO m0 10 [w_thrown, .ref m1, w_image, .ref m3, w_hasImage, w_act, w_spot, w_end, w_isWrong, w_open, w_by, w_truths, w_pulls, w_isKeeping, w_next, w_first, w_order, w_bestOrder, w_rooms, w_leastUnlike, w_bodies, w_ran, w_kind, w_number, w_tellsV], cA K m1 922 s2, cA K m3 19 fr] ∧ (∀ j, rI (s2 j)) ∧ (∀ j, s2 j = if 0 ≤ j ∧ j < 19 then fr j else s j)) := by
  refine g_enter (by decide +kernel) (Nat.le_of_ble_eq_true rfl) (fun G hC hR => ?_)
  refine g_lv hC [0] [(0, _)] rfl ?_
  refine g_iconst (pc := 0) hC dX10_goesBack_0 ?_
  refine g_istore_n (pc := 1) hC [(1, _), (0, _)] dX10_goesBack_1 rfl (by decide) rfl ?_
  have L2 : ∀ (n1 : Nat) (i : Int) (f : Int → Int), (rI i) → (∀ j, rI (f j)) → (0 ≤ i ∧ i ≤ 19) → (∀ j, f j = if 0 ≤ j ∧ j < i then fr j else s j) → 19 - i < (n1 : Int) → G 0 0 2 [(0, .ref m0), (1, .int (iI i))] [] [cO m0 10 [w_thrown, .ref m1, w_image, .ref m3, w_hasImage, w_act, w_spot, w_end, w_isWrong, w_open, w_by, w_truths, w_pulls, w_isKeeping, w_next, w_first, w_order, w_bestOrder, w_rooms, w_leastUnlike, w_bodies, w_ran, w_kind, w_number, w_tellsV], cA K m1 922 f, cA K m3 19 fr] := by
    intro n1
    induction n1 with
    | zero => intro i f r_i r_f hi hk hm2; exfalso; omega
    | succ n1 ih2 =>
      intro i f r_i r_f hi hk hm2
      refine g_iload_n (pc := 2) hC 1 dX10_goesBack_2 rfl rfl ?_
      refine g_bipush (pc := 3) hC (19) dX10_goesBack_3 (by decide) ?_
      refine g_icmp_ge (pc := 5) hC 26 dX10_goesBack_5 (by decide) (by omega) (by omega) (fun c5 => ?_) (fun c5 => ?_)
      · exact g_vret (pc := 26) hR dX10_goesBack_26 rfl ⟨by omega, by omega⟩ (Nat.le_of_ble_eq_true rfl) ⟨f, rfl, rfl, (by first | assumption | omega), (by rw [show (19 : Int) = i by omega]; exact hk)⟩
      · refine g_aload_n (pc := 8) hC 0 dX10_goesBack_8 rfl rfl ?_
        refine g_get (pc := 9) hC 0 fl_X10_9 dX10_goesBack_9 rfl rfl ?_
        refine g_iload_n (pc := 12) hC 1 dX10_goesBack_12 rfl rfl ?_
        refine g_aload_n (pc := 13) hC 0 dX10_goesBack_13 rfl rfl ?_
        refine g_get (pc := 14) hC 0 fl_X10_18 dX10_goesBack_14 rfl rfl ?_
        refine g_iload_n (pc := 17) hC 1 dX10_goesBack_17 rfl rfl ?_
        refine g_iald (pc := 18) hC 2 dX10_goesBack_18 rfl (by omega) ?_
        have q2 := r_fr i
        refine g_iast (pc := 19) hC 1 (fun f9 => [_, cA K _ _ f9, _]) dX10_goesBack_19 rfl (by omega) (fun _ => rfl) (fun f5 e_f5 => ?_)
        have r_f5 := rng_up e_f5 r_f (by omega)
        refine g_iinc (pc := 20) hC 1 [(1, _), (0, _)] dX10_goesBack_20 rfl (by decide) rfl ?_
        refine g_goto (pc := 23) hC 2 dX10_goesBack_23 (by decide) ?_
        refine g_lv hC [1, 0] [(0, _), (1, _)] rfl ?_
        exact ih2 (i + 1) f5 (by first | assumption | omega) (by first | assumption | omega) (by first | assumption | omega) (up_if hi.1 e_f5 hk) (by omega)
  refine g_lv hC [1, 0] [(0, _), (1, _)] rfl ?_
  exact L2 ((19 - 0 : Int).toNat + 1) 0 s (by first | assumption | omega) (by first | assumption | omega) (by first | assumption | omega) (fun j => by rw [if_neg (by omega)]) (by omega)
set_option maxHeartbeats 4000000 in
set_option maxRecDepth 100000 in
theorem k_X10_tellsOf {K : gK} (m0 : Nat) (m1 : Nat) (w_thrown : Value) (w_image : Value) (w_frame : Value) (w_hasImage : Value) (w_act : Value) (w_spot : Value) (w_end : Value) (w_isWrong : Value) (w_open : Value) (w_by : Value) (w_truths : Value) (w_pulls : Value) (w_isKeeping : Value) (w_next : Value) (w_first : Value) (w_order : Value) (w_bestOrder : Value) (w_rooms : Value) (w_leastUnlike : Value) (w_bodies : Value) (w_ran : Value) (w_kind : Value) (w_number : Value) (w_tellsV : Value) (w : Int) (z : Int) (s : Int → Int) (r_w : rI w) (r_z : rI z) (r_s : ∀ j, rI (s j)) (hw : 0 ≤ w ∧ w ≤ 300) (h25 : -1 ≤ s 25 ∧ s 25 ≤ 4) : gFn K yX10_tellsOf cX10_tellsOf 3 (some .int) 0 [.ref m0, .int (iI w), .int (iI z)] [cO m0 10 [w_thrown, .ref m1, w_image, w_frame, w_hasImage, w_act, w_spot, w_end, w_isWrong, w_open, w_by, w_truths, w_pulls, w_isKeeping, w_next, w_first, w_order, w_bestOrder, w_rooms, w_leastUnlike, w_bodies, w_ran, w_kind, w_number, w_tellsV], cA K m1 922 s] (if s 25 = -1 then z else s (w + s 25)) := by
  refine g_enter (by decide +kernel) (Nat.le_of_ble_eq_true rfl) (fun G hC hR => ?_)
  refine g_lv hC [0, 1, 2] [(0, _), (1, _), (2, _)] rfl ?_
  refine g_aload_n (pc := 0) hC 0 dX10_tellsOf_0 rfl rfl ?_
  refine g_get (pc := 1) hC 0 fl_X10_9 dX10_tellsOf_1 rfl rfl ?_
  refine g_bipush (pc := 4) hC (25) dX10_tellsOf_4 (by decide) ?_
  refine g_iald (pc := 6) hC 1 dX10_tellsOf_6 rfl (by omega) ?_
  have q1 := r_s 25
  refine g_iconst (pc := 7) hC dX10_tellsOf_7 ?_
  refine g_icmp_ne (pc := 8) hC 15 dX10_tellsOf_8 (by decide) (by omega) (by omega) (fun c8 => ?_) (fun c8 => ?_)
  · refine g_aload_n (pc := 15) hC 0 dX10_tellsOf_15 rfl rfl ?_
    refine g_get (pc := 16) hC 0 fl_X10_9 dX10_tellsOf_16 rfl rfl ?_
    refine g_iload_n (pc := 19) hC 1 dX10_tellsOf_19 rfl rfl ?_
    refine g_aload_n (pc := 20) hC 0 dX10_tellsOf_20 rfl rfl ?_
    refine g_get (pc := 21) hC 0 fl_X10_9 dX10_tellsOf_21 rfl rfl ?_
    refine g_bipush (pc := 24) hC (25) dX10_tellsOf_24 (by decide) ?_
    refine g_iald (pc := 26) hC 1 dX10_tellsOf_26 rfl (by omega) ?_
    have q2 := r_s 25
    refine g_iadd (pc := 27) hC dX10_tellsOf_27 ?_
    refine g_iald (pc := 28) hC 1 dX10_tellsOf_28 rfl (by omega) ?_
    have q3 := r_s (w + (s 25))
    exact g_iret (pc := 29) hR dX10_tellsOf_29 rfl ⟨by omega, by omega⟩ (Nat.le_of_ble_eq_true rfl) ⟨ret_eq (by omega), rfl⟩
  · refine g_iload_n (pc := 11) hC 2 dX10_tellsOf_11 rfl rfl ?_
    refine g_goto (pc := 12) hC 29 dX10_tellsOf_12 (by decide) ?_
    exact g_iret (pc := 29) hR dX10_tellsOf_29 rfl ⟨by omega, by omega⟩ (Nat.le_of_ble_eq_true rfl) ⟨ret_eq (by omega), rfl⟩
set_option maxHeartbeats 4000000 in
set_option maxRecDepth 100000 in
theorem k_X10_begins {K : gK} (m0 : Nat) (m1 : Nat) (m12 : Nat) (w_thrown : Value) (w_image : Value) (w_frame : Value) (w_hasImage : Value) (w_act : Value) (w_spot : Value) (w_end : Value) (w_isWrong : Value) (w_open : Value) (w_by : Value) (w_truths : Value) (w_isKeeping : Value) (w_next : Value) (w_first : Value) (w_order : Value) (w_bestOrder : Value) (w_rooms : Value) (w_leastUnlike : Value) (w_bodies : Value) (w_ran : Value) (w_kind : Value) (w_number : Value) (w_tellsV : Value) (fu : Int → Int) (r_fu : ∀ j, rI (fu j)) : gMet K yX10_begins cX10_begins 2 none 0 0 0 [.ref m0] [cO m0 10 [w_thrown, .ref m1, w_image, w_frame, w_hasImage, w_act, w_spot, w_end, w_isWrong, w_open, w_by, w_truths, .ref m12, w_isKeeping, w_next, w_first, w_order, w_bestOrder, w_rooms, w_leastUnlike, w_bodies, w_ran, w_kind, w_number, w_tellsV], cA K m12 36000 fu] (fun v9 w9 => ∃ (fu2 : Int → Int), v9 = none ∧ w9 = [cO m0 10 [w_thrown, .ref m1, w_image, w_frame, w_hasImage, w_act, w_spot, w_end, w_isWrong, w_open, w_by, w_truths, .ref m12, .int (iI 1), w_next, w_first, w_order, w_bestOrder, w_rooms, w_leastUnlike, w_bodies, w_ran, w_kind, w_number, w_tellsV], cA K m12 36000 fu2] ∧ (∀ j, rI (fu2 j)) ∧ (∀ j, 0 ≤ j → j < 36000 → fu2 j = 1000000000)) := by
  refine g_enter (by decide +kernel) (Nat.le_of_ble_eq_true rfl) (fun G hC hR => ?_)
  refine g_lv hC [0] [(0, _)] rfl ?_
  refine g_iconst (pc := 0) hC dX10_begins_0 ?_
  refine g_istore_n (pc := 1) hC [(1, _), (0, _)] dX10_begins_1 rfl (by decide) rfl ?_
  have L2 : ∀ (n1 : Nat) (i : Int) (f : Int → Int), (rI i) → (∀ j, rI (f j)) → (0 ≤ i ∧ i ≤ 36000) → (∀ j, 0 ≤ j → j < i → f j = 1000000000) → 36000 - i < (n1 : Int) → G 0 0 2 [(0, .ref m0), (1, .int (iI i))] [] [cO m0 10 [w_thrown, .ref m1, w_image, w_frame, w_hasImage, w_act, w_spot, w_end, w_isWrong, w_open, w_by, w_truths, .ref m12, w_isKeeping, w_next, w_first, w_order, w_bestOrder, w_rooms, w_leastUnlike, w_bodies, w_ran, w_kind, w_number, w_tellsV], cA K m12 36000 f] := by
    intro n1
    induction n1 with
    | zero => intro i f r_i r_f hi hk hm2; exfalso; omega
    | succ n1 ih2 =>
      intro i f r_i r_f hi hk hm2
      refine g_iload_n (pc := 2) hC 1 dX10_begins_2 rfl rfl ?_
      refine g_ldc (pc := 3) hC (36000) wo_X10_28 (by decide) dX10_begins_3 ?_
      refine g_icmp_ge (pc := 5) hC 22 dX10_begins_5 (by decide) (by omega) (by omega) (fun c5 => ?_) (fun c5 => ?_)
      · refine g_aload_n (pc := 22) hC 0 dX10_begins_22 rfl rfl ?_
        refine g_iconst (pc := 23) hC dX10_begins_23 ?_
        refine g_putZ (pc := 24) hC 0 [cO _ _ [_, _, _, _, _, _, _, _, _, _, _, _, _, _, _, _, _, _, _, _, _, _, _, _, _], _] fl_X10_142 dX10_begins_24 rfl (Nat.le_of_ble_eq_true rfl) (by omega) rfl ?_
        exact g_vret (pc := 27) hR dX10_begins_27 rfl ⟨by omega, by omega⟩ (Nat.le_of_ble_eq_true rfl) ⟨f, rfl, rfl, (by first | assumption | omega), (fun j h1 h2 => hk j h1 (by omega))⟩
      · refine g_aload_n (pc := 8) hC 0 dX10_begins_8 rfl rfl ?_
        refine g_get (pc := 9) hC 0 fl_X10_29 dX10_begins_9 rfl rfl ?_
        refine g_iload_n (pc := 12) hC 1 dX10_begins_12 rfl rfl ?_
        refine g_ldc (pc := 13) hC (1000000000) wo_X10_141 (by decide) dX10_begins_13 ?_
        refine g_iast (pc := 15) hC 1 (fun f9 => [_, cA K _ _ f9]) dX10_begins_15 rfl (by omega) (fun _ => rfl) (fun f5 e_f5 => ?_)
        have r_f5 := rng_up e_f5 r_f (by omega)
        refine g_iinc (pc := 16) hC 1 [(1, _), (0, _)] dX10_begins_16 rfl (by decide) rfl ?_
        refine g_goto (pc := 19) hC 2 dX10_begins_19 (by decide) ?_
        refine g_lv hC [1, 0] [(0, _), (1, _)] rfl ?_
        exact ih2 (i + 1) f5 (by first | assumption | omega) (by first | assumption | omega) (by first | assumption | omega) (up_lt (g := fun _ => 1000000000) e_f5 hk) (by omega)
  refine g_lv hC [1, 0] [(0, _), (1, _)] rfl ?_
  exact L2 ((36000 - 0 : Int).toNat + 1) 0 fu (by first | assumption | omega) (by first | assumption | omega) (by first | assumption | omega) (fun j h1 h2 => by omega) (by omega)
set_option maxHeartbeats 4000000 in
set_option maxRecDepth 100000 in
theorem k_X10_ends {K : gK} (m0 : Nat) (m1 : Nat) (w_thrown : Value) (w_image : Value) (w_frame : Value) (w_hasImage : Value) (w_act : Value) (w_spot : Value) (w_end : Value) (w_isWrong : Value) (w_open : Value) (w_by : Value) (w_truths : Value) (w_pulls : Value) (w_isKeeping : Value) (w_next : Value) (w_first : Value) (w_order : Value) (w_bestOrder : Value) (w_rooms : Value) (w_leastUnlike : Value) (w_bodies : Value) (w_ran : Value) (w_kind : Value) (w_number : Value) (w_tellsV : Value) (v : Int) (r_v : rI v) : gMet K yX10_ends cX10_ends 2 (some .int) 0 0 0 [.ref m0, .int (iI v)] [cO m0 10 [w_thrown, .ref m1, w_image, w_frame, w_hasImage, w_act, w_spot, w_end, w_isWrong, w_open, w_by, w_truths, w_pulls, w_isKeeping, w_next, w_first, w_order, w_bestOrder, w_rooms, w_leastUnlike, w_bodies, w_ran, w_kind, w_number, w_tellsV]] (fun v9 w9 => v9 = some (.int (iI v)) ∧ w9 = [cO m0 10 [w_thrown, .ref m1, w_image, w_frame, w_hasImage, w_act, w_spot, w_end, w_isWrong, w_open, w_by, w_truths, w_pulls, .int (iI 0), w_next, w_first, w_order, w_bestOrder, w_rooms, w_leastUnlike, w_bodies, w_ran, w_kind, w_number, w_tellsV]]) := by
  refine g_enter (by decide +kernel) (Nat.le_of_ble_eq_true rfl) (fun G hC hR => ?_)
  refine g_lv hC [0, 1] [(0, _), (1, _)] rfl ?_
  refine g_aload_n (pc := 0) hC 0 dX10_ends_0 rfl rfl ?_
  refine g_iconst (pc := 1) hC dX10_ends_1 ?_
  refine g_putZ (pc := 2) hC 0 [cO _ _ [_, _, _, _, _, _, _, _, _, _, _, _, _, _, _, _, _, _, _, _, _, _, _, _, _]] fl_X10_142 dX10_ends_2 rfl (Nat.le_of_ble_eq_true rfl) (by omega) rfl ?_
  refine g_iload_n (pc := 5) hC 1 dX10_ends_5 rfl rfl ?_
  exact g_iret (pc := 6) hR dX10_ends_6 rfl ⟨by omega, by omega⟩ (Nat.le_of_ble_eq_true rfl) ⟨ret_eq rfl, rfl⟩
set_option maxHeartbeats 4000000 in
set_option maxRecDepth 100000 in
theorem k_X10_pullRead {K : gK} (m0 : Nat) (m1 : Nat) (m10 : Nat) (m11 : Nat) (w_thrown : Value) (w_image : Value) (w_frame : Value) (w_hasImage : Value) (w_act : Value) (w_spot : Value) (w_end : Value) (w_isWrong : Value) (w_open : Value) (w_pulls : Value) (w_isKeeping : Value) (w_next : Value) (w_first : Value) (w_order : Value) (w_bestOrder : Value) (w_rooms : Value) (w_leastUnlike : Value) (w_bodies : Value) (w_ran : Value) (w_kind : Value) (w_number : Value) (w_tellsV : Value) (p : Int) (q : Int) (s : Int → Int) (fb : Int → Int) (ft : Int → Int) (W : (Int → Int) → Int) (rch : Int) (r_p : rI p) (r_q : rI q) (r_s : ∀ j, rI (s j)) (r_fb : ∀ j, rI (fb j)) (r_ft : rZ ft) (hp : 0 ≤ p ∧ p < 6) (hq : 0 ≤ q ∧ q < 6) (hg : md_rg s) (hT : md_TK s W rch) : gMet K yX10_pullRead cX10_pullRead 12 (some .int) 1 0 0 [.ref m0, .int (iI p), .int (iI q)] [cO m0 10 [w_thrown, .ref m1, w_image, w_frame, w_hasImage, w_act, w_spot, w_end, w_isWrong, w_open, .ref m10, .ref m11, w_pulls, w_isKeeping, w_next, w_first, w_order, w_bestOrder, w_rooms, w_leastUnlike, w_bodies, w_ran, w_kind, w_number, w_tellsV], cA K m1 922 s, cA K m10 6 fb, cZ K m11 64 ft] (fun v9 w9 => ∃ (fb2 : Int → Int), ∃ (ft2 : Int → Int), v9 = some (.int (iI (md_pull W s p q))) ∧ w9 = [cO m0 10 [w_thrown, .ref m1, w_image, w_frame, w_hasImage, w_act, w_spot, w_end, w_isWrong, w_open, .ref m10, .ref m11, w_pulls, w_isKeeping, w_next, w_first, w_order, w_bestOrder, w_rooms, w_leastUnlike, w_bodies, w_ran, w_kind, w_number, w_tellsV], cA K m1 922 s, cA K m10 6 fb2, cZ K m11 64 ft2] ∧ (∀ j, rI (fb2 j)) ∧ rZ ft2) := by
  refine g_enter (by decide +kernel) (Nat.le_of_ble_eq_true rfl) (fun G hC hR => ?_)
  refine g_lv hC [0, 1, 2] [(0, _), (1, _), (2, _)] rfl ?_
  have hgp := hg.1 p hp.1 hp.2
  have hgq := hg.1 q hq.1 hq.2
  have hap := md_apart_rng hg hp hq
  have hg0 := hg.2.2.2
  have h25 : -1 ≤ s 25 ∧ s 25 ≤ 4 := by rcases hT.1 with ⟨a, b, c⟩ | ⟨a, b, c⟩ <;> omega
  refine g_aload_n (pc := 0) hC 0 dX10_pullRead_0 rfl rfl ?_
  refine g_get (pc := 1) hC 0 fl_X10_21 dX10_pullRead_1 rfl rfl ?_
  refine g_iconst (pc := 4) hC dX10_pullRead_4 ?_
  refine g_iload_n (pc := 5) hC 1 dX10_pullRead_5 rfl rfl ?_
  refine g_iast (pc := 6) hC 2 (fun f9 => [_, _, cA K _ _ f9, _]) dX10_pullRead_6 rfl (by omega) (fun _ => rfl) (fun f1 e_f1 => ?_)
  have r_f1 := rng_up e_f1 r_fb (by omega)
  refine g_aload_n (pc := 7) hC 0 dX10_pullRead_7 rfl rfl ?_
  refine g_get (pc := 8) hC 0 fl_X10_21 dX10_pullRead_8 rfl rfl ?_
  refine g_iconst (pc := 11) hC dX10_pullRead_11 ?_
  refine g_iload_n (pc := 12) hC 2 dX10_pullRead_12 rfl rfl ?_
  refine g_iast (pc := 13) hC 2 (fun f9 => [_, _, cA K _ _ f9, _]) dX10_pullRead_13 rfl (by omega) (fun _ => rfl) (fun f2 e_f2 => ?_)
  have r_f2 := rng_up e_f2 r_f1 (by omega)
  refine g_aload_n (pc := 14) hC 0 dX10_pullRead_14 rfl rfl ?_
  refine g_get (pc := 15) hC 0 fl_X10_21 dX10_pullRead_15 rfl rfl ?_
  refine g_iconst (pc := 18) hC dX10_pullRead_18 ?_
  refine g_aload_n (pc := 19) hC 0 dX10_pullRead_19 rfl rfl ?_
  refine g_get (pc := 20) hC 0 fl_X10_9 dX10_pullRead_20 rfl rfl ?_
  refine g_bipush (pc := 23) hC (26) dX10_pullRead_23 (by decide) ?_
  refine g_iload_n (pc := 25) hC 1 dX10_pullRead_25 rfl rfl ?_
  refine g_iadd (pc := 26) hC dX10_pullRead_26 ?_
  refine g_iald (pc := 27) hC 1 dX10_pullRead_27 rfl (by omega) ?_
  have q1 := r_s (26 + p)
  refine g_iast (pc := 28) hC 2 (fun f9 => [_, _, cA K _ _ f9, _]) dX10_pullRead_28 rfl (by omega) (fun _ => rfl) (fun f3 e_f3 => ?_)
  have r_f3 := rng_up e_f3 r_f2 (by omega)
  refine g_aload_n (pc := 29) hC 0 dX10_pullRead_29 rfl rfl ?_
  refine g_get (pc := 30) hC 0 fl_X10_21 dX10_pullRead_30 rfl rfl ?_
  refine g_iconst (pc := 33) hC dX10_pullRead_33 ?_
  refine g_aload_n (pc := 34) hC 0 dX10_pullRead_34 rfl rfl ?_
  refine g_get (pc := 35) hC 0 fl_X10_9 dX10_pullRead_35 rfl rfl ?_
  refine g_iconst (pc := 38) hC dX10_pullRead_38 ?_
  refine g_iload_n (pc := 39) hC 2 dX10_pullRead_39 rfl rfl ?_
  refine g_iadd (pc := 40) hC dX10_pullRead_40 ?_
  refine g_iald (pc := 41) hC 1 dX10_pullRead_41 rfl (by omega) ?_
  have q2 := r_s (1 + q)
  refine g_iast (pc := 42) hC 2 (fun f9 => [_, _, cA K _ _ f9, _]) dX10_pullRead_42 rfl (by omega) (fun _ => rfl) (fun f4 e_f4 => ?_)
  have r_f4 := rng_up e_f4 r_f3 (by omega)
  refine g_aload_n (pc := 43) hC 0 dX10_pullRead_43 rfl rfl ?_
  refine g_get (pc := 44) hC 0 fl_X10_21 dX10_pullRead_44 rfl rfl ?_
  refine g_iconst (pc := 47) hC dX10_pullRead_47 ?_
  refine g_aload_n (pc := 48) hC 0 dX10_pullRead_48 rfl rfl ?_
  refine g_iload_n (pc := 49) hC 1 dX10_pullRead_49 rfl rfl ?_
  refine g_iload_n (pc := 50) hC 2 dX10_pullRead_50 rfl rfl ?_
  refine g_fnV (pc := 51) (qr := 0) hC [0, 1] (k_X10_apart _ _ _ _ _ _ _ _ _ _ _ _ _ _ _ _ _ _ _ _ _ _ _ _ _ _ _ _ _ (by first | assumption | omega) (by first | assumption | omega) (by first | assumption | omega) (by first | assumption | omega) (by first | assumption | omega) (md_rm hg)) cl_X10_apart wm_X10_134 dX10_pullRead_51 rfl rfl rfl rfl rfl (by decide) (by decide) ⟨by omega, by omega⟩ (Nat.le_of_ble_eq_true rfl) rfl rfl ?_
  refine g_name hC (fun x1 e_x1 => ?_)
  subst e_x1
  refine g_iast (pc := 54) hC 2 (fun f9 => [_, _, cA K _ _ f9, _]) dX10_pullRead_54 rfl (by omega) (fun _ => rfl) (fun f5 e_f5 => ?_)
  have r_f5 := rng_up e_f5 r_f4 (by omega)
  refine g_aload_n (pc := 55) hC 0 dX10_pullRead_55 rfl rfl ?_
  refine g_get (pc := 56) hC 0 fl_X10_21 dX10_pullRead_56 rfl rfl ?_
  refine g_iconst (pc := 59) hC dX10_pullRead_59 ?_
  refine g_aload_n (pc := 60) hC 0 dX10_pullRead_60 rfl rfl ?_
  refine g_get (pc := 61) hC 0 fl_X10_9 dX10_pullRead_61 rfl rfl ?_
  refine g_iconst (pc := 64) hC dX10_pullRead_64 ?_
  refine g_iald (pc := 65) hC 1 dX10_pullRead_65 rfl (by omega) ?_
  have q3 := r_s 0
  refine g_bipush (pc := 66) hC (10) dX10_pullRead_66 (by decide) ?_
  refine g_irem (pc := 68) hC dX10_pullRead_68 (by omega) (by omega) ?_
  refine g_iast (pc := 69) hC 2 (fun f9 => [_, _, cA K _ _ f9, _]) dX10_pullRead_69 rfl (by omega) (fun _ => rfl) (fun f6 e_f6 => ?_)
  have r_f6 := rng_up e_f6 r_f5 (by omega)
  have hb6 := tk_b6 e_f1 e_f2 e_f3 e_f4 e_f5 e_f6
  have hb4 : f6 4 = md_apart s p q := by rw [hb6 4 (by omega) (by omega)]; rfl
  refine g_bipush (pc := 70) hC (10) dX10_pullRead_70 (by decide) ?_
  refine g_aload_n (pc := 72) hC 0 dX10_pullRead_72 rfl rfl ?_
  refine g_get (pc := 73) hC 0 fl_X10_21 dX10_pullRead_73 rfl rfl ?_
  refine g_iconst (pc := 76) hC dX10_pullRead_76 ?_
  refine g_iald (pc := 77) hC 2 dX10_pullRead_77 rfl (by omega) ?_
  have q4 := r_f6 4
  refine g_isub (pc := 78) hC dX10_pullRead_78 ?_
  refine g_istore_n (pc := 79) hC [(3, _), (0, _), (1, _), (2, _)] dX10_pullRead_79 rfl (by decide) rfl ?_
  refine g_aload_n (pc := 80) hC 1 dX10_pullRead_80 rfl rfl ?_
  refine g_sipush (pc := 81) hC (217) dX10_pullRead_81 (by decide) ?_
  refine g_iconst (pc := 84) hC dX10_pullRead_84 ?_
  refine g_fnV (pc := 85) (qr := 0) hC [0, 1] (k_X10_tellsOf _ _ _ _ _ _ _ _ _ _ _ _ _ _ _ _ _ _ _ _ _ _ _ _ _ _ _ _ _ (by first | assumption | omega) (by first | assumption | omega) (by first | assumption | omega) (by first | assumption | omega) (by first | assumption | omega)) cl_X10_tellsOf wm_X10_138 dX10_pullRead_85 rfl rfl rfl rfl rfl (by decide) (by decide) ⟨by omega, by omega⟩ (Nat.le_of_ble_eq_true rfl) rfl rfl ?_
  refine g_name hC (fun x2 e_x2 => ?_)
  have hx2 : (s 25 = -1 ∧ x2 = 0) ∨ (0 ≤ s 25 ∧ x2 = s (217 + s 25) ∧ 0 ≤ x2 ∧ x2 ≤ 100 ∧ tk_ok (md_tok s) x2.toNat) := by
    by_cases h9 : s 25 = -1
    · rw [if_pos h9] at e_x2; exact Or.inl ⟨h9, e_x2⟩
    · rw [if_neg h9] at e_x2
      rcases hT.1 with ⟨a, b, c⟩ | ⟨a, b, c, d1, d2, d3, d4⟩
      · exact absurd a h9
      · exact Or.inr ⟨a, e_x2, by omega, by omega, by rw [e_x2]; exact d3⟩
  have hx2r : 0 ≤ x2 ∧ x2 ≤ 100 := by rcases hx2 with h9 | h9 <;> omega
  refine g_istore (pc := 88) hC [(4, _), (3, _), (0, _), (1, _), (2, _)] dX10_pullRead_88 (by decide) rfl ?_
  refine g_sipush (pc := 90) hC (222) dX10_pullRead_90 (by decide) ?_
  refine g_sipush (pc := 93) hC (140) dX10_pullRead_93 (by decide) ?_
  refine g_aload_n (pc := 96) hC 2 dX10_pullRead_96 rfl rfl ?_
  refine g_get (pc := 97) hC 0 fl_X10_9 dX10_pullRead_97 rfl rfl ?_
  refine g_bipush (pc := 100) hC (25) dX10_pullRead_100 (by decide) ?_
  refine g_iald (pc := 102) hC 1 dX10_pullRead_102 rfl (by omega) ?_
  have q5 := r_s 25
  refine g_imul (pc := 103) hC dX10_pullRead_103 ?_
  refine g_iadd (pc := 104) hC dX10_pullRead_104 ?_
  refine g_istore (pc := 105) hC [(5, _), (4, _), (3, _), (0, _), (1, _), (2, _)] dX10_pullRead_105 (by decide) rfl ?_
  refine g_iconst (pc := 107) hC dX10_pullRead_107 ?_
  refine g_istore (pc := 108) hC [(6, _), (5, _), (4, _), (3, _), (0, _), (1, _), (2, _)] dX10_pullRead_108 (by decide) rfl ?_
  refine g_iload (pc := 110) hC 1 dX10_pullRead_110 rfl ?_
  refine g_istore (pc := 112) hC [(7, _), (6, _), (5, _), (4, _), (3, _), (0, _), (1, _), (2, _)] dX10_pullRead_112 (by decide) rfl ?_
  have L114 : ∀ (n6 : Nat) (i : Int) (top : Int) (sum : Int) (f : Int → Int) (j : Nat), (rI i) → (rI top) → (rI sum) → (rZ f) → (i = 222 + 140 * s 25 + (j : Int)) → ((j : Int) ≤ x2) → (tkR f top sum (10 - md_apart s p q) (tk_run (md_tok s) (tk_b p q (s (26 + p)) (s (1 + q)) (md_apart s p q) (s 0 % 10)) j)) → x2 - (j : Int) < (n6 : Int) → G 0 0 114 [(0, .ref m0), (1, .int (iI p)), (2, .int (iI q)), (3, .int (iI sum)), (4, .int (iI x2)), (5, .int (iI (222 + (140 * (s 25))))), (6, .int (iI top)), (7, .int (iI i))] [] [cO m0 10 [w_thrown, .ref m1, w_image, w_frame, w_hasImage, w_act, w_spot, w_end, w_isWrong, w_open, .ref m10, .ref m11, w_pulls, w_isKeeping, w_next, w_first, w_order, w_bestOrder, w_rooms, w_leastUnlike, w_bodies, w_ran, w_kind, w_number, w_tellsV], cA K m1 922 s, cA K m10 6 f6, cZ K m11 64 f] := by
    intro n6
    induction n6 with
    | zero => intro i top sum f j r_i r_top r_sum r_f hi hj hz hm114; exfalso; omega
    | succ n6 ih114 =>
      intro i top sum f j r_i r_top r_sum r_f hi hj hz hm114
      refine g_iload (pc := 114) hC 7 dX10_pullRead_114 rfl ?_
      refine g_iload (pc := 116) hC 5 dX10_pullRead_116 rfl ?_
      refine g_iload (pc := 118) hC 4 dX10_pullRead_118 rfl ?_
      refine g_iadd (pc := 120) hC dX10_pullRead_120 ?_
      refine g_icmp_ge (pc := 121) hC 421 dX10_pullRead_121 (by decide) (by omega) (by omega) (fun c121 => ?_) (fun c121 => ?_)
      · refine g_iload_n (pc := 421) hC 3 dX10_pullRead_421 rfl rfl ?_
        exact g_iret (pc := 422) hR dX10_pullRead_422 rfl ⟨by omega, by omega⟩ (Nat.le_of_ble_eq_true rfl) ⟨f6, f, ret_eq (md_pullEnd (x := x2) hT hz (by omega) (fun h9 => by omega) (fun h9 => by omega)), rfl, (by first | assumption | omega), (by first | assumption | omega)⟩
      · refine g_aload_n (pc := 124) hC 0 dX10_pullRead_124 rfl rfl ?_
        refine g_get (pc := 125) hC 0 fl_X10_9 dX10_pullRead_125 rfl rfl ?_
        refine g_iload (pc := 128) hC 7 dX10_pullRead_128 rfl ?_
        refine g_iald (pc := 130) hC 1 dX10_pullRead_130 rfl (by omega) ?_
        have q7 := r_s i
        have hbig : 0 ≤ s 25 ∧ tk_ok (md_tok s) x2.toNat := by
          rcases hx2 with h9 | h9
          · exfalso; omega
          · exact ⟨h9.1, h9.2.2.2.2⟩
        have htk : s i = md_tok s (j : Int) := by rw [hi]; rfl
        obtain ⟨v1, v2, v3, v4, v5, v6⟩ := hbig.2 j (by omega)
        have vD := tk_D_rng hbig.2 j (by omega)
        have vS := tk_sum_rng (b := (tk_b p q (s (26 + p)) (s (1 + q)) (md_apart s p q) (s 0 % 10))) hbig.2 j (by omega)
        rw [← htk] at v1 v2 v3 v4 v5 v6
        rw [← tk_top (md_tok s) (tk_b p q (s (26 + p)) (s (1 + q)) (md_apart s p q) (s 0 % 10)) j] at v1 v2 v3 v4 vD
        rw [← hz.2.1] at v1 v2 v3 v4 vD
        have hsm := hz.2.2
        have hst : tk_run (md_tok s) (tk_b p q (s (26 + p)) (s (1 + q)) (md_apart s p q) (s 0 % 10)) (j + 1) = tk_step (tk_b p q (s (26 + p)) (s (1 + q)) (md_apart s p q) (s 0 % 10)) (tk_run (md_tok s) (tk_b p q (s (26 + p)) (s (1 + q)) (md_apart s p q) (s 0 % 10)) j) (s i) := by rw [htk]; rfl
        refine g_istore (pc := 131) hC [(8, _), (0, _), (1, _), (2, _), (3, _), (4, _), (5, _), (6, _), (7, _)] dX10_pullRead_131 (by decide) rfl ?_
        refine g_iload (pc := 133) hC 0 dX10_pullRead_133 rfl ?_
        refine g_if_lt (pc := 135) hC 232 dX10_pullRead_135 (by decide) (by omega) (fun c135 => ?_) (fun c135 => ?_)
        · refine g_iload (pc := 232) hC 0 dX10_pullRead_232 rfl ?_
          refine g_iconst (pc := 234) hC dX10_pullRead_234 ?_
          refine g_icmp_ne (pc := 235) hC 267 dX10_pullRead_235 (by decide) (by omega) (by omega) (fun c235 => ?_) (fun c235 => ?_)
          · refine g_iload (pc := 267) hC 0 dX10_pullRead_267 rfl ?_
            refine g_bipush (pc := 269) hC (-10) dX10_pullRead_269 (by decide) ?_
            refine g_icmp_le (pc := 271) hC 353 dX10_pullRead_271 (by decide) (by omega) (by omega) (fun c271 => ?_) (fun c271 => ?_)
            · refine g_iconst (pc := 353) hC dX10_pullRead_353 ?_
              refine g_istore (pc := 354) hC [(6, _), (8, _), (0, _), (1, _), (2, _), (3, _), (4, _), (5, _), (7, _)] dX10_pullRead_354 (by decide) rfl ?_
              refine g_aload_n (pc := 356) hC 2 dX10_pullRead_356 rfl rfl ?_
              refine g_get (pc := 357) hC 0 fl_X10_24 dX10_pullRead_357 rfl rfl ?_
              refine g_iconst (pc := 360) hC dX10_pullRead_360 ?_
              refine g_zald (pc := 361) hC 3 dX10_pullRead_361 rfl (by omega) ?_
              have q8 := r_f 0
              have h01 := r_f 0
              refine g_istore (pc := 362) hC [(9, _), (6, _), (8, _), (0, _), (1, _), (2, _), (3, _), (4, _), (5, _), (7, _)] dX10_pullRead_362 (by decide) rfl ?_
              refine g_iload_n (pc := 364) hC 6 dX10_pullRead_364 rfl rfl ?_
              refine g_iload (pc := 365) hC 0 dX10_pullRead_365 rfl ?_
              refine g_if_eq (pc := 367) hC 386 dX10_pullRead_367 (by decide) (by omega) (fun c367 => ?_) (fun c367 => ?_)
              · refine g_iconst (pc := 386) hC dX10_pullRead_386 ?_
                refine g_iadd (pc := 387) hC dX10_pullRead_387 ?_
                refine g_istore_n (pc := 388) hC [(3, _), (9, _), (6, _), (8, _), (0, _), (1, _), (2, _), (4, _), (5, _), (7, _)] dX10_pullRead_388 rfl (by decide) rfl ?_
                refine g_iload_n (pc := 389) hC 0 dX10_pullRead_389 rfl rfl ?_
                refine g_iload (pc := 390) hC 1 dX10_pullRead_390 rfl ?_
                refine g_if_eq (pc := 392) hC 412 dX10_pullRead_392 (by decide) (by omega) (fun c392 => ?_) (fun c392 => ?_)
                · refine g_iconst (pc := 412) hC dX10_pullRead_412 ?_
                  refine g_isub (pc := 413) hC dX10_pullRead_413 ?_
                  refine g_istore_n (pc := 414) hC [(3, _), (9, _), (6, _), (8, _), (0, _), (1, _), (2, _), (4, _), (5, _), (7, _)] dX10_pullRead_414 rfl (by decide) rfl ?_
                  refine g_iinc (pc := 415) hC 9 [(7, _), (3, _), (9, _), (6, _), (8, _), (0, _), (1, _), (2, _), (4, _), (5, _)] dX10_pullRead_415 rfl (by decide) rfl ?_
                  refine g_goto (pc := 418) hC 114 dX10_pullRead_418 (by decide) ?_
                  refine g_lv hC [5, 6, 7, 1, 8, 9, 3, 0] [(0, _), (1, _), (2, _), (3, _), (4, _), (5, _), (6, _), (7, _)] rfl ?_
                  exact ih114 (i + 1) 0 ((sum + 0) - 0) f (j + 1) (by first | assumption | omega) (by first | assumption | omega) (by first | assumption | omega) (by first | assumption | omega) (by first | assumption | omega) (by first | assumption | omega) (by rw [hst]; exact tkR_end hz (by omega) (by omega) (by omega)) (by omega)
                · refine g_iload (pc := 395) hC 3 dX10_pullRead_395 rfl ?_
                  refine g_sipush (pc := 397) hC (-200) dX10_pullRead_397 (by decide) ?_
                  refine g_icmp_gt (pc := 400) hC 412 dX10_pullRead_400 (by decide) (by omega) (by omega) (fun c400 => ?_) (fun c400 => ?_)
                  · refine g_iconst (pc := 412) hC dX10_pullRead_412 ?_
                    refine g_isub (pc := 413) hC dX10_pullRead_413 ?_
                    refine g_istore_n (pc := 414) hC [(3, _), (9, _), (6, _), (8, _), (0, _), (1, _), (2, _), (4, _), (5, _), (7, _)] dX10_pullRead_414 rfl (by decide) rfl ?_
                    refine g_iinc (pc := 415) hC 9 [(7, _), (3, _), (9, _), (6, _), (8, _), (0, _), (1, _), (2, _), (4, _), (5, _)] dX10_pullRead_415 rfl (by decide) rfl ?_
                    refine g_goto (pc := 418) hC 114 dX10_pullRead_418 (by decide) ?_
                    refine g_lv hC [5, 6, 7, 1, 8, 9, 3, 0] [(0, _), (1, _), (2, _), (3, _), (4, _), (5, _), (6, _), (7, _)] rfl ?_
                    exact ih114 (i + 1) 0 ((sum + 0) - 0) f (j + 1) (by first | assumption | omega) (by first | assumption | omega) (by first | assumption | omega) (by first | assumption | omega) (by first | assumption | omega) (by first | assumption | omega) (by rw [hst]; exact tkR_end hz (by omega) (by omega) (by omega)) (by omega)
                  · refine g_sipush (pc := 403) hC (-200) dX10_pullRead_403 (by decide) ?_
                    refine g_iload (pc := 406) hC 3 dX10_pullRead_406 rfl ?_
                    refine g_isub (pc := 408) hC dX10_pullRead_408 ?_
                    refine g_goto (pc := 409) hC 413 dX10_pullRead_409 (by decide) ?_
                    refine g_isub (pc := 413) hC dX10_pullRead_413 ?_
                    refine g_istore_n (pc := 414) hC [(3, _), (9, _), (6, _), (8, _), (0, _), (1, _), (2, _), (4, _), (5, _), (7, _)] dX10_pullRead_414 rfl (by decide) rfl ?_
                    refine g_iinc (pc := 415) hC 9 [(7, _), (3, _), (9, _), (6, _), (8, _), (0, _), (1, _), (2, _), (4, _), (5, _)] dX10_pullRead_415 rfl (by decide) rfl ?_
                    refine g_goto (pc := 418) hC 114 dX10_pullRead_418 (by decide) ?_
                    refine g_lv hC [5, 6, 7, 1, 8, 9, 3, 0] [(0, _), (1, _), (2, _), (3, _), (4, _), (5, _), (6, _), (7, _)] rfl ?_
                    exact ih114 (i + 1) 0 ((sum + 0) - ((-200) - (s i))) f (j + 1) (by first | assumption | omega) (by first | assumption | omega) (by first | assumption | omega) (by first | assumption | omega) (by first | assumption | omega) (by first | assumption | omega) (by rw [hst]; exact tkR_end hz (by omega) (by omega) (by omega)) (by omega)
              · refine g_iload (pc := 370) hC 2 dX10_pullRead_370 rfl ?_
                refine g_sipush (pc := 372) hC (-200) dX10_pullRead_372 (by decide) ?_
                refine g_icmp_le (pc := 375) hC 386 dX10_pullRead_375 (by decide) (by omega) (by omega) (fun c375 => ?_) (fun c375 => ?_)
                · refine g_iconst (pc := 386) hC dX10_pullRead_386 ?_
                  refine g_iadd (pc := 387) hC dX10_pullRead_387 ?_
                  refine g_istore_n (pc := 388) hC [(3, _), (9, _), (6, _), (8, _), (0, _), (1, _), (2, _), (4, _), (5, _), (7, _)] dX10_pullRead_388 rfl (by decide) rfl ?_
                  refine g_iload_n (pc := 389) hC 0 dX10_pullRead_389 rfl rfl ?_
                  refine g_iload (pc := 390) hC 1 dX10_pullRead_390 rfl ?_
                  refine g_if_eq (pc := 392) hC 412 dX10_pullRead_392 (by decide) (by omega) (fun c392 => ?_) (fun c392 => ?_)
                  · refine g_iconst (pc := 412) hC dX10_pullRead_412 ?_
                    refine g_isub (pc := 413) hC dX10_pullRead_413 ?_
                    refine g_istore_n (pc := 414) hC [(3, _), (9, _), (6, _), (8, _), (0, _), (1, _), (2, _), (4, _), (5, _), (7, _)] dX10_pullRead_414 rfl (by decide) rfl ?_
                    refine g_iinc (pc := 415) hC 9 [(7, _), (3, _), (9, _), (6, _), (8, _), (0, _), (1, _), (2, _), (4, _), (5, _)] dX10_pullRead_415 rfl (by decide) rfl ?_
                    refine g_goto (pc := 418) hC 114 dX10_pullRead_418 (by decide) ?_
                    refine g_lv hC [5, 6, 7, 1, 8, 9, 3, 0] [(0, _), (1, _), (2, _), (3, _), (4, _), (5, _), (6, _), (7, _)] rfl ?_
                    exact ih114 (i + 1) 0 ((sum + 0) - 0) f (j + 1) (by first | assumption | omega) (by first | assumption | omega) (by first | assumption | omega) (by first | assumption | omega) (by first | assumption | omega) (by first | assumption | omega) (by rw [hst]; exact tkR_end hz (by omega) (by omega) (by omega)) (by omega)
                  · refine g_iload (pc := 395) hC 3 dX10_pullRead_395 rfl ?_
                    refine g_sipush (pc := 397) hC (-200) dX10_pullRead_397 (by decide) ?_
                    refine g_icmp_gt (pc := 400) hC 412 dX10_pullRead_400 (by decide) (by omega) (by omega) (fun c400 => ?_) (fun c400 => ?_)
                    · refine g_iconst (pc := 412) hC dX10_pullRead_412 ?_
                      refine g_isub (pc := 413) hC dX10_pullRead_413 ?_
                      refine g_istore_n (pc := 414) hC [(3, _), (9, _), (6, _), (8, _), (0, _), (1, _), (2, _), (4, _), (5, _), (7, _)] dX10_pullRead_414 rfl (by decide) rfl ?_
                      refine g_iinc (pc := 415) hC 9 [(7, _), (3, _), (9, _), (6, _), (8, _), (0, _), (1, _), (2, _), (4, _), (5, _)] dX10_pullRead_415 rfl (by decide) rfl ?_
                      refine g_goto (pc := 418) hC 114 dX10_pullRead_418 (by decide) ?_
                      refine g_lv hC [5, 6, 7, 1, 8, 9, 3, 0] [(0, _), (1, _), (2, _), (3, _), (4, _), (5, _), (6, _), (7, _)] rfl ?_
                      exact ih114 (i + 1) 0 ((sum + 0) - 0) f (j + 1) (by first | assumption | omega) (by first | assumption | omega) (by first | assumption | omega) (by first | assumption | omega) (by first | assumption | omega) (by first | assumption | omega) (by rw [hst]; exact tkR_end hz (by omega) (by omega) (by omega)) (by omega)
                    · refine g_sipush (pc := 403) hC (-200) dX10_pullRead_403 (by decide) ?_
                      refine g_iload (pc := 406) hC 3 dX10_pullRead_406 rfl ?_
                      refine g_isub (pc := 408) hC dX10_pullRead_408 ?_
                      refine g_goto (pc := 409) hC 413 dX10_pullRead_409 (by decide) ?_
                      refine g_isub (pc := 413) hC dX10_pullRead_413 ?_
                      refine g_istore_n (pc := 414) hC [(3, _), (9, _), (6, _), (8, _), (0, _), (1, _), (2, _), (4, _), (5, _), (7, _)] dX10_pullRead_414 rfl (by decide) rfl ?_
                      refine g_iinc (pc := 415) hC 9 [(7, _), (3, _), (9, _), (6, _), (8, _), (0, _), (1, _), (2, _), (4, _), (5, _)] dX10_pullRead_415 rfl (by decide) rfl ?_
                      refine g_goto (pc := 418) hC 114 dX10_pullRead_418 (by decide) ?_
                      refine g_lv hC [5, 6, 7, 1, 8, 9, 3, 0] [(0, _), (1, _), (2, _), (3, _), (4, _), (5, _), (6, _), (7, _)] rfl ?_
                      exact ih114 (i + 1) 0 ((sum + 0) - ((-200) - (s i))) f (j + 1) (by first | assumption | omega) (by first | assumption | omega) (by first | assumption | omega) (by first | assumption | omega) (by first | assumption | omega) (by first | assumption | omega) (by rw [hst]; exact tkR_end hz (by omega) (by omega) (by omega)) (by omega)
                · refine g_bipush (pc := 378) hC (-10) dX10_pullRead_378 (by decide) ?_
                  refine g_iload (pc := 380) hC 2 dX10_pullRead_380 rfl ?_
                  refine g_isub (pc := 382) hC dX10_pullRead_382 ?_
                  refine g_goto (pc := 383) hC 387 dX10_pullRead_383 (by decide) ?_
                  refine g_iadd (pc := 387) hC dX10_pullRead_387 ?_
                  refine g_istore_n (pc := 388) hC [(3, _), (9, _), (6, _), (8, _), (0, _), (1, _), (2, _), (4, _), (5, _), (7, _)] dX10_pullRead_388 rfl (by decide) rfl ?_
                  refine g_iload_n (pc := 389) hC 0 dX10_pullRead_389 rfl rfl ?_
                  refine g_iload (pc := 390) hC 1 dX10_pullRead_390 rfl ?_
                  refine g_if_eq (pc := 392) hC 412 dX10_pullRead_392 (by decide) (by omega) (fun c392 => ?_) (fun c392 => ?_)
                  · refine g_iconst (pc := 412) hC dX10_pullRead_412 ?_
                    refine g_isub (pc := 413) hC dX10_pullRead_413 ?_
                    refine g_istore_n (pc := 414) hC [(3, _), (9, _), (6, _), (8, _), (0, _), (1, _), (2, _), (4, _), (5, _), (7, _)] dX10_pullRead_414 rfl (by decide) rfl ?_
                    refine g_iinc (pc := 415) hC 9 [(7, _), (3, _), (9, _), (6, _), (8, _), (0, _), (1, _), (2, _), (4, _), (5, _)] dX10_pullRead_415 rfl (by decide) rfl ?_
                    refine g_goto (pc := 418) hC 114 dX10_pullRead_418 (by decide) ?_
                    refine g_lv hC [5, 6, 7, 1, 8, 9, 3, 0] [(0, _), (1, _), (2, _), (3, _), (4, _), (5, _), (6, _), (7, _)] rfl ?_
                    exact ih114 (i + 1) 0 ((sum + ((-10) - (s i))) - 0) f (j + 1) (by first | assumption | omega) (by first | assumption | omega) (by first | assumption | omega) (by first | assumption | omega) (by first | assumption | omega) (by first | assumption | omega) (by rw [hst]; exact tkR_end hz (by omega) (by omega) (by omega)) (by omega)
                  · refine g_iload (pc := 395) hC 3 dX10_pullRead_395 rfl ?_
                    refine g_sipush (pc := 397) hC (-200) dX10_pullRead_397 (by decide) ?_
                    refine g_icmp_gt (pc := 400) hC 412 dX10_pullRead_400 (by decide) (by omega) (by omega) (fun c400 => ?_) (fun c400 => ?_)
                    · refine g_iconst (pc := 412) hC dX10_pullRead_412 ?_
                      refine g_isub (pc := 413) hC dX10_pullRead_413 ?_
                      refine g_istore_n (pc := 414) hC [(3, _), (9, _), (6, _), (8, _), (0, _), (1, _), (2, _), (4, _), (5, _), (7, _)] dX10_pullRead_414 rfl (by decide) rfl ?_
                      refine g_iinc (pc := 415) hC 9 [(7, _), (3, _), (9, _), (6, _), (8, _), (0, _), (1, _), (2, _), (4, _), (5, _)] dX10_pullRead_415 rfl (by decide) rfl ?_
                      refine g_goto (pc := 418) hC 114 dX10_pullRead_418 (by decide) ?_
                      refine g_lv hC [5, 6, 7, 1, 8, 9, 3, 0] [(0, _), (1, _), (2, _), (3, _), (4, _), (5, _), (6, _), (7, _)] rfl ?_
                      exact ih114 (i + 1) 0 ((sum + ((-10) - (s i))) - 0) f (j + 1) (by first | assumption | omega) (by first | assumption | omega) (by first | assumption | omega) (by first | assumption | omega) (by first | assumption | omega) (by first | assumption | omega) (by rw [hst]; exact tkR_end hz (by omega) (by omega) (by omega)) (by omega)
                    · refine g_sipush (pc := 403) hC (-200) dX10_pullRead_403 (by decide) ?_
                      refine g_iload (pc := 406) hC 3 dX10_pullRead_406 rfl ?_
                      refine g_isub (pc := 408) hC dX10_pullRead_408 ?_
                      refine g_goto (pc := 409) hC 413 dX10_pullRead_409 (by decide) ?_
                      refine g_isub (pc := 413) hC dX10_pullRead_413 ?_
                      refine g_istore_n (pc := 414) hC [(3, _), (9, _), (6, _), (8, _), (0, _), (1, _), (2, _), (4, _), (5, _), (7, _)] dX10_pullRead_414 rfl (by decide) rfl ?_
                      refine g_iinc (pc := 415) hC 9 [(7, _), (3, _), (9, _), (6, _), (8, _), (0, _), (1, _), (2, _), (4, _), (5, _)] dX10_pullRead_415 rfl (by decide) rfl ?_
                      refine g_goto (pc := 418) hC 114 dX10_pullRead_418 (by decide) ?_
                      refine g_lv hC [5, 6, 7, 1, 8, 9, 3, 0] [(0, _), (1, _), (2, _), (3, _), (4, _), (5, _), (6, _), (7, _)] rfl ?_
                      exact ih114 (i + 1) 0 ((sum + ((-10) - (s i))) - ((-200) - (s i))) f (j + 1) (by first | assumption | omega) (by first | assumption | omega) (by first | assumption | omega) (by first | assumption | omega) (by first | assumption | omega) (by first | assumption | omega) (by rw [hst]; exact tkR_end hz (by omega) (by omega) (by omega)) (by omega)
            · refine g_iinc (pc := 274) hC 7 [(6, _), (8, _), (0, _), (1, _), (2, _), (3, _), (4, _), (5, _), (7, _)] dX10_pullRead_274 rfl (by decide) rfl ?_
              have t1 : f (top + -1 - 1) = f (top - 2) := by congr 1; omega
              have t2 : f (top + -1) = f (top - 1) := by congr 1
              refine g_aload_n (pc := 277) hC 2 dX10_pullRead_277 rfl rfl ?_
              refine g_get (pc := 278) hC 0 fl_X10_24 dX10_pullRead_278 rfl rfl ?_
              refine g_iload (pc := 281) hC 0 dX10_pullRead_281 rfl ?_
              refine g_iconst (pc := 283) hC dX10_pullRead_283 ?_
              refine g_isub (pc := 284) hC dX10_pullRead_284 ?_
              refine g_iload (pc := 285) hC 1 dX10_pullRead_285 rfl ?_
              refine g_bipush (pc := 287) hC (-2) dX10_pullRead_287 (by decide) ?_
              refine g_icmp_ne (pc := 289) hC 322 dX10_pullRead_289 (by decide) (by omega) (by omega) (fun c289 => ?_) (fun c289 => ?_)
              · refine g_aload_n (pc := 322) hC 2 dX10_pullRead_322 rfl rfl ?_
                refine g_get (pc := 323) hC 0 fl_X10_24 dX10_pullRead_323 rfl rfl ?_
                refine g_iload (pc := 326) hC 0 dX10_pullRead_326 rfl ?_
                refine g_iconst (pc := 328) hC dX10_pullRead_328 ?_
                refine g_isub (pc := 329) hC dX10_pullRead_329 ?_
                refine g_zald (pc := 330) hC 3 dX10_pullRead_330 rfl (by omega) ?_
                have q9 := r_f ((top + (-1)) - 1)
                have h01 := r_f (top - 2)
                refine g_if_ne (pc := 331) hC 344 dX10_pullRead_331 (by decide) (by omega) (fun c331 => ?_) (fun c331 => ?_)
                · refine g_iconst (pc := 344) hC dX10_pullRead_344 ?_
                  refine g_goto (pc := 345) hC 349 dX10_pullRead_345 (by decide) ?_
                  refine g_zast (pc := 349) hC 3 (fun f9 => [_, _, _, cZ K _ _ f9]) dX10_pullRead_349 rfl (by omega) (by omega) (fun _ => rfl) (fun g1 e_g1 => ?_)
                  have r_g1 := rng_upZ e_g1 r_f (by omega)
                  refine g_goto (pc := 350) hC 415 dX10_pullRead_350 (by decide) ?_
                  refine g_iinc (pc := 415) hC 8 [(7, _), (6, _), (8, _), (0, _), (1, _), (2, _), (3, _), (4, _), (5, _)] dX10_pullRead_415 rfl (by decide) rfl ?_
                  refine g_goto (pc := 418) hC 114 dX10_pullRead_418 (by decide) ?_
                  refine g_lv hC [3, 4, 5, 6, 7, 8, 1, 0] [(0, _), (1, _), (2, _), (3, _), (4, _), (5, _), (6, _), (7, _)] rfl ?_
                  exact ih114 (i + 1) (top + (-1)) sum g1 (j + 1) (by first | assumption | omega) (by first | assumption | omega) (by first | assumption | omega) (by first | assumption | omega) (by first | assumption | omega) (by first | assumption | omega) (by rw [hst]; exact tkR_two hz (by omega) (by omega) e_g1 (by omega) (by omega)) (by omega)
                · refine g_aload_n (pc := 334) hC 2 dX10_pullRead_334 rfl rfl ?_
                  refine g_get (pc := 335) hC 0 fl_X10_24 dX10_pullRead_335 rfl rfl ?_
                  refine g_iload (pc := 338) hC 0 dX10_pullRead_338 rfl ?_
                  refine g_zald (pc := 340) hC 3 dX10_pullRead_340 rfl (by omega) ?_
                  have q10 := r_f (top + (-1))
                  have h02 := r_f (top - 1)
                  refine g_if_eq (pc := 341) hC 348 dX10_pullRead_341 (by decide) (by omega) (fun c341 => ?_) (fun c341 => ?_)
                  · refine g_iconst (pc := 348) hC dX10_pullRead_348 ?_
                    refine g_zast (pc := 349) hC 3 (fun f9 => [_, _, _, cZ K _ _ f9]) dX10_pullRead_349 rfl (by omega) (by omega) (fun _ => rfl) (fun g1 e_g1 => ?_)
                    have r_g1 := rng_upZ e_g1 r_f (by omega)
                    refine g_goto (pc := 350) hC 415 dX10_pullRead_350 (by decide) ?_
                    refine g_iinc (pc := 415) hC 8 [(7, _), (6, _), (8, _), (0, _), (1, _), (2, _), (3, _), (4, _), (5, _)] dX10_pullRead_415 rfl (by decide) rfl ?_
                    refine g_goto (pc := 418) hC 114 dX10_pullRead_418 (by decide) ?_
                    refine g_lv hC [3, 4, 5, 6, 7, 8, 1, 0] [(0, _), (1, _), (2, _), (3, _), (4, _), (5, _), (6, _), (7, _)] rfl ?_
                    exact ih114 (i + 1) (top + (-1)) sum g1 (j + 1) (by first | assumption | omega) (by first | assumption | omega) (by first | assumption | omega) (by first | assumption | omega) (by first | assumption | omega) (by first | assumption | omega) (by rw [hst]; exact tkR_two hz (by omega) (by omega) e_g1 (by omega) (by omega)) (by omega)
                  · refine g_iconst (pc := 344) hC dX10_pullRead_344 ?_
                    refine g_goto (pc := 345) hC 349 dX10_pullRead_345 (by decide) ?_
                    refine g_zast (pc := 349) hC 3 (fun f9 => [_, _, _, cZ K _ _ f9]) dX10_pullRead_349 rfl (by omega) (by omega) (fun _ => rfl) (fun g1 e_g1 => ?_)
                    have r_g1 := rng_upZ e_g1 r_f (by omega)
                    refine g_goto (pc := 350) hC 415 dX10_pullRead_350 (by decide) ?_
                    refine g_iinc (pc := 415) hC 8 [(7, _), (6, _), (8, _), (0, _), (1, _), (2, _), (3, _), (4, _), (5, _)] dX10_pullRead_415 rfl (by decide) rfl ?_
                    refine g_goto (pc := 418) hC 114 dX10_pullRead_418 (by decide) ?_
                    refine g_lv hC [3, 4, 5, 6, 7, 8, 1, 0] [(0, _), (1, _), (2, _), (3, _), (4, _), (5, _), (6, _), (7, _)] rfl ?_
                    exact ih114 (i + 1) (top + (-1)) sum g1 (j + 1) (by first | assumption | omega) (by first | assumption | omega) (by first | assumption | omega) (by first | assumption | omega) (by first | assumption | omega) (by first | assumption | omega) (by rw [hst]; exact tkR_two hz (by omega) (by omega) e_g1 (by omega) (by omega)) (by omega)
              · refine g_aload_n (pc := 292) hC 2 dX10_pullRead_292 rfl rfl ?_
                refine g_get (pc := 293) hC 0 fl_X10_24 dX10_pullRead_293 rfl rfl ?_
                refine g_iload (pc := 296) hC 0 dX10_pullRead_296 rfl ?_
                refine g_iconst (pc := 298) hC dX10_pullRead_298 ?_
                refine g_isub (pc := 299) hC dX10_pullRead_299 ?_
                refine g_zald (pc := 300) hC 3 dX10_pullRead_300 rfl (by omega) ?_
                have q11 := r_f ((top + (-1)) - 1)
                have h01 := r_f (top - 2)
                refine g_if_eq (pc := 301) hC 318 dX10_pullRead_301 (by decide) (by omega) (fun c301 => ?_) (fun c301 => ?_)
                · refine g_iconst (pc := 318) hC dX10_pullRead_318 ?_
                  refine g_goto (pc := 319) hC 349 dX10_pullRead_319 (by decide) ?_
                  refine g_zast (pc := 349) hC 3 (fun f9 => [_, _, _, cZ K _ _ f9]) dX10_pullRead_349 rfl (by omega) (by omega) (fun _ => rfl) (fun g1 e_g1 => ?_)
                  have r_g1 := rng_upZ e_g1 r_f (by omega)
                  refine g_goto (pc := 350) hC 415 dX10_pullRead_350 (by decide) ?_
                  refine g_iinc (pc := 415) hC 8 [(7, _), (6, _), (8, _), (0, _), (1, _), (2, _), (3, _), (4, _), (5, _)] dX10_pullRead_415 rfl (by decide) rfl ?_
                  refine g_goto (pc := 418) hC 114 dX10_pullRead_418 (by decide) ?_
                  refine g_lv hC [3, 4, 5, 6, 7, 8, 1, 0] [(0, _), (1, _), (2, _), (3, _), (4, _), (5, _), (6, _), (7, _)] rfl ?_
                  exact ih114 (i + 1) (top + (-1)) sum g1 (j + 1) (by first | assumption | omega) (by first | assumption | omega) (by first | assumption | omega) (by first | assumption | omega) (by first | assumption | omega) (by first | assumption | omega) (by rw [hst]; exact tkR_two hz (by omega) (by omega) e_g1 (by omega) (by omega)) (by omega)
                · refine g_aload_n (pc := 304) hC 2 dX10_pullRead_304 rfl rfl ?_
                  refine g_get (pc := 305) hC 0 fl_X10_24 dX10_pullRead_305 rfl rfl ?_
                  refine g_iload (pc := 308) hC 0 dX10_pullRead_308 rfl ?_
                  refine g_zald (pc := 310) hC 3 dX10_pullRead_310 rfl (by omega) ?_
                  have q12 := r_f (top + (-1))
                  have h02 := r_f (top - 1)
                  refine g_if_eq (pc := 311) hC 318 dX10_pullRead_311 (by decide) (by omega) (fun c311 => ?_) (fun c311 => ?_)
                  · refine g_iconst (pc := 318) hC dX10_pullRead_318 ?_
                    refine g_goto (pc := 319) hC 349 dX10_pullRead_319 (by decide) ?_
                    refine g_zast (pc := 349) hC 3 (fun f9 => [_, _, _, cZ K _ _ f9]) dX10_pullRead_349 rfl (by omega) (by omega) (fun _ => rfl) (fun g1 e_g1 => ?_)
                    have r_g1 := rng_upZ e_g1 r_f (by omega)
                    refine g_goto (pc := 350) hC 415 dX10_pullRead_350 (by decide) ?_
                    refine g_iinc (pc := 415) hC 8 [(7, _), (6, _), (8, _), (0, _), (1, _), (2, _), (3, _), (4, _), (5, _)] dX10_pullRead_415 rfl (by decide) rfl ?_
                    refine g_goto (pc := 418) hC 114 dX10_pullRead_418 (by decide) ?_
                    refine g_lv hC [3, 4, 5, 6, 7, 8, 1, 0] [(0, _), (1, _), (2, _), (3, _), (4, _), (5, _), (6, _), (7, _)] rfl ?_
                    exact ih114 (i + 1) (top + (-1)) sum g1 (j + 1) (by first | assumption | omega) (by first | assumption | omega) (by first | assumption | omega) (by first | assumption | omega) (by first | assumption | omega) (by first | assumption | omega) (by rw [hst]; exact tkR_two hz (by omega) (by omega) e_g1 (by omega) (by omega)) (by omega)
                  · refine g_iconst (pc := 314) hC dX10_pullRead_314 ?_
                    refine g_goto (pc := 315) hC 349 dX10_pullRead_315 (by decide) ?_
                    refine g_zast (pc := 349) hC 3 (fun f9 => [_, _, _, cZ K _ _ f9]) dX10_pullRead_349 rfl (by omega) (by omega) (fun _ => rfl) (fun g1 e_g1 => ?_)
                    have r_g1 := rng_upZ e_g1 r_f (by omega)
                    refine g_goto (pc := 350) hC 415 dX10_pullRead_350 (by decide) ?_
                    refine g_iinc (pc := 415) hC 8 [(7, _), (6, _), (8, _), (0, _), (1, _), (2, _), (3, _), (4, _), (5, _)] dX10_pullRead_415 rfl (by decide) rfl ?_
                    refine g_goto (pc := 418) hC 114 dX10_pullRead_418 (by decide) ?_
                    refine g_lv hC [3, 4, 5, 6, 7, 8, 1, 0] [(0, _), (1, _), (2, _), (3, _), (4, _), (5, _), (6, _), (7, _)] rfl ?_
                    exact ih114 (i + 1) (top + (-1)) sum g1 (j + 1) (by first | assumption | omega) (by first | assumption | omega) (by first | assumption | omega) (by first | assumption | omega) (by first | assumption | omega) (by first | assumption | omega) (by rw [hst]; exact tkR_two hz (by omega) (by omega) e_g1 (by omega) (by omega)) (by omega)
          · refine g_aload_n (pc := 238) hC 1 dX10_pullRead_238 rfl rfl ?_
            refine g_get (pc := 239) hC 0 fl_X10_24 dX10_pullRead_239 rfl rfl ?_
            refine g_iload (pc := 242) hC 7 dX10_pullRead_242 rfl ?_
            refine g_iconst (pc := 244) hC dX10_pullRead_244 ?_
            refine g_isub (pc := 245) hC dX10_pullRead_245 ?_
            refine g_aload_n (pc := 246) hC 1 dX10_pullRead_246 rfl rfl ?_
            refine g_get (pc := 247) hC 0 fl_X10_24 dX10_pullRead_247 rfl rfl ?_
            refine g_iload (pc := 250) hC 7 dX10_pullRead_250 rfl ?_
            refine g_iconst (pc := 252) hC dX10_pullRead_252 ?_
            refine g_isub (pc := 253) hC dX10_pullRead_253 ?_
            refine g_zald (pc := 254) hC 3 dX10_pullRead_254 rfl (by omega) ?_
            have q13 := r_f (top - 1)
            have h01 := r_f (top - 1)
            refine g_if_ne (pc := 255) hC 262 dX10_pullRead_255 (by decide) (by omega) (fun c255 => ?_) (fun c255 => ?_)
            · refine g_iconst (pc := 262) hC dX10_pullRead_262 ?_
              refine g_zast (pc := 263) hC 3 (fun f9 => [_, _, _, cZ K _ _ f9]) dX10_pullRead_263 rfl (by omega) (by omega) (fun _ => rfl) (fun g1 e_g1 => ?_)
              have r_g1 := rng_upZ e_g1 r_f (by omega)
              refine g_goto (pc := 264) hC 415 dX10_pullRead_264 (by decide) ?_
              refine g_iinc (pc := 415) hC 8 [(7, _), (8, _), (0, _), (1, _), (2, _), (3, _), (4, _), (5, _), (6, _)] dX10_pullRead_415 rfl (by decide) rfl ?_
              refine g_goto (pc := 418) hC 114 dX10_pullRead_418 (by decide) ?_
              refine g_lv hC [2, 3, 4, 5, 6, 7, 8, 0] [(0, _), (1, _), (2, _), (3, _), (4, _), (5, _), (6, _), (7, _)] rfl ?_
              exact ih114 (i + 1) top sum g1 (j + 1) (by first | assumption | omega) (by first | assumption | omega) (by first | assumption | omega) (by first | assumption | omega) (by first | assumption | omega) (by first | assumption | omega) (by rw [hst]; exact tkR_not hz c235 (by omega) e_g1 (by omega)) (by omega)
            · refine g_iconst (pc := 258) hC dX10_pullRead_258 ?_
              refine g_goto (pc := 259) hC 263 dX10_pullRead_259 (by decide) ?_
              refine g_zast (pc := 263) hC 3 (fun f9 => [_, _, _, cZ K _ _ f9]) dX10_pullRead_263 rfl (by omega) (by omega) (fun _ => rfl) (fun g1 e_g1 => ?_)
              have r_g1 := rng_upZ e_g1 r_f (by omega)
              refine g_goto (pc := 264) hC 415 dX10_pullRead_264 (by decide) ?_
              refine g_iinc (pc := 415) hC 8 [(7, _), (8, _), (0, _), (1, _), (2, _), (3, _), (4, _), (5, _), (6, _)] dX10_pullRead_415 rfl (by decide) rfl ?_
              refine g_goto (pc := 418) hC 114 dX10_pullRead_418 (by decide) ?_
              refine g_lv hC [2, 3, 4, 5, 6, 7, 8, 0] [(0, _), (1, _), (2, _), (3, _), (4, _), (5, _), (6, _), (7, _)] rfl ?_
              exact ih114 (i + 1) top sum g1 (j + 1) (by first | assumption | omega) (by first | assumption | omega) (by first | assumption | omega) (by first | assumption | omega) (by first | assumption | omega) (by first | assumption | omega) (by rw [hst]; exact tkR_not hz c235 (by omega) e_g1 (by omega)) (by omega)
        · refine g_aload_n (pc := 138) hC 1 dX10_pullRead_138 rfl rfl ?_
          refine g_get (pc := 139) hC 0 fl_X10_21 dX10_pullRead_139 rfl rfl ?_
          refine g_iload (pc := 142) hC 0 dX10_pullRead_142 rfl ?_
          refine g_bipush (pc := 144) hC (8) dX10_pullRead_144 (by decide) ?_
          refine g_irem (pc := 146) hC dX10_pullRead_146 (by omega) (by omega) ?_
          refine g_iald (pc := 147) hC 2 dX10_pullRead_147 rfl (by omega) ?_
          have q14 := r_f6 ((s i) % 8)
          have hb9 := hb6 (s i % 8) (by omega) (by omega)
          refine g_istore (pc := 148) hC [(9, _), (8, _), (0, _), (1, _), (2, _), (3, _), (4, _), (5, _), (6, _), (7, _)] dX10_pullRead_148 (by decide) rfl ?_
          refine g_iload (pc := 150) hC 1 dX10_pullRead_150 rfl ?_
          refine g_bipush (pc := 152) hC (8) dX10_pullRead_152 (by decide) ?_
          refine g_idiv (pc := 154) hC dX10_pullRead_154 (by omega) (by omega) ?_
          refine g_iconst (pc := 155) hC dX10_pullRead_155 ?_
          refine g_irem (pc := 156) hC dX10_pullRead_156 (by omega) (by omega) ?_
          refine g_istore (pc := 157) hC [(10, _), (9, _), (8, _), (0, _), (1, _), (2, _), (3, _), (4, _), (5, _), (6, _), (7, _)] dX10_pullRead_157 (by decide) rfl ?_
          refine g_iload (pc := 159) hC 2 dX10_pullRead_159 rfl ?_
          refine g_bipush (pc := 161) hC (32) dX10_pullRead_161 (by decide) ?_
          refine g_idiv (pc := 163) hC dX10_pullRead_163 (by omega) (by omega) ?_
          refine g_istore (pc := 164) hC [(11, _), (10, _), (9, _), (8, _), (0, _), (1, _), (2, _), (3, _), (4, _), (5, _), (6, _), (7, _)] dX10_pullRead_164 (by decide) rfl ?_
          have J225 : ∀ (x : Int), (rI x) → (x = tk_test (tk_b p q (s (26 + p)) (s (1 + q)) (md_apart s p q) (s 0 % 10)) (s i)) → G 0 0 225 [(0, .ref m0), (1, .int (iI p)), (2, .int (iI q)), (3, .int (iI sum)), (4, .int (iI x2)), (5, .int (iI (222 + (140 * (s 25))))), (6, .int (iI top)), (7, .int (iI i)), (8, .int (iI (s i))), (9, .int (iI (f6 ((s i) % 8)))), (10, .int (iI (((s i) / 8) % 4))), (11, .int (iI ((s i) / 32)))] [.int (iI x), .int (iI top), .ref m11] [cO m0 10 [w_thrown, .ref m1, w_image, w_frame, w_hasImage, w_act, w_spot, w_end, w_isWrong, w_open, .ref m10, .ref m11, w_pulls, w_isKeeping, w_next, w_first, w_order, w_bestOrder, w_rooms, w_leastUnlike, w_bodies, w_ran, w_kind, w_number, w_tellsV], cA K m1 922 s, cA K m10 6 f6, cZ K m11 64 f] := by
            intro x r_x hx
            have h01 := tk_test_01 (tk_b p q (s (26 + p)) (s (1 + q)) (md_apart s p q) (s 0 % 10)) (s i)
            refine g_zast (pc := 225) hC 3 (fun f9 => [_, _, _, cZ K _ _ f9]) dX10_pullRead_225 rfl (by omega) (by omega) (fun _ => rfl) (fun g1 e_g1 => ?_)
            have r_g1 := rng_upZ e_g1 r_f (by omega)
            refine g_iinc (pc := 226) hC 6 [(6, _), (0, _), (1, _), (2, _), (3, _), (4, _), (5, _), (7, _), (8, _), (9, _), (10, _), (11, _)] dX10_pullRead_226 rfl (by decide) rfl ?_
            refine g_goto (pc := 229) hC 415 dX10_pullRead_229 (by decide) ?_
            refine g_iinc (pc := 415) hC 7 [(7, _), (6, _), (0, _), (1, _), (2, _), (3, _), (4, _), (5, _), (8, _), (9, _), (10, _), (11, _)] dX10_pullRead_415 rfl (by decide) rfl ?_
            refine g_goto (pc := 418) hC 114 dX10_pullRead_418 (by decide) ?_
            refine g_lv hC [2, 3, 4, 5, 6, 7, 1, 0] [(0, _), (1, _), (2, _), (3, _), (4, _), (5, _), (6, _), (7, _)] rfl ?_
            exact ih114 (i + 1) (top + 1) sum g1 (j + 1) (by first | assumption | omega) (by first | assumption | omega) (by first | assumption | omega) (by first | assumption | omega) (by first | assumption | omega) (by first | assumption | omega) (by rw [hst]; exact tkR_test hz (by omega) (by rw [e_g1, hx])) (by omega)
          refine g_aload_n (pc := 166) hC 4 dX10_pullRead_166 rfl rfl ?_
          refine g_get (pc := 167) hC 0 fl_X10_24 dX10_pullRead_167 rfl rfl ?_
          refine g_iload (pc := 170) hC 10 dX10_pullRead_170 rfl ?_
          refine g_iload (pc := 172) hC 1 dX10_pullRead_172 rfl ?_
          refine g_if_ne (pc := 174) hC 192 dX10_pullRead_174 (by decide) (by omega) (fun c174 => ?_) (fun c174 => ?_)
          · refine g_iload (pc := 192) hC 1 dX10_pullRead_192 rfl ?_
            refine g_iconst (pc := 194) hC dX10_pullRead_194 ?_
            refine g_icmp_ne (pc := 195) hC 213 dX10_pullRead_195 (by decide) (by omega) (by omega) (fun c195 => ?_) (fun c195 => ?_)
            · refine g_iload (pc := 213) hC 2 dX10_pullRead_213 rfl ?_
              refine g_iload (pc := 215) hC 0 dX10_pullRead_215 rfl ?_
              refine g_icmp_le (pc := 217) hC 224 dX10_pullRead_217 (by decide) (by omega) (by omega) (fun c217 => ?_) (fun c217 => ?_)
              · refine g_iconst (pc := 224) hC dX10_pullRead_224 ?_
                refine g_lv hC [4, 5, 6, 7, 8, 9, 10, 11, 3, 2, 1, 0] [(0, _), (1, _), (2, _), (3, _), (4, _), (5, _), (6, _), (7, _), (8, _), (9, _), (10, _), (11, _)] rfl ?_
                exact J225 0 (by first | assumption | omega) (by unfold tk_test; rw [← hb9]; (repeat' split) <;> omega)
              · refine g_iconst (pc := 220) hC dX10_pullRead_220 ?_
                refine g_goto (pc := 221) hC 225 dX10_pullRead_221 (by decide) ?_
                refine g_lv hC [4, 5, 6, 7, 8, 9, 10, 11, 3, 2, 1, 0] [(0, _), (1, _), (2, _), (3, _), (4, _), (5, _), (6, _), (7, _), (8, _), (9, _), (10, _), (11, _)] rfl ?_
                exact J225 1 (by first | assumption | omega) (by unfold tk_test; rw [← hb9]; (repeat' split) <;> omega)
            · refine g_iload (pc := 198) hC 2 dX10_pullRead_198 rfl ?_
              refine g_iload (pc := 200) hC 0 dX10_pullRead_200 rfl ?_
              refine g_icmp_ne (pc := 202) hC 209 dX10_pullRead_202 (by decide) (by omega) (by omega) (fun c202 => ?_) (fun c202 => ?_)
              · refine g_iconst (pc := 209) hC dX10_pullRead_209 ?_
                refine g_goto (pc := 210) hC 225 dX10_pullRead_210 (by decide) ?_
                refine g_lv hC [4, 5, 6, 7, 8, 9, 10, 11, 3, 2, 1, 0] [(0, _), (1, _), (2, _), (3, _), (4, _), (5, _), (6, _), (7, _), (8, _), (9, _), (10, _), (11, _)] rfl ?_
                exact J225 0 (by first | assumption | omega) (by unfold tk_test; rw [← hb9]; (repeat' split) <;> omega)
              · refine g_iconst (pc := 205) hC dX10_pullRead_205 ?_
                refine g_goto (pc := 206) hC 225 dX10_pullRead_206 (by decide) ?_
                refine g_lv hC [4, 5, 6, 7, 8, 9, 10, 11, 3, 2, 1, 0] [(0, _), (1, _), (2, _), (3, _), (4, _), (5, _), (6, _), (7, _), (8, _), (9, _), (10, _), (11, _)] rfl ?_
                exact J225 1 (by first | assumption | omega) (by unfold tk_test; rw [← hb9]; (repeat' split) <;> omega)
          · refine g_iload (pc := 177) hC 2 dX10_pullRead_177 rfl ?_
            refine g_iload (pc := 179) hC 0 dX10_pullRead_179 rfl ?_
            refine g_icmp_ge (pc := 181) hC 188 dX10_pullRead_181 (by decide) (by omega) (by omega) (fun c181 => ?_) (fun c181 => ?_)
            · refine g_iconst (pc := 188) hC dX10_pullRead_188 ?_
              refine g_goto (pc := 189) hC 225 dX10_pullRead_189 (by decide) ?_
              refine g_lv hC [4, 5, 6, 7, 8, 9, 10, 11, 3, 2, 1, 0] [(0, _), (1, _), (2, _), (3, _), (4, _), (5, _), (6, _), (7, _), (8, _), (9, _), (10, _), (11, _)] rfl ?_
              exact J225 0 (by first | assumption | omega) (by unfold tk_test; rw [← hb9]; (repeat' split) <;> omega)
            · refine g_iconst (pc := 184) hC dX10_pullRead_184 ?_
              refine g_goto (pc := 185) hC 225 dX10_pullRead_185 (by decide) ?_
              refine g_lv hC [4, 5, 6, 7, 8, 9, 10, 11, 3, 2, 1, 0] [(0, _), (1, _), (2, _), (3, _), (4, _), (5, _), (6, _), (7, _), (8, _), (9, _), (10, _), (11, _)] rfl ?_
              exact J225 1 (by first | assumption | omega) (by unfold tk_test; rw [← hb9]; (repeat' split) <;> omega)
  refine g_lv hC [5, 6, 7, 4, 3, 2, 1, 0] [(0, _), (1, _), (2, _), (3, _), (4, _), (5, _), (6, _), (7, _)] rfl ?_
  exact L114 ((x2 - (0 : Int) : Int).toNat + 1) (222 + (140 * (s 25))) 0 (10 - (f6 4)) ft 0 (by first | assumption | omega) (by first | assumption | omega) (by first | assumption | omega) (by first | assumption | omega) (by first | assumption | omega) (by first | assumption | omega) ⟨fun k h1 h2 => by omega, rfl, by rw [hb4]; show _ = 10 - md_apart s p q + 0; omega⟩ (by omega)
