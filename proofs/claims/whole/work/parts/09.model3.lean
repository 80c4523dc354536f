theorem iI_wrap {x : Int} (hx : -4294967296 ≤ x ∧ x < 4294967296) : (iI x).toInt = x ∨ (iI x).toInt = x + 4294967296 ∨ (iI x).toInt = x - 4294967296 := by
  have h : (iI x).toInt = x.bmod 4294967296 := Int32.toInt_ofInt
  rw [h]
  unfold Int.bmod
  have h2 : ((4294967296 : Nat) : Int) = 4294967296 := rfl
  simp only [h2]
  split <;> omega
theorem g_wrap {G : gG} {K : gK} {y : MethodName} {cc : ByteArray} {nL n mc ms co so pc : Nat} {lv : List (Nat × Value)} {st : List Value} {ws : va_W} (_ : gC G K y cc nL n mc ms) {x : Int} (hx : -4294967296 ≤ x ∧ x < 4294967296) (kk : ∀ z : Int, rI z → (z = x ∨ z = x + 4294967296 ∨ z = x - 4294967296) → G co so pc lv (.int (iI z) :: st) ws) : G co so pc lv (.int (iI x) :: st) ws := by
  have h := kk (iI x).toInt (iI_rng _) (iI_wrap hx)
  rwa [iI_as] at h
theorem md_set_s {s : Int → Int} {i x : Int} {j : Nat} (hi : i = (j : Int)) (hs : x = md_set s j) : bOr x (if s (7 + i) = 0 then bShl 1 (s (1 + i)) else 0) = md_set s (j + 1) := by
  rw [hs, hi]
  rfl
def md_awb (s : Int → Int) : Nat → Int
  | 0 => 0
  | p + 1 => bOr (md_awb s p) (bShl (s (7 + (p : Int))) (p : Int))
def md_F (W : (Int → Int) → Int) (rch : Int) (s : Int → Int) : Nat → Int
  | 0 => -5
  | n + 1 => if md_F W rch s n = -5 then (if md_unl (md_goN W rch s n) < 2 then (n : Int) else -5) else md_F W rch s n
theorem md_F_s {W : (Int → Int) → Int} {rch : Int} {s f : Int → Int} {i x : Int} {j : Nat} (hi : i = (j : Int)) (hf : f = md_goN W rch s j) (h : md_F W rch s j = -5) (hx : x = if md_unl f < 2 then i else -5) : x = md_F W rch s (j + 1) := by
  unfold md_F
  rw [if_pos h, hx, hf, hi]
theorem md_F_rng (W : (Int → Int) → Int) (rch : Int) (s : Int → Int) : ∀ n : Nat, md_F W rch s n = -5 ∨ (0 ≤ md_F W rch s n ∧ md_F W rch s n < (n : Int))
  | 0 => Or.inl rfl
  | n + 1 => by
    have ih := md_F_rng W rch s n
    unfold md_F
    (repeat' split) <;> omega
theorem md_F_st {W : (Int → Int) → Int} {rch : Int} {s : Int → Int} {n : Nat} (h : ¬ md_F W rch s n = -5) : ∀ k : Nat, md_F W rch s (n + k) = md_F W rch s n
  | 0 => rfl
  | k + 1 => by
    have ih := md_F_st h k
    rw [show md_F W rch s (n + (k + 1)) = if md_F W rch s (n + k) = -5 then (if md_unl (md_goN W rch s (n + k)) < 2 then ((n + k : Nat) : Int) else -5) else md_F W rch s (n + k) from rfl, ih, if_neg h]
theorem md_F_end {W : (Int → Int) → Int} {rch : Int} {s : Int → Int} {n : Nat} (hn : n ≤ 61) (h : n = 61 ∨ ¬ md_F W rch s n = -5) : md_F W rch s n = md_F W rch s 61 := by
  rcases h with h | h
  · rw [h]
  · have e := md_F_st h (61 - n)
    rw [← e, show n + (61 - n) = 61 by omega]
/-! THE CALLS: what each answers (an), and the row behind it (ne) -/
def an_feed (s : Int → Int) (g : Int) : Int := if 0 ≤ g ∧ g ≤ 127 then (if s 24 = 100 then -4 else s 24 + 1) else -2
def ne_feed (s : Int → Int) (g : Int) : Int → Int := if 0 ≤ g ∧ g ≤ 127 ∧ s 24 ≠ 100 then upI (upI s (112 + s 24) g) 24 (s 24 + 1) else s
def ok_man (kind room st : Int) : Prop := (0 ≤ kind ∧ kind ≤ 6) ∧ (0 ≤ room ∧ room ≤ 9) ∧ (0 ≤ st ∧ st ≤ 9)
def an_man (s : Int → Int) (kind v room st : Int) : Int := if (0 ≤ kind ∧ kind ≤ 6) ∧ (0 ≤ room ∧ room ≤ 9) ∧ (0 ≤ st ∧ st ≤ 9) then (if 0 ≤ v ∧ v ≤ 9 then (if s 19 = 6 then -4 else s 19) else -2) else -1
def ne_manS (s : Int → Int) (kind v room st : Int) : Int → Int := fun j => if j = 19 then s 19 + 1 else if 38 + 4 * s 19 ≤ j ∧ j < 38 + 4 * s 19 + 4 then 0 else if j = 7 + s 19 then 0 else if j = 1 + s 19 then st else if j = 13 + s 19 then room else if j = 32 + s 19 then v else if j = 26 + s 19 then kind else s j
def ne_man (s : Int → Int) (kind v room st : Int) : Int → Int := if ((0 ≤ kind ∧ kind ≤ 6) ∧ (0 ≤ room ∧ room ≤ 9) ∧ (0 ≤ st ∧ st ≤ 9)) ∧ (0 ≤ v ∧ v ≤ 9) ∧ s 19 ≠ 6 then ne_manS s kind v room st else s
def an_of (W : (Int → Int) → Int) (rch : Int) (s : Int → Int) (p w : Int) : Int := if 0 ≤ p ∧ p < s 19 then (if w = 0 then s (26 + p) else if w = 1 then s (32 + p) else if w = 2 then s (13 + p) else if w = 3 then s (1 + p) else if w = 4 then s (7 + p) else if w = 5 then md_lead W rch s p else if w = 6 then md_next W rch s p else -1) else -1
def an_pull (W : (Int → Int) → Int) (s : Int → Int) (p q : Int) : Int := if (0 ≤ p ∧ p < s 19) ∧ (0 ≤ q ∧ q < s 19) ∧ p ≠ q then md_pull W s p q else -999999
def an_row (s : Int → Int) (p k x : Int) : Int := if (0 ≤ p ∧ p < s 19) ∧ (0 ≤ k ∧ k ≤ 3) then (if 0 ≤ x ∧ x ≤ 9 then (if s (26 + p) = 6 then s (38 + 4 * p + k) else -3) else -2) else -1
def ne_row (s : Int → Int) (p k x : Int) : Int → Int := if ((0 ≤ p ∧ p < s 19) ∧ (0 ≤ k ∧ k ≤ 3)) ∧ (0 ≤ x ∧ x ≤ 9) ∧ s (26 + p) = 6 then upI s (38 + 4 * p + k) x else s
def an_set (s : Int → Int) (p w x : Int) : Int := if (0 ≤ p ∧ p < s 19) ∧ (0 ≤ w ∧ w ≤ 1) ∧ (0 ≤ x ∧ x ≤ 9) then s ((if w = 0 then 13 else 1) + p) else -1
def ne_set (s : Int → Int) (p w x : Int) : Int → Int := if (0 ≤ p ∧ p < s 19) ∧ (0 ≤ w ∧ w ≤ 1) ∧ (0 ≤ x ∧ x ≤ 9) then upI s ((if w = 0 then 13 else 1) + p) x else s
def an_away (s : Int → Int) (p : Int) : Int := if 0 ≤ p ∧ p < s 19 then s (7 + p) else -1
def ne_away (s : Int → Int) (p z : Int) : Int → Int := if 0 ≤ p ∧ p < s 19 then upI s (7 + p) (if z = 0 then 0 else 1) else s
def an_told (W : (Int → Int) → Int) (rch : Int) (s : Int → Int) (w : Int) : Int := if w = 0 then s 0 else if w = 1 then rch else if w = 2 then md_unl s else if w = 3 then md_F W rch s 61 else if w = 4 then md_awb s (s 19).toNat else -1
def an_pass (s : Int → Int) (x : Int) : Int := if 0 ≤ x ∧ x ≤ 60 then (if 9999 < s 0 + x then -3 else s 0 + x) else -2
def ne_pass (W : (Int → Int) → Int) (rch : Int) (s : Int → Int) (x : Int) : Int → Int := if (0 ≤ x ∧ x ≤ 60) ∧ s 0 + x ≤ 9999 then md_goN W rch s x.toNat else s
def an_on (W : (Int → Int) → Int) (rch : Int) (s : Int → Int) (x w : Int) : Int := if w = 0 ∨ (10 ≤ w ∧ w < 10 + s 19) then (if 0 ≤ x ∧ x ≤ 60 then (if w = 0 then md_unl (md_goN W rch s x.toNat) else md_goN W rch s x.toNat (1 + w - 10)) else -2) else -1
set_option maxHeartbeats 4000000 in
set_option maxRecDepth 100000 in
theorem k_X10_unlike {K : gK} (m0 : Nat) (m1 : Nat) (w_thrown : Value) (w_image : Value) (w_frame : Value) (w_hasImage : Value) (w_act : Value) (w_spot : Value) (w_end : Value) (w_isWrong : Value) (w_open : Value) (w_by : Value) (w_truths : Value) (w_pulls : Value) (w_isKeeping : Value) (w_next : Value) (w_first : Value) (w_order : Value) (w_bestOrder : Value) (w_rooms : Value) (w_leastUnlike : Value) (w_bodies : Value) (w_ran : Value) (w_kind : Value) (w_number : Value) (w_tellsV : Value) (s : Int → Int) (r_s : ∀ j, rI (s j)) (hg : md_rg s) : gFn K yX10_unlike cX10_unlike 4 (some .int) 0 [.ref m0] [cO m0 10 [w_thrown, .ref m1, w_image, w_frame, w_hasImage, w_act, w_spot, w_end, w_isWrong, w_open, w_by, w_truths, w_pulls, w_isKeeping, w_next, w_first, w_order, w_bestOrder, w_rooms, w_leastUnlike, w_bodies, w_ran, w_kind, w_number, w_tellsV], cA K m1 922 s] (md_unl s) := by
  refine g_enter (by decide +kernel) (Nat.le_of_ble_eq_true rfl) (fun G hC hR => ?_)
  refine g_lv hC [0] [(0, _)] rfl ?_
  have hg0 := hg.2.2.2
  have h19 := hg.2.2.1
  refine g_iconst (pc := 0) hC dX10_unlike_0 ?_
  refine g_istore_n (pc := 1) hC [(1, _), (0, _)] dX10_unlike_1 rfl (by decide) rfl ?_
  refine g_iconst (pc := 2) hC dX10_unlike_2 ?_
  refine g_istore_n (pc := 3) hC [(2, _), (1, _), (0, _)] dX10_unlike_3 rfl (by decide) rfl ?_
  have L4 : ∀ (n1 : Nat) (i : Int) (x : Int) (j : Nat), (rI i) → (rI x) → (i = (j : Int)) → (i ≤ s 19) → (x = md_set s j) → s 19 - i < (n1 : Int) → G 0 0 4 [(0, .ref m0), (1, .int (iI x)), (2, .int (iI i))] [] [cO m0 10 [w_thrown, .ref m1, w_image, w_frame, w_hasImage, w_act, w_spot, w_end, w_isWrong, w_open, w_by, w_truths, w_pulls, w_isKeeping, w_next, w_first, w_order, w_bestOrder, w_rooms, w_leastUnlike, w_bodies, w_ran, w_kind, w_number, w_tellsV], cA K m1 922 s] := by
    intro n1
    induction n1 with
    | zero => intro i x j r_i r_x hi hj hs hm4; exfalso; omega
    | succ n1 ih4 =>
      intro i x j r_i r_x hi hj hs hm4
      refine g_iload_n (pc := 4) hC 2 dX10_unlike_4 rfl rfl ?_
      refine g_aload_n (pc := 5) hC 0 dX10_unlike_5 rfl rfl ?_
      refine g_get (pc := 6) hC 0 fl_X10_9 dX10_unlike_6 rfl rfl ?_
      refine g_bipush (pc := 9) hC (19) dX10_unlike_9 (by decide) ?_
      refine g_iald (pc := 11) hC 1 dX10_unlike_11 rfl (by omega) ?_
      have q2 := r_s 19
      refine g_icmp_ge (pc := 12) hC 50 dX10_unlike_12 (by decide) (by omega) (by omega) (fun c12 => ?_) (fun c12 => ?_)
      · refine g_iconst (pc := 50) hC dX10_unlike_50 ?_
        refine g_istore_n (pc := 51) hC [(2, _), (0, _), (1, _)] dX10_unlike_51 rfl (by decide) rfl ?_
        refine g_iconst (pc := 52) hC dX10_unlike_52 ?_
        refine g_istore_n (pc := 53) hC [(3, _), (2, _), (0, _), (1, _)] dX10_unlike_53 rfl (by decide) rfl ?_
        have L54 : ∀ (n3 : Nat) (k : Int) (y : Int) (j2 : Nat), (rI k) → (rI y) → (k = (j2 : Int) ∧ k ≤ 10) → (y = md_cnt x j2) → 10 - k < (n3 : Int) → G 0 0 54 [(0, .ref m0), (1, .int (iI x)), (2, .int (iI y)), (3, .int (iI k))] [] [cO m0 10 [w_thrown, .ref m1, w_image, w_frame, w_hasImage, w_act, w_spot, w_end, w_isWrong, w_open, w_by, w_truths, w_pulls, w_isKeeping, w_next, w_first, w_order, w_bestOrder, w_rooms, w_leastUnlike, w_bodies, w_ran, w_kind, w_number, w_tellsV], cA K m1 922 s] := by
          intro n3
          induction n3 with
          | zero => intro k y j2 r_k r_y hk hy hm54; exfalso; omega
          | succ n3 ih54 =>
            intro k y j2 r_k r_y hk hy hm54
            have hc1 := md_cnt_rng x j2
            have hc2 := bAnd_1 (bShr x k)
            refine g_iload_n (pc := 54) hC 3 dX10_unlike_54 rfl rfl ?_
            refine g_bipush (pc := 55) hC (10) dX10_unlike_55 (by decide) ?_
            refine g_icmp_ge (pc := 57) hC 74 dX10_unlike_57 (by decide) (by omega) (by omega) (fun c57 => ?_) (fun c57 => ?_)
            · refine g_iload_n (pc := 74) hC 2 dX10_unlike_74 rfl rfl ?_
              exact g_iret (pc := 75) hR dX10_unlike_75 rfl ⟨by omega, by omega⟩ (Nat.le_of_ble_eq_true rfl) ⟨ret_eq (by unfold md_unl; rw [hy, show (s 19).toNat = j by omega, ← hs, show j2 = 10 by omega]), rfl⟩
            · refine g_iload_n (pc := 60) hC 2 dX10_unlike_60 rfl rfl ?_
              refine g_iload_n (pc := 61) hC 1 dX10_unlike_61 rfl rfl ?_
              refine g_iload_n (pc := 62) hC 3 dX10_unlike_62 rfl rfl ?_
              refine g_ishr (pc := 63) hC dX10_unlike_63 ?_
              refine g_iconst (pc := 64) hC dX10_unlike_64 ?_
              refine g_iand (pc := 65) hC dX10_unlike_65 ?_
              refine g_iadd (pc := 66) hC dX10_unlike_66 ?_
              refine g_istore_n (pc := 67) hC [(2, _), (0, _), (1, _), (3, _)] dX10_unlike_67 rfl (by decide) rfl ?_
              refine g_iinc (pc := 68) hC 3 [(3, _), (2, _), (0, _), (1, _)] dX10_unlike_68 rfl (by decide) rfl ?_
              refine g_goto (pc := 71) hC 54 dX10_unlike_71 (by decide) ?_
              refine g_lv hC [2, 3, 1, 0] [(0, _), (1, _), (2, _), (3, _)] rfl ?_
              exact ih54 (k + 1) (y + (bAnd (bShr x k) 1)) (j2 + 1) (by first | assumption | omega) (by first | assumption | omega) (by first | assumption | omega) (by rw [hy, hk.1]; rfl) (by omega)
        refine g_lv hC [2, 3, 1, 0] [(0, _), (1, _), (2, _), (3, _)] rfl ?_
        exact L54 ((10 - 0 : Int).toNat + 1) 0 0 0 (by first | assumption | omega) (by first | assumption | omega) (by first | assumption | omega) rfl (by omega)
      · have hgi := hg.1 i (by omega) (by omega)
        refine g_iload_n (pc := 15) hC 1 dX10_unlike_15 rfl rfl ?_
        refine g_aload_n (pc := 16) hC 0 dX10_unlike_16 rfl rfl ?_
        refine g_get (pc := 17) hC 0 fl_X10_9 dX10_unlike_17 rfl rfl ?_
        refine g_bipush (pc := 20) hC (7) dX10_unlike_20 (by decide) ?_
        refine g_iload_n (pc := 22) hC 2 dX10_unlike_22 rfl rfl ?_
        refine g_iadd (pc := 23) hC dX10_unlike_23 ?_
        refine g_iald (pc := 24) hC 1 dX10_unlike_24 rfl (by omega) ?_
        have q4 := r_s (7 + i)
        refine g_if_ne (pc := 25) hC 41 dX10_unlike_25 (by decide) (by omega) (fun c25 => ?_) (fun c25 => ?_)
        · refine g_iconst (pc := 41) hC dX10_unlike_41 ?_
          refine g_ior (pc := 42) hC dX10_unlike_42 ?_
          refine g_istore_n (pc := 43) hC [(1, _), (0, _), (2, _)] dX10_unlike_43 rfl (by decide) rfl ?_
          refine g_iinc (pc := 44) hC 2 [(2, _), (1, _), (0, _)] dX10_unlike_44 rfl (by decide) rfl ?_
          refine g_goto (pc := 47) hC 4 dX10_unlike_47 (by decide) ?_
          refine g_lv hC [2, 1, 0] [(0, _), (1, _), (2, _)] rfl ?_
          exact ih4 (i + 1) (bOr x 0) (j + 1) (by first | assumption | omega) (bOr_rng _ _) (by first | assumption | omega) (by first | assumption | omega) (by rw [← md_set_s hi hs, if_neg c25]) (by omega)
        · refine g_iconst (pc := 28) hC dX10_unlike_28 ?_
          refine g_aload_n (pc := 29) hC 0 dX10_unlike_29 rfl rfl ?_
          refine g_get (pc := 30) hC 0 fl_X10_9 dX10_unlike_30 rfl rfl ?_
          refine g_iconst (pc := 33) hC dX10_unlike_33 ?_
          refine g_iload_n (pc := 34) hC 2 dX10_unlike_34 rfl rfl ?_
          refine g_iadd (pc := 35) hC dX10_unlike_35 ?_
          refine g_iald (pc := 36) hC 1 dX10_unlike_36 rfl (by omega) ?_
          have q5 := r_s (1 + i)
          refine g_ishl (pc := 37) hC dX10_unlike_37 ?_
          refine g_goto (pc := 38) hC 42 dX10_unlike_38 (by decide) ?_
          refine g_ior (pc := 42) hC dX10_unlike_42 ?_
          refine g_istore_n (pc := 43) hC [(1, _), (0, _), (2, _)] dX10_unlike_43 rfl (by decide) rfl ?_
          refine g_iinc (pc := 44) hC 2 [(2, _), (1, _), (0, _)] dX10_unlike_44 rfl (by decide) rfl ?_
          refine g_goto (pc := 47) hC 4 dX10_unlike_47 (by decide) ?_
          refine g_lv hC [2, 1, 0] [(0, _), (1, _), (2, _)] rfl ?_
          exact ih4 (i + 1) (bOr x (bShl 1 (s (1 + i)))) (j + 1) (by first | assumption | omega) (bOr_rng _ _) (by first | assumption | omega) (by first | assumption | omega) (by rw [← md_set_s hi hs, if_pos c25]) (by omega)
  refine g_lv hC [2, 1, 0] [(0, _), (1, _), (2, _)] rfl ?_
  exact L4 ((s 19 - 0 : Int).toNat + 1) 0 0 0 (by first | assumption | omega) (by first | assumption | omega) (by first | assumption | omega) (by first | assumption | omega) rfl (by omega)
set_option maxHeartbeats 4000000 in
set_option maxRecDepth 100000 in
theorem k_X10_becomes {K : gK} (m0 : Nat) (m1 : Nat) (w_thrown : Value) (w_image : Value) (w_frame : Value) (w_hasImage : Value) (w_act : Value) (w_spot : Value) (w_end : Value) (w_isWrong : Value) (w_open : Value) (w_by : Value) (w_truths : Value) (w_pulls : Value) (w_isKeeping : Value) (w_next : Value) (w_first : Value) (w_order : Value) (w_bestOrder : Value) (w_rooms : Value) (w_leastUnlike : Value) (w_bodies : Value) (w_ran : Value) (w_kind : Value) (w_number : Value) (w_tellsV : Value) (w : Int) (x : Int) (s : Int → Int) (r_w : rI w) (r_x : rI x) (r_s : ∀ j, rI (s j)) (hw : 0 ≤ w ∧ w < 922) : gMet K yX10_becomes cX10_becomes 4 (some .int) 0 0 0 [.ref m0, .int (iI w), .int (iI x)] [cO m0 10 [w_thrown, .ref m1, w_image, w_frame, w_hasImage, w_act, w_spot, w_end, w_isWrong, w_open, w_by, w_truths, w_pulls, w_isKeeping, w_next, w_first, w_order, w_bestOrder, w_rooms, w_leastUnlike, w_bodies, w_ran, w_kind, w_number, w_tellsV], cA K m1 922 s] (fun v9 w9 => ∃ (s2 : Int → Int), v9 = some (.int (iI (s w))) ∧ w9 = [cO m0 10 [w_thrown, .ref m1, w_image, w_frame, w_hasImage, w_act, w_spot, w_end, w_isWrong, w_open, w_by, w_truths, w_pulls, w_isKeeping, w_next, w_first, w_order, w_bestOrder, w_rooms, w_leastUnlike, w_bodies, w_ran, w_kind, w_number, w_tellsV], cA K m1 922 s2] ∧ (∀ j, rI (s2 j)) ∧ (s2 = upI s w x)) := by
  refine g_enter (by decide +kernel) (Nat.le_of_ble_eq_true rfl) (fun G hC hR => ?_)
  refine g_lv hC [0, 1, 2] [(0, _), (1, _), (2, _)] rfl ?_
  refine g_aload_n (pc := 0) hC 0 dX10_becomes_0 rfl rfl ?_
  refine g_get (pc := 1) hC 0 fl_X10_9 dX10_becomes_1 rfl rfl ?_
  refine g_iload_n (pc := 4) hC 1 dX10_becomes_4 rfl rfl ?_
  refine g_iald (pc := 5) hC 1 dX10_becomes_5 rfl (by omega) ?_
  have q1 := r_s w
  refine g_istore_n (pc := 6) hC [(3, _), (0, _), (1, _), (2, _)] dX10_becomes_6 rfl (by decide) rfl ?_
  refine g_aload_n (pc := 7) hC 1 dX10_becomes_7 rfl rfl ?_
  refine g_get (pc := 8) hC 0 fl_X10_9 dX10_becomes_8 rfl rfl ?_
  refine g_iload_n (pc := 11) hC 2 dX10_becomes_11 rfl rfl ?_
  refine g_iload_n (pc := 12) hC 3 dX10_becomes_12 rfl rfl ?_
  refine g_iast (pc := 13) hC 1 (fun f9 => [_, cA K _ _ f9]) dX10_becomes_13 rfl (by omega) (fun _ => rfl) (fun s4 e_s4 => ?_)
  have r_s4 := rng_up e_s4 r_s (by omega)
  refine g_iload_n (pc := 14) hC 0 dX10_becomes_14 rfl rfl ?_
  exact g_iret (pc := 15) hR dX10_becomes_15 rfl ⟨by omega, by omega⟩ (Nat.le_of_ble_eq_true rfl) ⟨s4, ret_eq rfl, rfl, (by first | assumption | omega), e_s4⟩
set_option maxHeartbeats 4000000 in
set_option maxRecDepth 100000 in
theorem k_X10_awayOnes {K : gK} (m0 : Nat) (m1 : Nat) (w_thrown : Value) (w_image : Value) (w_frame : Value) (w_hasImage : Value) (w_act : Value) (w_spot : Value) (w_end : Value) (w_isWrong : Value) (w_open : Value) (w_by : Value) (w_truths : Value) (w_pulls : Value) (w_isKeeping : Value) (w_next : Value) (w_first : Value) (w_order : Value) (w_bestOrder : Value) (w_rooms : Value) (w_leastUnlike : Value) (w_bodies : Value) (w_ran : Value) (w_kind : Value) (w_number : Value) (w_tellsV : Value) (s : Int → Int) (r_s : ∀ j, rI (s j)) (hg : md_rg s) : gFn K yX10_awayOnes cX10_awayOnes 3 (some .int) 0 [.ref m0] [cO m0 10 [w_thrown, .ref m1, w_image, w_frame, w_hasImage, w_act, w_spot, w_end, w_isWrong, w_open, w_by, w_truths, w_pulls, w_isKeeping, w_next, w_first, w_order, w_bestOrder, w_rooms, w_leastUnlike, w_bodies, w_ran, w_kind, w_number, w_tellsV], cA K m1 922 s] (md_awb s (s 19).toNat) := by
  refine g_enter (by decide +kernel) (Nat.le_of_ble_eq_true rfl) (fun G hC hR => ?_)
  refine g_lv hC [0] [(0, _)] rfl ?_
  have hg0 := hg.2.2.2
  have h19 := hg.2.2.1
  refine g_iconst (pc := 0) hC dX10_awayOnes_0 ?_
  refine g_istore_n (pc := 1) hC [(1, _), (0, _)] dX10_awayOnes_1 rfl (by decide) rfl ?_
  refine g_iconst (pc := 2) hC dX10_awayOnes_2 ?_
  refine g_istore_n (pc := 3) hC [(2, _), (1, _), (0, _)] dX10_awayOnes_3 rfl (by decide) rfl ?_
  have L4 : ∀ (n1 : Nat) (i : Int) (x : Int) (j : Nat), (rI i) → (rI x) → (i = (j : Int)) → (i ≤ s 19) → (x = md_awb s j) → s 19 - i < (n1 : Int) → G 0 0 4 [(0, .ref m0), (1, .int (iI x)), (2, .int (iI i))] [] [cO m0 10 [w_thrown, .ref m1, w_image, w_frame, w_hasImage, w_act, w_spot, w_end, w_isWrong, w_open, w_by, w_truths, w_pulls, w_isKeeping, w_next, w_first, w_order, w_bestOrder, w_rooms, w_leastUnlike, w_bodies, w_ran, w_kind, w_number, w_tellsV], cA K m1 922 s] := by
    intro n1
    induction n1 with
    | zero => intro i x j r_i r_x hi hj hs hm4; exfalso; omega
    | succ n1 ih4 =>
      intro i x j r_i r_x hi hj hs hm4
      refine g_iload_n (pc := 4) hC 2 dX10_awayOnes_4 rfl rfl ?_
      refine g_aload_n (pc := 5) hC 0 dX10_awayOnes_5 rfl rfl ?_
      refine g_get (pc := 6) hC 0 fl_X10_9 dX10_awayOnes_6 rfl rfl ?_
      refine g_bipush (pc := 9) hC (19) dX10_awayOnes_9 (by decide) ?_
      refine g_iald (pc := 11) hC 1 dX10_awayOnes_11 rfl (by omega) ?_
      have q2 := r_s 19
      refine g_icmp_ge (pc := 12) hC 35 dX10_awayOnes_12 (by decide) (by omega) (by omega) (fun c12 => ?_) (fun c12 => ?_)
      · refine g_iload_n (pc := 35) hC 1 dX10_awayOnes_35 rfl rfl ?_
        exact g_iret (pc := 36) hR dX10_awayOnes_36 rfl ⟨by omega, by omega⟩ (Nat.le_of_ble_eq_true rfl) ⟨ret_eq (by rw [hs, show (s 19).toNat = j by omega]), rfl⟩
      · refine g_iload_n (pc := 15) hC 1 dX10_awayOnes_15 rfl rfl ?_
        refine g_aload_n (pc := 16) hC 0 dX10_awayOnes_16 rfl rfl ?_
        refine g_get (pc := 17) hC 0 fl_X10_9 dX10_awayOnes_17 rfl rfl ?_
        refine g_bipush (pc := 20) hC (7) dX10_awayOnes_20 (by decide) ?_
        refine g_iload_n (pc := 22) hC 2 dX10_awayOnes_22 rfl rfl ?_
        refine g_iadd (pc := 23) hC dX10_awayOnes_23 ?_
        refine g_iald (pc := 24) hC 1 dX10_awayOnes_24 rfl (by omega) ?_
        have q3 := r_s (7 + i)
        refine g_iload_n (pc := 25) hC 2 dX10_awayOnes_25 rfl rfl ?_
        refine g_ishl (pc := 26) hC dX10_awayOnes_26 ?_
        refine g_ior (pc := 27) hC dX10_awayOnes_27 ?_
        refine g_istore_n (pc := 28) hC [(1, _), (0, _), (2, _)] dX10_awayOnes_28 rfl (by decide) rfl ?_
        refine g_iinc (pc := 29) hC 2 [(2, _), (1, _), (0, _)] dX10_awayOnes_29 rfl (by decide) rfl ?_
        refine g_goto (pc := 32) hC 4 dX10_awayOnes_32 (by decide) ?_
        refine g_lv hC [2, 1, 0] [(0, _), (1, _), (2, _)] rfl ?_
        exact ih4 (i + 1) (bOr x (bShl (s (7 + i)) i)) (j + 1) (by first | assumption | omega) (bOr_rng _ _) (by first | assumption | omega) (by first | assumption | omega) (by rw [hs, hi]; rfl) (by omega)
  refine g_lv hC [2, 1, 0] [(0, _), (1, _), (2, _)] rfl ?_
  exact L4 ((s 19 - 0 : Int).toNat + 1) 0 0 0 (by first | assumption | omega) (by first | assumption | omega) (by first | assumption | omega) (by first | assumption | omega) rfl (by omega)
set_option maxHeartbeats 4000000 in
set_option maxRecDepth 100000 in
theorem k_X10_settles {K : gK} (m0 : Nat) (m1 : Nat) (m3 : Nat) (m10 : Nat) (m11 : Nat) (m12 : Nat) (m14 : Nat) (w_thrown : Value) (w_image : Value) (w_hasImage : Value) (w_act : Value) (w_spot : Value) (w_end : Value) (w_isWrong : Value) (w_open : Value) (w_first : Value) (w_order : Value) (w_bestOrder : Value) (w_rooms : Value) (w_leastUnlike : Value) (w_bodies : Value) (w_ran : Value) (w_kind : Value) (w_number : Value) (w_tellsV : Value) (ik : Int) (s : Int → Int) (fr : Int → Int) (fb : Int → Int) (ft : Int → Int) (fu : Int → Int) (fn : Int → Int) (W : (Int → Int) → Int) (rch : Int) (r_ik : rI ik) (r_s : ∀ j, rI (s j)) (r_fr : ∀ j, rI (fr j)) (r_fb : ∀ j, rI (fb j)) (r_ft : rZ ft) (r_fu : ∀ j, rI (fu j)) (r_fn : ∀ j, rI (fn j)) (hg : md_rg s) (h0 : s 0 + 61 ≤ 20000) (hT : md_TK s W rch) (hk : ik = 0 ∨ (ik = 1 ∧ md_PC W (fun z => s (26 + z)) fu)) : gMet K yX10_settles cX10_settles 3 (some .int) 6 0 0 [.ref m0] [cO m0 10 [w_thrown, .ref m1, w_image, .ref m3, w_hasImage, w_act, w_spot, w_end, w_isWrong, w_open, .ref m10, .ref m11, .ref m12, .int (iI ik), .ref m14, w_first, w_order, w_bestOrder, w_rooms, w_leastUnlike, w_bodies, w_ran, w_kind, w_number, w_tellsV], cA K m1 922 s, cA K m3 19 fr, cA K m10 6 fb, cZ K m11 64 ft, cA K m12 36000 fu, cA K m14 6 fn] (fun v9 w9 => ∃ (fr2 : Int → Int), ∃ (fb2 : Int → Int), ∃ (ft2 : Int → Int), ∃ (fu2 : Int → Int), ∃ (fn2 : Int → Int), v9 = some (.int (iI (md_F W rch s 61))) ∧ w9 = [cO m0 10 [w_thrown, .ref m1, w_image, .ref m3, w_hasImage, w_act, w_spot, w_end, w_isWrong, w_open, .ref m10, .ref m11, .ref m12, .int (iI ik), .ref m14, w_first, w_order, w_bestOrder, w_rooms, w_leastUnlike, w_bodies, w_ran, w_kind, w_number, w_tellsV], cA K m1 922 s, cA K m3 19 fr2, cA K m10 6 fb2, cZ K m11 64 ft2, cA K m12 36000 fu2, cA K m14 6 fn2] ∧ (∀ j, rI (fr2 j)) ∧ (∀ j, rI (fb2 j)) ∧ rZ ft2 ∧ (∀ j, rI (fu2 j)) ∧ (∀ j, rI (fn2 j)) ∧ (ik = 0 ∨ (ik = 1 ∧ md_PC W (fun z => s (26 + z)) fu2))) := by
  refine g_enter (by decide +kernel) (Nat.le_of_ble_eq_true rfl) (fun G hC hR => ?_)
  refine g_lv hC [0] [(0, _)] rfl ?_
  have hg0 := hg.2.2.2
  have h19 := hg.2.2.1
  refine g_aload_n (pc := 0) hC 0 dX10_settles_0 rfl rfl ?_
  refine g_callV (pc := 1) (qr := 0) hC [0, 1, 2] (k_X10_keeps _ _ _ _ _ _ _ _ _ _ _ _ _ _ _ _ _ _ _ _ _ _ _ _ _ _ _ _ (by first | assumption | omega) (by first | assumption | omega)) cl_X10_keeps wm_X10_169 dX10_settles_1 rfl rfl rfl rfl rfl (by decide) (by decide) (by omega) (Nat.le_of_ble_eq_true rfl) rfl (fun v9 w9 hq9 => ?_)
  obtain ⟨fr1, rfl, rfl, r_fr1, hkp⟩ := hq9
  refine g_ws hC [cO m0 10 [w_thrown, .ref m1, w_image, .ref m3, w_hasImage, w_act, w_spot, w_end, w_isWrong, w_open, .ref m10, .ref m11, .ref m12, .int (iI ik), .ref m14, w_first, w_order, w_bestOrder, w_rooms, w_leastUnlike, w_bodies, w_ran, w_kind, w_number, w_tellsV], cA K m1 922 s, cA K m3 19 fr1, cA K m10 6 fb, cZ K m11 64 ft, cA K m12 36000 fu, cA K m14 6 fn] rfl ?_
  refine g_st hC [] rfl ?_
  refine g_bipush (pc := 4) hC (-5) dX10_settles_4 (by decide) ?_
  refine g_istore_n (pc := 6) hC [(1, _), (0, _)] dX10_settles_6 rfl (by decide) rfl ?_
  refine g_iconst (pc := 7) hC dX10_settles_7 ?_
  refine g_istore_n (pc := 8) hC [(2, _), (1, _), (0, _)] dX10_settles_8 rfl (by decide) rfl ?_
  have L9 : ∀ (n2 : Nat) (i : Int) (x : Int) (f0 : Int → Int) (f1 : Int → Int) (f2 : Int → Int) (f3 : Int → Int) (f4 : Int → Int) (j : Nat), (rI i) → (rI x) → (∀ j, rI (f0 j)) → (∀ j, rI (f1 j)) → (rZ f2) → (∀ j, rI (f3 j)) → (∀ j, rI (f4 j)) → (i = (j : Int)) → (i ≤ 61) → (f0 = md_goN W rch s j) → (x = md_F W rch s j) → (ik = 0 ∨ (ik = 1 ∧ md_PC W (fun z => s (26 + z)) f3)) → 61 - i < (n2 : Int) → G 0 0 9 [(0, .ref m0), (1, .int (iI x)), (2, .int (iI i))] [] [cO m0 10 [w_thrown, .ref m1, w_image, .ref m3, w_hasImage, w_act, w_spot, w_end, w_isWrong, w_open, .ref m10, .ref m11, .ref m12, .int (iI ik), .ref m14, w_first, w_order, w_bestOrder, w_rooms, w_leastUnlike, w_bodies, w_ran, w_kind, w_number, w_tellsV], cA K m1 922 f0, cA K m3 19 fr1, cA K m10 6 f1, cZ K m11 64 f2, cA K m12 36000 f3, cA K m14 6 f4] := by
    intro n2
    induction n2 with
    | zero => intro i x f0 f1 f2 f3 f4 j r_i r_x r_f0 r_f1 r_f2 r_f3 r_f4 hi hj hf hx hk3 hm9; exfalso; omega
    | succ n2 ih9 =>
      intro i x f0 f1 f2 f3 f4 j r_i r_x r_f0 r_f1 r_f2 r_f3 r_f4 hi hj hf hx hk3 hm9
      have hFr := md_F_rng W rch s j
      have hgj : md_rg f0 := by rw [hf]; exact md_goN_rg hg j (by omega)
      have hTj : md_TK f0 W rch := by rw [hf]; exact md_TK_same (fun z hz => md_goN_hi h19.2 (by omega) j) hT
      have hkj : ∀ u : Int → Int, md_PC W (fun z => f0 (26 + z)) u ↔ md_PC W (fun z => s (26 + z)) u := by
        intro u
        exact md_PC_kd (fun z hz hz2 => by rw [hf]; exact md_goN_hi h19.2 (by omega) j)
      refine g_iload_n (pc := 9) hC 2 dX10_settles_9 rfl rfl ?_
      refine g_bipush (pc := 10) hC (60) dX10_settles_10 (by decide) ?_
      refine g_icmp_gt (pc := 12) hC 46 dX10_settles_12 (by decide) (by omega) (by omega) (fun c12 => ?_) (fun c12 => ?_)
      · refine g_aload_n (pc := 46) hC 0 dX10_settles_46 rfl rfl ?_
        refine g_callV (pc := 47) (qr := 0) hC [0, 1, 2] (k_X10_goesBack _ _ _ _ _ _ _ _ _ _ _ _ _ _ _ _ _ _ _ _ _ _ _ _ _ _ _ _ (by first | assumption | omega) (by first | assumption | omega)) cl_X10_goesBack wm_X10_178 dX10_settles_47 rfl rfl rfl rfl rfl (by decide) (by decide) (by omega) (Nat.le_of_ble_eq_true rfl) rfl (fun v9 w9 hq9 => ?_)
        obtain ⟨s3, rfl, rfl, r_s3, hb_47⟩ := hq9
        refine g_ws hC [cO m0 10 [w_thrown, .ref m1, w_image, .ref m3, w_hasImage, w_act, w_spot, w_end, w_isWrong, w_open, .ref m10, .ref m11, .ref m12, .int (iI ik), .ref m14, w_first, w_order, w_bestOrder, w_rooms, w_leastUnlike, w_bodies, w_ran, w_kind, w_number, w_tellsV], cA K m1 922 s3, cA K m3 19 fr1, cA K m10 6 f1, cZ K m11 64 f2, cA K m12 36000 f3, cA K m14 6 f4] rfl ?_
        refine g_st hC [] rfl ?_
        rw [show (s3 : Int → Int) = s from (md_back hkp (fun z hz => by rw [hf]; exact md_goN_out h19.2 (by omega) _) hb_47)]
        refine g_iload_n (pc := 50) hC 1 dX10_settles_50 rfl rfl ?_
        exact g_iret (pc := 51) hR dX10_settles_51 rfl ⟨by omega, by omega⟩ (Nat.le_of_ble_eq_true rfl) ⟨fr1, f1, f2, f3, f4, ret_eq (by rw [hx]; exact md_F_end (by omega) (by omega)), rfl, (by first | assumption | omega), (by first | assumption | omega), (by first | assumption | omega), (by first | assumption | omega), (by first | assumption | omega), hk3⟩
      · refine g_iload_n (pc := 15) hC 1 dX10_settles_15 rfl rfl ?_
        refine g_bipush (pc := 16) hC (-5) dX10_settles_16 (by decide) ?_
        refine g_icmp_ne (pc := 18) hC 46 dX10_settles_18 (by decide) (by omega) (by omega) (fun c18 => ?_) (fun c18 => ?_)
        · refine g_aload_n (pc := 46) hC 0 dX10_settles_46 rfl rfl ?_
          refine g_callV (pc := 47) (qr := 0) hC [0, 1, 2] (k_X10_goesBack _ _ _ _ _ _ _ _ _ _ _ _ _ _ _ _ _ _ _ _ _ _ _ _ _ _ _ _ (by first | assumption | omega) (by first | assumption | omega)) cl_X10_goesBack wm_X10_178 dX10_settles_47 rfl rfl rfl rfl rfl (by decide) (by decide) (by omega) (Nat.le_of_ble_eq_true rfl) rfl (fun v9 w9 hq9 => ?_)
          obtain ⟨s3, rfl, rfl, r_s3, hb_47⟩ := hq9
          refine g_ws hC [cO m0 10 [w_thrown, .ref m1, w_image, .ref m3, w_hasImage, w_act, w_spot, w_end, w_isWrong, w_open, .ref m10, .ref m11, .ref m12, .int (iI ik), .ref m14, w_first, w_order, w_bestOrder, w_rooms, w_leastUnlike, w_bodies, w_ran, w_kind, w_number, w_tellsV], cA K m1 922 s3, cA K m3 19 fr1, cA K m10 6 f1, cZ K m11 64 f2, cA K m12 36000 f3, cA K m14 6 f4] rfl ?_
          refine g_st hC [] rfl ?_
          rw [show (s3 : Int → Int) = s from (md_back hkp (fun z hz => by rw [hf]; exact md_goN_out h19.2 (by omega) _) hb_47)]
          refine g_iload_n (pc := 50) hC 1 dX10_settles_50 rfl rfl ?_
          exact g_iret (pc := 51) hR dX10_settles_51 rfl ⟨by omega, by omega⟩ (Nat.le_of_ble_eq_true rfl) ⟨fr1, f1, f2, f3, f4, ret_eq (by rw [hx]; exact md_F_end (by omega) (by omega)), rfl, (by first | assumption | omega), (by first | assumption | omega), (by first | assumption | omega), (by first | assumption | omega), (by first | assumption | omega), hk3⟩
        · refine g_aload_n (pc := 21) hC 0 dX10_settles_21 rfl rfl ?_
          refine g_fnV (pc := 22) (qr := 0) hC [0, 1] (k_X10_unlike _ _ _ _ _ _ _ _ _ _ _ _ _ _ _ _ _ _ _ _ _ _ _ _ _ _ _ (by first | assumption | omega) hgj) cl_X10_unlike wm_X10_172 dX10_settles_22 rfl rfl rfl rfl rfl (by decide) (by decide) ⟨by omega, by omega⟩ (Nat.le_of_ble_eq_true rfl) rfl rfl ?_
          refine g_name hC (fun x3 e_x3 => ?_)
          have q_x3 : 0 ≤ x3 ∧ x3 ≤ 10 := by rw [e_x3]; exact md_unl_rng _
          refine g_iconst (pc := 25) hC dX10_settles_25 ?_
          refine g_icmp_ge (pc := 26) hC 33 dX10_settles_26 (by decide) (by omega) (by omega) (fun c26 => ?_) (fun c26 => ?_)
          · refine g_bipush (pc := 33) hC (-5) dX10_settles_33 (by decide) ?_
            refine g_istore_n (pc := 35) hC [(1, _), (0, _), (2, _)] dX10_settles_35 rfl (by decide) rfl ?_
            refine g_aload_n (pc := 36) hC 1 dX10_settles_36 rfl rfl ?_
            refine g_callV (pc := 37) (qr := 0) hC [0, 1, 3, 4, 5, 6] (k_X10_goes _ _ _ _ _ _ _ _ _ _ _ _ _ _ _ _ _ _ _ _ _ _ _ _ _ _ _ _ _ _ _ _ _ (by first | assumption | omega) (by first | assumption | omega) (by first | assumption | omega) (by first | assumption | omega) (by first | assumption | omega) (by first | assumption | omega) hgj (by rw [hf, md_goN_0]; omega) hTj (by rw [hkj]; exact hk3)) cl_X10_goes wm_X10_175 dX10_settles_37 rfl rfl rfl rfl rfl (by decide) (by decide) (by omega) (Nat.le_of_ble_eq_true rfl) rfl (fun v9 w9 hq9 => ?_)
            obtain ⟨s4, fb5, ft6, fu7, fn8, rfl, rfl, r_s4, r_fb5, r_ft6, r_fu7, r_fn8, hs_37, hk2_37⟩ := hq9
            refine g_ws hC [cO m0 10 [w_thrown, .ref m1, w_image, .ref m3, w_hasImage, w_act, w_spot, w_end, w_isWrong, w_open, .ref m10, .ref m11, .ref m12, .int (iI ik), .ref m14, w_first, w_order, w_bestOrder, w_rooms, w_leastUnlike, w_bodies, w_ran, w_kind, w_number, w_tellsV], cA K m1 922 s4, cA K m3 19 fr1, cA K m10 6 fb5, cZ K m11 64 ft6, cA K m12 36000 fu7, cA K m14 6 fn8] rfl ?_
            refine g_st hC [] rfl ?_
            refine g_iinc (pc := 40) hC 2 [(2, _), (1, _), (0, _)] dX10_settles_40 rfl (by decide) rfl ?_
            refine g_goto (pc := 43) hC 9 dX10_settles_43 (by decide) ?_
            refine g_lv hC [2, 1, 0] [(0, _), (1, _), (2, _)] rfl ?_
            exact ih9 (i + 1) (-5) s4 fb5 ft6 fu7 fn8 (j + 1) (by first | assumption | omega) (by first | assumption | omega) (by first | assumption | omega) (by first | assumption | omega) (by first | assumption | omega) (by first | assumption | omega) (by first | assumption | omega) (by first | assumption | omega) (by first | assumption | omega) (by rw [hs_37, hf]; rfl) (md_F_s hi hf (by omega) (by omega)) (by rw [hkj] at hk2_37; exact hk2_37) (by omega)
          · refine g_iload_n (pc := 29) hC 2 dX10_settles_29 rfl rfl ?_
            refine g_goto (pc := 30) hC 35 dX10_settles_30 (by decide) ?_
            refine g_istore_n (pc := 35) hC [(1, _), (0, _), (2, _)] dX10_settles_35 rfl (by decide) rfl ?_
            refine g_aload_n (pc := 36) hC 1 dX10_settles_36 rfl rfl ?_
            refine g_callV (pc := 37) (qr := 0) hC [0, 1, 3, 4, 5, 6] (k_X10_goes _ _ _ _ _ _ _ _ _ _ _ _ _ _ _ _ _ _ _ _ _ _ _ _ _ _ _ _ _ _ _ _ _ (by first | assumption | omega) (by first | assumption | omega) (by first | assumption | omega) (by first | assumption | omega) (by first | assumption | omega) (by first | assumption | omega) hgj (by rw [hf, md_goN_0]; omega) hTj (by rw [hkj]; exact hk3)) cl_X10_goes wm_X10_175 dX10_settles_37 rfl rfl rfl rfl rfl (by decide) (by decide) (by omega) (Nat.le_of_ble_eq_true rfl) rfl (fun v9 w9 hq9 => ?_)
            obtain ⟨s9, fb10, ft11, fu12, fn13, rfl, rfl, r_s9, r_fb10, r_ft11, r_fu12, r_fn13, hs_37, hk2_37⟩ := hq9
            refine g_ws hC [cO m0 10 [w_thrown, .ref m1, w_image, .ref m3, w_hasImage, w_act, w_spot, w_end, w_isWrong, w_open, .ref m10, .ref m11, .ref m12, .int (iI ik), .ref m14, w_first, w_order, w_bestOrder, w_rooms, w_leastUnlike, w_bodies, w_ran, w_kind, w_number, w_tellsV], cA K m1 922 s9, cA K m3 19 fr1, cA K m10 6 fb10, cZ K m11 64 ft11, cA K m12 36000 fu12, cA K m14 6 fn13] rfl ?_
            refine g_st hC [] rfl ?_
            refine g_iinc (pc := 40) hC 2 [(2, _), (1, _), (0, _)] dX10_settles_40 rfl (by decide) rfl ?_
            refine g_goto (pc := 43) hC 9 dX10_settles_43 (by decide) ?_
            refine g_lv hC [2, 1, 0] [(0, _), (1, _), (2, _)] rfl ?_
            exact ih9 (i + 1) i s9 fb10 ft11 fu12 fn13 (j + 1) (by first | assumption | omega) (by first | assumption | omega) (by first | assumption | omega) (by first | assumption | omega) (by first | assumption | omega) (by first | assumption | omega) (by first | assumption | omega) (by first | assumption | omega) (by first | assumption | omega) (by rw [hs_37, hf]; rfl) (md_F_s hi hf (by omega) (by omega)) (by rw [hkj] at hk2_37; exact hk2_37) (by omega)
  refine g_lv hC [2, 1, 0] [(0, _), (1, _), (2, _)] rfl ?_
  exact L9 ((61 - 0 : Int).toNat + 1) 0 (-5) s fb ft fu fn 0 (by first | assumption | omega) (by first | assumption | omega) (by first | assumption | omega) (by first | assumption | omega) (by first | assumption | omega) (by first | assumption | omega) (by first | assumption | omega) (by first | assumption | omega) (by first | assumption | omega) rfl rfl (by first | assumption | omega) (by omega)
set_option maxHeartbeats 4000000 in
set_option maxRecDepth 100000 in
theorem k_X10_feed {K : gK} (m0 : Nat) (m1 : Nat) (w_thrown : Value) (w_image : Value) (w_frame : Value) (w_hasImage : Value) (w_act : Value) (w_spot : Value) (w_end : Value) (w_isWrong : Value) (w_open : Value) (w_by : Value) (w_truths : Value) (w_pulls : Value) (w_isKeeping : Value) (w_next : Value) (w_first : Value) (w_order : Value) (w_bestOrder : Value) (w_rooms : Value) (w_leastUnlike : Value) (w_bodies : Value) (w_ran : Value) (w_kind : Value) (w_number : Value) (w_tellsV : Value) (g : Int) (s : Int → Int) (r_g : rI g) (r_s : ∀ j, rI (s j)) (ht : 0 ≤ s 24 ∧ s 24 ≤ 100) : gMet K yX10_feed cX10_feed 2 (some .int) 1 0 0 [.ref m0, .int (iI g)] [cO m0 10 [w_thrown, .ref m1, w_image, w_frame, w_hasImage, w_act, w_spot, w_end, w_isWrong, w_open, w_by, w_truths, w_pulls, w_isKeeping, w_next, w_first, w_order, w_bestOrder, w_rooms, w_leastUnlike, w_bodies, w_ran, w_kind, w_number, w_tellsV], cA K m1 922 s] (fun v9 w9 => ∃ (s2 : Int → Int), v9 = some (.int (iI (an_feed s g))) ∧ w9 = [cO m0 10 [w_thrown, .ref m1, w_image, w_frame, w_hasImage, w_act, w_spot, w_end, w_isWrong, w_open, w_by, w_truths, w_pulls, w_isKeeping, w_next, w_first, w_order, w_bestOrder, w_rooms, w_leastUnlike, w_bodies, w_ran, w_kind, w_number, w_tellsV], cA K m1 922 s2] ∧ (∀ j, rI (s2 j)) ∧ (s2 = ne_feed s g)) := by
  refine g_enter (by decide +kernel) (Nat.le_of_ble_eq_true rfl) (fun G hC hR => ?_)
  refine g_lv hC [0, 1] [(0, _), (1, _)] rfl ?_
  refine g_iload_n (pc := 0) hC 1 dX10_feed_0 rfl rfl ?_
  refine g_iconst (pc := 1) hC dX10_feed_1 ?_
  refine g_bipush (pc := 2) hC (127) dX10_feed_2 (by decide) ?_
  refine g_fnS (pc := 4) hC [] (k_X10_in _ _ _ (by first | assumption | omega) (by first | assumption | omega) (by first | assumption | omega)) cl_X10_in wm_X10_54 dX10_feed_4 rfl rfl (by decide) (by decide) ⟨by omega, by omega⟩ (Nat.le_of_ble_eq_true rfl) rfl rfl ?_
  refine g_name hC (fun x1 e_x1 => ?_)
  refine g_if_ne (pc := 7) hC 13 dX10_feed_7 (by decide) (by omega) (fun c7 => ?_) (fun c7 => ?_)
  · refine g_aload_n (pc := 13) hC 0 dX10_feed_13 rfl rfl ?_
    refine g_get (pc := 14) hC 0 fl_X10_9 dX10_feed_14 rfl rfl ?_
    refine g_bipush (pc := 17) hC (24) dX10_feed_17 (by decide) ?_
    refine g_iald (pc := 19) hC 1 dX10_feed_19 rfl (by omega) ?_
    have q2 := r_s 24
    refine g_bipush (pc := 20) hC (100) dX10_feed_20 (by decide) ?_
    refine g_icmp_ne (pc := 22) hC 28 dX10_feed_22 (by decide) (by omega) (by omega) (fun c22 => ?_) (fun c22 => ?_)
    · refine g_aload_n (pc := 28) hC 0 dX10_feed_28 rfl rfl ?_
      refine g_get (pc := 29) hC 0 fl_X10_9 dX10_feed_29 rfl rfl ?_
      refine g_bipush (pc := 32) hC (112) dX10_feed_32 (by decide) ?_
      refine g_aload_n (pc := 34) hC 0 dX10_feed_34 rfl rfl ?_
      refine g_get (pc := 35) hC 0 fl_X10_9 dX10_feed_35 rfl rfl ?_
      refine g_bipush (pc := 38) hC (24) dX10_feed_38 (by decide) ?_
      refine g_iald (pc := 40) hC 1 dX10_feed_40 rfl (by omega) ?_
      have q3 := r_s 24
      refine g_iadd (pc := 41) hC dX10_feed_41 ?_
      refine g_iload_n (pc := 42) hC 1 dX10_feed_42 rfl rfl ?_
      refine g_iast (pc := 43) hC 1 (fun f9 => [_, cA K _ _ f9]) dX10_feed_43 rfl (by omega) (fun _ => rfl) (fun s4 e_s4 => ?_)
      have r_s4 := rng_up e_s4 r_s (by omega)
      have h4 : s4 24 = s 24 := by rw [e_s4]; exact upI_ne (by omega)
      refine g_aload_n (pc := 44) hC 0 dX10_feed_44 rfl rfl ?_
      refine g_get (pc := 45) hC 0 fl_X10_9 dX10_feed_45 rfl rfl ?_
      refine g_bipush (pc := 48) hC (24) dX10_feed_48 (by decide) ?_
      refine g_dup2 (pc := 50) hC dX10_feed_50 rfl rfl ?_
      refine g_iald (pc := 51) hC 1 dX10_feed_51 rfl (by omega) ?_
      have q4 := r_s4 24
      refine g_iconst (pc := 52) hC dX10_feed_52 ?_
      refine g_iadd (pc := 53) hC dX10_feed_53 ?_
      refine g_iast (pc := 54) hC 1 (fun f9 => [_, cA K _ _ f9]) dX10_feed_54 rfl (by omega) (fun _ => rfl) (fun s5 e_s5 => ?_)
      have r_s5 := rng_up e_s5 r_s4 (by omega)
      have h5 : s5 24 = s 24 + 1 := by rw [e_s5, h4]; exact upI_at _ _ _
      refine g_aload_n (pc := 55) hC 0 dX10_feed_55 rfl rfl ?_
      refine g_get (pc := 56) hC 0 fl_X10_9 dX10_feed_56 rfl rfl ?_
      refine g_bipush (pc := 59) hC (24) dX10_feed_59 (by decide) ?_
      refine g_iald (pc := 61) hC 1 dX10_feed_61 rfl (by omega) ?_
      have q5 := r_s5 24
      exact g_iret (pc := 62) hR dX10_feed_62 rfl ⟨by omega, by omega⟩ (Nat.le_of_ble_eq_true rfl) ⟨s5, ret_eq (by unfold an_feed; (repeat' split) <;> omega), rfl, (by first | assumption | omega), (by unfold ne_feed; rw [if_pos (by omega), e_s5, h4, e_s4])⟩
    · refine g_bipush (pc := 25) hC (-4) dX10_feed_25 (by decide) ?_
      exact g_iret (pc := 27) hR dX10_feed_27 rfl ⟨by omega, by omega⟩ (Nat.le_of_ble_eq_true rfl) ⟨s, ret_eq (by unfold an_feed; (repeat' split) <;> omega), rfl, (by first | assumption | omega), (by unfold ne_feed; rw [if_neg (by omega)])⟩
  · refine g_bipush (pc := 10) hC (-2) dX10_feed_10 (by decide) ?_
    exact g_iret (pc := 12) hR dX10_feed_12 rfl ⟨by omega, by omega⟩ (Nat.le_of_ble_eq_true rfl) ⟨s, ret_eq (by unfold an_feed; (repeat' split) <;> omega), rfl, (by first | assumption | omega), (by unfold ne_feed; rw [if_neg (by omega)])⟩
set_option maxHeartbeats 4000000 in
set_option maxRecDepth 100000 in
theorem k_X10_man {K : gK} (m0 : Nat) (m1 : Nat) (w_thrown : Value) (w_image : Value) (w_frame : Value) (w_hasImage : Value) (w_act : Value) (w_spot : Value) (w_end : Value) (w_isWrong : Value) (w_open : Value) (w_by : Value) (w_truths : Value) (w_pulls : Value) (w_isKeeping : Value) (w_next : Value) (w_first : Value) (w_order : Value) (w_bestOrder : Value) (w_rooms : Value) (w_leastUnlike : Value) (w_bodies : Value) (w_ran : Value) (w_kind : Value) (w_number : Value) (w_tellsV : Value) (kind : Int) (v : Int) (room : Int) (t : Int) (s : Int → Int) (r_kind : rI kind) (r_v : rI v) (r_room : rI room) (r_t : rI t) (r_s : ∀ j, rI (s j)) (hg : md_rg s) : gMet K yX10_man cX10_man 7 (some .int) 2 0 0 [.ref m0, .int (iI kind), .int (iI v), .int (iI room), .int (iI t)] [cO m0 10 [w_thrown, .ref m1, w_image, w_frame, w_hasImage, w_act, w_spot, w_end, w_isWrong, w_open, w_by, w_truths, w_pulls, w_isKeeping, w_next, w_first, w_order, w_bestOrder, w_rooms, w_leastUnlike, w_bodies, w_ran, w_kind, w_number, w_tellsV], cA K m1 922 s] (fun v9 w9 => ∃ (s2 : Int → Int), v9 = some (.int (iI (an_man s kind v room t))) ∧ w9 = [cO m0 10 [w_thrown, .ref m1, w_image, w_frame, w_hasImage, w_act, w_spot, w_end, w_isWrong, w_open, w_by, w_truths, w_pulls, w_isKeeping, w_next, w_first, w_order, w_bestOrder, w_rooms, w_leastUnlike, w_bodies, w_ran, w_kind, w_number, w_tellsV], cA K m1 922 s2] ∧ (∀ j, rI (s2 j)) ∧ (s2 = ne_man s kind v room t)) := by
  refine g_enter (by decide +kernel) (Nat.le_of_ble_eq_true rfl) (fun G hC hR => ?_)
  refine g_lv hC [0, 1, 2, 3, 4] [(0, _), (1, _), (2, _), (3, _), (4, _)] rfl ?_
  have hg0 := hg.2.2.2
  have h19 := hg.2.2.1
  refine g_iload_n (pc := 0) hC 1 dX10_man_0 rfl rfl ?_
  refine g_iconst (pc := 1) hC dX10_man_1 ?_
  refine g_bipush (pc := 2) hC (6) dX10_man_2 (by decide) ?_
  refine g_fnS (pc := 4) hC [] (k_X10_in _ _ _ (by first | assumption | omega) (by first | assumption | omega) (by first | assumption | omega)) cl_X10_in wm_X10_54 dX10_man_4 rfl rfl (by decide) (by decide) ⟨by omega, by omega⟩ (Nat.le_of_ble_eq_true rfl) rfl rfl ?_
  refine g_name hC (fun x1 e_x1 => ?_)
  refine g_if_eq (pc := 7) hC 25 dX10_man_7 (by decide) (by omega) (fun c7 => ?_) (fun c7 => ?_)
  · refine g_iconst (pc := 25) hC dX10_man_25 ?_
    exact g_iret (pc := 26) hR dX10_man_26 rfl ⟨by omega, by omega⟩ (Nat.le_of_ble_eq_true rfl) ⟨s, ret_eq (by unfold an_man; (repeat' split) <;> omega), rfl, (by first | assumption | omega), (by unfold ne_man; rw [if_neg (by omega)])⟩
  · refine g_iload_n (pc := 10) hC 3 dX10_man_10 rfl rfl ?_
    refine g_fnS (pc := 11) hC [] (k_X10_isDigit _ (by first | assumption | omega)) cl_X10_isDigit wm_X10_155 dX10_man_11 rfl rfl (by decide) (by decide) ⟨by omega, by omega⟩ (Nat.le_of_ble_eq_true rfl) rfl rfl ?_
    refine g_name hC (fun x2 e_x2 => ?_)
    refine g_if_eq (pc := 14) hC 25 dX10_man_14 (by decide) (by omega) (fun c14 => ?_) (fun c14 => ?_)
    · refine g_iconst (pc := 25) hC dX10_man_25 ?_
      exact g_iret (pc := 26) hR dX10_man_26 rfl ⟨by omega, by omega⟩ (Nat.le_of_ble_eq_true rfl) ⟨s, ret_eq (by unfold an_man; (repeat' split) <;> omega), rfl, (by first | assumption | omega), (by unfold ne_man; rw [if_neg (by omega)])⟩
    · refine g_iload (pc := 17) hC 4 dX10_man_17 rfl ?_
      refine g_fnS (pc := 19) hC [] (k_X10_isDigit _ (by first | assumption | omega)) cl_X10_isDigit wm_X10_155 dX10_man_19 rfl rfl (by decide) (by decide) ⟨by omega, by omega⟩ (Nat.le_of_ble_eq_true rfl) rfl rfl ?_
      refine g_name hC (fun x3 e_x3 => ?_)
      refine g_if_ne (pc := 22) hC 27 dX10_man_22 (by decide) (by omega) (fun c22 => ?_) (fun c22 => ?_)
      · refine g_iload_n (pc := 27) hC 2 dX10_man_27 rfl rfl ?_
        refine g_fnS (pc := 28) hC [] (k_X10_isDigit _ (by first | assumption | omega)) cl_X10_isDigit wm_X10_155 dX10_man_28 rfl rfl (by decide) (by decide) ⟨by omega, by omega⟩ (Nat.le_of_ble_eq_true rfl) rfl rfl ?_
        refine g_name hC (fun x4 e_x4 => ?_)
        refine g_if_ne (pc := 31) hC 37 dX10_man_31 (by decide) (by omega) (fun c31 => ?_) (fun c31 => ?_)
        · refine g_aload_n (pc := 37) hC 0 dX10_man_37 rfl rfl ?_
          refine g_get (pc := 38) hC 0 fl_X10_9 dX10_man_38 rfl rfl ?_
          refine g_bipush (pc := 41) hC (19) dX10_man_41 (by decide) ?_
          refine g_iald (pc := 43) hC 1 dX10_man_43 rfl (by omega) ?_
          have q5 := r_s 19
          refine g_bipush (pc := 44) hC (6) dX10_man_44 (by decide) ?_
          refine g_icmp_ne (pc := 46) hC 52 dX10_man_46 (by decide) (by omega) (by omega) (fun c46 => ?_) (fun c46 => ?_)
          · refine g_aload_n (pc := 52) hC 0 dX10_man_52 rfl rfl ?_
            refine g_get (pc := 53) hC 0 fl_X10_9 dX10_man_53 rfl rfl ?_
            refine g_bipush (pc := 56) hC (19) dX10_man_56 (by decide) ?_
            refine g_iald (pc := 58) hC 1 dX10_man_58 rfl (by omega) ?_
            have q6 := r_s 19
            refine g_istore (pc := 59) hC [(5, _), (0, _), (1, _), (2, _), (3, _), (4, _)] dX10_man_59 (by decide) rfl ?_
            refine g_aload_n (pc := 61) hC 1 dX10_man_61 rfl rfl ?_
            refine g_get (pc := 62) hC 0 fl_X10_9 dX10_man_62 rfl rfl ?_
            refine g_bipush (pc := 65) hC (26) dX10_man_65 (by decide) ?_
            refine g_iload (pc := 67) hC 0 dX10_man_67 rfl ?_
            refine g_iadd (pc := 69) hC dX10_man_69 ?_
            refine g_iload_n (pc := 70) hC 2 dX10_man_70 rfl rfl ?_
            refine g_iast (pc := 71) hC 1 (fun f9 => [_, cA K _ _ f9]) dX10_man_71 rfl (by omega) (fun _ => rfl) (fun s3 e_s3 => ?_)
            have r_s3 := rng_up e_s3 r_s (by omega)
            refine g_aload_n (pc := 72) hC 1 dX10_man_72 rfl rfl ?_
            refine g_get (pc := 73) hC 0 fl_X10_9 dX10_man_73 rfl rfl ?_
            refine g_bipush (pc := 76) hC (32) dX10_man_76 (by decide) ?_
            refine g_iload (pc := 78) hC 0 dX10_man_78 rfl ?_
            refine g_iadd (pc := 80) hC dX10_man_80 ?_
            refine g_iload_n (pc := 81) hC 3 dX10_man_81 rfl rfl ?_
            refine g_iast (pc := 82) hC 1 (fun f9 => [_, cA K _ _ f9]) dX10_man_82 rfl (by omega) (fun _ => rfl) (fun s4 e_s4 => ?_)
            have r_s4 := rng_up e_s4 r_s3 (by omega)
            refine g_aload_n (pc := 83) hC 1 dX10_man_83 rfl rfl ?_
            refine g_get (pc := 84) hC 0 fl_X10_9 dX10_man_84 rfl rfl ?_
            refine g_bipush (pc := 87) hC (13) dX10_man_87 (by decide) ?_
            refine g_iload (pc := 89) hC 0 dX10_man_89 rfl ?_
            refine g_iadd (pc := 91) hC dX10_man_91 ?_
            refine g_iload_n (pc := 92) hC 4 dX10_man_92 rfl rfl ?_
            refine g_iast (pc := 93) hC 1 (fun f9 => [_, cA K _ _ f9]) dX10_man_93 rfl (by omega) (fun _ => rfl) (fun s5 e_s5 => ?_)
            have r_s5 := rng_up e_s5 r_s4 (by omega)
            refine g_aload_n (pc := 94) hC 1 dX10_man_94 rfl rfl ?_
            refine g_get (pc := 95) hC 0 fl_X10_9 dX10_man_95 rfl rfl ?_
            refine g_iconst (pc := 98) hC dX10_man_98 ?_
            refine g_iload (pc := 99) hC 0 dX10_man_99 rfl ?_
            refine g_iadd (pc := 101) hC dX10_man_101 ?_
            refine g_iload (pc := 102) hC 5 dX10_man_102 rfl ?_
            refine g_iast (pc := 104) hC 1 (fun f9 => [_, cA K _ _ f9]) dX10_man_104 rfl (by omega) (fun _ => rfl) (fun s6 e_s6 => ?_)
            have r_s6 := rng_up e_s6 r_s5 (by omega)
            refine g_aload_n (pc := 105) hC 1 dX10_man_105 rfl rfl ?_
            refine g_get (pc := 106) hC 0 fl_X10_9 dX10_man_106 rfl rfl ?_
            refine g_bipush (pc := 109) hC (7) dX10_man_109 (by decide) ?_
            refine g_iload (pc := 111) hC 0 dX10_man_111 rfl ?_
            refine g_iadd (pc := 113) hC dX10_man_113 ?_
            refine g_iconst (pc := 114) hC dX10_man_114 ?_
            refine g_iast (pc := 115) hC 1 (fun f9 => [_, cA K _ _ f9]) dX10_man_115 rfl (by omega) (fun _ => rfl) (fun s7 e_s7 => ?_)
            have r_s7 := rng_up e_s7 r_s6 (by omega)
            refine g_iconst (pc := 116) hC dX10_man_116 ?_
            refine g_istore (pc := 117) hC [(6, _), (5, _), (0, _), (1, _), (2, _), (3, _), (4, _)] dX10_man_117 (by decide) rfl ?_
            have L119 : ∀ (n7 : Nat) (i : Int) (f : Int → Int), (rI i) → (∀ j, rI (f j)) → (0 ≤ i ∧ i ≤ 4) → (∀ j, f j = if 38 + 4 * s 19 ≤ j ∧ j < 38 + 4 * s 19 + i then 0 else s7 j) → 4 - i < (n7 : Int) → G 0 0 119 [(0, .ref m0), (1, .int (iI kind)), (2, .int (iI v)), (3, .int (iI room)), (4, .int (iI t)), (5, .int (iI (s 19))), (6, .int (iI i))] [] [cO m0 10 [w_thrown, .ref m1, w_image, w_frame, w_hasImage, w_act, w_spot, w_end, w_isWrong, w_open, w_by, w_truths, w_pulls, w_isKeeping, w_next, w_first, w_order, w_bestOrder, w_rooms, w_leastUnlike, w_bodies, w_ran, w_kind, w_number, w_tellsV], cA K m1 922 f] := by
              intro n7
              induction n7 with
              | zero => intro i f r_i r_f hi hf hm119; exfalso; omega
              | succ n7 ih119 =>
                intro i f r_i r_f hi hf hm119
                refine g_iload (pc := 119) hC 6 dX10_man_119 rfl ?_
                refine g_iconst (pc := 121) hC dX10_man_121 ?_
                refine g_icmp_ge (pc := 122) hC 147 dX10_man_122 (by decide) (by omega) (by omega) (fun c122 => ?_) (fun c122 => ?_)
                · refine g_aload_n (pc := 147) hC 0 dX10_man_147 rfl rfl ?_
                  refine g_get (pc := 148) hC 0 fl_X10_9 dX10_man_148 rfl rfl ?_
                  refine g_bipush (pc := 151) hC (19) dX10_man_151 (by decide) ?_
                  refine g_dup2 (pc := 153) hC dX10_man_153 rfl rfl ?_
                  refine g_iald (pc := 154) hC 1 dX10_man_154 rfl (by omega) ?_
                  have q8 := r_f 19
                  refine g_iconst (pc := 155) hC dX10_man_155 ?_
                  refine g_iadd (pc := 156) hC dX10_man_156 ?_
                  have hf19 : f 19 = s 19 := by rw [hf 19, if_neg (by omega), e_s7, e_s6, e_s5, e_s4, e_s3]; unfold upI; (repeat' split) <;> first | rfl | omega
                  refine g_iast (pc := 157) hC 1 (fun f9 => [_, cA K _ _ f9]) dX10_man_157 rfl (by omega) (fun _ => rfl) (fun s8 e_s8 => ?_)
                  have r_s8 := rng_up e_s8 r_f (by omega)
                  refine g_iload (pc := 158) hC 5 dX10_man_158 rfl ?_
                  exact g_iret (pc := 160) hR dX10_man_160 rfl ⟨by omega, by omega⟩ (Nat.le_of_ble_eq_true rfl) ⟨s8, ret_eq (by unfold an_man; (repeat' split) <;> omega), rfl, (by first | assumption | omega), (by unfold ne_man; rw [if_pos (by omega), e_s8, hf19]; funext j; unfold upI ne_manS; rw [hf j, e_s7, e_s6, e_s5, e_s4, e_s3]; unfold upI; (repeat' split) <;> first | rfl | omega)⟩
                · refine g_aload_n (pc := 125) hC 0 dX10_man_125 rfl rfl ?_
                  refine g_get (pc := 126) hC 0 fl_X10_9 dX10_man_126 rfl rfl ?_
                  refine g_bipush (pc := 129) hC (38) dX10_man_129 (by decide) ?_
                  refine g_iconst (pc := 131) hC dX10_man_131 ?_
                  refine g_iload (pc := 132) hC 5 dX10_man_132 rfl ?_
                  refine g_imul (pc := 134) hC dX10_man_134 ?_
                  refine g_iadd (pc := 135) hC dX10_man_135 ?_
                  refine g_iload (pc := 136) hC 6 dX10_man_136 rfl ?_
                  refine g_iadd (pc := 138) hC dX10_man_138 ?_
                  refine g_iconst (pc := 139) hC dX10_man_139 ?_
                  refine g_iast (pc := 140) hC 1 (fun f9 => [_, cA K _ _ f9]) dX10_man_140 rfl (by omega) (fun _ => rfl) (fun f5 e_f5 => ?_)
                  have r_f5 := rng_up e_f5 r_f (by omega)
                  refine g_iinc (pc := 141) hC 6 [(6, _), (0, _), (1, _), (2, _), (3, _), (4, _), (5, _)] dX10_man_141 rfl (by decide) rfl ?_
                  refine g_goto (pc := 144) hC 119 dX10_man_144 (by decide) ?_
                  refine g_lv hC [1, 2, 3, 4, 5, 6, 0] [(0, _), (1, _), (2, _), (3, _), (4, _), (5, _), (6, _)] rfl ?_
                  exact ih119 (i + 1) f5 (by first | assumption | omega) (by first | assumption | omega) (by first | assumption | omega) (fun j => by rw [e_f5]; unfold upI; rw [hf j]; (repeat' split) <;> first | rfl | omega) (by omega)
            refine g_lv hC [2, 3, 4, 5, 6, 1, 0] [(0, _), (1, _), (2, _), (3, _), (4, _), (5, _), (6, _)] rfl ?_
            exact L119 ((4 - 0 : Int).toNat + 1) 0 s7 (by first | assumption | omega) (by first | assumption | omega) (by first | assumption | omega) (fun j => by rw [if_neg (by omega)]) (by omega)
          · refine g_bipush (pc := 49) hC (-4) dX10_man_49 (by decide) ?_
            exact g_iret (pc := 51) hR dX10_man_51 rfl ⟨by omega, by omega⟩ (Nat.le_of_ble_eq_true rfl) ⟨s, ret_eq (by unfold an_man; (repeat' split) <;> omega), rfl, (by first | assumption | omega), (by unfold ne_man; rw [if_neg (by omega)])⟩
        · refine g_bipush (pc := 34) hC (-2) dX10_man_34 (by decide) ?_
          exact g_iret (pc := 36) hR dX10_man_36 rfl ⟨by omega, by omega⟩ (Nat.le_of_ble_eq_true rfl) ⟨s, ret_eq (by unfold an_man; (repeat' split) <;> omega), rfl, (by first | assumption | omega), (by unfold ne_man; rw [if_neg (by omega)])⟩
      · refine g_iconst (pc := 25) hC dX10_man_25 ?_
        exact g_iret (pc := 26) hR dX10_man_26 rfl ⟨by omega, by omega⟩ (Nat.le_of_ble_eq_true rfl) ⟨s, ret_eq (by unfold an_man; (repeat' split) <;> omega), rfl, (by first | assumption | omega), (by unfold ne_man; rw [if_neg (by omega)])⟩
set_option maxHeartbeats 4000000 in
set_option maxRecDepth 100000 in
theorem k_X10_of {K : gK} (m0 : Nat) (m1 : Nat) (m10 : Nat) (m11 : Nat) (m12 : Nat) (w_thrown : Value) (w_image : Value) (w_frame : Value) (w_hasImage : Value) (w_act : Value) (w_spot : Value) (w_end : Value) (w_isWrong : Value) (w_open : Value) (w_next : Value) (w_first : Value) (w_order : Value) (w_bestOrder : Value) (w_rooms : Value) (w_leastUnlike : Value) (w_bodies : Value) (w_ran : Value) (w_kind : Value) (w_number : Value) (w_tellsV : Value) (p : Int) (w : Int) (ik : Int) (s : Int → Int) (fb : Int → Int) (ft : Int → Int) (fu : Int → Int) (W : (Int → Int) → Int) (rch : Int) (r_p : rI p) (r_w : rI w) (r_ik : rI ik) (r_s : ∀ j, rI (s j)) (r_fb : ∀ j, rI (fb j)) (r_ft : rZ ft) (r_fu : ∀ j, rI (fu j)) (hg : md_rg s) (hT : md_TK s W rch) (hk : ik = 0 ∨ (ik = 1 ∧ md_PC W (fun z => s (26 + z)) fu)) : gMet K yX10_of cX10_of 3 (some .int) 5 0 0 [.ref m0, .int (iI p), .int (iI w)] [cO m0 10 [w_thrown, .ref m1, w_image, w_frame, w_hasImage, w_act, w_spot, w_end, w_isWrong, w_open, .ref m10, .ref m11, .ref m12, .int (iI ik), w_next, w_first, w_order, w_bestOrder, w_rooms, w_leastUnlike, w_bodies, w_ran, w_kind, w_number, w_tellsV], cA K m1 922 s, cA K m10 6 fb, cZ K m11 64 ft, cA K m12 36000 fu] (fun v9 w9 => ∃ (fb2 : Int → Int), ∃ (ft2 : Int → Int), ∃ (fu2 : Int → Int), v9 = some (.int (iI (an_of W rch s p w))) ∧ w9 = [cO m0 10 [w_thrown, .ref m1, w_image, w_frame, w_hasImage, w_act, w_spot, w_end, w_isWrong, w_open, .ref m10, .ref m11, .ref m12, .int (iI ik), w_next, w_first, w_order, w_bestOrder, w_rooms, w_leastUnlike, w_bodies, w_ran, w_kind, w_number, w_tellsV], cA K m1 922 s, cA K m10 6 fb2, cZ K m11 64 ft2, cA K m12 36000 fu2] ∧ (∀ j, rI (fb2 j)) ∧ rZ ft2 ∧ (∀ j, rI (fu2 j)) ∧ (ik = 0 ∨ (ik = 1 ∧ md_PC W (fun z => s (26 + z)) fu2))) := by
  refine g_enter (by decide +kernel) (Nat.le_of_ble_eq_true rfl) (fun G hC hR => ?_)
  refine g_lv hC [0, 1, 2] [(0, _), (1, _), (2, _)] rfl ?_
  have hg0 := hg.2.2.2
  have h19 := hg.2.2.1
  refine g_aload_n (pc := 0) hC 0 dX10_of_0 rfl rfl ?_
  refine g_iload_n (pc := 1) hC 1 dX10_of_1 rfl rfl ?_
  refine g_fnV (pc := 2) (qr := 0) hC [0, 1] (k_X10_isMan _ _ _ _ _ _ _ _ _ _ _ _ _ _ _ _ _ _ _ _ _ _ _ _ _ _ _ _ (by first | assumption | omega) (by first | assumption | omega) (by first | assumption | omega)) cl_X10_isMan wm_X10_159 dX10_of_2 rfl rfl rfl rfl rfl (by decide) (by decide) ⟨by omega, by omega⟩ (Nat.le_of_ble_eq_true rfl) rfl rfl ?_
  refine g_name hC (fun x1 e_x1 => ?_)
  refine g_if_ne (pc := 5) hC 10 dX10_of_5 (by decide) (by omega) (fun c5 => ?_) (fun c5 => ?_)
  · have hpp : 0 ≤ p ∧ p < s 19 := by omega
    refine g_iload_n (pc := 10) hC 2 dX10_of_10 rfl rfl ?_
    by_cases k11_0 : w = 0
    · refine g_tswIn (pc := 11) hC (0) (off := 41) 52 dX10_of_11 k11_0 (by omega) (by decide) (by decide) ?_
      refine g_aload_n (pc := 52) hC 0 dX10_of_52 rfl rfl ?_
      refine g_get (pc := 53) hC 0 fl_X10_9 dX10_of_53 rfl rfl ?_
      refine g_bipush (pc := 56) hC (26) dX10_of_56 (by decide) ?_
      refine g_iload_n (pc := 58) hC 1 dX10_of_58 rfl rfl ?_
      refine g_iadd (pc := 59) hC dX10_of_59 ?_
      refine g_iald (pc := 60) hC 1 dX10_of_60 rfl (by omega) ?_
      have q2 := r_s (26 + p)
      exact g_iret (pc := 61) hR dX10_of_61 rfl ⟨by omega, by omega⟩ (Nat.le_of_ble_eq_true rfl) ⟨fb, ft, fu, ret_eq (by unfold an_of; (repeat' split) <;> omega), rfl, (by first | assumption | omega), (by first | assumption | omega), (by first | assumption | omega), (by assumption)⟩
    by_cases k11_1 : w = 1
    · refine g_tswIn (pc := 11) hC (1) (off := 51) 62 dX10_of_11 k11_1 (by omega) (by decide) (by decide) ?_
      refine g_aload_n (pc := 62) hC 0 dX10_of_62 rfl rfl ?_
      refine g_get (pc := 63) hC 0 fl_X10_9 dX10_of_63 rfl rfl ?_
      refine g_bipush (pc := 66) hC (32) dX10_of_66 (by decide) ?_
      refine g_iload_n (pc := 68) hC 1 dX10_of_68 rfl rfl ?_
      refine g_iadd (pc := 69) hC dX10_of_69 ?_
      refine g_iald (pc := 70) hC 1 dX10_of_70 rfl (by omega) ?_
      have q3 := r_s (32 + p)
      exact g_iret (pc := 71) hR dX10_of_71 rfl ⟨by omega, by omega⟩ (Nat.le_of_ble_eq_true rfl) ⟨fb, ft, fu, ret_eq (by unfold an_of; (repeat' split) <;> omega), rfl, (by first | assumption | omega), (by first | assumption | omega), (by first | assumption | omega), (by assumption)⟩
    by_cases k11_2 : w = 2
    · refine g_tswIn (pc := 11) hC (2) (off := 61) 72 dX10_of_11 k11_2 (by omega) (by decide) (by decide) ?_
      refine g_aload_n (pc := 72) hC 0 dX10_of_72 rfl rfl ?_
      refine g_get (pc := 73) hC 0 fl_X10_9 dX10_of_73 rfl rfl ?_
      refine g_bipush (pc := 76) hC (13) dX10_of_76 (by decide) ?_
      refine g_iload_n (pc := 78) hC 1 dX10_of_78 rfl rfl ?_
      refine g_iadd (pc := 79) hC dX10_of_79 ?_
      refine g_iald (pc := 80) hC 1 dX10_of_80 rfl (by omega) ?_
      have q4 := r_s (13 + p)
      exact g_iret (pc := 81) hR dX10_of_81 rfl ⟨by omega, by omega⟩ (Nat.le_of_ble_eq_true rfl) ⟨fb, ft, fu, ret_eq (by unfold an_of; (repeat' split) <;> omega), rfl, (by first | assumption | omega), (by first | assumption | omega), (by first | assumption | omega), (by assumption)⟩
    by_cases k11_3 : w = 3
    · refine g_tswIn (pc := 11) hC (3) (off := 71) 82 dX10_of_11 k11_3 (by omega) (by decide) (by decide) ?_
      refine g_aload_n (pc := 82) hC 0 dX10_of_82 rfl rfl ?_
      refine g_get (pc := 83) hC 0 fl_X10_9 dX10_of_83 rfl rfl ?_
      refine g_iconst (pc := 86) hC dX10_of_86 ?_
      refine g_iload_n (pc := 87) hC 1 dX10_of_87 rfl rfl ?_
      refine g_iadd (pc := 88) hC dX10_of_88 ?_
      refine g_iald (pc := 89) hC 1 dX10_of_89 rfl (by omega) ?_
      have q5 := r_s (1 + p)
      exact g_iret (pc := 90) hR dX10_of_90 rfl ⟨by omega, by omega⟩ (Nat.le_of_ble_eq_true rfl) ⟨fb, ft, fu, ret_eq (by unfold an_of; (repeat' split) <;> omega), rfl, (by first | assumption | omega), (by first | assumption | omega), (by first | assumption | omega), (by assumption)⟩
    by_cases k11_4 : w = 4
    · refine g_tswIn (pc := 11) hC (4) (off := 80) 91 dX10_of_11 k11_4 (by omega) (by decide) (by decide) ?_
      refine g_aload_n (pc := 91) hC 0 dX10_of_91 rfl rfl ?_
      refine g_get (pc := 92) hC 0 fl_X10_9 dX10_of_92 rfl rfl ?_
      refine g_bipush (pc := 95) hC (7) dX10_of_95 (by decide) ?_
      refine g_iload_n (pc := 97) hC 1 dX10_of_97 rfl rfl ?_
      refine g_iadd (pc := 98) hC dX10_of_98 ?_
      refine g_iald (pc := 99) hC 1 dX10_of_99 rfl (by omega) ?_
      have q6 := r_s (7 + p)
      exact g_iret (pc := 100) hR dX10_of_100 rfl ⟨by omega, by omega⟩ (Nat.le_of_ble_eq_true rfl) ⟨fb, ft, fu, ret_eq (by unfold an_of; (repeat' split) <;> omega), rfl, (by first | assumption | omega), (by first | assumption | omega), (by first | assumption | omega), (by assumption)⟩
    by_cases k11_5 : w = 5
    · refine g_tswIn (pc := 11) hC (5) (off := 90) 101 dX10_of_11 k11_5 (by omega) (by decide) (by decide) ?_
      refine g_aload_n (pc := 101) hC 0 dX10_of_101 rfl rfl ?_
      refine g_iload_n (pc := 102) hC 1 dX10_of_102 rfl rfl ?_
      refine g_callV (pc := 103) (qr := 0) hC [0, 1, 2, 3, 4] (k_X10_leaderOf _ _ _ _ _ _ _ _ _ _ _ _ _ _ _ _ _ _ _ _ _ _ _ _ _ _ _ _ _ _ _ _ _ (by first | assumption | omega) (by first | assumption | omega) (by first | assumption | omega) (by first | assumption | omega) (by first | assumption | omega) (by first | assumption | omega) (by first | assumption | omega) (by first | assumption | omega) (by first | assumption | omega) hk) cl_X10_leaderOf wm_X10_151 dX10_of_103 rfl rfl rfl rfl rfl (by decide) (by decide) (by omega) (Nat.le_of_ble_eq_true rfl) rfl (fun v9 w9 hq9 => ?_)
      obtain ⟨fb7, ft8, fu9, rfl, rfl, r_fb7, r_ft8, r_fu9, hk2_103⟩ := hq9
      refine g_ws hC [cO m0 10 [w_thrown, .ref m1, w_image, w_frame, w_hasImage, w_act, w_spot, w_end, w_isWrong, w_open, .ref m10, .ref m11, .ref m12, .int (iI ik), w_next, w_first, w_order, w_bestOrder, w_rooms, w_leastUnlike, w_bodies, w_ran, w_kind, w_number, w_tellsV], cA K m1 922 s, cA K m10 6 fb7, cZ K m11 64 ft8, cA K m12 36000 fu9] rfl ?_
      refine g_st hC [.int (iI (md_lead W rch s p))] rfl ?_
      exact g_iret (pc := 106) hR dX10_of_106 rfl ⟨by omega, by omega⟩ (Nat.le_of_ble_eq_true rfl) ⟨fb7, ft8, fu9, ret_eq (by unfold an_of; (repeat' split) <;> omega), rfl, (by first | assumption | omega), (by first | assumption | omega), (by first | assumption | omega), (by assumption)⟩
    by_cases k11_6 : w = 6
    · refine g_tswIn (pc := 11) hC (6) (off := 96) 107 dX10_of_11 k11_6 (by omega) (by decide) (by decide) ?_
      refine g_aload_n (pc := 107) hC 0 dX10_of_107 rfl rfl ?_
      refine g_iload_n (pc := 108) hC 1 dX10_of_108 rfl rfl ?_
      refine g_callV (pc := 109) (qr := 0) hC [0, 1, 2, 3, 4] (k_X10_nextOf _ _ _ _ _ _ _ _ _ _ _ _ _ _ _ _ _ _ _ _ _ _ _ _ _ _ _ _ _ _ _ _ _ (by first | assumption | omega) (by first | assumption | omega) (by first | assumption | omega) (by first | assumption | omega) (by first | assumption | omega) (by first | assumption | omega) (by first | assumption | omega) (by first | assumption | omega) (by first | assumption | omega) (by first | assumption | omega)) cl_X10_nextOf wm_X10_162 dX10_of_109 rfl rfl rfl rfl rfl (by decide) (by decide) (by omega) (Nat.le_of_ble_eq_true rfl) rfl (fun v9 w9 hq9 => ?_)
      obtain ⟨fb10, ft11, fu12, rfl, rfl, r_fb10, r_ft11, r_fu12, hk2_109⟩ := hq9
      refine g_ws hC [cO m0 10 [w_thrown, .ref m1, w_image, w_frame, w_hasImage, w_act, w_spot, w_end, w_isWrong, w_open, .ref m10, .ref m11, .ref m12, .int (iI ik), w_next, w_first, w_order, w_bestOrder, w_rooms, w_leastUnlike, w_bodies, w_ran, w_kind, w_number, w_tellsV], cA K m1 922 s, cA K m10 6 fb10, cZ K m11 64 ft11, cA K m12 36000 fu12] rfl ?_
      refine g_st hC [.int (iI (md_next W rch s p))] rfl ?_
      exact g_iret (pc := 112) hR dX10_of_112 rfl ⟨by omega, by omega⟩ (Nat.le_of_ble_eq_true rfl) ⟨fb10, ft11, fu12, ret_eq (by unfold an_of; (repeat' split) <;> omega), rfl, (by first | assumption | omega), (by first | assumption | omega), (by first | assumption | omega), (by assumption)⟩
    refine g_tswOut (pc := 11) hC 113 dX10_of_11 (by omega) (by omega) (by decide) ?_
    refine g_iconst (pc := 113) hC dX10_of_113 ?_
    exact g_iret (pc := 114) hR dX10_of_114 rfl ⟨by omega, by omega⟩ (Nat.le_of_ble_eq_true rfl) ⟨fb, ft, fu, ret_eq (by unfold an_of; (repeat' split) <;> omega), rfl, (by first | assumption | omega), (by first | assumption | omega), (by first | assumption | omega), (by assumption)⟩
  · refine g_iconst (pc := 8) hC dX10_of_8 ?_
    exact g_iret (pc := 9) hR dX10_of_9 rfl ⟨by omega, by omega⟩ (Nat.le_of_ble_eq_true rfl) ⟨fb, ft, fu, ret_eq (by unfold an_of; (repeat' split) <;> omega), rfl, (by first | assumption | omega), (by first | assumption | omega), (by first | assumption | omega), (by assumption)⟩
set_option maxHeartbeats 4000000 in
set_option maxRecDepth 100000 in
theorem k_X10_pull {K : gK} (m0 : Nat) (m1 : Nat) (m10 : Nat) (m11 : Nat) (m12 : Nat) (w_thrown : Value) (w_image : Value) (w_frame : Value) (w_hasImage : Value) (w_act : Value) (w_spot : Value) (w_end : Value) (w_isWrong : Value) (w_open : Value) (w_next : Value) (w_first : Value) (w_order : Value) (w_bestOrder : Value) (w_rooms : Value) (w_leastUnlike : Value) (w_bodies : Value) (w_ran : Value) (w_kind : Value) (w_number : Value) (w_tellsV : Value) (p : Int) (q : Int) (ik : Int) (s : Int → Int) (fb : Int → Int) (ft : Int → Int) (fu : Int → Int) (W : (Int → Int) → Int) (rch : Int) (r_p : rI p) (r_q : rI q) (r_ik : rI ik) (r_s : ∀ j, rI (s j)) (r_fb : ∀ j, rI (fb j)) (r_ft : rZ ft) (r_fu : ∀ j, rI (fu j)) (hg : md_rg s) (hT : md_TK s W rch) (hk : ik = 0 ∨ (ik = 1 ∧ md_PC W (fun z => s (26 + z)) fu)) : gMet K yX10_pull cX10_pull 3 (some .int) 3 0 0 [.ref m0, .int (iI p), .int (iI q)] [cO m0 10 [w_thrown, .ref m1, w_image, w_frame, w_hasImage, w_act, w_spot, w_end, w_isWrong, w_open, .ref m10, .ref m11, .ref m12, .int (iI ik), w_next, w_first, w_order, w_bestOrder, w_rooms, w_leastUnlike, w_bodies, w_ran, w_kind, w_number, w_tellsV], cA K m1 922 s, cA K m10 6 fb, cZ K m11 64 ft, cA K m12 36000 fu] (fun v9 w9 => ∃ (fb2 : Int → Int), ∃ (ft2 : Int → Int), ∃ (fu2 : Int → Int), v9 = some (.int (iI (an_pull W s p q))) ∧ w9 = [cO m0 10 [w_thrown, .ref m1, w_image, w_frame, w_hasImage, w_act, w_spot, w_end, w_isWrong, w_open, .ref m10, .ref m11, .ref m12, .int (iI ik), w_next, w_first, w_order, w_bestOrder, w_rooms, w_leastUnlike, w_bodies, w_ran, w_kind, w_number, w_tellsV], cA K m1 922 s, cA K m10 6 fb2, cZ K m11 64 ft2, cA K m12 36000 fu2] ∧ (∀ j, rI (fb2 j)) ∧ rZ ft2 ∧ (∀ j, rI (fu2 j)) ∧ (ik = 0 ∨ (ik = 1 ∧ md_PC W (fun z => s (26 + z)) fu2))) := by
  refine g_enter (by decide +kernel) (Nat.le_of_ble_eq_true rfl) (fun G hC hR => ?_)
  refine g_lv hC [0, 1, 2] [(0, _), (1, _), (2, _)] rfl ?_
  have hg0 := hg.2.2.2
  have h19 := hg.2.2.1
  refine g_aload_n (pc := 0) hC 0 dX10_pull_0 rfl rfl ?_
  refine g_iload_n (pc := 1) hC 1 dX10_pull_1 rfl rfl ?_
  refine g_fnV (pc := 2) (qr := 0) hC [0, 1] (k_X10_isMan _ _ _ _ _ _ _ _ _ _ _ _ _ _ _ _ _ _ _ _ _ _ _ _ _ _ _ _ (by first | assumption | omega) (by first | assumption | omega) (by first | assumption | omega)) cl_X10_isMan wm_X10_159 dX10_pull_2 rfl rfl rfl rfl rfl (by decide) (by decide) ⟨by omega, by omega⟩ (Nat.le_of_ble_eq_true rfl) rfl rfl ?_
  refine g_name hC (fun x1 e_x1 => ?_)
  refine g_if_eq (pc := 5) hC 30 dX10_pull_5 (by decide) (by omega) (fun c5 => ?_) (fun c5 => ?_)
  · refine g_ldc (pc := 30) hC (-999999) wo_X10_165 (by decide) dX10_pull_30 ?_
    exact g_iret (pc := 32) hR dX10_pull_32 rfl ⟨by omega, by omega⟩ (Nat.le_of_ble_eq_true rfl) ⟨fb, ft, fu, ret_eq (by unfold an_pull; (repeat' split) <;> omega), rfl, (by first | assumption | omega), (by first | assumption | omega), (by first | assumption | omega), (by assumption)⟩
  · refine g_aload_n (pc := 8) hC 0 dX10_pull_8 rfl rfl ?_
    refine g_iload_n (pc := 9) hC 2 dX10_pull_9 rfl rfl ?_
    refine g_fnV (pc := 10) (qr := 0) hC [0, 1] (k_X10_isMan _ _ _ _ _ _ _ _ _ _ _ _ _ _ _ _ _ _ _ _ _ _ _ _ _ _ _ _ (by first | assumption | omega) (by first | assumption | omega) (by first | assumption | omega)) cl_X10_isMan wm_X10_159 dX10_pull_10 rfl rfl rfl rfl rfl (by decide) (by decide) ⟨by omega, by omega⟩ (Nat.le_of_ble_eq_true rfl) rfl rfl ?_
    refine g_name hC (fun x2 e_x2 => ?_)
    refine g_if_eq (pc := 13) hC 30 dX10_pull_13 (by decide) (by omega) (fun c13 => ?_) (fun c13 => ?_)
    · refine g_ldc (pc := 30) hC (-999999) wo_X10_165 (by decide) dX10_pull_30 ?_
      exact g_iret (pc := 32) hR dX10_pull_32 rfl ⟨by omega, by omega⟩ (Nat.le_of_ble_eq_true rfl) ⟨fb, ft, fu, ret_eq (by unfold an_pull; (repeat' split) <;> omega), rfl, (by first | assumption | omega), (by first | assumption | omega), (by first | assumption | omega), (by assumption)⟩
    · refine g_iload_n (pc := 16) hC 1 dX10_pull_16 rfl rfl ?_
      refine g_iload_n (pc := 17) hC 2 dX10_pull_17 rfl rfl ?_
      refine g_icmp_eq (pc := 18) hC 30 dX10_pull_18 (by decide) (by omega) (by omega) (fun c18 => ?_) (fun c18 => ?_)
      · refine g_ldc (pc := 30) hC (-999999) wo_X10_165 (by decide) dX10_pull_30 ?_
        exact g_iret (pc := 32) hR dX10_pull_32 rfl ⟨by omega, by omega⟩ (Nat.le_of_ble_eq_true rfl) ⟨fb, ft, fu, ret_eq (by unfold an_pull; (repeat' split) <;> omega), rfl, (by first | assumption | omega), (by first | assumption | omega), (by first | assumption | omega), (by assumption)⟩
      · refine g_aload_n (pc := 21) hC 0 dX10_pull_21 rfl rfl ?_
        refine g_iload_n (pc := 22) hC 1 dX10_pull_22 rfl rfl ?_
        refine g_iload_n (pc := 23) hC 2 dX10_pull_23 rfl rfl ?_
        refine g_callV (pc := 24) (qr := 0) hC [0, 1, 2, 3, 4] (k_X10_pullOf _ _ _ _ _ _ _ _ _ _ _ _ _ _ _ _ _ _ _ _ _ _ _ _ _ _ _ _ _ _ _ _ _ _ (by first | assumption | omega) (by first | assumption | omega) (by first | assumption | omega) (by first | assumption | omega) (by first | assumption | omega) (by first | assumption | omega) (by first | assumption | omega) (by first | assumption | omega) (by first | assumption | omega) (by first | assumption | omega) (by first | assumption | omega) (by first | assumption | omega)) cl_X10_pullOf wm_X10_148 dX10_pull_24 rfl rfl rfl rfl rfl (by decide) (by decide) (by omega) (Nat.le_of_ble_eq_true rfl) rfl (fun v9 w9 hq9 => ?_)
        obtain ⟨fb3, ft4, fu5, rfl, rfl, r_fb3, r_ft4, r_fu5, hk2_24⟩ := hq9
        refine g_ws hC [cO m0 10 [w_thrown, .ref m1, w_image, w_frame, w_hasImage, w_act, w_spot, w_end, w_isWrong, w_open, .ref m10, .ref m11, .ref m12, .int (iI ik), w_next, w_first, w_order, w_bestOrder, w_rooms, w_leastUnlike, w_bodies, w_ran, w_kind, w_number, w_tellsV], cA K m1 922 s, cA K m10 6 fb3, cZ K m11 64 ft4, cA K m12 36000 fu5] rfl ?_
        refine g_st hC [.int (iI (md_pull W s p q))] rfl ?_
        refine g_goto (pc := 27) hC 32 dX10_pull_27 (by decide) ?_
        exact g_iret (pc := 32) hR dX10_pull_32 rfl ⟨by omega, by omega⟩ (Nat.le_of_ble_eq_true rfl) ⟨fb3, ft4, fu5, ret_eq (by unfold an_pull; (repeat' split) <;> omega), rfl, (by first | assumption | omega), (by first | assumption | omega), (by first | assumption | omega), (by assumption)⟩
set_option maxHeartbeats 4000000 in
set_option maxRecDepth 100000 in
theorem k_X10_row {K : gK} (m0 : Nat) (m1 : Nat) (w_thrown : Value) (w_image : Value) (w_frame : Value) (w_hasImage : Value) (w_act : Value) (w_spot : Value) (w_end : Value) (w_isWrong : Value) (w_open : Value) (w_by : Value) (w_truths : Value) (w_pulls : Value) (w_isKeeping : Value) (w_next : Value) (w_first : Value) (w_order : Value) (w_bestOrder : Value) (w_rooms : Value) (w_leastUnlike : Value) (w_bodies : Value) (w_ran : Value) (w_kind : Value) (w_number : Value) (w_tellsV : Value) (p : Int) (k : Int) (x : Int) (s : Int → Int) (r_p : rI p) (r_k : rI k) (r_x : rI x) (r_s : ∀ j, rI (s j)) (hg : md_rg s) : gMet K yX10_row cX10_row 4 (some .int) 2 0 0 [.ref m0, .int (iI p), .int (iI k), .int (iI x)] [cO m0 10 [w_thrown, .ref m1, w_image, w_frame, w_hasImage, w_act, w_spot, w_end, w_isWrong, w_open, w_by, w_truths, w_pulls, w_isKeeping, w_next, w_first, w_order, w_bestOrder, w_rooms, w_leastUnlike, w_bodies, w_ran, w_kind, w_number, w_tellsV], cA K m1 922 s] (fun v9 w9 => ∃ (s2 : Int → Int), v9 = some (.int (iI (an_row s p k x))) ∧ w9 = [cO m0 10 [w_thrown, .ref m1, w_image, w_frame, w_hasImage, w_act, w_spot, w_end, w_isWrong, w_open, w_by, w_truths, w_pulls, w_isKeeping, w_next, w_first, w_order, w_bestOrder, w_rooms, w_leastUnlike, w_bodies, w_ran, w_kind, w_number, w_tellsV], cA K m1 922 s2] ∧ (∀ j, rI (s2 j)) ∧ (s2 = ne_row s p k x)) := by
  refine g_enter (by decide +kernel) (Nat.le_of_ble_eq_true rfl) (fun G hC hR => ?_)
  refine g_lv hC [0, 1, 2, 3] [(0, _), (1, _), (2, _), (3, _)] rfl ?_
  have hg0 := hg.2.2.2
  have h19 := hg.2.2.1
  refine g_aload_n (pc := 0) hC 0 dX10_row_0 rfl rfl ?_
  refine g_iload_n (pc := 1) hC 1 dX10_row_1 rfl rfl ?_
  refine g_fnV (pc := 2) (qr := 0) hC [0, 1] (k_X10_isMan _ _ _ _ _ _ _ _ _ _ _ _ _ _ _ _ _ _ _ _ _ _ _ _ _ _ _ _ (by first | assumption | omega) (by first | assumption | omega) (by first | assumption | omega)) cl_X10_isMan wm_X10_159 dX10_row_2 rfl rfl rfl rfl rfl (by decide) (by decide) ⟨by omega, by omega⟩ (Nat.le_of_ble_eq_true rfl) rfl rfl ?_
  refine g_name hC (fun x1 e_x1 => ?_)
  refine g_if_eq (pc := 5) hC 17 dX10_row_5 (by decide) (by omega) (fun c5 => ?_) (fun c5 => ?_)
  · refine g_iconst (pc := 17) hC dX10_row_17 ?_
    exact g_iret (pc := 18) hR dX10_row_18 rfl ⟨by omega, by omega⟩ (Nat.le_of_ble_eq_true rfl) ⟨s, ret_eq (by unfold an_row; (repeat' split) <;> omega), rfl, (by first | assumption | omega), (by unfold ne_row; rw [if_neg (by omega)])⟩
  · refine g_iload_n (pc := 8) hC 2 dX10_row_8 rfl rfl ?_
    refine g_iconst (pc := 9) hC dX10_row_9 ?_
    refine g_iconst (pc := 10) hC dX10_row_10 ?_
    refine g_fnS (pc := 11) hC [] (k_X10_in _ _ _ (by first | assumption | omega) (by first | assumption | omega) (by first | assumption | omega)) cl_X10_in wm_X10_54 dX10_row_11 rfl rfl (by decide) (by decide) ⟨by omega, by omega⟩ (Nat.le_of_ble_eq_true rfl) rfl rfl ?_
    refine g_name hC (fun x2 e_x2 => ?_)
    refine g_if_ne (pc := 14) hC 19 dX10_row_14 (by decide) (by omega) (fun c14 => ?_) (fun c14 => ?_)
    · refine g_iload_n (pc := 19) hC 3 dX10_row_19 rfl rfl ?_
      refine g_fnS (pc := 20) hC [] (k_X10_isDigit _ (by first | assumption | omega)) cl_X10_isDigit wm_X10_155 dX10_row_20 rfl rfl (by decide) (by decide) ⟨by omega, by omega⟩ (Nat.le_of_ble_eq_true rfl) rfl rfl ?_
      refine g_name hC (fun x3 e_x3 => ?_)
      refine g_if_ne (pc := 23) hC 29 dX10_row_23 (by decide) (by omega) (fun c23 => ?_) (fun c23 => ?_)
      · refine g_aload_n (pc := 29) hC 0 dX10_row_29 rfl rfl ?_
        refine g_get (pc := 30) hC 0 fl_X10_9 dX10_row_30 rfl rfl ?_
        refine g_bipush (pc := 33) hC (26) dX10_row_33 (by decide) ?_
        refine g_iload_n (pc := 35) hC 1 dX10_row_35 rfl rfl ?_
        refine g_iadd (pc := 36) hC dX10_row_36 ?_
        refine g_iald (pc := 37) hC 1 dX10_row_37 rfl (by omega) ?_
        have q4 := r_s (26 + p)
        refine g_bipush (pc := 38) hC (6) dX10_row_38 (by decide) ?_
        refine g_icmp_ne (pc := 40) hC 59 dX10_row_40 (by decide) (by omega) (by omega) (fun c40 => ?_) (fun c40 => ?_)
        · refine g_bipush (pc := 59) hC (-3) dX10_row_59 (by decide) ?_
          exact g_iret (pc := 61) hR dX10_row_61 rfl ⟨by omega, by omega⟩ (Nat.le_of_ble_eq_true rfl) ⟨s, ret_eq (by unfold an_row; (repeat' split) <;> omega), rfl, (by first | assumption | omega), (by unfold ne_row; rw [if_neg (by omega)])⟩
        · refine g_aload_n (pc := 43) hC 0 dX10_row_43 rfl rfl ?_
          refine g_bipush (pc := 44) hC (38) dX10_row_44 (by decide) ?_
          refine g_iconst (pc := 46) hC dX10_row_46 ?_
          refine g_iload_n (pc := 47) hC 1 dX10_row_47 rfl rfl ?_
          refine g_imul (pc := 48) hC dX10_row_48 ?_
          refine g_iadd (pc := 49) hC dX10_row_49 ?_
          refine g_iload_n (pc := 50) hC 2 dX10_row_50 rfl rfl ?_
          refine g_iadd (pc := 51) hC dX10_row_51 ?_
          refine g_iload_n (pc := 52) hC 3 dX10_row_52 rfl rfl ?_
          refine g_callV (pc := 53) (qr := 0) hC [0, 1] (k_X10_becomes _ _ _ _ _ _ _ _ _ _ _ _ _ _ _ _ _ _ _ _ _ _ _ _ _ _ _ _ _ (by first | assumption | omega) (by first | assumption | omega) (by first | assumption | omega) (by first | assumption | omega)) cl_X10_becomes wm_X10_166 dX10_row_53 rfl rfl rfl rfl rfl (by decide) (by decide) (by omega) (Nat.le_of_ble_eq_true rfl) rfl (fun v9 w9 hq9 => ?_)
          obtain ⟨s5, rfl, rfl, r_s5, hs_53⟩ := hq9
          refine g_ws hC [cO m0 10 [w_thrown, .ref m1, w_image, w_frame, w_hasImage, w_act, w_spot, w_end, w_isWrong, w_open, w_by, w_truths, w_pulls, w_isKeeping, w_next, w_first, w_order, w_bestOrder, w_rooms, w_leastUnlike, w_bodies, w_ran, w_kind, w_number, w_tellsV], cA K m1 922 s5] rfl ?_
          refine g_st hC [.int (iI (s ((38 + (4 * p)) + k)))] rfl ?_
          refine g_goto (pc := 56) hC 61 dX10_row_56 (by decide) ?_
          exact g_iret (pc := 61) hR dX10_row_61 rfl ⟨by omega, by omega⟩ (Nat.le_of_ble_eq_true rfl) ⟨s5, ret_eq (by unfold an_row; (repeat' split) <;> omega), rfl, (by first | assumption | omega), (by unfold ne_row; rw [if_pos (by omega), hs_53])⟩
      · refine g_bipush (pc := 26) hC (-2) dX10_row_26 (by decide) ?_
        exact g_iret (pc := 28) hR dX10_row_28 rfl ⟨by omega, by omega⟩ (Nat.le_of_ble_eq_true rfl) ⟨s, ret_eq (by unfold an_row; (repeat' split) <;> omega), rfl, (by first | assumption | omega), (by unfold ne_row; rw [if_neg (by omega)])⟩
    · refine g_iconst (pc := 17) hC dX10_row_17 ?_
      exact g_iret (pc := 18) hR dX10_row_18 rfl ⟨by omega, by omega⟩ (Nat.le_of_ble_eq_true rfl) ⟨s, ret_eq (by unfold an_row; (repeat' split) <;> omega), rfl, (by first | assumption | omega), (by unfold ne_row; rw [if_neg (by omega)])⟩
set_option maxHeartbeats 4000000 in
set_option maxRecDepth 100000 in
theorem k_X10_set {K : gK} (m0 : Nat) (m1 : Nat) (w_thrown : Value) (w_image : Value) (w_frame : Value) (w_hasImage : Value) (w_act : Value) (w_spot : Value) (w_end : Value) (w_isWrong : Value) (w_open : Value) (w_by : Value) (w_truths : Value) (w_pulls : Value) (w_isKeeping : Value) (w_next : Value) (w_first : Value) (w_order : Value) (w_bestOrder : Value) (w_rooms : Value) (w_leastUnlike : Value) (w_bodies : Value) (w_ran : Value) (w_kind : Value) (w_number : Value) (w_tellsV : Value) (p : Int) (w : Int) (x : Int) (s : Int → Int) (r_p : rI p) (r_w : rI w) (r_x : rI x) (r_s : ∀ j, rI (s j)) (hg : md_rg s) : gMet K yX10_set cX10_set 4 (some .int) 2 0 0 [.ref m0, .int (iI p), .int (iI w), .int (iI x)] [cO m0 10 [w_thrown, .ref m1, w_image, w_frame, w_hasImage, w_act, w_spot, w_end, w_isWrong, w_open, w_by, w_truths, w_pulls, w_isKeeping, w_next, w_first, w_order, w_bestOrder, w_rooms, w_leastUnlike, w_bodies, w_ran, w_kind, w_number, w_tellsV], cA K m1 922 s] (fun v9 w9 => ∃ (s2 : Int → Int), v9 = some (.int (iI (an_set s p w x))) ∧ w9 = [cO m0 10 [w_thrown, .ref m1, w_image, w_frame, w_hasImage, w_act, w_spot, w_end, w_isWrong, w_open, w_by, w_truths, w_pulls, w_isKeeping, w_next, w_first, w_order, w_bestOrder, w_rooms, w_leastUnlike, w_bodies, w_ran, w_kind, w_number, w_tellsV], cA K m1 922 s2] ∧ (∀ j, rI (s2 j)) ∧ (s2 = ne_set s p w x)) := by
  refine g_enter (by decide +kernel) (Nat.le_of_ble_eq_true rfl) (fun G hC hR => ?_)
  refine g_lv hC [0, 1, 2, 3] [(0, _), (1, _), (2, _), (3, _)] rfl ?_
  have hg0 := hg.2.2.2
  have h19 := hg.2.2.1
  refine g_aload_n (pc := 0) hC 0 dX10_set_0 rfl rfl ?_
  refine g_iload_n (pc := 1) hC 1 dX10_set_1 rfl rfl ?_
  refine g_fnV (pc := 2) (qr := 0) hC [0, 1] (k_X10_isMan _ _ _ _ _ _ _ _ _ _ _ _ _ _ _ _ _ _ _ _ _ _ _ _ _ _ _ _ (by first | assumption | omega) (by first | assumption | omega) (by first | assumption | omega)) cl_X10_isMan wm_X10_159 dX10_set_2 rfl rfl rfl rfl rfl (by decide) (by decide) ⟨by omega, by omega⟩ (Nat.le_of_ble_eq_true rfl) rfl rfl ?_
  refine g_name hC (fun x1 e_x1 => ?_)
  refine g_if_eq (pc := 5) hC 24 dX10_set_5 (by decide) (by omega) (fun c5 => ?_) (fun c5 => ?_)
  · refine g_iconst (pc := 24) hC dX10_set_24 ?_
    exact g_iret (pc := 25) hR dX10_set_25 rfl ⟨by omega, by omega⟩ (Nat.le_of_ble_eq_true rfl) ⟨s, ret_eq (by unfold an_set; rw [if_neg (by omega)]), rfl, (by first | assumption | omega), (by unfold ne_set; rw [if_neg (by omega)])⟩
  · refine g_iload_n (pc := 8) hC 2 dX10_set_8 rfl rfl ?_
    refine g_iconst (pc := 9) hC dX10_set_9 ?_
    refine g_iconst (pc := 10) hC dX10_set_10 ?_
    refine g_fnS (pc := 11) hC [] (k_X10_in _ _ _ (by first | assumption | omega) (by first | assumption | omega) (by first | assumption | omega)) cl_X10_in wm_X10_54 dX10_set_11 rfl rfl (by decide) (by decide) ⟨by omega, by omega⟩ (Nat.le_of_ble_eq_true rfl) rfl rfl ?_
    refine g_name hC (fun x2 e_x2 => ?_)
    refine g_if_eq (pc := 14) hC 24 dX10_set_14 (by decide) (by omega) (fun c14 => ?_) (fun c14 => ?_)
    · refine g_iconst (pc := 24) hC dX10_set_24 ?_
      exact g_iret (pc := 25) hR dX10_set_25 rfl ⟨by omega, by omega⟩ (Nat.le_of_ble_eq_true rfl) ⟨s, ret_eq (by unfold an_set; rw [if_neg (by omega)]), rfl, (by first | assumption | omega), (by unfold ne_set; rw [if_neg (by omega)])⟩
    · refine g_iload_n (pc := 17) hC 3 dX10_set_17 rfl rfl ?_
      refine g_fnS (pc := 18) hC [] (k_X10_isDigit _ (by first | assumption | omega)) cl_X10_isDigit wm_X10_155 dX10_set_18 rfl rfl (by decide) (by decide) ⟨by omega, by omega⟩ (Nat.le_of_ble_eq_true rfl) rfl rfl ?_
      refine g_name hC (fun x3 e_x3 => ?_)
      refine g_if_ne (pc := 21) hC 26 dX10_set_21 (by decide) (by omega) (fun c21 => ?_) (fun c21 => ?_)
      · refine g_aload_n (pc := 26) hC 0 dX10_set_26 rfl rfl ?_
        refine g_iload_n (pc := 27) hC 2 dX10_set_27 rfl rfl ?_
        refine g_if_ne (pc := 28) hC 36 dX10_set_28 (by decide) (by omega) (fun c28 => ?_) (fun c28 => ?_)
        · refine g_iconst (pc := 36) hC dX10_set_36 ?_
          refine g_iload_n (pc := 37) hC 1 dX10_set_37 rfl rfl ?_
          refine g_iadd (pc := 38) hC dX10_set_38 ?_
          refine g_iload_n (pc := 39) hC 3 dX10_set_39 rfl rfl ?_
          refine g_callV (pc := 40) (qr := 0) hC [0, 1] (k_X10_becomes _ _ _ _ _ _ _ _ _ _ _ _ _ _ _ _ _ _ _ _ _ _ _ _ _ _ _ _ _ (by first | assumption | omega) (by first | assumption | omega) (by first | assumption | omega) (by first | assumption | omega)) cl_X10_becomes wm_X10_166 dX10_set_40 rfl rfl rfl rfl rfl (by decide) (by decide) (by omega) (Nat.le_of_ble_eq_true rfl) rfl (fun v9 w9 hq9 => ?_)
          obtain ⟨s4, rfl, rfl, r_s4, hs_40⟩ := hq9
          refine g_ws hC [cO m0 10 [w_thrown, .ref m1, w_image, w_frame, w_hasImage, w_act, w_spot, w_end, w_isWrong, w_open, w_by, w_truths, w_pulls, w_isKeeping, w_next, w_first, w_order, w_bestOrder, w_rooms, w_leastUnlike, w_bodies, w_ran, w_kind, w_number, w_tellsV], cA K m1 922 s4] rfl ?_
          refine g_st hC [.int (iI (s (1 + p)))] rfl ?_
          exact g_iret (pc := 43) hR dX10_set_43 rfl ⟨by omega, by omega⟩ (Nat.le_of_ble_eq_true rfl) ⟨s4, ret_eq (by unfold an_set; rw [if_pos (by omega)]; congr 1; omega), rfl, (by first | assumption | omega), (by unfold ne_set; rw [if_pos (by omega), hs_40]; congr 1; omega)⟩
        · refine g_bipush (pc := 31) hC (13) dX10_set_31 (by decide) ?_
          refine g_goto (pc := 33) hC 37 dX10_set_33 (by decide) ?_
          refine g_iload_n (pc := 37) hC 1 dX10_set_37 rfl rfl ?_
          refine g_iadd (pc := 38) hC dX10_set_38 ?_
          refine g_iload_n (pc := 39) hC 3 dX10_set_39 rfl rfl ?_
          refine g_callV (pc := 40) (qr := 0) hC [0, 1] (k_X10_becomes _ _ _ _ _ _ _ _ _ _ _ _ _ _ _ _ _ _ _ _ _ _ _ _ _ _ _ _ _ (by first | assumption | omega) (by first | assumption | omega) (by first | assumption | omega) (by first | assumption | omega)) cl_X10_becomes wm_X10_166 dX10_set_40 rfl rfl rfl rfl rfl (by decide) (by decide) (by omega) (Nat.le_of_ble_eq_true rfl) rfl (fun v9 w9 hq9 => ?_)
          obtain ⟨s5, rfl, rfl, r_s5, hs_40⟩ := hq9
          refine g_ws hC [cO m0 10 [w_thrown, .ref m1, w_image, w_frame, w_hasImage, w_act, w_spot, w_end, w_isWrong, w_open, w_by, w_truths, w_pulls, w_isKeeping, w_next, w_first, w_order, w_bestOrder, w_rooms, w_leastUnlike, w_bodies, w_ran, w_kind, w_number, w_tellsV], cA K m1 922 s5] rfl ?_
          refine g_st hC [.int (iI (s (13 + p)))] rfl ?_
          exact g_iret (pc := 43) hR dX10_set_43 rfl ⟨by omega, by omega⟩ (Nat.le_of_ble_eq_true rfl) ⟨s5, ret_eq (by unfold an_set; rw [if_pos (by omega)]; congr 1; omega), rfl, (by first | assumption | omega), (by unfold ne_set; rw [if_pos (by omega), hs_40]; congr 1; omega)⟩
      · refine g_iconst (pc := 24) hC dX10_set_24 ?_
        exact g_iret (pc := 25) hR dX10_set_25 rfl ⟨by omega, by omega⟩ (Nat.le_of_ble_eq_true rfl) ⟨s, ret_eq (by unfold an_set; rw [if_neg (by omega)]), rfl, (by first | assumption | omega), (by unfold ne_set; rw [if_neg (by omega)])⟩
set_option maxHeartbeats 4000000 in
set_option maxRecDepth 100000 in
theorem k_X10_away {K : gK} (m0 : Nat) (m1 : Nat) (w_thrown : Value) (w_image : Value) (w_frame : Value) (w_hasImage : Value) (w_act : Value) (w_spot : Value) (w_end : Value) (w_isWrong : Value) (w_open : Value) (w_by : Value) (w_truths : Value) (w_pulls : Value) (w_isKeeping : Value) (w_next : Value) (w_first : Value) (w_order : Value) (w_bestOrder : Value) (w_rooms : Value) (w_leastUnlike : Value) (w_bodies : Value) (w_ran : Value) (w_kind : Value) (w_number : Value) (w_tellsV : Value) (p : Int) (z : Int) (s : Int → Int) (r_p : rI p) (r_z : rI z) (r_s : ∀ j, rI (s j)) (hg : md_rg s) (hz : z = 0 ∨ z = 1) : gMet K yX10_away cX10_away 3 (some .int) 2 0 0 [.ref m0, .int (iI p), .int (iI z)] [cO m0 10 [w_thrown, .ref m1, w_image, w_frame, w_hasImage, w_act, w_spot, w_end, w_isWrong, w_open, w_by, w_truths, w_pulls, w_isKeeping, w_next, w_first, w_order, w_bestOrder, w_rooms, w_leastUnlike, w_bodies, w_ran, w_kind, w_number, w_tellsV], cA K m1 922 s] (fun v9 w9 => ∃ (s2 : Int → Int), v9 = some (.int (iI (an_away s p))) ∧ w9 = [cO m0 10 [w_thrown, .ref m1, w_image, w_frame, w_hasImage, w_act, w_spot, w_end, w_isWrong, w_open, w_by, w_truths, w_pulls, w_isKeeping, w_next, w_first, w_order, w_bestOrder, w_rooms, w_leastUnlike, w_bodies, w_ran, w_kind, w_number, w_tellsV], cA K m1 922 s2] ∧ (∀ j, rI (s2 j)) ∧ (s2 = ne_away s p z)) := by
  refine g_enter (by decide +kernel) (Nat.le_of_ble_eq_true rfl) (fun G hC hR => ?_)
  refine g_lv hC [0, 1, 2] [(0, _), (1, _), (2, _)] rfl ?_
  have hg0 := hg.2.2.2
  have h19 := hg.2.2.1
  refine g_aload_n (pc := 0) hC 0 dX10_away_0 rfl rfl ?_
  refine g_iload_n (pc := 1) hC 1 dX10_away_1 rfl rfl ?_
  refine g_fnV (pc := 2) (qr := 0) hC [0, 1] (k_X10_isMan _ _ _ _ _ _ _ _ _ _ _ _ _ _ _ _ _ _ _ _ _ _ _ _ _ _ _ _ (by first | assumption | omega) (by first | assumption | omega) (by first | assumption | omega)) cl_X10_isMan wm_X10_159 dX10_away_2 rfl rfl rfl rfl rfl (by decide) (by decide) ⟨by omega, by omega⟩ (Nat.le_of_ble_eq_true rfl) rfl rfl ?_
  refine g_name hC (fun x1 e_x1 => ?_)
  refine g_if_eq (pc := 5) hC 28 dX10_away_5 (by decide) (by omega) (fun c5 => ?_) (fun c5 => ?_)
  · refine g_iconst (pc := 28) hC dX10_away_28 ?_
    exact g_iret (pc := 29) hR dX10_away_29 rfl ⟨by omega, by omega⟩ (Nat.le_of_ble_eq_true rfl) ⟨s, ret_eq (by unfold an_away; (repeat' split) <;> omega), rfl, (by first | assumption | omega), (by unfold ne_away; rw [if_neg (by omega)])⟩
  · refine g_aload_n (pc := 8) hC 0 dX10_away_8 rfl rfl ?_
    refine g_bipush (pc := 9) hC (7) dX10_away_9 (by decide) ?_
    refine g_iload_n (pc := 11) hC 1 dX10_away_11 rfl rfl ?_
    refine g_iadd (pc := 12) hC dX10_away_12 ?_
    refine g_iload_n (pc := 13) hC 2 dX10_away_13 rfl rfl ?_
    refine g_if_eq (pc := 14) hC 21 dX10_away_14 (by decide) (by omega) (fun c14 => ?_) (fun c14 => ?_)
    · refine g_iconst (pc := 21) hC dX10_away_21 ?_
      refine g_callV (pc := 22) (qr := 0) hC [0, 1] (k_X10_becomes _ _ _ _ _ _ _ _ _ _ _ _ _ _ _ _ _ _ _ _ _ _ _ _ _ _ _ _ _ (by first | assumption | omega) (by first | assumption | omega) (by first | assumption | omega) (by first | assumption | omega)) cl_X10_becomes wm_X10_166 dX10_away_22 rfl rfl rfl rfl rfl (by decide) (by decide) (by omega) (Nat.le_of_ble_eq_true rfl) rfl (fun v9 w9 hq9 => ?_)
      obtain ⟨s2, rfl, rfl, r_s2, hs_22⟩ := hq9
      refine g_ws hC [cO m0 10 [w_thrown, .ref m1, w_image, w_frame, w_hasImage, w_act, w_spot, w_end, w_isWrong, w_open, w_by, w_truths, w_pulls, w_isKeeping, w_next, w_first, w_order, w_bestOrder, w_rooms, w_leastUnlike, w_bodies, w_ran, w_kind, w_number, w_tellsV], cA K m1 922 s2] rfl ?_
      refine g_st hC [.int (iI (s (7 + p)))] rfl ?_
      refine g_goto (pc := 25) hC 29 dX10_away_25 (by decide) ?_
      exact g_iret (pc := 29) hR dX10_away_29 rfl ⟨by omega, by omega⟩ (Nat.le_of_ble_eq_true rfl) ⟨s2, ret_eq (by unfold an_away; (repeat' split) <;> omega), rfl, (by first | assumption | omega), (by unfold ne_away; rw [if_pos (by omega), hs_22]; congr 1; omega)⟩
    · refine g_iconst (pc := 17) hC dX10_away_17 ?_
      refine g_goto (pc := 18) hC 22 dX10_away_18 (by decide) ?_
      refine g_callV (pc := 22) (qr := 0) hC [0, 1] (k_X10_becomes _ _ _ _ _ _ _ _ _ _ _ _ _ _ _ _ _ _ _ _ _ _ _ _ _ _ _ _ _ (by first | assumption | omega) (by first | assumption | omega) (by first | assumption | omega) (by first | assumption | omega)) cl_X10_becomes wm_X10_166 dX10_away_22 rfl rfl rfl rfl rfl (by decide) (by decide) (by omega) (Nat.le_of_ble_eq_true rfl) rfl (fun v9 w9 hq9 => ?_)
      obtain ⟨s3, rfl, rfl, r_s3, hs_22⟩ := hq9
      refine g_ws hC [cO m0 10 [w_thrown, .ref m1, w_image, w_frame, w_hasImage, w_act, w_spot, w_end, w_isWrong, w_open, w_by, w_truths, w_pulls, w_isKeeping, w_next, w_first, w_order, w_bestOrder, w_rooms, w_leastUnlike, w_bodies, w_ran, w_kind, w_number, w_tellsV], cA K m1 922 s3] rfl ?_
      refine g_st hC [.int (iI (s (7 + p)))] rfl ?_
      refine g_goto (pc := 25) hC 29 dX10_away_25 (by decide) ?_
      exact g_iret (pc := 29) hR dX10_away_29 rfl ⟨by omega, by omega⟩ (Nat.le_of_ble_eq_true rfl) ⟨s3, ret_eq (by unfold an_away; (repeat' split) <;> omega), rfl, (by first | assumption | omega), (by unfold ne_away; rw [if_pos (by omega), hs_22]; congr 1; omega)⟩
set_option maxHeartbeats 4000000 in
set_option maxRecDepth 100000 in
theorem k_X10_told {K : gK} (m0 : Nat) (m1 : Nat) (m3 : Nat) (m10 : Nat) (m11 : Nat) (m12 : Nat) (m14 : Nat) (w_thrown : Value) (w_image : Value) (w_hasImage : Value) (w_act : Value) (w_spot : Value) (w_end : Value) (w_isWrong : Value) (w_open : Value) (w_first : Value) (w_order : Value) (w_bestOrder : Value) (w_rooms : Value) (w_leastUnlike : Value) (w_bodies : Value) (w_ran : Value) (w_kind : Value) (w_number : Value) (w_tellsV : Value) (w : Int) (ik : Int) (s : Int → Int) (fr : Int → Int) (fb : Int → Int) (ft : Int → Int) (fu : Int → Int) (fn : Int → Int) (W : (Int → Int) → Int) (rch : Int) (r_w : rI w) (r_ik : rI ik) (r_s : ∀ j, rI (s j)) (r_fr : ∀ j, rI (fr j)) (r_fb : ∀ j, rI (fb j)) (r_ft : rZ ft) (r_fu : ∀ j, rI (fu j)) (r_fn : ∀ j, rI (fn j)) (hg : md_rg s) (h0 : s 0 + 61 ≤ 20000) (hT : md_TK s W rch) (hk : ik = 0 ∨ (ik = 1 ∧ md_PC W (fun z => s (26 + z)) fu)) : gMet K yX10_told cX10_told 2 (some .int) 7 0 0 [.ref m0, .int (iI w)] [cO m0 10 [w_thrown, .ref m1, w_image, .ref m3, w_hasImage, w_act, w_spot, w_end, w_isWrong, w_open, .ref m10, .ref m11, .ref m12, .int (iI ik), .ref m14, w_first, w_order, w_bestOrder, w_rooms, w_leastUnlike, w_bodies, w_ran, w_kind, w_number, w_tellsV], cA K m1 922 s, cA K m3 19 fr, cA K m10 6 fb, cZ K m11 64 ft, cA K m12 36000 fu, cA K m14 6 fn] (fun v9 w9 => ∃ (fr2 : Int → Int), ∃ (fb2 : Int → Int), ∃ (ft2 : Int → Int), ∃ (fu2 : Int → Int), ∃ (fn2 : Int → Int), v9 = some (.int (iI (an_told W rch s w))) ∧ w9 = [cO m0 10 [w_thrown, .ref m1, w_image, .ref m3, w_hasImage, w_act, w_spot, w_end, w_isWrong, w_open, .ref m10, .ref m11, .ref m12, .int (iI ik), .ref m14, w_first, w_order, w_bestOrder, w_rooms, w_leastUnlike, w_bodies, w_ran, w_kind, w_number, w_tellsV], cA K m1 922 s, cA K m3 19 fr2, cA K m10 6 fb2, cZ K m11 64 ft2, cA K m12 36000 fu2, cA K m14 6 fn2] ∧ (∀ j, rI (fr2 j)) ∧ (∀ j, rI (fb2 j)) ∧ rZ ft2 ∧ (∀ j, rI (fu2 j)) ∧ (∀ j, rI (fn2 j)) ∧ (ik = 0 ∨ (ik = 1 ∧ md_PC W (fun z => s (26 + z)) fu2))) := by
  refine g_enter (by decide +kernel) (Nat.le_of_ble_eq_true rfl) (fun G hC hR => ?_)
  refine g_lv hC [0, 1] [(0, _), (1, _)] rfl ?_
  have hg0 := hg.2.2.2
  have h19 := hg.2.2.1
  have h25 : -1 ≤ s 25 ∧ s 25 ≤ 4 := by rcases hT.1 with ⟨a, b, c⟩ | ⟨a, b, c⟩ <;> omega
  refine g_iload_n (pc := 0) hC 1 dX10_told_0 rfl rfl ?_
  by_cases k1_0 : w = 0
  · refine g_tswIn (pc := 1) hC (0) (off := 35) 36 dX10_told_1 k1_0 (by omega) (by decide) (by decide) ?_
    refine g_aload_n (pc := 36) hC 0 dX10_told_36 rfl rfl ?_
    refine g_get (pc := 37) hC 0 fl_X10_9 dX10_told_37 rfl rfl ?_
    refine g_iconst (pc := 40) hC dX10_told_40 ?_
    refine g_iald (pc := 41) hC 1 dX10_told_41 rfl (by omega) ?_
    have q1 := r_s 0
    exact g_iret (pc := 42) hR dX10_told_42 rfl ⟨by omega, by omega⟩ (Nat.le_of_ble_eq_true rfl) ⟨fr, fb, ft, fu, fn, ret_eq (by unfold an_told; (repeat' split) <;> omega), rfl, (by first | assumption | omega), (by first | assumption | omega), (by first | assumption | omega), (by first | assumption | omega), (by first | assumption | omega), (by assumption)⟩
  by_cases k1_1 : w = 1
  · refine g_tswIn (pc := 1) hC (1) (off := 42) 43 dX10_told_1 k1_1 (by omega) (by decide) (by decide) ?_
    refine g_aload_n (pc := 43) hC 0 dX10_told_43 rfl rfl ?_
    refine g_sipush (pc := 44) hC (212) dX10_told_44 (by decide) ?_
    refine g_bipush (pc := 47) hC (9) dX10_told_47 (by decide) ?_
    refine g_fnV (pc := 49) (qr := 0) hC [0, 1] (k_X10_tellsOf _ _ _ _ _ _ _ _ _ _ _ _ _ _ _ _ _ _ _ _ _ _ _ _ _ _ _ _ _ (by first | assumption | omega) (by first | assumption | omega) (by first | assumption | omega) (by first | assumption | omega) (by first | assumption | omega)) cl_X10_tellsOf wm_X10_138 dX10_told_49 rfl rfl rfl rfl rfl (by decide) (by decide) ⟨by omega, by omega⟩ (Nat.le_of_ble_eq_true rfl) rfl rfl ?_
    refine g_name hC (fun x5 e_x5 => ?_)
    rw [md_tells hT] at e_x5
    exact g_iret (pc := 52) hR dX10_told_52 rfl ⟨by omega, by omega⟩ (Nat.le_of_ble_eq_true rfl) ⟨fr, fb, ft, fu, fn, ret_eq (by unfold an_told; (repeat' split) <;> omega), rfl, (by first | assumption | omega), (by first | assumption | omega), (by first | assumption | omega), (by first | assumption | omega), (by first | assumption | omega), (by assumption)⟩
  by_cases k1_2 : w = 2
  · refine g_tswIn (pc := 1) hC (2) (off := 52) 53 dX10_told_1 k1_2 (by omega) (by decide) (by decide) ?_
    refine g_aload_n (pc := 53) hC 0 dX10_told_53 rfl rfl ?_
    refine g_fnV (pc := 54) (qr := 0) hC [0, 1] (k_X10_unlike _ _ _ _ _ _ _ _ _ _ _ _ _ _ _ _ _ _ _ _ _ _ _ _ _ _ _ (by first | assumption | omega) (by first | assumption | omega)) cl_X10_unlike wm_X10_172 dX10_told_54 rfl rfl rfl rfl rfl (by decide) (by decide) ⟨by omega, by omega⟩ (Nat.le_of_ble_eq_true rfl) rfl rfl ?_
    refine g_name hC (fun x2 e_x2 => ?_)
    have q_x2 : 0 ≤ x2 ∧ x2 ≤ 10 := by rw [e_x2]; exact md_unl_rng _
    exact g_iret (pc := 57) hR dX10_told_57 rfl ⟨by omega, by omega⟩ (Nat.le_of_ble_eq_true rfl) ⟨fr, fb, ft, fu, fn, ret_eq (by unfold an_told; (repeat' split) <;> omega), rfl, (by first | assumption | omega), (by first | assumption | omega), (by first | assumption | omega), (by first | assumption | omega), (by first | assumption | omega), (by assumption)⟩
  by_cases k1_3 : w = 3
  · refine g_tswIn (pc := 1) hC (3) (off := 57) 58 dX10_told_1 k1_3 (by omega) (by decide) (by decide) ?_
    refine g_aload_n (pc := 58) hC 0 dX10_told_58 rfl rfl ?_
    refine g_callV (pc := 59) (qr := 0) hC [0, 1, 2, 3, 4, 5, 6] (k_X10_settles _ _ _ _ _ _ _ _ _ _ _ _ _ _ _ _ _ _ _ _ _ _ _ _ _ _ _ _ _ _ _ _ _ _ (by first | assumption | omega) (by first | assumption | omega) (by first | assumption | omega) (by first | assumption | omega) (by first | assumption | omega) (by first | assumption | omega) (by first | assumption | omega) (by first | assumption | omega) (by first | assumption | omega) (by first | assumption | omega) (by first | assumption | omega)) cl_X10_settles wm_X10_181 dX10_told_59 rfl rfl rfl rfl rfl (by decide) (by decide) (by omega) (Nat.le_of_ble_eq_true rfl) rfl (fun v9 w9 hq9 => ?_)
    obtain ⟨fr3, fb4, ft5, fu6, fn7, rfl, rfl, r_fr3, r_fb4, r_ft5, r_fu6, r_fn7, hk2_59⟩ := hq9
    refine g_ws hC [cO m0 10 [w_thrown, .ref m1, w_image, .ref m3, w_hasImage, w_act, w_spot, w_end, w_isWrong, w_open, .ref m10, .ref m11, .ref m12, .int (iI ik), .ref m14, w_first, w_order, w_bestOrder, w_rooms, w_leastUnlike, w_bodies, w_ran, w_kind, w_number, w_tellsV], cA K m1 922 s, cA K m3 19 fr3, cA K m10 6 fb4, cZ K m11 64 ft5, cA K m12 36000 fu6, cA K m14 6 fn7] rfl ?_
    refine g_st hC [.int (iI (md_F W rch s 61))] rfl ?_
    exact g_iret (pc := 62) hR dX10_told_62 rfl ⟨by omega, by omega⟩ (Nat.le_of_ble_eq_true rfl) ⟨fr3, fb4, ft5, fu6, fn7, ret_eq (by unfold an_told; (repeat' split) <;> omega), rfl, (by first | assumption | omega), (by first | assumption | omega), (by first | assumption | omega), (by first | assumption | omega), (by first | assumption | omega), (by assumption)⟩
  by_cases k1_4 : w = 4
  · refine g_tswIn (pc := 1) hC (4) (off := 62) 63 dX10_told_1 k1_4 (by omega) (by decide) (by decide) ?_
    refine g_aload_n (pc := 63) hC 0 dX10_told_63 rfl rfl ?_
    refine g_fnV (pc := 64) (qr := 0) hC [0, 1] (k_X10_awayOnes _ _ _ _ _ _ _ _ _ _ _ _ _ _ _ _ _ _ _ _ _ _ _ _ _ _ _ (by first | assumption | omega) (by first | assumption | omega)) cl_X10_awayOnes wm_X10_184 dX10_told_64 rfl rfl rfl rfl rfl (by decide) (by decide) ⟨by omega, by omega⟩ (Nat.le_of_ble_eq_true rfl) rfl rfl ?_
    refine g_name hC (fun x8 e_x8 => ?_)
    exact g_iret (pc := 67) hR dX10_told_67 rfl ⟨by omega, by omega⟩ (Nat.le_of_ble_eq_true rfl) ⟨fr, fb, ft, fu, fn, ret_eq (by unfold an_told; (repeat' split) <;> omega), rfl, (by first | assumption | omega), (by first | assumption | omega), (by first | assumption | omega), (by first | assumption | omega), (by first | assumption | omega), (by assumption)⟩
  refine g_tswOut (pc := 1) hC 68 dX10_told_1 (by omega) (by omega) (by decide) ?_
  refine g_iconst (pc := 68) hC dX10_told_68 ?_
  exact g_iret (pc := 69) hR dX10_told_69 rfl ⟨by omega, by omega⟩ (Nat.le_of_ble_eq_true rfl) ⟨fr, fb, ft, fu, fn, ret_eq (by unfold an_told; (repeat' split) <;> omega), rfl, (by first | assumption | omega), (by first | assumption | omega), (by first | assumption | omega), (by first | assumption | omega), (by first | assumption | omega), (by assumption)⟩
set_option maxHeartbeats 4000000 in
set_option maxRecDepth 100000 in
theorem k_X10_pass {K : gK} (m0 : Nat) (m1 : Nat) (m10 : Nat) (m11 : Nat) (m12 : Nat) (m14 : Nat) (w_thrown : Value) (w_image : Value) (w_frame : Value) (w_hasImage : Value) (w_act : Value) (w_spot : Value) (w_end : Value) (w_isWrong : Value) (w_open : Value) (w_first : Value) (w_order : Value) (w_bestOrder : Value) (w_rooms : Value) (w_leastUnlike : Value) (w_bodies : Value) (w_ran : Value) (w_kind : Value) (w_number : Value) (w_tellsV : Value) (x : Int) (ik : Int) (s : Int → Int) (fb : Int → Int) (ft : Int → Int) (fu : Int → Int) (fn : Int → Int) (W : (Int → Int) → Int) (rch : Int) (r_x : rI x) (r_ik : rI ik) (r_s : ∀ j, rI (s j)) (r_fb : ∀ j, rI (fb j)) (r_ft : rZ ft) (r_fu : ∀ j, rI (fu j)) (r_fn : ∀ j, rI (fn j)) (hg : md_rg s) (h0 : s 0 ≤ 9999) (hT : md_TK s W rch) (hk : ik = 0 ∨ (ik = 1 ∧ md_PC W (fun z => s (26 + z)) fu)) : gMet K yX10_pass cX10_pass 2 (some .int) 7 0 0 [.ref m0, .int (iI x)] [cO m0 10 [w_thrown, .ref m1, w_image, w_frame, w_hasImage, w_act, w_spot, w_end, w_isWrong, w_open, .ref m10, .ref m11, .ref m12, .int (iI ik), .ref m14, w_first, w_order, w_bestOrder, w_rooms, w_leastUnlike, w_bodies, w_ran, w_kind, w_number, w_tellsV], cA K m1 922 s, cA K m10 6 fb, cZ K m11 64 ft, cA K m12 36000 fu, cA K m14 6 fn] (fun v9 w9 => ∃ (s2 : Int → Int), ∃ (fb2 : Int → Int), ∃ (ft2 : Int → Int), ∃ (fu2 : Int → Int), ∃ (fn2 : Int → Int), v9 = some (.int (iI (an_pass s x))) ∧ w9 = [cO m0 10 [w_thrown, .ref m1, w_image, w_frame, w_hasImage, w_act, w_spot, w_end, w_isWrong, w_open, .ref m10, .ref m11, .ref m12, .int (iI ik), .ref m14, w_first, w_order, w_bestOrder, w_rooms, w_leastUnlike, w_bodies, w_ran, w_kind, w_number, w_tellsV], cA K m1 922 s2, cA K m10 6 fb2, cZ K m11 64 ft2, cA K m12 36000 fu2, cA K m14 6 fn2] ∧ (∀ j, rI (s2 j)) ∧ (∀ j, rI (fb2 j)) ∧ rZ ft2 ∧ (∀ j, rI (fu2 j)) ∧ (∀ j, rI (fn2 j)) ∧ (s2 = ne_pass W rch s x) ∧ (ik = 0 ∨ (ik = 1 ∧ md_PC W (fun z => s (26 + z)) fu2))) := by
  refine g_enter (by decide +kernel) (Nat.le_of_ble_eq_true rfl) (fun G hC hR => ?_)
  refine g_lv hC [0, 1] [(0, _), (1, _)] rfl ?_
  have hg0 := hg.2.2.2
  have h19 := hg.2.2.1
  refine g_iload_n (pc := 0) hC 1 dX10_pass_0 rfl rfl ?_
  refine g_iconst (pc := 1) hC dX10_pass_1 ?_
  refine g_bipush (pc := 2) hC (60) dX10_pass_2 (by decide) ?_
  refine g_fnS (pc := 4) hC [] (k_X10_in _ _ _ (by first | assumption | omega) (by first | assumption | omega) (by first | assumption | omega)) cl_X10_in wm_X10_54 dX10_pass_4 rfl rfl (by decide) (by decide) ⟨by omega, by omega⟩ (Nat.le_of_ble_eq_true rfl) rfl rfl ?_
  refine g_name hC (fun x1 e_x1 => ?_)
  refine g_if_ne (pc := 7) hC 13 dX10_pass_7 (by decide) (by omega) (fun c7 => ?_) (fun c7 => ?_)
  · refine g_aload_n (pc := 13) hC 0 dX10_pass_13 rfl rfl ?_
    refine g_get (pc := 14) hC 0 fl_X10_9 dX10_pass_14 rfl rfl ?_
    refine g_iconst (pc := 17) hC dX10_pass_17 ?_
    refine g_iald (pc := 18) hC 1 dX10_pass_18 rfl (by omega) ?_
    have q2 := r_s 0
    refine g_iload_n (pc := 19) hC 1 dX10_pass_19 rfl rfl ?_
    refine g_iadd (pc := 20) hC dX10_pass_20 ?_
    refine g_sipush (pc := 21) hC (9999) dX10_pass_21 (by decide) ?_
    refine g_icmp_le (pc := 24) hC 30 dX10_pass_24 (by decide) (by omega) (by omega) (fun c24 => ?_) (fun c24 => ?_)
    · refine g_aload_n (pc := 30) hC 0 dX10_pass_30 rfl rfl ?_
      refine g_iload_n (pc := 31) hC 1 dX10_pass_31 rfl rfl ?_
      refine g_callV (pc := 32) (qr := 0) hC [0, 1, 2, 3, 4, 5] (k_X10_goesOn _ _ _ _ _ _ _ _ _ _ _ _ _ _ _ _ _ _ _ _ _ _ _ _ _ _ _ _ _ _ _ _ _ _ (by first | assumption | omega) (by first | assumption | omega) (by first | assumption | omega) (by first | assumption | omega) (by first | assumption | omega) (by first | assumption | omega) (by first | assumption | omega) (by first | assumption | omega) (by first | assumption | omega) (by first | assumption | omega) (by first | assumption | omega) (by first | assumption | omega)) cl_X10_goesOn wm_X10_187 dX10_pass_32 rfl rfl rfl rfl rfl (by decide) (by decide) (by omega) (Nat.le_of_ble_eq_true rfl) rfl (fun v9 w9 hq9 => ?_)
      obtain ⟨s3, fb3, ft4, fu5, fn6, rfl, rfl, r_s3, r_fb3, r_ft4, r_fu5, r_fn6, hs_32, hk2_32⟩ := hq9
      refine g_ws hC [cO m0 10 [w_thrown, .ref m1, w_image, w_frame, w_hasImage, w_act, w_spot, w_end, w_isWrong, w_open, .ref m10, .ref m11, .ref m12, .int (iI ik), .ref m14, w_first, w_order, w_bestOrder, w_rooms, w_leastUnlike, w_bodies, w_ran, w_kind, w_number, w_tellsV], cA K m1 922 s3, cA K m10 6 fb3, cZ K m11 64 ft4, cA K m12 36000 fu5, cA K m14 6 fn6] rfl ?_
      refine g_st hC [] rfl ?_
      have hs0 := md_goN_0 (W := W) (rch := rch) (s := s) x.toNat
      rw [← hs_32] at hs0
      refine g_aload_n (pc := 35) hC 0 dX10_pass_35 rfl rfl ?_
      refine g_get (pc := 36) hC 0 fl_X10_9 dX10_pass_36 rfl rfl ?_
      refine g_iconst (pc := 39) hC dX10_pass_39 ?_
      refine g_iald (pc := 40) hC 1 dX10_pass_40 rfl (by omega) ?_
      have q7 := r_s3 0
      exact g_iret (pc := 41) hR dX10_pass_41 rfl ⟨by omega, by omega⟩ (Nat.le_of_ble_eq_true rfl) ⟨s3, fb3, ft4, fu5, fn6, ret_eq (by unfold an_pass; (repeat' split) <;> omega), rfl, (by first | assumption | omega), (by first | assumption | omega), (by first | assumption | omega), (by first | assumption | omega), (by first | assumption | omega), (by unfold ne_pass; rw [if_pos (by omega), hs_32]), (by assumption)⟩
    · refine g_bipush (pc := 27) hC (-3) dX10_pass_27 (by decide) ?_
      exact g_iret (pc := 29) hR dX10_pass_29 rfl ⟨by omega, by omega⟩ (Nat.le_of_ble_eq_true rfl) ⟨s, fb, ft, fu, fn, ret_eq (by unfold an_pass; (repeat' split) <;> omega), rfl, (by first | assumption | omega), (by first | assumption | omega), (by first | assumption | omega), (by first | assumption | omega), (by first | assumption | omega), (by unfold ne_pass; rw [if_neg (by omega)]), (by assumption)⟩
  · refine g_bipush (pc := 10) hC (-2) dX10_pass_10 (by decide) ?_
    exact g_iret (pc := 12) hR dX10_pass_12 rfl ⟨by omega, by omega⟩ (Nat.le_of_ble_eq_true rfl) ⟨s, fb, ft, fu, fn, ret_eq (by unfold an_pass; (repeat' split) <;> omega), rfl, (by first | assumption | omega), (by first | assumption | omega), (by first | assumption | omega), (by first | assumption | omega), (by first | assumption | omega), (by unfold ne_pass; rw [if_neg (by omega)]), (by assumption)⟩
set_option maxHeartbeats 4000000 in
set_option maxRecDepth 100000 in
theorem k_X10_on {K : gK} (m0 : Nat) (m1 : Nat) (m3 : Nat) (m10 : Nat) (m11 : Nat) (m12 : Nat) (m14 : Nat) (w_thrown : Value) (w_image : Value) (w_hasImage : Value) (w_act : Value) (w_spot : Value) (w_end : Value) (w_isWrong : Value) (w_open : Value) (w_first : Value) (w_order : Value) (w_bestOrder : Value) (w_rooms : Value) (w_leastUnlike : Value) (w_bodies : Value) (w_ran : Value) (w_kind : Value) (w_number : Value) (w_tellsV : Value) (x : Int) (w : Int) (ik : Int) (s : Int → Int) (fr : Int → Int) (fb : Int → Int) (ft : Int → Int) (fu : Int → Int) (fn : Int → Int) (W : (Int → Int) → Int) (rch : Int) (r_x : rI x) (r_w : rI w) (r_ik : rI ik) (r_s : ∀ j, rI (s j)) (r_fr : ∀ j, rI (fr j)) (r_fb : ∀ j, rI (fb j)) (r_ft : rZ ft) (r_fu : ∀ j, rI (fu j)) (r_fn : ∀ j, rI (fn j)) (hg : md_rg s) (h0 : s 0 + 61 ≤ 20000) (hT : md_TK s W rch) (hk : ik = 0 ∨ (ik = 1 ∧ md_PC W (fun z => s (26 + z)) fu)) : gMet K yX10_on cX10_on 4 (some .int) 7 0 0 [.ref m0, .int (iI x), .int (iI w)] [cO m0 10 [w_thrown, .ref m1, w_image, .ref m3, w_hasImage, w_act, w_spot, w_end, w_isWrong, w_open, .ref m10, .ref m11, .ref m12, .int (iI ik), .ref m14, w_first, w_order, w_bestOrder, w_rooms, w_leastUnlike, w_bodies, w_ran, w_kind, w_number, w_tellsV], cA K m1 922 s, cA K m3 19 fr, cA K m10 6 fb, cZ K m11 64 ft, cA K m12 36000 fu, cA K m14 6 fn] (fun v9 w9 => ∃ (fr2 : Int → Int), ∃ (fb2 : Int → Int), ∃ (ft2 : Int → Int), ∃ (fu2 : Int → Int), ∃ (fn2 : Int → Int), v9 = some (.int (iI (an_on W rch s x w))) ∧ w9 = [cO m0 10 [w_thrown, .ref m1, w_image, .ref m3, w_hasImage, w_act, w_spot, w_end, w_isWrong, w_open, .ref m10, .ref m11, .ref m12, .int (iI ik), .ref m14, w_first, w_order, w_bestOrder, w_rooms, w_leastUnlike, w_bodies, w_ran, w_kind, w_number, w_tellsV], cA K m1 922 s, cA K m3 19 fr2, cA K m10 6 fb2, cZ K m11 64 ft2, cA K m12 36000 fu2, cA K m14 6 fn2] ∧ (∀ j, rI (fr2 j)) ∧ (∀ j, rI (fb2 j)) ∧ rZ ft2 ∧ (∀ j, rI (fu2 j)) ∧ (∀ j, rI (fn2 j)) ∧ (ik = 0 ∨ (ik = 1 ∧ md_PC W (fun z => s (26 + z)) fu2))) := by
  refine g_enter (by decide +kernel) (Nat.le_of_ble_eq_true rfl) (fun G hC hR => ?_)
  refine g_lv hC [0, 1, 2] [(0, _), (1, _), (2, _)] rfl ?_
  have hg0 := hg.2.2.2
  have h19 := hg.2.2.1
  refine g_iload_n (pc := 0) hC 2 dX10_on_0 rfl rfl ?_
  refine g_if_eq (pc := 1) hC 17 dX10_on_1 (by decide) (by omega) (fun c1 => ?_) (fun c1 => ?_)
  · refine g_iload_n (pc := 17) hC 1 dX10_on_17 rfl rfl ?_
    refine g_iconst (pc := 18) hC dX10_on_18 ?_
    refine g_bipush (pc := 19) hC (60) dX10_on_19 (by decide) ?_
    refine g_fnS (pc := 21) hC [] (k_X10_in _ _ _ (by first | assumption | omega) (by first | assumption | omega) (by first | assumption | omega)) cl_X10_in wm_X10_54 dX10_on_21 rfl rfl (by decide) (by decide) ⟨by omega, by omega⟩ (Nat.le_of_ble_eq_true rfl) rfl rfl ?_
    refine g_name hC (fun x1 e_x1 => ?_)
    refine g_if_ne (pc := 24) hC 30 dX10_on_24 (by decide) (by omega) (fun c24 => ?_) (fun c24 => ?_)
    · refine g_aload_n (pc := 30) hC 0 dX10_on_30 rfl rfl ?_
      refine g_callV (pc := 31) (qr := 0) hC [0, 1, 2] (k_X10_keeps _ _ _ _ _ _ _ _ _ _ _ _ _ _ _ _ _ _ _ _ _ _ _ _ _ _ _ _ (by first | assumption | omega) (by first | assumption | omega)) cl_X10_keeps wm_X10_169 dX10_on_31 rfl rfl rfl rfl rfl (by decide) (by decide) (by omega) (Nat.le_of_ble_eq_true rfl) rfl (fun v9 w9 hq9 => ?_)
      obtain ⟨fr2, rfl, rfl, r_fr2, hkp⟩ := hq9
      refine g_ws hC [cO m0 10 [w_thrown, .ref m1, w_image, .ref m3, w_hasImage, w_act, w_spot, w_end, w_isWrong, w_open, .ref m10, .ref m11, .ref m12, .int (iI ik), .ref m14, w_first, w_order, w_bestOrder, w_rooms, w_leastUnlike, w_bodies, w_ran, w_kind, w_number, w_tellsV], cA K m1 922 s, cA K m3 19 fr2, cA K m10 6 fb, cZ K m11 64 ft, cA K m12 36000 fu, cA K m14 6 fn] rfl ?_
      refine g_st hC [] rfl ?_
      refine g_aload_n (pc := 34) hC 0 dX10_on_34 rfl rfl ?_
      refine g_iload_n (pc := 35) hC 1 dX10_on_35 rfl rfl ?_
      refine g_callV (pc := 36) (qr := 0) hC [0, 1, 3, 4, 5, 6] (k_X10_goesOn _ _ _ _ _ _ _ _ _ _ _ _ _ _ _ _ _ _ _ _ _ _ _ _ _ _ _ _ _ _ _ _ _ _ (by first | assumption | omega) (by first | assumption | omega) (by first | assumption | omega) (by first | assumption | omega) (by first | assumption | omega) (by first | assumption | omega) (by first | assumption | omega) (by first | assumption | omega) (by first | assumption | omega) (by first | assumption | omega) (by first | assumption | omega) (by first | assumption | omega)) cl_X10_goesOn wm_X10_187 dX10_on_36 rfl rfl rfl rfl rfl (by decide) (by decide) (by omega) (Nat.le_of_ble_eq_true rfl) rfl (fun v9 w9 hq9 => ?_)
      obtain ⟨s4, fb3, ft4, fu5, fn6, rfl, rfl, r_s4, r_fb3, r_ft4, r_fu5, r_fn6, hs_36, hk2_36⟩ := hq9
      refine g_ws hC [cO m0 10 [w_thrown, .ref m1, w_image, .ref m3, w_hasImage, w_act, w_spot, w_end, w_isWrong, w_open, .ref m10, .ref m11, .ref m12, .int (iI ik), .ref m14, w_first, w_order, w_bestOrder, w_rooms, w_leastUnlike, w_bodies, w_ran, w_kind, w_number, w_tellsV], cA K m1 922 s4, cA K m3 19 fr2, cA K m10 6 fb3, cZ K m11 64 ft4, cA K m12 36000 fu5, cA K m14 6 fn6] rfl ?_
      refine g_st hC [] rfl ?_
      have hgj : md_rg s4 := by rw [hs_36]; exact md_goN_rg hg _ (by omega)
      refine g_iload_n (pc := 39) hC 2 dX10_on_39 rfl rfl ?_
      refine g_if_ne (pc := 40) hC 50 dX10_on_40 (by decide) (by omega) (fun c40 => ?_) (fun c40 => ?_)
      · refine g_aload_n (pc := 50) hC 0 dX10_on_50 rfl rfl ?_
        refine g_get (pc := 51) hC 0 fl_X10_9 dX10_on_51 rfl rfl ?_
        refine g_iconst (pc := 54) hC dX10_on_54 ?_
        refine g_iload_n (pc := 55) hC 2 dX10_on_55 rfl rfl ?_
        refine g_iadd (pc := 56) hC dX10_on_56 ?_
        refine g_bipush (pc := 57) hC (10) dX10_on_57 (by decide) ?_
        refine g_isub (pc := 59) hC dX10_on_59 ?_
        refine g_iald (pc := 60) hC 1 dX10_on_60 rfl (by omega) ?_
        have q7 := r_s4 ((1 + w) - 10)
        have hgw := hgj.1 (w - 10) (by omega) (by omega)
        rw [show 1 + (w - 10) = 1 + w - 10 by omega] at hgw
        refine g_istore_n (pc := 61) hC [(3, _), (0, _), (1, _), (2, _)] dX10_on_61 rfl (by decide) rfl ?_
        refine g_aload_n (pc := 62) hC 1 dX10_on_62 rfl rfl ?_
        refine g_callV (pc := 63) (qr := 0) hC [0, 1, 2] (k_X10_goesBack _ _ _ _ _ _ _ _ _ _ _ _ _ _ _ _ _ _ _ _ _ _ _ _ _ _ _ _ (by first | assumption | omega) (by first | assumption | omega)) cl_X10_goesBack wm_X10_178 dX10_on_63 rfl rfl rfl rfl rfl (by decide) (by decide) (by omega) (Nat.le_of_ble_eq_true rfl) rfl (fun v9 w9 hq9 => ?_)
        obtain ⟨s3, rfl, rfl, r_s3, hb_63⟩ := hq9
        refine g_ws hC [cO m0 10 [w_thrown, .ref m1, w_image, .ref m3, w_hasImage, w_act, w_spot, w_end, w_isWrong, w_open, .ref m10, .ref m11, .ref m12, .int (iI ik), .ref m14, w_first, w_order, w_bestOrder, w_rooms, w_leastUnlike, w_bodies, w_ran, w_kind, w_number, w_tellsV], cA K m1 922 s3, cA K m3 19 fr2, cA K m10 6 fb3, cZ K m11 64 ft4, cA K m12 36000 fu5, cA K m14 6 fn6] rfl ?_
        refine g_st hC [] rfl ?_
        rw [show (s3 : Int → Int) = s from (md_back hkp (fun z hz => by rw [hs_36]; exact md_goN_out h19.2 (by omega) _) hb_63)]
        refine g_iload_n (pc := 66) hC 0 dX10_on_66 rfl rfl ?_
        exact g_iret (pc := 67) hR dX10_on_67 rfl ⟨by omega, by omega⟩ (Nat.le_of_ble_eq_true rfl) ⟨fr2, fb3, ft4, fu5, fn6, ret_eq (by unfold an_on; rw [if_pos (by omega), if_pos (by omega), if_neg (by omega), ← hs_36] <;> assumption), rfl, (by first | assumption | omega), (by first | assumption | omega), (by first | assumption | omega), (by first | assumption | omega), (by first | assumption | omega), (by assumption)⟩
      · refine g_aload_n (pc := 43) hC 0 dX10_on_43 rfl rfl ?_
        refine g_fnV (pc := 44) (qr := 0) hC [0, 1] (k_X10_unlike _ _ _ _ _ _ _ _ _ _ _ _ _ _ _ _ _ _ _ _ _ _ _ _ _ _ _ (by first | assumption | omega) hgj) cl_X10_unlike wm_X10_172 dX10_on_44 rfl rfl rfl rfl rfl (by decide) (by decide) ⟨by omega, by omega⟩ (Nat.le_of_ble_eq_true rfl) rfl rfl ?_
        refine g_name hC (fun x8 e_x8 => ?_)
        have q_x8 : 0 ≤ x8 ∧ x8 ≤ 10 := by rw [e_x8]; exact md_unl_rng _
        refine g_goto (pc := 47) hC 61 dX10_on_47 (by decide) ?_
        refine g_istore_n (pc := 61) hC [(3, _), (0, _), (1, _), (2, _)] dX10_on_61 rfl (by decide) rfl ?_
        refine g_aload_n (pc := 62) hC 1 dX10_on_62 rfl rfl ?_
        refine g_callV (pc := 63) (qr := 0) hC [0, 1, 2] (k_X10_goesBack _ _ _ _ _ _ _ _ _ _ _ _ _ _ _ _ _ _ _ _ _ _ _ _ _ _ _ _ (by first | assumption | omega) (by first | assumption | omega)) cl_X10_goesBack wm_X10_178 dX10_on_63 rfl rfl rfl rfl rfl (by decide) (by decide) (by omega) (Nat.le_of_ble_eq_true rfl) rfl (fun v9 w9 hq9 => ?_)
        obtain ⟨s3, rfl, rfl, r_s3, hb_63⟩ := hq9
        refine g_ws hC [cO m0 10 [w_thrown, .ref m1, w_image, .ref m3, w_hasImage, w_act, w_spot, w_end, w_isWrong, w_open, .ref m10, .ref m11, .ref m12, .int (iI ik), .ref m14, w_first, w_order, w_bestOrder, w_rooms, w_leastUnlike, w_bodies, w_ran, w_kind, w_number, w_tellsV], cA K m1 922 s3, cA K m3 19 fr2, cA K m10 6 fb3, cZ K m11 64 ft4, cA K m12 36000 fu5, cA K m14 6 fn6] rfl ?_
        refine g_st hC [] rfl ?_
        rw [show (s3 : Int → Int) = s from (md_back hkp (fun z hz => by rw [hs_36]; exact md_goN_out h19.2 (by omega) _) hb_63)]
        refine g_iload_n (pc := 66) hC 0 dX10_on_66 rfl rfl ?_
        exact g_iret (pc := 67) hR dX10_on_67 rfl ⟨by omega, by omega⟩ (Nat.le_of_ble_eq_true rfl) ⟨fr2, fb3, ft4, fu5, fn6, ret_eq (by unfold an_on; rw [if_pos (by omega), if_pos (by omega), if_pos (by omega), ← hs_36] <;> assumption), rfl, (by first | assumption | omega), (by first | assumption | omega), (by first | assumption | omega), (by first | assumption | omega), (by first | assumption | omega), (by assumption)⟩
    · refine g_bipush (pc := 27) hC (-2) dX10_on_27 (by decide) ?_
      exact g_iret (pc := 29) hR dX10_on_29 rfl ⟨by omega, by omega⟩ (Nat.le_of_ble_eq_true rfl) ⟨fr, fb, ft, fu, fn, ret_eq (by unfold an_on; (repeat' split) <;> omega), rfl, (by first | assumption | omega), (by first | assumption | omega), (by first | assumption | omega), (by first | assumption | omega), (by first | assumption | omega), (by assumption)⟩
  · refine g_aload_n (pc := 4) hC 0 dX10_on_4 rfl rfl ?_
    refine g_iload_n (pc := 5) hC 2 dX10_on_5 rfl rfl ?_
    refine g_bipush (pc := 6) hC (10) dX10_on_6 (by decide) ?_
    refine g_isub (pc := 8) hC dX10_on_8 ?_
    refine g_wrap hC (by omega) (fun z r_z w_z => ?_)
    refine g_fnV (pc := 9) (qr := 0) hC [0, 1] (k_X10_isMan _ _ _ _ _ _ _ _ _ _ _ _ _ _ _ _ _ _ _ _ _ _ _ _ _ _ _ _ (by first | assumption | omega) (by first | assumption | omega) (by first | assumption | omega)) cl_X10_isMan wm_X10_159 dX10_on_9 rfl rfl rfl rfl rfl (by decide) (by decide) ⟨by omega, by omega⟩ (Nat.le_of_ble_eq_true rfl) rfl rfl ?_
    refine g_name hC (fun x9 e_x9 => ?_)
    refine g_if_ne (pc := 12) hC 17 dX10_on_12 (by decide) (by omega) (fun c12 => ?_) (fun c12 => ?_)
    · refine g_iload_n (pc := 17) hC 1 dX10_on_17 rfl rfl ?_
      refine g_iconst (pc := 18) hC dX10_on_18 ?_
      refine g_bipush (pc := 19) hC (60) dX10_on_19 (by decide) ?_
      refine g_fnS (pc := 21) hC [] (k_X10_in _ _ _ (by first | assumption | omega) (by first | assumption | omega) (by first | assumption | omega)) cl_X10_in wm_X10_54 dX10_on_21 rfl rfl (by decide) (by decide) ⟨by omega, by omega⟩ (Nat.le_of_ble_eq_true rfl) rfl rfl ?_
      refine g_name hC (fun x10 e_x10 => ?_)
      refine g_if_ne (pc := 24) hC 30 dX10_on_24 (by decide) (by omega) (fun c24 => ?_) (fun c24 => ?_)
      · refine g_aload_n (pc := 30) hC 0 dX10_on_30 rfl rfl ?_
        refine g_callV (pc := 31) (qr := 0) hC [0, 1, 2] (k_X10_keeps _ _ _ _ _ _ _ _ _ _ _ _ _ _ _ _ _ _ _ _ _ _ _ _ _ _ _ _ (by first | assumption | omega) (by first | assumption | omega)) cl_X10_keeps wm_X10_169 dX10_on_31 rfl rfl rfl rfl rfl (by decide) (by decide) (by omega) (Nat.le_of_ble_eq_true rfl) rfl (fun v9 w9 hq9 => ?_)
        obtain ⟨fr11, rfl, rfl, r_fr11, hkp⟩ := hq9
        refine g_ws hC [cO m0 10 [w_thrown, .ref m1, w_image, .ref m3, w_hasImage, w_act, w_spot, w_end, w_isWrong, w_open, .ref m10, .ref m11, .ref m12, .int (iI ik), .ref m14, w_first, w_order, w_bestOrder, w_rooms, w_leastUnlike, w_bodies, w_ran, w_kind, w_number, w_tellsV], cA K m1 922 s, cA K m3 19 fr11, cA K m10 6 fb, cZ K m11 64 ft, cA K m12 36000 fu, cA K m14 6 fn] rfl ?_
        refine g_st hC [] rfl ?_
        refine g_aload_n (pc := 34) hC 0 dX10_on_34 rfl rfl ?_
        refine g_iload_n (pc := 35) hC 1 dX10_on_35 rfl rfl ?_
        refine g_callV (pc := 36) (qr := 0) hC [0, 1, 3, 4, 5, 6] (k_X10_goesOn _ _ _ _ _ _ _ _ _ _ _ _ _ _ _ _ _ _ _ _ _ _ _ _ _ _ _ _ _ _ _ _ _ _ (by first | assumption | omega) (by first | assumption | omega) (by first | assumption | omega) (by first | assumption | omega) (by first | assumption | omega) (by first | assumption | omega) (by first | assumption | omega) (by first | assumption | omega) (by first | assumption | omega) (by first | assumption | omega) (by first | assumption | omega) (by first | assumption | omega)) cl_X10_goesOn wm_X10_187 dX10_on_36 rfl rfl rfl rfl rfl (by decide) (by decide) (by omega) (Nat.le_of_ble_eq_true rfl) rfl (fun v9 w9 hq9 => ?_)
        obtain ⟨s4, fb12, ft13, fu14, fn15, rfl, rfl, r_s4, r_fb12, r_ft13, r_fu14, r_fn15, hs_36, hk2_36⟩ := hq9
        refine g_ws hC [cO m0 10 [w_thrown, .ref m1, w_image, .ref m3, w_hasImage, w_act, w_spot, w_end, w_isWrong, w_open, .ref m10, .ref m11, .ref m12, .int (iI ik), .ref m14, w_first, w_order, w_bestOrder, w_rooms, w_leastUnlike, w_bodies, w_ran, w_kind, w_number, w_tellsV], cA K m1 922 s4, cA K m3 19 fr11, cA K m10 6 fb12, cZ K m11 64 ft13, cA K m12 36000 fu14, cA K m14 6 fn15] rfl ?_
        refine g_st hC [] rfl ?_
        have hgj : md_rg s4 := by rw [hs_36]; exact md_goN_rg hg _ (by omega)
        refine g_iload_n (pc := 39) hC 2 dX10_on_39 rfl rfl ?_
        refine g_if_ne (pc := 40) hC 50 dX10_on_40 (by decide) (by omega) (fun c40 => ?_) (fun c40 => ?_)
        · refine g_aload_n (pc := 50) hC 0 dX10_on_50 rfl rfl ?_
          refine g_get (pc := 51) hC 0 fl_X10_9 dX10_on_51 rfl rfl ?_
          refine g_iconst (pc := 54) hC dX10_on_54 ?_
          refine g_iload_n (pc := 55) hC 2 dX10_on_55 rfl rfl ?_
          refine g_iadd (pc := 56) hC dX10_on_56 ?_
          refine g_bipush (pc := 57) hC (10) dX10_on_57 (by decide) ?_
          refine g_isub (pc := 59) hC dX10_on_59 ?_
          refine g_iald (pc := 60) hC 1 dX10_on_60 rfl (by omega) ?_
          have q16 := r_s4 ((1 + w) - 10)
          have hgw := hgj.1 (w - 10) (by omega) (by omega)
          rw [show 1 + (w - 10) = 1 + w - 10 by omega] at hgw
          refine g_istore_n (pc := 61) hC [(3, _), (0, _), (1, _), (2, _)] dX10_on_61 rfl (by decide) rfl ?_
          refine g_aload_n (pc := 62) hC 1 dX10_on_62 rfl rfl ?_
          refine g_callV (pc := 63) (qr := 0) hC [0, 1, 2] (k_X10_goesBack _ _ _ _ _ _ _ _ _ _ _ _ _ _ _ _ _ _ _ _ _ _ _ _ _ _ _ _ (by first | assumption | omega) (by first | assumption | omega)) cl_X10_goesBack wm_X10_178 dX10_on_63 rfl rfl rfl rfl rfl (by decide) (by decide) (by omega) (Nat.le_of_ble_eq_true rfl) rfl (fun v9 w9 hq9 => ?_)
          obtain ⟨s3, rfl, rfl, r_s3, hb_63⟩ := hq9
          refine g_ws hC [cO m0 10 [w_thrown, .ref m1, w_image, .ref m3, w_hasImage, w_act, w_spot, w_end, w_isWrong, w_open, .ref m10, .ref m11, .ref m12, .int (iI ik), .ref m14, w_first, w_order, w_bestOrder, w_rooms, w_leastUnlike, w_bodies, w_ran, w_kind, w_number, w_tellsV], cA K m1 922 s3, cA K m3 19 fr11, cA K m10 6 fb12, cZ K m11 64 ft13, cA K m12 36000 fu14, cA K m14 6 fn15] rfl ?_
          refine g_st hC [] rfl ?_
          rw [show (s3 : Int → Int) = s from (md_back hkp (fun z hz => by rw [hs_36]; exact md_goN_out h19.2 (by omega) _) hb_63)]
          refine g_iload_n (pc := 66) hC 0 dX10_on_66 rfl rfl ?_
          exact g_iret (pc := 67) hR dX10_on_67 rfl ⟨by omega, by omega⟩ (Nat.le_of_ble_eq_true rfl) ⟨fr11, fb12, ft13, fu14, fn15, ret_eq (by unfold an_on; rw [if_pos (by omega), if_pos (by omega), if_neg (by omega), ← hs_36] <;> assumption), rfl, (by first | assumption | omega), (by first | assumption | omega), (by first | assumption | omega), (by first | assumption | omega), (by first | assumption | omega), (by assumption)⟩
        · refine g_aload_n (pc := 43) hC 0 dX10_on_43 rfl rfl ?_
          refine g_fnV (pc := 44) (qr := 0) hC [0, 1] (k_X10_unlike _ _ _ _ _ _ _ _ _ _ _ _ _ _ _ _ _ _ _ _ _ _ _ _ _ _ _ (by first | assumption | omega) hgj) cl_X10_unlike wm_X10_172 dX10_on_44 rfl rfl rfl rfl rfl (by decide) (by decide) ⟨by omega, by omega⟩ (Nat.le_of_ble_eq_true rfl) rfl rfl ?_
          refine g_name hC (fun x17 e_x17 => ?_)
          have q_x17 : 0 ≤ x17 ∧ x17 ≤ 10 := by rw [e_x17]; exact md_unl_rng _
          refine g_goto (pc := 47) hC 61 dX10_on_47 (by decide) ?_
          refine g_istore_n (pc := 61) hC [(3, _), (0, _), (1, _), (2, _)] dX10_on_61 rfl (by decide) rfl ?_
          refine g_aload_n (pc := 62) hC 1 dX10_on_62 rfl rfl ?_
          refine g_callV (pc := 63) (qr := 0) hC [0, 1, 2] (k_X10_goesBack _ _ _ _ _ _ _ _ _ _ _ _ _ _ _ _ _ _ _ _ _ _ _ _ _ _ _ _ (by first | assumption | omega) (by first | assumption | omega)) cl_X10_goesBack wm_X10_178 dX10_on_63 rfl rfl rfl rfl rfl (by decide) (by decide) (by omega) (Nat.le_of_ble_eq_true rfl) rfl (fun v9 w9 hq9 => ?_)
          obtain ⟨s3, rfl, rfl, r_s3, hb_63⟩ := hq9
          refine g_ws hC [cO m0 10 [w_thrown, .ref m1, w_image, .ref m3, w_hasImage, w_act, w_spot, w_end, w_isWrong, w_open, .ref m10, .ref m11, .ref m12, .int (iI ik), .ref m14, w_first, w_order, w_bestOrder, w_rooms, w_leastUnlike, w_bodies, w_ran, w_kind, w_number, w_tellsV], cA K m1 922 s3, cA K m3 19 fr11, cA K m10 6 fb12, cZ K m11 64 ft13, cA K m12 36000 fu14, cA K m14 6 fn15] rfl ?_
          refine g_st hC [] rfl ?_
          rw [show (s3 : Int → Int) = s from (md_back hkp (fun z hz => by rw [hs_36]; exact md_goN_out h19.2 (by omega) _) hb_63)]
          refine g_iload_n (pc := 66) hC 0 dX10_on_66 rfl rfl ?_
          exact g_iret (pc := 67) hR dX10_on_67 rfl ⟨by omega, by omega⟩ (Nat.le_of_ble_eq_true rfl) ⟨fr11, fb12, ft13, fu14, fn15, ret_eq (by unfold an_on; rw [if_pos (by omega), if_pos (by omega), if_pos (by omega), ← hs_36] <;> assumption), rfl, (by first | assumption | omega), (by first | assumption | omega), (by first | assumption | omega), (by first | assumption | omega), (by first | assumption | omega), (by assumption)⟩
      · refine g_bipush (pc := 27) hC (-2) dX10_on_27 (by decide) ?_
        exact g_iret (pc := 29) hR dX10_on_29 rfl ⟨by omega, by omega⟩ (Nat.le_of_ble_eq_true rfl) ⟨fr, fb, ft, fu, fn, ret_eq (by unfold an_on; (repeat' split) <;> omega), rfl, (by first | assumption | omega), (by first | assumption | omega), (by first | assumption | omega), (by first | assumption | omega), (by first | assumption | omega), (by assumption)⟩
    · refine g_iconst (pc := 15) hC dX10_on_15 ?_
      exact g_iret (pc := 16) hR dX10_on_16 rfl ⟨by omega, by omega⟩ (Nat.le_of_ble_eq_true rfl) ⟨fr, fb, ft, fu, fn, ret_eq (by unfold an_on; (repeat' split) <;> omega), rfl, (by first | assumption | omega), (by first | assumption | omega), (by first | assumption | omega), (by first | assumption | omega), (by first | assumption | omega), (by assumption)⟩
