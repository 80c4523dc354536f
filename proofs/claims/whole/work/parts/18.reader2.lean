/-! THE CLASS: its reader -/
def cr_T (T : Int → Int) (e : Int) (sg : Int → Int) : Prop := (0 ≤ e ∧ e ≤ 100) ∧ (∀ q, 0 ≤ q → T q = if q < e then sg q else -1) ∧ (∀ q, -1 ≤ T q ∧ T q ≤ 127) ∧ (∀ q, 0 ≤ q → q < e → 0 ≤ T q)
theorem cr_lt {T sg : Int → Int} {e q c : Int} (h : cr_T T e sg) (hq : 0 ≤ q) (hc : T q = c) (h0 : 0 ≤ c) : q < e := by
  by_cases h1 : q < e
  · exact h1
  · have h2 := h.2.1 q hq
    rw [if_neg h1] at h2
    omega
def vb_n (c n : Int) : Nat → Int
  | 0 => 0
  | x + 1 => bOr (vb_n c n x) (if (if c = 60 then (if (x : Int) < n then 1 else 0) else if c = 61 then (if (x : Int) = n then 1 else 0) else (if n < (x : Int) then (1 : Int) else 0)) = 0 then 0 else bShl 1 (x : Int))
/-- a token of the reference as an order of the class -/
def tk_e (t : Int) : Int := if 0 ≤ t then vb_n (60 + t / 8 % 4) (t / 32) 10 * 16 + t % 8 else if t = -1 then 6 else if t = -2 then 7 else if t = -3 then 8 else if -200 < t then (-10 - t) * 16 + 9 else (-200 - t) * 16 + 10
def cr_L (l : List Int) (od : Int → Int) (m : Int) : Prop := m = (l.length : Int) ∧ ∀ j : Nat, j < l.length → od (j : Int) = tk_e (l.getD j 0)
theorem cr_put {l : List Int} {od o2 : Int → Int} {m x t : Int} (h : cr_L l od m) (hx : x = tk_e t) (e : o2 = upI od m x) : cr_L (l ++ [t]) o2 (m + 1) := by
  refine ⟨by rw [h.1, List.length_append]; rfl, fun j hj => ?_⟩
  rw [List.length_append] at hj
  simp only [List.length_cons, List.length_nil] at hj
  rw [e, List.getD_eq_getElem?_getD]
  by_cases hm : j = l.length
  · rw [h.1, hm, upI_at, hx]
    simp
  · rw [h.1, upI_ne (by omega), h.2 j (by omega), List.getD_eq_getElem?_getD, List.getElem?_append_left (by omega)]
theorem vb_8 : ∀ (b : Fin 3) (v : Fin 100), 0 ≤ vb_n (60 + (b.val : Int)) (v.val : Int) 10 ∧ vb_n (60 + (b.val : Int)) (v.val : Int) 10 < 1024 ∧ ∀ x : Fin 10, bAnd (bShr (vb_n (60 + (b.val : Int)) (v.val : Int) 10) (x.val : Int)) 1 = (if b.val = 0 then (if x.val < v.val then 1 else 0) else if b.val = 1 then (if x.val = v.val then 1 else 0) else (if v.val < x.val then 1 else 0)) := by decide +kernel
theorem vb_rng {c n : Int} (hc : 60 ≤ c ∧ c ≤ 62) (hn : 0 ≤ n ∧ n ≤ 99) : 0 ≤ vb_n c n 10 ∧ vb_n c n 10 < 1024 := by
  have h := vb_8 ⟨(c - 60).toNat, by omega⟩ ⟨n.toNat, by omega⟩
  have e1 : 60 + (((c - 60).toNat : Nat) : Int) = c := by omega
  have e2 : ((n.toNat : Nat) : Int) = n := by omega
  simp only [e1, e2] at h
  exact ⟨h.1, h.2.1⟩
theorem tk_e_t {a b v n c : Int} (ha : 0 ≤ a ∧ a < 8) (hb : 0 ≤ b ∧ b ≤ 2) (hv : 0 ≤ v ∧ v ≤ 99) (hn : n = vb_n c v 10) (hc : c = 60 + b) : n * 16 + a = tk_e (a + 8 * b + 32 * v) := by
  unfold tk_e
  rw [if_pos (by omega), show (a + 8 * b + 32 * v) / 8 % 4 = b by omega, show (a + 8 * b + 32 * v) / 32 = v by omega, show (a + 8 * b + 32 * v) % 8 = a by omega, hn, hc]
theorem px_am6 (c : Int) : px_am 6 c (sl 6).toNat = if c = 60 then 0 else if c = 61 then 1 else if c = 62 then 2 else -1 := by
  have e0 : sx 6 0 = 60 := rfl
  have e1 : sx 6 1 = 61 := rfl
  have e2 : sx 6 2 = 62 := rfl
  have h1 : px_am 6 c 1 = if c = 60 then 0 else -1 := by
    show (if (-1 : Int) = -1 then (if c = sx 6 ((0 : Nat) : Int) then ((0 : Nat) : Int) else -1) else -1) = _
    rw [if_pos rfl]
    rfl
  have h2 : px_am 6 c 2 = if c = 60 then 0 else if c = 61 then 1 else -1 := by
    show (if px_am 6 c 1 = -1 then (if c = sx 6 ((1 : Nat) : Int) then ((1 : Nat) : Int) else -1) else px_am 6 c 1) = _
    rw [h1, show sx 6 ((1 : Nat) : Int) = 61 from rfl]
    by_cases h : c = 60
    · rw [if_pos h, if_neg (by decide), if_pos h]
    · rw [if_neg h, if_pos rfl, if_neg h]; rfl
  show (if px_am 6 c 2 = -1 then (if c = sx 6 ((2 : Nat) : Int) then ((2 : Nat) : Int) else -1) else px_am 6 c 2) = _
  rw [h2, show sx 6 ((2 : Nat) : Int) = 62 from rfl]
  by_cases h : c = 60
  · rw [if_pos h, if_neg (by decide), if_pos h]
  · rw [if_neg h, if_neg h]
    by_cases h3 : c = 61
    · rw [if_pos h3, if_neg (by decide), if_pos h3]
    · rw [if_neg h3, if_pos rfl, if_neg h3]; rfl
theorem px_spl_w {T : Int → Int} {k : Nat} {p p1 : Int} {j : Nat} (h : (1, p1) = px_spl T k j 0 p) : ∀ m : Nat, (1, p1) = px_spl T k (j + m) 0 p
  | 0 => h
  | m + 1 => by
    have ih := px_spl_w h m
    show _ = px_must T (sx k ((j + m : Nat) : Int)) (px_spl T k (j + m) 0 p).1 (px_spl T k (j + m) 0 p).2
    rw [← ih]
    unfold px_must
    rw [if_neg (fun q => absurd (show (1 : Int) = 0 from q.1) (by decide))]
theorem px_spl_no {T : Int → Int} {k j : Nat} {p p1 i : Int} (hi : i = (j : Int)) (h : (0, p1) = px_spl T k j 0 p) (hx : ¬ T p1 = sx k i) (hj : i < sl k) : (1, p1) = px_spl T k (sl k).toNat 0 p := by
  have h1 : (1, p1) = px_spl T k (j + 1) 0 p := by
    unfold px_spl
    rw [← h, ← hi]
    unfold px_must
    rw [if_neg (fun q => hx q.2)]
  have h2 := px_spl_w h1 ((sl k).toNat - (j + 1))
  rw [show j + 1 + ((sl k).toNat - (j + 1)) = (sl k).toNat by omega] at h2
  exact h2
theorem px_spl_y {T : Int → Int} {k j : Nat} {p p1 i : Int} (hi : i = (j : Int)) (h : (0, p1) = px_spl T k j 0 p) (hx : T p1 = sx k i) : (0, p1 + 1) = px_spl T k (j + 1) 0 p := by
  unfold px_spl
  rw [← h, ← hi]
  unfold px_must
  rw [if_pos ⟨rfl, hx⟩]
theorem px_tst_a {T : Int → Int} {p a : Int} {l : List Int} (ha : a = px_am 5 (T p) (sl 5).toNat) (h : a = -1) : (1, p, l) = px_tst T p l := by
  unfold px_tst
  rw [if_pos (by omega)]
theorem px_tst_b {T : Int → Int} {p a c : Int} {l : List Int} (ha : a = px_am 5 (T p) (sl 5).toNat) (h : ¬ a = -1) (hc : c = T (p + 1)) (h2 : ¬ c = 60) (h3 : ¬ c = 61) (h4 : ¬ c = 62) : (1, p + 1, l) = px_tst T p l := by
  unfold px_tst
  rw [if_neg (by omega), px_am6, ← hc, if_neg h2, if_neg h3, if_neg h4, if_pos rfl]
theorem px_tst_c {T : Int → Int} {p a c w3 p3 v : Int} {l l4 : List Int} (ha : a = px_am 5 (T p) (sl 5).toNat) (h : ¬ a = -1) (hc : c = T (p + 1)) (h2 : 60 ≤ c ∧ c ≤ 62) (hf : (w3, p3, v) = px_fig T 0 (p + 1 + 1)) (h4 : l4 = if w3 = 0 then l ++ [a + 8 * (c - 60) + 32 * v] else l) : (w3, p3, l4) = px_tst T p l := by
  have e : px_am 6 (T (p + 1)) (sl 6).toNat = c - 60 := by
    rw [px_am6, ← hc]
    (repeat' split) <;> omega
  unfold px_tst
  rw [if_neg (by omega), e, if_neg (by omega), ← hf, ← ha]
  exact (px_emit_is h4).symm
set_option maxHeartbeats 4000000 in
set_option maxRecDepth 100000 in
theorem k_X1_clear {K : gK} (g2 : Nat) (w_orders : Value) (m : Int) (rc : Int) (r_m : rI m) (r_rc : rI rc) : gMet K yX1_clear cX1_clear 1 none 0 0 0 [.ref g2] [cO g2 1 [w_orders, .int (iI m), .int (iI rc)]] (fun v9 w9 => v9 = none ∧ w9 = [cO g2 1 [w_orders, .int (iI 0), .int (iI 9)]]) := by
  refine g_enter (by decide +kernel) (Nat.le_of_ble_eq_true rfl) (fun G hC hR => ?_)
  refine g_lv hC [0] [(0, _)] rfl ?_
  refine g_aload_n (pc := 0) hC 0 dX1_clear_0 rfl rfl ?_
  refine g_iconst (pc := 1) hC dX1_clear_1 ?_
  refine g_putI (pc := 2) hC 0 [cO _ _ [_, _, _]] fl_X1_15 dX1_clear_2 rfl (Nat.le_of_ble_eq_true rfl) rfl ?_
  refine g_aload_n (pc := 5) hC 0 dX1_clear_5 rfl rfl ?_
  refine g_bipush (pc := 6) hC (9) dX1_clear_6 (by decide) ?_
  refine g_putI (pc := 8) hC 0 [cO _ _ [_, _, _]] fl_X1_19 dX1_clear_8 rfl (Nat.le_of_ble_eq_true rfl) rfl ?_
  exact g_vret (pc := 11) hR dX1_clear_11 rfl ⟨by omega, by omega⟩ (Nat.le_of_ble_eq_true rfl) ⟨rfl, rfl⟩
set_option maxHeartbeats 4000000 in
set_option maxRecDepth 100000 in
theorem k_X1_put {K : gK} (g2 : Nat) (g4 : Nat) (w_reach : Value) (x : Int) (n : Int) (m : Int) (od : Int → Int) (l : List Int) (t : Int) (r_x : rI x) (r_n : rI n) (r_m : rI m) (r_od : ∀ j, rI (od j)) (hL : cr_L l od m) (hl : (l.length : Int) < 100) (ht : n * 16 + x = tk_e t) (hxn : (0 ≤ x ∧ x < 16) ∧ 0 ≤ n ∧ n < 1024) : gMet K yX1_put cX1_put 3 none 0 0 0 [.ref g2, .int (iI x), .int (iI n)] [cO g2 1 [.ref g4, .int (iI m), w_reach], cA K g4 100 od] (fun v9 w9 => ∃ (m2 : Int), ∃ (od2 : Int → Int), v9 = none ∧ w9 = [cO g2 1 [.ref g4, .int (iI m2), w_reach], cA K g4 100 od2] ∧ rI m2 ∧ (∀ j, rI (od2 j)) ∧ (cr_L (l ++ [t]) od2 m2) ∧ (0 ≤ m2 ∧ m2 ≤ 100)) := by
  refine g_enter (by decide +kernel) (Nat.le_of_ble_eq_true rfl) (fun G hC hR => ?_)
  refine g_lv hC [0, 1, 2] [(0, _), (1, _), (2, _)] rfl ?_
  have hm := hL.1
  refine g_aload_n (pc := 0) hC 0 dX1_put_0 rfl rfl ?_
  refine g_get (pc := 1) hC 0 fl_X1_15 dX1_put_1 rfl rfl ?_
  refine g_if_lt (pc := 4) hC 44 dX1_put_4 (by decide) (by omega) (fun c4 => by exfalso; omega) (fun c4 => ?_)
  refine g_aload_n (pc := 7) hC 0 dX1_put_7 rfl rfl ?_
  refine g_get (pc := 8) hC 0 fl_X1_15 dX1_put_8 rfl rfl ?_
  refine g_aload_n (pc := 11) hC 0 dX1_put_11 rfl rfl ?_
  refine g_get (pc := 12) hC 0 fl_X1_9 dX1_put_12 rfl rfl ?_
  refine g_alen (pc := 15) hC 1 dX1_put_15 rfl ?_
  refine g_st hC [.int (iI 100), _] rfl ?_
  refine g_icmp_ge (pc := 16) hC 44 dX1_put_16 (by decide) (by omega) (by omega) (fun c16 => by exfalso; omega) (fun c16 => ?_)
  refine g_aload_n (pc := 19) hC 0 dX1_put_19 rfl rfl ?_
  refine g_get (pc := 20) hC 0 fl_X1_9 dX1_put_20 rfl rfl ?_
  refine g_aload_n (pc := 23) hC 0 dX1_put_23 rfl rfl ?_
  refine g_get (pc := 24) hC 0 fl_X1_15 dX1_put_24 rfl rfl ?_
  refine g_iload_n (pc := 27) hC 2 dX1_put_27 rfl rfl ?_
  refine g_bipush (pc := 28) hC (16) dX1_put_28 (by decide) ?_
  refine g_imul (pc := 30) hC dX1_put_30 ?_
  refine g_iload_n (pc := 31) hC 1 dX1_put_31 rfl rfl ?_
  refine g_iadd (pc := 32) hC dX1_put_32 ?_
  refine g_iast (pc := 33) hC 1 (fun f9 => [_, cA K _ _ f9]) dX1_put_33 rfl (by omega) (fun _ => rfl) (fun o3 e_o3 => ?_)
  have r_o3 := rng_up e_o3 r_od (by omega)
  refine g_aload_n (pc := 34) hC 0 dX1_put_34 rfl rfl ?_
  refine g_dup (pc := 35) hC dX1_put_35 rfl ?_
  refine g_get (pc := 36) hC 0 fl_X1_15 dX1_put_36 rfl rfl ?_
  refine g_iconst (pc := 39) hC dX1_put_39 ?_
  refine g_iadd (pc := 40) hC dX1_put_40 ?_
  refine g_putI (pc := 41) hC 0 [cO _ _ [_, _, _], _] fl_X1_15 dX1_put_41 rfl (Nat.le_of_ble_eq_true rfl) rfl ?_
  exact g_vret (pc := 44) hR dX1_put_44 rfl ⟨by omega, by omega⟩ (Nat.le_of_ble_eq_true rfl) ⟨m + 1, o3, rfl, rfl, (by first | assumption | omega), (by first | assumption | omega), (cr_put hL ht e_o3), (by first | assumption | omega)⟩
set_option maxHeartbeats 4000000 in
set_option maxRecDepth 100000 in
theorem k_X3_sign {K : gK} (g0 : Nat) (g1 : Nat) (g3 : Nat) (w_house : Value) (nm : Int) (p : Int) (e : Int) (sg : Int → Int) (T : Int → Int) (r_nm : rI nm) (r_p : rI p) (r_e : rI e) (r_sg : ∀ j, rI (sg j)) (hT : cr_T T e sg) (hp : 0 ≤ p ∧ p ≤ e) : gFn K yX3_sign cX3_sign 1 (some .int) 0 [.ref g0] [cO g0 3 [.ref g1, w_house, .int (iI nm), .int (iI p)], cO g1 6 [.ref g3, .int (iI e)], cA K g3 100 sg] (T p) := by
  refine g_enter (by decide +kernel) (Nat.le_of_ble_eq_true rfl) (fun G hC hR => ?_)
  refine g_lv hC [0] [(0, _)] rfl ?_
  have hge := hT.1
  refine g_aload_n (pc := 0) hC 0 dX3_sign_0 rfl rfl ?_
  refine g_get (pc := 1) hC 0 fl_X3_32 dX3_sign_1 rfl rfl ?_
  refine g_if_lt (pc := 4) hC 45 dX3_sign_4 (by decide) (by omega) (fun c4 => by exfalso; omega) (fun c4 => ?_)
  refine g_aload_n (pc := 7) hC 0 dX3_sign_7 rfl rfl ?_
  refine g_get (pc := 8) hC 0 fl_X3_32 dX3_sign_8 rfl rfl ?_
  refine g_aload_n (pc := 11) hC 0 dX3_sign_11 rfl rfl ?_
  refine g_get (pc := 12) hC 0 fl_X3_9 dX3_sign_12 rfl rfl ?_
  refine g_get (pc := 15) hC 1 fl_X3_93 dX3_sign_15 rfl rfl ?_
  refine g_icmp_ge (pc := 18) hC 45 dX3_sign_18 (by decide) (by omega) (by omega) (fun c18 => ?_) (fun c18 => ?_)
  · refine g_iconst (pc := 45) hC dX3_sign_45 ?_
    exact g_iret (pc := 46) hR dX3_sign_46 rfl ⟨by omega, by omega⟩ (Nat.le_of_ble_eq_true rfl) ⟨ret_eq (by rw [hT.2.1 p (by omega), if_neg (by omega)]), rfl⟩
  · refine g_aload_n (pc := 21) hC 0 dX3_sign_21 rfl rfl ?_
    refine g_get (pc := 22) hC 0 fl_X3_32 dX3_sign_22 rfl rfl ?_
    refine g_bipush (pc := 25) hC (100) dX3_sign_25 (by decide) ?_
    refine g_icmp_ge (pc := 27) hC 45 dX3_sign_27 (by decide) (by omega) (by omega) (fun c27 => by exfalso; omega) (fun c27 => ?_)
    refine g_aload_n (pc := 30) hC 0 dX3_sign_30 rfl rfl ?_
    refine g_get (pc := 31) hC 0 fl_X3_9 dX3_sign_31 rfl rfl ?_
    refine g_get (pc := 34) hC 1 fl_X3_98 dX3_sign_34 rfl rfl ?_
    refine g_aload_n (pc := 37) hC 0 dX3_sign_37 rfl rfl ?_
    refine g_get (pc := 38) hC 0 fl_X3_32 dX3_sign_38 rfl rfl ?_
    refine g_iald (pc := 41) hC 2 dX3_sign_41 rfl (by omega) ?_
    have q1 := r_sg p
    refine g_goto (pc := 42) hC 46 dX3_sign_42 (by decide) ?_
    exact g_iret (pc := 46) hR dX3_sign_46 rfl ⟨by omega, by omega⟩ (Nat.le_of_ble_eq_true rfl) ⟨ret_eq (by rw [hT.2.1 p (by omega), if_pos (by omega)]), rfl⟩
set_option maxHeartbeats 4000000 in
set_option maxRecDepth 100000 in
theorem k_X3_readWord {K : gK} (g0 : Nat) (g1 : Nat) (g3 : Nat) (w_house : Value) (nm : Int) (p : Int) (e : Int) (sg : Int → Int) (T : Int → Int) (k : Nat) (r_nm : rI nm) (r_p : rI p) (r_e : rI e) (r_sg : ∀ j, rI (sg j)) (hT : cr_T T e sg) (hp : 0 ≤ p ∧ p ≤ e) (hk : k < 7) : gMet K yX3_readWord cX3_readWord 3 (some .boolean) 4 0 0 [.ref g0, .ref (K.2.2.1 k)] [cO g0 3 [.ref g1, w_house, .int (iI nm), .int (iI p)], cO g1 6 [.ref g3, .int (iI e)], cA K g3 100 sg] (fun v9 w9 => ∃ (r : Int), ∃ (p2 : Int), v9 = some (.int (iI r)) ∧ w9 = [cO g0 3 [.ref g1, w_house, .int (iI nm), .int (iI p2)], cO g1 6 [.ref g3, .int (iI e)], cA K g3 100 sg] ∧ rI r ∧ rI p2 ∧ ((1 - r, p2) = px_spl T k (sl k).toNat 0 p) ∧ ((r = 0 ∨ r = 1) ∧ p ≤ p2 ∧ p2 ≤ e ∧ (r = 1 → p2 = p + sl k))) := by
  refine g_enter (by decide +kernel) (Nat.le_of_ble_eq_true rfl) (fun G hC hR => ?_)
  refine g_lv hC [0, 1] [(0, _), (1, _)] rfl ?_
  have hge := hT.1
  have hsl := sl_rng hk
  refine g_iconst (pc := 0) hC dX3_readWord_0 ?_
  refine g_istore_n (pc := 1) hC [(2, _), (0, _), (1, _)] dX3_readWord_1 rfl (by decide) rfl ?_
  have L2 : ∀ (n1 : Nat) (i : Int) (p1 : Int) (j : Nat), (rI i) → (rI p1) → (i = (j : Int)) → (i ≤ sl k) → ((0, p1) = px_spl T k j 0 p) → (p1 = p + i ∧ p1 ≤ e) → sl k - i < (n1 : Int) → G 0 0 2 [(0, .ref g0), (1, .ref (K.2.2.1 k)), (2, .int (iI i))] [] [cO g0 3 [.ref g1, w_house, .int (iI nm), .int (iI p1)], cO g1 6 [.ref g3, .int (iI e)], cA K g3 100 sg] := by
    intro n1
    induction n1 with
    | zero => intro i p1 j r_i r_p1 hi hj hz hb1 hm2; exfalso; omega
    | succ n1 ih2 =>
      intro i p1 j r_i r_p1 hi hj hz hb1 hm2
      refine g_iload_n (pc := 2) hC 2 dX3_readWord_2 rfl rfl ?_
      refine g_aload_n (pc := 3) hC 1 dX3_readWord_3 rfl rfl ?_
      refine g_fnVk (pc := 4) hC [] (k_J0_length_8abf5 _ (by first | assumption | omega)) cl_J0_length_8abf5 wm_X3_84 dX3_readWord_4 rfl (by first | assumption | omega) rfl rfl (by decide) (by decide) ⟨by omega, by omega⟩ (Nat.le_of_ble_eq_true rfl) rfl rfl ?_
      refine g_name hC (fun x2 e_x2 => ?_)
      refine g_icmp_ge (pc := 7) hC 40 dX3_readWord_7 (by decide) (by omega) (by omega) (fun c7 => ?_) (fun c7 => ?_)
      · have hj9 : (sl k).toNat = j := by omega
        refine g_iconst (pc := 40) hC dX3_readWord_40 ?_
        exact g_zret (pc := 41) hR dX3_readWord_41 rfl (by omega) ⟨by omega, by omega⟩ (Nat.le_of_ble_eq_true rfl) ⟨1, p1, rfl, rfl, (by first | assumption | omega), (by first | assumption | omega), (by rw [hj9]; exact hz), (by first | assumption | omega)⟩
      · refine g_aload_n (pc := 10) hC 0 dX3_readWord_10 rfl rfl ?_
        refine g_fnV (pc := 11) (qr := 0) hC [0, 1, 2] (k_X3_sign _ _ _ _ _ _ _ _ _ (by first | assumption | omega) (by first | assumption | omega) (by first | assumption | omega) (by first | assumption | omega) (by first | assumption | omega) (by first | assumption | omega)) cl_X3_sign wm_X3_28 dX3_readWord_11 rfl rfl rfl rfl rfl (by decide) (by decide) ⟨by omega, by omega⟩ (Nat.le_of_ble_eq_true rfl) rfl rfl ?_
        refine g_name hC (fun x11 e_x11 => ?_)
        have q_x11 : -1 ≤ x11 ∧ x11 ≤ 127 := by rw [e_x11]; exact hT.2.2.1 _
        refine g_aload_n (pc := 14) hC 1 dX3_readWord_14 rfl rfl ?_
        refine g_iload_n (pc := 15) hC 2 dX3_readWord_15 rfl rfl ?_
        refine g_fnVk (pc := 16) hC [] (k_J0_charAt_5068e _ _ (by first | assumption | omega) (by first | assumption | omega) (by first | assumption | omega)) cl_J0_charAt_5068e wm_X3_89 dX3_readWord_16 rfl (by first | assumption | omega) rfl rfl (by decide) (by decide) ⟨by omega, by omega⟩ (Nat.le_of_ble_eq_true rfl) rfl rfl ?_
        refine g_name hC (fun x16 e_x16 => ?_)
        have hsx := sx_rng (k := k) (i := i) hk (by omega)
        refine g_icmp_eq (pc := 19) hC 24 dX3_readWord_19 (by decide) (by omega) (by omega) (fun c19 => ?_) (fun c19 => ?_)
        · have hlt := cr_lt hT (show 0 ≤ p1 by omega) (show T p1 = sx k i by omega) hsx.1
          refine g_aload_n (pc := 24) hC 0 dX3_readWord_24 rfl rfl ?_
          refine g_dup (pc := 25) hC dX3_readWord_25 rfl ?_
          refine g_get (pc := 26) hC 0 fl_X3_32 dX3_readWord_26 rfl rfl ?_
          refine g_iconst (pc := 29) hC dX3_readWord_29 ?_
          refine g_iadd (pc := 30) hC dX3_readWord_30 ?_
          refine g_putI (pc := 31) hC 0 [cO _ _ [_, _, _, _], _, _] fl_X3_32 dX3_readWord_31 rfl (Nat.le_of_ble_eq_true rfl) rfl ?_
          refine g_iinc (pc := 34) hC 2 [(2, _), (0, _), (1, _)] dX3_readWord_34 rfl (by decide) rfl ?_
          refine g_goto (pc := 37) hC 2 dX3_readWord_37 (by decide) ?_
          refine g_lv hC [1, 2, 0] [(0, _), (1, _), (2, _)] rfl ?_
          exact ih2 (i + 1) (p1 + 1) (j + 1) (by first | assumption | omega) (by first | assumption | omega) (by first | assumption | omega) (by first | assumption | omega) (px_spl_y hi hz (by omega)) (by first | assumption | omega) (by omega)
        · refine g_iconst (pc := 22) hC dX3_readWord_22 ?_
          exact g_zret (pc := 23) hR dX3_readWord_23 rfl (by omega) ⟨by omega, by omega⟩ (Nat.le_of_ble_eq_true rfl) ⟨0, p1, rfl, rfl, (by first | assumption | omega), (by first | assumption | omega), (px_spl_no hi hz (by omega) (by omega)), (by first | assumption | omega)⟩
  refine g_lv hC [1, 2, 0] [(0, _), (1, _), (2, _)] rfl ?_
  exact L2 ((sl k - 0 : Int).toNat + 1) 0 p 0 (by first | assumption | omega) (by first | assumption | omega) (by first | assumption | omega) (by first | assumption | omega) rfl (by first | assumption | omega) (by omega)
set_option maxHeartbeats 4000000 in
set_option maxRecDepth 100000 in
theorem k_X3_readNumber {K : gK} (g0 : Nat) (g1 : Nat) (g3 : Nat) (w_house : Value) (nm : Int) (p : Int) (e : Int) (sg : Int → Int) (T : Int → Int) (r_nm : rI nm) (r_p : rI p) (r_e : rI e) (r_sg : ∀ j, rI (sg j)) (hT : cr_T T e sg) (hp : 0 ≤ p ∧ p ≤ e) (hnm : 0 ≤ nm ∧ nm ≤ 99) : gMet K yX3_readNumber cX3_readNumber 2 (some .boolean) 1 0 0 [.ref g0] [cO g0 3 [.ref g1, w_house, .int (iI nm), .int (iI p)], cO g1 6 [.ref g3, .int (iI e)], cA K g3 100 sg] (fun v9 w9 => ∃ (r : Int), ∃ (p2 : Int), ∃ (nm2 : Int), ∃ (v : Int), v9 = some (.int (iI r)) ∧ w9 = [cO g0 3 [.ref g1, w_house, .int (iI nm2), .int (iI p2)], cO g1 6 [.ref g3, .int (iI e)], cA K g3 100 sg] ∧ rI r ∧ rI p2 ∧ rI nm2 ∧ rI v ∧ ((1 - r, p2, v) = px_fig T 0 p) ∧ (0 ≤ v ∧ v ≤ 99 ∧ (r = 1 → nm2 = v)) ∧ ((r = 0 ∨ r = 1) ∧ p ≤ p2 ∧ p2 ≤ e ∧ (r = 1 → p < p2)) ∧ (0 ≤ nm2 ∧ nm2 ≤ 99)) := by
  refine g_enter (by decide +kernel) (Nat.le_of_ble_eq_true rfl) (fun G hC hR => ?_)
  refine g_lv hC [0] [(0, _)] rfl ?_
  have hge := hT.1
  refine g_aload_n (pc := 0) hC 0 dX3_readNumber_0 rfl rfl ?_
  refine g_fnV (pc := 1) (qr := 0) hC [0, 1, 2] (k_X3_sign _ _ _ _ _ _ _ _ _ (by first | assumption | omega) (by first | assumption | omega) (by first | assumption | omega) (by first | assumption | omega) (by first | assumption | omega) (by first | assumption | omega)) cl_X3_sign wm_X3_28 dX3_readNumber_1 rfl rfl rfl rfl rfl (by decide) (by decide) ⟨by omega, by omega⟩ (Nat.le_of_ble_eq_true rfl) rfl rfl ?_
  refine g_name hC (fun x1 e_x1 => ?_)
  have q_x1 : -1 ≤ x1 ∧ x1 ≤ 127 := by rw [e_x1]; exact hT.2.2.1 _
  refine g_istore_n (pc := 4) hC [(1, _), (0, _)] dX3_readNumber_4 rfl (by decide) rfl ?_
  refine g_iload_n (pc := 5) hC 0 dX3_readNumber_5 rfl rfl ?_
  refine g_bipush (pc := 6) hC (48) dX3_readNumber_6 (by decide) ?_
  refine g_icmp_lt (pc := 8) hC 17 dX3_readNumber_8 (by decide) (by omega) (by omega) (fun c8 => ?_) (fun c8 => ?_)
  · refine g_iconst (pc := 17) hC dX3_readNumber_17 ?_
    exact g_zret (pc := 18) hR dX3_readNumber_18 rfl (by omega) ⟨by omega, by omega⟩ (Nat.le_of_ble_eq_true rfl) ⟨0, p, nm, 0, rfl, rfl, (by first | assumption | omega), (by first | assumption | omega), (by first | assumption | omega), (by first | assumption | omega), (by unfold px_fig; (repeat' split) <;> (rw [Prod.mk.injEq, Prod.mk.injEq]; omega)), (by first | assumption | omega), (by first | assumption | omega), (by first | assumption | omega)⟩
  · refine g_iload_n (pc := 11) hC 0 dX3_readNumber_11 rfl rfl ?_
    refine g_bipush (pc := 12) hC (57) dX3_readNumber_12 (by decide) ?_
    refine g_icmp_le (pc := 14) hC 19 dX3_readNumber_14 (by decide) (by omega) (by omega) (fun c14 => ?_) (fun c14 => ?_)
    · have hlt := cr_lt hT hp.1 e_x1.symm (by omega)
      refine g_aload_n (pc := 19) hC 1 dX3_readNumber_19 rfl rfl ?_
      refine g_dup (pc := 20) hC dX3_readNumber_20 rfl ?_
      refine g_get (pc := 21) hC 0 fl_X3_32 dX3_readNumber_21 rfl rfl ?_
      refine g_iconst (pc := 24) hC dX3_readNumber_24 ?_
      refine g_iadd (pc := 25) hC dX3_readNumber_25 ?_
      refine g_putI (pc := 26) hC 0 [cO _ _ [_, _, _, _], _, _] fl_X3_32 dX3_readNumber_26 rfl (Nat.le_of_ble_eq_true rfl) rfl ?_
      refine g_aload_n (pc := 29) hC 1 dX3_readNumber_29 rfl rfl ?_
      refine g_iload_n (pc := 30) hC 0 dX3_readNumber_30 rfl rfl ?_
      refine g_bipush (pc := 31) hC (48) dX3_readNumber_31 (by decide) ?_
      refine g_isub (pc := 33) hC dX3_readNumber_33 ?_
      refine g_putI (pc := 34) hC 0 [cO _ _ [_, _, _, _], _, _] fl_X3_49 dX3_readNumber_34 rfl (Nat.le_of_ble_eq_true rfl) rfl ?_
      refine g_aload_n (pc := 37) hC 1 dX3_readNumber_37 rfl rfl ?_
      refine g_fnV (pc := 38) (qr := 0) hC [0, 1, 2] (k_X3_sign _ _ _ _ _ _ _ _ _ (by first | assumption | omega) (by first | assumption | omega) (by first | assumption | omega) (by first | assumption | omega) (by first | assumption | omega) (by first | assumption | omega)) cl_X3_sign wm_X3_28 dX3_readNumber_38 rfl rfl rfl rfl rfl (by decide) (by decide) ⟨by omega, by omega⟩ (Nat.le_of_ble_eq_true rfl) rfl rfl ?_
      refine g_name hC (fun x38 e_x38 => ?_)
      have q_x38 : -1 ≤ x38 ∧ x38 ≤ 127 := by rw [e_x38]; exact hT.2.2.1 _
      refine g_istore_n (pc := 41) hC [(1, _), (0, _)] dX3_readNumber_41 rfl (by decide) rfl ?_
      refine g_aload_n (pc := 42) hC 1 dX3_readNumber_42 rfl rfl ?_
      refine g_get (pc := 43) hC 0 fl_X3_49 dX3_readNumber_43 rfl rfl ?_
      refine g_if_eq (pc := 46) hC 87 dX3_readNumber_46 (by decide) (by omega) (fun c46 => ?_) (fun c46 => ?_)
      · refine g_iconst (pc := 87) hC dX3_readNumber_87 ?_
        exact g_zret (pc := 88) hR dX3_readNumber_88 rfl (by omega) ⟨by omega, by omega⟩ (Nat.le_of_ble_eq_true rfl) ⟨1, p + 1, x1 - 48, (x1 - 48), rfl, rfl, (by first | assumption | omega), (by first | assumption | omega), (by first | assumption | omega), (by first | assumption | omega), (by unfold px_fig; (repeat' split) <;> (rw [Prod.mk.injEq, Prod.mk.injEq]; omega)), (by first | assumption | omega), (by first | assumption | omega), (by first | assumption | omega)⟩
      · refine g_iload_n (pc := 49) hC 0 dX3_readNumber_49 rfl rfl ?_
        refine g_bipush (pc := 50) hC (48) dX3_readNumber_50 (by decide) ?_
        refine g_icmp_lt (pc := 52) hC 87 dX3_readNumber_52 (by decide) (by omega) (by omega) (fun c52 => ?_) (fun c52 => ?_)
        · refine g_iconst (pc := 87) hC dX3_readNumber_87 ?_
          exact g_zret (pc := 88) hR dX3_readNumber_88 rfl (by omega) ⟨by omega, by omega⟩ (Nat.le_of_ble_eq_true rfl) ⟨1, p + 1, x1 - 48, (x1 - 48), rfl, rfl, (by first | assumption | omega), (by first | assumption | omega), (by first | assumption | omega), (by first | assumption | omega), (by unfold px_fig; (repeat' split) <;> (rw [Prod.mk.injEq, Prod.mk.injEq]; omega)), (by first | assumption | omega), (by first | assumption | omega), (by first | assumption | omega)⟩
        · refine g_iload_n (pc := 55) hC 0 dX3_readNumber_55 rfl rfl ?_
          refine g_bipush (pc := 56) hC (57) dX3_readNumber_56 (by decide) ?_
          refine g_icmp_gt (pc := 58) hC 87 dX3_readNumber_58 (by decide) (by omega) (by omega) (fun c58 => ?_) (fun c58 => ?_)
          · refine g_iconst (pc := 87) hC dX3_readNumber_87 ?_
            exact g_zret (pc := 88) hR dX3_readNumber_88 rfl (by omega) ⟨by omega, by omega⟩ (Nat.le_of_ble_eq_true rfl) ⟨1, p + 1, x1 - 48, (x1 - 48), rfl, rfl, (by first | assumption | omega), (by first | assumption | omega), (by first | assumption | omega), (by first | assumption | omega), (by unfold px_fig; (repeat' split) <;> (rw [Prod.mk.injEq, Prod.mk.injEq]; omega)), (by first | assumption | omega), (by first | assumption | omega), (by first | assumption | omega)⟩
          · have hlt2 := cr_lt hT (show 0 ≤ p + 1 by omega) e_x38.symm (by omega)
            refine g_aload_n (pc := 61) hC 1 dX3_readNumber_61 rfl rfl ?_
            refine g_aload_n (pc := 62) hC 1 dX3_readNumber_62 rfl rfl ?_
            refine g_get (pc := 63) hC 0 fl_X3_49 dX3_readNumber_63 rfl rfl ?_
            refine g_bipush (pc := 66) hC (10) dX3_readNumber_66 (by decide) ?_
            refine g_imul (pc := 68) hC dX3_readNumber_68 ?_
            refine g_iload_n (pc := 69) hC 0 dX3_readNumber_69 rfl rfl ?_
            refine g_iadd (pc := 70) hC dX3_readNumber_70 ?_
            refine g_bipush (pc := 71) hC (48) dX3_readNumber_71 (by decide) ?_
            refine g_isub (pc := 73) hC dX3_readNumber_73 ?_
            refine g_putI (pc := 74) hC 0 [cO _ _ [_, _, _, _], _, _] fl_X3_49 dX3_readNumber_74 rfl (Nat.le_of_ble_eq_true rfl) rfl ?_
            refine g_aload_n (pc := 77) hC 1 dX3_readNumber_77 rfl rfl ?_
            refine g_dup (pc := 78) hC dX3_readNumber_78 rfl ?_
            refine g_get (pc := 79) hC 0 fl_X3_32 dX3_readNumber_79 rfl rfl ?_
            refine g_iconst (pc := 82) hC dX3_readNumber_82 ?_
            refine g_iadd (pc := 83) hC dX3_readNumber_83 ?_
            refine g_putI (pc := 84) hC 0 [cO _ _ [_, _, _, _], _, _] fl_X3_32 dX3_readNumber_84 rfl (Nat.le_of_ble_eq_true rfl) rfl ?_
            refine g_iconst (pc := 87) hC dX3_readNumber_87 ?_
            exact g_zret (pc := 88) hR dX3_readNumber_88 rfl (by omega) ⟨by omega, by omega⟩ (Nat.le_of_ble_eq_true rfl) ⟨1, (p + 1) + 1, (((x1 - 48) * 10) + x38) - 48, ((x1 - 48) * 10 + x38 - 48), rfl, rfl, (by first | assumption | omega), (by first | assumption | omega), (by first | assumption | omega), (by first | assumption | omega), (by unfold px_fig; (repeat' split) <;> (rw [Prod.mk.injEq, Prod.mk.injEq]; omega)), (by first | assumption | omega), (by first | assumption | omega), (by first | assumption | omega)⟩
    · refine g_iconst (pc := 17) hC dX3_readNumber_17 ?_
      exact g_zret (pc := 18) hR dX3_readNumber_18 rfl (by omega) ⟨by omega, by omega⟩ (Nat.le_of_ble_eq_true rfl) ⟨0, p, nm, 0, rfl, rfl, (by first | assumption | omega), (by first | assumption | omega), (by first | assumption | omega), (by first | assumption | omega), (by unfold px_fig; (repeat' split) <;> (rw [Prod.mk.injEq, Prod.mk.injEq]; omega)), (by first | assumption | omega), (by first | assumption | omega), (by first | assumption | omega)⟩
set_option maxHeartbeats 4000000 in
set_option maxRecDepth 100000 in
theorem k_X3_placeOfLetter {K : gK} (c : Int) (r_c : rI c) : gFn K yX3_placeOfLetter cX3_placeOfLetter 2 (some .int) 4 [.int (iI c)] [] (px_am 5 c (sl 5).toNat) := by
  refine g_enter (by decide +kernel) (Nat.le_of_ble_eq_true rfl) (fun G hC hR => ?_)
  refine g_lv hC [0] [(0, _)] rfl ?_
  have hsl := sl_rng (k := 5) (by decide)
  refine g_iconst (pc := 0) hC dX3_placeOfLetter_0 ?_
  refine g_istore_n (pc := 1) hC [(1, _), (0, _)] dX3_placeOfLetter_1 rfl (by decide) rfl ?_
  have L2 : ∀ (n1 : Nat) (i : Int) (j : Nat), (rI i) → (i = (j : Int)) → (i ≤ sl 5) → (px_am 5 c j = -1) → sl 5 - i < (n1 : Int) → G 0 0 2 [(0, .int (iI c)), (1, .int (iI i))] [] [] := by
    intro n1
    induction n1 with
    | zero => intro i j r_i hi hj hx hm2; exfalso; omega
    | succ n1 ih2 =>
      intro i j r_i hi hj hx hm2
      refine g_iload_n (pc := 2) hC 1 dX3_placeOfLetter_2 rfl rfl ?_
      refine g_ldcS_X3_102 (pc := 3) hC rfl dX3_placeOfLetter_3 ?_
      refine g_fnVk (pc := 5) hC [] (k_J0_length_8abf5 _ (by first | assumption | omega)) cl_J0_length_8abf5 wm_X3_84 dX3_placeOfLetter_5 rfl (by first | assumption | omega) rfl rfl (by decide) (by decide) ⟨by omega, by omega⟩ (Nat.le_of_ble_eq_true rfl) rfl rfl ?_
      refine g_name hC (fun x2 e_x2 => ?_)
      refine g_icmp_ge (pc := 8) hC 29 dX3_placeOfLetter_8 (by decide) (by omega) (by omega) (fun c8 => ?_) (fun c8 => ?_)
      · have hj9 : (sl 5).toNat = j := by omega
        refine g_iconst (pc := 29) hC dX3_placeOfLetter_29 ?_
        exact g_iret (pc := 30) hR dX3_placeOfLetter_30 rfl ⟨by omega, by omega⟩ (Nat.le_of_ble_eq_true rfl) ⟨ret_eq (by rw [hj9, hx]), rfl⟩
      · refine g_ldcS_X3_102 (pc := 11) hC rfl dX3_placeOfLetter_11 ?_
        refine g_iload_n (pc := 13) hC 1 dX3_placeOfLetter_13 rfl rfl ?_
        refine g_fnVk (pc := 14) hC [] (k_J0_charAt_5068e _ _ (by first | assumption | omega) (by first | assumption | omega) (by first | assumption | omega)) cl_J0_charAt_5068e wm_X3_89 dX3_placeOfLetter_14 rfl (by first | assumption | omega) rfl rfl (by decide) (by decide) ⟨by omega, by omega⟩ (Nat.le_of_ble_eq_true rfl) rfl rfl ?_
        refine g_name hC (fun x14 e_x14 => ?_)
        have hsx := sx_rng (k := 5) (i := i) (by decide) (by omega)
        refine g_iload_n (pc := 17) hC 0 dX3_placeOfLetter_17 rfl rfl ?_
        refine g_icmp_ne (pc := 18) hC 23 dX3_placeOfLetter_18 (by decide) (by omega) (by omega) (fun c18 => ?_) (fun c18 => ?_)
        · refine g_iinc (pc := 23) hC 1 [(1, _), (0, _)] dX3_placeOfLetter_23 rfl (by decide) rfl ?_
          refine g_goto (pc := 26) hC 2 dX3_placeOfLetter_26 (by decide) ?_
          refine g_lv hC [1, 0] [(0, _), (1, _)] rfl ?_
          exact ih2 (i + 1) (j + 1) (by first | assumption | omega) (by first | assumption | omega) (by first | assumption | omega) (px_am_no hi hx (by omega)) (by omega)
        · refine g_iload_n (pc := 21) hC 1 dX3_placeOfLetter_21 rfl rfl ?_
          exact g_iret (pc := 22) hR dX3_placeOfLetter_22 rfl ⟨by omega, by omega⟩ (Nat.le_of_ble_eq_true rfl) ⟨ret_eq (px_am_hit hi hx (by omega) (by omega)), rfl⟩
  refine g_lv hC [1, 0] [(0, _), (1, _)] rfl ?_
  exact L2 ((sl 5 - 0 : Int).toNat + 1) 0 0 (by first | assumption | omega) (by first | assumption | omega) (by first | assumption | omega) rfl (by omega)
set_option maxHeartbeats 4000000 in
set_option maxRecDepth 100000 in
theorem k_X3_valuesBy {K : gK} (c : Int) (n : Int) (r_c : rI c) (r_n : rI n) (hn : 0 ≤ n ∧ n ≤ 99) : gFn K yX3_valuesBy cX3_valuesBy 5 (some .int) 0 [.int (iI c), .int (iI n)] [] (vb_n c n 10) := by
  refine g_enter (by decide +kernel) (Nat.le_of_ble_eq_true rfl) (fun G hC hR => ?_)
  refine g_lv hC [0, 1] [(0, _), (1, _)] rfl ?_
  refine g_iconst (pc := 0) hC dX3_valuesBy_0 ?_
  refine g_istore_n (pc := 1) hC [(2, _), (0, _), (1, _)] dX3_valuesBy_1 rfl (by decide) rfl ?_
  refine g_iconst (pc := 2) hC dX3_valuesBy_2 ?_
  refine g_istore_n (pc := 3) hC [(3, _), (2, _), (0, _), (1, _)] dX3_valuesBy_3 rfl (by decide) rfl ?_
  have L4 : ∀ (n1 : Nat) (x : Int) (y : Int) (j : Nat), (rI x) → (rI y) → (x = (j : Int)) → (x ≤ 10) → (y = vb_n c n j) → 10 - x < (n1 : Int) → G 0 0 4 [(0, .int (iI c)), (1, .int (iI n)), (2, .int (iI y)), (3, .int (iI x))] [] [] := by
    intro n1
    induction n1 with
    | zero => intro x y j r_x r_y hx hj hy hm4; exfalso; omega
    | succ n1 ih4 =>
      intro x y j r_x r_y hx hj hy hm4
      refine g_iload_n (pc := 4) hC 3 dX3_valuesBy_4 rfl rfl ?_
      refine g_bipush (pc := 5) hC (10) dX3_valuesBy_5 (by decide) ?_
      refine g_icmp_ge (pc := 7) hC 81 dX3_valuesBy_7 (by decide) (by omega) (by omega) (fun c7 => ?_) (fun c7 => ?_)
      · refine g_iload_n (pc := 81) hC 2 dX3_valuesBy_81 rfl rfl ?_
        exact g_iret (pc := 82) hR dX3_valuesBy_82 rfl ⟨by omega, by omega⟩ (Nat.le_of_ble_eq_true rfl) ⟨ret_eq (by rw [hy, show j = 10 by omega]), rfl⟩
      · refine g_iload_n (pc := 10) hC 0 dX3_valuesBy_10 rfl rfl ?_
        refine g_bipush (pc := 11) hC (60) dX3_valuesBy_11 (by decide) ?_
        refine g_icmp_ne (pc := 13) hC 29 dX3_valuesBy_13 (by decide) (by omega) (by omega) (fun c13 => ?_) (fun c13 => ?_)
        · refine g_iload_n (pc := 29) hC 0 dX3_valuesBy_29 rfl rfl ?_
          refine g_bipush (pc := 30) hC (61) dX3_valuesBy_30 (by decide) ?_
          refine g_icmp_ne (pc := 32) hC 48 dX3_valuesBy_32 (by decide) (by omega) (by omega) (fun c32 => ?_) (fun c32 => ?_)
          · refine g_iload_n (pc := 48) hC 3 dX3_valuesBy_48 rfl rfl ?_
            refine g_iload_n (pc := 49) hC 1 dX3_valuesBy_49 rfl rfl ?_
            refine g_icmp_le (pc := 50) hC 57 dX3_valuesBy_50 (by decide) (by omega) (by omega) (fun c50 => ?_) (fun c50 => ?_)
            · refine g_iconst (pc := 57) hC dX3_valuesBy_57 ?_
              refine g_istore (pc := 58) hC [(4, _), (0, _), (1, _), (2, _), (3, _)] dX3_valuesBy_58 (by decide) rfl ?_
              refine g_iload_n (pc := 60) hC 3 dX3_valuesBy_60 rfl rfl ?_
              refine g_iload (pc := 61) hC 0 dX3_valuesBy_61 rfl ?_
              refine g_if_eq (pc := 63) hC 72 dX3_valuesBy_63 (by decide) (by omega) (fun c63 => ?_) (fun c63 => by exfalso; omega)
              refine g_iconst (pc := 72) hC dX3_valuesBy_72 ?_
              refine g_ior (pc := 73) hC dX3_valuesBy_73 ?_
              refine g_istore_n (pc := 74) hC [(2, _), (4, _), (0, _), (1, _), (3, _)] dX3_valuesBy_74 rfl (by decide) rfl ?_
              refine g_iinc (pc := 75) hC 4 [(3, _), (2, _), (4, _), (0, _), (1, _)] dX3_valuesBy_75 rfl (by decide) rfl ?_
              refine g_goto (pc := 78) hC 4 dX3_valuesBy_78 (by decide) ?_
              refine g_lv hC [3, 4, 1, 0] [(0, _), (1, _), (2, _), (3, _)] rfl ?_
              exact ih4 (x + 1) (bOr y 0) (j + 1) (by first | assumption | omega) (bOr_rng _ _) (by first | assumption | omega) (by first | assumption | omega) (by unfold vb_n; rw [← hy, ← hx]; congr 1; omega) (by omega)
            · refine g_iconst (pc := 53) hC dX3_valuesBy_53 ?_
              refine g_goto (pc := 54) hC 58 dX3_valuesBy_54 (by decide) ?_
              refine g_istore (pc := 58) hC [(4, _), (0, _), (1, _), (2, _), (3, _)] dX3_valuesBy_58 (by decide) rfl ?_
              refine g_iload_n (pc := 60) hC 3 dX3_valuesBy_60 rfl rfl ?_
              refine g_iload (pc := 61) hC 0 dX3_valuesBy_61 rfl ?_
              refine g_if_eq (pc := 63) hC 72 dX3_valuesBy_63 (by decide) (by omega) (fun c63 => by exfalso; omega) (fun c63 => ?_)
              refine g_iconst (pc := 66) hC dX3_valuesBy_66 ?_
              refine g_iload_n (pc := 67) hC 4 dX3_valuesBy_67 rfl rfl ?_
              refine g_ishl (pc := 68) hC dX3_valuesBy_68 ?_
              refine g_goto (pc := 69) hC 73 dX3_valuesBy_69 (by decide) ?_
              refine g_ior (pc := 73) hC dX3_valuesBy_73 ?_
              refine g_istore_n (pc := 74) hC [(2, _), (4, _), (0, _), (1, _), (3, _)] dX3_valuesBy_74 rfl (by decide) rfl ?_
              refine g_iinc (pc := 75) hC 4 [(3, _), (2, _), (4, _), (0, _), (1, _)] dX3_valuesBy_75 rfl (by decide) rfl ?_
              refine g_goto (pc := 78) hC 4 dX3_valuesBy_78 (by decide) ?_
              refine g_lv hC [3, 4, 1, 0] [(0, _), (1, _), (2, _), (3, _)] rfl ?_
              exact ih4 (x + 1) (bOr y (bShl 1 x)) (j + 1) (by first | assumption | omega) (bOr_rng _ _) (by first | assumption | omega) (by first | assumption | omega) (by unfold vb_n; rw [← hy, ← hx]; congr 1; omega) (by omega)
          · refine g_iload_n (pc := 35) hC 3 dX3_valuesBy_35 rfl rfl ?_
            refine g_iload_n (pc := 36) hC 1 dX3_valuesBy_36 rfl rfl ?_
            refine g_icmp_ne (pc := 37) hC 44 dX3_valuesBy_37 (by decide) (by omega) (by omega) (fun c37 => ?_) (fun c37 => ?_)
            · refine g_iconst (pc := 44) hC dX3_valuesBy_44 ?_
              refine g_goto (pc := 45) hC 58 dX3_valuesBy_45 (by decide) ?_
              refine g_istore (pc := 58) hC [(4, _), (0, _), (1, _), (2, _), (3, _)] dX3_valuesBy_58 (by decide) rfl ?_
              refine g_iload_n (pc := 60) hC 3 dX3_valuesBy_60 rfl rfl ?_
              refine g_iload (pc := 61) hC 0 dX3_valuesBy_61 rfl ?_
              refine g_if_eq (pc := 63) hC 72 dX3_valuesBy_63 (by decide) (by omega) (fun c63 => ?_) (fun c63 => by exfalso; omega)
              refine g_iconst (pc := 72) hC dX3_valuesBy_72 ?_
              refine g_ior (pc := 73) hC dX3_valuesBy_73 ?_
              refine g_istore_n (pc := 74) hC [(2, _), (4, _), (0, _), (1, _), (3, _)] dX3_valuesBy_74 rfl (by decide) rfl ?_
              refine g_iinc (pc := 75) hC 4 [(3, _), (2, _), (4, _), (0, _), (1, _)] dX3_valuesBy_75 rfl (by decide) rfl ?_
              refine g_goto (pc := 78) hC 4 dX3_valuesBy_78 (by decide) ?_
              refine g_lv hC [3, 4, 1, 0] [(0, _), (1, _), (2, _), (3, _)] rfl ?_
              exact ih4 (x + 1) (bOr y 0) (j + 1) (by first | assumption | omega) (bOr_rng _ _) (by first | assumption | omega) (by first | assumption | omega) (by unfold vb_n; rw [← hy, ← hx]; congr 1; omega) (by omega)
            · refine g_iconst (pc := 40) hC dX3_valuesBy_40 ?_
              refine g_goto (pc := 41) hC 58 dX3_valuesBy_41 (by decide) ?_
              refine g_istore (pc := 58) hC [(4, _), (0, _), (1, _), (2, _), (3, _)] dX3_valuesBy_58 (by decide) rfl ?_
              refine g_iload_n (pc := 60) hC 3 dX3_valuesBy_60 rfl rfl ?_
              refine g_iload (pc := 61) hC 0 dX3_valuesBy_61 rfl ?_
              refine g_if_eq (pc := 63) hC 72 dX3_valuesBy_63 (by decide) (by omega) (fun c63 => by exfalso; omega) (fun c63 => ?_)
              refine g_iconst (pc := 66) hC dX3_valuesBy_66 ?_
              refine g_iload_n (pc := 67) hC 4 dX3_valuesBy_67 rfl rfl ?_
              refine g_ishl (pc := 68) hC dX3_valuesBy_68 ?_
              refine g_goto (pc := 69) hC 73 dX3_valuesBy_69 (by decide) ?_
              refine g_ior (pc := 73) hC dX3_valuesBy_73 ?_
              refine g_istore_n (pc := 74) hC [(2, _), (4, _), (0, _), (1, _), (3, _)] dX3_valuesBy_74 rfl (by decide) rfl ?_
              refine g_iinc (pc := 75) hC 4 [(3, _), (2, _), (4, _), (0, _), (1, _)] dX3_valuesBy_75 rfl (by decide) rfl ?_
              refine g_goto (pc := 78) hC 4 dX3_valuesBy_78 (by decide) ?_
              refine g_lv hC [3, 4, 1, 0] [(0, _), (1, _), (2, _), (3, _)] rfl ?_
              exact ih4 (x + 1) (bOr y (bShl 1 x)) (j + 1) (by first | assumption | omega) (bOr_rng _ _) (by first | assumption | omega) (by first | assumption | omega) (by unfold vb_n; rw [← hy, ← hx]; congr 1; omega) (by omega)
        · refine g_iload_n (pc := 16) hC 3 dX3_valuesBy_16 rfl rfl ?_
          refine g_iload_n (pc := 17) hC 1 dX3_valuesBy_17 rfl rfl ?_
          refine g_icmp_ge (pc := 18) hC 25 dX3_valuesBy_18 (by decide) (by omega) (by omega) (fun c18 => ?_) (fun c18 => ?_)
          · refine g_iconst (pc := 25) hC dX3_valuesBy_25 ?_
            refine g_goto (pc := 26) hC 58 dX3_valuesBy_26 (by decide) ?_
            refine g_istore (pc := 58) hC [(4, _), (0, _), (1, _), (2, _), (3, _)] dX3_valuesBy_58 (by decide) rfl ?_
            refine g_iload_n (pc := 60) hC 3 dX3_valuesBy_60 rfl rfl ?_
            refine g_iload (pc := 61) hC 0 dX3_valuesBy_61 rfl ?_
            refine g_if_eq (pc := 63) hC 72 dX3_valuesBy_63 (by decide) (by omega) (fun c63 => ?_) (fun c63 => by exfalso; omega)
            refine g_iconst (pc := 72) hC dX3_valuesBy_72 ?_
            refine g_ior (pc := 73) hC dX3_valuesBy_73 ?_
            refine g_istore_n (pc := 74) hC [(2, _), (4, _), (0, _), (1, _), (3, _)] dX3_valuesBy_74 rfl (by decide) rfl ?_
            refine g_iinc (pc := 75) hC 4 [(3, _), (2, _), (4, _), (0, _), (1, _)] dX3_valuesBy_75 rfl (by decide) rfl ?_
            refine g_goto (pc := 78) hC 4 dX3_valuesBy_78 (by decide) ?_
            refine g_lv hC [3, 4, 1, 0] [(0, _), (1, _), (2, _), (3, _)] rfl ?_
            exact ih4 (x + 1) (bOr y 0) (j + 1) (by first | assumption | omega) (bOr_rng _ _) (by first | assumption | omega) (by first | assumption | omega) (by unfold vb_n; rw [← hy, ← hx]; congr 1; omega) (by omega)
          · refine g_iconst (pc := 21) hC dX3_valuesBy_21 ?_
            refine g_goto (pc := 22) hC 58 dX3_valuesBy_22 (by decide) ?_
            refine g_istore (pc := 58) hC [(4, _), (0, _), (1, _), (2, _), (3, _)] dX3_valuesBy_58 (by decide) rfl ?_
            refine g_iload_n (pc := 60) hC 3 dX3_valuesBy_60 rfl rfl ?_
            refine g_iload (pc := 61) hC 0 dX3_valuesBy_61 rfl ?_
            refine g_if_eq (pc := 63) hC 72 dX3_valuesBy_63 (by decide) (by omega) (fun c63 => by exfalso; omega) (fun c63 => ?_)
            refine g_iconst (pc := 66) hC dX3_valuesBy_66 ?_
            refine g_iload_n (pc := 67) hC 4 dX3_valuesBy_67 rfl rfl ?_
            refine g_ishl (pc := 68) hC dX3_valuesBy_68 ?_
            refine g_goto (pc := 69) hC 73 dX3_valuesBy_69 (by decide) ?_
            refine g_ior (pc := 73) hC dX3_valuesBy_73 ?_
            refine g_istore_n (pc := 74) hC [(2, _), (4, _), (0, _), (1, _), (3, _)] dX3_valuesBy_74 rfl (by decide) rfl ?_
            refine g_iinc (pc := 75) hC 4 [(3, _), (2, _), (4, _), (0, _), (1, _)] dX3_valuesBy_75 rfl (by decide) rfl ?_
            refine g_goto (pc := 78) hC 4 dX3_valuesBy_78 (by decide) ?_
            refine g_lv hC [3, 4, 1, 0] [(0, _), (1, _), (2, _), (3, _)] rfl ?_
            exact ih4 (x + 1) (bOr y (bShl 1 x)) (j + 1) (by first | assumption | omega) (bOr_rng _ _) (by first | assumption | omega) (by first | assumption | omega) (by unfold vb_n; rw [← hy, ← hx]; congr 1; omega) (by omega)
  refine g_lv hC [2, 3, 1, 0] [(0, _), (1, _), (2, _), (3, _)] rfl ?_
  exact L4 ((10 - 0 : Int).toNat + 1) 0 0 0 (by first | assumption | omega) (by first | assumption | omega) (by first | assumption | omega) (by first | assumption | omega) rfl (by omega)
set_option maxHeartbeats 4000000 in
set_option maxRecDepth 100000 in
theorem k_X3_readTest {K : gK} (g0 : Nat) (g1 : Nat) (g2 : Nat) (g3 : Nat) (g4 : Nat) (nm : Int) (p : Int) (e : Int) (m : Int) (rc : Int) (sg : Int → Int) (od : Int → Int) (T : Int → Int) (l : List Int) (r_nm : rI nm) (r_p : rI p) (r_e : rI e) (r_m : rI m) (r_rc : rI rc) (r_sg : ∀ j, rI (sg j)) (r_od : ∀ j, rI (od j)) (hT : cr_T T e sg) (hp : 0 ≤ p ∧ p ≤ e) (hL : cr_L l od m) (hl : (l.length : Int) ≤ p) (hnm : 0 ≤ nm ∧ nm ≤ 99) : gMet K yX3_readTest cX3_readTest 3 (some .boolean) 5 0 0 [.ref g0] [cO g0 3 [.ref g1, .ref g2, .int (iI nm), .int (iI p)], cO g1 6 [.ref g3, .int (iI e)], cA K g3 100 sg, cO g2 1 [.ref g4, .int (iI m), .int (iI rc)], cA K g4 100 od] (fun v9 w9 => ∃ (r : Int), ∃ (p2 : Int), ∃ (nm2 : Int), ∃ (m2 : Int), ∃ (od2 : Int → Int), ∃ (l2 : List Int), v9 = some (.int (iI r)) ∧ w9 = [cO g0 3 [.ref g1, .ref g2, .int (iI nm2), .int (iI p2)], cO g1 6 [.ref g3, .int (iI e)], cA K g3 100 sg, cO g2 1 [.ref g4, .int (iI m2), .int (iI rc)], cA K g4 100 od2] ∧ rI r ∧ rI p2 ∧ rI nm2 ∧ rI m2 ∧ (∀ j, rI (od2 j)) ∧ ((1 - r, p2, l2) = px_tst T p l) ∧ (cr_L l2 od2 m2) ∧ ((r = 0 ∨ r = 1) ∧ p ≤ p2 ∧ p2 ≤ e ∧ (r = 1 → p + 2 < p2)) ∧ ((l2.length : Int) + p ≤ (l.length : Int) + p2) ∧ (0 ≤ nm2 ∧ nm2 ≤ 99)) := by
  refine g_enter (by decide +kernel) (Nat.le_of_ble_eq_true rfl) (fun G hC hR => ?_)
  refine g_lv hC [0] [(0, _)] rfl ?_
  have hge := hT.1
  refine g_aload_n (pc := 0) hC 0 dX3_readTest_0 rfl rfl ?_
  refine g_fnV (pc := 1) (qr := 0) hC [0, 1, 2] (k_X3_sign _ _ _ _ _ _ _ _ _ (by first | assumption | omega) (by first | assumption | omega) (by first | assumption | omega) (by first | assumption | omega) (by first | assumption | omega) (by first | assumption | omega)) cl_X3_sign wm_X3_28 dX3_readTest_1 rfl rfl rfl rfl rfl (by decide) (by decide) ⟨by omega, by omega⟩ (Nat.le_of_ble_eq_true rfl) rfl rfl ?_
  refine g_name hC (fun x1 e_x1 => ?_)
  have q_x1 : -1 ≤ x1 ∧ x1 ≤ 127 := by rw [e_x1]; exact hT.2.2.1 _
  refine g_fnS (pc := 4) hC [] (k_X3_placeOfLetter _ (by first | assumption | omega)) cl_X3_placeOfLetter wm_X3_76 dX3_readTest_4 rfl rfl (by decide) (by decide) ⟨by omega, by omega⟩ (Nat.le_of_ble_eq_true rfl) rfl rfl ?_
  refine g_name hC (fun a4 e_a4 => ?_)
  have q_a4 := px_am_rng 5 (T p) (sl 5).toNat
  have hs5 := sl_rng (k := 5) (by decide)
  have q_a4 := px_am_rng 5 x1 (sl 5).toNat
  have hs5 := sl_rng (k := 5) (by decide)
  refine g_istore_n (pc := 7) hC [(1, _), (0, _)] dX3_readTest_7 rfl (by decide) rfl ?_
  refine g_iload_n (pc := 8) hC 0 dX3_readTest_8 rfl rfl ?_
  refine g_if_ge (pc := 9) hC 14 dX3_readTest_9 (by decide) (by omega) (fun c9 => ?_) (fun c9 => ?_)
  · have hap : px_am 5 (T p) (sl 5).toNat = a4 := by rw [e_a4, e_x1]
    have hlt : p < e := by
      by_cases h9 : p < e
      · exact h9
      · exfalso
        have h8 : T p = -1 := by rw [hT.2.1 p (by omega), if_neg h9]
        rw [h8] at hap
        rw [show px_am 5 (-1) (sl 5).toNat = -1 from by decide +kernel] at hap
        omega
    refine g_aload_n (pc := 14) hC 1 dX3_readTest_14 rfl rfl ?_
    refine g_dup (pc := 15) hC dX3_readTest_15 rfl ?_
    refine g_get (pc := 16) hC 0 fl_X3_32 dX3_readTest_16 rfl rfl ?_
    refine g_iconst (pc := 19) hC dX3_readTest_19 ?_
    refine g_iadd (pc := 20) hC dX3_readTest_20 ?_
    refine g_putI (pc := 21) hC 0 [cO _ _ [_, _, _, _], _, _, _, _] fl_X3_32 dX3_readTest_21 rfl (Nat.le_of_ble_eq_true rfl) rfl ?_
    refine g_aload_n (pc := 24) hC 1 dX3_readTest_24 rfl rfl ?_
    refine g_fnV (pc := 25) (qr := 0) hC [0, 1, 2] (k_X3_sign _ _ _ _ _ _ _ _ _ (by first | assumption | omega) (by first | assumption | omega) (by first | assumption | omega) (by first | assumption | omega) (by first | assumption | omega) (by first | assumption | omega)) cl_X3_sign wm_X3_28 dX3_readTest_25 rfl rfl rfl rfl rfl (by decide) (by decide) ⟨by omega, by omega⟩ (Nat.le_of_ble_eq_true rfl) rfl rfl ?_
    refine g_name hC (fun y25 e_y25 => ?_)
    have q_y25 : -1 ≤ y25 ∧ y25 ≤ 127 := by rw [e_y25]; exact hT.2.2.1 _
    refine g_istore_n (pc := 28) hC [(2, _), (1, _), (0, _)] dX3_readTest_28 rfl (by decide) rfl ?_
    refine g_iload_n (pc := 29) hC 0 dX3_readTest_29 rfl rfl ?_
    refine g_bipush (pc := 30) hC (60) dX3_readTest_30 (by decide) ?_
    refine g_icmp_eq (pc := 32) hC 49 dX3_readTest_32 (by decide) (by omega) (by omega) (fun c32 => ?_) (fun c32 => ?_)
    · have hlt2 := cr_lt hT (show 0 ≤ p + 1 by omega) e_y25.symm (by omega)
      refine g_aload_n (pc := 49) hC 2 dX3_readTest_49 rfl rfl ?_
      refine g_dup (pc := 50) hC dX3_readTest_50 rfl ?_
      refine g_get (pc := 51) hC 0 fl_X3_32 dX3_readTest_51 rfl rfl ?_
      refine g_iconst (pc := 54) hC dX3_readTest_54 ?_
      refine g_iadd (pc := 55) hC dX3_readTest_55 ?_
      refine g_putI (pc := 56) hC 0 [cO _ _ [_, _, _, _], _, _, _, _] fl_X3_32 dX3_readTest_56 rfl (Nat.le_of_ble_eq_true rfl) rfl ?_
      refine g_aload_n (pc := 59) hC 2 dX3_readTest_59 rfl rfl ?_
      refine g_callV (pc := 60) (qr := 0) hC [0, 1, 2] (k_X3_readNumber _ _ _ _ _ _ _ _ _ (by first | assumption | omega) (by first | assumption | omega) (by first | assumption | omega) (by first | assumption | omega) (by first | assumption | omega) (by first | assumption | omega) (by first | assumption | omega)) cl_X3_readNumber wm_X3_46 dX3_readTest_60 rfl rfl rfl rfl rfl (by decide) (by decide) (by omega) (Nat.le_of_ble_eq_true rfl) rfl (fun v9 w9 hq9 => ?_)
      obtain ⟨r3, p3, nm3, v3, rfl, rfl, r_r3, r_p3, r_nm3, r_v3, hz_60, hv_60, hb_60, hnm2_60⟩ := hq9
      refine g_ws hC [cO g0 3 [.ref g1, .ref g2, .int (iI nm3), .int (iI p3)], cO g1 6 [.ref g3, .int (iI e)], cA K g3 100 sg, cO g2 1 [.ref g4, .int (iI m), .int (iI rc)], cA K g4 100 od] rfl ?_
      refine g_st hC [.int (iI r3)] rfl ?_
      refine g_if_ne (pc := 63) hC 68 dX3_readTest_63 (by decide) (by omega) (fun c63 => ?_) (fun c63 => ?_)
      · refine g_aload_n (pc := 68) hC 2 dX3_readTest_68 rfl rfl ?_
        refine g_get (pc := 69) hC 0 fl_X3_15 dX3_readTest_69 rfl rfl ?_
        refine g_iload_n (pc := 72) hC 1 dX3_readTest_72 rfl rfl ?_
        refine g_iload_n (pc := 73) hC 0 dX3_readTest_73 rfl rfl ?_
        refine g_aload_n (pc := 74) hC 2 dX3_readTest_74 rfl rfl ?_
        refine g_get (pc := 75) hC 0 fl_X3_49 dX3_readTest_75 rfl rfl ?_
        refine g_fnS (pc := 78) hC [] (k_X3_valuesBy _ _ (by first | assumption | omega) (by first | assumption | omega) (by first | assumption | omega)) cl_X3_valuesBy wm_X3_80 dX3_readTest_78 rfl rfl (by decide) (by decide) ⟨by omega, by omega⟩ (Nat.le_of_ble_eq_true rfl) rfl rfl ?_
        refine g_name hC (fun n78 e_n78 => ?_)
        have hvb := vb_rng (c := y25) (n := nm3) (by omega) (by omega)
        refine g_callV (pc := 81) (qr := 3) hC [3, 4] (k_X1_put _ _ _ _ _ _ _ l (a4 + 8 * (y25 - 60) + 32 * nm3) (by first | assumption | omega) (by first | assumption | omega) (by first | assumption | omega) (by first | assumption | omega) (by first | assumption | omega) (by first | assumption | omega) (tk_e_t (by omega) (by omega) (by omega) e_n78 (by omega)) (by first | assumption | omega)) cl_X1_put wm_X3_61 dX3_readTest_81 rfl rfl rfl rfl rfl (by decide) (by decide) (by omega) (Nat.le_of_ble_eq_true rfl) rfl (fun v9 w9 hq9 => ?_)
        obtain ⟨m1, od2, rfl, rfl, r_m1, r_od2, hL2_81, hm2_81⟩ := hq9
        refine g_ws hC [cO g0 3 [.ref g1, .ref g2, .int (iI nm3), .int (iI p3)], cO g1 6 [.ref g3, .int (iI e)], cA K g3 100 sg, cO g2 1 [.ref g4, .int (iI m1), .int (iI rc)], cA K g4 100 od2] rfl ?_
        refine g_st hC [] rfl ?_
        refine g_iconst (pc := 84) hC dX3_readTest_84 ?_
        exact g_zret (pc := 85) hR dX3_readTest_85 rfl (by omega) ⟨by omega, by omega⟩ (Nat.le_of_ble_eq_true rfl) ⟨1, p3, nm3, m1, od2, (l ++ [a4 + 8 * (y25 - 60) + 32 * nm3]), rfl, rfl, (by first | assumption | omega), (by first | assumption | omega), (by first | assumption | omega), (by first | assumption | omega), (by first | assumption | omega), (px_tst_c (v := v3) hap.symm (by omega) e_y25 (by omega) (show (1 - 1, p3, v3) = _ by rw [← hz_60, show r3 = 1 by omega]) (by rw [if_pos (by omega), hv_60.2.2 (by omega)])), hL2_81, (by first | assumption | omega), (by rw [List.length_append]; simp only [List.length_cons, List.length_nil]; omega), (by first | assumption | omega)⟩
      · refine g_iconst (pc := 66) hC dX3_readTest_66 ?_
        exact g_zret (pc := 67) hR dX3_readTest_67 rfl (by omega) ⟨by omega, by omega⟩ (Nat.le_of_ble_eq_true rfl) ⟨0, p3, nm3, m, od, l, rfl, rfl, (by first | assumption | omega), (by first | assumption | omega), (by first | assumption | omega), (by first | assumption | omega), (by first | assumption | omega), (px_tst_c hap.symm (by omega) e_y25 (by omega) (show (1 - 0, p3, v3) = _ by rw [← hz_60, show r3 = 0 by omega]) (by rw [if_neg (by omega)])), hL, (by first | assumption | omega), (by omega), (by first | assumption | omega)⟩
    · refine g_iload_n (pc := 35) hC 0 dX3_readTest_35 rfl rfl ?_
      refine g_bipush (pc := 36) hC (61) dX3_readTest_36 (by decide) ?_
      refine g_icmp_eq (pc := 38) hC 49 dX3_readTest_38 (by decide) (by omega) (by omega) (fun c38 => ?_) (fun c38 => ?_)
      · have hlt2 := cr_lt hT (show 0 ≤ p + 1 by omega) e_y25.symm (by omega)
        refine g_aload_n (pc := 49) hC 2 dX3_readTest_49 rfl rfl ?_
        refine g_dup (pc := 50) hC dX3_readTest_50 rfl ?_
        refine g_get (pc := 51) hC 0 fl_X3_32 dX3_readTest_51 rfl rfl ?_
        refine g_iconst (pc := 54) hC dX3_readTest_54 ?_
        refine g_iadd (pc := 55) hC dX3_readTest_55 ?_
        refine g_putI (pc := 56) hC 0 [cO _ _ [_, _, _, _], _, _, _, _] fl_X3_32 dX3_readTest_56 rfl (Nat.le_of_ble_eq_true rfl) rfl ?_
        refine g_aload_n (pc := 59) hC 2 dX3_readTest_59 rfl rfl ?_
        refine g_callV (pc := 60) (qr := 0) hC [0, 1, 2] (k_X3_readNumber _ _ _ _ _ _ _ _ _ (by first | assumption | omega) (by first | assumption | omega) (by first | assumption | omega) (by first | assumption | omega) (by first | assumption | omega) (by first | assumption | omega) (by first | assumption | omega)) cl_X3_readNumber wm_X3_46 dX3_readTest_60 rfl rfl rfl rfl rfl (by decide) (by decide) (by omega) (Nat.le_of_ble_eq_true rfl) rfl (fun v9 w9 hq9 => ?_)
        obtain ⟨r3, p3, nm3, v3, rfl, rfl, r_r3, r_p3, r_nm3, r_v3, hz_60, hv_60, hb_60, hnm2_60⟩ := hq9
        refine g_ws hC [cO g0 3 [.ref g1, .ref g2, .int (iI nm3), .int (iI p3)], cO g1 6 [.ref g3, .int (iI e)], cA K g3 100 sg, cO g2 1 [.ref g4, .int (iI m), .int (iI rc)], cA K g4 100 od] rfl ?_
        refine g_st hC [.int (iI r3)] rfl ?_
        refine g_if_ne (pc := 63) hC 68 dX3_readTest_63 (by decide) (by omega) (fun c63 => ?_) (fun c63 => ?_)
        · refine g_aload_n (pc := 68) hC 2 dX3_readTest_68 rfl rfl ?_
          refine g_get (pc := 69) hC 0 fl_X3_15 dX3_readTest_69 rfl rfl ?_
          refine g_iload_n (pc := 72) hC 1 dX3_readTest_72 rfl rfl ?_
          refine g_iload_n (pc := 73) hC 0 dX3_readTest_73 rfl rfl ?_
          refine g_aload_n (pc := 74) hC 2 dX3_readTest_74 rfl rfl ?_
          refine g_get (pc := 75) hC 0 fl_X3_49 dX3_readTest_75 rfl rfl ?_
          refine g_fnS (pc := 78) hC [] (k_X3_valuesBy _ _ (by first | assumption | omega) (by first | assumption | omega) (by first | assumption | omega)) cl_X3_valuesBy wm_X3_80 dX3_readTest_78 rfl rfl (by decide) (by decide) ⟨by omega, by omega⟩ (Nat.le_of_ble_eq_true rfl) rfl rfl ?_
          refine g_name hC (fun n78 e_n78 => ?_)
          have hvb := vb_rng (c := y25) (n := nm3) (by omega) (by omega)
          refine g_callV (pc := 81) (qr := 3) hC [3, 4] (k_X1_put _ _ _ _ _ _ _ l (a4 + 8 * (y25 - 60) + 32 * nm3) (by first | assumption | omega) (by first | assumption | omega) (by first | assumption | omega) (by first | assumption | omega) (by first | assumption | omega) (by first | assumption | omega) (tk_e_t (by omega) (by omega) (by omega) e_n78 (by omega)) (by first | assumption | omega)) cl_X1_put wm_X3_61 dX3_readTest_81 rfl rfl rfl rfl rfl (by decide) (by decide) (by omega) (Nat.le_of_ble_eq_true rfl) rfl (fun v9 w9 hq9 => ?_)
          obtain ⟨m3, od4, rfl, rfl, r_m3, r_od4, hL2_81, hm2_81⟩ := hq9
          refine g_ws hC [cO g0 3 [.ref g1, .ref g2, .int (iI nm3), .int (iI p3)], cO g1 6 [.ref g3, .int (iI e)], cA K g3 100 sg, cO g2 1 [.ref g4, .int (iI m3), .int (iI rc)], cA K g4 100 od4] rfl ?_
          refine g_st hC [] rfl ?_
          refine g_iconst (pc := 84) hC dX3_readTest_84 ?_
          exact g_zret (pc := 85) hR dX3_readTest_85 rfl (by omega) ⟨by omega, by omega⟩ (Nat.le_of_ble_eq_true rfl) ⟨1, p3, nm3, m3, od4, (l ++ [a4 + 8 * (y25 - 60) + 32 * nm3]), rfl, rfl, (by first | assumption | omega), (by first | assumption | omega), (by first | assumption | omega), (by first | assumption | omega), (by first | assumption | omega), (px_tst_c (v := v3) hap.symm (by omega) e_y25 (by omega) (show (1 - 1, p3, v3) = _ by rw [← hz_60, show r3 = 1 by omega]) (by rw [if_pos (by omega), hv_60.2.2 (by omega)])), hL2_81, (by first | assumption | omega), (by rw [List.length_append]; simp only [List.length_cons, List.length_nil]; omega), (by first | assumption | omega)⟩
        · refine g_iconst (pc := 66) hC dX3_readTest_66 ?_
          exact g_zret (pc := 67) hR dX3_readTest_67 rfl (by omega) ⟨by omega, by omega⟩ (Nat.le_of_ble_eq_true rfl) ⟨0, p3, nm3, m, od, l, rfl, rfl, (by first | assumption | omega), (by first | assumption | omega), (by first | assumption | omega), (by first | assumption | omega), (by first | assumption | omega), (px_tst_c hap.symm (by omega) e_y25 (by omega) (show (1 - 0, p3, v3) = _ by rw [← hz_60, show r3 = 0 by omega]) (by rw [if_neg (by omega)])), hL, (by first | assumption | omega), (by omega), (by first | assumption | omega)⟩
      · refine g_iload_n (pc := 41) hC 0 dX3_readTest_41 rfl rfl ?_
        refine g_bipush (pc := 42) hC (62) dX3_readTest_42 (by decide) ?_
        refine g_icmp_eq (pc := 44) hC 49 dX3_readTest_44 (by decide) (by omega) (by omega) (fun c44 => ?_) (fun c44 => ?_)
        · have hlt2 := cr_lt hT (show 0 ≤ p + 1 by omega) e_y25.symm (by omega)
          refine g_aload_n (pc := 49) hC 2 dX3_readTest_49 rfl rfl ?_
          refine g_dup (pc := 50) hC dX3_readTest_50 rfl ?_
          refine g_get (pc := 51) hC 0 fl_X3_32 dX3_readTest_51 rfl rfl ?_
          refine g_iconst (pc := 54) hC dX3_readTest_54 ?_
          refine g_iadd (pc := 55) hC dX3_readTest_55 ?_
          refine g_putI (pc := 56) hC 0 [cO _ _ [_, _, _, _], _, _, _, _] fl_X3_32 dX3_readTest_56 rfl (Nat.le_of_ble_eq_true rfl) rfl ?_
          refine g_aload_n (pc := 59) hC 2 dX3_readTest_59 rfl rfl ?_
          refine g_callV (pc := 60) (qr := 0) hC [0, 1, 2] (k_X3_readNumber _ _ _ _ _ _ _ _ _ (by first | assumption | omega) (by first | assumption | omega) (by first | assumption | omega) (by first | assumption | omega) (by first | assumption | omega) (by first | assumption | omega) (by first | assumption | omega)) cl_X3_readNumber wm_X3_46 dX3_readTest_60 rfl rfl rfl rfl rfl (by decide) (by decide) (by omega) (Nat.le_of_ble_eq_true rfl) rfl (fun v9 w9 hq9 => ?_)
          obtain ⟨r3, p3, nm3, v3, rfl, rfl, r_r3, r_p3, r_nm3, r_v3, hz_60, hv_60, hb_60, hnm2_60⟩ := hq9
          refine g_ws hC [cO g0 3 [.ref g1, .ref g2, .int (iI nm3), .int (iI p3)], cO g1 6 [.ref g3, .int (iI e)], cA K g3 100 sg, cO g2 1 [.ref g4, .int (iI m), .int (iI rc)], cA K g4 100 od] rfl ?_
          refine g_st hC [.int (iI r3)] rfl ?_
          refine g_if_ne (pc := 63) hC 68 dX3_readTest_63 (by decide) (by omega) (fun c63 => ?_) (fun c63 => ?_)
          · refine g_aload_n (pc := 68) hC 2 dX3_readTest_68 rfl rfl ?_
            refine g_get (pc := 69) hC 0 fl_X3_15 dX3_readTest_69 rfl rfl ?_
            refine g_iload_n (pc := 72) hC 1 dX3_readTest_72 rfl rfl ?_
            refine g_iload_n (pc := 73) hC 0 dX3_readTest_73 rfl rfl ?_
            refine g_aload_n (pc := 74) hC 2 dX3_readTest_74 rfl rfl ?_
            refine g_get (pc := 75) hC 0 fl_X3_49 dX3_readTest_75 rfl rfl ?_
            refine g_fnS (pc := 78) hC [] (k_X3_valuesBy _ _ (by first | assumption | omega) (by first | assumption | omega) (by first | assumption | omega)) cl_X3_valuesBy wm_X3_80 dX3_readTest_78 rfl rfl (by decide) (by decide) ⟨by omega, by omega⟩ (Nat.le_of_ble_eq_true rfl) rfl rfl ?_
            refine g_name hC (fun n78 e_n78 => ?_)
            have hvb := vb_rng (c := y25) (n := nm3) (by omega) (by omega)
            refine g_callV (pc := 81) (qr := 3) hC [3, 4] (k_X1_put _ _ _ _ _ _ _ l (a4 + 8 * (y25 - 60) + 32 * nm3) (by first | assumption | omega) (by first | assumption | omega) (by first | assumption | omega) (by first | assumption | omega) (by first | assumption | omega) (by first | assumption | omega) (tk_e_t (by omega) (by omega) (by omega) e_n78 (by omega)) (by first | assumption | omega)) cl_X1_put wm_X3_61 dX3_readTest_81 rfl rfl rfl rfl rfl (by decide) (by decide) (by omega) (Nat.le_of_ble_eq_true rfl) rfl (fun v9 w9 hq9 => ?_)
            obtain ⟨m5, od6, rfl, rfl, r_m5, r_od6, hL2_81, hm2_81⟩ := hq9
            refine g_ws hC [cO g0 3 [.ref g1, .ref g2, .int (iI nm3), .int (iI p3)], cO g1 6 [.ref g3, .int (iI e)], cA K g3 100 sg, cO g2 1 [.ref g4, .int (iI m5), .int (iI rc)], cA K g4 100 od6] rfl ?_
            refine g_st hC [] rfl ?_
            refine g_iconst (pc := 84) hC dX3_readTest_84 ?_
            exact g_zret (pc := 85) hR dX3_readTest_85 rfl (by omega) ⟨by omega, by omega⟩ (Nat.le_of_ble_eq_true rfl) ⟨1, p3, nm3, m5, od6, (l ++ [a4 + 8 * (y25 - 60) + 32 * nm3]), rfl, rfl, (by first | assumption | omega), (by first | assumption | omega), (by first | assumption | omega), (by first | assumption | omega), (by first | assumption | omega), (px_tst_c (v := v3) hap.symm (by omega) e_y25 (by omega) (show (1 - 1, p3, v3) = _ by rw [← hz_60, show r3 = 1 by omega]) (by rw [if_pos (by omega), hv_60.2.2 (by omega)])), hL2_81, (by first | assumption | omega), (by rw [List.length_append]; simp only [List.length_cons, List.length_nil]; omega), (by first | assumption | omega)⟩
          · refine g_iconst (pc := 66) hC dX3_readTest_66 ?_
            exact g_zret (pc := 67) hR dX3_readTest_67 rfl (by omega) ⟨by omega, by omega⟩ (Nat.le_of_ble_eq_true rfl) ⟨0, p3, nm3, m, od, l, rfl, rfl, (by first | assumption | omega), (by first | assumption | omega), (by first | assumption | omega), (by first | assumption | omega), (by first | assumption | omega), (px_tst_c hap.symm (by omega) e_y25 (by omega) (show (1 - 0, p3, v3) = _ by rw [← hz_60, show r3 = 0 by omega]) (by rw [if_neg (by omega)])), hL, (by first | assumption | omega), (by omega), (by first | assumption | omega)⟩
        · refine g_iconst (pc := 47) hC dX3_readTest_47 ?_
          exact g_zret (pc := 48) hR dX3_readTest_48 rfl (by omega) ⟨by omega, by omega⟩ (Nat.le_of_ble_eq_true rfl) ⟨0, p + 1, nm, m, od, l, rfl, rfl, (by first | assumption | omega), (by first | assumption | omega), (by first | assumption | omega), (by first | assumption | omega), (by first | assumption | omega), (px_tst_b hap.symm (by omega) e_y25 (by omega) (by omega) (by omega)), hL, (by first | assumption | omega), (by omega), (by first | assumption | omega)⟩
  · refine g_iconst (pc := 12) hC dX3_readTest_12 ?_
    exact g_zret (pc := 13) hR dX3_readTest_13 rfl (by omega) ⟨by omega, by omega⟩ (Nat.le_of_ble_eq_true rfl) ⟨0, p, nm, m, od, l, rfl, rfl, (by first | assumption | omega), (by first | assumption | omega), (by first | assumption | omega), (by first | assumption | omega), (by first | assumption | omega), (px_tst_a (a := a4) (by rw [e_a4, e_x1]) (by omega)), hL, (by first | assumption | omega), (by omega), (by first | assumption | omega)⟩
