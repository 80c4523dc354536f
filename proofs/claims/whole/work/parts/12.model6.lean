theorem tl_first {fi fi3 T : Int → Int} {i st v c : Int} (e : fi3 = upI fi i v) (hv : v = T i) (h : ∀ q, 0 ≤ q → q < c → (q < i ∨ 1 ≤ st) → fi q = T q) : ∀ q, 0 ≤ q → q < c → (q < i + 1 ∨ 1 ≤ st) → fi3 q = T q := by
  intro q h1 h2 h3
  rw [e]
  by_cases hq : q = i
  · rw [hq, upI_at]; exact hv
  · rw [upI_ne hq]; exact h q h1 h2 (by omega)
/-- a row of the PLAN goes -/
def md_by (W : (Int → Int) → Int) (rch : Int) (t : Int → Int) (w n : Int) : Int → Int := if w = 0 then md_go W rch t else if w = 3 then upI t (13 + n / 10) (n % 10) else upI t (7 + n) (if w = 1 then 1 else 0)
def md_pn (W : (Int → Int) → Int) (rch : Int) (s : Int → Int) : Nat → Int → Int
  | 0 => s
  | k + 1 => md_by W rch (md_pn W rch s k) (s (80 + (k : Int))) (s (88 + (k : Int)))
theorem md_by_out {W : (Int → Int) → Int} {rch : Int} {t : Int → Int} {w n : Int} (h19 : 0 ≤ t 19 ∧ t 19 ≤ 6) (h : w = 0 ∨ ((w = 1 ∨ w = 2) ∧ 0 ≤ n ∧ n < t 19) ∨ (w = 3 ∧ 0 ≤ n ∧ n < 10 * t 19)) {j : Int} (hj : j < 0 ∨ 19 ≤ j) : md_by W rch t w n j = t j := by
  unfold md_by
  split
  · have h9 := md_goN_out (W := W) (rch := rch) (s := t) h19.2 (j := j) (by omega) 1
    exact h9
  · split
    · exact upI_ne (by omega)
    · exact upI_ne (by omega)
theorem md_by_rg {W : (Int → Int) → Int} {rch : Int} {t : Int → Int} {w n : Int} (hg : md_rg t) (h0 : t 0 < 20000) (h : w = 0 ∨ ((w = 1 ∨ w = 2) ∧ 0 ≤ n ∧ n < t 19) ∨ (w = 3 ∧ 0 ≤ n ∧ n < 10 * t 19)) : md_rg (md_by W rch t w n) ∧ md_by W rch t w n 0 ≤ t 0 + 1 := by
  have h19 := hg.2.2.1
  unfold md_by
  split
  · exact ⟨md_go_rg hg h0, by rw [md_go_0]; omega⟩
  · split
    · have e9 := md_try (W := fun _ => 0) (rch := 0) (s2 := upI t (13 + n / 10) (n % 10)) (w := 13 + n / 10) (x := n % 10) hg
      refine ⟨⟨fun p h1 h2 => ?_, fun j h1 h2 => by rw [upI_ne (by omega)]; exact hg.2.1 j h1 h2, by rw [upI_ne (by omega)]; exact h19, by rw [upI_ne (by omega)]; exact hg.2.2.2⟩, by rw [upI_ne (by omega)]; omega⟩
      obtain ⟨a1, a2, a3, a4, a5⟩ := hg.1 p h1 h2
      refine ⟨by rw [upI_ne (by omega)]; exact a1, by rw [upI_ne (by omega)]; exact a2, ?_, by rw [upI_ne (by omega)]; exact a4, by rw [upI_ne (by omega)]; exact a5⟩
      by_cases hp : 13 + p = 13 + n / 10
      · rw [hp, upI_at]; omega
      · rw [upI_ne hp]; exact a3
    · refine ⟨⟨fun p h1 h2 => ?_, fun j h1 h2 => by rw [upI_ne (by omega)]; exact hg.2.1 j h1 h2, by rw [upI_ne (by omega)]; exact h19, by rw [upI_ne (by omega)]; exact hg.2.2.2⟩, by rw [upI_ne (by omega)]; omega⟩
      obtain ⟨a1, a2, a3, a4, a5⟩ := hg.1 p h1 h2
      refine ⟨by rw [upI_ne (by omega)]; exact a1, ?_, by rw [upI_ne (by omega)]; exact a3, by rw [upI_ne (by omega)]; exact a4, by rw [upI_ne (by omega)]; exact a5⟩
      by_cases hp : 7 + p = 7 + n
      · rw [hp, upI_at]; split <;> omega
      · rw [upI_ne hp]; exact a2
theorem md_pn_all {W : (Int → Int) → Int} {rch : Int} {s : Int → Int} (hg : md_rg s) (hs : md_rs s) (h0 : s 0 ≤ 19000) : ∀ k : Nat, (k : Int) ≤ s 22 → md_rg (md_pn W rch s k) ∧ md_pn W rch s k 0 ≤ s 0 + (k : Int) ∧ (∀ j, j < 0 ∨ 19 ≤ j → md_pn W rch s k j = s j)
  | 0, _ => ⟨hg, by show s 0 ≤ s 0 + ((0 : Nat) : Int); omega, fun j _ => rfl⟩
  | k + 1, hk => by
    obtain ⟨a1, a2, a3⟩ := md_pn_all (W := W) (rch := rch) hg hs h0 k (by omega)
    have hk9 := hs.2.1.2.2 (k : Int) (by omega) (by omega)
    have h19 := a3 19 (by omega)
    have h22 := hs.2.1.2.1
    rw [← h19] at hk9
    have hb := md_by_rg (W := W) (rch := rch) a1 (by omega) hk9
    refine ⟨hb.1, by have := hb.2; show md_by _ _ _ _ _ _ ≤ _; omega, fun j hj => ?_⟩
    show md_by W rch (md_pn W rch s k) _ _ j = s j
    rw [md_by_out a1.2.2.1 hk9 hj]
    exact a3 j hj
def md_ss (t : Int → Int) : Nat → Int
  | 0 => 0
  | p + 1 => md_ss t p + t (1 + (p : Int))
theorem md_ss_rng {t : Int → Int} (hg : md_rg t) : ∀ p : Nat, p ≤ 6 → 0 ≤ md_ss t p ∧ md_ss t p ≤ 9 * (p : Int)
  | 0, _ => by unfold md_ss; omega
  | p + 1, h => by
    have ih := md_ss_rng hg p (by omega)
    have hp := hg.1 (p : Int) (by omega) (by omega)
    unfold md_ss
    omega
def md_lk (s : Int → Int) : Nat → Int
  | 0 => -5
  | k + 1 => if md_lk s k = -5 then (if s (1 + s (96 + (k : Int))) = s (104 + (k : Int)) then -5 else (k : Int)) else md_lk s k
theorem md_lk_st {s : Int → Int} {n : Nat} (h : ¬ md_lk s n = -5) : ∀ k : Nat, md_lk s (n + k) = md_lk s n
  | 0 => rfl
  | k + 1 => by
    have ih := md_lk_st h k
    rw [show md_lk s (n + (k + 1)) = if md_lk s (n + k) = -5 then (if s (1 + s (96 + ((n + k : Nat) : Int))) = s (104 + ((n + k : Nat) : Int)) then -5 else ((n + k : Nat) : Int)) else md_lk s (n + k) from rfl, ih, if_neg h]
/-! ACTS: what a body answers, which ran -/
def ac_un (kd k : Int) : Int := if k = 0 ∨ k = kd ∨ (0 < k ∧ k < 4 ∧ kd = k + 3) then 1 else 0
def ac_b (kd nb x : Int) : Int := if ac_un kd 1 = 1 then x * 3 + nb else if kd = 5 then bXor (x + nb) nb else x + nb
def ac_s (kd nb tv x : Int) : Int := if ac_un kd 2 = 1 then -(ac_b kd nb x - tv) else if kd = 6 then ac_b kd nb x - tv + tv else ac_b kd nb x - tv
def ac_w (kd nb tv x : Int) : Int := if ac_un kd 3 = 1 then bXor (ac_s kd nb tv x * 2) 7 else if kd = 4 then ac_s kd nb tv (x - 1) * 2 + ac_b kd nb 2 else ac_s kd nb tv x * 2
def ar_b (kd : Int) : List Int := if ac_un kd 1 = 1 then [11, 1] else if kd = 5 then [51, 1] else [1]
def ar_s (kd : Int) : List Int := (if ac_un kd 2 = 1 then [21, 2] else if kd = 6 then [61, 2] else [2]) ++ ar_b kd
def ar_w (kd : Int) : List Int := if ac_un kd 3 = 1 then [31, 3] ++ ar_s kd else if kd = 4 then [41, 3] ++ ar_s kd ++ ar_b kd else [3] ++ ar_s kd
def ac_p : List Int → (Int → Int) × Int → (Int → Int) × Int
  | [], z => z
  | b :: l, z => ac_p l (upI z.1 z.2 b, z.2 + 1)
theorem ac_p_app : ∀ (l m : List Int) (z : (Int → Int) × Int), ac_p (l ++ m) z = ac_p m (ac_p l z)
  | [], _, _ => rfl
  | b :: l, m, z => ac_p_app l m _
theorem ac_p_n : ∀ (l : List Int) (z : (Int → Int) × Int), (ac_p l z).2 = z.2 + (l.length : Int)
  | [], z => by simp [ac_p]
  | b :: l, z => by
    rw [ac_p, ac_p_n l, List.length_cons]
    show z.2 + 1 + _ = _
    omega
theorem ar_b_n (kd : Int) : 1 ≤ (ar_b kd).length ∧ (ar_b kd).length ≤ 2 := by
  unfold ar_b
  (repeat' split) <;> decide
theorem ar_s_n (kd : Int) : 1 ≤ (ar_s kd).length ∧ (ar_s kd).length ≤ 4 := by
  have h := ar_b_n kd
  unfold ar_s
  rw [List.length_append]
  (repeat' split) <;> simp <;> omega
theorem ar_w_n (kd : Int) : 1 ≤ (ar_w kd).length ∧ (ar_w kd).length ≤ 8 := by
  have h := ar_b_n kd
  have h2 := ar_s_n kd
  unfold ar_w
  (repeat' split) <;> simp only [List.length_append, List.length_cons, List.length_nil] <;> omega
def an_act (s : Int → Int) (p w x : Int) : Int := if (0 ≤ p ∧ p < s 19) ∧ (0 ≤ w ∧ w ≤ 2) then (if w = 0 then ac_b (s (26 + p)) p x else if w = 1 then ac_s (s (26 + p)) p (s (32 + p)) x else ac_w (s (26 + p)) p (s (32 + p)) x) else 0
def ar_act (s : Int → Int) (p w : Int) : List Int := if (0 ≤ p ∧ p < s 19) ∧ (0 ≤ w ∧ w ≤ 2) then (if w = 0 then ar_b (s (26 + p)) else if w = 1 then ar_s (s (26 + p)) else ar_w (s (26 + p))) else []
def md_cano (s : Int → Int) : Prop := ∀ j, j < 0 ∨ 922 ≤ j → s j = 0
def an_isPlan (s : Int → Int) (w n : Int) : Int := if w = 0 ∨ ((1 ≤ w ∧ w ≤ 2) ∧ 0 ≤ n ∧ n < s 19) ∨ (w = 3 ∧ 0 ≤ n ∧ n / 10 < s 19) then 1 else 0
def an_plan (s : Int → Int) (w n : Int) : Int := if w = -1 then 0 else if an_isPlan s w n = 1 then (if s 22 = 8 then -4 else s 22 + 1) else -1
def ne_plan (s : Int → Int) (w n : Int) : Int → Int := if w = -1 then upI s 22 0 else if an_isPlan s w n = 1 ∧ s 22 ≠ 8 then upI (upI (upI s (80 + s 22) w) (88 + s 22) n) 22 (s 22 + 1) else s
def an_done (W : (Int → Int) → Int) (rch : Int) (s : Int → Int) (w : Int) : Int := if 0 ≤ w ∧ w ≤ 1 then (if w = 0 then md_unl (md_pn W rch s (s 22).toNat) else md_ss (md_pn W rch s (s 22).toNat) (s 19).toNat) else -1
def an_book (s : Int → Int) (p x : Int) : Int := if p = -1 then 0 else if (0 ≤ p ∧ p < s 19) ∧ (0 ≤ x ∧ x ≤ 9) then (if s 23 = 8 then -4 else s 23 + 1) else -1
def ne_book (s : Int → Int) (p x : Int) : Int → Int := if p = -1 then upI s 23 0 else if ((0 ≤ p ∧ p < s 19) ∧ (0 ≤ x ∧ x ≤ 9)) ∧ s 23 ≠ 8 then upI (upI (upI s (96 + s 23) p) (104 + s 23) x) 23 (s 23 + 1) else s
def an_looked (s : Int → Int) : Int := md_lk s (s 23).toNat
def an_as (s : Int → Int) (p k : Int) : Int := if (0 ≤ p ∧ p < s 19) ∧ (0 ≤ k ∧ k ≤ 6) then (if ac_un (s (26 + p)) k = 1 then s (32 + p) else -6) else -1
theorem md_tells_out {W : (Int → Int) → Int} {rch : Int} {s t1 t2 : Int → Int} {p x : Int} {n : Nat} (h19 : s 19 ≤ 6) (hp : 0 ≤ p ∧ p < 6) (e1 : t1 = upI s (1 + p) x) (e2 : t2 = md_goN W rch t1 n) : (∀ j, j < 0 ∨ 19 ≤ j → t2 j = s j) ∧ t2 19 = s 19 := by
  have h1 : t1 19 = s 19 := by rw [e1]; exact upI_ne (by omega)
  have key : ∀ j, j < 0 ∨ 19 ≤ j → t2 j = s j := fun j hj => by
    rw [e2, md_goN_out (by omega) (by omega) n, e1]
    exact upI_ne (by omega)
  exact ⟨key, key 19 (by omega)⟩
set_option maxHeartbeats 4000000 in
set_option maxRecDepth 100000 in
theorem k_X10_tells {K : gK} (m0 : Nat) (m1 : Nat) (m3 : Nat) (m10 : Nat) (m11 : Nat) (m12 : Nat) (m14 : Nat) (m15 : Nat) (w_thrown : Value) (w_image : Value) (w_hasImage : Value) (w_act : Value) (w_spot : Value) (w_end : Value) (w_isWrong : Value) (w_open : Value) (w_order : Value) (w_bestOrder : Value) (w_rooms : Value) (w_leastUnlike : Value) (w_bodies : Value) (w_ran : Value) (w_kind : Value) (w_number : Value) (w_tellsV : Value) (p : Int) (n : Int) (ik : Int) (s : Int → Int) (fr : Int → Int) (fb : Int → Int) (ft : Int → Int) (fu : Int → Int) (fn : Int → Int) (fi : Int → Int) (W : (Int → Int) → Int) (rch : Int) (r_p : rI p) (r_n : rI n) (r_ik : rI ik) (r_s : ∀ j, rI (s j)) (r_fr : ∀ j, rI (fr j)) (r_fb : ∀ j, rI (fb j)) (r_ft : rZ ft) (r_fu : ∀ j, rI (fu j)) (r_fn : ∀ j, rI (fn j)) (r_fi : ∀ j, rI (fi j)) (hg : md_rg s) (h0 : s 0 + 21 ≤ 20000) (hT : md_TK s W rch) (hik : ik = 0) : gMet K yX10_tells cX10_tells 6 (some .int) 7 0 0 [.ref m0, .int (iI p), .int (iI n)] [cO m0 10 [w_thrown, .ref m1, w_image, .ref m3, w_hasImage, w_act, w_spot, w_end, w_isWrong, w_open, .ref m10, .ref m11, .ref m12, .int (iI ik), .ref m14, .ref m15, w_order, w_bestOrder, w_rooms, w_leastUnlike, w_bodies, w_ran, w_kind, w_number, w_tellsV], cA K m1 922 s, cA K m3 19 fr, cA K m10 6 fb, cZ K m11 64 ft, cA K m12 36000 fu, cA K m14 6 fn, cA K m15 6 fi] (fun v9 w9 => ∃ (fr2 : Int → Int), ∃ (fb2 : Int → Int), ∃ (ft2 : Int → Int), ∃ (fu2 : Int → Int), ∃ (fn2 : Int → Int), ∃ (fi2 : Int → Int), ∃ (ik2 : Int), v9 = some (.int (iI (an_tells W rch s p n))) ∧ w9 = [cO m0 10 [w_thrown, .ref m1, w_image, .ref m3, w_hasImage, w_act, w_spot, w_end, w_isWrong, w_open, .ref m10, .ref m11, .ref m12, .int (iI ik2), .ref m14, .ref m15, w_order, w_bestOrder, w_rooms, w_leastUnlike, w_bodies, w_ran, w_kind, w_number, w_tellsV], cA K m1 922 s, cA K m3 19 fr2, cA K m10 6 fb2, cZ K m11 64 ft2, cA K m12 36000 fu2, cA K m14 6 fn2, cA K m15 6 fi2] ∧ (∀ j, rI (fr2 j)) ∧ (∀ j, rI (fb2 j)) ∧ rZ ft2 ∧ (∀ j, rI (fu2 j)) ∧ (∀ j, rI (fn2 j)) ∧ (∀ j, rI (fi2 j)) ∧ rI ik2 ∧ (ik2 = 0)) := by
  refine g_enter (by decide +kernel) (Nat.le_of_ble_eq_true rfl) (fun G hC hR => ?_)
  refine g_lv hC [0, 1, 2] [(0, _), (1, _), (2, _)] rfl ?_
  have hg0 := hg.2.2.2
  have h19 := hg.2.2.1
  refine g_aload_n (pc := 0) hC 0 dX10_tells_0 rfl rfl ?_
  refine g_iload_n (pc := 1) hC 1 dX10_tells_1 rfl rfl ?_
  refine g_fnV (pc := 2) (qr := 0) hC [0, 1] (k_X10_isMan _ _ _ _ _ _ _ _ _ _ _ _ _ _ _ _ _ _ _ _ _ _ _ _ _ _ _ _ (by first | assumption | omega) (by first | assumption | omega) (by first | assumption | omega)) cl_X10_isMan wm_X10_159 dX10_tells_2 rfl rfl rfl rfl rfl (by decide) (by decide) ⟨by omega, by omega⟩ (Nat.le_of_ble_eq_true rfl) rfl rfl ?_
  refine g_name hC (fun x1 e_x1 => ?_)
  refine g_if_ne (pc := 5) hC 10 dX10_tells_5 (by decide) (by omega) (fun c5 => ?_) (fun c5 => ?_)
  · refine g_iload_n (pc := 10) hC 2 dX10_tells_10 rfl rfl ?_
    refine g_iconst (pc := 11) hC dX10_tells_11 ?_
    refine g_bipush (pc := 12) hC (20) dX10_tells_12 (by decide) ?_
    refine g_fnS (pc := 14) hC [] (k_X10_in _ _ _ (by first | assumption | omega) (by first | assumption | omega) (by first | assumption | omega)) cl_X10_in wm_X10_54 dX10_tells_14 rfl rfl (by decide) (by decide) ⟨by omega, by omega⟩ (Nat.le_of_ble_eq_true rfl) rfl rfl ?_
    refine g_name hC (fun x2 e_x2 => ?_)
    refine g_if_ne (pc := 17) hC 23 dX10_tells_17 (by decide) (by omega) (fun c17 => ?_) (fun c17 => ?_)
    · refine g_aload_n (pc := 23) hC 0 dX10_tells_23 rfl rfl ?_
      refine g_callV (pc := 24) (qr := 0) hC [0, 5] (k_X10_begins _ _ _ _ _ _ _ _ _ _ _ _ _ _ _ _ _ _ _ _ _ _ _ _ _ _ _ (by first | assumption | omega)) cl_X10_begins wm_X10_190 dX10_tells_24 rfl rfl rfl rfl rfl (by decide) (by decide) (by omega) (Nat.le_of_ble_eq_true rfl) rfl (fun v9 w9 hq9 => ?_)
      obtain ⟨fu1, rfl, rfl, r_fu1, hkb⟩ := hq9
      refine g_ws hC [cO m0 10 [w_thrown, .ref m1, w_image, .ref m3, w_hasImage, w_act, w_spot, w_end, w_isWrong, w_open, .ref m10, .ref m11, .ref m12, .int (iI 1), .ref m14, .ref m15, w_order, w_bestOrder, w_rooms, w_leastUnlike, w_bodies, w_ran, w_kind, w_number, w_tellsV], cA K m1 922 s, cA K m3 19 fr, cA K m10 6 fb, cZ K m11 64 ft, cA K m12 36000 fu1, cA K m14 6 fn, cA K m15 6 fi] rfl ?_
      refine g_st hC [] rfl ?_
      have hk3 : md_PC W (fun z => s (26 + z)) fu1 := md_PC0 hkb
      refine g_iconst (pc := 27) hC dX10_tells_27 ?_
      refine g_istore_n (pc := 28) hC [(3, _), (0, _), (1, _), (2, _)] dX10_tells_28 rfl (by decide) rfl ?_
      refine g_iconst (pc := 29) hC dX10_tells_29 ?_
      refine g_istore (pc := 30) hC [(4, _), (3, _), (0, _), (1, _), (2, _)] dX10_tells_30 (by decide) rfl ?_
      have L32 : ∀ (n3 : Nat) (i : Int) (x : Int) (g : Int → Int) (f1 : Int → Int) (f2 : Int → Int) (f3 : Int → Int) (f4 : Int → Int) (f5 : Int → Int) (j : Nat), (rI i) → (rI x) → (∀ j, rI (g j)) → (∀ j, rI (f1 j)) → (rZ f2) → (∀ j, rI (f3 j)) → (∀ j, rI (f4 j)) → (∀ j, rI (f5 j)) → (i = (j : Int)) → (i ≤ 10) → (x = md_tl W rch s p n.toNat j) → (1 ≤ i → ∀ q, 0 ≤ q → q < s 19 → f5 q = md_goN W rch (upI s (1 + p) 0) n.toNat (1 + q)) → (md_PC W (fun z => s (26 + z)) f3) → 10 - i < (n3 : Int) → G 0 0 32 [(0, .ref m0), (1, .int (iI p)), (2, .int (iI n)), (3, .int (iI x)), (4, .int (iI i))] [] [cO m0 10 [w_thrown, .ref m1, w_image, .ref m3, w_hasImage, w_act, w_spot, w_end, w_isWrong, w_open, .ref m10, .ref m11, .ref m12, .int (iI 1), .ref m14, .ref m15, w_order, w_bestOrder, w_rooms, w_leastUnlike, w_bodies, w_ran, w_kind, w_number, w_tellsV], cA K m1 922 s, cA K m3 19 g, cA K m10 6 f1, cZ K m11 64 f2, cA K m12 36000 f3, cA K m14 6 f4, cA K m15 6 f5] := by
        intro n3
        induction n3 with
        | zero => intro i x g f1 f2 f3 f4 f5 j r_i r_x r_g r_f1 r_f2 r_f3 r_f4 r_f5 hi hj hx hfi hk4 hm32; exfalso; omega
        | succ n3 ih32 =>
          intro i x g f1 f2 f3 f4 f5 j r_i r_x r_g r_f1 r_f2 r_f3 r_f4 r_f5 hi hj hx hfi hk4 hm32
          refine g_iload (pc := 32) hC 4 dX10_tells_32 rfl ?_
          refine g_bipush (pc := 34) hC (10) dX10_tells_34 (by decide) ?_
          refine g_icmp_ge (pc := 36) hC 155 dX10_tells_36 (by decide) (by omega) (by omega) (fun c36 => ?_) (fun c36 => ?_)
          · refine g_aload_n (pc := 155) hC 0 dX10_tells_155 rfl rfl ?_
            refine g_iload_n (pc := 156) hC 3 dX10_tells_156 rfl rfl ?_
            refine g_callV (pc := 157) (qr := 0) hC [0] (k_X10_ends _ _ _ _ _ _ _ _ _ _ _ _ _ _ _ _ _ _ _ _ _ _ _ _ _ _ _ (by first | assumption | omega)) cl_X10_ends wm_X10_197 dX10_tells_157 rfl rfl rfl rfl rfl (by decide) (by decide) (by omega) (Nat.le_of_ble_eq_true rfl) rfl (fun v9 w9 hq9 => ?_)
            obtain ⟨rfl, rfl⟩ := hq9
            refine g_ws hC [cO m0 10 [w_thrown, .ref m1, w_image, .ref m3, w_hasImage, w_act, w_spot, w_end, w_isWrong, w_open, .ref m10, .ref m11, .ref m12, .int (iI 0), .ref m14, .ref m15, w_order, w_bestOrder, w_rooms, w_leastUnlike, w_bodies, w_ran, w_kind, w_number, w_tellsV], cA K m1 922 s, cA K m3 19 g, cA K m10 6 f1, cZ K m11 64 f2, cA K m12 36000 f3, cA K m14 6 f4, cA K m15 6 f5] rfl ?_
            refine g_st hC [.int (iI x)] rfl ?_
            exact g_iret (pc := 160) hR dX10_tells_160 rfl ⟨by omega, by omega⟩ (Nat.le_of_ble_eq_true rfl) ⟨g, f1, f2, f3, f4, f5, 0, ret_eq (by unfold an_tells; rw [if_pos (by omega), if_pos (by omega), hx, show j = 10 by omega]), rfl, (by first | assumption | omega), (by first | assumption | omega), (by first | assumption | omega), (by first | assumption | omega), (by first | assumption | omega), (by first | assumption | omega), (by first | assumption | omega), (by first | assumption | omega)⟩
          · refine g_aload_n (pc := 39) hC 0 dX10_tells_39 rfl rfl ?_
            refine g_callV (pc := 40) (qr := 0) hC [0, 1, 2] (k_X10_keeps _ _ _ _ _ _ _ _ _ _ _ _ _ _ _ _ _ _ _ _ _ _ _ _ _ _ _ _ (by first | assumption | omega) (by first | assumption | omega)) cl_X10_keeps wm_X10_169 dX10_tells_40 rfl rfl rfl rfl rfl (by decide) (by decide) (by omega) (Nat.le_of_ble_eq_true rfl) rfl (fun v9 w9 hq9 => ?_)
            obtain ⟨g1, rfl, rfl, r_g1, hkp⟩ := hq9
            refine g_ws hC [cO m0 10 [w_thrown, .ref m1, w_image, .ref m3, w_hasImage, w_act, w_spot, w_end, w_isWrong, w_open, .ref m10, .ref m11, .ref m12, .int (iI 1), .ref m14, .ref m15, w_order, w_bestOrder, w_rooms, w_leastUnlike, w_bodies, w_ran, w_kind, w_number, w_tellsV], cA K m1 922 s, cA K m3 19 g1, cA K m10 6 f1, cZ K m11 64 f2, cA K m12 36000 f3, cA K m14 6 f4, cA K m15 6 f5] rfl ?_
            refine g_st hC [] rfl ?_
            refine g_aload_n (pc := 43) hC 0 dX10_tells_43 rfl rfl ?_
            refine g_get (pc := 44) hC 0 fl_X10_9 dX10_tells_44 rfl rfl ?_
            refine g_iconst (pc := 47) hC dX10_tells_47 ?_
            refine g_iload_n (pc := 48) hC 1 dX10_tells_48 rfl rfl ?_
            refine g_iadd (pc := 49) hC dX10_tells_49 ?_
            refine g_iload (pc := 50) hC 4 dX10_tells_50 rfl ?_
            refine g_iast (pc := 52) hC 1 (fun f9 => [_, cA K _ _ f9, _, _, _, _, _, _]) dX10_tells_52 rfl (by omega) (fun _ => rfl) (fun t1 e_t1 => ?_)
            have r_t1 := rng_up e_t1 r_s (by omega)
            have htr := md_try hg hT e_t1 (by omega) (by omega)
            refine g_aload_n (pc := 53) hC 0 dX10_tells_53 rfl rfl ?_
            refine g_iload_n (pc := 54) hC 2 dX10_tells_54 rfl rfl ?_
            refine g_callV (pc := 55) (qr := 0) hC [0, 1, 3, 4, 5, 6] (k_X10_goesOn _ _ _ _ _ _ _ _ _ _ _ _ _ _ _ _ _ _ _ _ _ _ _ _ _ _ _ _ _ _ _ _ _ _ (by first | assumption | omega) (by first | assumption | omega) (by first | assumption | omega) (by first | assumption | omega) (by first | assumption | omega) (by first | assumption | omega) (by first | assumption | omega) (by first | assumption | omega) htr.1 (by rw [htr.2.2.1]; omega) htr.2.1 (Or.inr ⟨rfl, (htr.2.2.2.2 _).mpr hk4⟩)) cl_X10_goesOn wm_X10_187 dX10_tells_55 rfl rfl rfl rfl rfl (by decide) (by decide) (by omega) (Nat.le_of_ble_eq_true rfl) rfl (fun v9 w9 hq9 => ?_)
            obtain ⟨t2, fb4, ft5, fu6, fn7, rfl, rfl, r_t2, r_fb4, r_ft5, r_fu6, r_fn7, hs_55, hk2_55⟩ := hq9
            refine g_ws hC [cO m0 10 [w_thrown, .ref m1, w_image, .ref m3, w_hasImage, w_act, w_spot, w_end, w_isWrong, w_open, .ref m10, .ref m11, .ref m12, .int (iI 1), .ref m14, .ref m15, w_order, w_bestOrder, w_rooms, w_leastUnlike, w_bodies, w_ran, w_kind, w_number, w_tellsV], cA K m1 922 t2, cA K m3 19 g1, cA K m10 6 fb4, cZ K m11 64 ft5, cA K m12 36000 fu6, cA K m14 6 fn7, cA K m15 6 f5] rfl ?_
            refine g_st hC [] rfl ?_
            have hout := md_tells_out h19.2 (by omega) e_t1 hs_55
            have hs9 : t2 = md_goN W rch (upI s (1 + p) i) n.toNat := by rw [hs_55, e_t1]
            refine g_iconst (pc := 58) hC dX10_tells_58 ?_
            refine g_istore (pc := 59) hC [(5, _), (0, _), (1, _), (2, _), (3, _), (4, _)] dX10_tells_59 (by decide) rfl ?_
            have L61 : ∀ (n8 : Nat) (q : Int) (y : Int) (f6 : Int → Int) (k2 : Nat), (rI q) → (rI y) → (∀ j, rI (f6 j)) → (q = (k2 : Int)) → (q ≤ s 19) → (y = md_tq W rch s p n.toNat i x k2) → (∀ z, 0 ≤ z → z < s 19 → (z < q ∨ 1 ≤ i) → f6 z = md_goN W rch (upI s (1 + p) 0) n.toNat (1 + z)) → s 19 - q < (n8 : Int) → G 0 0 61 [(0, .ref m0), (1, .int (iI p)), (2, .int (iI n)), (3, .int (iI y)), (4, .int (iI i)), (5, .int (iI q))] [] [cO m0 10 [w_thrown, .ref m1, w_image, .ref m3, w_hasImage, w_act, w_spot, w_end, w_isWrong, w_open, .ref m10, .ref m11, .ref m12, .int (iI 1), .ref m14, .ref m15, w_order, w_bestOrder, w_rooms, w_leastUnlike, w_bodies, w_ran, w_kind, w_number, w_tellsV], cA K m1 922 t2, cA K m3 19 g1, cA K m10 6 fb4, cZ K m11 64 ft5, cA K m12 36000 fu6, cA K m14 6 fn7, cA K m15 6 f6] := by
              intro n8
              induction n8 with
              | zero => intro q y f6 k2 r_q r_y r_f6 hq hq2 hy hfq hm61; exfalso; omega
              | succ n8 ih61 =>
                intro q y f6 k2 r_q r_y r_f6 hq hq2 hy hfq hm61
                have h19t := hout.2
                refine g_iload (pc := 61) hC 5 dX10_tells_61 rfl ?_
                refine g_aload_n (pc := 63) hC 0 dX10_tells_63 rfl rfl ?_
                refine g_get (pc := 64) hC 0 fl_X10_9 dX10_tells_64 rfl rfl ?_
                refine g_bipush (pc := 67) hC (19) dX10_tells_67 (by decide) ?_
                refine g_iald (pc := 69) hC 1 dX10_tells_69 rfl (by omega) ?_
                have q9 := r_t2 19
                refine g_icmp_ge (pc := 70) hC 145 dX10_tells_70 (by decide) (by omega) (by omega) (fun c70 => ?_) (fun c70 => ?_)
                · refine g_aload_n (pc := 145) hC 0 dX10_tells_145 rfl rfl ?_
                  refine g_callV (pc := 146) (qr := 0) hC [0, 1, 2] (k_X10_goesBack _ _ _ _ _ _ _ _ _ _ _ _ _ _ _ _ _ _ _ _ _ _ _ _ _ _ _ _ (by first | assumption | omega) (by first | assumption | omega)) cl_X10_goesBack wm_X10_178 dX10_tells_146 rfl rfl rfl rfl rfl (by decide) (by decide) (by omega) (Nat.le_of_ble_eq_true rfl) rfl (fun v9 w9 hq9 => ?_)
                  obtain ⟨t3, rfl, rfl, r_t3, hb_146⟩ := hq9
                  refine g_ws hC [cO m0 10 [w_thrown, .ref m1, w_image, .ref m3, w_hasImage, w_act, w_spot, w_end, w_isWrong, w_open, .ref m10, .ref m11, .ref m12, .int (iI 1), .ref m14, .ref m15, w_order, w_bestOrder, w_rooms, w_leastUnlike, w_bodies, w_ran, w_kind, w_number, w_tellsV], cA K m1 922 t3, cA K m3 19 g1, cA K m10 6 fb4, cZ K m11 64 ft5, cA K m12 36000 fu6, cA K m14 6 fn7, cA K m15 6 f6] rfl ?_
                  refine g_st hC [] rfl ?_
                  rw [show (t3 : Int → Int) = s from (md_back hkp hout.1 hb_146)]
                  refine g_iinc (pc := 149) hC 4 [(4, _), (0, _), (1, _), (2, _), (3, _), (5, _)] dX10_tells_149 rfl (by decide) rfl ?_
                  refine g_goto (pc := 152) hC 32 dX10_tells_152 (by decide) ?_
                  refine g_lv hC [1, 2, 3, 4, 0] [(0, _), (1, _), (2, _), (3, _), (4, _)] rfl ?_
                  exact ih32 (i + 1) y g1 fb4 ft5 fu6 fn7 f6 (j + 1) (by first | assumption | omega) (by first | assumption | omega) (by first | assumption | omega) (by first | assumption | omega) (by first | assumption | omega) (by first | assumption | omega) (by first | assumption | omega) (by first | assumption | omega) (by first | assumption | omega) (by first | assumption | omega) (by rw [hy, show k2 = (s 19).toNat by omega, hi, hx]; rfl) (fun _ q q1 q2 => hfq q q1 q2 (by omega)) ((htr.2.2.2.2 _).mp (hk2_55.resolve_left (by decide)).2) (by omega)
                · have J106 : ∀ (z : Int), (rI z) → (z = if i ≤ 0 then 0 else if t2 (1 + q) = f6 q then 0 else bShl 1 q) → G 0 0 106 [(0, .ref m0), (1, .int (iI p)), (2, .int (iI n)), (3, .int (iI y)), (4, .int (iI i)), (5, .int (iI q))] [.int (iI z), .int (iI y)] [cO m0 10 [w_thrown, .ref m1, w_image, .ref m3, w_hasImage, w_act, w_spot, w_end, w_isWrong, w_open, .ref m10, .ref m11, .ref m12, .int (iI 1), .ref m14, .ref m15, w_order, w_bestOrder, w_rooms, w_leastUnlike, w_bodies, w_ran, w_kind, w_number, w_tellsV], cA K m1 922 t2, cA K m3 19 g1, cA K m10 6 fb4, cZ K m11 64 ft5, cA K m12 36000 fu6, cA K m14 6 fn7, cA K m15 6 f6] := by
                    intro z r_z hz
                    refine g_ior (pc := 106) hC dX10_tells_106 ?_
                    refine g_istore_n (pc := 107) hC [(3, _), (0, _), (1, _), (2, _), (4, _), (5, _)] dX10_tells_107 rfl (by decide) rfl ?_
                    refine g_aload_n (pc := 108) hC 1 dX10_tells_108 rfl rfl ?_
                    refine g_get (pc := 109) hC 0 fl_X10_35 dX10_tells_109 rfl rfl ?_
                    refine g_iload (pc := 112) hC 5 dX10_tells_112 rfl ?_
                    refine g_iload (pc := 114) hC 4 dX10_tells_114 rfl ?_
                    refine g_if_ne (pc := 116) hC 131 dX10_tells_116 (by decide) (by omega) (fun c116 => ?_) (fun c116 => ?_)
                    · refine g_aload_n (pc := 131) hC 1 dX10_tells_131 rfl rfl ?_
                      refine g_get (pc := 132) hC 0 fl_X10_35 dX10_tells_132 rfl rfl ?_
                      refine g_iload (pc := 135) hC 5 dX10_tells_135 rfl ?_
                      refine g_iald (pc := 137) hC 7 dX10_tells_137 rfl (by omega) ?_
                      have q10 := r_f6 q
                      refine g_iast (pc := 138) hC 7 (fun f9 => [_, _, _, _, _, _, _, cA K _ _ f9]) dX10_tells_138 rfl (by omega) (fun _ => rfl) (fun f7 e_f7 => ?_)
                      have r_f7 := rng_up e_f7 r_f6 (by omega)
                      refine g_iinc (pc := 139) hC 5 [(5, _), (3, _), (0, _), (1, _), (2, _), (4, _)] dX10_tells_139 rfl (by decide) rfl ?_
                      refine g_goto (pc := 142) hC 61 dX10_tells_142 (by decide) ?_
                      refine g_lv hC [2, 3, 4, 1, 5, 0] [(0, _), (1, _), (2, _), (3, _), (4, _), (5, _)] rfl ?_
                      exact ih61 (q + 1) (bOr y z) f7 (k2 + 1) (by first | assumption | omega) (bOr_rng _ _) (by first | assumption | omega) (by first | assumption | omega) (by first | assumption | omega) (md_tq_s hq hs9 hy (fun h9 => hfq q (by omega) (by omega) (by omega)) hz) (tl_first e_f7 (hfq q (by omega) (by omega) (by omega)) hfq) (by omega)
                    · refine g_aload_n (pc := 119) hC 1 dX10_tells_119 rfl rfl ?_
                      refine g_get (pc := 120) hC 0 fl_X10_9 dX10_tells_120 rfl rfl ?_
                      refine g_iconst (pc := 123) hC dX10_tells_123 ?_
                      refine g_iload (pc := 124) hC 5 dX10_tells_124 rfl ?_
                      refine g_iadd (pc := 126) hC dX10_tells_126 ?_
                      refine g_iald (pc := 127) hC 1 dX10_tells_127 rfl (by omega) ?_
                      have q11 := r_t2 (1 + q)
                      refine g_goto (pc := 128) hC 138 dX10_tells_128 (by decide) ?_
                      refine g_iast (pc := 138) hC 7 (fun f9 => [_, _, _, _, _, _, _, cA K _ _ f9]) dX10_tells_138 rfl (by omega) (fun _ => rfl) (fun f7 e_f7 => ?_)
                      have r_f7 := rng_up e_f7 r_f6 (by omega)
                      refine g_iinc (pc := 139) hC 5 [(5, _), (3, _), (0, _), (1, _), (2, _), (4, _)] dX10_tells_139 rfl (by decide) rfl ?_
                      refine g_goto (pc := 142) hC 61 dX10_tells_142 (by decide) ?_
                      refine g_lv hC [2, 3, 4, 1, 5, 0] [(0, _), (1, _), (2, _), (3, _), (4, _), (5, _)] rfl ?_
                      exact ih61 (q + 1) (bOr y z) f7 (k2 + 1) (by first | assumption | omega) (bOr_rng _ _) (by first | assumption | omega) (by first | assumption | omega) (by first | assumption | omega) (md_tq_s hq hs9 hy (fun h9 => hfq q (by omega) (by omega) (by omega)) hz) (tl_first e_f7 (by rw [hs9, show i = 0 by omega]) hfq) (by omega)
                  refine g_iload_n (pc := 73) hC 3 dX10_tells_73 rfl rfl ?_
                  refine g_iload (pc := 74) hC 4 dX10_tells_74 rfl ?_
                  refine g_if_le (pc := 76) hC 105 dX10_tells_76 (by decide) (by omega) (fun c76 => ?_) (fun c76 => ?_)
                  · refine g_iconst (pc := 105) hC dX10_tells_105 ?_
                    exact J106 0 (by first | assumption | omega) (by first | assumption | omega)
                  · refine g_aload_n (pc := 79) hC 0 dX10_tells_79 rfl rfl ?_
                    refine g_get (pc := 80) hC 0 fl_X10_9 dX10_tells_80 rfl rfl ?_
                    refine g_iconst (pc := 83) hC dX10_tells_83 ?_
                    refine g_iload (pc := 84) hC 5 dX10_tells_84 rfl ?_
                    refine g_iadd (pc := 86) hC dX10_tells_86 ?_
                    refine g_iald (pc := 87) hC 1 dX10_tells_87 rfl (by omega) ?_
                    have q12 := r_t2 (1 + q)
                    refine g_aload_n (pc := 88) hC 0 dX10_tells_88 rfl rfl ?_
                    refine g_get (pc := 89) hC 0 fl_X10_35 dX10_tells_89 rfl rfl ?_
                    refine g_iload (pc := 92) hC 5 dX10_tells_92 rfl ?_
                    refine g_iald (pc := 94) hC 7 dX10_tells_94 rfl (by omega) ?_
                    have q13 := r_f6 q
                    refine g_icmp_eq (pc := 95) hC 105 dX10_tells_95 (by decide) (by omega) (by omega) (fun c95 => ?_) (fun c95 => ?_)
                    · refine g_iconst (pc := 105) hC dX10_tells_105 ?_
                      exact J106 0 (by first | assumption | omega) (by first | assumption | omega)
                    · refine g_iconst (pc := 98) hC dX10_tells_98 ?_
                      refine g_iload (pc := 99) hC 5 dX10_tells_99 rfl ?_
                      refine g_ishl (pc := 101) hC dX10_tells_101 ?_
                      refine g_goto (pc := 102) hC 106 dX10_tells_102 (by decide) ?_
                      exact J106 (bShl 1 q) (bShl_rng _ _) (by first | assumption | omega)
            refine g_lv hC [1, 2, 3, 4, 5, 0] [(0, _), (1, _), (2, _), (3, _), (4, _), (5, _)] rfl ?_
            exact L61 ((s 19 - 0 : Int).toNat + 1) 0 x f5 0 (by first | assumption | omega) (by first | assumption | omega) (by first | assumption | omega) (by first | assumption | omega) (by first | assumption | omega) rfl (fun z z1 z2 z3 => hfi (by omega) z z1 z2) (by omega)
      refine g_lv hC [2, 3, 4, 1, 0] [(0, _), (1, _), (2, _), (3, _), (4, _)] rfl ?_
      exact L32 ((10 - 0 : Int).toNat + 1) 0 0 fr fb ft fu1 fn fi 0 (by first | assumption | omega) (by first | assumption | omega) (by first | assumption | omega) (by first | assumption | omega) (by first | assumption | omega) (by first | assumption | omega) (by first | assumption | omega) (by first | assumption | omega) (by first | assumption | omega) (by first | assumption | omega) rfl (fun h9 => by omega) (by first | assumption | omega) (by omega)
    · refine g_bipush (pc := 20) hC (-2) dX10_tells_20 (by decide) ?_
      exact g_iret (pc := 22) hR dX10_tells_22 rfl ⟨by omega, by omega⟩ (Nat.le_of_ble_eq_true rfl) ⟨fr, fb, ft, fu, fn, fi, ik, ret_eq (by unfold an_tells; (repeat' split) <;> omega), rfl, (by first | assumption | omega), (by first | assumption | omega), (by first | assumption | omega), (by first | assumption | omega), (by first | assumption | omega), (by first | assumption | omega), (by first | assumption | omega), (by first | assumption | omega)⟩
  · refine g_iconst (pc := 8) hC dX10_tells_8 ?_
    exact g_iret (pc := 9) hR dX10_tells_9 rfl ⟨by omega, by omega⟩ (Nat.le_of_ble_eq_true rfl) ⟨fr, fb, ft, fu, fn, fi, ik, ret_eq (by unfold an_tells; (repeat' split) <;> omega), rfl, (by first | assumption | omega), (by first | assumption | omega), (by first | assumption | omega), (by first | assumption | omega), (by first | assumption | omega), (by first | assumption | omega), (by first | assumption | omega), (by first | assumption | omega)⟩
set_option maxHeartbeats 4000000 in
set_option maxRecDepth 100000 in
theorem k_X10_see {K : gK} (m0 : Nat) (m1 : Nat) (w_thrown : Value) (w_image : Value) (w_frame : Value) (w_hasImage : Value) (w_act : Value) (w_spot : Value) (w_end : Value) (w_isWrong : Value) (w_open : Value) (w_by : Value) (w_truths : Value) (w_pulls : Value) (w_isKeeping : Value) (w_next : Value) (w_first : Value) (w_order : Value) (w_bestOrder : Value) (w_rooms : Value) (w_leastUnlike : Value) (w_bodies : Value) (w_ran : Value) (w_kind : Value) (w_number : Value) (w_tellsV : Value) (p : Int) (n : Int) (x : Int) (s : Int → Int) (r_p : rI p) (r_n : rI n) (r_x : rI x) (r_s : ∀ j, rI (s j)) (hg : md_rg s) (hs : md_rs s) : gMet K yX10_see cX10_see 4 (some .int) 2 0 0 [.ref m0, .int (iI p), .int (iI n), .int (iI x)] [cO m0 10 [w_thrown, .ref m1, w_image, w_frame, w_hasImage, w_act, w_spot, w_end, w_isWrong, w_open, w_by, w_truths, w_pulls, w_isKeeping, w_next, w_first, w_order, w_bestOrder, w_rooms, w_leastUnlike, w_bodies, w_ran, w_kind, w_number, w_tellsV], cA K m1 922 s] (fun v9 w9 => ∃ (s2 : Int → Int), v9 = some (.int (iI (an_see s p n x))) ∧ w9 = [cO m0 10 [w_thrown, .ref m1, w_image, w_frame, w_hasImage, w_act, w_spot, w_end, w_isWrong, w_open, w_by, w_truths, w_pulls, w_isKeeping, w_next, w_first, w_order, w_bestOrder, w_rooms, w_leastUnlike, w_bodies, w_ran, w_kind, w_number, w_tellsV], cA K m1 922 s2] ∧ (∀ j, rI (s2 j)) ∧ (s2 = ne_see s p n x)) := by
  refine g_enter (by decide +kernel) (Nat.le_of_ble_eq_true rfl) (fun G hC hR => ?_)
  refine g_lv hC [0, 1, 2, 3] [(0, _), (1, _), (2, _), (3, _)] rfl ?_
  have hg0 := hg.2.2.2
  have h19 := hg.2.2.1
  have hs1 := hs.1
  refine g_iload_n (pc := 0) hC 1 dX10_see_0 rfl rfl ?_
  refine g_iconst (pc := 1) hC dX10_see_1 ?_
  refine g_icmp_ne (pc := 2) hC 15 dX10_see_2 (by decide) (by omega) (by omega) (fun c2 => ?_) (fun c2 => ?_)
  · refine g_aload_n (pc := 15) hC 0 dX10_see_15 rfl rfl ?_
    refine g_iload_n (pc := 16) hC 1 dX10_see_16 rfl rfl ?_
    refine g_fnV (pc := 17) (qr := 0) hC [0, 1] (k_X10_isMan _ _ _ _ _ _ _ _ _ _ _ _ _ _ _ _ _ _ _ _ _ _ _ _ _ _ _ _ (by first | assumption | omega) (by first | assumption | omega) (by first | assumption | omega)) cl_X10_isMan wm_X10_159 dX10_see_17 rfl rfl rfl rfl rfl (by decide) (by decide) ⟨by omega, by omega⟩ (Nat.le_of_ble_eq_true rfl) rfl rfl ?_
    refine g_name hC (fun x1 e_x1 => ?_)
    refine g_if_eq (pc := 20) hC 30 dX10_see_20 (by decide) (by omega) (fun c20 => ?_) (fun c20 => ?_)
    · refine g_iconst (pc := 30) hC dX10_see_30 ?_
      exact g_iret (pc := 31) hR dX10_see_31 rfl ⟨by omega, by omega⟩ (Nat.le_of_ble_eq_true rfl) ⟨s, ret_eq (by unfold an_see; (repeat' split) <;> omega), rfl, (by first | assumption | omega), (by unfold ne_see; rw [if_neg (by omega), if_neg (by omega)])⟩
    · refine g_iload_n (pc := 23) hC 3 dX10_see_23 rfl rfl ?_
      refine g_fnS (pc := 24) hC [] (k_X10_isDigit _ (by first | assumption | omega)) cl_X10_isDigit wm_X10_155 dX10_see_24 rfl rfl (by decide) (by decide) ⟨by omega, by omega⟩ (Nat.le_of_ble_eq_true rfl) rfl rfl ?_
      refine g_name hC (fun x2 e_x2 => ?_)
      refine g_if_ne (pc := 27) hC 32 dX10_see_27 (by decide) (by omega) (fun c27 => ?_) (fun c27 => ?_)
      · refine g_iload_n (pc := 32) hC 2 dX10_see_32 rfl rfl ?_
        refine g_iconst (pc := 33) hC dX10_see_33 ?_
        refine g_bipush (pc := 34) hC (20) dX10_see_34 (by decide) ?_
        refine g_fnS (pc := 36) hC [] (k_X10_in _ _ _ (by first | assumption | omega) (by first | assumption | omega) (by first | assumption | omega)) cl_X10_in wm_X10_54 dX10_see_36 rfl rfl (by decide) (by decide) ⟨by omega, by omega⟩ (Nat.le_of_ble_eq_true rfl) rfl rfl ?_
        refine g_name hC (fun x3 e_x3 => ?_)
        refine g_if_ne (pc := 39) hC 45 dX10_see_39 (by decide) (by omega) (fun c39 => ?_) (fun c39 => ?_)
        · refine g_aload_n (pc := 45) hC 0 dX10_see_45 rfl rfl ?_
          refine g_get (pc := 46) hC 0 fl_X10_9 dX10_see_46 rfl rfl ?_
          refine g_bipush (pc := 49) hC (21) dX10_see_49 (by decide) ?_
          refine g_iald (pc := 51) hC 1 dX10_see_51 rfl (by omega) ?_
          have q4 := r_s 21
          refine g_bipush (pc := 52) hC (6) dX10_see_52 (by decide) ?_
          refine g_icmp_ne (pc := 54) hC 60 dX10_see_54 (by decide) (by omega) (by omega) (fun c54 => ?_) (fun c54 => ?_)
          · refine g_aload_n (pc := 60) hC 0 dX10_see_60 rfl rfl ?_
            refine g_get (pc := 61) hC 0 fl_X10_9 dX10_see_61 rfl rfl ?_
            refine g_bipush (pc := 64) hC (62) dX10_see_64 (by decide) ?_
            refine g_aload_n (pc := 66) hC 0 dX10_see_66 rfl rfl ?_
            refine g_get (pc := 67) hC 0 fl_X10_9 dX10_see_67 rfl rfl ?_
            refine g_bipush (pc := 70) hC (21) dX10_see_70 (by decide) ?_
            refine g_iald (pc := 72) hC 1 dX10_see_72 rfl (by omega) ?_
            have q5 := r_s 21
            refine g_iadd (pc := 73) hC dX10_see_73 ?_
            refine g_iload_n (pc := 74) hC 1 dX10_see_74 rfl rfl ?_
            refine g_iast (pc := 75) hC 1 (fun f9 => [_, cA K _ _ f9]) dX10_see_75 rfl (by omega) (fun _ => rfl) (fun s4 e_s4 => ?_)
            have r_s4 := rng_up e_s4 r_s (by omega)
            have t4 : s4 21 = s 21 := by rw [e_s4]; exact upI_ne (by omega)
            refine g_aload_n (pc := 76) hC 0 dX10_see_76 rfl rfl ?_
            refine g_get (pc := 77) hC 0 fl_X10_9 dX10_see_77 rfl rfl ?_
            refine g_bipush (pc := 80) hC (68) dX10_see_80 (by decide) ?_
            refine g_aload_n (pc := 82) hC 0 dX10_see_82 rfl rfl ?_
            refine g_get (pc := 83) hC 0 fl_X10_9 dX10_see_83 rfl rfl ?_
            refine g_bipush (pc := 86) hC (21) dX10_see_86 (by decide) ?_
            refine g_iald (pc := 88) hC 1 dX10_see_88 rfl (by omega) ?_
            have q6 := r_s4 21
            refine g_iadd (pc := 89) hC dX10_see_89 ?_
            refine g_iload_n (pc := 90) hC 2 dX10_see_90 rfl rfl ?_
            refine g_iast (pc := 91) hC 1 (fun f9 => [_, cA K _ _ f9]) dX10_see_91 rfl (by omega) (fun _ => rfl) (fun s5 e_s5 => ?_)
            have r_s5 := rng_up e_s5 r_s4 (by omega)
            have t5 : s5 21 = s 21 := by rw [e_s5, t4]; rw [← t4]; exact upI_ne (by omega)
            refine g_aload_n (pc := 92) hC 0 dX10_see_92 rfl rfl ?_
            refine g_get (pc := 93) hC 0 fl_X10_9 dX10_see_93 rfl rfl ?_
            refine g_bipush (pc := 96) hC (74) dX10_see_96 (by decide) ?_
            refine g_aload_n (pc := 98) hC 0 dX10_see_98 rfl rfl ?_
            refine g_get (pc := 99) hC 0 fl_X10_9 dX10_see_99 rfl rfl ?_
            refine g_bipush (pc := 102) hC (21) dX10_see_102 (by decide) ?_
            refine g_iald (pc := 104) hC 1 dX10_see_104 rfl (by omega) ?_
            have q7 := r_s5 21
            refine g_iadd (pc := 105) hC dX10_see_105 ?_
            refine g_iload_n (pc := 106) hC 3 dX10_see_106 rfl rfl ?_
            refine g_iast (pc := 107) hC 1 (fun f9 => [_, cA K _ _ f9]) dX10_see_107 rfl (by omega) (fun _ => rfl) (fun s6 e_s6 => ?_)
            have r_s6 := rng_up e_s6 r_s5 (by omega)
            have t6 : s6 21 = s 21 := by rw [e_s6, t5]; rw [← t5]; exact upI_ne (by omega)
            refine g_aload_n (pc := 108) hC 0 dX10_see_108 rfl rfl ?_
            refine g_get (pc := 109) hC 0 fl_X10_9 dX10_see_109 rfl rfl ?_
            refine g_bipush (pc := 112) hC (21) dX10_see_112 (by decide) ?_
            refine g_dup2 (pc := 114) hC dX10_see_114 rfl rfl ?_
            refine g_iald (pc := 115) hC 1 dX10_see_115 rfl (by omega) ?_
            have q8 := r_s6 21
            refine g_iconst (pc := 116) hC dX10_see_116 ?_
            refine g_iadd (pc := 117) hC dX10_see_117 ?_
            refine g_iast (pc := 118) hC 1 (fun f9 => [_, cA K _ _ f9]) dX10_see_118 rfl (by omega) (fun _ => rfl) (fun s7 e_s7 => ?_)
            have r_s7 := rng_up e_s7 r_s6 (by omega)
            have t7 : s7 21 = s 21 + 1 := by rw [e_s7, t6]; exact upI_at _ _ _
            refine g_aload_n (pc := 119) hC 0 dX10_see_119 rfl rfl ?_
            refine g_get (pc := 120) hC 0 fl_X10_9 dX10_see_120 rfl rfl ?_
            refine g_bipush (pc := 123) hC (21) dX10_see_123 (by decide) ?_
            refine g_iald (pc := 125) hC 1 dX10_see_125 rfl (by omega) ?_
            have q9 := r_s7 21
            exact g_iret (pc := 126) hR dX10_see_126 rfl ⟨by omega, by omega⟩ (Nat.le_of_ble_eq_true rfl) ⟨s7, ret_eq (by unfold an_see; (repeat' split) <;> omega), rfl, (by first | assumption | omega), (by unfold ne_see; rw [if_neg (by omega), if_pos (by omega), e_s7, t6, e_s6, t5, e_s5, t4, e_s4])⟩
          · refine g_bipush (pc := 57) hC (-4) dX10_see_57 (by decide) ?_
            exact g_iret (pc := 59) hR dX10_see_59 rfl ⟨by omega, by omega⟩ (Nat.le_of_ble_eq_true rfl) ⟨s, ret_eq (by unfold an_see; (repeat' split) <;> omega), rfl, (by first | assumption | omega), (by unfold ne_see; rw [if_neg (by omega), if_neg (by omega)])⟩
        · refine g_bipush (pc := 42) hC (-2) dX10_see_42 (by decide) ?_
          exact g_iret (pc := 44) hR dX10_see_44 rfl ⟨by omega, by omega⟩ (Nat.le_of_ble_eq_true rfl) ⟨s, ret_eq (by unfold an_see; (repeat' split) <;> omega), rfl, (by first | assumption | omega), (by unfold ne_see; rw [if_neg (by omega), if_neg (by omega)])⟩
      · refine g_iconst (pc := 30) hC dX10_see_30 ?_
        exact g_iret (pc := 31) hR dX10_see_31 rfl ⟨by omega, by omega⟩ (Nat.le_of_ble_eq_true rfl) ⟨s, ret_eq (by unfold an_see; (repeat' split) <;> omega), rfl, (by first | assumption | omega), (by unfold ne_see; rw [if_neg (by omega), if_neg (by omega)])⟩
  · refine g_aload_n (pc := 5) hC 0 dX10_see_5 rfl rfl ?_
    refine g_get (pc := 6) hC 0 fl_X10_9 dX10_see_6 rfl rfl ?_
    refine g_bipush (pc := 9) hC (21) dX10_see_9 (by decide) ?_
    refine g_iconst (pc := 11) hC dX10_see_11 ?_
    refine g_iast (pc := 12) hC 1 (fun f9 => [_, cA K _ _ f9]) dX10_see_12 rfl (by omega) (fun _ => rfl) (fun s3 e_s3 => ?_)
    have r_s3 := rng_up e_s3 r_s (by omega)
    refine g_iconst (pc := 13) hC dX10_see_13 ?_
    exact g_iret (pc := 14) hR dX10_see_14 rfl ⟨by omega, by omega⟩ (Nat.le_of_ble_eq_true rfl) ⟨s3, ret_eq (by unfold an_see; (repeat' split) <;> omega), rfl, (by first | assumption | omega), (by unfold ne_see; rw [if_pos (by omega), e_s3])⟩
set_option maxHeartbeats 4000000 in
set_option maxRecDepth 100000 in
theorem k_X10_lowest {K : gK} (up : Int) (low : Int) (part : Int) (hu : 0 ≤ up ∧ up ≤ 1000) (hl : 1 ≤ low ∧ low ≤ 1000) (hpr : rI part) : gMet K yX10_lowest cX10_lowest 11 (some .long) 0 0 0 [.long (iL up), .long (iL low), .int (iI part)] [] (fun v9 w9 => v9 = some (.long (iL (md_low up low part))) ∧ w9 = []) := by
  refine g_enter (by decide +kernel) (Nat.le_of_ble_eq_true rfl) (fun G hC hR => ?_)
  refine g_lv hC [0, 1, 2] [(0, _), (2, _), (4, _)] rfl ?_
  have hG0 : 1 ≤ Nat.gcd up.toNat low.toNat := Nat.gcd_pos_of_pos_right _ (by omega)
  refine g_lload_n (pc := 0) hC 0 dX10_lowest_0 rfl rfl ?_
  refine g_lconst (pc := 1) hC (0) dX10_lowest_1 (by decide) ?_
  refine g_lcmp (pc := 2) hC dX10_lowest_2 (by omega) (by omega) ?_
  refine g_if_ge (pc := 3) hC 11 dX10_lowest_3 (by decide) (by omega) (fun c3 => ?_) (fun c3 => by exfalso; omega)
  refine g_lload_n (pc := 11) hC 0 dX10_lowest_11 rfl rfl ?_
  refine g_lstore (pc := 12) hC [(5, _), (0, _), (2, _), (4, _)] dX10_lowest_12 (by decide) rfl ?_
  refine g_lload_n (pc := 14) hC 2 dX10_lowest_14 rfl rfl ?_
  refine g_lstore (pc := 15) hC [(7, _), (5, _), (0, _), (2, _), (4, _)] dX10_lowest_15 (by decide) rfl ?_
  have L17 : ∀ (n1 : Nat) (u : Int) (v : Int) (a : Nat) (b : Nat), (rI u) → (rI v) → (u = (a : Int)) → (v = (b : Int)) → (a ≤ 1000 ∧ b ≤ 1000) → (Nat.gcd a b = Nat.gcd up.toNat low.toNat) → v < (n1 : Int) → G 0 0 17 [(0, .long (iL up)), (2, .long (iL low)), (4, .int (iI part)), (5, .long (iL u)), (7, .long (iL v))] [] [] := by
    intro n1
    induction n1 with
    | zero => intro u v a b r_u r_v hu9 hv9 ha hG hm17; exfalso; omega
    | succ n1 ih17 =>
      intro u v a b r_u r_v hu9 hv9 ha hG hm17
      refine g_lload (pc := 17) hC 4 dX10_lowest_17 rfl ?_
      refine g_lconst (pc := 19) hC (0) dX10_lowest_19 (by decide) ?_
      refine g_lcmp (pc := 20) hC dX10_lowest_20 (by omega) (by omega) ?_
      refine g_if_eq (pc := 21) hC 42 dX10_lowest_21 (by decide) (by omega) (fun c21 => ?_) (fun c21 => ?_)
      · have hfin : u = ((Nat.gcd up.toNat low.toNat : Nat) : Int) := by rw [hu9]; exact md_gcd_0 hG (by omega)
        refine g_iload (pc := 42) hC 2 dX10_lowest_42 rfl ?_
        refine g_if_ne (pc := 44) hC 51 dX10_lowest_44 (by decide) (by omega) (fun c44 => ?_) (fun c44 => ?_)
        · refine g_lload_n (pc := 51) hC 1 dX10_lowest_51 rfl rfl ?_
          refine g_lload (pc := 52) hC 3 dX10_lowest_52 rfl ?_
          refine g_ldiv (pc := 54) hC dX10_lowest_54 (by omega) (by omega) ?_
          exact g_lret (pc := 55) hR dX10_lowest_55 rfl ⟨by omega, by omega⟩ (Nat.le_of_ble_eq_true rfl) ⟨ret_eqL (by unfold md_low; rw [if_neg c44, hfin]), rfl⟩
        · refine g_lload_n (pc := 47) hC 0 dX10_lowest_47 rfl rfl ?_
          refine g_goto (pc := 48) hC 52 dX10_lowest_48 (by decide) ?_
          refine g_lload (pc := 52) hC 3 dX10_lowest_52 rfl ?_
          refine g_ldiv (pc := 54) hC dX10_lowest_54 (by omega) (by omega) ?_
          exact g_lret (pc := 55) hR dX10_lowest_55 rfl ⟨by omega, by omega⟩ (Nat.le_of_ble_eq_true rfl) ⟨ret_eqL (by unfold md_low; rw [if_pos c44, hfin]), rfl⟩
      · refine g_lload (pc := 24) hC 3 dX10_lowest_24 rfl ?_
        refine g_lload (pc := 26) hC 4 dX10_lowest_26 rfl ?_
        refine g_lrem (pc := 28) hC dX10_lowest_28 (by omega) (by omega) ?_
        refine g_lstore (pc := 29) hC [(9, _), (0, _), (2, _), (4, _), (5, _), (7, _)] dX10_lowest_29 (by decide) rfl ?_
        refine g_lload (pc := 31) hC 5 dX10_lowest_31 rfl ?_
        refine g_lstore (pc := 33) hC [(5, _), (9, _), (0, _), (2, _), (4, _), (7, _)] dX10_lowest_33 (by decide) rfl ?_
        refine g_lload (pc := 35) hC 1 dX10_lowest_35 rfl ?_
        refine g_lstore (pc := 37) hC [(7, _), (5, _), (9, _), (0, _), (2, _), (4, _)] dX10_lowest_37 (by decide) rfl ?_
        refine g_goto (pc := 39) hC 17 dX10_lowest_39 (by decide) ?_
        refine g_lv hC [3, 4, 5, 1, 0] [(0, _), (2, _), (4, _), (5, _), (7, _)] rfl ?_
        exact ih17 v (u % v) b (a % b) (by first | assumption | omega) (by have h9 := Int.emod_nonneg u (show v ≠ 0 by omega); have h8 := Int.emod_lt_of_pos u (show 0 < v by omega); omega) (by first | assumption | omega) (by rw [hu9, hv9]; rfl) ⟨ha.2, by have h9 := Nat.mod_lt a (show 0 < b by omega); omega⟩ (md_gcd_s hG (by omega)) (by have h8 := Int.emod_lt_of_pos u (show 0 < v by omega); omega)
  refine g_lv hC [2, 3, 4, 1, 0] [(0, _), (2, _), (4, _), (5, _), (7, _)] rfl ?_
  exact L17 ((low : Int).toNat + 1) up low (up.toNat) (low.toNat) (by first | assumption | omega) (by first | assumption | omega) (by first | assumption | omega) (by first | assumption | omega) (by first | assumption | omega) rfl (by omega)
