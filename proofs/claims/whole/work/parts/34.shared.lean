/-! THE CLASS: what its calls share -/
/-- what the row of remembered pulls keeps, whichever house holds -/
def md_CB (wg : Int → Int) (stp : Int) : Prop := (1 ≤ stp ∧ stp ≤ 1000000) ∧ ∀ j, 0 ≤ j → j < 36000 → 0 ≤ wg j ∧ wg j < (stp + 1) * 2048
theorem CC_CB {W : (Int → Int) → Int} {kd wg : Int → Int} {stp : Int} (h : md_CC W kd wg stp) : md_CB wg stp := ⟨h.1, h.2.1⟩
theorem CB_0 {stp : Int} (h : 1 ≤ stp ∧ stp ≤ 1000000) : md_CB (fun _ => 0) stp := ⟨h, fun j _ _ => by show 0 ≤ (0 : Int) ∧ (0 : Int) < _; omega⟩
theorem CB_s {wg : Int → Int} {stp : Int} (h : md_CB wg stp) (h2 : stp < 1000000) : md_CB wg (stp + 1) := ⟨by have := h.1; omega, fun j h1 h3 => by have := h.2 j h1 h3; omega⟩
theorem CB_CC {W : (Int → Int) → Int} {kd wg : Int → Int} {stp : Int} (h : md_CB wg stp) (h2 : stp < 1000000) : md_CC W kd wg (stp + 1) := by
  refine ⟨(CB_s h h2).1, (CB_s h h2).2, fun p q x d t a1 a2 a3 a4 a5 a6 a7 a8 a9 a10 hh => ?_⟩
  exfalso
  have h3 := h.2 ((((p * 6 + q) * 10 + x) * 10 + d) * 10 + t) (by omega) (by omega)
  omega
/-- the least bit -/
def lo (x : Int) : Nat → Int
  | 0 => -1
  | k + 1 => if lo x k = -1 then (if bAnd (bShr x (k : Int)) 1 = 0 then -1 else (k : Int)) else lo x k
theorem lo_st {x : Int} {n : Nat} (h : lo x n ≠ -1) : ∀ k : Nat, lo x (n + k) = lo x n
  | 0 => rfl
  | k + 1 => by
    have ih := lo_st h k
    show (if lo x (n + k) = -1 then (if bAnd (bShr x ((n + k : Nat) : Int)) 1 = 0 then -1 else ((n + k : Nat) : Int)) else lo x (n + k)) = _
    rw [ih, if_neg h]
theorem lo_no {x i : Int} {j : Nat} (hi : i = (j : Int)) (h : lo x j = -1) (hc : bAnd (bShr x i) 1 = 0) : lo x (j + 1) = -1 := by
  unfold lo
  rw [if_pos h, ← hi, if_pos hc]
theorem lo_hit {x i : Int} {j : Nat} (hi : i = (j : Int)) (h : lo x j = -1) (hc : ¬ bAnd (bShr x i) 1 = 0) (hj : i < 10) : i = lo x 10 := by
  have h1 : lo x (j + 1) = i := by
    unfold lo
    rw [if_pos h, ← hi, if_neg hc]
  have h2 := lo_st (x := x) (n := j + 1) (by omega) (10 - (j + 1))
  rw [show 10 = j + 1 + (10 - (j + 1)) by omega, h2, h1]
theorem lo_rng (x : Int) : ∀ n : Nat, lo x n = -1 ∨ (0 ≤ lo x n ∧ lo x n < (n : Int))
  | 0 => Or.inl rfl
  | n + 1 => by
    have ih := lo_rng x n
    unfold lo
    (repeat' split) <;> omega
def pw2 (k : Nat) : Int := ([1, 2, 4, 8, 16, 32, 64, 128, 256, 512] : List Int).getD k 1
def fitN (N : Int) : Nat → Int
  | 0 => 0
  | k + 1 => bOr (fitN N k) (if N / pw2 k % 2 = 0 then 0 else bShl 1 (k : Int))
def fmN (N : Int) : Nat → Int × Int
  | 0 => (0, -5)
  | k + 1 => if N / pw2 (9 - k) % 2 = 0 then fmN N k else ((fmN N k).1 + 1, 9 - (k : Int))
def fbq9 (N : Int) : Bool := jbc (fitN N 10) == (fmN N 10).1 && (if lo (fitN N 10) 10 < 0 then -5 else lo (fitN N 10) 10) == (fmN N 10).2
theorem fbq9_all : ∀ (i : Fin 32) (j : Fin 32), fbq9 (32 * (i.val : Int) + (j.val : Int)) = true := by decide +kernel
theorem fbq9_at {o : Int} (h : 0 ≤ o ∧ o < 1024) : jbc (fitN o 10) = (fmN o 10).1 ∧ (if lo (fitN o 10) 10 < 0 then -5 else lo (fitN o 10) 10) = (fmN o 10).2 := by
  have h1 := fbq9_all ⟨(o / 32).toNat, by omega⟩ ⟨(o % 32).toNat, by omega⟩
  have e : 32 * (((o / 32).toNat : Nat) : Int) + (((o % 32).toNat : Nat) : Int) = o := by omega
  simp only [e] at h1
  unfold fbq9 at h1
  simp only [Bool.and_eq_true, beq_iff_eq] at h1
  exact h1
theorem ten_of {k : Nat} (h : k < 10) : k = 0 ∨ k = 1 ∨ k = 2 ∨ k = 3 ∨ k = 4 ∨ k = 5 ∨ k = 6 ∨ k = 7 ∨ k = 8 ∨ k = 9 := by omega
theorem ten_bits (b : Nat → Int) (hb : ∀ k, b k = 0 ∨ b k = 1) : ∃ N : Int, (0 ≤ N ∧ N < 1024) ∧ ∀ k : Nat, k < 10 → N / pw2 k % 2 = b k := by
  have h0 : 0 ≤ b 0 ∧ b 0 ≤ 1 := by have := hb 0; omega
  have h1 : 0 ≤ b 1 ∧ b 1 ≤ 1 := by have := hb 1; omega
  have h2 : 0 ≤ b 2 ∧ b 2 ≤ 1 := by have := hb 2; omega
  have h3 : 0 ≤ b 3 ∧ b 3 ≤ 1 := by have := hb 3; omega
  have h4 : 0 ≤ b 4 ∧ b 4 ≤ 1 := by have := hb 4; omega
  have h5 : 0 ≤ b 5 ∧ b 5 ≤ 1 := by have := hb 5; omega
  have h6 : 0 ≤ b 6 ∧ b 6 ≤ 1 := by have := hb 6; omega
  have h7 : 0 ≤ b 7 ∧ b 7 ≤ 1 := by have := hb 7; omega
  have h8 : 0 ≤ b 8 ∧ b 8 ≤ 1 := by have := hb 8; omega
  have h9 : 0 ≤ b 9 ∧ b 9 ≤ 1 := by have := hb 9; omega
  clear hb
  refine ⟨b 0 + 2 * b 1 + 4 * b 2 + 8 * b 3 + 16 * b 4 + 32 * b 5 + 64 * b 6 + 128 * b 7 + 256 * b 8 + 512 * b 9, by omega, fun k hk => ?_⟩
  rcases ten_of hk with e | e | e | e | e | e | e | e | e | e <;> subst e
  · show _ / (1 : Int) % 2 = _; omega
  · show _ / (2 : Int) % 2 = _; omega
  · show _ / (4 : Int) % 2 = _; omega
  · show _ / (8 : Int) % 2 = _; omega
  · show _ / (16 : Int) % 2 = _; omega
  · show _ / (32 : Int) % 2 = _; omega
  · show _ / (64 : Int) % 2 = _; omega
  · show _ / (128 : Int) % 2 = _; omega
  · show _ / (256 : Int) % 2 = _; omega
  · show _ / (512 : Int) % 2 = _; omega
theorem fit_N {W : (Int → Int) → Int} {rch : Int} {s : Int → Int} {w N : Int} (hN : ∀ k : Nat, k < 10 → N / pw2 k % 2 = md_as W rch (upI s w (k : Int)) 21) : ∀ k : Nat, k ≤ 10 → md_fit W rch s w k = fitN N k
  | 0, _ => rfl
  | k + 1, h => by
    have ih := fit_N hN k (by omega)
    unfold md_fit fitN
    rw [ih, hN k (by omega)]
theorem fm_N {W : (Int → Int) → Int} {rch : Int} {s : Int → Int} {w N : Int} (hN : ∀ k : Nat, k < 10 → N / pw2 k % 2 = md_as W rch (upI s w (k : Int)) 21) : ∀ k : Nat, k ≤ 10 → md_fm W rch s w k = fmN N k
  | 0, _ => rfl
  | k + 1, h => by
    have ih := fm_N hN k (by omega)
    unfold md_fm fmN
    rw [ih, hN (9 - k) (by omega), show ((9 - k : Nat) : Int) = 9 - (k : Int) by omega]
theorem fm_at {W : (Int → Int) → Int} {rch : Int} {s : Int → Int} {w : Int} : jbc (md_fit W rch s w 10) = (md_fm W rch s w 10).1 ∧ (if lo (md_fit W rch s w 10) 10 < 0 then -5 else lo (md_fit W rch s w 10) 10) = (md_fm W rch s w 10).2 := by
  obtain ⟨N, hr, hN⟩ := ten_bits (fun k => md_as W rch (upI s w (k : Int)) 21) (fun k => md_as_01 W rch _ 21)
  rw [fit_N hN 10 (Nat.le_refl _), fm_N hN 10 (Nat.le_refl _)]
  exact fbq9_at hr
/-- lowest terms by trying -/
theorem gcd_of {a b d : Nat} (h1 : d ∣ a) (h2 : d ∣ b) (h : ∀ e, d < e → e ≤ b → ¬ (e ∣ a ∧ e ∣ b)) (hb : 0 < b) : d = Nat.gcd a b := by
  have g1 := Nat.gcd_dvd_left a b
  have g2 := Nat.gcd_dvd_right a b
  have g3 : d ∣ Nat.gcd a b := Nat.dvd_gcd h1 h2
  have g4 := Nat.le_of_dvd hb g2
  have g5 : 0 < Nat.gcd a b := Nat.gcd_pos_of_pos_right _ hb
  have g6 := Nat.le_of_dvd g5 g3
  by_cases hl : d < Nat.gcd a b
  · exact absurd ⟨g1, g2⟩ (h _ hl g4)
  · omega
theorem tm_dvd {a b : Int} (ha : 0 ≤ a) (hb : 0 < b) : a % b = 0 ↔ b.toNat ∣ a.toNat := by
  constructor
  · intro h
    have h2 := Int.dvd_of_emod_eq_zero h
    have h3 : ((b.toNat : Nat) : Int) ∣ ((a.toNat : Nat) : Int) := by
      rw [show ((b.toNat : Nat) : Int) = b by omega, show ((a.toNat : Nat) : Int) = a by omega]
      exact h2
    exact Int.natCast_dvd_natCast.mp h3
  · intro h
    have h3 := Int.natCast_dvd_natCast.mpr h
    rw [show ((b.toNat : Nat) : Int) = b by omega, show ((a.toNat : Nat) : Int) = a by omega] at h3
    exact Int.emod_eq_zero_of_dvd h3
theorem low_hit {up low by9 : Int} (hu : 0 ≤ up) (hl : 1 ≤ low) (hb : 1 ≤ by9 ∧ by9 ≤ low) (h1 : up % by9 = 0) (h2 : low % by9 = 0) (h : ∀ e, by9 < e → e ≤ low → ¬ (up % e = 0 ∧ low % e = 0)) : by9 = ((Nat.gcd up.toNat low.toNat : Nat) : Int) := by
  have g := gcd_of (a := up.toNat) (b := low.toNat) (d := by9.toNat) ((tm_dvd hu (by omega)).mp h1) ((tm_dvd (by omega) (by omega)).mp h2) (fun e e1 e2 e3 => by
    have k1 : up % (e : Int) = 0 := (tm_dvd hu (by omega)).mpr (by rw [show ((e : Int)).toNat = e by omega]; exact e3.1)
    have k2 : low % (e : Int) = 0 := (tm_dvd (by omega) (by omega)).mpr (by rw [show ((e : Int)).toNat = e by omega]; exact e3.2)
    exact h (e : Int) (by omega) (by omega) ⟨k1, k2⟩) (by omega)
  omega
theorem low_1 {up low part : Int} {g : Int} (hg : g = ((Nat.gcd up.toNat low.toNat : Nat) : Int)) : md_low up low part = (if part = 0 then up else low) / g := by
  unfold md_low
  rw [hg]
theorem has_iff {x m c : Int} (e : x = if 0 ≤ m ∧ m < c ∧ m < 6 then 1 else 0) (hc : c ≤ 6) : (x = 1 ∧ 0 ≤ m ∧ m < c) ∨ (x = 0 ∧ ¬ (0 ≤ m ∧ m < c)) := by
  by_cases h : 0 ≤ m ∧ m < c
  · rw [if_pos (by omega)] at e
    exact Or.inl ⟨e, h⟩
  · rw [if_neg (by omega)] at e
    exact Or.inr ⟨e, h⟩
theorem dig_iff {x n : Int} (e : x = if 0 ≤ n ∧ n ≤ 9 then 1 else 0) : (x = 1 ∧ 0 ≤ n ∧ n ≤ 9) ∨ (x = 0 ∧ ¬ (0 ≤ n ∧ n ≤ 9)) := by
  by_cases h : 0 ≤ n ∧ n ≤ 9
  · rw [if_pos h] at e
    exact Or.inl ⟨e, h⟩
  · rw [if_neg h] at e
    exact Or.inr ⟨e, h⟩
def un_d (t : Int) : Int := if t = -1 then 0 else if t = 0 then 1 else if t ≤ 3 then 2 else 3
def un_o (t k : Int) : Int := if t = -1 then 0 else if t = k then 1 else if tb_above t = -1 then 0 else if tb_above t = k then 1 else if tb_above (tb_above t) = -1 then 0 else if tb_above (tb_above t) = k then 1 else 0
theorem un_dr (t : Int) : 0 ≤ un_d t ∧ un_d t ≤ 3 := by
  unfold un_d
  (repeat' split) <;> omega
theorem un_1 {t : Int} (h : 0 ≤ t ∧ t ≤ 6) : (-1 ≤ tb_above t ∧ tb_above t ≤ 6) ∧ un_d (tb_above t) + 1 = un_d t ∧ (∀ {k : Int}, ¬ t = k → un_o (tb_above t) k = un_o t k) := by
  rcases sx7 h with e | e | e | e | e | e | e <;> subst e <;> refine ⟨by decide, by decide, fun {k} hk => ?_⟩ <;> (unfold un_o tb_above; simp only [Int.reduceEq, Int.reduceNeg, if_true, if_false, reduceIte]; (repeat' split) <;> omega)
theorem un_hit {t k : Int} (h : 0 ≤ t) (hk : t = k) : un_o t k = 1 := by
  unfold un_o
  rw [if_neg (by omega), if_pos hk]
theorem un_all {kd : Int} (h : 0 ≤ kd ∧ kd ≤ 6) (k : Int) : un_o kd k = ac_un kd k := by
  rcases sx7 h with e | e | e | e | e | e | e <;> subst e <;> (unfold un_o ac_un tb_above; simp only [Int.reduceEq, Int.reduceNeg, if_true, if_false, reduceIte]; (repeat' split) <;> omega)
theorem pl_12 {s : Int → Int} {w n cn x : Int} (hw : w = 1 ∨ w = 2) (hcn : cn = s 19 ∧ 0 ≤ s 19 ∧ s 19 ≤ 6) (e : x = if 0 ≤ n ∧ n < cn ∧ n < 6 then 1 else 0) : x = an_isPlan s w n := by
  rw [e]
  unfold an_isPlan
  by_cases h : 0 ≤ n ∧ n < s 19
  · rw [if_pos (by omega), if_pos (by omega)]
  · rw [if_neg (by omega), if_neg (by omega)]
theorem pl_3 {s : Int → Int} {w n cn x y : Int} (hw : w = 3) (hn : 0 ≤ n) (hcn : cn = s 19 ∧ 0 ≤ s 19 ∧ s 19 ≤ 6) (e : x = if 0 ≤ n / 10 ∧ n / 10 < cn ∧ n / 10 < 6 then 1 else 0) (hy : (y = 0 ∧ x = 0) ∨ (y = 1 ∧ ¬ x = 0)) : y = an_isPlan s w n := by
  unfold an_isPlan
  by_cases h : n / 10 < s 19
  · rw [if_pos (by omega)] at e
    rw [if_pos (by omega)]
    omega
  · rw [if_neg (by omega)] at e
    rw [if_neg (by omega)]
    omega
set_option maxHeartbeats 4000000 in
set_option maxRecDepth 100000 in
theorem k_X9_isDigit {K : gK} (n : Int) (r_n : rI n) : gFn K yX9_isDigit cX9_isDigit 1 (some .boolean) 0 [.int (iI n)] [] (if 0 ≤ n ∧ n ≤ 9 then 1 else 0) := by
  refine g_enter (by decide +kernel) (Nat.le_of_ble_eq_true rfl) (fun G hC hR => ?_)
  refine g_lv hC [0] [(0, _)] rfl ?_
  refine g_iload_n (pc := 0) hC 0 dX9_isDigit_0 rfl rfl ?_
  refine g_if_lt (pc := 1) hC 14 dX9_isDigit_1 (by decide) (by omega) (fun c1 => ?_) (fun c1 => ?_)
  · refine g_iconst (pc := 14) hC dX9_isDigit_14 ?_
    exact g_zret (pc := 15) hR dX9_isDigit_15 rfl (by omega) ⟨by omega, by omega⟩ (Nat.le_of_ble_eq_true rfl) ⟨ret_eq (by rw [if_neg (by omega)]), rfl⟩
  · refine g_iload_n (pc := 4) hC 0 dX9_isDigit_4 rfl rfl ?_
    refine g_bipush (pc := 5) hC (10) dX9_isDigit_5 (by decide) ?_
    refine g_icmp_ge (pc := 7) hC 14 dX9_isDigit_7 (by decide) (by omega) (by omega) (fun c7 => ?_) (fun c7 => ?_)
    · refine g_iconst (pc := 14) hC dX9_isDigit_14 ?_
      exact g_zret (pc := 15) hR dX9_isDigit_15 rfl (by omega) ⟨by omega, by omega⟩ (Nat.le_of_ble_eq_true rfl) ⟨ret_eq (by rw [if_neg (by omega)]), rfl⟩
    · refine g_iconst (pc := 10) hC dX9_isDigit_10 ?_
      refine g_goto (pc := 11) hC 15 dX9_isDigit_11 (by decide) ?_
      exact g_zret (pc := 15) hR dX9_isDigit_15 rfl (by omega) ⟨by omega, by omega⟩ (Nat.le_of_ble_eq_true rfl) ⟨ret_eq (by rw [if_pos (by omega)]), rfl⟩
set_option maxHeartbeats 4000000 in
set_option maxRecDepth 100000 in
theorem k_X9_orMissing {K : gK} (n : Int) (r_n : rI n) : gFn K yX9_orMissing cX9_orMissing 1 (some .int) 0 [.int (iI n)] [] (if n < 0 then -5 else n) := by
  refine g_enter (by decide +kernel) (Nat.le_of_ble_eq_true rfl) (fun G hC hR => ?_)
  refine g_lv hC [0] [(0, _)] rfl ?_
  refine g_iload_n (pc := 0) hC 0 dX9_orMissing_0 rfl rfl ?_
  refine g_if_ge (pc := 1) hC 9 dX9_orMissing_1 (by decide) (by omega) (fun c1 => ?_) (fun c1 => ?_)
  · refine g_iload_n (pc := 9) hC 0 dX9_orMissing_9 rfl rfl ?_
    exact g_iret (pc := 10) hR dX9_orMissing_10 rfl ⟨by omega, by omega⟩ (Nat.le_of_ble_eq_true rfl) ⟨ret_eq (by rw [if_neg (by omega)]), rfl⟩
  · refine g_bipush (pc := 4) hC (-5) dX9_orMissing_4 (by decide) ?_
    refine g_goto (pc := 6) hC 10 dX9_orMissing_6 (by decide) ?_
    exact g_iret (pc := 10) hR dX9_orMissing_10 rfl ⟨by omega, by omega⟩ (Nat.le_of_ble_eq_true rfl) ⟨ret_eq (by rw [if_pos (by omega)]), rfl⟩
set_option maxHeartbeats 4000000 in
set_option maxRecDepth 100000 in
theorem k_X9_leastOf {K : gK} (x : Int) (r_x : rI x) : gFn K yX9_leastOf cX9_leastOf 2 (some .int) 0 [.int (iI x)] [] (lo x 10) := by
  refine g_enter (by decide +kernel) (Nat.le_of_ble_eq_true rfl) (fun G hC hR => ?_)
  refine g_lv hC [0] [(0, _)] rfl ?_
  refine g_iconst (pc := 0) hC dX9_leastOf_0 ?_
  refine g_istore_n (pc := 1) hC [(1, _), (0, _)] dX9_leastOf_1 rfl (by decide) rfl ?_
  have L2 : ∀ (n1 : Nat) (i : Int) (j : Nat), (rI i) → (i = (j : Int)) → (i ≤ 10) → (lo x j = -1) → 10 - i < (n1 : Int) → G 0 0 2 [(0, .int (iI x)), (1, .int (iI i))] [] [] := by
    intro n1
    induction n1 with
    | zero => intro i j r_i hi hj hl hm2; exfalso; omega
    | succ n1 ih2 =>
      intro i j r_i hi hj hl hm2
      refine g_iload_n (pc := 2) hC 1 dX9_leastOf_2 rfl rfl ?_
      refine g_bipush (pc := 3) hC (10) dX9_leastOf_3 (by decide) ?_
      refine g_icmp_ge (pc := 5) hC 24 dX9_leastOf_5 (by decide) (by omega) (by omega) (fun c5 => ?_) (fun c5 => ?_)
      · refine g_iconst (pc := 24) hC dX9_leastOf_24 ?_
        exact g_iret (pc := 25) hR dX9_leastOf_25 rfl ⟨by omega, by omega⟩ (Nat.le_of_ble_eq_true rfl) ⟨ret_eq (by rw [← hl, show j = 10 by omega]), rfl⟩
      · refine g_iload_n (pc := 8) hC 0 dX9_leastOf_8 rfl rfl ?_
        refine g_iload_n (pc := 9) hC 1 dX9_leastOf_9 rfl rfl ?_
        refine g_ishr (pc := 10) hC dX9_leastOf_10 ?_
        refine g_iconst (pc := 11) hC dX9_leastOf_11 ?_
        refine g_iand (pc := 12) hC dX9_leastOf_12 ?_
        have hb1 := bAnd_1 (bShr x i)
        refine g_if_eq (pc := 13) hC 18 dX9_leastOf_13 (by decide) (by omega) (fun c13 => ?_) (fun c13 => ?_)
        · refine g_iinc (pc := 18) hC 1 [(1, _), (0, _)] dX9_leastOf_18 rfl (by decide) rfl ?_
          refine g_goto (pc := 21) hC 2 dX9_leastOf_21 (by decide) ?_
          refine g_lv hC [1, 0] [(0, _), (1, _)] rfl ?_
          exact ih2 (i + 1) (j + 1) (by first | assumption | omega) (by first | assumption | omega) (by first | assumption | omega) (lo_no hi hl (by omega)) (by omega)
        · refine g_iload_n (pc := 16) hC 1 dX9_leastOf_16 rfl rfl ?_
          exact g_iret (pc := 17) hR dX9_leastOf_17 rfl ⟨by omega, by omega⟩ (Nat.le_of_ble_eq_true rfl) ⟨ret_eq (lo_hit hi hl (by omega) (by omega)), rfl⟩
  refine g_lv hC [1, 0] [(0, _), (1, _)] rfl ?_
  exact L2 ((10 - 0 : Int).toNat + 1) 0 0 (by first | assumption | omega) (by first | assumption | omega) (by first | assumption | omega) rfl (by omega)
set_option maxHeartbeats 4000000 in
set_option maxRecDepth 100000 in
theorem k_X9_partOf {K : gK} (up : Int) (low : Int) (part : Int) (r_up : rI up) (r_low : rI low) (r_part : rI part) (hu : 0 ≤ up ∧ up ≤ 1000) (hl : 1 ≤ low ∧ low ≤ 1000) : gMet K yX9_partOf cX9_partOf 4 (some .long) 0 0 0 [.int (iI up), .int (iI low), .int (iI part)] [] (fun v9 w9 => v9 = some (.long (iL (md_low up low part))) ∧ w9 = []) := by
  refine g_enter (by decide +kernel) (Nat.le_of_ble_eq_true rfl) (fun G hC hR => ?_)
  refine g_lv hC [0, 1, 2] [(0, _), (1, _), (2, _)] rfl ?_
  refine g_iload_n (pc := 0) hC 1 dX9_partOf_0 rfl rfl ?_
  refine g_istore_n (pc := 1) hC [(3, _), (0, _), (1, _), (2, _)] dX9_partOf_1 rfl (by decide) rfl ?_
  have L2 : ∀ (n1 : Nat) (d : Int), (rI d) → (1 ≤ d ∧ d ≤ low) → (∀ e, d < e → e ≤ low → ¬ (up % e = 0 ∧ low % e = 0)) → d < (n1 : Int) → G 0 0 2 [(0, .int (iI up)), (1, .int (iI low)), (2, .int (iI part)), (3, .int (iI d))] [] [] := by
    intro n1
    induction n1 with
    | zero => intro d r_d hd hn hm2; exfalso; omega
    | succ n1 ih2 =>
      intro d r_d hd hn hm2
      refine g_iload_n (pc := 2) hC 3 dX9_partOf_2 rfl rfl ?_
      refine g_iconst (pc := 3) hC dX9_partOf_3 ?_
      refine g_icmp_le (pc := 4) hC 41 dX9_partOf_4 (by decide) (by omega) (by omega) (fun c4 => ?_) (fun c4 => ?_)
      · have hg1 := low_hit (up := up) (low := low) (by9 := 1) hu.1 hl.1 (by omega) (by omega) (by omega) (fun e e1 e2 => hn e (by omega) e2)
        refine g_iload_n (pc := 41) hC 2 dX9_partOf_41 rfl rfl ?_
        refine g_if_ne (pc := 42) hC 50 dX9_partOf_42 (by decide) (by omega) (fun c42 => ?_) (fun c42 => ?_)
        · refine g_iload_n (pc := 50) hC 1 dX9_partOf_50 rfl rfl ?_
          refine g_i2l (pc := 51) hC dX9_partOf_51 (by omega) ?_
          exact g_lret (pc := 52) hR dX9_partOf_52 rfl ⟨by omega, by omega⟩ (Nat.le_of_ble_eq_true rfl) ⟨ret_eqL (by rw [low_1 hg1, if_neg (by omega)]; omega), rfl⟩
        · refine g_iload_n (pc := 45) hC 0 dX9_partOf_45 rfl rfl ?_
          refine g_i2l (pc := 46) hC dX9_partOf_46 (by omega) ?_
          refine g_goto (pc := 47) hC 52 dX9_partOf_47 (by decide) ?_
          exact g_lret (pc := 52) hR dX9_partOf_52 rfl ⟨by omega, by omega⟩ (Nat.le_of_ble_eq_true rfl) ⟨ret_eqL (by rw [low_1 hg1, if_pos (by omega)]; omega), rfl⟩
      · have hem : 0 ≤ up % d ∧ up % d < d := ⟨Int.emod_nonneg _ (by omega), Int.emod_lt_of_pos _ (by omega)⟩
        have hem2 : 0 ≤ low % d ∧ low % d < d := ⟨Int.emod_nonneg _ (by omega), Int.emod_lt_of_pos _ (by omega)⟩
        refine g_iload_n (pc := 7) hC 0 dX9_partOf_7 rfl rfl ?_
        refine g_iload_n (pc := 8) hC 3 dX9_partOf_8 rfl rfl ?_
        refine g_irem (pc := 9) hC dX9_partOf_9 (by omega) (by omega) ?_
        refine g_if_ne (pc := 10) hC 35 dX9_partOf_10 (by decide) (by omega) (fun c10 => ?_) (fun c10 => ?_)
        · refine g_iinc (pc := 35) hC 3 [(3, _), (0, _), (1, _), (2, _)] dX9_partOf_35 rfl (by decide) rfl ?_
          refine g_goto (pc := 38) hC 2 dX9_partOf_38 (by decide) ?_
          refine g_lv hC [1, 2, 3, 0] [(0, _), (1, _), (2, _), (3, _)] rfl ?_
          exact ih2 (d + (-1)) (by first | assumption | omega) (by first | assumption | omega) (fun e e1 e2 e3 => if he : e = d then (by rw [he] at e3; omega) else hn e (by omega) e2 e3) (by omega)
        · refine g_iload_n (pc := 13) hC 1 dX9_partOf_13 rfl rfl ?_
          refine g_iload_n (pc := 14) hC 3 dX9_partOf_14 rfl rfl ?_
          refine g_irem (pc := 15) hC dX9_partOf_15 (by omega) (by omega) ?_
          refine g_if_ne (pc := 16) hC 35 dX9_partOf_16 (by decide) (by omega) (fun c16 => ?_) (fun c16 => ?_)
          · refine g_iinc (pc := 35) hC 3 [(3, _), (0, _), (1, _), (2, _)] dX9_partOf_35 rfl (by decide) rfl ?_
            refine g_goto (pc := 38) hC 2 dX9_partOf_38 (by decide) ?_
            refine g_lv hC [1, 2, 3, 0] [(0, _), (1, _), (2, _), (3, _)] rfl ?_
            exact ih2 (d + (-1)) (by first | assumption | omega) (by first | assumption | omega) (fun e e1 e2 e3 => if he : e = d then (by rw [he] at e3; omega) else hn e (by omega) e2 e3) (by omega)
          · refine g_iload_n (pc := 19) hC 2 dX9_partOf_19 rfl rfl ?_
            refine g_if_ne (pc := 20) hC 30 dX9_partOf_20 (by decide) (by omega) (fun c20 => ?_) (fun c20 => ?_)
            · have hg1 := low_hit (up := up) (low := low) (by9 := d) hu.1 hl.1 hd (by omega) (by omega) hn
              have hdv : 0 ≤ low / d ∧ low / d ≤ low := ⟨Int.ediv_nonneg (by omega) (by omega), Int.ediv_le_self _ (by omega)⟩
              refine g_iload_n (pc := 30) hC 1 dX9_partOf_30 rfl rfl ?_
              refine g_iload_n (pc := 31) hC 3 dX9_partOf_31 rfl rfl ?_
              refine g_idiv (pc := 32) hC dX9_partOf_32 (by omega) (by omega) ?_
              refine g_i2l (pc := 33) hC dX9_partOf_33 (by omega) ?_
              exact g_lret (pc := 34) hR dX9_partOf_34 rfl ⟨by omega, by omega⟩ (Nat.le_of_ble_eq_true rfl) ⟨ret_eqL (by rw [low_1 hg1, if_neg (by omega)]), rfl⟩
            · have hg1 := low_hit (up := up) (low := low) (by9 := d) hu.1 hl.1 hd (by omega) (by omega) hn
              have hdv : 0 ≤ up / d ∧ up / d ≤ up := ⟨Int.ediv_nonneg (by omega) (by omega), Int.ediv_le_self _ (by omega)⟩
              refine g_iload_n (pc := 23) hC 0 dX9_partOf_23 rfl rfl ?_
              refine g_iload_n (pc := 24) hC 3 dX9_partOf_24 rfl rfl ?_
              refine g_idiv (pc := 25) hC dX9_partOf_25 (by omega) (by omega) ?_
              refine g_i2l (pc := 26) hC dX9_partOf_26 (by omega) ?_
              refine g_goto (pc := 27) hC 34 dX9_partOf_27 (by decide) ?_
              exact g_lret (pc := 34) hR dX9_partOf_34 rfl ⟨by omega, by omega⟩ (Nat.le_of_ble_eq_true rfl) ⟨ret_eqL (by rw [low_1 hg1, if_pos (by omega)]), rfl⟩
  refine g_lv hC [1, 2, 3, 0] [(0, _), (1, _), (2, _), (3, _)] rfl ?_
  exact L2 ((low : Int).toNat + 1) low (by first | assumption | omega) (by first | assumption | omega) (fun e e1 e2 => by omega) (by omega)
set_option maxHeartbeats 4000000 in
set_option maxRecDepth 100000 in
theorem k_X9_isUnder {K : gK} (kd : Int) (k : Int) (r_kd : rI kd) (r_k : rI k) (hkd : 0 ≤ kd ∧ kd ≤ 6) : gFn K yX9_isUnder cX9_isUnder 4 (some .boolean) 1 [.int (iI kd), .int (iI k)] [] (ac_un kd k) := by
  refine g_enter (by decide +kernel) (Nat.le_of_ble_eq_true rfl) (fun G hC hR => ?_)
  refine g_lv hC [0, 1] [(0, _), (1, _)] rfl ?_
  refine g_iload_n (pc := 0) hC 0 dX9_isUnder_0 rfl rfl ?_
  refine g_istore_n (pc := 1) hC [(2, _), (0, _), (1, _)] dX9_isUnder_1 rfl (by decide) rfl ?_
  refine g_iconst (pc := 2) hC dX9_isUnder_2 ?_
  refine g_istore_n (pc := 3) hC [(3, _), (2, _), (0, _), (1, _)] dX9_isUnder_3 rfl (by decide) rfl ?_
  have L4 : ∀ (n1 : Nat) (t : Int) (u : Int), (rI t) → (rI u) → (-1 ≤ t ∧ t ≤ 6) → (0 ≤ u ∧ u + un_d t ≤ 3) → (un_o t k = ac_un kd k) → 7 - u < (n1 : Int) → G 0 0 4 [(0, .int (iI kd)), (1, .int (iI k)), (2, .int (iI t)), (3, .int (iI u))] [] [] := by
    intro n1
    induction n1 with
    | zero => intro t u r_t r_u ht hu ho hm4; exfalso; have := un_dr t; omega
    | succ n1 ih4 =>
      intro t u r_t r_u ht hu ho hm4
      have hdr := un_dr t
      refine g_iload_n (pc := 4) hC 3 dX9_isUnder_4 rfl rfl ?_
      refine g_bipush (pc := 5) hC (7) dX9_isUnder_5 (by decide) ?_
      refine g_icmp_ge (pc := 7) hC 32 dX9_isUnder_7 (by decide) (by omega) (by omega) (fun c7 => by exfalso; omega) (fun c7 => ?_)
      refine g_iload_n (pc := 10) hC 2 dX9_isUnder_10 rfl rfl ?_
      refine g_if_lt (pc := 11) hC 32 dX9_isUnder_11 (by decide) (by omega) (fun c11 => ?_) (fun c11 => ?_)
      · refine g_iconst (pc := 32) hC dX9_isUnder_32 ?_
        exact g_zret (pc := 33) hR dX9_isUnder_33 rfl (by omega) ⟨by omega, by omega⟩ (Nat.le_of_ble_eq_true rfl) ⟨ret_eq (by rw [← ho, show t = -1 by omega]; rfl), rfl⟩
      · have hw8 := un_1 (t := t) (by omega)
        refine g_iload_n (pc := 14) hC 2 dX9_isUnder_14 rfl rfl ?_
        refine g_iload_n (pc := 15) hC 1 dX9_isUnder_15 rfl rfl ?_
        refine g_icmp_ne (pc := 16) hC 21 dX9_isUnder_16 (by decide) (by omega) (by omega) (fun c16 => ?_) (fun c16 => ?_)
        · refine g_iload_n (pc := 21) hC 2 dX9_isUnder_21 rfl rfl ?_
          refine g_fnS (pc := 22) hC [] (k_X9_kindAbove _ (by omega)) cl_X9_kindAbove wm_X9_280 dX9_isUnder_22 rfl rfl (by decide) (by decide) ⟨by omega, by omega⟩ (Nat.le_of_ble_eq_true rfl) rfl rfl ?_
          refine g_name hC (fun t2 e_t2 => ?_)
          refine g_istore_n (pc := 25) hC [(2, _), (0, _), (1, _), (3, _)] dX9_isUnder_25 rfl (by decide) rfl ?_
          refine g_iinc (pc := 26) hC 3 [(3, _), (2, _), (0, _), (1, _)] dX9_isUnder_26 rfl (by decide) rfl ?_
          refine g_goto (pc := 29) hC 4 dX9_isUnder_29 (by decide) ?_
          refine g_lv hC [2, 3, 1, 0] [(0, _), (1, _), (2, _), (3, _)] rfl ?_
          exact ih4 t2 (u + 1) (by first | assumption | omega) (by first | assumption | omega) (by rw [e_t2]; exact hw8.1) (by rw [e_t2]; omega) (by rw [e_t2, hw8.2.2 (by omega)]; exact ho) (by omega)
        · refine g_iconst (pc := 19) hC dX9_isUnder_19 ?_
          exact g_zret (pc := 20) hR dX9_isUnder_20 rfl (by omega) ⟨by omega, by omega⟩ (Nat.le_of_ble_eq_true rfl) ⟨ret_eq (by rw [← ho]; exact (un_hit (t := t) (k := k) (by omega) (by omega)).symm), rfl⟩
  refine g_lv hC [2, 3, 1, 0] [(0, _), (1, _), (2, _), (3, _)] rfl ?_
  exact L4 ((7 - 0 : Int).toNat + 1) kd 0 (by first | assumption | omega) (by first | assumption | omega) (by first | assumption | omega) (by have := un_dr kd; omega) (un_all hkd k) (by omega)
set_option maxHeartbeats 4000000 in
set_option maxRecDepth 100000 in
theorem k_X2_hold_n {K : gK} (q0 : Nat) (wq_house : Value) (wq_facts : Value) (wq_weighed : Value) (stp : Int) (r_stp : rI stp) : gMet K yX2_hold cX2_hold 2 none 0 0 0 [.ref q0, .null] [cO q0 2 [wq_house, wq_facts, wq_weighed, .int (iI stp)]] (fun v9 w9 => v9 = none ∧ w9 = [cO q0 2 [.null, wq_facts, wq_weighed, .int (iI (stp + 1))]]) := by
  refine g_enter (by decide +kernel) (Nat.le_of_ble_eq_true rfl) (fun G hC hR => ?_)
  refine g_lv hC [0, 1] [(0, _), (1, _)] rfl ?_
  refine g_aload_n (pc := 0) hC 0 dX2_hold_0 rfl rfl ?_
  refine g_aload_nN (pc := 1) hC 1 dX2_hold_1 rfl rfl ?_
  refine g_putN (pc := 2) hC 0 [cO _ _ [_, _, _, _]] fl_X2_22 dX2_hold_2 rfl (Nat.le_of_ble_eq_true rfl) rfl ?_
  refine g_aload_n (pc := 5) hC 0 dX2_hold_5 rfl rfl ?_
  refine g_dup (pc := 6) hC dX2_hold_6 rfl ?_
  refine g_get (pc := 7) hC 0 fl_X2_18 dX2_hold_7 rfl rfl ?_
  refine g_iconst (pc := 10) hC dX2_hold_10 ?_
  refine g_iadd (pc := 11) hC dX2_hold_11 ?_
  refine g_putI (pc := 12) hC 0 [cO _ _ [_, _, _, _]] fl_X2_18 dX2_hold_12 rfl (Nat.le_of_ble_eq_true rfl) rfl ?_
  refine g_aload_nN (pc := 15) hC 1 dX2_hold_15 rfl rfl ?_
  refine g_ifnullN (pc := 16) hC 35 dX2_hold_16 (by decide) ?_
  exact g_vret (pc := 35) hR dX2_hold_35 rfl ⟨by omega, by omega⟩ (Nat.le_of_ble_eq_true rfl) ⟨rfl, rfl⟩
set_option maxHeartbeats 4000000 in
set_option maxRecDepth 100000 in
theorem k_X2_hold_r {K : gK} (q0 : Nat) (o9 : Nat) (q2 : Nat) (wq_house : Value) (wq_facts : Value) (stp : Int) (wg : Int → Int) (r_stp : rI stp) (r_wg : ∀ j, rI (wg j)) : gMet K yX2_hold cX2_hold 2 none 0 0 0 [.ref q0, .ref o9] [cO q0 2 [wq_house, wq_facts, .ref q2, .int (iI stp)], cA K q2 36000 wg] (fun v9 w9 => v9 = none ∧ w9 = [cO q0 2 [.ref o9, wq_facts, .ref q2, .int (iI (stp + 1))], cA K q2 36000 wg]) := by
  refine g_enter (by decide +kernel) (Nat.le_of_ble_eq_true rfl) (fun G hC hR => ?_)
  refine g_lv hC [0, 1] [(0, _), (1, _)] rfl ?_
  refine g_aload_n (pc := 0) hC 0 dX2_hold_0 rfl rfl ?_
  refine g_aload_n (pc := 1) hC 1 dX2_hold_1 rfl rfl ?_
  refine g_putR (pc := 2) hC 0 [cO _ _ [_, _, _, _], _] fl_X2_22 dX2_hold_2 rfl (Nat.le_of_ble_eq_true rfl) rfl ?_
  refine g_aload_n (pc := 5) hC 0 dX2_hold_5 rfl rfl ?_
  refine g_dup (pc := 6) hC dX2_hold_6 rfl ?_
  refine g_get (pc := 7) hC 0 fl_X2_18 dX2_hold_7 rfl rfl ?_
  refine g_iconst (pc := 10) hC dX2_hold_10 ?_
  refine g_iadd (pc := 11) hC dX2_hold_11 ?_
  refine g_putI (pc := 12) hC 0 [cO _ _ [_, _, _, _], _] fl_X2_18 dX2_hold_12 rfl (Nat.le_of_ble_eq_true rfl) rfl ?_
  refine g_aload_n (pc := 15) hC 1 dX2_hold_15 rfl rfl ?_
  refine g_ifnullR (pc := 16) hC dX2_hold_16 ?_
  refine g_aload_n (pc := 19) hC 0 dX2_hold_19 rfl rfl ?_
  refine g_get (pc := 20) hC 0 fl_X2_15 dX2_hold_20 rfl rfl ?_
  refine g_alen (pc := 23) hC 1 dX2_hold_23 rfl ?_
  refine g_st hC [.int (iI 36000)] rfl ?_
  refine g_if_ne (pc := 24) hC 35 dX2_hold_24 (by decide) (by omega) (fun c24 => ?_) (fun c24 => by exfalso; omega)
  exact g_vret (pc := 35) hR dX2_hold_35 rfl ⟨by omega, by omega⟩ (Nat.le_of_ble_eq_true rfl) ⟨rfl, rfl⟩
set_option maxHeartbeats 4000000 in
set_option maxRecDepth 100000 in
theorem k_X2_hold_a {K : gK} (q0 : Nat) (o9 : Nat) (q2 : Nat) (wq_house : Value) (wq_facts : Value) (stp : Int) (wg : Int → Int) (r_stp : rI stp) (r_wg : ∀ j, rI (wg j)) : gMet K yX2_hold cX2_hold 2 none 0 1 36000 [.ref q0, .ref o9] [cO q0 2 [wq_house, wq_facts, .ref q2, .int (iI stp)], cA K q2 0 wg] (fun v9 w9 => ∃ (q3 : Nat), v9 = none ∧ w9 = [cO q0 2 [.ref o9, wq_facts, .ref q3, .int (iI (stp + 1))], cA K q2 0 wg, cA K q3 36000 (fun _ => 0)]) := by
  refine g_enter (by decide +kernel) (Nat.le_of_ble_eq_true rfl) (fun G hC hR => ?_)
  refine g_lv hC [0, 1] [(0, _), (1, _)] rfl ?_
  refine g_aload_n (pc := 0) hC 0 dX2_hold_0 rfl rfl ?_
  refine g_aload_n (pc := 1) hC 1 dX2_hold_1 rfl rfl ?_
  refine g_putR (pc := 2) hC 0 [cO _ _ [_, _, _, _], _] fl_X2_22 dX2_hold_2 rfl (Nat.le_of_ble_eq_true rfl) rfl ?_
  refine g_aload_n (pc := 5) hC 0 dX2_hold_5 rfl rfl ?_
  refine g_dup (pc := 6) hC dX2_hold_6 rfl ?_
  refine g_get (pc := 7) hC 0 fl_X2_18 dX2_hold_7 rfl rfl ?_
  refine g_iconst (pc := 10) hC dX2_hold_10 ?_
  refine g_iadd (pc := 11) hC dX2_hold_11 ?_
  refine g_putI (pc := 12) hC 0 [cO _ _ [_, _, _, _], _] fl_X2_18 dX2_hold_12 rfl (Nat.le_of_ble_eq_true rfl) rfl ?_
  refine g_aload_n (pc := 15) hC 1 dX2_hold_15 rfl rfl ?_
  refine g_ifnullR (pc := 16) hC dX2_hold_16 ?_
  refine g_aload_n (pc := 19) hC 0 dX2_hold_19 rfl rfl ?_
  refine g_get (pc := 20) hC 0 fl_X2_15 dX2_hold_20 rfl rfl ?_
  refine g_alen (pc := 23) hC 1 dX2_hold_23 rfl ?_
  refine g_st hC [.int (iI 0)] rfl ?_
  refine g_if_ne (pc := 24) hC 35 dX2_hold_24 (by decide) (by omega) (fun c24 => by exfalso; omega) (fun c24 => ?_)
  refine g_aload_n (pc := 27) hC 0 dX2_hold_27 rfl rfl ?_
  refine g_ldc (pc := 28) hC (36000) wo_X2_26 (by decide) dX2_hold_28 ?_
  refine g_newI (pc := 30) hC 36000 (fun a9 => [_, _, cA K a9 36000 (fun _ => 0)]) dX2_hold_30 (by omega) (by omega) (fun _ => rfl) (fun a1 => ?_)
  refine g_putA (pc := 32) hC 0 [cO _ _ [_, _, _, _], _, _] fl_X2_15 dX2_hold_32 rfl (Nat.le_of_ble_eq_true rfl) rfl ?_
  exact g_vret (pc := 35) hR dX2_hold_35 rfl ⟨by omega, by omega⟩ (Nat.le_of_ble_eq_true rfl) ⟨a1, rfl, rfl⟩
set_option maxHeartbeats 4000000 in
set_option maxRecDepth 100000 in
theorem k_X9_forget_n {K : gK} (xx : Nat) (nA : Nat) (hh : Nat) (q0 : Nat) (t0 : Nat) (wx_kept : Value) (wx_taken : Value) (wx_body : Value) (wn_scene : Value) (wn_tape : Value) (wn_seen : Value) (wn_plan : Value) (wn_book : Value) (wq_house : Value) (wq_facts : Value) (wq_weighed : Value) (wt_trial : Value) (wt_pulls : Value) (wt_fewest : Value) (wt_whose : Value) (wt_roomsFound : Value) (wt_way : Value) (ho : Int) (stp : Int) (r_ho : rI ho) (r_stp : rI stp) (hho0 : ho = 0) : gMet K yX9_forgetWorked cX9_forgetWorked 2 none 1 0 0 [.ref xx] [cO xx 9 [.ref nA, wx_kept, wx_taken, .ref hh, .ref q0, .ref t0, wx_body], cO nA 8 [wn_scene, wn_tape, wn_seen, wn_plan, wn_book, .int (iI ho)], cO q0 2 [wq_house, wq_facts, wq_weighed, .int (iI stp)], cO t0 7 [wt_trial, wt_pulls, wt_fewest, wt_whose, wt_roomsFound, wt_way]] (fun v9 w9 => v9 = none ∧ w9 = [cO xx 9 [.ref nA, wx_kept, wx_taken, .ref hh, .ref q0, .ref t0, wx_body], cO nA 8 [wn_scene, wn_tape, wn_seen, wn_plan, wn_book, .int (iI ho)], cO q0 2 [.null, wq_facts, wq_weighed, .int (iI (stp + 1))], cO t0 7 [wt_trial, wt_pulls, wt_fewest, wt_whose, .int (iI 0), wt_way]]) := by
  refine g_enter (by decide +kernel) (Nat.le_of_ble_eq_true rfl) (fun G hC hR => ?_)
  refine g_lv hC [0] [(0, _)] rfl ?_
  refine g_aload_n (pc := 0) hC 0 dX9_forgetWorked_0 rfl rfl ?_
  refine g_get (pc := 1) hC 0 fl_X9_12 dX9_forgetWorked_1 rfl rfl ?_
  refine g_get (pc := 4) hC 1 fl_X9_65 dX9_forgetWorked_4 rfl rfl ?_
  refine g_iconst (pc := 7) hC dX9_forgetWorked_7 ?_
  refine g_isub (pc := 8) hC dX9_forgetWorked_8 ?_
  refine g_istore_n (pc := 9) hC [(1, _), (0, _)] dX9_forgetWorked_9 rfl (by decide) rfl ?_
  refine g_aload_n (pc := 10) hC 1 dX9_forgetWorked_10 rfl rfl ?_
  refine g_get (pc := 11) hC 0 fl_X9_30 dX9_forgetWorked_11 rfl rfl ?_
  refine g_iload_n (pc := 14) hC 0 dX9_forgetWorked_14 rfl rfl ?_
  refine g_if_lt (pc := 15) hC 36 dX9_forgetWorked_15 (by decide) (by omega) (fun c15 => ?_) (fun c15 => by exfalso; omega)
  refine g_null (pc := 36) hC dX9_forgetWorked_36 ?_
  refine g_callV (pc := 37) (qr := 2) hC [2] (k_X2_hold_n _ _ _ _ _ (by first | assumption | omega)) cl_X2_hold wm_X9_270 dX9_forgetWorked_37 rfl rfl rfl rfl rfl (by decide) (by decide) (by omega) (Nat.le_of_ble_eq_true rfl) rfl (fun v9 w9 hq9 => ?_)
  obtain ⟨rfl, rfl⟩ := hq9
  refine g_ws hC [cO xx 9 [.ref nA, wx_kept, wx_taken, .ref hh, .ref q0, .ref t0, wx_body], cO nA 8 [wn_scene, wn_tape, wn_seen, wn_plan, wn_book, .int (iI ho)], cO q0 2 [.null, wq_facts, wq_weighed, .int (iI (stp + 1))], cO t0 7 [wt_trial, wt_pulls, wt_fewest, wt_whose, wt_roomsFound, wt_way]] rfl ?_
  refine g_st hC [] rfl ?_
  refine g_aload_n (pc := 40) hC 1 dX9_forgetWorked_40 rfl rfl ?_
  refine g_get (pc := 41) hC 0 fl_X9_39 dX9_forgetWorked_41 rfl rfl ?_
  refine g_iconst (pc := 44) hC dX9_forgetWorked_44 ?_
  refine g_putZ (pc := 45) hC 3 [_, _, _, cO _ _ [_, _, _, _, _, _]] fl_X9_274 dX9_forgetWorked_45 rfl (Nat.le_of_ble_eq_true rfl) (by omega) rfl ?_
  exact g_vret (pc := 48) hR dX9_forgetWorked_48 rfl ⟨by omega, by omega⟩ (Nat.le_of_ble_eq_true rfl) ⟨rfl, rfl⟩
set_option maxHeartbeats 4000000 in
set_option maxRecDepth 100000 in
theorem k_X9_forget_r {K : gK} (xx : Nat) (nA : Nat) (hh : Nat) (q0 : Nat) (t0 : Nat) (q2 : Nat) (wx_kept : Value) (wx_taken : Value) (wx_body : Value) (wn_scene : Value) (wn_tape : Value) (wn_seen : Value) (wn_plan : Value) (wn_book : Value) (wq_house : Value) (wq_facts : Value) (wt_trial : Value) (wt_pulls : Value) (wt_fewest : Value) (wt_whose : Value) (wt_roomsFound : Value) (wt_way : Value) (hm : Nat → Option Nat) (ho : Int) (stp : Int) (wg : Int → Int) (o9 : Nat) (r_ho : rI ho) (r_stp : rI stp) (r_wg : ∀ j, rI (wg j)) (hho1 : 1 ≤ ho ∧ ho ≤ 5) (hhm : hm (ho - 1).toNat = some o9) : gMet K yX9_forgetWorked cX9_forgetWorked 2 none 1 0 0 [.ref xx] [cO xx 9 [.ref nA, wx_kept, wx_taken, .ref hh, .ref q0, .ref t0, wx_body], cO nA 8 [wn_scene, wn_tape, wn_seen, wn_plan, wn_book, .int (iI ho)], cO q0 2 [wq_house, wq_facts, .ref q2, .int (iI stp)], cA K q2 36000 wg, cO t0 7 [wt_trial, wt_pulls, wt_fewest, wt_whose, wt_roomsFound, wt_way], cH K hh 5 hm] (fun v9 w9 => v9 = none ∧ w9 = [cO xx 9 [.ref nA, wx_kept, wx_taken, .ref hh, .ref q0, .ref t0, wx_body], cO nA 8 [wn_scene, wn_tape, wn_seen, wn_plan, wn_book, .int (iI ho)], cO q0 2 [.ref o9, wq_facts, .ref q2, .int (iI (stp + 1))], cA K q2 36000 wg, cO t0 7 [wt_trial, wt_pulls, wt_fewest, wt_whose, .int (iI 0), wt_way], cH K hh 5 hm]) := by
  refine g_enter (by decide +kernel) (Nat.le_of_ble_eq_true rfl) (fun G hC hR => ?_)
  refine g_lv hC [0] [(0, _)] rfl ?_
  refine g_aload_n (pc := 0) hC 0 dX9_forgetWorked_0 rfl rfl ?_
  refine g_get (pc := 1) hC 0 fl_X9_12 dX9_forgetWorked_1 rfl rfl ?_
  refine g_get (pc := 4) hC 1 fl_X9_65 dX9_forgetWorked_4 rfl rfl ?_
  refine g_iconst (pc := 7) hC dX9_forgetWorked_7 ?_
  refine g_isub (pc := 8) hC dX9_forgetWorked_8 ?_
  refine g_istore_n (pc := 9) hC [(1, _), (0, _)] dX9_forgetWorked_9 rfl (by decide) rfl ?_
  refine g_aload_n (pc := 10) hC 1 dX9_forgetWorked_10 rfl rfl ?_
  refine g_get (pc := 11) hC 0 fl_X9_30 dX9_forgetWorked_11 rfl rfl ?_
  refine g_iload_n (pc := 14) hC 0 dX9_forgetWorked_14 rfl rfl ?_
  refine g_if_lt (pc := 15) hC 36 dX9_forgetWorked_15 (by decide) (by omega) (fun c15 => by exfalso; omega) (fun c15 => ?_)
  refine g_iload_n (pc := 18) hC 0 dX9_forgetWorked_18 rfl rfl ?_
  refine g_aload_n (pc := 19) hC 1 dX9_forgetWorked_19 rfl rfl ?_
  refine g_get (pc := 20) hC 0 fl_X9_23 dX9_forgetWorked_20 rfl rfl ?_
  refine g_alenH (pc := 23) hC 5 dX9_forgetWorked_23 rfl ?_
  refine g_st hC [.int (iI 5), _, _] rfl ?_
  refine g_icmp_ge (pc := 24) hC 36 dX9_forgetWorked_24 (by decide) (by omega) (by omega) (fun c24 => by exfalso; omega) (fun c24 => ?_)
  refine g_aload_n (pc := 27) hC 1 dX9_forgetWorked_27 rfl rfl ?_
  refine g_get (pc := 28) hC 0 fl_X9_23 dX9_forgetWorked_28 rfl rfl ?_
  refine g_iload_n (pc := 31) hC 0 dX9_forgetWorked_31 rfl rfl ?_
  refine g_aldH (pc := 32) hC (j := (ho - 1).toNat) 5 dX9_forgetWorked_32 rfl (by omega) (by omega) hhm ?_
  refine g_goto (pc := 33) hC 37 dX9_forgetWorked_33 (by decide) ?_
  refine g_callV (pc := 37) (qr := 2) hC [2, 3] (k_X2_hold_r _ _ _ _ _ _ _ (by first | assumption | omega) (by first | assumption | omega)) cl_X2_hold wm_X9_270 dX9_forgetWorked_37 rfl rfl rfl rfl rfl (by decide) (by decide) (by omega) (Nat.le_of_ble_eq_true rfl) rfl (fun v9 w9 hq9 => ?_)
  obtain ⟨rfl, rfl⟩ := hq9
  refine g_ws hC [cO xx 9 [.ref nA, wx_kept, wx_taken, .ref hh, .ref q0, .ref t0, wx_body], cO nA 8 [wn_scene, wn_tape, wn_seen, wn_plan, wn_book, .int (iI ho)], cO q0 2 [.ref o9, wq_facts, .ref q2, .int (iI (stp + 1))], cA K q2 36000 wg, cO t0 7 [wt_trial, wt_pulls, wt_fewest, wt_whose, wt_roomsFound, wt_way], cH K hh 5 hm] rfl ?_
  refine g_st hC [] rfl ?_
  refine g_aload_n (pc := 40) hC 1 dX9_forgetWorked_40 rfl rfl ?_
  refine g_get (pc := 41) hC 0 fl_X9_39 dX9_forgetWorked_41 rfl rfl ?_
  refine g_iconst (pc := 44) hC dX9_forgetWorked_44 ?_
  refine g_putZ (pc := 45) hC 4 [_, _, _, _, cO _ _ [_, _, _, _, _, _], _] fl_X9_274 dX9_forgetWorked_45 rfl (Nat.le_of_ble_eq_true rfl) (by omega) rfl ?_
  exact g_vret (pc := 48) hR dX9_forgetWorked_48 rfl ⟨by omega, by omega⟩ (Nat.le_of_ble_eq_true rfl) ⟨rfl, rfl⟩
set_option maxHeartbeats 4000000 in
set_option maxRecDepth 100000 in
theorem k_X9_forget_a {K : gK} (xx : Nat) (nA : Nat) (hh : Nat) (q0 : Nat) (t0 : Nat) (q2 : Nat) (wx_kept : Value) (wx_taken : Value) (wx_body : Value) (wn_scene : Value) (wn_tape : Value) (wn_seen : Value) (wn_plan : Value) (wn_book : Value) (wq_house : Value) (wq_facts : Value) (wt_trial : Value) (wt_pulls : Value) (wt_fewest : Value) (wt_whose : Value) (wt_roomsFound : Value) (wt_way : Value) (hm : Nat → Option Nat) (ho : Int) (stp : Int) (wg : Int → Int) (o9 : Nat) (r_ho : rI ho) (r_stp : rI stp) (r_wg : ∀ j, rI (wg j)) (hho1 : 1 ≤ ho ∧ ho ≤ 5) (hhm : hm (ho - 1).toNat = some o9) : gMet K yX9_forgetWorked cX9_forgetWorked 2 none 1 1 36000 [.ref xx] [cO xx 9 [.ref nA, wx_kept, wx_taken, .ref hh, .ref q0, .ref t0, wx_body], cO nA 8 [wn_scene, wn_tape, wn_seen, wn_plan, wn_book, .int (iI ho)], cO q0 2 [wq_house, wq_facts, .ref q2, .int (iI stp)], cA K q2 0 wg, cO t0 7 [wt_trial, wt_pulls, wt_fewest, wt_whose, wt_roomsFound, wt_way], cH K hh 5 hm] (fun v9 w9 => ∃ (q3 : Nat), v9 = none ∧ w9 = [cO xx 9 [.ref nA, wx_kept, wx_taken, .ref hh, .ref q0, .ref t0, wx_body], cO nA 8 [wn_scene, wn_tape, wn_seen, wn_plan, wn_book, .int (iI ho)], cO q0 2 [.ref o9, wq_facts, .ref q3, .int (iI (stp + 1))], cA K q2 0 wg, cO t0 7 [wt_trial, wt_pulls, wt_fewest, wt_whose, .int (iI 0), wt_way], cH K hh 5 hm, cA K q3 36000 (fun _ => 0)]) := by
  refine g_enter (by decide +kernel) (Nat.le_of_ble_eq_true rfl) (fun G hC hR => ?_)
  refine g_lv hC [0] [(0, _)] rfl ?_
  refine g_aload_n (pc := 0) hC 0 dX9_forgetWorked_0 rfl rfl ?_
  refine g_get (pc := 1) hC 0 fl_X9_12 dX9_forgetWorked_1 rfl rfl ?_
  refine g_get (pc := 4) hC 1 fl_X9_65 dX9_forgetWorked_4 rfl rfl ?_
  refine g_iconst (pc := 7) hC dX9_forgetWorked_7 ?_
  refine g_isub (pc := 8) hC dX9_forgetWorked_8 ?_
  refine g_istore_n (pc := 9) hC [(1, _), (0, _)] dX9_forgetWorked_9 rfl (by decide) rfl ?_
  refine g_aload_n (pc := 10) hC 1 dX9_forgetWorked_10 rfl rfl ?_
  refine g_get (pc := 11) hC 0 fl_X9_30 dX9_forgetWorked_11 rfl rfl ?_
  refine g_iload_n (pc := 14) hC 0 dX9_forgetWorked_14 rfl rfl ?_
  refine g_if_lt (pc := 15) hC 36 dX9_forgetWorked_15 (by decide) (by omega) (fun c15 => by exfalso; omega) (fun c15 => ?_)
  refine g_iload_n (pc := 18) hC 0 dX9_forgetWorked_18 rfl rfl ?_
  refine g_aload_n (pc := 19) hC 1 dX9_forgetWorked_19 rfl rfl ?_
  refine g_get (pc := 20) hC 0 fl_X9_23 dX9_forgetWorked_20 rfl rfl ?_
  refine g_alenH (pc := 23) hC 5 dX9_forgetWorked_23 rfl ?_
  refine g_st hC [.int (iI 5), _, _] rfl ?_
  refine g_icmp_ge (pc := 24) hC 36 dX9_forgetWorked_24 (by decide) (by omega) (by omega) (fun c24 => by exfalso; omega) (fun c24 => ?_)
  refine g_aload_n (pc := 27) hC 1 dX9_forgetWorked_27 rfl rfl ?_
  refine g_get (pc := 28) hC 0 fl_X9_23 dX9_forgetWorked_28 rfl rfl ?_
  refine g_iload_n (pc := 31) hC 0 dX9_forgetWorked_31 rfl rfl ?_
  refine g_aldH (pc := 32) hC (j := (ho - 1).toNat) 5 dX9_forgetWorked_32 rfl (by omega) (by omega) hhm ?_
  refine g_goto (pc := 33) hC 37 dX9_forgetWorked_33 (by decide) ?_
  refine g_callV (pc := 37) (qr := 2) hC [2, 3] (k_X2_hold_a _ _ _ _ _ _ _ (by first | assumption | omega) (by first | assumption | omega)) cl_X2_hold wm_X9_270 dX9_forgetWorked_37 rfl rfl rfl rfl rfl (by decide) (by decide) (by omega) (Nat.le_of_ble_eq_true rfl) rfl (fun v9 w9 hq9 => ?_)
  obtain ⟨q1, rfl, rfl⟩ := hq9
  refine g_ws hC [cO xx 9 [.ref nA, wx_kept, wx_taken, .ref hh, .ref q0, .ref t0, wx_body], cO nA 8 [wn_scene, wn_tape, wn_seen, wn_plan, wn_book, .int (iI ho)], cO q0 2 [.ref o9, wq_facts, .ref q1, .int (iI (stp + 1))], cA K q2 0 wg, cO t0 7 [wt_trial, wt_pulls, wt_fewest, wt_whose, wt_roomsFound, wt_way], cH K hh 5 hm, cA K q1 36000 (fun _ => 0)] rfl ?_
  refine g_st hC [] rfl ?_
  refine g_aload_n (pc := 40) hC 1 dX9_forgetWorked_40 rfl rfl ?_
  refine g_get (pc := 41) hC 0 fl_X9_39 dX9_forgetWorked_41 rfl rfl ?_
  refine g_iconst (pc := 44) hC dX9_forgetWorked_44 ?_
  refine g_putZ (pc := 45) hC 4 [_, _, _, _, cO _ _ [_, _, _, _, _, _], _, _] fl_X9_274 dX9_forgetWorked_45 rfl (Nat.le_of_ble_eq_true rfl) (by omega) rfl ?_
  exact g_vret (pc := 48) hR dX9_forgetWorked_48 rfl ⟨by omega, by omega⟩ (Nat.le_of_ble_eq_true rfl) ⟨q1, rfl, rfl⟩
set_option maxHeartbeats 4000000 in
set_option maxRecDepth 100000 in
theorem k_X9_isPlanned {K : gK} (xx : Nat) (nA : Nat) (h0 : Nat) (wx_kept : Value) (wx_taken : Value) (wx_houses : Value) (wx_pulls : Value) (wx_trials : Value) (wx_body : Value) (wn_tape : Value) (wn_seen : Value) (wn_plan : Value) (wn_book : Value) (wn_houses : Value) (w_kind : Value) (w_number : Value) (w_room : Value) (w_state : Value) (w_rows : Value) (w_next : Value) (w_away : Value) (w_step : Value) (w : Int) (n : Int) (cn : Int) (s : Int → Int) (r_w : rI w) (r_n : rI n) (r_cn : rI cn) (hcn : cn = s 19 ∧ 0 ≤ s 19 ∧ s 19 ≤ 6) : gFn K yX9_isPlanned cX9_isPlanned 3 (some .boolean) 1 [.ref xx, .int (iI w), .int (iI n)] [cO xx 9 [.ref nA, wx_kept, wx_taken, wx_houses, wx_pulls, wx_trials, wx_body], cO nA 8 [.ref h0, wn_tape, wn_seen, wn_plan, wn_book, wn_houses], cO h0 5 [w_kind, w_number, w_room, w_state, w_rows, w_next, w_away, .int (iI cn), w_step]] (an_isPlan s w n) := by
  refine g_enter (by decide +kernel) (Nat.le_of_ble_eq_true rfl) (fun G hC hR => ?_)
  refine g_lv hC [0, 1, 2] [(0, _), (1, _), (2, _)] rfl ?_
  refine g_iload_n (pc := 0) hC 1 dX9_isPlanned_0 rfl rfl ?_
  by_cases k1_0 : w = 0
  · refine g_tswIn (pc := 1) hC (0) (off := 31) 32 dX9_isPlanned_1 k1_0 (by omega) (by decide) (by decide) ?_
    refine g_iconst (pc := 32) hC dX9_isPlanned_32 ?_
    exact g_zret (pc := 33) hR dX9_isPlanned_33 rfl (by omega) ⟨by omega, by omega⟩ (Nat.le_of_ble_eq_true rfl) ⟨ret_eq (by unfold an_isPlan; rw [if_pos (by omega)]), rfl⟩
  by_cases k1_1 : w = 1
  · refine g_tswIn (pc := 1) hC (1) (off := 33) 34 dX9_isPlanned_1 k1_1 (by omega) (by decide) (by decide) ?_
    refine g_aload_n (pc := 34) hC 0 dX9_isPlanned_34 rfl rfl ?_
    refine g_get (pc := 35) hC 0 fl_X9_12 dX9_isPlanned_35 rfl rfl ?_
    refine g_get (pc := 38) hC 1 fl_X9_85 dX9_isPlanned_38 rfl rfl ?_
    refine g_iload_n (pc := 41) hC 2 dX9_isPlanned_41 rfl rfl ?_
    refine g_fnV (pc := 42) (qr := 2) hC [2] (k_X5_has _ _ _ _ _ _ _ _ _ _ _ (by first | assumption | omega) (by first | assumption | omega)) cl_X5_has wm_X9_94 dX9_isPlanned_42 rfl rfl rfl rfl rfl (by decide) (by decide) ⟨by omega, by omega⟩ (Nat.le_of_ble_eq_true rfl) rfl rfl ?_
    refine g_name hC (fun x42 e_x42 => ?_)
    have q_x42 := has_iff e_x42 (by omega)
    exact g_zret (pc := 45) hR dX9_isPlanned_45 rfl (by omega) ⟨by omega, by omega⟩ (Nat.le_of_ble_eq_true rfl) ⟨ret_eq (pl_12 (Or.inl (by omega)) hcn e_x42), rfl⟩
  by_cases k1_2 : w = 2
  · refine g_tswIn (pc := 1) hC (2) (off := 45) 46 dX9_isPlanned_1 k1_2 (by omega) (by decide) (by decide) ?_
    refine g_aload_n (pc := 46) hC 0 dX9_isPlanned_46 rfl rfl ?_
    refine g_get (pc := 47) hC 0 fl_X9_12 dX9_isPlanned_47 rfl rfl ?_
    refine g_get (pc := 50) hC 1 fl_X9_85 dX9_isPlanned_50 rfl rfl ?_
    refine g_iload_n (pc := 53) hC 2 dX9_isPlanned_53 rfl rfl ?_
    refine g_fnV (pc := 54) (qr := 2) hC [2] (k_X5_has _ _ _ _ _ _ _ _ _ _ _ (by first | assumption | omega) (by first | assumption | omega)) cl_X5_has wm_X9_94 dX9_isPlanned_54 rfl rfl rfl rfl rfl (by decide) (by decide) ⟨by omega, by omega⟩ (Nat.le_of_ble_eq_true rfl) rfl rfl ?_
    refine g_name hC (fun x54 e_x54 => ?_)
    have q_x54 := has_iff e_x54 (by omega)
    exact g_zret (pc := 57) hR dX9_isPlanned_57 rfl (by omega) ⟨by omega, by omega⟩ (Nat.le_of_ble_eq_true rfl) ⟨ret_eq (pl_12 (Or.inr (by omega)) hcn e_x54), rfl⟩
  by_cases k1_3 : w = 3
  · refine g_tswIn (pc := 1) hC (3) (off := 57) 58 dX9_isPlanned_1 k1_3 (by omega) (by decide) (by decide) ?_
    refine g_iload_n (pc := 58) hC 2 dX9_isPlanned_58 rfl rfl ?_
    refine g_if_lt (pc := 59) hC 83 dX9_isPlanned_59 (by decide) (by omega) (fun c59 => ?_) (fun c59 => ?_)
    · refine g_iconst (pc := 83) hC dX9_isPlanned_83 ?_
      exact g_zret (pc := 84) hR dX9_isPlanned_84 rfl (by omega) ⟨by omega, by omega⟩ (Nat.le_of_ble_eq_true rfl) ⟨ret_eq (by unfold an_isPlan; rw [if_neg (by omega)]), rfl⟩
    · refine g_aload_n (pc := 62) hC 0 dX9_isPlanned_62 rfl rfl ?_
      refine g_get (pc := 63) hC 0 fl_X9_12 dX9_isPlanned_63 rfl rfl ?_
      refine g_get (pc := 66) hC 1 fl_X9_85 dX9_isPlanned_66 rfl rfl ?_
      refine g_iload_n (pc := 69) hC 2 dX9_isPlanned_69 rfl rfl ?_
      refine g_bipush (pc := 70) hC (10) dX9_isPlanned_70 (by decide) ?_
      refine g_idiv (pc := 72) hC dX9_isPlanned_72 (by omega) (by omega) ?_
      refine g_fnV (pc := 73) (qr := 2) hC [2] (k_X5_has _ _ _ _ _ _ _ _ _ _ _ (by first | assumption | omega) (by first | assumption | omega)) cl_X5_has wm_X9_94 dX9_isPlanned_73 rfl rfl rfl rfl rfl (by decide) (by decide) ⟨by omega, by omega⟩ (Nat.le_of_ble_eq_true rfl) rfl rfl ?_
      refine g_name hC (fun x73 e_x73 => ?_)
      have q_x73 := has_iff e_x73 (by omega)
      refine g_if_eq (pc := 76) hC 83 dX9_isPlanned_76 (by decide) (by omega) (fun c76 => ?_) (fun c76 => ?_)
      · refine g_iconst (pc := 83) hC dX9_isPlanned_83 ?_
        exact g_zret (pc := 84) hR dX9_isPlanned_84 rfl (by omega) ⟨by omega, by omega⟩ (Nat.le_of_ble_eq_true rfl) ⟨ret_eq (pl_3 (by omega) (by omega) hcn e_x73 (Or.inl ⟨rfl, by omega⟩)), rfl⟩
      · refine g_iconst (pc := 79) hC dX9_isPlanned_79 ?_
        refine g_goto (pc := 80) hC 84 dX9_isPlanned_80 (by decide) ?_
        exact g_zret (pc := 84) hR dX9_isPlanned_84 rfl (by omega) ⟨by omega, by omega⟩ (Nat.le_of_ble_eq_true rfl) ⟨ret_eq (pl_3 (by omega) (by omega) hcn e_x73 (Or.inr ⟨rfl, by omega⟩)), rfl⟩
  refine g_tswOut (pc := 1) hC 85 dX9_isPlanned_1 (by omega) (by omega) (by decide) ?_
  refine g_iconst (pc := 85) hC dX9_isPlanned_85 ?_
  exact g_zret (pc := 86) hR dX9_isPlanned_86 rfl (by omega) ⟨by omega, by omega⟩ (Nat.le_of_ble_eq_true rfl) ⟨ret_eq (by unfold an_isPlan; rw [if_neg (by omega)]), rfl⟩
