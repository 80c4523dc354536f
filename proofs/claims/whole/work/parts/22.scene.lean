/-! THE CLASS: scenes and pulls -/
def cs_R (s kd nb rm st rw nx : Int → Int) (aw cn sp : Int) : Prop :=
  (cn = s 19 ∧ sp = s 0 ∧ 0 ≤ aw ∧ aw < 64) ∧ (∀ p, 0 ≤ p → p < s 19 → kd p = s (26 + p) ∧ nb p = s (32 + p) ∧ rm p = s (13 + p) ∧ st p = s (1 + p) ∧ bAnd (bShr aw p) 1 = s (7 + p)) ∧ (∀ p, s 19 ≤ p → p < 6 → bAnd (bShr aw p) 1 = 0) ∧ (∀ p, 0 ≤ p → p < 6 → (0 ≤ rm p ∧ rm p ≤ 9) ∧ (0 ≤ st p ∧ st p ≤ 9) ∧ (0 ≤ nx p ∧ nx p ≤ 9)) ∧ (∀ j, 0 ≤ j → j < 24 → rw j = if j < 4 * s 19 then s (38 + j) else 0)
theorem hw_s {od b : Int → Int} {i x y : Int} {j : Nat} (hi : i = (j : Int)) (hz : (y, x) = hw_run od b j) : hw_run od b (j + 1) = hw_step b (y, x) (od i) := by
  show hw_step b (hw_run od b j) (od (j : Int)) = _
  rw [← hz, ← hi]
theorem hw_n1 {od b : Int → Int} {i x y so n : Int} {j : Nat} (hi : i = (j : Int)) (hz : (y, x) = hw_run od b j) (e1 : so = bAnd (od i) 15) (e2 : n = bShr (od i) 4) (h : so < 6) : (bOr (bShl y 1) (bAnd (bShr n (b so)) 1), x) = hw_run od b (j + 1) := by
  rw [hw_s hi hz]
  unfold hw_step
  rw [← e1, ← e2, if_pos h]
theorem hw_n2 {od b : Int → Int} {i x y so : Int} {j : Nat} (hi : i = (j : Int)) (hz : (y, x) = hw_run od b j) (e1 : so = bAnd (od i) 15) (h : so = 6) : (bXor y 1, x) = hw_run od b (j + 1) := by
  rw [hw_s hi hz]
  unfold hw_step
  rw [← e1, if_neg (by omega), if_pos h]
theorem hw_n3 {od b : Int → Int} {i x y so : Int} {j : Nat} (hi : i = (j : Int)) (hz : (y, x) = hw_run od b j) (e1 : so = bAnd (od i) 15) (h : so = 7) : (bAnd (bShr y 1) (bOr y (-2)), x) = hw_run od b (j + 1) := by
  rw [hw_s hi hz]
  unfold hw_step
  rw [← e1, if_neg (by omega), if_neg (by omega), if_pos h]
theorem hw_n4 {od b : Int → Int} {i x y so : Int} {j : Nat} (hi : i = (j : Int)) (hz : (y, x) = hw_run od b j) (e1 : so = bAnd (od i) 15) (h : so = 8) : (bOr (bShr y 1) (bAnd y 1), x) = hw_run od b (j + 1) := by
  rw [hw_s hi hz]
  unfold hw_step
  rw [← e1, if_neg (by omega), if_neg (by omega), if_neg (by omega), if_pos h]
theorem hw_n5 {od b : Int → Int} {i x y so n : Int} {j : Nat} (hi : i = (j : Int)) (hz : (y, x) = hw_run od b j) (e1 : so = bAnd (od i) 15) (e2 : n = bShr (od i) 4) (h : ¬ so < 6 ∧ ¬ so = 6 ∧ ¬ so = 7 ∧ ¬ so = 8) : hw_run od b (j + 1) = (0, x + (if so = 9 then (if y = 0 then 0 else n) else -(if y = 0 then 0 else n))) := by
  rw [hw_s hi hz]
  unfold hw_step
  rw [← e1, ← e2, if_neg h.1, if_neg h.2.1, if_neg h.2.2.1, if_neg h.2.2.2]
theorem hw_n5z {od b : Int → Int} {i x y so n q : Int} {j : Nat} (hi : i = (j : Int)) (hz : (y, x) = hw_run od b j) (e1 : so = bAnd (od i) 15) (e2 : n = bShr (od i) 4) (h : ¬ so < 6 ∧ ¬ so = 6 ∧ ¬ so = 7 ∧ ¬ so = 8) (hq : q = x + (if so = 9 then (if y = 0 then 0 else n) else -(if y = 0 then 0 else n))) : (0, q) = hw_run od b (j + 1) := by
  rw [hw_n5 hi hz e1 e2 h, hq]
theorem hw_n5r {od b : Int → Int} {i x y so n q : Int} {j : Nat} (hi : i = (j : Int)) (hz : (y, x) = hw_run od b j) (e1 : so = bAnd (od i) 15) (e2 : n = bShr (od i) 4) (h : ¬ so < 6 ∧ ¬ so = 6 ∧ ¬ so = 7 ∧ ¬ so = 8) (hq : q = x + (if so = 9 then (if y = 0 then 0 else n) else -(if y = 0 then 0 else n))) (hr : -9900 ≤ (hw_run od b (j + 1)).2 ∧ (hw_run od b (j + 1)).2 ≤ 9900) : rI q := by
  have h9 := hw_n5z hi hz e1 e2 h hq
  rw [← h9] at hr
  have hr1 : -9900 ≤ q ∧ q ≤ 9900 := hr
  omega
/-- what the class remembers of pulls -/
def md_CC (W : (Int → Int) → Int) (kd : Int → Int) (wg : Int → Int) (stp : Int) : Prop := (1 ≤ stp ∧ stp ≤ 1000000) ∧ (∀ j, 0 ≤ j → j < 36000 → 0 ≤ wg j ∧ wg j < (stp + 1) * 2048) ∧ ∀ p q x d t, 0 ≤ p → p < 6 → 0 ≤ q → q < 6 → 0 ≤ x → x ≤ 9 → 0 ≤ d → d ≤ 9 → 0 ≤ t → t ≤ 9 → wg ((((p * 6 + q) * 10 + x) * 10 + d) * 10 + t) / 2048 = stp → wg ((((p * 6 + q) * 10 + x) * 10 + d) * 10 + t) % 2048 - 1024 = W (tk_b p q (kd p) x d t)
theorem md_CC_kd {W : (Int → Int) → Int} {k1 k2 u : Int → Int} {stp : Int} (h : ∀ z, 0 ≤ z → z < 6 → k1 z = k2 z) (h9 : md_CC W k1 u stp) : md_CC W k2 u stp := by
  refine ⟨h9.1, h9.2.1, fun p q x d t a1 a2 a3 a4 a5 a6 a7 a8 a9 a10 a11 => ?_⟩
  rw [← h p a1 a2]
  exact h9.2.2 p q x d t a1 a2 a3 a4 a5 a6 a7 a8 a9 a10 a11
theorem md_CC_up {W : (Int → Int) → Int} {kd wg w2 : Int → Int} {stp p q x d t v : Int} (hp : 0 ≤ p ∧ p < 6) (hq : 0 ≤ q ∧ q < 6) (hx : 0 ≤ x ∧ x ≤ 9) (hd : 0 ≤ d ∧ d ≤ 9) (ht : 0 ≤ t ∧ t ≤ 9) (e : w2 = upI wg ((((p * 6 + q) * 10 + x) * 10 + d) * 10 + t) (stp * 2048 + 1024 + v)) (hv : v = W (tk_b p q (kd p) x d t)) (hr : -990 ≤ v ∧ v ≤ 990) (h : md_CC W kd wg stp) : md_CC W kd w2 stp := by
  refine ⟨h.1, fun j h1 h2 => ?_, fun p' q' x' d' t' a1 a2 a3 a4 a5 a6 a7 a8 a9 a10 => ?_⟩
  · rw [e]
    by_cases hj : j = (((p * 6 + q) * 10 + x) * 10 + d) * 10 + t
    · rw [hj, upI_at]
      have := h.1
      omega
    · rw [upI_ne hj]; exact h.2.1 j h1 h2
  · rw [e]
    by_cases hi : (((p' * 6 + q') * 10 + x') * 10 + d') * 10 + t' = (((p * 6 + q) * 10 + x) * 10 + d) * 10 + t
    · have e1 : p' = p := by omega
      have e2 : q' = q := by omega
      have e3 : x' = x := by omega
      have e4 : d' = d := by omega
      have e5 : t' = t := by omega
      subst e1 e2 e3 e4 e5
      rw [upI_at]
      intro _
      rw [← hv]
      omega
    · rw [upI_ne hi]
      exact h.2.2 p' q' x' d' t' a1 a2 a3 a4 a5 a6 a7 a8 a9 a10
def md_nl (s : Int → Int) (p ld : Int) : Int := if ld = -1 then s (1 + p) else md_nx (s (26 + p)) (s (1 + ld)) (s (1 + p)) (s 0) (md_apart s p ld) (s (32 + p)) (s (38 + 4 * p + s 0 % 4))
theorem md_nl_next {W : (Int → Int) → Int} {rch : Int} {s : Int → Int} {p ld : Int} (h19 : 0 ≤ s 19) (h : ld = if md_lead W rch s p = -5 then -1 else md_lead W rch s p) : md_nl s p ld = md_next W rch s p := by
  have hr := md_lead_rng (W := W) (rch := rch) (s := s) (p := p) h19
  unfold md_nl md_next
  by_cases h1 : md_lead W rch s p = -5
  · rw [if_pos h1] at h
    rw [if_pos (by omega), if_pos h1]
  · rw [if_neg h1] at h
    rw [if_neg (by omega), if_neg h1, h]
theorem cs_ap {s kd nb rm st rw nx : Int → Int} {aw cn sp p q : Int} (h : cs_R s kd nb rm st rw nx aw cn sp) (hp : 0 ≤ p ∧ p < s 19) (hq : 0 ≤ q ∧ q < s 19) : (if rm p - rm q < 0 then -(rm p - rm q) else rm p - rm q) = md_apart s p q := by
  unfold md_apart
  rw [(h.2.1 p hp.1 hp.2).2.2.1, (h.2.1 q hq.1 hq.2).2.2.1]
theorem tk_b6' {p q k x d t : Int} {f : Int → Int} (h0 : f 0 = p) (h1 : f 1 = q) (h2 : f 2 = k) (h3 : f 3 = x) (h4 : f 4 = d) (h5 : f 5 = t) : ∀ i, 0 ≤ i → i < 6 → tk_b p q k x d t i = f i := by
  intro i h9 h8
  have hc : i = 0 ∨ i = 1 ∨ i = 2 ∨ i = 3 ∨ i = 4 ∨ i = 5 := by omega
  unfold tk_b
  rcases hc with rfl | rfl | rfl | rfl | rfl | rfl <;> simp [h0, h1, h2, h3, h4, h5]
theorem nl_g {s : Int → Int} {p ld : Int} (h : ¬ ld = -1) : md_nl s p ld = md_nx (s (26 + p)) (s (1 + ld)) (s (1 + p)) (s 0) (md_apart s p ld) (s (32 + p)) (s (38 + 4 * p + s 0 % 4)) := if_neg h
theorem nl_1 {s : Int → Int} {p ld : Int} (h : ¬ ld = -1) (hk : s (26 + p) = 1) : md_nl s p ld = if s (1 + p) < s (1 + ld) then s (1 + ld) else s (1 + p) := by
  rw [nl_g h, hk]; rfl
theorem nl_2 {s : Int → Int} {p ld : Int} (h : ¬ ld = -1) (hk : s (26 + p) = 2) : md_nl s p ld = if s 0 % 2 = 0 then s (1 + ld) else s (1 + p) := by
  rw [nl_g h, hk]; rfl
theorem nl_3 {s : Int → Int} {p ld : Int} (h : ¬ ld = -1) (hk : s (26 + p) = 3) : md_nl s p ld = (s (1 + ld) + s (1 + p)) / 2 := by
  rw [nl_g h, hk]; rfl
theorem nl_4 {s : Int → Int} {p ld : Int} (h : ¬ ld = -1) (hk : s (26 + p) = 4) : md_nl s p ld = if s 0 % 5 = 0 then (if (if s (1 + p) < s (1 + ld) then s (1 + ld) else s (1 + p)) < 9 then (if s (1 + p) < s (1 + ld) then s (1 + ld) else s (1 + p)) + 1 else (if s (1 + p) < s (1 + ld) then s (1 + ld) else s (1 + p))) else (if s (1 + p) < s (1 + ld) then s (1 + ld) else s (1 + p)) := by
  rw [nl_g h, hk]; rfl
theorem nl_5 {s : Int → Int} {p ld : Int} (h : ¬ ld = -1) (hk : s (26 + p) = 5) : md_nl s p ld = if s (32 + p) < md_apart s p ld then s (1 + p) else if s 0 % 2 = 0 then s (1 + ld) else s (1 + p) := by
  rw [nl_g h, hk]; rfl
theorem nl_6 {s : Int → Int} {p ld : Int} (h : ¬ ld = -1) (hk : s (26 + p) = 6) : md_nl s p ld = ((s (1 + ld) + s (1 + p)) / 2 + s (38 + 4 * p + s 0 % 4)) % 10 := by
  rw [nl_g h, hk]; rfl
theorem nl_0 {s : Int → Int} {p ld : Int} (h : ¬ ld = -1) (hk : s (26 + p) < 1 ∨ 6 < s (26 + p)) : md_nl s p ld = s (1 + ld) := by
  rw [nl_g h]
  unfold md_nx
  rw [if_neg (by omega), if_neg (by omega), if_neg (by omega), if_neg (by omega), if_neg (by omega), if_neg (by omega)]
theorem md_nl_rng {s : Int → Int} {p ld : Int} (hg : md_rg s) (hp : 0 ≤ p ∧ p < s 19) (h : ld = -1 ∨ (0 ≤ ld ∧ ld < s 19)) : 0 ≤ md_nl s p ld ∧ md_nl s p ld ≤ 9 := by
  have h19 := hg.2.2.1
  have h1 := (hg.1 p hp.1 (by omega)).1
  unfold md_nl
  split
  · exact h1
  · exact md_nx_rng (hg.1 ld (by omega) (by omega)).1 h1
set_option maxHeartbeats 4000000 in
set_option maxRecDepth 100000 in
theorem k_X1_weigh {K : gK} (o0 : Nat) (q1 : Nat) (o1 : Nat) (w_reach : Value) (m : Int) (od : Int → Int) (b : Int → Int) (r_m : rI m) (r_od : ∀ j, rI (od j)) (r_b : ∀ j, rI (b j)) (hm : 0 ≤ m ∧ m ≤ 100) (hod : ∀ j : Nat, (j : Int) < m → 0 ≤ od j ∧ od j < 16384) (hsum : ∀ j : Nat, (j : Int) ≤ m → -9900 ≤ (hw_run od b j).2 ∧ (hw_run od b j).2 ≤ 9900) : gFn K yX1_weigh cX1_weigh 8 (some .int) 0 [.ref o0, .ref q1] [cO o0 1 [.ref o1, .int (iI m), w_reach], cA K o1 100 od, cA K q1 6 b] ((hw_run od b m.toNat).2) := by
  refine g_enter (by decide +kernel) (Nat.le_of_ble_eq_true rfl) (fun G hC hR => ?_)
  refine g_lv hC [0, 1] [(0, _), (1, _)] rfl ?_
  refine g_iconst (pc := 0) hC dX1_weigh_0 ?_
  refine g_istore_n (pc := 1) hC [(2, _), (0, _), (1, _)] dX1_weigh_1 rfl (by decide) rfl ?_
  refine g_iconst (pc := 2) hC dX1_weigh_2 ?_
  refine g_istore_n (pc := 3) hC [(3, _), (2, _), (0, _), (1, _)] dX1_weigh_3 rfl (by decide) rfl ?_
  refine g_iconst (pc := 4) hC dX1_weigh_4 ?_
  refine g_istore (pc := 5) hC [(4, _), (3, _), (2, _), (0, _), (1, _)] dX1_weigh_5 (by decide) rfl ?_
  have L7 : ∀ (n1 : Nat) (x : Int) (y : Int) (i : Int) (j : Nat), (rI x) → (rI y) → (rI i) → (i = (j : Int)) → (i ≤ m) → ((y, x) = hw_run od b j) → m - i < (n1 : Int) → G 0 0 7 [(0, .ref o0), (1, .ref q1), (2, .int (iI x)), (3, .int (iI y)), (4, .int (iI i))] [] [cO o0 1 [.ref o1, .int (iI m), w_reach], cA K o1 100 od, cA K q1 6 b] := by
    intro n1
    induction n1 with
    | zero => intro x y i j r_x r_y r_i hi hj hz hm7; exfalso; omega
    | succ n1 ih7 =>
      intro x y i j r_x r_y r_i hi hj hz hm7
      refine g_iload (pc := 7) hC 4 dX1_weigh_7 rfl ?_
      refine g_aload_n (pc := 9) hC 0 dX1_weigh_9 rfl rfl ?_
      refine g_get (pc := 10) hC 0 fl_X1_15 dX1_weigh_10 rfl rfl ?_
      refine g_icmp_ge (pc := 13) hC 162 dX1_weigh_13 (by decide) (by omega) (by omega) (fun c13 => ?_) (fun c13 => ?_)
      · have hj9 : m.toNat = j := by omega
        refine g_iload_n (pc := 162) hC 2 dX1_weigh_162 rfl rfl ?_
        exact g_iret (pc := 163) hR dX1_weigh_163 rfl ⟨by omega, by omega⟩ (Nat.le_of_ble_eq_true rfl) ⟨ret_eq (by rw [hj9, ← hz]), rfl⟩
      · refine g_iload (pc := 16) hC 4 dX1_weigh_16 rfl ?_
        refine g_aload_n (pc := 18) hC 0 dX1_weigh_18 rfl rfl ?_
        refine g_get (pc := 19) hC 0 fl_X1_9 dX1_weigh_19 rfl rfl ?_
        refine g_alen (pc := 22) hC 1 dX1_weigh_22 rfl ?_
        refine g_st hC [.int (iI 100), _] rfl ?_
        refine g_icmp_ge (pc := 23) hC 162 dX1_weigh_23 (by decide) (by omega) (by omega) (fun c23 => by exfalso; omega) (fun c23 => ?_)
        refine g_aload_n (pc := 26) hC 0 dX1_weigh_26 rfl rfl ?_
        refine g_get (pc := 27) hC 0 fl_X1_9 dX1_weigh_27 rfl rfl ?_
        refine g_iload (pc := 30) hC 4 dX1_weigh_30 rfl ?_
        refine g_iald (pc := 32) hC 1 dX1_weigh_32 rfl (by omega) ?_
        have q2 := r_od i
        refine g_bipush (pc := 33) hC (15) dX1_weigh_33 (by decide) ?_
        refine g_iand (pc := 35) hC dX1_weigh_35 ?_
        refine g_name hC (fun so e_so => ?_)
        have ho16 := o15_at (hod j (by omega))
        rw [← hi] at ho16
        refine g_istore (pc := 36) hC [(5, _), (0, _), (1, _), (2, _), (3, _), (4, _)] dX1_weigh_36 (by decide) rfl ?_
        refine g_aload_n (pc := 38) hC 1 dX1_weigh_38 rfl rfl ?_
        refine g_get (pc := 39) hC 0 fl_X1_9 dX1_weigh_39 rfl rfl ?_
        refine g_iload (pc := 42) hC 5 dX1_weigh_42 rfl ?_
        refine g_iald (pc := 44) hC 1 dX1_weigh_44 rfl (by omega) ?_
        have q3 := r_od i
        refine g_iconst (pc := 45) hC dX1_weigh_45 ?_
        refine g_ishr (pc := 46) hC dX1_weigh_46 ?_
        refine g_name hC (fun n9 e_n9 => ?_)
        refine g_istore (pc := 47) hC [(6, _), (5, _), (0, _), (1, _), (2, _), (3, _), (4, _)] dX1_weigh_47 (by decide) rfl ?_
        refine g_iload (pc := 49) hC 1 dX1_weigh_49 rfl ?_
        refine g_aload_n (pc := 51) hC 3 dX1_weigh_51 rfl rfl ?_
        refine g_alen (pc := 52) hC 2 dX1_weigh_52 rfl ?_
        refine g_st hC [.int (iI 6), _] rfl ?_
        refine g_icmp_ge (pc := 53) hC 73 dX1_weigh_53 (by decide) (by omega) (by omega) (fun c53 => ?_) (fun c53 => ?_)
        · refine g_iload (pc := 73) hC 1 dX1_weigh_73 rfl ?_
          refine g_bipush (pc := 75) hC (6) dX1_weigh_75 (by decide) ?_
          refine g_icmp_ne (pc := 77) hC 87 dX1_weigh_77 (by decide) (by omega) (by omega) (fun c77 => ?_) (fun c77 => ?_)
          · refine g_iload (pc := 87) hC 1 dX1_weigh_87 rfl ?_
            refine g_bipush (pc := 89) hC (7) dX1_weigh_89 (by decide) ?_
            refine g_icmp_ne (pc := 91) hC 106 dX1_weigh_91 (by decide) (by omega) (by omega) (fun c91 => ?_) (fun c91 => ?_)
            · refine g_iload (pc := 106) hC 1 dX1_weigh_106 rfl ?_
              refine g_bipush (pc := 108) hC (8) dX1_weigh_108 (by decide) ?_
              refine g_icmp_ne (pc := 110) hC 124 dX1_weigh_110 (by decide) (by omega) (by omega) (fun c110 => ?_) (fun c110 => ?_)
              · refine g_iload_n (pc := 124) hC 5 dX1_weigh_124 rfl rfl ?_
                refine g_if_ne (pc := 125) hC 132 dX1_weigh_125 (by decide) (by omega) (fun c125 => ?_) (fun c125 => ?_)
                · refine g_iload (pc := 132) hC 0 dX1_weigh_132 rfl ?_
                  refine g_istore (pc := 134) hC [(7, _), (6, _), (5, _), (0, _), (1, _), (2, _), (3, _), (4, _)] dX1_weigh_134 (by decide) rfl ?_
                  refine g_iload_n (pc := 136) hC 5 dX1_weigh_136 rfl rfl ?_
                  refine g_iload (pc := 137) hC 2 dX1_weigh_137 rfl ?_
                  refine g_bipush (pc := 139) hC (9) dX1_weigh_139 (by decide) ?_
                  refine g_icmp_ne (pc := 141) hC 149 dX1_weigh_141 (by decide) (by omega) (by omega) (fun c141 => ?_) (fun c141 => ?_)
                  · refine g_iload (pc := 149) hC 0 dX1_weigh_149 rfl ?_
                    refine g_ineg (pc := 151) hC dX1_weigh_151 ?_
                    refine g_iadd (pc := 152) hC dX1_weigh_152 ?_
                    refine g_istore_n (pc := 153) hC [(2, _), (7, _), (6, _), (5, _), (0, _), (1, _), (3, _), (4, _)] dX1_weigh_153 rfl (by decide) rfl ?_
                    refine g_iconst (pc := 154) hC dX1_weigh_154 ?_
                    refine g_istore_n (pc := 155) hC [(3, _), (2, _), (7, _), (6, _), (5, _), (0, _), (1, _), (4, _)] dX1_weigh_155 rfl (by decide) rfl ?_
                    refine g_iinc (pc := 156) hC 7 [(4, _), (3, _), (2, _), (7, _), (6, _), (5, _), (0, _), (1, _)] dX1_weigh_156 rfl (by decide) rfl ?_
                    refine g_goto (pc := 159) hC 7 dX1_weigh_159 (by decide) ?_
                    refine g_lv hC [6, 7, 2, 1, 0] [(0, _), (1, _), (2, _), (3, _), (4, _)] rfl ?_
                    exact ih7 (x + (-n9)) 0 (i + 1) (j + 1) (hw_n5r hi hz e_so e_n9 (by omega) (by omega) (hsum (j + 1) (by omega))) (by omega) (by first | assumption | omega) (by first | assumption | omega) (by first | assumption | omega) (hw_n5z hi hz e_so e_n9 (by omega) (by omega)) (by omega)
                  · refine g_iload (pc := 144) hC 0 dX1_weigh_144 rfl ?_
                    refine g_goto (pc := 146) hC 152 dX1_weigh_146 (by decide) ?_
                    refine g_iadd (pc := 152) hC dX1_weigh_152 ?_
                    refine g_istore_n (pc := 153) hC [(2, _), (7, _), (6, _), (5, _), (0, _), (1, _), (3, _), (4, _)] dX1_weigh_153 rfl (by decide) rfl ?_
                    refine g_iconst (pc := 154) hC dX1_weigh_154 ?_
                    refine g_istore_n (pc := 155) hC [(3, _), (2, _), (7, _), (6, _), (5, _), (0, _), (1, _), (4, _)] dX1_weigh_155 rfl (by decide) rfl ?_
                    refine g_iinc (pc := 156) hC 7 [(4, _), (3, _), (2, _), (7, _), (6, _), (5, _), (0, _), (1, _)] dX1_weigh_156 rfl (by decide) rfl ?_
                    refine g_goto (pc := 159) hC 7 dX1_weigh_159 (by decide) ?_
                    refine g_lv hC [6, 7, 2, 1, 0] [(0, _), (1, _), (2, _), (3, _), (4, _)] rfl ?_
                    exact ih7 (x + n9) 0 (i + 1) (j + 1) (hw_n5r hi hz e_so e_n9 (by omega) (by omega) (hsum (j + 1) (by omega))) (by omega) (by first | assumption | omega) (by first | assumption | omega) (by first | assumption | omega) (hw_n5z hi hz e_so e_n9 (by omega) (by omega)) (by omega)
                · refine g_iconst (pc := 128) hC dX1_weigh_128 ?_
                  refine g_goto (pc := 129) hC 134 dX1_weigh_129 (by decide) ?_
                  refine g_istore (pc := 134) hC [(7, _), (6, _), (5, _), (0, _), (1, _), (2, _), (3, _), (4, _)] dX1_weigh_134 (by decide) rfl ?_
                  refine g_iload_n (pc := 136) hC 5 dX1_weigh_136 rfl rfl ?_
                  refine g_iload (pc := 137) hC 2 dX1_weigh_137 rfl ?_
                  refine g_bipush (pc := 139) hC (9) dX1_weigh_139 (by decide) ?_
                  refine g_icmp_ne (pc := 141) hC 149 dX1_weigh_141 (by decide) (by omega) (by omega) (fun c141 => ?_) (fun c141 => ?_)
                  · refine g_iload (pc := 149) hC 0 dX1_weigh_149 rfl ?_
                    refine g_ineg (pc := 151) hC dX1_weigh_151 ?_
                    refine g_iadd (pc := 152) hC dX1_weigh_152 ?_
                    refine g_istore_n (pc := 153) hC [(2, _), (7, _), (6, _), (5, _), (0, _), (1, _), (3, _), (4, _)] dX1_weigh_153 rfl (by decide) rfl ?_
                    refine g_iconst (pc := 154) hC dX1_weigh_154 ?_
                    refine g_istore_n (pc := 155) hC [(3, _), (2, _), (7, _), (6, _), (5, _), (0, _), (1, _), (4, _)] dX1_weigh_155 rfl (by decide) rfl ?_
                    refine g_iinc (pc := 156) hC 7 [(4, _), (3, _), (2, _), (7, _), (6, _), (5, _), (0, _), (1, _)] dX1_weigh_156 rfl (by decide) rfl ?_
                    refine g_goto (pc := 159) hC 7 dX1_weigh_159 (by decide) ?_
                    refine g_lv hC [6, 7, 2, 1, 0] [(0, _), (1, _), (2, _), (3, _), (4, _)] rfl ?_
                    exact ih7 (x + (-0)) 0 (i + 1) (j + 1) (hw_n5r hi hz e_so e_n9 (by omega) (by omega) (hsum (j + 1) (by omega))) (by omega) (by first | assumption | omega) (by first | assumption | omega) (by first | assumption | omega) (hw_n5z hi hz e_so e_n9 (by omega) (by omega)) (by omega)
                  · refine g_iload (pc := 144) hC 0 dX1_weigh_144 rfl ?_
                    refine g_goto (pc := 146) hC 152 dX1_weigh_146 (by decide) ?_
                    refine g_iadd (pc := 152) hC dX1_weigh_152 ?_
                    refine g_istore_n (pc := 153) hC [(2, _), (7, _), (6, _), (5, _), (0, _), (1, _), (3, _), (4, _)] dX1_weigh_153 rfl (by decide) rfl ?_
                    refine g_iconst (pc := 154) hC dX1_weigh_154 ?_
                    refine g_istore_n (pc := 155) hC [(3, _), (2, _), (7, _), (6, _), (5, _), (0, _), (1, _), (4, _)] dX1_weigh_155 rfl (by decide) rfl ?_
                    refine g_iinc (pc := 156) hC 7 [(4, _), (3, _), (2, _), (7, _), (6, _), (5, _), (0, _), (1, _)] dX1_weigh_156 rfl (by decide) rfl ?_
                    refine g_goto (pc := 159) hC 7 dX1_weigh_159 (by decide) ?_
                    refine g_lv hC [6, 7, 2, 1, 0] [(0, _), (1, _), (2, _), (3, _), (4, _)] rfl ?_
                    exact ih7 (x + 0) 0 (i + 1) (j + 1) (hw_n5r hi hz e_so e_n9 (by omega) (by omega) (hsum (j + 1) (by omega))) (by omega) (by first | assumption | omega) (by first | assumption | omega) (by first | assumption | omega) (hw_n5z hi hz e_so e_n9 (by omega) (by omega)) (by omega)
              · refine g_iload_n (pc := 113) hC 5 dX1_weigh_113 rfl rfl ?_
                refine g_iconst (pc := 114) hC dX1_weigh_114 ?_
                refine g_ishr (pc := 115) hC dX1_weigh_115 ?_
                refine g_iload_n (pc := 116) hC 5 dX1_weigh_116 rfl rfl ?_
                refine g_iconst (pc := 117) hC dX1_weigh_117 ?_
                refine g_iand (pc := 118) hC dX1_weigh_118 ?_
                refine g_ior (pc := 119) hC dX1_weigh_119 ?_
                refine g_istore_n (pc := 120) hC [(3, _), (6, _), (5, _), (0, _), (1, _), (2, _), (4, _)] dX1_weigh_120 rfl (by decide) rfl ?_
                refine g_goto (pc := 121) hC 156 dX1_weigh_121 (by decide) ?_
                refine g_iinc (pc := 156) hC 6 [(4, _), (3, _), (6, _), (5, _), (0, _), (1, _), (2, _)] dX1_weigh_156 rfl (by decide) rfl ?_
                refine g_goto (pc := 159) hC 7 dX1_weigh_159 (by decide) ?_
                refine g_lv hC [4, 5, 6, 1, 0] [(0, _), (1, _), (2, _), (3, _), (4, _)] rfl ?_
                exact ih7 x (bOr (bShr y 1) (bAnd y 1)) (i + 1) (j + 1) r_x (bOr_rng _ _) (by first | assumption | omega) (by first | assumption | omega) (by first | assumption | omega) (hw_n4 hi hz e_so (by omega)) (by omega)
            · refine g_iload_n (pc := 94) hC 5 dX1_weigh_94 rfl rfl ?_
              refine g_iconst (pc := 95) hC dX1_weigh_95 ?_
              refine g_ishr (pc := 96) hC dX1_weigh_96 ?_
              refine g_iload_n (pc := 97) hC 5 dX1_weigh_97 rfl rfl ?_
              refine g_bipush (pc := 98) hC (-2) dX1_weigh_98 (by decide) ?_
              refine g_ior (pc := 100) hC dX1_weigh_100 ?_
              refine g_iand (pc := 101) hC dX1_weigh_101 ?_
              refine g_istore_n (pc := 102) hC [(3, _), (6, _), (5, _), (0, _), (1, _), (2, _), (4, _)] dX1_weigh_102 rfl (by decide) rfl ?_
              refine g_goto (pc := 103) hC 156 dX1_weigh_103 (by decide) ?_
              refine g_iinc (pc := 156) hC 6 [(4, _), (3, _), (6, _), (5, _), (0, _), (1, _), (2, _)] dX1_weigh_156 rfl (by decide) rfl ?_
              refine g_goto (pc := 159) hC 7 dX1_weigh_159 (by decide) ?_
              refine g_lv hC [4, 5, 6, 1, 0] [(0, _), (1, _), (2, _), (3, _), (4, _)] rfl ?_
              exact ih7 x (bAnd (bShr y 1) (bOr y (-2))) (i + 1) (j + 1) r_x (bAnd_rng _ _) (by first | assumption | omega) (by first | assumption | omega) (by first | assumption | omega) (hw_n3 hi hz e_so (by omega)) (by omega)
          · refine g_iload_n (pc := 80) hC 5 dX1_weigh_80 rfl rfl ?_
            refine g_iconst (pc := 81) hC dX1_weigh_81 ?_
            refine g_ixor (pc := 82) hC dX1_weigh_82 ?_
            refine g_istore_n (pc := 83) hC [(3, _), (6, _), (5, _), (0, _), (1, _), (2, _), (4, _)] dX1_weigh_83 rfl (by decide) rfl ?_
            refine g_goto (pc := 84) hC 156 dX1_weigh_84 (by decide) ?_
            refine g_iinc (pc := 156) hC 6 [(4, _), (3, _), (6, _), (5, _), (0, _), (1, _), (2, _)] dX1_weigh_156 rfl (by decide) rfl ?_
            refine g_goto (pc := 159) hC 7 dX1_weigh_159 (by decide) ?_
            refine g_lv hC [4, 5, 6, 1, 0] [(0, _), (1, _), (2, _), (3, _), (4, _)] rfl ?_
            exact ih7 x (bXor y 1) (i + 1) (j + 1) r_x (bXor_rng _ _) (by first | assumption | omega) (by first | assumption | omega) (by first | assumption | omega) (hw_n2 hi hz e_so (by omega)) (by omega)
        · refine g_iload_n (pc := 56) hC 5 dX1_weigh_56 rfl rfl ?_
          refine g_iconst (pc := 57) hC dX1_weigh_57 ?_
          refine g_ishl (pc := 58) hC dX1_weigh_58 ?_
          refine g_iload (pc := 59) hC 0 dX1_weigh_59 rfl ?_
          refine g_aload_n (pc := 61) hC 3 dX1_weigh_61 rfl rfl ?_
          refine g_iload (pc := 62) hC 1 dX1_weigh_62 rfl ?_
          refine g_iald (pc := 64) hC 2 dX1_weigh_64 rfl (by omega) ?_
          have q4 := r_b so
          refine g_ishr (pc := 65) hC dX1_weigh_65 ?_
          refine g_iconst (pc := 66) hC dX1_weigh_66 ?_
          refine g_iand (pc := 67) hC dX1_weigh_67 ?_
          refine g_ior (pc := 68) hC dX1_weigh_68 ?_
          refine g_istore_n (pc := 69) hC [(3, _), (6, _), (5, _), (0, _), (1, _), (2, _), (4, _)] dX1_weigh_69 rfl (by decide) rfl ?_
          refine g_goto (pc := 70) hC 156 dX1_weigh_70 (by decide) ?_
          refine g_iinc (pc := 156) hC 6 [(4, _), (3, _), (6, _), (5, _), (0, _), (1, _), (2, _)] dX1_weigh_156 rfl (by decide) rfl ?_
          refine g_goto (pc := 159) hC 7 dX1_weigh_159 (by decide) ?_
          refine g_lv hC [4, 5, 6, 1, 0] [(0, _), (1, _), (2, _), (3, _), (4, _)] rfl ?_
          exact ih7 x (bOr (bShl y 1) (bAnd (bShr n9 (b so)) 1)) (i + 1) (j + 1) r_x (bOr_rng _ _) (by first | assumption | omega) (by first | assumption | omega) (by first | assumption | omega) (hw_n1 hi hz e_so e_n9 (by omega)) (by omega)
  refine g_lv hC [3, 4, 2, 1, 0] [(0, _), (1, _), (2, _), (3, _), (4, _)] rfl ?_
  exact L7 ((m - 0 : Int).toNat + 1) 0 0 0 0 (by first | assumption | omega) (by first | assumption | omega) (by first | assumption | omega) (by first | assumption | omega) (by first | assumption | omega) rfl (by omega)
set_option maxHeartbeats 4000000 in
set_option maxRecDepth 100000 in
theorem k_X5_nextOf {K : gK} (h0 : Nat) (k0 : Nat) (k1 : Nat) (k2 : Nat) (k3 : Nat) (k4 : Nat) (k5 : Nat) (p : Int) (ld : Int) (aw : Int) (cn : Int) (sp : Int) (kd : Int → Int) (nb : Int → Int) (rm : Int → Int) (st : Int → Int) (rw : Int → Int) (nx : Int → Int) (s : Int → Int) (r_p : rI p) (r_ld : rI ld) (r_aw : rI aw) (r_cn : rI cn) (r_sp : rI sp) (r_kd : ∀ j, rI (kd j)) (r_nb : ∀ j, rI (nb j)) (r_rm : ∀ j, rI (rm j)) (r_st : ∀ j, rI (st j)) (r_rw : ∀ j, rI (rw j)) (r_nx : ∀ j, rI (nx j)) (hg : md_rg s) (hR9 : cs_R s kd nb rm st rw nx aw cn sp) (hp : 0 ≤ p ∧ p < s 19) (hld : ld = -1 ∨ (0 ≤ ld ∧ ld < s 19)) : gFn K yX5_nextOf cX5_nextOf 7 (some .int) 1 [.ref h0, .int (iI p), .int (iI ld)] [cO h0 5 [.ref k0, .ref k1, .ref k2, .ref k3, .ref k4, .ref k5, .int (iI aw), .int (iI cn), .int (iI sp)], cA K k0 6 kd, cA K k1 6 nb, cA K k2 6 rm, cA K k3 6 st, cA K k4 24 rw, cA K k5 6 nx] (md_nl s p ld) := by
  refine g_enter (by decide +kernel) (Nat.le_of_ble_eq_true rfl) (fun G hC hR => ?_)
  refine g_lv hC [0, 1, 2] [(0, _), (1, _), (2, _)] rfl ?_
  have h19 := hg.2.2.1
  have hg0 := hg.2.2.2
  have hcs := hR9.1
  have hp1 := hR9.2.1 p hp.1 hp.2
  have hgp := hg.1 p hp.1 (by omega)
  refine g_aload_n (pc := 0) hC 0 dX5_nextOf_0 rfl rfl ?_
  refine g_iload_n (pc := 1) hC 1 dX5_nextOf_1 rfl rfl ?_
  refine g_fnV (pc := 2) (qr := 0) hC [0] (k_X5_has _ _ _ _ _ _ _ _ _ _ _ (by first | assumption | omega) (by first | assumption | omega)) cl_X5_has wm_X5_46 dX5_nextOf_2 rfl rfl rfl rfl rfl (by decide) (by decide) ⟨by omega, by omega⟩ (Nat.le_of_ble_eq_true rfl) rfl rfl ?_
  refine g_name hC (fun x1 e_x1 => ?_)
  refine g_if_ne (pc := 5) hC 10 dX5_nextOf_5 (by decide) (by omega) (fun c5 => ?_) (fun c5 => by exfalso; omega)
  refine g_aload_n (pc := 10) hC 0 dX5_nextOf_10 rfl rfl ?_
  refine g_get (pc := 11) hC 0 fl_X5_21 dX5_nextOf_11 rfl rfl ?_
  refine g_iload_n (pc := 14) hC 1 dX5_nextOf_14 rfl rfl ?_
  refine g_iald (pc := 15) hC 4 dX5_nextOf_15 rfl (by omega) ?_
  have q2 := r_st p
  refine g_istore_n (pc := 16) hC [(3, _), (0, _), (1, _), (2, _)] dX5_nextOf_16 rfl (by decide) rfl ?_
  refine g_aload_n (pc := 17) hC 1 dX5_nextOf_17 rfl rfl ?_
  refine g_iload_n (pc := 18) hC 3 dX5_nextOf_18 rfl rfl ?_
  refine g_fnV (pc := 19) (qr := 0) hC [0] (k_X5_has _ _ _ _ _ _ _ _ _ _ _ (by first | assumption | omega) (by first | assumption | omega)) cl_X5_has wm_X5_46 dX5_nextOf_19 rfl rfl rfl rfl rfl (by decide) (by decide) ⟨by omega, by omega⟩ (Nat.le_of_ble_eq_true rfl) rfl rfl ?_
  refine g_name hC (fun x3 e_x3 => ?_)
  refine g_if_ne (pc := 22) hC 27 dX5_nextOf_22 (by decide) (by omega) (fun c22 => ?_) (fun c22 => ?_)
  · have hl2 : 0 ≤ ld ∧ ld < s 19 := by omega
    have hl3 := (hR9.2.1 ld hl2.1 hl2.2).2.2.2.1
    have hl4 := cs_ap hR9 hp hl2
    have hl5 := md_apart_rng hg (show 0 ≤ p ∧ p < 6 by omega) (show 0 ≤ ld ∧ ld < 6 by omega)
    have hl6 := (hg.1 ld hl2.1 (by omega)).1
    have hl7 : ¬ ld = -1 := by omega
    have hrw := hR9.2.2.2.2 (p * 4 + sp % 4) (by omega) (by omega)
    rw [if_pos (by omega), show 38 + (p * 4 + sp % 4) = 38 + 4 * p + s 0 % 4 by omega] at hrw
    have hrr := hg.2.1 (38 + 4 * p + s 0 % 4) (by omega) (by omega)
    have hrm9 : ∀ j, 0 ≤ j → j < 6 → 0 ≤ rm j ∧ rm j ≤ 9 := fun j h1 h2 => (hR9.2.2.2.1 j h1 h2).1
    clear hR9 hg
    refine g_aload_n (pc := 27) hC 1 dX5_nextOf_27 rfl rfl ?_
    refine g_get (pc := 28) hC 0 fl_X5_21 dX5_nextOf_28 rfl rfl ?_
    refine g_iload_n (pc := 31) hC 3 dX5_nextOf_31 rfl rfl ?_
    refine g_iald (pc := 32) hC 4 dX5_nextOf_32 rfl (by omega) ?_
    have q4 := r_st ld
    refine g_istore (pc := 33) hC [(4, _), (3, _), (0, _), (1, _), (2, _)] dX5_nextOf_33 (by decide) rfl ?_
    refine g_iload (pc := 35) hC 0 dX5_nextOf_35 rfl ?_
    refine g_iload_n (pc := 37) hC 1 dX5_nextOf_37 rfl rfl ?_
    refine g_icmp_le (pc := 38) hC 46 dX5_nextOf_38 (by decide) (by omega) (by omega) (fun c38 => ?_) (fun c38 => ?_)
    · refine g_iload_n (pc := 46) hC 1 dX5_nextOf_46 rfl rfl ?_
      refine g_istore (pc := 47) hC [(5, _), (4, _), (3, _), (0, _), (1, _), (2, _)] dX5_nextOf_47 (by decide) rfl ?_
      refine g_aload_n (pc := 49) hC 3 dX5_nextOf_49 rfl rfl ?_
      refine g_get (pc := 50) hC 0 fl_X5_43 dX5_nextOf_50 rfl rfl ?_
      refine g_iconst (pc := 53) hC dX5_nextOf_53 ?_
      refine g_irem (pc := 54) hC dX5_nextOf_54 (by omega) (by omega) ?_
      refine g_if_ne (pc := 55) hC 62 dX5_nextOf_55 (by decide) (by omega) (fun c55 => ?_) (fun c55 => ?_)
      · refine g_iconst (pc := 62) hC dX5_nextOf_62 ?_
        refine g_istore (pc := 63) hC [(6, _), (5, _), (4, _), (3, _), (0, _), (1, _), (2, _)] dX5_nextOf_63 (by decide) rfl ?_
        refine g_aload_n (pc := 65) hC 4 dX5_nextOf_65 rfl rfl ?_
        refine g_get (pc := 66) hC 0 fl_X5_9 dX5_nextOf_66 rfl rfl ?_
        refine g_iload_n (pc := 69) hC 5 dX5_nextOf_69 rfl rfl ?_
        refine g_iald (pc := 70) hC 1 dX5_nextOf_70 rfl (by omega) ?_
        have q5 := r_kd p
        by_cases k71_1 : kd p = 1
        · refine g_tswIn (pc := 71) hC (1) (off := 37) 108 dX5_nextOf_71 k71_1 (by omega) (by decide) (by decide) ?_
          refine g_iload (pc := 108) hC 1 dX5_nextOf_108 rfl ?_
          exact g_iret (pc := 110) hR dX5_nextOf_110 rfl ⟨by omega, by omega⟩ (Nat.le_of_ble_eq_true rfl) ⟨ret_eq (by rw [nl_1 hl7 (by omega)]; omega), rfl⟩
        by_cases k71_2 : kd p = 2
        · refine g_tswIn (pc := 71) hC (2) (off := 40) 111 dX5_nextOf_71 k71_2 (by omega) (by decide) (by decide) ?_
          refine g_iload (pc := 111) hC 0 dX5_nextOf_111 rfl ?_
          refine g_if_eq (pc := 113) hC 121 dX5_nextOf_113 (by decide) (by omega) (fun c113 => ?_) (fun c113 => by exfalso; omega)
          refine g_iload_n (pc := 121) hC 3 dX5_nextOf_121 rfl rfl ?_
          exact g_iret (pc := 122) hR dX5_nextOf_122 rfl ⟨by omega, by omega⟩ (Nat.le_of_ble_eq_true rfl) ⟨ret_eq (by rw [nl_2 hl7 (by omega)]; omega), rfl⟩
        by_cases k71_3 : kd p = 3
        · refine g_tswIn (pc := 71) hC (3) (off := 52) 123 dX5_nextOf_71 k71_3 (by omega) (by decide) (by decide) ?_
          refine g_iload (pc := 123) hC 2 dX5_nextOf_123 rfl ?_
          refine g_iload_n (pc := 125) hC 3 dX5_nextOf_125 rfl rfl ?_
          refine g_iadd (pc := 126) hC dX5_nextOf_126 ?_
          refine g_iconst (pc := 127) hC dX5_nextOf_127 ?_
          refine g_idiv (pc := 128) hC dX5_nextOf_128 (by omega) (by omega) ?_
          exact g_iret (pc := 129) hR dX5_nextOf_129 rfl ⟨by omega, by omega⟩ (Nat.le_of_ble_eq_true rfl) ⟨ret_eq (by rw [nl_3 hl7 (by omega)]; omega), rfl⟩
        by_cases k71_4 : kd p = 4
        · refine g_tswIn (pc := 71) hC (4) (off := 59) 130 dX5_nextOf_71 k71_4 (by omega) (by decide) (by decide) ?_
          refine g_aload_n (pc := 130) hC 4 dX5_nextOf_130 rfl rfl ?_
          refine g_get (pc := 131) hC 0 fl_X5_43 dX5_nextOf_131 rfl rfl ?_
          refine g_iconst (pc := 134) hC dX5_nextOf_134 ?_
          refine g_irem (pc := 135) hC dX5_nextOf_135 (by omega) (by omega) ?_
          refine g_if_ne (pc := 136) hC 153 dX5_nextOf_136 (by decide) (by omega) (fun c136 => ?_) (fun c136 => ?_)
          · refine g_iload (pc := 153) hC 1 dX5_nextOf_153 rfl ?_
            exact g_iret (pc := 155) hR dX5_nextOf_155 rfl ⟨by omega, by omega⟩ (Nat.le_of_ble_eq_true rfl) ⟨ret_eq (by rw [nl_4 hl7 (by omega)]; omega), rfl⟩
          · refine g_iload (pc := 139) hC 1 dX5_nextOf_139 rfl ?_
            refine g_bipush (pc := 141) hC (9) dX5_nextOf_141 (by decide) ?_
            refine g_icmp_ge (pc := 143) hC 153 dX5_nextOf_143 (by decide) (by omega) (by omega) (fun c143 => ?_) (fun c143 => ?_)
            · refine g_iload (pc := 153) hC 1 dX5_nextOf_153 rfl ?_
              exact g_iret (pc := 155) hR dX5_nextOf_155 rfl ⟨by omega, by omega⟩ (Nat.le_of_ble_eq_true rfl) ⟨ret_eq (by rw [nl_4 hl7 (by omega)]; omega), rfl⟩
            · refine g_iload (pc := 146) hC 1 dX5_nextOf_146 rfl ?_
              refine g_iconst (pc := 148) hC dX5_nextOf_148 ?_
              refine g_iadd (pc := 149) hC dX5_nextOf_149 ?_
              refine g_goto (pc := 150) hC 155 dX5_nextOf_150 (by decide) ?_
              exact g_iret (pc := 155) hR dX5_nextOf_155 rfl ⟨by omega, by omega⟩ (Nat.le_of_ble_eq_true rfl) ⟨ret_eq (by rw [nl_4 hl7 (by omega)]; omega), rfl⟩
        by_cases k71_5 : kd p = 5
        · refine g_tswIn (pc := 71) hC (5) (off := 85) 156 dX5_nextOf_71 k71_5 (by omega) (by decide) (by decide) ?_
          refine g_iload (pc := 156) hC 0 dX5_nextOf_156 rfl ?_
          refine g_if_eq (pc := 158) hC 181 dX5_nextOf_158 (by decide) (by omega) (fun c158 => ?_) (fun c158 => by exfalso; omega)
          refine g_iload_n (pc := 181) hC 3 dX5_nextOf_181 rfl rfl ?_
          exact g_iret (pc := 182) hR dX5_nextOf_182 rfl ⟨by omega, by omega⟩ (Nat.le_of_ble_eq_true rfl) ⟨ret_eq (by rw [nl_5 hl7 (by omega)]; omega), rfl⟩
        by_cases k71_6 : kd p = 6
        · refine g_tswIn (pc := 71) hC (6) (off := 112) 183 dX5_nextOf_71 k71_6 (by omega) (by decide) (by decide) ?_
          refine g_iload (pc := 183) hC 2 dX5_nextOf_183 rfl ?_
          refine g_iload_n (pc := 185) hC 3 dX5_nextOf_185 rfl rfl ?_
          refine g_iadd (pc := 186) hC dX5_nextOf_186 ?_
          refine g_iconst (pc := 187) hC dX5_nextOf_187 ?_
          refine g_idiv (pc := 188) hC dX5_nextOf_188 (by omega) (by omega) ?_
          refine g_aload_n (pc := 189) hC 4 dX5_nextOf_189 rfl rfl ?_
          refine g_get (pc := 190) hC 0 fl_X5_24 dX5_nextOf_190 rfl rfl ?_
          refine g_iload_n (pc := 193) hC 5 dX5_nextOf_193 rfl rfl ?_
          refine g_iconst (pc := 194) hC dX5_nextOf_194 ?_
          refine g_imul (pc := 195) hC dX5_nextOf_195 ?_
          refine g_aload_n (pc := 196) hC 4 dX5_nextOf_196 rfl rfl ?_
          refine g_get (pc := 197) hC 0 fl_X5_43 dX5_nextOf_197 rfl rfl ?_
          refine g_iconst (pc := 200) hC dX5_nextOf_200 ?_
          refine g_irem (pc := 201) hC dX5_nextOf_201 (by omega) (by omega) ?_
          refine g_iadd (pc := 202) hC dX5_nextOf_202 ?_
          refine g_iald (pc := 203) hC 5 dX5_nextOf_203 rfl (by omega) ?_
          have q6 := r_rw ((p * 4) + (sp % 4))
          refine g_iadd (pc := 204) hC dX5_nextOf_204 ?_
          refine g_bipush (pc := 205) hC (10) dX5_nextOf_205 (by decide) ?_
          refine g_irem (pc := 207) hC dX5_nextOf_207 (by omega) (by omega) ?_
          exact g_iret (pc := 208) hR dX5_nextOf_208 rfl ⟨by omega, by omega⟩ (Nat.le_of_ble_eq_true rfl) ⟨ret_eq (by rw [nl_6 hl7 (by omega)]; omega), rfl⟩
        refine g_tswOut (pc := 71) hC 209 dX5_nextOf_71 (by omega) (by omega) (by decide) ?_
        refine g_iload (pc := 209) hC 2 dX5_nextOf_209 rfl ?_
        exact g_iret (pc := 211) hR dX5_nextOf_211 rfl ⟨by omega, by omega⟩ (Nat.le_of_ble_eq_true rfl) ⟨ret_eq (by rw [nl_0 hl7 (by omega)]; omega), rfl⟩
      · refine g_iconst (pc := 58) hC dX5_nextOf_58 ?_
        refine g_goto (pc := 59) hC 63 dX5_nextOf_59 (by decide) ?_
        refine g_istore (pc := 63) hC [(6, _), (5, _), (4, _), (3, _), (0, _), (1, _), (2, _)] dX5_nextOf_63 (by decide) rfl ?_
        refine g_aload_n (pc := 65) hC 4 dX5_nextOf_65 rfl rfl ?_
        refine g_get (pc := 66) hC 0 fl_X5_9 dX5_nextOf_66 rfl rfl ?_
        refine g_iload_n (pc := 69) hC 5 dX5_nextOf_69 rfl rfl ?_
        refine g_iald (pc := 70) hC 1 dX5_nextOf_70 rfl (by omega) ?_
        have q7 := r_kd p
        by_cases k71_1 : kd p = 1
        · refine g_tswIn (pc := 71) hC (1) (off := 37) 108 dX5_nextOf_71 k71_1 (by omega) (by decide) (by decide) ?_
          refine g_iload (pc := 108) hC 1 dX5_nextOf_108 rfl ?_
          exact g_iret (pc := 110) hR dX5_nextOf_110 rfl ⟨by omega, by omega⟩ (Nat.le_of_ble_eq_true rfl) ⟨ret_eq (by rw [nl_1 hl7 (by omega)]; omega), rfl⟩
        by_cases k71_2 : kd p = 2
        · refine g_tswIn (pc := 71) hC (2) (off := 40) 111 dX5_nextOf_71 k71_2 (by omega) (by decide) (by decide) ?_
          refine g_iload (pc := 111) hC 0 dX5_nextOf_111 rfl ?_
          refine g_if_eq (pc := 113) hC 121 dX5_nextOf_113 (by decide) (by omega) (fun c113 => by exfalso; omega) (fun c113 => ?_)
          refine g_iload (pc := 116) hC 2 dX5_nextOf_116 rfl ?_
          refine g_goto (pc := 118) hC 122 dX5_nextOf_118 (by decide) ?_
          exact g_iret (pc := 122) hR dX5_nextOf_122 rfl ⟨by omega, by omega⟩ (Nat.le_of_ble_eq_true rfl) ⟨ret_eq (by rw [nl_2 hl7 (by omega)]; omega), rfl⟩
        by_cases k71_3 : kd p = 3
        · refine g_tswIn (pc := 71) hC (3) (off := 52) 123 dX5_nextOf_71 k71_3 (by omega) (by decide) (by decide) ?_
          refine g_iload (pc := 123) hC 2 dX5_nextOf_123 rfl ?_
          refine g_iload_n (pc := 125) hC 3 dX5_nextOf_125 rfl rfl ?_
          refine g_iadd (pc := 126) hC dX5_nextOf_126 ?_
          refine g_iconst (pc := 127) hC dX5_nextOf_127 ?_
          refine g_idiv (pc := 128) hC dX5_nextOf_128 (by omega) (by omega) ?_
          exact g_iret (pc := 129) hR dX5_nextOf_129 rfl ⟨by omega, by omega⟩ (Nat.le_of_ble_eq_true rfl) ⟨ret_eq (by rw [nl_3 hl7 (by omega)]; omega), rfl⟩
        by_cases k71_4 : kd p = 4
        · refine g_tswIn (pc := 71) hC (4) (off := 59) 130 dX5_nextOf_71 k71_4 (by omega) (by decide) (by decide) ?_
          refine g_aload_n (pc := 130) hC 4 dX5_nextOf_130 rfl rfl ?_
          refine g_get (pc := 131) hC 0 fl_X5_43 dX5_nextOf_131 rfl rfl ?_
          refine g_iconst (pc := 134) hC dX5_nextOf_134 ?_
          refine g_irem (pc := 135) hC dX5_nextOf_135 (by omega) (by omega) ?_
          refine g_if_ne (pc := 136) hC 153 dX5_nextOf_136 (by decide) (by omega) (fun c136 => ?_) (fun c136 => ?_)
          · refine g_iload (pc := 153) hC 1 dX5_nextOf_153 rfl ?_
            exact g_iret (pc := 155) hR dX5_nextOf_155 rfl ⟨by omega, by omega⟩ (Nat.le_of_ble_eq_true rfl) ⟨ret_eq (by rw [nl_4 hl7 (by omega)]; omega), rfl⟩
          · refine g_iload (pc := 139) hC 1 dX5_nextOf_139 rfl ?_
            refine g_bipush (pc := 141) hC (9) dX5_nextOf_141 (by decide) ?_
            refine g_icmp_ge (pc := 143) hC 153 dX5_nextOf_143 (by decide) (by omega) (by omega) (fun c143 => ?_) (fun c143 => ?_)
            · refine g_iload (pc := 153) hC 1 dX5_nextOf_153 rfl ?_
              exact g_iret (pc := 155) hR dX5_nextOf_155 rfl ⟨by omega, by omega⟩ (Nat.le_of_ble_eq_true rfl) ⟨ret_eq (by rw [nl_4 hl7 (by omega)]; omega), rfl⟩
            · refine g_iload (pc := 146) hC 1 dX5_nextOf_146 rfl ?_
              refine g_iconst (pc := 148) hC dX5_nextOf_148 ?_
              refine g_iadd (pc := 149) hC dX5_nextOf_149 ?_
              refine g_goto (pc := 150) hC 155 dX5_nextOf_150 (by decide) ?_
              exact g_iret (pc := 155) hR dX5_nextOf_155 rfl ⟨by omega, by omega⟩ (Nat.le_of_ble_eq_true rfl) ⟨ret_eq (by rw [nl_4 hl7 (by omega)]; omega), rfl⟩
        by_cases k71_5 : kd p = 5
        · refine g_tswIn (pc := 71) hC (5) (off := 85) 156 dX5_nextOf_71 k71_5 (by omega) (by decide) (by decide) ?_
          refine g_iload (pc := 156) hC 0 dX5_nextOf_156 rfl ?_
          refine g_if_eq (pc := 158) hC 181 dX5_nextOf_158 (by decide) (by omega) (fun c158 => by exfalso; omega) (fun c158 => ?_)
          refine g_aload_n (pc := 161) hC 4 dX5_nextOf_161 rfl rfl ?_
          refine g_iload_n (pc := 162) hC 5 dX5_nextOf_162 rfl rfl ?_
          refine g_iload_n (pc := 163) hC 6 dX5_nextOf_163 rfl rfl ?_
          refine g_fnV (pc := 164) (qr := 0) hC [0, 3] (k_X5_apart _ _ _ _ _ _ _ _ _ _ _ _ _ (by first | assumption | omega) (by first | assumption | omega) (by first | assumption | omega) (by first | assumption | omega) (by first | assumption | omega) hrm9) cl_X5_apart wm_X5_50 dX5_nextOf_164 rfl rfl rfl rfl rfl (by decide) (by decide) ⟨by omega, by omega⟩ (Nat.le_of_ble_eq_true rfl) rfl rfl ?_
          refine g_name hC (fun x164 e_x164 => ?_)
          rw [hl4] at e_x164
          refine g_aload_n (pc := 167) hC 4 dX5_nextOf_167 rfl rfl ?_
          refine g_get (pc := 168) hC 0 fl_X5_15 dX5_nextOf_168 rfl rfl ?_
          refine g_iload_n (pc := 171) hC 5 dX5_nextOf_171 rfl rfl ?_
          refine g_iald (pc := 172) hC 2 dX5_nextOf_172 rfl (by omega) ?_
          have q8 := r_nb p
          refine g_icmp_gt (pc := 173) hC 181 dX5_nextOf_173 (by decide) (by omega) (by omega) (fun c173 => ?_) (fun c173 => ?_)
          · refine g_iload_n (pc := 181) hC 3 dX5_nextOf_181 rfl rfl ?_
            exact g_iret (pc := 182) hR dX5_nextOf_182 rfl ⟨by omega, by omega⟩ (Nat.le_of_ble_eq_true rfl) ⟨ret_eq (by rw [nl_5 hl7 (by omega)]; omega), rfl⟩
          · refine g_iload (pc := 176) hC 2 dX5_nextOf_176 rfl ?_
            refine g_goto (pc := 178) hC 182 dX5_nextOf_178 (by decide) ?_
            exact g_iret (pc := 182) hR dX5_nextOf_182 rfl ⟨by omega, by omega⟩ (Nat.le_of_ble_eq_true rfl) ⟨ret_eq (by rw [nl_5 hl7 (by omega)]; omega), rfl⟩
        by_cases k71_6 : kd p = 6
        · refine g_tswIn (pc := 71) hC (6) (off := 112) 183 dX5_nextOf_71 k71_6 (by omega) (by decide) (by decide) ?_
          refine g_iload (pc := 183) hC 2 dX5_nextOf_183 rfl ?_
          refine g_iload_n (pc := 185) hC 3 dX5_nextOf_185 rfl rfl ?_
          refine g_iadd (pc := 186) hC dX5_nextOf_186 ?_
          refine g_iconst (pc := 187) hC dX5_nextOf_187 ?_
          refine g_idiv (pc := 188) hC dX5_nextOf_188 (by omega) (by omega) ?_
          refine g_aload_n (pc := 189) hC 4 dX5_nextOf_189 rfl rfl ?_
          refine g_get (pc := 190) hC 0 fl_X5_24 dX5_nextOf_190 rfl rfl ?_
          refine g_iload_n (pc := 193) hC 5 dX5_nextOf_193 rfl rfl ?_
          refine g_iconst (pc := 194) hC dX5_nextOf_194 ?_
          refine g_imul (pc := 195) hC dX5_nextOf_195 ?_
          refine g_aload_n (pc := 196) hC 4 dX5_nextOf_196 rfl rfl ?_
          refine g_get (pc := 197) hC 0 fl_X5_43 dX5_nextOf_197 rfl rfl ?_
          refine g_iconst (pc := 200) hC dX5_nextOf_200 ?_
          refine g_irem (pc := 201) hC dX5_nextOf_201 (by omega) (by omega) ?_
          refine g_iadd (pc := 202) hC dX5_nextOf_202 ?_
          refine g_iald (pc := 203) hC 5 dX5_nextOf_203 rfl (by omega) ?_
          have q9 := r_rw ((p * 4) + (sp % 4))
          refine g_iadd (pc := 204) hC dX5_nextOf_204 ?_
          refine g_bipush (pc := 205) hC (10) dX5_nextOf_205 (by decide) ?_
          refine g_irem (pc := 207) hC dX5_nextOf_207 (by omega) (by omega) ?_
          exact g_iret (pc := 208) hR dX5_nextOf_208 rfl ⟨by omega, by omega⟩ (Nat.le_of_ble_eq_true rfl) ⟨ret_eq (by rw [nl_6 hl7 (by omega)]; omega), rfl⟩
        refine g_tswOut (pc := 71) hC 209 dX5_nextOf_71 (by omega) (by omega) (by decide) ?_
        refine g_iload (pc := 209) hC 2 dX5_nextOf_209 rfl ?_
        exact g_iret (pc := 211) hR dX5_nextOf_211 rfl ⟨by omega, by omega⟩ (Nat.le_of_ble_eq_true rfl) ⟨ret_eq (by rw [nl_0 hl7 (by omega)]; omega), rfl⟩
    · refine g_iload (pc := 41) hC 0 dX5_nextOf_41 rfl ?_
      refine g_goto (pc := 43) hC 47 dX5_nextOf_43 (by decide) ?_
      refine g_istore (pc := 47) hC [(5, _), (4, _), (3, _), (0, _), (1, _), (2, _)] dX5_nextOf_47 (by decide) rfl ?_
      refine g_aload_n (pc := 49) hC 3 dX5_nextOf_49 rfl rfl ?_
      refine g_get (pc := 50) hC 0 fl_X5_43 dX5_nextOf_50 rfl rfl ?_
      refine g_iconst (pc := 53) hC dX5_nextOf_53 ?_
      refine g_irem (pc := 54) hC dX5_nextOf_54 (by omega) (by omega) ?_
      refine g_if_ne (pc := 55) hC 62 dX5_nextOf_55 (by decide) (by omega) (fun c55 => ?_) (fun c55 => ?_)
      · refine g_iconst (pc := 62) hC dX5_nextOf_62 ?_
        refine g_istore (pc := 63) hC [(6, _), (5, _), (4, _), (3, _), (0, _), (1, _), (2, _)] dX5_nextOf_63 (by decide) rfl ?_
        refine g_aload_n (pc := 65) hC 4 dX5_nextOf_65 rfl rfl ?_
        refine g_get (pc := 66) hC 0 fl_X5_9 dX5_nextOf_66 rfl rfl ?_
        refine g_iload_n (pc := 69) hC 5 dX5_nextOf_69 rfl rfl ?_
        refine g_iald (pc := 70) hC 1 dX5_nextOf_70 rfl (by omega) ?_
        have q10 := r_kd p
        by_cases k71_1 : kd p = 1
        · refine g_tswIn (pc := 71) hC (1) (off := 37) 108 dX5_nextOf_71 k71_1 (by omega) (by decide) (by decide) ?_
          refine g_iload (pc := 108) hC 1 dX5_nextOf_108 rfl ?_
          exact g_iret (pc := 110) hR dX5_nextOf_110 rfl ⟨by omega, by omega⟩ (Nat.le_of_ble_eq_true rfl) ⟨ret_eq (by rw [nl_1 hl7 (by omega)]; omega), rfl⟩
        by_cases k71_2 : kd p = 2
        · refine g_tswIn (pc := 71) hC (2) (off := 40) 111 dX5_nextOf_71 k71_2 (by omega) (by decide) (by decide) ?_
          refine g_iload (pc := 111) hC 0 dX5_nextOf_111 rfl ?_
          refine g_if_eq (pc := 113) hC 121 dX5_nextOf_113 (by decide) (by omega) (fun c113 => ?_) (fun c113 => by exfalso; omega)
          refine g_iload_n (pc := 121) hC 3 dX5_nextOf_121 rfl rfl ?_
          exact g_iret (pc := 122) hR dX5_nextOf_122 rfl ⟨by omega, by omega⟩ (Nat.le_of_ble_eq_true rfl) ⟨ret_eq (by rw [nl_2 hl7 (by omega)]; omega), rfl⟩
        by_cases k71_3 : kd p = 3
        · refine g_tswIn (pc := 71) hC (3) (off := 52) 123 dX5_nextOf_71 k71_3 (by omega) (by decide) (by decide) ?_
          refine g_iload (pc := 123) hC 2 dX5_nextOf_123 rfl ?_
          refine g_iload_n (pc := 125) hC 3 dX5_nextOf_125 rfl rfl ?_
          refine g_iadd (pc := 126) hC dX5_nextOf_126 ?_
          refine g_iconst (pc := 127) hC dX5_nextOf_127 ?_
          refine g_idiv (pc := 128) hC dX5_nextOf_128 (by omega) (by omega) ?_
          exact g_iret (pc := 129) hR dX5_nextOf_129 rfl ⟨by omega, by omega⟩ (Nat.le_of_ble_eq_true rfl) ⟨ret_eq (by rw [nl_3 hl7 (by omega)]; omega), rfl⟩
        by_cases k71_4 : kd p = 4
        · refine g_tswIn (pc := 71) hC (4) (off := 59) 130 dX5_nextOf_71 k71_4 (by omega) (by decide) (by decide) ?_
          refine g_aload_n (pc := 130) hC 4 dX5_nextOf_130 rfl rfl ?_
          refine g_get (pc := 131) hC 0 fl_X5_43 dX5_nextOf_131 rfl rfl ?_
          refine g_iconst (pc := 134) hC dX5_nextOf_134 ?_
          refine g_irem (pc := 135) hC dX5_nextOf_135 (by omega) (by omega) ?_
          refine g_if_ne (pc := 136) hC 153 dX5_nextOf_136 (by decide) (by omega) (fun c136 => ?_) (fun c136 => ?_)
          · refine g_iload (pc := 153) hC 1 dX5_nextOf_153 rfl ?_
            exact g_iret (pc := 155) hR dX5_nextOf_155 rfl ⟨by omega, by omega⟩ (Nat.le_of_ble_eq_true rfl) ⟨ret_eq (by rw [nl_4 hl7 (by omega)]; omega), rfl⟩
          · refine g_iload (pc := 139) hC 1 dX5_nextOf_139 rfl ?_
            refine g_bipush (pc := 141) hC (9) dX5_nextOf_141 (by decide) ?_
            refine g_icmp_ge (pc := 143) hC 153 dX5_nextOf_143 (by decide) (by omega) (by omega) (fun c143 => ?_) (fun c143 => ?_)
            · refine g_iload (pc := 153) hC 1 dX5_nextOf_153 rfl ?_
              exact g_iret (pc := 155) hR dX5_nextOf_155 rfl ⟨by omega, by omega⟩ (Nat.le_of_ble_eq_true rfl) ⟨ret_eq (by rw [nl_4 hl7 (by omega)]; omega), rfl⟩
            · refine g_iload (pc := 146) hC 1 dX5_nextOf_146 rfl ?_
              refine g_iconst (pc := 148) hC dX5_nextOf_148 ?_
              refine g_iadd (pc := 149) hC dX5_nextOf_149 ?_
              refine g_goto (pc := 150) hC 155 dX5_nextOf_150 (by decide) ?_
              exact g_iret (pc := 155) hR dX5_nextOf_155 rfl ⟨by omega, by omega⟩ (Nat.le_of_ble_eq_true rfl) ⟨ret_eq (by rw [nl_4 hl7 (by omega)]; omega), rfl⟩
        by_cases k71_5 : kd p = 5
        · refine g_tswIn (pc := 71) hC (5) (off := 85) 156 dX5_nextOf_71 k71_5 (by omega) (by decide) (by decide) ?_
          refine g_iload (pc := 156) hC 0 dX5_nextOf_156 rfl ?_
          refine g_if_eq (pc := 158) hC 181 dX5_nextOf_158 (by decide) (by omega) (fun c158 => ?_) (fun c158 => by exfalso; omega)
          refine g_iload_n (pc := 181) hC 3 dX5_nextOf_181 rfl rfl ?_
          exact g_iret (pc := 182) hR dX5_nextOf_182 rfl ⟨by omega, by omega⟩ (Nat.le_of_ble_eq_true rfl) ⟨ret_eq (by rw [nl_5 hl7 (by omega)]; omega), rfl⟩
        by_cases k71_6 : kd p = 6
        · refine g_tswIn (pc := 71) hC (6) (off := 112) 183 dX5_nextOf_71 k71_6 (by omega) (by decide) (by decide) ?_
          refine g_iload (pc := 183) hC 2 dX5_nextOf_183 rfl ?_
          refine g_iload_n (pc := 185) hC 3 dX5_nextOf_185 rfl rfl ?_
          refine g_iadd (pc := 186) hC dX5_nextOf_186 ?_
          refine g_iconst (pc := 187) hC dX5_nextOf_187 ?_
          refine g_idiv (pc := 188) hC dX5_nextOf_188 (by omega) (by omega) ?_
          refine g_aload_n (pc := 189) hC 4 dX5_nextOf_189 rfl rfl ?_
          refine g_get (pc := 190) hC 0 fl_X5_24 dX5_nextOf_190 rfl rfl ?_
          refine g_iload_n (pc := 193) hC 5 dX5_nextOf_193 rfl rfl ?_
          refine g_iconst (pc := 194) hC dX5_nextOf_194 ?_
          refine g_imul (pc := 195) hC dX5_nextOf_195 ?_
          refine g_aload_n (pc := 196) hC 4 dX5_nextOf_196 rfl rfl ?_
          refine g_get (pc := 197) hC 0 fl_X5_43 dX5_nextOf_197 rfl rfl ?_
          refine g_iconst (pc := 200) hC dX5_nextOf_200 ?_
          refine g_irem (pc := 201) hC dX5_nextOf_201 (by omega) (by omega) ?_
          refine g_iadd (pc := 202) hC dX5_nextOf_202 ?_
          refine g_iald (pc := 203) hC 5 dX5_nextOf_203 rfl (by omega) ?_
          have q11 := r_rw ((p * 4) + (sp % 4))
          refine g_iadd (pc := 204) hC dX5_nextOf_204 ?_
          refine g_bipush (pc := 205) hC (10) dX5_nextOf_205 (by decide) ?_
          refine g_irem (pc := 207) hC dX5_nextOf_207 (by omega) (by omega) ?_
          exact g_iret (pc := 208) hR dX5_nextOf_208 rfl ⟨by omega, by omega⟩ (Nat.le_of_ble_eq_true rfl) ⟨ret_eq (by rw [nl_6 hl7 (by omega)]; omega), rfl⟩
        refine g_tswOut (pc := 71) hC 209 dX5_nextOf_71 (by omega) (by omega) (by decide) ?_
        refine g_iload (pc := 209) hC 2 dX5_nextOf_209 rfl ?_
        exact g_iret (pc := 211) hR dX5_nextOf_211 rfl ⟨by omega, by omega⟩ (Nat.le_of_ble_eq_true rfl) ⟨ret_eq (by rw [nl_0 hl7 (by omega)]; omega), rfl⟩
      · refine g_iconst (pc := 58) hC dX5_nextOf_58 ?_
        refine g_goto (pc := 59) hC 63 dX5_nextOf_59 (by decide) ?_
        refine g_istore (pc := 63) hC [(6, _), (5, _), (4, _), (3, _), (0, _), (1, _), (2, _)] dX5_nextOf_63 (by decide) rfl ?_
        refine g_aload_n (pc := 65) hC 4 dX5_nextOf_65 rfl rfl ?_
        refine g_get (pc := 66) hC 0 fl_X5_9 dX5_nextOf_66 rfl rfl ?_
        refine g_iload_n (pc := 69) hC 5 dX5_nextOf_69 rfl rfl ?_
        refine g_iald (pc := 70) hC 1 dX5_nextOf_70 rfl (by omega) ?_
        have q12 := r_kd p
        by_cases k71_1 : kd p = 1
        · refine g_tswIn (pc := 71) hC (1) (off := 37) 108 dX5_nextOf_71 k71_1 (by omega) (by decide) (by decide) ?_
          refine g_iload (pc := 108) hC 1 dX5_nextOf_108 rfl ?_
          exact g_iret (pc := 110) hR dX5_nextOf_110 rfl ⟨by omega, by omega⟩ (Nat.le_of_ble_eq_true rfl) ⟨ret_eq (by rw [nl_1 hl7 (by omega)]; omega), rfl⟩
        by_cases k71_2 : kd p = 2
        · refine g_tswIn (pc := 71) hC (2) (off := 40) 111 dX5_nextOf_71 k71_2 (by omega) (by decide) (by decide) ?_
          refine g_iload (pc := 111) hC 0 dX5_nextOf_111 rfl ?_
          refine g_if_eq (pc := 113) hC 121 dX5_nextOf_113 (by decide) (by omega) (fun c113 => by exfalso; omega) (fun c113 => ?_)
          refine g_iload (pc := 116) hC 2 dX5_nextOf_116 rfl ?_
          refine g_goto (pc := 118) hC 122 dX5_nextOf_118 (by decide) ?_
          exact g_iret (pc := 122) hR dX5_nextOf_122 rfl ⟨by omega, by omega⟩ (Nat.le_of_ble_eq_true rfl) ⟨ret_eq (by rw [nl_2 hl7 (by omega)]; omega), rfl⟩
        by_cases k71_3 : kd p = 3
        · refine g_tswIn (pc := 71) hC (3) (off := 52) 123 dX5_nextOf_71 k71_3 (by omega) (by decide) (by decide) ?_
          refine g_iload (pc := 123) hC 2 dX5_nextOf_123 rfl ?_
          refine g_iload_n (pc := 125) hC 3 dX5_nextOf_125 rfl rfl ?_
          refine g_iadd (pc := 126) hC dX5_nextOf_126 ?_
          refine g_iconst (pc := 127) hC dX5_nextOf_127 ?_
          refine g_idiv (pc := 128) hC dX5_nextOf_128 (by omega) (by omega) ?_
          exact g_iret (pc := 129) hR dX5_nextOf_129 rfl ⟨by omega, by omega⟩ (Nat.le_of_ble_eq_true rfl) ⟨ret_eq (by rw [nl_3 hl7 (by omega)]; omega), rfl⟩
        by_cases k71_4 : kd p = 4
        · refine g_tswIn (pc := 71) hC (4) (off := 59) 130 dX5_nextOf_71 k71_4 (by omega) (by decide) (by decide) ?_
          refine g_aload_n (pc := 130) hC 4 dX5_nextOf_130 rfl rfl ?_
          refine g_get (pc := 131) hC 0 fl_X5_43 dX5_nextOf_131 rfl rfl ?_
          refine g_iconst (pc := 134) hC dX5_nextOf_134 ?_
          refine g_irem (pc := 135) hC dX5_nextOf_135 (by omega) (by omega) ?_
          refine g_if_ne (pc := 136) hC 153 dX5_nextOf_136 (by decide) (by omega) (fun c136 => ?_) (fun c136 => ?_)
          · refine g_iload (pc := 153) hC 1 dX5_nextOf_153 rfl ?_
            exact g_iret (pc := 155) hR dX5_nextOf_155 rfl ⟨by omega, by omega⟩ (Nat.le_of_ble_eq_true rfl) ⟨ret_eq (by rw [nl_4 hl7 (by omega)]; omega), rfl⟩
          · refine g_iload (pc := 139) hC 1 dX5_nextOf_139 rfl ?_
            refine g_bipush (pc := 141) hC (9) dX5_nextOf_141 (by decide) ?_
            refine g_icmp_ge (pc := 143) hC 153 dX5_nextOf_143 (by decide) (by omega) (by omega) (fun c143 => ?_) (fun c143 => ?_)
            · refine g_iload (pc := 153) hC 1 dX5_nextOf_153 rfl ?_
              exact g_iret (pc := 155) hR dX5_nextOf_155 rfl ⟨by omega, by omega⟩ (Nat.le_of_ble_eq_true rfl) ⟨ret_eq (by rw [nl_4 hl7 (by omega)]; omega), rfl⟩
            · refine g_iload (pc := 146) hC 1 dX5_nextOf_146 rfl ?_
              refine g_iconst (pc := 148) hC dX5_nextOf_148 ?_
              refine g_iadd (pc := 149) hC dX5_nextOf_149 ?_
              refine g_goto (pc := 150) hC 155 dX5_nextOf_150 (by decide) ?_
              exact g_iret (pc := 155) hR dX5_nextOf_155 rfl ⟨by omega, by omega⟩ (Nat.le_of_ble_eq_true rfl) ⟨ret_eq (by rw [nl_4 hl7 (by omega)]; omega), rfl⟩
        by_cases k71_5 : kd p = 5
        · refine g_tswIn (pc := 71) hC (5) (off := 85) 156 dX5_nextOf_71 k71_5 (by omega) (by decide) (by decide) ?_
          refine g_iload (pc := 156) hC 0 dX5_nextOf_156 rfl ?_
          refine g_if_eq (pc := 158) hC 181 dX5_nextOf_158 (by decide) (by omega) (fun c158 => by exfalso; omega) (fun c158 => ?_)
          refine g_aload_n (pc := 161) hC 4 dX5_nextOf_161 rfl rfl ?_
          refine g_iload_n (pc := 162) hC 5 dX5_nextOf_162 rfl rfl ?_
          refine g_iload_n (pc := 163) hC 6 dX5_nextOf_163 rfl rfl ?_
          refine g_fnV (pc := 164) (qr := 0) hC [0, 3] (k_X5_apart _ _ _ _ _ _ _ _ _ _ _ _ _ (by first | assumption | omega) (by first | assumption | omega) (by first | assumption | omega) (by first | assumption | omega) (by first | assumption | omega) hrm9) cl_X5_apart wm_X5_50 dX5_nextOf_164 rfl rfl rfl rfl rfl (by decide) (by decide) ⟨by omega, by omega⟩ (Nat.le_of_ble_eq_true rfl) rfl rfl ?_
          refine g_name hC (fun x164 e_x164 => ?_)
          rw [hl4] at e_x164
          refine g_aload_n (pc := 167) hC 4 dX5_nextOf_167 rfl rfl ?_
          refine g_get (pc := 168) hC 0 fl_X5_15 dX5_nextOf_168 rfl rfl ?_
          refine g_iload_n (pc := 171) hC 5 dX5_nextOf_171 rfl rfl ?_
          refine g_iald (pc := 172) hC 2 dX5_nextOf_172 rfl (by omega) ?_
          have q13 := r_nb p
          refine g_icmp_gt (pc := 173) hC 181 dX5_nextOf_173 (by decide) (by omega) (by omega) (fun c173 => ?_) (fun c173 => ?_)
          · refine g_iload_n (pc := 181) hC 3 dX5_nextOf_181 rfl rfl ?_
            exact g_iret (pc := 182) hR dX5_nextOf_182 rfl ⟨by omega, by omega⟩ (Nat.le_of_ble_eq_true rfl) ⟨ret_eq (by rw [nl_5 hl7 (by omega)]; omega), rfl⟩
          · refine g_iload (pc := 176) hC 2 dX5_nextOf_176 rfl ?_
            refine g_goto (pc := 178) hC 182 dX5_nextOf_178 (by decide) ?_
            exact g_iret (pc := 182) hR dX5_nextOf_182 rfl ⟨by omega, by omega⟩ (Nat.le_of_ble_eq_true rfl) ⟨ret_eq (by rw [nl_5 hl7 (by omega)]; omega), rfl⟩
        by_cases k71_6 : kd p = 6
        · refine g_tswIn (pc := 71) hC (6) (off := 112) 183 dX5_nextOf_71 k71_6 (by omega) (by decide) (by decide) ?_
          refine g_iload (pc := 183) hC 2 dX5_nextOf_183 rfl ?_
          refine g_iload_n (pc := 185) hC 3 dX5_nextOf_185 rfl rfl ?_
          refine g_iadd (pc := 186) hC dX5_nextOf_186 ?_
          refine g_iconst (pc := 187) hC dX5_nextOf_187 ?_
          refine g_idiv (pc := 188) hC dX5_nextOf_188 (by omega) (by omega) ?_
          refine g_aload_n (pc := 189) hC 4 dX5_nextOf_189 rfl rfl ?_
          refine g_get (pc := 190) hC 0 fl_X5_24 dX5_nextOf_190 rfl rfl ?_
          refine g_iload_n (pc := 193) hC 5 dX5_nextOf_193 rfl rfl ?_
          refine g_iconst (pc := 194) hC dX5_nextOf_194 ?_
          refine g_imul (pc := 195) hC dX5_nextOf_195 ?_
          refine g_aload_n (pc := 196) hC 4 dX5_nextOf_196 rfl rfl ?_
          refine g_get (pc := 197) hC 0 fl_X5_43 dX5_nextOf_197 rfl rfl ?_
          refine g_iconst (pc := 200) hC dX5_nextOf_200 ?_
          refine g_irem (pc := 201) hC dX5_nextOf_201 (by omega) (by omega) ?_
          refine g_iadd (pc := 202) hC dX5_nextOf_202 ?_
          refine g_iald (pc := 203) hC 5 dX5_nextOf_203 rfl (by omega) ?_
          have q14 := r_rw ((p * 4) + (sp % 4))
          refine g_iadd (pc := 204) hC dX5_nextOf_204 ?_
          refine g_bipush (pc := 205) hC (10) dX5_nextOf_205 (by decide) ?_
          refine g_irem (pc := 207) hC dX5_nextOf_207 (by omega) (by omega) ?_
          exact g_iret (pc := 208) hR dX5_nextOf_208 rfl ⟨by omega, by omega⟩ (Nat.le_of_ble_eq_true rfl) ⟨ret_eq (by rw [nl_6 hl7 (by omega)]; omega), rfl⟩
        refine g_tswOut (pc := 71) hC 209 dX5_nextOf_71 (by omega) (by omega) (by decide) ?_
        refine g_iload (pc := 209) hC 2 dX5_nextOf_209 rfl ?_
        exact g_iret (pc := 211) hR dX5_nextOf_211 rfl ⟨by omega, by omega⟩ (Nat.le_of_ble_eq_true rfl) ⟨ret_eq (by rw [nl_0 hl7 (by omega)]; omega), rfl⟩
  · refine g_iload_n (pc := 25) hC 0 dX5_nextOf_25 rfl rfl ?_
    exact g_iret (pc := 26) hR dX5_nextOf_26 rfl ⟨by omega, by omega⟩ (Nat.le_of_ble_eq_true rfl) ⟨ret_eq (by unfold md_nl; rw [if_pos (by omega)]; omega), rfl⟩
set_option maxHeartbeats 4000000 in
set_option maxRecDepth 100000 in
theorem k_X2_reach_n {K : gK} (q0 : Nat) (w_facts : Value) (w_weighed : Value) (w_stamp : Value) : gFn K yX2_reach cX2_reach 1 (some .int) 0 [.ref q0] [cO q0 2 [.null, w_facts, w_weighed, w_stamp]] (9) := by
  refine g_enter (by decide +kernel) (Nat.le_of_ble_eq_true rfl) (fun G hC hR => ?_)
  refine g_lv hC [0] [(0, _)] rfl ?_
  refine g_aload_n (pc := 0) hC 0 dX2_reach_0 rfl rfl ?_
  refine g_get (pc := 1) hC 0 fl_X2_22 dX2_reach_1 rfl rfl ?_
  refine g_ifnonnullN (pc := 4) hC dX2_reach_4 ?_
  refine g_bipush (pc := 7) hC (9) dX2_reach_7 (by decide) ?_
  refine g_goto (pc := 9) hC 19 dX2_reach_9 (by decide) ?_
  exact g_iret (pc := 19) hR dX2_reach_19 rfl ⟨by omega, by omega⟩ (Nat.le_of_ble_eq_true rfl) ⟨ret_eq rfl, rfl⟩
set_option maxHeartbeats 4000000 in
set_option maxRecDepth 100000 in
theorem k_X2_reach_r {K : gK} (q0 : Nat) (o0 : Nat) (w_facts : Value) (w_weighed : Value) (w_stamp : Value) (w_orders : Value) (w_size : Value) (rc : Int) (r_rc : rI rc) : gFn K yX2_reach cX2_reach 1 (some .int) 0 [.ref q0] [cO q0 2 [.ref o0, w_facts, w_weighed, w_stamp], cO o0 1 [w_orders, w_size, .int (iI rc)]] (rc) := by
  refine g_enter (by decide +kernel) (Nat.le_of_ble_eq_true rfl) (fun G hC hR => ?_)
  refine g_lv hC [0] [(0, _)] rfl ?_
  refine g_aload_n (pc := 0) hC 0 dX2_reach_0 rfl rfl ?_
  refine g_get (pc := 1) hC 0 fl_X2_22 dX2_reach_1 rfl rfl ?_
  refine g_ifnonnullR (pc := 4) hC 12 dX2_reach_4 (by decide) ?_
  refine g_aload_n (pc := 12) hC 0 dX2_reach_12 rfl rfl ?_
  refine g_get (pc := 13) hC 0 fl_X2_22 dX2_reach_13 rfl rfl ?_
  refine g_get (pc := 16) hC 1 fl_X2_27 dX2_reach_16 rfl rfl ?_
  exact g_iret (pc := 19) hR dX2_reach_19 rfl ⟨by omega, by omega⟩ (Nat.le_of_ble_eq_true rfl) ⟨ret_eq rfl, rfl⟩
set_option maxHeartbeats 4000000 in
set_option maxRecDepth 100000 in
theorem k_X2_onBy_n {K : gK} (q0 : Nat) (h0 : Nat) (k0 : Nat) (k1 : Nat) (k2 : Nat) (k3 : Nat) (k4 : Nat) (k5 : Nat) (w_facts : Value) (w_weighed : Value) (w_stamp : Value) (p : Int) (q : Int) (aw : Int) (cn : Int) (sp : Int) (kd : Int → Int) (nb : Int → Int) (rm : Int → Int) (st : Int → Int) (rw : Int → Int) (nx : Int → Int) (s : Int → Int) (W : (Int → Int) → Int) (rch : Int) (r_p : rI p) (r_q : rI q) (r_aw : rI aw) (r_cn : rI cn) (r_sp : rI sp) (r_kd : ∀ j, rI (kd j)) (r_nb : ∀ j, rI (nb j)) (r_rm : ∀ j, rI (rm j)) (r_st : ∀ j, rI (st j)) (r_rw : ∀ j, rI (rw j)) (r_nx : ∀ j, rI (nx j)) (hg : md_rg s) (hR9 : cs_R s kd nb rm st rw nx aw cn sp) (hp : 0 ≤ p ∧ p < s 19) (hq : 0 ≤ q ∧ q < s 19) (hW0 : (∀ b, W b = 0) ∧ rch = 9) : gFn K yX2_onBy cX2_onBy 8 (some .int) 1 [.ref q0, .ref h0, .int (iI p), .int (iI q)] [cO q0 2 [.null, w_facts, w_weighed, w_stamp], cO h0 5 [.ref k0, .ref k1, .ref k2, .ref k3, .ref k4, .ref k5, .int (iI aw), .int (iI cn), .int (iI sp)], cA K k0 6 kd, cA K k1 6 nb, cA K k2 6 rm, cA K k3 6 st, cA K k4 24 rw, cA K k5 6 nx] (md_pull W s p q) := by
  refine g_enter (by decide +kernel) (Nat.le_of_ble_eq_true rfl) (fun G hC hR => ?_)
  refine g_lv hC [0, 1, 2, 3] [(0, _), (1, _), (2, _), (3, _)] rfl ?_
  have h19 := hg.2.2.1
  have hg0 := hg.2.2.2
  have hcs := hR9.1
  refine g_aload_n (pc := 0) hC 1 dX2_onBy_0 rfl rfl ?_
  refine g_iload_n (pc := 1) hC 2 dX2_onBy_1 rfl rfl ?_
  refine g_fnV (pc := 2) (qr := 1) hC [1] (k_X5_has _ _ _ _ _ _ _ _ _ _ _ (by first | assumption | omega) (by first | assumption | omega)) cl_X5_has wm_X2_32 dX2_onBy_2 rfl rfl rfl rfl rfl (by decide) (by decide) ⟨by omega, by omega⟩ (Nat.le_of_ble_eq_true rfl) rfl rfl ?_
  refine g_name hC (fun x1 e_x1 => ?_)
  refine g_if_eq (pc := 5) hC 16 dX2_onBy_5 (by decide) (by omega) (fun c5 => by exfalso; omega) (fun c5 => ?_)
  refine g_aload_n (pc := 8) hC 1 dX2_onBy_8 rfl rfl ?_
  refine g_iload_n (pc := 9) hC 3 dX2_onBy_9 rfl rfl ?_
  refine g_fnV (pc := 10) (qr := 1) hC [1] (k_X5_has _ _ _ _ _ _ _ _ _ _ _ (by first | assumption | omega) (by first | assumption | omega)) cl_X5_has wm_X2_32 dX2_onBy_10 rfl rfl rfl rfl rfl (by decide) (by decide) ⟨by omega, by omega⟩ (Nat.le_of_ble_eq_true rfl) rfl rfl ?_
  refine g_name hC (fun x2 e_x2 => ?_)
  refine g_if_ne (pc := 13) hC 18 dX2_onBy_13 (by decide) (by omega) (fun c13 => ?_) (fun c13 => by exfalso; omega)
  refine g_aload_n (pc := 18) hC 1 dX2_onBy_18 rfl rfl ?_
  refine g_iload_n (pc := 19) hC 2 dX2_onBy_19 rfl rfl ?_
  refine g_iload_n (pc := 20) hC 3 dX2_onBy_20 rfl rfl ?_
  refine g_fnV (pc := 21) (qr := 1) hC [1, 4] (k_X5_apart _ _ _ _ _ _ _ _ _ _ _ _ _ (by first | assumption | omega) (by first | assumption | omega) (by first | assumption | omega) (by first | assumption | omega) (by first | assumption | omega) (fun j h1 h2 => (hR9.2.2.2.1 j h1 h2).1)) cl_X5_apart wm_X2_38 dX2_onBy_21 rfl rfl rfl rfl rfl (by decide) (by decide) ⟨by omega, by omega⟩ (Nat.le_of_ble_eq_true rfl) rfl rfl ?_
  refine g_name hC (fun x3 e_x3 => ?_)
  have hap := cs_ap hR9 hp hq
  refine g_istore (pc := 24) hC [(4, _), (0, _), (1, _), (2, _), (3, _)] dX2_onBy_24 (by decide) rfl ?_
  refine g_aload_n (pc := 26) hC 1 dX2_onBy_26 rfl rfl ?_
  refine g_get (pc := 27) hC 0 fl_X2_22 dX2_onBy_27 rfl rfl ?_
  refine g_ifnonnullN (pc := 30) hC dX2_onBy_30 ?_
  refine g_bipush (pc := 33) hC (10) dX2_onBy_33 (by decide) ?_
  refine g_iload (pc := 35) hC 0 dX2_onBy_35 rfl ?_
  refine g_isub (pc := 37) hC dX2_onBy_37 ?_
  exact g_iret (pc := 38) hR dX2_onBy_38 rfl ⟨by omega, by omega⟩ (Nat.le_of_ble_eq_true rfl) ⟨ret_eq (by unfold md_pull; rw [hW0.1, ← hap]; omega), rfl⟩
set_option maxHeartbeats 4000000 in
set_option maxRecDepth 100000 in
theorem k_X2_onBy_r {K : gK} (q0 : Nat) (h0 : Nat) (o0 : Nat) (q1 : Nat) (q2 : Nat) (o1 : Nat) (k0 : Nat) (k1 : Nat) (k2 : Nat) (k3 : Nat) (k4 : Nat) (k5 : Nat) (p : Int) (q : Int) (stp : Int) (m : Int) (rc : Int) (aw : Int) (cn : Int) (sp : Int) (fc : Int → Int) (wg : Int → Int) (od : Int → Int) (kd : Int → Int) (nb : Int → Int) (rm : Int → Int) (st : Int → Int) (rw : Int → Int) (nx : Int → Int) (s : Int → Int) (W : (Int → Int) → Int) (rch : Int) (r_p : rI p) (r_q : rI q) (r_stp : rI stp) (r_m : rI m) (r_rc : rI rc) (r_aw : rI aw) (r_cn : rI cn) (r_sp : rI sp) (r_fc : ∀ j, rI (fc j)) (r_wg : ∀ j, rI (wg j)) (r_od : ∀ j, rI (od j)) (r_kd : ∀ j, rI (kd j)) (r_nb : ∀ j, rI (nb j)) (r_rm : ∀ j, rI (rm j)) (r_st : ∀ j, rI (st j)) (r_rw : ∀ j, rI (rw j)) (r_nx : ∀ j, rI (nx j)) (hg : md_rg s) (hR9 : cs_R s kd nb rm st rw nx aw cn sp) (hp : 0 ≤ p ∧ p < s 19) (hq : 0 ≤ q ∧ q < s 19) (hho : md_ho W od m) (hcc : md_CC W (fun z => s (26 + z)) wg stp) (hWr : ∀ b, -990 ≤ W b ∧ W b ≤ 990) : gMet K yX2_onBy cX2_onBy 8 (some .int) 1 0 0 [.ref q0, .ref h0, .int (iI p), .int (iI q)] [cO q0 2 [.ref o0, .ref q1, .ref q2, .int (iI stp)], cA K q1 6 fc, cA K q2 36000 wg, cO o0 1 [.ref o1, .int (iI m), .int (iI rc)], cA K o1 100 od, cO h0 5 [.ref k0, .ref k1, .ref k2, .ref k3, .ref k4, .ref k5, .int (iI aw), .int (iI cn), .int (iI sp)], cA K k0 6 kd, cA K k1 6 nb, cA K k2 6 rm, cA K k3 6 st, cA K k4 24 rw, cA K k5 6 nx] (fun v9 w9 => ∃ (fc2 : Int → Int), ∃ (wg2 : Int → Int), v9 = some (.int (iI (md_pull W s p q))) ∧ w9 = [cO q0 2 [.ref o0, .ref q1, .ref q2, .int (iI stp)], cA K q1 6 fc2, cA K q2 36000 wg2, cO o0 1 [.ref o1, .int (iI m), .int (iI rc)], cA K o1 100 od, cO h0 5 [.ref k0, .ref k1, .ref k2, .ref k3, .ref k4, .ref k5, .int (iI aw), .int (iI cn), .int (iI sp)], cA K k0 6 kd, cA K k1 6 nb, cA K k2 6 rm, cA K k3 6 st, cA K k4 24 rw, cA K k5 6 nx] ∧ (∀ j, rI (fc2 j)) ∧ (∀ j, rI (wg2 j)) ∧ (md_CC W (fun z => s (26 + z)) wg2 stp)) := by
  refine g_enter (by decide +kernel) (Nat.le_of_ble_eq_true rfl) (fun G hC hR => ?_)
  refine g_lv hC [0, 1, 2, 3] [(0, _), (1, _), (2, _), (3, _)] rfl ?_
  have h19 := hg.2.2.1
  have hg0 := hg.2.2.2
  have hcs := hR9.1
  have hp1 := hR9.2.1 p hp.1 hp.2
  have hq1 := hR9.2.1 q hq.1 hq.2
  have hgp := hg.1 p hp.1 (by omega)
  have hgq := hg.1 q hq.1 (by omega)
  have hap := cs_ap hR9 hp hq
  have har := md_apart_rng hg (show 0 ≤ p ∧ p < 6 by omega) (show 0 ≤ q ∧ q < 6 by omega)
  have hc1 := hcc.1
  refine g_aload_n (pc := 0) hC 1 dX2_onBy_0 rfl rfl ?_
  refine g_iload_n (pc := 1) hC 2 dX2_onBy_1 rfl rfl ?_
  refine g_fnV (pc := 2) (qr := 5) hC [5] (k_X5_has _ _ _ _ _ _ _ _ _ _ _ (by first | assumption | omega) (by first | assumption | omega)) cl_X5_has wm_X2_32 dX2_onBy_2 rfl rfl rfl rfl rfl (by decide) (by decide) ⟨by omega, by omega⟩ (Nat.le_of_ble_eq_true rfl) rfl rfl ?_
  refine g_name hC (fun x1 e_x1 => ?_)
  refine g_if_eq (pc := 5) hC 16 dX2_onBy_5 (by decide) (by omega) (fun c5 => by exfalso; omega) (fun c5 => ?_)
  refine g_aload_n (pc := 8) hC 1 dX2_onBy_8 rfl rfl ?_
  refine g_iload_n (pc := 9) hC 3 dX2_onBy_9 rfl rfl ?_
  refine g_fnV (pc := 10) (qr := 5) hC [5] (k_X5_has _ _ _ _ _ _ _ _ _ _ _ (by first | assumption | omega) (by first | assumption | omega)) cl_X5_has wm_X2_32 dX2_onBy_10 rfl rfl rfl rfl rfl (by decide) (by decide) ⟨by omega, by omega⟩ (Nat.le_of_ble_eq_true rfl) rfl rfl ?_
  refine g_name hC (fun x2 e_x2 => ?_)
  refine g_if_ne (pc := 13) hC 18 dX2_onBy_13 (by decide) (by omega) (fun c13 => ?_) (fun c13 => by exfalso; omega)
  refine g_aload_n (pc := 18) hC 1 dX2_onBy_18 rfl rfl ?_
  refine g_iload_n (pc := 19) hC 2 dX2_onBy_19 rfl rfl ?_
  refine g_iload_n (pc := 20) hC 3 dX2_onBy_20 rfl rfl ?_
  refine g_fnV (pc := 21) (qr := 5) hC [5, 8] (k_X5_apart _ _ _ _ _ _ _ _ _ _ _ _ _ (by first | assumption | omega) (by first | assumption | omega) (by first | assumption | omega) (by first | assumption | omega) (by first | assumption | omega) (fun j h1 h2 => (hR9.2.2.2.1 j h1 h2).1)) cl_X5_apart wm_X2_38 dX2_onBy_21 rfl rfl rfl rfl rfl (by decide) (by decide) ⟨by omega, by omega⟩ (Nat.le_of_ble_eq_true rfl) rfl rfl ?_
  refine g_name hC (fun x4 e_x4 => ?_)
  have hx4 : x4 = md_apart s p q := by rw [e_x4, hap]
  refine g_istore (pc := 24) hC [(4, _), (0, _), (1, _), (2, _), (3, _)] dX2_onBy_24 (by decide) rfl ?_
  refine g_aload_n (pc := 26) hC 1 dX2_onBy_26 rfl rfl ?_
  refine g_get (pc := 27) hC 0 fl_X2_22 dX2_onBy_27 rfl rfl ?_
  refine g_ifnonnullR (pc := 30) hC 39 dX2_onBy_30 (by decide) ?_
  refine g_aload_n (pc := 39) hC 2 dX2_onBy_39 rfl rfl ?_
  refine g_get (pc := 40) hC 5 fl_X2_42 dX2_onBy_40 rfl rfl ?_
  refine g_bipush (pc := 43) hC (10) dX2_onBy_43 (by decide) ?_
  refine g_irem (pc := 45) hC dX2_onBy_45 (by omega) (by omega) ?_
  refine g_name hC (fun x5 e_x5 => ?_)
  refine g_istore (pc := 46) hC [(5, _), (4, _), (0, _), (1, _), (2, _), (3, _)] dX2_onBy_46 (by decide) rfl ?_
  refine g_aload_n (pc := 48) hC 3 dX2_onBy_48 rfl rfl ?_
  refine g_get (pc := 49) hC 5 fl_X2_45 dX2_onBy_49 rfl rfl ?_
  refine g_iload_n (pc := 52) hC 5 dX2_onBy_52 rfl rfl ?_
  refine g_iald (pc := 53) hC 9 dX2_onBy_53 rfl (by omega) ?_
  have q3 := r_st q
  refine g_name hC (fun x6 e_x6 => ?_)
  refine g_istore (pc := 54) hC [(6, _), (5, _), (4, _), (0, _), (1, _), (2, _), (3, _)] dX2_onBy_54 (by decide) rfl ?_
  refine g_iload_n (pc := 56) hC 5 dX2_onBy_56 rfl rfl ?_
  refine g_bipush (pc := 57) hC (6) dX2_onBy_57 (by decide) ?_
  refine g_imul (pc := 59) hC dX2_onBy_59 ?_
  refine g_iload_n (pc := 60) hC 6 dX2_onBy_60 rfl rfl ?_
  refine g_iadd (pc := 61) hC dX2_onBy_61 ?_
  refine g_bipush (pc := 62) hC (10) dX2_onBy_62 (by decide) ?_
  refine g_imul (pc := 64) hC dX2_onBy_64 ?_
  refine g_iload (pc := 65) hC 0 dX2_onBy_65 rfl ?_
  refine g_iadd (pc := 67) hC dX2_onBy_67 ?_
  refine g_bipush (pc := 68) hC (10) dX2_onBy_68 (by decide) ?_
  refine g_imul (pc := 70) hC dX2_onBy_70 ?_
  refine g_iload (pc := 71) hC 2 dX2_onBy_71 rfl ?_
  refine g_iadd (pc := 73) hC dX2_onBy_73 ?_
  refine g_bipush (pc := 74) hC (10) dX2_onBy_74 (by decide) ?_
  refine g_imul (pc := 76) hC dX2_onBy_76 ?_
  refine g_iload (pc := 77) hC 1 dX2_onBy_77 rfl ?_
  refine g_iadd (pc := 79) hC dX2_onBy_79 ?_
  refine g_name hC (fun x7 e_x7 => ?_)
  have hx7 : 0 ≤ x7 ∧ x7 < 36000 := by omega
  have hwg := hcc.2.1 x7 hx7.1 hx7.2
  have hcq := hcc.2.2 p q x6 x4 x5 (by omega) (by omega) (by omega) (by omega) (by omega) (by omega) (by omega) (by omega) (by omega) (by omega)
  rw [← e_x7] at hcq
  have hpull : md_pull W s p q = 10 - x4 + W (tk_b p q (s (26 + p)) x6 x4 x5) := by unfold md_pull; rw [e_x6, hq1.2.2.2.1, e_x5, hcs.2.1, hx4]
  have hWb := hWr (tk_b p q (s (26 + p)) x6 x4 x5)
  refine g_istore (pc := 80) hC [(7, _), (6, _), (5, _), (4, _), (0, _), (1, _), (2, _), (3, _)] dX2_onBy_80 (by decide) rfl ?_
  refine g_iload (pc := 82) hC 0 dX2_onBy_82 rfl ?_
  refine g_if_lt (pc := 84) hC 97 dX2_onBy_84 (by decide) (by omega) (fun c84 => by exfalso; omega) (fun c84 => ?_)
  refine g_iload (pc := 87) hC 0 dX2_onBy_87 rfl ?_
  refine g_aload_n (pc := 89) hC 4 dX2_onBy_89 rfl rfl ?_
  refine g_get (pc := 90) hC 0 fl_X2_15 dX2_onBy_90 rfl rfl ?_
  refine g_alen (pc := 93) hC 2 dX2_onBy_93 rfl ?_
  refine g_st hC [.int (iI 36000), _] rfl ?_
  refine g_icmp_lt (pc := 94) hC 103 dX2_onBy_94 (by decide) (by omega) (by omega) (fun c94 => ?_) (fun c94 => by exfalso; omega)
  refine g_aload_n (pc := 103) hC 4 dX2_onBy_103 rfl rfl ?_
  refine g_get (pc := 104) hC 0 fl_X2_15 dX2_onBy_104 rfl rfl ?_
  refine g_iload (pc := 107) hC 0 dX2_onBy_107 rfl ?_
  refine g_iald (pc := 109) hC 2 dX2_onBy_109 rfl (by omega) ?_
  have q4 := r_wg x7
  refine g_sipush (pc := 110) hC (2048) dX2_onBy_110 (by decide) ?_
  refine g_idiv (pc := 113) hC dX2_onBy_113 (by omega) (by omega) ?_
  refine g_aload_n (pc := 114) hC 4 dX2_onBy_114 rfl rfl ?_
  refine g_get (pc := 115) hC 0 fl_X2_18 dX2_onBy_115 rfl rfl ?_
  refine g_icmp_eq (pc := 118) hC 202 dX2_onBy_118 (by decide) (by omega) (by omega) (fun c118 => ?_) (fun c118 => ?_)
  · refine g_bipush (pc := 202) hC (10) dX2_onBy_202 (by decide) ?_
    refine g_iload (pc := 204) hC 3 dX2_onBy_204 rfl ?_
    refine g_isub (pc := 206) hC dX2_onBy_206 ?_
    refine g_aload_n (pc := 207) hC 4 dX2_onBy_207 rfl rfl ?_
    refine g_get (pc := 208) hC 0 fl_X2_15 dX2_onBy_208 rfl rfl ?_
    refine g_iload (pc := 211) hC 0 dX2_onBy_211 rfl ?_
    refine g_iald (pc := 213) hC 2 dX2_onBy_213 rfl (by omega) ?_
    have q5 := r_wg x7
    have hwg9 := hwg
    refine g_sipush (pc := 214) hC (2048) dX2_onBy_214 (by decide) ?_
    refine g_irem (pc := 217) hC dX2_onBy_217 (by omega) (by omega) ?_
    refine g_iadd (pc := 218) hC dX2_onBy_218 ?_
    refine g_sipush (pc := 219) hC (1024) dX2_onBy_219 (by decide) ?_
    refine g_isub (pc := 222) hC dX2_onBy_222 ?_
    exact g_iret (pc := 223) hR dX2_onBy_223 rfl ⟨by omega, by omega⟩ (Nat.le_of_ble_eq_true rfl) ⟨fc, wg, ret_eq (by rw [hpull, ← hcq (by omega)]; omega), rfl, (by first | assumption | omega), (by first | assumption | omega), hcc⟩
  · refine g_aload_n (pc := 121) hC 4 dX2_onBy_121 rfl rfl ?_
    refine g_get (pc := 122) hC 0 fl_X2_9 dX2_onBy_122 rfl rfl ?_
    refine g_iconst (pc := 125) hC dX2_onBy_125 ?_
    refine g_iload_n (pc := 126) hC 6 dX2_onBy_126 rfl rfl ?_
    refine g_iast (pc := 127) hC 1 (fun f9 => [_, cA K _ _ f9, _, _, _, _, _, _, _, _, _, _]) dX2_onBy_127 rfl (by omega) (fun _ => rfl) (fun f1 e_f1 => ?_)
    have r_f1 := rng_up e_f1 r_fc (by omega)
    refine g_aload_n (pc := 128) hC 4 dX2_onBy_128 rfl rfl ?_
    refine g_get (pc := 129) hC 0 fl_X2_9 dX2_onBy_129 rfl rfl ?_
    refine g_iconst (pc := 132) hC dX2_onBy_132 ?_
    refine g_iload_n (pc := 133) hC 7 dX2_onBy_133 rfl rfl ?_
    refine g_iast (pc := 134) hC 1 (fun f9 => [_, cA K _ _ f9, _, _, _, _, _, _, _, _, _, _]) dX2_onBy_134 rfl (by omega) (fun _ => rfl) (fun f2 e_f2 => ?_)
    have r_f2 := rng_up e_f2 r_f1 (by omega)
    refine g_aload_n (pc := 135) hC 4 dX2_onBy_135 rfl rfl ?_
    refine g_get (pc := 136) hC 0 fl_X2_9 dX2_onBy_136 rfl rfl ?_
    refine g_iconst (pc := 139) hC dX2_onBy_139 ?_
    refine g_aload_n (pc := 140) hC 5 dX2_onBy_140 rfl rfl ?_
    refine g_get (pc := 141) hC 5 fl_X2_48 dX2_onBy_141 rfl rfl ?_
    refine g_iload_n (pc := 144) hC 6 dX2_onBy_144 rfl rfl ?_
    refine g_iald (pc := 145) hC 6 dX2_onBy_145 rfl (by omega) ?_
    have q6 := r_kd p
    refine g_iast (pc := 146) hC 1 (fun f9 => [_, cA K _ _ f9, _, _, _, _, _, _, _, _, _, _]) dX2_onBy_146 rfl (by omega) (fun _ => rfl) (fun f3 e_f3 => ?_)
    have r_f3 := rng_up e_f3 r_f2 (by omega)
    refine g_aload_n (pc := 147) hC 4 dX2_onBy_147 rfl rfl ?_
    refine g_get (pc := 148) hC 0 fl_X2_9 dX2_onBy_148 rfl rfl ?_
    refine g_iconst (pc := 151) hC dX2_onBy_151 ?_
    refine g_iload (pc := 152) hC 1 dX2_onBy_152 rfl ?_
    refine g_iast (pc := 154) hC 1 (fun f9 => [_, cA K _ _ f9, _, _, _, _, _, _, _, _, _, _]) dX2_onBy_154 rfl (by omega) (fun _ => rfl) (fun f4 e_f4 => ?_)
    have r_f4 := rng_up e_f4 r_f3 (by omega)
    refine g_aload_n (pc := 155) hC 4 dX2_onBy_155 rfl rfl ?_
    refine g_get (pc := 156) hC 0 fl_X2_9 dX2_onBy_156 rfl rfl ?_
    refine g_iconst (pc := 159) hC dX2_onBy_159 ?_
    refine g_iload (pc := 160) hC 3 dX2_onBy_160 rfl ?_
    refine g_iast (pc := 162) hC 1 (fun f9 => [_, cA K _ _ f9, _, _, _, _, _, _, _, _, _, _]) dX2_onBy_162 rfl (by omega) (fun _ => rfl) (fun f5 e_f5 => ?_)
    have r_f5 := rng_up e_f5 r_f4 (by omega)
    refine g_aload_n (pc := 163) hC 4 dX2_onBy_163 rfl rfl ?_
    refine g_get (pc := 164) hC 0 fl_X2_9 dX2_onBy_164 rfl rfl ?_
    refine g_iconst (pc := 167) hC dX2_onBy_167 ?_
    refine g_iload (pc := 168) hC 2 dX2_onBy_168 rfl ?_
    refine g_iast (pc := 170) hC 1 (fun f9 => [_, cA K _ _ f9, _, _, _, _, _, _, _, _, _, _]) dX2_onBy_170 rfl (by omega) (fun _ => rfl) (fun f6 e_f6 => ?_)
    have r_f6 := rng_up e_f6 r_f5 (by omega)
    have hf6 : ∀ i, 0 ≤ i → i < 6 → tk_b p q (s (26 + p)) x6 x4 x5 i = f6 i := tk_b6' (by rw [e_f6, upI_ne (by omega), e_f5, upI_ne (by omega), e_f4, upI_ne (by omega), e_f3, upI_ne (by omega), e_f2, upI_ne (by omega), e_f1, upI_at]) (by rw [e_f6, upI_ne (by omega), e_f5, upI_ne (by omega), e_f4, upI_ne (by omega), e_f3, upI_ne (by omega), e_f2, upI_at]) (by rw [e_f6, upI_ne (by omega), e_f5, upI_ne (by omega), e_f4, upI_ne (by omega), e_f3, upI_at, hp1.1]) (by rw [e_f6, upI_ne (by omega), e_f5, upI_ne (by omega), e_f4, upI_at]) (by rw [e_f6, upI_ne (by omega), e_f5, upI_at]) (by rw [e_f6, upI_at])
    have hfr : ∀ i, 0 ≤ i → i < 6 → 0 ≤ f6 i ∧ f6 i ≤ 9 := fun i h1 h2 => by
      rw [← hf6 i h1 h2]
      unfold tk_b
      (repeat' split) <;> omega
    have hwe := hho.2.2 f6 hfr
    have hcg := hw_congr hf6 (n := m.toNat) (fun j hj => hho.2.1 j (by omega)) m.toNat (Nat.le_refl _)
    have hwb := (hho.2.2 (tk_b p q (s (26 + p)) x6 x4 x5) (fun i h1 h2 => by rw [hf6 i h1 h2]; exact hfr i h1 h2)).2
    refine g_aload_n (pc := 171) hC 4 dX2_onBy_171 rfl rfl ?_
    refine g_get (pc := 172) hC 0 fl_X2_15 dX2_onBy_172 rfl rfl ?_
    refine g_iload (pc := 175) hC 0 dX2_onBy_175 rfl ?_
    refine g_aload_n (pc := 177) hC 4 dX2_onBy_177 rfl rfl ?_
    refine g_get (pc := 178) hC 0 fl_X2_18 dX2_onBy_178 rfl rfl ?_
    refine g_sipush (pc := 181) hC (2048) dX2_onBy_181 (by decide) ?_
    refine g_imul (pc := 184) hC dX2_onBy_184 ?_
    refine g_sipush (pc := 185) hC (1024) dX2_onBy_185 (by decide) ?_
    refine g_iadd (pc := 188) hC dX2_onBy_188 ?_
    refine g_aload_n (pc := 189) hC 4 dX2_onBy_189 rfl rfl ?_
    refine g_get (pc := 190) hC 0 fl_X2_22 dX2_onBy_190 rfl rfl ?_
    refine g_aload_n (pc := 193) hC 4 dX2_onBy_193 rfl rfl ?_
    refine g_get (pc := 194) hC 0 fl_X2_9 dX2_onBy_194 rfl rfl ?_
    refine g_fnV (pc := 197) (qr := 3) hC [3, 4, 1] (k_X1_weigh _ _ _ _ _ _ _ (by first | assumption | omega) (by first | assumption | omega) (by first | assumption | omega) hho.1 hho.2.1 hwe.1) cl_X1_weigh wm_X2_51 dX2_onBy_197 rfl rfl rfl rfl rfl (by decide) (by decide) ⟨by omega, by omega⟩ (Nat.le_of_ble_eq_true rfl) rfl rfl ?_
    refine g_name hC (fun x8 e_x8 => ?_)
    have hx8 : x8 = W (tk_b p q (s (26 + p)) x6 x4 x5) := by rw [e_x8, ← hwb, hcg]
    refine g_iadd (pc := 200) hC dX2_onBy_200 ?_
    refine g_iast (pc := 201) hC 2 (fun f9 => [_, _, cA K _ _ f9, _, _, _, _, _, _, _, _, _]) dX2_onBy_201 rfl (by omega) (fun _ => rfl) (fun w9 e_w9 => ?_)
    have r_w9 := rng_up e_w9 r_wg (by omega)
    have hcc9 := md_CC_up (W := W) (kd := fun z => s (26 + z)) (p := p) (q := q) (x := x6) (d := x4) (t := x5) (w2 := w9) (v := x8) (by omega) (by omega) (by omega) (by omega) (by omega) (by rw [e_w9, e_x7]) hx8 (by omega) hcc
    have hw9 : w9 x7 = stp * 2048 + 1024 + x8 := by rw [e_w9]; exact upI_at _ _ _
    refine g_bipush (pc := 202) hC (10) dX2_onBy_202 (by decide) ?_
    refine g_iload (pc := 204) hC 3 dX2_onBy_204 rfl ?_
    refine g_isub (pc := 206) hC dX2_onBy_206 ?_
    refine g_aload_n (pc := 207) hC 4 dX2_onBy_207 rfl rfl ?_
    refine g_get (pc := 208) hC 0 fl_X2_15 dX2_onBy_208 rfl rfl ?_
    refine g_iload (pc := 211) hC 0 dX2_onBy_211 rfl ?_
    refine g_iald (pc := 213) hC 2 dX2_onBy_213 rfl (by omega) ?_
    have q7 := r_w9 x7
    skip
    refine g_sipush (pc := 214) hC (2048) dX2_onBy_214 (by decide) ?_
    refine g_irem (pc := 217) hC dX2_onBy_217 (by omega) (by omega) ?_
    refine g_iadd (pc := 218) hC dX2_onBy_218 ?_
    refine g_sipush (pc := 219) hC (1024) dX2_onBy_219 (by decide) ?_
    refine g_isub (pc := 222) hC dX2_onBy_222 ?_
    exact g_iret (pc := 223) hR dX2_onBy_223 rfl ⟨by omega, by omega⟩ (Nat.le_of_ble_eq_true rfl) ⟨f6, w9, ret_eq (by rw [hpull, ← hx8]; omega), rfl, (by first | assumption | omega), (by first | assumption | omega), hcc9⟩
