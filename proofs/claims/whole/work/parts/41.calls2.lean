/-! THE CLASS'S CALLS over the world: those that change what is -/
theorem cxI_lo {F : Nat → Int → Int} {I : Nat → Int} {s t im : Int → Int} {tk : Int} (e20 : t 20 = s 20) (h : cx_I F I s im tk) : cx_I F I t im tk := ⟨h.1, fun q => ⟨(h.2 q).1, (h.2 q).2.1, by rw [e20]; exact (h.2 q).2.2⟩⟩
theorem cxH_lo {F : Nat → Int → Int} {I : Nat → Int} {s t : Int → Int} (e20 : t 20 = s 20) (e : ∀ j, 212 ≤ j → t j = s j) (h : cx_H F I s (s 20)) : cx_H F I t (t 20) := by
  rw [e20]
  exact cx_Hs (fun k _ _ => ⟨e _ (by omega), e _ (by omega), fun j q1 q2 => e _ (by omega)⟩) h
theorem cxP_lo {ad : Nat → Nat} {F : Nat → Int → Int} {hv : Value} {N : Nat} {s t : Int → Int} {stp sp2 : Int} (e20 : t 20 = s 20) (hk : (t = s ∧ sp2 = stp) ∨ sp2 = stp + 1) (hb : stp ≤ 700000) (h : cx_P ad F hv N s stp) : cx_P ad F hv N t sp2 := by
  obtain ⟨h1, h2⟩ := h
  rcases hk with ⟨k1, k2⟩ | k2
  · rw [k1, k2]
    exact ⟨h1, h2⟩
  · rw [k2]
    refine ⟨by omega, ?_⟩
    rcases h2 with ⟨a1, a2, a3⟩ | ⟨h, a1, a2, a3, a4, a5⟩
    · exact Or.inl ⟨by rw [e20]; exact a1, a2, a3.elim Or.inl (fun q => Or.inr ⟨q.1, CB_s q.2 (by omega)⟩)⟩
    · exact Or.inr ⟨h, by rw [e20]; exact a1, a2, a3, a4, CB_CC (CC_CB a5) (by omega)⟩
theorem cxP_hi {ad : Nat → Nat} {F : Nat → Int → Int} {hv : Value} {N : Nat} {s t : Int → Int} {stp : Int} (e20 : t 20 = s 20) (eW : WSS t = WSS s) (ek : ∀ j, 26 ≤ j → j < 32 → t j = s j) (h : cx_P ad F hv N s stp) : cx_P ad F hv N t stp := by
  obtain ⟨h1, h2⟩ := h
  refine ⟨h1, ?_⟩
  rcases h2 with ⟨a1, a2, a3⟩ | ⟨h, a1, a2, a3, a4, a5⟩
  · exact Or.inl ⟨by rw [e20]; exact a1, a2, a3⟩
  · refine Or.inr ⟨h, by rw [e20]; exact a1, a2, a3, a4, ?_⟩
    rw [eW]
    exact md_CC_kd (fun z q1 q2 => (ek _ (by omega) (by omega)).symm) a5
theorem cxM_hi {F : Nat → Int → Int} {I : Nat → Int} {s t : Int → Int} (h19 : 0 ≤ s 19 ∧ s 19 ≤ 6) (eW : WSS t = WSS s ∧ rcS t = rcS s) (es : sim s t) (h : cx_M F I s) : cx_M F I t := by
  have e := sim_rmz (W := WSS s) (rch := rcS s) es h19
  unfold cx_M
  rw [eW.1, eW.2, ← e, ← es 19 (by omega)]
  exact h
theorem rowA_same {s t f1 f2 f3 : Int → Int} {n : Int} (h6 : s 21 ≤ 6) (e : ∀ j, j = 21 ∨ (62 ≤ j ∧ j < 80) → t j = s j) (h : n = s 21 ∧ ∀ k, 0 ≤ k → k < s 21 → f1 k = s (62 + k) ∧ f2 k = s (68 + k) ∧ f3 k = s (74 + k)) : n = t 21 ∧ ∀ k, 0 ≤ k → k < t 21 → f1 k = t (62 + k) ∧ f2 k = t (68 + k) ∧ f3 k = t (74 + k) := by
  rw [e 21 (Or.inl rfl)]
  refine ⟨h.1, fun k q1 q2 => ?_⟩
  rw [e _ (by omega), e _ (by omega), e _ (by omega)]
  exact h.2 k q1 q2
theorem rowB_same {s t f1 f2 : Int → Int} {n : Int} (h6 : s 22 ≤ 8) (e : ∀ j, j = 22 ∨ (80 ≤ j ∧ j < 96) → t j = s j) (h : n = s 22 ∧ ∀ k, 0 ≤ k → k < s 22 → f1 k = s (80 + k) ∧ f2 k = s (88 + k)) : n = t 22 ∧ ∀ k, 0 ≤ k → k < t 22 → f1 k = t (80 + k) ∧ f2 k = t (88 + k) := by
  rw [e 22 (Or.inl rfl)]
  refine ⟨h.1, fun k q1 q2 => ?_⟩
  rw [e _ (by omega), e _ (by omega)]
  exact h.2 k q1 q2
theorem rowC_same {s t f1 f2 : Int → Int} {n : Int} (h6 : s 23 ≤ 8) (e : ∀ j, j = 23 ∨ (96 ≤ j ∧ j < 112) → t j = s j) (h : n = s 23 ∧ ∀ k, 0 ≤ k → k < s 23 → f1 k = s (96 + k) ∧ f2 k = s (104 + k)) : n = t 23 ∧ ∀ k, 0 ≤ k → k < t 23 → f1 k = t (96 + k) ∧ f2 k = t (104 + k) := by
  rw [e 23 (Or.inl rfl)]
  refine ⟨h.1, fun k q1 q2 => ?_⟩
  rw [e _ (by omega), e _ (by omega)]
  exact h.2 k q1 q2
theorem rowT_same {s t f : Int → Int} {n : Int} (h6 : s 24 ≤ 100) (e : ∀ j, j = 24 ∨ (112 ≤ j ∧ j < 212) → t j = s j) (h : n = s 24 ∧ ∀ q, 0 ≤ q → q < s 24 → f q = s (112 + q)) : n = t 24 ∧ ∀ q, 0 ≤ q → q < t 24 → f q = t (112 + q) := by
  rw [e 24 (Or.inl rfl)]
  refine ⟨h.1, fun k q1 q2 => ?_⟩
  rw [e _ (by omega)]
  exact h.2 k q1 q2
theorem lo_man {s : Int → Int} {kind v room x : Int} (h19 : 0 ≤ s 19 ∧ s 19 ≤ 6) : ∀ j, (20 ≤ j ∧ j < 26) ∨ 62 ≤ j → ne_man s kind v room x j = s j := by
  intro j hj
  unfold ne_man
  by_cases hc : ((0 ≤ kind ∧ kind ≤ 6) ∧ (0 ≤ room ∧ room ≤ 9) ∧ (0 ≤ x ∧ x ≤ 9)) ∧ (0 ≤ v ∧ v ≤ 9) ∧ s 19 ≠ 6
  · rw [if_pos hc]; exact man_out (by omega) (by omega)
  · rw [if_neg hc]
theorem lo_row {s : Int → Int} {p k x : Int} (h19 : 0 ≤ s 19 ∧ s 19 ≤ 6) : ∀ j, (20 ≤ j ∧ j < 26) ∨ 62 ≤ j → ne_row s p k x j = s j := by
  intro j hj
  unfold ne_row
  by_cases hc : ((0 ≤ p ∧ p < s 19) ∧ (0 ≤ k ∧ k ≤ 3)) ∧ (0 ≤ x ∧ x ≤ 9) ∧ s (26 + p) = 6
  · rw [if_pos hc]; exact upI_ne (by omega)
  · rw [if_neg hc]
theorem lo_set {s : Int → Int} {p w x : Int} (h19 : 0 ≤ s 19 ∧ s 19 ≤ 6) : ∀ j, (20 ≤ j ∧ j < 26) ∨ 62 ≤ j → ne_set s p w x j = s j := by
  intro j hj
  unfold ne_set
  by_cases hc : (0 ≤ p ∧ p < s 19) ∧ (0 ≤ w ∧ w ≤ 1) ∧ (0 ≤ x ∧ x ≤ 9)
  · rw [if_pos hc]; exact upI_ne (by split <;> omega)
  · rw [if_neg hc]
theorem lo_away {s : Int → Int} {p z : Int} (h19 : 0 ≤ s 19 ∧ s 19 ≤ 6) : ∀ j, (20 ≤ j ∧ j < 26) ∨ 62 ≤ j → ne_away s p z j = s j := by
  intro j hj
  unfold ne_away
  by_cases hc : 0 ≤ p ∧ p < s 19
  · rw [if_pos hc]; exact upI_ne (by omega)
  · rw [if_neg hc]
theorem lo_pass {W : (Int → Int) → Int} {rch : Int} {s : Int → Int} {x : Int} (h19 : 0 ≤ s 19 ∧ s 19 ≤ 6) : ∀ j, (20 ≤ j ∧ j < 26) ∨ 62 ≤ j → ne_pass W rch s x j = s j := by
  intro j hj
  unfold ne_pass
  by_cases hc : (0 ≤ x ∧ x ≤ 60) ∧ s 0 + x ≤ 9999
  · rw [if_pos hc]; exact md_goN_hi h19.2 (by omega) _
  · rw [if_neg hc]
theorem hi_see {s : Int → Int} {p n x : Int} (h : 0 ≤ s 21 ∧ s 21 ≤ 6) : ∀ j, j ≠ 21 → ¬ (62 ≤ j ∧ j < 80) → ne_see s p n x j = s j := by
  intro j h1 h2
  unfold ne_see
  by_cases hp : p = -1
  · rw [if_pos hp, upI_ne h1]
  · rw [if_neg hp]
    by_cases hc : ((0 ≤ p ∧ p < s 19) ∧ (0 ≤ x ∧ x ≤ 9)) ∧ (0 ≤ n ∧ n ≤ 20) ∧ s 21 ≠ 6
    · rw [if_pos hc, upI_ne h1, upI_ne (by omega), upI_ne (by omega), upI_ne (by omega)]
    · rw [if_neg hc]
theorem hi_plan {s : Int → Int} {w n : Int} (h : 0 ≤ s 22 ∧ s 22 ≤ 8) : ∀ j, j ≠ 22 → ¬ (80 ≤ j ∧ j < 96) → ne_plan s w n j = s j := by
  intro j h1 h2
  unfold ne_plan
  by_cases hp : w = -1
  · rw [if_pos hp, upI_ne h1]
  · rw [if_neg hp]
    by_cases hc : an_isPlan s w n = 1 ∧ s 22 ≠ 8
    · rw [if_pos hc, upI_ne h1, upI_ne (by omega), upI_ne (by omega)]
    · rw [if_neg hc]
theorem hi_book {s : Int → Int} {p x : Int} (h : 0 ≤ s 23 ∧ s 23 ≤ 8) : ∀ j, j ≠ 23 → ¬ (96 ≤ j ∧ j < 112) → ne_book s p x j = s j := by
  intro j h1 h2
  unfold ne_book
  by_cases hp : p = -1
  · rw [if_pos hp, upI_ne h1]
  · rw [if_neg hp]
    by_cases hc : ((0 ≤ p ∧ p < s 19) ∧ (0 ≤ x ∧ x ≤ 9)) ∧ s 23 ≠ 8
    · rw [if_pos hc, upI_ne h1, upI_ne (by omega), upI_ne (by omega)]
    · rw [if_neg hc]
theorem hi_feed {s : Int → Int} {g : Int} (h : 0 ≤ s 24 ∧ s 24 ≤ 100) : ∀ j, j ≠ 24 → ¬ (112 ≤ j ∧ j < 212) → ne_feed s g j = s j := by
  intro j h1 h2
  unfold ne_feed
  by_cases hc : 0 ≤ g ∧ g ≤ 127 ∧ s 24 ≠ 100
  · rw [if_pos hc, upI_ne h1, upI_ne (by omega)]
  · rw [if_neg hc]
theorem cx_Hfi {F : Nat → Int → Int} {I : Nat → Int} {s f : Int → Int} {c : Int} {i : Nat} (hi : c ≤ (i : Int)) (h : cx_H F I s c) : cx_H (upF F (62 + 2 * i) f) I s c := by
  intro k h1 h2
  rw [upF_ne (by omega)]
  exact h k h1 h2
theorem cx_Hii {F : Nat → Int → Int} {I : Nat → Int} {s : Int → Int} {c x : Int} {i : Nat} (hi : c ≤ (i : Int)) (h : cx_H F I s c) : cx_H F (upJ I (27 + 2 * i) x) s c := by
  intro k h1 h2
  rw [upJ_ne (by omega), upJ_ne (by omega)]
  exact h k h1 h2
theorem cx_Hij {F : Nat → Int → Int} {I : Nat → Int} {s : Int → Int} {c x : Int} {i : Nat} (hi : c ≤ (i : Int)) (h : cx_H F I s c) : cx_H F (upJ I (28 + 2 * i) x) s c := by
  intro k h1 h2
  rw [upJ_ne (by omega), upJ_ne (by omega)]
  exact h k h1 h2
theorem cx_Hnew {F : Nat → Int → Int} {I : Nat → Int} {s : Int → Int} {i : Nat} {c : Int} {lt : List Int} (hc : c = (i : Int) + 1) (h : cx_H F I s (i : Int)) (g1 : md_HL s (i : Int) lt) (g2 : cr_L lt (F (62 + 2 * i)) (I (27 + 2 * i))) (g3 : I (28 + 2 * i) = s (212 + (i : Int))) : cx_H F I s c := by
  intro k h1 h2
  by_cases e : k = i
  · rw [e]
    exact ⟨lt, g1, g2, g3⟩
  · exact h k h1 (by omega)
set_option maxHeartbeats 16000000 in
set_option maxRecDepth 100000 in
theorem lx_man {K : gK} {G : gG} {yl : MethodName} {n mc ms co so pc index N : Nat} {lv : List (Nat × Value)} {st : List Value} {xx mm : Nat} {ws : va_W} {s im t jm : Int → Int} {tk uk stp : Int} {l ml : List Int} (hC : gC G K yl cL_law 4 n mc ms) (hn : 100 ≤ n) (hco : co ≤ mc ∧ so ≤ ms) (hst : (st.map fun v => v.category).sum ≤ 8) (hl : Cond.methodLink yl.cls index yX9_man ∈ TB) (d : decode cL_law pc = .ok (.invokevirtual index, 3)) (kind : Int) (v : Int) (room : Int) (x : Int) (r_kind : rI kind) (r_v : rI v) (r_room : rI room) (r_x : rI x) (h0 : LW K xx mm ws N s im tk l stp t jm uk ml) (hs : sg_ok s im tk) (hsp : stp ≤ 700000) (kk : ∀ ws2 sp2, sp2 ≤ stp + 1 → LW K xx mm ws2 N (ne_man s kind v room x) im tk l sp2 t jm uk ml → G co so (pc + 3) lv (.int (iI (an_man s kind v room x)) :: st) ws2) : G co so pc lv (.int (iI x) :: .int (iI room) :: .int (iI v) :: .int (iI kind) :: .ref xx :: st) ws := by
  obtain ⟨ad, F, I, J, Z, hm, hv, rfl, ⟨rfl, rfl⟩, hhm, hF, hI, hZ, ⟨a1, a2, a3, a4, a5, a6, rfl, ⟨ap, aq⟩, a9⟩, b⟩ := h0
  have hg := hs.1
  have hg1 := hg.1
  have hg2 := hg.2.1
  have h19 := hg1.2.2.1
  have h09 := hg.2.2.2.1
  have hTK := gs_TK hg
  have hWr := hTK.2.2
  have hrr := hTK.2.1
  have he := lo_man (s := s) (kind := kind) (v := v) (room := room) (x := x) h19
  have he20 : (ne_man s kind v room x) 20 = s 20 := he 20 (by omega)
  have hho : I 1 = s 20 := a1.2.2.2.2.2
  rcases aq with ⟨hz20, rfl, haN⟩ | ⟨h, h20, h5, rfl, rfl, hcc⟩
  · refine g_callV (pc := pc) (qr := 0) hC [0, 1, 46, 49, 2, 3, 4, 5, 6, 7, 8] (k_X9_man_n (ad 0) (ad 1) (ad 23) (ad 45) (ad 46) (ad 49) (ad 59) (ad 2) (ad 9) (ad 11) (ad 15) (ad 19) (ad 3) (ad 4) (ad 5) (ad 6) (ad 7) (ad 8) (.int (iI (I 0))) (.ref (ad 47)) (.ref (ad 48)) (.ref (ad 50)) (.ref (ad 46)) (.int (iI (I 18))) (.ref (ad 57)) (.ref (ad 58)) kind v room x (I 1) (I 17) (I 19) (I 2) (I 3) (I 4) (F 3) (F 4) (F 5) (F 6) (F 7) (F 8) s r_kind r_v r_room r_x (hI _) (hI _) (hI _) (hI _) (hI _) (hI _) (hF _) (hF _) (hF _) (hF _) (hF _) (hF _) hg1 a1.1 (by omega) (by omega)) cl_X9_man hl d rfl rfl rfl rfl rfl (by decide) (Nat.le_trans (by decide) hn) hco hst rfl (fun v9 w9 hq9 => ?_)
    obtain ⟨kd2, nb2, rm2, st2, cn2, sp5, rf5, rfl, rfl, r_kd2, r_nb2, r_rm2, r_st2, r_cn2, r_sp5, r_rf5, hR2, hkeep⟩ := hq9
    refine g_ws hC (WXM K ad (upF (upF (upF (upF F 3 kd2) 4 nb2) 5 rm2) 6 st2) (upJ (upJ (upJ I 3 cn2) 17 sp5) 19 rf5) J Z hm (.null) N) rfl ?_
    exact kk _ sp5 (by omega) ⟨ad, (upF (upF (upF (upF F 3 kd2) 4 nb2) 5 rm2) 6 st2), (upJ (upJ (upJ I 3 cn2) 17 sp5) 19 rf5), J, Z, hm, (.null), rfl, ⟨rfl, rfl⟩, hhm, (upF_r (upF_r (upF_r (upF_r hF r_kd2 3) r_nb2 4) r_rm2 5) r_st2 6), (upJ_r (upJ_r (upJ_r hI r_cn2 3) r_sp5 17) r_rf5 19), hZ, ⟨(cw_lo (fun j q => he j (by omega)) hg2 a1 hR2), (cxI_lo he20 ⟨a2.1, fun q => ⟨(a2.2 q).1, (cx_Hf (by decide) (cx_Hf (by decide) (cx_Hf (by decide) (cx_Hf (by decide) (cx_Hi (by decide) (cx_Hi (by decide) (cx_Hi (by decide) (a2.2 q).2.1))))))), (a2.2 q).2.2⟩⟩), a3, a4, (by rcases hkeep with ⟨k1, k2, k3⟩ | ⟨k1, k2⟩ <;> [(subst k3; rw [k1]; exact a5); (subst k2; exact Or.inl rfl)]), a6, rfl, (cxP_lo he20 (hkeep.elim (fun q => Or.inl ⟨q.1, q.2.1⟩) (fun q => Or.inr q.1)) hsp ⟨ap, Or.inl ⟨hz20, rfl, haN⟩⟩), (cxH_lo he20 (fun j q => he j (by omega)) (cx_Hf (by decide) (cx_Hf (by decide) (cx_Hf (by decide) (cx_Hf (by decide) (cx_Hi (by decide) (cx_Hi (by decide) (cx_Hi (by decide) a9))))))))⟩, b⟩
  · refine g_callV (pc := pc) (qr := 0) hC [0, 1, 46, 47, 48, 61 + 2 * h, 62 + 2 * h, 49, 2, 3, 4, 5, 6, 7, 8, 45] (k_X9_man_r (ad 0) (ad 1) (ad 23) (ad 45) (ad 46) (ad 49) (ad 59) (ad 2) (ad 9) (ad 11) (ad 15) (ad 19) (ad (61 + 2 * h)) (ad 47) (ad 48) (ad (62 + 2 * h)) (ad 3) (ad 4) (ad 5) (ad 6) (ad 7) (ad 8) (.int (iI (I 0))) (.ref (ad 50)) (.ref (ad 46)) (.int (iI (I 18))) (.ref (ad 57)) (.ref (ad 58)) hm kind v room x (I 1) (I 17) (I (27 + 2 * h)) (I (28 + 2 * h)) (I 19) (I 2) (I 3) (I 4) (F 47) (F 48) (F (62 + 2 * h)) (F 3) (F 4) (F 5) (F 6) (F 7) (F 8) s r_kind r_v r_room r_x (hI _) (hI _) (hI _) (hI _) (hI _) (hI _) (hI _) (hI _) (hF _) (hF _) (hF _) (hF _) (hF _) (hF _) (hF _) (hF _) (hF _) hg1 a1.1 (by omega) (by omega) (by rw [show (I 1 - 1).toNat = h by omega]; exact hhm h h5)) cl_X9_man hl d rfl rfl rfl rfl (by rcases five_of h5 with e5 | e5 | e5 | e5 | e5 <;> subst e5 <;> rfl) (by rcases five_of h5 with e5 | e5 | e5 | e5 | e5 <;> subst e5 <;> decide) (Nat.le_trans (by decide) hn) hco hst rfl (fun v9 w9 hq9 => ?_)
    obtain ⟨kd2, nb2, rm2, st2, cn2, sp5, rf5, rfl, rfl, r_kd2, r_nb2, r_rm2, r_st2, r_cn2, r_sp5, r_rf5, hR2, hkeep⟩ := hq9
    refine g_ws hC (WXM K ad (upF (upF (upF (upF F 3 kd2) 4 nb2) 5 rm2) 6 st2) (upJ (upJ (upJ I 3 cn2) 17 sp5) 19 rf5) J Z hm (.ref (ad (61 + 2 * h))) 36000) (by rcases five_of h5 with e5 | e5 | e5 | e5 | e5 <;> subst e5 <;> rfl) ?_
    exact kk _ sp5 (by omega) ⟨ad, (upF (upF (upF (upF F 3 kd2) 4 nb2) 5 rm2) 6 st2), (upJ (upJ (upJ I 3 cn2) 17 sp5) 19 rf5), J, Z, hm, (.ref (ad (61 + 2 * h))), rfl, ⟨rfl, rfl⟩, hhm, (upF_r (upF_r (upF_r (upF_r hF r_kd2 3) r_nb2 4) r_rm2 5) r_st2 6), (upJ_r (upJ_r (upJ_r hI r_cn2 3) r_sp5 17) r_rf5 19), hZ, ⟨(cw_lo (fun j q => he j (by omega)) hg2 a1 hR2), (cxI_lo he20 ⟨a2.1, fun q => ⟨(a2.2 q).1, (cx_Hf (by decide) (cx_Hf (by decide) (cx_Hf (by decide) (cx_Hf (by decide) (cx_Hi (by decide) (cx_Hi (by decide) (cx_Hi (by decide) (a2.2 q).2.1))))))), (a2.2 q).2.2⟩⟩), a3, a4, (by rcases hkeep with ⟨k1, k2, k3⟩ | ⟨k1, k2⟩ <;> [(subst k3; rw [k1]; exact a5); (subst k2; exact Or.inl rfl)]), a6, rfl, (cxP_lo he20 (hkeep.elim (fun q => Or.inl ⟨q.1, q.2.1⟩) (fun q => Or.inr q.1)) hsp ⟨ap, Or.inr ⟨h, h20, h5, rfl, rfl, hcc⟩⟩), (cxH_lo he20 (fun j q => he j (by omega)) (cx_Hf (by decide) (cx_Hf (by decide) (cx_Hf (by decide) (cx_Hf (by decide) (cx_Hi (by decide) (cx_Hi (by decide) (cx_Hi (by decide) a9))))))))⟩, b⟩
set_option maxHeartbeats 16000000 in
set_option maxRecDepth 100000 in
theorem lx_row {K : gK} {G : gG} {yl : MethodName} {n mc ms co so pc index N : Nat} {lv : List (Nat × Value)} {st : List Value} {xx mm : Nat} {ws : va_W} {s im t jm : Int → Int} {tk uk stp : Int} {l ml : List Int} (hC : gC G K yl cL_law 4 n mc ms) (hn : 100 ≤ n) (hco : co ≤ mc ∧ so ≤ ms) (hst : (st.map fun v => v.category).sum ≤ 8) (hl : Cond.methodLink yl.cls index yX9_row ∈ TB) (d : decode cL_law pc = .ok (.invokevirtual index, 3)) (p : Int) (k : Int) (x : Int) (r_p : rI p) (r_k : rI k) (r_x : rI x) (h0 : LW K xx mm ws N s im tk l stp t jm uk ml) (hs : sg_ok s im tk) (hsp : stp ≤ 700000) (kk : ∀ ws2 sp2, sp2 ≤ stp + 1 → LW K xx mm ws2 N (ne_row s p k x) im tk l sp2 t jm uk ml → G co so (pc + 3) lv (.int (iI (an_row s p k x)) :: st) ws2) : G co so pc lv (.int (iI x) :: .int (iI k) :: .int (iI p) :: .ref xx :: st) ws := by
  obtain ⟨ad, F, I, J, Z, hm, hv, rfl, ⟨rfl, rfl⟩, hhm, hF, hI, hZ, ⟨a1, a2, a3, a4, a5, a6, rfl, ⟨ap, aq⟩, a9⟩, b⟩ := h0
  have hg := hs.1
  have hg1 := hg.1
  have hg2 := hg.2.1
  have h19 := hg1.2.2.1
  have h09 := hg.2.2.2.1
  have hTK := gs_TK hg
  have hWr := hTK.2.2
  have hrr := hTK.2.1
  have he := lo_row (s := s) (p := p) (k := k) (x := x) h19
  have he20 : (ne_row s p k x) 20 = s 20 := he 20 (by omega)
  have hho : I 1 = s 20 := a1.2.2.2.2.2
  rcases aq with ⟨hz20, rfl, haN⟩ | ⟨h, h20, h5, rfl, rfl, hcc⟩
  · refine g_callV (pc := pc) (qr := 0) hC [0, 1, 46, 49, 2, 3, 4, 5, 6, 7, 8] (k_X9_row_n (ad 0) (ad 1) (ad 23) (ad 45) (ad 46) (ad 49) (ad 59) (ad 2) (ad 9) (ad 11) (ad 15) (ad 19) (ad 3) (ad 4) (ad 5) (ad 6) (ad 7) (ad 8) (.int (iI (I 0))) (.ref (ad 47)) (.ref (ad 48)) (.ref (ad 50)) (.ref (ad 46)) (.int (iI (I 18))) (.ref (ad 57)) (.ref (ad 58)) p k x (I 1) (I 17) (I 19) (I 2) (I 3) (I 4) (F 3) (F 4) (F 5) (F 6) (F 7) (F 8) s r_p r_k r_x (hI _) (hI _) (hI _) (hI _) (hI _) (hI _) (hF _) (hF _) (hF _) (hF _) (hF _) (hF _) hg1 a1.1 (by omega) (by omega)) cl_X9_row hl d rfl rfl rfl rfl rfl (by decide) (Nat.le_trans (by decide) hn) hco hst rfl (fun v9 w9 hq9 => ?_)
    obtain ⟨rw2, sp5, rf5, rfl, rfl, r_rw2, r_sp5, r_rf5, hR2, hkeep⟩ := hq9
    refine g_ws hC (WXM K ad (upF F 7 rw2) (upJ (upJ I 17 sp5) 19 rf5) J Z hm (.null) N) rfl ?_
    exact kk _ sp5 (by omega) ⟨ad, (upF F 7 rw2), (upJ (upJ I 17 sp5) 19 rf5), J, Z, hm, (.null), rfl, ⟨rfl, rfl⟩, hhm, (upF_r hF r_rw2 7), (upJ_r (upJ_r hI r_sp5 17) r_rf5 19), hZ, ⟨(cw_lo (fun j q => he j (by omega)) hg2 a1 hR2), (cxI_lo he20 ⟨a2.1, fun q => ⟨(a2.2 q).1, (cx_Hf (by decide) (cx_Hi (by decide) (cx_Hi (by decide) (a2.2 q).2.1))), (a2.2 q).2.2⟩⟩), a3, a4, (by rcases hkeep with ⟨k1, k2, k3⟩ | ⟨k1, k2⟩ <;> [(subst k3; rw [k1]; exact a5); (subst k2; exact Or.inl rfl)]), a6, rfl, (cxP_lo he20 (hkeep.elim (fun q => Or.inl ⟨q.1, q.2.1⟩) (fun q => Or.inr q.1)) hsp ⟨ap, Or.inl ⟨hz20, rfl, haN⟩⟩), (cxH_lo he20 (fun j q => he j (by omega)) (cx_Hf (by decide) (cx_Hi (by decide) (cx_Hi (by decide) a9))))⟩, b⟩
  · refine g_callV (pc := pc) (qr := 0) hC [0, 1, 46, 47, 48, 61 + 2 * h, 62 + 2 * h, 49, 2, 3, 4, 5, 6, 7, 8, 45] (k_X9_row_r (ad 0) (ad 1) (ad 23) (ad 45) (ad 46) (ad 49) (ad 59) (ad 2) (ad 9) (ad 11) (ad 15) (ad 19) (ad (61 + 2 * h)) (ad 47) (ad 48) (ad (62 + 2 * h)) (ad 3) (ad 4) (ad 5) (ad 6) (ad 7) (ad 8) (.int (iI (I 0))) (.ref (ad 50)) (.ref (ad 46)) (.int (iI (I 18))) (.ref (ad 57)) (.ref (ad 58)) hm p k x (I 1) (I 17) (I (27 + 2 * h)) (I (28 + 2 * h)) (I 19) (I 2) (I 3) (I 4) (F 47) (F 48) (F (62 + 2 * h)) (F 3) (F 4) (F 5) (F 6) (F 7) (F 8) s r_p r_k r_x (hI _) (hI _) (hI _) (hI _) (hI _) (hI _) (hI _) (hI _) (hF _) (hF _) (hF _) (hF _) (hF _) (hF _) (hF _) (hF _) (hF _) hg1 a1.1 (by omega) (by omega) (by rw [show (I 1 - 1).toNat = h by omega]; exact hhm h h5)) cl_X9_row hl d rfl rfl rfl rfl (by rcases five_of h5 with e5 | e5 | e5 | e5 | e5 <;> subst e5 <;> rfl) (by rcases five_of h5 with e5 | e5 | e5 | e5 | e5 <;> subst e5 <;> decide) (Nat.le_trans (by decide) hn) hco hst rfl (fun v9 w9 hq9 => ?_)
    obtain ⟨rw2, sp5, rf5, rfl, rfl, r_rw2, r_sp5, r_rf5, hR2, hkeep⟩ := hq9
    refine g_ws hC (WXM K ad (upF F 7 rw2) (upJ (upJ I 17 sp5) 19 rf5) J Z hm (.ref (ad (61 + 2 * h))) 36000) (by rcases five_of h5 with e5 | e5 | e5 | e5 | e5 <;> subst e5 <;> rfl) ?_
    exact kk _ sp5 (by omega) ⟨ad, (upF F 7 rw2), (upJ (upJ I 17 sp5) 19 rf5), J, Z, hm, (.ref (ad (61 + 2 * h))), rfl, ⟨rfl, rfl⟩, hhm, (upF_r hF r_rw2 7), (upJ_r (upJ_r hI r_sp5 17) r_rf5 19), hZ, ⟨(cw_lo (fun j q => he j (by omega)) hg2 a1 hR2), (cxI_lo he20 ⟨a2.1, fun q => ⟨(a2.2 q).1, (cx_Hf (by decide) (cx_Hi (by decide) (cx_Hi (by decide) (a2.2 q).2.1))), (a2.2 q).2.2⟩⟩), a3, a4, (by rcases hkeep with ⟨k1, k2, k3⟩ | ⟨k1, k2⟩ <;> [(subst k3; rw [k1]; exact a5); (subst k2; exact Or.inl rfl)]), a6, rfl, (cxP_lo he20 (hkeep.elim (fun q => Or.inl ⟨q.1, q.2.1⟩) (fun q => Or.inr q.1)) hsp ⟨ap, Or.inr ⟨h, h20, h5, rfl, rfl, hcc⟩⟩), (cxH_lo he20 (fun j q => he j (by omega)) (cx_Hf (by decide) (cx_Hi (by decide) (cx_Hi (by decide) a9))))⟩, b⟩
set_option maxHeartbeats 16000000 in
set_option maxRecDepth 100000 in
theorem lx_set {K : gK} {G : gG} {yl : MethodName} {n mc ms co so pc index N : Nat} {lv : List (Nat × Value)} {st : List Value} {xx mm : Nat} {ws : va_W} {s im t jm : Int → Int} {tk uk stp : Int} {l ml : List Int} (hC : gC G K yl cL_law 4 n mc ms) (hn : 100 ≤ n) (hco : co ≤ mc ∧ so ≤ ms) (hst : (st.map fun v => v.category).sum ≤ 8) (hl : Cond.methodLink yl.cls index yX9_set ∈ TB) (d : decode cL_law pc = .ok (.invokevirtual index, 3)) (p : Int) (w : Int) (x : Int) (r_p : rI p) (r_w : rI w) (r_x : rI x) (h0 : LW K xx mm ws N s im tk l stp t jm uk ml) (hs : sg_ok s im tk) (hsp : stp ≤ 700000) (kk : ∀ ws2 sp2, sp2 ≤ stp + 1 → LW K xx mm ws2 N (ne_set s p w x) im tk l sp2 t jm uk ml → G co so (pc + 3) lv (.int (iI (an_set s p w x)) :: st) ws2) : G co so pc lv (.int (iI x) :: .int (iI w) :: .int (iI p) :: .ref xx :: st) ws := by
  obtain ⟨ad, F, I, J, Z, hm, hv, rfl, ⟨rfl, rfl⟩, hhm, hF, hI, hZ, ⟨a1, a2, a3, a4, a5, a6, rfl, ⟨ap, aq⟩, a9⟩, b⟩ := h0
  have hg := hs.1
  have hg1 := hg.1
  have hg2 := hg.2.1
  have h19 := hg1.2.2.1
  have h09 := hg.2.2.2.1
  have hTK := gs_TK hg
  have hWr := hTK.2.2
  have hrr := hTK.2.1
  have he := lo_set (s := s) (p := p) (w := w) (x := x) h19
  have he20 : (ne_set s p w x) 20 = s 20 := he 20 (by omega)
  have hho : I 1 = s 20 := a1.2.2.2.2.2
  rcases aq with ⟨hz20, rfl, haN⟩ | ⟨h, h20, h5, rfl, rfl, hcc⟩
  · refine g_callV (pc := pc) (qr := 0) hC [0, 1, 46, 49, 2, 3, 4, 5, 6, 7, 8] (k_X9_set_n (ad 0) (ad 1) (ad 23) (ad 45) (ad 46) (ad 49) (ad 59) (ad 2) (ad 9) (ad 11) (ad 15) (ad 19) (ad 3) (ad 4) (ad 5) (ad 6) (ad 7) (ad 8) (.int (iI (I 0))) (.ref (ad 47)) (.ref (ad 48)) (.ref (ad 50)) (.ref (ad 46)) (.int (iI (I 18))) (.ref (ad 57)) (.ref (ad 58)) p w x (I 1) (I 17) (I 19) (I 2) (I 3) (I 4) (F 3) (F 4) (F 5) (F 6) (F 7) (F 8) s r_p r_w r_x (hI _) (hI _) (hI _) (hI _) (hI _) (hI _) (hF _) (hF _) (hF _) (hF _) (hF _) (hF _) hg1 a1.1 (by omega) (by omega)) cl_X9_set hl d rfl rfl rfl rfl rfl (by decide) (Nat.le_trans (by decide) hn) hco hst rfl (fun v9 w9 hq9 => ?_)
    obtain ⟨nb2, rm2, st2, sp5, rf5, rfl, rfl, r_nb2, r_rm2, r_st2, r_sp5, r_rf5, hR2, hkeep⟩ := hq9
    refine g_ws hC (WXM K ad (upF (upF (upF F 4 nb2) 5 rm2) 6 st2) (upJ (upJ I 17 sp5) 19 rf5) J Z hm (.null) N) rfl ?_
    exact kk _ sp5 (by omega) ⟨ad, (upF (upF (upF F 4 nb2) 5 rm2) 6 st2), (upJ (upJ I 17 sp5) 19 rf5), J, Z, hm, (.null), rfl, ⟨rfl, rfl⟩, hhm, (upF_r (upF_r (upF_r hF r_nb2 4) r_rm2 5) r_st2 6), (upJ_r (upJ_r hI r_sp5 17) r_rf5 19), hZ, ⟨(cw_lo (fun j q => he j (by omega)) hg2 a1 hR2), (cxI_lo he20 ⟨a2.1, fun q => ⟨(a2.2 q).1, (cx_Hf (by decide) (cx_Hf (by decide) (cx_Hf (by decide) (cx_Hi (by decide) (cx_Hi (by decide) (a2.2 q).2.1))))), (a2.2 q).2.2⟩⟩), a3, a4, (by rcases hkeep with ⟨k1, k2, k3⟩ | ⟨k1, k2⟩ <;> [(subst k3; rw [k1]; exact a5); (subst k2; exact Or.inl rfl)]), a6, rfl, (cxP_lo he20 (hkeep.elim (fun q => Or.inl ⟨q.1, q.2.1⟩) (fun q => Or.inr q.1)) hsp ⟨ap, Or.inl ⟨hz20, rfl, haN⟩⟩), (cxH_lo he20 (fun j q => he j (by omega)) (cx_Hf (by decide) (cx_Hf (by decide) (cx_Hf (by decide) (cx_Hi (by decide) (cx_Hi (by decide) a9))))))⟩, b⟩
  · refine g_callV (pc := pc) (qr := 0) hC [0, 1, 46, 47, 48, 61 + 2 * h, 62 + 2 * h, 49, 2, 3, 4, 5, 6, 7, 8, 45] (k_X9_set_r (ad 0) (ad 1) (ad 23) (ad 45) (ad 46) (ad 49) (ad 59) (ad 2) (ad 9) (ad 11) (ad 15) (ad 19) (ad (61 + 2 * h)) (ad 47) (ad 48) (ad (62 + 2 * h)) (ad 3) (ad 4) (ad 5) (ad 6) (ad 7) (ad 8) (.int (iI (I 0))) (.ref (ad 50)) (.ref (ad 46)) (.int (iI (I 18))) (.ref (ad 57)) (.ref (ad 58)) hm p w x (I 1) (I 17) (I (27 + 2 * h)) (I (28 + 2 * h)) (I 19) (I 2) (I 3) (I 4) (F 47) (F 48) (F (62 + 2 * h)) (F 3) (F 4) (F 5) (F 6) (F 7) (F 8) s r_p r_w r_x (hI _) (hI _) (hI _) (hI _) (hI _) (hI _) (hI _) (hI _) (hF _) (hF _) (hF _) (hF _) (hF _) (hF _) (hF _) (hF _) (hF _) hg1 a1.1 (by omega) (by omega) (by rw [show (I 1 - 1).toNat = h by omega]; exact hhm h h5)) cl_X9_set hl d rfl rfl rfl rfl (by rcases five_of h5 with e5 | e5 | e5 | e5 | e5 <;> subst e5 <;> rfl) (by rcases five_of h5 with e5 | e5 | e5 | e5 | e5 <;> subst e5 <;> decide) (Nat.le_trans (by decide) hn) hco hst rfl (fun v9 w9 hq9 => ?_)
    obtain ⟨nb2, rm2, st2, sp5, rf5, rfl, rfl, r_nb2, r_rm2, r_st2, r_sp5, r_rf5, hR2, hkeep⟩ := hq9
    refine g_ws hC (WXM K ad (upF (upF (upF F 4 nb2) 5 rm2) 6 st2) (upJ (upJ I 17 sp5) 19 rf5) J Z hm (.ref (ad (61 + 2 * h))) 36000) (by rcases five_of h5 with e5 | e5 | e5 | e5 | e5 <;> subst e5 <;> rfl) ?_
    exact kk _ sp5 (by omega) ⟨ad, (upF (upF (upF F 4 nb2) 5 rm2) 6 st2), (upJ (upJ I 17 sp5) 19 rf5), J, Z, hm, (.ref (ad (61 + 2 * h))), rfl, ⟨rfl, rfl⟩, hhm, (upF_r (upF_r (upF_r hF r_nb2 4) r_rm2 5) r_st2 6), (upJ_r (upJ_r hI r_sp5 17) r_rf5 19), hZ, ⟨(cw_lo (fun j q => he j (by omega)) hg2 a1 hR2), (cxI_lo he20 ⟨a2.1, fun q => ⟨(a2.2 q).1, (cx_Hf (by decide) (cx_Hf (by decide) (cx_Hf (by decide) (cx_Hi (by decide) (cx_Hi (by decide) (a2.2 q).2.1))))), (a2.2 q).2.2⟩⟩), a3, a4, (by rcases hkeep with ⟨k1, k2, k3⟩ | ⟨k1, k2⟩ <;> [(subst k3; rw [k1]; exact a5); (subst k2; exact Or.inl rfl)]), a6, rfl, (cxP_lo he20 (hkeep.elim (fun q => Or.inl ⟨q.1, q.2.1⟩) (fun q => Or.inr q.1)) hsp ⟨ap, Or.inr ⟨h, h20, h5, rfl, rfl, hcc⟩⟩), (cxH_lo he20 (fun j q => he j (by omega)) (cx_Hf (by decide) (cx_Hf (by decide) (cx_Hf (by decide) (cx_Hi (by decide) (cx_Hi (by decide) a9))))))⟩, b⟩
set_option maxHeartbeats 16000000 in
set_option maxRecDepth 100000 in
theorem lx_away {K : gK} {G : gG} {yl : MethodName} {n mc ms co so pc index N : Nat} {lv : List (Nat × Value)} {st : List Value} {xx mm : Nat} {ws : va_W} {s im t jm : Int → Int} {tk uk stp : Int} {l ml : List Int} (hC : gC G K yl cL_law 4 n mc ms) (hn : 100 ≤ n) (hco : co ≤ mc ∧ so ≤ ms) (hst : (st.map fun v => v.category).sum ≤ 8) (hl : Cond.methodLink yl.cls index yX9_away ∈ TB) (d : decode cL_law pc = .ok (.invokevirtual index, 3)) (p : Int) (z : Int) (r_p : rI p) (r_z : rI z) (h0 : LW K xx mm ws N s im tk l stp t jm uk ml) (hs : sg_ok s im tk) (hsp : stp ≤ 700000) (hz : z = 0 ∨ z = 1) (kk : ∀ ws2 sp2, sp2 ≤ stp + 1 → LW K xx mm ws2 N (ne_away s p z) im tk l sp2 t jm uk ml → G co so (pc + 3) lv (.int (iI (an_away s p)) :: st) ws2) : G co so pc lv (.int (iI z) :: .int (iI p) :: .ref xx :: st) ws := by
  obtain ⟨ad, F, I, J, Z, hm, hv, rfl, ⟨rfl, rfl⟩, hhm, hF, hI, hZ, ⟨a1, a2, a3, a4, a5, a6, rfl, ⟨ap, aq⟩, a9⟩, b⟩ := h0
  have hg := hs.1
  have hg1 := hg.1
  have hg2 := hg.2.1
  have h19 := hg1.2.2.1
  have h09 := hg.2.2.2.1
  have hTK := gs_TK hg
  have hWr := hTK.2.2
  have hrr := hTK.2.1
  have he := lo_away (s := s) (p := p) (z := z) h19
  have he20 : (ne_away s p z) 20 = s 20 := he 20 (by omega)
  have hho : I 1 = s 20 := a1.2.2.2.2.2
  rcases aq with ⟨hz20, rfl, haN⟩ | ⟨h, h20, h5, rfl, rfl, hcc⟩
  · refine g_callV (pc := pc) (qr := 0) hC [0, 1, 46, 49, 2, 3, 4, 5, 6, 7, 8] (k_X9_away_n (ad 0) (ad 1) (ad 23) (ad 45) (ad 46) (ad 49) (ad 59) (ad 2) (ad 9) (ad 11) (ad 15) (ad 19) (ad 3) (ad 4) (ad 5) (ad 6) (ad 7) (ad 8) (.int (iI (I 0))) (.ref (ad 47)) (.ref (ad 48)) (.ref (ad 50)) (.ref (ad 46)) (.int (iI (I 18))) (.ref (ad 57)) (.ref (ad 58)) p z (I 1) (I 17) (I 19) (I 2) (I 3) (I 4) (F 3) (F 4) (F 5) (F 6) (F 7) (F 8) s r_p r_z (hI _) (hI _) (hI _) (hI _) (hI _) (hI _) (hF _) (hF _) (hF _) (hF _) (hF _) (hF _) hg1 a1.1 (by omega) (by omega) hz) cl_X9_away hl d rfl rfl rfl rfl rfl (by decide) (Nat.le_trans (by decide) hn) hco hst rfl (fun v9 w9 hq9 => ?_)
    obtain ⟨aw2, sp5, rf5, rfl, rfl, r_aw2, r_sp5, r_rf5, hR2, hkeep⟩ := hq9
    refine g_ws hC (WXM K ad F (upJ (upJ (upJ I 2 aw2) 17 sp5) 19 rf5) J Z hm (.null) N) rfl ?_
    exact kk _ sp5 (by omega) ⟨ad, F, (upJ (upJ (upJ I 2 aw2) 17 sp5) 19 rf5), J, Z, hm, (.null), rfl, ⟨rfl, rfl⟩, hhm, hF, (upJ_r (upJ_r (upJ_r hI r_aw2 2) r_sp5 17) r_rf5 19), hZ, ⟨(cw_lo (fun j q => he j (by omega)) hg2 a1 hR2), (cxI_lo he20 ⟨a2.1, fun q => ⟨(a2.2 q).1, (cx_Hi (by decide) (cx_Hi (by decide) (cx_Hi (by decide) (a2.2 q).2.1))), (a2.2 q).2.2⟩⟩), a3, a4, (by rcases hkeep with ⟨k1, k2, k3⟩ | ⟨k1, k2⟩ <;> [(subst k3; rw [k1]; exact a5); (subst k2; exact Or.inl rfl)]), a6, rfl, (cxP_lo he20 (hkeep.elim (fun q => Or.inl ⟨q.1, q.2.1⟩) (fun q => Or.inr q.1)) hsp ⟨ap, Or.inl ⟨hz20, rfl, haN⟩⟩), (cxH_lo he20 (fun j q => he j (by omega)) (cx_Hi (by decide) (cx_Hi (by decide) (cx_Hi (by decide) a9))))⟩, b⟩
  · refine g_callV (pc := pc) (qr := 0) hC [0, 1, 46, 47, 48, 61 + 2 * h, 62 + 2 * h, 49, 2, 3, 4, 5, 6, 7, 8, 45] (k_X9_away_r (ad 0) (ad 1) (ad 23) (ad 45) (ad 46) (ad 49) (ad 59) (ad 2) (ad 9) (ad 11) (ad 15) (ad 19) (ad (61 + 2 * h)) (ad 47) (ad 48) (ad (62 + 2 * h)) (ad 3) (ad 4) (ad 5) (ad 6) (ad 7) (ad 8) (.int (iI (I 0))) (.ref (ad 50)) (.ref (ad 46)) (.int (iI (I 18))) (.ref (ad 57)) (.ref (ad 58)) hm p z (I 1) (I 17) (I (27 + 2 * h)) (I (28 + 2 * h)) (I 19) (I 2) (I 3) (I 4) (F 47) (F 48) (F (62 + 2 * h)) (F 3) (F 4) (F 5) (F 6) (F 7) (F 8) s r_p r_z (hI _) (hI _) (hI _) (hI _) (hI _) (hI _) (hI _) (hI _) (hF _) (hF _) (hF _) (hF _) (hF _) (hF _) (hF _) (hF _) (hF _) hg1 a1.1 (by omega) (by omega) (by rw [show (I 1 - 1).toNat = h by omega]; exact hhm h h5) hz) cl_X9_away hl d rfl rfl rfl rfl (by rcases five_of h5 with e5 | e5 | e5 | e5 | e5 <;> subst e5 <;> rfl) (by rcases five_of h5 with e5 | e5 | e5 | e5 | e5 <;> subst e5 <;> decide) (Nat.le_trans (by decide) hn) hco hst rfl (fun v9 w9 hq9 => ?_)
    obtain ⟨aw2, sp5, rf5, rfl, rfl, r_aw2, r_sp5, r_rf5, hR2, hkeep⟩ := hq9
    refine g_ws hC (WXM K ad F (upJ (upJ (upJ I 2 aw2) 17 sp5) 19 rf5) J Z hm (.ref (ad (61 + 2 * h))) 36000) (by rcases five_of h5 with e5 | e5 | e5 | e5 | e5 <;> subst e5 <;> rfl) ?_
    exact kk _ sp5 (by omega) ⟨ad, F, (upJ (upJ (upJ I 2 aw2) 17 sp5) 19 rf5), J, Z, hm, (.ref (ad (61 + 2 * h))), rfl, ⟨rfl, rfl⟩, hhm, hF, (upJ_r (upJ_r (upJ_r hI r_aw2 2) r_sp5 17) r_rf5 19), hZ, ⟨(cw_lo (fun j q => he j (by omega)) hg2 a1 hR2), (cxI_lo he20 ⟨a2.1, fun q => ⟨(a2.2 q).1, (cx_Hi (by decide) (cx_Hi (by decide) (cx_Hi (by decide) (a2.2 q).2.1))), (a2.2 q).2.2⟩⟩), a3, a4, (by rcases hkeep with ⟨k1, k2, k3⟩ | ⟨k1, k2⟩ <;> [(subst k3; rw [k1]; exact a5); (subst k2; exact Or.inl rfl)]), a6, rfl, (cxP_lo he20 (hkeep.elim (fun q => Or.inl ⟨q.1, q.2.1⟩) (fun q => Or.inr q.1)) hsp ⟨ap, Or.inr ⟨h, h20, h5, rfl, rfl, hcc⟩⟩), (cxH_lo he20 (fun j q => he j (by omega)) (cx_Hi (by decide) (cx_Hi (by decide) (cx_Hi (by decide) a9))))⟩, b⟩
set_option maxHeartbeats 16000000 in
set_option maxRecDepth 100000 in
theorem lx_pass {K : gK} {G : gG} {yl : MethodName} {n mc ms co so pc index N : Nat} {lv : List (Nat × Value)} {st : List Value} {xx mm : Nat} {ws : va_W} {s im t jm : Int → Int} {tk uk stp : Int} {l ml : List Int} (hC : gC G K yl cL_law 4 n mc ms) (hn : 100 ≤ n) (hco : co ≤ mc ∧ so ≤ ms) (hst : (st.map fun v => v.category).sum ≤ 8) (hl : Cond.methodLink yl.cls index yX9_pass ∈ TB) (d : decode cL_law pc = .ok (.invokevirtual index, 3)) (x : Int) (r_x : rI x) (h0 : LW K xx mm ws N s im tk l stp t jm uk ml) (hs : sg_ok s im tk) (hsp : stp ≤ 700000) (kk : ∀ ws2 sp2, sp2 ≤ stp + 1 → LW K xx mm ws2 N (ne_pass (WSS s) (rcS s) s x) im tk l sp2 t jm uk ml → G co so (pc + 3) lv (.int (iI (an_pass s x)) :: st) ws2) : G co so pc lv (.int (iI x) :: .ref xx :: st) ws := by
  obtain ⟨ad, F, I, J, Z, hm, hv, rfl, ⟨rfl, rfl⟩, hhm, hF, hI, hZ, ⟨a1, a2, a3, a4, a5, a6, rfl, ⟨ap, aq⟩, a9⟩, b⟩ := h0
  have hg := hs.1
  have hg1 := hg.1
  have hg2 := hg.2.1
  have h19 := hg1.2.2.1
  have h09 := hg.2.2.2.1
  have hTK := gs_TK hg
  have hWr := hTK.2.2
  have hrr := hTK.2.1
  have he := lo_pass (W := WSS s) (rch := rcS s) (s := s) (x := x) h19
  have he20 : (ne_pass (WSS s) (rcS s) s x) 20 = s 20 := he 20 (by omega)
  have hho : I 1 = s 20 := a1.2.2.2.2.2
  rcases aq with ⟨hz20, rfl, haN⟩ | ⟨h, h20, h5, rfl, rfl, hcc⟩
  · have hW0 := cx_W0 hg hz20
    refine g_callV (pc := pc) (qr := 0) hC [0, 1, 46, 49, 2, 3, 4, 5, 6, 7, 8] (k_X9_pass_n (ad 0) (ad 1) (ad 23) (ad 45) (ad 46) (ad 49) (ad 59) (ad 2) (ad 9) (ad 11) (ad 15) (ad 19) (ad 3) (ad 4) (ad 5) (ad 6) (ad 7) (ad 8) (.int (iI (I 0))) (.ref (ad 47)) (.ref (ad 48)) (.ref (ad 50)) (.ref (ad 46)) (.int (iI (I 18))) (.ref (ad 57)) (.ref (ad 58)) x (I 1) (I 17) (I 19) (I 2) (I 3) (I 4) (F 3) (F 4) (F 5) (F 6) (F 7) (F 8) s (WSS s) (rcS s) r_x (hI _) (hI _) (hI _) (hI _) (hI _) (hI _) (hF _) (hF _) (hF _) (hF _) (hF _) (hF _) hg1 a1.1 (by omega) (by omega) hW0) cl_X9_pass hl d rfl rfl rfl rfl rfl (by decide) (Nat.le_trans (by decide) hn) hco hst rfl (fun v9 w9 hq9 => ?_)
    obtain ⟨st2, nx2, sp2, sp5, rf5, rfl, rfl, r_st2, r_nx2, r_sp2, r_sp5, r_rf5, hR2, hkeep⟩ := hq9
    refine g_ws hC (WXM K ad (upF (upF F 6 st2) 8 nx2) (upJ (upJ (upJ I 4 sp2) 17 sp5) 19 rf5) J Z hm (.null) N) rfl ?_
    exact kk _ sp5 (by omega) ⟨ad, (upF (upF F 6 st2) 8 nx2), (upJ (upJ (upJ I 4 sp2) 17 sp5) 19 rf5), J, Z, hm, (.null), rfl, ⟨rfl, rfl⟩, hhm, (upF_r (upF_r hF r_st2 6) r_nx2 8), (upJ_r (upJ_r (upJ_r hI r_sp2 4) r_sp5 17) r_rf5 19), hZ, ⟨(cw_lo (fun j q => he j (by omega)) hg2 a1 hR2), (cxI_lo he20 ⟨a2.1, fun q => ⟨(a2.2 q).1, (cx_Hf (by decide) (cx_Hf (by decide) (cx_Hi (by decide) (cx_Hi (by decide) (cx_Hi (by decide) (a2.2 q).2.1))))), (a2.2 q).2.2⟩⟩), a3, a4, (by rcases hkeep with ⟨k1, k2, k3⟩ | ⟨k1, k2⟩ <;> [(subst k3; rw [k1]; exact a5); (subst k2; exact Or.inl rfl)]), a6, rfl, (cxP_lo he20 (hkeep.elim (fun q => Or.inl ⟨q.1, q.2.1⟩) (fun q => Or.inr q.1)) hsp ⟨ap, Or.inl ⟨hz20, rfl, haN⟩⟩), (cxH_lo he20 (fun j q => he j (by omega)) (cx_Hf (by decide) (cx_Hf (by decide) (cx_Hi (by decide) (cx_Hi (by decide) (cx_Hi (by decide) a9))))))⟩, b⟩
  · have hHO := cx_HO hg h20 h5 a9
    refine g_callV (pc := pc) (qr := 0) hC [0, 1, 46, 47, 48, 61 + 2 * h, 62 + 2 * h, 49, 2, 3, 4, 5, 6, 7, 8, 45] (k_X9_pass_r (ad 0) (ad 1) (ad 23) (ad 45) (ad 46) (ad 49) (ad 59) (ad 2) (ad 9) (ad 11) (ad 15) (ad 19) (ad (61 + 2 * h)) (ad 47) (ad 48) (ad (62 + 2 * h)) (ad 3) (ad 4) (ad 5) (ad 6) (ad 7) (ad 8) (.int (iI (I 0))) (.ref (ad 50)) (.ref (ad 46)) (.int (iI (I 18))) (.ref (ad 57)) (.ref (ad 58)) hm x (I 1) (I 17) (I (27 + 2 * h)) (I (28 + 2 * h)) (I 19) (I 2) (I 3) (I 4) (F 47) (F 48) (F (62 + 2 * h)) (F 3) (F 4) (F 5) (F 6) (F 7) (F 8) s (WSS s) (rcS s) r_x (hI _) (hI _) (hI _) (hI _) (hI _) (hI _) (hI _) (hI _) (hF _) (hF _) (hF _) (hF _) (hF _) (hF _) (hF _) (hF _) (hF _) hg1 a1.1 (by omega) (by omega) (by rw [show (I 1 - 1).toNat = h by omega]; exact hhm h h5) hHO.1 hcc hWr hHO.2 hrr) cl_X9_pass hl d rfl rfl rfl rfl (by rcases five_of h5 with e5 | e5 | e5 | e5 | e5 <;> subst e5 <;> rfl) (by rcases five_of h5 with e5 | e5 | e5 | e5 | e5 <;> subst e5 <;> decide) (Nat.le_trans (by decide) hn) hco hst rfl (fun v9 w9 hq9 => ?_)
    obtain ⟨st2, nx2, sp2, sp5, rf5, f5, w5, rfl, rfl, r_st2, r_nx2, r_sp2, r_sp5, r_rf5, r_f5, r_w5, hR2, hkeep, hcc2⟩ := hq9
    refine g_ws hC (WXM K ad (upF (upF (upF (upF F 6 st2) 8 nx2) 47 f5) 48 w5) (upJ (upJ (upJ I 4 sp2) 17 sp5) 19 rf5) J Z hm (.ref (ad (61 + 2 * h))) 36000) (by rcases five_of h5 with e5 | e5 | e5 | e5 | e5 <;> subst e5 <;> rfl) ?_
    exact kk _ sp5 (by omega) ⟨ad, (upF (upF (upF (upF F 6 st2) 8 nx2) 47 f5) 48 w5), (upJ (upJ (upJ I 4 sp2) 17 sp5) 19 rf5), J, Z, hm, (.ref (ad (61 + 2 * h))), rfl, ⟨rfl, rfl⟩, hhm, (upF_r (upF_r (upF_r (upF_r hF r_st2 6) r_nx2 8) r_f5 47) r_w5 48), (upJ_r (upJ_r (upJ_r hI r_sp2 4) r_sp5 17) r_rf5 19), hZ, ⟨(cw_lo (fun j q => he j (by omega)) hg2 a1 hR2), (cxI_lo he20 ⟨a2.1, fun q => ⟨(a2.2 q).1, (cx_Hf (by decide) (cx_Hf (by decide) (cx_Hf (by decide) (cx_Hf (by decide) (cx_Hi (by decide) (cx_Hi (by decide) (cx_Hi (by decide) (a2.2 q).2.1))))))), (a2.2 q).2.2⟩⟩), a3, a4, (by rcases hkeep with ⟨k1, k2, k3⟩ | ⟨k1, k2⟩ <;> [(subst k3; rw [k1]; exact a5); (subst k2; exact Or.inl rfl)]), a6, rfl, (cxP_lo he20 (hkeep.elim (fun q => Or.inl ⟨q.1, q.2.1⟩) (fun q => Or.inr q.1)) hsp ⟨ap, Or.inr ⟨h, h20, h5, rfl, rfl, hcc2⟩⟩), (cxH_lo he20 (fun j q => he j (by omega)) (cx_Hf (by decide) (cx_Hf (by decide) (cx_Hf (by decide) (cx_Hf (by decide) (cx_Hi (by decide) (cx_Hi (by decide) (cx_Hi (by decide) a9))))))))⟩, b⟩
set_option maxHeartbeats 16000000 in
set_option maxRecDepth 100000 in
theorem lx_see {K : gK} {G : gG} {yl : MethodName} {n mc ms co so pc index N : Nat} {lv : List (Nat × Value)} {st : List Value} {xx mm : Nat} {ws : va_W} {s im t jm : Int → Int} {tk uk stp : Int} {l ml : List Int} (hC : gC G K yl cL_law 4 n mc ms) (hn : 100 ≤ n) (hco : co ≤ mc ∧ so ≤ ms) (hst : (st.map fun v => v.category).sum ≤ 8) (hl : Cond.methodLink yl.cls index yX9_see ∈ TB) (d : decode cL_law pc = .ok (.invokevirtual index, 3)) (p : Int) (y : Int) (x : Int) (r_p : rI p) (r_y : rI y) (r_x : rI x) (h0 : LW K xx mm ws N s im tk l stp t jm uk ml) (hs : sg_ok s im tk) (kk : ∀ ws2, LW K xx mm ws2 N (ne_see s p y x) im tk l stp t jm uk ml → G co so (pc + 3) lv (.int (iI (an_see s p y x)) :: st) ws2) : G co so pc lv (.int (iI x) :: .int (iI y) :: .int (iI p) :: .ref xx :: st) ws := by
  obtain ⟨ad, F, I, J, Z, hm, hv, rfl, ⟨rfl, rfl⟩, hhm, hF, hI, hZ, ⟨a1, a2, a3, a4, a5, a6, rfl, ⟨ap, aq⟩, a9⟩, b⟩ := h0
  have hg := hs.1
  have hg1 := hg.1
  have hg2 := hg.2.1
  have h19 := hg1.2.2.1
  have h09 := hg.2.2.2.1
  have hTK := gs_TK hg
  have hWr := hTK.2.2
  have hrr := hTK.2.1
  obtain ⟨rA, rB, rC, rT⟩ := rs_iff.mp hg2
  have he : ∀ j, j ≠ 21 → ¬ (62 ≤ j ∧ j < 80) → (ne_see s p y x) j = s j := hi_see ⟨rA.1, rA.2.1⟩
  have heW := gs_WS (t := (ne_see s p y x)) hg (he 25 (by omega) (by omega)) (fun j q => he j (by omega) (by omega))
  refine g_callV (pc := pc) (qr := 0) hC [0, 1, 2, 3, 4, 5, 6, 7, 8, 11, 12, 13, 14] (k_X9_see (ad 0) (ad 1) (ad 23) (ad 45) (ad 46) (ad 49) (ad 59) (ad 2) (ad 9) (ad 11) (ad 15) (ad 19) (ad 3) (ad 4) (ad 5) (ad 6) (ad 7) (ad 8) (ad 12) (ad 13) (ad 14) (.int (iI (I 0))) p y x (I 1) (I 2) (I 3) (I 4) (I 6) (F 3) (F 4) (F 5) (F 6) (F 7) (F 8) (F 12) (F 13) (F 14) s r_p r_y r_x (hI _) (hI _) (hI _) (hI _) (hI _) (hF _) (hF _) (hF _) (hF _) (hF _) (hF _) (hF _) (hF _) (hF _) hg1 a1.1 hg2 a1.2.2.1) cl_X9_see hl d rfl rfl rfl rfl rfl (by decide) (Nat.le_trans (by decide) hn) hco hst rfl (fun v9 w9 hq9 => ?_)
  obtain ⟨v1, v2, v3, vn, rfl, rfl, r_v1, r_v2, r_v3, r_vn, hsn2⟩ := hq9
  refine g_ws hC (WXM K ad (upF (upF (upF F 12 v1) 13 v2) 14 v3) (upJ I 6 vn) J Z hm hv N) rfl ?_
  exact kk _ ⟨ad, (upF (upF (upF F 12 v1) 13 v2) 14 v3), (upJ I 6 vn), J, Z, hm, hv, rfl, ⟨rfl, rfl⟩, hhm, (upF_r (upF_r (upF_r hF r_v1 12) r_v2 13) r_v3 14), (upJ_r hI r_vn 6), hZ, ⟨⟨cs_sim h19 (fun j q => he j (by omega) (by omega)) a1.1, (rowT_same rT.2 (fun j q => he j (by omega) (by omega)) a1.2.1), hsn2, (rowB_same rB.2.1 (fun j q => he j (by omega) (by omega)) a1.2.2.2.1), (rowC_same rC.2.1 (fun j q => he j (by omega) (by omega)) a1.2.2.2.2.1), by rw [he 20 (by omega) (by omega)]; exact a1.2.2.2.2.2⟩, (cxI_lo (he 20 (by omega) (by omega)) ⟨a2.1, fun q => ⟨(a2.2 q).1, (cx_Hf (by decide) (cx_Hf (by decide) (cx_Hf (by decide) (cx_Hi (by decide) (a2.2 q).2.1)))), (a2.2 q).2.2⟩⟩), a3, a4, (cxM_hi h19 heW (fun j q => (he j (by omega) (by omega)).symm) a5), a6, rfl, (cxP_hi (he 20 (by omega) (by omega)) heW.1 (fun j q1 q2 => he j (by omega) (by omega)) ⟨ap, aq⟩), (cxH_lo (he 20 (by omega) (by omega)) (fun j q => he j (by omega) (by omega)) (cx_Hf (by decide) (cx_Hf (by decide) (cx_Hf (by decide) (cx_Hi (by decide) a9)))))⟩, b⟩
set_option maxHeartbeats 16000000 in
set_option maxRecDepth 100000 in
theorem lx_plan {K : gK} {G : gG} {yl : MethodName} {n mc ms co so pc index N : Nat} {lv : List (Nat × Value)} {st : List Value} {xx mm : Nat} {ws : va_W} {s im t jm : Int → Int} {tk uk stp : Int} {l ml : List Int} (hC : gC G K yl cL_law 4 n mc ms) (hn : 100 ≤ n) (hco : co ≤ mc ∧ so ≤ ms) (hst : (st.map fun v => v.category).sum ≤ 8) (hl : Cond.methodLink yl.cls index yX9_plan ∈ TB) (d : decode cL_law pc = .ok (.invokevirtual index, 3)) (w : Int) (y : Int) (r_w : rI w) (r_y : rI y) (h0 : LW K xx mm ws N s im tk l stp t jm uk ml) (hs : sg_ok s im tk) (kk : ∀ ws2, LW K xx mm ws2 N (ne_plan s w y) im tk l stp t jm uk ml → G co so (pc + 3) lv (.int (iI (an_plan s w y)) :: st) ws2) : G co so pc lv (.int (iI y) :: .int (iI w) :: .ref xx :: st) ws := by
  obtain ⟨ad, F, I, J, Z, hm, hv, rfl, ⟨rfl, rfl⟩, hhm, hF, hI, hZ, ⟨a1, a2, a3, a4, a5, a6, rfl, ⟨ap, aq⟩, a9⟩, b⟩ := h0
  have hg := hs.1
  have hg1 := hg.1
  have hg2 := hg.2.1
  have h19 := hg1.2.2.1
  have h09 := hg.2.2.2.1
  have hTK := gs_TK hg
  have hWr := hTK.2.2
  have hrr := hTK.2.1
  obtain ⟨rA, rB, rC, rT⟩ := rs_iff.mp hg2
  have he : ∀ j, j ≠ 22 → ¬ (80 ≤ j ∧ j < 96) → (ne_plan s w y) j = s j := hi_plan ⟨rB.1, rB.2.1⟩
  have heW := gs_WS (t := (ne_plan s w y)) hg (he 25 (by omega) (by omega)) (fun j q => he j (by omega) (by omega))
  refine g_callV (pc := pc) (qr := 0) hC [0, 1, 2, 3, 4, 5, 6, 7, 8, 15, 16, 17, 18] (k_X9_plan (ad 0) (ad 1) (ad 23) (ad 45) (ad 46) (ad 49) (ad 59) (ad 2) (ad 9) (ad 11) (ad 15) (ad 19) (ad 3) (ad 4) (ad 5) (ad 6) (ad 7) (ad 8) (ad 16) (ad 17) (ad 18) (.int (iI (I 0))) w y (I 1) (I 2) (I 3) (I 4) (I 7) (F 3) (F 4) (F 5) (F 6) (F 7) (F 8) (F 16) (F 17) (F 18) s r_w r_y (hI _) (hI _) (hI _) (hI _) (hI _) (hF _) (hF _) (hF _) (hF _) (hF _) (hF _) (hF _) (hF _) (hF _) hg1 a1.1 hg2 a1.2.2.2.1) cl_X9_plan hl d rfl rfl rfl rfl rfl (by decide) (Nat.le_trans (by decide) hn) hco hst rfl (fun v9 w9 hq9 => ?_)
  obtain ⟨v1, v2, v3, vn, rfl, rfl, r_v1, r_v2, r_v3, r_vn, hpl2⟩ := hq9
  refine g_ws hC (WXM K ad (upF (upF (upF F 16 v1) 17 v2) 18 v3) (upJ I 7 vn) J Z hm hv N) rfl ?_
  exact kk _ ⟨ad, (upF (upF (upF F 16 v1) 17 v2) 18 v3), (upJ I 7 vn), J, Z, hm, hv, rfl, ⟨rfl, rfl⟩, hhm, (upF_r (upF_r (upF_r hF r_v1 16) r_v2 17) r_v3 18), (upJ_r hI r_vn 7), hZ, ⟨⟨cs_sim h19 (fun j q => he j (by omega) (by omega)) a1.1, (rowT_same rT.2 (fun j q => he j (by omega) (by omega)) a1.2.1), (rowA_same rA.2.1 (fun j q => he j (by omega) (by omega)) a1.2.2.1), hpl2, (rowC_same rC.2.1 (fun j q => he j (by omega) (by omega)) a1.2.2.2.2.1), by rw [he 20 (by omega) (by omega)]; exact a1.2.2.2.2.2⟩, (cxI_lo (he 20 (by omega) (by omega)) ⟨a2.1, fun q => ⟨(a2.2 q).1, (cx_Hf (by decide) (cx_Hf (by decide) (cx_Hf (by decide) (cx_Hi (by decide) (a2.2 q).2.1)))), (a2.2 q).2.2⟩⟩), a3, a4, (cxM_hi h19 heW (fun j q => (he j (by omega) (by omega)).symm) a5), a6, rfl, (cxP_hi (he 20 (by omega) (by omega)) heW.1 (fun j q1 q2 => he j (by omega) (by omega)) ⟨ap, aq⟩), (cxH_lo (he 20 (by omega) (by omega)) (fun j q => he j (by omega) (by omega)) (cx_Hf (by decide) (cx_Hf (by decide) (cx_Hf (by decide) (cx_Hi (by decide) a9)))))⟩, b⟩
set_option maxHeartbeats 16000000 in
set_option maxRecDepth 100000 in
theorem lx_book {K : gK} {G : gG} {yl : MethodName} {n mc ms co so pc index N : Nat} {lv : List (Nat × Value)} {st : List Value} {xx mm : Nat} {ws : va_W} {s im t jm : Int → Int} {tk uk stp : Int} {l ml : List Int} (hC : gC G K yl cL_law 4 n mc ms) (hn : 100 ≤ n) (hco : co ≤ mc ∧ so ≤ ms) (hst : (st.map fun v => v.category).sum ≤ 8) (hl : Cond.methodLink yl.cls index yX9_book ∈ TB) (d : decode cL_law pc = .ok (.invokevirtual index, 3)) (p : Int) (x : Int) (r_p : rI p) (r_x : rI x) (h0 : LW K xx mm ws N s im tk l stp t jm uk ml) (hs : sg_ok s im tk) (kk : ∀ ws2, LW K xx mm ws2 N (ne_book s p x) im tk l stp t jm uk ml → G co so (pc + 3) lv (.int (iI (an_book s p x)) :: st) ws2) : G co so pc lv (.int (iI x) :: .int (iI p) :: .ref xx :: st) ws := by
  obtain ⟨ad, F, I, J, Z, hm, hv, rfl, ⟨rfl, rfl⟩, hhm, hF, hI, hZ, ⟨a1, a2, a3, a4, a5, a6, rfl, ⟨ap, aq⟩, a9⟩, b⟩ := h0
  have hg := hs.1
  have hg1 := hg.1
  have hg2 := hg.2.1
  have h19 := hg1.2.2.1
  have h09 := hg.2.2.2.1
  have hTK := gs_TK hg
  have hWr := hTK.2.2
  have hrr := hTK.2.1
  obtain ⟨rA, rB, rC, rT⟩ := rs_iff.mp hg2
  have he : ∀ j, j ≠ 23 → ¬ (96 ≤ j ∧ j < 112) → (ne_book s p x) j = s j := hi_book ⟨rC.1, rC.2.1⟩
  have heW := gs_WS (t := (ne_book s p x)) hg (he 25 (by omega) (by omega)) (fun j q => he j (by omega) (by omega))
  refine g_callV (pc := pc) (qr := 0) hC [0, 1, 2, 3, 4, 5, 6, 7, 8, 19, 20, 21, 22] (k_X9_book (ad 0) (ad 1) (ad 23) (ad 45) (ad 46) (ad 49) (ad 59) (ad 2) (ad 9) (ad 11) (ad 15) (ad 19) (ad 3) (ad 4) (ad 5) (ad 6) (ad 7) (ad 8) (ad 20) (ad 21) (ad 22) (.int (iI (I 0))) p x (I 1) (I 2) (I 3) (I 4) (I 8) (F 3) (F 4) (F 5) (F 6) (F 7) (F 8) (F 20) (F 21) (F 22) s r_p r_x (hI _) (hI _) (hI _) (hI _) (hI _) (hF _) (hF _) (hF _) (hF _) (hF _) (hF _) (hF _) (hF _) (hF _) hg1 a1.1 hg2 a1.2.2.2.2.1) cl_X9_book hl d rfl rfl rfl rfl rfl (by decide) (Nat.le_trans (by decide) hn) hco hst rfl (fun v9 w9 hq9 => ?_)
  obtain ⟨v1, v2, v3, vn, rfl, rfl, r_v1, r_v2, r_v3, r_vn, hbk2⟩ := hq9
  refine g_ws hC (WXM K ad (upF (upF (upF F 20 v1) 21 v2) 22 v3) (upJ I 8 vn) J Z hm hv N) rfl ?_
  exact kk _ ⟨ad, (upF (upF (upF F 20 v1) 21 v2) 22 v3), (upJ I 8 vn), J, Z, hm, hv, rfl, ⟨rfl, rfl⟩, hhm, (upF_r (upF_r (upF_r hF r_v1 20) r_v2 21) r_v3 22), (upJ_r hI r_vn 8), hZ, ⟨⟨cs_sim h19 (fun j q => he j (by omega) (by omega)) a1.1, (rowT_same rT.2 (fun j q => he j (by omega) (by omega)) a1.2.1), (rowA_same rA.2.1 (fun j q => he j (by omega) (by omega)) a1.2.2.1), (rowB_same rB.2.1 (fun j q => he j (by omega) (by omega)) a1.2.2.2.1), hbk2, by rw [he 20 (by omega) (by omega)]; exact a1.2.2.2.2.2⟩, (cxI_lo (he 20 (by omega) (by omega)) ⟨a2.1, fun q => ⟨(a2.2 q).1, (cx_Hf (by decide) (cx_Hf (by decide) (cx_Hf (by decide) (cx_Hi (by decide) (a2.2 q).2.1)))), (a2.2 q).2.2⟩⟩), a3, a4, (cxM_hi h19 heW (fun j q => (he j (by omega) (by omega)).symm) a5), a6, rfl, (cxP_hi (he 20 (by omega) (by omega)) heW.1 (fun j q1 q2 => he j (by omega) (by omega)) ⟨ap, aq⟩), (cxH_lo (he 20 (by omega) (by omega)) (fun j q => he j (by omega) (by omega)) (cx_Hf (by decide) (cx_Hf (by decide) (cx_Hf (by decide) (cx_Hi (by decide) a9)))))⟩, b⟩
set_option maxHeartbeats 16000000 in
set_option maxRecDepth 100000 in
theorem lx_feed {K : gK} {G : gG} {yl : MethodName} {n mc ms co so pc index N : Nat} {lv : List (Nat × Value)} {st : List Value} {xx mm : Nat} {ws : va_W} {s im t jm : Int → Int} {tk uk stp : Int} {l ml : List Int} (hC : gC G K yl cL_law 4 n mc ms) (hn : 100 ≤ n) (hco : co ≤ mc ∧ so ≤ ms) (hst : (st.map fun v => v.category).sum ≤ 8) (hl : Cond.methodLink yl.cls index yX9_feed ∈ TB) (d : decode cL_law pc = .ok (.invokevirtual index, 3)) (g : Int) (r_g : rI g) (h0 : LW K xx mm ws N s im tk l stp t jm uk ml) (hs : sg_ok s im tk) (kk : ∀ ws2, LW K xx mm ws2 N (ne_feed s g) im tk l stp t jm uk ml → G co so (pc + 3) lv (.int (iI (an_feed s g)) :: st) ws2) : G co so pc lv (.int (iI g) :: .ref xx :: st) ws := by
  obtain ⟨ad, F, I, J, Z, hm, hv, rfl, ⟨rfl, rfl⟩, hhm, hF, hI, hZ, ⟨a1, a2, a3, a4, a5, a6, rfl, ⟨ap, aq⟩, a9⟩, b⟩ := h0
  have hg := hs.1
  have hg1 := hg.1
  have hg2 := hg.2.1
  have h19 := hg1.2.2.1
  have h09 := hg.2.2.2.1
  have hTK := gs_TK hg
  have hWr := hTK.2.2
  have hrr := hTK.2.1
  obtain ⟨rA, rB, rC, rT⟩ := rs_iff.mp hg2
  have he : ∀ j, j ≠ 24 → ¬ (112 ≤ j ∧ j < 212) → (ne_feed s g) j = s j := hi_feed rT
  have heW := gs_WS (t := (ne_feed s g)) hg (he 25 (by omega) (by omega)) (fun j q => he j (by omega) (by omega))
  refine g_callV (pc := pc) (qr := 0) hC [0, 1, 9, 10] (k_X9_feed (ad 0) (ad 1) (ad 23) (ad 45) (ad 46) (ad 49) (ad 59) (ad 2) (ad 9) (ad 11) (ad 15) (ad 19) (ad 10) (.int (iI (I 0))) g (I 1) (I 5) (F 10) s r_g (hI _) (hI _) (hF _) a1.2.1 rT) cl_X9_feed hl d rfl rfl rfl rfl rfl (by decide) (Nat.le_trans (by decide) hn) hco hst rfl (fun v9 w9 hq9 => ?_)
  obtain ⟨tf5, tz5, rfl, rfl, r_tf5, r_tz5, ht2⟩ := hq9
  refine g_ws hC (WXM K ad (upF F 10 tf5) (upJ I 5 tz5) J Z hm hv N) rfl ?_
  exact kk _ ⟨ad, (upF F 10 tf5), (upJ I 5 tz5), J, Z, hm, hv, rfl, ⟨rfl, rfl⟩, hhm, (upF_r hF r_tf5 10), (upJ_r hI r_tz5 5), hZ, ⟨⟨cs_sim h19 (fun j q => he j (by omega) (by omega)) a1.1, ht2, (rowA_same rA.2.1 (fun j q => he j (by omega) (by omega)) a1.2.2.1), (rowB_same rB.2.1 (fun j q => he j (by omega) (by omega)) a1.2.2.2.1), (rowC_same rC.2.1 (fun j q => he j (by omega) (by omega)) a1.2.2.2.2.1), by rw [he 20 (by omega) (by omega)]; exact a1.2.2.2.2.2⟩, (cxI_lo (he 20 (by omega) (by omega)) ⟨a2.1, fun q => ⟨(a2.2 q).1, (cx_Hf (by decide) (cx_Hi (by decide) (a2.2 q).2.1)), (a2.2 q).2.2⟩⟩), a3, a4, (cxM_hi h19 heW (fun j q => (he j (by omega) (by omega)).symm) a5), a6, rfl, (cxP_hi (he 20 (by omega) (by omega)) heW.1 (fun j q1 q2 => he j (by omega) (by omega)) ⟨ap, aq⟩), (cxH_lo (he 20 (by omega) (by omega)) (fun j q => he j (by omega) (by omega)) (cx_Hf (by decide) (cx_Hi (by decide) a9)))⟩, b⟩
set_option maxHeartbeats 16000000 in
set_option maxRecDepth 100000 in
theorem lx_act {K : gK} {G : gG} {yl : MethodName} {n mc ms co so pc index N : Nat} {lv : List (Nat × Value)} {st : List Value} {xx mm : Nat} {ws : va_W} {s im t jm : Int → Int} {tk uk stp : Int} {l ml : List Int} (hC : gC G K yl cL_law 4 n mc ms) (hn : 100 ≤ n) (hco : co ≤ mc ∧ so ≤ ms) (hst : (st.map fun v => v.category).sum ≤ 8) (hl : Cond.methodLink yl.cls index yX9_act ∈ TB) (d : decode cL_law pc = .ok (.invokevirtual index, 3)) (p : Int) (w : Int) (x : Int) (r_p : rI p) (r_w : rI w) (r_x : rI x) (h0 : LW K xx mm ws N s im tk l stp t jm uk ml) (hs : sg_ok s im tk) (kk : ∀ ws2, LW K xx mm ws2 N s im tk (ar_act s p w) stp t jm uk ml → G co so (pc + 3) lv (.int (iI (an_act s p w x)) :: st) ws2) : G co so pc lv (.int (iI x) :: .int (iI w) :: .int (iI p) :: .ref xx :: st) ws := by
  obtain ⟨ad, F, I, J, Z, hm, hv, rfl, ⟨rfl, rfl⟩, hhm, hF, hI, hZ, ⟨a1, a2, a3, a4, a5, a6, rfl, ⟨ap, aq⟩, a9⟩, b⟩ := h0
  have hg := hs.1
  have hg1 := hg.1
  have hg2 := hg.2.1
  have h19 := hg1.2.2.1
  have h09 := hg.2.2.2.1
  have hTK := gs_TK hg
  have hWr := hTK.2.2
  have hrr := hTK.2.1
  refine g_callV (pc := pc) (qr := 0) hC [0, 1, 2, 3, 4, 5, 6, 7, 8, 59, 60] (k_X9_act (ad 0) (ad 1) (ad 23) (ad 45) (ad 46) (ad 49) (ad 59) (ad 2) (ad 9) (ad 11) (ad 15) (ad 19) (ad 3) (ad 4) (ad 5) (ad 6) (ad 7) (ad 8) (ad 60) (.int (iI (I 0))) p w x (I 1) (I 2) (I 3) (I 4) (I 23) (J 0) (J 1) (J 2) (F 3) (F 4) (F 5) (F 6) (F 7) (F 8) (F 60) s hg1 a1.1 r_p r_w (hI _)) cl_X9_act hl d rfl rfl rfl rfl rfl (by decide) (Nat.le_trans (by decide) hn) hco hst rfl (fun v9 w9 hq9 => ?_)
  obtain ⟨tf5, ran5, bm5, bk5, bv5, rfl, rfl, hp2, hn2⟩ := hq9
  have r9 := tr_act_r hp2 (hF 60)
  have r_tf5 := r9.1
  have r_ran5 := r9.2
  refine g_ws hC (WXM K ad (upF F 60 tf5) (upJ I 23 ran5) (upJ (upJ (upJ J 0 bm5) 1 bk5) 2 bv5) Z hm hv N) rfl ?_
  exact kk _ ⟨ad, (upF F 60 tf5), (upJ I 23 ran5), (upJ (upJ (upJ J 0 bm5) 1 bk5) 2 bv5), Z, hm, hv, rfl, ⟨rfl, rfl⟩, hhm, (upF_r hF r_tf5 60), (upJ_r hI r_ran5 23), hZ, ⟨a1, ⟨a2.1, fun q => ⟨(a2.2 q).1, (cx_Hf (by decide) (cx_Hi (by decide) (a2.2 q).2.1)), (a2.2 q).2.2⟩⟩, a3, a4, a5, (tr_act hp2), rfl, ⟨ap, aq⟩, (cx_Hf (by decide) (cx_Hi (by decide) a9))⟩, b⟩
set_option maxHeartbeats 16000000 in
set_option maxRecDepth 100000 in
theorem lx_image {K : gK} {G : gG} {yl : MethodName} {n mc ms co so pc index N : Nat} {lv : List (Nat × Value)} {st : List Value} {xx mm : Nat} {ws : va_W} {s im t jm : Int → Int} {tk uk stp : Int} {l ml : List Int} (hC : gC G K yl cL_law 4 n mc ms) (hn : 100 ≤ n) (hco : co ≤ mc ∧ so ≤ ms) (hst : (st.map fun v => v.category).sum ≤ 8) (hl : Cond.methodLink yl.cls index yX9_image ∈ TB) (d : decode cL_law pc = .ok (.invokevirtual index, 3)) (h0 : LW K xx mm ws N s im tk l stp t jm uk ml) (hs : sg_ok s im tk) (kk : ∀ ws2, LW K xx mm ws2 N s s 1 l stp t jm uk ml → G co so (pc + 3) lv (.int (iI (s 19)) :: st) ws2) : G co so pc lv (.ref xx :: st) ws := by
  obtain ⟨ad, F, I, J, Z, hm, hv, rfl, ⟨rfl, rfl⟩, hhm, hF, hI, hZ, ⟨a1, a2, a3, a4, a5, a6, rfl, ⟨ap, aq⟩, a9⟩, b⟩ := h0
  have hg := hs.1
  have hg1 := hg.1
  have hg2 := hg.2.1
  have h19 := hg1.2.2.1
  have h09 := hg.2.2.2.1
  have hTK := gs_TK hg
  have hWr := hTK.2.2
  have hrr := hTK.2.1
  refine g_callV (pc := pc) (qr := 0) hC [0, 1, 2, 3, 4, 5, 6, 7, 8, 9, 10, 11, 12, 13, 14, 15, 16, 17, 18, 19, 20, 21, 22, 23, 24, 25, 26, 27, 28, 29, 30, 31, 32, 33, 34, 35, 36, 37, 38, 39, 40, 41, 42, 43, 44] (k_X9_image (ad 0) (ad 1) (ad 23) (ad 45) (ad 46) (ad 49) (ad 59) (ad 2) (ad 9) (ad 11) (ad 15) (ad 19) (ad 3) (ad 4) (ad 5) (ad 6) (ad 7) (ad 8) (ad 10) (ad 12) (ad 13) (ad 14) (ad 16) (ad 17) (ad 18) (ad 20) (ad 21) (ad 22) (ad 24) (ad 31) (ad 33) (ad 37) (ad 41) (ad 25) (ad 26) (ad 27) (ad 28) (ad 29) (ad 30) (ad 32) (ad 34) (ad 35) (ad 36) (ad 38) (ad 39) (ad 40) (ad 42) (ad 43) (ad 44) (I 0) (I 1) (I 2) (I 3) (I 4) (I 5) (I 6) (I 7) (I 8) (I 9) (I 10) (I 11) (I 12) (I 13) (I 14) (I 15) (I 16) (F 3) (F 4) (F 5) (F 6) (F 7) (F 8) (F 10) (F 12) (F 13) (F 14) (F 16) (F 17) (F 18) (F 20) (F 21) (F 22) (F 25) (F 26) (F 27) (F 28) (F 29) (F 30) (F 32) (F 34) (F 35) (F 36) (F 38) (F 39) (F 40) (F 42) (F 43) (F 44) s (hI _) (hI _) (hI _) (hI _) (hI _) (hI _) (hI _) (hI _) (hI _) (hI _) (hI _) (hI _) (hI _) (hI _) (hI _) (hI _) (hI _) (hF _) (hF _) (hF _) (hF _) (hF _) (hF _) (hF _) (hF _) (hF _) (hF _) (hF _) (hF _) (hF _) (hF _) (hF _) (hF _) (hF _) (hF _) (hF _) (hF _) (hF _) (hF _) (hF _) (hF _) (hF _) (hF _) (hF _) (hF _) (hF _) (hF _) (hF _) (hF _) hg1 hg2 a1 a3.1) cl_X9_image hl d rfl rfl rfl rfl rfl (by decide) (Nat.le_trans (by decide) hn) hco hst rfl (fun v9 w9 hq9 => ?_)
  obtain ⟨kdD, nbD, rmD, stD, rwD, tfD, seD1, seD2, seD3, plD1, plD2, plD3, boD1, boD2, boD3, rfl, rfl, r_kdD, r_nbD, r_rmD, r_stD, r_rwD, r_tfD, r_seD1, r_seD2, r_seD3, r_plD1, r_plD2, r_plD3, r_boD1, r_boD2, r_boD3, hwR2⟩ := hq9
  refine g_ws hC (WXM K ad (upF (upF (upF (upF (upF (upF (upF (upF (upF (upF (upF (upF (upF (upF (upF F 25 kdD) 26 nbD) 27 rmD) 28 stD) 29 rwD) 32 tfD) 34 seD1) 35 seD2) 36 seD3) 38 plD1) 39 plD2) 40 plD3) 42 boD1) 43 boD2) 44 boD3) (upJ (upJ (upJ (upJ (upJ (upJ (upJ (upJ (upJ I 0 1) 9 (I 1)) 10 (I 2)) 11 (I 3)) 12 (I 4)) 13 (I 5)) 14 (I 6)) 15 (I 7)) 16 (I 8)) J Z hm hv N) rfl ?_
  exact kk _ ⟨ad, (upF (upF (upF (upF (upF (upF (upF (upF (upF (upF (upF (upF (upF (upF (upF F 25 kdD) 26 nbD) 27 rmD) 28 stD) 29 rwD) 32 tfD) 34 seD1) 35 seD2) 36 seD3) 38 plD1) 39 plD2) 40 plD3) 42 boD1) 43 boD2) 44 boD3), (upJ (upJ (upJ (upJ (upJ (upJ (upJ (upJ (upJ I 0 1) 9 (I 1)) 10 (I 2)) 11 (I 3)) 12 (I 4)) 13 (I 5)) 14 (I 6)) 15 (I 7)) 16 (I 8)), J, Z, hm, hv, rfl, ⟨rfl, rfl⟩, hhm, (upF_r (upF_r (upF_r (upF_r (upF_r (upF_r (upF_r (upF_r (upF_r (upF_r (upF_r (upF_r (upF_r (upF_r (upF_r hF r_kdD 25) r_nbD 26) r_rmD 27) r_stD 28) r_rwD 29) r_tfD 32) r_seD1 34) r_seD2 35) r_seD3 36) r_plD1 38) r_plD2 39) r_plD3 40) r_boD1 42) r_boD2 43) r_boD3 44), (upJ_r (upJ_r (upJ_r (upJ_r (upJ_r (upJ_r (upJ_r (upJ_r (upJ_r hI (by omega) 0) (by omega) 9) (by omega) 10) (by omega) 11) (by omega) 12) (by omega) 13) (by omega) 14) (by omega) 15) (by omega) 16), hZ, ⟨a1, ⟨rfl, fun _ => ⟨hwR2, (cx_Hf (by decide) (cx_Hf (by decide) (cx_Hf (by decide) (cx_Hf (by decide) (cx_Hf (by decide) (cx_Hf (by decide) (cx_Hf (by decide) (cx_Hf (by decide) (cx_Hf (by decide) (cx_Hf (by decide) (cx_Hf (by decide) (cx_Hf (by decide) (cx_Hf (by decide) (cx_Hf (by decide) (cx_Hf (by decide) (cx_Hi (by decide) (cx_Hi (by decide) (cx_Hi (by decide) (cx_Hi (by decide) (cx_Hi (by decide) (cx_Hi (by decide) (cx_Hi (by decide) (cx_Hi (by decide) (cx_Hi (by decide) a9)))))))))))))))))))))))), Int.le_refl _⟩⟩, a3, a4, a5, a6, rfl, ⟨ap, aq⟩, (cx_Hf (by decide) (cx_Hf (by decide) (cx_Hf (by decide) (cx_Hf (by decide) (cx_Hf (by decide) (cx_Hf (by decide) (cx_Hf (by decide) (cx_Hf (by decide) (cx_Hf (by decide) (cx_Hf (by decide) (cx_Hf (by decide) (cx_Hf (by decide) (cx_Hf (by decide) (cx_Hf (by decide) (cx_Hf (by decide) (cx_Hi (by decide) (cx_Hi (by decide) (cx_Hi (by decide) (cx_Hi (by decide) (cx_Hi (by decide) (cx_Hi (by decide) (cx_Hi (by decide) (cx_Hi (by decide) (cx_Hi (by decide) a9))))))))))))))))))))))))⟩, b⟩
set_option maxHeartbeats 16000000 in
set_option maxRecDepth 100000 in
theorem lx_undo0 {K : gK} {G : gG} {yl : MethodName} {n mc ms co so pc index N : Nat} {lv : List (Nat × Value)} {st : List Value} {xx mm : Nat} {ws : va_W} {s im t jm : Int → Int} {tk uk stp : Int} {l ml : List Int} (hC : gC G K yl cL_law 4 n mc ms) (hn : 100 ≤ n) (hco : co ≤ mc ∧ so ≤ ms) (hst : (st.map fun v => v.category).sum ≤ 8) (hl : Cond.methodLink yl.cls index yX9_undo ∈ TB) (d : decode cL_law pc = .ok (.invokevirtual index, 3)) (h0 : LW K xx mm ws N s im tk l stp t jm uk ml) (ht : tk = 0) (kk : G co so (pc + 3) lv (.int (iI (-3)) :: st) ws) : G co so pc lv (.ref xx :: st) ws := by
  obtain ⟨ad, F, I, J, Z, hm, hv, rfl, ⟨rfl, rfl⟩, hhm, hF, hI, hZ, ⟨a1, a2, a3, a4, a5, a6, rfl, ⟨ap, aq⟩, a9⟩, b⟩ := h0
  refine g_fnV (pc := pc) (qr := 0) hC [0] (k_X9_undo_0 (ad 0) (ad 1) (ad 23) (ad 45) (ad 46) (ad 49) (ad 59) (I 0) (hI _) (by have := a2.1; omega)) cl_X9_undo hl d rfl rfl rfl rfl rfl (by decide) (Nat.le_trans (by decide) hn) hco hst rfl rfl ?_
  exact kk
set_option maxHeartbeats 16000000 in
set_option maxRecDepth 100000 in
theorem lx_undo1 {K : gK} {G : gG} {yl : MethodName} {n mc ms co so pc index N : Nat} {lv : List (Nat × Value)} {st : List Value} {xx mm : Nat} {ws : va_W} {s im t jm : Int → Int} {tk uk stp : Int} {l ml : List Int} (hC : gC G K yl cL_law 4 n mc ms) (hn : 100 ≤ n) (hco : co ≤ mc ∧ so ≤ ms) (hst : (st.map fun v => v.category).sum ≤ 8) (hl : Cond.methodLink yl.cls index yX9_undo ∈ TB) (d : decode cL_law pc = .ok (.invokevirtual index, 3)) (h0 : LW K xx mm ws N s im tk l stp t jm uk ml) (hs : sg_ok s im tk) (hsp : stp ≤ 700000) (ht : tk = 1) (kk : ∀ ws2, LW K xx mm ws2 N im im tk l (stp + 1) t jm uk ml → G co so (pc + 3) lv (.int (iI (im 19)) :: st) ws2) : G co so pc lv (.ref xx :: st) ws := by
  obtain ⟨ad, F, I, J, Z, hm, hv, rfl, ⟨rfl, rfl⟩, hhm, hF, hI, hZ, ⟨a1, a2, a3, a4, a5, a6, rfl, ⟨ap, aq⟩, a9⟩, b⟩ := h0
  have hg := hs.1
  have hg1 := hg.1
  have hg2 := hg.2.1
  have h19 := hg1.2.2.1
  have h09 := hg.2.2.2.1
  have hTK := gs_TK hg
  have hWr := hTK.2.2
  have hrr := hTK.2.1
  have hgi := hs.2.2 ht
  obtain ⟨b1, b2, b3⟩ := a2.2 ht
  have hho : I 9 = im 20 := b1.2.2.2.2.2
  have hi6 := hgi.2.2.2.2.2.1
  have hN : (N = 0 ∧ im 20 = 0) ∨ (N = 36000 ∧ md_CB (F 48) (I 17)) := by
    rcases aq with ⟨q1, q2, q3⟩ | ⟨h, q1, q2, q3, q4, q5⟩
    · rcases q3 with q3 | q3
      · exact Or.inl ⟨q3, by omega⟩
      · exact Or.inr q3
    · exact Or.inr ⟨q3, CC_CB q5⟩
  by_cases hz : im 20 = 0
  · refine g_callV (pc := pc) (qr := 0) hC [0, 1, 2, 3, 4, 5, 6, 7, 8, 9, 10, 11, 12, 13, 14, 15, 16, 17, 18, 19, 20, 21, 22, 23, 24, 25, 26, 27, 28, 29, 30, 31, 32, 33, 34, 35, 36, 37, 38, 39, 40, 41, 42, 43, 44, 46, 49] (k_X9_undo_n (ad 0) (ad 1) (ad 23) (ad 45) (ad 46) (ad 49) (ad 59) (ad 2) (ad 9) (ad 11) (ad 15) (ad 19) (ad 3) (ad 4) (ad 5) (ad 6) (ad 7) (ad 8) (ad 10) (ad 12) (ad 13) (ad 14) (ad 16) (ad 17) (ad 18) (ad 20) (ad 21) (ad 22) (ad 24) (ad 31) (ad 33) (ad 37) (ad 41) (ad 25) (ad 26) (ad 27) (ad 28) (ad 29) (ad 30) (ad 32) (ad 34) (ad 35) (ad 36) (ad 38) (ad 39) (ad 40) (ad 42) (ad 43) (ad 44) hv (.ref (ad 47)) (.ref (ad 48)) (.ref (ad 50)) (.ref (ad 46)) (.int (iI (I 18))) (.ref (ad 57)) (.int (iI (I 19))) (.ref (ad 58)) (I 0) (I 1) (I 2) (I 3) (I 4) (I 5) (I 6) (I 7) (I 8) (I 9) (I 10) (I 11) (I 12) (I 13) (I 14) (I 15) (I 16) (I 17) (F 3) (F 4) (F 5) (F 6) (F 7) (F 8) (F 10) (F 12) (F 13) (F 14) (F 16) (F 17) (F 18) (F 20) (F 21) (F 22) (F 25) (F 26) (F 27) (F 28) (F 29) (F 30) (F 32) (F 34) (F 35) (F 36) (F 38) (F 39) (F 40) (F 42) (F 43) (F 44) im (hI _) (hI _) (hI _) (hI _) (hI _) (hI _) (hI _) (hI _) (hI _) (hI _) (hI _) (hI _) (hI _) (hI _) (hI _) (hI _) (hI _) (hI _) (hF _) (hF _) (hF _) (hF _) (hF _) (hF _) (hF _) (hF _) (hF _) (hF _) (hF _) (hF _) (hF _) (hF _) (hF _) (hF _) (hF _) (hF _) (hF _) (hF _) (hF _) (hF _) (hF _) (hF _) (hF _) (hF _) (hF _) (hF _) (hF _) (hF _) (hF _) (hF _) (by have := a2.1; omega) hgi.1 hgi.2.1 b1 (fun p q1 q2 => (a1.1.2.2.2.1 p q1 q2).2.2) (by omega)) cl_X9_undo hl d rfl rfl rfl rfl rfl (by decide) (Nat.le_trans (by decide) hn) hco hst rfl (fun v9 w9 hq9 => ?_)
    obtain ⟨kdD, nbD, rmD, stD, rwD, tfD, seD1, seD2, seD3, plD1, plD2, plD3, boD1, boD2, boD3, rfl, rfl, r_kdD, r_nbD, r_rmD, r_stD, r_rwD, r_tfD, r_seD1, r_seD2, r_seD3, r_plD1, r_plD2, r_plD3, r_boD1, r_boD2, r_boD3, hwR2⟩ := hq9
    refine g_ws hC (WXM K ad (upF (upF (upF (upF (upF (upF (upF (upF (upF (upF (upF (upF (upF (upF (upF F 3 kdD) 4 nbD) 5 rmD) 6 stD) 7 rwD) 10 tfD) 12 seD1) 13 seD2) 14 seD3) 16 plD1) 17 plD2) 18 plD3) 20 boD1) 21 boD2) 22 boD3) (upJ (upJ (upJ (upJ (upJ (upJ (upJ (upJ (upJ (upJ I 1 (I 9)) 2 (I 10)) 3 (I 11)) 4 (I 12)) 5 (I 13)) 6 (I 14)) 7 (I 15)) 8 (I 16)) 17 ((I 17) + 1)) 19 0) J Z hm (.null) N) rfl ?_
    exact kk _ ⟨ad, (upF (upF (upF (upF (upF (upF (upF (upF (upF (upF (upF (upF (upF (upF (upF F 3 kdD) 4 nbD) 5 rmD) 6 stD) 7 rwD) 10 tfD) 12 seD1) 13 seD2) 14 seD3) 16 plD1) 17 plD2) 18 plD3) 20 boD1) 21 boD2) 22 boD3), (upJ (upJ (upJ (upJ (upJ (upJ (upJ (upJ (upJ (upJ I 1 (I 9)) 2 (I 10)) 3 (I 11)) 4 (I 12)) 5 (I 13)) 6 (I 14)) 7 (I 15)) 8 (I 16)) 17 ((I 17) + 1)) 19 0), J, Z, hm, (.null), rfl, ⟨rfl, rfl⟩, hhm, (upF_r (upF_r (upF_r (upF_r (upF_r (upF_r (upF_r (upF_r (upF_r (upF_r (upF_r (upF_r (upF_r (upF_r (upF_r hF r_kdD 3) r_nbD 4) r_rmD 5) r_stD 6) r_rwD 7) r_tfD 10) r_seD1 12) r_seD2 13) r_seD3 14) r_plD1 16) r_plD2 17) r_plD3 18) r_boD1 20) r_boD2 21) r_boD3 22), (upJ_r (upJ_r (upJ_r (upJ_r (upJ_r (upJ_r (upJ_r (upJ_r (upJ_r (upJ_r hI (by omega) 1) (by omega) 2) (by omega) 3) (by omega) 4) (by omega) 5) (by omega) 6) (by omega) 7) (by omega) 8) (by omega) 17) (by omega) 19), hZ, ⟨hwR2, ⟨a2.1, fun _ => ⟨b1, (cx_Hf (by decide) (cx_Hf (by decide) (cx_Hf (by decide) (cx_Hf (by decide) (cx_Hf (by decide) (cx_Hf (by decide) (cx_Hf (by decide) (cx_Hf (by decide) (cx_Hf (by decide) (cx_Hf (by decide) (cx_Hf (by decide) (cx_Hf (by decide) (cx_Hf (by decide) (cx_Hf (by decide) (cx_Hf (by decide) (cx_Hi (by decide) (cx_Hi (by decide) (cx_Hi (by decide) (cx_Hi (by decide) (cx_Hi (by decide) (cx_Hi (by decide) (cx_Hi (by decide) (cx_Hi (by decide) (cx_Hi (by decide) (cx_Hi (by decide) b2))))))))))))))))))))))))), Int.le_refl _⟩⟩, a3, a4, (Or.inl rfl), a6, rfl, ⟨by omega, Or.inl ⟨hz, rfl, hN.elim (fun q => Or.inl q.1) (fun q => Or.inr ⟨q.1, CB_s q.2 (by omega)⟩)⟩⟩, (cx_Hf (by decide) (cx_Hf (by decide) (cx_Hf (by decide) (cx_Hf (by decide) (cx_Hf (by decide) (cx_Hf (by decide) (cx_Hf (by decide) (cx_Hf (by decide) (cx_Hf (by decide) (cx_Hf (by decide) (cx_Hf (by decide) (cx_Hf (by decide) (cx_Hf (by decide) (cx_Hf (by decide) (cx_Hf (by decide) (cx_Hi (by decide) (cx_Hi (by decide) (cx_Hi (by decide) (cx_Hi (by decide) (cx_Hi (by decide) (cx_Hi (by decide) (cx_Hi (by decide) (cx_Hi (by decide) (cx_Hi (by decide) (cx_Hi (by decide) b2)))))))))))))))))))))))))⟩, b⟩
  · obtain ⟨hN1, hN2⟩ := hN.resolve_left (fun q => hz q.2)
    subst hN1
    obtain ⟨h, h20, h5⟩ : ∃ h : Nat, im 20 = (h : Int) + 1 ∧ h < 5 := ⟨(im 20 - 1).toNat, by omega, by omega⟩
    refine g_callV (pc := pc) (qr := 0) hC [0, 1, 2, 3, 4, 5, 6, 7, 8, 9, 10, 11, 12, 13, 14, 15, 16, 17, 18, 19, 20, 21, 22, 23, 24, 25, 26, 27, 28, 29, 30, 31, 32, 33, 34, 35, 36, 37, 38, 39, 40, 41, 42, 43, 44, 46, 48, 45, 49] (k_X9_undo_r (ad 0) (ad 1) (ad 23) (ad 45) (ad 46) (ad 49) (ad 59) (ad 2) (ad 9) (ad 11) (ad 15) (ad 19) (ad 3) (ad 4) (ad 5) (ad 6) (ad 7) (ad 8) (ad 10) (ad 12) (ad 13) (ad 14) (ad 16) (ad 17) (ad 18) (ad 20) (ad 21) (ad 22) (ad 24) (ad 31) (ad 33) (ad 37) (ad 41) (ad 25) (ad 26) (ad 27) (ad 28) (ad 29) (ad 30) (ad 32) (ad 34) (ad 35) (ad 36) (ad 38) (ad 39) (ad 40) (ad 42) (ad 43) (ad 44) (ad 48) hv (.ref (ad 47)) (.ref (ad 50)) (.ref (ad 46)) (.int (iI (I 18))) (.ref (ad 57)) (.int (iI (I 19))) (.ref (ad 58)) hm (I 0) (I 1) (I 2) (I 3) (I 4) (I 5) (I 6) (I 7) (I 8) (I 9) (I 10) (I 11) (I 12) (I 13) (I 14) (I 15) (I 16) (I 17) (F 3) (F 4) (F 5) (F 6) (F 7) (F 8) (F 10) (F 12) (F 13) (F 14) (F 16) (F 17) (F 18) (F 20) (F 21) (F 22) (F 25) (F 26) (F 27) (F 28) (F 29) (F 30) (F 32) (F 34) (F 35) (F 36) (F 38) (F 39) (F 40) (F 42) (F 43) (F 44) (F 48) im (ad (61 + 2 * h)) (hI _) (hI _) (hI _) (hI _) (hI _) (hI _) (hI _) (hI _) (hI _) (hI _) (hI _) (hI _) (hI _) (hI _) (hI _) (hI _) (hI _) (hI _) (hF _) (hF _) (hF _) (hF _) (hF _) (hF _) (hF _) (hF _) (hF _) (hF _) (hF _) (hF _) (hF _) (hF _) (hF _) (hF _) (hF _) (hF _) (hF _) (hF _) (hF _) (hF _) (hF _) (hF _) (hF _) (hF _) (hF _) (hF _) (hF _) (hF _) (hF _) (hF _) (hF _) (by have := a2.1; omega) hgi.1 hgi.2.1 b1 (fun p q1 q2 => (a1.1.2.2.2.1 p q1 q2).2.2) (by omega) (by rw [show (I 9 - 1).toNat = h by omega]; exact hhm h h5)) cl_X9_undo hl d rfl rfl rfl rfl rfl (by decide) (Nat.le_trans (by decide) hn) hco hst rfl (fun v9 w9 hq9 => ?_)
    obtain ⟨kdD, nbD, rmD, stD, rwD, tfD, seD1, seD2, seD3, plD1, plD2, plD3, boD1, boD2, boD3, rfl, rfl, r_kdD, r_nbD, r_rmD, r_stD, r_rwD, r_tfD, r_seD1, r_seD2, r_seD3, r_plD1, r_plD2, r_plD3, r_boD1, r_boD2, r_boD3, hwR2⟩ := hq9
    refine g_ws hC (WXM K ad (upF (upF (upF (upF (upF (upF (upF (upF (upF (upF (upF (upF (upF (upF (upF F 3 kdD) 4 nbD) 5 rmD) 6 stD) 7 rwD) 10 tfD) 12 seD1) 13 seD2) 14 seD3) 16 plD1) 17 plD2) 18 plD3) 20 boD1) 21 boD2) 22 boD3) (upJ (upJ (upJ (upJ (upJ (upJ (upJ (upJ (upJ (upJ I 1 (I 9)) 2 (I 10)) 3 (I 11)) 4 (I 12)) 5 (I 13)) 6 (I 14)) 7 (I 15)) 8 (I 16)) 17 ((I 17) + 1)) 19 0) J Z hm (.ref (ad (61 + 2 * h))) 36000) rfl ?_
    exact kk _ ⟨ad, (upF (upF (upF (upF (upF (upF (upF (upF (upF (upF (upF (upF (upF (upF (upF F 3 kdD) 4 nbD) 5 rmD) 6 stD) 7 rwD) 10 tfD) 12 seD1) 13 seD2) 14 seD3) 16 plD1) 17 plD2) 18 plD3) 20 boD1) 21 boD2) 22 boD3), (upJ (upJ (upJ (upJ (upJ (upJ (upJ (upJ (upJ (upJ I 1 (I 9)) 2 (I 10)) 3 (I 11)) 4 (I 12)) 5 (I 13)) 6 (I 14)) 7 (I 15)) 8 (I 16)) 17 ((I 17) + 1)) 19 0), J, Z, hm, (.ref (ad (61 + 2 * h))), rfl, ⟨rfl, rfl⟩, hhm, (upF_r (upF_r (upF_r (upF_r (upF_r (upF_r (upF_r (upF_r (upF_r (upF_r (upF_r (upF_r (upF_r (upF_r (upF_r hF r_kdD 3) r_nbD 4) r_rmD 5) r_stD 6) r_rwD 7) r_tfD 10) r_seD1 12) r_seD2 13) r_seD3 14) r_plD1 16) r_plD2 17) r_plD3 18) r_boD1 20) r_boD2 21) r_boD3 22), (upJ_r (upJ_r (upJ_r (upJ_r (upJ_r (upJ_r (upJ_r (upJ_r (upJ_r (upJ_r hI (by omega) 1) (by omega) 2) (by omega) 3) (by omega) 4) (by omega) 5) (by omega) 6) (by omega) 7) (by omega) 8) (by omega) 17) (by omega) 19), hZ, ⟨hwR2, ⟨a2.1, fun _ => ⟨b1, (cx_Hf (by decide) (cx_Hf (by decide) (cx_Hf (by decide) (cx_Hf (by decide) (cx_Hf (by decide) (cx_Hf (by decide) (cx_Hf (by decide) (cx_Hf (by decide) (cx_Hf (by decide) (cx_Hf (by decide) (cx_Hf (by decide) (cx_Hf (by decide) (cx_Hf (by decide) (cx_Hf (by decide) (cx_Hf (by decide) (cx_Hi (by decide) (cx_Hi (by decide) (cx_Hi (by decide) (cx_Hi (by decide) (cx_Hi (by decide) (cx_Hi (by decide) (cx_Hi (by decide) (cx_Hi (by decide) (cx_Hi (by decide) (cx_Hi (by decide) b2))))))))))))))))))))))))), Int.le_refl _⟩⟩, a3, a4, (Or.inl rfl), a6, rfl, ⟨by omega, Or.inr ⟨h, h20, h5, rfl, rfl, CB_CC hN2 (by omega)⟩⟩, (cx_Hf (by decide) (cx_Hf (by decide) (cx_Hf (by decide) (cx_Hf (by decide) (cx_Hf (by decide) (cx_Hf (by decide) (cx_Hf (by decide) (cx_Hf (by decide) (cx_Hf (by decide) (cx_Hf (by decide) (cx_Hf (by decide) (cx_Hf (by decide) (cx_Hf (by decide) (cx_Hf (by decide) (cx_Hf (by decide) (cx_Hi (by decide) (cx_Hi (by decide) (cx_Hi (by decide) (cx_Hi (by decide) (cx_Hi (by decide) (cx_Hi (by decide) (cx_Hi (by decide) (cx_Hi (by decide) (cx_Hi (by decide) (cx_Hi (by decide) b2)))))))))))))))))))))))))⟩, b⟩
