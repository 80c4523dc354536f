def nt_l (l : List Int) : Nat → List Int
  | 0 => l
  | n + 1 => nt_l l n ++ [-1]
theorem px_spl_3 {T : Int → Int} {w p : Int} : px_spl T 3 (sl 3).toNat w p = px_must T 32 w p := rfl
theorem px_spl_4 {T : Int → Int} {w p : Int} : px_spl T 4 (sl 4).toNat w p = px_must T 41 w p := rfl
theorem px_must_1 (T : Int → Int) (c p : Int) : (1, p) = px_must T c 1 p := by
  unfold px_must
  rw [if_neg (fun q => absurd (show (1 : Int) = 0 from q.1) (by decide))]
theorem px_fig_1 (T : Int → Int) (p : Int) : (1, p, 0) = px_fig T 1 p := by
  unfold px_fig
  rw [if_neg (fun q => absurd (show (1 : Int) = 0 from q.1) (by decide))]
theorem px_tst_33 {T : Int → Int} {p : Int} {l : List Int} (h : T p = 33) : px_tst T p l = (1, p, l) := by
  unfold px_tst
  rw [h, show px_am 5 33 (sl 5).toNat = -1 from by decide +kernel, if_pos rfl]
theorem px_fac_33 {T : Int → Int} {w p : Int} {l : List Int} {z : pZ} (hw : w = 0) (h : T p = 33) (hz : z = px_tst T p l) : z = px_fac T 0 (w, p, l) := by
  rw [hz, px_tst_33 h]
  exact px_fac_0 hw (Or.inl h)
theorem px_br_f {T : Int → Int} {d : Nat} {p p3 r3 : Int} {l l3 : List Int} (hc : T p = 40) (hr : r3 = 0) (h : (1 - r3, p3, l3) = px_some T (px_fac T d) (0, p + 1, l)) : (1, p3, l3) = px_fac T (d + 1) (0, p, l) := by
  subst hr
  exact px_fac_br rfl hc h (px_must_1 T 41 p3)
theorem px_br_t {T : Int → Int} {d : Nat} {p p3 r3 r4 p4 : Int} {l l3 : List Int} (hc : T p = 40) (hr : r3 = 1) (h : (1 - r3, p3, l3) = px_some T (px_fac T d) (0, p + 1, l)) (h4 : (1 - r4, p4) = px_spl T 4 (sl 4).toNat 0 p3) : (1 - r4, p4, l3) = px_fac T (d + 1) (0, p, l) := by
  subst hr
  exact px_fac_br rfl hc h h4
def px_AN (an : Int) (z : pZ) : pZ := if an = 0 then z else px_emit (-2) z
def px_SO (T : Int → Int) (F : pZ → pZ) (o : Int) (f : Nat) (z : pZ) : pZ := if o = 0 then px_so T F f z else px_so T F f (px_emit (-3) z)
theorem px_E_f {T : Int → Int} {F : pZ → pZ} {an o p1 p3 r3 : Int} {f1 f2 : Nat} {l1 l3 : List Int} {z : pZ} (hz : px_SO T F o f2 (px_ev T F f1 (px_AN an (F (0, p1, l1)))) = z) (hr : r3 = 0) (h : (1 - r3, p3, l3) = F (0, p1, l1)) : (1, p3, l3) = z := by
  subst hr
  rw [← hz, ← h]
  have e1 : px_AN an (1 - 0, p3, l3) = (1, p3, l3) := by
    unfold px_AN
    split <;> rfl
  rw [e1, px_ev_end (by rintro ⟨h1, -⟩; exact absurd (show (1 : Int) = 0 from h1) (by decide))]
  unfold px_SO
  split
  · rw [px_so_end (by rintro ⟨h1, -⟩; exact absurd (show (1 : Int) = 0 from h1) (by decide))]
  · rw [show px_emit (-3) (1, p3, l3) = (1, p3, l3) from rfl, px_so_end (by rintro ⟨h1, -⟩; exact absurd (show (1 : Int) = 0 from h1) (by decide))]
theorem px_AN_is {an p3 : Int} {l3 l4 : List Int} (h : l4 = if an = 0 then l3 else l3 ++ [-2]) : px_AN an (0, p3, l3) = (0, p3, l4) := by
  unfold px_AN
  rw [h]
  by_cases ha : an = 0
  · rw [if_pos ha, if_pos ha]
  · rw [if_neg ha, if_neg ha]; rfl
theorem px_E_and {T : Int → Int} {F : pZ → pZ} {an o p1 p3 r3 : Int} {f1 f2 : Nat} {l1 l3 l4 : List Int} {z : pZ} (hz : px_SO T F o f2 (px_ev T F (f1 + 1) (px_AN an (F (0, p1, l1)))) = z) (hr : r3 = 1) (h : (1 - r3, p3, l3) = F (0, p1, l1)) (h4 : l4 = if an = 0 then l3 else l3 ++ [-2]) (hc : T p3 = 38) : px_SO T F o f2 (px_ev T F f1 (px_AN 1 (F (0, p3 + 1, l4)))) = z := by
  subst hr
  rw [← hz, ← h, show ((1 - 1 : Int), p3, l3) = (0, p3, l3) from rfl, px_AN_is h4, px_ev, if_pos ⟨rfl, hc⟩]
  rfl
theorem px_ev_no {T : Int → Int} {F : pZ → pZ} {an p3 : Int} {f1 : Nat} {l3 l4 : List Int} (h4 : l4 = if an = 0 then l3 else l3 ++ [-2]) (hc : ¬ T p3 = 38) : px_ev T F f1 (px_AN an (0, p3, l3)) = (0, p3, l4) := by
  rw [px_AN_is h4]
  exact px_ev_end (fun q => hc q.2)
theorem px_E_or {T : Int → Int} {F : pZ → pZ} {an o p1 p3 r3 : Int} {f1 f2 : Nat} {l1 l3 l4 l5 : List Int} {z : pZ} (hz : px_SO T F o (f2 + 1) (px_ev T F f1 (px_AN an (F (0, p1, l1)))) = z) (hr : r3 = 1) (h : (1 - r3, p3, l3) = F (0, p1, l1)) (h4 : l4 = if an = 0 then l3 else l3 ++ [-2]) (h5 : l5 = if o = 0 then l4 else l4 ++ [-3]) (hc : ¬ T p3 = 38) (hc2 : T p3 = 124) : px_SO T F 1 f2 (px_ev T F 101 (px_AN 0 (F (0, p3 + 1, l5)))) = z := by
  subst hr
  rw [← hz, ← h, show ((1 - 1 : Int), p3, l3) = (0, p3, l3) from rfl, px_ev_no h4 hc]
  have e : px_SO T F o (f2 + 1) (0, p3, l4) = px_so T F (f2 + 1) (0, p3, l5) := by
    unfold px_SO
    rw [h5]
    by_cases ho : o = 0
    · rw [if_pos ho, if_pos ho]
    · rw [if_neg ho, if_neg ho]; rfl
  rw [e, px_so, if_pos ⟨rfl, hc2⟩]
  rfl
theorem px_E_end {T : Int → Int} {F : pZ → pZ} {an o p1 p3 r3 : Int} {f1 f2 : Nat} {l1 l3 l4 l5 : List Int} {z : pZ} (hz : px_SO T F o f2 (px_ev T F f1 (px_AN an (F (0, p1, l1)))) = z) (hr : r3 = 1) (h : (1 - r3, p3, l3) = F (0, p1, l1)) (h4 : l4 = if an = 0 then l3 else l3 ++ [-2]) (h5 : l5 = if o = 0 then l4 else l4 ++ [-3]) (hc : ¬ T p3 = 38) (hc2 : ¬ T p3 = 124) : (0, p3, l5) = z := by
  subst hr
  rw [← hz, ← h, show ((1 - 1 : Int), p3, l3) = (0, p3, l3) from rfl, px_ev_no h4 hc]
  unfold px_SO
  rw [h5]
  by_cases ho : o = 0
  · rw [if_pos ho, if_pos ho, px_so_end (fun q => hc2 q.2)]
  · rw [if_neg ho, if_neg ho, show px_emit (-3) (0, p3, l4) = (0, p3, l4 ++ [-3]) from rfl, px_so_end (fun q => hc2 q.2)]
theorem px_much_1 {T : Int → Int} {kd p p1 : Int} {k : Nat} {l : List Int} (h1 : (1, p1) = px_spl T k (sl k).toNat 0 p) : (1, p1, l) = px_much T kd k (0, p, l) :=
  px_much_is h1 (px_fig_1 T p1) (px_must_1 T 32 p1) (px_some_w (by decide)).symm (by rw [if_neg (by decide)])
theorem px_much_2 {T : Int → Int} {kd p p1 p2 v r1 r2 : Int} {k : Nat} {l : List Int} (hr1 : r1 = 1) (h1 : (1 - r1, p1) = px_spl T k (sl k).toNat 0 p) (hr2 : r2 = 0) (h2 : (1 - r2, p2, v) = px_fig T 0 p1) : (1, p2, l) = px_much T kd k (0, p, l) := by
  subst hr1 hr2
  exact px_much_is h1 h2 (px_must_1 T 32 p2) (px_some_w (by decide)).symm (by rw [if_neg (by decide)])
theorem px_much_3 {T : Int → Int} {kd p p1 p2 p3 v r1 r2 r3 : Int} {k : Nat} {l : List Int} (hr1 : r1 = 1) (h1 : (1 - r1, p1) = px_spl T k (sl k).toNat 0 p) (hr2 : r2 = 1) (h2 : (1 - r2, p2, v) = px_fig T 0 p1) (hr3 : r3 = 0) (h3 : (1 - r3, p3) = px_spl T 3 (sl 3).toNat 0 p2) : (1, p3, l) = px_much T kd k (0, p, l) := by
  subst hr1 hr2 hr3
  exact px_much_is h1 h2 h3 (px_some_w (by decide)).symm (by rw [if_neg (by decide)])
theorem px_much_4 {T : Int → Int} {kd p p1 p2 p3 p4 v r1 r2 r3 r4 : Int} {k : Nat} {l l4 : List Int} (hr1 : r1 = 1) (h1 : (1 - r1, p1) = px_spl T k (sl k).toNat 0 p) (hr2 : r2 = 1) (h2 : (1 - r2, p2, v) = px_fig T 0 p1) (hr3 : r3 = 1) (h3 : (1 - r3, p3) = px_spl T 3 (sl 3).toNat 0 p2) (hr4 : r4 = 0) (h4 : (1 - r4, p4, l4) = px_some T (px_fac T 5) (0, p3, l)) : (1, p4, l4) = px_much T kd k (0, p, l) := by
  subst hr1 hr2 hr3 hr4
  exact px_much_is h1 h2 h3 h4 (by rw [if_neg (by decide)])
theorem px_much_5 {T : Int → Int} {kd p p1 p2 p3 p4 v r1 r2 r3 r4 : Int} {k : Nat} {l l4 : List Int} (hr1 : r1 = 1) (h1 : (1 - r1, p1) = px_spl T k (sl k).toNat 0 p) (hr2 : r2 = 1) (h2 : (1 - r2, p2, v) = px_fig T 0 p1) (hr3 : r3 = 1) (h3 : (1 - r3, p3) = px_spl T 3 (sl 3).toNat 0 p2) (hr4 : r4 = 1) (h4 : (1 - r4, p4, l4) = px_some T (px_fac T 5) (0, p3, l)) : (0, p4, l4 ++ [kd - v]) = px_much T kd k (0, p, l) := by
  subst hr1 hr2 hr3 hr4
  exact px_much_is h1 h2 h3 h4 (by rw [if_pos (by decide)])
theorem px_tell_1 {T : Int → Int} {p p1 : Int} {k : Nat} (h1 : (1, p1) = px_spl T k (sl k).toNat 0 p) : (1, p1, 0) = px_tell T k 0 p := px_tell_is h1 (px_fig_1 T p1)
theorem px_tell_2 {T : Int → Int} {p p1 p2 v r1 r2 : Int} {k : Nat} (hr1 : r1 = 1) (h1 : (1 - r1, p1) = px_spl T k (sl k).toNat 0 p) (h2 : (1 - r2, p2, v) = px_fig T 0 p1) : (1 - r2, p2, v) = px_tell T k 0 p := by
  subst hr1
  exact px_tell_is h1 h2
theorem px_spl_hd {T : Int → Int} {k : Nat} {p : Int} (hk : k < 7) (h : ¬ T p = sx k 0) : (1, p) = px_spl T k (sl k).toNat 0 p := by
  have h2 := sl_rng hk
  exact px_spl_no (j := 0) (i := 0) rfl rfl h (by omega)
theorem px_cl_f {T : Int → Int} {p p2 r2 rc : Int} {l : List Int} (h2 : ¬ T p = 114) (h1 : ¬ T p = 104) (hr : r2 = 0) (h : (1 - r2, p2) = px_spl T 2 (sl 2).toNat 0 p) : (1, p2, l, rc) = px_cl T p l rc := by
  subst hr
  by_cases h3 : T p = 115
  · exact px_cl_s rfl h3 (px_much_1 h)
  · have h4 := px_spl_hd (T := T) (k := 2) (p := p) (by decide) (by rw [show sx 2 0 = 115 from rfl]; exact h3)
    rw [← h4] at h
    have h5 : p2 = p := (Prod.mk.inj h).2
    rw [h5]
    exact px_cl_no h1 h2 h3
theorem px_cl_115 {T : Int → Int} {p p2 r2 : Int} (hr : r2 = 1) (h : (1 - r2, p2) = px_spl T 2 (sl 2).toNat 0 p) : T p = 115 := by
  subst hr
  by_cases h3 : T p = 115
  · exact h3
  · have h4 := px_spl_hd (T := T) (k := 2) (p := p) (by decide) (by rw [show sx 2 0 = 115 from rfl]; exact h3)
    rw [← h4] at h
    exact absurd (Prod.mk.inj h).1 (by decide)
theorem tk_e_h {n : Int} (h : 0 ≤ n ∧ n ≤ 99) : n * 16 + 9 = tk_e (-10 - n) := by
  unfold tk_e
  rw [if_neg (by omega), if_neg (by omega), if_neg (by omega), if_neg (by omega), if_pos (by omega)]
  omega
theorem tk_e_s {n : Int} (h : 0 ≤ n ∧ n ≤ 99) : n * 16 + 10 = tk_e (-200 - n) := by
  unfold tk_e
  rw [if_neg (by omega), if_neg (by omega), if_neg (by omega), if_neg (by omega), if_neg (by omega)]
  omega
theorem px_cl_r9 {T : Int → Int} {p w2 p2 v rc rc2 : Int} {l : List Int} (hc : T p = 114) (h : (w2, p2, v) = px_tell T 0 0 p) (h2 : rc2 = if w2 = 0 then v else rc) : (w2, p2, l, rc2) = px_cl T p l rc := px_cl_r rfl hc h h2
set_option maxHeartbeats 4000000 in
set_option maxRecDepth 100000 in
theorem k_X3_readInBrackets_5 {K : gK} (g0 : Nat) (g1 : Nat) (g2 : Nat) (g3 : Nat) (g4 : Nat) (nm : Int) (p : Int) (e : Int) (m : Int) (rc : Int) (sg : Int → Int) (od : Int → Int) (T : Int → Int) (l : List Int) (r_nm : rI nm) (r_p : rI p) (r_e : rI e) (r_m : rI m) (r_rc : rI rc) (r_sg : ∀ j, rI (sg j)) (r_od : ∀ j, rI (od j)) (hT : cr_T T e sg) (hp : 0 ≤ p ∧ p ≤ e) (hL : cr_L l od m) (hl : (l.length : Int) ≤ p) (hnm : 0 ≤ nm ∧ nm ≤ 99) (hc : T p = 40) : gMet K yX3_readInBrackets cX3_readInBrackets 2 (some .boolean) 6 0 0 [.ref g0, .int (iI 5)] [cO g0 3 [.ref g1, .ref g2, .int (iI nm), .int (iI p)], cO g1 6 [.ref g3, .int (iI e)], cA K g3 100 sg, cO g2 1 [.ref g4, .int (iI m), .int (iI rc)], cA K g4 100 od] (fun v9 w9 => ∃ (r : Int), ∃ (p2 : Int), ∃ (nm2 : Int), ∃ (m2 : Int), ∃ (od2 : Int → Int), ∃ (l2 : List Int), v9 = some (.int (iI r)) ∧ w9 = [cO g0 3 [.ref g1, .ref g2, .int (iI nm2), .int (iI p2)], cO g1 6 [.ref g3, .int (iI e)], cA K g3 100 sg, cO g2 1 [.ref g4, .int (iI m2), .int (iI rc)], cA K g4 100 od2] ∧ rI r ∧ rI p2 ∧ rI nm2 ∧ rI m2 ∧ (∀ j, rI (od2 j)) ∧ ((1 - r, p2, l2) = px_fac T 0 (0, p, l)) ∧ (cr_L l2 od2 m2) ∧ ((r = 0 ∨ r = 1) ∧ p ≤ p2 ∧ p2 ≤ e ∧ (r = 1 → p < p2)) ∧ ((l2.length : Int) + p ≤ (l.length : Int) + p2) ∧ (0 ≤ nm2 ∧ nm2 ≤ 99)) := by
  refine g_enter (by decide +kernel) (Nat.le_of_ble_eq_true rfl) (fun G hC hR => ?_)
  refine g_lv hC [0, 1] [(0, _), (1, _)] rfl ?_
  have hge := hT.1
  refine g_iload_n (pc := 0) hC 1 dX3_readInBrackets_0 rfl rfl ?_
  refine g_iconst (pc := 1) hC dX3_readInBrackets_1 ?_
  refine g_icmp_lt (pc := 2) hC 7 dX3_readInBrackets_2 (by decide) (by omega) (by omega) (fun c2 => by exfalso; omega) (fun c2 => ?_)
  refine g_iconst (pc := 5) hC dX3_readInBrackets_5 ?_
  exact g_zret (pc := 6) hR dX3_readInBrackets_6 rfl (by omega) ⟨by omega, by omega⟩ (Nat.le_of_ble_eq_true rfl) ⟨0, p, nm, m, od, l, rfl, rfl, (by first | assumption | omega), (by first | assumption | omega), (by first | assumption | omega), (by first | assumption | omega), (by first | assumption | omega), (px_fac_0 rfl (Or.inr hc)), hL, (by first | assumption | omega), (by first | assumption | omega), (by first | assumption | omega)⟩
set_option maxHeartbeats 4000000 in
set_option maxRecDepth 100000 in
theorem k_X3_readOne_5 {K : gK} (g0 : Nat) (g1 : Nat) (g2 : Nat) (g3 : Nat) (g4 : Nat) (nm : Int) (p : Int) (e : Int) (m : Int) (rc : Int) (sg : Int → Int) (od : Int → Int) (T : Int → Int) (l : List Int) (r_nm : rI nm) (r_p : rI p) (r_e : rI e) (r_m : rI m) (r_rc : rI rc) (r_sg : ∀ j, rI (sg j)) (r_od : ∀ j, rI (od j)) (hT : cr_T T e sg) (hp : 0 ≤ p ∧ p ≤ e) (hL : cr_L l od m) (hl : (l.length : Int) ≤ p) (hnm : 0 ≤ nm ∧ nm ≤ 99) : gMet K yX3_readOne cX3_readOne 5 (some .boolean) 7 0 0 [.ref g0, .int (iI 5)] [cO g0 3 [.ref g1, .ref g2, .int (iI nm), .int (iI p)], cO g1 6 [.ref g3, .int (iI e)], cA K g3 100 sg, cO g2 1 [.ref g4, .int (iI m), .int (iI rc)], cA K g4 100 od] (fun v9 w9 => ∃ (r : Int), ∃ (p2 : Int), ∃ (nm2 : Int), ∃ (m2 : Int), ∃ (od2 : Int → Int), ∃ (l2 : List Int), v9 = some (.int (iI r)) ∧ w9 = [cO g0 3 [.ref g1, .ref g2, .int (iI nm2), .int (iI p2)], cO g1 6 [.ref g3, .int (iI e)], cA K g3 100 sg, cO g2 1 [.ref g4, .int (iI m2), .int (iI rc)], cA K g4 100 od2] ∧ rI r ∧ rI p2 ∧ rI nm2 ∧ rI m2 ∧ (∀ j, rI (od2 j)) ∧ ((1 - r, p2, l2) = px_fac T 0 (0, p, l)) ∧ (cr_L l2 od2 m2) ∧ ((r = 0 ∨ r = 1) ∧ p ≤ p2 ∧ p2 ≤ e ∧ (r = 1 → p < p2)) ∧ ((l2.length : Int) + p ≤ (l.length : Int) + p2) ∧ (0 ≤ nm2 ∧ nm2 ≤ 99)) := by
  refine g_enter (by decide +kernel) (Nat.le_of_ble_eq_true rfl) (fun G hC hR => ?_)
  refine g_lv hC [0, 1] [(0, _), (1, _)] rfl ?_
  have hge := hT.1
  refine g_iconst (pc := 0) hC dX3_readOne_0 ?_
  refine g_istore_n (pc := 1) hC [(2, _), (0, _), (1, _)] dX3_readOne_1 rfl (by decide) rfl ?_
  refine g_aload_n (pc := 2) hC 1 dX3_readOne_2 rfl rfl ?_
  refine g_fnV (pc := 3) (qr := 0) hC [0, 1, 2] (k_X3_sign _ _ _ _ _ _ _ _ _ (by first | assumption | omega) (by first | assumption | omega) (by first | assumption | omega) (by first | assumption | omega) (by first | assumption | omega) (by first | assumption | omega)) cl_X3_sign wm_X3_28 dX3_readOne_3 rfl rfl rfl rfl rfl (by decide) (by decide) ⟨by omega, by omega⟩ (Nat.le_of_ble_eq_true rfl) rfl rfl ?_
  refine g_name hC (fun y0 e_y0 => ?_)
  have q_y0 : -1 ≤ y0 ∧ y0 ≤ 127 := by rw [e_y0]; exact hT.2.2.1 _
  refine g_bipush (pc := 6) hC (33) dX3_readOne_6 (by decide) ?_
  refine g_icmp_ne (pc := 8) hC 34 dX3_readOne_8 (by decide) (by omega) (by omega) (fun c8 => ?_) (fun c8 => ?_)
  · have hn9 : ¬ T (p) = 33 := by omega
    refine g_aload_n (pc := 34) hC 1 dX3_readOne_34 rfl rfl ?_
    refine g_fnV (pc := 35) (qr := 0) hC [0, 1, 2] (k_X3_sign _ _ _ _ _ _ _ _ _ (by first | assumption | omega) (by first | assumption | omega) (by first | assumption | omega) (by first | assumption | omega) (by first | assumption | omega) (by first | assumption | omega)) cl_X3_sign wm_X3_28 dX3_readOne_35 rfl rfl rfl rfl rfl (by decide) (by decide) ⟨by omega, by omega⟩ (Nat.le_of_ble_eq_true rfl) rfl rfl ?_
    refine g_name hC (fun y99 e_y99 => ?_)
    have q_y99 : -1 ≤ y99 ∧ y99 ≤ 127 := by rw [e_y99]; exact hT.2.2.1 _
    refine g_bipush (pc := 38) hC (40) dX3_readOne_38 (by decide) ?_
    refine g_icmp_ne (pc := 40) hC 53 dX3_readOne_40 (by decide) (by omega) (by omega) (fun c40 => ?_) (fun c40 => ?_)
    · refine g_aload_n (pc := 53) hC 1 dX3_readOne_53 rfl rfl ?_
      refine g_callV (pc := 54) (qr := 0) hC [0, 1, 2, 3, 4] (k_X3_readTest _ _ _ _ _ _ _ _ _ _ _ _ _ _ (by first | assumption | omega) (by first | assumption | omega) (by first | assumption | omega) (by first | assumption | omega) (by first | assumption | omega) (by first | assumption | omega) (by first | assumption | omega) (by first | assumption | omega) (by first | assumption | omega) (by first | assumption | omega) (by first | assumption | omega) (by first | assumption | omega)) cl_X3_readTest wm_X3_71 dX3_readOne_54 rfl rfl rfl rfl rfl (by decide) (by decide) (by omega) (Nat.le_of_ble_eq_true rfl) rfl (fun v9 w9 hq9 => ?_)
      obtain ⟨r3, p3, nm3, m3, od3, l3, rfl, rfl, r_r3, r_p3, r_nm3, r_m3, r_od3, hz_54, hL2_54, hb_54, hl2_54, hnm2_54⟩ := hq9
      refine g_ws hC [cO g0 3 [.ref g1, .ref g2, .int (iI nm3), .int (iI p3)], cO g1 6 [.ref g3, .int (iI e)], cA K g3 100 sg, cO g2 1 [.ref g4, .int (iI m3), .int (iI rc)], cA K g4 100 od3] rfl ?_
      refine g_st hC [.int (iI r3)] rfl ?_
      refine g_istore_n (pc := 57) hC [(3, _), (2, _), (0, _), (1, _)] dX3_readOne_57 rfl (by decide) rfl ?_
      refine g_iconst (pc := 58) hC dX3_readOne_58 ?_
      refine g_istore (pc := 59) hC [(4, _), (3, _), (2, _), (0, _), (1, _)] dX3_readOne_59 (by decide) rfl ?_
      refine g_iload (pc := 61) hC 0 dX3_readOne_61 rfl ?_
      refine g_iload_n (pc := 63) hC 2 dX3_readOne_63 rfl rfl ?_
      refine g_icmp_ge (pc := 64) hC 87 dX3_readOne_64 (by decide) (by omega) (by omega) (fun c64 => ?_) (fun c64 => by exfalso; omega)
      refine g_iload_n (pc := 87) hC 1 dX3_readOne_87 rfl rfl ?_
      exact g_zret (pc := 88) hR dX3_readOne_88 rfl (by omega) ⟨by omega, by omega⟩ (Nat.le_of_ble_eq_true rfl) ⟨r3, p3, nm3, m3, od3, l3, rfl, rfl, (by first | assumption | omega), (by first | assumption | omega), (by first | assumption | omega), (by first | assumption | omega), (by first | assumption | omega), (px_fac_t rfl hn9 (by omega) hz_54), hL2_54, (by first | assumption | omega), (by first | assumption | omega), (by first | assumption | omega)⟩
    · have hlt9 := cr_lt hT (by omega) (show T (p) = 40 by omega) (by decide)
      refine g_aload_n (pc := 43) hC 1 dX3_readOne_43 rfl rfl ?_
      refine g_iload_n (pc := 44) hC 2 dX3_readOne_44 rfl rfl ?_
      refine g_iload_n (pc := 45) hC 0 dX3_readOne_45 rfl rfl ?_
      refine g_iadd (pc := 46) hC dX3_readOne_46 ?_
      refine g_st hC [.int (iI (5)), _] rfl ?_
      refine g_callV (pc := 47) (qr := 0) hC [0, 1, 2, 3, 4] (k_X3_readInBrackets_5 _ _ _ _ _ _ _ _ _ _ _ _ _ _ (by first | assumption | omega) (by first | assumption | omega) (by first | assumption | omega) (by first | assumption | omega) (by first | assumption | omega) (by first | assumption | omega) (by first | assumption | omega) (by first | assumption | omega) (by first | assumption | omega) (by first | assumption | omega) (by first | assumption | omega) (by first | assumption | omega) (by first | assumption | omega)) cl_X3_readInBrackets wm_X3_68 dX3_readOne_47 rfl rfl rfl rfl rfl (by decide) (by decide) (by omega) (Nat.le_of_ble_eq_true rfl) rfl (fun v9 w9 hq9 => ?_)
      obtain ⟨r3, p3, nm3, m3, od3, l3, rfl, rfl, r_r3, r_p3, r_nm3, r_m3, r_od3, hz_47, hL2_47, hb_47, hl2_47, hnm2_47⟩ := hq9
      refine g_ws hC [cO g0 3 [.ref g1, .ref g2, .int (iI nm3), .int (iI p3)], cO g1 6 [.ref g3, .int (iI e)], cA K g3 100 sg, cO g2 1 [.ref g4, .int (iI m3), .int (iI rc)], cA K g4 100 od3] rfl ?_
      refine g_st hC [.int (iI r3)] rfl ?_
      refine g_goto (pc := 50) hC 57 dX3_readOne_50 (by decide) ?_
      refine g_istore_n (pc := 57) hC [(3, _), (2, _), (0, _), (1, _)] dX3_readOne_57 rfl (by decide) rfl ?_
      refine g_iconst (pc := 58) hC dX3_readOne_58 ?_
      refine g_istore (pc := 59) hC [(4, _), (3, _), (2, _), (0, _), (1, _)] dX3_readOne_59 (by decide) rfl ?_
      refine g_iload (pc := 61) hC 0 dX3_readOne_61 rfl ?_
      refine g_iload_n (pc := 63) hC 2 dX3_readOne_63 rfl rfl ?_
      refine g_icmp_ge (pc := 64) hC 87 dX3_readOne_64 (by decide) (by omega) (by omega) (fun c64 => ?_) (fun c64 => by exfalso; omega)
      refine g_iload_n (pc := 87) hC 1 dX3_readOne_87 rfl rfl ?_
      exact g_zret (pc := 88) hR dX3_readOne_88 rfl (by omega) ⟨by omega, by omega⟩ (Nat.le_of_ble_eq_true rfl) ⟨r3, p3, nm3, m3, od3, l3, rfl, rfl, (by first | assumption | omega), (by first | assumption | omega), (by first | assumption | omega), (by first | assumption | omega), (by first | assumption | omega), hz_47, hL2_47, (by first | assumption | omega), (by first | assumption | omega), (by first | assumption | omega)⟩
  · have hq0 : T (p) = 33 := by omega
    have hlt0 := cr_lt hT (by omega) hq0 (by decide)
    refine g_iload_n (pc := 11) hC 2 dX3_readOne_11 rfl rfl ?_
    refine g_iload_n (pc := 12) hC 0 dX3_readOne_12 rfl rfl ?_
    refine g_iadd (pc := 13) hC dX3_readOne_13 ?_
    refine g_st hC [.int (iI (5))] rfl ?_
    refine g_iconst (pc := 14) hC dX3_readOne_14 ?_
    refine g_icmp_ge (pc := 15) hC 34 dX3_readOne_15 (by decide) (by omega) (by omega) (fun c15 => ?_) (fun c15 => by exfalso; omega)
    have hq9 : T (p) = 33 := by omega
    skip
    refine g_aload_n (pc := 34) hC 1 dX3_readOne_34 rfl rfl ?_
    refine g_fnV (pc := 35) (qr := 0) hC [0, 1, 2] (k_X3_sign _ _ _ _ _ _ _ _ _ (by first | assumption | omega) (by first | assumption | omega) (by first | assumption | omega) (by first | assumption | omega) (by first | assumption | omega) (by first | assumption | omega)) cl_X3_sign wm_X3_28 dX3_readOne_35 rfl rfl rfl rfl rfl (by decide) (by decide) ⟨by omega, by omega⟩ (Nat.le_of_ble_eq_true rfl) rfl rfl ?_
    refine g_name hC (fun y99 e_y99 => ?_)
    have q_y99 : -1 ≤ y99 ∧ y99 ≤ 127 := by rw [e_y99]; exact hT.2.2.1 _
    refine g_bipush (pc := 38) hC (40) dX3_readOne_38 (by decide) ?_
    refine g_icmp_ne (pc := 40) hC 53 dX3_readOne_40 (by decide) (by omega) (by omega) (fun c40 => ?_) (fun c40 => by exfalso; omega)
    refine g_aload_n (pc := 53) hC 1 dX3_readOne_53 rfl rfl ?_
    refine g_callV (pc := 54) (qr := 0) hC [0, 1, 2, 3, 4] (k_X3_readTest _ _ _ _ _ _ _ _ _ _ _ _ _ _ (by first | assumption | omega) (by first | assumption | omega) (by first | assumption | omega) (by first | assumption | omega) (by first | assumption | omega) (by first | assumption | omega) (by first | assumption | omega) (by first | assumption | omega) (by first | assumption | omega) (by first | assumption | omega) (by first | assumption | omega) (by first | assumption | omega)) cl_X3_readTest wm_X3_71 dX3_readOne_54 rfl rfl rfl rfl rfl (by decide) (by decide) (by omega) (Nat.le_of_ble_eq_true rfl) rfl (fun v9 w9 hq9 => ?_)
    obtain ⟨r3, p3, nm3, m3, od3, l3, rfl, rfl, r_r3, r_p3, r_nm3, r_m3, r_od3, hz_54, hL2_54, hb_54, hl2_54, hnm2_54⟩ := hq9
    refine g_ws hC [cO g0 3 [.ref g1, .ref g2, .int (iI nm3), .int (iI p3)], cO g1 6 [.ref g3, .int (iI e)], cA K g3 100 sg, cO g2 1 [.ref g4, .int (iI m3), .int (iI rc)], cA K g4 100 od3] rfl ?_
    refine g_st hC [.int (iI r3)] rfl ?_
    refine g_istore_n (pc := 57) hC [(3, _), (2, _), (0, _), (1, _)] dX3_readOne_57 rfl (by decide) rfl ?_
    refine g_iconst (pc := 58) hC dX3_readOne_58 ?_
    refine g_istore (pc := 59) hC [(4, _), (3, _), (2, _), (0, _), (1, _)] dX3_readOne_59 (by decide) rfl ?_
    refine g_iload (pc := 61) hC 0 dX3_readOne_61 rfl ?_
    refine g_iload_n (pc := 63) hC 2 dX3_readOne_63 rfl rfl ?_
    refine g_icmp_ge (pc := 64) hC 87 dX3_readOne_64 (by decide) (by omega) (by omega) (fun c64 => ?_) (fun c64 => by exfalso; omega)
    refine g_iload_n (pc := 87) hC 1 dX3_readOne_87 rfl rfl ?_
    exact g_zret (pc := 88) hR dX3_readOne_88 rfl (by omega) ⟨by omega, by omega⟩ (Nat.le_of_ble_eq_true rfl) ⟨r3, p3, nm3, m3, od3, l3, rfl, rfl, (by first | assumption | omega), (by first | assumption | omega), (by first | assumption | omega), (by first | assumption | omega), (by first | assumption | omega), (px_fac_33 rfl hq9 hz_54), hL2_54, (by first | assumption | omega), (by first | assumption | omega), (by first | assumption | omega)⟩
set_option maxHeartbeats 4000000 in
set_option maxRecDepth 100000 in
theorem k_X3_readEither_5 {K : gK} (g0 : Nat) (g1 : Nat) (g2 : Nat) (g3 : Nat) (g4 : Nat) (nm : Int) (p : Int) (e : Int) (m : Int) (rc : Int) (sg : Int → Int) (od : Int → Int) (T : Int → Int) (l : List Int) (r_nm : rI nm) (r_p : rI p) (r_e : rI e) (r_m : rI m) (r_rc : rI rc) (r_sg : ∀ j, rI (sg j)) (r_od : ∀ j, rI (od j)) (hT : cr_T T e sg) (hp : 0 ≤ p ∧ p ≤ e) (hL : cr_L l od m) (hl : (l.length : Int) ≤ p) (hnm : 0 ≤ nm ∧ nm ≤ 99) : gMet K yX3_readEither cX3_readEither 5 (some .boolean) 8 0 0 [.ref g0, .int (iI 5)] [cO g0 3 [.ref g1, .ref g2, .int (iI nm), .int (iI p)], cO g1 6 [.ref g3, .int (iI e)], cA K g3 100 sg, cO g2 1 [.ref g4, .int (iI m), .int (iI rc)], cA K g4 100 od] (fun v9 w9 => ∃ (r : Int), ∃ (p2 : Int), ∃ (nm2 : Int), ∃ (m2 : Int), ∃ (od2 : Int → Int), ∃ (l2 : List Int), v9 = some (.int (iI r)) ∧ w9 = [cO g0 3 [.ref g1, .ref g2, .int (iI nm2), .int (iI p2)], cO g1 6 [.ref g3, .int (iI e)], cA K g3 100 sg, cO g2 1 [.ref g4, .int (iI m2), .int (iI rc)], cA K g4 100 od2] ∧ rI r ∧ rI p2 ∧ rI nm2 ∧ rI m2 ∧ (∀ j, rI (od2 j)) ∧ ((1 - r, p2, l2) = px_some T (px_fac T 0) (0, p, l)) ∧ (cr_L l2 od2 m2) ∧ ((r = 0 ∨ r = 1) ∧ p ≤ p2 ∧ p2 ≤ e ∧ (r = 1 → p < p2)) ∧ ((l2.length : Int) + p ≤ (l.length : Int) + p2) ∧ (0 ≤ nm2 ∧ nm2 ≤ 99)) := by
  refine g_enter (by decide +kernel) (Nat.le_of_ble_eq_true rfl) (fun G hC hR => ?_)
  refine g_lv hC [0, 1] [(0, _), (1, _)] rfl ?_
  have hge := hT.1
  refine g_iconst (pc := 0) hC dX3_readEither_0 ?_
  refine g_istore_n (pc := 1) hC [(2, _), (0, _), (1, _)] dX3_readEither_1 rfl (by decide) rfl ?_
  refine g_iconst (pc := 2) hC dX3_readEither_2 ?_
  refine g_istore_n (pc := 3) hC [(3, _), (2, _), (0, _), (1, _)] dX3_readEither_3 rfl (by decide) rfl ?_
  refine g_iconst (pc := 4) hC dX3_readEither_4 ?_
  refine g_istore (pc := 5) hC [(4, _), (3, _), (2, _), (0, _), (1, _)] dX3_readEither_5 (by decide) rfl ?_
  have L7 : ∀ (n1 : Nat) (an : Int) (o : Int) (pt : Int) (p1 : Int) (nm1 : Int) (m1 : Int) (od1 : Int → Int) (l1 : List Int) (f1 : Nat) (f2 : Nat), (rI an) → (rI o) → (rI pt) → (rI p1) → (rI nm1) → (rI m1) → (∀ j, rI (od1 j)) → (px_SO T (px_fac T 0) o f2 (px_ev T (px_fac T 0) f1 (px_AN an ((px_fac T 0) (0, p1, l1)))) = px_some T (px_fac T 0) (0, p, l)) → (cr_L l1 od1 m1) → ((an = 0 ∨ an = 1) ∧ (o = 0 ∨ o = 1) ∧ 0 ≤ pt ∧ p + 2 * pt ≤ p1 ∧ p1 ≤ e) → ((l1.length : Int) + p + an + o ≤ (l.length : Int) + p1) → (e - p1 ≤ (f1 : Int)) → (e - p1 ≤ (f2 : Int)) → (0 ≤ nm1 ∧ nm1 ≤ 99) → e - p1 < (n1 : Int) → G 0 0 7 [(0, .ref g0), (1, .int (iI 5)), (2, .int (iI an)), (3, .int (iI o)), (4, .int (iI pt))] [] [cO g0 3 [.ref g1, .ref g2, .int (iI nm1), .int (iI p1)], cO g1 6 [.ref g3, .int (iI e)], cA K g3 100 sg, cO g2 1 [.ref g4, .int (iI m1), .int (iI rc)], cA K g4 100 od1] := by
    intro n1
    induction n1 with
    | zero => intro an o pt p1 nm1 m1 od1 l1 f1 f2 r_an r_o r_pt r_p1 r_nm1 r_m1 r_od1 hz hL1 hb1 hl1 hf1 hf2 hnm1 hm7; exfalso; omega
    | succ n1 ih7 =>
      intro an o pt p1 nm1 m1 od1 l1 f1 f2 r_an r_o r_pt r_p1 r_nm1 r_m1 r_od1 hz hL1 hb1 hl1 hf1 hf2 hnm1 hm7
      refine g_iload (pc := 7) hC 4 dX3_readEither_7 rfl ?_
      refine g_bipush (pc := 9) hC (100) dX3_readEither_9 (by decide) ?_
      refine g_icmp_ge (pc := 11) hC 108 dX3_readEither_11 (by decide) (by omega) (by omega) (fun c11 => by exfalso; omega) (fun c11 => ?_)
      refine g_aload_n (pc := 14) hC 0 dX3_readEither_14 rfl rfl ?_
      refine g_iload_n (pc := 15) hC 1 dX3_readEither_15 rfl rfl ?_
      refine g_callV (pc := 16) (qr := 0) hC [0, 1, 2, 3, 4] (k_X3_readOne_5 _ _ _ _ _ _ _ _ _ _ _ _ _ _ (by first | assumption | omega) (by first | assumption | omega) (by first | assumption | omega) (by first | assumption | omega) (by first | assumption | omega) (by first | assumption | omega) (by first | assumption | omega) (by first | assumption | omega) (by first | assumption | omega) (by first | assumption | omega) (by first | assumption | omega) (by first | assumption | omega)) cl_X3_readOne wm_X3_65 dX3_readEither_16 rfl rfl rfl rfl rfl (by decide) (by decide) (by omega) (Nat.le_of_ble_eq_true rfl) rfl (fun v9 w9 hq9 => ?_)
      obtain ⟨r3, p3, nm3, m3, od3, l3, rfl, rfl, r_r3, r_p3, r_nm3, r_m3, r_od3, hz_16, hL2_16, hb_16, hl2_16, hnm2_16⟩ := hq9
      refine g_ws hC [cO g0 3 [.ref g1, .ref g2, .int (iI nm3), .int (iI p3)], cO g1 6 [.ref g3, .int (iI e)], cA K g3 100 sg, cO g2 1 [.ref g4, .int (iI m3), .int (iI rc)], cA K g4 100 od3] rfl ?_
      refine g_st hC [.int (iI r3)] rfl ?_
      refine g_if_ne (pc := 19) hC 24 dX3_readEither_19 (by decide) (by omega) (fun c19 => ?_) (fun c19 => ?_)
      · refine g_iload_n (pc := 24) hC 2 dX3_readEither_24 rfl rfl ?_
        refine g_if_eq (pc := 25) hC 38 dX3_readEither_25 (by decide) (by omega) (fun c25 => ?_) (fun c25 => ?_)
        · refine g_aload_n (pc := 38) hC 0 dX3_readEither_38 rfl rfl ?_
          refine g_fnV (pc := 39) (qr := 0) hC [0, 1, 2] (k_X3_sign _ _ _ _ _ _ _ _ _ (by first | assumption | omega) (by first | assumption | omega) (by first | assumption | omega) (by first | assumption | omega) (by first | assumption | omega) (by first | assumption | omega)) cl_X3_sign wm_X3_28 dX3_readEither_39 rfl rfl rfl rfl rfl (by decide) (by decide) ⟨by omega, by omega⟩ (Nat.le_of_ble_eq_true rfl) rfl rfl ?_
          refine g_name hC (fun y39 e_y39 => ?_)
          have q_y39 : -1 ≤ y39 ∧ y39 ≤ 127 := by rw [e_y39]; exact hT.2.2.1 _
          refine g_bipush (pc := 42) hC (38) dX3_readEither_42 (by decide) ?_
          refine g_icmp_ne (pc := 44) hC 51 dX3_readEither_44 (by decide) (by omega) (by omega) (fun c44 => ?_) (fun c44 => ?_)
          · refine g_iconst (pc := 51) hC dX3_readEither_51 ?_
            refine g_istore_n (pc := 52) hC [(2, _), (0, _), (1, _), (3, _), (4, _)] dX3_readEither_52 rfl (by decide) rfl ?_
            refine g_iload_n (pc := 53) hC 0 dX3_readEither_53 rfl rfl ?_
            refine g_if_ne (pc := 54) hC 92 dX3_readEither_54 (by decide) (by omega) (fun c54 => by exfalso; omega) (fun c54 => ?_)
            refine g_iload_n (pc := 57) hC 3 dX3_readEither_57 rfl rfl ?_
            refine g_if_eq (pc := 58) hC 71 dX3_readEither_58 (by decide) (by omega) (fun c58 => ?_) (fun c58 => ?_)
            · refine g_aload_n (pc := 71) hC 1 dX3_readEither_71 rfl rfl ?_
              refine g_fnV (pc := 72) (qr := 0) hC [0, 1, 2] (k_X3_sign _ _ _ _ _ _ _ _ _ (by first | assumption | omega) (by first | assumption | omega) (by first | assumption | omega) (by first | assumption | omega) (by first | assumption | omega) (by first | assumption | omega)) cl_X3_sign wm_X3_28 dX3_readEither_72 rfl rfl rfl rfl rfl (by decide) (by decide) ⟨by omega, by omega⟩ (Nat.le_of_ble_eq_true rfl) rfl rfl ?_
              refine g_name hC (fun y72 e_y72 => ?_)
              have q_y72 : -1 ≤ y72 ∧ y72 ≤ 127 := by rw [e_y72]; exact hT.2.2.1 _
              refine g_bipush (pc := 75) hC (124) dX3_readEither_75 (by decide) ?_
              refine g_icmp_ne (pc := 77) hC 84 dX3_readEither_77 (by decide) (by omega) (by omega) (fun c77 => ?_) (fun c77 => ?_)
              · refine g_iconst (pc := 84) hC dX3_readEither_84 ?_
                refine g_istore_n (pc := 85) hC [(3, _), (2, _), (0, _), (1, _), (4, _)] dX3_readEither_85 rfl (by decide) rfl ?_
                refine g_iload_n (pc := 86) hC 0 dX3_readEither_86 rfl rfl ?_
                refine g_if_ne (pc := 87) hC 92 dX3_readEither_87 (by decide) (by omega) (fun c87 => by exfalso; omega) (fun c87 => ?_)
                refine g_iconst (pc := 90) hC dX3_readEither_90 ?_
                exact g_zret (pc := 91) hR dX3_readEither_91 rfl (by omega) ⟨by omega, by omega⟩ (Nat.le_of_ble_eq_true rfl) ⟨1, p3, nm3, m3, od3, l3, rfl, rfl, (by first | assumption | omega), (by first | assumption | omega), (by first | assumption | omega), (by first | assumption | omega), (by first | assumption | omega), (px_E_end hz (by omega) hz_16 (by rw [if_pos (by omega)]) (by rw [if_pos (by omega)]) (by omega) (by omega)), hL2_16, (by first | assumption | omega), (by first | omega | (simp only [nt_l, List.length_append, List.length_cons, List.length_nil]; omega)), (by first | assumption | omega)⟩
              · have hlt := cr_lt hT (show 0 ≤ p3 by omega) (show T p3 = 124 by omega) (by decide)
                obtain ⟨q2, rfl⟩ : ∃ q2, f2 = q2 + 1 := ⟨f2 - 1, by omega⟩
                refine g_iconst (pc := 80) hC dX3_readEither_80 ?_
                refine g_goto (pc := 81) hC 85 dX3_readEither_81 (by decide) ?_
                refine g_istore_n (pc := 85) hC [(3, _), (2, _), (0, _), (1, _), (4, _)] dX3_readEither_85 rfl (by decide) rfl ?_
                refine g_iload_n (pc := 86) hC 0 dX3_readEither_86 rfl rfl ?_
                refine g_if_ne (pc := 87) hC 92 dX3_readEither_87 (by decide) (by omega) (fun c87 => ?_) (fun c87 => by exfalso; omega)
                refine g_aload_n (pc := 92) hC 2 dX3_readEither_92 rfl rfl ?_
                refine g_dup (pc := 93) hC dX3_readEither_93 rfl ?_
                refine g_get (pc := 94) hC 0 fl_X3_32 dX3_readEither_94 rfl rfl ?_
                refine g_iconst (pc := 97) hC dX3_readEither_97 ?_
                refine g_iadd (pc := 98) hC dX3_readEither_98 ?_
                refine g_putI (pc := 99) hC 0 [cO _ _ [_, _, _, _], _, _, _, _] fl_X3_32 dX3_readEither_99 rfl (Nat.le_of_ble_eq_true rfl) rfl ?_
                refine g_iinc (pc := 102) hC 4 [(4, _), (3, _), (2, _), (0, _), (1, _)] dX3_readEither_102 rfl (by decide) rfl ?_
                refine g_goto (pc := 105) hC 7 dX3_readEither_105 (by decide) ?_
                refine g_lv hC [3, 4, 2, 1, 0] [(0, _), (1, _), (2, _), (3, _), (4, _)] rfl ?_
                exact ih7 0 1 (pt + 1) (p3 + 1) nm3 m3 od3 l3 101 q2 (by first | assumption | omega) (by first | assumption | omega) (by first | assumption | omega) (by first | assumption | omega) (by first | assumption | omega) (by first | assumption | omega) (by first | assumption | omega) (px_E_or hz (by omega) hz_16 (by rw [if_pos (by omega)]) (by rw [if_pos (by omega)]) (by omega) (by omega)) hL2_16 (by first | assumption | omega) (by first | omega | (simp only [nt_l, List.length_append, List.length_cons, List.length_nil]; omega)) (by first | assumption | omega) (by first | assumption | omega) (by first | assumption | omega) (by omega)
            · refine g_aload_n (pc := 61) hC 1 dX3_readEither_61 rfl rfl ?_
              refine g_get (pc := 62) hC 0 fl_X3_15 dX3_readEither_62 rfl rfl ?_
              refine g_bipush (pc := 65) hC (8) dX3_readEither_65 (by decide) ?_
              refine g_iconst (pc := 67) hC dX3_readEither_67 ?_
              refine g_callV (pc := 68) (qr := 3) hC [3, 4] (k_X1_put _ _ _ _ _ _ _ l3 (-3) (by first | assumption | omega) (by first | assumption | omega) (by first | assumption | omega) (by first | assumption | omega) (by first | assumption | omega) (by first | omega | (simp only [nt_l, List.length_append, List.length_cons, List.length_nil]; omega)) (by decide +kernel) (by decide)) cl_X1_put wm_X3_61 dX3_readEither_68 rfl rfl rfl rfl rfl (by decide) (by decide) (by omega) (Nat.le_of_ble_eq_true rfl) rfl (fun v9 w9 hq9 => ?_)
              obtain ⟨m6, od6, rfl, rfl, r_m6, r_od6, hL2_68, hm2_68⟩ := hq9
              refine g_ws hC [cO g0 3 [.ref g1, .ref g2, .int (iI nm3), .int (iI p3)], cO g1 6 [.ref g3, .int (iI e)], cA K g3 100 sg, cO g2 1 [.ref g4, .int (iI m6), .int (iI rc)], cA K g4 100 od6] rfl ?_
              refine g_st hC [] rfl ?_
              refine g_aload_n (pc := 71) hC 1 dX3_readEither_71 rfl rfl ?_
              refine g_fnV (pc := 72) (qr := 0) hC [0, 1, 2] (k_X3_sign _ _ _ _ _ _ _ _ _ (by first | assumption | omega) (by first | assumption | omega) (by first | assumption | omega) (by first | assumption | omega) (by first | assumption | omega) (by first | assumption | omega)) cl_X3_sign wm_X3_28 dX3_readEither_72 rfl rfl rfl rfl rfl (by decide) (by decide) ⟨by omega, by omega⟩ (Nat.le_of_ble_eq_true rfl) rfl rfl ?_
              refine g_name hC (fun y72 e_y72 => ?_)
              have q_y72 : -1 ≤ y72 ∧ y72 ≤ 127 := by rw [e_y72]; exact hT.2.2.1 _
              refine g_bipush (pc := 75) hC (124) dX3_readEither_75 (by decide) ?_
              refine g_icmp_ne (pc := 77) hC 84 dX3_readEither_77 (by decide) (by omega) (by omega) (fun c77 => ?_) (fun c77 => ?_)
              · refine g_iconst (pc := 84) hC dX3_readEither_84 ?_
                refine g_istore_n (pc := 85) hC [(3, _), (2, _), (0, _), (1, _), (4, _)] dX3_readEither_85 rfl (by decide) rfl ?_
                refine g_iload_n (pc := 86) hC 0 dX3_readEither_86 rfl rfl ?_
                refine g_if_ne (pc := 87) hC 92 dX3_readEither_87 (by decide) (by omega) (fun c87 => by exfalso; omega) (fun c87 => ?_)
                refine g_iconst (pc := 90) hC dX3_readEither_90 ?_
                exact g_zret (pc := 91) hR dX3_readEither_91 rfl (by omega) ⟨by omega, by omega⟩ (Nat.le_of_ble_eq_true rfl) ⟨1, p3, nm3, m6, od6, (l3 ++ [-3]), rfl, rfl, (by first | assumption | omega), (by first | assumption | omega), (by first | assumption | omega), (by first | assumption | omega), (by first | assumption | omega), (px_E_end hz (by omega) hz_16 (by rw [if_pos (by omega)]) (by rw [if_neg (by omega)]) (by omega) (by omega)), hL2_68, (by first | assumption | omega), (by first | omega | (simp only [nt_l, List.length_append, List.length_cons, List.length_nil]; omega)), (by first | assumption | omega)⟩
              · have hlt := cr_lt hT (show 0 ≤ p3 by omega) (show T p3 = 124 by omega) (by decide)
                obtain ⟨q2, rfl⟩ : ∃ q2, f2 = q2 + 1 := ⟨f2 - 1, by omega⟩
                refine g_iconst (pc := 80) hC dX3_readEither_80 ?_
                refine g_goto (pc := 81) hC 85 dX3_readEither_81 (by decide) ?_
                refine g_istore_n (pc := 85) hC [(3, _), (2, _), (0, _), (1, _), (4, _)] dX3_readEither_85 rfl (by decide) rfl ?_
                refine g_iload_n (pc := 86) hC 0 dX3_readEither_86 rfl rfl ?_
                refine g_if_ne (pc := 87) hC 92 dX3_readEither_87 (by decide) (by omega) (fun c87 => ?_) (fun c87 => by exfalso; omega)
                refine g_aload_n (pc := 92) hC 2 dX3_readEither_92 rfl rfl ?_
                refine g_dup (pc := 93) hC dX3_readEither_93 rfl ?_
                refine g_get (pc := 94) hC 0 fl_X3_32 dX3_readEither_94 rfl rfl ?_
                refine g_iconst (pc := 97) hC dX3_readEither_97 ?_
                refine g_iadd (pc := 98) hC dX3_readEither_98 ?_
                refine g_putI (pc := 99) hC 0 [cO _ _ [_, _, _, _], _, _, _, _] fl_X3_32 dX3_readEither_99 rfl (Nat.le_of_ble_eq_true rfl) rfl ?_
                refine g_iinc (pc := 102) hC 4 [(4, _), (3, _), (2, _), (0, _), (1, _)] dX3_readEither_102 rfl (by decide) rfl ?_
                refine g_goto (pc := 105) hC 7 dX3_readEither_105 (by decide) ?_
                refine g_lv hC [3, 4, 2, 1, 0] [(0, _), (1, _), (2, _), (3, _), (4, _)] rfl ?_
                exact ih7 0 1 (pt + 1) (p3 + 1) nm3 m6 od6 (l3 ++ [-3]) 101 q2 (by first | assumption | omega) (by first | assumption | omega) (by first | assumption | omega) (by first | assumption | omega) (by first | assumption | omega) (by first | assumption | omega) (by first | assumption | omega) (px_E_or hz (by omega) hz_16 (by rw [if_pos (by omega)]) (by rw [if_neg (by omega)]) (by omega) (by omega)) hL2_68 (by first | assumption | omega) (by first | omega | (simp only [nt_l, List.length_append, List.length_cons, List.length_nil]; omega)) (by first | assumption | omega) (by first | assumption | omega) (by first | assumption | omega) (by omega)
          · have hlt := cr_lt hT (show 0 ≤ p3 by omega) (show T p3 = 38 by omega) (by decide)
            obtain ⟨q1, rfl⟩ : ∃ q1, f1 = q1 + 1 := ⟨f1 - 1, by omega⟩
            refine g_iconst (pc := 47) hC dX3_readEither_47 ?_
            refine g_goto (pc := 48) hC 52 dX3_readEither_48 (by decide) ?_
            refine g_istore_n (pc := 52) hC [(2, _), (0, _), (1, _), (3, _), (4, _)] dX3_readEither_52 rfl (by decide) rfl ?_
            refine g_iload_n (pc := 53) hC 0 dX3_readEither_53 rfl rfl ?_
            refine g_if_ne (pc := 54) hC 92 dX3_readEither_54 (by decide) (by omega) (fun c54 => ?_) (fun c54 => by exfalso; omega)
            refine g_aload_n (pc := 92) hC 1 dX3_readEither_92 rfl rfl ?_
            refine g_dup (pc := 93) hC dX3_readEither_93 rfl ?_
            refine g_get (pc := 94) hC 0 fl_X3_32 dX3_readEither_94 rfl rfl ?_
            refine g_iconst (pc := 97) hC dX3_readEither_97 ?_
            refine g_iadd (pc := 98) hC dX3_readEither_98 ?_
            refine g_putI (pc := 99) hC 0 [cO _ _ [_, _, _, _], _, _, _, _] fl_X3_32 dX3_readEither_99 rfl (Nat.le_of_ble_eq_true rfl) rfl ?_
            refine g_iinc (pc := 102) hC 4 [(4, _), (2, _), (0, _), (1, _), (3, _)] dX3_readEither_102 rfl (by decide) rfl ?_
            refine g_goto (pc := 105) hC 7 dX3_readEither_105 (by decide) ?_
            refine g_lv hC [2, 3, 1, 4, 0] [(0, _), (1, _), (2, _), (3, _), (4, _)] rfl ?_
            exact ih7 1 o (pt + 1) (p3 + 1) nm3 m3 od3 l3 q1 f2 (by first | assumption | omega) (by first | assumption | omega) (by first | assumption | omega) (by first | assumption | omega) (by first | assumption | omega) (by first | assumption | omega) (by first | assumption | omega) (px_E_and hz (by omega) hz_16 (by rw [if_pos (by omega)]) (by omega)) hL2_16 (by first | assumption | omega) (by first | omega | (simp only [nt_l, List.length_append, List.length_cons, List.length_nil]; omega)) (by first | assumption | omega) (by first | assumption | omega) (by first | assumption | omega) (by omega)
        · refine g_aload_n (pc := 28) hC 0 dX3_readEither_28 rfl rfl ?_
          refine g_get (pc := 29) hC 0 fl_X3_15 dX3_readEither_29 rfl rfl ?_
          refine g_bipush (pc := 32) hC (7) dX3_readEither_32 (by decide) ?_
          refine g_iconst (pc := 34) hC dX3_readEither_34 ?_
          refine g_callV (pc := 35) (qr := 3) hC [3, 4] (k_X1_put _ _ _ _ _ _ _ l3 (-2) (by first | assumption | omega) (by first | assumption | omega) (by first | assumption | omega) (by first | assumption | omega) (by first | assumption | omega) (by first | assumption | omega) (by decide +kernel) (by decide)) cl_X1_put wm_X3_61 dX3_readEither_35 rfl rfl rfl rfl rfl (by decide) (by decide) (by omega) (Nat.le_of_ble_eq_true rfl) rfl (fun v9 w9 hq9 => ?_)
          obtain ⟨m4, od4, rfl, rfl, r_m4, r_od4, hL2_35, hm2_35⟩ := hq9
          refine g_ws hC [cO g0 3 [.ref g1, .ref g2, .int (iI nm3), .int (iI p3)], cO g1 6 [.ref g3, .int (iI e)], cA K g3 100 sg, cO g2 1 [.ref g4, .int (iI m4), .int (iI rc)], cA K g4 100 od4] rfl ?_
          refine g_st hC [] rfl ?_
          refine g_aload_n (pc := 38) hC 0 dX3_readEither_38 rfl rfl ?_
          refine g_fnV (pc := 39) (qr := 0) hC [0, 1, 2] (k_X3_sign _ _ _ _ _ _ _ _ _ (by first | assumption | omega) (by first | assumption | omega) (by first | assumption | omega) (by first | assumption | omega) (by first | assumption | omega) (by first | assumption | omega)) cl_X3_sign wm_X3_28 dX3_readEither_39 rfl rfl rfl rfl rfl (by decide) (by decide) ⟨by omega, by omega⟩ (Nat.le_of_ble_eq_true rfl) rfl rfl ?_
          refine g_name hC (fun y39 e_y39 => ?_)
          have q_y39 : -1 ≤ y39 ∧ y39 ≤ 127 := by rw [e_y39]; exact hT.2.2.1 _
          refine g_bipush (pc := 42) hC (38) dX3_readEither_42 (by decide) ?_
          refine g_icmp_ne (pc := 44) hC 51 dX3_readEither_44 (by decide) (by omega) (by omega) (fun c44 => ?_) (fun c44 => ?_)
          · refine g_iconst (pc := 51) hC dX3_readEither_51 ?_
            refine g_istore_n (pc := 52) hC [(2, _), (0, _), (1, _), (3, _), (4, _)] dX3_readEither_52 rfl (by decide) rfl ?_
            refine g_iload_n (pc := 53) hC 0 dX3_readEither_53 rfl rfl ?_
            refine g_if_ne (pc := 54) hC 92 dX3_readEither_54 (by decide) (by omega) (fun c54 => by exfalso; omega) (fun c54 => ?_)
            refine g_iload_n (pc := 57) hC 3 dX3_readEither_57 rfl rfl ?_
            refine g_if_eq (pc := 58) hC 71 dX3_readEither_58 (by decide) (by omega) (fun c58 => ?_) (fun c58 => ?_)
            · refine g_aload_n (pc := 71) hC 1 dX3_readEither_71 rfl rfl ?_
              refine g_fnV (pc := 72) (qr := 0) hC [0, 1, 2] (k_X3_sign _ _ _ _ _ _ _ _ _ (by first | assumption | omega) (by first | assumption | omega) (by first | assumption | omega) (by first | assumption | omega) (by first | assumption | omega) (by first | assumption | omega)) cl_X3_sign wm_X3_28 dX3_readEither_72 rfl rfl rfl rfl rfl (by decide) (by decide) ⟨by omega, by omega⟩ (Nat.le_of_ble_eq_true rfl) rfl rfl ?_
              refine g_name hC (fun y72 e_y72 => ?_)
              have q_y72 : -1 ≤ y72 ∧ y72 ≤ 127 := by rw [e_y72]; exact hT.2.2.1 _
              refine g_bipush (pc := 75) hC (124) dX3_readEither_75 (by decide) ?_
              refine g_icmp_ne (pc := 77) hC 84 dX3_readEither_77 (by decide) (by omega) (by omega) (fun c77 => ?_) (fun c77 => ?_)
              · refine g_iconst (pc := 84) hC dX3_readEither_84 ?_
                refine g_istore_n (pc := 85) hC [(3, _), (2, _), (0, _), (1, _), (4, _)] dX3_readEither_85 rfl (by decide) rfl ?_
                refine g_iload_n (pc := 86) hC 0 dX3_readEither_86 rfl rfl ?_
                refine g_if_ne (pc := 87) hC 92 dX3_readEither_87 (by decide) (by omega) (fun c87 => by exfalso; omega) (fun c87 => ?_)
                refine g_iconst (pc := 90) hC dX3_readEither_90 ?_
                exact g_zret (pc := 91) hR dX3_readEither_91 rfl (by omega) ⟨by omega, by omega⟩ (Nat.le_of_ble_eq_true rfl) ⟨1, p3, nm3, m4, od4, (l3 ++ [-2]), rfl, rfl, (by first | assumption | omega), (by first | assumption | omega), (by first | assumption | omega), (by first | assumption | omega), (by first | assumption | omega), (px_E_end hz (by omega) hz_16 (by rw [if_neg (by omega)]) (by rw [if_pos (by omega)]) (by omega) (by omega)), hL2_35, (by first | assumption | omega), (by first | omega | (simp only [nt_l, List.length_append, List.length_cons, List.length_nil]; omega)), (by first | assumption | omega)⟩
              · have hlt := cr_lt hT (show 0 ≤ p3 by omega) (show T p3 = 124 by omega) (by decide)
                obtain ⟨q2, rfl⟩ : ∃ q2, f2 = q2 + 1 := ⟨f2 - 1, by omega⟩
                refine g_iconst (pc := 80) hC dX3_readEither_80 ?_
                refine g_goto (pc := 81) hC 85 dX3_readEither_81 (by decide) ?_
                refine g_istore_n (pc := 85) hC [(3, _), (2, _), (0, _), (1, _), (4, _)] dX3_readEither_85 rfl (by decide) rfl ?_
                refine g_iload_n (pc := 86) hC 0 dX3_readEither_86 rfl rfl ?_
                refine g_if_ne (pc := 87) hC 92 dX3_readEither_87 (by decide) (by omega) (fun c87 => ?_) (fun c87 => by exfalso; omega)
                refine g_aload_n (pc := 92) hC 2 dX3_readEither_92 rfl rfl ?_
                refine g_dup (pc := 93) hC dX3_readEither_93 rfl ?_
                refine g_get (pc := 94) hC 0 fl_X3_32 dX3_readEither_94 rfl rfl ?_
                refine g_iconst (pc := 97) hC dX3_readEither_97 ?_
                refine g_iadd (pc := 98) hC dX3_readEither_98 ?_
                refine g_putI (pc := 99) hC 0 [cO _ _ [_, _, _, _], _, _, _, _] fl_X3_32 dX3_readEither_99 rfl (Nat.le_of_ble_eq_true rfl) rfl ?_
                refine g_iinc (pc := 102) hC 4 [(4, _), (3, _), (2, _), (0, _), (1, _)] dX3_readEither_102 rfl (by decide) rfl ?_
                refine g_goto (pc := 105) hC 7 dX3_readEither_105 (by decide) ?_
                refine g_lv hC [3, 4, 2, 1, 0] [(0, _), (1, _), (2, _), (3, _), (4, _)] rfl ?_
                exact ih7 0 1 (pt + 1) (p3 + 1) nm3 m4 od4 (l3 ++ [-2]) 101 q2 (by first | assumption | omega) (by first | assumption | omega) (by first | assumption | omega) (by first | assumption | omega) (by first | assumption | omega) (by first | assumption | omega) (by first | assumption | omega) (px_E_or hz (by omega) hz_16 (by rw [if_neg (by omega)]) (by rw [if_pos (by omega)]) (by omega) (by omega)) hL2_35 (by first | assumption | omega) (by first | omega | (simp only [nt_l, List.length_append, List.length_cons, List.length_nil]; omega)) (by first | assumption | omega) (by first | assumption | omega) (by first | assumption | omega) (by omega)
            · refine g_aload_n (pc := 61) hC 1 dX3_readEither_61 rfl rfl ?_
              refine g_get (pc := 62) hC 0 fl_X3_15 dX3_readEither_62 rfl rfl ?_
              refine g_bipush (pc := 65) hC (8) dX3_readEither_65 (by decide) ?_
              refine g_iconst (pc := 67) hC dX3_readEither_67 ?_
              refine g_callV (pc := 68) (qr := 3) hC [3, 4] (k_X1_put _ _ _ _ _ _ _ (l3 ++ [-2]) (-3) (by first | assumption | omega) (by first | assumption | omega) (by first | assumption | omega) (by first | assumption | omega) (by first | assumption | omega) (by first | omega | (simp only [nt_l, List.length_append, List.length_cons, List.length_nil]; omega)) (by decide +kernel) (by decide)) cl_X1_put wm_X3_61 dX3_readEither_68 rfl rfl rfl rfl rfl (by decide) (by decide) (by omega) (Nat.le_of_ble_eq_true rfl) rfl (fun v9 w9 hq9 => ?_)
              obtain ⟨m6, od6, rfl, rfl, r_m6, r_od6, hL2_68, hm2_68⟩ := hq9
              refine g_ws hC [cO g0 3 [.ref g1, .ref g2, .int (iI nm3), .int (iI p3)], cO g1 6 [.ref g3, .int (iI e)], cA K g3 100 sg, cO g2 1 [.ref g4, .int (iI m6), .int (iI rc)], cA K g4 100 od6] rfl ?_
              refine g_st hC [] rfl ?_
              refine g_aload_n (pc := 71) hC 1 dX3_readEither_71 rfl rfl ?_
              refine g_fnV (pc := 72) (qr := 0) hC [0, 1, 2] (k_X3_sign _ _ _ _ _ _ _ _ _ (by first | assumption | omega) (by first | assumption | omega) (by first | assumption | omega) (by first | assumption | omega) (by first | assumption | omega) (by first | assumption | omega)) cl_X3_sign wm_X3_28 dX3_readEither_72 rfl rfl rfl rfl rfl (by decide) (by decide) ⟨by omega, by omega⟩ (Nat.le_of_ble_eq_true rfl) rfl rfl ?_
              refine g_name hC (fun y72 e_y72 => ?_)
              have q_y72 : -1 ≤ y72 ∧ y72 ≤ 127 := by rw [e_y72]; exact hT.2.2.1 _
              refine g_bipush (pc := 75) hC (124) dX3_readEither_75 (by decide) ?_
              refine g_icmp_ne (pc := 77) hC 84 dX3_readEither_77 (by decide) (by omega) (by omega) (fun c77 => ?_) (fun c77 => ?_)
              · refine g_iconst (pc := 84) hC dX3_readEither_84 ?_
                refine g_istore_n (pc := 85) hC [(3, _), (2, _), (0, _), (1, _), (4, _)] dX3_readEither_85 rfl (by decide) rfl ?_
                refine g_iload_n (pc := 86) hC 0 dX3_readEither_86 rfl rfl ?_
                refine g_if_ne (pc := 87) hC 92 dX3_readEither_87 (by decide) (by omega) (fun c87 => by exfalso; omega) (fun c87 => ?_)
                refine g_iconst (pc := 90) hC dX3_readEither_90 ?_
                exact g_zret (pc := 91) hR dX3_readEither_91 rfl (by omega) ⟨by omega, by omega⟩ (Nat.le_of_ble_eq_true rfl) ⟨1, p3, nm3, m6, od6, ((l3 ++ [-2]) ++ [-3]), rfl, rfl, (by first | assumption | omega), (by first | assumption | omega), (by first | assumption | omega), (by first | assumption | omega), (by first | assumption | omega), (px_E_end hz (by omega) hz_16 (by rw [if_neg (by omega)]) (by rw [if_neg (by omega)]) (by omega) (by omega)), hL2_68, (by first | assumption | omega), (by first | omega | (simp only [nt_l, List.length_append, List.length_cons, List.length_nil]; omega)), (by first | assumption | omega)⟩
              · have hlt := cr_lt hT (show 0 ≤ p3 by omega) (show T p3 = 124 by omega) (by decide)
                obtain ⟨q2, rfl⟩ : ∃ q2, f2 = q2 + 1 := ⟨f2 - 1, by omega⟩
                refine g_iconst (pc := 80) hC dX3_readEither_80 ?_
                refine g_goto (pc := 81) hC 85 dX3_readEither_81 (by decide) ?_
                refine g_istore_n (pc := 85) hC [(3, _), (2, _), (0, _), (1, _), (4, _)] dX3_readEither_85 rfl (by decide) rfl ?_
                refine g_iload_n (pc := 86) hC 0 dX3_readEither_86 rfl rfl ?_
                refine g_if_ne (pc := 87) hC 92 dX3_readEither_87 (by decide) (by omega) (fun c87 => ?_) (fun c87 => by exfalso; omega)
                refine g_aload_n (pc := 92) hC 2 dX3_readEither_92 rfl rfl ?_
                refine g_dup (pc := 93) hC dX3_readEither_93 rfl ?_
                refine g_get (pc := 94) hC 0 fl_X3_32 dX3_readEither_94 rfl rfl ?_
                refine g_iconst (pc := 97) hC dX3_readEither_97 ?_
                refine g_iadd (pc := 98) hC dX3_readEither_98 ?_
                refine g_putI (pc := 99) hC 0 [cO _ _ [_, _, _, _], _, _, _, _] fl_X3_32 dX3_readEither_99 rfl (Nat.le_of_ble_eq_true rfl) rfl ?_
                refine g_iinc (pc := 102) hC 4 [(4, _), (3, _), (2, _), (0, _), (1, _)] dX3_readEither_102 rfl (by decide) rfl ?_
                refine g_goto (pc := 105) hC 7 dX3_readEither_105 (by decide) ?_
                refine g_lv hC [3, 4, 2, 1, 0] [(0, _), (1, _), (2, _), (3, _), (4, _)] rfl ?_
                exact ih7 0 1 (pt + 1) (p3 + 1) nm3 m6 od6 ((l3 ++ [-2]) ++ [-3]) 101 q2 (by first | assumption | omega) (by first | assumption | omega) (by first | assumption | omega) (by first | assumption | omega) (by first | assumption | omega) (by first | assumption | omega) (by first | assumption | omega) (px_E_or hz (by omega) hz_16 (by rw [if_neg (by omega)]) (by rw [if_neg (by omega)]) (by omega) (by omega)) hL2_68 (by first | assumption | omega) (by first | omega | (simp only [nt_l, List.length_append, List.length_cons, List.length_nil]; omega)) (by first | assumption | omega) (by first | assumption | omega) (by first | assumption | omega) (by omega)
          · have hlt := cr_lt hT (show 0 ≤ p3 by omega) (show T p3 = 38 by omega) (by decide)
            obtain ⟨q1, rfl⟩ : ∃ q1, f1 = q1 + 1 := ⟨f1 - 1, by omega⟩
            refine g_iconst (pc := 47) hC dX3_readEither_47 ?_
            refine g_goto (pc := 48) hC 52 dX3_readEither_48 (by decide) ?_
            refine g_istore_n (pc := 52) hC [(2, _), (0, _), (1, _), (3, _), (4, _)] dX3_readEither_52 rfl (by decide) rfl ?_
            refine g_iload_n (pc := 53) hC 0 dX3_readEither_53 rfl rfl ?_
            refine g_if_ne (pc := 54) hC 92 dX3_readEither_54 (by decide) (by omega) (fun c54 => ?_) (fun c54 => by exfalso; omega)
            refine g_aload_n (pc := 92) hC 1 dX3_readEither_92 rfl rfl ?_
            refine g_dup (pc := 93) hC dX3_readEither_93 rfl ?_
            refine g_get (pc := 94) hC 0 fl_X3_32 dX3_readEither_94 rfl rfl ?_
            refine g_iconst (pc := 97) hC dX3_readEither_97 ?_
            refine g_iadd (pc := 98) hC dX3_readEither_98 ?_
            refine g_putI (pc := 99) hC 0 [cO _ _ [_, _, _, _], _, _, _, _] fl_X3_32 dX3_readEither_99 rfl (Nat.le_of_ble_eq_true rfl) rfl ?_
            refine g_iinc (pc := 102) hC 4 [(4, _), (2, _), (0, _), (1, _), (3, _)] dX3_readEither_102 rfl (by decide) rfl ?_
            refine g_goto (pc := 105) hC 7 dX3_readEither_105 (by decide) ?_
            refine g_lv hC [2, 3, 1, 4, 0] [(0, _), (1, _), (2, _), (3, _), (4, _)] rfl ?_
            exact ih7 1 o (pt + 1) (p3 + 1) nm3 m4 od4 (l3 ++ [-2]) q1 f2 (by first | assumption | omega) (by first | assumption | omega) (by first | assumption | omega) (by first | assumption | omega) (by first | assumption | omega) (by first | assumption | omega) (by first | assumption | omega) (px_E_and hz (by omega) hz_16 (by rw [if_neg (by omega)]) (by omega)) hL2_35 (by first | assumption | omega) (by first | omega | (simp only [nt_l, List.length_append, List.length_cons, List.length_nil]; omega)) (by first | assumption | omega) (by first | assumption | omega) (by first | assumption | omega) (by omega)
      · refine g_iconst (pc := 22) hC dX3_readEither_22 ?_
        exact g_zret (pc := 23) hR dX3_readEither_23 rfl (by omega) ⟨by omega, by omega⟩ (Nat.le_of_ble_eq_true rfl) ⟨0, p3, nm3, m3, od3, l3, rfl, rfl, (by first | assumption | omega), (by first | assumption | omega), (by first | assumption | omega), (by first | assumption | omega), (by first | assumption | omega), (px_E_f hz (by omega) hz_16), hL2_16, (by first | assumption | omega), (by omega), (by first | assumption | omega)⟩
  refine g_lv hC [3, 4, 2, 1, 0] [(0, _), (1, _), (2, _), (3, _), (4, _)] rfl ?_
  exact L7 ((e - p : Int).toNat + 1) 0 0 0 p nm m od l 101 101 (by first | assumption | omega) (by first | assumption | omega) (by first | assumption | omega) (by first | assumption | omega) (by first | assumption | omega) (by first | assumption | omega) (by first | assumption | omega) rfl (by first | assumption | omega) (by first | assumption | omega) (by first | assumption | omega) (by first | assumption | omega) (by first | assumption | omega) (by first | assumption | omega) (by omega)
set_option maxHeartbeats 4000000 in
set_option maxRecDepth 100000 in
theorem k_X3_readInBrackets_4 {K : gK} (g0 : Nat) (g1 : Nat) (g2 : Nat) (g3 : Nat) (g4 : Nat) (nm : Int) (p : Int) (e : Int) (m : Int) (rc : Int) (sg : Int → Int) (od : Int → Int) (T : Int → Int) (l : List Int) (r_nm : rI nm) (r_p : rI p) (r_e : rI e) (r_m : rI m) (r_rc : rI rc) (r_sg : ∀ j, rI (sg j)) (r_od : ∀ j, rI (od j)) (hT : cr_T T e sg) (hp : 0 ≤ p ∧ p ≤ e) (hL : cr_L l od m) (hl : (l.length : Int) ≤ p) (hnm : 0 ≤ nm ∧ nm ≤ 99) (hc : T p = 40) : gMet K yX3_readInBrackets cX3_readInBrackets 2 (some .boolean) 9 0 0 [.ref g0, .int (iI 4)] [cO g0 3 [.ref g1, .ref g2, .int (iI nm), .int (iI p)], cO g1 6 [.ref g3, .int (iI e)], cA K g3 100 sg, cO g2 1 [.ref g4, .int (iI m), .int (iI rc)], cA K g4 100 od] (fun v9 w9 => ∃ (r : Int), ∃ (p2 : Int), ∃ (nm2 : Int), ∃ (m2 : Int), ∃ (od2 : Int → Int), ∃ (l2 : List Int), v9 = some (.int (iI r)) ∧ w9 = [cO g0 3 [.ref g1, .ref g2, .int (iI nm2), .int (iI p2)], cO g1 6 [.ref g3, .int (iI e)], cA K g3 100 sg, cO g2 1 [.ref g4, .int (iI m2), .int (iI rc)], cA K g4 100 od2] ∧ rI r ∧ rI p2 ∧ rI nm2 ∧ rI m2 ∧ (∀ j, rI (od2 j)) ∧ ((1 - r, p2, l2) = px_fac T 1 (0, p, l)) ∧ (cr_L l2 od2 m2) ∧ ((r = 0 ∨ r = 1) ∧ p ≤ p2 ∧ p2 ≤ e ∧ (r = 1 → p < p2)) ∧ ((l2.length : Int) + p ≤ (l.length : Int) + p2) ∧ (0 ≤ nm2 ∧ nm2 ≤ 99)) := by
  refine g_enter (by decide +kernel) (Nat.le_of_ble_eq_true rfl) (fun G hC hR => ?_)
  refine g_lv hC [0, 1] [(0, _), (1, _)] rfl ?_
  have hge := hT.1
  have hlt := cr_lt hT hp.1 hc (by decide)
  refine g_iload_n (pc := 0) hC 1 dX3_readInBrackets_0 rfl rfl ?_
  refine g_iconst (pc := 1) hC dX3_readInBrackets_1 ?_
  refine g_icmp_lt (pc := 2) hC 7 dX3_readInBrackets_2 (by decide) (by omega) (by omega) (fun c2 => ?_) (fun c2 => by exfalso; omega)
  refine g_aload_n (pc := 7) hC 0 dX3_readInBrackets_7 rfl rfl ?_
  refine g_dup (pc := 8) hC dX3_readInBrackets_8 rfl ?_
  refine g_get (pc := 9) hC 0 fl_X3_32 dX3_readInBrackets_9 rfl rfl ?_
  refine g_iconst (pc := 12) hC dX3_readInBrackets_12 ?_
  refine g_iadd (pc := 13) hC dX3_readInBrackets_13 ?_
  refine g_putI (pc := 14) hC 0 [cO _ _ [_, _, _, _], _, _, _, _] fl_X3_32 dX3_readInBrackets_14 rfl (Nat.le_of_ble_eq_true rfl) rfl ?_
  refine g_aload_n (pc := 17) hC 0 dX3_readInBrackets_17 rfl rfl ?_
  refine g_iload_n (pc := 18) hC 1 dX3_readInBrackets_18 rfl rfl ?_
  refine g_iconst (pc := 19) hC dX3_readInBrackets_19 ?_
  refine g_iadd (pc := 20) hC dX3_readInBrackets_20 ?_
  refine g_st hC [.int (iI (5)), _] rfl ?_
  refine g_callV (pc := 21) (qr := 0) hC [0, 1, 2, 3, 4] (k_X3_readEither_5 _ _ _ _ _ _ _ _ _ _ _ _ _ _ (by first | assumption | omega) (by first | assumption | omega) (by first | assumption | omega) (by first | assumption | omega) (by first | assumption | omega) (by first | assumption | omega) (by first | assumption | omega) (by first | assumption | omega) (by first | assumption | omega) (by first | assumption | omega) (by omega) (by first | assumption | omega)) cl_X3_readEither wm_X3_57 dX3_readInBrackets_21 rfl rfl rfl rfl rfl (by decide) (by decide) (by omega) (Nat.le_of_ble_eq_true rfl) rfl (fun v9 w9 hq9 => ?_)
  obtain ⟨r3, p3, nm3, m3, od3, l3, rfl, rfl, r_r3, r_p3, r_nm3, r_m3, r_od3, hz_21, hL2_21, hb_21, hl2_21, hnm2_21⟩ := hq9
  refine g_ws hC [cO g0 3 [.ref g1, .ref g2, .int (iI nm3), .int (iI p3)], cO g1 6 [.ref g3, .int (iI e)], cA K g3 100 sg, cO g2 1 [.ref g4, .int (iI m3), .int (iI rc)], cA K g4 100 od3] rfl ?_
  refine g_st hC [.int (iI r3)] rfl ?_
  refine g_if_eq (pc := 24) hC 40 dX3_readInBrackets_24 (by decide) (by omega) (fun c24 => ?_) (fun c24 => ?_)
  · refine g_iconst (pc := 40) hC dX3_readInBrackets_40 ?_
    exact g_zret (pc := 41) hR dX3_readInBrackets_41 rfl (by omega) ⟨by omega, by omega⟩ (Nat.le_of_ble_eq_true rfl) ⟨0, p3, nm3, m3, od3, l3, rfl, rfl, (by first | assumption | omega), (by first | assumption | omega), (by first | assumption | omega), (by first | assumption | omega), (by first | assumption | omega), (px_br_f hc (by omega) hz_21), hL2_21, (by first | assumption | omega), (by first | assumption | omega), (by first | assumption | omega)⟩
  · refine g_aload_n (pc := 27) hC 0 dX3_readInBrackets_27 rfl rfl ?_
    refine g_ldcS_X3_74 (pc := 28) hC rfl dX3_readInBrackets_28 ?_
    refine g_callV (pc := 30) (qr := 0) hC [0, 1, 2] (k_X3_readWord _ _ _ _ _ _ _ _ _ _ (by first | assumption | omega) (by first | assumption | omega) (by first | assumption | omega) (by first | assumption | omega) (by first | assumption | omega) (by first | assumption | omega) (by first | assumption | omega)) cl_X3_readWord wm_X3_42 dX3_readInBrackets_30 rfl rfl rfl rfl rfl (by decide) (by decide) (by omega) (Nat.le_of_ble_eq_true rfl) rfl (fun v9 w9 hq9 => ?_)
    obtain ⟨r4, p4, rfl, rfl, r_r4, r_p4, hz_30, hb_30⟩ := hq9
    refine g_ws hC [cO g0 3 [.ref g1, .ref g2, .int (iI nm3), .int (iI p4)], cO g1 6 [.ref g3, .int (iI e)], cA K g3 100 sg, cO g2 1 [.ref g4, .int (iI m3), .int (iI rc)], cA K g4 100 od3] rfl ?_
    refine g_st hC [.int (iI r4)] rfl ?_
    have hs4 : sl 4 = 1 := rfl
    refine g_if_eq (pc := 33) hC 40 dX3_readInBrackets_33 (by decide) (by omega) (fun c33 => ?_) (fun c33 => ?_)
    · refine g_iconst (pc := 40) hC dX3_readInBrackets_40 ?_
      exact g_zret (pc := 41) hR dX3_readInBrackets_41 rfl (by omega) ⟨by omega, by omega⟩ (Nat.le_of_ble_eq_true rfl) ⟨0, p4, nm3, m3, od3, l3, rfl, rfl, (by first | assumption | omega), (by first | assumption | omega), (by first | assumption | omega), (by first | assumption | omega), (by first | assumption | omega), (px_br_t (r4 := 0) hc (by omega) hz_21 (by rw [← hz_30, show r4 = 0 by omega])), hL2_21, (by first | assumption | omega), (by first | assumption | omega), (by first | assumption | omega)⟩
    · refine g_iconst (pc := 36) hC dX3_readInBrackets_36 ?_
      refine g_goto (pc := 37) hC 41 dX3_readInBrackets_37 (by decide) ?_
      exact g_zret (pc := 41) hR dX3_readInBrackets_41 rfl (by omega) ⟨by omega, by omega⟩ (Nat.le_of_ble_eq_true rfl) ⟨1, p4, nm3, m3, od3, l3, rfl, rfl, (by first | assumption | omega), (by first | assumption | omega), (by first | assumption | omega), (by first | assumption | omega), (by first | assumption | omega), (px_br_t (r4 := 1) hc (by omega) hz_21 (by rw [← hz_30, show r4 = 1 by omega])), hL2_21, (by first | assumption | omega), (by first | assumption | omega), (by first | assumption | omega)⟩
set_option maxHeartbeats 4000000 in
set_option maxRecDepth 100000 in
theorem k_X3_readOne_4 {K : gK} (g0 : Nat) (g1 : Nat) (g2 : Nat) (g3 : Nat) (g4 : Nat) (nm : Int) (p : Int) (e : Int) (m : Int) (rc : Int) (sg : Int → Int) (od : Int → Int) (T : Int → Int) (l : List Int) (r_nm : rI nm) (r_p : rI p) (r_e : rI e) (r_m : rI m) (r_rc : rI rc) (r_sg : ∀ j, rI (sg j)) (r_od : ∀ j, rI (od j)) (hT : cr_T T e sg) (hp : 0 ≤ p ∧ p ≤ e) (hL : cr_L l od m) (hl : (l.length : Int) ≤ p) (hnm : 0 ≤ nm ∧ nm ≤ 99) : gMet K yX3_readOne cX3_readOne 5 (some .boolean) 10 0 0 [.ref g0, .int (iI 4)] [cO g0 3 [.ref g1, .ref g2, .int (iI nm), .int (iI p)], cO g1 6 [.ref g3, .int (iI e)], cA K g3 100 sg, cO g2 1 [.ref g4, .int (iI m), .int (iI rc)], cA K g4 100 od] (fun v9 w9 => ∃ (r : Int), ∃ (p2 : Int), ∃ (nm2 : Int), ∃ (m2 : Int), ∃ (od2 : Int → Int), ∃ (l2 : List Int), v9 = some (.int (iI r)) ∧ w9 = [cO g0 3 [.ref g1, .ref g2, .int (iI nm2), .int (iI p2)], cO g1 6 [.ref g3, .int (iI e)], cA K g3 100 sg, cO g2 1 [.ref g4, .int (iI m2), .int (iI rc)], cA K g4 100 od2] ∧ rI r ∧ rI p2 ∧ rI nm2 ∧ rI m2 ∧ (∀ j, rI (od2 j)) ∧ ((1 - r, p2, l2) = px_fac T 1 (0, p, l)) ∧ (cr_L l2 od2 m2) ∧ ((r = 0 ∨ r = 1) ∧ p ≤ p2 ∧ p2 ≤ e ∧ (r = 1 → p < p2)) ∧ ((l2.length : Int) + p ≤ (l.length : Int) + p2) ∧ (0 ≤ nm2 ∧ nm2 ≤ 99)) := by
  refine g_enter (by decide +kernel) (Nat.le_of_ble_eq_true rfl) (fun G hC hR => ?_)
  refine g_lv hC [0, 1] [(0, _), (1, _)] rfl ?_
  have hge := hT.1
  refine g_iconst (pc := 0) hC dX3_readOne_0 ?_
  refine g_istore_n (pc := 1) hC [(2, _), (0, _), (1, _)] dX3_readOne_1 rfl (by decide) rfl ?_
  refine g_aload_n (pc := 2) hC 1 dX3_readOne_2 rfl rfl ?_
  refine g_fnV (pc := 3) (qr := 0) hC [0, 1, 2] (k_X3_sign _ _ _ _ _ _ _ _ _ (by first | assumption | omega) (by first | assumption | omega) (by first | assumption | omega) (by first | assumption | omega) (by first | assumption | omega) (by first | assumption | omega)) cl_X3_sign wm_X3_28 dX3_readOne_3 rfl rfl rfl rfl rfl (by decide) (by decide) ⟨by omega, by omega⟩ (Nat.le_of_ble_eq_true rfl) rfl rfl ?_
  refine g_name hC (fun y0 e_y0 => ?_)
  have q_y0 : -1 ≤ y0 ∧ y0 ≤ 127 := by rw [e_y0]; exact hT.2.2.1 _
  refine g_bipush (pc := 6) hC (33) dX3_readOne_6 (by decide) ?_
  refine g_icmp_ne (pc := 8) hC 34 dX3_readOne_8 (by decide) (by omega) (by omega) (fun c8 => ?_) (fun c8 => ?_)
  · have hn9 : ¬ T (p) = 33 := by omega
    refine g_aload_n (pc := 34) hC 1 dX3_readOne_34 rfl rfl ?_
    refine g_fnV (pc := 35) (qr := 0) hC [0, 1, 2] (k_X3_sign _ _ _ _ _ _ _ _ _ (by first | assumption | omega) (by first | assumption | omega) (by first | assumption | omega) (by first | assumption | omega) (by first | assumption | omega) (by first | assumption | omega)) cl_X3_sign wm_X3_28 dX3_readOne_35 rfl rfl rfl rfl rfl (by decide) (by decide) ⟨by omega, by omega⟩ (Nat.le_of_ble_eq_true rfl) rfl rfl ?_
    refine g_name hC (fun y99 e_y99 => ?_)
    have q_y99 : -1 ≤ y99 ∧ y99 ≤ 127 := by rw [e_y99]; exact hT.2.2.1 _
    refine g_bipush (pc := 38) hC (40) dX3_readOne_38 (by decide) ?_
    refine g_icmp_ne (pc := 40) hC 53 dX3_readOne_40 (by decide) (by omega) (by omega) (fun c40 => ?_) (fun c40 => ?_)
    · refine g_aload_n (pc := 53) hC 1 dX3_readOne_53 rfl rfl ?_
      refine g_callV (pc := 54) (qr := 0) hC [0, 1, 2, 3, 4] (k_X3_readTest _ _ _ _ _ _ _ _ _ _ _ _ _ _ (by first | assumption | omega) (by first | assumption | omega) (by first | assumption | omega) (by first | assumption | omega) (by first | assumption | omega) (by first | assumption | omega) (by first | assumption | omega) (by first | assumption | omega) (by first | assumption | omega) (by first | assumption | omega) (by first | assumption | omega) (by first | assumption | omega)) cl_X3_readTest wm_X3_71 dX3_readOne_54 rfl rfl rfl rfl rfl (by decide) (by decide) (by omega) (Nat.le_of_ble_eq_true rfl) rfl (fun v9 w9 hq9 => ?_)
      obtain ⟨r3, p3, nm3, m3, od3, l3, rfl, rfl, r_r3, r_p3, r_nm3, r_m3, r_od3, hz_54, hL2_54, hb_54, hl2_54, hnm2_54⟩ := hq9
      refine g_ws hC [cO g0 3 [.ref g1, .ref g2, .int (iI nm3), .int (iI p3)], cO g1 6 [.ref g3, .int (iI e)], cA K g3 100 sg, cO g2 1 [.ref g4, .int (iI m3), .int (iI rc)], cA K g4 100 od3] rfl ?_
      refine g_st hC [.int (iI r3)] rfl ?_
      refine g_istore_n (pc := 57) hC [(3, _), (2, _), (0, _), (1, _)] dX3_readOne_57 rfl (by decide) rfl ?_
      refine g_iconst (pc := 58) hC dX3_readOne_58 ?_
      refine g_istore (pc := 59) hC [(4, _), (3, _), (2, _), (0, _), (1, _)] dX3_readOne_59 (by decide) rfl ?_
      refine g_iload (pc := 61) hC 0 dX3_readOne_61 rfl ?_
      refine g_iload_n (pc := 63) hC 2 dX3_readOne_63 rfl rfl ?_
      refine g_icmp_ge (pc := 64) hC 87 dX3_readOne_64 (by decide) (by omega) (by omega) (fun c64 => ?_) (fun c64 => by exfalso; omega)
      refine g_iload_n (pc := 87) hC 1 dX3_readOne_87 rfl rfl ?_
      exact g_zret (pc := 88) hR dX3_readOne_88 rfl (by omega) ⟨by omega, by omega⟩ (Nat.le_of_ble_eq_true rfl) ⟨r3, p3, nm3, m3, od3, l3, rfl, rfl, (by first | assumption | omega), (by first | assumption | omega), (by first | assumption | omega), (by first | assumption | omega), (by first | assumption | omega), (px_fac_t rfl hn9 (by omega) hz_54), hL2_54, (by first | assumption | omega), (by first | assumption | omega), (by first | assumption | omega)⟩
    · have hlt9 := cr_lt hT (by omega) (show T (p) = 40 by omega) (by decide)
      refine g_aload_n (pc := 43) hC 1 dX3_readOne_43 rfl rfl ?_
      refine g_iload_n (pc := 44) hC 2 dX3_readOne_44 rfl rfl ?_
      refine g_iload_n (pc := 45) hC 0 dX3_readOne_45 rfl rfl ?_
      refine g_iadd (pc := 46) hC dX3_readOne_46 ?_
      refine g_st hC [.int (iI (4)), _] rfl ?_
      refine g_callV (pc := 47) (qr := 0) hC [0, 1, 2, 3, 4] (k_X3_readInBrackets_4 _ _ _ _ _ _ _ _ _ _ _ _ _ _ (by first | assumption | omega) (by first | assumption | omega) (by first | assumption | omega) (by first | assumption | omega) (by first | assumption | omega) (by first | assumption | omega) (by first | assumption | omega) (by first | assumption | omega) (by first | assumption | omega) (by first | assumption | omega) (by first | assumption | omega) (by first | assumption | omega) (by first | assumption | omega)) cl_X3_readInBrackets wm_X3_68 dX3_readOne_47 rfl rfl rfl rfl rfl (by decide) (by decide) (by omega) (Nat.le_of_ble_eq_true rfl) rfl (fun v9 w9 hq9 => ?_)
      obtain ⟨r3, p3, nm3, m3, od3, l3, rfl, rfl, r_r3, r_p3, r_nm3, r_m3, r_od3, hz_47, hL2_47, hb_47, hl2_47, hnm2_47⟩ := hq9
      refine g_ws hC [cO g0 3 [.ref g1, .ref g2, .int (iI nm3), .int (iI p3)], cO g1 6 [.ref g3, .int (iI e)], cA K g3 100 sg, cO g2 1 [.ref g4, .int (iI m3), .int (iI rc)], cA K g4 100 od3] rfl ?_
      refine g_st hC [.int (iI r3)] rfl ?_
      refine g_goto (pc := 50) hC 57 dX3_readOne_50 (by decide) ?_
      refine g_istore_n (pc := 57) hC [(3, _), (2, _), (0, _), (1, _)] dX3_readOne_57 rfl (by decide) rfl ?_
      refine g_iconst (pc := 58) hC dX3_readOne_58 ?_
      refine g_istore (pc := 59) hC [(4, _), (3, _), (2, _), (0, _), (1, _)] dX3_readOne_59 (by decide) rfl ?_
      refine g_iload (pc := 61) hC 0 dX3_readOne_61 rfl ?_
      refine g_iload_n (pc := 63) hC 2 dX3_readOne_63 rfl rfl ?_
      refine g_icmp_ge (pc := 64) hC 87 dX3_readOne_64 (by decide) (by omega) (by omega) (fun c64 => ?_) (fun c64 => by exfalso; omega)
      refine g_iload_n (pc := 87) hC 1 dX3_readOne_87 rfl rfl ?_
      exact g_zret (pc := 88) hR dX3_readOne_88 rfl (by omega) ⟨by omega, by omega⟩ (Nat.le_of_ble_eq_true rfl) ⟨r3, p3, nm3, m3, od3, l3, rfl, rfl, (by first | assumption | omega), (by first | assumption | omega), (by first | assumption | omega), (by first | assumption | omega), (by first | assumption | omega), hz_47, hL2_47, (by first | assumption | omega), (by first | assumption | omega), (by first | assumption | omega)⟩
  · have hq0 : T (p) = 33 := by omega
    have hlt0 := cr_lt hT (by omega) hq0 (by decide)
    refine g_iload_n (pc := 11) hC 2 dX3_readOne_11 rfl rfl ?_
    refine g_iload_n (pc := 12) hC 0 dX3_readOne_12 rfl rfl ?_
    refine g_iadd (pc := 13) hC dX3_readOne_13 ?_
    refine g_st hC [.int (iI (4))] rfl ?_
    refine g_iconst (pc := 14) hC dX3_readOne_14 ?_
    refine g_icmp_ge (pc := 15) hC 34 dX3_readOne_15 (by decide) (by omega) (by omega) (fun c15 => by exfalso; omega) (fun c15 => ?_)
    refine g_iinc (pc := 18) hC 0 [(2, _), (0, _), (1, _)] dX3_readOne_18 rfl (by decide) rfl ?_
    refine g_lv hC [0, 1, 2] [(2, .int (iI 1)), (0, _), (1, _)] rfl ?_
    skip
    refine g_aload_n (pc := 21) hC 1 dX3_readOne_21 rfl rfl ?_
    refine g_dup (pc := 22) hC dX3_readOne_22 rfl ?_
    refine g_get (pc := 23) hC 0 fl_X3_32 dX3_readOne_23 rfl rfl ?_
    refine g_iconst (pc := 26) hC dX3_readOne_26 ?_
    refine g_iadd (pc := 27) hC dX3_readOne_27 ?_
    refine g_putI (pc := 28) hC 0 [cO _ _ [_, _, _, _], _, _, _, _] fl_X3_32 dX3_readOne_28 rfl (Nat.le_of_ble_eq_true rfl) rfl ?_
    refine g_goto (pc := 31) hC 2 dX3_readOne_31 (by decide) ?_
    refine g_aload_n (pc := 2) hC 1 dX3_readOne_2 rfl rfl ?_
    refine g_fnV (pc := 3) (qr := 0) hC [0, 1, 2] (k_X3_sign _ _ _ _ _ _ _ _ _ (by first | assumption | omega) (by first | assumption | omega) (by first | assumption | omega) (by first | assumption | omega) (by first | assumption | omega) (by first | assumption | omega)) cl_X3_sign wm_X3_28 dX3_readOne_3 rfl rfl rfl rfl rfl (by decide) (by decide) ⟨by omega, by omega⟩ (Nat.le_of_ble_eq_true rfl) rfl rfl ?_
    refine g_name hC (fun y1 e_y1 => ?_)
    have q_y1 : -1 ≤ y1 ∧ y1 ≤ 127 := by rw [e_y1]; exact hT.2.2.1 _
    refine g_bipush (pc := 6) hC (33) dX3_readOne_6 (by decide) ?_
    refine g_icmp_ne (pc := 8) hC 34 dX3_readOne_8 (by decide) (by omega) (by omega) (fun c8 => ?_) (fun c8 => ?_)
    · have hn9 : ¬ T ((p + 1)) = 33 := by omega
      refine g_aload_n (pc := 34) hC 1 dX3_readOne_34 rfl rfl ?_
      refine g_fnV (pc := 35) (qr := 0) hC [0, 1, 2] (k_X3_sign _ _ _ _ _ _ _ _ _ (by first | assumption | omega) (by first | assumption | omega) (by first | assumption | omega) (by first | assumption | omega) (by first | assumption | omega) (by first | assumption | omega)) cl_X3_sign wm_X3_28 dX3_readOne_35 rfl rfl rfl rfl rfl (by decide) (by decide) ⟨by omega, by omega⟩ (Nat.le_of_ble_eq_true rfl) rfl rfl ?_
      refine g_name hC (fun y99 e_y99 => ?_)
      have q_y99 : -1 ≤ y99 ∧ y99 ≤ 127 := by rw [e_y99]; exact hT.2.2.1 _
      refine g_bipush (pc := 38) hC (40) dX3_readOne_38 (by decide) ?_
      refine g_icmp_ne (pc := 40) hC 53 dX3_readOne_40 (by decide) (by omega) (by omega) (fun c40 => ?_) (fun c40 => ?_)
      · refine g_aload_n (pc := 53) hC 1 dX3_readOne_53 rfl rfl ?_
        refine g_callV (pc := 54) (qr := 0) hC [0, 1, 2, 3, 4] (k_X3_readTest _ _ _ _ _ _ _ _ _ _ _ _ _ _ (by first | assumption | omega) (by first | assumption | omega) (by first | assumption | omega) (by first | assumption | omega) (by first | assumption | omega) (by first | assumption | omega) (by first | assumption | omega) (by first | assumption | omega) (by first | assumption | omega) (by first | assumption | omega) (by first | assumption | omega) (by first | assumption | omega)) cl_X3_readTest wm_X3_71 dX3_readOne_54 rfl rfl rfl rfl rfl (by decide) (by decide) (by omega) (Nat.le_of_ble_eq_true rfl) rfl (fun v9 w9 hq9 => ?_)
        obtain ⟨r3, p3, nm3, m3, od3, l3, rfl, rfl, r_r3, r_p3, r_nm3, r_m3, r_od3, hz_54, hL2_54, hb_54, hl2_54, hnm2_54⟩ := hq9
        refine g_ws hC [cO g0 3 [.ref g1, .ref g2, .int (iI nm3), .int (iI p3)], cO g1 6 [.ref g3, .int (iI e)], cA K g3 100 sg, cO g2 1 [.ref g4, .int (iI m3), .int (iI rc)], cA K g4 100 od3] rfl ?_
        refine g_st hC [.int (iI r3)] rfl ?_
        refine g_istore_n (pc := 57) hC [(3, _), (2, _), (0, _), (1, _)] dX3_readOne_57 rfl (by decide) rfl ?_
        refine g_iconst (pc := 58) hC dX3_readOne_58 ?_
        refine g_istore (pc := 59) hC [(4, _), (3, _), (2, _), (0, _), (1, _)] dX3_readOne_59 (by decide) rfl ?_
        refine g_iload (pc := 61) hC 0 dX3_readOne_61 rfl ?_
        refine g_iload_n (pc := 63) hC 2 dX3_readOne_63 rfl rfl ?_
        refine g_icmp_ge (pc := 64) hC 87 dX3_readOne_64 (by decide) (by omega) (by omega) (fun c64 => by exfalso; omega) (fun c64 => ?_)
        refine g_iload_n (pc := 67) hC 1 dX3_readOne_67 rfl rfl ?_
        refine g_if_eq (pc := 68) hC 87 dX3_readOne_68 (by decide) (by omega) (fun c68 => ?_) (fun c68 => ?_)
        · refine g_iload_n (pc := 87) hC 1 dX3_readOne_87 rfl rfl ?_
          exact g_zret (pc := 88) hR dX3_readOne_88 rfl (by omega) ⟨by omega, by omega⟩ (Nat.le_of_ble_eq_true rfl) ⟨r3, p3, nm3, m3, od3, l3, rfl, rfl, (by first | assumption | omega), (by first | assumption | omega), (by first | assumption | omega), (by first | assumption | omega), (by first | assumption | omega), (px_fac_not (l4 := l3) rfl hq0 (px_fac_t rfl hn9 (by omega) hz_54) (by rw [if_neg (show ¬ (1 - r3 : Int) = 0 by omega)])), hL2_54, (by first | assumption | omega), (by first | assumption | omega), (by first | assumption | omega)⟩
        · refine g_aload_n (pc := 71) hC 3 dX3_readOne_71 rfl rfl ?_
          refine g_get (pc := 72) hC 0 fl_X3_15 dX3_readOne_72 rfl rfl ?_
          refine g_bipush (pc := 75) hC (6) dX3_readOne_75 (by decide) ?_
          refine g_iconst (pc := 77) hC dX3_readOne_77 ?_
          refine g_callV (pc := 78) (qr := 3) hC [3, 4] (k_X1_put _ _ _ _ _ _ _ (nt_l l3 0) (-1) (by first | assumption | omega) (by first | assumption | omega) (by first | assumption | omega) (by first | assumption | omega) (by first | assumption | omega) (by first | omega | (simp only [nt_l, List.length_append, List.length_cons, List.length_nil]; omega)) (by decide +kernel) (by decide)) cl_X1_put wm_X3_61 dX3_readOne_78 rfl rfl rfl rfl rfl (by decide) (by decide) (by omega) (Nat.le_of_ble_eq_true rfl) rfl (fun v9 w9 hq9 => ?_)
          obtain ⟨m4, od4, rfl, rfl, r_m4, r_od4, hL2_78, hm2_78⟩ := hq9
          refine g_ws hC [cO g0 3 [.ref g1, .ref g2, .int (iI nm3), .int (iI p3)], cO g1 6 [.ref g3, .int (iI e)], cA K g3 100 sg, cO g2 1 [.ref g4, .int (iI m4), .int (iI rc)], cA K g4 100 od4] rfl ?_
          refine g_st hC [] rfl ?_
          refine g_iinc (pc := 81) hC 0 [(4, _), (3, _), (2, _), (0, _), (1, _)] dX3_readOne_81 rfl (by decide) rfl ?_
          refine g_lv hC [0, 1, 2, 3, 4] [(4, .int (iI 1)), (3, _), (2, _), (0, _), (1, _)] rfl ?_
          refine g_goto (pc := 84) hC 61 dX3_readOne_84 (by decide) ?_
          refine g_iload (pc := 61) hC 0 dX3_readOne_61 rfl ?_
          refine g_iload_n (pc := 63) hC 2 dX3_readOne_63 rfl rfl ?_
          refine g_icmp_ge (pc := 64) hC 87 dX3_readOne_64 (by decide) (by omega) (by omega) (fun c64 => ?_) (fun c64 => by exfalso; omega)
          refine g_iload_n (pc := 87) hC 1 dX3_readOne_87 rfl rfl ?_
          exact g_zret (pc := 88) hR dX3_readOne_88 rfl (by omega) ⟨by omega, by omega⟩ (Nat.le_of_ble_eq_true rfl) ⟨r3, p3, nm3, m4, od4, (nt_l l3 1), rfl, rfl, (by first | assumption | omega), (by first | assumption | omega), (by first | assumption | omega), (by first | assumption | omega), (by first | assumption | omega), (px_fac_not (l4 := nt_l l3 1) rfl hq0 (px_fac_t rfl hn9 (by omega) hz_54) (by rw [if_pos (show (1 - r3 : Int) = 0 by omega)]; rfl)), hL2_78, (by first | assumption | omega), (by first | omega | (simp only [nt_l, List.length_append, List.length_cons, List.length_nil]; omega)), (by first | assumption | omega)⟩
      · have hlt9 := cr_lt hT (by omega) (show T ((p + 1)) = 40 by omega) (by decide)
        refine g_aload_n (pc := 43) hC 1 dX3_readOne_43 rfl rfl ?_
        refine g_iload_n (pc := 44) hC 2 dX3_readOne_44 rfl rfl ?_
        refine g_iload_n (pc := 45) hC 0 dX3_readOne_45 rfl rfl ?_
        refine g_iadd (pc := 46) hC dX3_readOne_46 ?_
        refine g_st hC [.int (iI (5)), _] rfl ?_
        refine g_callV (pc := 47) (qr := 0) hC [0, 1, 2, 3, 4] (k_X3_readInBrackets_5 _ _ _ _ _ _ _ _ _ _ _ _ _ _ (by first | assumption | omega) (by first | assumption | omega) (by first | assumption | omega) (by first | assumption | omega) (by first | assumption | omega) (by first | assumption | omega) (by first | assumption | omega) (by first | assumption | omega) (by first | assumption | omega) (by first | assumption | omega) (by first | assumption | omega) (by first | assumption | omega) (by first | assumption | omega)) cl_X3_readInBrackets wm_X3_68 dX3_readOne_47 rfl rfl rfl rfl rfl (by decide) (by decide) (by omega) (Nat.le_of_ble_eq_true rfl) rfl (fun v9 w9 hq9 => ?_)
        obtain ⟨r3, p3, nm3, m3, od3, l3, rfl, rfl, r_r3, r_p3, r_nm3, r_m3, r_od3, hz_47, hL2_47, hb_47, hl2_47, hnm2_47⟩ := hq9
        refine g_ws hC [cO g0 3 [.ref g1, .ref g2, .int (iI nm3), .int (iI p3)], cO g1 6 [.ref g3, .int (iI e)], cA K g3 100 sg, cO g2 1 [.ref g4, .int (iI m3), .int (iI rc)], cA K g4 100 od3] rfl ?_
        refine g_st hC [.int (iI r3)] rfl ?_
        refine g_goto (pc := 50) hC 57 dX3_readOne_50 (by decide) ?_
        refine g_istore_n (pc := 57) hC [(3, _), (2, _), (0, _), (1, _)] dX3_readOne_57 rfl (by decide) rfl ?_
        refine g_iconst (pc := 58) hC dX3_readOne_58 ?_
        refine g_istore (pc := 59) hC [(4, _), (3, _), (2, _), (0, _), (1, _)] dX3_readOne_59 (by decide) rfl ?_
        refine g_iload (pc := 61) hC 0 dX3_readOne_61 rfl ?_
        refine g_iload_n (pc := 63) hC 2 dX3_readOne_63 rfl rfl ?_
        refine g_icmp_ge (pc := 64) hC 87 dX3_readOne_64 (by decide) (by omega) (by omega) (fun c64 => by exfalso; omega) (fun c64 => ?_)
        refine g_iload_n (pc := 67) hC 1 dX3_readOne_67 rfl rfl ?_
        refine g_if_eq (pc := 68) hC 87 dX3_readOne_68 (by decide) (by omega) (fun c68 => ?_) (fun c68 => ?_)
        · refine g_iload_n (pc := 87) hC 1 dX3_readOne_87 rfl rfl ?_
          exact g_zret (pc := 88) hR dX3_readOne_88 rfl (by omega) ⟨by omega, by omega⟩ (Nat.le_of_ble_eq_true rfl) ⟨r3, p3, nm3, m3, od3, l3, rfl, rfl, (by first | assumption | omega), (by first | assumption | omega), (by first | assumption | omega), (by first | assumption | omega), (by first | assumption | omega), (px_fac_not (l4 := l3) rfl hq0 hz_47 (by rw [if_neg (show ¬ (1 - r3 : Int) = 0 by omega)])), hL2_47, (by first | assumption | omega), (by first | assumption | omega), (by first | assumption | omega)⟩
        · refine g_aload_n (pc := 71) hC 3 dX3_readOne_71 rfl rfl ?_
          refine g_get (pc := 72) hC 0 fl_X3_15 dX3_readOne_72 rfl rfl ?_
          refine g_bipush (pc := 75) hC (6) dX3_readOne_75 (by decide) ?_
          refine g_iconst (pc := 77) hC dX3_readOne_77 ?_
          refine g_callV (pc := 78) (qr := 3) hC [3, 4] (k_X1_put _ _ _ _ _ _ _ (nt_l l3 0) (-1) (by first | assumption | omega) (by first | assumption | omega) (by first | assumption | omega) (by first | assumption | omega) (by first | assumption | omega) (by first | omega | (simp only [nt_l, List.length_append, List.length_cons, List.length_nil]; omega)) (by decide +kernel) (by decide)) cl_X1_put wm_X3_61 dX3_readOne_78 rfl rfl rfl rfl rfl (by decide) (by decide) (by omega) (Nat.le_of_ble_eq_true rfl) rfl (fun v9 w9 hq9 => ?_)
          obtain ⟨m4, od4, rfl, rfl, r_m4, r_od4, hL2_78, hm2_78⟩ := hq9
          refine g_ws hC [cO g0 3 [.ref g1, .ref g2, .int (iI nm3), .int (iI p3)], cO g1 6 [.ref g3, .int (iI e)], cA K g3 100 sg, cO g2 1 [.ref g4, .int (iI m4), .int (iI rc)], cA K g4 100 od4] rfl ?_
          refine g_st hC [] rfl ?_
          refine g_iinc (pc := 81) hC 0 [(4, _), (3, _), (2, _), (0, _), (1, _)] dX3_readOne_81 rfl (by decide) rfl ?_
          refine g_lv hC [0, 1, 2, 3, 4] [(4, .int (iI 1)), (3, _), (2, _), (0, _), (1, _)] rfl ?_
          refine g_goto (pc := 84) hC 61 dX3_readOne_84 (by decide) ?_
          refine g_iload (pc := 61) hC 0 dX3_readOne_61 rfl ?_
          refine g_iload_n (pc := 63) hC 2 dX3_readOne_63 rfl rfl ?_
          refine g_icmp_ge (pc := 64) hC 87 dX3_readOne_64 (by decide) (by omega) (by omega) (fun c64 => ?_) (fun c64 => by exfalso; omega)
          refine g_iload_n (pc := 87) hC 1 dX3_readOne_87 rfl rfl ?_
          exact g_zret (pc := 88) hR dX3_readOne_88 rfl (by omega) ⟨by omega, by omega⟩ (Nat.le_of_ble_eq_true rfl) ⟨r3, p3, nm3, m4, od4, (nt_l l3 1), rfl, rfl, (by first | assumption | omega), (by first | assumption | omega), (by first | assumption | omega), (by first | assumption | omega), (by first | assumption | omega), (px_fac_not (l4 := nt_l l3 1) rfl hq0 hz_47 (by rw [if_pos (show (1 - r3 : Int) = 0 by omega)]; rfl)), hL2_78, (by first | assumption | omega), (by first | omega | (simp only [nt_l, List.length_append, List.length_cons, List.length_nil]; omega)), (by first | assumption | omega)⟩
    · have hq1 : T ((p + 1)) = 33 := by omega
      have hlt1 := cr_lt hT (by omega) hq1 (by decide)
      refine g_iload_n (pc := 11) hC 2 dX3_readOne_11 rfl rfl ?_
      refine g_iload_n (pc := 12) hC 0 dX3_readOne_12 rfl rfl ?_
      refine g_iadd (pc := 13) hC dX3_readOne_13 ?_
      refine g_st hC [.int (iI (5))] rfl ?_
      refine g_iconst (pc := 14) hC dX3_readOne_14 ?_
      refine g_icmp_ge (pc := 15) hC 34 dX3_readOne_15 (by decide) (by omega) (by omega) (fun c15 => ?_) (fun c15 => by exfalso; omega)
      have hq9 : T ((p + 1)) = 33 := by omega
      skip
      refine g_aload_n (pc := 34) hC 1 dX3_readOne_34 rfl rfl ?_
      refine g_fnV (pc := 35) (qr := 0) hC [0, 1, 2] (k_X3_sign _ _ _ _ _ _ _ _ _ (by first | assumption | omega) (by first | assumption | omega) (by first | assumption | omega) (by first | assumption | omega) (by first | assumption | omega) (by first | assumption | omega)) cl_X3_sign wm_X3_28 dX3_readOne_35 rfl rfl rfl rfl rfl (by decide) (by decide) ⟨by omega, by omega⟩ (Nat.le_of_ble_eq_true rfl) rfl rfl ?_
      refine g_name hC (fun y99 e_y99 => ?_)
      have q_y99 : -1 ≤ y99 ∧ y99 ≤ 127 := by rw [e_y99]; exact hT.2.2.1 _
      refine g_bipush (pc := 38) hC (40) dX3_readOne_38 (by decide) ?_
      refine g_icmp_ne (pc := 40) hC 53 dX3_readOne_40 (by decide) (by omega) (by omega) (fun c40 => ?_) (fun c40 => by exfalso; omega)
      refine g_aload_n (pc := 53) hC 1 dX3_readOne_53 rfl rfl ?_
      refine g_callV (pc := 54) (qr := 0) hC [0, 1, 2, 3, 4] (k_X3_readTest _ _ _ _ _ _ _ _ _ _ _ _ _ _ (by first | assumption | omega) (by first | assumption | omega) (by first | assumption | omega) (by first | assumption | omega) (by first | assumption | omega) (by first | assumption | omega) (by first | assumption | omega) (by first | assumption | omega) (by first | assumption | omega) (by first | assumption | omega) (by first | assumption | omega) (by first | assumption | omega)) cl_X3_readTest wm_X3_71 dX3_readOne_54 rfl rfl rfl rfl rfl (by decide) (by decide) (by omega) (Nat.le_of_ble_eq_true rfl) rfl (fun v9 w9 hq9 => ?_)
      obtain ⟨r3, p3, nm3, m3, od3, l3, rfl, rfl, r_r3, r_p3, r_nm3, r_m3, r_od3, hz_54, hL2_54, hb_54, hl2_54, hnm2_54⟩ := hq9
      refine g_ws hC [cO g0 3 [.ref g1, .ref g2, .int (iI nm3), .int (iI p3)], cO g1 6 [.ref g3, .int (iI e)], cA K g3 100 sg, cO g2 1 [.ref g4, .int (iI m3), .int (iI rc)], cA K g4 100 od3] rfl ?_
      refine g_st hC [.int (iI r3)] rfl ?_
      refine g_istore_n (pc := 57) hC [(3, _), (2, _), (0, _), (1, _)] dX3_readOne_57 rfl (by decide) rfl ?_
      refine g_iconst (pc := 58) hC dX3_readOne_58 ?_
      refine g_istore (pc := 59) hC [(4, _), (3, _), (2, _), (0, _), (1, _)] dX3_readOne_59 (by decide) rfl ?_
      refine g_iload (pc := 61) hC 0 dX3_readOne_61 rfl ?_
      refine g_iload_n (pc := 63) hC 2 dX3_readOne_63 rfl rfl ?_
      refine g_icmp_ge (pc := 64) hC 87 dX3_readOne_64 (by decide) (by omega) (by omega) (fun c64 => by exfalso; omega) (fun c64 => ?_)
      refine g_iload_n (pc := 67) hC 1 dX3_readOne_67 rfl rfl ?_
      refine g_if_eq (pc := 68) hC 87 dX3_readOne_68 (by decide) (by omega) (fun c68 => ?_) (fun c68 => ?_)
      · refine g_iload_n (pc := 87) hC 1 dX3_readOne_87 rfl rfl ?_
        exact g_zret (pc := 88) hR dX3_readOne_88 rfl (by omega) ⟨by omega, by omega⟩ (Nat.le_of_ble_eq_true rfl) ⟨r3, p3, nm3, m3, od3, l3, rfl, rfl, (by first | assumption | omega), (by first | assumption | omega), (by first | assumption | omega), (by first | assumption | omega), (by first | assumption | omega), (px_fac_not (l4 := l3) rfl hq0 (px_fac_33 rfl hq9 hz_54) (by rw [if_neg (show ¬ (1 - r3 : Int) = 0 by omega)])), hL2_54, (by first | assumption | omega), (by first | assumption | omega), (by first | assumption | omega)⟩
      · refine g_aload_n (pc := 71) hC 3 dX3_readOne_71 rfl rfl ?_
        refine g_get (pc := 72) hC 0 fl_X3_15 dX3_readOne_72 rfl rfl ?_
        refine g_bipush (pc := 75) hC (6) dX3_readOne_75 (by decide) ?_
        refine g_iconst (pc := 77) hC dX3_readOne_77 ?_
        refine g_callV (pc := 78) (qr := 3) hC [3, 4] (k_X1_put _ _ _ _ _ _ _ (nt_l l3 0) (-1) (by first | assumption | omega) (by first | assumption | omega) (by first | assumption | omega) (by first | assumption | omega) (by first | assumption | omega) (by first | omega | (simp only [nt_l, List.length_append, List.length_cons, List.length_nil]; omega)) (by decide +kernel) (by decide)) cl_X1_put wm_X3_61 dX3_readOne_78 rfl rfl rfl rfl rfl (by decide) (by decide) (by omega) (Nat.le_of_ble_eq_true rfl) rfl (fun v9 w9 hq9 => ?_)
        obtain ⟨m4, od4, rfl, rfl, r_m4, r_od4, hL2_78, hm2_78⟩ := hq9
        refine g_ws hC [cO g0 3 [.ref g1, .ref g2, .int (iI nm3), .int (iI p3)], cO g1 6 [.ref g3, .int (iI e)], cA K g3 100 sg, cO g2 1 [.ref g4, .int (iI m4), .int (iI rc)], cA K g4 100 od4] rfl ?_
        refine g_st hC [] rfl ?_
        refine g_iinc (pc := 81) hC 0 [(4, _), (3, _), (2, _), (0, _), (1, _)] dX3_readOne_81 rfl (by decide) rfl ?_
        refine g_lv hC [0, 1, 2, 3, 4] [(4, .int (iI 1)), (3, _), (2, _), (0, _), (1, _)] rfl ?_
        refine g_goto (pc := 84) hC 61 dX3_readOne_84 (by decide) ?_
        refine g_iload (pc := 61) hC 0 dX3_readOne_61 rfl ?_
        refine g_iload_n (pc := 63) hC 2 dX3_readOne_63 rfl rfl ?_
        refine g_icmp_ge (pc := 64) hC 87 dX3_readOne_64 (by decide) (by omega) (by omega) (fun c64 => ?_) (fun c64 => by exfalso; omega)
        refine g_iload_n (pc := 87) hC 1 dX3_readOne_87 rfl rfl ?_
        exact g_zret (pc := 88) hR dX3_readOne_88 rfl (by omega) ⟨by omega, by omega⟩ (Nat.le_of_ble_eq_true rfl) ⟨r3, p3, nm3, m4, od4, (nt_l l3 1), rfl, rfl, (by first | assumption | omega), (by first | assumption | omega), (by first | assumption | omega), (by first | assumption | omega), (by first | assumption | omega), (px_fac_not (l4 := nt_l l3 1) rfl hq0 (px_fac_33 rfl hq9 hz_54) (by rw [if_pos (show (1 - r3 : Int) = 0 by omega)]; rfl)), hL2_78, (by first | assumption | omega), (by first | omega | (simp only [nt_l, List.length_append, List.length_cons, List.length_nil]; omega)), (by first | assumption | omega)⟩
set_option maxHeartbeats 4000000 in
set_option maxRecDepth 100000 in
theorem k_X3_readEither_4 {K : gK} (g0 : Nat) (g1 : Nat) (g2 : Nat) (g3 : Nat) (g4 : Nat) (nm : Int) (p : Int) (e : Int) (m : Int) (rc : Int) (sg : Int → Int) (od : Int → Int) (T : Int → Int) (l : List Int) (r_nm : rI nm) (r_p : rI p) (r_e : rI e) (r_m : rI m) (r_rc : rI rc) (r_sg : ∀ j, rI (sg j)) (r_od : ∀ j, rI (od j)) (hT : cr_T T e sg) (hp : 0 ≤ p ∧ p ≤ e) (hL : cr_L l od m) (hl : (l.length : Int) ≤ p) (hnm : 0 ≤ nm ∧ nm ≤ 99) : gMet K yX3_readEither cX3_readEither 5 (some .boolean) 11 0 0 [.ref g0, .int (iI 4)] [cO g0 3 [.ref g1, .ref g2, .int (iI nm), .int (iI p)], cO g1 6 [.ref g3, .int (iI e)], cA K g3 100 sg, cO g2 1 [.ref g4, .int (iI m), .int (iI rc)], cA K g4 100 od] (fun v9 w9 => ∃ (r : Int), ∃ (p2 : Int), ∃ (nm2 : Int), ∃ (m2 : Int), ∃ (od2 : Int → Int), ∃ (l2 : List Int), v9 = some (.int (iI r)) ∧ w9 = [cO g0 3 [.ref g1, .ref g2, .int (iI nm2), .int (iI p2)], cO g1 6 [.ref g3, .int (iI e)], cA K g3 100 sg, cO g2 1 [.ref g4, .int (iI m2), .int (iI rc)], cA K g4 100 od2] ∧ rI r ∧ rI p2 ∧ rI nm2 ∧ rI m2 ∧ (∀ j, rI (od2 j)) ∧ ((1 - r, p2, l2) = px_some T (px_fac T 1) (0, p, l)) ∧ (cr_L l2 od2 m2) ∧ ((r = 0 ∨ r = 1) ∧ p ≤ p2 ∧ p2 ≤ e ∧ (r = 1 → p < p2)) ∧ ((l2.length : Int) + p ≤ (l.length : Int) + p2) ∧ (0 ≤ nm2 ∧ nm2 ≤ 99)) := by
  refine g_enter (by decide +kernel) (Nat.le_of_ble_eq_true rfl) (fun G hC hR => ?_)
  refine g_lv hC [0, 1] [(0, _), (1, _)] rfl ?_
  have hge := hT.1
  refine g_iconst (pc := 0) hC dX3_readEither_0 ?_
  refine g_istore_n (pc := 1) hC [(2, _), (0, _), (1, _)] dX3_readEither_1 rfl (by decide) rfl ?_
  refine g_iconst (pc := 2) hC dX3_readEither_2 ?_
  refine g_istore_n (pc := 3) hC [(3, _), (2, _), (0, _), (1, _)] dX3_readEither_3 rfl (by decide) rfl ?_
  refine g_iconst (pc := 4) hC dX3_readEither_4 ?_
  refine g_istore (pc := 5) hC [(4, _), (3, _), (2, _), (0, _), (1, _)] dX3_readEither_5 (by decide) rfl ?_
  have L7 : ∀ (n1 : Nat) (an : Int) (o : Int) (pt : Int) (p1 : Int) (nm1 : Int) (m1 : Int) (od1 : Int → Int) (l1 : List Int) (f1 : Nat) (f2 : Nat), (rI an) → (rI o) → (rI pt) → (rI p1) → (rI nm1) → (rI m1) → (∀ j, rI (od1 j)) → (px_SO T (px_fac T 1) o f2 (px_ev T (px_fac T 1) f1 (px_AN an ((px_fac T 1) (0, p1, l1)))) = px_some T (px_fac T 1) (0, p, l)) → (cr_L l1 od1 m1) → ((an = 0 ∨ an = 1) ∧ (o = 0 ∨ o = 1) ∧ 0 ≤ pt ∧ p + 2 * pt ≤ p1 ∧ p1 ≤ e) → ((l1.length : Int) + p + an + o ≤ (l.length : Int) + p1) → (e - p1 ≤ (f1 : Int)) → (e - p1 ≤ (f2 : Int)) → (0 ≤ nm1 ∧ nm1 ≤ 99) → e - p1 < (n1 : Int) → G 0 0 7 [(0, .ref g0), (1, .int (iI 4)), (2, .int (iI an)), (3, .int (iI o)), (4, .int (iI pt))] [] [cO g0 3 [.ref g1, .ref g2, .int (iI nm1), .int (iI p1)], cO g1 6 [.ref g3, .int (iI e)], cA K g3 100 sg, cO g2 1 [.ref g4, .int (iI m1), .int (iI rc)], cA K g4 100 od1] := by
    intro n1
    induction n1 with
    | zero => intro an o pt p1 nm1 m1 od1 l1 f1 f2 r_an r_o r_pt r_p1 r_nm1 r_m1 r_od1 hz hL1 hb1 hl1 hf1 hf2 hnm1 hm7; exfalso; omega
    | succ n1 ih7 =>
      intro an o pt p1 nm1 m1 od1 l1 f1 f2 r_an r_o r_pt r_p1 r_nm1 r_m1 r_od1 hz hL1 hb1 hl1 hf1 hf2 hnm1 hm7
      refine g_iload (pc := 7) hC 4 dX3_readEither_7 rfl ?_
      refine g_bipush (pc := 9) hC (100) dX3_readEither_9 (by decide) ?_
      refine g_icmp_ge (pc := 11) hC 108 dX3_readEither_11 (by decide) (by omega) (by omega) (fun c11 => by exfalso; omega) (fun c11 => ?_)
      refine g_aload_n (pc := 14) hC 0 dX3_readEither_14 rfl rfl ?_
      refine g_iload_n (pc := 15) hC 1 dX3_readEither_15 rfl rfl ?_
      refine g_callV (pc := 16) (qr := 0) hC [0, 1, 2, 3, 4] (k_X3_readOne_4 _ _ _ _ _ _ _ _ _ _ _ _ _ _ (by first | assumption | omega) (by first | assumption | omega) (by first | assumption | omega) (by first | assumption | omega) (by first | assumption | omega) (by first | assumption | omega) (by first | assumption | omega) (by first | assumption | omega) (by first | assumption | omega) (by first | assumption | omega) (by first | assumption | omega) (by first | assumption | omega)) cl_X3_readOne wm_X3_65 dX3_readEither_16 rfl rfl rfl rfl rfl (by decide) (by decide) (by omega) (Nat.le_of_ble_eq_true rfl) rfl (fun v9 w9 hq9 => ?_)
      obtain ⟨r3, p3, nm3, m3, od3, l3, rfl, rfl, r_r3, r_p3, r_nm3, r_m3, r_od3, hz_16, hL2_16, hb_16, hl2_16, hnm2_16⟩ := hq9
      refine g_ws hC [cO g0 3 [.ref g1, .ref g2, .int (iI nm3), .int (iI p3)], cO g1 6 [.ref g3, .int (iI e)], cA K g3 100 sg, cO g2 1 [.ref g4, .int (iI m3), .int (iI rc)], cA K g4 100 od3] rfl ?_
      refine g_st hC [.int (iI r3)] rfl ?_
      refine g_if_ne (pc := 19) hC 24 dX3_readEither_19 (by decide) (by omega) (fun c19 => ?_) (fun c19 => ?_)
      · refine g_iload_n (pc := 24) hC 2 dX3_readEither_24 rfl rfl ?_
        refine g_if_eq (pc := 25) hC 38 dX3_readEither_25 (by decide) (by omega) (fun c25 => ?_) (fun c25 => ?_)
        · refine g_aload_n (pc := 38) hC 0 dX3_readEither_38 rfl rfl ?_
          refine g_fnV (pc := 39) (qr := 0) hC [0, 1, 2] (k_X3_sign _ _ _ _ _ _ _ _ _ (by first | assumption | omega) (by first | assumption | omega) (by first | assumption | omega) (by first | assumption | omega) (by first | assumption | omega) (by first | assumption | omega)) cl_X3_sign wm_X3_28 dX3_readEither_39 rfl rfl rfl rfl rfl (by decide) (by decide) ⟨by omega, by omega⟩ (Nat.le_of_ble_eq_true rfl) rfl rfl ?_
          refine g_name hC (fun y39 e_y39 => ?_)
          have q_y39 : -1 ≤ y39 ∧ y39 ≤ 127 := by rw [e_y39]; exact hT.2.2.1 _
          refine g_bipush (pc := 42) hC (38) dX3_readEither_42 (by decide) ?_
          refine g_icmp_ne (pc := 44) hC 51 dX3_readEither_44 (by decide) (by omega) (by omega) (fun c44 => ?_) (fun c44 => ?_)
          · refine g_iconst (pc := 51) hC dX3_readEither_51 ?_
            refine g_istore_n (pc := 52) hC [(2, _), (0, _), (1, _), (3, _), (4, _)] dX3_readEither_52 rfl (by decide) rfl ?_
            refine g_iload_n (pc := 53) hC 0 dX3_readEither_53 rfl rfl ?_
            refine g_if_ne (pc := 54) hC 92 dX3_readEither_54 (by decide) (by omega) (fun c54 => by exfalso; omega) (fun c54 => ?_)
            refine g_iload_n (pc := 57) hC 3 dX3_readEither_57 rfl rfl ?_
            refine g_if_eq (pc := 58) hC 71 dX3_readEither_58 (by decide) (by omega) (fun c58 => ?_) (fun c58 => ?_)
            · refine g_aload_n (pc := 71) hC 1 dX3_readEither_71 rfl rfl ?_
              refine g_fnV (pc := 72) (qr := 0) hC [0, 1, 2] (k_X3_sign _ _ _ _ _ _ _ _ _ (by first | assumption | omega) (by first | assumption | omega) (by first | assumption | omega) (by first | assumption | omega) (by first | assumption | omega) (by first | assumption | omega)) cl_X3_sign wm_X3_28 dX3_readEither_72 rfl rfl rfl rfl rfl (by decide) (by decide) ⟨by omega, by omega⟩ (Nat.le_of_ble_eq_true rfl) rfl rfl ?_
              refine g_name hC (fun y72 e_y72 => ?_)
              have q_y72 : -1 ≤ y72 ∧ y72 ≤ 127 := by rw [e_y72]; exact hT.2.2.1 _
              refine g_bipush (pc := 75) hC (124) dX3_readEither_75 (by decide) ?_
              refine g_icmp_ne (pc := 77) hC 84 dX3_readEither_77 (by decide) (by omega) (by omega) (fun c77 => ?_) (fun c77 => ?_)
              · refine g_iconst (pc := 84) hC dX3_readEither_84 ?_
                refine g_istore_n (pc := 85) hC [(3, _), (2, _), (0, _), (1, _), (4, _)] dX3_readEither_85 rfl (by decide) rfl ?_
                refine g_iload_n (pc := 86) hC 0 dX3_readEither_86 rfl rfl ?_
                refine g_if_ne (pc := 87) hC 92 dX3_readEither_87 (by decide) (by omega) (fun c87 => by exfalso; omega) (fun c87 => ?_)
                refine g_iconst (pc := 90) hC dX3_readEither_90 ?_
                exact g_zret (pc := 91) hR dX3_readEither_91 rfl (by omega) ⟨by omega, by omega⟩ (Nat.le_of_ble_eq_true rfl) ⟨1, p3, nm3, m3, od3, l3, rfl, rfl, (by first | assumption | omega), (by first | assumption | omega), (by first | assumption | omega), (by first | assumption | omega), (by first | assumption | omega), (px_E_end hz (by omega) hz_16 (by rw [if_pos (by omega)]) (by rw [if_pos (by omega)]) (by omega) (by omega)), hL2_16, (by first | assumption | omega), (by first | omega | (simp only [nt_l, List.length_append, List.length_cons, List.length_nil]; omega)), (by first | assumption | omega)⟩
              · have hlt := cr_lt hT (show 0 ≤ p3 by omega) (show T p3 = 124 by omega) (by decide)
                obtain ⟨q2, rfl⟩ : ∃ q2, f2 = q2 + 1 := ⟨f2 - 1, by omega⟩
                refine g_iconst (pc := 80) hC dX3_readEither_80 ?_
                refine g_goto (pc := 81) hC 85 dX3_readEither_81 (by decide) ?_
                refine g_istore_n (pc := 85) hC [(3, _), (2, _), (0, _), (1, _), (4, _)] dX3_readEither_85 rfl (by decide) rfl ?_
                refine g_iload_n (pc := 86) hC 0 dX3_readEither_86 rfl rfl ?_
                refine g_if_ne (pc := 87) hC 92 dX3_readEither_87 (by decide) (by omega) (fun c87 => ?_) (fun c87 => by exfalso; omega)
                refine g_aload_n (pc := 92) hC 2 dX3_readEither_92 rfl rfl ?_
                refine g_dup (pc := 93) hC dX3_readEither_93 rfl ?_
                refine g_get (pc := 94) hC 0 fl_X3_32 dX3_readEither_94 rfl rfl ?_
                refine g_iconst (pc := 97) hC dX3_readEither_97 ?_
                refine g_iadd (pc := 98) hC dX3_readEither_98 ?_
                refine g_putI (pc := 99) hC 0 [cO _ _ [_, _, _, _], _, _, _, _] fl_X3_32 dX3_readEither_99 rfl (Nat.le_of_ble_eq_true rfl) rfl ?_
                refine g_iinc (pc := 102) hC 4 [(4, _), (3, _), (2, _), (0, _), (1, _)] dX3_readEither_102 rfl (by decide) rfl ?_
                refine g_goto (pc := 105) hC 7 dX3_readEither_105 (by decide) ?_
                refine g_lv hC [3, 4, 2, 1, 0] [(0, _), (1, _), (2, _), (3, _), (4, _)] rfl ?_
                exact ih7 0 1 (pt + 1) (p3 + 1) nm3 m3 od3 l3 101 q2 (by first | assumption | omega) (by first | assumption | omega) (by first | assumption | omega) (by first | assumption | omega) (by first | assumption | omega) (by first | assumption | omega) (by first | assumption | omega) (px_E_or hz (by omega) hz_16 (by rw [if_pos (by omega)]) (by rw [if_pos (by omega)]) (by omega) (by omega)) hL2_16 (by first | assumption | omega) (by first | omega | (simp only [nt_l, List.length_append, List.length_cons, List.length_nil]; omega)) (by first | assumption | omega) (by first | assumption | omega) (by first | assumption | omega) (by omega)
            · refine g_aload_n (pc := 61) hC 1 dX3_readEither_61 rfl rfl ?_
              refine g_get (pc := 62) hC 0 fl_X3_15 dX3_readEither_62 rfl rfl ?_
              refine g_bipush (pc := 65) hC (8) dX3_readEither_65 (by decide) ?_
              refine g_iconst (pc := 67) hC dX3_readEither_67 ?_
              refine g_callV (pc := 68) (qr := 3) hC [3, 4] (k_X1_put _ _ _ _ _ _ _ l3 (-3) (by first | assumption | omega) (by first | assumption | omega) (by first | assumption | omega) (by first | assumption | omega) (by first | assumption | omega) (by first | omega | (simp only [nt_l, List.length_append, List.length_cons, List.length_nil]; omega)) (by decide +kernel) (by decide)) cl_X1_put wm_X3_61 dX3_readEither_68 rfl rfl rfl rfl rfl (by decide) (by decide) (by omega) (Nat.le_of_ble_eq_true rfl) rfl (fun v9 w9 hq9 => ?_)
              obtain ⟨m6, od6, rfl, rfl, r_m6, r_od6, hL2_68, hm2_68⟩ := hq9
              refine g_ws hC [cO g0 3 [.ref g1, .ref g2, .int (iI nm3), .int (iI p3)], cO g1 6 [.ref g3, .int (iI e)], cA K g3 100 sg, cO g2 1 [.ref g4, .int (iI m6), .int (iI rc)], cA K g4 100 od6] rfl ?_
              refine g_st hC [] rfl ?_
              refine g_aload_n (pc := 71) hC 1 dX3_readEither_71 rfl rfl ?_
              refine g_fnV (pc := 72) (qr := 0) hC [0, 1, 2] (k_X3_sign _ _ _ _ _ _ _ _ _ (by first | assumption | omega) (by first | assumption | omega) (by first | assumption | omega) (by first | assumption | omega) (by first | assumption | omega) (by first | assumption | omega)) cl_X3_sign wm_X3_28 dX3_readEither_72 rfl rfl rfl rfl rfl (by decide) (by decide) ⟨by omega, by omega⟩ (Nat.le_of_ble_eq_true rfl) rfl rfl ?_
              refine g_name hC (fun y72 e_y72 => ?_)
              have q_y72 : -1 ≤ y72 ∧ y72 ≤ 127 := by rw [e_y72]; exact hT.2.2.1 _
              refine g_bipush (pc := 75) hC (124) dX3_readEither_75 (by decide) ?_
              refine g_icmp_ne (pc := 77) hC 84 dX3_readEither_77 (by decide) (by omega) (by omega) (fun c77 => ?_) (fun c77 => ?_)
              · refine g_iconst (pc := 84) hC dX3_readEither_84 ?_
                refine g_istore_n (pc := 85) hC [(3, _), (2, _), (0, _), (1, _), (4, _)] dX3_readEither_85 rfl (by decide) rfl ?_
                refine g_iload_n (pc := 86) hC 0 dX3_readEither_86 rfl rfl ?_
                refine g_if_ne (pc := 87) hC 92 dX3_readEither_87 (by decide) (by omega) (fun c87 => by exfalso; omega) (fun c87 => ?_)
                refine g_iconst (pc := 90) hC dX3_readEither_90 ?_
                exact g_zret (pc := 91) hR dX3_readEither_91 rfl (by omega) ⟨by omega, by omega⟩ (Nat.le_of_ble_eq_true rfl) ⟨1, p3, nm3, m6, od6, (l3 ++ [-3]), rfl, rfl, (by first | assumption | omega), (by first | assumption | omega), (by first | assumption | omega), (by first | assumption | omega), (by first | assumption | omega), (px_E_end hz (by omega) hz_16 (by rw [if_pos (by omega)]) (by rw [if_neg (by omega)]) (by omega) (by omega)), hL2_68, (by first | assumption | omega), (by first | omega | (simp only [nt_l, List.length_append, List.length_cons, List.length_nil]; omega)), (by first | assumption | omega)⟩
              · have hlt := cr_lt hT (show 0 ≤ p3 by omega) (show T p3 = 124 by omega) (by decide)
                obtain ⟨q2, rfl⟩ : ∃ q2, f2 = q2 + 1 := ⟨f2 - 1, by omega⟩
                refine g_iconst (pc := 80) hC dX3_readEither_80 ?_
                refine g_goto (pc := 81) hC 85 dX3_readEither_81 (by decide) ?_
                refine g_istore_n (pc := 85) hC [(3, _), (2, _), (0, _), (1, _), (4, _)] dX3_readEither_85 rfl (by decide) rfl ?_
                refine g_iload_n (pc := 86) hC 0 dX3_readEither_86 rfl rfl ?_
                refine g_if_ne (pc := 87) hC 92 dX3_readEither_87 (by decide) (by omega) (fun c87 => ?_) (fun c87 => by exfalso; omega)
                refine g_aload_n (pc := 92) hC 2 dX3_readEither_92 rfl rfl ?_
                refine g_dup (pc := 93) hC dX3_readEither_93 rfl ?_
                refine g_get (pc := 94) hC 0 fl_X3_32 dX3_readEither_94 rfl rfl ?_
                refine g_iconst (pc := 97) hC dX3_readEither_97 ?_
                refine g_iadd (pc := 98) hC dX3_readEither_98 ?_
                refine g_putI (pc := 99) hC 0 [cO _ _ [_, _, _, _], _, _, _, _] fl_X3_32 dX3_readEither_99 rfl (Nat.le_of_ble_eq_true rfl) rfl ?_
                refine g_iinc (pc := 102) hC 4 [(4, _), (3, _), (2, _), (0, _), (1, _)] dX3_readEither_102 rfl (by decide) rfl ?_
                refine g_goto (pc := 105) hC 7 dX3_readEither_105 (by decide) ?_
                refine g_lv hC [3, 4, 2, 1, 0] [(0, _), (1, _), (2, _), (3, _), (4, _)] rfl ?_
                exact ih7 0 1 (pt + 1) (p3 + 1) nm3 m6 od6 (l3 ++ [-3]) 101 q2 (by first | assumption | omega) (by first | assumption | omega) (by first | assumption | omega) (by first | assumption | omega) (by first | assumption | omega) (by first | assumption | omega) (by first | assumption | omega) (px_E_or hz (by omega) hz_16 (by rw [if_pos (by omega)]) (by rw [if_neg (by omega)]) (by omega) (by omega)) hL2_68 (by first | assumption | omega) (by first | omega | (simp only [nt_l, List.length_append, List.length_cons, List.length_nil]; omega)) (by first | assumption | omega) (by first | assumption | omega) (by first | assumption | omega) (by omega)
          · have hlt := cr_lt hT (show 0 ≤ p3 by omega) (show T p3 = 38 by omega) (by decide)
            obtain ⟨q1, rfl⟩ : ∃ q1, f1 = q1 + 1 := ⟨f1 - 1, by omega⟩
            refine g_iconst (pc := 47) hC dX3_readEither_47 ?_
            refine g_goto (pc := 48) hC 52 dX3_readEither_48 (by decide) ?_
            refine g_istore_n (pc := 52) hC [(2, _), (0, _), (1, _), (3, _), (4, _)] dX3_readEither_52 rfl (by decide) rfl ?_
            refine g_iload_n (pc := 53) hC 0 dX3_readEither_53 rfl rfl ?_
            refine g_if_ne (pc := 54) hC 92 dX3_readEither_54 (by decide) (by omega) (fun c54 => ?_) (fun c54 => by exfalso; omega)
            refine g_aload_n (pc := 92) hC 1 dX3_readEither_92 rfl rfl ?_
            refine g_dup (pc := 93) hC dX3_readEither_93 rfl ?_
            refine g_get (pc := 94) hC 0 fl_X3_32 dX3_readEither_94 rfl rfl ?_
            refine g_iconst (pc := 97) hC dX3_readEither_97 ?_
            refine g_iadd (pc := 98) hC dX3_readEither_98 ?_
            refine g_putI (pc := 99) hC 0 [cO _ _ [_, _, _, _], _, _, _, _] fl_X3_32 dX3_readEither_99 rfl (Nat.le_of_ble_eq_true rfl) rfl ?_
            refine g_iinc (pc := 102) hC 4 [(4, _), (2, _), (0, _), (1, _), (3, _)] dX3_readEither_102 rfl (by decide) rfl ?_
            refine g_goto (pc := 105) hC 7 dX3_readEither_105 (by decide) ?_
            refine g_lv hC [2, 3, 1, 4, 0] [(0, _), (1, _), (2, _), (3, _), (4, _)] rfl ?_
            exact ih7 1 o (pt + 1) (p3 + 1) nm3 m3 od3 l3 q1 f2 (by first | assumption | omega) (by first | assumption | omega) (by first | assumption | omega) (by first | assumption | omega) (by first | assumption | omega) (by first | assumption | omega) (by first | assumption | omega) (px_E_and hz (by omega) hz_16 (by rw [if_pos (by omega)]) (by omega)) hL2_16 (by first | assumption | omega) (by first | omega | (simp only [nt_l, List.length_append, List.length_cons, List.length_nil]; omega)) (by first | assumption | omega) (by first | assumption | omega) (by first | assumption | omega) (by omega)
        · refine g_aload_n (pc := 28) hC 0 dX3_readEither_28 rfl rfl ?_
          refine g_get (pc := 29) hC 0 fl_X3_15 dX3_readEither_29 rfl rfl ?_
          refine g_bipush (pc := 32) hC (7) dX3_readEither_32 (by decide) ?_
          refine g_iconst (pc := 34) hC dX3_readEither_34 ?_
          refine g_callV (pc := 35) (qr := 3) hC [3, 4] (k_X1_put _ _ _ _ _ _ _ l3 (-2) (by first | assumption | omega) (by first | assumption | omega) (by first | assumption | omega) (by first | assumption | omega) (by first | assumption | omega) (by first | assumption | omega) (by decide +kernel) (by decide)) cl_X1_put wm_X3_61 dX3_readEither_35 rfl rfl rfl rfl rfl (by decide) (by decide) (by omega) (Nat.le_of_ble_eq_true rfl) rfl (fun v9 w9 hq9 => ?_)
          obtain ⟨m4, od4, rfl, rfl, r_m4, r_od4, hL2_35, hm2_35⟩ := hq9
          refine g_ws hC [cO g0 3 [.ref g1, .ref g2, .int (iI nm3), .int (iI p3)], cO g1 6 [.ref g3, .int (iI e)], cA K g3 100 sg, cO g2 1 [.ref g4, .int (iI m4), .int (iI rc)], cA K g4 100 od4] rfl ?_
          refine g_st hC [] rfl ?_
          refine g_aload_n (pc := 38) hC 0 dX3_readEither_38 rfl rfl ?_
          refine g_fnV (pc := 39) (qr := 0) hC [0, 1, 2] (k_X3_sign _ _ _ _ _ _ _ _ _ (by first | assumption | omega) (by first | assumption | omega) (by first | assumption | omega) (by first | assumption | omega) (by first | assumption | omega) (by first | assumption | omega)) cl_X3_sign wm_X3_28 dX3_readEither_39 rfl rfl rfl rfl rfl (by decide) (by decide) ⟨by omega, by omega⟩ (Nat.le_of_ble_eq_true rfl) rfl rfl ?_
          refine g_name hC (fun y39 e_y39 => ?_)
          have q_y39 : -1 ≤ y39 ∧ y39 ≤ 127 := by rw [e_y39]; exact hT.2.2.1 _
          refine g_bipush (pc := 42) hC (38) dX3_readEither_42 (by decide) ?_
          refine g_icmp_ne (pc := 44) hC 51 dX3_readEither_44 (by decide) (by omega) (by omega) (fun c44 => ?_) (fun c44 => ?_)
          · refine g_iconst (pc := 51) hC dX3_readEither_51 ?_
            refine g_istore_n (pc := 52) hC [(2, _), (0, _), (1, _), (3, _), (4, _)] dX3_readEither_52 rfl (by decide) rfl ?_
            refine g_iload_n (pc := 53) hC 0 dX3_readEither_53 rfl rfl ?_
            refine g_if_ne (pc := 54) hC 92 dX3_readEither_54 (by decide) (by omega) (fun c54 => by exfalso; omega) (fun c54 => ?_)
            refine g_iload_n (pc := 57) hC 3 dX3_readEither_57 rfl rfl ?_
            refine g_if_eq (pc := 58) hC 71 dX3_readEither_58 (by decide) (by omega) (fun c58 => ?_) (fun c58 => ?_)
            · refine g_aload_n (pc := 71) hC 1 dX3_readEither_71 rfl rfl ?_
              refine g_fnV (pc := 72) (qr := 0) hC [0, 1, 2] (k_X3_sign _ _ _ _ _ _ _ _ _ (by first | assumption | omega) (by first | assumption | omega) (by first | assumption | omega) (by first | assumption | omega) (by first | assumption | omega) (by first | assumption | omega)) cl_X3_sign wm_X3_28 dX3_readEither_72 rfl rfl rfl rfl rfl (by decide) (by decide) ⟨by omega, by omega⟩ (Nat.le_of_ble_eq_true rfl) rfl rfl ?_
              refine g_name hC (fun y72 e_y72 => ?_)
              have q_y72 : -1 ≤ y72 ∧ y72 ≤ 127 := by rw [e_y72]; exact hT.2.2.1 _
              refine g_bipush (pc := 75) hC (124) dX3_readEither_75 (by decide) ?_
              refine g_icmp_ne (pc := 77) hC 84 dX3_readEither_77 (by decide) (by omega) (by omega) (fun c77 => ?_) (fun c77 => ?_)
              · refine g_iconst (pc := 84) hC dX3_readEither_84 ?_
                refine g_istore_n (pc := 85) hC [(3, _), (2, _), (0, _), (1, _), (4, _)] dX3_readEither_85 rfl (by decide) rfl ?_
                refine g_iload_n (pc := 86) hC 0 dX3_readEither_86 rfl rfl ?_
                refine g_if_ne (pc := 87) hC 92 dX3_readEither_87 (by decide) (by omega) (fun c87 => by exfalso; omega) (fun c87 => ?_)
                refine g_iconst (pc := 90) hC dX3_readEither_90 ?_
                exact g_zret (pc := 91) hR dX3_readEither_91 rfl (by omega) ⟨by omega, by omega⟩ (Nat.le_of_ble_eq_true rfl) ⟨1, p3, nm3, m4, od4, (l3 ++ [-2]), rfl, rfl, (by first | assumption | omega), (by first | assumption | omega), (by first | assumption | omega), (by first | assumption | omega), (by first | assumption | omega), (px_E_end hz (by omega) hz_16 (by rw [if_neg (by omega)]) (by rw [if_pos (by omega)]) (by omega) (by omega)), hL2_35, (by first | assumption | omega), (by first | omega | (simp only [nt_l, List.length_append, List.length_cons, List.length_nil]; omega)), (by first | assumption | omega)⟩
              · have hlt := cr_lt hT (show 0 ≤ p3 by omega) (show T p3 = 124 by omega) (by decide)
                obtain ⟨q2, rfl⟩ : ∃ q2, f2 = q2 + 1 := ⟨f2 - 1, by omega⟩
                refine g_iconst (pc := 80) hC dX3_readEither_80 ?_
                refine g_goto (pc := 81) hC 85 dX3_readEither_81 (by decide) ?_
                refine g_istore_n (pc := 85) hC [(3, _), (2, _), (0, _), (1, _), (4, _)] dX3_readEither_85 rfl (by decide) rfl ?_
                refine g_iload_n (pc := 86) hC 0 dX3_readEither_86 rfl rfl ?_
                refine g_if_ne (pc := 87) hC 92 dX3_readEither_87 (by decide) (by omega) (fun c87 => ?_) (fun c87 => by exfalso; omega)
                refine g_aload_n (pc := 92) hC 2 dX3_readEither_92 rfl rfl ?_
                refine g_dup (pc := 93) hC dX3_readEither_93 rfl ?_
                refine g_get (pc := 94) hC 0 fl_X3_32 dX3_readEither_94 rfl rfl ?_
                refine g_iconst (pc := 97) hC dX3_readEither_97 ?_
                refine g_iadd (pc := 98) hC dX3_readEither_98 ?_
                refine g_putI (pc := 99) hC 0 [cO _ _ [_, _, _, _], _, _, _, _] fl_X3_32 dX3_readEither_99 rfl (Nat.le_of_ble_eq_true rfl) rfl ?_
                refine g_iinc (pc := 102) hC 4 [(4, _), (3, _), (2, _), (0, _), (1, _)] dX3_readEither_102 rfl (by decide) rfl ?_
                refine g_goto (pc := 105) hC 7 dX3_readEither_105 (by decide) ?_
                refine g_lv hC [3, 4, 2, 1, 0] [(0, _), (1, _), (2, _), (3, _), (4, _)] rfl ?_
                exact ih7 0 1 (pt + 1) (p3 + 1) nm3 m4 od4 (l3 ++ [-2]) 101 q2 (by first | assumption | omega) (by first | assumption | omega) (by first | assumption | omega) (by first | assumption | omega) (by first | assumption | omega) (by first | assumption | omega) (by first | assumption | omega) (px_E_or hz (by omega) hz_16 (by rw [if_neg (by omega)]) (by rw [if_pos (by omega)]) (by omega) (by omega)) hL2_35 (by first | assumption | omega) (by first | omega | (simp only [nt_l, List.length_append, List.length_cons, List.length_nil]; omega)) (by first | assumption | omega) (by first | assumption | omega) (by first | assumption | omega) (by omega)
            · refine g_aload_n (pc := 61) hC 1 dX3_readEither_61 rfl rfl ?_
              refine g_get (pc := 62) hC 0 fl_X3_15 dX3_readEither_62 rfl rfl ?_
              refine g_bipush (pc := 65) hC (8) dX3_readEither_65 (by decide) ?_
              refine g_iconst (pc := 67) hC dX3_readEither_67 ?_
              refine g_callV (pc := 68) (qr := 3) hC [3, 4] (k_X1_put _ _ _ _ _ _ _ (l3 ++ [-2]) (-3) (by first | assumption | omega) (by first | assumption | omega) (by first | assumption | omega) (by first | assumption | omega) (by first | assumption | omega) (by first | omega | (simp only [nt_l, List.length_append, List.length_cons, List.length_nil]; omega)) (by decide +kernel) (by decide)) cl_X1_put wm_X3_61 dX3_readEither_68 rfl rfl rfl rfl rfl (by decide) (by decide) (by omega) (Nat.le_of_ble_eq_true rfl) rfl (fun v9 w9 hq9 => ?_)
              obtain ⟨m6, od6, rfl, rfl, r_m6, r_od6, hL2_68, hm2_68⟩ := hq9
              refine g_ws hC [cO g0 3 [.ref g1, .ref g2, .int (iI nm3), .int (iI p3)], cO g1 6 [.ref g3, .int (iI e)], cA K g3 100 sg, cO g2 1 [.ref g4, .int (iI m6), .int (iI rc)], cA K g4 100 od6] rfl ?_
              refine g_st hC [] rfl ?_
              refine g_aload_n (pc := 71) hC 1 dX3_readEither_71 rfl rfl ?_
              refine g_fnV (pc := 72) (qr := 0) hC [0, 1, 2] (k_X3_sign _ _ _ _ _ _ _ _ _ (by first | assumption | omega) (by first | assumption | omega) (by first | assumption | omega) (by first | assumption | omega) (by first | assumption | omega) (by first | assumption | omega)) cl_X3_sign wm_X3_28 dX3_readEither_72 rfl rfl rfl rfl rfl (by decide) (by decide) ⟨by omega, by omega⟩ (Nat.le_of_ble_eq_true rfl) rfl rfl ?_
              refine g_name hC (fun y72 e_y72 => ?_)
              have q_y72 : -1 ≤ y72 ∧ y72 ≤ 127 := by rw [e_y72]; exact hT.2.2.1 _
              refine g_bipush (pc := 75) hC (124) dX3_readEither_75 (by decide) ?_
              refine g_icmp_ne (pc := 77) hC 84 dX3_readEither_77 (by decide) (by omega) (by omega) (fun c77 => ?_) (fun c77 => ?_)
              · refine g_iconst (pc := 84) hC dX3_readEither_84 ?_
                refine g_istore_n (pc := 85) hC [(3, _), (2, _), (0, _), (1, _), (4, _)] dX3_readEither_85 rfl (by decide) rfl ?_
                refine g_iload_n (pc := 86) hC 0 dX3_readEither_86 rfl rfl ?_
                refine g_if_ne (pc := 87) hC 92 dX3_readEither_87 (by decide) (by omega) (fun c87 => by exfalso; omega) (fun c87 => ?_)
                refine g_iconst (pc := 90) hC dX3_readEither_90 ?_
                exact g_zret (pc := 91) hR dX3_readEither_91 rfl (by omega) ⟨by omega, by omega⟩ (Nat.le_of_ble_eq_true rfl) ⟨1, p3, nm3, m6, od6, ((l3 ++ [-2]) ++ [-3]), rfl, rfl, (by first | assumption | omega), (by first | assumption | omega), (by first | assumption | omega), (by first | assumption | omega), (by first | assumption | omega), (px_E_end hz (by omega) hz_16 (by rw [if_neg (by omega)]) (by rw [if_neg (by omega)]) (by omega) (by omega)), hL2_68, (by first | assumption | omega), (by first | omega | (simp only [nt_l, List.length_append, List.length_cons, List.length_nil]; omega)), (by first | assumption | omega)⟩
              · have hlt := cr_lt hT (show 0 ≤ p3 by omega) (show T p3 = 124 by omega) (by decide)
                obtain ⟨q2, rfl⟩ : ∃ q2, f2 = q2 + 1 := ⟨f2 - 1, by omega⟩
                refine g_iconst (pc := 80) hC dX3_readEither_80 ?_
                refine g_goto (pc := 81) hC 85 dX3_readEither_81 (by decide) ?_
                refine g_istore_n (pc := 85) hC [(3, _), (2, _), (0, _), (1, _), (4, _)] dX3_readEither_85 rfl (by decide) rfl ?_
                refine g_iload_n (pc := 86) hC 0 dX3_readEither_86 rfl rfl ?_
                refine g_if_ne (pc := 87) hC 92 dX3_readEither_87 (by decide) (by omega) (fun c87 => ?_) (fun c87 => by exfalso; omega)
                refine g_aload_n (pc := 92) hC 2 dX3_readEither_92 rfl rfl ?_
                refine g_dup (pc := 93) hC dX3_readEither_93 rfl ?_
                refine g_get (pc := 94) hC 0 fl_X3_32 dX3_readEither_94 rfl rfl ?_
                refine g_iconst (pc := 97) hC dX3_readEither_97 ?_
                refine g_iadd (pc := 98) hC dX3_readEither_98 ?_
                refine g_putI (pc := 99) hC 0 [cO _ _ [_, _, _, _], _, _, _, _] fl_X3_32 dX3_readEither_99 rfl (Nat.le_of_ble_eq_true rfl) rfl ?_
                refine g_iinc (pc := 102) hC 4 [(4, _), (3, _), (2, _), (0, _), (1, _)] dX3_readEither_102 rfl (by decide) rfl ?_
                refine g_goto (pc := 105) hC 7 dX3_readEither_105 (by decide) ?_
                refine g_lv hC [3, 4, 2, 1, 0] [(0, _), (1, _), (2, _), (3, _), (4, _)] rfl ?_
                exact ih7 0 1 (pt + 1) (p3 + 1) nm3 m6 od6 ((l3 ++ [-2]) ++ [-3]) 101 q2 (by first | assumption | omega) (by first | assumption | omega) (by first | assumption | omega) (by first | assumption | omega) (by first | assumption | omega) (by first | assumption | omega) (by first | assumption | omega) (px_E_or hz (by omega) hz_16 (by rw [if_neg (by omega)]) (by rw [if_neg (by omega)]) (by omega) (by omega)) hL2_68 (by first | assumption | omega) (by first | omega | (simp only [nt_l, List.length_append, List.length_cons, List.length_nil]; omega)) (by first | assumption | omega) (by first | assumption | omega) (by first | assumption | omega) (by omega)
          · have hlt := cr_lt hT (show 0 ≤ p3 by omega) (show T p3 = 38 by omega) (by decide)
            obtain ⟨q1, rfl⟩ : ∃ q1, f1 = q1 + 1 := ⟨f1 - 1, by omega⟩
            refine g_iconst (pc := 47) hC dX3_readEither_47 ?_
            refine g_goto (pc := 48) hC 52 dX3_readEither_48 (by decide) ?_
            refine g_istore_n (pc := 52) hC [(2, _), (0, _), (1, _), (3, _), (4, _)] dX3_readEither_52 rfl (by decide) rfl ?_
            refine g_iload_n (pc := 53) hC 0 dX3_readEither_53 rfl rfl ?_
            refine g_if_ne (pc := 54) hC 92 dX3_readEither_54 (by decide) (by omega) (fun c54 => ?_) (fun c54 => by exfalso; omega)
            refine g_aload_n (pc := 92) hC 1 dX3_readEither_92 rfl rfl ?_
            refine g_dup (pc := 93) hC dX3_readEither_93 rfl ?_
            refine g_get (pc := 94) hC 0 fl_X3_32 dX3_readEither_94 rfl rfl ?_
            refine g_iconst (pc := 97) hC dX3_readEither_97 ?_
            refine g_iadd (pc := 98) hC dX3_readEither_98 ?_
            refine g_putI (pc := 99) hC 0 [cO _ _ [_, _, _, _], _, _, _, _] fl_X3_32 dX3_readEither_99 rfl (Nat.le_of_ble_eq_true rfl) rfl ?_
            refine g_iinc (pc := 102) hC 4 [(4, _), (2, _), (0, _), (1, _), (3, _)] dX3_readEither_102 rfl (by decide) rfl ?_
            refine g_goto (pc := 105) hC 7 dX3_readEither_105 (by decide) ?_
            refine g_lv hC [2, 3, 1, 4, 0] [(0, _), (1, _), (2, _), (3, _), (4, _)] rfl ?_
            exact ih7 1 o (pt + 1) (p3 + 1) nm3 m4 od4 (l3 ++ [-2]) q1 f2 (by first | assumption | omega) (by first | assumption | omega) (by first | assumption | omega) (by first | assumption | omega) (by first | assumption | omega) (by first | assumption | omega) (by first | assumption | omega) (px_E_and hz (by omega) hz_16 (by rw [if_neg (by omega)]) (by omega)) hL2_35 (by first | assumption | omega) (by first | omega | (simp only [nt_l, List.length_append, List.length_cons, List.length_nil]; omega)) (by first | assumption | omega) (by first | assumption | omega) (by first | assumption | omega) (by omega)
      · refine g_iconst (pc := 22) hC dX3_readEither_22 ?_
        exact g_zret (pc := 23) hR dX3_readEither_23 rfl (by omega) ⟨by omega, by omega⟩ (Nat.le_of_ble_eq_true rfl) ⟨0, p3, nm3, m3, od3, l3, rfl, rfl, (by first | assumption | omega), (by first | assumption | omega), (by first | assumption | omega), (by first | assumption | omega), (by first | assumption | omega), (px_E_f hz (by omega) hz_16), hL2_16, (by first | assumption | omega), (by omega), (by first | assumption | omega)⟩
  refine g_lv hC [3, 4, 2, 1, 0] [(0, _), (1, _), (2, _), (3, _), (4, _)] rfl ?_
  exact L7 ((e - p : Int).toNat + 1) 0 0 0 p nm m od l 101 101 (by first | assumption | omega) (by first | assumption | omega) (by first | assumption | omega) (by first | assumption | omega) (by first | assumption | omega) (by first | assumption | omega) (by first | assumption | omega) rfl (by first | assumption | omega) (by first | assumption | omega) (by first | assumption | omega) (by first | assumption | omega) (by first | assumption | omega) (by first | assumption | omega) (by omega)
set_option maxHeartbeats 4000000 in
set_option maxRecDepth 100000 in
theorem k_X3_readInBrackets_3 {K : gK} (g0 : Nat) (g1 : Nat) (g2 : Nat) (g3 : Nat) (g4 : Nat) (nm : Int) (p : Int) (e : Int) (m : Int) (rc : Int) (sg : Int → Int) (od : Int → Int) (T : Int → Int) (l : List Int) (r_nm : rI nm) (r_p : rI p) (r_e : rI e) (r_m : rI m) (r_rc : rI rc) (r_sg : ∀ j, rI (sg j)) (r_od : ∀ j, rI (od j)) (hT : cr_T T e sg) (hp : 0 ≤ p ∧ p ≤ e) (hL : cr_L l od m) (hl : (l.length : Int) ≤ p) (hnm : 0 ≤ nm ∧ nm ≤ 99) (hc : T p = 40) : gMet K yX3_readInBrackets cX3_readInBrackets 2 (some .boolean) 12 0 0 [.ref g0, .int (iI 3)] [cO g0 3 [.ref g1, .ref g2, .int (iI nm), .int (iI p)], cO g1 6 [.ref g3, .int (iI e)], cA K g3 100 sg, cO g2 1 [.ref g4, .int (iI m), .int (iI rc)], cA K g4 100 od] (fun v9 w9 => ∃ (r : Int), ∃ (p2 : Int), ∃ (nm2 : Int), ∃ (m2 : Int), ∃ (od2 : Int → Int), ∃ (l2 : List Int), v9 = some (.int (iI r)) ∧ w9 = [cO g0 3 [.ref g1, .ref g2, .int (iI nm2), .int (iI p2)], cO g1 6 [.ref g3, .int (iI e)], cA K g3 100 sg, cO g2 1 [.ref g4, .int (iI m2), .int (iI rc)], cA K g4 100 od2] ∧ rI r ∧ rI p2 ∧ rI nm2 ∧ rI m2 ∧ (∀ j, rI (od2 j)) ∧ ((1 - r, p2, l2) = px_fac T 2 (0, p, l)) ∧ (cr_L l2 od2 m2) ∧ ((r = 0 ∨ r = 1) ∧ p ≤ p2 ∧ p2 ≤ e ∧ (r = 1 → p < p2)) ∧ ((l2.length : Int) + p ≤ (l.length : Int) + p2) ∧ (0 ≤ nm2 ∧ nm2 ≤ 99)) := by
  refine g_enter (by decide +kernel) (Nat.le_of_ble_eq_true rfl) (fun G hC hR => ?_)
  refine g_lv hC [0, 1] [(0, _), (1, _)] rfl ?_
  have hge := hT.1
  have hlt := cr_lt hT hp.1 hc (by decide)
  refine g_iload_n (pc := 0) hC 1 dX3_readInBrackets_0 rfl rfl ?_
  refine g_iconst (pc := 1) hC dX3_readInBrackets_1 ?_
  refine g_icmp_lt (pc := 2) hC 7 dX3_readInBrackets_2 (by decide) (by omega) (by omega) (fun c2 => ?_) (fun c2 => by exfalso; omega)
  refine g_aload_n (pc := 7) hC 0 dX3_readInBrackets_7 rfl rfl ?_
  refine g_dup (pc := 8) hC dX3_readInBrackets_8 rfl ?_
  refine g_get (pc := 9) hC 0 fl_X3_32 dX3_readInBrackets_9 rfl rfl ?_
  refine g_iconst (pc := 12) hC dX3_readInBrackets_12 ?_
  refine g_iadd (pc := 13) hC dX3_readInBrackets_13 ?_
  refine g_putI (pc := 14) hC 0 [cO _ _ [_, _, _, _], _, _, _, _] fl_X3_32 dX3_readInBrackets_14 rfl (Nat.le_of_ble_eq_true rfl) rfl ?_
  refine g_aload_n (pc := 17) hC 0 dX3_readInBrackets_17 rfl rfl ?_
  refine g_iload_n (pc := 18) hC 1 dX3_readInBrackets_18 rfl rfl ?_
  refine g_iconst (pc := 19) hC dX3_readInBrackets_19 ?_
  refine g_iadd (pc := 20) hC dX3_readInBrackets_20 ?_
  refine g_st hC [.int (iI (4)), _] rfl ?_
  refine g_callV (pc := 21) (qr := 0) hC [0, 1, 2, 3, 4] (k_X3_readEither_4 _ _ _ _ _ _ _ _ _ _ _ _ _ _ (by first | assumption | omega) (by first | assumption | omega) (by first | assumption | omega) (by first | assumption | omega) (by first | assumption | omega) (by first | assumption | omega) (by first | assumption | omega) (by first | assumption | omega) (by first | assumption | omega) (by first | assumption | omega) (by omega) (by first | assumption | omega)) cl_X3_readEither wm_X3_57 dX3_readInBrackets_21 rfl rfl rfl rfl rfl (by decide) (by decide) (by omega) (Nat.le_of_ble_eq_true rfl) rfl (fun v9 w9 hq9 => ?_)
  obtain ⟨r3, p3, nm3, m3, od3, l3, rfl, rfl, r_r3, r_p3, r_nm3, r_m3, r_od3, hz_21, hL2_21, hb_21, hl2_21, hnm2_21⟩ := hq9
  refine g_ws hC [cO g0 3 [.ref g1, .ref g2, .int (iI nm3), .int (iI p3)], cO g1 6 [.ref g3, .int (iI e)], cA K g3 100 sg, cO g2 1 [.ref g4, .int (iI m3), .int (iI rc)], cA K g4 100 od3] rfl ?_
  refine g_st hC [.int (iI r3)] rfl ?_
  refine g_if_eq (pc := 24) hC 40 dX3_readInBrackets_24 (by decide) (by omega) (fun c24 => ?_) (fun c24 => ?_)
  · refine g_iconst (pc := 40) hC dX3_readInBrackets_40 ?_
    exact g_zret (pc := 41) hR dX3_readInBrackets_41 rfl (by omega) ⟨by omega, by omega⟩ (Nat.le_of_ble_eq_true rfl) ⟨0, p3, nm3, m3, od3, l3, rfl, rfl, (by first | assumption | omega), (by first | assumption | omega), (by first | assumption | omega), (by first | assumption | omega), (by first | assumption | omega), (px_br_f hc (by omega) hz_21), hL2_21, (by first | assumption | omega), (by first | assumption | omega), (by first | assumption | omega)⟩
  · refine g_aload_n (pc := 27) hC 0 dX3_readInBrackets_27 rfl rfl ?_
    refine g_ldcS_X3_74 (pc := 28) hC rfl dX3_readInBrackets_28 ?_
    refine g_callV (pc := 30) (qr := 0) hC [0, 1, 2] (k_X3_readWord _ _ _ _ _ _ _ _ _ _ (by first | assumption | omega) (by first | assumption | omega) (by first | assumption | omega) (by first | assumption | omega) (by first | assumption | omega) (by first | assumption | omega) (by first | assumption | omega)) cl_X3_readWord wm_X3_42 dX3_readInBrackets_30 rfl rfl rfl rfl rfl (by decide) (by decide) (by omega) (Nat.le_of_ble_eq_true rfl) rfl (fun v9 w9 hq9 => ?_)
    obtain ⟨r4, p4, rfl, rfl, r_r4, r_p4, hz_30, hb_30⟩ := hq9
    refine g_ws hC [cO g0 3 [.ref g1, .ref g2, .int (iI nm3), .int (iI p4)], cO g1 6 [.ref g3, .int (iI e)], cA K g3 100 sg, cO g2 1 [.ref g4, .int (iI m3), .int (iI rc)], cA K g4 100 od3] rfl ?_
    refine g_st hC [.int (iI r4)] rfl ?_
    have hs4 : sl 4 = 1 := rfl
    refine g_if_eq (pc := 33) hC 40 dX3_readInBrackets_33 (by decide) (by omega) (fun c33 => ?_) (fun c33 => ?_)
    · refine g_iconst (pc := 40) hC dX3_readInBrackets_40 ?_
      exact g_zret (pc := 41) hR dX3_readInBrackets_41 rfl (by omega) ⟨by omega, by omega⟩ (Nat.le_of_ble_eq_true rfl) ⟨0, p4, nm3, m3, od3, l3, rfl, rfl, (by first | assumption | omega), (by first | assumption | omega), (by first | assumption | omega), (by first | assumption | omega), (by first | assumption | omega), (px_br_t (r4 := 0) hc (by omega) hz_21 (by rw [← hz_30, show r4 = 0 by omega])), hL2_21, (by first | assumption | omega), (by first | assumption | omega), (by first | assumption | omega)⟩
    · refine g_iconst (pc := 36) hC dX3_readInBrackets_36 ?_
      refine g_goto (pc := 37) hC 41 dX3_readInBrackets_37 (by decide) ?_
      exact g_zret (pc := 41) hR dX3_readInBrackets_41 rfl (by omega) ⟨by omega, by omega⟩ (Nat.le_of_ble_eq_true rfl) ⟨1, p4, nm3, m3, od3, l3, rfl, rfl, (by first | assumption | omega), (by first | assumption | omega), (by first | assumption | omega), (by first | assumption | omega), (by first | assumption | omega), (px_br_t (r4 := 1) hc (by omega) hz_21 (by rw [← hz_30, show r4 = 1 by omega])), hL2_21, (by first | assumption | omega), (by first | assumption | omega), (by first | assumption | omega)⟩
set_option maxHeartbeats 4000000 in
set_option maxRecDepth 100000 in
theorem k_X3_readOne_3 {K : gK} (g0 : Nat) (g1 : Nat) (g2 : Nat) (g3 : Nat) (g4 : Nat) (nm : Int) (p : Int) (e : Int) (m : Int) (rc : Int) (sg : Int → Int) (od : Int → Int) (T : Int → Int) (l : List Int) (r_nm : rI nm) (r_p : rI p) (r_e : rI e) (r_m : rI m) (r_rc : rI rc) (r_sg : ∀ j, rI (sg j)) (r_od : ∀ j, rI (od j)) (hT : cr_T T e sg) (hp : 0 ≤ p ∧ p ≤ e) (hL : cr_L l od m) (hl : (l.length : Int) ≤ p) (hnm : 0 ≤ nm ∧ nm ≤ 99) : gMet K yX3_readOne cX3_readOne 5 (some .boolean) 13 0 0 [.ref g0, .int (iI 3)] [cO g0 3 [.ref g1, .ref g2, .int (iI nm), .int (iI p)], cO g1 6 [.ref g3, .int (iI e)], cA K g3 100 sg, cO g2 1 [.ref g4, .int (iI m), .int (iI rc)], cA K g4 100 od] (fun v9 w9 => ∃ (r : Int), ∃ (p2 : Int), ∃ (nm2 : Int), ∃ (m2 : Int), ∃ (od2 : Int → Int), ∃ (l2 : List Int), v9 = some (.int (iI r)) ∧ w9 = [cO g0 3 [.ref g1, .ref g2, .int (iI nm2), .int (iI p2)], cO g1 6 [.ref g3, .int (iI e)], cA K g3 100 sg, cO g2 1 [.ref g4, .int (iI m2), .int (iI rc)], cA K g4 100 od2] ∧ rI r ∧ rI p2 ∧ rI nm2 ∧ rI m2 ∧ (∀ j, rI (od2 j)) ∧ ((1 - r, p2, l2) = px_fac T 2 (0, p, l)) ∧ (cr_L l2 od2 m2) ∧ ((r = 0 ∨ r = 1) ∧ p ≤ p2 ∧ p2 ≤ e ∧ (r = 1 → p < p2)) ∧ ((l2.length : Int) + p ≤ (l.length : Int) + p2) ∧ (0 ≤ nm2 ∧ nm2 ≤ 99)) := by
  refine g_enter (by decide +kernel) (Nat.le_of_ble_eq_true rfl) (fun G hC hR => ?_)
  refine g_lv hC [0, 1] [(0, _), (1, _)] rfl ?_
  have hge := hT.1
  refine g_iconst (pc := 0) hC dX3_readOne_0 ?_
  refine g_istore_n (pc := 1) hC [(2, _), (0, _), (1, _)] dX3_readOne_1 rfl (by decide) rfl ?_
  refine g_aload_n (pc := 2) hC 1 dX3_readOne_2 rfl rfl ?_
  refine g_fnV (pc := 3) (qr := 0) hC [0, 1, 2] (k_X3_sign _ _ _ _ _ _ _ _ _ (by first | assumption | omega) (by first | assumption | omega) (by first | assumption | omega) (by first | assumption | omega) (by first | assumption | omega) (by first | assumption | omega)) cl_X3_sign wm_X3_28 dX3_readOne_3 rfl rfl rfl rfl rfl (by decide) (by decide) ⟨by omega, by omega⟩ (Nat.le_of_ble_eq_true rfl) rfl rfl ?_
  refine g_name hC (fun y0 e_y0 => ?_)
  have q_y0 : -1 ≤ y0 ∧ y0 ≤ 127 := by rw [e_y0]; exact hT.2.2.1 _
  refine g_bipush (pc := 6) hC (33) dX3_readOne_6 (by decide) ?_
  refine g_icmp_ne (pc := 8) hC 34 dX3_readOne_8 (by decide) (by omega) (by omega) (fun c8 => ?_) (fun c8 => ?_)
  · have hn9 : ¬ T (p) = 33 := by omega
    refine g_aload_n (pc := 34) hC 1 dX3_readOne_34 rfl rfl ?_
    refine g_fnV (pc := 35) (qr := 0) hC [0, 1, 2] (k_X3_sign _ _ _ _ _ _ _ _ _ (by first | assumption | omega) (by first | assumption | omega) (by first | assumption | omega) (by first | assumption | omega) (by first | assumption | omega) (by first | assumption | omega)) cl_X3_sign wm_X3_28 dX3_readOne_35 rfl rfl rfl rfl rfl (by decide) (by decide) ⟨by omega, by omega⟩ (Nat.le_of_ble_eq_true rfl) rfl rfl ?_
    refine g_name hC (fun y99 e_y99 => ?_)
    have q_y99 : -1 ≤ y99 ∧ y99 ≤ 127 := by rw [e_y99]; exact hT.2.2.1 _
    refine g_bipush (pc := 38) hC (40) dX3_readOne_38 (by decide) ?_
    refine g_icmp_ne (pc := 40) hC 53 dX3_readOne_40 (by decide) (by omega) (by omega) (fun c40 => ?_) (fun c40 => ?_)
    · refine g_aload_n (pc := 53) hC 1 dX3_readOne_53 rfl rfl ?_
      refine g_callV (pc := 54) (qr := 0) hC [0, 1, 2, 3, 4] (k_X3_readTest _ _ _ _ _ _ _ _ _ _ _ _ _ _ (by first | assumption | omega) (by first | assumption | omega) (by first | assumption | omega) (by first | assumption | omega) (by first | assumption | omega) (by first | assumption | omega) (by first | assumption | omega) (by first | assumption | omega) (by first | assumption | omega) (by first | assumption | omega) (by first | assumption | omega) (by first | assumption | omega)) cl_X3_readTest wm_X3_71 dX3_readOne_54 rfl rfl rfl rfl rfl (by decide) (by decide) (by omega) (Nat.le_of_ble_eq_true rfl) rfl (fun v9 w9 hq9 => ?_)
      obtain ⟨r3, p3, nm3, m3, od3, l3, rfl, rfl, r_r3, r_p3, r_nm3, r_m3, r_od3, hz_54, hL2_54, hb_54, hl2_54, hnm2_54⟩ := hq9
      refine g_ws hC [cO g0 3 [.ref g1, .ref g2, .int (iI nm3), .int (iI p3)], cO g1 6 [.ref g3, .int (iI e)], cA K g3 100 sg, cO g2 1 [.ref g4, .int (iI m3), .int (iI rc)], cA K g4 100 od3] rfl ?_
      refine g_st hC [.int (iI r3)] rfl ?_
      refine g_istore_n (pc := 57) hC [(3, _), (2, _), (0, _), (1, _)] dX3_readOne_57 rfl (by decide) rfl ?_
      refine g_iconst (pc := 58) hC dX3_readOne_58 ?_
      refine g_istore (pc := 59) hC [(4, _), (3, _), (2, _), (0, _), (1, _)] dX3_readOne_59 (by decide) rfl ?_
      refine g_iload (pc := 61) hC 0 dX3_readOne_61 rfl ?_
      refine g_iload_n (pc := 63) hC 2 dX3_readOne_63 rfl rfl ?_
      refine g_icmp_ge (pc := 64) hC 87 dX3_readOne_64 (by decide) (by omega) (by omega) (fun c64 => ?_) (fun c64 => by exfalso; omega)
      refine g_iload_n (pc := 87) hC 1 dX3_readOne_87 rfl rfl ?_
      exact g_zret (pc := 88) hR dX3_readOne_88 rfl (by omega) ⟨by omega, by omega⟩ (Nat.le_of_ble_eq_true rfl) ⟨r3, p3, nm3, m3, od3, l3, rfl, rfl, (by first | assumption | omega), (by first | assumption | omega), (by first | assumption | omega), (by first | assumption | omega), (by first | assumption | omega), (px_fac_t rfl hn9 (by omega) hz_54), hL2_54, (by first | assumption | omega), (by first | assumption | omega), (by first | assumption | omega)⟩
    · have hlt9 := cr_lt hT (by omega) (show T (p) = 40 by omega) (by decide)
      refine g_aload_n (pc := 43) hC 1 dX3_readOne_43 rfl rfl ?_
      refine g_iload_n (pc := 44) hC 2 dX3_readOne_44 rfl rfl ?_
      refine g_iload_n (pc := 45) hC 0 dX3_readOne_45 rfl rfl ?_
      refine g_iadd (pc := 46) hC dX3_readOne_46 ?_
      refine g_st hC [.int (iI (3)), _] rfl ?_
      refine g_callV (pc := 47) (qr := 0) hC [0, 1, 2, 3, 4] (k_X3_readInBrackets_3 _ _ _ _ _ _ _ _ _ _ _ _ _ _ (by first | assumption | omega) (by first | assumption | omega) (by first | assumption | omega) (by first | assumption | omega) (by first | assumption | omega) (by first | assumption | omega) (by first | assumption | omega) (by first | assumption | omega) (by first | assumption | omega) (by first | assumption | omega) (by first | assumption | omega) (by first | assumption | omega) (by first | assumption | omega)) cl_X3_readInBrackets wm_X3_68 dX3_readOne_47 rfl rfl rfl rfl rfl (by decide) (by decide) (by omega) (Nat.le_of_ble_eq_true rfl) rfl (fun v9 w9 hq9 => ?_)
      obtain ⟨r3, p3, nm3, m3, od3, l3, rfl, rfl, r_r3, r_p3, r_nm3, r_m3, r_od3, hz_47, hL2_47, hb_47, hl2_47, hnm2_47⟩ := hq9
      refine g_ws hC [cO g0 3 [.ref g1, .ref g2, .int (iI nm3), .int (iI p3)], cO g1 6 [.ref g3, .int (iI e)], cA K g3 100 sg, cO g2 1 [.ref g4, .int (iI m3), .int (iI rc)], cA K g4 100 od3] rfl ?_
      refine g_st hC [.int (iI r3)] rfl ?_
      refine g_goto (pc := 50) hC 57 dX3_readOne_50 (by decide) ?_
      refine g_istore_n (pc := 57) hC [(3, _), (2, _), (0, _), (1, _)] dX3_readOne_57 rfl (by decide) rfl ?_
      refine g_iconst (pc := 58) hC dX3_readOne_58 ?_
      refine g_istore (pc := 59) hC [(4, _), (3, _), (2, _), (0, _), (1, _)] dX3_readOne_59 (by decide) rfl ?_
      refine g_iload (pc := 61) hC 0 dX3_readOne_61 rfl ?_
      refine g_iload_n (pc := 63) hC 2 dX3_readOne_63 rfl rfl ?_
      refine g_icmp_ge (pc := 64) hC 87 dX3_readOne_64 (by decide) (by omega) (by omega) (fun c64 => ?_) (fun c64 => by exfalso; omega)
      refine g_iload_n (pc := 87) hC 1 dX3_readOne_87 rfl rfl ?_
      exact g_zret (pc := 88) hR dX3_readOne_88 rfl (by omega) ⟨by omega, by omega⟩ (Nat.le_of_ble_eq_true rfl) ⟨r3, p3, nm3, m3, od3, l3, rfl, rfl, (by first | assumption | omega), (by first | assumption | omega), (by first | assumption | omega), (by first | assumption | omega), (by first | assumption | omega), hz_47, hL2_47, (by first | assumption | omega), (by first | assumption | omega), (by first | assumption | omega)⟩
  · have hq0 : T (p) = 33 := by omega
    have hlt0 := cr_lt hT (by omega) hq0 (by decide)
    refine g_iload_n (pc := 11) hC 2 dX3_readOne_11 rfl rfl ?_
    refine g_iload_n (pc := 12) hC 0 dX3_readOne_12 rfl rfl ?_
    refine g_iadd (pc := 13) hC dX3_readOne_13 ?_
    refine g_st hC [.int (iI (3))] rfl ?_
    refine g_iconst (pc := 14) hC dX3_readOne_14 ?_
    refine g_icmp_ge (pc := 15) hC 34 dX3_readOne_15 (by decide) (by omega) (by omega) (fun c15 => by exfalso; omega) (fun c15 => ?_)
    refine g_iinc (pc := 18) hC 0 [(2, _), (0, _), (1, _)] dX3_readOne_18 rfl (by decide) rfl ?_
    refine g_lv hC [0, 1, 2] [(2, .int (iI 1)), (0, _), (1, _)] rfl ?_
    skip
    refine g_aload_n (pc := 21) hC 1 dX3_readOne_21 rfl rfl ?_
    refine g_dup (pc := 22) hC dX3_readOne_22 rfl ?_
    refine g_get (pc := 23) hC 0 fl_X3_32 dX3_readOne_23 rfl rfl ?_
    refine g_iconst (pc := 26) hC dX3_readOne_26 ?_
    refine g_iadd (pc := 27) hC dX3_readOne_27 ?_
    refine g_putI (pc := 28) hC 0 [cO _ _ [_, _, _, _], _, _, _, _] fl_X3_32 dX3_readOne_28 rfl (Nat.le_of_ble_eq_true rfl) rfl ?_
    refine g_goto (pc := 31) hC 2 dX3_readOne_31 (by decide) ?_
    refine g_aload_n (pc := 2) hC 1 dX3_readOne_2 rfl rfl ?_
    refine g_fnV (pc := 3) (qr := 0) hC [0, 1, 2] (k_X3_sign _ _ _ _ _ _ _ _ _ (by first | assumption | omega) (by first | assumption | omega) (by first | assumption | omega) (by first | assumption | omega) (by first | assumption | omega) (by first | assumption | omega)) cl_X3_sign wm_X3_28 dX3_readOne_3 rfl rfl rfl rfl rfl (by decide) (by decide) ⟨by omega, by omega⟩ (Nat.le_of_ble_eq_true rfl) rfl rfl ?_
    refine g_name hC (fun y1 e_y1 => ?_)
    have q_y1 : -1 ≤ y1 ∧ y1 ≤ 127 := by rw [e_y1]; exact hT.2.2.1 _
    refine g_bipush (pc := 6) hC (33) dX3_readOne_6 (by decide) ?_
    refine g_icmp_ne (pc := 8) hC 34 dX3_readOne_8 (by decide) (by omega) (by omega) (fun c8 => ?_) (fun c8 => ?_)
    · have hn9 : ¬ T ((p + 1)) = 33 := by omega
      refine g_aload_n (pc := 34) hC 1 dX3_readOne_34 rfl rfl ?_
      refine g_fnV (pc := 35) (qr := 0) hC [0, 1, 2] (k_X3_sign _ _ _ _ _ _ _ _ _ (by first | assumption | omega) (by first | assumption | omega) (by first | assumption | omega) (by first | assumption | omega) (by first | assumption | omega) (by first | assumption | omega)) cl_X3_sign wm_X3_28 dX3_readOne_35 rfl rfl rfl rfl rfl (by decide) (by decide) ⟨by omega, by omega⟩ (Nat.le_of_ble_eq_true rfl) rfl rfl ?_
      refine g_name hC (fun y99 e_y99 => ?_)
      have q_y99 : -1 ≤ y99 ∧ y99 ≤ 127 := by rw [e_y99]; exact hT.2.2.1 _
      refine g_bipush (pc := 38) hC (40) dX3_readOne_38 (by decide) ?_
      refine g_icmp_ne (pc := 40) hC 53 dX3_readOne_40 (by decide) (by omega) (by omega) (fun c40 => ?_) (fun c40 => ?_)
      · refine g_aload_n (pc := 53) hC 1 dX3_readOne_53 rfl rfl ?_
        refine g_callV (pc := 54) (qr := 0) hC [0, 1, 2, 3, 4] (k_X3_readTest _ _ _ _ _ _ _ _ _ _ _ _ _ _ (by first | assumption | omega) (by first | assumption | omega) (by first | assumption | omega) (by first | assumption | omega) (by first | assumption | omega) (by first | assumption | omega) (by first | assumption | omega) (by first | assumption | omega) (by first | assumption | omega) (by first | assumption | omega) (by first | assumption | omega) (by first | assumption | omega)) cl_X3_readTest wm_X3_71 dX3_readOne_54 rfl rfl rfl rfl rfl (by decide) (by decide) (by omega) (Nat.le_of_ble_eq_true rfl) rfl (fun v9 w9 hq9 => ?_)
        obtain ⟨r3, p3, nm3, m3, od3, l3, rfl, rfl, r_r3, r_p3, r_nm3, r_m3, r_od3, hz_54, hL2_54, hb_54, hl2_54, hnm2_54⟩ := hq9
        refine g_ws hC [cO g0 3 [.ref g1, .ref g2, .int (iI nm3), .int (iI p3)], cO g1 6 [.ref g3, .int (iI e)], cA K g3 100 sg, cO g2 1 [.ref g4, .int (iI m3), .int (iI rc)], cA K g4 100 od3] rfl ?_
        refine g_st hC [.int (iI r3)] rfl ?_
        refine g_istore_n (pc := 57) hC [(3, _), (2, _), (0, _), (1, _)] dX3_readOne_57 rfl (by decide) rfl ?_
        refine g_iconst (pc := 58) hC dX3_readOne_58 ?_
        refine g_istore (pc := 59) hC [(4, _), (3, _), (2, _), (0, _), (1, _)] dX3_readOne_59 (by decide) rfl ?_
        refine g_iload (pc := 61) hC 0 dX3_readOne_61 rfl ?_
        refine g_iload_n (pc := 63) hC 2 dX3_readOne_63 rfl rfl ?_
        refine g_icmp_ge (pc := 64) hC 87 dX3_readOne_64 (by decide) (by omega) (by omega) (fun c64 => by exfalso; omega) (fun c64 => ?_)
        refine g_iload_n (pc := 67) hC 1 dX3_readOne_67 rfl rfl ?_
        refine g_if_eq (pc := 68) hC 87 dX3_readOne_68 (by decide) (by omega) (fun c68 => ?_) (fun c68 => ?_)
        · refine g_iload_n (pc := 87) hC 1 dX3_readOne_87 rfl rfl ?_
          exact g_zret (pc := 88) hR dX3_readOne_88 rfl (by omega) ⟨by omega, by omega⟩ (Nat.le_of_ble_eq_true rfl) ⟨r3, p3, nm3, m3, od3, l3, rfl, rfl, (by first | assumption | omega), (by first | assumption | omega), (by first | assumption | omega), (by first | assumption | omega), (by first | assumption | omega), (px_fac_not (l4 := l3) rfl hq0 (px_fac_t rfl hn9 (by omega) hz_54) (by rw [if_neg (show ¬ (1 - r3 : Int) = 0 by omega)])), hL2_54, (by first | assumption | omega), (by first | assumption | omega), (by first | assumption | omega)⟩
        · refine g_aload_n (pc := 71) hC 3 dX3_readOne_71 rfl rfl ?_
          refine g_get (pc := 72) hC 0 fl_X3_15 dX3_readOne_72 rfl rfl ?_
          refine g_bipush (pc := 75) hC (6) dX3_readOne_75 (by decide) ?_
          refine g_iconst (pc := 77) hC dX3_readOne_77 ?_
          refine g_callV (pc := 78) (qr := 3) hC [3, 4] (k_X1_put _ _ _ _ _ _ _ (nt_l l3 0) (-1) (by first | assumption | omega) (by first | assumption | omega) (by first | assumption | omega) (by first | assumption | omega) (by first | assumption | omega) (by first | omega | (simp only [nt_l, List.length_append, List.length_cons, List.length_nil]; omega)) (by decide +kernel) (by decide)) cl_X1_put wm_X3_61 dX3_readOne_78 rfl rfl rfl rfl rfl (by decide) (by decide) (by omega) (Nat.le_of_ble_eq_true rfl) rfl (fun v9 w9 hq9 => ?_)
          obtain ⟨m4, od4, rfl, rfl, r_m4, r_od4, hL2_78, hm2_78⟩ := hq9
          refine g_ws hC [cO g0 3 [.ref g1, .ref g2, .int (iI nm3), .int (iI p3)], cO g1 6 [.ref g3, .int (iI e)], cA K g3 100 sg, cO g2 1 [.ref g4, .int (iI m4), .int (iI rc)], cA K g4 100 od4] rfl ?_
          refine g_st hC [] rfl ?_
          refine g_iinc (pc := 81) hC 0 [(4, _), (3, _), (2, _), (0, _), (1, _)] dX3_readOne_81 rfl (by decide) rfl ?_
          refine g_lv hC [0, 1, 2, 3, 4] [(4, .int (iI 1)), (3, _), (2, _), (0, _), (1, _)] rfl ?_
          refine g_goto (pc := 84) hC 61 dX3_readOne_84 (by decide) ?_
          refine g_iload (pc := 61) hC 0 dX3_readOne_61 rfl ?_
          refine g_iload_n (pc := 63) hC 2 dX3_readOne_63 rfl rfl ?_
          refine g_icmp_ge (pc := 64) hC 87 dX3_readOne_64 (by decide) (by omega) (by omega) (fun c64 => ?_) (fun c64 => by exfalso; omega)
          refine g_iload_n (pc := 87) hC 1 dX3_readOne_87 rfl rfl ?_
          exact g_zret (pc := 88) hR dX3_readOne_88 rfl (by omega) ⟨by omega, by omega⟩ (Nat.le_of_ble_eq_true rfl) ⟨r3, p3, nm3, m4, od4, (nt_l l3 1), rfl, rfl, (by first | assumption | omega), (by first | assumption | omega), (by first | assumption | omega), (by first | assumption | omega), (by first | assumption | omega), (px_fac_not (l4 := nt_l l3 1) rfl hq0 (px_fac_t rfl hn9 (by omega) hz_54) (by rw [if_pos (show (1 - r3 : Int) = 0 by omega)]; rfl)), hL2_78, (by first | assumption | omega), (by first | omega | (simp only [nt_l, List.length_append, List.length_cons, List.length_nil]; omega)), (by first | assumption | omega)⟩
      · have hlt9 := cr_lt hT (by omega) (show T ((p + 1)) = 40 by omega) (by decide)
        refine g_aload_n (pc := 43) hC 1 dX3_readOne_43 rfl rfl ?_
        refine g_iload_n (pc := 44) hC 2 dX3_readOne_44 rfl rfl ?_
        refine g_iload_n (pc := 45) hC 0 dX3_readOne_45 rfl rfl ?_
        refine g_iadd (pc := 46) hC dX3_readOne_46 ?_
        refine g_st hC [.int (iI (4)), _] rfl ?_
        refine g_callV (pc := 47) (qr := 0) hC [0, 1, 2, 3, 4] (k_X3_readInBrackets_4 _ _ _ _ _ _ _ _ _ _ _ _ _ _ (by first | assumption | omega) (by first | assumption | omega) (by first | assumption | omega) (by first | assumption | omega) (by first | assumption | omega) (by first | assumption | omega) (by first | assumption | omega) (by first | assumption | omega) (by first | assumption | omega) (by first | assumption | omega) (by first | assumption | omega) (by first | assumption | omega) (by first | assumption | omega)) cl_X3_readInBrackets wm_X3_68 dX3_readOne_47 rfl rfl rfl rfl rfl (by decide) (by decide) (by omega) (Nat.le_of_ble_eq_true rfl) rfl (fun v9 w9 hq9 => ?_)
        obtain ⟨r3, p3, nm3, m3, od3, l3, rfl, rfl, r_r3, r_p3, r_nm3, r_m3, r_od3, hz_47, hL2_47, hb_47, hl2_47, hnm2_47⟩ := hq9
        refine g_ws hC [cO g0 3 [.ref g1, .ref g2, .int (iI nm3), .int (iI p3)], cO g1 6 [.ref g3, .int (iI e)], cA K g3 100 sg, cO g2 1 [.ref g4, .int (iI m3), .int (iI rc)], cA K g4 100 od3] rfl ?_
        refine g_st hC [.int (iI r3)] rfl ?_
        refine g_goto (pc := 50) hC 57 dX3_readOne_50 (by decide) ?_
        refine g_istore_n (pc := 57) hC [(3, _), (2, _), (0, _), (1, _)] dX3_readOne_57 rfl (by decide) rfl ?_
        refine g_iconst (pc := 58) hC dX3_readOne_58 ?_
        refine g_istore (pc := 59) hC [(4, _), (3, _), (2, _), (0, _), (1, _)] dX3_readOne_59 (by decide) rfl ?_
        refine g_iload (pc := 61) hC 0 dX3_readOne_61 rfl ?_
        refine g_iload_n (pc := 63) hC 2 dX3_readOne_63 rfl rfl ?_
        refine g_icmp_ge (pc := 64) hC 87 dX3_readOne_64 (by decide) (by omega) (by omega) (fun c64 => by exfalso; omega) (fun c64 => ?_)
        refine g_iload_n (pc := 67) hC 1 dX3_readOne_67 rfl rfl ?_
        refine g_if_eq (pc := 68) hC 87 dX3_readOne_68 (by decide) (by omega) (fun c68 => ?_) (fun c68 => ?_)
        · refine g_iload_n (pc := 87) hC 1 dX3_readOne_87 rfl rfl ?_
          exact g_zret (pc := 88) hR dX3_readOne_88 rfl (by omega) ⟨by omega, by omega⟩ (Nat.le_of_ble_eq_true rfl) ⟨r3, p3, nm3, m3, od3, l3, rfl, rfl, (by first | assumption | omega), (by first | assumption | omega), (by first | assumption | omega), (by first | assumption | omega), (by first | assumption | omega), (px_fac_not (l4 := l3) rfl hq0 hz_47 (by rw [if_neg (show ¬ (1 - r3 : Int) = 0 by omega)])), hL2_47, (by first | assumption | omega), (by first | assumption | omega), (by first | assumption | omega)⟩
        · refine g_aload_n (pc := 71) hC 3 dX3_readOne_71 rfl rfl ?_
          refine g_get (pc := 72) hC 0 fl_X3_15 dX3_readOne_72 rfl rfl ?_
          refine g_bipush (pc := 75) hC (6) dX3_readOne_75 (by decide) ?_
          refine g_iconst (pc := 77) hC dX3_readOne_77 ?_
          refine g_callV (pc := 78) (qr := 3) hC [3, 4] (k_X1_put _ _ _ _ _ _ _ (nt_l l3 0) (-1) (by first | assumption | omega) (by first | assumption | omega) (by first | assumption | omega) (by first | assumption | omega) (by first | assumption | omega) (by first | omega | (simp only [nt_l, List.length_append, List.length_cons, List.length_nil]; omega)) (by decide +kernel) (by decide)) cl_X1_put wm_X3_61 dX3_readOne_78 rfl rfl rfl rfl rfl (by decide) (by decide) (by omega) (Nat.le_of_ble_eq_true rfl) rfl (fun v9 w9 hq9 => ?_)
          obtain ⟨m4, od4, rfl, rfl, r_m4, r_od4, hL2_78, hm2_78⟩ := hq9
          refine g_ws hC [cO g0 3 [.ref g1, .ref g2, .int (iI nm3), .int (iI p3)], cO g1 6 [.ref g3, .int (iI e)], cA K g3 100 sg, cO g2 1 [.ref g4, .int (iI m4), .int (iI rc)], cA K g4 100 od4] rfl ?_
          refine g_st hC [] rfl ?_
          refine g_iinc (pc := 81) hC 0 [(4, _), (3, _), (2, _), (0, _), (1, _)] dX3_readOne_81 rfl (by decide) rfl ?_
          refine g_lv hC [0, 1, 2, 3, 4] [(4, .int (iI 1)), (3, _), (2, _), (0, _), (1, _)] rfl ?_
          refine g_goto (pc := 84) hC 61 dX3_readOne_84 (by decide) ?_
          refine g_iload (pc := 61) hC 0 dX3_readOne_61 rfl ?_
          refine g_iload_n (pc := 63) hC 2 dX3_readOne_63 rfl rfl ?_
          refine g_icmp_ge (pc := 64) hC 87 dX3_readOne_64 (by decide) (by omega) (by omega) (fun c64 => ?_) (fun c64 => by exfalso; omega)
          refine g_iload_n (pc := 87) hC 1 dX3_readOne_87 rfl rfl ?_
          exact g_zret (pc := 88) hR dX3_readOne_88 rfl (by omega) ⟨by omega, by omega⟩ (Nat.le_of_ble_eq_true rfl) ⟨r3, p3, nm3, m4, od4, (nt_l l3 1), rfl, rfl, (by first | assumption | omega), (by first | assumption | omega), (by first | assumption | omega), (by first | assumption | omega), (by first | assumption | omega), (px_fac_not (l4 := nt_l l3 1) rfl hq0 hz_47 (by rw [if_pos (show (1 - r3 : Int) = 0 by omega)]; rfl)), hL2_78, (by first | assumption | omega), (by first | omega | (simp only [nt_l, List.length_append, List.length_cons, List.length_nil]; omega)), (by first | assumption | omega)⟩
    · have hq1 : T ((p + 1)) = 33 := by omega
      have hlt1 := cr_lt hT (by omega) hq1 (by decide)
      refine g_iload_n (pc := 11) hC 2 dX3_readOne_11 rfl rfl ?_
      refine g_iload_n (pc := 12) hC 0 dX3_readOne_12 rfl rfl ?_
      refine g_iadd (pc := 13) hC dX3_readOne_13 ?_
      refine g_st hC [.int (iI (4))] rfl ?_
      refine g_iconst (pc := 14) hC dX3_readOne_14 ?_
      refine g_icmp_ge (pc := 15) hC 34 dX3_readOne_15 (by decide) (by omega) (by omega) (fun c15 => by exfalso; omega) (fun c15 => ?_)
      refine g_iinc (pc := 18) hC 0 [(2, _), (0, _), (1, _)] dX3_readOne_18 rfl (by decide) rfl ?_
      refine g_lv hC [0, 1, 2] [(2, .int (iI 2)), (0, _), (1, _)] rfl ?_
      skip
      refine g_aload_n (pc := 21) hC 1 dX3_readOne_21 rfl rfl ?_
      refine g_dup (pc := 22) hC dX3_readOne_22 rfl ?_
      refine g_get (pc := 23) hC 0 fl_X3_32 dX3_readOne_23 rfl rfl ?_
      refine g_iconst (pc := 26) hC dX3_readOne_26 ?_
      refine g_iadd (pc := 27) hC dX3_readOne_27 ?_
      refine g_putI (pc := 28) hC 0 [cO _ _ [_, _, _, _], _, _, _, _] fl_X3_32 dX3_readOne_28 rfl (Nat.le_of_ble_eq_true rfl) rfl ?_
      refine g_goto (pc := 31) hC 2 dX3_readOne_31 (by decide) ?_
      refine g_aload_n (pc := 2) hC 1 dX3_readOne_2 rfl rfl ?_
      refine g_fnV (pc := 3) (qr := 0) hC [0, 1, 2] (k_X3_sign _ _ _ _ _ _ _ _ _ (by first | assumption | omega) (by first | assumption | omega) (by first | assumption | omega) (by first | assumption | omega) (by first | assumption | omega) (by first | assumption | omega)) cl_X3_sign wm_X3_28 dX3_readOne_3 rfl rfl rfl rfl rfl (by decide) (by decide) ⟨by omega, by omega⟩ (Nat.le_of_ble_eq_true rfl) rfl rfl ?_
      refine g_name hC (fun y2 e_y2 => ?_)
      have q_y2 : -1 ≤ y2 ∧ y2 ≤ 127 := by rw [e_y2]; exact hT.2.2.1 _
      refine g_bipush (pc := 6) hC (33) dX3_readOne_6 (by decide) ?_
      refine g_icmp_ne (pc := 8) hC 34 dX3_readOne_8 (by decide) (by omega) (by omega) (fun c8 => ?_) (fun c8 => ?_)
      · have hn9 : ¬ T (((p + 1) + 1)) = 33 := by omega
        refine g_aload_n (pc := 34) hC 1 dX3_readOne_34 rfl rfl ?_
        refine g_fnV (pc := 35) (qr := 0) hC [0, 1, 2] (k_X3_sign _ _ _ _ _ _ _ _ _ (by first | assumption | omega) (by first | assumption | omega) (by first | assumption | omega) (by first | assumption | omega) (by first | assumption | omega) (by first | assumption | omega)) cl_X3_sign wm_X3_28 dX3_readOne_35 rfl rfl rfl rfl rfl (by decide) (by decide) ⟨by omega, by omega⟩ (Nat.le_of_ble_eq_true rfl) rfl rfl ?_
        refine g_name hC (fun y99 e_y99 => ?_)
        have q_y99 : -1 ≤ y99 ∧ y99 ≤ 127 := by rw [e_y99]; exact hT.2.2.1 _
        refine g_bipush (pc := 38) hC (40) dX3_readOne_38 (by decide) ?_
        refine g_icmp_ne (pc := 40) hC 53 dX3_readOne_40 (by decide) (by omega) (by omega) (fun c40 => ?_) (fun c40 => ?_)
        · refine g_aload_n (pc := 53) hC 1 dX3_readOne_53 rfl rfl ?_
          refine g_callV (pc := 54) (qr := 0) hC [0, 1, 2, 3, 4] (k_X3_readTest _ _ _ _ _ _ _ _ _ _ _ _ _ _ (by first | assumption | omega) (by first | assumption | omega) (by first | assumption | omega) (by first | assumption | omega) (by first | assumption | omega) (by first | assumption | omega) (by first | assumption | omega) (by first | assumption | omega) (by first | assumption | omega) (by first | assumption | omega) (by first | assumption | omega) (by first | assumption | omega)) cl_X3_readTest wm_X3_71 dX3_readOne_54 rfl rfl rfl rfl rfl (by decide) (by decide) (by omega) (Nat.le_of_ble_eq_true rfl) rfl (fun v9 w9 hq9 => ?_)
          obtain ⟨r3, p3, nm3, m3, od3, l3, rfl, rfl, r_r3, r_p3, r_nm3, r_m3, r_od3, hz_54, hL2_54, hb_54, hl2_54, hnm2_54⟩ := hq9
          refine g_ws hC [cO g0 3 [.ref g1, .ref g2, .int (iI nm3), .int (iI p3)], cO g1 6 [.ref g3, .int (iI e)], cA K g3 100 sg, cO g2 1 [.ref g4, .int (iI m3), .int (iI rc)], cA K g4 100 od3] rfl ?_
          refine g_st hC [.int (iI r3)] rfl ?_
          refine g_istore_n (pc := 57) hC [(3, _), (2, _), (0, _), (1, _)] dX3_readOne_57 rfl (by decide) rfl ?_
          refine g_iconst (pc := 58) hC dX3_readOne_58 ?_
          refine g_istore (pc := 59) hC [(4, _), (3, _), (2, _), (0, _), (1, _)] dX3_readOne_59 (by decide) rfl ?_
          refine g_iload (pc := 61) hC 0 dX3_readOne_61 rfl ?_
          refine g_iload_n (pc := 63) hC 2 dX3_readOne_63 rfl rfl ?_
          refine g_icmp_ge (pc := 64) hC 87 dX3_readOne_64 (by decide) (by omega) (by omega) (fun c64 => by exfalso; omega) (fun c64 => ?_)
          refine g_iload_n (pc := 67) hC 1 dX3_readOne_67 rfl rfl ?_
          refine g_if_eq (pc := 68) hC 87 dX3_readOne_68 (by decide) (by omega) (fun c68 => ?_) (fun c68 => ?_)
          · refine g_iload_n (pc := 87) hC 1 dX3_readOne_87 rfl rfl ?_
            exact g_zret (pc := 88) hR dX3_readOne_88 rfl (by omega) ⟨by omega, by omega⟩ (Nat.le_of_ble_eq_true rfl) ⟨r3, p3, nm3, m3, od3, l3, rfl, rfl, (by first | assumption | omega), (by first | assumption | omega), (by first | assumption | omega), (by first | assumption | omega), (by first | assumption | omega), (px_fac_not (l4 := l3) rfl hq0 (px_fac_not (l4 := l3) rfl hq1 (px_fac_t rfl hn9 (by omega) hz_54) (by rw [if_neg (show ¬ (1 - r3 : Int) = 0 by omega)])) (by rw [if_neg (show ¬ (1 - r3 : Int) = 0 by omega)])), hL2_54, (by first | assumption | omega), (by first | assumption | omega), (by first | assumption | omega)⟩
          · refine g_aload_n (pc := 71) hC 3 dX3_readOne_71 rfl rfl ?_
            refine g_get (pc := 72) hC 0 fl_X3_15 dX3_readOne_72 rfl rfl ?_
            refine g_bipush (pc := 75) hC (6) dX3_readOne_75 (by decide) ?_
            refine g_iconst (pc := 77) hC dX3_readOne_77 ?_
            refine g_callV (pc := 78) (qr := 3) hC [3, 4] (k_X1_put _ _ _ _ _ _ _ (nt_l l3 0) (-1) (by first | assumption | omega) (by first | assumption | omega) (by first | assumption | omega) (by first | assumption | omega) (by first | assumption | omega) (by first | omega | (simp only [nt_l, List.length_append, List.length_cons, List.length_nil]; omega)) (by decide +kernel) (by decide)) cl_X1_put wm_X3_61 dX3_readOne_78 rfl rfl rfl rfl rfl (by decide) (by decide) (by omega) (Nat.le_of_ble_eq_true rfl) rfl (fun v9 w9 hq9 => ?_)
            obtain ⟨m4, od4, rfl, rfl, r_m4, r_od4, hL2_78, hm2_78⟩ := hq9
            refine g_ws hC [cO g0 3 [.ref g1, .ref g2, .int (iI nm3), .int (iI p3)], cO g1 6 [.ref g3, .int (iI e)], cA K g3 100 sg, cO g2 1 [.ref g4, .int (iI m4), .int (iI rc)], cA K g4 100 od4] rfl ?_
            refine g_st hC [] rfl ?_
            refine g_iinc (pc := 81) hC 0 [(4, _), (3, _), (2, _), (0, _), (1, _)] dX3_readOne_81 rfl (by decide) rfl ?_
            refine g_lv hC [0, 1, 2, 3, 4] [(4, .int (iI 1)), (3, _), (2, _), (0, _), (1, _)] rfl ?_
            refine g_goto (pc := 84) hC 61 dX3_readOne_84 (by decide) ?_
            refine g_iload (pc := 61) hC 0 dX3_readOne_61 rfl ?_
            refine g_iload_n (pc := 63) hC 2 dX3_readOne_63 rfl rfl ?_
            refine g_icmp_ge (pc := 64) hC 87 dX3_readOne_64 (by decide) (by omega) (by omega) (fun c64 => by exfalso; omega) (fun c64 => ?_)
            refine g_iload_n (pc := 67) hC 1 dX3_readOne_67 rfl rfl ?_
            refine g_if_eq (pc := 68) hC 87 dX3_readOne_68 (by decide) (by omega) (fun c68 => by exfalso; omega) (fun c68 => ?_)
            refine g_aload_n (pc := 71) hC 3 dX3_readOne_71 rfl rfl ?_
            refine g_get (pc := 72) hC 0 fl_X3_15 dX3_readOne_72 rfl rfl ?_
            refine g_bipush (pc := 75) hC (6) dX3_readOne_75 (by decide) ?_
            refine g_iconst (pc := 77) hC dX3_readOne_77 ?_
            refine g_callV (pc := 78) (qr := 3) hC [3, 4] (k_X1_put _ _ _ _ _ _ _ (nt_l l3 1) (-1) (by first | assumption | omega) (by first | assumption | omega) (by first | assumption | omega) (by first | assumption | omega) (by first | assumption | omega) (by first | omega | (simp only [nt_l, List.length_append, List.length_cons, List.length_nil]; omega)) (by decide +kernel) (by decide)) cl_X1_put wm_X3_61 dX3_readOne_78 rfl rfl rfl rfl rfl (by decide) (by decide) (by omega) (Nat.le_of_ble_eq_true rfl) rfl (fun v9 w9 hq9 => ?_)
            obtain ⟨m4, od4, rfl, rfl, r_m4, r_od4, hL2_78, hm2_78⟩ := hq9
            refine g_ws hC [cO g0 3 [.ref g1, .ref g2, .int (iI nm3), .int (iI p3)], cO g1 6 [.ref g3, .int (iI e)], cA K g3 100 sg, cO g2 1 [.ref g4, .int (iI m4), .int (iI rc)], cA K g4 100 od4] rfl ?_
            refine g_st hC [] rfl ?_
            refine g_iinc (pc := 81) hC 0 [(4, _), (3, _), (2, _), (0, _), (1, _)] dX3_readOne_81 rfl (by decide) rfl ?_
            refine g_lv hC [0, 1, 2, 3, 4] [(4, .int (iI 2)), (3, _), (2, _), (0, _), (1, _)] rfl ?_
            refine g_goto (pc := 84) hC 61 dX3_readOne_84 (by decide) ?_
            refine g_iload (pc := 61) hC 0 dX3_readOne_61 rfl ?_
            refine g_iload_n (pc := 63) hC 2 dX3_readOne_63 rfl rfl ?_
            refine g_icmp_ge (pc := 64) hC 87 dX3_readOne_64 (by decide) (by omega) (by omega) (fun c64 => ?_) (fun c64 => by exfalso; omega)
            refine g_iload_n (pc := 87) hC 1 dX3_readOne_87 rfl rfl ?_
            exact g_zret (pc := 88) hR dX3_readOne_88 rfl (by omega) ⟨by omega, by omega⟩ (Nat.le_of_ble_eq_true rfl) ⟨r3, p3, nm3, m4, od4, (nt_l l3 2), rfl, rfl, (by first | assumption | omega), (by first | assumption | omega), (by first | assumption | omega), (by first | assumption | omega), (by first | assumption | omega), (px_fac_not (l4 := nt_l l3 2) rfl hq0 (px_fac_not (l4 := nt_l l3 1) rfl hq1 (px_fac_t rfl hn9 (by omega) hz_54) (by rw [if_pos (show (1 - r3 : Int) = 0 by omega)]; rfl)) (by rw [if_pos (show (1 - r3 : Int) = 0 by omega)]; rfl)), hL2_78, (by first | assumption | omega), (by first | omega | (simp only [nt_l, List.length_append, List.length_cons, List.length_nil]; omega)), (by first | assumption | omega)⟩
        · have hlt9 := cr_lt hT (by omega) (show T (((p + 1) + 1)) = 40 by omega) (by decide)
          refine g_aload_n (pc := 43) hC 1 dX3_readOne_43 rfl rfl ?_
          refine g_iload_n (pc := 44) hC 2 dX3_readOne_44 rfl rfl ?_
          refine g_iload_n (pc := 45) hC 0 dX3_readOne_45 rfl rfl ?_
          refine g_iadd (pc := 46) hC dX3_readOne_46 ?_
          refine g_st hC [.int (iI (5)), _] rfl ?_
          refine g_callV (pc := 47) (qr := 0) hC [0, 1, 2, 3, 4] (k_X3_readInBrackets_5 _ _ _ _ _ _ _ _ _ _ _ _ _ _ (by first | assumption | omega) (by first | assumption | omega) (by first | assumption | omega) (by first | assumption | omega) (by first | assumption | omega) (by first | assumption | omega) (by first | assumption | omega) (by first | assumption | omega) (by first | assumption | omega) (by first | assumption | omega) (by first | assumption | omega) (by first | assumption | omega) (by first | assumption | omega)) cl_X3_readInBrackets wm_X3_68 dX3_readOne_47 rfl rfl rfl rfl rfl (by decide) (by decide) (by omega) (Nat.le_of_ble_eq_true rfl) rfl (fun v9 w9 hq9 => ?_)
          obtain ⟨r3, p3, nm3, m3, od3, l3, rfl, rfl, r_r3, r_p3, r_nm3, r_m3, r_od3, hz_47, hL2_47, hb_47, hl2_47, hnm2_47⟩ := hq9
          refine g_ws hC [cO g0 3 [.ref g1, .ref g2, .int (iI nm3), .int (iI p3)], cO g1 6 [.ref g3, .int (iI e)], cA K g3 100 sg, cO g2 1 [.ref g4, .int (iI m3), .int (iI rc)], cA K g4 100 od3] rfl ?_
          refine g_st hC [.int (iI r3)] rfl ?_
          refine g_goto (pc := 50) hC 57 dX3_readOne_50 (by decide) ?_
          refine g_istore_n (pc := 57) hC [(3, _), (2, _), (0, _), (1, _)] dX3_readOne_57 rfl (by decide) rfl ?_
          refine g_iconst (pc := 58) hC dX3_readOne_58 ?_
          refine g_istore (pc := 59) hC [(4, _), (3, _), (2, _), (0, _), (1, _)] dX3_readOne_59 (by decide) rfl ?_
          refine g_iload (pc := 61) hC 0 dX3_readOne_61 rfl ?_
          refine g_iload_n (pc := 63) hC 2 dX3_readOne_63 rfl rfl ?_
          refine g_icmp_ge (pc := 64) hC 87 dX3_readOne_64 (by decide) (by omega) (by omega) (fun c64 => by exfalso; omega) (fun c64 => ?_)
          refine g_iload_n (pc := 67) hC 1 dX3_readOne_67 rfl rfl ?_
          refine g_if_eq (pc := 68) hC 87 dX3_readOne_68 (by decide) (by omega) (fun c68 => ?_) (fun c68 => ?_)
          · refine g_iload_n (pc := 87) hC 1 dX3_readOne_87 rfl rfl ?_
            exact g_zret (pc := 88) hR dX3_readOne_88 rfl (by omega) ⟨by omega, by omega⟩ (Nat.le_of_ble_eq_true rfl) ⟨r3, p3, nm3, m3, od3, l3, rfl, rfl, (by first | assumption | omega), (by first | assumption | omega), (by first | assumption | omega), (by first | assumption | omega), (by first | assumption | omega), (px_fac_not (l4 := l3) rfl hq0 (px_fac_not (l4 := l3) rfl hq1 hz_47 (by rw [if_neg (show ¬ (1 - r3 : Int) = 0 by omega)])) (by rw [if_neg (show ¬ (1 - r3 : Int) = 0 by omega)])), hL2_47, (by first | assumption | omega), (by first | assumption | omega), (by first | assumption | omega)⟩
          · refine g_aload_n (pc := 71) hC 3 dX3_readOne_71 rfl rfl ?_
            refine g_get (pc := 72) hC 0 fl_X3_15 dX3_readOne_72 rfl rfl ?_
            refine g_bipush (pc := 75) hC (6) dX3_readOne_75 (by decide) ?_
            refine g_iconst (pc := 77) hC dX3_readOne_77 ?_
            refine g_callV (pc := 78) (qr := 3) hC [3, 4] (k_X1_put _ _ _ _ _ _ _ (nt_l l3 0) (-1) (by first | assumption | omega) (by first | assumption | omega) (by first | assumption | omega) (by first | assumption | omega) (by first | assumption | omega) (by first | omega | (simp only [nt_l, List.length_append, List.length_cons, List.length_nil]; omega)) (by decide +kernel) (by decide)) cl_X1_put wm_X3_61 dX3_readOne_78 rfl rfl rfl rfl rfl (by decide) (by decide) (by omega) (Nat.le_of_ble_eq_true rfl) rfl (fun v9 w9 hq9 => ?_)
            obtain ⟨m4, od4, rfl, rfl, r_m4, r_od4, hL2_78, hm2_78⟩ := hq9
            refine g_ws hC [cO g0 3 [.ref g1, .ref g2, .int (iI nm3), .int (iI p3)], cO g1 6 [.ref g3, .int (iI e)], cA K g3 100 sg, cO g2 1 [.ref g4, .int (iI m4), .int (iI rc)], cA K g4 100 od4] rfl ?_
            refine g_st hC [] rfl ?_
            refine g_iinc (pc := 81) hC 0 [(4, _), (3, _), (2, _), (0, _), (1, _)] dX3_readOne_81 rfl (by decide) rfl ?_
            refine g_lv hC [0, 1, 2, 3, 4] [(4, .int (iI 1)), (3, _), (2, _), (0, _), (1, _)] rfl ?_
            refine g_goto (pc := 84) hC 61 dX3_readOne_84 (by decide) ?_
            refine g_iload (pc := 61) hC 0 dX3_readOne_61 rfl ?_
            refine g_iload_n (pc := 63) hC 2 dX3_readOne_63 rfl rfl ?_
            refine g_icmp_ge (pc := 64) hC 87 dX3_readOne_64 (by decide) (by omega) (by omega) (fun c64 => by exfalso; omega) (fun c64 => ?_)
            refine g_iload_n (pc := 67) hC 1 dX3_readOne_67 rfl rfl ?_
            refine g_if_eq (pc := 68) hC 87 dX3_readOne_68 (by decide) (by omega) (fun c68 => by exfalso; omega) (fun c68 => ?_)
            refine g_aload_n (pc := 71) hC 3 dX3_readOne_71 rfl rfl ?_
            refine g_get (pc := 72) hC 0 fl_X3_15 dX3_readOne_72 rfl rfl ?_
            refine g_bipush (pc := 75) hC (6) dX3_readOne_75 (by decide) ?_
            refine g_iconst (pc := 77) hC dX3_readOne_77 ?_
            refine g_callV (pc := 78) (qr := 3) hC [3, 4] (k_X1_put _ _ _ _ _ _ _ (nt_l l3 1) (-1) (by first | assumption | omega) (by first | assumption | omega) (by first | assumption | omega) (by first | assumption | omega) (by first | assumption | omega) (by first | omega | (simp only [nt_l, List.length_append, List.length_cons, List.length_nil]; omega)) (by decide +kernel) (by decide)) cl_X1_put wm_X3_61 dX3_readOne_78 rfl rfl rfl rfl rfl (by decide) (by decide) (by omega) (Nat.le_of_ble_eq_true rfl) rfl (fun v9 w9 hq9 => ?_)
            obtain ⟨m4, od4, rfl, rfl, r_m4, r_od4, hL2_78, hm2_78⟩ := hq9
            refine g_ws hC [cO g0 3 [.ref g1, .ref g2, .int (iI nm3), .int (iI p3)], cO g1 6 [.ref g3, .int (iI e)], cA K g3 100 sg, cO g2 1 [.ref g4, .int (iI m4), .int (iI rc)], cA K g4 100 od4] rfl ?_
            refine g_st hC [] rfl ?_
            refine g_iinc (pc := 81) hC 0 [(4, _), (3, _), (2, _), (0, _), (1, _)] dX3_readOne_81 rfl (by decide) rfl ?_
            refine g_lv hC [0, 1, 2, 3, 4] [(4, .int (iI 2)), (3, _), (2, _), (0, _), (1, _)] rfl ?_
            refine g_goto (pc := 84) hC 61 dX3_readOne_84 (by decide) ?_
            refine g_iload (pc := 61) hC 0 dX3_readOne_61 rfl ?_
            refine g_iload_n (pc := 63) hC 2 dX3_readOne_63 rfl rfl ?_
            refine g_icmp_ge (pc := 64) hC 87 dX3_readOne_64 (by decide) (by omega) (by omega) (fun c64 => ?_) (fun c64 => by exfalso; omega)
            refine g_iload_n (pc := 87) hC 1 dX3_readOne_87 rfl rfl ?_
            exact g_zret (pc := 88) hR dX3_readOne_88 rfl (by omega) ⟨by omega, by omega⟩ (Nat.le_of_ble_eq_true rfl) ⟨r3, p3, nm3, m4, od4, (nt_l l3 2), rfl, rfl, (by first | assumption | omega), (by first | assumption | omega), (by first | assumption | omega), (by first | assumption | omega), (by first | assumption | omega), (px_fac_not (l4 := nt_l l3 2) rfl hq0 (px_fac_not (l4 := nt_l l3 1) rfl hq1 hz_47 (by rw [if_pos (show (1 - r3 : Int) = 0 by omega)]; rfl)) (by rw [if_pos (show (1 - r3 : Int) = 0 by omega)]; rfl)), hL2_78, (by first | assumption | omega), (by first | omega | (simp only [nt_l, List.length_append, List.length_cons, List.length_nil]; omega)), (by first | assumption | omega)⟩
      · have hq2 : T (((p + 1) + 1)) = 33 := by omega
        have hlt2 := cr_lt hT (by omega) hq2 (by decide)
        refine g_iload_n (pc := 11) hC 2 dX3_readOne_11 rfl rfl ?_
        refine g_iload_n (pc := 12) hC 0 dX3_readOne_12 rfl rfl ?_
        refine g_iadd (pc := 13) hC dX3_readOne_13 ?_
        refine g_st hC [.int (iI (5))] rfl ?_
        refine g_iconst (pc := 14) hC dX3_readOne_14 ?_
        refine g_icmp_ge (pc := 15) hC 34 dX3_readOne_15 (by decide) (by omega) (by omega) (fun c15 => ?_) (fun c15 => by exfalso; omega)
        have hq9 : T (((p + 1) + 1)) = 33 := by omega
        skip
        refine g_aload_n (pc := 34) hC 1 dX3_readOne_34 rfl rfl ?_
        refine g_fnV (pc := 35) (qr := 0) hC [0, 1, 2] (k_X3_sign _ _ _ _ _ _ _ _ _ (by first | assumption | omega) (by first | assumption | omega) (by first | assumption | omega) (by first | assumption | omega) (by first | assumption | omega) (by first | assumption | omega)) cl_X3_sign wm_X3_28 dX3_readOne_35 rfl rfl rfl rfl rfl (by decide) (by decide) ⟨by omega, by omega⟩ (Nat.le_of_ble_eq_true rfl) rfl rfl ?_
        refine g_name hC (fun y99 e_y99 => ?_)
        have q_y99 : -1 ≤ y99 ∧ y99 ≤ 127 := by rw [e_y99]; exact hT.2.2.1 _
        refine g_bipush (pc := 38) hC (40) dX3_readOne_38 (by decide) ?_
        refine g_icmp_ne (pc := 40) hC 53 dX3_readOne_40 (by decide) (by omega) (by omega) (fun c40 => ?_) (fun c40 => by exfalso; omega)
        refine g_aload_n (pc := 53) hC 1 dX3_readOne_53 rfl rfl ?_
        refine g_callV (pc := 54) (qr := 0) hC [0, 1, 2, 3, 4] (k_X3_readTest _ _ _ _ _ _ _ _ _ _ _ _ _ _ (by first | assumption | omega) (by first | assumption | omega) (by first | assumption | omega) (by first | assumption | omega) (by first | assumption | omega) (by first | assumption | omega) (by first | assumption | omega) (by first | assumption | omega) (by first | assumption | omega) (by first | assumption | omega) (by first | assumption | omega) (by first | assumption | omega)) cl_X3_readTest wm_X3_71 dX3_readOne_54 rfl rfl rfl rfl rfl (by decide) (by decide) (by omega) (Nat.le_of_ble_eq_true rfl) rfl (fun v9 w9 hq9 => ?_)
        obtain ⟨r3, p3, nm3, m3, od3, l3, rfl, rfl, r_r3, r_p3, r_nm3, r_m3, r_od3, hz_54, hL2_54, hb_54, hl2_54, hnm2_54⟩ := hq9
        refine g_ws hC [cO g0 3 [.ref g1, .ref g2, .int (iI nm3), .int (iI p3)], cO g1 6 [.ref g3, .int (iI e)], cA K g3 100 sg, cO g2 1 [.ref g4, .int (iI m3), .int (iI rc)], cA K g4 100 od3] rfl ?_
        refine g_st hC [.int (iI r3)] rfl ?_
        refine g_istore_n (pc := 57) hC [(3, _), (2, _), (0, _), (1, _)] dX3_readOne_57 rfl (by decide) rfl ?_
        refine g_iconst (pc := 58) hC dX3_readOne_58 ?_
        refine g_istore (pc := 59) hC [(4, _), (3, _), (2, _), (0, _), (1, _)] dX3_readOne_59 (by decide) rfl ?_
        refine g_iload (pc := 61) hC 0 dX3_readOne_61 rfl ?_
        refine g_iload_n (pc := 63) hC 2 dX3_readOne_63 rfl rfl ?_
        refine g_icmp_ge (pc := 64) hC 87 dX3_readOne_64 (by decide) (by omega) (by omega) (fun c64 => by exfalso; omega) (fun c64 => ?_)
        refine g_iload_n (pc := 67) hC 1 dX3_readOne_67 rfl rfl ?_
        refine g_if_eq (pc := 68) hC 87 dX3_readOne_68 (by decide) (by omega) (fun c68 => ?_) (fun c68 => ?_)
        · refine g_iload_n (pc := 87) hC 1 dX3_readOne_87 rfl rfl ?_
          exact g_zret (pc := 88) hR dX3_readOne_88 rfl (by omega) ⟨by omega, by omega⟩ (Nat.le_of_ble_eq_true rfl) ⟨r3, p3, nm3, m3, od3, l3, rfl, rfl, (by first | assumption | omega), (by first | assumption | omega), (by first | assumption | omega), (by first | assumption | omega), (by first | assumption | omega), (px_fac_not (l4 := l3) rfl hq0 (px_fac_not (l4 := l3) rfl hq1 (px_fac_33 rfl hq9 hz_54) (by rw [if_neg (show ¬ (1 - r3 : Int) = 0 by omega)])) (by rw [if_neg (show ¬ (1 - r3 : Int) = 0 by omega)])), hL2_54, (by first | assumption | omega), (by first | assumption | omega), (by first | assumption | omega)⟩
        · refine g_aload_n (pc := 71) hC 3 dX3_readOne_71 rfl rfl ?_
          refine g_get (pc := 72) hC 0 fl_X3_15 dX3_readOne_72 rfl rfl ?_
          refine g_bipush (pc := 75) hC (6) dX3_readOne_75 (by decide) ?_
          refine g_iconst (pc := 77) hC dX3_readOne_77 ?_
          refine g_callV (pc := 78) (qr := 3) hC [3, 4] (k_X1_put _ _ _ _ _ _ _ (nt_l l3 0) (-1) (by first | assumption | omega) (by first | assumption | omega) (by first | assumption | omega) (by first | assumption | omega) (by first | assumption | omega) (by first | omega | (simp only [nt_l, List.length_append, List.length_cons, List.length_nil]; omega)) (by decide +kernel) (by decide)) cl_X1_put wm_X3_61 dX3_readOne_78 rfl rfl rfl rfl rfl (by decide) (by decide) (by omega) (Nat.le_of_ble_eq_true rfl) rfl (fun v9 w9 hq9 => ?_)
          obtain ⟨m4, od4, rfl, rfl, r_m4, r_od4, hL2_78, hm2_78⟩ := hq9
          refine g_ws hC [cO g0 3 [.ref g1, .ref g2, .int (iI nm3), .int (iI p3)], cO g1 6 [.ref g3, .int (iI e)], cA K g3 100 sg, cO g2 1 [.ref g4, .int (iI m4), .int (iI rc)], cA K g4 100 od4] rfl ?_
          refine g_st hC [] rfl ?_
          refine g_iinc (pc := 81) hC 0 [(4, _), (3, _), (2, _), (0, _), (1, _)] dX3_readOne_81 rfl (by decide) rfl ?_
          refine g_lv hC [0, 1, 2, 3, 4] [(4, .int (iI 1)), (3, _), (2, _), (0, _), (1, _)] rfl ?_
          refine g_goto (pc := 84) hC 61 dX3_readOne_84 (by decide) ?_
          refine g_iload (pc := 61) hC 0 dX3_readOne_61 rfl ?_
          refine g_iload_n (pc := 63) hC 2 dX3_readOne_63 rfl rfl ?_
          refine g_icmp_ge (pc := 64) hC 87 dX3_readOne_64 (by decide) (by omega) (by omega) (fun c64 => by exfalso; omega) (fun c64 => ?_)
          refine g_iload_n (pc := 67) hC 1 dX3_readOne_67 rfl rfl ?_
          refine g_if_eq (pc := 68) hC 87 dX3_readOne_68 (by decide) (by omega) (fun c68 => by exfalso; omega) (fun c68 => ?_)
          refine g_aload_n (pc := 71) hC 3 dX3_readOne_71 rfl rfl ?_
          refine g_get (pc := 72) hC 0 fl_X3_15 dX3_readOne_72 rfl rfl ?_
          refine g_bipush (pc := 75) hC (6) dX3_readOne_75 (by decide) ?_
          refine g_iconst (pc := 77) hC dX3_readOne_77 ?_
          refine g_callV (pc := 78) (qr := 3) hC [3, 4] (k_X1_put _ _ _ _ _ _ _ (nt_l l3 1) (-1) (by first | assumption | omega) (by first | assumption | omega) (by first | assumption | omega) (by first | assumption | omega) (by first | assumption | omega) (by first | omega | (simp only [nt_l, List.length_append, List.length_cons, List.length_nil]; omega)) (by decide +kernel) (by decide)) cl_X1_put wm_X3_61 dX3_readOne_78 rfl rfl rfl rfl rfl (by decide) (by decide) (by omega) (Nat.le_of_ble_eq_true rfl) rfl (fun v9 w9 hq9 => ?_)
          obtain ⟨m4, od4, rfl, rfl, r_m4, r_od4, hL2_78, hm2_78⟩ := hq9
          refine g_ws hC [cO g0 3 [.ref g1, .ref g2, .int (iI nm3), .int (iI p3)], cO g1 6 [.ref g3, .int (iI e)], cA K g3 100 sg, cO g2 1 [.ref g4, .int (iI m4), .int (iI rc)], cA K g4 100 od4] rfl ?_
          refine g_st hC [] rfl ?_
          refine g_iinc (pc := 81) hC 0 [(4, _), (3, _), (2, _), (0, _), (1, _)] dX3_readOne_81 rfl (by decide) rfl ?_
          refine g_lv hC [0, 1, 2, 3, 4] [(4, .int (iI 2)), (3, _), (2, _), (0, _), (1, _)] rfl ?_
          refine g_goto (pc := 84) hC 61 dX3_readOne_84 (by decide) ?_
          refine g_iload (pc := 61) hC 0 dX3_readOne_61 rfl ?_
          refine g_iload_n (pc := 63) hC 2 dX3_readOne_63 rfl rfl ?_
          refine g_icmp_ge (pc := 64) hC 87 dX3_readOne_64 (by decide) (by omega) (by omega) (fun c64 => ?_) (fun c64 => by exfalso; omega)
          refine g_iload_n (pc := 87) hC 1 dX3_readOne_87 rfl rfl ?_
          exact g_zret (pc := 88) hR dX3_readOne_88 rfl (by omega) ⟨by omega, by omega⟩ (Nat.le_of_ble_eq_true rfl) ⟨r3, p3, nm3, m4, od4, (nt_l l3 2), rfl, rfl, (by first | assumption | omega), (by first | assumption | omega), (by first | assumption | omega), (by first | assumption | omega), (by first | assumption | omega), (px_fac_not (l4 := nt_l l3 2) rfl hq0 (px_fac_not (l4 := nt_l l3 1) rfl hq1 (px_fac_33 rfl hq9 hz_54) (by rw [if_pos (show (1 - r3 : Int) = 0 by omega)]; rfl)) (by rw [if_pos (show (1 - r3 : Int) = 0 by omega)]; rfl)), hL2_78, (by first | assumption | omega), (by first | omega | (simp only [nt_l, List.length_append, List.length_cons, List.length_nil]; omega)), (by first | assumption | omega)⟩
set_option maxHeartbeats 4000000 in
set_option maxRecDepth 100000 in
theorem k_X3_readEither_3 {K : gK} (g0 : Nat) (g1 : Nat) (g2 : Nat) (g3 : Nat) (g4 : Nat) (nm : Int) (p : Int) (e : Int) (m : Int) (rc : Int) (sg : Int → Int) (od : Int → Int) (T : Int → Int) (l : List Int) (r_nm : rI nm) (r_p : rI p) (r_e : rI e) (r_m : rI m) (r_rc : rI rc) (r_sg : ∀ j, rI (sg j)) (r_od : ∀ j, rI (od j)) (hT : cr_T T e sg) (hp : 0 ≤ p ∧ p ≤ e) (hL : cr_L l od m) (hl : (l.length : Int) ≤ p) (hnm : 0 ≤ nm ∧ nm ≤ 99) : gMet K yX3_readEither cX3_readEither 5 (some .boolean) 14 0 0 [.ref g0, .int (iI 3)] [cO g0 3 [.ref g1, .ref g2, .int (iI nm), .int (iI p)], cO g1 6 [.ref g3, .int (iI e)], cA K g3 100 sg, cO g2 1 [.ref g4, .int (iI m), .int (iI rc)], cA K g4 100 od] (fun v9 w9 => ∃ (r : Int), ∃ (p2 : Int), ∃ (nm2 : Int), ∃ (m2 : Int), ∃ (od2 : Int → Int), ∃ (l2 : List Int), v9 = some (.int (iI r)) ∧ w9 = [cO g0 3 [.ref g1, .ref g2, .int (iI nm2), .int (iI p2)], cO g1 6 [.ref g3, .int (iI e)], cA K g3 100 sg, cO g2 1 [.ref g4, .int (iI m2), .int (iI rc)], cA K g4 100 od2] ∧ rI r ∧ rI p2 ∧ rI nm2 ∧ rI m2 ∧ (∀ j, rI (od2 j)) ∧ ((1 - r, p2, l2) = px_some T (px_fac T 2) (0, p, l)) ∧ (cr_L l2 od2 m2) ∧ ((r = 0 ∨ r = 1) ∧ p ≤ p2 ∧ p2 ≤ e ∧ (r = 1 → p < p2)) ∧ ((l2.length : Int) + p ≤ (l.length : Int) + p2) ∧ (0 ≤ nm2 ∧ nm2 ≤ 99)) := by
  refine g_enter (by decide +kernel) (Nat.le_of_ble_eq_true rfl) (fun G hC hR => ?_)
  refine g_lv hC [0, 1] [(0, _), (1, _)] rfl ?_
  have hge := hT.1
  refine g_iconst (pc := 0) hC dX3_readEither_0 ?_
  refine g_istore_n (pc := 1) hC [(2, _), (0, _), (1, _)] dX3_readEither_1 rfl (by decide) rfl ?_
  refine g_iconst (pc := 2) hC dX3_readEither_2 ?_
  refine g_istore_n (pc := 3) hC [(3, _), (2, _), (0, _), (1, _)] dX3_readEither_3 rfl (by decide) rfl ?_
  refine g_iconst (pc := 4) hC dX3_readEither_4 ?_
  refine g_istore (pc := 5) hC [(4, _), (3, _), (2, _), (0, _), (1, _)] dX3_readEither_5 (by decide) rfl ?_
  have L7 : ∀ (n1 : Nat) (an : Int) (o : Int) (pt : Int) (p1 : Int) (nm1 : Int) (m1 : Int) (od1 : Int → Int) (l1 : List Int) (f1 : Nat) (f2 : Nat), (rI an) → (rI o) → (rI pt) → (rI p1) → (rI nm1) → (rI m1) → (∀ j, rI (od1 j)) → (px_SO T (px_fac T 2) o f2 (px_ev T (px_fac T 2) f1 (px_AN an ((px_fac T 2) (0, p1, l1)))) = px_some T (px_fac T 2) (0, p, l)) → (cr_L l1 od1 m1) → ((an = 0 ∨ an = 1) ∧ (o = 0 ∨ o = 1) ∧ 0 ≤ pt ∧ p + 2 * pt ≤ p1 ∧ p1 ≤ e) → ((l1.length : Int) + p + an + o ≤ (l.length : Int) + p1) → (e - p1 ≤ (f1 : Int)) → (e - p1 ≤ (f2 : Int)) → (0 ≤ nm1 ∧ nm1 ≤ 99) → e - p1 < (n1 : Int) → G 0 0 7 [(0, .ref g0), (1, .int (iI 3)), (2, .int (iI an)), (3, .int (iI o)), (4, .int (iI pt))] [] [cO g0 3 [.ref g1, .ref g2, .int (iI nm1), .int (iI p1)], cO g1 6 [.ref g3, .int (iI e)], cA K g3 100 sg, cO g2 1 [.ref g4, .int (iI m1), .int (iI rc)], cA K g4 100 od1] := by
    intro n1
    induction n1 with
    | zero => intro an o pt p1 nm1 m1 od1 l1 f1 f2 r_an r_o r_pt r_p1 r_nm1 r_m1 r_od1 hz hL1 hb1 hl1 hf1 hf2 hnm1 hm7; exfalso; omega
    | succ n1 ih7 =>
      intro an o pt p1 nm1 m1 od1 l1 f1 f2 r_an r_o r_pt r_p1 r_nm1 r_m1 r_od1 hz hL1 hb1 hl1 hf1 hf2 hnm1 hm7
      refine g_iload (pc := 7) hC 4 dX3_readEither_7 rfl ?_
      refine g_bipush (pc := 9) hC (100) dX3_readEither_9 (by decide) ?_
      refine g_icmp_ge (pc := 11) hC 108 dX3_readEither_11 (by decide) (by omega) (by omega) (fun c11 => by exfalso; omega) (fun c11 => ?_)
      refine g_aload_n (pc := 14) hC 0 dX3_readEither_14 rfl rfl ?_
      refine g_iload_n (pc := 15) hC 1 dX3_readEither_15 rfl rfl ?_
      refine g_callV (pc := 16) (qr := 0) hC [0, 1, 2, 3, 4] (k_X3_readOne_3 _ _ _ _ _ _ _ _ _ _ _ _ _ _ (by first | assumption | omega) (by first | assumption | omega) (by first | assumption | omega) (by first | assumption | omega) (by first | assumption | omega) (by first | assumption | omega) (by first | assumption | omega) (by first | assumption | omega) (by first | assumption | omega) (by first | assumption | omega) (by first | assumption | omega) (by first | assumption | omega)) cl_X3_readOne wm_X3_65 dX3_readEither_16 rfl rfl rfl rfl rfl (by decide) (by decide) (by omega) (Nat.le_of_ble_eq_true rfl) rfl (fun v9 w9 hq9 => ?_)
      obtain ⟨r3, p3, nm3, m3, od3, l3, rfl, rfl, r_r3, r_p3, r_nm3, r_m3, r_od3, hz_16, hL2_16, hb_16, hl2_16, hnm2_16⟩ := hq9
      refine g_ws hC [cO g0 3 [.ref g1, .ref g2, .int (iI nm3), .int (iI p3)], cO g1 6 [.ref g3, .int (iI e)], cA K g3 100 sg, cO g2 1 [.ref g4, .int (iI m3), .int (iI rc)], cA K g4 100 od3] rfl ?_
      refine g_st hC [.int (iI r3)] rfl ?_
      refine g_if_ne (pc := 19) hC 24 dX3_readEither_19 (by decide) (by omega) (fun c19 => ?_) (fun c19 => ?_)
      · refine g_iload_n (pc := 24) hC 2 dX3_readEither_24 rfl rfl ?_
        refine g_if_eq (pc := 25) hC 38 dX3_readEither_25 (by decide) (by omega) (fun c25 => ?_) (fun c25 => ?_)
        · refine g_aload_n (pc := 38) hC 0 dX3_readEither_38 rfl rfl ?_
          refine g_fnV (pc := 39) (qr := 0) hC [0, 1, 2] (k_X3_sign _ _ _ _ _ _ _ _ _ (by first | assumption | omega) (by first | assumption | omega) (by first | assumption | omega) (by first | assumption | omega) (by first | assumption | omega) (by first | assumption | omega)) cl_X3_sign wm_X3_28 dX3_readEither_39 rfl rfl rfl rfl rfl (by decide) (by decide) ⟨by omega, by omega⟩ (Nat.le_of_ble_eq_true rfl) rfl rfl ?_
          refine g_name hC (fun y39 e_y39 => ?_)
          have q_y39 : -1 ≤ y39 ∧ y39 ≤ 127 := by rw [e_y39]; exact hT.2.2.1 _
          refine g_bipush (pc := 42) hC (38) dX3_readEither_42 (by decide) ?_
          refine g_icmp_ne (pc := 44) hC 51 dX3_readEither_44 (by decide) (by omega) (by omega) (fun c44 => ?_) (fun c44 => ?_)
          · refine g_iconst (pc := 51) hC dX3_readEither_51 ?_
            refine g_istore_n (pc := 52) hC [(2, _), (0, _), (1, _), (3, _), (4, _)] dX3_readEither_52 rfl (by decide) rfl ?_
            refine g_iload_n (pc := 53) hC 0 dX3_readEither_53 rfl rfl ?_
            refine g_if_ne (pc := 54) hC 92 dX3_readEither_54 (by decide) (by omega) (fun c54 => by exfalso; omega) (fun c54 => ?_)
            refine g_iload_n (pc := 57) hC 3 dX3_readEither_57 rfl rfl ?_
            refine g_if_eq (pc := 58) hC 71 dX3_readEither_58 (by decide) (by omega) (fun c58 => ?_) (fun c58 => ?_)
            · refine g_aload_n (pc := 71) hC 1 dX3_readEither_71 rfl rfl ?_
              refine g_fnV (pc := 72) (qr := 0) hC [0, 1, 2] (k_X3_sign _ _ _ _ _ _ _ _ _ (by first | assumption | omega) (by first | assumption | omega) (by first | assumption | omega) (by first | assumption | omega) (by first | assumption | omega) (by first | assumption | omega)) cl_X3_sign wm_X3_28 dX3_readEither_72 rfl rfl rfl rfl rfl (by decide) (by decide) ⟨by omega, by omega⟩ (Nat.le_of_ble_eq_true rfl) rfl rfl ?_
              refine g_name hC (fun y72 e_y72 => ?_)
              have q_y72 : -1 ≤ y72 ∧ y72 ≤ 127 := by rw [e_y72]; exact hT.2.2.1 _
              refine g_bipush (pc := 75) hC (124) dX3_readEither_75 (by decide) ?_
              refine g_icmp_ne (pc := 77) hC 84 dX3_readEither_77 (by decide) (by omega) (by omega) (fun c77 => ?_) (fun c77 => ?_)
              · refine g_iconst (pc := 84) hC dX3_readEither_84 ?_
                refine g_istore_n (pc := 85) hC [(3, _), (2, _), (0, _), (1, _), (4, _)] dX3_readEither_85 rfl (by decide) rfl ?_
                refine g_iload_n (pc := 86) hC 0 dX3_readEither_86 rfl rfl ?_
                refine g_if_ne (pc := 87) hC 92 dX3_readEither_87 (by decide) (by omega) (fun c87 => by exfalso; omega) (fun c87 => ?_)
                refine g_iconst (pc := 90) hC dX3_readEither_90 ?_
                exact g_zret (pc := 91) hR dX3_readEither_91 rfl (by omega) ⟨by omega, by omega⟩ (Nat.le_of_ble_eq_true rfl) ⟨1, p3, nm3, m3, od3, l3, rfl, rfl, (by first | assumption | omega), (by first | assumption | omega), (by first | assumption | omega), (by first | assumption | omega), (by first | assumption | omega), (px_E_end hz (by omega) hz_16 (by rw [if_pos (by omega)]) (by rw [if_pos (by omega)]) (by omega) (by omega)), hL2_16, (by first | assumption | omega), (by first | omega | (simp only [nt_l, List.length_append, List.length_cons, List.length_nil]; omega)), (by first | assumption | omega)⟩
              · have hlt := cr_lt hT (show 0 ≤ p3 by omega) (show T p3 = 124 by omega) (by decide)
                obtain ⟨q2, rfl⟩ : ∃ q2, f2 = q2 + 1 := ⟨f2 - 1, by omega⟩
                refine g_iconst (pc := 80) hC dX3_readEither_80 ?_
                refine g_goto (pc := 81) hC 85 dX3_readEither_81 (by decide) ?_
                refine g_istore_n (pc := 85) hC [(3, _), (2, _), (0, _), (1, _), (4, _)] dX3_readEither_85 rfl (by decide) rfl ?_
                refine g_iload_n (pc := 86) hC 0 dX3_readEither_86 rfl rfl ?_
                refine g_if_ne (pc := 87) hC 92 dX3_readEither_87 (by decide) (by omega) (fun c87 => ?_) (fun c87 => by exfalso; omega)
                refine g_aload_n (pc := 92) hC 2 dX3_readEither_92 rfl rfl ?_
                refine g_dup (pc := 93) hC dX3_readEither_93 rfl ?_
                refine g_get (pc := 94) hC 0 fl_X3_32 dX3_readEither_94 rfl rfl ?_
                refine g_iconst (pc := 97) hC dX3_readEither_97 ?_
                refine g_iadd (pc := 98) hC dX3_readEither_98 ?_
                refine g_putI (pc := 99) hC 0 [cO _ _ [_, _, _, _], _, _, _, _] fl_X3_32 dX3_readEither_99 rfl (Nat.le_of_ble_eq_true rfl) rfl ?_
                refine g_iinc (pc := 102) hC 4 [(4, _), (3, _), (2, _), (0, _), (1, _)] dX3_readEither_102 rfl (by decide) rfl ?_
                refine g_goto (pc := 105) hC 7 dX3_readEither_105 (by decide) ?_
                refine g_lv hC [3, 4, 2, 1, 0] [(0, _), (1, _), (2, _), (3, _), (4, _)] rfl ?_
                exact ih7 0 1 (pt + 1) (p3 + 1) nm3 m3 od3 l3 101 q2 (by first | assumption | omega) (by first | assumption | omega) (by first | assumption | omega) (by first | assumption | omega) (by first | assumption | omega) (by first | assumption | omega) (by first | assumption | omega) (px_E_or hz (by omega) hz_16 (by rw [if_pos (by omega)]) (by rw [if_pos (by omega)]) (by omega) (by omega)) hL2_16 (by first | assumption | omega) (by first | omega | (simp only [nt_l, List.length_append, List.length_cons, List.length_nil]; omega)) (by first | assumption | omega) (by first | assumption | omega) (by first | assumption | omega) (by omega)
            · refine g_aload_n (pc := 61) hC 1 dX3_readEither_61 rfl rfl ?_
              refine g_get (pc := 62) hC 0 fl_X3_15 dX3_readEither_62 rfl rfl ?_
              refine g_bipush (pc := 65) hC (8) dX3_readEither_65 (by decide) ?_
              refine g_iconst (pc := 67) hC dX3_readEither_67 ?_
              refine g_callV (pc := 68) (qr := 3) hC [3, 4] (k_X1_put _ _ _ _ _ _ _ l3 (-3) (by first | assumption | omega) (by first | assumption | omega) (by first | assumption | omega) (by first | assumption | omega) (by first | assumption | omega) (by first | omega | (simp only [nt_l, List.length_append, List.length_cons, List.length_nil]; omega)) (by decide +kernel) (by decide)) cl_X1_put wm_X3_61 dX3_readEither_68 rfl rfl rfl rfl rfl (by decide) (by decide) (by omega) (Nat.le_of_ble_eq_true rfl) rfl (fun v9 w9 hq9 => ?_)
              obtain ⟨m6, od6, rfl, rfl, r_m6, r_od6, hL2_68, hm2_68⟩ := hq9
              refine g_ws hC [cO g0 3 [.ref g1, .ref g2, .int (iI nm3), .int (iI p3)], cO g1 6 [.ref g3, .int (iI e)], cA K g3 100 sg, cO g2 1 [.ref g4, .int (iI m6), .int (iI rc)], cA K g4 100 od6] rfl ?_
              refine g_st hC [] rfl ?_
              refine g_aload_n (pc := 71) hC 1 dX3_readEither_71 rfl rfl ?_
              refine g_fnV (pc := 72) (qr := 0) hC [0, 1, 2] (k_X3_sign _ _ _ _ _ _ _ _ _ (by first | assumption | omega) (by first | assumption | omega) (by first | assumption | omega) (by first | assumption | omega) (by first | assumption | omega) (by first | assumption | omega)) cl_X3_sign wm_X3_28 dX3_readEither_72 rfl rfl rfl rfl rfl (by decide) (by decide) ⟨by omega, by omega⟩ (Nat.le_of_ble_eq_true rfl) rfl rfl ?_
              refine g_name hC (fun y72 e_y72 => ?_)
              have q_y72 : -1 ≤ y72 ∧ y72 ≤ 127 := by rw [e_y72]; exact hT.2.2.1 _
              refine g_bipush (pc := 75) hC (124) dX3_readEither_75 (by decide) ?_
              refine g_icmp_ne (pc := 77) hC 84 dX3_readEither_77 (by decide) (by omega) (by omega) (fun c77 => ?_) (fun c77 => ?_)
              · refine g_iconst (pc := 84) hC dX3_readEither_84 ?_
                refine g_istore_n (pc := 85) hC [(3, _), (2, _), (0, _), (1, _), (4, _)] dX3_readEither_85 rfl (by decide) rfl ?_
                refine g_iload_n (pc := 86) hC 0 dX3_readEither_86 rfl rfl ?_
                refine g_if_ne (pc := 87) hC 92 dX3_readEither_87 (by decide) (by omega) (fun c87 => by exfalso; omega) (fun c87 => ?_)
                refine g_iconst (pc := 90) hC dX3_readEither_90 ?_
                exact g_zret (pc := 91) hR dX3_readEither_91 rfl (by omega) ⟨by omega, by omega⟩ (Nat.le_of_ble_eq_true rfl) ⟨1, p3, nm3, m6, od6, (l3 ++ [-3]), rfl, rfl, (by first | assumption | omega), (by first | assumption | omega), (by first | assumption | omega), (by first | assumption | omega), (by first | assumption | omega), (px_E_end hz (by omega) hz_16 (by rw [if_pos (by omega)]) (by rw [if_neg (by omega)]) (by omega) (by omega)), hL2_68, (by first | assumption | omega), (by first | omega | (simp only [nt_l, List.length_append, List.length_cons, List.length_nil]; omega)), (by first | assumption | omega)⟩
              · have hlt := cr_lt hT (show 0 ≤ p3 by omega) (show T p3 = 124 by omega) (by decide)
                obtain ⟨q2, rfl⟩ : ∃ q2, f2 = q2 + 1 := ⟨f2 - 1, by omega⟩
                refine g_iconst (pc := 80) hC dX3_readEither_80 ?_
                refine g_goto (pc := 81) hC 85 dX3_readEither_81 (by decide) ?_
                refine g_istore_n (pc := 85) hC [(3, _), (2, _), (0, _), (1, _), (4, _)] dX3_readEither_85 rfl (by decide) rfl ?_
                refine g_iload_n (pc := 86) hC 0 dX3_readEither_86 rfl rfl ?_
                refine g_if_ne (pc := 87) hC 92 dX3_readEither_87 (by decide) (by omega) (fun c87 => ?_) (fun c87 => by exfalso; omega)
                refine g_aload_n (pc := 92) hC 2 dX3_readEither_92 rfl rfl ?_
                refine g_dup (pc := 93) hC dX3_readEither_93 rfl ?_
                refine g_get (pc := 94) hC 0 fl_X3_32 dX3_readEither_94 rfl rfl ?_
                refine g_iconst (pc := 97) hC dX3_readEither_97 ?_
                refine g_iadd (pc := 98) hC dX3_readEither_98 ?_
                refine g_putI (pc := 99) hC 0 [cO _ _ [_, _, _, _], _, _, _, _] fl_X3_32 dX3_readEither_99 rfl (Nat.le_of_ble_eq_true rfl) rfl ?_
                refine g_iinc (pc := 102) hC 4 [(4, _), (3, _), (2, _), (0, _), (1, _)] dX3_readEither_102 rfl (by decide) rfl ?_
                refine g_goto (pc := 105) hC 7 dX3_readEither_105 (by decide) ?_
                refine g_lv hC [3, 4, 2, 1, 0] [(0, _), (1, _), (2, _), (3, _), (4, _)] rfl ?_
                exact ih7 0 1 (pt + 1) (p3 + 1) nm3 m6 od6 (l3 ++ [-3]) 101 q2 (by first | assumption | omega) (by first | assumption | omega) (by first | assumption | omega) (by first | assumption | omega) (by first | assumption | omega) (by first | assumption | omega) (by first | assumption | omega) (px_E_or hz (by omega) hz_16 (by rw [if_pos (by omega)]) (by rw [if_neg (by omega)]) (by omega) (by omega)) hL2_68 (by first | assumption | omega) (by first | omega | (simp only [nt_l, List.length_append, List.length_cons, List.length_nil]; omega)) (by first | assumption | omega) (by first | assumption | omega) (by first | assumption | omega) (by omega)
          · have hlt := cr_lt hT (show 0 ≤ p3 by omega) (show T p3 = 38 by omega) (by decide)
            obtain ⟨q1, rfl⟩ : ∃ q1, f1 = q1 + 1 := ⟨f1 - 1, by omega⟩
            refine g_iconst (pc := 47) hC dX3_readEither_47 ?_
            refine g_goto (pc := 48) hC 52 dX3_readEither_48 (by decide) ?_
            refine g_istore_n (pc := 52) hC [(2, _), (0, _), (1, _), (3, _), (4, _)] dX3_readEither_52 rfl (by decide) rfl ?_
            refine g_iload_n (pc := 53) hC 0 dX3_readEither_53 rfl rfl ?_
            refine g_if_ne (pc := 54) hC 92 dX3_readEither_54 (by decide) (by omega) (fun c54 => ?_) (fun c54 => by exfalso; omega)
            refine g_aload_n (pc := 92) hC 1 dX3_readEither_92 rfl rfl ?_
            refine g_dup (pc := 93) hC dX3_readEither_93 rfl ?_
            refine g_get (pc := 94) hC 0 fl_X3_32 dX3_readEither_94 rfl rfl ?_
            refine g_iconst (pc := 97) hC dX3_readEither_97 ?_
            refine g_iadd (pc := 98) hC dX3_readEither_98 ?_
            refine g_putI (pc := 99) hC 0 [cO _ _ [_, _, _, _], _, _, _, _] fl_X3_32 dX3_readEither_99 rfl (Nat.le_of_ble_eq_true rfl) rfl ?_
            refine g_iinc (pc := 102) hC 4 [(4, _), (2, _), (0, _), (1, _), (3, _)] dX3_readEither_102 rfl (by decide) rfl ?_
            refine g_goto (pc := 105) hC 7 dX3_readEither_105 (by decide) ?_
            refine g_lv hC [2, 3, 1, 4, 0] [(0, _), (1, _), (2, _), (3, _), (4, _)] rfl ?_
            exact ih7 1 o (pt + 1) (p3 + 1) nm3 m3 od3 l3 q1 f2 (by first | assumption | omega) (by first | assumption | omega) (by first | assumption | omega) (by first | assumption | omega) (by first | assumption | omega) (by first | assumption | omega) (by first | assumption | omega) (px_E_and hz (by omega) hz_16 (by rw [if_pos (by omega)]) (by omega)) hL2_16 (by first | assumption | omega) (by first | omega | (simp only [nt_l, List.length_append, List.length_cons, List.length_nil]; omega)) (by first | assumption | omega) (by first | assumption | omega) (by first | assumption | omega) (by omega)
        · refine g_aload_n (pc := 28) hC 0 dX3_readEither_28 rfl rfl ?_
          refine g_get (pc := 29) hC 0 fl_X3_15 dX3_readEither_29 rfl rfl ?_
          refine g_bipush (pc := 32) hC (7) dX3_readEither_32 (by decide) ?_
          refine g_iconst (pc := 34) hC dX3_readEither_34 ?_
          refine g_callV (pc := 35) (qr := 3) hC [3, 4] (k_X1_put _ _ _ _ _ _ _ l3 (-2) (by first | assumption | omega) (by first | assumption | omega) (by first | assumption | omega) (by first | assumption | omega) (by first | assumption | omega) (by first | assumption | omega) (by decide +kernel) (by decide)) cl_X1_put wm_X3_61 dX3_readEither_35 rfl rfl rfl rfl rfl (by decide) (by decide) (by omega) (Nat.le_of_ble_eq_true rfl) rfl (fun v9 w9 hq9 => ?_)
          obtain ⟨m4, od4, rfl, rfl, r_m4, r_od4, hL2_35, hm2_35⟩ := hq9
          refine g_ws hC [cO g0 3 [.ref g1, .ref g2, .int (iI nm3), .int (iI p3)], cO g1 6 [.ref g3, .int (iI e)], cA K g3 100 sg, cO g2 1 [.ref g4, .int (iI m4), .int (iI rc)], cA K g4 100 od4] rfl ?_
          refine g_st hC [] rfl ?_
          refine g_aload_n (pc := 38) hC 0 dX3_readEither_38 rfl rfl ?_
          refine g_fnV (pc := 39) (qr := 0) hC [0, 1, 2] (k_X3_sign _ _ _ _ _ _ _ _ _ (by first | assumption | omega) (by first | assumption | omega) (by first | assumption | omega) (by first | assumption | omega) (by first | assumption | omega) (by first | assumption | omega)) cl_X3_sign wm_X3_28 dX3_readEither_39 rfl rfl rfl rfl rfl (by decide) (by decide) ⟨by omega, by omega⟩ (Nat.le_of_ble_eq_true rfl) rfl rfl ?_
          refine g_name hC (fun y39 e_y39 => ?_)
          have q_y39 : -1 ≤ y39 ∧ y39 ≤ 127 := by rw [e_y39]; exact hT.2.2.1 _
          refine g_bipush (pc := 42) hC (38) dX3_readEither_42 (by decide) ?_
          refine g_icmp_ne (pc := 44) hC 51 dX3_readEither_44 (by decide) (by omega) (by omega) (fun c44 => ?_) (fun c44 => ?_)
          · refine g_iconst (pc := 51) hC dX3_readEither_51 ?_
            refine g_istore_n (pc := 52) hC [(2, _), (0, _), (1, _), (3, _), (4, _)] dX3_readEither_52 rfl (by decide) rfl ?_
            refine g_iload_n (pc := 53) hC 0 dX3_readEither_53 rfl rfl ?_
            refine g_if_ne (pc := 54) hC 92 dX3_readEither_54 (by decide) (by omega) (fun c54 => by exfalso; omega) (fun c54 => ?_)
            refine g_iload_n (pc := 57) hC 3 dX3_readEither_57 rfl rfl ?_
            refine g_if_eq (pc := 58) hC 71 dX3_readEither_58 (by decide) (by omega) (fun c58 => ?_) (fun c58 => ?_)
            · refine g_aload_n (pc := 71) hC 1 dX3_readEither_71 rfl rfl ?_
              refine g_fnV (pc := 72) (qr := 0) hC [0, 1, 2] (k_X3_sign _ _ _ _ _ _ _ _ _ (by first | assumption | omega) (by first | assumption | omega) (by first | assumption | omega) (by first | assumption | omega) (by first | assumption | omega) (by first | assumption | omega)) cl_X3_sign wm_X3_28 dX3_readEither_72 rfl rfl rfl rfl rfl (by decide) (by decide) ⟨by omega, by omega⟩ (Nat.le_of_ble_eq_true rfl) rfl rfl ?_
              refine g_name hC (fun y72 e_y72 => ?_)
              have q_y72 : -1 ≤ y72 ∧ y72 ≤ 127 := by rw [e_y72]; exact hT.2.2.1 _
              refine g_bipush (pc := 75) hC (124) dX3_readEither_75 (by decide) ?_
              refine g_icmp_ne (pc := 77) hC 84 dX3_readEither_77 (by decide) (by omega) (by omega) (fun c77 => ?_) (fun c77 => ?_)
              · refine g_iconst (pc := 84) hC dX3_readEither_84 ?_
                refine g_istore_n (pc := 85) hC [(3, _), (2, _), (0, _), (1, _), (4, _)] dX3_readEither_85 rfl (by decide) rfl ?_
                refine g_iload_n (pc := 86) hC 0 dX3_readEither_86 rfl rfl ?_
                refine g_if_ne (pc := 87) hC 92 dX3_readEither_87 (by decide) (by omega) (fun c87 => by exfalso; omega) (fun c87 => ?_)
                refine g_iconst (pc := 90) hC dX3_readEither_90 ?_
                exact g_zret (pc := 91) hR dX3_readEither_91 rfl (by omega) ⟨by omega, by omega⟩ (Nat.le_of_ble_eq_true rfl) ⟨1, p3, nm3, m4, od4, (l3 ++ [-2]), rfl, rfl, (by first | assumption | omega), (by first | assumption | omega), (by first | assumption | omega), (by first | assumption | omega), (by first | assumption | omega), (px_E_end hz (by omega) hz_16 (by rw [if_neg (by omega)]) (by rw [if_pos (by omega)]) (by omega) (by omega)), hL2_35, (by first | assumption | omega), (by first | omega | (simp only [nt_l, List.length_append, List.length_cons, List.length_nil]; omega)), (by first | assumption | omega)⟩
              · have hlt := cr_lt hT (show 0 ≤ p3 by omega) (show T p3 = 124 by omega) (by decide)
                obtain ⟨q2, rfl⟩ : ∃ q2, f2 = q2 + 1 := ⟨f2 - 1, by omega⟩
                refine g_iconst (pc := 80) hC dX3_readEither_80 ?_
                refine g_goto (pc := 81) hC 85 dX3_readEither_81 (by decide) ?_
                refine g_istore_n (pc := 85) hC [(3, _), (2, _), (0, _), (1, _), (4, _)] dX3_readEither_85 rfl (by decide) rfl ?_
                refine g_iload_n (pc := 86) hC 0 dX3_readEither_86 rfl rfl ?_
                refine g_if_ne (pc := 87) hC 92 dX3_readEither_87 (by decide) (by omega) (fun c87 => ?_) (fun c87 => by exfalso; omega)
                refine g_aload_n (pc := 92) hC 2 dX3_readEither_92 rfl rfl ?_
                refine g_dup (pc := 93) hC dX3_readEither_93 rfl ?_
                refine g_get (pc := 94) hC 0 fl_X3_32 dX3_readEither_94 rfl rfl ?_
                refine g_iconst (pc := 97) hC dX3_readEither_97 ?_
                refine g_iadd (pc := 98) hC dX3_readEither_98 ?_
                refine g_putI (pc := 99) hC 0 [cO _ _ [_, _, _, _], _, _, _, _] fl_X3_32 dX3_readEither_99 rfl (Nat.le_of_ble_eq_true rfl) rfl ?_
                refine g_iinc (pc := 102) hC 4 [(4, _), (3, _), (2, _), (0, _), (1, _)] dX3_readEither_102 rfl (by decide) rfl ?_
                refine g_goto (pc := 105) hC 7 dX3_readEither_105 (by decide) ?_
                refine g_lv hC [3, 4, 2, 1, 0] [(0, _), (1, _), (2, _), (3, _), (4, _)] rfl ?_
                exact ih7 0 1 (pt + 1) (p3 + 1) nm3 m4 od4 (l3 ++ [-2]) 101 q2 (by first | assumption | omega) (by first | assumption | omega) (by first | assumption | omega) (by first | assumption | omega) (by first | assumption | omega) (by first | assumption | omega) (by first | assumption | omega) (px_E_or hz (by omega) hz_16 (by rw [if_neg (by omega)]) (by rw [if_pos (by omega)]) (by omega) (by omega)) hL2_35 (by first | assumption | omega) (by first | omega | (simp only [nt_l, List.length_append, List.length_cons, List.length_nil]; omega)) (by first | assumption | omega) (by first | assumption | omega) (by first | assumption | omega) (by omega)
            · refine g_aload_n (pc := 61) hC 1 dX3_readEither_61 rfl rfl ?_
              refine g_get (pc := 62) hC 0 fl_X3_15 dX3_readEither_62 rfl rfl ?_
              refine g_bipush (pc := 65) hC (8) dX3_readEither_65 (by decide) ?_
              refine g_iconst (pc := 67) hC dX3_readEither_67 ?_
              refine g_callV (pc := 68) (qr := 3) hC [3, 4] (k_X1_put _ _ _ _ _ _ _ (l3 ++ [-2]) (-3) (by first | assumption | omega) (by first | assumption | omega) (by first | assumption | omega) (by first | assumption | omega) (by first | assumption | omega) (by first | omega | (simp only [nt_l, List.length_append, List.length_cons, List.length_nil]; omega)) (by decide +kernel) (by decide)) cl_X1_put wm_X3_61 dX3_readEither_68 rfl rfl rfl rfl rfl (by decide) (by decide) (by omega) (Nat.le_of_ble_eq_true rfl) rfl (fun v9 w9 hq9 => ?_)
              obtain ⟨m6, od6, rfl, rfl, r_m6, r_od6, hL2_68, hm2_68⟩ := hq9
              refine g_ws hC [cO g0 3 [.ref g1, .ref g2, .int (iI nm3), .int (iI p3)], cO g1 6 [.ref g3, .int (iI e)], cA K g3 100 sg, cO g2 1 [.ref g4, .int (iI m6), .int (iI rc)], cA K g4 100 od6] rfl ?_
              refine g_st hC [] rfl ?_
              refine g_aload_n (pc := 71) hC 1 dX3_readEither_71 rfl rfl ?_
              refine g_fnV (pc := 72) (qr := 0) hC [0, 1, 2] (k_X3_sign _ _ _ _ _ _ _ _ _ (by first | assumption | omega) (by first | assumption | omega) (by first | assumption | omega) (by first | assumption | omega) (by first | assumption | omega) (by first | assumption | omega)) cl_X3_sign wm_X3_28 dX3_readEither_72 rfl rfl rfl rfl rfl (by decide) (by decide) ⟨by omega, by omega⟩ (Nat.le_of_ble_eq_true rfl) rfl rfl ?_
              refine g_name hC (fun y72 e_y72 => ?_)
              have q_y72 : -1 ≤ y72 ∧ y72 ≤ 127 := by rw [e_y72]; exact hT.2.2.1 _
              refine g_bipush (pc := 75) hC (124) dX3_readEither_75 (by decide) ?_
              refine g_icmp_ne (pc := 77) hC 84 dX3_readEither_77 (by decide) (by omega) (by omega) (fun c77 => ?_) (fun c77 => ?_)
              · refine g_iconst (pc := 84) hC dX3_readEither_84 ?_
                refine g_istore_n (pc := 85) hC [(3, _), (2, _), (0, _), (1, _), (4, _)] dX3_readEither_85 rfl (by decide) rfl ?_
                refine g_iload_n (pc := 86) hC 0 dX3_readEither_86 rfl rfl ?_
                refine g_if_ne (pc := 87) hC 92 dX3_readEither_87 (by decide) (by omega) (fun c87 => by exfalso; omega) (fun c87 => ?_)
                refine g_iconst (pc := 90) hC dX3_readEither_90 ?_
                exact g_zret (pc := 91) hR dX3_readEither_91 rfl (by omega) ⟨by omega, by omega⟩ (Nat.le_of_ble_eq_true rfl) ⟨1, p3, nm3, m6, od6, ((l3 ++ [-2]) ++ [-3]), rfl, rfl, (by first | assumption | omega), (by first | assumption | omega), (by first | assumption | omega), (by first | assumption | omega), (by first | assumption | omega), (px_E_end hz (by omega) hz_16 (by rw [if_neg (by omega)]) (by rw [if_neg (by omega)]) (by omega) (by omega)), hL2_68, (by first | assumption | omega), (by first | omega | (simp only [nt_l, List.length_append, List.length_cons, List.length_nil]; omega)), (by first | assumption | omega)⟩
              · have hlt := cr_lt hT (show 0 ≤ p3 by omega) (show T p3 = 124 by omega) (by decide)
                obtain ⟨q2, rfl⟩ : ∃ q2, f2 = q2 + 1 := ⟨f2 - 1, by omega⟩
                refine g_iconst (pc := 80) hC dX3_readEither_80 ?_
                refine g_goto (pc := 81) hC 85 dX3_readEither_81 (by decide) ?_
                refine g_istore_n (pc := 85) hC [(3, _), (2, _), (0, _), (1, _), (4, _)] dX3_readEither_85 rfl (by decide) rfl ?_
                refine g_iload_n (pc := 86) hC 0 dX3_readEither_86 rfl rfl ?_
                refine g_if_ne (pc := 87) hC 92 dX3_readEither_87 (by decide) (by omega) (fun c87 => ?_) (fun c87 => by exfalso; omega)
                refine g_aload_n (pc := 92) hC 2 dX3_readEither_92 rfl rfl ?_
                refine g_dup (pc := 93) hC dX3_readEither_93 rfl ?_
                refine g_get (pc := 94) hC 0 fl_X3_32 dX3_readEither_94 rfl rfl ?_
                refine g_iconst (pc := 97) hC dX3_readEither_97 ?_
                refine g_iadd (pc := 98) hC dX3_readEither_98 ?_
                refine g_putI (pc := 99) hC 0 [cO _ _ [_, _, _, _], _, _, _, _] fl_X3_32 dX3_readEither_99 rfl (Nat.le_of_ble_eq_true rfl) rfl ?_
                refine g_iinc (pc := 102) hC 4 [(4, _), (3, _), (2, _), (0, _), (1, _)] dX3_readEither_102 rfl (by decide) rfl ?_
                refine g_goto (pc := 105) hC 7 dX3_readEither_105 (by decide) ?_
                refine g_lv hC [3, 4, 2, 1, 0] [(0, _), (1, _), (2, _), (3, _), (4, _)] rfl ?_
                exact ih7 0 1 (pt + 1) (p3 + 1) nm3 m6 od6 ((l3 ++ [-2]) ++ [-3]) 101 q2 (by first | assumption | omega) (by first | assumption | omega) (by first | assumption | omega) (by first | assumption | omega) (by first | assumption | omega) (by first | assumption | omega) (by first | assumption | omega) (px_E_or hz (by omega) hz_16 (by rw [if_neg (by omega)]) (by rw [if_neg (by omega)]) (by omega) (by omega)) hL2_68 (by first | assumption | omega) (by first | omega | (simp only [nt_l, List.length_append, List.length_cons, List.length_nil]; omega)) (by first | assumption | omega) (by first | assumption | omega) (by first | assumption | omega) (by omega)
          · have hlt := cr_lt hT (show 0 ≤ p3 by omega) (show T p3 = 38 by omega) (by decide)
            obtain ⟨q1, rfl⟩ : ∃ q1, f1 = q1 + 1 := ⟨f1 - 1, by omega⟩
            refine g_iconst (pc := 47) hC dX3_readEither_47 ?_
            refine g_goto (pc := 48) hC 52 dX3_readEither_48 (by decide) ?_
            refine g_istore_n (pc := 52) hC [(2, _), (0, _), (1, _), (3, _), (4, _)] dX3_readEither_52 rfl (by decide) rfl ?_
            refine g_iload_n (pc := 53) hC 0 dX3_readEither_53 rfl rfl ?_
            refine g_if_ne (pc := 54) hC 92 dX3_readEither_54 (by decide) (by omega) (fun c54 => ?_) (fun c54 => by exfalso; omega)
            refine g_aload_n (pc := 92) hC 1 dX3_readEither_92 rfl rfl ?_
            refine g_dup (pc := 93) hC dX3_readEither_93 rfl ?_
            refine g_get (pc := 94) hC 0 fl_X3_32 dX3_readEither_94 rfl rfl ?_
            refine g_iconst (pc := 97) hC dX3_readEither_97 ?_
            refine g_iadd (pc := 98) hC dX3_readEither_98 ?_
            refine g_putI (pc := 99) hC 0 [cO _ _ [_, _, _, _], _, _, _, _] fl_X3_32 dX3_readEither_99 rfl (Nat.le_of_ble_eq_true rfl) rfl ?_
            refine g_iinc (pc := 102) hC 4 [(4, _), (2, _), (0, _), (1, _), (3, _)] dX3_readEither_102 rfl (by decide) rfl ?_
            refine g_goto (pc := 105) hC 7 dX3_readEither_105 (by decide) ?_
            refine g_lv hC [2, 3, 1, 4, 0] [(0, _), (1, _), (2, _), (3, _), (4, _)] rfl ?_
            exact ih7 1 o (pt + 1) (p3 + 1) nm3 m4 od4 (l3 ++ [-2]) q1 f2 (by first | assumption | omega) (by first | assumption | omega) (by first | assumption | omega) (by first | assumption | omega) (by first | assumption | omega) (by first | assumption | omega) (by first | assumption | omega) (px_E_and hz (by omega) hz_16 (by rw [if_neg (by omega)]) (by omega)) hL2_35 (by first | assumption | omega) (by first | omega | (simp only [nt_l, List.length_append, List.length_cons, List.length_nil]; omega)) (by first | assumption | omega) (by first | assumption | omega) (by first | assumption | omega) (by omega)
      · refine g_iconst (pc := 22) hC dX3_readEither_22 ?_
        exact g_zret (pc := 23) hR dX3_readEither_23 rfl (by omega) ⟨by omega, by omega⟩ (Nat.le_of_ble_eq_true rfl) ⟨0, p3, nm3, m3, od3, l3, rfl, rfl, (by first | assumption | omega), (by first | assumption | omega), (by first | assumption | omega), (by first | assumption | omega), (by first | assumption | omega), (px_E_f hz (by omega) hz_16), hL2_16, (by first | assumption | omega), (by omega), (by first | assumption | omega)⟩
  refine g_lv hC [3, 4, 2, 1, 0] [(0, _), (1, _), (2, _), (3, _), (4, _)] rfl ?_
  exact L7 ((e - p : Int).toNat + 1) 0 0 0 p nm m od l 101 101 (by first | assumption | omega) (by first | assumption | omega) (by first | assumption | omega) (by first | assumption | omega) (by first | assumption | omega) (by first | assumption | omega) (by first | assumption | omega) rfl (by first | assumption | omega) (by first | assumption | omega) (by first | assumption | omega) (by first | assumption | omega) (by first | assumption | omega) (by first | assumption | omega) (by omega)
set_option maxHeartbeats 4000000 in
set_option maxRecDepth 100000 in
theorem k_X3_readInBrackets_2 {K : gK} (g0 : Nat) (g1 : Nat) (g2 : Nat) (g3 : Nat) (g4 : Nat) (nm : Int) (p : Int) (e : Int) (m : Int) (rc : Int) (sg : Int → Int) (od : Int → Int) (T : Int → Int) (l : List Int) (r_nm : rI nm) (r_p : rI p) (r_e : rI e) (r_m : rI m) (r_rc : rI rc) (r_sg : ∀ j, rI (sg j)) (r_od : ∀ j, rI (od j)) (hT : cr_T T e sg) (hp : 0 ≤ p ∧ p ≤ e) (hL : cr_L l od m) (hl : (l.length : Int) ≤ p) (hnm : 0 ≤ nm ∧ nm ≤ 99) (hc : T p = 40) : gMet K yX3_readInBrackets cX3_readInBrackets 2 (some .boolean) 15 0 0 [.ref g0, .int (iI 2)] [cO g0 3 [.ref g1, .ref g2, .int (iI nm), .int (iI p)], cO g1 6 [.ref g3, .int (iI e)], cA K g3 100 sg, cO g2 1 [.ref g4, .int (iI m), .int (iI rc)], cA K g4 100 od] (fun v9 w9 => ∃ (r : Int), ∃ (p2 : Int), ∃ (nm2 : Int), ∃ (m2 : Int), ∃ (od2 : Int → Int), ∃ (l2 : List Int), v9 = some (.int (iI r)) ∧ w9 = [cO g0 3 [.ref g1, .ref g2, .int (iI nm2), .int (iI p2)], cO g1 6 [.ref g3, .int (iI e)], cA K g3 100 sg, cO g2 1 [.ref g4, .int (iI m2), .int (iI rc)], cA K g4 100 od2] ∧ rI r ∧ rI p2 ∧ rI nm2 ∧ rI m2 ∧ (∀ j, rI (od2 j)) ∧ ((1 - r, p2, l2) = px_fac T 3 (0, p, l)) ∧ (cr_L l2 od2 m2) ∧ ((r = 0 ∨ r = 1) ∧ p ≤ p2 ∧ p2 ≤ e ∧ (r = 1 → p < p2)) ∧ ((l2.length : Int) + p ≤ (l.length : Int) + p2) ∧ (0 ≤ nm2 ∧ nm2 ≤ 99)) := by
  refine g_enter (by decide +kernel) (Nat.le_of_ble_eq_true rfl) (fun G hC hR => ?_)
  refine g_lv hC [0, 1] [(0, _), (1, _)] rfl ?_
  have hge := hT.1
  have hlt := cr_lt hT hp.1 hc (by decide)
  refine g_iload_n (pc := 0) hC 1 dX3_readInBrackets_0 rfl rfl ?_
  refine g_iconst (pc := 1) hC dX3_readInBrackets_1 ?_
  refine g_icmp_lt (pc := 2) hC 7 dX3_readInBrackets_2 (by decide) (by omega) (by omega) (fun c2 => ?_) (fun c2 => by exfalso; omega)
  refine g_aload_n (pc := 7) hC 0 dX3_readInBrackets_7 rfl rfl ?_
  refine g_dup (pc := 8) hC dX3_readInBrackets_8 rfl ?_
  refine g_get (pc := 9) hC 0 fl_X3_32 dX3_readInBrackets_9 rfl rfl ?_
  refine g_iconst (pc := 12) hC dX3_readInBrackets_12 ?_
  refine g_iadd (pc := 13) hC dX3_readInBrackets_13 ?_
  refine g_putI (pc := 14) hC 0 [cO _ _ [_, _, _, _], _, _, _, _] fl_X3_32 dX3_readInBrackets_14 rfl (Nat.le_of_ble_eq_true rfl) rfl ?_
  refine g_aload_n (pc := 17) hC 0 dX3_readInBrackets_17 rfl rfl ?_
  refine g_iload_n (pc := 18) hC 1 dX3_readInBrackets_18 rfl rfl ?_
  refine g_iconst (pc := 19) hC dX3_readInBrackets_19 ?_
  refine g_iadd (pc := 20) hC dX3_readInBrackets_20 ?_
  refine g_st hC [.int (iI (3)), _] rfl ?_
  refine g_callV (pc := 21) (qr := 0) hC [0, 1, 2, 3, 4] (k_X3_readEither_3 _ _ _ _ _ _ _ _ _ _ _ _ _ _ (by first | assumption | omega) (by first | assumption | omega) (by first | assumption | omega) (by first | assumption | omega) (by first | assumption | omega) (by first | assumption | omega) (by first | assumption | omega) (by first | assumption | omega) (by first | assumption | omega) (by first | assumption | omega) (by omega) (by first | assumption | omega)) cl_X3_readEither wm_X3_57 dX3_readInBrackets_21 rfl rfl rfl rfl rfl (by decide) (by decide) (by omega) (Nat.le_of_ble_eq_true rfl) rfl (fun v9 w9 hq9 => ?_)
  obtain ⟨r3, p3, nm3, m3, od3, l3, rfl, rfl, r_r3, r_p3, r_nm3, r_m3, r_od3, hz_21, hL2_21, hb_21, hl2_21, hnm2_21⟩ := hq9
  refine g_ws hC [cO g0 3 [.ref g1, .ref g2, .int (iI nm3), .int (iI p3)], cO g1 6 [.ref g3, .int (iI e)], cA K g3 100 sg, cO g2 1 [.ref g4, .int (iI m3), .int (iI rc)], cA K g4 100 od3] rfl ?_
  refine g_st hC [.int (iI r3)] rfl ?_
  refine g_if_eq (pc := 24) hC 40 dX3_readInBrackets_24 (by decide) (by omega) (fun c24 => ?_) (fun c24 => ?_)
  · refine g_iconst (pc := 40) hC dX3_readInBrackets_40 ?_
    exact g_zret (pc := 41) hR dX3_readInBrackets_41 rfl (by omega) ⟨by omega, by omega⟩ (Nat.le_of_ble_eq_true rfl) ⟨0, p3, nm3, m3, od3, l3, rfl, rfl, (by first | assumption | omega), (by first | assumption | omega), (by first | assumption | omega), (by first | assumption | omega), (by first | assumption | omega), (px_br_f hc (by omega) hz_21), hL2_21, (by first | assumption | omega), (by first | assumption | omega), (by first | assumption | omega)⟩
  · refine g_aload_n (pc := 27) hC 0 dX3_readInBrackets_27 rfl rfl ?_
    refine g_ldcS_X3_74 (pc := 28) hC rfl dX3_readInBrackets_28 ?_
    refine g_callV (pc := 30) (qr := 0) hC [0, 1, 2] (k_X3_readWord _ _ _ _ _ _ _ _ _ _ (by first | assumption | omega) (by first | assumption | omega) (by first | assumption | omega) (by first | assumption | omega) (by first | assumption | omega) (by first | assumption | omega) (by first | assumption | omega)) cl_X3_readWord wm_X3_42 dX3_readInBrackets_30 rfl rfl rfl rfl rfl (by decide) (by decide) (by omega) (Nat.le_of_ble_eq_true rfl) rfl (fun v9 w9 hq9 => ?_)
    obtain ⟨r4, p4, rfl, rfl, r_r4, r_p4, hz_30, hb_30⟩ := hq9
    refine g_ws hC [cO g0 3 [.ref g1, .ref g2, .int (iI nm3), .int (iI p4)], cO g1 6 [.ref g3, .int (iI e)], cA K g3 100 sg, cO g2 1 [.ref g4, .int (iI m3), .int (iI rc)], cA K g4 100 od3] rfl ?_
    refine g_st hC [.int (iI r4)] rfl ?_
    have hs4 : sl 4 = 1 := rfl
    refine g_if_eq (pc := 33) hC 40 dX3_readInBrackets_33 (by decide) (by omega) (fun c33 => ?_) (fun c33 => ?_)
    · refine g_iconst (pc := 40) hC dX3_readInBrackets_40 ?_
      exact g_zret (pc := 41) hR dX3_readInBrackets_41 rfl (by omega) ⟨by omega, by omega⟩ (Nat.le_of_ble_eq_true rfl) ⟨0, p4, nm3, m3, od3, l3, rfl, rfl, (by first | assumption | omega), (by first | assumption | omega), (by first | assumption | omega), (by first | assumption | omega), (by first | assumption | omega), (px_br_t (r4 := 0) hc (by omega) hz_21 (by rw [← hz_30, show r4 = 0 by omega])), hL2_21, (by first | assumption | omega), (by first | assumption | omega), (by first | assumption | omega)⟩
    · refine g_iconst (pc := 36) hC dX3_readInBrackets_36 ?_
      refine g_goto (pc := 37) hC 41 dX3_readInBrackets_37 (by decide) ?_
      exact g_zret (pc := 41) hR dX3_readInBrackets_41 rfl (by omega) ⟨by omega, by omega⟩ (Nat.le_of_ble_eq_true rfl) ⟨1, p4, nm3, m3, od3, l3, rfl, rfl, (by first | assumption | omega), (by first | assumption | omega), (by first | assumption | omega), (by first | assumption | omega), (by first | assumption | omega), (px_br_t (r4 := 1) hc (by omega) hz_21 (by rw [← hz_30, show r4 = 1 by omega])), hL2_21, (by first | assumption | omega), (by first | assumption | omega), (by first | assumption | omega)⟩
set_option maxHeartbeats 4000000 in
set_option maxRecDepth 100000 in
theorem k_X3_readOne_2 {K : gK} (g0 : Nat) (g1 : Nat) (g2 : Nat) (g3 : Nat) (g4 : Nat) (nm : Int) (p : Int) (e : Int) (m : Int) (rc : Int) (sg : Int → Int) (od : Int → Int) (T : Int → Int) (l : List Int) (r_nm : rI nm) (r_p : rI p) (r_e : rI e) (r_m : rI m) (r_rc : rI rc) (r_sg : ∀ j, rI (sg j)) (r_od : ∀ j, rI (od j)) (hT : cr_T T e sg) (hp : 0 ≤ p ∧ p ≤ e) (hL : cr_L l od m) (hl : (l.length : Int) ≤ p) (hnm : 0 ≤ nm ∧ nm ≤ 99) : gMet K yX3_readOne cX3_readOne 5 (some .boolean) 16 0 0 [.ref g0, .int (iI 2)] [cO g0 3 [.ref g1, .ref g2, .int (iI nm), .int (iI p)], cO g1 6 [.ref g3, .int (iI e)], cA K g3 100 sg, cO g2 1 [.ref g4, .int (iI m), .int (iI rc)], cA K g4 100 od] (fun v9 w9 => ∃ (r : Int), ∃ (p2 : Int), ∃ (nm2 : Int), ∃ (m2 : Int), ∃ (od2 : Int → Int), ∃ (l2 : List Int), v9 = some (.int (iI r)) ∧ w9 = [cO g0 3 [.ref g1, .ref g2, .int (iI nm2), .int (iI p2)], cO g1 6 [.ref g3, .int (iI e)], cA K g3 100 sg, cO g2 1 [.ref g4, .int (iI m2), .int (iI rc)], cA K g4 100 od2] ∧ rI r ∧ rI p2 ∧ rI nm2 ∧ rI m2 ∧ (∀ j, rI (od2 j)) ∧ ((1 - r, p2, l2) = px_fac T 3 (0, p, l)) ∧ (cr_L l2 od2 m2) ∧ ((r = 0 ∨ r = 1) ∧ p ≤ p2 ∧ p2 ≤ e ∧ (r = 1 → p < p2)) ∧ ((l2.length : Int) + p ≤ (l.length : Int) + p2) ∧ (0 ≤ nm2 ∧ nm2 ≤ 99)) := by
  refine g_enter (by decide +kernel) (Nat.le_of_ble_eq_true rfl) (fun G hC hR => ?_)
  refine g_lv hC [0, 1] [(0, _), (1, _)] rfl ?_
  have hge := hT.1
  refine g_iconst (pc := 0) hC dX3_readOne_0 ?_
  refine g_istore_n (pc := 1) hC [(2, _), (0, _), (1, _)] dX3_readOne_1 rfl (by decide) rfl ?_
  refine g_aload_n (pc := 2) hC 1 dX3_readOne_2 rfl rfl ?_
  refine g_fnV (pc := 3) (qr := 0) hC [0, 1, 2] (k_X3_sign _ _ _ _ _ _ _ _ _ (by first | assumption | omega) (by first | assumption | omega) (by first | assumption | omega) (by first | assumption | omega) (by first | assumption | omega) (by first | assumption | omega)) cl_X3_sign wm_X3_28 dX3_readOne_3 rfl rfl rfl rfl rfl (by decide) (by decide) ⟨by omega, by omega⟩ (Nat.le_of_ble_eq_true rfl) rfl rfl ?_
  refine g_name hC (fun y0 e_y0 => ?_)
  have q_y0 : -1 ≤ y0 ∧ y0 ≤ 127 := by rw [e_y0]; exact hT.2.2.1 _
  refine g_bipush (pc := 6) hC (33) dX3_readOne_6 (by decide) ?_
  refine g_icmp_ne (pc := 8) hC 34 dX3_readOne_8 (by decide) (by omega) (by omega) (fun c8 => ?_) (fun c8 => ?_)
  · have hn9 : ¬ T (p) = 33 := by omega
    refine g_aload_n (pc := 34) hC 1 dX3_readOne_34 rfl rfl ?_
    refine g_fnV (pc := 35) (qr := 0) hC [0, 1, 2] (k_X3_sign _ _ _ _ _ _ _ _ _ (by first | assumption | omega) (by first | assumption | omega) (by first | assumption | omega) (by first | assumption | omega) (by first | assumption | omega) (by first | assumption | omega)) cl_X3_sign wm_X3_28 dX3_readOne_35 rfl rfl rfl rfl rfl (by decide) (by decide) ⟨by omega, by omega⟩ (Nat.le_of_ble_eq_true rfl) rfl rfl ?_
    refine g_name hC (fun y99 e_y99 => ?_)
    have q_y99 : -1 ≤ y99 ∧ y99 ≤ 127 := by rw [e_y99]; exact hT.2.2.1 _
    refine g_bipush (pc := 38) hC (40) dX3_readOne_38 (by decide) ?_
    refine g_icmp_ne (pc := 40) hC 53 dX3_readOne_40 (by decide) (by omega) (by omega) (fun c40 => ?_) (fun c40 => ?_)
    · refine g_aload_n (pc := 53) hC 1 dX3_readOne_53 rfl rfl ?_
      refine g_callV (pc := 54) (qr := 0) hC [0, 1, 2, 3, 4] (k_X3_readTest _ _ _ _ _ _ _ _ _ _ _ _ _ _ (by first | assumption | omega) (by first | assumption | omega) (by first | assumption | omega) (by first | assumption | omega) (by first | assumption | omega) (by first | assumption | omega) (by first | assumption | omega) (by first | assumption | omega) (by first | assumption | omega) (by first | assumption | omega) (by first | assumption | omega) (by first | assumption | omega)) cl_X3_readTest wm_X3_71 dX3_readOne_54 rfl rfl rfl rfl rfl (by decide) (by decide) (by omega) (Nat.le_of_ble_eq_true rfl) rfl (fun v9 w9 hq9 => ?_)
      obtain ⟨r3, p3, nm3, m3, od3, l3, rfl, rfl, r_r3, r_p3, r_nm3, r_m3, r_od3, hz_54, hL2_54, hb_54, hl2_54, hnm2_54⟩ := hq9
      refine g_ws hC [cO g0 3 [.ref g1, .ref g2, .int (iI nm3), .int (iI p3)], cO g1 6 [.ref g3, .int (iI e)], cA K g3 100 sg, cO g2 1 [.ref g4, .int (iI m3), .int (iI rc)], cA K g4 100 od3] rfl ?_
      refine g_st hC [.int (iI r3)] rfl ?_
      refine g_istore_n (pc := 57) hC [(3, _), (2, _), (0, _), (1, _)] dX3_readOne_57 rfl (by decide) rfl ?_
      refine g_iconst (pc := 58) hC dX3_readOne_58 ?_
      refine g_istore (pc := 59) hC [(4, _), (3, _), (2, _), (0, _), (1, _)] dX3_readOne_59 (by decide) rfl ?_
      refine g_iload (pc := 61) hC 0 dX3_readOne_61 rfl ?_
      refine g_iload_n (pc := 63) hC 2 dX3_readOne_63 rfl rfl ?_
      refine g_icmp_ge (pc := 64) hC 87 dX3_readOne_64 (by decide) (by omega) (by omega) (fun c64 => ?_) (fun c64 => by exfalso; omega)
      refine g_iload_n (pc := 87) hC 1 dX3_readOne_87 rfl rfl ?_
      exact g_zret (pc := 88) hR dX3_readOne_88 rfl (by omega) ⟨by omega, by omega⟩ (Nat.le_of_ble_eq_true rfl) ⟨r3, p3, nm3, m3, od3, l3, rfl, rfl, (by first | assumption | omega), (by first | assumption | omega), (by first | assumption | omega), (by first | assumption | omega), (by first | assumption | omega), (px_fac_t rfl hn9 (by omega) hz_54), hL2_54, (by first | assumption | omega), (by first | assumption | omega), (by first | assumption | omega)⟩
    · have hlt9 := cr_lt hT (by omega) (show T (p) = 40 by omega) (by decide)
      refine g_aload_n (pc := 43) hC 1 dX3_readOne_43 rfl rfl ?_
      refine g_iload_n (pc := 44) hC 2 dX3_readOne_44 rfl rfl ?_
      refine g_iload_n (pc := 45) hC 0 dX3_readOne_45 rfl rfl ?_
      refine g_iadd (pc := 46) hC dX3_readOne_46 ?_
      refine g_st hC [.int (iI (2)), _] rfl ?_
      refine g_callV (pc := 47) (qr := 0) hC [0, 1, 2, 3, 4] (k_X3_readInBrackets_2 _ _ _ _ _ _ _ _ _ _ _ _ _ _ (by first | assumption | omega) (by first | assumption | omega) (by first | assumption | omega) (by first | assumption | omega) (by first | assumption | omega) (by first | assumption | omega) (by first | assumption | omega) (by first | assumption | omega) (by first | assumption | omega) (by first | assumption | omega) (by first | assumption | omega) (by first | assumption | omega) (by first | assumption | omega)) cl_X3_readInBrackets wm_X3_68 dX3_readOne_47 rfl rfl rfl rfl rfl (by decide) (by decide) (by omega) (Nat.le_of_ble_eq_true rfl) rfl (fun v9 w9 hq9 => ?_)
      obtain ⟨r3, p3, nm3, m3, od3, l3, rfl, rfl, r_r3, r_p3, r_nm3, r_m3, r_od3, hz_47, hL2_47, hb_47, hl2_47, hnm2_47⟩ := hq9
      refine g_ws hC [cO g0 3 [.ref g1, .ref g2, .int (iI nm3), .int (iI p3)], cO g1 6 [.ref g3, .int (iI e)], cA K g3 100 sg, cO g2 1 [.ref g4, .int (iI m3), .int (iI rc)], cA K g4 100 od3] rfl ?_
      refine g_st hC [.int (iI r3)] rfl ?_
      refine g_goto (pc := 50) hC 57 dX3_readOne_50 (by decide) ?_
      refine g_istore_n (pc := 57) hC [(3, _), (2, _), (0, _), (1, _)] dX3_readOne_57 rfl (by decide) rfl ?_
      refine g_iconst (pc := 58) hC dX3_readOne_58 ?_
      refine g_istore (pc := 59) hC [(4, _), (3, _), (2, _), (0, _), (1, _)] dX3_readOne_59 (by decide) rfl ?_
      refine g_iload (pc := 61) hC 0 dX3_readOne_61 rfl ?_
      refine g_iload_n (pc := 63) hC 2 dX3_readOne_63 rfl rfl ?_
      refine g_icmp_ge (pc := 64) hC 87 dX3_readOne_64 (by decide) (by omega) (by omega) (fun c64 => ?_) (fun c64 => by exfalso; omega)
      refine g_iload_n (pc := 87) hC 1 dX3_readOne_87 rfl rfl ?_
      exact g_zret (pc := 88) hR dX3_readOne_88 rfl (by omega) ⟨by omega, by omega⟩ (Nat.le_of_ble_eq_true rfl) ⟨r3, p3, nm3, m3, od3, l3, rfl, rfl, (by first | assumption | omega), (by first | assumption | omega), (by first | assumption | omega), (by first | assumption | omega), (by first | assumption | omega), hz_47, hL2_47, (by first | assumption | omega), (by first | assumption | omega), (by first | assumption | omega)⟩
  · have hq0 : T (p) = 33 := by omega
    have hlt0 := cr_lt hT (by omega) hq0 (by decide)
    refine g_iload_n (pc := 11) hC 2 dX3_readOne_11 rfl rfl ?_
    refine g_iload_n (pc := 12) hC 0 dX3_readOne_12 rfl rfl ?_
    refine g_iadd (pc := 13) hC dX3_readOne_13 ?_
    refine g_st hC [.int (iI (2))] rfl ?_
    refine g_iconst (pc := 14) hC dX3_readOne_14 ?_
    refine g_icmp_ge (pc := 15) hC 34 dX3_readOne_15 (by decide) (by omega) (by omega) (fun c15 => by exfalso; omega) (fun c15 => ?_)
    refine g_iinc (pc := 18) hC 0 [(2, _), (0, _), (1, _)] dX3_readOne_18 rfl (by decide) rfl ?_
    refine g_lv hC [0, 1, 2] [(2, .int (iI 1)), (0, _), (1, _)] rfl ?_
    skip
    refine g_aload_n (pc := 21) hC 1 dX3_readOne_21 rfl rfl ?_
    refine g_dup (pc := 22) hC dX3_readOne_22 rfl ?_
    refine g_get (pc := 23) hC 0 fl_X3_32 dX3_readOne_23 rfl rfl ?_
    refine g_iconst (pc := 26) hC dX3_readOne_26 ?_
    refine g_iadd (pc := 27) hC dX3_readOne_27 ?_
    refine g_putI (pc := 28) hC 0 [cO _ _ [_, _, _, _], _, _, _, _] fl_X3_32 dX3_readOne_28 rfl (Nat.le_of_ble_eq_true rfl) rfl ?_
    refine g_goto (pc := 31) hC 2 dX3_readOne_31 (by decide) ?_
    refine g_aload_n (pc := 2) hC 1 dX3_readOne_2 rfl rfl ?_
    refine g_fnV (pc := 3) (qr := 0) hC [0, 1, 2] (k_X3_sign _ _ _ _ _ _ _ _ _ (by first | assumption | omega) (by first | assumption | omega) (by first | assumption | omega) (by first | assumption | omega) (by first | assumption | omega) (by first | assumption | omega)) cl_X3_sign wm_X3_28 dX3_readOne_3 rfl rfl rfl rfl rfl (by decide) (by decide) ⟨by omega, by omega⟩ (Nat.le_of_ble_eq_true rfl) rfl rfl ?_
    refine g_name hC (fun y1 e_y1 => ?_)
    have q_y1 : -1 ≤ y1 ∧ y1 ≤ 127 := by rw [e_y1]; exact hT.2.2.1 _
    refine g_bipush (pc := 6) hC (33) dX3_readOne_6 (by decide) ?_
    refine g_icmp_ne (pc := 8) hC 34 dX3_readOne_8 (by decide) (by omega) (by omega) (fun c8 => ?_) (fun c8 => ?_)
    · have hn9 : ¬ T ((p + 1)) = 33 := by omega
      refine g_aload_n (pc := 34) hC 1 dX3_readOne_34 rfl rfl ?_
      refine g_fnV (pc := 35) (qr := 0) hC [0, 1, 2] (k_X3_sign _ _ _ _ _ _ _ _ _ (by first | assumption | omega) (by first | assumption | omega) (by first | assumption | omega) (by first | assumption | omega) (by first | assumption | omega) (by first | assumption | omega)) cl_X3_sign wm_X3_28 dX3_readOne_35 rfl rfl rfl rfl rfl (by decide) (by decide) ⟨by omega, by omega⟩ (Nat.le_of_ble_eq_true rfl) rfl rfl ?_
      refine g_name hC (fun y99 e_y99 => ?_)
      have q_y99 : -1 ≤ y99 ∧ y99 ≤ 127 := by rw [e_y99]; exact hT.2.2.1 _
      refine g_bipush (pc := 38) hC (40) dX3_readOne_38 (by decide) ?_
      refine g_icmp_ne (pc := 40) hC 53 dX3_readOne_40 (by decide) (by omega) (by omega) (fun c40 => ?_) (fun c40 => ?_)
      · refine g_aload_n (pc := 53) hC 1 dX3_readOne_53 rfl rfl ?_
        refine g_callV (pc := 54) (qr := 0) hC [0, 1, 2, 3, 4] (k_X3_readTest _ _ _ _ _ _ _ _ _ _ _ _ _ _ (by first | assumption | omega) (by first | assumption | omega) (by first | assumption | omega) (by first | assumption | omega) (by first | assumption | omega) (by first | assumption | omega) (by first | assumption | omega) (by first | assumption | omega) (by first | assumption | omega) (by first | assumption | omega) (by first | assumption | omega) (by first | assumption | omega)) cl_X3_readTest wm_X3_71 dX3_readOne_54 rfl rfl rfl rfl rfl (by decide) (by decide) (by omega) (Nat.le_of_ble_eq_true rfl) rfl (fun v9 w9 hq9 => ?_)
        obtain ⟨r3, p3, nm3, m3, od3, l3, rfl, rfl, r_r3, r_p3, r_nm3, r_m3, r_od3, hz_54, hL2_54, hb_54, hl2_54, hnm2_54⟩ := hq9
        refine g_ws hC [cO g0 3 [.ref g1, .ref g2, .int (iI nm3), .int (iI p3)], cO g1 6 [.ref g3, .int (iI e)], cA K g3 100 sg, cO g2 1 [.ref g4, .int (iI m3), .int (iI rc)], cA K g4 100 od3] rfl ?_
        refine g_st hC [.int (iI r3)] rfl ?_
        refine g_istore_n (pc := 57) hC [(3, _), (2, _), (0, _), (1, _)] dX3_readOne_57 rfl (by decide) rfl ?_
        refine g_iconst (pc := 58) hC dX3_readOne_58 ?_
        refine g_istore (pc := 59) hC [(4, _), (3, _), (2, _), (0, _), (1, _)] dX3_readOne_59 (by decide) rfl ?_
        refine g_iload (pc := 61) hC 0 dX3_readOne_61 rfl ?_
        refine g_iload_n (pc := 63) hC 2 dX3_readOne_63 rfl rfl ?_
        refine g_icmp_ge (pc := 64) hC 87 dX3_readOne_64 (by decide) (by omega) (by omega) (fun c64 => by exfalso; omega) (fun c64 => ?_)
        refine g_iload_n (pc := 67) hC 1 dX3_readOne_67 rfl rfl ?_
        refine g_if_eq (pc := 68) hC 87 dX3_readOne_68 (by decide) (by omega) (fun c68 => ?_) (fun c68 => ?_)
        · refine g_iload_n (pc := 87) hC 1 dX3_readOne_87 rfl rfl ?_
          exact g_zret (pc := 88) hR dX3_readOne_88 rfl (by omega) ⟨by omega, by omega⟩ (Nat.le_of_ble_eq_true rfl) ⟨r3, p3, nm3, m3, od3, l3, rfl, rfl, (by first | assumption | omega), (by first | assumption | omega), (by first | assumption | omega), (by first | assumption | omega), (by first | assumption | omega), (px_fac_not (l4 := l3) rfl hq0 (px_fac_t rfl hn9 (by omega) hz_54) (by rw [if_neg (show ¬ (1 - r3 : Int) = 0 by omega)])), hL2_54, (by first | assumption | omega), (by first | assumption | omega), (by first | assumption | omega)⟩
        · refine g_aload_n (pc := 71) hC 3 dX3_readOne_71 rfl rfl ?_
          refine g_get (pc := 72) hC 0 fl_X3_15 dX3_readOne_72 rfl rfl ?_
          refine g_bipush (pc := 75) hC (6) dX3_readOne_75 (by decide) ?_
          refine g_iconst (pc := 77) hC dX3_readOne_77 ?_
          refine g_callV (pc := 78) (qr := 3) hC [3, 4] (k_X1_put _ _ _ _ _ _ _ (nt_l l3 0) (-1) (by first | assumption | omega) (by first | assumption | omega) (by first | assumption | omega) (by first | assumption | omega) (by first | assumption | omega) (by first | omega | (simp only [nt_l, List.length_append, List.length_cons, List.length_nil]; omega)) (by decide +kernel) (by decide)) cl_X1_put wm_X3_61 dX3_readOne_78 rfl rfl rfl rfl rfl (by decide) (by decide) (by omega) (Nat.le_of_ble_eq_true rfl) rfl (fun v9 w9 hq9 => ?_)
          obtain ⟨m4, od4, rfl, rfl, r_m4, r_od4, hL2_78, hm2_78⟩ := hq9
          refine g_ws hC [cO g0 3 [.ref g1, .ref g2, .int (iI nm3), .int (iI p3)], cO g1 6 [.ref g3, .int (iI e)], cA K g3 100 sg, cO g2 1 [.ref g4, .int (iI m4), .int (iI rc)], cA K g4 100 od4] rfl ?_
          refine g_st hC [] rfl ?_
          refine g_iinc (pc := 81) hC 0 [(4, _), (3, _), (2, _), (0, _), (1, _)] dX3_readOne_81 rfl (by decide) rfl ?_
          refine g_lv hC [0, 1, 2, 3, 4] [(4, .int (iI 1)), (3, _), (2, _), (0, _), (1, _)] rfl ?_
          refine g_goto (pc := 84) hC 61 dX3_readOne_84 (by decide) ?_
          refine g_iload (pc := 61) hC 0 dX3_readOne_61 rfl ?_
          refine g_iload_n (pc := 63) hC 2 dX3_readOne_63 rfl rfl ?_
          refine g_icmp_ge (pc := 64) hC 87 dX3_readOne_64 (by decide) (by omega) (by omega) (fun c64 => ?_) (fun c64 => by exfalso; omega)
          refine g_iload_n (pc := 87) hC 1 dX3_readOne_87 rfl rfl ?_
          exact g_zret (pc := 88) hR dX3_readOne_88 rfl (by omega) ⟨by omega, by omega⟩ (Nat.le_of_ble_eq_true rfl) ⟨r3, p3, nm3, m4, od4, (nt_l l3 1), rfl, rfl, (by first | assumption | omega), (by first | assumption | omega), (by first | assumption | omega), (by first | assumption | omega), (by first | assumption | omega), (px_fac_not (l4 := nt_l l3 1) rfl hq0 (px_fac_t rfl hn9 (by omega) hz_54) (by rw [if_pos (show (1 - r3 : Int) = 0 by omega)]; rfl)), hL2_78, (by first | assumption | omega), (by first | omega | (simp only [nt_l, List.length_append, List.length_cons, List.length_nil]; omega)), (by first | assumption | omega)⟩
      · have hlt9 := cr_lt hT (by omega) (show T ((p + 1)) = 40 by omega) (by decide)
        refine g_aload_n (pc := 43) hC 1 dX3_readOne_43 rfl rfl ?_
        refine g_iload_n (pc := 44) hC 2 dX3_readOne_44 rfl rfl ?_
        refine g_iload_n (pc := 45) hC 0 dX3_readOne_45 rfl rfl ?_
        refine g_iadd (pc := 46) hC dX3_readOne_46 ?_
        refine g_st hC [.int (iI (3)), _] rfl ?_
        refine g_callV (pc := 47) (qr := 0) hC [0, 1, 2, 3, 4] (k_X3_readInBrackets_3 _ _ _ _ _ _ _ _ _ _ _ _ _ _ (by first | assumption | omega) (by first | assumption | omega) (by first | assumption | omega) (by first | assumption | omega) (by first | assumption | omega) (by first | assumption | omega) (by first | assumption | omega) (by first | assumption | omega) (by first | assumption | omega) (by first | assumption | omega) (by first | assumption | omega) (by first | assumption | omega) (by first | assumption | omega)) cl_X3_readInBrackets wm_X3_68 dX3_readOne_47 rfl rfl rfl rfl rfl (by decide) (by decide) (by omega) (Nat.le_of_ble_eq_true rfl) rfl (fun v9 w9 hq9 => ?_)
        obtain ⟨r3, p3, nm3, m3, od3, l3, rfl, rfl, r_r3, r_p3, r_nm3, r_m3, r_od3, hz_47, hL2_47, hb_47, hl2_47, hnm2_47⟩ := hq9
        refine g_ws hC [cO g0 3 [.ref g1, .ref g2, .int (iI nm3), .int (iI p3)], cO g1 6 [.ref g3, .int (iI e)], cA K g3 100 sg, cO g2 1 [.ref g4, .int (iI m3), .int (iI rc)], cA K g4 100 od3] rfl ?_
        refine g_st hC [.int (iI r3)] rfl ?_
        refine g_goto (pc := 50) hC 57 dX3_readOne_50 (by decide) ?_
        refine g_istore_n (pc := 57) hC [(3, _), (2, _), (0, _), (1, _)] dX3_readOne_57 rfl (by decide) rfl ?_
        refine g_iconst (pc := 58) hC dX3_readOne_58 ?_
        refine g_istore (pc := 59) hC [(4, _), (3, _), (2, _), (0, _), (1, _)] dX3_readOne_59 (by decide) rfl ?_
        refine g_iload (pc := 61) hC 0 dX3_readOne_61 rfl ?_
        refine g_iload_n (pc := 63) hC 2 dX3_readOne_63 rfl rfl ?_
        refine g_icmp_ge (pc := 64) hC 87 dX3_readOne_64 (by decide) (by omega) (by omega) (fun c64 => by exfalso; omega) (fun c64 => ?_)
        refine g_iload_n (pc := 67) hC 1 dX3_readOne_67 rfl rfl ?_
        refine g_if_eq (pc := 68) hC 87 dX3_readOne_68 (by decide) (by omega) (fun c68 => ?_) (fun c68 => ?_)
        · refine g_iload_n (pc := 87) hC 1 dX3_readOne_87 rfl rfl ?_
          exact g_zret (pc := 88) hR dX3_readOne_88 rfl (by omega) ⟨by omega, by omega⟩ (Nat.le_of_ble_eq_true rfl) ⟨r3, p3, nm3, m3, od3, l3, rfl, rfl, (by first | assumption | omega), (by first | assumption | omega), (by first | assumption | omega), (by first | assumption | omega), (by first | assumption | omega), (px_fac_not (l4 := l3) rfl hq0 hz_47 (by rw [if_neg (show ¬ (1 - r3 : Int) = 0 by omega)])), hL2_47, (by first | assumption | omega), (by first | assumption | omega), (by first | assumption | omega)⟩
        · refine g_aload_n (pc := 71) hC 3 dX3_readOne_71 rfl rfl ?_
          refine g_get (pc := 72) hC 0 fl_X3_15 dX3_readOne_72 rfl rfl ?_
          refine g_bipush (pc := 75) hC (6) dX3_readOne_75 (by decide) ?_
          refine g_iconst (pc := 77) hC dX3_readOne_77 ?_
          refine g_callV (pc := 78) (qr := 3) hC [3, 4] (k_X1_put _ _ _ _ _ _ _ (nt_l l3 0) (-1) (by first | assumption | omega) (by first | assumption | omega) (by first | assumption | omega) (by first | assumption | omega) (by first | assumption | omega) (by first | omega | (simp only [nt_l, List.length_append, List.length_cons, List.length_nil]; omega)) (by decide +kernel) (by decide)) cl_X1_put wm_X3_61 dX3_readOne_78 rfl rfl rfl rfl rfl (by decide) (by decide) (by omega) (Nat.le_of_ble_eq_true rfl) rfl (fun v9 w9 hq9 => ?_)
          obtain ⟨m4, od4, rfl, rfl, r_m4, r_od4, hL2_78, hm2_78⟩ := hq9
          refine g_ws hC [cO g0 3 [.ref g1, .ref g2, .int (iI nm3), .int (iI p3)], cO g1 6 [.ref g3, .int (iI e)], cA K g3 100 sg, cO g2 1 [.ref g4, .int (iI m4), .int (iI rc)], cA K g4 100 od4] rfl ?_
          refine g_st hC [] rfl ?_
          refine g_iinc (pc := 81) hC 0 [(4, _), (3, _), (2, _), (0, _), (1, _)] dX3_readOne_81 rfl (by decide) rfl ?_
          refine g_lv hC [0, 1, 2, 3, 4] [(4, .int (iI 1)), (3, _), (2, _), (0, _), (1, _)] rfl ?_
          refine g_goto (pc := 84) hC 61 dX3_readOne_84 (by decide) ?_
          refine g_iload (pc := 61) hC 0 dX3_readOne_61 rfl ?_
          refine g_iload_n (pc := 63) hC 2 dX3_readOne_63 rfl rfl ?_
          refine g_icmp_ge (pc := 64) hC 87 dX3_readOne_64 (by decide) (by omega) (by omega) (fun c64 => ?_) (fun c64 => by exfalso; omega)
          refine g_iload_n (pc := 87) hC 1 dX3_readOne_87 rfl rfl ?_
          exact g_zret (pc := 88) hR dX3_readOne_88 rfl (by omega) ⟨by omega, by omega⟩ (Nat.le_of_ble_eq_true rfl) ⟨r3, p3, nm3, m4, od4, (nt_l l3 1), rfl, rfl, (by first | assumption | omega), (by first | assumption | omega), (by first | assumption | omega), (by first | assumption | omega), (by first | assumption | omega), (px_fac_not (l4 := nt_l l3 1) rfl hq0 hz_47 (by rw [if_pos (show (1 - r3 : Int) = 0 by omega)]; rfl)), hL2_78, (by first | assumption | omega), (by first | omega | (simp only [nt_l, List.length_append, List.length_cons, List.length_nil]; omega)), (by first | assumption | omega)⟩
    · have hq1 : T ((p + 1)) = 33 := by omega
      have hlt1 := cr_lt hT (by omega) hq1 (by decide)
      refine g_iload_n (pc := 11) hC 2 dX3_readOne_11 rfl rfl ?_
      refine g_iload_n (pc := 12) hC 0 dX3_readOne_12 rfl rfl ?_
      refine g_iadd (pc := 13) hC dX3_readOne_13 ?_
      refine g_st hC [.int (iI (3))] rfl ?_
      refine g_iconst (pc := 14) hC dX3_readOne_14 ?_
      refine g_icmp_ge (pc := 15) hC 34 dX3_readOne_15 (by decide) (by omega) (by omega) (fun c15 => by exfalso; omega) (fun c15 => ?_)
      refine g_iinc (pc := 18) hC 0 [(2, _), (0, _), (1, _)] dX3_readOne_18 rfl (by decide) rfl ?_
      refine g_lv hC [0, 1, 2] [(2, .int (iI 2)), (0, _), (1, _)] rfl ?_
      skip
      refine g_aload_n (pc := 21) hC 1 dX3_readOne_21 rfl rfl ?_
      refine g_dup (pc := 22) hC dX3_readOne_22 rfl ?_
      refine g_get (pc := 23) hC 0 fl_X3_32 dX3_readOne_23 rfl rfl ?_
      refine g_iconst (pc := 26) hC dX3_readOne_26 ?_
      refine g_iadd (pc := 27) hC dX3_readOne_27 ?_
      refine g_putI (pc := 28) hC 0 [cO _ _ [_, _, _, _], _, _, _, _] fl_X3_32 dX3_readOne_28 rfl (Nat.le_of_ble_eq_true rfl) rfl ?_
      refine g_goto (pc := 31) hC 2 dX3_readOne_31 (by decide) ?_
      refine g_aload_n (pc := 2) hC 1 dX3_readOne_2 rfl rfl ?_
      refine g_fnV (pc := 3) (qr := 0) hC [0, 1, 2] (k_X3_sign _ _ _ _ _ _ _ _ _ (by first | assumption | omega) (by first | assumption | omega) (by first | assumption | omega) (by first | assumption | omega) (by first | assumption | omega) (by first | assumption | omega)) cl_X3_sign wm_X3_28 dX3_readOne_3 rfl rfl rfl rfl rfl (by decide) (by decide) ⟨by omega, by omega⟩ (Nat.le_of_ble_eq_true rfl) rfl rfl ?_
      refine g_name hC (fun y2 e_y2 => ?_)
      have q_y2 : -1 ≤ y2 ∧ y2 ≤ 127 := by rw [e_y2]; exact hT.2.2.1 _
      refine g_bipush (pc := 6) hC (33) dX3_readOne_6 (by decide) ?_
      refine g_icmp_ne (pc := 8) hC 34 dX3_readOne_8 (by decide) (by omega) (by omega) (fun c8 => ?_) (fun c8 => ?_)
      · have hn9 : ¬ T (((p + 1) + 1)) = 33 := by omega
        refine g_aload_n (pc := 34) hC 1 dX3_readOne_34 rfl rfl ?_
        refine g_fnV (pc := 35) (qr := 0) hC [0, 1, 2] (k_X3_sign _ _ _ _ _ _ _ _ _ (by first | assumption | omega) (by first | assumption | omega) (by first | assumption | omega) (by first | assumption | omega) (by first | assumption | omega) (by first | assumption | omega)) cl_X3_sign wm_X3_28 dX3_readOne_35 rfl rfl rfl rfl rfl (by decide) (by decide) ⟨by omega, by omega⟩ (Nat.le_of_ble_eq_true rfl) rfl rfl ?_
        refine g_name hC (fun y99 e_y99 => ?_)
        have q_y99 : -1 ≤ y99 ∧ y99 ≤ 127 := by rw [e_y99]; exact hT.2.2.1 _
        refine g_bipush (pc := 38) hC (40) dX3_readOne_38 (by decide) ?_
        refine g_icmp_ne (pc := 40) hC 53 dX3_readOne_40 (by decide) (by omega) (by omega) (fun c40 => ?_) (fun c40 => ?_)
        · refine g_aload_n (pc := 53) hC 1 dX3_readOne_53 rfl rfl ?_
          refine g_callV (pc := 54) (qr := 0) hC [0, 1, 2, 3, 4] (k_X3_readTest _ _ _ _ _ _ _ _ _ _ _ _ _ _ (by first | assumption | omega) (by first | assumption | omega) (by first | assumption | omega) (by first | assumption | omega) (by first | assumption | omega) (by first | assumption | omega) (by first | assumption | omega) (by first | assumption | omega) (by first | assumption | omega) (by first | assumption | omega) (by first | assumption | omega) (by first | assumption | omega)) cl_X3_readTest wm_X3_71 dX3_readOne_54 rfl rfl rfl rfl rfl (by decide) (by decide) (by omega) (Nat.le_of_ble_eq_true rfl) rfl (fun v9 w9 hq9 => ?_)
          obtain ⟨r3, p3, nm3, m3, od3, l3, rfl, rfl, r_r3, r_p3, r_nm3, r_m3, r_od3, hz_54, hL2_54, hb_54, hl2_54, hnm2_54⟩ := hq9
          refine g_ws hC [cO g0 3 [.ref g1, .ref g2, .int (iI nm3), .int (iI p3)], cO g1 6 [.ref g3, .int (iI e)], cA K g3 100 sg, cO g2 1 [.ref g4, .int (iI m3), .int (iI rc)], cA K g4 100 od3] rfl ?_
          refine g_st hC [.int (iI r3)] rfl ?_
          refine g_istore_n (pc := 57) hC [(3, _), (2, _), (0, _), (1, _)] dX3_readOne_57 rfl (by decide) rfl ?_
          refine g_iconst (pc := 58) hC dX3_readOne_58 ?_
          refine g_istore (pc := 59) hC [(4, _), (3, _), (2, _), (0, _), (1, _)] dX3_readOne_59 (by decide) rfl ?_
          refine g_iload (pc := 61) hC 0 dX3_readOne_61 rfl ?_
          refine g_iload_n (pc := 63) hC 2 dX3_readOne_63 rfl rfl ?_
          refine g_icmp_ge (pc := 64) hC 87 dX3_readOne_64 (by decide) (by omega) (by omega) (fun c64 => by exfalso; omega) (fun c64 => ?_)
          refine g_iload_n (pc := 67) hC 1 dX3_readOne_67 rfl rfl ?_
          refine g_if_eq (pc := 68) hC 87 dX3_readOne_68 (by decide) (by omega) (fun c68 => ?_) (fun c68 => ?_)
          · refine g_iload_n (pc := 87) hC 1 dX3_readOne_87 rfl rfl ?_
            exact g_zret (pc := 88) hR dX3_readOne_88 rfl (by omega) ⟨by omega, by omega⟩ (Nat.le_of_ble_eq_true rfl) ⟨r3, p3, nm3, m3, od3, l3, rfl, rfl, (by first | assumption | omega), (by first | assumption | omega), (by first | assumption | omega), (by first | assumption | omega), (by first | assumption | omega), (px_fac_not (l4 := l3) rfl hq0 (px_fac_not (l4 := l3) rfl hq1 (px_fac_t rfl hn9 (by omega) hz_54) (by rw [if_neg (show ¬ (1 - r3 : Int) = 0 by omega)])) (by rw [if_neg (show ¬ (1 - r3 : Int) = 0 by omega)])), hL2_54, (by first | assumption | omega), (by first | assumption | omega), (by first | assumption | omega)⟩
          · refine g_aload_n (pc := 71) hC 3 dX3_readOne_71 rfl rfl ?_
            refine g_get (pc := 72) hC 0 fl_X3_15 dX3_readOne_72 rfl rfl ?_
            refine g_bipush (pc := 75) hC (6) dX3_readOne_75 (by decide) ?_
            refine g_iconst (pc := 77) hC dX3_readOne_77 ?_
            refine g_callV (pc := 78) (qr := 3) hC [3, 4] (k_X1_put _ _ _ _ _ _ _ (nt_l l3 0) (-1) (by first | assumption | omega) (by first | assumption | omega) (by first | assumption | omega) (by first | assumption | omega) (by first | assumption | omega) (by first | omega | (simp only [nt_l, List.length_append, List.length_cons, List.length_nil]; omega)) (by decide +kernel) (by decide)) cl_X1_put wm_X3_61 dX3_readOne_78 rfl rfl rfl rfl rfl (by decide) (by decide) (by omega) (Nat.le_of_ble_eq_true rfl) rfl (fun v9 w9 hq9 => ?_)
            obtain ⟨m4, od4, rfl, rfl, r_m4, r_od4, hL2_78, hm2_78⟩ := hq9
            refine g_ws hC [cO g0 3 [.ref g1, .ref g2, .int (iI nm3), .int (iI p3)], cO g1 6 [.ref g3, .int (iI e)], cA K g3 100 sg, cO g2 1 [.ref g4, .int (iI m4), .int (iI rc)], cA K g4 100 od4] rfl ?_
            refine g_st hC [] rfl ?_
            refine g_iinc (pc := 81) hC 0 [(4, _), (3, _), (2, _), (0, _), (1, _)] dX3_readOne_81 rfl (by decide) rfl ?_
            refine g_lv hC [0, 1, 2, 3, 4] [(4, .int (iI 1)), (3, _), (2, _), (0, _), (1, _)] rfl ?_
            refine g_goto (pc := 84) hC 61 dX3_readOne_84 (by decide) ?_
            refine g_iload (pc := 61) hC 0 dX3_readOne_61 rfl ?_
            refine g_iload_n (pc := 63) hC 2 dX3_readOne_63 rfl rfl ?_
            refine g_icmp_ge (pc := 64) hC 87 dX3_readOne_64 (by decide) (by omega) (by omega) (fun c64 => by exfalso; omega) (fun c64 => ?_)
            refine g_iload_n (pc := 67) hC 1 dX3_readOne_67 rfl rfl ?_
            refine g_if_eq (pc := 68) hC 87 dX3_readOne_68 (by decide) (by omega) (fun c68 => by exfalso; omega) (fun c68 => ?_)
            refine g_aload_n (pc := 71) hC 3 dX3_readOne_71 rfl rfl ?_
            refine g_get (pc := 72) hC 0 fl_X3_15 dX3_readOne_72 rfl rfl ?_
            refine g_bipush (pc := 75) hC (6) dX3_readOne_75 (by decide) ?_
            refine g_iconst (pc := 77) hC dX3_readOne_77 ?_
            refine g_callV (pc := 78) (qr := 3) hC [3, 4] (k_X1_put _ _ _ _ _ _ _ (nt_l l3 1) (-1) (by first | assumption | omega) (by first | assumption | omega) (by first | assumption | omega) (by first | assumption | omega) (by first | assumption | omega) (by first | omega | (simp only [nt_l, List.length_append, List.length_cons, List.length_nil]; omega)) (by decide +kernel) (by decide)) cl_X1_put wm_X3_61 dX3_readOne_78 rfl rfl rfl rfl rfl (by decide) (by decide) (by omega) (Nat.le_of_ble_eq_true rfl) rfl (fun v9 w9 hq9 => ?_)
            obtain ⟨m4, od4, rfl, rfl, r_m4, r_od4, hL2_78, hm2_78⟩ := hq9
            refine g_ws hC [cO g0 3 [.ref g1, .ref g2, .int (iI nm3), .int (iI p3)], cO g1 6 [.ref g3, .int (iI e)], cA K g3 100 sg, cO g2 1 [.ref g4, .int (iI m4), .int (iI rc)], cA K g4 100 od4] rfl ?_
            refine g_st hC [] rfl ?_
            refine g_iinc (pc := 81) hC 0 [(4, _), (3, _), (2, _), (0, _), (1, _)] dX3_readOne_81 rfl (by decide) rfl ?_
            refine g_lv hC [0, 1, 2, 3, 4] [(4, .int (iI 2)), (3, _), (2, _), (0, _), (1, _)] rfl ?_
            refine g_goto (pc := 84) hC 61 dX3_readOne_84 (by decide) ?_
            refine g_iload (pc := 61) hC 0 dX3_readOne_61 rfl ?_
            refine g_iload_n (pc := 63) hC 2 dX3_readOne_63 rfl rfl ?_
            refine g_icmp_ge (pc := 64) hC 87 dX3_readOne_64 (by decide) (by omega) (by omega) (fun c64 => ?_) (fun c64 => by exfalso; omega)
            refine g_iload_n (pc := 87) hC 1 dX3_readOne_87 rfl rfl ?_
            exact g_zret (pc := 88) hR dX3_readOne_88 rfl (by omega) ⟨by omega, by omega⟩ (Nat.le_of_ble_eq_true rfl) ⟨r3, p3, nm3, m4, od4, (nt_l l3 2), rfl, rfl, (by first | assumption | omega), (by first | assumption | omega), (by first | assumption | omega), (by first | assumption | omega), (by first | assumption | omega), (px_fac_not (l4 := nt_l l3 2) rfl hq0 (px_fac_not (l4 := nt_l l3 1) rfl hq1 (px_fac_t rfl hn9 (by omega) hz_54) (by rw [if_pos (show (1 - r3 : Int) = 0 by omega)]; rfl)) (by rw [if_pos (show (1 - r3 : Int) = 0 by omega)]; rfl)), hL2_78, (by first | assumption | omega), (by first | omega | (simp only [nt_l, List.length_append, List.length_cons, List.length_nil]; omega)), (by first | assumption | omega)⟩
        · have hlt9 := cr_lt hT (by omega) (show T (((p + 1) + 1)) = 40 by omega) (by decide)
          refine g_aload_n (pc := 43) hC 1 dX3_readOne_43 rfl rfl ?_
          refine g_iload_n (pc := 44) hC 2 dX3_readOne_44 rfl rfl ?_
          refine g_iload_n (pc := 45) hC 0 dX3_readOne_45 rfl rfl ?_
          refine g_iadd (pc := 46) hC dX3_readOne_46 ?_
          refine g_st hC [.int (iI (4)), _] rfl ?_
          refine g_callV (pc := 47) (qr := 0) hC [0, 1, 2, 3, 4] (k_X3_readInBrackets_4 _ _ _ _ _ _ _ _ _ _ _ _ _ _ (by first | assumption | omega) (by first | assumption | omega) (by first | assumption | omega) (by first | assumption | omega) (by first | assumption | omega) (by first | assumption | omega) (by first | assumption | omega) (by first | assumption | omega) (by first | assumption | omega) (by first | assumption | omega) (by first | assumption | omega) (by first | assumption | omega) (by first | assumption | omega)) cl_X3_readInBrackets wm_X3_68 dX3_readOne_47 rfl rfl rfl rfl rfl (by decide) (by decide) (by omega) (Nat.le_of_ble_eq_true rfl) rfl (fun v9 w9 hq9 => ?_)
          obtain ⟨r3, p3, nm3, m3, od3, l3, rfl, rfl, r_r3, r_p3, r_nm3, r_m3, r_od3, hz_47, hL2_47, hb_47, hl2_47, hnm2_47⟩ := hq9
          refine g_ws hC [cO g0 3 [.ref g1, .ref g2, .int (iI nm3), .int (iI p3)], cO g1 6 [.ref g3, .int (iI e)], cA K g3 100 sg, cO g2 1 [.ref g4, .int (iI m3), .int (iI rc)], cA K g4 100 od3] rfl ?_
          refine g_st hC [.int (iI r3)] rfl ?_
          refine g_goto (pc := 50) hC 57 dX3_readOne_50 (by decide) ?_
          refine g_istore_n (pc := 57) hC [(3, _), (2, _), (0, _), (1, _)] dX3_readOne_57 rfl (by decide) rfl ?_
          refine g_iconst (pc := 58) hC dX3_readOne_58 ?_
          refine g_istore (pc := 59) hC [(4, _), (3, _), (2, _), (0, _), (1, _)] dX3_readOne_59 (by decide) rfl ?_
          refine g_iload (pc := 61) hC 0 dX3_readOne_61 rfl ?_
          refine g_iload_n (pc := 63) hC 2 dX3_readOne_63 rfl rfl ?_
          refine g_icmp_ge (pc := 64) hC 87 dX3_readOne_64 (by decide) (by omega) (by omega) (fun c64 => by exfalso; omega) (fun c64 => ?_)
          refine g_iload_n (pc := 67) hC 1 dX3_readOne_67 rfl rfl ?_
          refine g_if_eq (pc := 68) hC 87 dX3_readOne_68 (by decide) (by omega) (fun c68 => ?_) (fun c68 => ?_)
          · refine g_iload_n (pc := 87) hC 1 dX3_readOne_87 rfl rfl ?_
            exact g_zret (pc := 88) hR dX3_readOne_88 rfl (by omega) ⟨by omega, by omega⟩ (Nat.le_of_ble_eq_true rfl) ⟨r3, p3, nm3, m3, od3, l3, rfl, rfl, (by first | assumption | omega), (by first | assumption | omega), (by first | assumption | omega), (by first | assumption | omega), (by first | assumption | omega), (px_fac_not (l4 := l3) rfl hq0 (px_fac_not (l4 := l3) rfl hq1 hz_47 (by rw [if_neg (show ¬ (1 - r3 : Int) = 0 by omega)])) (by rw [if_neg (show ¬ (1 - r3 : Int) = 0 by omega)])), hL2_47, (by first | assumption | omega), (by first | assumption | omega), (by first | assumption | omega)⟩
          · refine g_aload_n (pc := 71) hC 3 dX3_readOne_71 rfl rfl ?_
            refine g_get (pc := 72) hC 0 fl_X3_15 dX3_readOne_72 rfl rfl ?_
            refine g_bipush (pc := 75) hC (6) dX3_readOne_75 (by decide) ?_
            refine g_iconst (pc := 77) hC dX3_readOne_77 ?_
            refine g_callV (pc := 78) (qr := 3) hC [3, 4] (k_X1_put _ _ _ _ _ _ _ (nt_l l3 0) (-1) (by first | assumption | omega) (by first | assumption | omega) (by first | assumption | omega) (by first | assumption | omega) (by first | assumption | omega) (by first | omega | (simp only [nt_l, List.length_append, List.length_cons, List.length_nil]; omega)) (by decide +kernel) (by decide)) cl_X1_put wm_X3_61 dX3_readOne_78 rfl rfl rfl rfl rfl (by decide) (by decide) (by omega) (Nat.le_of_ble_eq_true rfl) rfl (fun v9 w9 hq9 => ?_)
            obtain ⟨m4, od4, rfl, rfl, r_m4, r_od4, hL2_78, hm2_78⟩ := hq9
            refine g_ws hC [cO g0 3 [.ref g1, .ref g2, .int (iI nm3), .int (iI p3)], cO g1 6 [.ref g3, .int (iI e)], cA K g3 100 sg, cO g2 1 [.ref g4, .int (iI m4), .int (iI rc)], cA K g4 100 od4] rfl ?_
            refine g_st hC [] rfl ?_
            refine g_iinc (pc := 81) hC 0 [(4, _), (3, _), (2, _), (0, _), (1, _)] dX3_readOne_81 rfl (by decide) rfl ?_
            refine g_lv hC [0, 1, 2, 3, 4] [(4, .int (iI 1)), (3, _), (2, _), (0, _), (1, _)] rfl ?_
            refine g_goto (pc := 84) hC 61 dX3_readOne_84 (by decide) ?_
            refine g_iload (pc := 61) hC 0 dX3_readOne_61 rfl ?_
            refine g_iload_n (pc := 63) hC 2 dX3_readOne_63 rfl rfl ?_
            refine g_icmp_ge (pc := 64) hC 87 dX3_readOne_64 (by decide) (by omega) (by omega) (fun c64 => by exfalso; omega) (fun c64 => ?_)
            refine g_iload_n (pc := 67) hC 1 dX3_readOne_67 rfl rfl ?_
            refine g_if_eq (pc := 68) hC 87 dX3_readOne_68 (by decide) (by omega) (fun c68 => by exfalso; omega) (fun c68 => ?_)
            refine g_aload_n (pc := 71) hC 3 dX3_readOne_71 rfl rfl ?_
            refine g_get (pc := 72) hC 0 fl_X3_15 dX3_readOne_72 rfl rfl ?_
            refine g_bipush (pc := 75) hC (6) dX3_readOne_75 (by decide) ?_
            refine g_iconst (pc := 77) hC dX3_readOne_77 ?_
            refine g_callV (pc := 78) (qr := 3) hC [3, 4] (k_X1_put _ _ _ _ _ _ _ (nt_l l3 1) (-1) (by first | assumption | omega) (by first | assumption | omega) (by first | assumption | omega) (by first | assumption | omega) (by first | assumption | omega) (by first | omega | (simp only [nt_l, List.length_append, List.length_cons, List.length_nil]; omega)) (by decide +kernel) (by decide)) cl_X1_put wm_X3_61 dX3_readOne_78 rfl rfl rfl rfl rfl (by decide) (by decide) (by omega) (Nat.le_of_ble_eq_true rfl) rfl (fun v9 w9 hq9 => ?_)
            obtain ⟨m4, od4, rfl, rfl, r_m4, r_od4, hL2_78, hm2_78⟩ := hq9
            refine g_ws hC [cO g0 3 [.ref g1, .ref g2, .int (iI nm3), .int (iI p3)], cO g1 6 [.ref g3, .int (iI e)], cA K g3 100 sg, cO g2 1 [.ref g4, .int (iI m4), .int (iI rc)], cA K g4 100 od4] rfl ?_
            refine g_st hC [] rfl ?_
            refine g_iinc (pc := 81) hC 0 [(4, _), (3, _), (2, _), (0, _), (1, _)] dX3_readOne_81 rfl (by decide) rfl ?_
            refine g_lv hC [0, 1, 2, 3, 4] [(4, .int (iI 2)), (3, _), (2, _), (0, _), (1, _)] rfl ?_
            refine g_goto (pc := 84) hC 61 dX3_readOne_84 (by decide) ?_
            refine g_iload (pc := 61) hC 0 dX3_readOne_61 rfl ?_
            refine g_iload_n (pc := 63) hC 2 dX3_readOne_63 rfl rfl ?_
            refine g_icmp_ge (pc := 64) hC 87 dX3_readOne_64 (by decide) (by omega) (by omega) (fun c64 => ?_) (fun c64 => by exfalso; omega)
            refine g_iload_n (pc := 87) hC 1 dX3_readOne_87 rfl rfl ?_
            exact g_zret (pc := 88) hR dX3_readOne_88 rfl (by omega) ⟨by omega, by omega⟩ (Nat.le_of_ble_eq_true rfl) ⟨r3, p3, nm3, m4, od4, (nt_l l3 2), rfl, rfl, (by first | assumption | omega), (by first | assumption | omega), (by first | assumption | omega), (by first | assumption | omega), (by first | assumption | omega), (px_fac_not (l4 := nt_l l3 2) rfl hq0 (px_fac_not (l4 := nt_l l3 1) rfl hq1 hz_47 (by rw [if_pos (show (1 - r3 : Int) = 0 by omega)]; rfl)) (by rw [if_pos (show (1 - r3 : Int) = 0 by omega)]; rfl)), hL2_78, (by first | assumption | omega), (by first | omega | (simp only [nt_l, List.length_append, List.length_cons, List.length_nil]; omega)), (by first | assumption | omega)⟩
      · have hq2 : T (((p + 1) + 1)) = 33 := by omega
        have hlt2 := cr_lt hT (by omega) hq2 (by decide)
        refine g_iload_n (pc := 11) hC 2 dX3_readOne_11 rfl rfl ?_
        refine g_iload_n (pc := 12) hC 0 dX3_readOne_12 rfl rfl ?_
        refine g_iadd (pc := 13) hC dX3_readOne_13 ?_
        refine g_st hC [.int (iI (4))] rfl ?_
        refine g_iconst (pc := 14) hC dX3_readOne_14 ?_
        refine g_icmp_ge (pc := 15) hC 34 dX3_readOne_15 (by decide) (by omega) (by omega) (fun c15 => by exfalso; omega) (fun c15 => ?_)
        refine g_iinc (pc := 18) hC 0 [(2, _), (0, _), (1, _)] dX3_readOne_18 rfl (by decide) rfl ?_
        refine g_lv hC [0, 1, 2] [(2, .int (iI 3)), (0, _), (1, _)] rfl ?_
        skip
        refine g_aload_n (pc := 21) hC 1 dX3_readOne_21 rfl rfl ?_
        refine g_dup (pc := 22) hC dX3_readOne_22 rfl ?_
        refine g_get (pc := 23) hC 0 fl_X3_32 dX3_readOne_23 rfl rfl ?_
        refine g_iconst (pc := 26) hC dX3_readOne_26 ?_
        refine g_iadd (pc := 27) hC dX3_readOne_27 ?_
        refine g_putI (pc := 28) hC 0 [cO _ _ [_, _, _, _], _, _, _, _] fl_X3_32 dX3_readOne_28 rfl (Nat.le_of_ble_eq_true rfl) rfl ?_
        refine g_goto (pc := 31) hC 2 dX3_readOne_31 (by decide) ?_
        refine g_aload_n (pc := 2) hC 1 dX3_readOne_2 rfl rfl ?_
        refine g_fnV (pc := 3) (qr := 0) hC [0, 1, 2] (k_X3_sign _ _ _ _ _ _ _ _ _ (by first | assumption | omega) (by first | assumption | omega) (by first | assumption | omega) (by first | assumption | omega) (by first | assumption | omega) (by first | assumption | omega)) cl_X3_sign wm_X3_28 dX3_readOne_3 rfl rfl rfl rfl rfl (by decide) (by decide) ⟨by omega, by omega⟩ (Nat.le_of_ble_eq_true rfl) rfl rfl ?_
        refine g_name hC (fun y3 e_y3 => ?_)
        have q_y3 : -1 ≤ y3 ∧ y3 ≤ 127 := by rw [e_y3]; exact hT.2.2.1 _
        refine g_bipush (pc := 6) hC (33) dX3_readOne_6 (by decide) ?_
        refine g_icmp_ne (pc := 8) hC 34 dX3_readOne_8 (by decide) (by omega) (by omega) (fun c8 => ?_) (fun c8 => ?_)
        · have hn9 : ¬ T ((((p + 1) + 1) + 1)) = 33 := by omega
          refine g_aload_n (pc := 34) hC 1 dX3_readOne_34 rfl rfl ?_
          refine g_fnV (pc := 35) (qr := 0) hC [0, 1, 2] (k_X3_sign _ _ _ _ _ _ _ _ _ (by first | assumption | omega) (by first | assumption | omega) (by first | assumption | omega) (by first | assumption | omega) (by first | assumption | omega) (by first | assumption | omega)) cl_X3_sign wm_X3_28 dX3_readOne_35 rfl rfl rfl rfl rfl (by decide) (by decide) ⟨by omega, by omega⟩ (Nat.le_of_ble_eq_true rfl) rfl rfl ?_
          refine g_name hC (fun y99 e_y99 => ?_)
          have q_y99 : -1 ≤ y99 ∧ y99 ≤ 127 := by rw [e_y99]; exact hT.2.2.1 _
          refine g_bipush (pc := 38) hC (40) dX3_readOne_38 (by decide) ?_
          refine g_icmp_ne (pc := 40) hC 53 dX3_readOne_40 (by decide) (by omega) (by omega) (fun c40 => ?_) (fun c40 => ?_)
          · refine g_aload_n (pc := 53) hC 1 dX3_readOne_53 rfl rfl ?_
            refine g_callV (pc := 54) (qr := 0) hC [0, 1, 2, 3, 4] (k_X3_readTest _ _ _ _ _ _ _ _ _ _ _ _ _ _ (by first | assumption | omega) (by first | assumption | omega) (by first | assumption | omega) (by first | assumption | omega) (by first | assumption | omega) (by first | assumption | omega) (by first | assumption | omega) (by first | assumption | omega) (by first | assumption | omega) (by first | assumption | omega) (by first | assumption | omega) (by first | assumption | omega)) cl_X3_readTest wm_X3_71 dX3_readOne_54 rfl rfl rfl rfl rfl (by decide) (by decide) (by omega) (Nat.le_of_ble_eq_true rfl) rfl (fun v9 w9 hq9 => ?_)
            obtain ⟨r3, p3, nm3, m3, od3, l3, rfl, rfl, r_r3, r_p3, r_nm3, r_m3, r_od3, hz_54, hL2_54, hb_54, hl2_54, hnm2_54⟩ := hq9
            refine g_ws hC [cO g0 3 [.ref g1, .ref g2, .int (iI nm3), .int (iI p3)], cO g1 6 [.ref g3, .int (iI e)], cA K g3 100 sg, cO g2 1 [.ref g4, .int (iI m3), .int (iI rc)], cA K g4 100 od3] rfl ?_
            refine g_st hC [.int (iI r3)] rfl ?_
            refine g_istore_n (pc := 57) hC [(3, _), (2, _), (0, _), (1, _)] dX3_readOne_57 rfl (by decide) rfl ?_
            refine g_iconst (pc := 58) hC dX3_readOne_58 ?_
            refine g_istore (pc := 59) hC [(4, _), (3, _), (2, _), (0, _), (1, _)] dX3_readOne_59 (by decide) rfl ?_
            refine g_iload (pc := 61) hC 0 dX3_readOne_61 rfl ?_
            refine g_iload_n (pc := 63) hC 2 dX3_readOne_63 rfl rfl ?_
            refine g_icmp_ge (pc := 64) hC 87 dX3_readOne_64 (by decide) (by omega) (by omega) (fun c64 => by exfalso; omega) (fun c64 => ?_)
            refine g_iload_n (pc := 67) hC 1 dX3_readOne_67 rfl rfl ?_
            refine g_if_eq (pc := 68) hC 87 dX3_readOne_68 (by decide) (by omega) (fun c68 => ?_) (fun c68 => ?_)
            · refine g_iload_n (pc := 87) hC 1 dX3_readOne_87 rfl rfl ?_
              exact g_zret (pc := 88) hR dX3_readOne_88 rfl (by omega) ⟨by omega, by omega⟩ (Nat.le_of_ble_eq_true rfl) ⟨r3, p3, nm3, m3, od3, l3, rfl, rfl, (by first | assumption | omega), (by first | assumption | omega), (by first | assumption | omega), (by first | assumption | omega), (by first | assumption | omega), (px_fac_not (l4 := l3) rfl hq0 (px_fac_not (l4 := l3) rfl hq1 (px_fac_not (l4 := l3) rfl hq2 (px_fac_t rfl hn9 (by omega) hz_54) (by rw [if_neg (show ¬ (1 - r3 : Int) = 0 by omega)])) (by rw [if_neg (show ¬ (1 - r3 : Int) = 0 by omega)])) (by rw [if_neg (show ¬ (1 - r3 : Int) = 0 by omega)])), hL2_54, (by first | assumption | omega), (by first | assumption | omega), (by first | assumption | omega)⟩
            · refine g_aload_n (pc := 71) hC 3 dX3_readOne_71 rfl rfl ?_
              refine g_get (pc := 72) hC 0 fl_X3_15 dX3_readOne_72 rfl rfl ?_
              refine g_bipush (pc := 75) hC (6) dX3_readOne_75 (by decide) ?_
              refine g_iconst (pc := 77) hC dX3_readOne_77 ?_
              refine g_callV (pc := 78) (qr := 3) hC [3, 4] (k_X1_put _ _ _ _ _ _ _ (nt_l l3 0) (-1) (by first | assumption | omega) (by first | assumption | omega) (by first | assumption | omega) (by first | assumption | omega) (by first | assumption | omega) (by first | omega | (simp only [nt_l, List.length_append, List.length_cons, List.length_nil]; omega)) (by decide +kernel) (by decide)) cl_X1_put wm_X3_61 dX3_readOne_78 rfl rfl rfl rfl rfl (by decide) (by decide) (by omega) (Nat.le_of_ble_eq_true rfl) rfl (fun v9 w9 hq9 => ?_)
              obtain ⟨m4, od4, rfl, rfl, r_m4, r_od4, hL2_78, hm2_78⟩ := hq9
              refine g_ws hC [cO g0 3 [.ref g1, .ref g2, .int (iI nm3), .int (iI p3)], cO g1 6 [.ref g3, .int (iI e)], cA K g3 100 sg, cO g2 1 [.ref g4, .int (iI m4), .int (iI rc)], cA K g4 100 od4] rfl ?_
              refine g_st hC [] rfl ?_
              refine g_iinc (pc := 81) hC 0 [(4, _), (3, _), (2, _), (0, _), (1, _)] dX3_readOne_81 rfl (by decide) rfl ?_
              refine g_lv hC [0, 1, 2, 3, 4] [(4, .int (iI 1)), (3, _), (2, _), (0, _), (1, _)] rfl ?_
              refine g_goto (pc := 84) hC 61 dX3_readOne_84 (by decide) ?_
              refine g_iload (pc := 61) hC 0 dX3_readOne_61 rfl ?_
              refine g_iload_n (pc := 63) hC 2 dX3_readOne_63 rfl rfl ?_
              refine g_icmp_ge (pc := 64) hC 87 dX3_readOne_64 (by decide) (by omega) (by omega) (fun c64 => by exfalso; omega) (fun c64 => ?_)
              refine g_iload_n (pc := 67) hC 1 dX3_readOne_67 rfl rfl ?_
              refine g_if_eq (pc := 68) hC 87 dX3_readOne_68 (by decide) (by omega) (fun c68 => by exfalso; omega) (fun c68 => ?_)
              refine g_aload_n (pc := 71) hC 3 dX3_readOne_71 rfl rfl ?_
              refine g_get (pc := 72) hC 0 fl_X3_15 dX3_readOne_72 rfl rfl ?_
              refine g_bipush (pc := 75) hC (6) dX3_readOne_75 (by decide) ?_
              refine g_iconst (pc := 77) hC dX3_readOne_77 ?_
              refine g_callV (pc := 78) (qr := 3) hC [3, 4] (k_X1_put _ _ _ _ _ _ _ (nt_l l3 1) (-1) (by first | assumption | omega) (by first | assumption | omega) (by first | assumption | omega) (by first | assumption | omega) (by first | assumption | omega) (by first | omega | (simp only [nt_l, List.length_append, List.length_cons, List.length_nil]; omega)) (by decide +kernel) (by decide)) cl_X1_put wm_X3_61 dX3_readOne_78 rfl rfl rfl rfl rfl (by decide) (by decide) (by omega) (Nat.le_of_ble_eq_true rfl) rfl (fun v9 w9 hq9 => ?_)
              obtain ⟨m4, od4, rfl, rfl, r_m4, r_od4, hL2_78, hm2_78⟩ := hq9
              refine g_ws hC [cO g0 3 [.ref g1, .ref g2, .int (iI nm3), .int (iI p3)], cO g1 6 [.ref g3, .int (iI e)], cA K g3 100 sg, cO g2 1 [.ref g4, .int (iI m4), .int (iI rc)], cA K g4 100 od4] rfl ?_
              refine g_st hC [] rfl ?_
              refine g_iinc (pc := 81) hC 0 [(4, _), (3, _), (2, _), (0, _), (1, _)] dX3_readOne_81 rfl (by decide) rfl ?_
              refine g_lv hC [0, 1, 2, 3, 4] [(4, .int (iI 2)), (3, _), (2, _), (0, _), (1, _)] rfl ?_
              refine g_goto (pc := 84) hC 61 dX3_readOne_84 (by decide) ?_
              refine g_iload (pc := 61) hC 0 dX3_readOne_61 rfl ?_
              refine g_iload_n (pc := 63) hC 2 dX3_readOne_63 rfl rfl ?_
              refine g_icmp_ge (pc := 64) hC 87 dX3_readOne_64 (by decide) (by omega) (by omega) (fun c64 => by exfalso; omega) (fun c64 => ?_)
              refine g_iload_n (pc := 67) hC 1 dX3_readOne_67 rfl rfl ?_
              refine g_if_eq (pc := 68) hC 87 dX3_readOne_68 (by decide) (by omega) (fun c68 => by exfalso; omega) (fun c68 => ?_)
              refine g_aload_n (pc := 71) hC 3 dX3_readOne_71 rfl rfl ?_
              refine g_get (pc := 72) hC 0 fl_X3_15 dX3_readOne_72 rfl rfl ?_
              refine g_bipush (pc := 75) hC (6) dX3_readOne_75 (by decide) ?_
              refine g_iconst (pc := 77) hC dX3_readOne_77 ?_
              refine g_callV (pc := 78) (qr := 3) hC [3, 4] (k_X1_put _ _ _ _ _ _ _ (nt_l l3 2) (-1) (by first | assumption | omega) (by first | assumption | omega) (by first | assumption | omega) (by first | assumption | omega) (by first | assumption | omega) (by first | omega | (simp only [nt_l, List.length_append, List.length_cons, List.length_nil]; omega)) (by decide +kernel) (by decide)) cl_X1_put wm_X3_61 dX3_readOne_78 rfl rfl rfl rfl rfl (by decide) (by decide) (by omega) (Nat.le_of_ble_eq_true rfl) rfl (fun v9 w9 hq9 => ?_)
              obtain ⟨m4, od4, rfl, rfl, r_m4, r_od4, hL2_78, hm2_78⟩ := hq9
              refine g_ws hC [cO g0 3 [.ref g1, .ref g2, .int (iI nm3), .int (iI p3)], cO g1 6 [.ref g3, .int (iI e)], cA K g3 100 sg, cO g2 1 [.ref g4, .int (iI m4), .int (iI rc)], cA K g4 100 od4] rfl ?_
              refine g_st hC [] rfl ?_
              refine g_iinc (pc := 81) hC 0 [(4, _), (3, _), (2, _), (0, _), (1, _)] dX3_readOne_81 rfl (by decide) rfl ?_
              refine g_lv hC [0, 1, 2, 3, 4] [(4, .int (iI 3)), (3, _), (2, _), (0, _), (1, _)] rfl ?_
              refine g_goto (pc := 84) hC 61 dX3_readOne_84 (by decide) ?_
              refine g_iload (pc := 61) hC 0 dX3_readOne_61 rfl ?_
              refine g_iload_n (pc := 63) hC 2 dX3_readOne_63 rfl rfl ?_
              refine g_icmp_ge (pc := 64) hC 87 dX3_readOne_64 (by decide) (by omega) (by omega) (fun c64 => ?_) (fun c64 => by exfalso; omega)
              refine g_iload_n (pc := 87) hC 1 dX3_readOne_87 rfl rfl ?_
              exact g_zret (pc := 88) hR dX3_readOne_88 rfl (by omega) ⟨by omega, by omega⟩ (Nat.le_of_ble_eq_true rfl) ⟨r3, p3, nm3, m4, od4, (nt_l l3 3), rfl, rfl, (by first | assumption | omega), (by first | assumption | omega), (by first | assumption | omega), (by first | assumption | omega), (by first | assumption | omega), (px_fac_not (l4 := nt_l l3 3) rfl hq0 (px_fac_not (l4 := nt_l l3 2) rfl hq1 (px_fac_not (l4 := nt_l l3 1) rfl hq2 (px_fac_t rfl hn9 (by omega) hz_54) (by rw [if_pos (show (1 - r3 : Int) = 0 by omega)]; rfl)) (by rw [if_pos (show (1 - r3 : Int) = 0 by omega)]; rfl)) (by rw [if_pos (show (1 - r3 : Int) = 0 by omega)]; rfl)), hL2_78, (by first | assumption | omega), (by first | omega | (simp only [nt_l, List.length_append, List.length_cons, List.length_nil]; omega)), (by first | assumption | omega)⟩
          · have hlt9 := cr_lt hT (by omega) (show T ((((p + 1) + 1) + 1)) = 40 by omega) (by decide)
            refine g_aload_n (pc := 43) hC 1 dX3_readOne_43 rfl rfl ?_
            refine g_iload_n (pc := 44) hC 2 dX3_readOne_44 rfl rfl ?_
            refine g_iload_n (pc := 45) hC 0 dX3_readOne_45 rfl rfl ?_
            refine g_iadd (pc := 46) hC dX3_readOne_46 ?_
            refine g_st hC [.int (iI (5)), _] rfl ?_
            refine g_callV (pc := 47) (qr := 0) hC [0, 1, 2, 3, 4] (k_X3_readInBrackets_5 _ _ _ _ _ _ _ _ _ _ _ _ _ _ (by first | assumption | omega) (by first | assumption | omega) (by first | assumption | omega) (by first | assumption | omega) (by first | assumption | omega) (by first | assumption | omega) (by first | assumption | omega) (by first | assumption | omega) (by first | assumption | omega) (by first | assumption | omega) (by first | assumption | omega) (by first | assumption | omega) (by first | assumption | omega)) cl_X3_readInBrackets wm_X3_68 dX3_readOne_47 rfl rfl rfl rfl rfl (by decide) (by decide) (by omega) (Nat.le_of_ble_eq_true rfl) rfl (fun v9 w9 hq9 => ?_)
            obtain ⟨r3, p3, nm3, m3, od3, l3, rfl, rfl, r_r3, r_p3, r_nm3, r_m3, r_od3, hz_47, hL2_47, hb_47, hl2_47, hnm2_47⟩ := hq9
            refine g_ws hC [cO g0 3 [.ref g1, .ref g2, .int (iI nm3), .int (iI p3)], cO g1 6 [.ref g3, .int (iI e)], cA K g3 100 sg, cO g2 1 [.ref g4, .int (iI m3), .int (iI rc)], cA K g4 100 od3] rfl ?_
            refine g_st hC [.int (iI r3)] rfl ?_
            refine g_goto (pc := 50) hC 57 dX3_readOne_50 (by decide) ?_
            refine g_istore_n (pc := 57) hC [(3, _), (2, _), (0, _), (1, _)] dX3_readOne_57 rfl (by decide) rfl ?_
            refine g_iconst (pc := 58) hC dX3_readOne_58 ?_
            refine g_istore (pc := 59) hC [(4, _), (3, _), (2, _), (0, _), (1, _)] dX3_readOne_59 (by decide) rfl ?_
            refine g_iload (pc := 61) hC 0 dX3_readOne_61 rfl ?_
            refine g_iload_n (pc := 63) hC 2 dX3_readOne_63 rfl rfl ?_
            refine g_icmp_ge (pc := 64) hC 87 dX3_readOne_64 (by decide) (by omega) (by omega) (fun c64 => by exfalso; omega) (fun c64 => ?_)
            refine g_iload_n (pc := 67) hC 1 dX3_readOne_67 rfl rfl ?_
            refine g_if_eq (pc := 68) hC 87 dX3_readOne_68 (by decide) (by omega) (fun c68 => ?_) (fun c68 => ?_)
            · refine g_iload_n (pc := 87) hC 1 dX3_readOne_87 rfl rfl ?_
              exact g_zret (pc := 88) hR dX3_readOne_88 rfl (by omega) ⟨by omega, by omega⟩ (Nat.le_of_ble_eq_true rfl) ⟨r3, p3, nm3, m3, od3, l3, rfl, rfl, (by first | assumption | omega), (by first | assumption | omega), (by first | assumption | omega), (by first | assumption | omega), (by first | assumption | omega), (px_fac_not (l4 := l3) rfl hq0 (px_fac_not (l4 := l3) rfl hq1 (px_fac_not (l4 := l3) rfl hq2 hz_47 (by rw [if_neg (show ¬ (1 - r3 : Int) = 0 by omega)])) (by rw [if_neg (show ¬ (1 - r3 : Int) = 0 by omega)])) (by rw [if_neg (show ¬ (1 - r3 : Int) = 0 by omega)])), hL2_47, (by first | assumption | omega), (by first | assumption | omega), (by first | assumption | omega)⟩
            · refine g_aload_n (pc := 71) hC 3 dX3_readOne_71 rfl rfl ?_
              refine g_get (pc := 72) hC 0 fl_X3_15 dX3_readOne_72 rfl rfl ?_
              refine g_bipush (pc := 75) hC (6) dX3_readOne_75 (by decide) ?_
              refine g_iconst (pc := 77) hC dX3_readOne_77 ?_
              refine g_callV (pc := 78) (qr := 3) hC [3, 4] (k_X1_put _ _ _ _ _ _ _ (nt_l l3 0) (-1) (by first | assumption | omega) (by first | assumption | omega) (by first | assumption | omega) (by first | assumption | omega) (by first | assumption | omega) (by first | omega | (simp only [nt_l, List.length_append, List.length_cons, List.length_nil]; omega)) (by decide +kernel) (by decide)) cl_X1_put wm_X3_61 dX3_readOne_78 rfl rfl rfl rfl rfl (by decide) (by decide) (by omega) (Nat.le_of_ble_eq_true rfl) rfl (fun v9 w9 hq9 => ?_)
              obtain ⟨m4, od4, rfl, rfl, r_m4, r_od4, hL2_78, hm2_78⟩ := hq9
              refine g_ws hC [cO g0 3 [.ref g1, .ref g2, .int (iI nm3), .int (iI p3)], cO g1 6 [.ref g3, .int (iI e)], cA K g3 100 sg, cO g2 1 [.ref g4, .int (iI m4), .int (iI rc)], cA K g4 100 od4] rfl ?_
              refine g_st hC [] rfl ?_
              refine g_iinc (pc := 81) hC 0 [(4, _), (3, _), (2, _), (0, _), (1, _)] dX3_readOne_81 rfl (by decide) rfl ?_
              refine g_lv hC [0, 1, 2, 3, 4] [(4, .int (iI 1)), (3, _), (2, _), (0, _), (1, _)] rfl ?_
              refine g_goto (pc := 84) hC 61 dX3_readOne_84 (by decide) ?_
              refine g_iload (pc := 61) hC 0 dX3_readOne_61 rfl ?_
              refine g_iload_n (pc := 63) hC 2 dX3_readOne_63 rfl rfl ?_
              refine g_icmp_ge (pc := 64) hC 87 dX3_readOne_64 (by decide) (by omega) (by omega) (fun c64 => by exfalso; omega) (fun c64 => ?_)
              refine g_iload_n (pc := 67) hC 1 dX3_readOne_67 rfl rfl ?_
              refine g_if_eq (pc := 68) hC 87 dX3_readOne_68 (by decide) (by omega) (fun c68 => by exfalso; omega) (fun c68 => ?_)
              refine g_aload_n (pc := 71) hC 3 dX3_readOne_71 rfl rfl ?_
              refine g_get (pc := 72) hC 0 fl_X3_15 dX3_readOne_72 rfl rfl ?_
              refine g_bipush (pc := 75) hC (6) dX3_readOne_75 (by decide) ?_
              refine g_iconst (pc := 77) hC dX3_readOne_77 ?_
              refine g_callV (pc := 78) (qr := 3) hC [3, 4] (k_X1_put _ _ _ _ _ _ _ (nt_l l3 1) (-1) (by first | assumption | omega) (by first | assumption | omega) (by first | assumption | omega) (by first | assumption | omega) (by first | assumption | omega) (by first | omega | (simp only [nt_l, List.length_append, List.length_cons, List.length_nil]; omega)) (by decide +kernel) (by decide)) cl_X1_put wm_X3_61 dX3_readOne_78 rfl rfl rfl rfl rfl (by decide) (by decide) (by omega) (Nat.le_of_ble_eq_true rfl) rfl (fun v9 w9 hq9 => ?_)
              obtain ⟨m4, od4, rfl, rfl, r_m4, r_od4, hL2_78, hm2_78⟩ := hq9
              refine g_ws hC [cO g0 3 [.ref g1, .ref g2, .int (iI nm3), .int (iI p3)], cO g1 6 [.ref g3, .int (iI e)], cA K g3 100 sg, cO g2 1 [.ref g4, .int (iI m4), .int (iI rc)], cA K g4 100 od4] rfl ?_
              refine g_st hC [] rfl ?_
              refine g_iinc (pc := 81) hC 0 [(4, _), (3, _), (2, _), (0, _), (1, _)] dX3_readOne_81 rfl (by decide) rfl ?_
              refine g_lv hC [0, 1, 2, 3, 4] [(4, .int (iI 2)), (3, _), (2, _), (0, _), (1, _)] rfl ?_
              refine g_goto (pc := 84) hC 61 dX3_readOne_84 (by decide) ?_
              refine g_iload (pc := 61) hC 0 dX3_readOne_61 rfl ?_
              refine g_iload_n (pc := 63) hC 2 dX3_readOne_63 rfl rfl ?_
              refine g_icmp_ge (pc := 64) hC 87 dX3_readOne_64 (by decide) (by omega) (by omega) (fun c64 => by exfalso; omega) (fun c64 => ?_)
              refine g_iload_n (pc := 67) hC 1 dX3_readOne_67 rfl rfl ?_
              refine g_if_eq (pc := 68) hC 87 dX3_readOne_68 (by decide) (by omega) (fun c68 => by exfalso; omega) (fun c68 => ?_)
              refine g_aload_n (pc := 71) hC 3 dX3_readOne_71 rfl rfl ?_
              refine g_get (pc := 72) hC 0 fl_X3_15 dX3_readOne_72 rfl rfl ?_
              refine g_bipush (pc := 75) hC (6) dX3_readOne_75 (by decide) ?_
              refine g_iconst (pc := 77) hC dX3_readOne_77 ?_
              refine g_callV (pc := 78) (qr := 3) hC [3, 4] (k_X1_put _ _ _ _ _ _ _ (nt_l l3 2) (-1) (by first | assumption | omega) (by first | assumption | omega) (by first | assumption | omega) (by first | assumption | omega) (by first | assumption | omega) (by first | omega | (simp only [nt_l, List.length_append, List.length_cons, List.length_nil]; omega)) (by decide +kernel) (by decide)) cl_X1_put wm_X3_61 dX3_readOne_78 rfl rfl rfl rfl rfl (by decide) (by decide) (by omega) (Nat.le_of_ble_eq_true rfl) rfl (fun v9 w9 hq9 => ?_)
              obtain ⟨m4, od4, rfl, rfl, r_m4, r_od4, hL2_78, hm2_78⟩ := hq9
              refine g_ws hC [cO g0 3 [.ref g1, .ref g2, .int (iI nm3), .int (iI p3)], cO g1 6 [.ref g3, .int (iI e)], cA K g3 100 sg, cO g2 1 [.ref g4, .int (iI m4), .int (iI rc)], cA K g4 100 od4] rfl ?_
              refine g_st hC [] rfl ?_
              refine g_iinc (pc := 81) hC 0 [(4, _), (3, _), (2, _), (0, _), (1, _)] dX3_readOne_81 rfl (by decide) rfl ?_
              refine g_lv hC [0, 1, 2, 3, 4] [(4, .int (iI 3)), (3, _), (2, _), (0, _), (1, _)] rfl ?_
              refine g_goto (pc := 84) hC 61 dX3_readOne_84 (by decide) ?_
              refine g_iload (pc := 61) hC 0 dX3_readOne_61 rfl ?_
              refine g_iload_n (pc := 63) hC 2 dX3_readOne_63 rfl rfl ?_
              refine g_icmp_ge (pc := 64) hC 87 dX3_readOne_64 (by decide) (by omega) (by omega) (fun c64 => ?_) (fun c64 => by exfalso; omega)
              refine g_iload_n (pc := 87) hC 1 dX3_readOne_87 rfl rfl ?_
              exact g_zret (pc := 88) hR dX3_readOne_88 rfl (by omega) ⟨by omega, by omega⟩ (Nat.le_of_ble_eq_true rfl) ⟨r3, p3, nm3, m4, od4, (nt_l l3 3), rfl, rfl, (by first | assumption | omega), (by first | assumption | omega), (by first | assumption | omega), (by first | assumption | omega), (by first | assumption | omega), (px_fac_not (l4 := nt_l l3 3) rfl hq0 (px_fac_not (l4 := nt_l l3 2) rfl hq1 (px_fac_not (l4 := nt_l l3 1) rfl hq2 hz_47 (by rw [if_pos (show (1 - r3 : Int) = 0 by omega)]; rfl)) (by rw [if_pos (show (1 - r3 : Int) = 0 by omega)]; rfl)) (by rw [if_pos (show (1 - r3 : Int) = 0 by omega)]; rfl)), hL2_78, (by first | assumption | omega), (by first | omega | (simp only [nt_l, List.length_append, List.length_cons, List.length_nil]; omega)), (by first | assumption | omega)⟩
        · have hq3 : T ((((p + 1) + 1) + 1)) = 33 := by omega
          have hlt3 := cr_lt hT (by omega) hq3 (by decide)
          refine g_iload_n (pc := 11) hC 2 dX3_readOne_11 rfl rfl ?_
          refine g_iload_n (pc := 12) hC 0 dX3_readOne_12 rfl rfl ?_
          refine g_iadd (pc := 13) hC dX3_readOne_13 ?_
          refine g_st hC [.int (iI (5))] rfl ?_
          refine g_iconst (pc := 14) hC dX3_readOne_14 ?_
          refine g_icmp_ge (pc := 15) hC 34 dX3_readOne_15 (by decide) (by omega) (by omega) (fun c15 => ?_) (fun c15 => by exfalso; omega)
          have hq9 : T ((((p + 1) + 1) + 1)) = 33 := by omega
          skip
          refine g_aload_n (pc := 34) hC 1 dX3_readOne_34 rfl rfl ?_
          refine g_fnV (pc := 35) (qr := 0) hC [0, 1, 2] (k_X3_sign _ _ _ _ _ _ _ _ _ (by first | assumption | omega) (by first | assumption | omega) (by first | assumption | omega) (by first | assumption | omega) (by first | assumption | omega) (by first | assumption | omega)) cl_X3_sign wm_X3_28 dX3_readOne_35 rfl rfl rfl rfl rfl (by decide) (by decide) ⟨by omega, by omega⟩ (Nat.le_of_ble_eq_true rfl) rfl rfl ?_
          refine g_name hC (fun y99 e_y99 => ?_)
          have q_y99 : -1 ≤ y99 ∧ y99 ≤ 127 := by rw [e_y99]; exact hT.2.2.1 _
          refine g_bipush (pc := 38) hC (40) dX3_readOne_38 (by decide) ?_
          refine g_icmp_ne (pc := 40) hC 53 dX3_readOne_40 (by decide) (by omega) (by omega) (fun c40 => ?_) (fun c40 => by exfalso; omega)
          refine g_aload_n (pc := 53) hC 1 dX3_readOne_53 rfl rfl ?_
          refine g_callV (pc := 54) (qr := 0) hC [0, 1, 2, 3, 4] (k_X3_readTest _ _ _ _ _ _ _ _ _ _ _ _ _ _ (by first | assumption | omega) (by first | assumption | omega) (by first | assumption | omega) (by first | assumption | omega) (by first | assumption | omega) (by first | assumption | omega) (by first | assumption | omega) (by first | assumption | omega) (by first | assumption | omega) (by first | assumption | omega) (by first | assumption | omega) (by first | assumption | omega)) cl_X3_readTest wm_X3_71 dX3_readOne_54 rfl rfl rfl rfl rfl (by decide) (by decide) (by omega) (Nat.le_of_ble_eq_true rfl) rfl (fun v9 w9 hq9 => ?_)
          obtain ⟨r3, p3, nm3, m3, od3, l3, rfl, rfl, r_r3, r_p3, r_nm3, r_m3, r_od3, hz_54, hL2_54, hb_54, hl2_54, hnm2_54⟩ := hq9
          refine g_ws hC [cO g0 3 [.ref g1, .ref g2, .int (iI nm3), .int (iI p3)], cO g1 6 [.ref g3, .int (iI e)], cA K g3 100 sg, cO g2 1 [.ref g4, .int (iI m3), .int (iI rc)], cA K g4 100 od3] rfl ?_
          refine g_st hC [.int (iI r3)] rfl ?_
          refine g_istore_n (pc := 57) hC [(3, _), (2, _), (0, _), (1, _)] dX3_readOne_57 rfl (by decide) rfl ?_
          refine g_iconst (pc := 58) hC dX3_readOne_58 ?_
          refine g_istore (pc := 59) hC [(4, _), (3, _), (2, _), (0, _), (1, _)] dX3_readOne_59 (by decide) rfl ?_
          refine g_iload (pc := 61) hC 0 dX3_readOne_61 rfl ?_
          refine g_iload_n (pc := 63) hC 2 dX3_readOne_63 rfl rfl ?_
          refine g_icmp_ge (pc := 64) hC 87 dX3_readOne_64 (by decide) (by omega) (by omega) (fun c64 => by exfalso; omega) (fun c64 => ?_)
          refine g_iload_n (pc := 67) hC 1 dX3_readOne_67 rfl rfl ?_
          refine g_if_eq (pc := 68) hC 87 dX3_readOne_68 (by decide) (by omega) (fun c68 => ?_) (fun c68 => ?_)
          · refine g_iload_n (pc := 87) hC 1 dX3_readOne_87 rfl rfl ?_
            exact g_zret (pc := 88) hR dX3_readOne_88 rfl (by omega) ⟨by omega, by omega⟩ (Nat.le_of_ble_eq_true rfl) ⟨r3, p3, nm3, m3, od3, l3, rfl, rfl, (by first | assumption | omega), (by first | assumption | omega), (by first | assumption | omega), (by first | assumption | omega), (by first | assumption | omega), (px_fac_not (l4 := l3) rfl hq0 (px_fac_not (l4 := l3) rfl hq1 (px_fac_not (l4 := l3) rfl hq2 (px_fac_33 rfl hq9 hz_54) (by rw [if_neg (show ¬ (1 - r3 : Int) = 0 by omega)])) (by rw [if_neg (show ¬ (1 - r3 : Int) = 0 by omega)])) (by rw [if_neg (show ¬ (1 - r3 : Int) = 0 by omega)])), hL2_54, (by first | assumption | omega), (by first | assumption | omega), (by first | assumption | omega)⟩
          · refine g_aload_n (pc := 71) hC 3 dX3_readOne_71 rfl rfl ?_
            refine g_get (pc := 72) hC 0 fl_X3_15 dX3_readOne_72 rfl rfl ?_
            refine g_bipush (pc := 75) hC (6) dX3_readOne_75 (by decide) ?_
            refine g_iconst (pc := 77) hC dX3_readOne_77 ?_
            refine g_callV (pc := 78) (qr := 3) hC [3, 4] (k_X1_put _ _ _ _ _ _ _ (nt_l l3 0) (-1) (by first | assumption | omega) (by first | assumption | omega) (by first | assumption | omega) (by first | assumption | omega) (by first | assumption | omega) (by first | omega | (simp only [nt_l, List.length_append, List.length_cons, List.length_nil]; omega)) (by decide +kernel) (by decide)) cl_X1_put wm_X3_61 dX3_readOne_78 rfl rfl rfl rfl rfl (by decide) (by decide) (by omega) (Nat.le_of_ble_eq_true rfl) rfl (fun v9 w9 hq9 => ?_)
            obtain ⟨m4, od4, rfl, rfl, r_m4, r_od4, hL2_78, hm2_78⟩ := hq9
            refine g_ws hC [cO g0 3 [.ref g1, .ref g2, .int (iI nm3), .int (iI p3)], cO g1 6 [.ref g3, .int (iI e)], cA K g3 100 sg, cO g2 1 [.ref g4, .int (iI m4), .int (iI rc)], cA K g4 100 od4] rfl ?_
            refine g_st hC [] rfl ?_
            refine g_iinc (pc := 81) hC 0 [(4, _), (3, _), (2, _), (0, _), (1, _)] dX3_readOne_81 rfl (by decide) rfl ?_
            refine g_lv hC [0, 1, 2, 3, 4] [(4, .int (iI 1)), (3, _), (2, _), (0, _), (1, _)] rfl ?_
            refine g_goto (pc := 84) hC 61 dX3_readOne_84 (by decide) ?_
            refine g_iload (pc := 61) hC 0 dX3_readOne_61 rfl ?_
            refine g_iload_n (pc := 63) hC 2 dX3_readOne_63 rfl rfl ?_
            refine g_icmp_ge (pc := 64) hC 87 dX3_readOne_64 (by decide) (by omega) (by omega) (fun c64 => by exfalso; omega) (fun c64 => ?_)
            refine g_iload_n (pc := 67) hC 1 dX3_readOne_67 rfl rfl ?_
            refine g_if_eq (pc := 68) hC 87 dX3_readOne_68 (by decide) (by omega) (fun c68 => by exfalso; omega) (fun c68 => ?_)
            refine g_aload_n (pc := 71) hC 3 dX3_readOne_71 rfl rfl ?_
            refine g_get (pc := 72) hC 0 fl_X3_15 dX3_readOne_72 rfl rfl ?_
            refine g_bipush (pc := 75) hC (6) dX3_readOne_75 (by decide) ?_
            refine g_iconst (pc := 77) hC dX3_readOne_77 ?_
            refine g_callV (pc := 78) (qr := 3) hC [3, 4] (k_X1_put _ _ _ _ _ _ _ (nt_l l3 1) (-1) (by first | assumption | omega) (by first | assumption | omega) (by first | assumption | omega) (by first | assumption | omega) (by first | assumption | omega) (by first | omega | (simp only [nt_l, List.length_append, List.length_cons, List.length_nil]; omega)) (by decide +kernel) (by decide)) cl_X1_put wm_X3_61 dX3_readOne_78 rfl rfl rfl rfl rfl (by decide) (by decide) (by omega) (Nat.le_of_ble_eq_true rfl) rfl (fun v9 w9 hq9 => ?_)
            obtain ⟨m4, od4, rfl, rfl, r_m4, r_od4, hL2_78, hm2_78⟩ := hq9
            refine g_ws hC [cO g0 3 [.ref g1, .ref g2, .int (iI nm3), .int (iI p3)], cO g1 6 [.ref g3, .int (iI e)], cA K g3 100 sg, cO g2 1 [.ref g4, .int (iI m4), .int (iI rc)], cA K g4 100 od4] rfl ?_
            refine g_st hC [] rfl ?_
            refine g_iinc (pc := 81) hC 0 [(4, _), (3, _), (2, _), (0, _), (1, _)] dX3_readOne_81 rfl (by decide) rfl ?_
            refine g_lv hC [0, 1, 2, 3, 4] [(4, .int (iI 2)), (3, _), (2, _), (0, _), (1, _)] rfl ?_
            refine g_goto (pc := 84) hC 61 dX3_readOne_84 (by decide) ?_
            refine g_iload (pc := 61) hC 0 dX3_readOne_61 rfl ?_
            refine g_iload_n (pc := 63) hC 2 dX3_readOne_63 rfl rfl ?_
            refine g_icmp_ge (pc := 64) hC 87 dX3_readOne_64 (by decide) (by omega) (by omega) (fun c64 => by exfalso; omega) (fun c64 => ?_)
            refine g_iload_n (pc := 67) hC 1 dX3_readOne_67 rfl rfl ?_
            refine g_if_eq (pc := 68) hC 87 dX3_readOne_68 (by decide) (by omega) (fun c68 => by exfalso; omega) (fun c68 => ?_)
            refine g_aload_n (pc := 71) hC 3 dX3_readOne_71 rfl rfl ?_
            refine g_get (pc := 72) hC 0 fl_X3_15 dX3_readOne_72 rfl rfl ?_
            refine g_bipush (pc := 75) hC (6) dX3_readOne_75 (by decide) ?_
            refine g_iconst (pc := 77) hC dX3_readOne_77 ?_
            refine g_callV (pc := 78) (qr := 3) hC [3, 4] (k_X1_put _ _ _ _ _ _ _ (nt_l l3 2) (-1) (by first | assumption | omega) (by first | assumption | omega) (by first | assumption | omega) (by first | assumption | omega) (by first | assumption | omega) (by first | omega | (simp only [nt_l, List.length_append, List.length_cons, List.length_nil]; omega)) (by decide +kernel) (by decide)) cl_X1_put wm_X3_61 dX3_readOne_78 rfl rfl rfl rfl rfl (by decide) (by decide) (by omega) (Nat.le_of_ble_eq_true rfl) rfl (fun v9 w9 hq9 => ?_)
            obtain ⟨m4, od4, rfl, rfl, r_m4, r_od4, hL2_78, hm2_78⟩ := hq9
            refine g_ws hC [cO g0 3 [.ref g1, .ref g2, .int (iI nm3), .int (iI p3)], cO g1 6 [.ref g3, .int (iI e)], cA K g3 100 sg, cO g2 1 [.ref g4, .int (iI m4), .int (iI rc)], cA K g4 100 od4] rfl ?_
            refine g_st hC [] rfl ?_
            refine g_iinc (pc := 81) hC 0 [(4, _), (3, _), (2, _), (0, _), (1, _)] dX3_readOne_81 rfl (by decide) rfl ?_
            refine g_lv hC [0, 1, 2, 3, 4] [(4, .int (iI 3)), (3, _), (2, _), (0, _), (1, _)] rfl ?_
            refine g_goto (pc := 84) hC 61 dX3_readOne_84 (by decide) ?_
            refine g_iload (pc := 61) hC 0 dX3_readOne_61 rfl ?_
            refine g_iload_n (pc := 63) hC 2 dX3_readOne_63 rfl rfl ?_
            refine g_icmp_ge (pc := 64) hC 87 dX3_readOne_64 (by decide) (by omega) (by omega) (fun c64 => ?_) (fun c64 => by exfalso; omega)
            refine g_iload_n (pc := 87) hC 1 dX3_readOne_87 rfl rfl ?_
            exact g_zret (pc := 88) hR dX3_readOne_88 rfl (by omega) ⟨by omega, by omega⟩ (Nat.le_of_ble_eq_true rfl) ⟨r3, p3, nm3, m4, od4, (nt_l l3 3), rfl, rfl, (by first | assumption | omega), (by first | assumption | omega), (by first | assumption | omega), (by first | assumption | omega), (by first | assumption | omega), (px_fac_not (l4 := nt_l l3 3) rfl hq0 (px_fac_not (l4 := nt_l l3 2) rfl hq1 (px_fac_not (l4 := nt_l l3 1) rfl hq2 (px_fac_33 rfl hq9 hz_54) (by rw [if_pos (show (1 - r3 : Int) = 0 by omega)]; rfl)) (by rw [if_pos (show (1 - r3 : Int) = 0 by omega)]; rfl)) (by rw [if_pos (show (1 - r3 : Int) = 0 by omega)]; rfl)), hL2_78, (by first | assumption | omega), (by first | omega | (simp only [nt_l, List.length_append, List.length_cons, List.length_nil]; omega)), (by first | assumption | omega)⟩
set_option maxHeartbeats 4000000 in
set_option maxRecDepth 100000 in
theorem k_X3_readEither_2 {K : gK} (g0 : Nat) (g1 : Nat) (g2 : Nat) (g3 : Nat) (g4 : Nat) (nm : Int) (p : Int) (e : Int) (m : Int) (rc : Int) (sg : Int → Int) (od : Int → Int) (T : Int → Int) (l : List Int) (r_nm : rI nm) (r_p : rI p) (r_e : rI e) (r_m : rI m) (r_rc : rI rc) (r_sg : ∀ j, rI (sg j)) (r_od : ∀ j, rI (od j)) (hT : cr_T T e sg) (hp : 0 ≤ p ∧ p ≤ e) (hL : cr_L l od m) (hl : (l.length : Int) ≤ p) (hnm : 0 ≤ nm ∧ nm ≤ 99) : gMet K yX3_readEither cX3_readEither 5 (some .boolean) 17 0 0 [.ref g0, .int (iI 2)] [cO g0 3 [.ref g1, .ref g2, .int (iI nm), .int (iI p)], cO g1 6 [.ref g3, .int (iI e)], cA K g3 100 sg, cO g2 1 [.ref g4, .int (iI m), .int (iI rc)], cA K g4 100 od] (fun v9 w9 => ∃ (r : Int), ∃ (p2 : Int), ∃ (nm2 : Int), ∃ (m2 : Int), ∃ (od2 : Int → Int), ∃ (l2 : List Int), v9 = some (.int (iI r)) ∧ w9 = [cO g0 3 [.ref g1, .ref g2, .int (iI nm2), .int (iI p2)], cO g1 6 [.ref g3, .int (iI e)], cA K g3 100 sg, cO g2 1 [.ref g4, .int (iI m2), .int (iI rc)], cA K g4 100 od2] ∧ rI r ∧ rI p2 ∧ rI nm2 ∧ rI m2 ∧ (∀ j, rI (od2 j)) ∧ ((1 - r, p2, l2) = px_some T (px_fac T 3) (0, p, l)) ∧ (cr_L l2 od2 m2) ∧ ((r = 0 ∨ r = 1) ∧ p ≤ p2 ∧ p2 ≤ e ∧ (r = 1 → p < p2)) ∧ ((l2.length : Int) + p ≤ (l.length : Int) + p2) ∧ (0 ≤ nm2 ∧ nm2 ≤ 99)) := by
  refine g_enter (by decide +kernel) (Nat.le_of_ble_eq_true rfl) (fun G hC hR => ?_)
  refine g_lv hC [0, 1] [(0, _), (1, _)] rfl ?_
  have hge := hT.1
  refine g_iconst (pc := 0) hC dX3_readEither_0 ?_
  refine g_istore_n (pc := 1) hC [(2, _), (0, _), (1, _)] dX3_readEither_1 rfl (by decide) rfl ?_
  refine g_iconst (pc := 2) hC dX3_readEither_2 ?_
  refine g_istore_n (pc := 3) hC [(3, _), (2, _), (0, _), (1, _)] dX3_readEither_3 rfl (by decide) rfl ?_
  refine g_iconst (pc := 4) hC dX3_readEither_4 ?_
  refine g_istore (pc := 5) hC [(4, _), (3, _), (2, _), (0, _), (1, _)] dX3_readEither_5 (by decide) rfl ?_
  have L7 : ∀ (n1 : Nat) (an : Int) (o : Int) (pt : Int) (p1 : Int) (nm1 : Int) (m1 : Int) (od1 : Int → Int) (l1 : List Int) (f1 : Nat) (f2 : Nat), (rI an) → (rI o) → (rI pt) → (rI p1) → (rI nm1) → (rI m1) → (∀ j, rI (od1 j)) → (px_SO T (px_fac T 3) o f2 (px_ev T (px_fac T 3) f1 (px_AN an ((px_fac T 3) (0, p1, l1)))) = px_some T (px_fac T 3) (0, p, l)) → (cr_L l1 od1 m1) → ((an = 0 ∨ an = 1) ∧ (o = 0 ∨ o = 1) ∧ 0 ≤ pt ∧ p + 2 * pt ≤ p1 ∧ p1 ≤ e) → ((l1.length : Int) + p + an + o ≤ (l.length : Int) + p1) → (e - p1 ≤ (f1 : Int)) → (e - p1 ≤ (f2 : Int)) → (0 ≤ nm1 ∧ nm1 ≤ 99) → e - p1 < (n1 : Int) → G 0 0 7 [(0, .ref g0), (1, .int (iI 2)), (2, .int (iI an)), (3, .int (iI o)), (4, .int (iI pt))] [] [cO g0 3 [.ref g1, .ref g2, .int (iI nm1), .int (iI p1)], cO g1 6 [.ref g3, .int (iI e)], cA K g3 100 sg, cO g2 1 [.ref g4, .int (iI m1), .int (iI rc)], cA K g4 100 od1] := by
    intro n1
    induction n1 with
    | zero => intro an o pt p1 nm1 m1 od1 l1 f1 f2 r_an r_o r_pt r_p1 r_nm1 r_m1 r_od1 hz hL1 hb1 hl1 hf1 hf2 hnm1 hm7; exfalso; omega
    | succ n1 ih7 =>
      intro an o pt p1 nm1 m1 od1 l1 f1 f2 r_an r_o r_pt r_p1 r_nm1 r_m1 r_od1 hz hL1 hb1 hl1 hf1 hf2 hnm1 hm7
      refine g_iload (pc := 7) hC 4 dX3_readEither_7 rfl ?_
      refine g_bipush (pc := 9) hC (100) dX3_readEither_9 (by decide) ?_
      refine g_icmp_ge (pc := 11) hC 108 dX3_readEither_11 (by decide) (by omega) (by omega) (fun c11 => by exfalso; omega) (fun c11 => ?_)
      refine g_aload_n (pc := 14) hC 0 dX3_readEither_14 rfl rfl ?_
      refine g_iload_n (pc := 15) hC 1 dX3_readEither_15 rfl rfl ?_
      refine g_callV (pc := 16) (qr := 0) hC [0, 1, 2, 3, 4] (k_X3_readOne_2 _ _ _ _ _ _ _ _ _ _ _ _ _ _ (by first | assumption | omega) (by first | assumption | omega) (by first | assumption | omega) (by first | assumption | omega) (by first | assumption | omega) (by first | assumption | omega) (by first | assumption | omega) (by first | assumption | omega) (by first | assumption | omega) (by first | assumption | omega) (by first | assumption | omega) (by first | assumption | omega)) cl_X3_readOne wm_X3_65 dX3_readEither_16 rfl rfl rfl rfl rfl (by decide) (by decide) (by omega) (Nat.le_of_ble_eq_true rfl) rfl (fun v9 w9 hq9 => ?_)
      obtain ⟨r3, p3, nm3, m3, od3, l3, rfl, rfl, r_r3, r_p3, r_nm3, r_m3, r_od3, hz_16, hL2_16, hb_16, hl2_16, hnm2_16⟩ := hq9
      refine g_ws hC [cO g0 3 [.ref g1, .ref g2, .int (iI nm3), .int (iI p3)], cO g1 6 [.ref g3, .int (iI e)], cA K g3 100 sg, cO g2 1 [.ref g4, .int (iI m3), .int (iI rc)], cA K g4 100 od3] rfl ?_
      refine g_st hC [.int (iI r3)] rfl ?_
      refine g_if_ne (pc := 19) hC 24 dX3_readEither_19 (by decide) (by omega) (fun c19 => ?_) (fun c19 => ?_)
      · refine g_iload_n (pc := 24) hC 2 dX3_readEither_24 rfl rfl ?_
        refine g_if_eq (pc := 25) hC 38 dX3_readEither_25 (by decide) (by omega) (fun c25 => ?_) (fun c25 => ?_)
        · refine g_aload_n (pc := 38) hC 0 dX3_readEither_38 rfl rfl ?_
          refine g_fnV (pc := 39) (qr := 0) hC [0, 1, 2] (k_X3_sign _ _ _ _ _ _ _ _ _ (by first | assumption | omega) (by first | assumption | omega) (by first | assumption | omega) (by first | assumption | omega) (by first | assumption | omega) (by first | assumption | omega)) cl_X3_sign wm_X3_28 dX3_readEither_39 rfl rfl rfl rfl rfl (by decide) (by decide) ⟨by omega, by omega⟩ (Nat.le_of_ble_eq_true rfl) rfl rfl ?_
          refine g_name hC (fun y39 e_y39 => ?_)
          have q_y39 : -1 ≤ y39 ∧ y39 ≤ 127 := by rw [e_y39]; exact hT.2.2.1 _
          refine g_bipush (pc := 42) hC (38) dX3_readEither_42 (by decide) ?_
          refine g_icmp_ne (pc := 44) hC 51 dX3_readEither_44 (by decide) (by omega) (by omega) (fun c44 => ?_) (fun c44 => ?_)
          · refine g_iconst (pc := 51) hC dX3_readEither_51 ?_
            refine g_istore_n (pc := 52) hC [(2, _), (0, _), (1, _), (3, _), (4, _)] dX3_readEither_52 rfl (by decide) rfl ?_
            refine g_iload_n (pc := 53) hC 0 dX3_readEither_53 rfl rfl ?_
            refine g_if_ne (pc := 54) hC 92 dX3_readEither_54 (by decide) (by omega) (fun c54 => by exfalso; omega) (fun c54 => ?_)
            refine g_iload_n (pc := 57) hC 3 dX3_readEither_57 rfl rfl ?_
            refine g_if_eq (pc := 58) hC 71 dX3_readEither_58 (by decide) (by omega) (fun c58 => ?_) (fun c58 => ?_)
            · refine g_aload_n (pc := 71) hC 1 dX3_readEither_71 rfl rfl ?_
              refine g_fnV (pc := 72) (qr := 0) hC [0, 1, 2] (k_X3_sign _ _ _ _ _ _ _ _ _ (by first | assumption | omega) (by first | assumption | omega) (by first | assumption | omega) (by first | assumption | omega) (by first | assumption | omega) (by first | assumption | omega)) cl_X3_sign wm_X3_28 dX3_readEither_72 rfl rfl rfl rfl rfl (by decide) (by decide) ⟨by omega, by omega⟩ (Nat.le_of_ble_eq_true rfl) rfl rfl ?_
              refine g_name hC (fun y72 e_y72 => ?_)
              have q_y72 : -1 ≤ y72 ∧ y72 ≤ 127 := by rw [e_y72]; exact hT.2.2.1 _
              refine g_bipush (pc := 75) hC (124) dX3_readEither_75 (by decide) ?_
              refine g_icmp_ne (pc := 77) hC 84 dX3_readEither_77 (by decide) (by omega) (by omega) (fun c77 => ?_) (fun c77 => ?_)
              · refine g_iconst (pc := 84) hC dX3_readEither_84 ?_
                refine g_istore_n (pc := 85) hC [(3, _), (2, _), (0, _), (1, _), (4, _)] dX3_readEither_85 rfl (by decide) rfl ?_
                refine g_iload_n (pc := 86) hC 0 dX3_readEither_86 rfl rfl ?_
                refine g_if_ne (pc := 87) hC 92 dX3_readEither_87 (by decide) (by omega) (fun c87 => by exfalso; omega) (fun c87 => ?_)
                refine g_iconst (pc := 90) hC dX3_readEither_90 ?_
                exact g_zret (pc := 91) hR dX3_readEither_91 rfl (by omega) ⟨by omega, by omega⟩ (Nat.le_of_ble_eq_true rfl) ⟨1, p3, nm3, m3, od3, l3, rfl, rfl, (by first | assumption | omega), (by first | assumption | omega), (by first | assumption | omega), (by first | assumption | omega), (by first | assumption | omega), (px_E_end hz (by omega) hz_16 (by rw [if_pos (by omega)]) (by rw [if_pos (by omega)]) (by omega) (by omega)), hL2_16, (by first | assumption | omega), (by first | omega | (simp only [nt_l, List.length_append, List.length_cons, List.length_nil]; omega)), (by first | assumption | omega)⟩
              · have hlt := cr_lt hT (show 0 ≤ p3 by omega) (show T p3 = 124 by omega) (by decide)
                obtain ⟨q2, rfl⟩ : ∃ q2, f2 = q2 + 1 := ⟨f2 - 1, by omega⟩
                refine g_iconst (pc := 80) hC dX3_readEither_80 ?_
                refine g_goto (pc := 81) hC 85 dX3_readEither_81 (by decide) ?_
                refine g_istore_n (pc := 85) hC [(3, _), (2, _), (0, _), (1, _), (4, _)] dX3_readEither_85 rfl (by decide) rfl ?_
                refine g_iload_n (pc := 86) hC 0 dX3_readEither_86 rfl rfl ?_
                refine g_if_ne (pc := 87) hC 92 dX3_readEither_87 (by decide) (by omega) (fun c87 => ?_) (fun c87 => by exfalso; omega)
                refine g_aload_n (pc := 92) hC 2 dX3_readEither_92 rfl rfl ?_
                refine g_dup (pc := 93) hC dX3_readEither_93 rfl ?_
                refine g_get (pc := 94) hC 0 fl_X3_32 dX3_readEither_94 rfl rfl ?_
                refine g_iconst (pc := 97) hC dX3_readEither_97 ?_
                refine g_iadd (pc := 98) hC dX3_readEither_98 ?_
                refine g_putI (pc := 99) hC 0 [cO _ _ [_, _, _, _], _, _, _, _] fl_X3_32 dX3_readEither_99 rfl (Nat.le_of_ble_eq_true rfl) rfl ?_
                refine g_iinc (pc := 102) hC 4 [(4, _), (3, _), (2, _), (0, _), (1, _)] dX3_readEither_102 rfl (by decide) rfl ?_
                refine g_goto (pc := 105) hC 7 dX3_readEither_105 (by decide) ?_
                refine g_lv hC [3, 4, 2, 1, 0] [(0, _), (1, _), (2, _), (3, _), (4, _)] rfl ?_
                exact ih7 0 1 (pt + 1) (p3 + 1) nm3 m3 od3 l3 101 q2 (by first | assumption | omega) (by first | assumption | omega) (by first | assumption | omega) (by first | assumption | omega) (by first | assumption | omega) (by first | assumption | omega) (by first | assumption | omega) (px_E_or hz (by omega) hz_16 (by rw [if_pos (by omega)]) (by rw [if_pos (by omega)]) (by omega) (by omega)) hL2_16 (by first | assumption | omega) (by first | omega | (simp only [nt_l, List.length_append, List.length_cons, List.length_nil]; omega)) (by first | assumption | omega) (by first | assumption | omega) (by first | assumption | omega) (by omega)
            · refine g_aload_n (pc := 61) hC 1 dX3_readEither_61 rfl rfl ?_
              refine g_get (pc := 62) hC 0 fl_X3_15 dX3_readEither_62 rfl rfl ?_
              refine g_bipush (pc := 65) hC (8) dX3_readEither_65 (by decide) ?_
              refine g_iconst (pc := 67) hC dX3_readEither_67 ?_
              refine g_callV (pc := 68) (qr := 3) hC [3, 4] (k_X1_put _ _ _ _ _ _ _ l3 (-3) (by first | assumption | omega) (by first | assumption | omega) (by first | assumption | omega) (by first | assumption | omega) (by first | assumption | omega) (by first | omega | (simp only [nt_l, List.length_append, List.length_cons, List.length_nil]; omega)) (by decide +kernel) (by decide)) cl_X1_put wm_X3_61 dX3_readEither_68 rfl rfl rfl rfl rfl (by decide) (by decide) (by omega) (Nat.le_of_ble_eq_true rfl) rfl (fun v9 w9 hq9 => ?_)
              obtain ⟨m6, od6, rfl, rfl, r_m6, r_od6, hL2_68, hm2_68⟩ := hq9
              refine g_ws hC [cO g0 3 [.ref g1, .ref g2, .int (iI nm3), .int (iI p3)], cO g1 6 [.ref g3, .int (iI e)], cA K g3 100 sg, cO g2 1 [.ref g4, .int (iI m6), .int (iI rc)], cA K g4 100 od6] rfl ?_
              refine g_st hC [] rfl ?_
              refine g_aload_n (pc := 71) hC 1 dX3_readEither_71 rfl rfl ?_
              refine g_fnV (pc := 72) (qr := 0) hC [0, 1, 2] (k_X3_sign _ _ _ _ _ _ _ _ _ (by first | assumption | omega) (by first | assumption | omega) (by first | assumption | omega) (by first | assumption | omega) (by first | assumption | omega) (by first | assumption | omega)) cl_X3_sign wm_X3_28 dX3_readEither_72 rfl rfl rfl rfl rfl (by decide) (by decide) ⟨by omega, by omega⟩ (Nat.le_of_ble_eq_true rfl) rfl rfl ?_
              refine g_name hC (fun y72 e_y72 => ?_)
              have q_y72 : -1 ≤ y72 ∧ y72 ≤ 127 := by rw [e_y72]; exact hT.2.2.1 _
              refine g_bipush (pc := 75) hC (124) dX3_readEither_75 (by decide) ?_
              refine g_icmp_ne (pc := 77) hC 84 dX3_readEither_77 (by decide) (by omega) (by omega) (fun c77 => ?_) (fun c77 => ?_)
              · refine g_iconst (pc := 84) hC dX3_readEither_84 ?_
                refine g_istore_n (pc := 85) hC [(3, _), (2, _), (0, _), (1, _), (4, _)] dX3_readEither_85 rfl (by decide) rfl ?_
                refine g_iload_n (pc := 86) hC 0 dX3_readEither_86 rfl rfl ?_
                refine g_if_ne (pc := 87) hC 92 dX3_readEither_87 (by decide) (by omega) (fun c87 => by exfalso; omega) (fun c87 => ?_)
                refine g_iconst (pc := 90) hC dX3_readEither_90 ?_
                exact g_zret (pc := 91) hR dX3_readEither_91 rfl (by omega) ⟨by omega, by omega⟩ (Nat.le_of_ble_eq_true rfl) ⟨1, p3, nm3, m6, od6, (l3 ++ [-3]), rfl, rfl, (by first | assumption | omega), (by first | assumption | omega), (by first | assumption | omega), (by first | assumption | omega), (by first | assumption | omega), (px_E_end hz (by omega) hz_16 (by rw [if_pos (by omega)]) (by rw [if_neg (by omega)]) (by omega) (by omega)), hL2_68, (by first | assumption | omega), (by first | omega | (simp only [nt_l, List.length_append, List.length_cons, List.length_nil]; omega)), (by first | assumption | omega)⟩
              · have hlt := cr_lt hT (show 0 ≤ p3 by omega) (show T p3 = 124 by omega) (by decide)
                obtain ⟨q2, rfl⟩ : ∃ q2, f2 = q2 + 1 := ⟨f2 - 1, by omega⟩
                refine g_iconst (pc := 80) hC dX3_readEither_80 ?_
                refine g_goto (pc := 81) hC 85 dX3_readEither_81 (by decide) ?_
                refine g_istore_n (pc := 85) hC [(3, _), (2, _), (0, _), (1, _), (4, _)] dX3_readEither_85 rfl (by decide) rfl ?_
                refine g_iload_n (pc := 86) hC 0 dX3_readEither_86 rfl rfl ?_
                refine g_if_ne (pc := 87) hC 92 dX3_readEither_87 (by decide) (by omega) (fun c87 => ?_) (fun c87 => by exfalso; omega)
                refine g_aload_n (pc := 92) hC 2 dX3_readEither_92 rfl rfl ?_
                refine g_dup (pc := 93) hC dX3_readEither_93 rfl ?_
                refine g_get (pc := 94) hC 0 fl_X3_32 dX3_readEither_94 rfl rfl ?_
                refine g_iconst (pc := 97) hC dX3_readEither_97 ?_
                refine g_iadd (pc := 98) hC dX3_readEither_98 ?_
                refine g_putI (pc := 99) hC 0 [cO _ _ [_, _, _, _], _, _, _, _] fl_X3_32 dX3_readEither_99 rfl (Nat.le_of_ble_eq_true rfl) rfl ?_
                refine g_iinc (pc := 102) hC 4 [(4, _), (3, _), (2, _), (0, _), (1, _)] dX3_readEither_102 rfl (by decide) rfl ?_
                refine g_goto (pc := 105) hC 7 dX3_readEither_105 (by decide) ?_
                refine g_lv hC [3, 4, 2, 1, 0] [(0, _), (1, _), (2, _), (3, _), (4, _)] rfl ?_
                exact ih7 0 1 (pt + 1) (p3 + 1) nm3 m6 od6 (l3 ++ [-3]) 101 q2 (by first | assumption | omega) (by first | assumption | omega) (by first | assumption | omega) (by first | assumption | omega) (by first | assumption | omega) (by first | assumption | omega) (by first | assumption | omega) (px_E_or hz (by omega) hz_16 (by rw [if_pos (by omega)]) (by rw [if_neg (by omega)]) (by omega) (by omega)) hL2_68 (by first | assumption | omega) (by first | omega | (simp only [nt_l, List.length_append, List.length_cons, List.length_nil]; omega)) (by first | assumption | omega) (by first | assumption | omega) (by first | assumption | omega) (by omega)
          · have hlt := cr_lt hT (show 0 ≤ p3 by omega) (show T p3 = 38 by omega) (by decide)
            obtain ⟨q1, rfl⟩ : ∃ q1, f1 = q1 + 1 := ⟨f1 - 1, by omega⟩
            refine g_iconst (pc := 47) hC dX3_readEither_47 ?_
            refine g_goto (pc := 48) hC 52 dX3_readEither_48 (by decide) ?_
            refine g_istore_n (pc := 52) hC [(2, _), (0, _), (1, _), (3, _), (4, _)] dX3_readEither_52 rfl (by decide) rfl ?_
            refine g_iload_n (pc := 53) hC 0 dX3_readEither_53 rfl rfl ?_
            refine g_if_ne (pc := 54) hC 92 dX3_readEither_54 (by decide) (by omega) (fun c54 => ?_) (fun c54 => by exfalso; omega)
            refine g_aload_n (pc := 92) hC 1 dX3_readEither_92 rfl rfl ?_
            refine g_dup (pc := 93) hC dX3_readEither_93 rfl ?_
            refine g_get (pc := 94) hC 0 fl_X3_32 dX3_readEither_94 rfl rfl ?_
            refine g_iconst (pc := 97) hC dX3_readEither_97 ?_
            refine g_iadd (pc := 98) hC dX3_readEither_98 ?_
            refine g_putI (pc := 99) hC 0 [cO _ _ [_, _, _, _], _, _, _, _] fl_X3_32 dX3_readEither_99 rfl (Nat.le_of_ble_eq_true rfl) rfl ?_
            refine g_iinc (pc := 102) hC 4 [(4, _), (2, _), (0, _), (1, _), (3, _)] dX3_readEither_102 rfl (by decide) rfl ?_
            refine g_goto (pc := 105) hC 7 dX3_readEither_105 (by decide) ?_
            refine g_lv hC [2, 3, 1, 4, 0] [(0, _), (1, _), (2, _), (3, _), (4, _)] rfl ?_
            exact ih7 1 o (pt + 1) (p3 + 1) nm3 m3 od3 l3 q1 f2 (by first | assumption | omega) (by first | assumption | omega) (by first | assumption | omega) (by first | assumption | omega) (by first | assumption | omega) (by first | assumption | omega) (by first | assumption | omega) (px_E_and hz (by omega) hz_16 (by rw [if_pos (by omega)]) (by omega)) hL2_16 (by first | assumption | omega) (by first | omega | (simp only [nt_l, List.length_append, List.length_cons, List.length_nil]; omega)) (by first | assumption | omega) (by first | assumption | omega) (by first | assumption | omega) (by omega)
        · refine g_aload_n (pc := 28) hC 0 dX3_readEither_28 rfl rfl ?_
          refine g_get (pc := 29) hC 0 fl_X3_15 dX3_readEither_29 rfl rfl ?_
          refine g_bipush (pc := 32) hC (7) dX3_readEither_32 (by decide) ?_
          refine g_iconst (pc := 34) hC dX3_readEither_34 ?_
          refine g_callV (pc := 35) (qr := 3) hC [3, 4] (k_X1_put _ _ _ _ _ _ _ l3 (-2) (by first | assumption | omega) (by first | assumption | omega) (by first | assumption | omega) (by first | assumption | omega) (by first | assumption | omega) (by first | assumption | omega) (by decide +kernel) (by decide)) cl_X1_put wm_X3_61 dX3_readEither_35 rfl rfl rfl rfl rfl (by decide) (by decide) (by omega) (Nat.le_of_ble_eq_true rfl) rfl (fun v9 w9 hq9 => ?_)
          obtain ⟨m4, od4, rfl, rfl, r_m4, r_od4, hL2_35, hm2_35⟩ := hq9
          refine g_ws hC [cO g0 3 [.ref g1, .ref g2, .int (iI nm3), .int (iI p3)], cO g1 6 [.ref g3, .int (iI e)], cA K g3 100 sg, cO g2 1 [.ref g4, .int (iI m4), .int (iI rc)], cA K g4 100 od4] rfl ?_
          refine g_st hC [] rfl ?_
          refine g_aload_n (pc := 38) hC 0 dX3_readEither_38 rfl rfl ?_
          refine g_fnV (pc := 39) (qr := 0) hC [0, 1, 2] (k_X3_sign _ _ _ _ _ _ _ _ _ (by first | assumption | omega) (by first | assumption | omega) (by first | assumption | omega) (by first | assumption | omega) (by first | assumption | omega) (by first | assumption | omega)) cl_X3_sign wm_X3_28 dX3_readEither_39 rfl rfl rfl rfl rfl (by decide) (by decide) ⟨by omega, by omega⟩ (Nat.le_of_ble_eq_true rfl) rfl rfl ?_
          refine g_name hC (fun y39 e_y39 => ?_)
          have q_y39 : -1 ≤ y39 ∧ y39 ≤ 127 := by rw [e_y39]; exact hT.2.2.1 _
          refine g_bipush (pc := 42) hC (38) dX3_readEither_42 (by decide) ?_
          refine g_icmp_ne (pc := 44) hC 51 dX3_readEither_44 (by decide) (by omega) (by omega) (fun c44 => ?_) (fun c44 => ?_)
          · refine g_iconst (pc := 51) hC dX3_readEither_51 ?_
            refine g_istore_n (pc := 52) hC [(2, _), (0, _), (1, _), (3, _), (4, _)] dX3_readEither_52 rfl (by decide) rfl ?_
            refine g_iload_n (pc := 53) hC 0 dX3_readEither_53 rfl rfl ?_
            refine g_if_ne (pc := 54) hC 92 dX3_readEither_54 (by decide) (by omega) (fun c54 => by exfalso; omega) (fun c54 => ?_)
            refine g_iload_n (pc := 57) hC 3 dX3_readEither_57 rfl rfl ?_
            refine g_if_eq (pc := 58) hC 71 dX3_readEither_58 (by decide) (by omega) (fun c58 => ?_) (fun c58 => ?_)
            · refine g_aload_n (pc := 71) hC 1 dX3_readEither_71 rfl rfl ?_
              refine g_fnV (pc := 72) (qr := 0) hC [0, 1, 2] (k_X3_sign _ _ _ _ _ _ _ _ _ (by first | assumption | omega) (by first | assumption | omega) (by first | assumption | omega) (by first | assumption | omega) (by first | assumption | omega) (by first | assumption | omega)) cl_X3_sign wm_X3_28 dX3_readEither_72 rfl rfl rfl rfl rfl (by decide) (by decide) ⟨by omega, by omega⟩ (Nat.le_of_ble_eq_true rfl) rfl rfl ?_
              refine g_name hC (fun y72 e_y72 => ?_)
              have q_y72 : -1 ≤ y72 ∧ y72 ≤ 127 := by rw [e_y72]; exact hT.2.2.1 _
              refine g_bipush (pc := 75) hC (124) dX3_readEither_75 (by decide) ?_
              refine g_icmp_ne (pc := 77) hC 84 dX3_readEither_77 (by decide) (by omega) (by omega) (fun c77 => ?_) (fun c77 => ?_)
              · refine g_iconst (pc := 84) hC dX3_readEither_84 ?_
                refine g_istore_n (pc := 85) hC [(3, _), (2, _), (0, _), (1, _), (4, _)] dX3_readEither_85 rfl (by decide) rfl ?_
                refine g_iload_n (pc := 86) hC 0 dX3_readEither_86 rfl rfl ?_
                refine g_if_ne (pc := 87) hC 92 dX3_readEither_87 (by decide) (by omega) (fun c87 => by exfalso; omega) (fun c87 => ?_)
                refine g_iconst (pc := 90) hC dX3_readEither_90 ?_
                exact g_zret (pc := 91) hR dX3_readEither_91 rfl (by omega) ⟨by omega, by omega⟩ (Nat.le_of_ble_eq_true rfl) ⟨1, p3, nm3, m4, od4, (l3 ++ [-2]), rfl, rfl, (by first | assumption | omega), (by first | assumption | omega), (by first | assumption | omega), (by first | assumption | omega), (by first | assumption | omega), (px_E_end hz (by omega) hz_16 (by rw [if_neg (by omega)]) (by rw [if_pos (by omega)]) (by omega) (by omega)), hL2_35, (by first | assumption | omega), (by first | omega | (simp only [nt_l, List.length_append, List.length_cons, List.length_nil]; omega)), (by first | assumption | omega)⟩
              · have hlt := cr_lt hT (show 0 ≤ p3 by omega) (show T p3 = 124 by omega) (by decide)
                obtain ⟨q2, rfl⟩ : ∃ q2, f2 = q2 + 1 := ⟨f2 - 1, by omega⟩
                refine g_iconst (pc := 80) hC dX3_readEither_80 ?_
                refine g_goto (pc := 81) hC 85 dX3_readEither_81 (by decide) ?_
                refine g_istore_n (pc := 85) hC [(3, _), (2, _), (0, _), (1, _), (4, _)] dX3_readEither_85 rfl (by decide) rfl ?_
                refine g_iload_n (pc := 86) hC 0 dX3_readEither_86 rfl rfl ?_
                refine g_if_ne (pc := 87) hC 92 dX3_readEither_87 (by decide) (by omega) (fun c87 => ?_) (fun c87 => by exfalso; omega)
                refine g_aload_n (pc := 92) hC 2 dX3_readEither_92 rfl rfl ?_
                refine g_dup (pc := 93) hC dX3_readEither_93 rfl ?_
                refine g_get (pc := 94) hC 0 fl_X3_32 dX3_readEither_94 rfl rfl ?_
                refine g_iconst (pc := 97) hC dX3_readEither_97 ?_
                refine g_iadd (pc := 98) hC dX3_readEither_98 ?_
                refine g_putI (pc := 99) hC 0 [cO _ _ [_, _, _, _], _, _, _, _] fl_X3_32 dX3_readEither_99 rfl (Nat.le_of_ble_eq_true rfl) rfl ?_
                refine g_iinc (pc := 102) hC 4 [(4, _), (3, _), (2, _), (0, _), (1, _)] dX3_readEither_102 rfl (by decide) rfl ?_
                refine g_goto (pc := 105) hC 7 dX3_readEither_105 (by decide) ?_
                refine g_lv hC [3, 4, 2, 1, 0] [(0, _), (1, _), (2, _), (3, _), (4, _)] rfl ?_
                exact ih7 0 1 (pt + 1) (p3 + 1) nm3 m4 od4 (l3 ++ [-2]) 101 q2 (by first | assumption | omega) (by first | assumption | omega) (by first | assumption | omega) (by first | assumption | omega) (by first | assumption | omega) (by first | assumption | omega) (by first | assumption | omega) (px_E_or hz (by omega) hz_16 (by rw [if_neg (by omega)]) (by rw [if_pos (by omega)]) (by omega) (by omega)) hL2_35 (by first | assumption | omega) (by first | omega | (simp only [nt_l, List.length_append, List.length_cons, List.length_nil]; omega)) (by first | assumption | omega) (by first | assumption | omega) (by first | assumption | omega) (by omega)
            · refine g_aload_n (pc := 61) hC 1 dX3_readEither_61 rfl rfl ?_
              refine g_get (pc := 62) hC 0 fl_X3_15 dX3_readEither_62 rfl rfl ?_
              refine g_bipush (pc := 65) hC (8) dX3_readEither_65 (by decide) ?_
              refine g_iconst (pc := 67) hC dX3_readEither_67 ?_
              refine g_callV (pc := 68) (qr := 3) hC [3, 4] (k_X1_put _ _ _ _ _ _ _ (l3 ++ [-2]) (-3) (by first | assumption | omega) (by first | assumption | omega) (by first | assumption | omega) (by first | assumption | omega) (by first | assumption | omega) (by first | omega | (simp only [nt_l, List.length_append, List.length_cons, List.length_nil]; omega)) (by decide +kernel) (by decide)) cl_X1_put wm_X3_61 dX3_readEither_68 rfl rfl rfl rfl rfl (by decide) (by decide) (by omega) (Nat.le_of_ble_eq_true rfl) rfl (fun v9 w9 hq9 => ?_)
              obtain ⟨m6, od6, rfl, rfl, r_m6, r_od6, hL2_68, hm2_68⟩ := hq9
              refine g_ws hC [cO g0 3 [.ref g1, .ref g2, .int (iI nm3), .int (iI p3)], cO g1 6 [.ref g3, .int (iI e)], cA K g3 100 sg, cO g2 1 [.ref g4, .int (iI m6), .int (iI rc)], cA K g4 100 od6] rfl ?_
              refine g_st hC [] rfl ?_
              refine g_aload_n (pc := 71) hC 1 dX3_readEither_71 rfl rfl ?_
              refine g_fnV (pc := 72) (qr := 0) hC [0, 1, 2] (k_X3_sign _ _ _ _ _ _ _ _ _ (by first | assumption | omega) (by first | assumption | omega) (by first | assumption | omega) (by first | assumption | omega) (by first | assumption | omega) (by first | assumption | omega)) cl_X3_sign wm_X3_28 dX3_readEither_72 rfl rfl rfl rfl rfl (by decide) (by decide) ⟨by omega, by omega⟩ (Nat.le_of_ble_eq_true rfl) rfl rfl ?_
              refine g_name hC (fun y72 e_y72 => ?_)
              have q_y72 : -1 ≤ y72 ∧ y72 ≤ 127 := by rw [e_y72]; exact hT.2.2.1 _
              refine g_bipush (pc := 75) hC (124) dX3_readEither_75 (by decide) ?_
              refine g_icmp_ne (pc := 77) hC 84 dX3_readEither_77 (by decide) (by omega) (by omega) (fun c77 => ?_) (fun c77 => ?_)
              · refine g_iconst (pc := 84) hC dX3_readEither_84 ?_
                refine g_istore_n (pc := 85) hC [(3, _), (2, _), (0, _), (1, _), (4, _)] dX3_readEither_85 rfl (by decide) rfl ?_
                refine g_iload_n (pc := 86) hC 0 dX3_readEither_86 rfl rfl ?_
                refine g_if_ne (pc := 87) hC 92 dX3_readEither_87 (by decide) (by omega) (fun c87 => by exfalso; omega) (fun c87 => ?_)
                refine g_iconst (pc := 90) hC dX3_readEither_90 ?_
                exact g_zret (pc := 91) hR dX3_readEither_91 rfl (by omega) ⟨by omega, by omega⟩ (Nat.le_of_ble_eq_true rfl) ⟨1, p3, nm3, m6, od6, ((l3 ++ [-2]) ++ [-3]), rfl, rfl, (by first | assumption | omega), (by first | assumption | omega), (by first | assumption | omega), (by first | assumption | omega), (by first | assumption | omega), (px_E_end hz (by omega) hz_16 (by rw [if_neg (by omega)]) (by rw [if_neg (by omega)]) (by omega) (by omega)), hL2_68, (by first | assumption | omega), (by first | omega | (simp only [nt_l, List.length_append, List.length_cons, List.length_nil]; omega)), (by first | assumption | omega)⟩
              · have hlt := cr_lt hT (show 0 ≤ p3 by omega) (show T p3 = 124 by omega) (by decide)
                obtain ⟨q2, rfl⟩ : ∃ q2, f2 = q2 + 1 := ⟨f2 - 1, by omega⟩
                refine g_iconst (pc := 80) hC dX3_readEither_80 ?_
                refine g_goto (pc := 81) hC 85 dX3_readEither_81 (by decide) ?_
                refine g_istore_n (pc := 85) hC [(3, _), (2, _), (0, _), (1, _), (4, _)] dX3_readEither_85 rfl (by decide) rfl ?_
                refine g_iload_n (pc := 86) hC 0 dX3_readEither_86 rfl rfl ?_
                refine g_if_ne (pc := 87) hC 92 dX3_readEither_87 (by decide) (by omega) (fun c87 => ?_) (fun c87 => by exfalso; omega)
                refine g_aload_n (pc := 92) hC 2 dX3_readEither_92 rfl rfl ?_
                refine g_dup (pc := 93) hC dX3_readEither_93 rfl ?_
                refine g_get (pc := 94) hC 0 fl_X3_32 dX3_readEither_94 rfl rfl ?_
                refine g_iconst (pc := 97) hC dX3_readEither_97 ?_
                refine g_iadd (pc := 98) hC dX3_readEither_98 ?_
                refine g_putI (pc := 99) hC 0 [cO _ _ [_, _, _, _], _, _, _, _] fl_X3_32 dX3_readEither_99 rfl (Nat.le_of_ble_eq_true rfl) rfl ?_
                refine g_iinc (pc := 102) hC 4 [(4, _), (3, _), (2, _), (0, _), (1, _)] dX3_readEither_102 rfl (by decide) rfl ?_
                refine g_goto (pc := 105) hC 7 dX3_readEither_105 (by decide) ?_
                refine g_lv hC [3, 4, 2, 1, 0] [(0, _), (1, _), (2, _), (3, _), (4, _)] rfl ?_
                exact ih7 0 1 (pt + 1) (p3 + 1) nm3 m6 od6 ((l3 ++ [-2]) ++ [-3]) 101 q2 (by first | assumption | omega) (by first | assumption | omega) (by first | assumption | omega) (by first | assumption | omega) (by first | assumption | omega) (by first | assumption | omega) (by first | assumption | omega) (px_E_or hz (by omega) hz_16 (by rw [if_neg (by omega)]) (by rw [if_neg (by omega)]) (by omega) (by omega)) hL2_68 (by first | assumption | omega) (by first | omega | (simp only [nt_l, List.length_append, List.length_cons, List.length_nil]; omega)) (by first | assumption | omega) (by first | assumption | omega) (by first | assumption | omega) (by omega)
          · have hlt := cr_lt hT (show 0 ≤ p3 by omega) (show T p3 = 38 by omega) (by decide)
            obtain ⟨q1, rfl⟩ : ∃ q1, f1 = q1 + 1 := ⟨f1 - 1, by omega⟩
            refine g_iconst (pc := 47) hC dX3_readEither_47 ?_
            refine g_goto (pc := 48) hC 52 dX3_readEither_48 (by decide) ?_
            refine g_istore_n (pc := 52) hC [(2, _), (0, _), (1, _), (3, _), (4, _)] dX3_readEither_52 rfl (by decide) rfl ?_
            refine g_iload_n (pc := 53) hC 0 dX3_readEither_53 rfl rfl ?_
            refine g_if_ne (pc := 54) hC 92 dX3_readEither_54 (by decide) (by omega) (fun c54 => ?_) (fun c54 => by exfalso; omega)
            refine g_aload_n (pc := 92) hC 1 dX3_readEither_92 rfl rfl ?_
            refine g_dup (pc := 93) hC dX3_readEither_93 rfl ?_
            refine g_get (pc := 94) hC 0 fl_X3_32 dX3_readEither_94 rfl rfl ?_
            refine g_iconst (pc := 97) hC dX3_readEither_97 ?_
            refine g_iadd (pc := 98) hC dX3_readEither_98 ?_
            refine g_putI (pc := 99) hC 0 [cO _ _ [_, _, _, _], _, _, _, _] fl_X3_32 dX3_readEither_99 rfl (Nat.le_of_ble_eq_true rfl) rfl ?_
            refine g_iinc (pc := 102) hC 4 [(4, _), (2, _), (0, _), (1, _), (3, _)] dX3_readEither_102 rfl (by decide) rfl ?_
            refine g_goto (pc := 105) hC 7 dX3_readEither_105 (by decide) ?_
            refine g_lv hC [2, 3, 1, 4, 0] [(0, _), (1, _), (2, _), (3, _), (4, _)] rfl ?_
            exact ih7 1 o (pt + 1) (p3 + 1) nm3 m4 od4 (l3 ++ [-2]) q1 f2 (by first | assumption | omega) (by first | assumption | omega) (by first | assumption | omega) (by first | assumption | omega) (by first | assumption | omega) (by first | assumption | omega) (by first | assumption | omega) (px_E_and hz (by omega) hz_16 (by rw [if_neg (by omega)]) (by omega)) hL2_35 (by first | assumption | omega) (by first | omega | (simp only [nt_l, List.length_append, List.length_cons, List.length_nil]; omega)) (by first | assumption | omega) (by first | assumption | omega) (by first | assumption | omega) (by omega)
      · refine g_iconst (pc := 22) hC dX3_readEither_22 ?_
        exact g_zret (pc := 23) hR dX3_readEither_23 rfl (by omega) ⟨by omega, by omega⟩ (Nat.le_of_ble_eq_true rfl) ⟨0, p3, nm3, m3, od3, l3, rfl, rfl, (by first | assumption | omega), (by first | assumption | omega), (by first | assumption | omega), (by first | assumption | omega), (by first | assumption | omega), (px_E_f hz (by omega) hz_16), hL2_16, (by first | assumption | omega), (by omega), (by first | assumption | omega)⟩
  refine g_lv hC [3, 4, 2, 1, 0] [(0, _), (1, _), (2, _), (3, _), (4, _)] rfl ?_
  exact L7 ((e - p : Int).toNat + 1) 0 0 0 p nm m od l 101 101 (by first | assumption | omega) (by first | assumption | omega) (by first | assumption | omega) (by first | assumption | omega) (by first | assumption | omega) (by first | assumption | omega) (by first | assumption | omega) rfl (by first | assumption | omega) (by first | assumption | omega) (by first | assumption | omega) (by first | assumption | omega) (by first | assumption | omega) (by first | assumption | omega) (by omega)
set_option maxHeartbeats 4000000 in
set_option maxRecDepth 100000 in
theorem k_X3_readInBrackets_1 {K : gK} (g0 : Nat) (g1 : Nat) (g2 : Nat) (g3 : Nat) (g4 : Nat) (nm : Int) (p : Int) (e : Int) (m : Int) (rc : Int) (sg : Int → Int) (od : Int → Int) (T : Int → Int) (l : List Int) (r_nm : rI nm) (r_p : rI p) (r_e : rI e) (r_m : rI m) (r_rc : rI rc) (r_sg : ∀ j, rI (sg j)) (r_od : ∀ j, rI (od j)) (hT : cr_T T e sg) (hp : 0 ≤ p ∧ p ≤ e) (hL : cr_L l od m) (hl : (l.length : Int) ≤ p) (hnm : 0 ≤ nm ∧ nm ≤ 99) (hc : T p = 40) : gMet K yX3_readInBrackets cX3_readInBrackets 2 (some .boolean) 18 0 0 [.ref g0, .int (iI 1)] [cO g0 3 [.ref g1, .ref g2, .int (iI nm), .int (iI p)], cO g1 6 [.ref g3, .int (iI e)], cA K g3 100 sg, cO g2 1 [.ref g4, .int (iI m), .int (iI rc)], cA K g4 100 od] (fun v9 w9 => ∃ (r : Int), ∃ (p2 : Int), ∃ (nm2 : Int), ∃ (m2 : Int), ∃ (od2 : Int → Int), ∃ (l2 : List Int), v9 = some (.int (iI r)) ∧ w9 = [cO g0 3 [.ref g1, .ref g2, .int (iI nm2), .int (iI p2)], cO g1 6 [.ref g3, .int (iI e)], cA K g3 100 sg, cO g2 1 [.ref g4, .int (iI m2), .int (iI rc)], cA K g4 100 od2] ∧ rI r ∧ rI p2 ∧ rI nm2 ∧ rI m2 ∧ (∀ j, rI (od2 j)) ∧ ((1 - r, p2, l2) = px_fac T 4 (0, p, l)) ∧ (cr_L l2 od2 m2) ∧ ((r = 0 ∨ r = 1) ∧ p ≤ p2 ∧ p2 ≤ e ∧ (r = 1 → p < p2)) ∧ ((l2.length : Int) + p ≤ (l.length : Int) + p2) ∧ (0 ≤ nm2 ∧ nm2 ≤ 99)) := by
  refine g_enter (by decide +kernel) (Nat.le_of_ble_eq_true rfl) (fun G hC hR => ?_)
  refine g_lv hC [0, 1] [(0, _), (1, _)] rfl ?_
  have hge := hT.1
  have hlt := cr_lt hT hp.1 hc (by decide)
  refine g_iload_n (pc := 0) hC 1 dX3_readInBrackets_0 rfl rfl ?_
  refine g_iconst (pc := 1) hC dX3_readInBrackets_1 ?_
  refine g_icmp_lt (pc := 2) hC 7 dX3_readInBrackets_2 (by decide) (by omega) (by omega) (fun c2 => ?_) (fun c2 => by exfalso; omega)
  refine g_aload_n (pc := 7) hC 0 dX3_readInBrackets_7 rfl rfl ?_
  refine g_dup (pc := 8) hC dX3_readInBrackets_8 rfl ?_
  refine g_get (pc := 9) hC 0 fl_X3_32 dX3_readInBrackets_9 rfl rfl ?_
  refine g_iconst (pc := 12) hC dX3_readInBrackets_12 ?_
  refine g_iadd (pc := 13) hC dX3_readInBrackets_13 ?_
  refine g_putI (pc := 14) hC 0 [cO _ _ [_, _, _, _], _, _, _, _] fl_X3_32 dX3_readInBrackets_14 rfl (Nat.le_of_ble_eq_true rfl) rfl ?_
  refine g_aload_n (pc := 17) hC 0 dX3_readInBrackets_17 rfl rfl ?_
  refine g_iload_n (pc := 18) hC 1 dX3_readInBrackets_18 rfl rfl ?_
  refine g_iconst (pc := 19) hC dX3_readInBrackets_19 ?_
  refine g_iadd (pc := 20) hC dX3_readInBrackets_20 ?_
  refine g_st hC [.int (iI (2)), _] rfl ?_
  refine g_callV (pc := 21) (qr := 0) hC [0, 1, 2, 3, 4] (k_X3_readEither_2 _ _ _ _ _ _ _ _ _ _ _ _ _ _ (by first | assumption | omega) (by first | assumption | omega) (by first | assumption | omega) (by first | assumption | omega) (by first | assumption | omega) (by first | assumption | omega) (by first | assumption | omega) (by first | assumption | omega) (by first | assumption | omega) (by first | assumption | omega) (by omega) (by first | assumption | omega)) cl_X3_readEither wm_X3_57 dX3_readInBrackets_21 rfl rfl rfl rfl rfl (by decide) (by decide) (by omega) (Nat.le_of_ble_eq_true rfl) rfl (fun v9 w9 hq9 => ?_)
  obtain ⟨r3, p3, nm3, m3, od3, l3, rfl, rfl, r_r3, r_p3, r_nm3, r_m3, r_od3, hz_21, hL2_21, hb_21, hl2_21, hnm2_21⟩ := hq9
  refine g_ws hC [cO g0 3 [.ref g1, .ref g2, .int (iI nm3), .int (iI p3)], cO g1 6 [.ref g3, .int (iI e)], cA K g3 100 sg, cO g2 1 [.ref g4, .int (iI m3), .int (iI rc)], cA K g4 100 od3] rfl ?_
  refine g_st hC [.int (iI r3)] rfl ?_
  refine g_if_eq (pc := 24) hC 40 dX3_readInBrackets_24 (by decide) (by omega) (fun c24 => ?_) (fun c24 => ?_)
  · refine g_iconst (pc := 40) hC dX3_readInBrackets_40 ?_
    exact g_zret (pc := 41) hR dX3_readInBrackets_41 rfl (by omega) ⟨by omega, by omega⟩ (Nat.le_of_ble_eq_true rfl) ⟨0, p3, nm3, m3, od3, l3, rfl, rfl, (by first | assumption | omega), (by first | assumption | omega), (by first | assumption | omega), (by first | assumption | omega), (by first | assumption | omega), (px_br_f hc (by omega) hz_21), hL2_21, (by first | assumption | omega), (by first | assumption | omega), (by first | assumption | omega)⟩
  · refine g_aload_n (pc := 27) hC 0 dX3_readInBrackets_27 rfl rfl ?_
    refine g_ldcS_X3_74 (pc := 28) hC rfl dX3_readInBrackets_28 ?_
    refine g_callV (pc := 30) (qr := 0) hC [0, 1, 2] (k_X3_readWord _ _ _ _ _ _ _ _ _ _ (by first | assumption | omega) (by first | assumption | omega) (by first | assumption | omega) (by first | assumption | omega) (by first | assumption | omega) (by first | assumption | omega) (by first | assumption | omega)) cl_X3_readWord wm_X3_42 dX3_readInBrackets_30 rfl rfl rfl rfl rfl (by decide) (by decide) (by omega) (Nat.le_of_ble_eq_true rfl) rfl (fun v9 w9 hq9 => ?_)
    obtain ⟨r4, p4, rfl, rfl, r_r4, r_p4, hz_30, hb_30⟩ := hq9
    refine g_ws hC [cO g0 3 [.ref g1, .ref g2, .int (iI nm3), .int (iI p4)], cO g1 6 [.ref g3, .int (iI e)], cA K g3 100 sg, cO g2 1 [.ref g4, .int (iI m3), .int (iI rc)], cA K g4 100 od3] rfl ?_
    refine g_st hC [.int (iI r4)] rfl ?_
    have hs4 : sl 4 = 1 := rfl
    refine g_if_eq (pc := 33) hC 40 dX3_readInBrackets_33 (by decide) (by omega) (fun c33 => ?_) (fun c33 => ?_)
    · refine g_iconst (pc := 40) hC dX3_readInBrackets_40 ?_
      exact g_zret (pc := 41) hR dX3_readInBrackets_41 rfl (by omega) ⟨by omega, by omega⟩ (Nat.le_of_ble_eq_true rfl) ⟨0, p4, nm3, m3, od3, l3, rfl, rfl, (by first | assumption | omega), (by first | assumption | omega), (by first | assumption | omega), (by first | assumption | omega), (by first | assumption | omega), (px_br_t (r4 := 0) hc (by omega) hz_21 (by rw [← hz_30, show r4 = 0 by omega])), hL2_21, (by first | assumption | omega), (by first | assumption | omega), (by first | assumption | omega)⟩
    · refine g_iconst (pc := 36) hC dX3_readInBrackets_36 ?_
      refine g_goto (pc := 37) hC 41 dX3_readInBrackets_37 (by decide) ?_
      exact g_zret (pc := 41) hR dX3_readInBrackets_41 rfl (by omega) ⟨by omega, by omega⟩ (Nat.le_of_ble_eq_true rfl) ⟨1, p4, nm3, m3, od3, l3, rfl, rfl, (by first | assumption | omega), (by first | assumption | omega), (by first | assumption | omega), (by first | assumption | omega), (by first | assumption | omega), (px_br_t (r4 := 1) hc (by omega) hz_21 (by rw [← hz_30, show r4 = 1 by omega])), hL2_21, (by first | assumption | omega), (by first | assumption | omega), (by first | assumption | omega)⟩
set_option maxHeartbeats 4000000 in
set_option maxRecDepth 100000 in
theorem k_X3_readOne_1 {K : gK} (g0 : Nat) (g1 : Nat) (g2 : Nat) (g3 : Nat) (g4 : Nat) (nm : Int) (p : Int) (e : Int) (m : Int) (rc : Int) (sg : Int → Int) (od : Int → Int) (T : Int → Int) (l : List Int) (r_nm : rI nm) (r_p : rI p) (r_e : rI e) (r_m : rI m) (r_rc : rI rc) (r_sg : ∀ j, rI (sg j)) (r_od : ∀ j, rI (od j)) (hT : cr_T T e sg) (hp : 0 ≤ p ∧ p ≤ e) (hL : cr_L l od m) (hl : (l.length : Int) ≤ p) (hnm : 0 ≤ nm ∧ nm ≤ 99) : gMet K yX3_readOne cX3_readOne 5 (some .boolean) 19 0 0 [.ref g0, .int (iI 1)] [cO g0 3 [.ref g1, .ref g2, .int (iI nm), .int (iI p)], cO g1 6 [.ref g3, .int (iI e)], cA K g3 100 sg, cO g2 1 [.ref g4, .int (iI m), .int (iI rc)], cA K g4 100 od] (fun v9 w9 => ∃ (r : Int), ∃ (p2 : Int), ∃ (nm2 : Int), ∃ (m2 : Int), ∃ (od2 : Int → Int), ∃ (l2 : List Int), v9 = some (.int (iI r)) ∧ w9 = [cO g0 3 [.ref g1, .ref g2, .int (iI nm2), .int (iI p2)], cO g1 6 [.ref g3, .int (iI e)], cA K g3 100 sg, cO g2 1 [.ref g4, .int (iI m2), .int (iI rc)], cA K g4 100 od2] ∧ rI r ∧ rI p2 ∧ rI nm2 ∧ rI m2 ∧ (∀ j, rI (od2 j)) ∧ ((1 - r, p2, l2) = px_fac T 4 (0, p, l)) ∧ (cr_L l2 od2 m2) ∧ ((r = 0 ∨ r = 1) ∧ p ≤ p2 ∧ p2 ≤ e ∧ (r = 1 → p < p2)) ∧ ((l2.length : Int) + p ≤ (l.length : Int) + p2) ∧ (0 ≤ nm2 ∧ nm2 ≤ 99)) := by
  refine g_enter (by decide +kernel) (Nat.le_of_ble_eq_true rfl) (fun G hC hR => ?_)
  refine g_lv hC [0, 1] [(0, _), (1, _)] rfl ?_
  have hge := hT.1
  refine g_iconst (pc := 0) hC dX3_readOne_0 ?_
  refine g_istore_n (pc := 1) hC [(2, _), (0, _), (1, _)] dX3_readOne_1 rfl (by decide) rfl ?_
  refine g_aload_n (pc := 2) hC 1 dX3_readOne_2 rfl rfl ?_
  refine g_fnV (pc := 3) (qr := 0) hC [0, 1, 2] (k_X3_sign _ _ _ _ _ _ _ _ _ (by first | assumption | omega) (by first | assumption | omega) (by first | assumption | omega) (by first | assumption | omega) (by first | assumption | omega) (by first | assumption | omega)) cl_X3_sign wm_X3_28 dX3_readOne_3 rfl rfl rfl rfl rfl (by decide) (by decide) ⟨by omega, by omega⟩ (Nat.le_of_ble_eq_true rfl) rfl rfl ?_
  refine g_name hC (fun y0 e_y0 => ?_)
  have q_y0 : -1 ≤ y0 ∧ y0 ≤ 127 := by rw [e_y0]; exact hT.2.2.1 _
  refine g_bipush (pc := 6) hC (33) dX3_readOne_6 (by decide) ?_
  refine g_icmp_ne (pc := 8) hC 34 dX3_readOne_8 (by decide) (by omega) (by omega) (fun c8 => ?_) (fun c8 => ?_)
  · have hn9 : ¬ T (p) = 33 := by omega
    refine g_aload_n (pc := 34) hC 1 dX3_readOne_34 rfl rfl ?_
    refine g_fnV (pc := 35) (qr := 0) hC [0, 1, 2] (k_X3_sign _ _ _ _ _ _ _ _ _ (by first | assumption | omega) (by first | assumption | omega) (by first | assumption | omega) (by first | assumption | omega) (by first | assumption | omega) (by first | assumption | omega)) cl_X3_sign wm_X3_28 dX3_readOne_35 rfl rfl rfl rfl rfl (by decide) (by decide) ⟨by omega, by omega⟩ (Nat.le_of_ble_eq_true rfl) rfl rfl ?_
    refine g_name hC (fun y99 e_y99 => ?_)
    have q_y99 : -1 ≤ y99 ∧ y99 ≤ 127 := by rw [e_y99]; exact hT.2.2.1 _
    refine g_bipush (pc := 38) hC (40) dX3_readOne_38 (by decide) ?_
    refine g_icmp_ne (pc := 40) hC 53 dX3_readOne_40 (by decide) (by omega) (by omega) (fun c40 => ?_) (fun c40 => ?_)
    · refine g_aload_n (pc := 53) hC 1 dX3_readOne_53 rfl rfl ?_
      refine g_callV (pc := 54) (qr := 0) hC [0, 1, 2, 3, 4] (k_X3_readTest _ _ _ _ _ _ _ _ _ _ _ _ _ _ (by first | assumption | omega) (by first | assumption | omega) (by first | assumption | omega) (by first | assumption | omega) (by first | assumption | omega) (by first | assumption | omega) (by first | assumption | omega) (by first | assumption | omega) (by first | assumption | omega) (by first | assumption | omega) (by first | assumption | omega) (by first | assumption | omega)) cl_X3_readTest wm_X3_71 dX3_readOne_54 rfl rfl rfl rfl rfl (by decide) (by decide) (by omega) (Nat.le_of_ble_eq_true rfl) rfl (fun v9 w9 hq9 => ?_)
      obtain ⟨r3, p3, nm3, m3, od3, l3, rfl, rfl, r_r3, r_p3, r_nm3, r_m3, r_od3, hz_54, hL2_54, hb_54, hl2_54, hnm2_54⟩ := hq9
      refine g_ws hC [cO g0 3 [.ref g1, .ref g2, .int (iI nm3), .int (iI p3)], cO g1 6 [.ref g3, .int (iI e)], cA K g3 100 sg, cO g2 1 [.ref g4, .int (iI m3), .int (iI rc)], cA K g4 100 od3] rfl ?_
      refine g_st hC [.int (iI r3)] rfl ?_
      refine g_istore_n (pc := 57) hC [(3, _), (2, _), (0, _), (1, _)] dX3_readOne_57 rfl (by decide) rfl ?_
      refine g_iconst (pc := 58) hC dX3_readOne_58 ?_
      refine g_istore (pc := 59) hC [(4, _), (3, _), (2, _), (0, _), (1, _)] dX3_readOne_59 (by decide) rfl ?_
      refine g_iload (pc := 61) hC 0 dX3_readOne_61 rfl ?_
      refine g_iload_n (pc := 63) hC 2 dX3_readOne_63 rfl rfl ?_
      refine g_icmp_ge (pc := 64) hC 87 dX3_readOne_64 (by decide) (by omega) (by omega) (fun c64 => ?_) (fun c64 => by exfalso; omega)
      refine g_iload_n (pc := 87) hC 1 dX3_readOne_87 rfl rfl ?_
      exact g_zret (pc := 88) hR dX3_readOne_88 rfl (by omega) ⟨by omega, by omega⟩ (Nat.le_of_ble_eq_true rfl) ⟨r3, p3, nm3, m3, od3, l3, rfl, rfl, (by first | assumption | omega), (by first | assumption | omega), (by first | assumption | omega), (by first | assumption | omega), (by first | assumption | omega), (px_fac_t rfl hn9 (by omega) hz_54), hL2_54, (by first | assumption | omega), (by first | assumption | omega), (by first | assumption | omega)⟩
    · have hlt9 := cr_lt hT (by omega) (show T (p) = 40 by omega) (by decide)
      refine g_aload_n (pc := 43) hC 1 dX3_readOne_43 rfl rfl ?_
      refine g_iload_n (pc := 44) hC 2 dX3_readOne_44 rfl rfl ?_
      refine g_iload_n (pc := 45) hC 0 dX3_readOne_45 rfl rfl ?_
      refine g_iadd (pc := 46) hC dX3_readOne_46 ?_
      refine g_st hC [.int (iI (1)), _] rfl ?_
      refine g_callV (pc := 47) (qr := 0) hC [0, 1, 2, 3, 4] (k_X3_readInBrackets_1 _ _ _ _ _ _ _ _ _ _ _ _ _ _ (by first | assumption | omega) (by first | assumption | omega) (by first | assumption | omega) (by first | assumption | omega) (by first | assumption | omega) (by first | assumption | omega) (by first | assumption | omega) (by first | assumption | omega) (by first | assumption | omega) (by first | assumption | omega) (by first | assumption | omega) (by first | assumption | omega) (by first | assumption | omega)) cl_X3_readInBrackets wm_X3_68 dX3_readOne_47 rfl rfl rfl rfl rfl (by decide) (by decide) (by omega) (Nat.le_of_ble_eq_true rfl) rfl (fun v9 w9 hq9 => ?_)
      obtain ⟨r3, p3, nm3, m3, od3, l3, rfl, rfl, r_r3, r_p3, r_nm3, r_m3, r_od3, hz_47, hL2_47, hb_47, hl2_47, hnm2_47⟩ := hq9
      refine g_ws hC [cO g0 3 [.ref g1, .ref g2, .int (iI nm3), .int (iI p3)], cO g1 6 [.ref g3, .int (iI e)], cA K g3 100 sg, cO g2 1 [.ref g4, .int (iI m3), .int (iI rc)], cA K g4 100 od3] rfl ?_
      refine g_st hC [.int (iI r3)] rfl ?_
      refine g_goto (pc := 50) hC 57 dX3_readOne_50 (by decide) ?_
      refine g_istore_n (pc := 57) hC [(3, _), (2, _), (0, _), (1, _)] dX3_readOne_57 rfl (by decide) rfl ?_
      refine g_iconst (pc := 58) hC dX3_readOne_58 ?_
      refine g_istore (pc := 59) hC [(4, _), (3, _), (2, _), (0, _), (1, _)] dX3_readOne_59 (by decide) rfl ?_
      refine g_iload (pc := 61) hC 0 dX3_readOne_61 rfl ?_
      refine g_iload_n (pc := 63) hC 2 dX3_readOne_63 rfl rfl ?_
      refine g_icmp_ge (pc := 64) hC 87 dX3_readOne_64 (by decide) (by omega) (by omega) (fun c64 => ?_) (fun c64 => by exfalso; omega)
      refine g_iload_n (pc := 87) hC 1 dX3_readOne_87 rfl rfl ?_
      exact g_zret (pc := 88) hR dX3_readOne_88 rfl (by omega) ⟨by omega, by omega⟩ (Nat.le_of_ble_eq_true rfl) ⟨r3, p3, nm3, m3, od3, l3, rfl, rfl, (by first | assumption | omega), (by first | assumption | omega), (by first | assumption | omega), (by first | assumption | omega), (by first | assumption | omega), hz_47, hL2_47, (by first | assumption | omega), (by first | assumption | omega), (by first | assumption | omega)⟩
  · have hq0 : T (p) = 33 := by omega
    have hlt0 := cr_lt hT (by omega) hq0 (by decide)
    refine g_iload_n (pc := 11) hC 2 dX3_readOne_11 rfl rfl ?_
    refine g_iload_n (pc := 12) hC 0 dX3_readOne_12 rfl rfl ?_
    refine g_iadd (pc := 13) hC dX3_readOne_13 ?_
    refine g_st hC [.int (iI (1))] rfl ?_
    refine g_iconst (pc := 14) hC dX3_readOne_14 ?_
    refine g_icmp_ge (pc := 15) hC 34 dX3_readOne_15 (by decide) (by omega) (by omega) (fun c15 => by exfalso; omega) (fun c15 => ?_)
    refine g_iinc (pc := 18) hC 0 [(2, _), (0, _), (1, _)] dX3_readOne_18 rfl (by decide) rfl ?_
    refine g_lv hC [0, 1, 2] [(2, .int (iI 1)), (0, _), (1, _)] rfl ?_
    skip
    refine g_aload_n (pc := 21) hC 1 dX3_readOne_21 rfl rfl ?_
    refine g_dup (pc := 22) hC dX3_readOne_22 rfl ?_
    refine g_get (pc := 23) hC 0 fl_X3_32 dX3_readOne_23 rfl rfl ?_
    refine g_iconst (pc := 26) hC dX3_readOne_26 ?_
    refine g_iadd (pc := 27) hC dX3_readOne_27 ?_
    refine g_putI (pc := 28) hC 0 [cO _ _ [_, _, _, _], _, _, _, _] fl_X3_32 dX3_readOne_28 rfl (Nat.le_of_ble_eq_true rfl) rfl ?_
    refine g_goto (pc := 31) hC 2 dX3_readOne_31 (by decide) ?_
    refine g_aload_n (pc := 2) hC 1 dX3_readOne_2 rfl rfl ?_
    refine g_fnV (pc := 3) (qr := 0) hC [0, 1, 2] (k_X3_sign _ _ _ _ _ _ _ _ _ (by first | assumption | omega) (by first | assumption | omega) (by first | assumption | omega) (by first | assumption | omega) (by first | assumption | omega) (by first | assumption | omega)) cl_X3_sign wm_X3_28 dX3_readOne_3 rfl rfl rfl rfl rfl (by decide) (by decide) ⟨by omega, by omega⟩ (Nat.le_of_ble_eq_true rfl) rfl rfl ?_
    refine g_name hC (fun y1 e_y1 => ?_)
    have q_y1 : -1 ≤ y1 ∧ y1 ≤ 127 := by rw [e_y1]; exact hT.2.2.1 _
    refine g_bipush (pc := 6) hC (33) dX3_readOne_6 (by decide) ?_
    refine g_icmp_ne (pc := 8) hC 34 dX3_readOne_8 (by decide) (by omega) (by omega) (fun c8 => ?_) (fun c8 => ?_)
    · have hn9 : ¬ T ((p + 1)) = 33 := by omega
      refine g_aload_n (pc := 34) hC 1 dX3_readOne_34 rfl rfl ?_
      refine g_fnV (pc := 35) (qr := 0) hC [0, 1, 2] (k_X3_sign _ _ _ _ _ _ _ _ _ (by first | assumption | omega) (by first | assumption | omega) (by first | assumption | omega) (by first | assumption | omega) (by first | assumption | omega) (by first | assumption | omega)) cl_X3_sign wm_X3_28 dX3_readOne_35 rfl rfl rfl rfl rfl (by decide) (by decide) ⟨by omega, by omega⟩ (Nat.le_of_ble_eq_true rfl) rfl rfl ?_
      refine g_name hC (fun y99 e_y99 => ?_)
      have q_y99 : -1 ≤ y99 ∧ y99 ≤ 127 := by rw [e_y99]; exact hT.2.2.1 _
      refine g_bipush (pc := 38) hC (40) dX3_readOne_38 (by decide) ?_
      refine g_icmp_ne (pc := 40) hC 53 dX3_readOne_40 (by decide) (by omega) (by omega) (fun c40 => ?_) (fun c40 => ?_)
      · refine g_aload_n (pc := 53) hC 1 dX3_readOne_53 rfl rfl ?_
        refine g_callV (pc := 54) (qr := 0) hC [0, 1, 2, 3, 4] (k_X3_readTest _ _ _ _ _ _ _ _ _ _ _ _ _ _ (by first | assumption | omega) (by first | assumption | omega) (by first | assumption | omega) (by first | assumption | omega) (by first | assumption | omega) (by first | assumption | omega) (by first | assumption | omega) (by first | assumption | omega) (by first | assumption | omega) (by first | assumption | omega) (by first | assumption | omega) (by first | assumption | omega)) cl_X3_readTest wm_X3_71 dX3_readOne_54 rfl rfl rfl rfl rfl (by decide) (by decide) (by omega) (Nat.le_of_ble_eq_true rfl) rfl (fun v9 w9 hq9 => ?_)
        obtain ⟨r3, p3, nm3, m3, od3, l3, rfl, rfl, r_r3, r_p3, r_nm3, r_m3, r_od3, hz_54, hL2_54, hb_54, hl2_54, hnm2_54⟩ := hq9
        refine g_ws hC [cO g0 3 [.ref g1, .ref g2, .int (iI nm3), .int (iI p3)], cO g1 6 [.ref g3, .int (iI e)], cA K g3 100 sg, cO g2 1 [.ref g4, .int (iI m3), .int (iI rc)], cA K g4 100 od3] rfl ?_
        refine g_st hC [.int (iI r3)] rfl ?_
        refine g_istore_n (pc := 57) hC [(3, _), (2, _), (0, _), (1, _)] dX3_readOne_57 rfl (by decide) rfl ?_
        refine g_iconst (pc := 58) hC dX3_readOne_58 ?_
        refine g_istore (pc := 59) hC [(4, _), (3, _), (2, _), (0, _), (1, _)] dX3_readOne_59 (by decide) rfl ?_
        refine g_iload (pc := 61) hC 0 dX3_readOne_61 rfl ?_
        refine g_iload_n (pc := 63) hC 2 dX3_readOne_63 rfl rfl ?_
        refine g_icmp_ge (pc := 64) hC 87 dX3_readOne_64 (by decide) (by omega) (by omega) (fun c64 => by exfalso; omega) (fun c64 => ?_)
        refine g_iload_n (pc := 67) hC 1 dX3_readOne_67 rfl rfl ?_
        refine g_if_eq (pc := 68) hC 87 dX3_readOne_68 (by decide) (by omega) (fun c68 => ?_) (fun c68 => ?_)
        · refine g_iload_n (pc := 87) hC 1 dX3_readOne_87 rfl rfl ?_
          exact g_zret (pc := 88) hR dX3_readOne_88 rfl (by omega) ⟨by omega, by omega⟩ (Nat.le_of_ble_eq_true rfl) ⟨r3, p3, nm3, m3, od3, l3, rfl, rfl, (by first | assumption | omega), (by first | assumption | omega), (by first | assumption | omega), (by first | assumption | omega), (by first | assumption | omega), (px_fac_not (l4 := l3) rfl hq0 (px_fac_t rfl hn9 (by omega) hz_54) (by rw [if_neg (show ¬ (1 - r3 : Int) = 0 by omega)])), hL2_54, (by first | assumption | omega), (by first | assumption | omega), (by first | assumption | omega)⟩
        · refine g_aload_n (pc := 71) hC 3 dX3_readOne_71 rfl rfl ?_
          refine g_get (pc := 72) hC 0 fl_X3_15 dX3_readOne_72 rfl rfl ?_
          refine g_bipush (pc := 75) hC (6) dX3_readOne_75 (by decide) ?_
          refine g_iconst (pc := 77) hC dX3_readOne_77 ?_
          refine g_callV (pc := 78) (qr := 3) hC [3, 4] (k_X1_put _ _ _ _ _ _ _ (nt_l l3 0) (-1) (by first | assumption | omega) (by first | assumption | omega) (by first | assumption | omega) (by first | assumption | omega) (by first | assumption | omega) (by first | omega | (simp only [nt_l, List.length_append, List.length_cons, List.length_nil]; omega)) (by decide +kernel) (by decide)) cl_X1_put wm_X3_61 dX3_readOne_78 rfl rfl rfl rfl rfl (by decide) (by decide) (by omega) (Nat.le_of_ble_eq_true rfl) rfl (fun v9 w9 hq9 => ?_)
          obtain ⟨m4, od4, rfl, rfl, r_m4, r_od4, hL2_78, hm2_78⟩ := hq9
          refine g_ws hC [cO g0 3 [.ref g1, .ref g2, .int (iI nm3), .int (iI p3)], cO g1 6 [.ref g3, .int (iI e)], cA K g3 100 sg, cO g2 1 [.ref g4, .int (iI m4), .int (iI rc)], cA K g4 100 od4] rfl ?_
          refine g_st hC [] rfl ?_
          refine g_iinc (pc := 81) hC 0 [(4, _), (3, _), (2, _), (0, _), (1, _)] dX3_readOne_81 rfl (by decide) rfl ?_
          refine g_lv hC [0, 1, 2, 3, 4] [(4, .int (iI 1)), (3, _), (2, _), (0, _), (1, _)] rfl ?_
          refine g_goto (pc := 84) hC 61 dX3_readOne_84 (by decide) ?_
          refine g_iload (pc := 61) hC 0 dX3_readOne_61 rfl ?_
          refine g_iload_n (pc := 63) hC 2 dX3_readOne_63 rfl rfl ?_
          refine g_icmp_ge (pc := 64) hC 87 dX3_readOne_64 (by decide) (by omega) (by omega) (fun c64 => ?_) (fun c64 => by exfalso; omega)
          refine g_iload_n (pc := 87) hC 1 dX3_readOne_87 rfl rfl ?_
          exact g_zret (pc := 88) hR dX3_readOne_88 rfl (by omega) ⟨by omega, by omega⟩ (Nat.le_of_ble_eq_true rfl) ⟨r3, p3, nm3, m4, od4, (nt_l l3 1), rfl, rfl, (by first | assumption | omega), (by first | assumption | omega), (by first | assumption | omega), (by first | assumption | omega), (by first | assumption | omega), (px_fac_not (l4 := nt_l l3 1) rfl hq0 (px_fac_t rfl hn9 (by omega) hz_54) (by rw [if_pos (show (1 - r3 : Int) = 0 by omega)]; rfl)), hL2_78, (by first | assumption | omega), (by first | omega | (simp only [nt_l, List.length_append, List.length_cons, List.length_nil]; omega)), (by first | assumption | omega)⟩
      · have hlt9 := cr_lt hT (by omega) (show T ((p + 1)) = 40 by omega) (by decide)
        refine g_aload_n (pc := 43) hC 1 dX3_readOne_43 rfl rfl ?_
        refine g_iload_n (pc := 44) hC 2 dX3_readOne_44 rfl rfl ?_
        refine g_iload_n (pc := 45) hC 0 dX3_readOne_45 rfl rfl ?_
        refine g_iadd (pc := 46) hC dX3_readOne_46 ?_
        refine g_st hC [.int (iI (2)), _] rfl ?_
        refine g_callV (pc := 47) (qr := 0) hC [0, 1, 2, 3, 4] (k_X3_readInBrackets_2 _ _ _ _ _ _ _ _ _ _ _ _ _ _ (by first | assumption | omega) (by first | assumption | omega) (by first | assumption | omega) (by first | assumption | omega) (by first | assumption | omega) (by first | assumption | omega) (by first | assumption | omega) (by first | assumption | omega) (by first | assumption | omega) (by first | assumption | omega) (by first | assumption | omega) (by first | assumption | omega) (by first | assumption | omega)) cl_X3_readInBrackets wm_X3_68 dX3_readOne_47 rfl rfl rfl rfl rfl (by decide) (by decide) (by omega) (Nat.le_of_ble_eq_true rfl) rfl (fun v9 w9 hq9 => ?_)
        obtain ⟨r3, p3, nm3, m3, od3, l3, rfl, rfl, r_r3, r_p3, r_nm3, r_m3, r_od3, hz_47, hL2_47, hb_47, hl2_47, hnm2_47⟩ := hq9
        refine g_ws hC [cO g0 3 [.ref g1, .ref g2, .int (iI nm3), .int (iI p3)], cO g1 6 [.ref g3, .int (iI e)], cA K g3 100 sg, cO g2 1 [.ref g4, .int (iI m3), .int (iI rc)], cA K g4 100 od3] rfl ?_
        refine g_st hC [.int (iI r3)] rfl ?_
        refine g_goto (pc := 50) hC 57 dX3_readOne_50 (by decide) ?_
        refine g_istore_n (pc := 57) hC [(3, _), (2, _), (0, _), (1, _)] dX3_readOne_57 rfl (by decide) rfl ?_
        refine g_iconst (pc := 58) hC dX3_readOne_58 ?_
        refine g_istore (pc := 59) hC [(4, _), (3, _), (2, _), (0, _), (1, _)] dX3_readOne_59 (by decide) rfl ?_
        refine g_iload (pc := 61) hC 0 dX3_readOne_61 rfl ?_
        refine g_iload_n (pc := 63) hC 2 dX3_readOne_63 rfl rfl ?_
        refine g_icmp_ge (pc := 64) hC 87 dX3_readOne_64 (by decide) (by omega) (by omega) (fun c64 => by exfalso; omega) (fun c64 => ?_)
        refine g_iload_n (pc := 67) hC 1 dX3_readOne_67 rfl rfl ?_
        refine g_if_eq (pc := 68) hC 87 dX3_readOne_68 (by decide) (by omega) (fun c68 => ?_) (fun c68 => ?_)
        · refine g_iload_n (pc := 87) hC 1 dX3_readOne_87 rfl rfl ?_
          exact g_zret (pc := 88) hR dX3_readOne_88 rfl (by omega) ⟨by omega, by omega⟩ (Nat.le_of_ble_eq_true rfl) ⟨r3, p3, nm3, m3, od3, l3, rfl, rfl, (by first | assumption | omega), (by first | assumption | omega), (by first | assumption | omega), (by first | assumption | omega), (by first | assumption | omega), (px_fac_not (l4 := l3) rfl hq0 hz_47 (by rw [if_neg (show ¬ (1 - r3 : Int) = 0 by omega)])), hL2_47, (by first | assumption | omega), (by first | assumption | omega), (by first | assumption | omega)⟩
        · refine g_aload_n (pc := 71) hC 3 dX3_readOne_71 rfl rfl ?_
          refine g_get (pc := 72) hC 0 fl_X3_15 dX3_readOne_72 rfl rfl ?_
          refine g_bipush (pc := 75) hC (6) dX3_readOne_75 (by decide) ?_
          refine g_iconst (pc := 77) hC dX3_readOne_77 ?_
          refine g_callV (pc := 78) (qr := 3) hC [3, 4] (k_X1_put _ _ _ _ _ _ _ (nt_l l3 0) (-1) (by first | assumption | omega) (by first | assumption | omega) (by first | assumption | omega) (by first | assumption | omega) (by first | assumption | omega) (by first | omega | (simp only [nt_l, List.length_append, List.length_cons, List.length_nil]; omega)) (by decide +kernel) (by decide)) cl_X1_put wm_X3_61 dX3_readOne_78 rfl rfl rfl rfl rfl (by decide) (by decide) (by omega) (Nat.le_of_ble_eq_true rfl) rfl (fun v9 w9 hq9 => ?_)
          obtain ⟨m4, od4, rfl, rfl, r_m4, r_od4, hL2_78, hm2_78⟩ := hq9
          refine g_ws hC [cO g0 3 [.ref g1, .ref g2, .int (iI nm3), .int (iI p3)], cO g1 6 [.ref g3, .int (iI e)], cA K g3 100 sg, cO g2 1 [.ref g4, .int (iI m4), .int (iI rc)], cA K g4 100 od4] rfl ?_
          refine g_st hC [] rfl ?_
          refine g_iinc (pc := 81) hC 0 [(4, _), (3, _), (2, _), (0, _), (1, _)] dX3_readOne_81 rfl (by decide) rfl ?_
          refine g_lv hC [0, 1, 2, 3, 4] [(4, .int (iI 1)), (3, _), (2, _), (0, _), (1, _)] rfl ?_
          refine g_goto (pc := 84) hC 61 dX3_readOne_84 (by decide) ?_
          refine g_iload (pc := 61) hC 0 dX3_readOne_61 rfl ?_
          refine g_iload_n (pc := 63) hC 2 dX3_readOne_63 rfl rfl ?_
          refine g_icmp_ge (pc := 64) hC 87 dX3_readOne_64 (by decide) (by omega) (by omega) (fun c64 => ?_) (fun c64 => by exfalso; omega)
          refine g_iload_n (pc := 87) hC 1 dX3_readOne_87 rfl rfl ?_
          exact g_zret (pc := 88) hR dX3_readOne_88 rfl (by omega) ⟨by omega, by omega⟩ (Nat.le_of_ble_eq_true rfl) ⟨r3, p3, nm3, m4, od4, (nt_l l3 1), rfl, rfl, (by first | assumption | omega), (by first | assumption | omega), (by first | assumption | omega), (by first | assumption | omega), (by first | assumption | omega), (px_fac_not (l4 := nt_l l3 1) rfl hq0 hz_47 (by rw [if_pos (show (1 - r3 : Int) = 0 by omega)]; rfl)), hL2_78, (by first | assumption | omega), (by first | omega | (simp only [nt_l, List.length_append, List.length_cons, List.length_nil]; omega)), (by first | assumption | omega)⟩
    · have hq1 : T ((p + 1)) = 33 := by omega
      have hlt1 := cr_lt hT (by omega) hq1 (by decide)
      refine g_iload_n (pc := 11) hC 2 dX3_readOne_11 rfl rfl ?_
      refine g_iload_n (pc := 12) hC 0 dX3_readOne_12 rfl rfl ?_
      refine g_iadd (pc := 13) hC dX3_readOne_13 ?_
      refine g_st hC [.int (iI (2))] rfl ?_
      refine g_iconst (pc := 14) hC dX3_readOne_14 ?_
      refine g_icmp_ge (pc := 15) hC 34 dX3_readOne_15 (by decide) (by omega) (by omega) (fun c15 => by exfalso; omega) (fun c15 => ?_)
      refine g_iinc (pc := 18) hC 0 [(2, _), (0, _), (1, _)] dX3_readOne_18 rfl (by decide) rfl ?_
      refine g_lv hC [0, 1, 2] [(2, .int (iI 2)), (0, _), (1, _)] rfl ?_
      skip
      refine g_aload_n (pc := 21) hC 1 dX3_readOne_21 rfl rfl ?_
      refine g_dup (pc := 22) hC dX3_readOne_22 rfl ?_
      refine g_get (pc := 23) hC 0 fl_X3_32 dX3_readOne_23 rfl rfl ?_
      refine g_iconst (pc := 26) hC dX3_readOne_26 ?_
      refine g_iadd (pc := 27) hC dX3_readOne_27 ?_
      refine g_putI (pc := 28) hC 0 [cO _ _ [_, _, _, _], _, _, _, _] fl_X3_32 dX3_readOne_28 rfl (Nat.le_of_ble_eq_true rfl) rfl ?_
      refine g_goto (pc := 31) hC 2 dX3_readOne_31 (by decide) ?_
      refine g_aload_n (pc := 2) hC 1 dX3_readOne_2 rfl rfl ?_
      refine g_fnV (pc := 3) (qr := 0) hC [0, 1, 2] (k_X3_sign _ _ _ _ _ _ _ _ _ (by first | assumption | omega) (by first | assumption | omega) (by first | assumption | omega) (by first | assumption | omega) (by first | assumption | omega) (by first | assumption | omega)) cl_X3_sign wm_X3_28 dX3_readOne_3 rfl rfl rfl rfl rfl (by decide) (by decide) ⟨by omega, by omega⟩ (Nat.le_of_ble_eq_true rfl) rfl rfl ?_
      refine g_name hC (fun y2 e_y2 => ?_)
      have q_y2 : -1 ≤ y2 ∧ y2 ≤ 127 := by rw [e_y2]; exact hT.2.2.1 _
      refine g_bipush (pc := 6) hC (33) dX3_readOne_6 (by decide) ?_
      refine g_icmp_ne (pc := 8) hC 34 dX3_readOne_8 (by decide) (by omega) (by omega) (fun c8 => ?_) (fun c8 => ?_)
      · have hn9 : ¬ T (((p + 1) + 1)) = 33 := by omega
        refine g_aload_n (pc := 34) hC 1 dX3_readOne_34 rfl rfl ?_
        refine g_fnV (pc := 35) (qr := 0) hC [0, 1, 2] (k_X3_sign _ _ _ _ _ _ _ _ _ (by first | assumption | omega) (by first | assumption | omega) (by first | assumption | omega) (by first | assumption | omega) (by first | assumption | omega) (by first | assumption | omega)) cl_X3_sign wm_X3_28 dX3_readOne_35 rfl rfl rfl rfl rfl (by decide) (by decide) ⟨by omega, by omega⟩ (Nat.le_of_ble_eq_true rfl) rfl rfl ?_
        refine g_name hC (fun y99 e_y99 => ?_)
        have q_y99 : -1 ≤ y99 ∧ y99 ≤ 127 := by rw [e_y99]; exact hT.2.2.1 _
        refine g_bipush (pc := 38) hC (40) dX3_readOne_38 (by decide) ?_
        refine g_icmp_ne (pc := 40) hC 53 dX3_readOne_40 (by decide) (by omega) (by omega) (fun c40 => ?_) (fun c40 => ?_)
        · refine g_aload_n (pc := 53) hC 1 dX3_readOne_53 rfl rfl ?_
          refine g_callV (pc := 54) (qr := 0) hC [0, 1, 2, 3, 4] (k_X3_readTest _ _ _ _ _ _ _ _ _ _ _ _ _ _ (by first | assumption | omega) (by first | assumption | omega) (by first | assumption | omega) (by first | assumption | omega) (by first | assumption | omega) (by first | assumption | omega) (by first | assumption | omega) (by first | assumption | omega) (by first | assumption | omega) (by first | assumption | omega) (by first | assumption | omega) (by first | assumption | omega)) cl_X3_readTest wm_X3_71 dX3_readOne_54 rfl rfl rfl rfl rfl (by decide) (by decide) (by omega) (Nat.le_of_ble_eq_true rfl) rfl (fun v9 w9 hq9 => ?_)
          obtain ⟨r3, p3, nm3, m3, od3, l3, rfl, rfl, r_r3, r_p3, r_nm3, r_m3, r_od3, hz_54, hL2_54, hb_54, hl2_54, hnm2_54⟩ := hq9
          refine g_ws hC [cO g0 3 [.ref g1, .ref g2, .int (iI nm3), .int (iI p3)], cO g1 6 [.ref g3, .int (iI e)], cA K g3 100 sg, cO g2 1 [.ref g4, .int (iI m3), .int (iI rc)], cA K g4 100 od3] rfl ?_
          refine g_st hC [.int (iI r3)] rfl ?_
          refine g_istore_n (pc := 57) hC [(3, _), (2, _), (0, _), (1, _)] dX3_readOne_57 rfl (by decide) rfl ?_
          refine g_iconst (pc := 58) hC dX3_readOne_58 ?_
          refine g_istore (pc := 59) hC [(4, _), (3, _), (2, _), (0, _), (1, _)] dX3_readOne_59 (by decide) rfl ?_
          refine g_iload (pc := 61) hC 0 dX3_readOne_61 rfl ?_
          refine g_iload_n (pc := 63) hC 2 dX3_readOne_63 rfl rfl ?_
          refine g_icmp_ge (pc := 64) hC 87 dX3_readOne_64 (by decide) (by omega) (by omega) (fun c64 => by exfalso; omega) (fun c64 => ?_)
          refine g_iload_n (pc := 67) hC 1 dX3_readOne_67 rfl rfl ?_
          refine g_if_eq (pc := 68) hC 87 dX3_readOne_68 (by decide) (by omega) (fun c68 => ?_) (fun c68 => ?_)
          · refine g_iload_n (pc := 87) hC 1 dX3_readOne_87 rfl rfl ?_
            exact g_zret (pc := 88) hR dX3_readOne_88 rfl (by omega) ⟨by omega, by omega⟩ (Nat.le_of_ble_eq_true rfl) ⟨r3, p3, nm3, m3, od3, l3, rfl, rfl, (by first | assumption | omega), (by first | assumption | omega), (by first | assumption | omega), (by first | assumption | omega), (by first | assumption | omega), (px_fac_not (l4 := l3) rfl hq0 (px_fac_not (l4 := l3) rfl hq1 (px_fac_t rfl hn9 (by omega) hz_54) (by rw [if_neg (show ¬ (1 - r3 : Int) = 0 by omega)])) (by rw [if_neg (show ¬ (1 - r3 : Int) = 0 by omega)])), hL2_54, (by first | assumption | omega), (by first | assumption | omega), (by first | assumption | omega)⟩
          · refine g_aload_n (pc := 71) hC 3 dX3_readOne_71 rfl rfl ?_
            refine g_get (pc := 72) hC 0 fl_X3_15 dX3_readOne_72 rfl rfl ?_
            refine g_bipush (pc := 75) hC (6) dX3_readOne_75 (by decide) ?_
            refine g_iconst (pc := 77) hC dX3_readOne_77 ?_
            refine g_callV (pc := 78) (qr := 3) hC [3, 4] (k_X1_put _ _ _ _ _ _ _ (nt_l l3 0) (-1) (by first | assumption | omega) (by first | assumption | omega) (by first | assumption | omega) (by first | assumption | omega) (by first | assumption | omega) (by first | omega | (simp only [nt_l, List.length_append, List.length_cons, List.length_nil]; omega)) (by decide +kernel) (by decide)) cl_X1_put wm_X3_61 dX3_readOne_78 rfl rfl rfl rfl rfl (by decide) (by decide) (by omega) (Nat.le_of_ble_eq_true rfl) rfl (fun v9 w9 hq9 => ?_)
            obtain ⟨m4, od4, rfl, rfl, r_m4, r_od4, hL2_78, hm2_78⟩ := hq9
            refine g_ws hC [cO g0 3 [.ref g1, .ref g2, .int (iI nm3), .int (iI p3)], cO g1 6 [.ref g3, .int (iI e)], cA K g3 100 sg, cO g2 1 [.ref g4, .int (iI m4), .int (iI rc)], cA K g4 100 od4] rfl ?_
            refine g_st hC [] rfl ?_
            refine g_iinc (pc := 81) hC 0 [(4, _), (3, _), (2, _), (0, _), (1, _)] dX3_readOne_81 rfl (by decide) rfl ?_
            refine g_lv hC [0, 1, 2, 3, 4] [(4, .int (iI 1)), (3, _), (2, _), (0, _), (1, _)] rfl ?_
            refine g_goto (pc := 84) hC 61 dX3_readOne_84 (by decide) ?_
            refine g_iload (pc := 61) hC 0 dX3_readOne_61 rfl ?_
            refine g_iload_n (pc := 63) hC 2 dX3_readOne_63 rfl rfl ?_
            refine g_icmp_ge (pc := 64) hC 87 dX3_readOne_64 (by decide) (by omega) (by omega) (fun c64 => by exfalso; omega) (fun c64 => ?_)
            refine g_iload_n (pc := 67) hC 1 dX3_readOne_67 rfl rfl ?_
            refine g_if_eq (pc := 68) hC 87 dX3_readOne_68 (by decide) (by omega) (fun c68 => by exfalso; omega) (fun c68 => ?_)
            refine g_aload_n (pc := 71) hC 3 dX3_readOne_71 rfl rfl ?_
            refine g_get (pc := 72) hC 0 fl_X3_15 dX3_readOne_72 rfl rfl ?_
            refine g_bipush (pc := 75) hC (6) dX3_readOne_75 (by decide) ?_
            refine g_iconst (pc := 77) hC dX3_readOne_77 ?_
            refine g_callV (pc := 78) (qr := 3) hC [3, 4] (k_X1_put _ _ _ _ _ _ _ (nt_l l3 1) (-1) (by first | assumption | omega) (by first | assumption | omega) (by first | assumption | omega) (by first | assumption | omega) (by first | assumption | omega) (by first | omega | (simp only [nt_l, List.length_append, List.length_cons, List.length_nil]; omega)) (by decide +kernel) (by decide)) cl_X1_put wm_X3_61 dX3_readOne_78 rfl rfl rfl rfl rfl (by decide) (by decide) (by omega) (Nat.le_of_ble_eq_true rfl) rfl (fun v9 w9 hq9 => ?_)
            obtain ⟨m4, od4, rfl, rfl, r_m4, r_od4, hL2_78, hm2_78⟩ := hq9
            refine g_ws hC [cO g0 3 [.ref g1, .ref g2, .int (iI nm3), .int (iI p3)], cO g1 6 [.ref g3, .int (iI e)], cA K g3 100 sg, cO g2 1 [.ref g4, .int (iI m4), .int (iI rc)], cA K g4 100 od4] rfl ?_
            refine g_st hC [] rfl ?_
            refine g_iinc (pc := 81) hC 0 [(4, _), (3, _), (2, _), (0, _), (1, _)] dX3_readOne_81 rfl (by decide) rfl ?_
            refine g_lv hC [0, 1, 2, 3, 4] [(4, .int (iI 2)), (3, _), (2, _), (0, _), (1, _)] rfl ?_
            refine g_goto (pc := 84) hC 61 dX3_readOne_84 (by decide) ?_
            refine g_iload (pc := 61) hC 0 dX3_readOne_61 rfl ?_
            refine g_iload_n (pc := 63) hC 2 dX3_readOne_63 rfl rfl ?_
            refine g_icmp_ge (pc := 64) hC 87 dX3_readOne_64 (by decide) (by omega) (by omega) (fun c64 => ?_) (fun c64 => by exfalso; omega)
            refine g_iload_n (pc := 87) hC 1 dX3_readOne_87 rfl rfl ?_
            exact g_zret (pc := 88) hR dX3_readOne_88 rfl (by omega) ⟨by omega, by omega⟩ (Nat.le_of_ble_eq_true rfl) ⟨r3, p3, nm3, m4, od4, (nt_l l3 2), rfl, rfl, (by first | assumption | omega), (by first | assumption | omega), (by first | assumption | omega), (by first | assumption | omega), (by first | assumption | omega), (px_fac_not (l4 := nt_l l3 2) rfl hq0 (px_fac_not (l4 := nt_l l3 1) rfl hq1 (px_fac_t rfl hn9 (by omega) hz_54) (by rw [if_pos (show (1 - r3 : Int) = 0 by omega)]; rfl)) (by rw [if_pos (show (1 - r3 : Int) = 0 by omega)]; rfl)), hL2_78, (by first | assumption | omega), (by first | omega | (simp only [nt_l, List.length_append, List.length_cons, List.length_nil]; omega)), (by first | assumption | omega)⟩
        · have hlt9 := cr_lt hT (by omega) (show T (((p + 1) + 1)) = 40 by omega) (by decide)
          refine g_aload_n (pc := 43) hC 1 dX3_readOne_43 rfl rfl ?_
          refine g_iload_n (pc := 44) hC 2 dX3_readOne_44 rfl rfl ?_
          refine g_iload_n (pc := 45) hC 0 dX3_readOne_45 rfl rfl ?_
          refine g_iadd (pc := 46) hC dX3_readOne_46 ?_
          refine g_st hC [.int (iI (3)), _] rfl ?_
          refine g_callV (pc := 47) (qr := 0) hC [0, 1, 2, 3, 4] (k_X3_readInBrackets_3 _ _ _ _ _ _ _ _ _ _ _ _ _ _ (by first | assumption | omega) (by first | assumption | omega) (by first | assumption | omega) (by first | assumption | omega) (by first | assumption | omega) (by first | assumption | omega) (by first | assumption | omega) (by first | assumption | omega) (by first | assumption | omega) (by first | assumption | omega) (by first | assumption | omega) (by first | assumption | omega) (by first | assumption | omega)) cl_X3_readInBrackets wm_X3_68 dX3_readOne_47 rfl rfl rfl rfl rfl (by decide) (by decide) (by omega) (Nat.le_of_ble_eq_true rfl) rfl (fun v9 w9 hq9 => ?_)
          obtain ⟨r3, p3, nm3, m3, od3, l3, rfl, rfl, r_r3, r_p3, r_nm3, r_m3, r_od3, hz_47, hL2_47, hb_47, hl2_47, hnm2_47⟩ := hq9
          refine g_ws hC [cO g0 3 [.ref g1, .ref g2, .int (iI nm3), .int (iI p3)], cO g1 6 [.ref g3, .int (iI e)], cA K g3 100 sg, cO g2 1 [.ref g4, .int (iI m3), .int (iI rc)], cA K g4 100 od3] rfl ?_
          refine g_st hC [.int (iI r3)] rfl ?_
          refine g_goto (pc := 50) hC 57 dX3_readOne_50 (by decide) ?_
          refine g_istore_n (pc := 57) hC [(3, _), (2, _), (0, _), (1, _)] dX3_readOne_57 rfl (by decide) rfl ?_
          refine g_iconst (pc := 58) hC dX3_readOne_58 ?_
          refine g_istore (pc := 59) hC [(4, _), (3, _), (2, _), (0, _), (1, _)] dX3_readOne_59 (by decide) rfl ?_
          refine g_iload (pc := 61) hC 0 dX3_readOne_61 rfl ?_
          refine g_iload_n (pc := 63) hC 2 dX3_readOne_63 rfl rfl ?_
          refine g_icmp_ge (pc := 64) hC 87 dX3_readOne_64 (by decide) (by omega) (by omega) (fun c64 => by exfalso; omega) (fun c64 => ?_)
          refine g_iload_n (pc := 67) hC 1 dX3_readOne_67 rfl rfl ?_
          refine g_if_eq (pc := 68) hC 87 dX3_readOne_68 (by decide) (by omega) (fun c68 => ?_) (fun c68 => ?_)
          · refine g_iload_n (pc := 87) hC 1 dX3_readOne_87 rfl rfl ?_
            exact g_zret (pc := 88) hR dX3_readOne_88 rfl (by omega) ⟨by omega, by omega⟩ (Nat.le_of_ble_eq_true rfl) ⟨r3, p3, nm3, m3, od3, l3, rfl, rfl, (by first | assumption | omega), (by first | assumption | omega), (by first | assumption | omega), (by first | assumption | omega), (by first | assumption | omega), (px_fac_not (l4 := l3) rfl hq0 (px_fac_not (l4 := l3) rfl hq1 hz_47 (by rw [if_neg (show ¬ (1 - r3 : Int) = 0 by omega)])) (by rw [if_neg (show ¬ (1 - r3 : Int) = 0 by omega)])), hL2_47, (by first | assumption | omega), (by first | assumption | omega), (by first | assumption | omega)⟩
          · refine g_aload_n (pc := 71) hC 3 dX3_readOne_71 rfl rfl ?_
            refine g_get (pc := 72) hC 0 fl_X3_15 dX3_readOne_72 rfl rfl ?_
            refine g_bipush (pc := 75) hC (6) dX3_readOne_75 (by decide) ?_
            refine g_iconst (pc := 77) hC dX3_readOne_77 ?_
            refine g_callV (pc := 78) (qr := 3) hC [3, 4] (k_X1_put _ _ _ _ _ _ _ (nt_l l3 0) (-1) (by first | assumption | omega) (by first | assumption | omega) (by first | assumption | omega) (by first | assumption | omega) (by first | assumption | omega) (by first | omega | (simp only [nt_l, List.length_append, List.length_cons, List.length_nil]; omega)) (by decide +kernel) (by decide)) cl_X1_put wm_X3_61 dX3_readOne_78 rfl rfl rfl rfl rfl (by decide) (by decide) (by omega) (Nat.le_of_ble_eq_true rfl) rfl (fun v9 w9 hq9 => ?_)
            obtain ⟨m4, od4, rfl, rfl, r_m4, r_od4, hL2_78, hm2_78⟩ := hq9
            refine g_ws hC [cO g0 3 [.ref g1, .ref g2, .int (iI nm3), .int (iI p3)], cO g1 6 [.ref g3, .int (iI e)], cA K g3 100 sg, cO g2 1 [.ref g4, .int (iI m4), .int (iI rc)], cA K g4 100 od4] rfl ?_
            refine g_st hC [] rfl ?_
            refine g_iinc (pc := 81) hC 0 [(4, _), (3, _), (2, _), (0, _), (1, _)] dX3_readOne_81 rfl (by decide) rfl ?_
            refine g_lv hC [0, 1, 2, 3, 4] [(4, .int (iI 1)), (3, _), (2, _), (0, _), (1, _)] rfl ?_
            refine g_goto (pc := 84) hC 61 dX3_readOne_84 (by decide) ?_
            refine g_iload (pc := 61) hC 0 dX3_readOne_61 rfl ?_
            refine g_iload_n (pc := 63) hC 2 dX3_readOne_63 rfl rfl ?_
            refine g_icmp_ge (pc := 64) hC 87 dX3_readOne_64 (by decide) (by omega) (by omega) (fun c64 => by exfalso; omega) (fun c64 => ?_)
            refine g_iload_n (pc := 67) hC 1 dX3_readOne_67 rfl rfl ?_
            refine g_if_eq (pc := 68) hC 87 dX3_readOne_68 (by decide) (by omega) (fun c68 => by exfalso; omega) (fun c68 => ?_)
            refine g_aload_n (pc := 71) hC 3 dX3_readOne_71 rfl rfl ?_
            refine g_get (pc := 72) hC 0 fl_X3_15 dX3_readOne_72 rfl rfl ?_
            refine g_bipush (pc := 75) hC (6) dX3_readOne_75 (by decide) ?_
            refine g_iconst (pc := 77) hC dX3_readOne_77 ?_
            refine g_callV (pc := 78) (qr := 3) hC [3, 4] (k_X1_put _ _ _ _ _ _ _ (nt_l l3 1) (-1) (by first | assumption | omega) (by first | assumption | omega) (by first | assumption | omega) (by first | assumption | omega) (by first | assumption | omega) (by first | omega | (simp only [nt_l, List.length_append, List.length_cons, List.length_nil]; omega)) (by decide +kernel) (by decide)) cl_X1_put wm_X3_61 dX3_readOne_78 rfl rfl rfl rfl rfl (by decide) (by decide) (by omega) (Nat.le_of_ble_eq_true rfl) rfl (fun v9 w9 hq9 => ?_)
            obtain ⟨m4, od4, rfl, rfl, r_m4, r_od4, hL2_78, hm2_78⟩ := hq9
            refine g_ws hC [cO g0 3 [.ref g1, .ref g2, .int (iI nm3), .int (iI p3)], cO g1 6 [.ref g3, .int (iI e)], cA K g3 100 sg, cO g2 1 [.ref g4, .int (iI m4), .int (iI rc)], cA K g4 100 od4] rfl ?_
            refine g_st hC [] rfl ?_
            refine g_iinc (pc := 81) hC 0 [(4, _), (3, _), (2, _), (0, _), (1, _)] dX3_readOne_81 rfl (by decide) rfl ?_
            refine g_lv hC [0, 1, 2, 3, 4] [(4, .int (iI 2)), (3, _), (2, _), (0, _), (1, _)] rfl ?_
            refine g_goto (pc := 84) hC 61 dX3_readOne_84 (by decide) ?_
            refine g_iload (pc := 61) hC 0 dX3_readOne_61 rfl ?_
            refine g_iload_n (pc := 63) hC 2 dX3_readOne_63 rfl rfl ?_
            refine g_icmp_ge (pc := 64) hC 87 dX3_readOne_64 (by decide) (by omega) (by omega) (fun c64 => ?_) (fun c64 => by exfalso; omega)
            refine g_iload_n (pc := 87) hC 1 dX3_readOne_87 rfl rfl ?_
            exact g_zret (pc := 88) hR dX3_readOne_88 rfl (by omega) ⟨by omega, by omega⟩ (Nat.le_of_ble_eq_true rfl) ⟨r3, p3, nm3, m4, od4, (nt_l l3 2), rfl, rfl, (by first | assumption | omega), (by first | assumption | omega), (by first | assumption | omega), (by first | assumption | omega), (by first | assumption | omega), (px_fac_not (l4 := nt_l l3 2) rfl hq0 (px_fac_not (l4 := nt_l l3 1) rfl hq1 hz_47 (by rw [if_pos (show (1 - r3 : Int) = 0 by omega)]; rfl)) (by rw [if_pos (show (1 - r3 : Int) = 0 by omega)]; rfl)), hL2_78, (by first | assumption | omega), (by first | omega | (simp only [nt_l, List.length_append, List.length_cons, List.length_nil]; omega)), (by first | assumption | omega)⟩
      · have hq2 : T (((p + 1) + 1)) = 33 := by omega
        have hlt2 := cr_lt hT (by omega) hq2 (by decide)
        refine g_iload_n (pc := 11) hC 2 dX3_readOne_11 rfl rfl ?_
        refine g_iload_n (pc := 12) hC 0 dX3_readOne_12 rfl rfl ?_
        refine g_iadd (pc := 13) hC dX3_readOne_13 ?_
        refine g_st hC [.int (iI (3))] rfl ?_
        refine g_iconst (pc := 14) hC dX3_readOne_14 ?_
        refine g_icmp_ge (pc := 15) hC 34 dX3_readOne_15 (by decide) (by omega) (by omega) (fun c15 => by exfalso; omega) (fun c15 => ?_)
        refine g_iinc (pc := 18) hC 0 [(2, _), (0, _), (1, _)] dX3_readOne_18 rfl (by decide) rfl ?_
        refine g_lv hC [0, 1, 2] [(2, .int (iI 3)), (0, _), (1, _)] rfl ?_
        skip
        refine g_aload_n (pc := 21) hC 1 dX3_readOne_21 rfl rfl ?_
        refine g_dup (pc := 22) hC dX3_readOne_22 rfl ?_
        refine g_get (pc := 23) hC 0 fl_X3_32 dX3_readOne_23 rfl rfl ?_
        refine g_iconst (pc := 26) hC dX3_readOne_26 ?_
        refine g_iadd (pc := 27) hC dX3_readOne_27 ?_
        refine g_putI (pc := 28) hC 0 [cO _ _ [_, _, _, _], _, _, _, _] fl_X3_32 dX3_readOne_28 rfl (Nat.le_of_ble_eq_true rfl) rfl ?_
        refine g_goto (pc := 31) hC 2 dX3_readOne_31 (by decide) ?_
        refine g_aload_n (pc := 2) hC 1 dX3_readOne_2 rfl rfl ?_
        refine g_fnV (pc := 3) (qr := 0) hC [0, 1, 2] (k_X3_sign _ _ _ _ _ _ _ _ _ (by first | assumption | omega) (by first | assumption | omega) (by first | assumption | omega) (by first | assumption | omega) (by first | assumption | omega) (by first | assumption | omega)) cl_X3_sign wm_X3_28 dX3_readOne_3 rfl rfl rfl rfl rfl (by decide) (by decide) ⟨by omega, by omega⟩ (Nat.le_of_ble_eq_true rfl) rfl rfl ?_
        refine g_name hC (fun y3 e_y3 => ?_)
        have q_y3 : -1 ≤ y3 ∧ y3 ≤ 127 := by rw [e_y3]; exact hT.2.2.1 _
        refine g_bipush (pc := 6) hC (33) dX3_readOne_6 (by decide) ?_
        refine g_icmp_ne (pc := 8) hC 34 dX3_readOne_8 (by decide) (by omega) (by omega) (fun c8 => ?_) (fun c8 => ?_)
        · have hn9 : ¬ T ((((p + 1) + 1) + 1)) = 33 := by omega
          refine g_aload_n (pc := 34) hC 1 dX3_readOne_34 rfl rfl ?_
          refine g_fnV (pc := 35) (qr := 0) hC [0, 1, 2] (k_X3_sign _ _ _ _ _ _ _ _ _ (by first | assumption | omega) (by first | assumption | omega) (by first | assumption | omega) (by first | assumption | omega) (by first | assumption | omega) (by first | assumption | omega)) cl_X3_sign wm_X3_28 dX3_readOne_35 rfl rfl rfl rfl rfl (by decide) (by decide) ⟨by omega, by omega⟩ (Nat.le_of_ble_eq_true rfl) rfl rfl ?_
          refine g_name hC (fun y99 e_y99 => ?_)
          have q_y99 : -1 ≤ y99 ∧ y99 ≤ 127 := by rw [e_y99]; exact hT.2.2.1 _
          refine g_bipush (pc := 38) hC (40) dX3_readOne_38 (by decide) ?_
          refine g_icmp_ne (pc := 40) hC 53 dX3_readOne_40 (by decide) (by omega) (by omega) (fun c40 => ?_) (fun c40 => ?_)
          · refine g_aload_n (pc := 53) hC 1 dX3_readOne_53 rfl rfl ?_
            refine g_callV (pc := 54) (qr := 0) hC [0, 1, 2, 3, 4] (k_X3_readTest _ _ _ _ _ _ _ _ _ _ _ _ _ _ (by first | assumption | omega) (by first | assumption | omega) (by first | assumption | omega) (by first | assumption | omega) (by first | assumption | omega) (by first | assumption | omega) (by first | assumption | omega) (by first | assumption | omega) (by first | assumption | omega) (by first | assumption | omega) (by first | assumption | omega) (by first | assumption | omega)) cl_X3_readTest wm_X3_71 dX3_readOne_54 rfl rfl rfl rfl rfl (by decide) (by decide) (by omega) (Nat.le_of_ble_eq_true rfl) rfl (fun v9 w9 hq9 => ?_)
            obtain ⟨r3, p3, nm3, m3, od3, l3, rfl, rfl, r_r3, r_p3, r_nm3, r_m3, r_od3, hz_54, hL2_54, hb_54, hl2_54, hnm2_54⟩ := hq9
            refine g_ws hC [cO g0 3 [.ref g1, .ref g2, .int (iI nm3), .int (iI p3)], cO g1 6 [.ref g3, .int (iI e)], cA K g3 100 sg, cO g2 1 [.ref g4, .int (iI m3), .int (iI rc)], cA K g4 100 od3] rfl ?_
            refine g_st hC [.int (iI r3)] rfl ?_
            refine g_istore_n (pc := 57) hC [(3, _), (2, _), (0, _), (1, _)] dX3_readOne_57 rfl (by decide) rfl ?_
            refine g_iconst (pc := 58) hC dX3_readOne_58 ?_
            refine g_istore (pc := 59) hC [(4, _), (3, _), (2, _), (0, _), (1, _)] dX3_readOne_59 (by decide) rfl ?_
            refine g_iload (pc := 61) hC 0 dX3_readOne_61 rfl ?_
            refine g_iload_n (pc := 63) hC 2 dX3_readOne_63 rfl rfl ?_
            refine g_icmp_ge (pc := 64) hC 87 dX3_readOne_64 (by decide) (by omega) (by omega) (fun c64 => by exfalso; omega) (fun c64 => ?_)
            refine g_iload_n (pc := 67) hC 1 dX3_readOne_67 rfl rfl ?_
            refine g_if_eq (pc := 68) hC 87 dX3_readOne_68 (by decide) (by omega) (fun c68 => ?_) (fun c68 => ?_)
            · refine g_iload_n (pc := 87) hC 1 dX3_readOne_87 rfl rfl ?_
              exact g_zret (pc := 88) hR dX3_readOne_88 rfl (by omega) ⟨by omega, by omega⟩ (Nat.le_of_ble_eq_true rfl) ⟨r3, p3, nm3, m3, od3, l3, rfl, rfl, (by first | assumption | omega), (by first | assumption | omega), (by first | assumption | omega), (by first | assumption | omega), (by first | assumption | omega), (px_fac_not (l4 := l3) rfl hq0 (px_fac_not (l4 := l3) rfl hq1 (px_fac_not (l4 := l3) rfl hq2 (px_fac_t rfl hn9 (by omega) hz_54) (by rw [if_neg (show ¬ (1 - r3 : Int) = 0 by omega)])) (by rw [if_neg (show ¬ (1 - r3 : Int) = 0 by omega)])) (by rw [if_neg (show ¬ (1 - r3 : Int) = 0 by omega)])), hL2_54, (by first | assumption | omega), (by first | assumption | omega), (by first | assumption | omega)⟩
            · refine g_aload_n (pc := 71) hC 3 dX3_readOne_71 rfl rfl ?_
              refine g_get (pc := 72) hC 0 fl_X3_15 dX3_readOne_72 rfl rfl ?_
              refine g_bipush (pc := 75) hC (6) dX3_readOne_75 (by decide) ?_
              refine g_iconst (pc := 77) hC dX3_readOne_77 ?_
              refine g_callV (pc := 78) (qr := 3) hC [3, 4] (k_X1_put _ _ _ _ _ _ _ (nt_l l3 0) (-1) (by first | assumption | omega) (by first | assumption | omega) (by first | assumption | omega) (by first | assumption | omega) (by first | assumption | omega) (by first | omega | (simp only [nt_l, List.length_append, List.length_cons, List.length_nil]; omega)) (by decide +kernel) (by decide)) cl_X1_put wm_X3_61 dX3_readOne_78 rfl rfl rfl rfl rfl (by decide) (by decide) (by omega) (Nat.le_of_ble_eq_true rfl) rfl (fun v9 w9 hq9 => ?_)
              obtain ⟨m4, od4, rfl, rfl, r_m4, r_od4, hL2_78, hm2_78⟩ := hq9
              refine g_ws hC [cO g0 3 [.ref g1, .ref g2, .int (iI nm3), .int (iI p3)], cO g1 6 [.ref g3, .int (iI e)], cA K g3 100 sg, cO g2 1 [.ref g4, .int (iI m4), .int (iI rc)], cA K g4 100 od4] rfl ?_
              refine g_st hC [] rfl ?_
              refine g_iinc (pc := 81) hC 0 [(4, _), (3, _), (2, _), (0, _), (1, _)] dX3_readOne_81 rfl (by decide) rfl ?_
              refine g_lv hC [0, 1, 2, 3, 4] [(4, .int (iI 1)), (3, _), (2, _), (0, _), (1, _)] rfl ?_
              refine g_goto (pc := 84) hC 61 dX3_readOne_84 (by decide) ?_
              refine g_iload (pc := 61) hC 0 dX3_readOne_61 rfl ?_
              refine g_iload_n (pc := 63) hC 2 dX3_readOne_63 rfl rfl ?_
              refine g_icmp_ge (pc := 64) hC 87 dX3_readOne_64 (by decide) (by omega) (by omega) (fun c64 => by exfalso; omega) (fun c64 => ?_)
              refine g_iload_n (pc := 67) hC 1 dX3_readOne_67 rfl rfl ?_
              refine g_if_eq (pc := 68) hC 87 dX3_readOne_68 (by decide) (by omega) (fun c68 => by exfalso; omega) (fun c68 => ?_)
              refine g_aload_n (pc := 71) hC 3 dX3_readOne_71 rfl rfl ?_
              refine g_get (pc := 72) hC 0 fl_X3_15 dX3_readOne_72 rfl rfl ?_
              refine g_bipush (pc := 75) hC (6) dX3_readOne_75 (by decide) ?_
              refine g_iconst (pc := 77) hC dX3_readOne_77 ?_
              refine g_callV (pc := 78) (qr := 3) hC [3, 4] (k_X1_put _ _ _ _ _ _ _ (nt_l l3 1) (-1) (by first | assumption | omega) (by first | assumption | omega) (by first | assumption | omega) (by first | assumption | omega) (by first | assumption | omega) (by first | omega | (simp only [nt_l, List.length_append, List.length_cons, List.length_nil]; omega)) (by decide +kernel) (by decide)) cl_X1_put wm_X3_61 dX3_readOne_78 rfl rfl rfl rfl rfl (by decide) (by decide) (by omega) (Nat.le_of_ble_eq_true rfl) rfl (fun v9 w9 hq9 => ?_)
              obtain ⟨m4, od4, rfl, rfl, r_m4, r_od4, hL2_78, hm2_78⟩ := hq9
              refine g_ws hC [cO g0 3 [.ref g1, .ref g2, .int (iI nm3), .int (iI p3)], cO g1 6 [.ref g3, .int (iI e)], cA K g3 100 sg, cO g2 1 [.ref g4, .int (iI m4), .int (iI rc)], cA K g4 100 od4] rfl ?_
              refine g_st hC [] rfl ?_
              refine g_iinc (pc := 81) hC 0 [(4, _), (3, _), (2, _), (0, _), (1, _)] dX3_readOne_81 rfl (by decide) rfl ?_
              refine g_lv hC [0, 1, 2, 3, 4] [(4, .int (iI 2)), (3, _), (2, _), (0, _), (1, _)] rfl ?_
              refine g_goto (pc := 84) hC 61 dX3_readOne_84 (by decide) ?_
              refine g_iload (pc := 61) hC 0 dX3_readOne_61 rfl ?_
              refine g_iload_n (pc := 63) hC 2 dX3_readOne_63 rfl rfl ?_
              refine g_icmp_ge (pc := 64) hC 87 dX3_readOne_64 (by decide) (by omega) (by omega) (fun c64 => by exfalso; omega) (fun c64 => ?_)
              refine g_iload_n (pc := 67) hC 1 dX3_readOne_67 rfl rfl ?_
              refine g_if_eq (pc := 68) hC 87 dX3_readOne_68 (by decide) (by omega) (fun c68 => by exfalso; omega) (fun c68 => ?_)
              refine g_aload_n (pc := 71) hC 3 dX3_readOne_71 rfl rfl ?_
              refine g_get (pc := 72) hC 0 fl_X3_15 dX3_readOne_72 rfl rfl ?_
              refine g_bipush (pc := 75) hC (6) dX3_readOne_75 (by decide) ?_
              refine g_iconst (pc := 77) hC dX3_readOne_77 ?_
              refine g_callV (pc := 78) (qr := 3) hC [3, 4] (k_X1_put _ _ _ _ _ _ _ (nt_l l3 2) (-1) (by first | assumption | omega) (by first | assumption | omega) (by first | assumption | omega) (by first | assumption | omega) (by first | assumption | omega) (by first | omega | (simp only [nt_l, List.length_append, List.length_cons, List.length_nil]; omega)) (by decide +kernel) (by decide)) cl_X1_put wm_X3_61 dX3_readOne_78 rfl rfl rfl rfl rfl (by decide) (by decide) (by omega) (Nat.le_of_ble_eq_true rfl) rfl (fun v9 w9 hq9 => ?_)
              obtain ⟨m4, od4, rfl, rfl, r_m4, r_od4, hL2_78, hm2_78⟩ := hq9
              refine g_ws hC [cO g0 3 [.ref g1, .ref g2, .int (iI nm3), .int (iI p3)], cO g1 6 [.ref g3, .int (iI e)], cA K g3 100 sg, cO g2 1 [.ref g4, .int (iI m4), .int (iI rc)], cA K g4 100 od4] rfl ?_
              refine g_st hC [] rfl ?_
              refine g_iinc (pc := 81) hC 0 [(4, _), (3, _), (2, _), (0, _), (1, _)] dX3_readOne_81 rfl (by decide) rfl ?_
              refine g_lv hC [0, 1, 2, 3, 4] [(4, .int (iI 3)), (3, _), (2, _), (0, _), (1, _)] rfl ?_
              refine g_goto (pc := 84) hC 61 dX3_readOne_84 (by decide) ?_
              refine g_iload (pc := 61) hC 0 dX3_readOne_61 rfl ?_
              refine g_iload_n (pc := 63) hC 2 dX3_readOne_63 rfl rfl ?_
              refine g_icmp_ge (pc := 64) hC 87 dX3_readOne_64 (by decide) (by omega) (by omega) (fun c64 => ?_) (fun c64 => by exfalso; omega)
              refine g_iload_n (pc := 87) hC 1 dX3_readOne_87 rfl rfl ?_
              exact g_zret (pc := 88) hR dX3_readOne_88 rfl (by omega) ⟨by omega, by omega⟩ (Nat.le_of_ble_eq_true rfl) ⟨r3, p3, nm3, m4, od4, (nt_l l3 3), rfl, rfl, (by first | assumption | omega), (by first | assumption | omega), (by first | assumption | omega), (by first | assumption | omega), (by first | assumption | omega), (px_fac_not (l4 := nt_l l3 3) rfl hq0 (px_fac_not (l4 := nt_l l3 2) rfl hq1 (px_fac_not (l4 := nt_l l3 1) rfl hq2 (px_fac_t rfl hn9 (by omega) hz_54) (by rw [if_pos (show (1 - r3 : Int) = 0 by omega)]; rfl)) (by rw [if_pos (show (1 - r3 : Int) = 0 by omega)]; rfl)) (by rw [if_pos (show (1 - r3 : Int) = 0 by omega)]; rfl)), hL2_78, (by first | assumption | omega), (by first | omega | (simp only [nt_l, List.length_append, List.length_cons, List.length_nil]; omega)), (by first | assumption | omega)⟩
          · have hlt9 := cr_lt hT (by omega) (show T ((((p + 1) + 1) + 1)) = 40 by omega) (by decide)
            refine g_aload_n (pc := 43) hC 1 dX3_readOne_43 rfl rfl ?_
            refine g_iload_n (pc := 44) hC 2 dX3_readOne_44 rfl rfl ?_
            refine g_iload_n (pc := 45) hC 0 dX3_readOne_45 rfl rfl ?_
            refine g_iadd (pc := 46) hC dX3_readOne_46 ?_
            refine g_st hC [.int (iI (4)), _] rfl ?_
            refine g_callV (pc := 47) (qr := 0) hC [0, 1, 2, 3, 4] (k_X3_readInBrackets_4 _ _ _ _ _ _ _ _ _ _ _ _ _ _ (by first | assumption | omega) (by first | assumption | omega) (by first | assumption | omega) (by first | assumption | omega) (by first | assumption | omega) (by first | assumption | omega) (by first | assumption | omega) (by first | assumption | omega) (by first | assumption | omega) (by first | assumption | omega) (by first | assumption | omega) (by first | assumption | omega) (by first | assumption | omega)) cl_X3_readInBrackets wm_X3_68 dX3_readOne_47 rfl rfl rfl rfl rfl (by decide) (by decide) (by omega) (Nat.le_of_ble_eq_true rfl) rfl (fun v9 w9 hq9 => ?_)
            obtain ⟨r3, p3, nm3, m3, od3, l3, rfl, rfl, r_r3, r_p3, r_nm3, r_m3, r_od3, hz_47, hL2_47, hb_47, hl2_47, hnm2_47⟩ := hq9
            refine g_ws hC [cO g0 3 [.ref g1, .ref g2, .int (iI nm3), .int (iI p3)], cO g1 6 [.ref g3, .int (iI e)], cA K g3 100 sg, cO g2 1 [.ref g4, .int (iI m3), .int (iI rc)], cA K g4 100 od3] rfl ?_
            refine g_st hC [.int (iI r3)] rfl ?_
            refine g_goto (pc := 50) hC 57 dX3_readOne_50 (by decide) ?_
            refine g_istore_n (pc := 57) hC [(3, _), (2, _), (0, _), (1, _)] dX3_readOne_57 rfl (by decide) rfl ?_
            refine g_iconst (pc := 58) hC dX3_readOne_58 ?_
            refine g_istore (pc := 59) hC [(4, _), (3, _), (2, _), (0, _), (1, _)] dX3_readOne_59 (by decide) rfl ?_
            refine g_iload (pc := 61) hC 0 dX3_readOne_61 rfl ?_
            refine g_iload_n (pc := 63) hC 2 dX3_readOne_63 rfl rfl ?_
            refine g_icmp_ge (pc := 64) hC 87 dX3_readOne_64 (by decide) (by omega) (by omega) (fun c64 => by exfalso; omega) (fun c64 => ?_)
            refine g_iload_n (pc := 67) hC 1 dX3_readOne_67 rfl rfl ?_
            refine g_if_eq (pc := 68) hC 87 dX3_readOne_68 (by decide) (by omega) (fun c68 => ?_) (fun c68 => ?_)
            · refine g_iload_n (pc := 87) hC 1 dX3_readOne_87 rfl rfl ?_
              exact g_zret (pc := 88) hR dX3_readOne_88 rfl (by omega) ⟨by omega, by omega⟩ (Nat.le_of_ble_eq_true rfl) ⟨r3, p3, nm3, m3, od3, l3, rfl, rfl, (by first | assumption | omega), (by first | assumption | omega), (by first | assumption | omega), (by first | assumption | omega), (by first | assumption | omega), (px_fac_not (l4 := l3) rfl hq0 (px_fac_not (l4 := l3) rfl hq1 (px_fac_not (l4 := l3) rfl hq2 hz_47 (by rw [if_neg (show ¬ (1 - r3 : Int) = 0 by omega)])) (by rw [if_neg (show ¬ (1 - r3 : Int) = 0 by omega)])) (by rw [if_neg (show ¬ (1 - r3 : Int) = 0 by omega)])), hL2_47, (by first | assumption | omega), (by first | assumption | omega), (by first | assumption | omega)⟩
            · refine g_aload_n (pc := 71) hC 3 dX3_readOne_71 rfl rfl ?_
              refine g_get (pc := 72) hC 0 fl_X3_15 dX3_readOne_72 rfl rfl ?_
              refine g_bipush (pc := 75) hC (6) dX3_readOne_75 (by decide) ?_
              refine g_iconst (pc := 77) hC dX3_readOne_77 ?_
              refine g_callV (pc := 78) (qr := 3) hC [3, 4] (k_X1_put _ _ _ _ _ _ _ (nt_l l3 0) (-1) (by first | assumption | omega) (by first | assumption | omega) (by first | assumption | omega) (by first | assumption | omega) (by first | assumption | omega) (by first | omega | (simp only [nt_l, List.length_append, List.length_cons, List.length_nil]; omega)) (by decide +kernel) (by decide)) cl_X1_put wm_X3_61 dX3_readOne_78 rfl rfl rfl rfl rfl (by decide) (by decide) (by omega) (Nat.le_of_ble_eq_true rfl) rfl (fun v9 w9 hq9 => ?_)
              obtain ⟨m4, od4, rfl, rfl, r_m4, r_od4, hL2_78, hm2_78⟩ := hq9
              refine g_ws hC [cO g0 3 [.ref g1, .ref g2, .int (iI nm3), .int (iI p3)], cO g1 6 [.ref g3, .int (iI e)], cA K g3 100 sg, cO g2 1 [.ref g4, .int (iI m4), .int (iI rc)], cA K g4 100 od4] rfl ?_
              refine g_st hC [] rfl ?_
              refine g_iinc (pc := 81) hC 0 [(4, _), (3, _), (2, _), (0, _), (1, _)] dX3_readOne_81 rfl (by decide) rfl ?_
              refine g_lv hC [0, 1, 2, 3, 4] [(4, .int (iI 1)), (3, _), (2, _), (0, _), (1, _)] rfl ?_
              refine g_goto (pc := 84) hC 61 dX3_readOne_84 (by decide) ?_
              refine g_iload (pc := 61) hC 0 dX3_readOne_61 rfl ?_
              refine g_iload_n (pc := 63) hC 2 dX3_readOne_63 rfl rfl ?_
              refine g_icmp_ge (pc := 64) hC 87 dX3_readOne_64 (by decide) (by omega) (by omega) (fun c64 => by exfalso; omega) (fun c64 => ?_)
              refine g_iload_n (pc := 67) hC 1 dX3_readOne_67 rfl rfl ?_
              refine g_if_eq (pc := 68) hC 87 dX3_readOne_68 (by decide) (by omega) (fun c68 => by exfalso; omega) (fun c68 => ?_)
              refine g_aload_n (pc := 71) hC 3 dX3_readOne_71 rfl rfl ?_
              refine g_get (pc := 72) hC 0 fl_X3_15 dX3_readOne_72 rfl rfl ?_
              refine g_bipush (pc := 75) hC (6) dX3_readOne_75 (by decide) ?_
              refine g_iconst (pc := 77) hC dX3_readOne_77 ?_
              refine g_callV (pc := 78) (qr := 3) hC [3, 4] (k_X1_put _ _ _ _ _ _ _ (nt_l l3 1) (-1) (by first | assumption | omega) (by first | assumption | omega) (by first | assumption | omega) (by first | assumption | omega) (by first | assumption | omega) (by first | omega | (simp only [nt_l, List.length_append, List.length_cons, List.length_nil]; omega)) (by decide +kernel) (by decide)) cl_X1_put wm_X3_61 dX3_readOne_78 rfl rfl rfl rfl rfl (by decide) (by decide) (by omega) (Nat.le_of_ble_eq_true rfl) rfl (fun v9 w9 hq9 => ?_)
              obtain ⟨m4, od4, rfl, rfl, r_m4, r_od4, hL2_78, hm2_78⟩ := hq9
              refine g_ws hC [cO g0 3 [.ref g1, .ref g2, .int (iI nm3), .int (iI p3)], cO g1 6 [.ref g3, .int (iI e)], cA K g3 100 sg, cO g2 1 [.ref g4, .int (iI m4), .int (iI rc)], cA K g4 100 od4] rfl ?_
              refine g_st hC [] rfl ?_
              refine g_iinc (pc := 81) hC 0 [(4, _), (3, _), (2, _), (0, _), (1, _)] dX3_readOne_81 rfl (by decide) rfl ?_
              refine g_lv hC [0, 1, 2, 3, 4] [(4, .int (iI 2)), (3, _), (2, _), (0, _), (1, _)] rfl ?_
              refine g_goto (pc := 84) hC 61 dX3_readOne_84 (by decide) ?_
              refine g_iload (pc := 61) hC 0 dX3_readOne_61 rfl ?_
              refine g_iload_n (pc := 63) hC 2 dX3_readOne_63 rfl rfl ?_
              refine g_icmp_ge (pc := 64) hC 87 dX3_readOne_64 (by decide) (by omega) (by omega) (fun c64 => by exfalso; omega) (fun c64 => ?_)
              refine g_iload_n (pc := 67) hC 1 dX3_readOne_67 rfl rfl ?_
              refine g_if_eq (pc := 68) hC 87 dX3_readOne_68 (by decide) (by omega) (fun c68 => by exfalso; omega) (fun c68 => ?_)
              refine g_aload_n (pc := 71) hC 3 dX3_readOne_71 rfl rfl ?_
              refine g_get (pc := 72) hC 0 fl_X3_15 dX3_readOne_72 rfl rfl ?_
              refine g_bipush (pc := 75) hC (6) dX3_readOne_75 (by decide) ?_
              refine g_iconst (pc := 77) hC dX3_readOne_77 ?_
              refine g_callV (pc := 78) (qr := 3) hC [3, 4] (k_X1_put _ _ _ _ _ _ _ (nt_l l3 2) (-1) (by first | assumption | omega) (by first | assumption | omega) (by first | assumption | omega) (by first | assumption | omega) (by first | assumption | omega) (by first | omega | (simp only [nt_l, List.length_append, List.length_cons, List.length_nil]; omega)) (by decide +kernel) (by decide)) cl_X1_put wm_X3_61 dX3_readOne_78 rfl rfl rfl rfl rfl (by decide) (by decide) (by omega) (Nat.le_of_ble_eq_true rfl) rfl (fun v9 w9 hq9 => ?_)
              obtain ⟨m4, od4, rfl, rfl, r_m4, r_od4, hL2_78, hm2_78⟩ := hq9
              refine g_ws hC [cO g0 3 [.ref g1, .ref g2, .int (iI nm3), .int (iI p3)], cO g1 6 [.ref g3, .int (iI e)], cA K g3 100 sg, cO g2 1 [.ref g4, .int (iI m4), .int (iI rc)], cA K g4 100 od4] rfl ?_
              refine g_st hC [] rfl ?_
              refine g_iinc (pc := 81) hC 0 [(4, _), (3, _), (2, _), (0, _), (1, _)] dX3_readOne_81 rfl (by decide) rfl ?_
              refine g_lv hC [0, 1, 2, 3, 4] [(4, .int (iI 3)), (3, _), (2, _), (0, _), (1, _)] rfl ?_
              refine g_goto (pc := 84) hC 61 dX3_readOne_84 (by decide) ?_
              refine g_iload (pc := 61) hC 0 dX3_readOne_61 rfl ?_
              refine g_iload_n (pc := 63) hC 2 dX3_readOne_63 rfl rfl ?_
              refine g_icmp_ge (pc := 64) hC 87 dX3_readOne_64 (by decide) (by omega) (by omega) (fun c64 => ?_) (fun c64 => by exfalso; omega)
              refine g_iload_n (pc := 87) hC 1 dX3_readOne_87 rfl rfl ?_
              exact g_zret (pc := 88) hR dX3_readOne_88 rfl (by omega) ⟨by omega, by omega⟩ (Nat.le_of_ble_eq_true rfl) ⟨r3, p3, nm3, m4, od4, (nt_l l3 3), rfl, rfl, (by first | assumption | omega), (by first | assumption | omega), (by first | assumption | omega), (by first | assumption | omega), (by first | assumption | omega), (px_fac_not (l4 := nt_l l3 3) rfl hq0 (px_fac_not (l4 := nt_l l3 2) rfl hq1 (px_fac_not (l4 := nt_l l3 1) rfl hq2 hz_47 (by rw [if_pos (show (1 - r3 : Int) = 0 by omega)]; rfl)) (by rw [if_pos (show (1 - r3 : Int) = 0 by omega)]; rfl)) (by rw [if_pos (show (1 - r3 : Int) = 0 by omega)]; rfl)), hL2_78, (by first | assumption | omega), (by first | omega | (simp only [nt_l, List.length_append, List.length_cons, List.length_nil]; omega)), (by first | assumption | omega)⟩
        · have hq3 : T ((((p + 1) + 1) + 1)) = 33 := by omega
          have hlt3 := cr_lt hT (by omega) hq3 (by decide)
          refine g_iload_n (pc := 11) hC 2 dX3_readOne_11 rfl rfl ?_
          refine g_iload_n (pc := 12) hC 0 dX3_readOne_12 rfl rfl ?_
          refine g_iadd (pc := 13) hC dX3_readOne_13 ?_
          refine g_st hC [.int (iI (4))] rfl ?_
          refine g_iconst (pc := 14) hC dX3_readOne_14 ?_
          refine g_icmp_ge (pc := 15) hC 34 dX3_readOne_15 (by decide) (by omega) (by omega) (fun c15 => by exfalso; omega) (fun c15 => ?_)
          refine g_iinc (pc := 18) hC 0 [(2, _), (0, _), (1, _)] dX3_readOne_18 rfl (by decide) rfl ?_
          refine g_lv hC [0, 1, 2] [(2, .int (iI 4)), (0, _), (1, _)] rfl ?_
          skip
          refine g_aload_n (pc := 21) hC 1 dX3_readOne_21 rfl rfl ?_
          refine g_dup (pc := 22) hC dX3_readOne_22 rfl ?_
          refine g_get (pc := 23) hC 0 fl_X3_32 dX3_readOne_23 rfl rfl ?_
          refine g_iconst (pc := 26) hC dX3_readOne_26 ?_
          refine g_iadd (pc := 27) hC dX3_readOne_27 ?_
          refine g_putI (pc := 28) hC 0 [cO _ _ [_, _, _, _], _, _, _, _] fl_X3_32 dX3_readOne_28 rfl (Nat.le_of_ble_eq_true rfl) rfl ?_
          refine g_goto (pc := 31) hC 2 dX3_readOne_31 (by decide) ?_
          refine g_aload_n (pc := 2) hC 1 dX3_readOne_2 rfl rfl ?_
          refine g_fnV (pc := 3) (qr := 0) hC [0, 1, 2] (k_X3_sign _ _ _ _ _ _ _ _ _ (by first | assumption | omega) (by first | assumption | omega) (by first | assumption | omega) (by first | assumption | omega) (by first | assumption | omega) (by first | assumption | omega)) cl_X3_sign wm_X3_28 dX3_readOne_3 rfl rfl rfl rfl rfl (by decide) (by decide) ⟨by omega, by omega⟩ (Nat.le_of_ble_eq_true rfl) rfl rfl ?_
          refine g_name hC (fun y4 e_y4 => ?_)
          have q_y4 : -1 ≤ y4 ∧ y4 ≤ 127 := by rw [e_y4]; exact hT.2.2.1 _
          refine g_bipush (pc := 6) hC (33) dX3_readOne_6 (by decide) ?_
          refine g_icmp_ne (pc := 8) hC 34 dX3_readOne_8 (by decide) (by omega) (by omega) (fun c8 => ?_) (fun c8 => ?_)
          · have hn9 : ¬ T (((((p + 1) + 1) + 1) + 1)) = 33 := by omega
            refine g_aload_n (pc := 34) hC 1 dX3_readOne_34 rfl rfl ?_
            refine g_fnV (pc := 35) (qr := 0) hC [0, 1, 2] (k_X3_sign _ _ _ _ _ _ _ _ _ (by first | assumption | omega) (by first | assumption | omega) (by first | assumption | omega) (by first | assumption | omega) (by first | assumption | omega) (by first | assumption | omega)) cl_X3_sign wm_X3_28 dX3_readOne_35 rfl rfl rfl rfl rfl (by decide) (by decide) ⟨by omega, by omega⟩ (Nat.le_of_ble_eq_true rfl) rfl rfl ?_
            refine g_name hC (fun y99 e_y99 => ?_)
            have q_y99 : -1 ≤ y99 ∧ y99 ≤ 127 := by rw [e_y99]; exact hT.2.2.1 _
            refine g_bipush (pc := 38) hC (40) dX3_readOne_38 (by decide) ?_
            refine g_icmp_ne (pc := 40) hC 53 dX3_readOne_40 (by decide) (by omega) (by omega) (fun c40 => ?_) (fun c40 => ?_)
            · refine g_aload_n (pc := 53) hC 1 dX3_readOne_53 rfl rfl ?_
              refine g_callV (pc := 54) (qr := 0) hC [0, 1, 2, 3, 4] (k_X3_readTest _ _ _ _ _ _ _ _ _ _ _ _ _ _ (by first | assumption | omega) (by first | assumption | omega) (by first | assumption | omega) (by first | assumption | omega) (by first | assumption | omega) (by first | assumption | omega) (by first | assumption | omega) (by first | assumption | omega) (by first | assumption | omega) (by first | assumption | omega) (by first | assumption | omega) (by first | assumption | omega)) cl_X3_readTest wm_X3_71 dX3_readOne_54 rfl rfl rfl rfl rfl (by decide) (by decide) (by omega) (Nat.le_of_ble_eq_true rfl) rfl (fun v9 w9 hq9 => ?_)
              obtain ⟨r3, p3, nm3, m3, od3, l3, rfl, rfl, r_r3, r_p3, r_nm3, r_m3, r_od3, hz_54, hL2_54, hb_54, hl2_54, hnm2_54⟩ := hq9
              refine g_ws hC [cO g0 3 [.ref g1, .ref g2, .int (iI nm3), .int (iI p3)], cO g1 6 [.ref g3, .int (iI e)], cA K g3 100 sg, cO g2 1 [.ref g4, .int (iI m3), .int (iI rc)], cA K g4 100 od3] rfl ?_
              refine g_st hC [.int (iI r3)] rfl ?_
              refine g_istore_n (pc := 57) hC [(3, _), (2, _), (0, _), (1, _)] dX3_readOne_57 rfl (by decide) rfl ?_
              refine g_iconst (pc := 58) hC dX3_readOne_58 ?_
              refine g_istore (pc := 59) hC [(4, _), (3, _), (2, _), (0, _), (1, _)] dX3_readOne_59 (by decide) rfl ?_
              refine g_iload (pc := 61) hC 0 dX3_readOne_61 rfl ?_
              refine g_iload_n (pc := 63) hC 2 dX3_readOne_63 rfl rfl ?_
              refine g_icmp_ge (pc := 64) hC 87 dX3_readOne_64 (by decide) (by omega) (by omega) (fun c64 => by exfalso; omega) (fun c64 => ?_)
              refine g_iload_n (pc := 67) hC 1 dX3_readOne_67 rfl rfl ?_
              refine g_if_eq (pc := 68) hC 87 dX3_readOne_68 (by decide) (by omega) (fun c68 => ?_) (fun c68 => ?_)
              · refine g_iload_n (pc := 87) hC 1 dX3_readOne_87 rfl rfl ?_
                exact g_zret (pc := 88) hR dX3_readOne_88 rfl (by omega) ⟨by omega, by omega⟩ (Nat.le_of_ble_eq_true rfl) ⟨r3, p3, nm3, m3, od3, l3, rfl, rfl, (by first | assumption | omega), (by first | assumption | omega), (by first | assumption | omega), (by first | assumption | omega), (by first | assumption | omega), (px_fac_not (l4 := l3) rfl hq0 (px_fac_not (l4 := l3) rfl hq1 (px_fac_not (l4 := l3) rfl hq2 (px_fac_not (l4 := l3) rfl hq3 (px_fac_t rfl hn9 (by omega) hz_54) (by rw [if_neg (show ¬ (1 - r3 : Int) = 0 by omega)])) (by rw [if_neg (show ¬ (1 - r3 : Int) = 0 by omega)])) (by rw [if_neg (show ¬ (1 - r3 : Int) = 0 by omega)])) (by rw [if_neg (show ¬ (1 - r3 : Int) = 0 by omega)])), hL2_54, (by first | assumption | omega), (by first | assumption | omega), (by first | assumption | omega)⟩
              · refine g_aload_n (pc := 71) hC 3 dX3_readOne_71 rfl rfl ?_
                refine g_get (pc := 72) hC 0 fl_X3_15 dX3_readOne_72 rfl rfl ?_
                refine g_bipush (pc := 75) hC (6) dX3_readOne_75 (by decide) ?_
                refine g_iconst (pc := 77) hC dX3_readOne_77 ?_
                refine g_callV (pc := 78) (qr := 3) hC [3, 4] (k_X1_put _ _ _ _ _ _ _ (nt_l l3 0) (-1) (by first | assumption | omega) (by first | assumption | omega) (by first | assumption | omega) (by first | assumption | omega) (by first | assumption | omega) (by first | omega | (simp only [nt_l, List.length_append, List.length_cons, List.length_nil]; omega)) (by decide +kernel) (by decide)) cl_X1_put wm_X3_61 dX3_readOne_78 rfl rfl rfl rfl rfl (by decide) (by decide) (by omega) (Nat.le_of_ble_eq_true rfl) rfl (fun v9 w9 hq9 => ?_)
                obtain ⟨m4, od4, rfl, rfl, r_m4, r_od4, hL2_78, hm2_78⟩ := hq9
                refine g_ws hC [cO g0 3 [.ref g1, .ref g2, .int (iI nm3), .int (iI p3)], cO g1 6 [.ref g3, .int (iI e)], cA K g3 100 sg, cO g2 1 [.ref g4, .int (iI m4), .int (iI rc)], cA K g4 100 od4] rfl ?_
                refine g_st hC [] rfl ?_
                refine g_iinc (pc := 81) hC 0 [(4, _), (3, _), (2, _), (0, _), (1, _)] dX3_readOne_81 rfl (by decide) rfl ?_
                refine g_lv hC [0, 1, 2, 3, 4] [(4, .int (iI 1)), (3, _), (2, _), (0, _), (1, _)] rfl ?_
                refine g_goto (pc := 84) hC 61 dX3_readOne_84 (by decide) ?_
                refine g_iload (pc := 61) hC 0 dX3_readOne_61 rfl ?_
                refine g_iload_n (pc := 63) hC 2 dX3_readOne_63 rfl rfl ?_
                refine g_icmp_ge (pc := 64) hC 87 dX3_readOne_64 (by decide) (by omega) (by omega) (fun c64 => by exfalso; omega) (fun c64 => ?_)
                refine g_iload_n (pc := 67) hC 1 dX3_readOne_67 rfl rfl ?_
                refine g_if_eq (pc := 68) hC 87 dX3_readOne_68 (by decide) (by omega) (fun c68 => by exfalso; omega) (fun c68 => ?_)
                refine g_aload_n (pc := 71) hC 3 dX3_readOne_71 rfl rfl ?_
                refine g_get (pc := 72) hC 0 fl_X3_15 dX3_readOne_72 rfl rfl ?_
                refine g_bipush (pc := 75) hC (6) dX3_readOne_75 (by decide) ?_
                refine g_iconst (pc := 77) hC dX3_readOne_77 ?_
                refine g_callV (pc := 78) (qr := 3) hC [3, 4] (k_X1_put _ _ _ _ _ _ _ (nt_l l3 1) (-1) (by first | assumption | omega) (by first | assumption | omega) (by first | assumption | omega) (by first | assumption | omega) (by first | assumption | omega) (by first | omega | (simp only [nt_l, List.length_append, List.length_cons, List.length_nil]; omega)) (by decide +kernel) (by decide)) cl_X1_put wm_X3_61 dX3_readOne_78 rfl rfl rfl rfl rfl (by decide) (by decide) (by omega) (Nat.le_of_ble_eq_true rfl) rfl (fun v9 w9 hq9 => ?_)
                obtain ⟨m4, od4, rfl, rfl, r_m4, r_od4, hL2_78, hm2_78⟩ := hq9
                refine g_ws hC [cO g0 3 [.ref g1, .ref g2, .int (iI nm3), .int (iI p3)], cO g1 6 [.ref g3, .int (iI e)], cA K g3 100 sg, cO g2 1 [.ref g4, .int (iI m4), .int (iI rc)], cA K g4 100 od4] rfl ?_
                refine g_st hC [] rfl ?_
                refine g_iinc (pc := 81) hC 0 [(4, _), (3, _), (2, _), (0, _), (1, _)] dX3_readOne_81 rfl (by decide) rfl ?_
                refine g_lv hC [0, 1, 2, 3, 4] [(4, .int (iI 2)), (3, _), (2, _), (0, _), (1, _)] rfl ?_
                refine g_goto (pc := 84) hC 61 dX3_readOne_84 (by decide) ?_
                refine g_iload (pc := 61) hC 0 dX3_readOne_61 rfl ?_
                refine g_iload_n (pc := 63) hC 2 dX3_readOne_63 rfl rfl ?_
                refine g_icmp_ge (pc := 64) hC 87 dX3_readOne_64 (by decide) (by omega) (by omega) (fun c64 => by exfalso; omega) (fun c64 => ?_)
                refine g_iload_n (pc := 67) hC 1 dX3_readOne_67 rfl rfl ?_
                refine g_if_eq (pc := 68) hC 87 dX3_readOne_68 (by decide) (by omega) (fun c68 => by exfalso; omega) (fun c68 => ?_)
                refine g_aload_n (pc := 71) hC 3 dX3_readOne_71 rfl rfl ?_
                refine g_get (pc := 72) hC 0 fl_X3_15 dX3_readOne_72 rfl rfl ?_
                refine g_bipush (pc := 75) hC (6) dX3_readOne_75 (by decide) ?_
                refine g_iconst (pc := 77) hC dX3_readOne_77 ?_
                refine g_callV (pc := 78) (qr := 3) hC [3, 4] (k_X1_put _ _ _ _ _ _ _ (nt_l l3 2) (-1) (by first | assumption | omega) (by first | assumption | omega) (by first | assumption | omega) (by first | assumption | omega) (by first | assumption | omega) (by first | omega | (simp only [nt_l, List.length_append, List.length_cons, List.length_nil]; omega)) (by decide +kernel) (by decide)) cl_X1_put wm_X3_61 dX3_readOne_78 rfl rfl rfl rfl rfl (by decide) (by decide) (by omega) (Nat.le_of_ble_eq_true rfl) rfl (fun v9 w9 hq9 => ?_)
                obtain ⟨m4, od4, rfl, rfl, r_m4, r_od4, hL2_78, hm2_78⟩ := hq9
                refine g_ws hC [cO g0 3 [.ref g1, .ref g2, .int (iI nm3), .int (iI p3)], cO g1 6 [.ref g3, .int (iI e)], cA K g3 100 sg, cO g2 1 [.ref g4, .int (iI m4), .int (iI rc)], cA K g4 100 od4] rfl ?_
                refine g_st hC [] rfl ?_
                refine g_iinc (pc := 81) hC 0 [(4, _), (3, _), (2, _), (0, _), (1, _)] dX3_readOne_81 rfl (by decide) rfl ?_
                refine g_lv hC [0, 1, 2, 3, 4] [(4, .int (iI 3)), (3, _), (2, _), (0, _), (1, _)] rfl ?_
                refine g_goto (pc := 84) hC 61 dX3_readOne_84 (by decide) ?_
                refine g_iload (pc := 61) hC 0 dX3_readOne_61 rfl ?_
                refine g_iload_n (pc := 63) hC 2 dX3_readOne_63 rfl rfl ?_
                refine g_icmp_ge (pc := 64) hC 87 dX3_readOne_64 (by decide) (by omega) (by omega) (fun c64 => by exfalso; omega) (fun c64 => ?_)
                refine g_iload_n (pc := 67) hC 1 dX3_readOne_67 rfl rfl ?_
                refine g_if_eq (pc := 68) hC 87 dX3_readOne_68 (by decide) (by omega) (fun c68 => by exfalso; omega) (fun c68 => ?_)
                refine g_aload_n (pc := 71) hC 3 dX3_readOne_71 rfl rfl ?_
                refine g_get (pc := 72) hC 0 fl_X3_15 dX3_readOne_72 rfl rfl ?_
                refine g_bipush (pc := 75) hC (6) dX3_readOne_75 (by decide) ?_
                refine g_iconst (pc := 77) hC dX3_readOne_77 ?_
                refine g_callV (pc := 78) (qr := 3) hC [3, 4] (k_X1_put _ _ _ _ _ _ _ (nt_l l3 3) (-1) (by first | assumption | omega) (by first | assumption | omega) (by first | assumption | omega) (by first | assumption | omega) (by first | assumption | omega) (by first | omega | (simp only [nt_l, List.length_append, List.length_cons, List.length_nil]; omega)) (by decide +kernel) (by decide)) cl_X1_put wm_X3_61 dX3_readOne_78 rfl rfl rfl rfl rfl (by decide) (by decide) (by omega) (Nat.le_of_ble_eq_true rfl) rfl (fun v9 w9 hq9 => ?_)
                obtain ⟨m4, od4, rfl, rfl, r_m4, r_od4, hL2_78, hm2_78⟩ := hq9
                refine g_ws hC [cO g0 3 [.ref g1, .ref g2, .int (iI nm3), .int (iI p3)], cO g1 6 [.ref g3, .int (iI e)], cA K g3 100 sg, cO g2 1 [.ref g4, .int (iI m4), .int (iI rc)], cA K g4 100 od4] rfl ?_
                refine g_st hC [] rfl ?_
                refine g_iinc (pc := 81) hC 0 [(4, _), (3, _), (2, _), (0, _), (1, _)] dX3_readOne_81 rfl (by decide) rfl ?_
                refine g_lv hC [0, 1, 2, 3, 4] [(4, .int (iI 4)), (3, _), (2, _), (0, _), (1, _)] rfl ?_
                refine g_goto (pc := 84) hC 61 dX3_readOne_84 (by decide) ?_
                refine g_iload (pc := 61) hC 0 dX3_readOne_61 rfl ?_
                refine g_iload_n (pc := 63) hC 2 dX3_readOne_63 rfl rfl ?_
                refine g_icmp_ge (pc := 64) hC 87 dX3_readOne_64 (by decide) (by omega) (by omega) (fun c64 => ?_) (fun c64 => by exfalso; omega)
                refine g_iload_n (pc := 87) hC 1 dX3_readOne_87 rfl rfl ?_
                exact g_zret (pc := 88) hR dX3_readOne_88 rfl (by omega) ⟨by omega, by omega⟩ (Nat.le_of_ble_eq_true rfl) ⟨r3, p3, nm3, m4, od4, (nt_l l3 4), rfl, rfl, (by first | assumption | omega), (by first | assumption | omega), (by first | assumption | omega), (by first | assumption | omega), (by first | assumption | omega), (px_fac_not (l4 := nt_l l3 4) rfl hq0 (px_fac_not (l4 := nt_l l3 3) rfl hq1 (px_fac_not (l4 := nt_l l3 2) rfl hq2 (px_fac_not (l4 := nt_l l3 1) rfl hq3 (px_fac_t rfl hn9 (by omega) hz_54) (by rw [if_pos (show (1 - r3 : Int) = 0 by omega)]; rfl)) (by rw [if_pos (show (1 - r3 : Int) = 0 by omega)]; rfl)) (by rw [if_pos (show (1 - r3 : Int) = 0 by omega)]; rfl)) (by rw [if_pos (show (1 - r3 : Int) = 0 by omega)]; rfl)), hL2_78, (by first | assumption | omega), (by first | omega | (simp only [nt_l, List.length_append, List.length_cons, List.length_nil]; omega)), (by first | assumption | omega)⟩
            · have hlt9 := cr_lt hT (by omega) (show T (((((p + 1) + 1) + 1) + 1)) = 40 by omega) (by decide)
              refine g_aload_n (pc := 43) hC 1 dX3_readOne_43 rfl rfl ?_
              refine g_iload_n (pc := 44) hC 2 dX3_readOne_44 rfl rfl ?_
              refine g_iload_n (pc := 45) hC 0 dX3_readOne_45 rfl rfl ?_
              refine g_iadd (pc := 46) hC dX3_readOne_46 ?_
              refine g_st hC [.int (iI (5)), _] rfl ?_
              refine g_callV (pc := 47) (qr := 0) hC [0, 1, 2, 3, 4] (k_X3_readInBrackets_5 _ _ _ _ _ _ _ _ _ _ _ _ _ _ (by first | assumption | omega) (by first | assumption | omega) (by first | assumption | omega) (by first | assumption | omega) (by first | assumption | omega) (by first | assumption | omega) (by first | assumption | omega) (by first | assumption | omega) (by first | assumption | omega) (by first | assumption | omega) (by first | assumption | omega) (by first | assumption | omega) (by first | assumption | omega)) cl_X3_readInBrackets wm_X3_68 dX3_readOne_47 rfl rfl rfl rfl rfl (by decide) (by decide) (by omega) (Nat.le_of_ble_eq_true rfl) rfl (fun v9 w9 hq9 => ?_)
              obtain ⟨r3, p3, nm3, m3, od3, l3, rfl, rfl, r_r3, r_p3, r_nm3, r_m3, r_od3, hz_47, hL2_47, hb_47, hl2_47, hnm2_47⟩ := hq9
              refine g_ws hC [cO g0 3 [.ref g1, .ref g2, .int (iI nm3), .int (iI p3)], cO g1 6 [.ref g3, .int (iI e)], cA K g3 100 sg, cO g2 1 [.ref g4, .int (iI m3), .int (iI rc)], cA K g4 100 od3] rfl ?_
              refine g_st hC [.int (iI r3)] rfl ?_
              refine g_goto (pc := 50) hC 57 dX3_readOne_50 (by decide) ?_
              refine g_istore_n (pc := 57) hC [(3, _), (2, _), (0, _), (1, _)] dX3_readOne_57 rfl (by decide) rfl ?_
              refine g_iconst (pc := 58) hC dX3_readOne_58 ?_
              refine g_istore (pc := 59) hC [(4, _), (3, _), (2, _), (0, _), (1, _)] dX3_readOne_59 (by decide) rfl ?_
              refine g_iload (pc := 61) hC 0 dX3_readOne_61 rfl ?_
              refine g_iload_n (pc := 63) hC 2 dX3_readOne_63 rfl rfl ?_
              refine g_icmp_ge (pc := 64) hC 87 dX3_readOne_64 (by decide) (by omega) (by omega) (fun c64 => by exfalso; omega) (fun c64 => ?_)
              refine g_iload_n (pc := 67) hC 1 dX3_readOne_67 rfl rfl ?_
              refine g_if_eq (pc := 68) hC 87 dX3_readOne_68 (by decide) (by omega) (fun c68 => ?_) (fun c68 => ?_)
              · refine g_iload_n (pc := 87) hC 1 dX3_readOne_87 rfl rfl ?_
                exact g_zret (pc := 88) hR dX3_readOne_88 rfl (by omega) ⟨by omega, by omega⟩ (Nat.le_of_ble_eq_true rfl) ⟨r3, p3, nm3, m3, od3, l3, rfl, rfl, (by first | assumption | omega), (by first | assumption | omega), (by first | assumption | omega), (by first | assumption | omega), (by first | assumption | omega), (px_fac_not (l4 := l3) rfl hq0 (px_fac_not (l4 := l3) rfl hq1 (px_fac_not (l4 := l3) rfl hq2 (px_fac_not (l4 := l3) rfl hq3 hz_47 (by rw [if_neg (show ¬ (1 - r3 : Int) = 0 by omega)])) (by rw [if_neg (show ¬ (1 - r3 : Int) = 0 by omega)])) (by rw [if_neg (show ¬ (1 - r3 : Int) = 0 by omega)])) (by rw [if_neg (show ¬ (1 - r3 : Int) = 0 by omega)])), hL2_47, (by first | assumption | omega), (by first | assumption | omega), (by first | assumption | omega)⟩
              · refine g_aload_n (pc := 71) hC 3 dX3_readOne_71 rfl rfl ?_
                refine g_get (pc := 72) hC 0 fl_X3_15 dX3_readOne_72 rfl rfl ?_
                refine g_bipush (pc := 75) hC (6) dX3_readOne_75 (by decide) ?_
                refine g_iconst (pc := 77) hC dX3_readOne_77 ?_
                refine g_callV (pc := 78) (qr := 3) hC [3, 4] (k_X1_put _ _ _ _ _ _ _ (nt_l l3 0) (-1) (by first | assumption | omega) (by first | assumption | omega) (by first | assumption | omega) (by first | assumption | omega) (by first | assumption | omega) (by first | omega | (simp only [nt_l, List.length_append, List.length_cons, List.length_nil]; omega)) (by decide +kernel) (by decide)) cl_X1_put wm_X3_61 dX3_readOne_78 rfl rfl rfl rfl rfl (by decide) (by decide) (by omega) (Nat.le_of_ble_eq_true rfl) rfl (fun v9 w9 hq9 => ?_)
                obtain ⟨m4, od4, rfl, rfl, r_m4, r_od4, hL2_78, hm2_78⟩ := hq9
                refine g_ws hC [cO g0 3 [.ref g1, .ref g2, .int (iI nm3), .int (iI p3)], cO g1 6 [.ref g3, .int (iI e)], cA K g3 100 sg, cO g2 1 [.ref g4, .int (iI m4), .int (iI rc)], cA K g4 100 od4] rfl ?_
                refine g_st hC [] rfl ?_
                refine g_iinc (pc := 81) hC 0 [(4, _), (3, _), (2, _), (0, _), (1, _)] dX3_readOne_81 rfl (by decide) rfl ?_
                refine g_lv hC [0, 1, 2, 3, 4] [(4, .int (iI 1)), (3, _), (2, _), (0, _), (1, _)] rfl ?_
                refine g_goto (pc := 84) hC 61 dX3_readOne_84 (by decide) ?_
                refine g_iload (pc := 61) hC 0 dX3_readOne_61 rfl ?_
                refine g_iload_n (pc := 63) hC 2 dX3_readOne_63 rfl rfl ?_
                refine g_icmp_ge (pc := 64) hC 87 dX3_readOne_64 (by decide) (by omega) (by omega) (fun c64 => by exfalso; omega) (fun c64 => ?_)
                refine g_iload_n (pc := 67) hC 1 dX3_readOne_67 rfl rfl ?_
                refine g_if_eq (pc := 68) hC 87 dX3_readOne_68 (by decide) (by omega) (fun c68 => by exfalso; omega) (fun c68 => ?_)
                refine g_aload_n (pc := 71) hC 3 dX3_readOne_71 rfl rfl ?_
                refine g_get (pc := 72) hC 0 fl_X3_15 dX3_readOne_72 rfl rfl ?_
                refine g_bipush (pc := 75) hC (6) dX3_readOne_75 (by decide) ?_
                refine g_iconst (pc := 77) hC dX3_readOne_77 ?_
                refine g_callV (pc := 78) (qr := 3) hC [3, 4] (k_X1_put _ _ _ _ _ _ _ (nt_l l3 1) (-1) (by first | assumption | omega) (by first | assumption | omega) (by first | assumption | omega) (by first | assumption | omega) (by first | assumption | omega) (by first | omega | (simp only [nt_l, List.length_append, List.length_cons, List.length_nil]; omega)) (by decide +kernel) (by decide)) cl_X1_put wm_X3_61 dX3_readOne_78 rfl rfl rfl rfl rfl (by decide) (by decide) (by omega) (Nat.le_of_ble_eq_true rfl) rfl (fun v9 w9 hq9 => ?_)
                obtain ⟨m4, od4, rfl, rfl, r_m4, r_od4, hL2_78, hm2_78⟩ := hq9
                refine g_ws hC [cO g0 3 [.ref g1, .ref g2, .int (iI nm3), .int (iI p3)], cO g1 6 [.ref g3, .int (iI e)], cA K g3 100 sg, cO g2 1 [.ref g4, .int (iI m4), .int (iI rc)], cA K g4 100 od4] rfl ?_
                refine g_st hC [] rfl ?_
                refine g_iinc (pc := 81) hC 0 [(4, _), (3, _), (2, _), (0, _), (1, _)] dX3_readOne_81 rfl (by decide) rfl ?_
                refine g_lv hC [0, 1, 2, 3, 4] [(4, .int (iI 2)), (3, _), (2, _), (0, _), (1, _)] rfl ?_
                refine g_goto (pc := 84) hC 61 dX3_readOne_84 (by decide) ?_
                refine g_iload (pc := 61) hC 0 dX3_readOne_61 rfl ?_
                refine g_iload_n (pc := 63) hC 2 dX3_readOne_63 rfl rfl ?_
                refine g_icmp_ge (pc := 64) hC 87 dX3_readOne_64 (by decide) (by omega) (by omega) (fun c64 => by exfalso; omega) (fun c64 => ?_)
                refine g_iload_n (pc := 67) hC 1 dX3_readOne_67 rfl rfl ?_
                refine g_if_eq (pc := 68) hC 87 dX3_readOne_68 (by decide) (by omega) (fun c68 => by exfalso; omega) (fun c68 => ?_)
                refine g_aload_n (pc := 71) hC 3 dX3_readOne_71 rfl rfl ?_
                refine g_get (pc := 72) hC 0 fl_X3_15 dX3_readOne_72 rfl rfl ?_
                refine g_bipush (pc := 75) hC (6) dX3_readOne_75 (by decide) ?_
                refine g_iconst (pc := 77) hC dX3_readOne_77 ?_
                refine g_callV (pc := 78) (qr := 3) hC [3, 4] (k_X1_put _ _ _ _ _ _ _ (nt_l l3 2) (-1) (by first | assumption | omega) (by first | assumption | omega) (by first | assumption | omega) (by first | assumption | omega) (by first | assumption | omega) (by first | omega | (simp only [nt_l, List.length_append, List.length_cons, List.length_nil]; omega)) (by decide +kernel) (by decide)) cl_X1_put wm_X3_61 dX3_readOne_78 rfl rfl rfl rfl rfl (by decide) (by decide) (by omega) (Nat.le_of_ble_eq_true rfl) rfl (fun v9 w9 hq9 => ?_)
                obtain ⟨m4, od4, rfl, rfl, r_m4, r_od4, hL2_78, hm2_78⟩ := hq9
                refine g_ws hC [cO g0 3 [.ref g1, .ref g2, .int (iI nm3), .int (iI p3)], cO g1 6 [.ref g3, .int (iI e)], cA K g3 100 sg, cO g2 1 [.ref g4, .int (iI m4), .int (iI rc)], cA K g4 100 od4] rfl ?_
                refine g_st hC [] rfl ?_
                refine g_iinc (pc := 81) hC 0 [(4, _), (3, _), (2, _), (0, _), (1, _)] dX3_readOne_81 rfl (by decide) rfl ?_
                refine g_lv hC [0, 1, 2, 3, 4] [(4, .int (iI 3)), (3, _), (2, _), (0, _), (1, _)] rfl ?_
                refine g_goto (pc := 84) hC 61 dX3_readOne_84 (by decide) ?_
                refine g_iload (pc := 61) hC 0 dX3_readOne_61 rfl ?_
                refine g_iload_n (pc := 63) hC 2 dX3_readOne_63 rfl rfl ?_
                refine g_icmp_ge (pc := 64) hC 87 dX3_readOne_64 (by decide) (by omega) (by omega) (fun c64 => by exfalso; omega) (fun c64 => ?_)
                refine g_iload_n (pc := 67) hC 1 dX3_readOne_67 rfl rfl ?_
                refine g_if_eq (pc := 68) hC 87 dX3_readOne_68 (by decide) (by omega) (fun c68 => by exfalso; omega) (fun c68 => ?_)
                refine g_aload_n (pc := 71) hC 3 dX3_readOne_71 rfl rfl ?_
                refine g_get (pc := 72) hC 0 fl_X3_15 dX3_readOne_72 rfl rfl ?_
                refine g_bipush (pc := 75) hC (6) dX3_readOne_75 (by decide) ?_
                refine g_iconst (pc := 77) hC dX3_readOne_77 ?_
                refine g_callV (pc := 78) (qr := 3) hC [3, 4] (k_X1_put _ _ _ _ _ _ _ (nt_l l3 3) (-1) (by first | assumption | omega) (by first | assumption | omega) (by first | assumption | omega) (by first | assumption | omega) (by first | assumption | omega) (by first | omega | (simp only [nt_l, List.length_append, List.length_cons, List.length_nil]; omega)) (by decide +kernel) (by decide)) cl_X1_put wm_X3_61 dX3_readOne_78 rfl rfl rfl rfl rfl (by decide) (by decide) (by omega) (Nat.le_of_ble_eq_true rfl) rfl (fun v9 w9 hq9 => ?_)
                obtain ⟨m4, od4, rfl, rfl, r_m4, r_od4, hL2_78, hm2_78⟩ := hq9
                refine g_ws hC [cO g0 3 [.ref g1, .ref g2, .int (iI nm3), .int (iI p3)], cO g1 6 [.ref g3, .int (iI e)], cA K g3 100 sg, cO g2 1 [.ref g4, .int (iI m4), .int (iI rc)], cA K g4 100 od4] rfl ?_
                refine g_st hC [] rfl ?_
                refine g_iinc (pc := 81) hC 0 [(4, _), (3, _), (2, _), (0, _), (1, _)] dX3_readOne_81 rfl (by decide) rfl ?_
                refine g_lv hC [0, 1, 2, 3, 4] [(4, .int (iI 4)), (3, _), (2, _), (0, _), (1, _)] rfl ?_
                refine g_goto (pc := 84) hC 61 dX3_readOne_84 (by decide) ?_
                refine g_iload (pc := 61) hC 0 dX3_readOne_61 rfl ?_
                refine g_iload_n (pc := 63) hC 2 dX3_readOne_63 rfl rfl ?_
                refine g_icmp_ge (pc := 64) hC 87 dX3_readOne_64 (by decide) (by omega) (by omega) (fun c64 => ?_) (fun c64 => by exfalso; omega)
                refine g_iload_n (pc := 87) hC 1 dX3_readOne_87 rfl rfl ?_
                exact g_zret (pc := 88) hR dX3_readOne_88 rfl (by omega) ⟨by omega, by omega⟩ (Nat.le_of_ble_eq_true rfl) ⟨r3, p3, nm3, m4, od4, (nt_l l3 4), rfl, rfl, (by first | assumption | omega), (by first | assumption | omega), (by first | assumption | omega), (by first | assumption | omega), (by first | assumption | omega), (px_fac_not (l4 := nt_l l3 4) rfl hq0 (px_fac_not (l4 := nt_l l3 3) rfl hq1 (px_fac_not (l4 := nt_l l3 2) rfl hq2 (px_fac_not (l4 := nt_l l3 1) rfl hq3 hz_47 (by rw [if_pos (show (1 - r3 : Int) = 0 by omega)]; rfl)) (by rw [if_pos (show (1 - r3 : Int) = 0 by omega)]; rfl)) (by rw [if_pos (show (1 - r3 : Int) = 0 by omega)]; rfl)) (by rw [if_pos (show (1 - r3 : Int) = 0 by omega)]; rfl)), hL2_78, (by first | assumption | omega), (by first | omega | (simp only [nt_l, List.length_append, List.length_cons, List.length_nil]; omega)), (by first | assumption | omega)⟩
          · have hq4 : T (((((p + 1) + 1) + 1) + 1)) = 33 := by omega
            have hlt4 := cr_lt hT (by omega) hq4 (by decide)
            refine g_iload_n (pc := 11) hC 2 dX3_readOne_11 rfl rfl ?_
            refine g_iload_n (pc := 12) hC 0 dX3_readOne_12 rfl rfl ?_
            refine g_iadd (pc := 13) hC dX3_readOne_13 ?_
            refine g_st hC [.int (iI (5))] rfl ?_
            refine g_iconst (pc := 14) hC dX3_readOne_14 ?_
            refine g_icmp_ge (pc := 15) hC 34 dX3_readOne_15 (by decide) (by omega) (by omega) (fun c15 => ?_) (fun c15 => by exfalso; omega)
            have hq9 : T (((((p + 1) + 1) + 1) + 1)) = 33 := by omega
            skip
            refine g_aload_n (pc := 34) hC 1 dX3_readOne_34 rfl rfl ?_
            refine g_fnV (pc := 35) (qr := 0) hC [0, 1, 2] (k_X3_sign _ _ _ _ _ _ _ _ _ (by first | assumption | omega) (by first | assumption | omega) (by first | assumption | omega) (by first | assumption | omega) (by first | assumption | omega) (by first | assumption | omega)) cl_X3_sign wm_X3_28 dX3_readOne_35 rfl rfl rfl rfl rfl (by decide) (by decide) ⟨by omega, by omega⟩ (Nat.le_of_ble_eq_true rfl) rfl rfl ?_
            refine g_name hC (fun y99 e_y99 => ?_)
            have q_y99 : -1 ≤ y99 ∧ y99 ≤ 127 := by rw [e_y99]; exact hT.2.2.1 _
            refine g_bipush (pc := 38) hC (40) dX3_readOne_38 (by decide) ?_
            refine g_icmp_ne (pc := 40) hC 53 dX3_readOne_40 (by decide) (by omega) (by omega) (fun c40 => ?_) (fun c40 => by exfalso; omega)
            refine g_aload_n (pc := 53) hC 1 dX3_readOne_53 rfl rfl ?_
            refine g_callV (pc := 54) (qr := 0) hC [0, 1, 2, 3, 4] (k_X3_readTest _ _ _ _ _ _ _ _ _ _ _ _ _ _ (by first | assumption | omega) (by first | assumption | omega) (by first | assumption | omega) (by first | assumption | omega) (by first | assumption | omega) (by first | assumption | omega) (by first | assumption | omega) (by first | assumption | omega) (by first | assumption | omega) (by first | assumption | omega) (by first | assumption | omega) (by first | assumption | omega)) cl_X3_readTest wm_X3_71 dX3_readOne_54 rfl rfl rfl rfl rfl (by decide) (by decide) (by omega) (Nat.le_of_ble_eq_true rfl) rfl (fun v9 w9 hq9 => ?_)
            obtain ⟨r3, p3, nm3, m3, od3, l3, rfl, rfl, r_r3, r_p3, r_nm3, r_m3, r_od3, hz_54, hL2_54, hb_54, hl2_54, hnm2_54⟩ := hq9
            refine g_ws hC [cO g0 3 [.ref g1, .ref g2, .int (iI nm3), .int (iI p3)], cO g1 6 [.ref g3, .int (iI e)], cA K g3 100 sg, cO g2 1 [.ref g4, .int (iI m3), .int (iI rc)], cA K g4 100 od3] rfl ?_
            refine g_st hC [.int (iI r3)] rfl ?_
            refine g_istore_n (pc := 57) hC [(3, _), (2, _), (0, _), (1, _)] dX3_readOne_57 rfl (by decide) rfl ?_
            refine g_iconst (pc := 58) hC dX3_readOne_58 ?_
            refine g_istore (pc := 59) hC [(4, _), (3, _), (2, _), (0, _), (1, _)] dX3_readOne_59 (by decide) rfl ?_
            refine g_iload (pc := 61) hC 0 dX3_readOne_61 rfl ?_
            refine g_iload_n (pc := 63) hC 2 dX3_readOne_63 rfl rfl ?_
            refine g_icmp_ge (pc := 64) hC 87 dX3_readOne_64 (by decide) (by omega) (by omega) (fun c64 => by exfalso; omega) (fun c64 => ?_)
            refine g_iload_n (pc := 67) hC 1 dX3_readOne_67 rfl rfl ?_
            refine g_if_eq (pc := 68) hC 87 dX3_readOne_68 (by decide) (by omega) (fun c68 => ?_) (fun c68 => ?_)
            · refine g_iload_n (pc := 87) hC 1 dX3_readOne_87 rfl rfl ?_
              exact g_zret (pc := 88) hR dX3_readOne_88 rfl (by omega) ⟨by omega, by omega⟩ (Nat.le_of_ble_eq_true rfl) ⟨r3, p3, nm3, m3, od3, l3, rfl, rfl, (by first | assumption | omega), (by first | assumption | omega), (by first | assumption | omega), (by first | assumption | omega), (by first | assumption | omega), (px_fac_not (l4 := l3) rfl hq0 (px_fac_not (l4 := l3) rfl hq1 (px_fac_not (l4 := l3) rfl hq2 (px_fac_not (l4 := l3) rfl hq3 (px_fac_33 rfl hq9 hz_54) (by rw [if_neg (show ¬ (1 - r3 : Int) = 0 by omega)])) (by rw [if_neg (show ¬ (1 - r3 : Int) = 0 by omega)])) (by rw [if_neg (show ¬ (1 - r3 : Int) = 0 by omega)])) (by rw [if_neg (show ¬ (1 - r3 : Int) = 0 by omega)])), hL2_54, (by first | assumption | omega), (by first | assumption | omega), (by first | assumption | omega)⟩
            · refine g_aload_n (pc := 71) hC 3 dX3_readOne_71 rfl rfl ?_
              refine g_get (pc := 72) hC 0 fl_X3_15 dX3_readOne_72 rfl rfl ?_
              refine g_bipush (pc := 75) hC (6) dX3_readOne_75 (by decide) ?_
              refine g_iconst (pc := 77) hC dX3_readOne_77 ?_
              refine g_callV (pc := 78) (qr := 3) hC [3, 4] (k_X1_put _ _ _ _ _ _ _ (nt_l l3 0) (-1) (by first | assumption | omega) (by first | assumption | omega) (by first | assumption | omega) (by first | assumption | omega) (by first | assumption | omega) (by first | omega | (simp only [nt_l, List.length_append, List.length_cons, List.length_nil]; omega)) (by decide +kernel) (by decide)) cl_X1_put wm_X3_61 dX3_readOne_78 rfl rfl rfl rfl rfl (by decide) (by decide) (by omega) (Nat.le_of_ble_eq_true rfl) rfl (fun v9 w9 hq9 => ?_)
              obtain ⟨m4, od4, rfl, rfl, r_m4, r_od4, hL2_78, hm2_78⟩ := hq9
              refine g_ws hC [cO g0 3 [.ref g1, .ref g2, .int (iI nm3), .int (iI p3)], cO g1 6 [.ref g3, .int (iI e)], cA K g3 100 sg, cO g2 1 [.ref g4, .int (iI m4), .int (iI rc)], cA K g4 100 od4] rfl ?_
              refine g_st hC [] rfl ?_
              refine g_iinc (pc := 81) hC 0 [(4, _), (3, _), (2, _), (0, _), (1, _)] dX3_readOne_81 rfl (by decide) rfl ?_
              refine g_lv hC [0, 1, 2, 3, 4] [(4, .int (iI 1)), (3, _), (2, _), (0, _), (1, _)] rfl ?_
              refine g_goto (pc := 84) hC 61 dX3_readOne_84 (by decide) ?_
              refine g_iload (pc := 61) hC 0 dX3_readOne_61 rfl ?_
              refine g_iload_n (pc := 63) hC 2 dX3_readOne_63 rfl rfl ?_
              refine g_icmp_ge (pc := 64) hC 87 dX3_readOne_64 (by decide) (by omega) (by omega) (fun c64 => by exfalso; omega) (fun c64 => ?_)
              refine g_iload_n (pc := 67) hC 1 dX3_readOne_67 rfl rfl ?_
              refine g_if_eq (pc := 68) hC 87 dX3_readOne_68 (by decide) (by omega) (fun c68 => by exfalso; omega) (fun c68 => ?_)
              refine g_aload_n (pc := 71) hC 3 dX3_readOne_71 rfl rfl ?_
              refine g_get (pc := 72) hC 0 fl_X3_15 dX3_readOne_72 rfl rfl ?_
              refine g_bipush (pc := 75) hC (6) dX3_readOne_75 (by decide) ?_
              refine g_iconst (pc := 77) hC dX3_readOne_77 ?_
              refine g_callV (pc := 78) (qr := 3) hC [3, 4] (k_X1_put _ _ _ _ _ _ _ (nt_l l3 1) (-1) (by first | assumption | omega) (by first | assumption | omega) (by first | assumption | omega) (by first | assumption | omega) (by first | assumption | omega) (by first | omega | (simp only [nt_l, List.length_append, List.length_cons, List.length_nil]; omega)) (by decide +kernel) (by decide)) cl_X1_put wm_X3_61 dX3_readOne_78 rfl rfl rfl rfl rfl (by decide) (by decide) (by omega) (Nat.le_of_ble_eq_true rfl) rfl (fun v9 w9 hq9 => ?_)
              obtain ⟨m4, od4, rfl, rfl, r_m4, r_od4, hL2_78, hm2_78⟩ := hq9
              refine g_ws hC [cO g0 3 [.ref g1, .ref g2, .int (iI nm3), .int (iI p3)], cO g1 6 [.ref g3, .int (iI e)], cA K g3 100 sg, cO g2 1 [.ref g4, .int (iI m4), .int (iI rc)], cA K g4 100 od4] rfl ?_
              refine g_st hC [] rfl ?_
              refine g_iinc (pc := 81) hC 0 [(4, _), (3, _), (2, _), (0, _), (1, _)] dX3_readOne_81 rfl (by decide) rfl ?_
              refine g_lv hC [0, 1, 2, 3, 4] [(4, .int (iI 2)), (3, _), (2, _), (0, _), (1, _)] rfl ?_
              refine g_goto (pc := 84) hC 61 dX3_readOne_84 (by decide) ?_
              refine g_iload (pc := 61) hC 0 dX3_readOne_61 rfl ?_
              refine g_iload_n (pc := 63) hC 2 dX3_readOne_63 rfl rfl ?_
              refine g_icmp_ge (pc := 64) hC 87 dX3_readOne_64 (by decide) (by omega) (by omega) (fun c64 => by exfalso; omega) (fun c64 => ?_)
              refine g_iload_n (pc := 67) hC 1 dX3_readOne_67 rfl rfl ?_
              refine g_if_eq (pc := 68) hC 87 dX3_readOne_68 (by decide) (by omega) (fun c68 => by exfalso; omega) (fun c68 => ?_)
              refine g_aload_n (pc := 71) hC 3 dX3_readOne_71 rfl rfl ?_
              refine g_get (pc := 72) hC 0 fl_X3_15 dX3_readOne_72 rfl rfl ?_
              refine g_bipush (pc := 75) hC (6) dX3_readOne_75 (by decide) ?_
              refine g_iconst (pc := 77) hC dX3_readOne_77 ?_
              refine g_callV (pc := 78) (qr := 3) hC [3, 4] (k_X1_put _ _ _ _ _ _ _ (nt_l l3 2) (-1) (by first | assumption | omega) (by first | assumption | omega) (by first | assumption | omega) (by first | assumption | omega) (by first | assumption | omega) (by first | omega | (simp only [nt_l, List.length_append, List.length_cons, List.length_nil]; omega)) (by decide +kernel) (by decide)) cl_X1_put wm_X3_61 dX3_readOne_78 rfl rfl rfl rfl rfl (by decide) (by decide) (by omega) (Nat.le_of_ble_eq_true rfl) rfl (fun v9 w9 hq9 => ?_)
              obtain ⟨m4, od4, rfl, rfl, r_m4, r_od4, hL2_78, hm2_78⟩ := hq9
              refine g_ws hC [cO g0 3 [.ref g1, .ref g2, .int (iI nm3), .int (iI p3)], cO g1 6 [.ref g3, .int (iI e)], cA K g3 100 sg, cO g2 1 [.ref g4, .int (iI m4), .int (iI rc)], cA K g4 100 od4] rfl ?_
              refine g_st hC [] rfl ?_
              refine g_iinc (pc := 81) hC 0 [(4, _), (3, _), (2, _), (0, _), (1, _)] dX3_readOne_81 rfl (by decide) rfl ?_
              refine g_lv hC [0, 1, 2, 3, 4] [(4, .int (iI 3)), (3, _), (2, _), (0, _), (1, _)] rfl ?_
              refine g_goto (pc := 84) hC 61 dX3_readOne_84 (by decide) ?_
              refine g_iload (pc := 61) hC 0 dX3_readOne_61 rfl ?_
              refine g_iload_n (pc := 63) hC 2 dX3_readOne_63 rfl rfl ?_
              refine g_icmp_ge (pc := 64) hC 87 dX3_readOne_64 (by decide) (by omega) (by omega) (fun c64 => by exfalso; omega) (fun c64 => ?_)
              refine g_iload_n (pc := 67) hC 1 dX3_readOne_67 rfl rfl ?_
              refine g_if_eq (pc := 68) hC 87 dX3_readOne_68 (by decide) (by omega) (fun c68 => by exfalso; omega) (fun c68 => ?_)
              refine g_aload_n (pc := 71) hC 3 dX3_readOne_71 rfl rfl ?_
              refine g_get (pc := 72) hC 0 fl_X3_15 dX3_readOne_72 rfl rfl ?_
              refine g_bipush (pc := 75) hC (6) dX3_readOne_75 (by decide) ?_
              refine g_iconst (pc := 77) hC dX3_readOne_77 ?_
              refine g_callV (pc := 78) (qr := 3) hC [3, 4] (k_X1_put _ _ _ _ _ _ _ (nt_l l3 3) (-1) (by first | assumption | omega) (by first | assumption | omega) (by first | assumption | omega) (by first | assumption | omega) (by first | assumption | omega) (by first | omega | (simp only [nt_l, List.length_append, List.length_cons, List.length_nil]; omega)) (by decide +kernel) (by decide)) cl_X1_put wm_X3_61 dX3_readOne_78 rfl rfl rfl rfl rfl (by decide) (by decide) (by omega) (Nat.le_of_ble_eq_true rfl) rfl (fun v9 w9 hq9 => ?_)
              obtain ⟨m4, od4, rfl, rfl, r_m4, r_od4, hL2_78, hm2_78⟩ := hq9
              refine g_ws hC [cO g0 3 [.ref g1, .ref g2, .int (iI nm3), .int (iI p3)], cO g1 6 [.ref g3, .int (iI e)], cA K g3 100 sg, cO g2 1 [.ref g4, .int (iI m4), .int (iI rc)], cA K g4 100 od4] rfl ?_
              refine g_st hC [] rfl ?_
              refine g_iinc (pc := 81) hC 0 [(4, _), (3, _), (2, _), (0, _), (1, _)] dX3_readOne_81 rfl (by decide) rfl ?_
              refine g_lv hC [0, 1, 2, 3, 4] [(4, .int (iI 4)), (3, _), (2, _), (0, _), (1, _)] rfl ?_
              refine g_goto (pc := 84) hC 61 dX3_readOne_84 (by decide) ?_
              refine g_iload (pc := 61) hC 0 dX3_readOne_61 rfl ?_
              refine g_iload_n (pc := 63) hC 2 dX3_readOne_63 rfl rfl ?_
              refine g_icmp_ge (pc := 64) hC 87 dX3_readOne_64 (by decide) (by omega) (by omega) (fun c64 => ?_) (fun c64 => by exfalso; omega)
              refine g_iload_n (pc := 87) hC 1 dX3_readOne_87 rfl rfl ?_
              exact g_zret (pc := 88) hR dX3_readOne_88 rfl (by omega) ⟨by omega, by omega⟩ (Nat.le_of_ble_eq_true rfl) ⟨r3, p3, nm3, m4, od4, (nt_l l3 4), rfl, rfl, (by first | assumption | omega), (by first | assumption | omega), (by first | assumption | omega), (by first | assumption | omega), (by first | assumption | omega), (px_fac_not (l4 := nt_l l3 4) rfl hq0 (px_fac_not (l4 := nt_l l3 3) rfl hq1 (px_fac_not (l4 := nt_l l3 2) rfl hq2 (px_fac_not (l4 := nt_l l3 1) rfl hq3 (px_fac_33 rfl hq9 hz_54) (by rw [if_pos (show (1 - r3 : Int) = 0 by omega)]; rfl)) (by rw [if_pos (show (1 - r3 : Int) = 0 by omega)]; rfl)) (by rw [if_pos (show (1 - r3 : Int) = 0 by omega)]; rfl)) (by rw [if_pos (show (1 - r3 : Int) = 0 by omega)]; rfl)), hL2_78, (by first | assumption | omega), (by first | omega | (simp only [nt_l, List.length_append, List.length_cons, List.length_nil]; omega)), (by first | assumption | omega)⟩
set_option maxHeartbeats 4000000 in
set_option maxRecDepth 100000 in
theorem k_X3_readEither_1 {K : gK} (g0 : Nat) (g1 : Nat) (g2 : Nat) (g3 : Nat) (g4 : Nat) (nm : Int) (p : Int) (e : Int) (m : Int) (rc : Int) (sg : Int → Int) (od : Int → Int) (T : Int → Int) (l : List Int) (r_nm : rI nm) (r_p : rI p) (r_e : rI e) (r_m : rI m) (r_rc : rI rc) (r_sg : ∀ j, rI (sg j)) (r_od : ∀ j, rI (od j)) (hT : cr_T T e sg) (hp : 0 ≤ p ∧ p ≤ e) (hL : cr_L l od m) (hl : (l.length : Int) ≤ p) (hnm : 0 ≤ nm ∧ nm ≤ 99) : gMet K yX3_readEither cX3_readEither 5 (some .boolean) 20 0 0 [.ref g0, .int (iI 1)] [cO g0 3 [.ref g1, .ref g2, .int (iI nm), .int (iI p)], cO g1 6 [.ref g3, .int (iI e)], cA K g3 100 sg, cO g2 1 [.ref g4, .int (iI m), .int (iI rc)], cA K g4 100 od] (fun v9 w9 => ∃ (r : Int), ∃ (p2 : Int), ∃ (nm2 : Int), ∃ (m2 : Int), ∃ (od2 : Int → Int), ∃ (l2 : List Int), v9 = some (.int (iI r)) ∧ w9 = [cO g0 3 [.ref g1, .ref g2, .int (iI nm2), .int (iI p2)], cO g1 6 [.ref g3, .int (iI e)], cA K g3 100 sg, cO g2 1 [.ref g4, .int (iI m2), .int (iI rc)], cA K g4 100 od2] ∧ rI r ∧ rI p2 ∧ rI nm2 ∧ rI m2 ∧ (∀ j, rI (od2 j)) ∧ ((1 - r, p2, l2) = px_some T (px_fac T 4) (0, p, l)) ∧ (cr_L l2 od2 m2) ∧ ((r = 0 ∨ r = 1) ∧ p ≤ p2 ∧ p2 ≤ e ∧ (r = 1 → p < p2)) ∧ ((l2.length : Int) + p ≤ (l.length : Int) + p2) ∧ (0 ≤ nm2 ∧ nm2 ≤ 99)) := by
  refine g_enter (by decide +kernel) (Nat.le_of_ble_eq_true rfl) (fun G hC hR => ?_)
  refine g_lv hC [0, 1] [(0, _), (1, _)] rfl ?_
  have hge := hT.1
  refine g_iconst (pc := 0) hC dX3_readEither_0 ?_
  refine g_istore_n (pc := 1) hC [(2, _), (0, _), (1, _)] dX3_readEither_1 rfl (by decide) rfl ?_
  refine g_iconst (pc := 2) hC dX3_readEither_2 ?_
  refine g_istore_n (pc := 3) hC [(3, _), (2, _), (0, _), (1, _)] dX3_readEither_3 rfl (by decide) rfl ?_
  refine g_iconst (pc := 4) hC dX3_readEither_4 ?_
  refine g_istore (pc := 5) hC [(4, _), (3, _), (2, _), (0, _), (1, _)] dX3_readEither_5 (by decide) rfl ?_
  have L7 : ∀ (n1 : Nat) (an : Int) (o : Int) (pt : Int) (p1 : Int) (nm1 : Int) (m1 : Int) (od1 : Int → Int) (l1 : List Int) (f1 : Nat) (f2 : Nat), (rI an) → (rI o) → (rI pt) → (rI p1) → (rI nm1) → (rI m1) → (∀ j, rI (od1 j)) → (px_SO T (px_fac T 4) o f2 (px_ev T (px_fac T 4) f1 (px_AN an ((px_fac T 4) (0, p1, l1)))) = px_some T (px_fac T 4) (0, p, l)) → (cr_L l1 od1 m1) → ((an = 0 ∨ an = 1) ∧ (o = 0 ∨ o = 1) ∧ 0 ≤ pt ∧ p + 2 * pt ≤ p1 ∧ p1 ≤ e) → ((l1.length : Int) + p + an + o ≤ (l.length : Int) + p1) → (e - p1 ≤ (f1 : Int)) → (e - p1 ≤ (f2 : Int)) → (0 ≤ nm1 ∧ nm1 ≤ 99) → e - p1 < (n1 : Int) → G 0 0 7 [(0, .ref g0), (1, .int (iI 1)), (2, .int (iI an)), (3, .int (iI o)), (4, .int (iI pt))] [] [cO g0 3 [.ref g1, .ref g2, .int (iI nm1), .int (iI p1)], cO g1 6 [.ref g3, .int (iI e)], cA K g3 100 sg, cO g2 1 [.ref g4, .int (iI m1), .int (iI rc)], cA K g4 100 od1] := by
    intro n1
    induction n1 with
    | zero => intro an o pt p1 nm1 m1 od1 l1 f1 f2 r_an r_o r_pt r_p1 r_nm1 r_m1 r_od1 hz hL1 hb1 hl1 hf1 hf2 hnm1 hm7; exfalso; omega
    | succ n1 ih7 =>
      intro an o pt p1 nm1 m1 od1 l1 f1 f2 r_an r_o r_pt r_p1 r_nm1 r_m1 r_od1 hz hL1 hb1 hl1 hf1 hf2 hnm1 hm7
      refine g_iload (pc := 7) hC 4 dX3_readEither_7 rfl ?_
      refine g_bipush (pc := 9) hC (100) dX3_readEither_9 (by decide) ?_
      refine g_icmp_ge (pc := 11) hC 108 dX3_readEither_11 (by decide) (by omega) (by omega) (fun c11 => by exfalso; omega) (fun c11 => ?_)
      refine g_aload_n (pc := 14) hC 0 dX3_readEither_14 rfl rfl ?_
      refine g_iload_n (pc := 15) hC 1 dX3_readEither_15 rfl rfl ?_
      refine g_callV (pc := 16) (qr := 0) hC [0, 1, 2, 3, 4] (k_X3_readOne_1 _ _ _ _ _ _ _ _ _ _ _ _ _ _ (by first | assumption | omega) (by first | assumption | omega) (by first | assumption | omega) (by first | assumption | omega) (by first | assumption | omega) (by first | assumption | omega) (by first | assumption | omega) (by first | assumption | omega) (by first | assumption | omega) (by first | assumption | omega) (by first | assumption | omega) (by first | assumption | omega)) cl_X3_readOne wm_X3_65 dX3_readEither_16 rfl rfl rfl rfl rfl (by decide) (by decide) (by omega) (Nat.le_of_ble_eq_true rfl) rfl (fun v9 w9 hq9 => ?_)
      obtain ⟨r3, p3, nm3, m3, od3, l3, rfl, rfl, r_r3, r_p3, r_nm3, r_m3, r_od3, hz_16, hL2_16, hb_16, hl2_16, hnm2_16⟩ := hq9
      refine g_ws hC [cO g0 3 [.ref g1, .ref g2, .int (iI nm3), .int (iI p3)], cO g1 6 [.ref g3, .int (iI e)], cA K g3 100 sg, cO g2 1 [.ref g4, .int (iI m3), .int (iI rc)], cA K g4 100 od3] rfl ?_
      refine g_st hC [.int (iI r3)] rfl ?_
      refine g_if_ne (pc := 19) hC 24 dX3_readEither_19 (by decide) (by omega) (fun c19 => ?_) (fun c19 => ?_)
      · refine g_iload_n (pc := 24) hC 2 dX3_readEither_24 rfl rfl ?_
        refine g_if_eq (pc := 25) hC 38 dX3_readEither_25 (by decide) (by omega) (fun c25 => ?_) (fun c25 => ?_)
        · refine g_aload_n (pc := 38) hC 0 dX3_readEither_38 rfl rfl ?_
          refine g_fnV (pc := 39) (qr := 0) hC [0, 1, 2] (k_X3_sign _ _ _ _ _ _ _ _ _ (by first | assumption | omega) (by first | assumption | omega) (by first | assumption | omega) (by first | assumption | omega) (by first | assumption | omega) (by first | assumption | omega)) cl_X3_sign wm_X3_28 dX3_readEither_39 rfl rfl rfl rfl rfl (by decide) (by decide) ⟨by omega, by omega⟩ (Nat.le_of_ble_eq_true rfl) rfl rfl ?_
          refine g_name hC (fun y39 e_y39 => ?_)
          have q_y39 : -1 ≤ y39 ∧ y39 ≤ 127 := by rw [e_y39]; exact hT.2.2.1 _
          refine g_bipush (pc := 42) hC (38) dX3_readEither_42 (by decide) ?_
          refine g_icmp_ne (pc := 44) hC 51 dX3_readEither_44 (by decide) (by omega) (by omega) (fun c44 => ?_) (fun c44 => ?_)
          · refine g_iconst (pc := 51) hC dX3_readEither_51 ?_
            refine g_istore_n (pc := 52) hC [(2, _), (0, _), (1, _), (3, _), (4, _)] dX3_readEither_52 rfl (by decide) rfl ?_
            refine g_iload_n (pc := 53) hC 0 dX3_readEither_53 rfl rfl ?_
            refine g_if_ne (pc := 54) hC 92 dX3_readEither_54 (by decide) (by omega) (fun c54 => by exfalso; omega) (fun c54 => ?_)
            refine g_iload_n (pc := 57) hC 3 dX3_readEither_57 rfl rfl ?_
            refine g_if_eq (pc := 58) hC 71 dX3_readEither_58 (by decide) (by omega) (fun c58 => ?_) (fun c58 => ?_)
            · refine g_aload_n (pc := 71) hC 1 dX3_readEither_71 rfl rfl ?_
              refine g_fnV (pc := 72) (qr := 0) hC [0, 1, 2] (k_X3_sign _ _ _ _ _ _ _ _ _ (by first | assumption | omega) (by first | assumption | omega) (by first | assumption | omega) (by first | assumption | omega) (by first | assumption | omega) (by first | assumption | omega)) cl_X3_sign wm_X3_28 dX3_readEither_72 rfl rfl rfl rfl rfl (by decide) (by decide) ⟨by omega, by omega⟩ (Nat.le_of_ble_eq_true rfl) rfl rfl ?_
              refine g_name hC (fun y72 e_y72 => ?_)
              have q_y72 : -1 ≤ y72 ∧ y72 ≤ 127 := by rw [e_y72]; exact hT.2.2.1 _
              refine g_bipush (pc := 75) hC (124) dX3_readEither_75 (by decide) ?_
              refine g_icmp_ne (pc := 77) hC 84 dX3_readEither_77 (by decide) (by omega) (by omega) (fun c77 => ?_) (fun c77 => ?_)
              · refine g_iconst (pc := 84) hC dX3_readEither_84 ?_
                refine g_istore_n (pc := 85) hC [(3, _), (2, _), (0, _), (1, _), (4, _)] dX3_readEither_85 rfl (by decide) rfl ?_
                refine g_iload_n (pc := 86) hC 0 dX3_readEither_86 rfl rfl ?_
                refine g_if_ne (pc := 87) hC 92 dX3_readEither_87 (by decide) (by omega) (fun c87 => by exfalso; omega) (fun c87 => ?_)
                refine g_iconst (pc := 90) hC dX3_readEither_90 ?_
                exact g_zret (pc := 91) hR dX3_readEither_91 rfl (by omega) ⟨by omega, by omega⟩ (Nat.le_of_ble_eq_true rfl) ⟨1, p3, nm3, m3, od3, l3, rfl, rfl, (by first | assumption | omega), (by first | assumption | omega), (by first | assumption | omega), (by first | assumption | omega), (by first | assumption | omega), (px_E_end hz (by omega) hz_16 (by rw [if_pos (by omega)]) (by rw [if_pos (by omega)]) (by omega) (by omega)), hL2_16, (by first | assumption | omega), (by first | omega | (simp only [nt_l, List.length_append, List.length_cons, List.length_nil]; omega)), (by first | assumption | omega)⟩
              · have hlt := cr_lt hT (show 0 ≤ p3 by omega) (show T p3 = 124 by omega) (by decide)
                obtain ⟨q2, rfl⟩ : ∃ q2, f2 = q2 + 1 := ⟨f2 - 1, by omega⟩
                refine g_iconst (pc := 80) hC dX3_readEither_80 ?_
                refine g_goto (pc := 81) hC 85 dX3_readEither_81 (by decide) ?_
                refine g_istore_n (pc := 85) hC [(3, _), (2, _), (0, _), (1, _), (4, _)] dX3_readEither_85 rfl (by decide) rfl ?_
                refine g_iload_n (pc := 86) hC 0 dX3_readEither_86 rfl rfl ?_
                refine g_if_ne (pc := 87) hC 92 dX3_readEither_87 (by decide) (by omega) (fun c87 => ?_) (fun c87 => by exfalso; omega)
                refine g_aload_n (pc := 92) hC 2 dX3_readEither_92 rfl rfl ?_
                refine g_dup (pc := 93) hC dX3_readEither_93 rfl ?_
                refine g_get (pc := 94) hC 0 fl_X3_32 dX3_readEither_94 rfl rfl ?_
                refine g_iconst (pc := 97) hC dX3_readEither_97 ?_
                refine g_iadd (pc := 98) hC dX3_readEither_98 ?_
                refine g_putI (pc := 99) hC 0 [cO _ _ [_, _, _, _], _, _, _, _] fl_X3_32 dX3_readEither_99 rfl (Nat.le_of_ble_eq_true rfl) rfl ?_
                refine g_iinc (pc := 102) hC 4 [(4, _), (3, _), (2, _), (0, _), (1, _)] dX3_readEither_102 rfl (by decide) rfl ?_
                refine g_goto (pc := 105) hC 7 dX3_readEither_105 (by decide) ?_
                refine g_lv hC [3, 4, 2, 1, 0] [(0, _), (1, _), (2, _), (3, _), (4, _)] rfl ?_
                exact ih7 0 1 (pt + 1) (p3 + 1) nm3 m3 od3 l3 101 q2 (by first | assumption | omega) (by first | assumption | omega) (by first | assumption | omega) (by first | assumption | omega) (by first | assumption | omega) (by first | assumption | omega) (by first | assumption | omega) (px_E_or hz (by omega) hz_16 (by rw [if_pos (by omega)]) (by rw [if_pos (by omega)]) (by omega) (by omega)) hL2_16 (by first | assumption | omega) (by first | omega | (simp only [nt_l, List.length_append, List.length_cons, List.length_nil]; omega)) (by first | assumption | omega) (by first | assumption | omega) (by first | assumption | omega) (by omega)
            · refine g_aload_n (pc := 61) hC 1 dX3_readEither_61 rfl rfl ?_
              refine g_get (pc := 62) hC 0 fl_X3_15 dX3_readEither_62 rfl rfl ?_
              refine g_bipush (pc := 65) hC (8) dX3_readEither_65 (by decide) ?_
              refine g_iconst (pc := 67) hC dX3_readEither_67 ?_
              refine g_callV (pc := 68) (qr := 3) hC [3, 4] (k_X1_put _ _ _ _ _ _ _ l3 (-3) (by first | assumption | omega) (by first | assumption | omega) (by first | assumption | omega) (by first | assumption | omega) (by first | assumption | omega) (by first | omega | (simp only [nt_l, List.length_append, List.length_cons, List.length_nil]; omega)) (by decide +kernel) (by decide)) cl_X1_put wm_X3_61 dX3_readEither_68 rfl rfl rfl rfl rfl (by decide) (by decide) (by omega) (Nat.le_of_ble_eq_true rfl) rfl (fun v9 w9 hq9 => ?_)
              obtain ⟨m6, od6, rfl, rfl, r_m6, r_od6, hL2_68, hm2_68⟩ := hq9
              refine g_ws hC [cO g0 3 [.ref g1, .ref g2, .int (iI nm3), .int (iI p3)], cO g1 6 [.ref g3, .int (iI e)], cA K g3 100 sg, cO g2 1 [.ref g4, .int (iI m6), .int (iI rc)], cA K g4 100 od6] rfl ?_
              refine g_st hC [] rfl ?_
              refine g_aload_n (pc := 71) hC 1 dX3_readEither_71 rfl rfl ?_
              refine g_fnV (pc := 72) (qr := 0) hC [0, 1, 2] (k_X3_sign _ _ _ _ _ _ _ _ _ (by first | assumption | omega) (by first | assumption | omega) (by first | assumption | omega) (by first | assumption | omega) (by first | assumption | omega) (by first | assumption | omega)) cl_X3_sign wm_X3_28 dX3_readEither_72 rfl rfl rfl rfl rfl (by decide) (by decide) ⟨by omega, by omega⟩ (Nat.le_of_ble_eq_true rfl) rfl rfl ?_
              refine g_name hC (fun y72 e_y72 => ?_)
              have q_y72 : -1 ≤ y72 ∧ y72 ≤ 127 := by rw [e_y72]; exact hT.2.2.1 _
              refine g_bipush (pc := 75) hC (124) dX3_readEither_75 (by decide) ?_
              refine g_icmp_ne (pc := 77) hC 84 dX3_readEither_77 (by decide) (by omega) (by omega) (fun c77 => ?_) (fun c77 => ?_)
              · refine g_iconst (pc := 84) hC dX3_readEither_84 ?_
                refine g_istore_n (pc := 85) hC [(3, _), (2, _), (0, _), (1, _), (4, _)] dX3_readEither_85 rfl (by decide) rfl ?_
                refine g_iload_n (pc := 86) hC 0 dX3_readEither_86 rfl rfl ?_
                refine g_if_ne (pc := 87) hC 92 dX3_readEither_87 (by decide) (by omega) (fun c87 => by exfalso; omega) (fun c87 => ?_)
                refine g_iconst (pc := 90) hC dX3_readEither_90 ?_
                exact g_zret (pc := 91) hR dX3_readEither_91 rfl (by omega) ⟨by omega, by omega⟩ (Nat.le_of_ble_eq_true rfl) ⟨1, p3, nm3, m6, od6, (l3 ++ [-3]), rfl, rfl, (by first | assumption | omega), (by first | assumption | omega), (by first | assumption | omega), (by first | assumption | omega), (by first | assumption | omega), (px_E_end hz (by omega) hz_16 (by rw [if_pos (by omega)]) (by rw [if_neg (by omega)]) (by omega) (by omega)), hL2_68, (by first | assumption | omega), (by first | omega | (simp only [nt_l, List.length_append, List.length_cons, List.length_nil]; omega)), (by first | assumption | omega)⟩
              · have hlt := cr_lt hT (show 0 ≤ p3 by omega) (show T p3 = 124 by omega) (by decide)
                obtain ⟨q2, rfl⟩ : ∃ q2, f2 = q2 + 1 := ⟨f2 - 1, by omega⟩
                refine g_iconst (pc := 80) hC dX3_readEither_80 ?_
                refine g_goto (pc := 81) hC 85 dX3_readEither_81 (by decide) ?_
                refine g_istore_n (pc := 85) hC [(3, _), (2, _), (0, _), (1, _), (4, _)] dX3_readEither_85 rfl (by decide) rfl ?_
                refine g_iload_n (pc := 86) hC 0 dX3_readEither_86 rfl rfl ?_
                refine g_if_ne (pc := 87) hC 92 dX3_readEither_87 (by decide) (by omega) (fun c87 => ?_) (fun c87 => by exfalso; omega)
                refine g_aload_n (pc := 92) hC 2 dX3_readEither_92 rfl rfl ?_
                refine g_dup (pc := 93) hC dX3_readEither_93 rfl ?_
                refine g_get (pc := 94) hC 0 fl_X3_32 dX3_readEither_94 rfl rfl ?_
                refine g_iconst (pc := 97) hC dX3_readEither_97 ?_
                refine g_iadd (pc := 98) hC dX3_readEither_98 ?_
                refine g_putI (pc := 99) hC 0 [cO _ _ [_, _, _, _], _, _, _, _] fl_X3_32 dX3_readEither_99 rfl (Nat.le_of_ble_eq_true rfl) rfl ?_
                refine g_iinc (pc := 102) hC 4 [(4, _), (3, _), (2, _), (0, _), (1, _)] dX3_readEither_102 rfl (by decide) rfl ?_
                refine g_goto (pc := 105) hC 7 dX3_readEither_105 (by decide) ?_
                refine g_lv hC [3, 4, 2, 1, 0] [(0, _), (1, _), (2, _), (3, _), (4, _)] rfl ?_
                exact ih7 0 1 (pt + 1) (p3 + 1) nm3 m6 od6 (l3 ++ [-3]) 101 q2 (by first | assumption | omega) (by first | assumption | omega) (by first | assumption | omega) (by first | assumption | omega) (by first | assumption | omega) (by first | assumption | omega) (by first | assumption | omega) (px_E_or hz (by omega) hz_16 (by rw [if_pos (by omega)]) (by rw [if_neg (by omega)]) (by omega) (by omega)) hL2_68 (by first | assumption | omega) (by first | omega | (simp only [nt_l, List.length_append, List.length_cons, List.length_nil]; omega)) (by first | assumption | omega) (by first | assumption | omega) (by first | assumption | omega) (by omega)
          · have hlt := cr_lt hT (show 0 ≤ p3 by omega) (show T p3 = 38 by omega) (by decide)
            obtain ⟨q1, rfl⟩ : ∃ q1, f1 = q1 + 1 := ⟨f1 - 1, by omega⟩
            refine g_iconst (pc := 47) hC dX3_readEither_47 ?_
            refine g_goto (pc := 48) hC 52 dX3_readEither_48 (by decide) ?_
            refine g_istore_n (pc := 52) hC [(2, _), (0, _), (1, _), (3, _), (4, _)] dX3_readEither_52 rfl (by decide) rfl ?_
            refine g_iload_n (pc := 53) hC 0 dX3_readEither_53 rfl rfl ?_
            refine g_if_ne (pc := 54) hC 92 dX3_readEither_54 (by decide) (by omega) (fun c54 => ?_) (fun c54 => by exfalso; omega)
            refine g_aload_n (pc := 92) hC 1 dX3_readEither_92 rfl rfl ?_
            refine g_dup (pc := 93) hC dX3_readEither_93 rfl ?_
            refine g_get (pc := 94) hC 0 fl_X3_32 dX3_readEither_94 rfl rfl ?_
            refine g_iconst (pc := 97) hC dX3_readEither_97 ?_
            refine g_iadd (pc := 98) hC dX3_readEither_98 ?_
            refine g_putI (pc := 99) hC 0 [cO _ _ [_, _, _, _], _, _, _, _] fl_X3_32 dX3_readEither_99 rfl (Nat.le_of_ble_eq_true rfl) rfl ?_
            refine g_iinc (pc := 102) hC 4 [(4, _), (2, _), (0, _), (1, _), (3, _)] dX3_readEither_102 rfl (by decide) rfl ?_
            refine g_goto (pc := 105) hC 7 dX3_readEither_105 (by decide) ?_
            refine g_lv hC [2, 3, 1, 4, 0] [(0, _), (1, _), (2, _), (3, _), (4, _)] rfl ?_
            exact ih7 1 o (pt + 1) (p3 + 1) nm3 m3 od3 l3 q1 f2 (by first | assumption | omega) (by first | assumption | omega) (by first | assumption | omega) (by first | assumption | omega) (by first | assumption | omega) (by first | assumption | omega) (by first | assumption | omega) (px_E_and hz (by omega) hz_16 (by rw [if_pos (by omega)]) (by omega)) hL2_16 (by first | assumption | omega) (by first | omega | (simp only [nt_l, List.length_append, List.length_cons, List.length_nil]; omega)) (by first | assumption | omega) (by first | assumption | omega) (by first | assumption | omega) (by omega)
        · refine g_aload_n (pc := 28) hC 0 dX3_readEither_28 rfl rfl ?_
          refine g_get (pc := 29) hC 0 fl_X3_15 dX3_readEither_29 rfl rfl ?_
          refine g_bipush (pc := 32) hC (7) dX3_readEither_32 (by decide) ?_
          refine g_iconst (pc := 34) hC dX3_readEither_34 ?_
          refine g_callV (pc := 35) (qr := 3) hC [3, 4] (k_X1_put _ _ _ _ _ _ _ l3 (-2) (by first | assumption | omega) (by first | assumption | omega) (by first | assumption | omega) (by first | assumption | omega) (by first | assumption | omega) (by first | assumption | omega) (by decide +kernel) (by decide)) cl_X1_put wm_X3_61 dX3_readEither_35 rfl rfl rfl rfl rfl (by decide) (by decide) (by omega) (Nat.le_of_ble_eq_true rfl) rfl (fun v9 w9 hq9 => ?_)
          obtain ⟨m4, od4, rfl, rfl, r_m4, r_od4, hL2_35, hm2_35⟩ := hq9
          refine g_ws hC [cO g0 3 [.ref g1, .ref g2, .int (iI nm3), .int (iI p3)], cO g1 6 [.ref g3, .int (iI e)], cA K g3 100 sg, cO g2 1 [.ref g4, .int (iI m4), .int (iI rc)], cA K g4 100 od4] rfl ?_
          refine g_st hC [] rfl ?_
          refine g_aload_n (pc := 38) hC 0 dX3_readEither_38 rfl rfl ?_
          refine g_fnV (pc := 39) (qr := 0) hC [0, 1, 2] (k_X3_sign _ _ _ _ _ _ _ _ _ (by first | assumption | omega) (by first | assumption | omega) (by first | assumption | omega) (by first | assumption | omega) (by first | assumption | omega) (by first | assumption | omega)) cl_X3_sign wm_X3_28 dX3_readEither_39 rfl rfl rfl rfl rfl (by decide) (by decide) ⟨by omega, by omega⟩ (Nat.le_of_ble_eq_true rfl) rfl rfl ?_
          refine g_name hC (fun y39 e_y39 => ?_)
          have q_y39 : -1 ≤ y39 ∧ y39 ≤ 127 := by rw [e_y39]; exact hT.2.2.1 _
          refine g_bipush (pc := 42) hC (38) dX3_readEither_42 (by decide) ?_
          refine g_icmp_ne (pc := 44) hC 51 dX3_readEither_44 (by decide) (by omega) (by omega) (fun c44 => ?_) (fun c44 => ?_)
          · refine g_iconst (pc := 51) hC dX3_readEither_51 ?_
            refine g_istore_n (pc := 52) hC [(2, _), (0, _), (1, _), (3, _), (4, _)] dX3_readEither_52 rfl (by decide) rfl ?_
            refine g_iload_n (pc := 53) hC 0 dX3_readEither_53 rfl rfl ?_
            refine g_if_ne (pc := 54) hC 92 dX3_readEither_54 (by decide) (by omega) (fun c54 => by exfalso; omega) (fun c54 => ?_)
            refine g_iload_n (pc := 57) hC 3 dX3_readEither_57 rfl rfl ?_
            refine g_if_eq (pc := 58) hC 71 dX3_readEither_58 (by decide) (by omega) (fun c58 => ?_) (fun c58 => ?_)
            · refine g_aload_n (pc := 71) hC 1 dX3_readEither_71 rfl rfl ?_
              refine g_fnV (pc := 72) (qr := 0) hC [0, 1, 2] (k_X3_sign _ _ _ _ _ _ _ _ _ (by first | assumption | omega) (by first | assumption | omega) (by first | assumption | omega) (by first | assumption | omega) (by first | assumption | omega) (by first | assumption | omega)) cl_X3_sign wm_X3_28 dX3_readEither_72 rfl rfl rfl rfl rfl (by decide) (by decide) ⟨by omega, by omega⟩ (Nat.le_of_ble_eq_true rfl) rfl rfl ?_
              refine g_name hC (fun y72 e_y72 => ?_)
              have q_y72 : -1 ≤ y72 ∧ y72 ≤ 127 := by rw [e_y72]; exact hT.2.2.1 _
              refine g_bipush (pc := 75) hC (124) dX3_readEither_75 (by decide) ?_
              refine g_icmp_ne (pc := 77) hC 84 dX3_readEither_77 (by decide) (by omega) (by omega) (fun c77 => ?_) (fun c77 => ?_)
              · refine g_iconst (pc := 84) hC dX3_readEither_84 ?_
                refine g_istore_n (pc := 85) hC [(3, _), (2, _), (0, _), (1, _), (4, _)] dX3_readEither_85 rfl (by decide) rfl ?_
                refine g_iload_n (pc := 86) hC 0 dX3_readEither_86 rfl rfl ?_
                refine g_if_ne (pc := 87) hC 92 dX3_readEither_87 (by decide) (by omega) (fun c87 => by exfalso; omega) (fun c87 => ?_)
                refine g_iconst (pc := 90) hC dX3_readEither_90 ?_
                exact g_zret (pc := 91) hR dX3_readEither_91 rfl (by omega) ⟨by omega, by omega⟩ (Nat.le_of_ble_eq_true rfl) ⟨1, p3, nm3, m4, od4, (l3 ++ [-2]), rfl, rfl, (by first | assumption | omega), (by first | assumption | omega), (by first | assumption | omega), (by first | assumption | omega), (by first | assumption | omega), (px_E_end hz (by omega) hz_16 (by rw [if_neg (by omega)]) (by rw [if_pos (by omega)]) (by omega) (by omega)), hL2_35, (by first | assumption | omega), (by first | omega | (simp only [nt_l, List.length_append, List.length_cons, List.length_nil]; omega)), (by first | assumption | omega)⟩
              · have hlt := cr_lt hT (show 0 ≤ p3 by omega) (show T p3 = 124 by omega) (by decide)
                obtain ⟨q2, rfl⟩ : ∃ q2, f2 = q2 + 1 := ⟨f2 - 1, by omega⟩
                refine g_iconst (pc := 80) hC dX3_readEither_80 ?_
                refine g_goto (pc := 81) hC 85 dX3_readEither_81 (by decide) ?_
                refine g_istore_n (pc := 85) hC [(3, _), (2, _), (0, _), (1, _), (4, _)] dX3_readEither_85 rfl (by decide) rfl ?_
                refine g_iload_n (pc := 86) hC 0 dX3_readEither_86 rfl rfl ?_
                refine g_if_ne (pc := 87) hC 92 dX3_readEither_87 (by decide) (by omega) (fun c87 => ?_) (fun c87 => by exfalso; omega)
                refine g_aload_n (pc := 92) hC 2 dX3_readEither_92 rfl rfl ?_
                refine g_dup (pc := 93) hC dX3_readEither_93 rfl ?_
                refine g_get (pc := 94) hC 0 fl_X3_32 dX3_readEither_94 rfl rfl ?_
                refine g_iconst (pc := 97) hC dX3_readEither_97 ?_
                refine g_iadd (pc := 98) hC dX3_readEither_98 ?_
                refine g_putI (pc := 99) hC 0 [cO _ _ [_, _, _, _], _, _, _, _] fl_X3_32 dX3_readEither_99 rfl (Nat.le_of_ble_eq_true rfl) rfl ?_
                refine g_iinc (pc := 102) hC 4 [(4, _), (3, _), (2, _), (0, _), (1, _)] dX3_readEither_102 rfl (by decide) rfl ?_
                refine g_goto (pc := 105) hC 7 dX3_readEither_105 (by decide) ?_
                refine g_lv hC [3, 4, 2, 1, 0] [(0, _), (1, _), (2, _), (3, _), (4, _)] rfl ?_
                exact ih7 0 1 (pt + 1) (p3 + 1) nm3 m4 od4 (l3 ++ [-2]) 101 q2 (by first | assumption | omega) (by first | assumption | omega) (by first | assumption | omega) (by first | assumption | omega) (by first | assumption | omega) (by first | assumption | omega) (by first | assumption | omega) (px_E_or hz (by omega) hz_16 (by rw [if_neg (by omega)]) (by rw [if_pos (by omega)]) (by omega) (by omega)) hL2_35 (by first | assumption | omega) (by first | omega | (simp only [nt_l, List.length_append, List.length_cons, List.length_nil]; omega)) (by first | assumption | omega) (by first | assumption | omega) (by first | assumption | omega) (by omega)
            · refine g_aload_n (pc := 61) hC 1 dX3_readEither_61 rfl rfl ?_
              refine g_get (pc := 62) hC 0 fl_X3_15 dX3_readEither_62 rfl rfl ?_
              refine g_bipush (pc := 65) hC (8) dX3_readEither_65 (by decide) ?_
              refine g_iconst (pc := 67) hC dX3_readEither_67 ?_
              refine g_callV (pc := 68) (qr := 3) hC [3, 4] (k_X1_put _ _ _ _ _ _ _ (l3 ++ [-2]) (-3) (by first | assumption | omega) (by first | assumption | omega) (by first | assumption | omega) (by first | assumption | omega) (by first | assumption | omega) (by first | omega | (simp only [nt_l, List.length_append, List.length_cons, List.length_nil]; omega)) (by decide +kernel) (by decide)) cl_X1_put wm_X3_61 dX3_readEither_68 rfl rfl rfl rfl rfl (by decide) (by decide) (by omega) (Nat.le_of_ble_eq_true rfl) rfl (fun v9 w9 hq9 => ?_)
              obtain ⟨m6, od6, rfl, rfl, r_m6, r_od6, hL2_68, hm2_68⟩ := hq9
              refine g_ws hC [cO g0 3 [.ref g1, .ref g2, .int (iI nm3), .int (iI p3)], cO g1 6 [.ref g3, .int (iI e)], cA K g3 100 sg, cO g2 1 [.ref g4, .int (iI m6), .int (iI rc)], cA K g4 100 od6] rfl ?_
              refine g_st hC [] rfl ?_
              refine g_aload_n (pc := 71) hC 1 dX3_readEither_71 rfl rfl ?_
              refine g_fnV (pc := 72) (qr := 0) hC [0, 1, 2] (k_X3_sign _ _ _ _ _ _ _ _ _ (by first | assumption | omega) (by first | assumption | omega) (by first | assumption | omega) (by first | assumption | omega) (by first | assumption | omega) (by first | assumption | omega)) cl_X3_sign wm_X3_28 dX3_readEither_72 rfl rfl rfl rfl rfl (by decide) (by decide) ⟨by omega, by omega⟩ (Nat.le_of_ble_eq_true rfl) rfl rfl ?_
              refine g_name hC (fun y72 e_y72 => ?_)
              have q_y72 : -1 ≤ y72 ∧ y72 ≤ 127 := by rw [e_y72]; exact hT.2.2.1 _
              refine g_bipush (pc := 75) hC (124) dX3_readEither_75 (by decide) ?_
              refine g_icmp_ne (pc := 77) hC 84 dX3_readEither_77 (by decide) (by omega) (by omega) (fun c77 => ?_) (fun c77 => ?_)
              · refine g_iconst (pc := 84) hC dX3_readEither_84 ?_
                refine g_istore_n (pc := 85) hC [(3, _), (2, _), (0, _), (1, _), (4, _)] dX3_readEither_85 rfl (by decide) rfl ?_
                refine g_iload_n (pc := 86) hC 0 dX3_readEither_86 rfl rfl ?_
                refine g_if_ne (pc := 87) hC 92 dX3_readEither_87 (by decide) (by omega) (fun c87 => by exfalso; omega) (fun c87 => ?_)
                refine g_iconst (pc := 90) hC dX3_readEither_90 ?_
                exact g_zret (pc := 91) hR dX3_readEither_91 rfl (by omega) ⟨by omega, by omega⟩ (Nat.le_of_ble_eq_true rfl) ⟨1, p3, nm3, m6, od6, ((l3 ++ [-2]) ++ [-3]), rfl, rfl, (by first | assumption | omega), (by first | assumption | omega), (by first | assumption | omega), (by first | assumption | omega), (by first | assumption | omega), (px_E_end hz (by omega) hz_16 (by rw [if_neg (by omega)]) (by rw [if_neg (by omega)]) (by omega) (by omega)), hL2_68, (by first | assumption | omega), (by first | omega | (simp only [nt_l, List.length_append, List.length_cons, List.length_nil]; omega)), (by first | assumption | omega)⟩
              · have hlt := cr_lt hT (show 0 ≤ p3 by omega) (show T p3 = 124 by omega) (by decide)
                obtain ⟨q2, rfl⟩ : ∃ q2, f2 = q2 + 1 := ⟨f2 - 1, by omega⟩
                refine g_iconst (pc := 80) hC dX3_readEither_80 ?_
                refine g_goto (pc := 81) hC 85 dX3_readEither_81 (by decide) ?_
                refine g_istore_n (pc := 85) hC [(3, _), (2, _), (0, _), (1, _), (4, _)] dX3_readEither_85 rfl (by decide) rfl ?_
                refine g_iload_n (pc := 86) hC 0 dX3_readEither_86 rfl rfl ?_
                refine g_if_ne (pc := 87) hC 92 dX3_readEither_87 (by decide) (by omega) (fun c87 => ?_) (fun c87 => by exfalso; omega)
                refine g_aload_n (pc := 92) hC 2 dX3_readEither_92 rfl rfl ?_
                refine g_dup (pc := 93) hC dX3_readEither_93 rfl ?_
                refine g_get (pc := 94) hC 0 fl_X3_32 dX3_readEither_94 rfl rfl ?_
                refine g_iconst (pc := 97) hC dX3_readEither_97 ?_
                refine g_iadd (pc := 98) hC dX3_readEither_98 ?_
                refine g_putI (pc := 99) hC 0 [cO _ _ [_, _, _, _], _, _, _, _] fl_X3_32 dX3_readEither_99 rfl (Nat.le_of_ble_eq_true rfl) rfl ?_
                refine g_iinc (pc := 102) hC 4 [(4, _), (3, _), (2, _), (0, _), (1, _)] dX3_readEither_102 rfl (by decide) rfl ?_
                refine g_goto (pc := 105) hC 7 dX3_readEither_105 (by decide) ?_
                refine g_lv hC [3, 4, 2, 1, 0] [(0, _), (1, _), (2, _), (3, _), (4, _)] rfl ?_
                exact ih7 0 1 (pt + 1) (p3 + 1) nm3 m6 od6 ((l3 ++ [-2]) ++ [-3]) 101 q2 (by first | assumption | omega) (by first | assumption | omega) (by first | assumption | omega) (by first | assumption | omega) (by first | assumption | omega) (by first | assumption | omega) (by first | assumption | omega) (px_E_or hz (by omega) hz_16 (by rw [if_neg (by omega)]) (by rw [if_neg (by omega)]) (by omega) (by omega)) hL2_68 (by first | assumption | omega) (by first | omega | (simp only [nt_l, List.length_append, List.length_cons, List.length_nil]; omega)) (by first | assumption | omega) (by first | assumption | omega) (by first | assumption | omega) (by omega)
          · have hlt := cr_lt hT (show 0 ≤ p3 by omega) (show T p3 = 38 by omega) (by decide)
            obtain ⟨q1, rfl⟩ : ∃ q1, f1 = q1 + 1 := ⟨f1 - 1, by omega⟩
            refine g_iconst (pc := 47) hC dX3_readEither_47 ?_
            refine g_goto (pc := 48) hC 52 dX3_readEither_48 (by decide) ?_
            refine g_istore_n (pc := 52) hC [(2, _), (0, _), (1, _), (3, _), (4, _)] dX3_readEither_52 rfl (by decide) rfl ?_
            refine g_iload_n (pc := 53) hC 0 dX3_readEither_53 rfl rfl ?_
            refine g_if_ne (pc := 54) hC 92 dX3_readEither_54 (by decide) (by omega) (fun c54 => ?_) (fun c54 => by exfalso; omega)
            refine g_aload_n (pc := 92) hC 1 dX3_readEither_92 rfl rfl ?_
            refine g_dup (pc := 93) hC dX3_readEither_93 rfl ?_
            refine g_get (pc := 94) hC 0 fl_X3_32 dX3_readEither_94 rfl rfl ?_
            refine g_iconst (pc := 97) hC dX3_readEither_97 ?_
            refine g_iadd (pc := 98) hC dX3_readEither_98 ?_
            refine g_putI (pc := 99) hC 0 [cO _ _ [_, _, _, _], _, _, _, _] fl_X3_32 dX3_readEither_99 rfl (Nat.le_of_ble_eq_true rfl) rfl ?_
            refine g_iinc (pc := 102) hC 4 [(4, _), (2, _), (0, _), (1, _), (3, _)] dX3_readEither_102 rfl (by decide) rfl ?_
            refine g_goto (pc := 105) hC 7 dX3_readEither_105 (by decide) ?_
            refine g_lv hC [2, 3, 1, 4, 0] [(0, _), (1, _), (2, _), (3, _), (4, _)] rfl ?_
            exact ih7 1 o (pt + 1) (p3 + 1) nm3 m4 od4 (l3 ++ [-2]) q1 f2 (by first | assumption | omega) (by first | assumption | omega) (by first | assumption | omega) (by first | assumption | omega) (by first | assumption | omega) (by first | assumption | omega) (by first | assumption | omega) (px_E_and hz (by omega) hz_16 (by rw [if_neg (by omega)]) (by omega)) hL2_35 (by first | assumption | omega) (by first | omega | (simp only [nt_l, List.length_append, List.length_cons, List.length_nil]; omega)) (by first | assumption | omega) (by first | assumption | omega) (by first | assumption | omega) (by omega)
      · refine g_iconst (pc := 22) hC dX3_readEither_22 ?_
        exact g_zret (pc := 23) hR dX3_readEither_23 rfl (by omega) ⟨by omega, by omega⟩ (Nat.le_of_ble_eq_true rfl) ⟨0, p3, nm3, m3, od3, l3, rfl, rfl, (by first | assumption | omega), (by first | assumption | omega), (by first | assumption | omega), (by first | assumption | omega), (by first | assumption | omega), (px_E_f hz (by omega) hz_16), hL2_16, (by first | assumption | omega), (by omega), (by first | assumption | omega)⟩
  refine g_lv hC [3, 4, 2, 1, 0] [(0, _), (1, _), (2, _), (3, _), (4, _)] rfl ?_
  exact L7 ((e - p : Int).toNat + 1) 0 0 0 p nm m od l 101 101 (by first | assumption | omega) (by first | assumption | omega) (by first | assumption | omega) (by first | assumption | omega) (by first | assumption | omega) (by first | assumption | omega) (by first | assumption | omega) rfl (by first | assumption | omega) (by first | assumption | omega) (by first | assumption | omega) (by first | assumption | omega) (by first | assumption | omega) (by first | assumption | omega) (by omega)
set_option maxHeartbeats 4000000 in
set_option maxRecDepth 100000 in
theorem k_X3_readInBrackets_0 {K : gK} (g0 : Nat) (g1 : Nat) (g2 : Nat) (g3 : Nat) (g4 : Nat) (nm : Int) (p : Int) (e : Int) (m : Int) (rc : Int) (sg : Int → Int) (od : Int → Int) (T : Int → Int) (l : List Int) (r_nm : rI nm) (r_p : rI p) (r_e : rI e) (r_m : rI m) (r_rc : rI rc) (r_sg : ∀ j, rI (sg j)) (r_od : ∀ j, rI (od j)) (hT : cr_T T e sg) (hp : 0 ≤ p ∧ p ≤ e) (hL : cr_L l od m) (hl : (l.length : Int) ≤ p) (hnm : 0 ≤ nm ∧ nm ≤ 99) (hc : T p = 40) : gMet K yX3_readInBrackets cX3_readInBrackets 2 (some .boolean) 21 0 0 [.ref g0, .int (iI 0)] [cO g0 3 [.ref g1, .ref g2, .int (iI nm), .int (iI p)], cO g1 6 [.ref g3, .int (iI e)], cA K g3 100 sg, cO g2 1 [.ref g4, .int (iI m), .int (iI rc)], cA K g4 100 od] (fun v9 w9 => ∃ (r : Int), ∃ (p2 : Int), ∃ (nm2 : Int), ∃ (m2 : Int), ∃ (od2 : Int → Int), ∃ (l2 : List Int), v9 = some (.int (iI r)) ∧ w9 = [cO g0 3 [.ref g1, .ref g2, .int (iI nm2), .int (iI p2)], cO g1 6 [.ref g3, .int (iI e)], cA K g3 100 sg, cO g2 1 [.ref g4, .int (iI m2), .int (iI rc)], cA K g4 100 od2] ∧ rI r ∧ rI p2 ∧ rI nm2 ∧ rI m2 ∧ (∀ j, rI (od2 j)) ∧ ((1 - r, p2, l2) = px_fac T 5 (0, p, l)) ∧ (cr_L l2 od2 m2) ∧ ((r = 0 ∨ r = 1) ∧ p ≤ p2 ∧ p2 ≤ e ∧ (r = 1 → p < p2)) ∧ ((l2.length : Int) + p ≤ (l.length : Int) + p2) ∧ (0 ≤ nm2 ∧ nm2 ≤ 99)) := by
  refine g_enter (by decide +kernel) (Nat.le_of_ble_eq_true rfl) (fun G hC hR => ?_)
  refine g_lv hC [0, 1] [(0, _), (1, _)] rfl ?_
  have hge := hT.1
  have hlt := cr_lt hT hp.1 hc (by decide)
  refine g_iload_n (pc := 0) hC 1 dX3_readInBrackets_0 rfl rfl ?_
  refine g_iconst (pc := 1) hC dX3_readInBrackets_1 ?_
  refine g_icmp_lt (pc := 2) hC 7 dX3_readInBrackets_2 (by decide) (by omega) (by omega) (fun c2 => ?_) (fun c2 => by exfalso; omega)
  refine g_aload_n (pc := 7) hC 0 dX3_readInBrackets_7 rfl rfl ?_
  refine g_dup (pc := 8) hC dX3_readInBrackets_8 rfl ?_
  refine g_get (pc := 9) hC 0 fl_X3_32 dX3_readInBrackets_9 rfl rfl ?_
  refine g_iconst (pc := 12) hC dX3_readInBrackets_12 ?_
  refine g_iadd (pc := 13) hC dX3_readInBrackets_13 ?_
  refine g_putI (pc := 14) hC 0 [cO _ _ [_, _, _, _], _, _, _, _] fl_X3_32 dX3_readInBrackets_14 rfl (Nat.le_of_ble_eq_true rfl) rfl ?_
  refine g_aload_n (pc := 17) hC 0 dX3_readInBrackets_17 rfl rfl ?_
  refine g_iload_n (pc := 18) hC 1 dX3_readInBrackets_18 rfl rfl ?_
  refine g_iconst (pc := 19) hC dX3_readInBrackets_19 ?_
  refine g_iadd (pc := 20) hC dX3_readInBrackets_20 ?_
  refine g_st hC [.int (iI (1)), _] rfl ?_
  refine g_callV (pc := 21) (qr := 0) hC [0, 1, 2, 3, 4] (k_X3_readEither_1 _ _ _ _ _ _ _ _ _ _ _ _ _ _ (by first | assumption | omega) (by first | assumption | omega) (by first | assumption | omega) (by first | assumption | omega) (by first | assumption | omega) (by first | assumption | omega) (by first | assumption | omega) (by first | assumption | omega) (by first | assumption | omega) (by first | assumption | omega) (by omega) (by first | assumption | omega)) cl_X3_readEither wm_X3_57 dX3_readInBrackets_21 rfl rfl rfl rfl rfl (by decide) (by decide) (by omega) (Nat.le_of_ble_eq_true rfl) rfl (fun v9 w9 hq9 => ?_)
  obtain ⟨r3, p3, nm3, m3, od3, l3, rfl, rfl, r_r3, r_p3, r_nm3, r_m3, r_od3, hz_21, hL2_21, hb_21, hl2_21, hnm2_21⟩ := hq9
  refine g_ws hC [cO g0 3 [.ref g1, .ref g2, .int (iI nm3), .int (iI p3)], cO g1 6 [.ref g3, .int (iI e)], cA K g3 100 sg, cO g2 1 [.ref g4, .int (iI m3), .int (iI rc)], cA K g4 100 od3] rfl ?_
  refine g_st hC [.int (iI r3)] rfl ?_
  refine g_if_eq (pc := 24) hC 40 dX3_readInBrackets_24 (by decide) (by omega) (fun c24 => ?_) (fun c24 => ?_)
  · refine g_iconst (pc := 40) hC dX3_readInBrackets_40 ?_
    exact g_zret (pc := 41) hR dX3_readInBrackets_41 rfl (by omega) ⟨by omega, by omega⟩ (Nat.le_of_ble_eq_true rfl) ⟨0, p3, nm3, m3, od3, l3, rfl, rfl, (by first | assumption | omega), (by first | assumption | omega), (by first | assumption | omega), (by first | assumption | omega), (by first | assumption | omega), (px_br_f hc (by omega) hz_21), hL2_21, (by first | assumption | omega), (by first | assumption | omega), (by first | assumption | omega)⟩
  · refine g_aload_n (pc := 27) hC 0 dX3_readInBrackets_27 rfl rfl ?_
    refine g_ldcS_X3_74 (pc := 28) hC rfl dX3_readInBrackets_28 ?_
    refine g_callV (pc := 30) (qr := 0) hC [0, 1, 2] (k_X3_readWord _ _ _ _ _ _ _ _ _ _ (by first | assumption | omega) (by first | assumption | omega) (by first | assumption | omega) (by first | assumption | omega) (by first | assumption | omega) (by first | assumption | omega) (by first | assumption | omega)) cl_X3_readWord wm_X3_42 dX3_readInBrackets_30 rfl rfl rfl rfl rfl (by decide) (by decide) (by omega) (Nat.le_of_ble_eq_true rfl) rfl (fun v9 w9 hq9 => ?_)
    obtain ⟨r4, p4, rfl, rfl, r_r4, r_p4, hz_30, hb_30⟩ := hq9
    refine g_ws hC [cO g0 3 [.ref g1, .ref g2, .int (iI nm3), .int (iI p4)], cO g1 6 [.ref g3, .int (iI e)], cA K g3 100 sg, cO g2 1 [.ref g4, .int (iI m3), .int (iI rc)], cA K g4 100 od3] rfl ?_
    refine g_st hC [.int (iI r4)] rfl ?_
    have hs4 : sl 4 = 1 := rfl
    refine g_if_eq (pc := 33) hC 40 dX3_readInBrackets_33 (by decide) (by omega) (fun c33 => ?_) (fun c33 => ?_)
    · refine g_iconst (pc := 40) hC dX3_readInBrackets_40 ?_
      exact g_zret (pc := 41) hR dX3_readInBrackets_41 rfl (by omega) ⟨by omega, by omega⟩ (Nat.le_of_ble_eq_true rfl) ⟨0, p4, nm3, m3, od3, l3, rfl, rfl, (by first | assumption | omega), (by first | assumption | omega), (by first | assumption | omega), (by first | assumption | omega), (by first | assumption | omega), (px_br_t (r4 := 0) hc (by omega) hz_21 (by rw [← hz_30, show r4 = 0 by omega])), hL2_21, (by first | assumption | omega), (by first | assumption | omega), (by first | assumption | omega)⟩
    · refine g_iconst (pc := 36) hC dX3_readInBrackets_36 ?_
      refine g_goto (pc := 37) hC 41 dX3_readInBrackets_37 (by decide) ?_
      exact g_zret (pc := 41) hR dX3_readInBrackets_41 rfl (by omega) ⟨by omega, by omega⟩ (Nat.le_of_ble_eq_true rfl) ⟨1, p4, nm3, m3, od3, l3, rfl, rfl, (by first | assumption | omega), (by first | assumption | omega), (by first | assumption | omega), (by first | assumption | omega), (by first | assumption | omega), (px_br_t (r4 := 1) hc (by omega) hz_21 (by rw [← hz_30, show r4 = 1 by omega])), hL2_21, (by first | assumption | omega), (by first | assumption | omega), (by first | assumption | omega)⟩
set_option maxHeartbeats 4000000 in
set_option maxRecDepth 100000 in
theorem k_X3_readOne_0 {K : gK} (g0 : Nat) (g1 : Nat) (g2 : Nat) (g3 : Nat) (g4 : Nat) (nm : Int) (p : Int) (e : Int) (m : Int) (rc : Int) (sg : Int → Int) (od : Int → Int) (T : Int → Int) (l : List Int) (r_nm : rI nm) (r_p : rI p) (r_e : rI e) (r_m : rI m) (r_rc : rI rc) (r_sg : ∀ j, rI (sg j)) (r_od : ∀ j, rI (od j)) (hT : cr_T T e sg) (hp : 0 ≤ p ∧ p ≤ e) (hL : cr_L l od m) (hl : (l.length : Int) ≤ p) (hnm : 0 ≤ nm ∧ nm ≤ 99) : gMet K yX3_readOne cX3_readOne 5 (some .boolean) 22 0 0 [.ref g0, .int (iI 0)] [cO g0 3 [.ref g1, .ref g2, .int (iI nm), .int (iI p)], cO g1 6 [.ref g3, .int (iI e)], cA K g3 100 sg, cO g2 1 [.ref g4, .int (iI m), .int (iI rc)], cA K g4 100 od] (fun v9 w9 => ∃ (r : Int), ∃ (p2 : Int), ∃ (nm2 : Int), ∃ (m2 : Int), ∃ (od2 : Int → Int), ∃ (l2 : List Int), v9 = some (.int (iI r)) ∧ w9 = [cO g0 3 [.ref g1, .ref g2, .int (iI nm2), .int (iI p2)], cO g1 6 [.ref g3, .int (iI e)], cA K g3 100 sg, cO g2 1 [.ref g4, .int (iI m2), .int (iI rc)], cA K g4 100 od2] ∧ rI r ∧ rI p2 ∧ rI nm2 ∧ rI m2 ∧ (∀ j, rI (od2 j)) ∧ ((1 - r, p2, l2) = px_fac T 5 (0, p, l)) ∧ (cr_L l2 od2 m2) ∧ ((r = 0 ∨ r = 1) ∧ p ≤ p2 ∧ p2 ≤ e ∧ (r = 1 → p < p2)) ∧ ((l2.length : Int) + p ≤ (l.length : Int) + p2) ∧ (0 ≤ nm2 ∧ nm2 ≤ 99)) := by
  refine g_enter (by decide +kernel) (Nat.le_of_ble_eq_true rfl) (fun G hC hR => ?_)
  refine g_lv hC [0, 1] [(0, _), (1, _)] rfl ?_
  have hge := hT.1
  refine g_iconst (pc := 0) hC dX3_readOne_0 ?_
  refine g_istore_n (pc := 1) hC [(2, _), (0, _), (1, _)] dX3_readOne_1 rfl (by decide) rfl ?_
  refine g_aload_n (pc := 2) hC 1 dX3_readOne_2 rfl rfl ?_
  refine g_fnV (pc := 3) (qr := 0) hC [0, 1, 2] (k_X3_sign _ _ _ _ _ _ _ _ _ (by first | assumption | omega) (by first | assumption | omega) (by first | assumption | omega) (by first | assumption | omega) (by first | assumption | omega) (by first | assumption | omega)) cl_X3_sign wm_X3_28 dX3_readOne_3 rfl rfl rfl rfl rfl (by decide) (by decide) ⟨by omega, by omega⟩ (Nat.le_of_ble_eq_true rfl) rfl rfl ?_
  refine g_name hC (fun y0 e_y0 => ?_)
  have q_y0 : -1 ≤ y0 ∧ y0 ≤ 127 := by rw [e_y0]; exact hT.2.2.1 _
  refine g_bipush (pc := 6) hC (33) dX3_readOne_6 (by decide) ?_
  refine g_icmp_ne (pc := 8) hC 34 dX3_readOne_8 (by decide) (by omega) (by omega) (fun c8 => ?_) (fun c8 => ?_)
  · have hn9 : ¬ T (p) = 33 := by omega
    refine g_aload_n (pc := 34) hC 1 dX3_readOne_34 rfl rfl ?_
    refine g_fnV (pc := 35) (qr := 0) hC [0, 1, 2] (k_X3_sign _ _ _ _ _ _ _ _ _ (by first | assumption | omega) (by first | assumption | omega) (by first | assumption | omega) (by first | assumption | omega) (by first | assumption | omega) (by first | assumption | omega)) cl_X3_sign wm_X3_28 dX3_readOne_35 rfl rfl rfl rfl rfl (by decide) (by decide) ⟨by omega, by omega⟩ (Nat.le_of_ble_eq_true rfl) rfl rfl ?_
    refine g_name hC (fun y99 e_y99 => ?_)
    have q_y99 : -1 ≤ y99 ∧ y99 ≤ 127 := by rw [e_y99]; exact hT.2.2.1 _
    refine g_bipush (pc := 38) hC (40) dX3_readOne_38 (by decide) ?_
    refine g_icmp_ne (pc := 40) hC 53 dX3_readOne_40 (by decide) (by omega) (by omega) (fun c40 => ?_) (fun c40 => ?_)
    · refine g_aload_n (pc := 53) hC 1 dX3_readOne_53 rfl rfl ?_
      refine g_callV (pc := 54) (qr := 0) hC [0, 1, 2, 3, 4] (k_X3_readTest _ _ _ _ _ _ _ _ _ _ _ _ _ _ (by first | assumption | omega) (by first | assumption | omega) (by first | assumption | omega) (by first | assumption | omega) (by first | assumption | omega) (by first | assumption | omega) (by first | assumption | omega) (by first | assumption | omega) (by first | assumption | omega) (by first | assumption | omega) (by first | assumption | omega) (by first | assumption | omega)) cl_X3_readTest wm_X3_71 dX3_readOne_54 rfl rfl rfl rfl rfl (by decide) (by decide) (by omega) (Nat.le_of_ble_eq_true rfl) rfl (fun v9 w9 hq9 => ?_)
      obtain ⟨r3, p3, nm3, m3, od3, l3, rfl, rfl, r_r3, r_p3, r_nm3, r_m3, r_od3, hz_54, hL2_54, hb_54, hl2_54, hnm2_54⟩ := hq9
      refine g_ws hC [cO g0 3 [.ref g1, .ref g2, .int (iI nm3), .int (iI p3)], cO g1 6 [.ref g3, .int (iI e)], cA K g3 100 sg, cO g2 1 [.ref g4, .int (iI m3), .int (iI rc)], cA K g4 100 od3] rfl ?_
      refine g_st hC [.int (iI r3)] rfl ?_
      refine g_istore_n (pc := 57) hC [(3, _), (2, _), (0, _), (1, _)] dX3_readOne_57 rfl (by decide) rfl ?_
      refine g_iconst (pc := 58) hC dX3_readOne_58 ?_
      refine g_istore (pc := 59) hC [(4, _), (3, _), (2, _), (0, _), (1, _)] dX3_readOne_59 (by decide) rfl ?_
      refine g_iload (pc := 61) hC 0 dX3_readOne_61 rfl ?_
      refine g_iload_n (pc := 63) hC 2 dX3_readOne_63 rfl rfl ?_
      refine g_icmp_ge (pc := 64) hC 87 dX3_readOne_64 (by decide) (by omega) (by omega) (fun c64 => ?_) (fun c64 => by exfalso; omega)
      refine g_iload_n (pc := 87) hC 1 dX3_readOne_87 rfl rfl ?_
      exact g_zret (pc := 88) hR dX3_readOne_88 rfl (by omega) ⟨by omega, by omega⟩ (Nat.le_of_ble_eq_true rfl) ⟨r3, p3, nm3, m3, od3, l3, rfl, rfl, (by first | assumption | omega), (by first | assumption | omega), (by first | assumption | omega), (by first | assumption | omega), (by first | assumption | omega), (px_fac_t rfl hn9 (by omega) hz_54), hL2_54, (by first | assumption | omega), (by first | assumption | omega), (by first | assumption | omega)⟩
    · have hlt9 := cr_lt hT (by omega) (show T (p) = 40 by omega) (by decide)
      refine g_aload_n (pc := 43) hC 1 dX3_readOne_43 rfl rfl ?_
      refine g_iload_n (pc := 44) hC 2 dX3_readOne_44 rfl rfl ?_
      refine g_iload_n (pc := 45) hC 0 dX3_readOne_45 rfl rfl ?_
      refine g_iadd (pc := 46) hC dX3_readOne_46 ?_
      refine g_st hC [.int (iI (0)), _] rfl ?_
      refine g_callV (pc := 47) (qr := 0) hC [0, 1, 2, 3, 4] (k_X3_readInBrackets_0 _ _ _ _ _ _ _ _ _ _ _ _ _ _ (by first | assumption | omega) (by first | assumption | omega) (by first | assumption | omega) (by first | assumption | omega) (by first | assumption | omega) (by first | assumption | omega) (by first | assumption | omega) (by first | assumption | omega) (by first | assumption | omega) (by first | assumption | omega) (by first | assumption | omega) (by first | assumption | omega) (by first | assumption | omega)) cl_X3_readInBrackets wm_X3_68 dX3_readOne_47 rfl rfl rfl rfl rfl (by decide) (by decide) (by omega) (Nat.le_of_ble_eq_true rfl) rfl (fun v9 w9 hq9 => ?_)
      obtain ⟨r3, p3, nm3, m3, od3, l3, rfl, rfl, r_r3, r_p3, r_nm3, r_m3, r_od3, hz_47, hL2_47, hb_47, hl2_47, hnm2_47⟩ := hq9
      refine g_ws hC [cO g0 3 [.ref g1, .ref g2, .int (iI nm3), .int (iI p3)], cO g1 6 [.ref g3, .int (iI e)], cA K g3 100 sg, cO g2 1 [.ref g4, .int (iI m3), .int (iI rc)], cA K g4 100 od3] rfl ?_
      refine g_st hC [.int (iI r3)] rfl ?_
      refine g_goto (pc := 50) hC 57 dX3_readOne_50 (by decide) ?_
      refine g_istore_n (pc := 57) hC [(3, _), (2, _), (0, _), (1, _)] dX3_readOne_57 rfl (by decide) rfl ?_
      refine g_iconst (pc := 58) hC dX3_readOne_58 ?_
      refine g_istore (pc := 59) hC [(4, _), (3, _), (2, _), (0, _), (1, _)] dX3_readOne_59 (by decide) rfl ?_
      refine g_iload (pc := 61) hC 0 dX3_readOne_61 rfl ?_
      refine g_iload_n (pc := 63) hC 2 dX3_readOne_63 rfl rfl ?_
      refine g_icmp_ge (pc := 64) hC 87 dX3_readOne_64 (by decide) (by omega) (by omega) (fun c64 => ?_) (fun c64 => by exfalso; omega)
      refine g_iload_n (pc := 87) hC 1 dX3_readOne_87 rfl rfl ?_
      exact g_zret (pc := 88) hR dX3_readOne_88 rfl (by omega) ⟨by omega, by omega⟩ (Nat.le_of_ble_eq_true rfl) ⟨r3, p3, nm3, m3, od3, l3, rfl, rfl, (by first | assumption | omega), (by first | assumption | omega), (by first | assumption | omega), (by first | assumption | omega), (by first | assumption | omega), hz_47, hL2_47, (by first | assumption | omega), (by first | assumption | omega), (by first | assumption | omega)⟩
  · have hq0 : T (p) = 33 := by omega
    have hlt0 := cr_lt hT (by omega) hq0 (by decide)
    refine g_iload_n (pc := 11) hC 2 dX3_readOne_11 rfl rfl ?_
    refine g_iload_n (pc := 12) hC 0 dX3_readOne_12 rfl rfl ?_
    refine g_iadd (pc := 13) hC dX3_readOne_13 ?_
    refine g_st hC [.int (iI (0))] rfl ?_
    refine g_iconst (pc := 14) hC dX3_readOne_14 ?_
    refine g_icmp_ge (pc := 15) hC 34 dX3_readOne_15 (by decide) (by omega) (by omega) (fun c15 => by exfalso; omega) (fun c15 => ?_)
    refine g_iinc (pc := 18) hC 0 [(2, _), (0, _), (1, _)] dX3_readOne_18 rfl (by decide) rfl ?_
    refine g_lv hC [0, 1, 2] [(2, .int (iI 1)), (0, _), (1, _)] rfl ?_
    skip
    refine g_aload_n (pc := 21) hC 1 dX3_readOne_21 rfl rfl ?_
    refine g_dup (pc := 22) hC dX3_readOne_22 rfl ?_
    refine g_get (pc := 23) hC 0 fl_X3_32 dX3_readOne_23 rfl rfl ?_
    refine g_iconst (pc := 26) hC dX3_readOne_26 ?_
    refine g_iadd (pc := 27) hC dX3_readOne_27 ?_
    refine g_putI (pc := 28) hC 0 [cO _ _ [_, _, _, _], _, _, _, _] fl_X3_32 dX3_readOne_28 rfl (Nat.le_of_ble_eq_true rfl) rfl ?_
    refine g_goto (pc := 31) hC 2 dX3_readOne_31 (by decide) ?_
    refine g_aload_n (pc := 2) hC 1 dX3_readOne_2 rfl rfl ?_
    refine g_fnV (pc := 3) (qr := 0) hC [0, 1, 2] (k_X3_sign _ _ _ _ _ _ _ _ _ (by first | assumption | omega) (by first | assumption | omega) (by first | assumption | omega) (by first | assumption | omega) (by first | assumption | omega) (by first | assumption | omega)) cl_X3_sign wm_X3_28 dX3_readOne_3 rfl rfl rfl rfl rfl (by decide) (by decide) ⟨by omega, by omega⟩ (Nat.le_of_ble_eq_true rfl) rfl rfl ?_
    refine g_name hC (fun y1 e_y1 => ?_)
    have q_y1 : -1 ≤ y1 ∧ y1 ≤ 127 := by rw [e_y1]; exact hT.2.2.1 _
    refine g_bipush (pc := 6) hC (33) dX3_readOne_6 (by decide) ?_
    refine g_icmp_ne (pc := 8) hC 34 dX3_readOne_8 (by decide) (by omega) (by omega) (fun c8 => ?_) (fun c8 => ?_)
    · have hn9 : ¬ T ((p + 1)) = 33 := by omega
      refine g_aload_n (pc := 34) hC 1 dX3_readOne_34 rfl rfl ?_
      refine g_fnV (pc := 35) (qr := 0) hC [0, 1, 2] (k_X3_sign _ _ _ _ _ _ _ _ _ (by first | assumption | omega) (by first | assumption | omega) (by first | assumption | omega) (by first | assumption | omega) (by first | assumption | omega) (by first | assumption | omega)) cl_X3_sign wm_X3_28 dX3_readOne_35 rfl rfl rfl rfl rfl (by decide) (by decide) ⟨by omega, by omega⟩ (Nat.le_of_ble_eq_true rfl) rfl rfl ?_
      refine g_name hC (fun y99 e_y99 => ?_)
      have q_y99 : -1 ≤ y99 ∧ y99 ≤ 127 := by rw [e_y99]; exact hT.2.2.1 _
      refine g_bipush (pc := 38) hC (40) dX3_readOne_38 (by decide) ?_
      refine g_icmp_ne (pc := 40) hC 53 dX3_readOne_40 (by decide) (by omega) (by omega) (fun c40 => ?_) (fun c40 => ?_)
      · refine g_aload_n (pc := 53) hC 1 dX3_readOne_53 rfl rfl ?_
        refine g_callV (pc := 54) (qr := 0) hC [0, 1, 2, 3, 4] (k_X3_readTest _ _ _ _ _ _ _ _ _ _ _ _ _ _ (by first | assumption | omega) (by first | assumption | omega) (by first | assumption | omega) (by first | assumption | omega) (by first | assumption | omega) (by first | assumption | omega) (by first | assumption | omega) (by first | assumption | omega) (by first | assumption | omega) (by first | assumption | omega) (by first | assumption | omega) (by first | assumption | omega)) cl_X3_readTest wm_X3_71 dX3_readOne_54 rfl rfl rfl rfl rfl (by decide) (by decide) (by omega) (Nat.le_of_ble_eq_true rfl) rfl (fun v9 w9 hq9 => ?_)
        obtain ⟨r3, p3, nm3, m3, od3, l3, rfl, rfl, r_r3, r_p3, r_nm3, r_m3, r_od3, hz_54, hL2_54, hb_54, hl2_54, hnm2_54⟩ := hq9
        refine g_ws hC [cO g0 3 [.ref g1, .ref g2, .int (iI nm3), .int (iI p3)], cO g1 6 [.ref g3, .int (iI e)], cA K g3 100 sg, cO g2 1 [.ref g4, .int (iI m3), .int (iI rc)], cA K g4 100 od3] rfl ?_
        refine g_st hC [.int (iI r3)] rfl ?_
        refine g_istore_n (pc := 57) hC [(3, _), (2, _), (0, _), (1, _)] dX3_readOne_57 rfl (by decide) rfl ?_
        refine g_iconst (pc := 58) hC dX3_readOne_58 ?_
        refine g_istore (pc := 59) hC [(4, _), (3, _), (2, _), (0, _), (1, _)] dX3_readOne_59 (by decide) rfl ?_
        refine g_iload (pc := 61) hC 0 dX3_readOne_61 rfl ?_
        refine g_iload_n (pc := 63) hC 2 dX3_readOne_63 rfl rfl ?_
        refine g_icmp_ge (pc := 64) hC 87 dX3_readOne_64 (by decide) (by omega) (by omega) (fun c64 => by exfalso; omega) (fun c64 => ?_)
        refine g_iload_n (pc := 67) hC 1 dX3_readOne_67 rfl rfl ?_
        refine g_if_eq (pc := 68) hC 87 dX3_readOne_68 (by decide) (by omega) (fun c68 => ?_) (fun c68 => ?_)
        · refine g_iload_n (pc := 87) hC 1 dX3_readOne_87 rfl rfl ?_
          exact g_zret (pc := 88) hR dX3_readOne_88 rfl (by omega) ⟨by omega, by omega⟩ (Nat.le_of_ble_eq_true rfl) ⟨r3, p3, nm3, m3, od3, l3, rfl, rfl, (by first | assumption | omega), (by first | assumption | omega), (by first | assumption | omega), (by first | assumption | omega), (by first | assumption | omega), (px_fac_not (l4 := l3) rfl hq0 (px_fac_t rfl hn9 (by omega) hz_54) (by rw [if_neg (show ¬ (1 - r3 : Int) = 0 by omega)])), hL2_54, (by first | assumption | omega), (by first | assumption | omega), (by first | assumption | omega)⟩
        · refine g_aload_n (pc := 71) hC 3 dX3_readOne_71 rfl rfl ?_
          refine g_get (pc := 72) hC 0 fl_X3_15 dX3_readOne_72 rfl rfl ?_
          refine g_bipush (pc := 75) hC (6) dX3_readOne_75 (by decide) ?_
          refine g_iconst (pc := 77) hC dX3_readOne_77 ?_
          refine g_callV (pc := 78) (qr := 3) hC [3, 4] (k_X1_put _ _ _ _ _ _ _ (nt_l l3 0) (-1) (by first | assumption | omega) (by first | assumption | omega) (by first | assumption | omega) (by first | assumption | omega) (by first | assumption | omega) (by first | omega | (simp only [nt_l, List.length_append, List.length_cons, List.length_nil]; omega)) (by decide +kernel) (by decide)) cl_X1_put wm_X3_61 dX3_readOne_78 rfl rfl rfl rfl rfl (by decide) (by decide) (by omega) (Nat.le_of_ble_eq_true rfl) rfl (fun v9 w9 hq9 => ?_)
          obtain ⟨m4, od4, rfl, rfl, r_m4, r_od4, hL2_78, hm2_78⟩ := hq9
          refine g_ws hC [cO g0 3 [.ref g1, .ref g2, .int (iI nm3), .int (iI p3)], cO g1 6 [.ref g3, .int (iI e)], cA K g3 100 sg, cO g2 1 [.ref g4, .int (iI m4), .int (iI rc)], cA K g4 100 od4] rfl ?_
          refine g_st hC [] rfl ?_
          refine g_iinc (pc := 81) hC 0 [(4, _), (3, _), (2, _), (0, _), (1, _)] dX3_readOne_81 rfl (by decide) rfl ?_
          refine g_lv hC [0, 1, 2, 3, 4] [(4, .int (iI 1)), (3, _), (2, _), (0, _), (1, _)] rfl ?_
          refine g_goto (pc := 84) hC 61 dX3_readOne_84 (by decide) ?_
          refine g_iload (pc := 61) hC 0 dX3_readOne_61 rfl ?_
          refine g_iload_n (pc := 63) hC 2 dX3_readOne_63 rfl rfl ?_
          refine g_icmp_ge (pc := 64) hC 87 dX3_readOne_64 (by decide) (by omega) (by omega) (fun c64 => ?_) (fun c64 => by exfalso; omega)
          refine g_iload_n (pc := 87) hC 1 dX3_readOne_87 rfl rfl ?_
          exact g_zret (pc := 88) hR dX3_readOne_88 rfl (by omega) ⟨by omega, by omega⟩ (Nat.le_of_ble_eq_true rfl) ⟨r3, p3, nm3, m4, od4, (nt_l l3 1), rfl, rfl, (by first | assumption | omega), (by first | assumption | omega), (by first | assumption | omega), (by first | assumption | omega), (by first | assumption | omega), (px_fac_not (l4 := nt_l l3 1) rfl hq0 (px_fac_t rfl hn9 (by omega) hz_54) (by rw [if_pos (show (1 - r3 : Int) = 0 by omega)]; rfl)), hL2_78, (by first | assumption | omega), (by first | omega | (simp only [nt_l, List.length_append, List.length_cons, List.length_nil]; omega)), (by first | assumption | omega)⟩
      · have hlt9 := cr_lt hT (by omega) (show T ((p + 1)) = 40 by omega) (by decide)
        refine g_aload_n (pc := 43) hC 1 dX3_readOne_43 rfl rfl ?_
        refine g_iload_n (pc := 44) hC 2 dX3_readOne_44 rfl rfl ?_
        refine g_iload_n (pc := 45) hC 0 dX3_readOne_45 rfl rfl ?_
        refine g_iadd (pc := 46) hC dX3_readOne_46 ?_
        refine g_st hC [.int (iI (1)), _] rfl ?_
        refine g_callV (pc := 47) (qr := 0) hC [0, 1, 2, 3, 4] (k_X3_readInBrackets_1 _ _ _ _ _ _ _ _ _ _ _ _ _ _ (by first | assumption | omega) (by first | assumption | omega) (by first | assumption | omega) (by first | assumption | omega) (by first | assumption | omega) (by first | assumption | omega) (by first | assumption | omega) (by first | assumption | omega) (by first | assumption | omega) (by first | assumption | omega) (by first | assumption | omega) (by first | assumption | omega) (by first | assumption | omega)) cl_X3_readInBrackets wm_X3_68 dX3_readOne_47 rfl rfl rfl rfl rfl (by decide) (by decide) (by omega) (Nat.le_of_ble_eq_true rfl) rfl (fun v9 w9 hq9 => ?_)
        obtain ⟨r3, p3, nm3, m3, od3, l3, rfl, rfl, r_r3, r_p3, r_nm3, r_m3, r_od3, hz_47, hL2_47, hb_47, hl2_47, hnm2_47⟩ := hq9
        refine g_ws hC [cO g0 3 [.ref g1, .ref g2, .int (iI nm3), .int (iI p3)], cO g1 6 [.ref g3, .int (iI e)], cA K g3 100 sg, cO g2 1 [.ref g4, .int (iI m3), .int (iI rc)], cA K g4 100 od3] rfl ?_
        refine g_st hC [.int (iI r3)] rfl ?_
        refine g_goto (pc := 50) hC 57 dX3_readOne_50 (by decide) ?_
        refine g_istore_n (pc := 57) hC [(3, _), (2, _), (0, _), (1, _)] dX3_readOne_57 rfl (by decide) rfl ?_
        refine g_iconst (pc := 58) hC dX3_readOne_58 ?_
        refine g_istore (pc := 59) hC [(4, _), (3, _), (2, _), (0, _), (1, _)] dX3_readOne_59 (by decide) rfl ?_
        refine g_iload (pc := 61) hC 0 dX3_readOne_61 rfl ?_
        refine g_iload_n (pc := 63) hC 2 dX3_readOne_63 rfl rfl ?_
        refine g_icmp_ge (pc := 64) hC 87 dX3_readOne_64 (by decide) (by omega) (by omega) (fun c64 => by exfalso; omega) (fun c64 => ?_)
        refine g_iload_n (pc := 67) hC 1 dX3_readOne_67 rfl rfl ?_
        refine g_if_eq (pc := 68) hC 87 dX3_readOne_68 (by decide) (by omega) (fun c68 => ?_) (fun c68 => ?_)
        · refine g_iload_n (pc := 87) hC 1 dX3_readOne_87 rfl rfl ?_
          exact g_zret (pc := 88) hR dX3_readOne_88 rfl (by omega) ⟨by omega, by omega⟩ (Nat.le_of_ble_eq_true rfl) ⟨r3, p3, nm3, m3, od3, l3, rfl, rfl, (by first | assumption | omega), (by first | assumption | omega), (by first | assumption | omega), (by first | assumption | omega), (by first | assumption | omega), (px_fac_not (l4 := l3) rfl hq0 hz_47 (by rw [if_neg (show ¬ (1 - r3 : Int) = 0 by omega)])), hL2_47, (by first | assumption | omega), (by first | assumption | omega), (by first | assumption | omega)⟩
        · refine g_aload_n (pc := 71) hC 3 dX3_readOne_71 rfl rfl ?_
          refine g_get (pc := 72) hC 0 fl_X3_15 dX3_readOne_72 rfl rfl ?_
          refine g_bipush (pc := 75) hC (6) dX3_readOne_75 (by decide) ?_
          refine g_iconst (pc := 77) hC dX3_readOne_77 ?_
          refine g_callV (pc := 78) (qr := 3) hC [3, 4] (k_X1_put _ _ _ _ _ _ _ (nt_l l3 0) (-1) (by first | assumption | omega) (by first | assumption | omega) (by first | assumption | omega) (by first | assumption | omega) (by first | assumption | omega) (by first | omega | (simp only [nt_l, List.length_append, List.length_cons, List.length_nil]; omega)) (by decide +kernel) (by decide)) cl_X1_put wm_X3_61 dX3_readOne_78 rfl rfl rfl rfl rfl (by decide) (by decide) (by omega) (Nat.le_of_ble_eq_true rfl) rfl (fun v9 w9 hq9 => ?_)
          obtain ⟨m4, od4, rfl, rfl, r_m4, r_od4, hL2_78, hm2_78⟩ := hq9
          refine g_ws hC [cO g0 3 [.ref g1, .ref g2, .int (iI nm3), .int (iI p3)], cO g1 6 [.ref g3, .int (iI e)], cA K g3 100 sg, cO g2 1 [.ref g4, .int (iI m4), .int (iI rc)], cA K g4 100 od4] rfl ?_
          refine g_st hC [] rfl ?_
          refine g_iinc (pc := 81) hC 0 [(4, _), (3, _), (2, _), (0, _), (1, _)] dX3_readOne_81 rfl (by decide) rfl ?_
          refine g_lv hC [0, 1, 2, 3, 4] [(4, .int (iI 1)), (3, _), (2, _), (0, _), (1, _)] rfl ?_
          refine g_goto (pc := 84) hC 61 dX3_readOne_84 (by decide) ?_
          refine g_iload (pc := 61) hC 0 dX3_readOne_61 rfl ?_
          refine g_iload_n (pc := 63) hC 2 dX3_readOne_63 rfl rfl ?_
          refine g_icmp_ge (pc := 64) hC 87 dX3_readOne_64 (by decide) (by omega) (by omega) (fun c64 => ?_) (fun c64 => by exfalso; omega)
          refine g_iload_n (pc := 87) hC 1 dX3_readOne_87 rfl rfl ?_
          exact g_zret (pc := 88) hR dX3_readOne_88 rfl (by omega) ⟨by omega, by omega⟩ (Nat.le_of_ble_eq_true rfl) ⟨r3, p3, nm3, m4, od4, (nt_l l3 1), rfl, rfl, (by first | assumption | omega), (by first | assumption | omega), (by first | assumption | omega), (by first | assumption | omega), (by first | assumption | omega), (px_fac_not (l4 := nt_l l3 1) rfl hq0 hz_47 (by rw [if_pos (show (1 - r3 : Int) = 0 by omega)]; rfl)), hL2_78, (by first | assumption | omega), (by first | omega | (simp only [nt_l, List.length_append, List.length_cons, List.length_nil]; omega)), (by first | assumption | omega)⟩
    · have hq1 : T ((p + 1)) = 33 := by omega
      have hlt1 := cr_lt hT (by omega) hq1 (by decide)
      refine g_iload_n (pc := 11) hC 2 dX3_readOne_11 rfl rfl ?_
      refine g_iload_n (pc := 12) hC 0 dX3_readOne_12 rfl rfl ?_
      refine g_iadd (pc := 13) hC dX3_readOne_13 ?_
      refine g_st hC [.int (iI (1))] rfl ?_
      refine g_iconst (pc := 14) hC dX3_readOne_14 ?_
      refine g_icmp_ge (pc := 15) hC 34 dX3_readOne_15 (by decide) (by omega) (by omega) (fun c15 => by exfalso; omega) (fun c15 => ?_)
      refine g_iinc (pc := 18) hC 0 [(2, _), (0, _), (1, _)] dX3_readOne_18 rfl (by decide) rfl ?_
      refine g_lv hC [0, 1, 2] [(2, .int (iI 2)), (0, _), (1, _)] rfl ?_
      skip
      refine g_aload_n (pc := 21) hC 1 dX3_readOne_21 rfl rfl ?_
      refine g_dup (pc := 22) hC dX3_readOne_22 rfl ?_
      refine g_get (pc := 23) hC 0 fl_X3_32 dX3_readOne_23 rfl rfl ?_
      refine g_iconst (pc := 26) hC dX3_readOne_26 ?_
      refine g_iadd (pc := 27) hC dX3_readOne_27 ?_
      refine g_putI (pc := 28) hC 0 [cO _ _ [_, _, _, _], _, _, _, _] fl_X3_32 dX3_readOne_28 rfl (Nat.le_of_ble_eq_true rfl) rfl ?_
      refine g_goto (pc := 31) hC 2 dX3_readOne_31 (by decide) ?_
      refine g_aload_n (pc := 2) hC 1 dX3_readOne_2 rfl rfl ?_
      refine g_fnV (pc := 3) (qr := 0) hC [0, 1, 2] (k_X3_sign _ _ _ _ _ _ _ _ _ (by first | assumption | omega) (by first | assumption | omega) (by first | assumption | omega) (by first | assumption | omega) (by first | assumption | omega) (by first | assumption | omega)) cl_X3_sign wm_X3_28 dX3_readOne_3 rfl rfl rfl rfl rfl (by decide) (by decide) ⟨by omega, by omega⟩ (Nat.le_of_ble_eq_true rfl) rfl rfl ?_
      refine g_name hC (fun y2 e_y2 => ?_)
      have q_y2 : -1 ≤ y2 ∧ y2 ≤ 127 := by rw [e_y2]; exact hT.2.2.1 _
      refine g_bipush (pc := 6) hC (33) dX3_readOne_6 (by decide) ?_
      refine g_icmp_ne (pc := 8) hC 34 dX3_readOne_8 (by decide) (by omega) (by omega) (fun c8 => ?_) (fun c8 => ?_)
      · have hn9 : ¬ T (((p + 1) + 1)) = 33 := by omega
        refine g_aload_n (pc := 34) hC 1 dX3_readOne_34 rfl rfl ?_
        refine g_fnV (pc := 35) (qr := 0) hC [0, 1, 2] (k_X3_sign _ _ _ _ _ _ _ _ _ (by first | assumption | omega) (by first | assumption | omega) (by first | assumption | omega) (by first | assumption | omega) (by first | assumption | omega) (by first | assumption | omega)) cl_X3_sign wm_X3_28 dX3_readOne_35 rfl rfl rfl rfl rfl (by decide) (by decide) ⟨by omega, by omega⟩ (Nat.le_of_ble_eq_true rfl) rfl rfl ?_
        refine g_name hC (fun y99 e_y99 => ?_)
        have q_y99 : -1 ≤ y99 ∧ y99 ≤ 127 := by rw [e_y99]; exact hT.2.2.1 _
        refine g_bipush (pc := 38) hC (40) dX3_readOne_38 (by decide) ?_
        refine g_icmp_ne (pc := 40) hC 53 dX3_readOne_40 (by decide) (by omega) (by omega) (fun c40 => ?_) (fun c40 => ?_)
        · refine g_aload_n (pc := 53) hC 1 dX3_readOne_53 rfl rfl ?_
          refine g_callV (pc := 54) (qr := 0) hC [0, 1, 2, 3, 4] (k_X3_readTest _ _ _ _ _ _ _ _ _ _ _ _ _ _ (by first | assumption | omega) (by first | assumption | omega) (by first | assumption | omega) (by first | assumption | omega) (by first | assumption | omega) (by first | assumption | omega) (by first | assumption | omega) (by first | assumption | omega) (by first | assumption | omega) (by first | assumption | omega) (by first | assumption | omega) (by first | assumption | omega)) cl_X3_readTest wm_X3_71 dX3_readOne_54 rfl rfl rfl rfl rfl (by decide) (by decide) (by omega) (Nat.le_of_ble_eq_true rfl) rfl (fun v9 w9 hq9 => ?_)
          obtain ⟨r3, p3, nm3, m3, od3, l3, rfl, rfl, r_r3, r_p3, r_nm3, r_m3, r_od3, hz_54, hL2_54, hb_54, hl2_54, hnm2_54⟩ := hq9
          refine g_ws hC [cO g0 3 [.ref g1, .ref g2, .int (iI nm3), .int (iI p3)], cO g1 6 [.ref g3, .int (iI e)], cA K g3 100 sg, cO g2 1 [.ref g4, .int (iI m3), .int (iI rc)], cA K g4 100 od3] rfl ?_
          refine g_st hC [.int (iI r3)] rfl ?_
          refine g_istore_n (pc := 57) hC [(3, _), (2, _), (0, _), (1, _)] dX3_readOne_57 rfl (by decide) rfl ?_
          refine g_iconst (pc := 58) hC dX3_readOne_58 ?_
          refine g_istore (pc := 59) hC [(4, _), (3, _), (2, _), (0, _), (1, _)] dX3_readOne_59 (by decide) rfl ?_
          refine g_iload (pc := 61) hC 0 dX3_readOne_61 rfl ?_
          refine g_iload_n (pc := 63) hC 2 dX3_readOne_63 rfl rfl ?_
          refine g_icmp_ge (pc := 64) hC 87 dX3_readOne_64 (by decide) (by omega) (by omega) (fun c64 => by exfalso; omega) (fun c64 => ?_)
          refine g_iload_n (pc := 67) hC 1 dX3_readOne_67 rfl rfl ?_
          refine g_if_eq (pc := 68) hC 87 dX3_readOne_68 (by decide) (by omega) (fun c68 => ?_) (fun c68 => ?_)
          · refine g_iload_n (pc := 87) hC 1 dX3_readOne_87 rfl rfl ?_
            exact g_zret (pc := 88) hR dX3_readOne_88 rfl (by omega) ⟨by omega, by omega⟩ (Nat.le_of_ble_eq_true rfl) ⟨r3, p3, nm3, m3, od3, l3, rfl, rfl, (by first | assumption | omega), (by first | assumption | omega), (by first | assumption | omega), (by first | assumption | omega), (by first | assumption | omega), (px_fac_not (l4 := l3) rfl hq0 (px_fac_not (l4 := l3) rfl hq1 (px_fac_t rfl hn9 (by omega) hz_54) (by rw [if_neg (show ¬ (1 - r3 : Int) = 0 by omega)])) (by rw [if_neg (show ¬ (1 - r3 : Int) = 0 by omega)])), hL2_54, (by first | assumption | omega), (by first | assumption | omega), (by first | assumption | omega)⟩
          · refine g_aload_n (pc := 71) hC 3 dX3_readOne_71 rfl rfl ?_
            refine g_get (pc := 72) hC 0 fl_X3_15 dX3_readOne_72 rfl rfl ?_
            refine g_bipush (pc := 75) hC (6) dX3_readOne_75 (by decide) ?_
            refine g_iconst (pc := 77) hC dX3_readOne_77 ?_
            refine g_callV (pc := 78) (qr := 3) hC [3, 4] (k_X1_put _ _ _ _ _ _ _ (nt_l l3 0) (-1) (by first | assumption | omega) (by first | assumption | omega) (by first | assumption | omega) (by first | assumption | omega) (by first | assumption | omega) (by first | omega | (simp only [nt_l, List.length_append, List.length_cons, List.length_nil]; omega)) (by decide +kernel) (by decide)) cl_X1_put wm_X3_61 dX3_readOne_78 rfl rfl rfl rfl rfl (by decide) (by decide) (by omega) (Nat.le_of_ble_eq_true rfl) rfl (fun v9 w9 hq9 => ?_)
            obtain ⟨m4, od4, rfl, rfl, r_m4, r_od4, hL2_78, hm2_78⟩ := hq9
            refine g_ws hC [cO g0 3 [.ref g1, .ref g2, .int (iI nm3), .int (iI p3)], cO g1 6 [.ref g3, .int (iI e)], cA K g3 100 sg, cO g2 1 [.ref g4, .int (iI m4), .int (iI rc)], cA K g4 100 od4] rfl ?_
            refine g_st hC [] rfl ?_
            refine g_iinc (pc := 81) hC 0 [(4, _), (3, _), (2, _), (0, _), (1, _)] dX3_readOne_81 rfl (by decide) rfl ?_
            refine g_lv hC [0, 1, 2, 3, 4] [(4, .int (iI 1)), (3, _), (2, _), (0, _), (1, _)] rfl ?_
            refine g_goto (pc := 84) hC 61 dX3_readOne_84 (by decide) ?_
            refine g_iload (pc := 61) hC 0 dX3_readOne_61 rfl ?_
            refine g_iload_n (pc := 63) hC 2 dX3_readOne_63 rfl rfl ?_
            refine g_icmp_ge (pc := 64) hC 87 dX3_readOne_64 (by decide) (by omega) (by omega) (fun c64 => by exfalso; omega) (fun c64 => ?_)
            refine g_iload_n (pc := 67) hC 1 dX3_readOne_67 rfl rfl ?_
            refine g_if_eq (pc := 68) hC 87 dX3_readOne_68 (by decide) (by omega) (fun c68 => by exfalso; omega) (fun c68 => ?_)
            refine g_aload_n (pc := 71) hC 3 dX3_readOne_71 rfl rfl ?_
            refine g_get (pc := 72) hC 0 fl_X3_15 dX3_readOne_72 rfl rfl ?_
            refine g_bipush (pc := 75) hC (6) dX3_readOne_75 (by decide) ?_
            refine g_iconst (pc := 77) hC dX3_readOne_77 ?_
            refine g_callV (pc := 78) (qr := 3) hC [3, 4] (k_X1_put _ _ _ _ _ _ _ (nt_l l3 1) (-1) (by first | assumption | omega) (by first | assumption | omega) (by first | assumption | omega) (by first | assumption | omega) (by first | assumption | omega) (by first | omega | (simp only [nt_l, List.length_append, List.length_cons, List.length_nil]; omega)) (by decide +kernel) (by decide)) cl_X1_put wm_X3_61 dX3_readOne_78 rfl rfl rfl rfl rfl (by decide) (by decide) (by omega) (Nat.le_of_ble_eq_true rfl) rfl (fun v9 w9 hq9 => ?_)
            obtain ⟨m4, od4, rfl, rfl, r_m4, r_od4, hL2_78, hm2_78⟩ := hq9
            refine g_ws hC [cO g0 3 [.ref g1, .ref g2, .int (iI nm3), .int (iI p3)], cO g1 6 [.ref g3, .int (iI e)], cA K g3 100 sg, cO g2 1 [.ref g4, .int (iI m4), .int (iI rc)], cA K g4 100 od4] rfl ?_
            refine g_st hC [] rfl ?_
            refine g_iinc (pc := 81) hC 0 [(4, _), (3, _), (2, _), (0, _), (1, _)] dX3_readOne_81 rfl (by decide) rfl ?_
            refine g_lv hC [0, 1, 2, 3, 4] [(4, .int (iI 2)), (3, _), (2, _), (0, _), (1, _)] rfl ?_
            refine g_goto (pc := 84) hC 61 dX3_readOne_84 (by decide) ?_
            refine g_iload (pc := 61) hC 0 dX3_readOne_61 rfl ?_
            refine g_iload_n (pc := 63) hC 2 dX3_readOne_63 rfl rfl ?_
            refine g_icmp_ge (pc := 64) hC 87 dX3_readOne_64 (by decide) (by omega) (by omega) (fun c64 => ?_) (fun c64 => by exfalso; omega)
            refine g_iload_n (pc := 87) hC 1 dX3_readOne_87 rfl rfl ?_
            exact g_zret (pc := 88) hR dX3_readOne_88 rfl (by omega) ⟨by omega, by omega⟩ (Nat.le_of_ble_eq_true rfl) ⟨r3, p3, nm3, m4, od4, (nt_l l3 2), rfl, rfl, (by first | assumption | omega), (by first | assumption | omega), (by first | assumption | omega), (by first | assumption | omega), (by first | assumption | omega), (px_fac_not (l4 := nt_l l3 2) rfl hq0 (px_fac_not (l4 := nt_l l3 1) rfl hq1 (px_fac_t rfl hn9 (by omega) hz_54) (by rw [if_pos (show (1 - r3 : Int) = 0 by omega)]; rfl)) (by rw [if_pos (show (1 - r3 : Int) = 0 by omega)]; rfl)), hL2_78, (by first | assumption | omega), (by first | omega | (simp only [nt_l, List.length_append, List.length_cons, List.length_nil]; omega)), (by first | assumption | omega)⟩
        · have hlt9 := cr_lt hT (by omega) (show T (((p + 1) + 1)) = 40 by omega) (by decide)
          refine g_aload_n (pc := 43) hC 1 dX3_readOne_43 rfl rfl ?_
          refine g_iload_n (pc := 44) hC 2 dX3_readOne_44 rfl rfl ?_
          refine g_iload_n (pc := 45) hC 0 dX3_readOne_45 rfl rfl ?_
          refine g_iadd (pc := 46) hC dX3_readOne_46 ?_
          refine g_st hC [.int (iI (2)), _] rfl ?_
          refine g_callV (pc := 47) (qr := 0) hC [0, 1, 2, 3, 4] (k_X3_readInBrackets_2 _ _ _ _ _ _ _ _ _ _ _ _ _ _ (by first | assumption | omega) (by first | assumption | omega) (by first | assumption | omega) (by first | assumption | omega) (by first | assumption | omega) (by first | assumption | omega) (by first | assumption | omega) (by first | assumption | omega) (by first | assumption | omega) (by first | assumption | omega) (by first | assumption | omega) (by first | assumption | omega) (by first | assumption | omega)) cl_X3_readInBrackets wm_X3_68 dX3_readOne_47 rfl rfl rfl rfl rfl (by decide) (by decide) (by omega) (Nat.le_of_ble_eq_true rfl) rfl (fun v9 w9 hq9 => ?_)
          obtain ⟨r3, p3, nm3, m3, od3, l3, rfl, rfl, r_r3, r_p3, r_nm3, r_m3, r_od3, hz_47, hL2_47, hb_47, hl2_47, hnm2_47⟩ := hq9
          refine g_ws hC [cO g0 3 [.ref g1, .ref g2, .int (iI nm3), .int (iI p3)], cO g1 6 [.ref g3, .int (iI e)], cA K g3 100 sg, cO g2 1 [.ref g4, .int (iI m3), .int (iI rc)], cA K g4 100 od3] rfl ?_
          refine g_st hC [.int (iI r3)] rfl ?_
          refine g_goto (pc := 50) hC 57 dX3_readOne_50 (by decide) ?_
          refine g_istore_n (pc := 57) hC [(3, _), (2, _), (0, _), (1, _)] dX3_readOne_57 rfl (by decide) rfl ?_
          refine g_iconst (pc := 58) hC dX3_readOne_58 ?_
          refine g_istore (pc := 59) hC [(4, _), (3, _), (2, _), (0, _), (1, _)] dX3_readOne_59 (by decide) rfl ?_
          refine g_iload (pc := 61) hC 0 dX3_readOne_61 rfl ?_
          refine g_iload_n (pc := 63) hC 2 dX3_readOne_63 rfl rfl ?_
          refine g_icmp_ge (pc := 64) hC 87 dX3_readOne_64 (by decide) (by omega) (by omega) (fun c64 => by exfalso; omega) (fun c64 => ?_)
          refine g_iload_n (pc := 67) hC 1 dX3_readOne_67 rfl rfl ?_
          refine g_if_eq (pc := 68) hC 87 dX3_readOne_68 (by decide) (by omega) (fun c68 => ?_) (fun c68 => ?_)
          · refine g_iload_n (pc := 87) hC 1 dX3_readOne_87 rfl rfl ?_
            exact g_zret (pc := 88) hR dX3_readOne_88 rfl (by omega) ⟨by omega, by omega⟩ (Nat.le_of_ble_eq_true rfl) ⟨r3, p3, nm3, m3, od3, l3, rfl, rfl, (by first | assumption | omega), (by first | assumption | omega), (by first | assumption | omega), (by first | assumption | omega), (by first | assumption | omega), (px_fac_not (l4 := l3) rfl hq0 (px_fac_not (l4 := l3) rfl hq1 hz_47 (by rw [if_neg (show ¬ (1 - r3 : Int) = 0 by omega)])) (by rw [if_neg (show ¬ (1 - r3 : Int) = 0 by omega)])), hL2_47, (by first | assumption | omega), (by first | assumption | omega), (by first | assumption | omega)⟩
          · refine g_aload_n (pc := 71) hC 3 dX3_readOne_71 rfl rfl ?_
            refine g_get (pc := 72) hC 0 fl_X3_15 dX3_readOne_72 rfl rfl ?_
            refine g_bipush (pc := 75) hC (6) dX3_readOne_75 (by decide) ?_
            refine g_iconst (pc := 77) hC dX3_readOne_77 ?_
            refine g_callV (pc := 78) (qr := 3) hC [3, 4] (k_X1_put _ _ _ _ _ _ _ (nt_l l3 0) (-1) (by first | assumption | omega) (by first | assumption | omega) (by first | assumption | omega) (by first | assumption | omega) (by first | assumption | omega) (by first | omega | (simp only [nt_l, List.length_append, List.length_cons, List.length_nil]; omega)) (by decide +kernel) (by decide)) cl_X1_put wm_X3_61 dX3_readOne_78 rfl rfl rfl rfl rfl (by decide) (by decide) (by omega) (Nat.le_of_ble_eq_true rfl) rfl (fun v9 w9 hq9 => ?_)
            obtain ⟨m4, od4, rfl, rfl, r_m4, r_od4, hL2_78, hm2_78⟩ := hq9
            refine g_ws hC [cO g0 3 [.ref g1, .ref g2, .int (iI nm3), .int (iI p3)], cO g1 6 [.ref g3, .int (iI e)], cA K g3 100 sg, cO g2 1 [.ref g4, .int (iI m4), .int (iI rc)], cA K g4 100 od4] rfl ?_
            refine g_st hC [] rfl ?_
            refine g_iinc (pc := 81) hC 0 [(4, _), (3, _), (2, _), (0, _), (1, _)] dX3_readOne_81 rfl (by decide) rfl ?_
            refine g_lv hC [0, 1, 2, 3, 4] [(4, .int (iI 1)), (3, _), (2, _), (0, _), (1, _)] rfl ?_
            refine g_goto (pc := 84) hC 61 dX3_readOne_84 (by decide) ?_
            refine g_iload (pc := 61) hC 0 dX3_readOne_61 rfl ?_
            refine g_iload_n (pc := 63) hC 2 dX3_readOne_63 rfl rfl ?_
            refine g_icmp_ge (pc := 64) hC 87 dX3_readOne_64 (by decide) (by omega) (by omega) (fun c64 => by exfalso; omega) (fun c64 => ?_)
            refine g_iload_n (pc := 67) hC 1 dX3_readOne_67 rfl rfl ?_
            refine g_if_eq (pc := 68) hC 87 dX3_readOne_68 (by decide) (by omega) (fun c68 => by exfalso; omega) (fun c68 => ?_)
            refine g_aload_n (pc := 71) hC 3 dX3_readOne_71 rfl rfl ?_
            refine g_get (pc := 72) hC 0 fl_X3_15 dX3_readOne_72 rfl rfl ?_
            refine g_bipush (pc := 75) hC (6) dX3_readOne_75 (by decide) ?_
            refine g_iconst (pc := 77) hC dX3_readOne_77 ?_
            refine g_callV (pc := 78) (qr := 3) hC [3, 4] (k_X1_put _ _ _ _ _ _ _ (nt_l l3 1) (-1) (by first | assumption | omega) (by first | assumption | omega) (by first | assumption | omega) (by first | assumption | omega) (by first | assumption | omega) (by first | omega | (simp only [nt_l, List.length_append, List.length_cons, List.length_nil]; omega)) (by decide +kernel) (by decide)) cl_X1_put wm_X3_61 dX3_readOne_78 rfl rfl rfl rfl rfl (by decide) (by decide) (by omega) (Nat.le_of_ble_eq_true rfl) rfl (fun v9 w9 hq9 => ?_)
            obtain ⟨m4, od4, rfl, rfl, r_m4, r_od4, hL2_78, hm2_78⟩ := hq9
            refine g_ws hC [cO g0 3 [.ref g1, .ref g2, .int (iI nm3), .int (iI p3)], cO g1 6 [.ref g3, .int (iI e)], cA K g3 100 sg, cO g2 1 [.ref g4, .int (iI m4), .int (iI rc)], cA K g4 100 od4] rfl ?_
            refine g_st hC [] rfl ?_
            refine g_iinc (pc := 81) hC 0 [(4, _), (3, _), (2, _), (0, _), (1, _)] dX3_readOne_81 rfl (by decide) rfl ?_
            refine g_lv hC [0, 1, 2, 3, 4] [(4, .int (iI 2)), (3, _), (2, _), (0, _), (1, _)] rfl ?_
            refine g_goto (pc := 84) hC 61 dX3_readOne_84 (by decide) ?_
            refine g_iload (pc := 61) hC 0 dX3_readOne_61 rfl ?_
            refine g_iload_n (pc := 63) hC 2 dX3_readOne_63 rfl rfl ?_
            refine g_icmp_ge (pc := 64) hC 87 dX3_readOne_64 (by decide) (by omega) (by omega) (fun c64 => ?_) (fun c64 => by exfalso; omega)
            refine g_iload_n (pc := 87) hC 1 dX3_readOne_87 rfl rfl ?_
            exact g_zret (pc := 88) hR dX3_readOne_88 rfl (by omega) ⟨by omega, by omega⟩ (Nat.le_of_ble_eq_true rfl) ⟨r3, p3, nm3, m4, od4, (nt_l l3 2), rfl, rfl, (by first | assumption | omega), (by first | assumption | omega), (by first | assumption | omega), (by first | assumption | omega), (by first | assumption | omega), (px_fac_not (l4 := nt_l l3 2) rfl hq0 (px_fac_not (l4 := nt_l l3 1) rfl hq1 hz_47 (by rw [if_pos (show (1 - r3 : Int) = 0 by omega)]; rfl)) (by rw [if_pos (show (1 - r3 : Int) = 0 by omega)]; rfl)), hL2_78, (by first | assumption | omega), (by first | omega | (simp only [nt_l, List.length_append, List.length_cons, List.length_nil]; omega)), (by first | assumption | omega)⟩
      · have hq2 : T (((p + 1) + 1)) = 33 := by omega
        have hlt2 := cr_lt hT (by omega) hq2 (by decide)
        refine g_iload_n (pc := 11) hC 2 dX3_readOne_11 rfl rfl ?_
        refine g_iload_n (pc := 12) hC 0 dX3_readOne_12 rfl rfl ?_
        refine g_iadd (pc := 13) hC dX3_readOne_13 ?_
        refine g_st hC [.int (iI (2))] rfl ?_
        refine g_iconst (pc := 14) hC dX3_readOne_14 ?_
        refine g_icmp_ge (pc := 15) hC 34 dX3_readOne_15 (by decide) (by omega) (by omega) (fun c15 => by exfalso; omega) (fun c15 => ?_)
        refine g_iinc (pc := 18) hC 0 [(2, _), (0, _), (1, _)] dX3_readOne_18 rfl (by decide) rfl ?_
        refine g_lv hC [0, 1, 2] [(2, .int (iI 3)), (0, _), (1, _)] rfl ?_
        skip
        refine g_aload_n (pc := 21) hC 1 dX3_readOne_21 rfl rfl ?_
        refine g_dup (pc := 22) hC dX3_readOne_22 rfl ?_
        refine g_get (pc := 23) hC 0 fl_X3_32 dX3_readOne_23 rfl rfl ?_
        refine g_iconst (pc := 26) hC dX3_readOne_26 ?_
        refine g_iadd (pc := 27) hC dX3_readOne_27 ?_
        refine g_putI (pc := 28) hC 0 [cO _ _ [_, _, _, _], _, _, _, _] fl_X3_32 dX3_readOne_28 rfl (Nat.le_of_ble_eq_true rfl) rfl ?_
        refine g_goto (pc := 31) hC 2 dX3_readOne_31 (by decide) ?_
        refine g_aload_n (pc := 2) hC 1 dX3_readOne_2 rfl rfl ?_
        refine g_fnV (pc := 3) (qr := 0) hC [0, 1, 2] (k_X3_sign _ _ _ _ _ _ _ _ _ (by first | assumption | omega) (by first | assumption | omega) (by first | assumption | omega) (by first | assumption | omega) (by first | assumption | omega) (by first | assumption | omega)) cl_X3_sign wm_X3_28 dX3_readOne_3 rfl rfl rfl rfl rfl (by decide) (by decide) ⟨by omega, by omega⟩ (Nat.le_of_ble_eq_true rfl) rfl rfl ?_
        refine g_name hC (fun y3 e_y3 => ?_)
        have q_y3 : -1 ≤ y3 ∧ y3 ≤ 127 := by rw [e_y3]; exact hT.2.2.1 _
        refine g_bipush (pc := 6) hC (33) dX3_readOne_6 (by decide) ?_
        refine g_icmp_ne (pc := 8) hC 34 dX3_readOne_8 (by decide) (by omega) (by omega) (fun c8 => ?_) (fun c8 => ?_)
        · have hn9 : ¬ T ((((p + 1) + 1) + 1)) = 33 := by omega
          refine g_aload_n (pc := 34) hC 1 dX3_readOne_34 rfl rfl ?_
          refine g_fnV (pc := 35) (qr := 0) hC [0, 1, 2] (k_X3_sign _ _ _ _ _ _ _ _ _ (by first | assumption | omega) (by first | assumption | omega) (by first | assumption | omega) (by first | assumption | omega) (by first | assumption | omega) (by first | assumption | omega)) cl_X3_sign wm_X3_28 dX3_readOne_35 rfl rfl rfl rfl rfl (by decide) (by decide) ⟨by omega, by omega⟩ (Nat.le_of_ble_eq_true rfl) rfl rfl ?_
          refine g_name hC (fun y99 e_y99 => ?_)
          have q_y99 : -1 ≤ y99 ∧ y99 ≤ 127 := by rw [e_y99]; exact hT.2.2.1 _
          refine g_bipush (pc := 38) hC (40) dX3_readOne_38 (by decide) ?_
          refine g_icmp_ne (pc := 40) hC 53 dX3_readOne_40 (by decide) (by omega) (by omega) (fun c40 => ?_) (fun c40 => ?_)
          · refine g_aload_n (pc := 53) hC 1 dX3_readOne_53 rfl rfl ?_
            refine g_callV (pc := 54) (qr := 0) hC [0, 1, 2, 3, 4] (k_X3_readTest _ _ _ _ _ _ _ _ _ _ _ _ _ _ (by first | assumption | omega) (by first | assumption | omega) (by first | assumption | omega) (by first | assumption | omega) (by first | assumption | omega) (by first | assumption | omega) (by first | assumption | omega) (by first | assumption | omega) (by first | assumption | omega) (by first | assumption | omega) (by first | assumption | omega) (by first | assumption | omega)) cl_X3_readTest wm_X3_71 dX3_readOne_54 rfl rfl rfl rfl rfl (by decide) (by decide) (by omega) (Nat.le_of_ble_eq_true rfl) rfl (fun v9 w9 hq9 => ?_)
            obtain ⟨r3, p3, nm3, m3, od3, l3, rfl, rfl, r_r3, r_p3, r_nm3, r_m3, r_od3, hz_54, hL2_54, hb_54, hl2_54, hnm2_54⟩ := hq9
            refine g_ws hC [cO g0 3 [.ref g1, .ref g2, .int (iI nm3), .int (iI p3)], cO g1 6 [.ref g3, .int (iI e)], cA K g3 100 sg, cO g2 1 [.ref g4, .int (iI m3), .int (iI rc)], cA K g4 100 od3] rfl ?_
            refine g_st hC [.int (iI r3)] rfl ?_
            refine g_istore_n (pc := 57) hC [(3, _), (2, _), (0, _), (1, _)] dX3_readOne_57 rfl (by decide) rfl ?_
            refine g_iconst (pc := 58) hC dX3_readOne_58 ?_
            refine g_istore (pc := 59) hC [(4, _), (3, _), (2, _), (0, _), (1, _)] dX3_readOne_59 (by decide) rfl ?_
            refine g_iload (pc := 61) hC 0 dX3_readOne_61 rfl ?_
            refine g_iload_n (pc := 63) hC 2 dX3_readOne_63 rfl rfl ?_
            refine g_icmp_ge (pc := 64) hC 87 dX3_readOne_64 (by decide) (by omega) (by omega) (fun c64 => by exfalso; omega) (fun c64 => ?_)
            refine g_iload_n (pc := 67) hC 1 dX3_readOne_67 rfl rfl ?_
            refine g_if_eq (pc := 68) hC 87 dX3_readOne_68 (by decide) (by omega) (fun c68 => ?_) (fun c68 => ?_)
            · refine g_iload_n (pc := 87) hC 1 dX3_readOne_87 rfl rfl ?_
              exact g_zret (pc := 88) hR dX3_readOne_88 rfl (by omega) ⟨by omega, by omega⟩ (Nat.le_of_ble_eq_true rfl) ⟨r3, p3, nm3, m3, od3, l3, rfl, rfl, (by first | assumption | omega), (by first | assumption | omega), (by first | assumption | omega), (by first | assumption | omega), (by first | assumption | omega), (px_fac_not (l4 := l3) rfl hq0 (px_fac_not (l4 := l3) rfl hq1 (px_fac_not (l4 := l3) rfl hq2 (px_fac_t rfl hn9 (by omega) hz_54) (by rw [if_neg (show ¬ (1 - r3 : Int) = 0 by omega)])) (by rw [if_neg (show ¬ (1 - r3 : Int) = 0 by omega)])) (by rw [if_neg (show ¬ (1 - r3 : Int) = 0 by omega)])), hL2_54, (by first | assumption | omega), (by first | assumption | omega), (by first | assumption | omega)⟩
            · refine g_aload_n (pc := 71) hC 3 dX3_readOne_71 rfl rfl ?_
              refine g_get (pc := 72) hC 0 fl_X3_15 dX3_readOne_72 rfl rfl ?_
              refine g_bipush (pc := 75) hC (6) dX3_readOne_75 (by decide) ?_
              refine g_iconst (pc := 77) hC dX3_readOne_77 ?_
              refine g_callV (pc := 78) (qr := 3) hC [3, 4] (k_X1_put _ _ _ _ _ _ _ (nt_l l3 0) (-1) (by first | assumption | omega) (by first | assumption | omega) (by first | assumption | omega) (by first | assumption | omega) (by first | assumption | omega) (by first | omega | (simp only [nt_l, List.length_append, List.length_cons, List.length_nil]; omega)) (by decide +kernel) (by decide)) cl_X1_put wm_X3_61 dX3_readOne_78 rfl rfl rfl rfl rfl (by decide) (by decide) (by omega) (Nat.le_of_ble_eq_true rfl) rfl (fun v9 w9 hq9 => ?_)
              obtain ⟨m4, od4, rfl, rfl, r_m4, r_od4, hL2_78, hm2_78⟩ := hq9
              refine g_ws hC [cO g0 3 [.ref g1, .ref g2, .int (iI nm3), .int (iI p3)], cO g1 6 [.ref g3, .int (iI e)], cA K g3 100 sg, cO g2 1 [.ref g4, .int (iI m4), .int (iI rc)], cA K g4 100 od4] rfl ?_
              refine g_st hC [] rfl ?_
              refine g_iinc (pc := 81) hC 0 [(4, _), (3, _), (2, _), (0, _), (1, _)] dX3_readOne_81 rfl (by decide) rfl ?_
              refine g_lv hC [0, 1, 2, 3, 4] [(4, .int (iI 1)), (3, _), (2, _), (0, _), (1, _)] rfl ?_
              refine g_goto (pc := 84) hC 61 dX3_readOne_84 (by decide) ?_
              refine g_iload (pc := 61) hC 0 dX3_readOne_61 rfl ?_
              refine g_iload_n (pc := 63) hC 2 dX3_readOne_63 rfl rfl ?_
              refine g_icmp_ge (pc := 64) hC 87 dX3_readOne_64 (by decide) (by omega) (by omega) (fun c64 => by exfalso; omega) (fun c64 => ?_)
              refine g_iload_n (pc := 67) hC 1 dX3_readOne_67 rfl rfl ?_
              refine g_if_eq (pc := 68) hC 87 dX3_readOne_68 (by decide) (by omega) (fun c68 => by exfalso; omega) (fun c68 => ?_)
              refine g_aload_n (pc := 71) hC 3 dX3_readOne_71 rfl rfl ?_
              refine g_get (pc := 72) hC 0 fl_X3_15 dX3_readOne_72 rfl rfl ?_
              refine g_bipush (pc := 75) hC (6) dX3_readOne_75 (by decide) ?_
              refine g_iconst (pc := 77) hC dX3_readOne_77 ?_
              refine g_callV (pc := 78) (qr := 3) hC [3, 4] (k_X1_put _ _ _ _ _ _ _ (nt_l l3 1) (-1) (by first | assumption | omega) (by first | assumption | omega) (by first | assumption | omega) (by first | assumption | omega) (by first | assumption | omega) (by first | omega | (simp only [nt_l, List.length_append, List.length_cons, List.length_nil]; omega)) (by decide +kernel) (by decide)) cl_X1_put wm_X3_61 dX3_readOne_78 rfl rfl rfl rfl rfl (by decide) (by decide) (by omega) (Nat.le_of_ble_eq_true rfl) rfl (fun v9 w9 hq9 => ?_)
              obtain ⟨m4, od4, rfl, rfl, r_m4, r_od4, hL2_78, hm2_78⟩ := hq9
              refine g_ws hC [cO g0 3 [.ref g1, .ref g2, .int (iI nm3), .int (iI p3)], cO g1 6 [.ref g3, .int (iI e)], cA K g3 100 sg, cO g2 1 [.ref g4, .int (iI m4), .int (iI rc)], cA K g4 100 od4] rfl ?_
              refine g_st hC [] rfl ?_
              refine g_iinc (pc := 81) hC 0 [(4, _), (3, _), (2, _), (0, _), (1, _)] dX3_readOne_81 rfl (by decide) rfl ?_
              refine g_lv hC [0, 1, 2, 3, 4] [(4, .int (iI 2)), (3, _), (2, _), (0, _), (1, _)] rfl ?_
              refine g_goto (pc := 84) hC 61 dX3_readOne_84 (by decide) ?_
              refine g_iload (pc := 61) hC 0 dX3_readOne_61 rfl ?_
              refine g_iload_n (pc := 63) hC 2 dX3_readOne_63 rfl rfl ?_
              refine g_icmp_ge (pc := 64) hC 87 dX3_readOne_64 (by decide) (by omega) (by omega) (fun c64 => by exfalso; omega) (fun c64 => ?_)
              refine g_iload_n (pc := 67) hC 1 dX3_readOne_67 rfl rfl ?_
              refine g_if_eq (pc := 68) hC 87 dX3_readOne_68 (by decide) (by omega) (fun c68 => by exfalso; omega) (fun c68 => ?_)
              refine g_aload_n (pc := 71) hC 3 dX3_readOne_71 rfl rfl ?_
              refine g_get (pc := 72) hC 0 fl_X3_15 dX3_readOne_72 rfl rfl ?_
              refine g_bipush (pc := 75) hC (6) dX3_readOne_75 (by decide) ?_
              refine g_iconst (pc := 77) hC dX3_readOne_77 ?_
              refine g_callV (pc := 78) (qr := 3) hC [3, 4] (k_X1_put _ _ _ _ _ _ _ (nt_l l3 2) (-1) (by first | assumption | omega) (by first | assumption | omega) (by first | assumption | omega) (by first | assumption | omega) (by first | assumption | omega) (by first | omega | (simp only [nt_l, List.length_append, List.length_cons, List.length_nil]; omega)) (by decide +kernel) (by decide)) cl_X1_put wm_X3_61 dX3_readOne_78 rfl rfl rfl rfl rfl (by decide) (by decide) (by omega) (Nat.le_of_ble_eq_true rfl) rfl (fun v9 w9 hq9 => ?_)
              obtain ⟨m4, od4, rfl, rfl, r_m4, r_od4, hL2_78, hm2_78⟩ := hq9
              refine g_ws hC [cO g0 3 [.ref g1, .ref g2, .int (iI nm3), .int (iI p3)], cO g1 6 [.ref g3, .int (iI e)], cA K g3 100 sg, cO g2 1 [.ref g4, .int (iI m4), .int (iI rc)], cA K g4 100 od4] rfl ?_
              refine g_st hC [] rfl ?_
              refine g_iinc (pc := 81) hC 0 [(4, _), (3, _), (2, _), (0, _), (1, _)] dX3_readOne_81 rfl (by decide) rfl ?_
              refine g_lv hC [0, 1, 2, 3, 4] [(4, .int (iI 3)), (3, _), (2, _), (0, _), (1, _)] rfl ?_
              refine g_goto (pc := 84) hC 61 dX3_readOne_84 (by decide) ?_
              refine g_iload (pc := 61) hC 0 dX3_readOne_61 rfl ?_
              refine g_iload_n (pc := 63) hC 2 dX3_readOne_63 rfl rfl ?_
              refine g_icmp_ge (pc := 64) hC 87 dX3_readOne_64 (by decide) (by omega) (by omega) (fun c64 => ?_) (fun c64 => by exfalso; omega)
              refine g_iload_n (pc := 87) hC 1 dX3_readOne_87 rfl rfl ?_
              exact g_zret (pc := 88) hR dX3_readOne_88 rfl (by omega) ⟨by omega, by omega⟩ (Nat.le_of_ble_eq_true rfl) ⟨r3, p3, nm3, m4, od4, (nt_l l3 3), rfl, rfl, (by first | assumption | omega), (by first | assumption | omega), (by first | assumption | omega), (by first | assumption | omega), (by first | assumption | omega), (px_fac_not (l4 := nt_l l3 3) rfl hq0 (px_fac_not (l4 := nt_l l3 2) rfl hq1 (px_fac_not (l4 := nt_l l3 1) rfl hq2 (px_fac_t rfl hn9 (by omega) hz_54) (by rw [if_pos (show (1 - r3 : Int) = 0 by omega)]; rfl)) (by rw [if_pos (show (1 - r3 : Int) = 0 by omega)]; rfl)) (by rw [if_pos (show (1 - r3 : Int) = 0 by omega)]; rfl)), hL2_78, (by first | assumption | omega), (by first | omega | (simp only [nt_l, List.length_append, List.length_cons, List.length_nil]; omega)), (by first | assumption | omega)⟩
          · have hlt9 := cr_lt hT (by omega) (show T ((((p + 1) + 1) + 1)) = 40 by omega) (by decide)
            refine g_aload_n (pc := 43) hC 1 dX3_readOne_43 rfl rfl ?_
            refine g_iload_n (pc := 44) hC 2 dX3_readOne_44 rfl rfl ?_
            refine g_iload_n (pc := 45) hC 0 dX3_readOne_45 rfl rfl ?_
            refine g_iadd (pc := 46) hC dX3_readOne_46 ?_
            refine g_st hC [.int (iI (3)), _] rfl ?_
            refine g_callV (pc := 47) (qr := 0) hC [0, 1, 2, 3, 4] (k_X3_readInBrackets_3 _ _ _ _ _ _ _ _ _ _ _ _ _ _ (by first | assumption | omega) (by first | assumption | omega) (by first | assumption | omega) (by first | assumption | omega) (by first | assumption | omega) (by first | assumption | omega) (by first | assumption | omega) (by first | assumption | omega) (by first | assumption | omega) (by first | assumption | omega) (by first | assumption | omega) (by first | assumption | omega) (by first | assumption | omega)) cl_X3_readInBrackets wm_X3_68 dX3_readOne_47 rfl rfl rfl rfl rfl (by decide) (by decide) (by omega) (Nat.le_of_ble_eq_true rfl) rfl (fun v9 w9 hq9 => ?_)
            obtain ⟨r3, p3, nm3, m3, od3, l3, rfl, rfl, r_r3, r_p3, r_nm3, r_m3, r_od3, hz_47, hL2_47, hb_47, hl2_47, hnm2_47⟩ := hq9
            refine g_ws hC [cO g0 3 [.ref g1, .ref g2, .int (iI nm3), .int (iI p3)], cO g1 6 [.ref g3, .int (iI e)], cA K g3 100 sg, cO g2 1 [.ref g4, .int (iI m3), .int (iI rc)], cA K g4 100 od3] rfl ?_
            refine g_st hC [.int (iI r3)] rfl ?_
            refine g_goto (pc := 50) hC 57 dX3_readOne_50 (by decide) ?_
            refine g_istore_n (pc := 57) hC [(3, _), (2, _), (0, _), (1, _)] dX3_readOne_57 rfl (by decide) rfl ?_
            refine g_iconst (pc := 58) hC dX3_readOne_58 ?_
            refine g_istore (pc := 59) hC [(4, _), (3, _), (2, _), (0, _), (1, _)] dX3_readOne_59 (by decide) rfl ?_
            refine g_iload (pc := 61) hC 0 dX3_readOne_61 rfl ?_
            refine g_iload_n (pc := 63) hC 2 dX3_readOne_63 rfl rfl ?_
            refine g_icmp_ge (pc := 64) hC 87 dX3_readOne_64 (by decide) (by omega) (by omega) (fun c64 => by exfalso; omega) (fun c64 => ?_)
            refine g_iload_n (pc := 67) hC 1 dX3_readOne_67 rfl rfl ?_
            refine g_if_eq (pc := 68) hC 87 dX3_readOne_68 (by decide) (by omega) (fun c68 => ?_) (fun c68 => ?_)
            · refine g_iload_n (pc := 87) hC 1 dX3_readOne_87 rfl rfl ?_
              exact g_zret (pc := 88) hR dX3_readOne_88 rfl (by omega) ⟨by omega, by omega⟩ (Nat.le_of_ble_eq_true rfl) ⟨r3, p3, nm3, m3, od3, l3, rfl, rfl, (by first | assumption | omega), (by first | assumption | omega), (by first | assumption | omega), (by first | assumption | omega), (by first | assumption | omega), (px_fac_not (l4 := l3) rfl hq0 (px_fac_not (l4 := l3) rfl hq1 (px_fac_not (l4 := l3) rfl hq2 hz_47 (by rw [if_neg (show ¬ (1 - r3 : Int) = 0 by omega)])) (by rw [if_neg (show ¬ (1 - r3 : Int) = 0 by omega)])) (by rw [if_neg (show ¬ (1 - r3 : Int) = 0 by omega)])), hL2_47, (by first | assumption | omega), (by first | assumption | omega), (by first | assumption | omega)⟩
            · refine g_aload_n (pc := 71) hC 3 dX3_readOne_71 rfl rfl ?_
              refine g_get (pc := 72) hC 0 fl_X3_15 dX3_readOne_72 rfl rfl ?_
              refine g_bipush (pc := 75) hC (6) dX3_readOne_75 (by decide) ?_
              refine g_iconst (pc := 77) hC dX3_readOne_77 ?_
              refine g_callV (pc := 78) (qr := 3) hC [3, 4] (k_X1_put _ _ _ _ _ _ _ (nt_l l3 0) (-1) (by first | assumption | omega) (by first | assumption | omega) (by first | assumption | omega) (by first | assumption | omega) (by first | assumption | omega) (by first | omega | (simp only [nt_l, List.length_append, List.length_cons, List.length_nil]; omega)) (by decide +kernel) (by decide)) cl_X1_put wm_X3_61 dX3_readOne_78 rfl rfl rfl rfl rfl (by decide) (by decide) (by omega) (Nat.le_of_ble_eq_true rfl) rfl (fun v9 w9 hq9 => ?_)
              obtain ⟨m4, od4, rfl, rfl, r_m4, r_od4, hL2_78, hm2_78⟩ := hq9
              refine g_ws hC [cO g0 3 [.ref g1, .ref g2, .int (iI nm3), .int (iI p3)], cO g1 6 [.ref g3, .int (iI e)], cA K g3 100 sg, cO g2 1 [.ref g4, .int (iI m4), .int (iI rc)], cA K g4 100 od4] rfl ?_
              refine g_st hC [] rfl ?_
              refine g_iinc (pc := 81) hC 0 [(4, _), (3, _), (2, _), (0, _), (1, _)] dX3_readOne_81 rfl (by decide) rfl ?_
              refine g_lv hC [0, 1, 2, 3, 4] [(4, .int (iI 1)), (3, _), (2, _), (0, _), (1, _)] rfl ?_
              refine g_goto (pc := 84) hC 61 dX3_readOne_84 (by decide) ?_
              refine g_iload (pc := 61) hC 0 dX3_readOne_61 rfl ?_
              refine g_iload_n (pc := 63) hC 2 dX3_readOne_63 rfl rfl ?_
              refine g_icmp_ge (pc := 64) hC 87 dX3_readOne_64 (by decide) (by omega) (by omega) (fun c64 => by exfalso; omega) (fun c64 => ?_)
              refine g_iload_n (pc := 67) hC 1 dX3_readOne_67 rfl rfl ?_
              refine g_if_eq (pc := 68) hC 87 dX3_readOne_68 (by decide) (by omega) (fun c68 => by exfalso; omega) (fun c68 => ?_)
              refine g_aload_n (pc := 71) hC 3 dX3_readOne_71 rfl rfl ?_
              refine g_get (pc := 72) hC 0 fl_X3_15 dX3_readOne_72 rfl rfl ?_
              refine g_bipush (pc := 75) hC (6) dX3_readOne_75 (by decide) ?_
              refine g_iconst (pc := 77) hC dX3_readOne_77 ?_
              refine g_callV (pc := 78) (qr := 3) hC [3, 4] (k_X1_put _ _ _ _ _ _ _ (nt_l l3 1) (-1) (by first | assumption | omega) (by first | assumption | omega) (by first | assumption | omega) (by first | assumption | omega) (by first | assumption | omega) (by first | omega | (simp only [nt_l, List.length_append, List.length_cons, List.length_nil]; omega)) (by decide +kernel) (by decide)) cl_X1_put wm_X3_61 dX3_readOne_78 rfl rfl rfl rfl rfl (by decide) (by decide) (by omega) (Nat.le_of_ble_eq_true rfl) rfl (fun v9 w9 hq9 => ?_)
              obtain ⟨m4, od4, rfl, rfl, r_m4, r_od4, hL2_78, hm2_78⟩ := hq9
              refine g_ws hC [cO g0 3 [.ref g1, .ref g2, .int (iI nm3), .int (iI p3)], cO g1 6 [.ref g3, .int (iI e)], cA K g3 100 sg, cO g2 1 [.ref g4, .int (iI m4), .int (iI rc)], cA K g4 100 od4] rfl ?_
              refine g_st hC [] rfl ?_
              refine g_iinc (pc := 81) hC 0 [(4, _), (3, _), (2, _), (0, _), (1, _)] dX3_readOne_81 rfl (by decide) rfl ?_
              refine g_lv hC [0, 1, 2, 3, 4] [(4, .int (iI 2)), (3, _), (2, _), (0, _), (1, _)] rfl ?_
              refine g_goto (pc := 84) hC 61 dX3_readOne_84 (by decide) ?_
              refine g_iload (pc := 61) hC 0 dX3_readOne_61 rfl ?_
              refine g_iload_n (pc := 63) hC 2 dX3_readOne_63 rfl rfl ?_
              refine g_icmp_ge (pc := 64) hC 87 dX3_readOne_64 (by decide) (by omega) (by omega) (fun c64 => by exfalso; omega) (fun c64 => ?_)
              refine g_iload_n (pc := 67) hC 1 dX3_readOne_67 rfl rfl ?_
              refine g_if_eq (pc := 68) hC 87 dX3_readOne_68 (by decide) (by omega) (fun c68 => by exfalso; omega) (fun c68 => ?_)
              refine g_aload_n (pc := 71) hC 3 dX3_readOne_71 rfl rfl ?_
              refine g_get (pc := 72) hC 0 fl_X3_15 dX3_readOne_72 rfl rfl ?_
              refine g_bipush (pc := 75) hC (6) dX3_readOne_75 (by decide) ?_
              refine g_iconst (pc := 77) hC dX3_readOne_77 ?_
              refine g_callV (pc := 78) (qr := 3) hC [3, 4] (k_X1_put _ _ _ _ _ _ _ (nt_l l3 2) (-1) (by first | assumption | omega) (by first | assumption | omega) (by first | assumption | omega) (by first | assumption | omega) (by first | assumption | omega) (by first | omega | (simp only [nt_l, List.length_append, List.length_cons, List.length_nil]; omega)) (by decide +kernel) (by decide)) cl_X1_put wm_X3_61 dX3_readOne_78 rfl rfl rfl rfl rfl (by decide) (by decide) (by omega) (Nat.le_of_ble_eq_true rfl) rfl (fun v9 w9 hq9 => ?_)
              obtain ⟨m4, od4, rfl, rfl, r_m4, r_od4, hL2_78, hm2_78⟩ := hq9
              refine g_ws hC [cO g0 3 [.ref g1, .ref g2, .int (iI nm3), .int (iI p3)], cO g1 6 [.ref g3, .int (iI e)], cA K g3 100 sg, cO g2 1 [.ref g4, .int (iI m4), .int (iI rc)], cA K g4 100 od4] rfl ?_
              refine g_st hC [] rfl ?_
              refine g_iinc (pc := 81) hC 0 [(4, _), (3, _), (2, _), (0, _), (1, _)] dX3_readOne_81 rfl (by decide) rfl ?_
              refine g_lv hC [0, 1, 2, 3, 4] [(4, .int (iI 3)), (3, _), (2, _), (0, _), (1, _)] rfl ?_
              refine g_goto (pc := 84) hC 61 dX3_readOne_84 (by decide) ?_
              refine g_iload (pc := 61) hC 0 dX3_readOne_61 rfl ?_
              refine g_iload_n (pc := 63) hC 2 dX3_readOne_63 rfl rfl ?_
              refine g_icmp_ge (pc := 64) hC 87 dX3_readOne_64 (by decide) (by omega) (by omega) (fun c64 => ?_) (fun c64 => by exfalso; omega)
              refine g_iload_n (pc := 87) hC 1 dX3_readOne_87 rfl rfl ?_
              exact g_zret (pc := 88) hR dX3_readOne_88 rfl (by omega) ⟨by omega, by omega⟩ (Nat.le_of_ble_eq_true rfl) ⟨r3, p3, nm3, m4, od4, (nt_l l3 3), rfl, rfl, (by first | assumption | omega), (by first | assumption | omega), (by first | assumption | omega), (by first | assumption | omega), (by first | assumption | omega), (px_fac_not (l4 := nt_l l3 3) rfl hq0 (px_fac_not (l4 := nt_l l3 2) rfl hq1 (px_fac_not (l4 := nt_l l3 1) rfl hq2 hz_47 (by rw [if_pos (show (1 - r3 : Int) = 0 by omega)]; rfl)) (by rw [if_pos (show (1 - r3 : Int) = 0 by omega)]; rfl)) (by rw [if_pos (show (1 - r3 : Int) = 0 by omega)]; rfl)), hL2_78, (by first | assumption | omega), (by first | omega | (simp only [nt_l, List.length_append, List.length_cons, List.length_nil]; omega)), (by first | assumption | omega)⟩
        · have hq3 : T ((((p + 1) + 1) + 1)) = 33 := by omega
          have hlt3 := cr_lt hT (by omega) hq3 (by decide)
          refine g_iload_n (pc := 11) hC 2 dX3_readOne_11 rfl rfl ?_
          refine g_iload_n (pc := 12) hC 0 dX3_readOne_12 rfl rfl ?_
          refine g_iadd (pc := 13) hC dX3_readOne_13 ?_
          refine g_st hC [.int (iI (3))] rfl ?_
          refine g_iconst (pc := 14) hC dX3_readOne_14 ?_
          refine g_icmp_ge (pc := 15) hC 34 dX3_readOne_15 (by decide) (by omega) (by omega) (fun c15 => by exfalso; omega) (fun c15 => ?_)
          refine g_iinc (pc := 18) hC 0 [(2, _), (0, _), (1, _)] dX3_readOne_18 rfl (by decide) rfl ?_
          refine g_lv hC [0, 1, 2] [(2, .int (iI 4)), (0, _), (1, _)] rfl ?_
          skip
          refine g_aload_n (pc := 21) hC 1 dX3_readOne_21 rfl rfl ?_
          refine g_dup (pc := 22) hC dX3_readOne_22 rfl ?_
          refine g_get (pc := 23) hC 0 fl_X3_32 dX3_readOne_23 rfl rfl ?_
          refine g_iconst (pc := 26) hC dX3_readOne_26 ?_
          refine g_iadd (pc := 27) hC dX3_readOne_27 ?_
          refine g_putI (pc := 28) hC 0 [cO _ _ [_, _, _, _], _, _, _, _] fl_X3_32 dX3_readOne_28 rfl (Nat.le_of_ble_eq_true rfl) rfl ?_
          refine g_goto (pc := 31) hC 2 dX3_readOne_31 (by decide) ?_
          refine g_aload_n (pc := 2) hC 1 dX3_readOne_2 rfl rfl ?_
          refine g_fnV (pc := 3) (qr := 0) hC [0, 1, 2] (k_X3_sign _ _ _ _ _ _ _ _ _ (by first | assumption | omega) (by first | assumption | omega) (by first | assumption | omega) (by first | assumption | omega) (by first | assumption | omega) (by first | assumption | omega)) cl_X3_sign wm_X3_28 dX3_readOne_3 rfl rfl rfl rfl rfl (by decide) (by decide) ⟨by omega, by omega⟩ (Nat.le_of_ble_eq_true rfl) rfl rfl ?_
          refine g_name hC (fun y4 e_y4 => ?_)
          have q_y4 : -1 ≤ y4 ∧ y4 ≤ 127 := by rw [e_y4]; exact hT.2.2.1 _
          refine g_bipush (pc := 6) hC (33) dX3_readOne_6 (by decide) ?_
          refine g_icmp_ne (pc := 8) hC 34 dX3_readOne_8 (by decide) (by omega) (by omega) (fun c8 => ?_) (fun c8 => ?_)
          · have hn9 : ¬ T (((((p + 1) + 1) + 1) + 1)) = 33 := by omega
            refine g_aload_n (pc := 34) hC 1 dX3_readOne_34 rfl rfl ?_
            refine g_fnV (pc := 35) (qr := 0) hC [0, 1, 2] (k_X3_sign _ _ _ _ _ _ _ _ _ (by first | assumption | omega) (by first | assumption | omega) (by first | assumption | omega) (by first | assumption | omega) (by first | assumption | omega) (by first | assumption | omega)) cl_X3_sign wm_X3_28 dX3_readOne_35 rfl rfl rfl rfl rfl (by decide) (by decide) ⟨by omega, by omega⟩ (Nat.le_of_ble_eq_true rfl) rfl rfl ?_
            refine g_name hC (fun y99 e_y99 => ?_)
            have q_y99 : -1 ≤ y99 ∧ y99 ≤ 127 := by rw [e_y99]; exact hT.2.2.1 _
            refine g_bipush (pc := 38) hC (40) dX3_readOne_38 (by decide) ?_
            refine g_icmp_ne (pc := 40) hC 53 dX3_readOne_40 (by decide) (by omega) (by omega) (fun c40 => ?_) (fun c40 => ?_)
            · refine g_aload_n (pc := 53) hC 1 dX3_readOne_53 rfl rfl ?_
              refine g_callV (pc := 54) (qr := 0) hC [0, 1, 2, 3, 4] (k_X3_readTest _ _ _ _ _ _ _ _ _ _ _ _ _ _ (by first | assumption | omega) (by first | assumption | omega) (by first | assumption | omega) (by first | assumption | omega) (by first | assumption | omega) (by first | assumption | omega) (by first | assumption | omega) (by first | assumption | omega) (by first | assumption | omega) (by first | assumption | omega) (by first | assumption | omega) (by first | assumption | omega)) cl_X3_readTest wm_X3_71 dX3_readOne_54 rfl rfl rfl rfl rfl (by decide) (by decide) (by omega) (Nat.le_of_ble_eq_true rfl) rfl (fun v9 w9 hq9 => ?_)
              obtain ⟨r3, p3, nm3, m3, od3, l3, rfl, rfl, r_r3, r_p3, r_nm3, r_m3, r_od3, hz_54, hL2_54, hb_54, hl2_54, hnm2_54⟩ := hq9
              refine g_ws hC [cO g0 3 [.ref g1, .ref g2, .int (iI nm3), .int (iI p3)], cO g1 6 [.ref g3, .int (iI e)], cA K g3 100 sg, cO g2 1 [.ref g4, .int (iI m3), .int (iI rc)], cA K g4 100 od3] rfl ?_
              refine g_st hC [.int (iI r3)] rfl ?_
              refine g_istore_n (pc := 57) hC [(3, _), (2, _), (0, _), (1, _)] dX3_readOne_57 rfl (by decide) rfl ?_
              refine g_iconst (pc := 58) hC dX3_readOne_58 ?_
              refine g_istore (pc := 59) hC [(4, _), (3, _), (2, _), (0, _), (1, _)] dX3_readOne_59 (by decide) rfl ?_
              refine g_iload (pc := 61) hC 0 dX3_readOne_61 rfl ?_
              refine g_iload_n (pc := 63) hC 2 dX3_readOne_63 rfl rfl ?_
              refine g_icmp_ge (pc := 64) hC 87 dX3_readOne_64 (by decide) (by omega) (by omega) (fun c64 => by exfalso; omega) (fun c64 => ?_)
              refine g_iload_n (pc := 67) hC 1 dX3_readOne_67 rfl rfl ?_
              refine g_if_eq (pc := 68) hC 87 dX3_readOne_68 (by decide) (by omega) (fun c68 => ?_) (fun c68 => ?_)
              · refine g_iload_n (pc := 87) hC 1 dX3_readOne_87 rfl rfl ?_
                exact g_zret (pc := 88) hR dX3_readOne_88 rfl (by omega) ⟨by omega, by omega⟩ (Nat.le_of_ble_eq_true rfl) ⟨r3, p3, nm3, m3, od3, l3, rfl, rfl, (by first | assumption | omega), (by first | assumption | omega), (by first | assumption | omega), (by first | assumption | omega), (by first | assumption | omega), (px_fac_not (l4 := l3) rfl hq0 (px_fac_not (l4 := l3) rfl hq1 (px_fac_not (l4 := l3) rfl hq2 (px_fac_not (l4 := l3) rfl hq3 (px_fac_t rfl hn9 (by omega) hz_54) (by rw [if_neg (show ¬ (1 - r3 : Int) = 0 by omega)])) (by rw [if_neg (show ¬ (1 - r3 : Int) = 0 by omega)])) (by rw [if_neg (show ¬ (1 - r3 : Int) = 0 by omega)])) (by rw [if_neg (show ¬ (1 - r3 : Int) = 0 by omega)])), hL2_54, (by first | assumption | omega), (by first | assumption | omega), (by first | assumption | omega)⟩
              · refine g_aload_n (pc := 71) hC 3 dX3_readOne_71 rfl rfl ?_
                refine g_get (pc := 72) hC 0 fl_X3_15 dX3_readOne_72 rfl rfl ?_
                refine g_bipush (pc := 75) hC (6) dX3_readOne_75 (by decide) ?_
                refine g_iconst (pc := 77) hC dX3_readOne_77 ?_
                refine g_callV (pc := 78) (qr := 3) hC [3, 4] (k_X1_put _ _ _ _ _ _ _ (nt_l l3 0) (-1) (by first | assumption | omega) (by first | assumption | omega) (by first | assumption | omega) (by first | assumption | omega) (by first | assumption | omega) (by first | omega | (simp only [nt_l, List.length_append, List.length_cons, List.length_nil]; omega)) (by decide +kernel) (by decide)) cl_X1_put wm_X3_61 dX3_readOne_78 rfl rfl rfl rfl rfl (by decide) (by decide) (by omega) (Nat.le_of_ble_eq_true rfl) rfl (fun v9 w9 hq9 => ?_)
                obtain ⟨m4, od4, rfl, rfl, r_m4, r_od4, hL2_78, hm2_78⟩ := hq9
                refine g_ws hC [cO g0 3 [.ref g1, .ref g2, .int (iI nm3), .int (iI p3)], cO g1 6 [.ref g3, .int (iI e)], cA K g3 100 sg, cO g2 1 [.ref g4, .int (iI m4), .int (iI rc)], cA K g4 100 od4] rfl ?_
                refine g_st hC [] rfl ?_
                refine g_iinc (pc := 81) hC 0 [(4, _), (3, _), (2, _), (0, _), (1, _)] dX3_readOne_81 rfl (by decide) rfl ?_
                refine g_lv hC [0, 1, 2, 3, 4] [(4, .int (iI 1)), (3, _), (2, _), (0, _), (1, _)] rfl ?_
                refine g_goto (pc := 84) hC 61 dX3_readOne_84 (by decide) ?_
                refine g_iload (pc := 61) hC 0 dX3_readOne_61 rfl ?_
                refine g_iload_n (pc := 63) hC 2 dX3_readOne_63 rfl rfl ?_
                refine g_icmp_ge (pc := 64) hC 87 dX3_readOne_64 (by decide) (by omega) (by omega) (fun c64 => by exfalso; omega) (fun c64 => ?_)
                refine g_iload_n (pc := 67) hC 1 dX3_readOne_67 rfl rfl ?_
                refine g_if_eq (pc := 68) hC 87 dX3_readOne_68 (by decide) (by omega) (fun c68 => by exfalso; omega) (fun c68 => ?_)
                refine g_aload_n (pc := 71) hC 3 dX3_readOne_71 rfl rfl ?_
                refine g_get (pc := 72) hC 0 fl_X3_15 dX3_readOne_72 rfl rfl ?_
                refine g_bipush (pc := 75) hC (6) dX3_readOne_75 (by decide) ?_
                refine g_iconst (pc := 77) hC dX3_readOne_77 ?_
                refine g_callV (pc := 78) (qr := 3) hC [3, 4] (k_X1_put _ _ _ _ _ _ _ (nt_l l3 1) (-1) (by first | assumption | omega) (by first | assumption | omega) (by first | assumption | omega) (by first | assumption | omega) (by first | assumption | omega) (by first | omega | (simp only [nt_l, List.length_append, List.length_cons, List.length_nil]; omega)) (by decide +kernel) (by decide)) cl_X1_put wm_X3_61 dX3_readOne_78 rfl rfl rfl rfl rfl (by decide) (by decide) (by omega) (Nat.le_of_ble_eq_true rfl) rfl (fun v9 w9 hq9 => ?_)
                obtain ⟨m4, od4, rfl, rfl, r_m4, r_od4, hL2_78, hm2_78⟩ := hq9
                refine g_ws hC [cO g0 3 [.ref g1, .ref g2, .int (iI nm3), .int (iI p3)], cO g1 6 [.ref g3, .int (iI e)], cA K g3 100 sg, cO g2 1 [.ref g4, .int (iI m4), .int (iI rc)], cA K g4 100 od4] rfl ?_
                refine g_st hC [] rfl ?_
                refine g_iinc (pc := 81) hC 0 [(4, _), (3, _), (2, _), (0, _), (1, _)] dX3_readOne_81 rfl (by decide) rfl ?_
                refine g_lv hC [0, 1, 2, 3, 4] [(4, .int (iI 2)), (3, _), (2, _), (0, _), (1, _)] rfl ?_
                refine g_goto (pc := 84) hC 61 dX3_readOne_84 (by decide) ?_
                refine g_iload (pc := 61) hC 0 dX3_readOne_61 rfl ?_
                refine g_iload_n (pc := 63) hC 2 dX3_readOne_63 rfl rfl ?_
                refine g_icmp_ge (pc := 64) hC 87 dX3_readOne_64 (by decide) (by omega) (by omega) (fun c64 => by exfalso; omega) (fun c64 => ?_)
                refine g_iload_n (pc := 67) hC 1 dX3_readOne_67 rfl rfl ?_
                refine g_if_eq (pc := 68) hC 87 dX3_readOne_68 (by decide) (by omega) (fun c68 => by exfalso; omega) (fun c68 => ?_)
                refine g_aload_n (pc := 71) hC 3 dX3_readOne_71 rfl rfl ?_
                refine g_get (pc := 72) hC 0 fl_X3_15 dX3_readOne_72 rfl rfl ?_
                refine g_bipush (pc := 75) hC (6) dX3_readOne_75 (by decide) ?_
                refine g_iconst (pc := 77) hC dX3_readOne_77 ?_
                refine g_callV (pc := 78) (qr := 3) hC [3, 4] (k_X1_put _ _ _ _ _ _ _ (nt_l l3 2) (-1) (by first | assumption | omega) (by first | assumption | omega) (by first | assumption | omega) (by first | assumption | omega) (by first | assumption | omega) (by first | omega | (simp only [nt_l, List.length_append, List.length_cons, List.length_nil]; omega)) (by decide +kernel) (by decide)) cl_X1_put wm_X3_61 dX3_readOne_78 rfl rfl rfl rfl rfl (by decide) (by decide) (by omega) (Nat.le_of_ble_eq_true rfl) rfl (fun v9 w9 hq9 => ?_)
                obtain ⟨m4, od4, rfl, rfl, r_m4, r_od4, hL2_78, hm2_78⟩ := hq9
                refine g_ws hC [cO g0 3 [.ref g1, .ref g2, .int (iI nm3), .int (iI p3)], cO g1 6 [.ref g3, .int (iI e)], cA K g3 100 sg, cO g2 1 [.ref g4, .int (iI m4), .int (iI rc)], cA K g4 100 od4] rfl ?_
                refine g_st hC [] rfl ?_
                refine g_iinc (pc := 81) hC 0 [(4, _), (3, _), (2, _), (0, _), (1, _)] dX3_readOne_81 rfl (by decide) rfl ?_
                refine g_lv hC [0, 1, 2, 3, 4] [(4, .int (iI 3)), (3, _), (2, _), (0, _), (1, _)] rfl ?_
                refine g_goto (pc := 84) hC 61 dX3_readOne_84 (by decide) ?_
                refine g_iload (pc := 61) hC 0 dX3_readOne_61 rfl ?_
                refine g_iload_n (pc := 63) hC 2 dX3_readOne_63 rfl rfl ?_
                refine g_icmp_ge (pc := 64) hC 87 dX3_readOne_64 (by decide) (by omega) (by omega) (fun c64 => by exfalso; omega) (fun c64 => ?_)
                refine g_iload_n (pc := 67) hC 1 dX3_readOne_67 rfl rfl ?_
                refine g_if_eq (pc := 68) hC 87 dX3_readOne_68 (by decide) (by omega) (fun c68 => by exfalso; omega) (fun c68 => ?_)
                refine g_aload_n (pc := 71) hC 3 dX3_readOne_71 rfl rfl ?_
                refine g_get (pc := 72) hC 0 fl_X3_15 dX3_readOne_72 rfl rfl ?_
                refine g_bipush (pc := 75) hC (6) dX3_readOne_75 (by decide) ?_
                refine g_iconst (pc := 77) hC dX3_readOne_77 ?_
                refine g_callV (pc := 78) (qr := 3) hC [3, 4] (k_X1_put _ _ _ _ _ _ _ (nt_l l3 3) (-1) (by first | assumption | omega) (by first | assumption | omega) (by first | assumption | omega) (by first | assumption | omega) (by first | assumption | omega) (by first | omega | (simp only [nt_l, List.length_append, List.length_cons, List.length_nil]; omega)) (by decide +kernel) (by decide)) cl_X1_put wm_X3_61 dX3_readOne_78 rfl rfl rfl rfl rfl (by decide) (by decide) (by omega) (Nat.le_of_ble_eq_true rfl) rfl (fun v9 w9 hq9 => ?_)
                obtain ⟨m4, od4, rfl, rfl, r_m4, r_od4, hL2_78, hm2_78⟩ := hq9
                refine g_ws hC [cO g0 3 [.ref g1, .ref g2, .int (iI nm3), .int (iI p3)], cO g1 6 [.ref g3, .int (iI e)], cA K g3 100 sg, cO g2 1 [.ref g4, .int (iI m4), .int (iI rc)], cA K g4 100 od4] rfl ?_
                refine g_st hC [] rfl ?_
                refine g_iinc (pc := 81) hC 0 [(4, _), (3, _), (2, _), (0, _), (1, _)] dX3_readOne_81 rfl (by decide) rfl ?_
                refine g_lv hC [0, 1, 2, 3, 4] [(4, .int (iI 4)), (3, _), (2, _), (0, _), (1, _)] rfl ?_
                refine g_goto (pc := 84) hC 61 dX3_readOne_84 (by decide) ?_
                refine g_iload (pc := 61) hC 0 dX3_readOne_61 rfl ?_
                refine g_iload_n (pc := 63) hC 2 dX3_readOne_63 rfl rfl ?_
                refine g_icmp_ge (pc := 64) hC 87 dX3_readOne_64 (by decide) (by omega) (by omega) (fun c64 => ?_) (fun c64 => by exfalso; omega)
                refine g_iload_n (pc := 87) hC 1 dX3_readOne_87 rfl rfl ?_
                exact g_zret (pc := 88) hR dX3_readOne_88 rfl (by omega) ⟨by omega, by omega⟩ (Nat.le_of_ble_eq_true rfl) ⟨r3, p3, nm3, m4, od4, (nt_l l3 4), rfl, rfl, (by first | assumption | omega), (by first | assumption | omega), (by first | assumption | omega), (by first | assumption | omega), (by first | assumption | omega), (px_fac_not (l4 := nt_l l3 4) rfl hq0 (px_fac_not (l4 := nt_l l3 3) rfl hq1 (px_fac_not (l4 := nt_l l3 2) rfl hq2 (px_fac_not (l4 := nt_l l3 1) rfl hq3 (px_fac_t rfl hn9 (by omega) hz_54) (by rw [if_pos (show (1 - r3 : Int) = 0 by omega)]; rfl)) (by rw [if_pos (show (1 - r3 : Int) = 0 by omega)]; rfl)) (by rw [if_pos (show (1 - r3 : Int) = 0 by omega)]; rfl)) (by rw [if_pos (show (1 - r3 : Int) = 0 by omega)]; rfl)), hL2_78, (by first | assumption | omega), (by first | omega | (simp only [nt_l, List.length_append, List.length_cons, List.length_nil]; omega)), (by first | assumption | omega)⟩
            · have hlt9 := cr_lt hT (by omega) (show T (((((p + 1) + 1) + 1) + 1)) = 40 by omega) (by decide)
              refine g_aload_n (pc := 43) hC 1 dX3_readOne_43 rfl rfl ?_
              refine g_iload_n (pc := 44) hC 2 dX3_readOne_44 rfl rfl ?_
              refine g_iload_n (pc := 45) hC 0 dX3_readOne_45 rfl rfl ?_
              refine g_iadd (pc := 46) hC dX3_readOne_46 ?_
              refine g_st hC [.int (iI (4)), _] rfl ?_
              refine g_callV (pc := 47) (qr := 0) hC [0, 1, 2, 3, 4] (k_X3_readInBrackets_4 _ _ _ _ _ _ _ _ _ _ _ _ _ _ (by first | assumption | omega) (by first | assumption | omega) (by first | assumption | omega) (by first | assumption | omega) (by first | assumption | omega) (by first | assumption | omega) (by first | assumption | omega) (by first | assumption | omega) (by first | assumption | omega) (by first | assumption | omega) (by first | assumption | omega) (by first | assumption | omega) (by first | assumption | omega)) cl_X3_readInBrackets wm_X3_68 dX3_readOne_47 rfl rfl rfl rfl rfl (by decide) (by decide) (by omega) (Nat.le_of_ble_eq_true rfl) rfl (fun v9 w9 hq9 => ?_)
              obtain ⟨r3, p3, nm3, m3, od3, l3, rfl, rfl, r_r3, r_p3, r_nm3, r_m3, r_od3, hz_47, hL2_47, hb_47, hl2_47, hnm2_47⟩ := hq9
              refine g_ws hC [cO g0 3 [.ref g1, .ref g2, .int (iI nm3), .int (iI p3)], cO g1 6 [.ref g3, .int (iI e)], cA K g3 100 sg, cO g2 1 [.ref g4, .int (iI m3), .int (iI rc)], cA K g4 100 od3] rfl ?_
              refine g_st hC [.int (iI r3)] rfl ?_
              refine g_goto (pc := 50) hC 57 dX3_readOne_50 (by decide) ?_
              refine g_istore_n (pc := 57) hC [(3, _), (2, _), (0, _), (1, _)] dX3_readOne_57 rfl (by decide) rfl ?_
              refine g_iconst (pc := 58) hC dX3_readOne_58 ?_
              refine g_istore (pc := 59) hC [(4, _), (3, _), (2, _), (0, _), (1, _)] dX3_readOne_59 (by decide) rfl ?_
              refine g_iload (pc := 61) hC 0 dX3_readOne_61 rfl ?_
              refine g_iload_n (pc := 63) hC 2 dX3_readOne_63 rfl rfl ?_
              refine g_icmp_ge (pc := 64) hC 87 dX3_readOne_64 (by decide) (by omega) (by omega) (fun c64 => by exfalso; omega) (fun c64 => ?_)
              refine g_iload_n (pc := 67) hC 1 dX3_readOne_67 rfl rfl ?_
              refine g_if_eq (pc := 68) hC 87 dX3_readOne_68 (by decide) (by omega) (fun c68 => ?_) (fun c68 => ?_)
              · refine g_iload_n (pc := 87) hC 1 dX3_readOne_87 rfl rfl ?_
                exact g_zret (pc := 88) hR dX3_readOne_88 rfl (by omega) ⟨by omega, by omega⟩ (Nat.le_of_ble_eq_true rfl) ⟨r3, p3, nm3, m3, od3, l3, rfl, rfl, (by first | assumption | omega), (by first | assumption | omega), (by first | assumption | omega), (by first | assumption | omega), (by first | assumption | omega), (px_fac_not (l4 := l3) rfl hq0 (px_fac_not (l4 := l3) rfl hq1 (px_fac_not (l4 := l3) rfl hq2 (px_fac_not (l4 := l3) rfl hq3 hz_47 (by rw [if_neg (show ¬ (1 - r3 : Int) = 0 by omega)])) (by rw [if_neg (show ¬ (1 - r3 : Int) = 0 by omega)])) (by rw [if_neg (show ¬ (1 - r3 : Int) = 0 by omega)])) (by rw [if_neg (show ¬ (1 - r3 : Int) = 0 by omega)])), hL2_47, (by first | assumption | omega), (by first | assumption | omega), (by first | assumption | omega)⟩
              · refine g_aload_n (pc := 71) hC 3 dX3_readOne_71 rfl rfl ?_
                refine g_get (pc := 72) hC 0 fl_X3_15 dX3_readOne_72 rfl rfl ?_
                refine g_bipush (pc := 75) hC (6) dX3_readOne_75 (by decide) ?_
                refine g_iconst (pc := 77) hC dX3_readOne_77 ?_
                refine g_callV (pc := 78) (qr := 3) hC [3, 4] (k_X1_put _ _ _ _ _ _ _ (nt_l l3 0) (-1) (by first | assumption | omega) (by first | assumption | omega) (by first | assumption | omega) (by first | assumption | omega) (by first | assumption | omega) (by first | omega | (simp only [nt_l, List.length_append, List.length_cons, List.length_nil]; omega)) (by decide +kernel) (by decide)) cl_X1_put wm_X3_61 dX3_readOne_78 rfl rfl rfl rfl rfl (by decide) (by decide) (by omega) (Nat.le_of_ble_eq_true rfl) rfl (fun v9 w9 hq9 => ?_)
                obtain ⟨m4, od4, rfl, rfl, r_m4, r_od4, hL2_78, hm2_78⟩ := hq9
                refine g_ws hC [cO g0 3 [.ref g1, .ref g2, .int (iI nm3), .int (iI p3)], cO g1 6 [.ref g3, .int (iI e)], cA K g3 100 sg, cO g2 1 [.ref g4, .int (iI m4), .int (iI rc)], cA K g4 100 od4] rfl ?_
                refine g_st hC [] rfl ?_
                refine g_iinc (pc := 81) hC 0 [(4, _), (3, _), (2, _), (0, _), (1, _)] dX3_readOne_81 rfl (by decide) rfl ?_
                refine g_lv hC [0, 1, 2, 3, 4] [(4, .int (iI 1)), (3, _), (2, _), (0, _), (1, _)] rfl ?_
                refine g_goto (pc := 84) hC 61 dX3_readOne_84 (by decide) ?_
                refine g_iload (pc := 61) hC 0 dX3_readOne_61 rfl ?_
                refine g_iload_n (pc := 63) hC 2 dX3_readOne_63 rfl rfl ?_
                refine g_icmp_ge (pc := 64) hC 87 dX3_readOne_64 (by decide) (by omega) (by omega) (fun c64 => by exfalso; omega) (fun c64 => ?_)
                refine g_iload_n (pc := 67) hC 1 dX3_readOne_67 rfl rfl ?_
                refine g_if_eq (pc := 68) hC 87 dX3_readOne_68 (by decide) (by omega) (fun c68 => by exfalso; omega) (fun c68 => ?_)
                refine g_aload_n (pc := 71) hC 3 dX3_readOne_71 rfl rfl ?_
                refine g_get (pc := 72) hC 0 fl_X3_15 dX3_readOne_72 rfl rfl ?_
                refine g_bipush (pc := 75) hC (6) dX3_readOne_75 (by decide) ?_
                refine g_iconst (pc := 77) hC dX3_readOne_77 ?_
                refine g_callV (pc := 78) (qr := 3) hC [3, 4] (k_X1_put _ _ _ _ _ _ _ (nt_l l3 1) (-1) (by first | assumption | omega) (by first | assumption | omega) (by first | assumption | omega) (by first | assumption | omega) (by first | assumption | omega) (by first | omega | (simp only [nt_l, List.length_append, List.length_cons, List.length_nil]; omega)) (by decide +kernel) (by decide)) cl_X1_put wm_X3_61 dX3_readOne_78 rfl rfl rfl rfl rfl (by decide) (by decide) (by omega) (Nat.le_of_ble_eq_true rfl) rfl (fun v9 w9 hq9 => ?_)
                obtain ⟨m4, od4, rfl, rfl, r_m4, r_od4, hL2_78, hm2_78⟩ := hq9
                refine g_ws hC [cO g0 3 [.ref g1, .ref g2, .int (iI nm3), .int (iI p3)], cO g1 6 [.ref g3, .int (iI e)], cA K g3 100 sg, cO g2 1 [.ref g4, .int (iI m4), .int (iI rc)], cA K g4 100 od4] rfl ?_
                refine g_st hC [] rfl ?_
                refine g_iinc (pc := 81) hC 0 [(4, _), (3, _), (2, _), (0, _), (1, _)] dX3_readOne_81 rfl (by decide) rfl ?_
                refine g_lv hC [0, 1, 2, 3, 4] [(4, .int (iI 2)), (3, _), (2, _), (0, _), (1, _)] rfl ?_
                refine g_goto (pc := 84) hC 61 dX3_readOne_84 (by decide) ?_
                refine g_iload (pc := 61) hC 0 dX3_readOne_61 rfl ?_
                refine g_iload_n (pc := 63) hC 2 dX3_readOne_63 rfl rfl ?_
                refine g_icmp_ge (pc := 64) hC 87 dX3_readOne_64 (by decide) (by omega) (by omega) (fun c64 => by exfalso; omega) (fun c64 => ?_)
                refine g_iload_n (pc := 67) hC 1 dX3_readOne_67 rfl rfl ?_
                refine g_if_eq (pc := 68) hC 87 dX3_readOne_68 (by decide) (by omega) (fun c68 => by exfalso; omega) (fun c68 => ?_)
                refine g_aload_n (pc := 71) hC 3 dX3_readOne_71 rfl rfl ?_
                refine g_get (pc := 72) hC 0 fl_X3_15 dX3_readOne_72 rfl rfl ?_
                refine g_bipush (pc := 75) hC (6) dX3_readOne_75 (by decide) ?_
                refine g_iconst (pc := 77) hC dX3_readOne_77 ?_
                refine g_callV (pc := 78) (qr := 3) hC [3, 4] (k_X1_put _ _ _ _ _ _ _ (nt_l l3 2) (-1) (by first | assumption | omega) (by first | assumption | omega) (by first | assumption | omega) (by first | assumption | omega) (by first | assumption | omega) (by first | omega | (simp only [nt_l, List.length_append, List.length_cons, List.length_nil]; omega)) (by decide +kernel) (by decide)) cl_X1_put wm_X3_61 dX3_readOne_78 rfl rfl rfl rfl rfl (by decide) (by decide) (by omega) (Nat.le_of_ble_eq_true rfl) rfl (fun v9 w9 hq9 => ?_)
                obtain ⟨m4, od4, rfl, rfl, r_m4, r_od4, hL2_78, hm2_78⟩ := hq9
                refine g_ws hC [cO g0 3 [.ref g1, .ref g2, .int (iI nm3), .int (iI p3)], cO g1 6 [.ref g3, .int (iI e)], cA K g3 100 sg, cO g2 1 [.ref g4, .int (iI m4), .int (iI rc)], cA K g4 100 od4] rfl ?_
                refine g_st hC [] rfl ?_
                refine g_iinc (pc := 81) hC 0 [(4, _), (3, _), (2, _), (0, _), (1, _)] dX3_readOne_81 rfl (by decide) rfl ?_
                refine g_lv hC [0, 1, 2, 3, 4] [(4, .int (iI 3)), (3, _), (2, _), (0, _), (1, _)] rfl ?_
                refine g_goto (pc := 84) hC 61 dX3_readOne_84 (by decide) ?_
                refine g_iload (pc := 61) hC 0 dX3_readOne_61 rfl ?_
                refine g_iload_n (pc := 63) hC 2 dX3_readOne_63 rfl rfl ?_
                refine g_icmp_ge (pc := 64) hC 87 dX3_readOne_64 (by decide) (by omega) (by omega) (fun c64 => by exfalso; omega) (fun c64 => ?_)
                refine g_iload_n (pc := 67) hC 1 dX3_readOne_67 rfl rfl ?_
                refine g_if_eq (pc := 68) hC 87 dX3_readOne_68 (by decide) (by omega) (fun c68 => by exfalso; omega) (fun c68 => ?_)
                refine g_aload_n (pc := 71) hC 3 dX3_readOne_71 rfl rfl ?_
                refine g_get (pc := 72) hC 0 fl_X3_15 dX3_readOne_72 rfl rfl ?_
                refine g_bipush (pc := 75) hC (6) dX3_readOne_75 (by decide) ?_
                refine g_iconst (pc := 77) hC dX3_readOne_77 ?_
                refine g_callV (pc := 78) (qr := 3) hC [3, 4] (k_X1_put _ _ _ _ _ _ _ (nt_l l3 3) (-1) (by first | assumption | omega) (by first | assumption | omega) (by first | assumption | omega) (by first | assumption | omega) (by first | assumption | omega) (by first | omega | (simp only [nt_l, List.length_append, List.length_cons, List.length_nil]; omega)) (by decide +kernel) (by decide)) cl_X1_put wm_X3_61 dX3_readOne_78 rfl rfl rfl rfl rfl (by decide) (by decide) (by omega) (Nat.le_of_ble_eq_true rfl) rfl (fun v9 w9 hq9 => ?_)
                obtain ⟨m4, od4, rfl, rfl, r_m4, r_od4, hL2_78, hm2_78⟩ := hq9
                refine g_ws hC [cO g0 3 [.ref g1, .ref g2, .int (iI nm3), .int (iI p3)], cO g1 6 [.ref g3, .int (iI e)], cA K g3 100 sg, cO g2 1 [.ref g4, .int (iI m4), .int (iI rc)], cA K g4 100 od4] rfl ?_
                refine g_st hC [] rfl ?_
                refine g_iinc (pc := 81) hC 0 [(4, _), (3, _), (2, _), (0, _), (1, _)] dX3_readOne_81 rfl (by decide) rfl ?_
                refine g_lv hC [0, 1, 2, 3, 4] [(4, .int (iI 4)), (3, _), (2, _), (0, _), (1, _)] rfl ?_
                refine g_goto (pc := 84) hC 61 dX3_readOne_84 (by decide) ?_
                refine g_iload (pc := 61) hC 0 dX3_readOne_61 rfl ?_
                refine g_iload_n (pc := 63) hC 2 dX3_readOne_63 rfl rfl ?_
                refine g_icmp_ge (pc := 64) hC 87 dX3_readOne_64 (by decide) (by omega) (by omega) (fun c64 => ?_) (fun c64 => by exfalso; omega)
                refine g_iload_n (pc := 87) hC 1 dX3_readOne_87 rfl rfl ?_
                exact g_zret (pc := 88) hR dX3_readOne_88 rfl (by omega) ⟨by omega, by omega⟩ (Nat.le_of_ble_eq_true rfl) ⟨r3, p3, nm3, m4, od4, (nt_l l3 4), rfl, rfl, (by first | assumption | omega), (by first | assumption | omega), (by first | assumption | omega), (by first | assumption | omega), (by first | assumption | omega), (px_fac_not (l4 := nt_l l3 4) rfl hq0 (px_fac_not (l4 := nt_l l3 3) rfl hq1 (px_fac_not (l4 := nt_l l3 2) rfl hq2 (px_fac_not (l4 := nt_l l3 1) rfl hq3 hz_47 (by rw [if_pos (show (1 - r3 : Int) = 0 by omega)]; rfl)) (by rw [if_pos (show (1 - r3 : Int) = 0 by omega)]; rfl)) (by rw [if_pos (show (1 - r3 : Int) = 0 by omega)]; rfl)) (by rw [if_pos (show (1 - r3 : Int) = 0 by omega)]; rfl)), hL2_78, (by first | assumption | omega), (by first | omega | (simp only [nt_l, List.length_append, List.length_cons, List.length_nil]; omega)), (by first | assumption | omega)⟩
          · have hq4 : T (((((p + 1) + 1) + 1) + 1)) = 33 := by omega
            have hlt4 := cr_lt hT (by omega) hq4 (by decide)
            refine g_iload_n (pc := 11) hC 2 dX3_readOne_11 rfl rfl ?_
            refine g_iload_n (pc := 12) hC 0 dX3_readOne_12 rfl rfl ?_
            refine g_iadd (pc := 13) hC dX3_readOne_13 ?_
            refine g_st hC [.int (iI (4))] rfl ?_
            refine g_iconst (pc := 14) hC dX3_readOne_14 ?_
            refine g_icmp_ge (pc := 15) hC 34 dX3_readOne_15 (by decide) (by omega) (by omega) (fun c15 => by exfalso; omega) (fun c15 => ?_)
            refine g_iinc (pc := 18) hC 0 [(2, _), (0, _), (1, _)] dX3_readOne_18 rfl (by decide) rfl ?_
            refine g_lv hC [0, 1, 2] [(2, .int (iI 5)), (0, _), (1, _)] rfl ?_
            skip
            refine g_aload_n (pc := 21) hC 1 dX3_readOne_21 rfl rfl ?_
            refine g_dup (pc := 22) hC dX3_readOne_22 rfl ?_
            refine g_get (pc := 23) hC 0 fl_X3_32 dX3_readOne_23 rfl rfl ?_
            refine g_iconst (pc := 26) hC dX3_readOne_26 ?_
            refine g_iadd (pc := 27) hC dX3_readOne_27 ?_
            refine g_putI (pc := 28) hC 0 [cO _ _ [_, _, _, _], _, _, _, _] fl_X3_32 dX3_readOne_28 rfl (Nat.le_of_ble_eq_true rfl) rfl ?_
            refine g_goto (pc := 31) hC 2 dX3_readOne_31 (by decide) ?_
            refine g_aload_n (pc := 2) hC 1 dX3_readOne_2 rfl rfl ?_
            refine g_fnV (pc := 3) (qr := 0) hC [0, 1, 2] (k_X3_sign _ _ _ _ _ _ _ _ _ (by first | assumption | omega) (by first | assumption | omega) (by first | assumption | omega) (by first | assumption | omega) (by first | assumption | omega) (by first | assumption | omega)) cl_X3_sign wm_X3_28 dX3_readOne_3 rfl rfl rfl rfl rfl (by decide) (by decide) ⟨by omega, by omega⟩ (Nat.le_of_ble_eq_true rfl) rfl rfl ?_
            refine g_name hC (fun y5 e_y5 => ?_)
            have q_y5 : -1 ≤ y5 ∧ y5 ≤ 127 := by rw [e_y5]; exact hT.2.2.1 _
            refine g_bipush (pc := 6) hC (33) dX3_readOne_6 (by decide) ?_
            refine g_icmp_ne (pc := 8) hC 34 dX3_readOne_8 (by decide) (by omega) (by omega) (fun c8 => ?_) (fun c8 => ?_)
            · have hn9 : ¬ T ((((((p + 1) + 1) + 1) + 1) + 1)) = 33 := by omega
              refine g_aload_n (pc := 34) hC 1 dX3_readOne_34 rfl rfl ?_
              refine g_fnV (pc := 35) (qr := 0) hC [0, 1, 2] (k_X3_sign _ _ _ _ _ _ _ _ _ (by first | assumption | omega) (by first | assumption | omega) (by first | assumption | omega) (by first | assumption | omega) (by first | assumption | omega) (by first | assumption | omega)) cl_X3_sign wm_X3_28 dX3_readOne_35 rfl rfl rfl rfl rfl (by decide) (by decide) ⟨by omega, by omega⟩ (Nat.le_of_ble_eq_true rfl) rfl rfl ?_
              refine g_name hC (fun y99 e_y99 => ?_)
              have q_y99 : -1 ≤ y99 ∧ y99 ≤ 127 := by rw [e_y99]; exact hT.2.2.1 _
              refine g_bipush (pc := 38) hC (40) dX3_readOne_38 (by decide) ?_
              refine g_icmp_ne (pc := 40) hC 53 dX3_readOne_40 (by decide) (by omega) (by omega) (fun c40 => ?_) (fun c40 => ?_)
              · refine g_aload_n (pc := 53) hC 1 dX3_readOne_53 rfl rfl ?_
                refine g_callV (pc := 54) (qr := 0) hC [0, 1, 2, 3, 4] (k_X3_readTest _ _ _ _ _ _ _ _ _ _ _ _ _ _ (by first | assumption | omega) (by first | assumption | omega) (by first | assumption | omega) (by first | assumption | omega) (by first | assumption | omega) (by first | assumption | omega) (by first | assumption | omega) (by first | assumption | omega) (by first | assumption | omega) (by first | assumption | omega) (by first | assumption | omega) (by first | assumption | omega)) cl_X3_readTest wm_X3_71 dX3_readOne_54 rfl rfl rfl rfl rfl (by decide) (by decide) (by omega) (Nat.le_of_ble_eq_true rfl) rfl (fun v9 w9 hq9 => ?_)
                obtain ⟨r3, p3, nm3, m3, od3, l3, rfl, rfl, r_r3, r_p3, r_nm3, r_m3, r_od3, hz_54, hL2_54, hb_54, hl2_54, hnm2_54⟩ := hq9
                refine g_ws hC [cO g0 3 [.ref g1, .ref g2, .int (iI nm3), .int (iI p3)], cO g1 6 [.ref g3, .int (iI e)], cA K g3 100 sg, cO g2 1 [.ref g4, .int (iI m3), .int (iI rc)], cA K g4 100 od3] rfl ?_
                refine g_st hC [.int (iI r3)] rfl ?_
                refine g_istore_n (pc := 57) hC [(3, _), (2, _), (0, _), (1, _)] dX3_readOne_57 rfl (by decide) rfl ?_
                refine g_iconst (pc := 58) hC dX3_readOne_58 ?_
                refine g_istore (pc := 59) hC [(4, _), (3, _), (2, _), (0, _), (1, _)] dX3_readOne_59 (by decide) rfl ?_
                refine g_iload (pc := 61) hC 0 dX3_readOne_61 rfl ?_
                refine g_iload_n (pc := 63) hC 2 dX3_readOne_63 rfl rfl ?_
                refine g_icmp_ge (pc := 64) hC 87 dX3_readOne_64 (by decide) (by omega) (by omega) (fun c64 => by exfalso; omega) (fun c64 => ?_)
                refine g_iload_n (pc := 67) hC 1 dX3_readOne_67 rfl rfl ?_
                refine g_if_eq (pc := 68) hC 87 dX3_readOne_68 (by decide) (by omega) (fun c68 => ?_) (fun c68 => ?_)
                · refine g_iload_n (pc := 87) hC 1 dX3_readOne_87 rfl rfl ?_
                  exact g_zret (pc := 88) hR dX3_readOne_88 rfl (by omega) ⟨by omega, by omega⟩ (Nat.le_of_ble_eq_true rfl) ⟨r3, p3, nm3, m3, od3, l3, rfl, rfl, (by first | assumption | omega), (by first | assumption | omega), (by first | assumption | omega), (by first | assumption | omega), (by first | assumption | omega), (px_fac_not (l4 := l3) rfl hq0 (px_fac_not (l4 := l3) rfl hq1 (px_fac_not (l4 := l3) rfl hq2 (px_fac_not (l4 := l3) rfl hq3 (px_fac_not (l4 := l3) rfl hq4 (px_fac_t rfl hn9 (by omega) hz_54) (by rw [if_neg (show ¬ (1 - r3 : Int) = 0 by omega)])) (by rw [if_neg (show ¬ (1 - r3 : Int) = 0 by omega)])) (by rw [if_neg (show ¬ (1 - r3 : Int) = 0 by omega)])) (by rw [if_neg (show ¬ (1 - r3 : Int) = 0 by omega)])) (by rw [if_neg (show ¬ (1 - r3 : Int) = 0 by omega)])), hL2_54, (by first | assumption | omega), (by first | assumption | omega), (by first | assumption | omega)⟩
                · refine g_aload_n (pc := 71) hC 3 dX3_readOne_71 rfl rfl ?_
                  refine g_get (pc := 72) hC 0 fl_X3_15 dX3_readOne_72 rfl rfl ?_
                  refine g_bipush (pc := 75) hC (6) dX3_readOne_75 (by decide) ?_
                  refine g_iconst (pc := 77) hC dX3_readOne_77 ?_
                  refine g_callV (pc := 78) (qr := 3) hC [3, 4] (k_X1_put _ _ _ _ _ _ _ (nt_l l3 0) (-1) (by first | assumption | omega) (by first | assumption | omega) (by first | assumption | omega) (by first | assumption | omega) (by first | assumption | omega) (by first | omega | (simp only [nt_l, List.length_append, List.length_cons, List.length_nil]; omega)) (by decide +kernel) (by decide)) cl_X1_put wm_X3_61 dX3_readOne_78 rfl rfl rfl rfl rfl (by decide) (by decide) (by omega) (Nat.le_of_ble_eq_true rfl) rfl (fun v9 w9 hq9 => ?_)
                  obtain ⟨m4, od4, rfl, rfl, r_m4, r_od4, hL2_78, hm2_78⟩ := hq9
                  refine g_ws hC [cO g0 3 [.ref g1, .ref g2, .int (iI nm3), .int (iI p3)], cO g1 6 [.ref g3, .int (iI e)], cA K g3 100 sg, cO g2 1 [.ref g4, .int (iI m4), .int (iI rc)], cA K g4 100 od4] rfl ?_
                  refine g_st hC [] rfl ?_
                  refine g_iinc (pc := 81) hC 0 [(4, _), (3, _), (2, _), (0, _), (1, _)] dX3_readOne_81 rfl (by decide) rfl ?_
                  refine g_lv hC [0, 1, 2, 3, 4] [(4, .int (iI 1)), (3, _), (2, _), (0, _), (1, _)] rfl ?_
                  refine g_goto (pc := 84) hC 61 dX3_readOne_84 (by decide) ?_
                  refine g_iload (pc := 61) hC 0 dX3_readOne_61 rfl ?_
                  refine g_iload_n (pc := 63) hC 2 dX3_readOne_63 rfl rfl ?_
                  refine g_icmp_ge (pc := 64) hC 87 dX3_readOne_64 (by decide) (by omega) (by omega) (fun c64 => by exfalso; omega) (fun c64 => ?_)
                  refine g_iload_n (pc := 67) hC 1 dX3_readOne_67 rfl rfl ?_
                  refine g_if_eq (pc := 68) hC 87 dX3_readOne_68 (by decide) (by omega) (fun c68 => by exfalso; omega) (fun c68 => ?_)
                  refine g_aload_n (pc := 71) hC 3 dX3_readOne_71 rfl rfl ?_
                  refine g_get (pc := 72) hC 0 fl_X3_15 dX3_readOne_72 rfl rfl ?_
                  refine g_bipush (pc := 75) hC (6) dX3_readOne_75 (by decide) ?_
                  refine g_iconst (pc := 77) hC dX3_readOne_77 ?_
                  refine g_callV (pc := 78) (qr := 3) hC [3, 4] (k_X1_put _ _ _ _ _ _ _ (nt_l l3 1) (-1) (by first | assumption | omega) (by first | assumption | omega) (by first | assumption | omega) (by first | assumption | omega) (by first | assumption | omega) (by first | omega | (simp only [nt_l, List.length_append, List.length_cons, List.length_nil]; omega)) (by decide +kernel) (by decide)) cl_X1_put wm_X3_61 dX3_readOne_78 rfl rfl rfl rfl rfl (by decide) (by decide) (by omega) (Nat.le_of_ble_eq_true rfl) rfl (fun v9 w9 hq9 => ?_)
                  obtain ⟨m4, od4, rfl, rfl, r_m4, r_od4, hL2_78, hm2_78⟩ := hq9
                  refine g_ws hC [cO g0 3 [.ref g1, .ref g2, .int (iI nm3), .int (iI p3)], cO g1 6 [.ref g3, .int (iI e)], cA K g3 100 sg, cO g2 1 [.ref g4, .int (iI m4), .int (iI rc)], cA K g4 100 od4] rfl ?_
                  refine g_st hC [] rfl ?_
                  refine g_iinc (pc := 81) hC 0 [(4, _), (3, _), (2, _), (0, _), (1, _)] dX3_readOne_81 rfl (by decide) rfl ?_
                  refine g_lv hC [0, 1, 2, 3, 4] [(4, .int (iI 2)), (3, _), (2, _), (0, _), (1, _)] rfl ?_
                  refine g_goto (pc := 84) hC 61 dX3_readOne_84 (by decide) ?_
                  refine g_iload (pc := 61) hC 0 dX3_readOne_61 rfl ?_
                  refine g_iload_n (pc := 63) hC 2 dX3_readOne_63 rfl rfl ?_
                  refine g_icmp_ge (pc := 64) hC 87 dX3_readOne_64 (by decide) (by omega) (by omega) (fun c64 => by exfalso; omega) (fun c64 => ?_)
                  refine g_iload_n (pc := 67) hC 1 dX3_readOne_67 rfl rfl ?_
                  refine g_if_eq (pc := 68) hC 87 dX3_readOne_68 (by decide) (by omega) (fun c68 => by exfalso; omega) (fun c68 => ?_)
                  refine g_aload_n (pc := 71) hC 3 dX3_readOne_71 rfl rfl ?_
                  refine g_get (pc := 72) hC 0 fl_X3_15 dX3_readOne_72 rfl rfl ?_
                  refine g_bipush (pc := 75) hC (6) dX3_readOne_75 (by decide) ?_
                  refine g_iconst (pc := 77) hC dX3_readOne_77 ?_
                  refine g_callV (pc := 78) (qr := 3) hC [3, 4] (k_X1_put _ _ _ _ _ _ _ (nt_l l3 2) (-1) (by first | assumption | omega) (by first | assumption | omega) (by first | assumption | omega) (by first | assumption | omega) (by first | assumption | omega) (by first | omega | (simp only [nt_l, List.length_append, List.length_cons, List.length_nil]; omega)) (by decide +kernel) (by decide)) cl_X1_put wm_X3_61 dX3_readOne_78 rfl rfl rfl rfl rfl (by decide) (by decide) (by omega) (Nat.le_of_ble_eq_true rfl) rfl (fun v9 w9 hq9 => ?_)
                  obtain ⟨m4, od4, rfl, rfl, r_m4, r_od4, hL2_78, hm2_78⟩ := hq9
                  refine g_ws hC [cO g0 3 [.ref g1, .ref g2, .int (iI nm3), .int (iI p3)], cO g1 6 [.ref g3, .int (iI e)], cA K g3 100 sg, cO g2 1 [.ref g4, .int (iI m4), .int (iI rc)], cA K g4 100 od4] rfl ?_
                  refine g_st hC [] rfl ?_
                  refine g_iinc (pc := 81) hC 0 [(4, _), (3, _), (2, _), (0, _), (1, _)] dX3_readOne_81 rfl (by decide) rfl ?_
                  refine g_lv hC [0, 1, 2, 3, 4] [(4, .int (iI 3)), (3, _), (2, _), (0, _), (1, _)] rfl ?_
                  refine g_goto (pc := 84) hC 61 dX3_readOne_84 (by decide) ?_
                  refine g_iload (pc := 61) hC 0 dX3_readOne_61 rfl ?_
                  refine g_iload_n (pc := 63) hC 2 dX3_readOne_63 rfl rfl ?_
                  refine g_icmp_ge (pc := 64) hC 87 dX3_readOne_64 (by decide) (by omega) (by omega) (fun c64 => by exfalso; omega) (fun c64 => ?_)
                  refine g_iload_n (pc := 67) hC 1 dX3_readOne_67 rfl rfl ?_
                  refine g_if_eq (pc := 68) hC 87 dX3_readOne_68 (by decide) (by omega) (fun c68 => by exfalso; omega) (fun c68 => ?_)
                  refine g_aload_n (pc := 71) hC 3 dX3_readOne_71 rfl rfl ?_
                  refine g_get (pc := 72) hC 0 fl_X3_15 dX3_readOne_72 rfl rfl ?_
                  refine g_bipush (pc := 75) hC (6) dX3_readOne_75 (by decide) ?_
                  refine g_iconst (pc := 77) hC dX3_readOne_77 ?_
                  refine g_callV (pc := 78) (qr := 3) hC [3, 4] (k_X1_put _ _ _ _ _ _ _ (nt_l l3 3) (-1) (by first | assumption | omega) (by first | assumption | omega) (by first | assumption | omega) (by first | assumption | omega) (by first | assumption | omega) (by first | omega | (simp only [nt_l, List.length_append, List.length_cons, List.length_nil]; omega)) (by decide +kernel) (by decide)) cl_X1_put wm_X3_61 dX3_readOne_78 rfl rfl rfl rfl rfl (by decide) (by decide) (by omega) (Nat.le_of_ble_eq_true rfl) rfl (fun v9 w9 hq9 => ?_)
                  obtain ⟨m4, od4, rfl, rfl, r_m4, r_od4, hL2_78, hm2_78⟩ := hq9
                  refine g_ws hC [cO g0 3 [.ref g1, .ref g2, .int (iI nm3), .int (iI p3)], cO g1 6 [.ref g3, .int (iI e)], cA K g3 100 sg, cO g2 1 [.ref g4, .int (iI m4), .int (iI rc)], cA K g4 100 od4] rfl ?_
                  refine g_st hC [] rfl ?_
                  refine g_iinc (pc := 81) hC 0 [(4, _), (3, _), (2, _), (0, _), (1, _)] dX3_readOne_81 rfl (by decide) rfl ?_
                  refine g_lv hC [0, 1, 2, 3, 4] [(4, .int (iI 4)), (3, _), (2, _), (0, _), (1, _)] rfl ?_
                  refine g_goto (pc := 84) hC 61 dX3_readOne_84 (by decide) ?_
                  refine g_iload (pc := 61) hC 0 dX3_readOne_61 rfl ?_
                  refine g_iload_n (pc := 63) hC 2 dX3_readOne_63 rfl rfl ?_
                  refine g_icmp_ge (pc := 64) hC 87 dX3_readOne_64 (by decide) (by omega) (by omega) (fun c64 => by exfalso; omega) (fun c64 => ?_)
                  refine g_iload_n (pc := 67) hC 1 dX3_readOne_67 rfl rfl ?_
                  refine g_if_eq (pc := 68) hC 87 dX3_readOne_68 (by decide) (by omega) (fun c68 => by exfalso; omega) (fun c68 => ?_)
                  refine g_aload_n (pc := 71) hC 3 dX3_readOne_71 rfl rfl ?_
                  refine g_get (pc := 72) hC 0 fl_X3_15 dX3_readOne_72 rfl rfl ?_
                  refine g_bipush (pc := 75) hC (6) dX3_readOne_75 (by decide) ?_
                  refine g_iconst (pc := 77) hC dX3_readOne_77 ?_
                  refine g_callV (pc := 78) (qr := 3) hC [3, 4] (k_X1_put _ _ _ _ _ _ _ (nt_l l3 4) (-1) (by first | assumption | omega) (by first | assumption | omega) (by first | assumption | omega) (by first | assumption | omega) (by first | assumption | omega) (by first | omega | (simp only [nt_l, List.length_append, List.length_cons, List.length_nil]; omega)) (by decide +kernel) (by decide)) cl_X1_put wm_X3_61 dX3_readOne_78 rfl rfl rfl rfl rfl (by decide) (by decide) (by omega) (Nat.le_of_ble_eq_true rfl) rfl (fun v9 w9 hq9 => ?_)
                  obtain ⟨m4, od4, rfl, rfl, r_m4, r_od4, hL2_78, hm2_78⟩ := hq9
                  refine g_ws hC [cO g0 3 [.ref g1, .ref g2, .int (iI nm3), .int (iI p3)], cO g1 6 [.ref g3, .int (iI e)], cA K g3 100 sg, cO g2 1 [.ref g4, .int (iI m4), .int (iI rc)], cA K g4 100 od4] rfl ?_
                  refine g_st hC [] rfl ?_
                  refine g_iinc (pc := 81) hC 0 [(4, _), (3, _), (2, _), (0, _), (1, _)] dX3_readOne_81 rfl (by decide) rfl ?_
                  refine g_lv hC [0, 1, 2, 3, 4] [(4, .int (iI 5)), (3, _), (2, _), (0, _), (1, _)] rfl ?_
                  refine g_goto (pc := 84) hC 61 dX3_readOne_84 (by decide) ?_
                  refine g_iload (pc := 61) hC 0 dX3_readOne_61 rfl ?_
                  refine g_iload_n (pc := 63) hC 2 dX3_readOne_63 rfl rfl ?_
                  refine g_icmp_ge (pc := 64) hC 87 dX3_readOne_64 (by decide) (by omega) (by omega) (fun c64 => ?_) (fun c64 => by exfalso; omega)
                  refine g_iload_n (pc := 87) hC 1 dX3_readOne_87 rfl rfl ?_
                  exact g_zret (pc := 88) hR dX3_readOne_88 rfl (by omega) ⟨by omega, by omega⟩ (Nat.le_of_ble_eq_true rfl) ⟨r3, p3, nm3, m4, od4, (nt_l l3 5), rfl, rfl, (by first | assumption | omega), (by first | assumption | omega), (by first | assumption | omega), (by first | assumption | omega), (by first | assumption | omega), (px_fac_not (l4 := nt_l l3 5) rfl hq0 (px_fac_not (l4 := nt_l l3 4) rfl hq1 (px_fac_not (l4 := nt_l l3 3) rfl hq2 (px_fac_not (l4 := nt_l l3 2) rfl hq3 (px_fac_not (l4 := nt_l l3 1) rfl hq4 (px_fac_t rfl hn9 (by omega) hz_54) (by rw [if_pos (show (1 - r3 : Int) = 0 by omega)]; rfl)) (by rw [if_pos (show (1 - r3 : Int) = 0 by omega)]; rfl)) (by rw [if_pos (show (1 - r3 : Int) = 0 by omega)]; rfl)) (by rw [if_pos (show (1 - r3 : Int) = 0 by omega)]; rfl)) (by rw [if_pos (show (1 - r3 : Int) = 0 by omega)]; rfl)), hL2_78, (by first | assumption | omega), (by first | omega | (simp only [nt_l, List.length_append, List.length_cons, List.length_nil]; omega)), (by first | assumption | omega)⟩
              · have hlt9 := cr_lt hT (by omega) (show T ((((((p + 1) + 1) + 1) + 1) + 1)) = 40 by omega) (by decide)
                refine g_aload_n (pc := 43) hC 1 dX3_readOne_43 rfl rfl ?_
                refine g_iload_n (pc := 44) hC 2 dX3_readOne_44 rfl rfl ?_
                refine g_iload_n (pc := 45) hC 0 dX3_readOne_45 rfl rfl ?_
                refine g_iadd (pc := 46) hC dX3_readOne_46 ?_
                refine g_st hC [.int (iI (5)), _] rfl ?_
                refine g_callV (pc := 47) (qr := 0) hC [0, 1, 2, 3, 4] (k_X3_readInBrackets_5 _ _ _ _ _ _ _ _ _ _ _ _ _ _ (by first | assumption | omega) (by first | assumption | omega) (by first | assumption | omega) (by first | assumption | omega) (by first | assumption | omega) (by first | assumption | omega) (by first | assumption | omega) (by first | assumption | omega) (by first | assumption | omega) (by first | assumption | omega) (by first | assumption | omega) (by first | assumption | omega) (by first | assumption | omega)) cl_X3_readInBrackets wm_X3_68 dX3_readOne_47 rfl rfl rfl rfl rfl (by decide) (by decide) (by omega) (Nat.le_of_ble_eq_true rfl) rfl (fun v9 w9 hq9 => ?_)
                obtain ⟨r3, p3, nm3, m3, od3, l3, rfl, rfl, r_r3, r_p3, r_nm3, r_m3, r_od3, hz_47, hL2_47, hb_47, hl2_47, hnm2_47⟩ := hq9
                refine g_ws hC [cO g0 3 [.ref g1, .ref g2, .int (iI nm3), .int (iI p3)], cO g1 6 [.ref g3, .int (iI e)], cA K g3 100 sg, cO g2 1 [.ref g4, .int (iI m3), .int (iI rc)], cA K g4 100 od3] rfl ?_
                refine g_st hC [.int (iI r3)] rfl ?_
                refine g_goto (pc := 50) hC 57 dX3_readOne_50 (by decide) ?_
                refine g_istore_n (pc := 57) hC [(3, _), (2, _), (0, _), (1, _)] dX3_readOne_57 rfl (by decide) rfl ?_
                refine g_iconst (pc := 58) hC dX3_readOne_58 ?_
                refine g_istore (pc := 59) hC [(4, _), (3, _), (2, _), (0, _), (1, _)] dX3_readOne_59 (by decide) rfl ?_
                refine g_iload (pc := 61) hC 0 dX3_readOne_61 rfl ?_
                refine g_iload_n (pc := 63) hC 2 dX3_readOne_63 rfl rfl ?_
                refine g_icmp_ge (pc := 64) hC 87 dX3_readOne_64 (by decide) (by omega) (by omega) (fun c64 => by exfalso; omega) (fun c64 => ?_)
                refine g_iload_n (pc := 67) hC 1 dX3_readOne_67 rfl rfl ?_
                refine g_if_eq (pc := 68) hC 87 dX3_readOne_68 (by decide) (by omega) (fun c68 => ?_) (fun c68 => ?_)
                · refine g_iload_n (pc := 87) hC 1 dX3_readOne_87 rfl rfl ?_
                  exact g_zret (pc := 88) hR dX3_readOne_88 rfl (by omega) ⟨by omega, by omega⟩ (Nat.le_of_ble_eq_true rfl) ⟨r3, p3, nm3, m3, od3, l3, rfl, rfl, (by first | assumption | omega), (by first | assumption | omega), (by first | assumption | omega), (by first | assumption | omega), (by first | assumption | omega), (px_fac_not (l4 := l3) rfl hq0 (px_fac_not (l4 := l3) rfl hq1 (px_fac_not (l4 := l3) rfl hq2 (px_fac_not (l4 := l3) rfl hq3 (px_fac_not (l4 := l3) rfl hq4 hz_47 (by rw [if_neg (show ¬ (1 - r3 : Int) = 0 by omega)])) (by rw [if_neg (show ¬ (1 - r3 : Int) = 0 by omega)])) (by rw [if_neg (show ¬ (1 - r3 : Int) = 0 by omega)])) (by rw [if_neg (show ¬ (1 - r3 : Int) = 0 by omega)])) (by rw [if_neg (show ¬ (1 - r3 : Int) = 0 by omega)])), hL2_47, (by first | assumption | omega), (by first | assumption | omega), (by first | assumption | omega)⟩
                · refine g_aload_n (pc := 71) hC 3 dX3_readOne_71 rfl rfl ?_
                  refine g_get (pc := 72) hC 0 fl_X3_15 dX3_readOne_72 rfl rfl ?_
                  refine g_bipush (pc := 75) hC (6) dX3_readOne_75 (by decide) ?_
                  refine g_iconst (pc := 77) hC dX3_readOne_77 ?_
                  refine g_callV (pc := 78) (qr := 3) hC [3, 4] (k_X1_put _ _ _ _ _ _ _ (nt_l l3 0) (-1) (by first | assumption | omega) (by first | assumption | omega) (by first | assumption | omega) (by first | assumption | omega) (by first | assumption | omega) (by first | omega | (simp only [nt_l, List.length_append, List.length_cons, List.length_nil]; omega)) (by decide +kernel) (by decide)) cl_X1_put wm_X3_61 dX3_readOne_78 rfl rfl rfl rfl rfl (by decide) (by decide) (by omega) (Nat.le_of_ble_eq_true rfl) rfl (fun v9 w9 hq9 => ?_)
                  obtain ⟨m4, od4, rfl, rfl, r_m4, r_od4, hL2_78, hm2_78⟩ := hq9
                  refine g_ws hC [cO g0 3 [.ref g1, .ref g2, .int (iI nm3), .int (iI p3)], cO g1 6 [.ref g3, .int (iI e)], cA K g3 100 sg, cO g2 1 [.ref g4, .int (iI m4), .int (iI rc)], cA K g4 100 od4] rfl ?_
                  refine g_st hC [] rfl ?_
                  refine g_iinc (pc := 81) hC 0 [(4, _), (3, _), (2, _), (0, _), (1, _)] dX3_readOne_81 rfl (by decide) rfl ?_
                  refine g_lv hC [0, 1, 2, 3, 4] [(4, .int (iI 1)), (3, _), (2, _), (0, _), (1, _)] rfl ?_
                  refine g_goto (pc := 84) hC 61 dX3_readOne_84 (by decide) ?_
                  refine g_iload (pc := 61) hC 0 dX3_readOne_61 rfl ?_
                  refine g_iload_n (pc := 63) hC 2 dX3_readOne_63 rfl rfl ?_
                  refine g_icmp_ge (pc := 64) hC 87 dX3_readOne_64 (by decide) (by omega) (by omega) (fun c64 => by exfalso; omega) (fun c64 => ?_)
                  refine g_iload_n (pc := 67) hC 1 dX3_readOne_67 rfl rfl ?_
                  refine g_if_eq (pc := 68) hC 87 dX3_readOne_68 (by decide) (by omega) (fun c68 => by exfalso; omega) (fun c68 => ?_)
                  refine g_aload_n (pc := 71) hC 3 dX3_readOne_71 rfl rfl ?_
                  refine g_get (pc := 72) hC 0 fl_X3_15 dX3_readOne_72 rfl rfl ?_
                  refine g_bipush (pc := 75) hC (6) dX3_readOne_75 (by decide) ?_
                  refine g_iconst (pc := 77) hC dX3_readOne_77 ?_
                  refine g_callV (pc := 78) (qr := 3) hC [3, 4] (k_X1_put _ _ _ _ _ _ _ (nt_l l3 1) (-1) (by first | assumption | omega) (by first | assumption | omega) (by first | assumption | omega) (by first | assumption | omega) (by first | assumption | omega) (by first | omega | (simp only [nt_l, List.length_append, List.length_cons, List.length_nil]; omega)) (by decide +kernel) (by decide)) cl_X1_put wm_X3_61 dX3_readOne_78 rfl rfl rfl rfl rfl (by decide) (by decide) (by omega) (Nat.le_of_ble_eq_true rfl) rfl (fun v9 w9 hq9 => ?_)
                  obtain ⟨m4, od4, rfl, rfl, r_m4, r_od4, hL2_78, hm2_78⟩ := hq9
                  refine g_ws hC [cO g0 3 [.ref g1, .ref g2, .int (iI nm3), .int (iI p3)], cO g1 6 [.ref g3, .int (iI e)], cA K g3 100 sg, cO g2 1 [.ref g4, .int (iI m4), .int (iI rc)], cA K g4 100 od4] rfl ?_
                  refine g_st hC [] rfl ?_
                  refine g_iinc (pc := 81) hC 0 [(4, _), (3, _), (2, _), (0, _), (1, _)] dX3_readOne_81 rfl (by decide) rfl ?_
                  refine g_lv hC [0, 1, 2, 3, 4] [(4, .int (iI 2)), (3, _), (2, _), (0, _), (1, _)] rfl ?_
                  refine g_goto (pc := 84) hC 61 dX3_readOne_84 (by decide) ?_
                  refine g_iload (pc := 61) hC 0 dX3_readOne_61 rfl ?_
                  refine g_iload_n (pc := 63) hC 2 dX3_readOne_63 rfl rfl ?_
                  refine g_icmp_ge (pc := 64) hC 87 dX3_readOne_64 (by decide) (by omega) (by omega) (fun c64 => by exfalso; omega) (fun c64 => ?_)
                  refine g_iload_n (pc := 67) hC 1 dX3_readOne_67 rfl rfl ?_
                  refine g_if_eq (pc := 68) hC 87 dX3_readOne_68 (by decide) (by omega) (fun c68 => by exfalso; omega) (fun c68 => ?_)
                  refine g_aload_n (pc := 71) hC 3 dX3_readOne_71 rfl rfl ?_
                  refine g_get (pc := 72) hC 0 fl_X3_15 dX3_readOne_72 rfl rfl ?_
                  refine g_bipush (pc := 75) hC (6) dX3_readOne_75 (by decide) ?_
                  refine g_iconst (pc := 77) hC dX3_readOne_77 ?_
                  refine g_callV (pc := 78) (qr := 3) hC [3, 4] (k_X1_put _ _ _ _ _ _ _ (nt_l l3 2) (-1) (by first | assumption | omega) (by first | assumption | omega) (by first | assumption | omega) (by first | assumption | omega) (by first | assumption | omega) (by first | omega | (simp only [nt_l, List.length_append, List.length_cons, List.length_nil]; omega)) (by decide +kernel) (by decide)) cl_X1_put wm_X3_61 dX3_readOne_78 rfl rfl rfl rfl rfl (by decide) (by decide) (by omega) (Nat.le_of_ble_eq_true rfl) rfl (fun v9 w9 hq9 => ?_)
                  obtain ⟨m4, od4, rfl, rfl, r_m4, r_od4, hL2_78, hm2_78⟩ := hq9
                  refine g_ws hC [cO g0 3 [.ref g1, .ref g2, .int (iI nm3), .int (iI p3)], cO g1 6 [.ref g3, .int (iI e)], cA K g3 100 sg, cO g2 1 [.ref g4, .int (iI m4), .int (iI rc)], cA K g4 100 od4] rfl ?_
                  refine g_st hC [] rfl ?_
                  refine g_iinc (pc := 81) hC 0 [(4, _), (3, _), (2, _), (0, _), (1, _)] dX3_readOne_81 rfl (by decide) rfl ?_
                  refine g_lv hC [0, 1, 2, 3, 4] [(4, .int (iI 3)), (3, _), (2, _), (0, _), (1, _)] rfl ?_
                  refine g_goto (pc := 84) hC 61 dX3_readOne_84 (by decide) ?_
                  refine g_iload (pc := 61) hC 0 dX3_readOne_61 rfl ?_
                  refine g_iload_n (pc := 63) hC 2 dX3_readOne_63 rfl rfl ?_
                  refine g_icmp_ge (pc := 64) hC 87 dX3_readOne_64 (by decide) (by omega) (by omega) (fun c64 => by exfalso; omega) (fun c64 => ?_)
                  refine g_iload_n (pc := 67) hC 1 dX3_readOne_67 rfl rfl ?_
                  refine g_if_eq (pc := 68) hC 87 dX3_readOne_68 (by decide) (by omega) (fun c68 => by exfalso; omega) (fun c68 => ?_)
                  refine g_aload_n (pc := 71) hC 3 dX3_readOne_71 rfl rfl ?_
                  refine g_get (pc := 72) hC 0 fl_X3_15 dX3_readOne_72 rfl rfl ?_
                  refine g_bipush (pc := 75) hC (6) dX3_readOne_75 (by decide) ?_
                  refine g_iconst (pc := 77) hC dX3_readOne_77 ?_
                  refine g_callV (pc := 78) (qr := 3) hC [3, 4] (k_X1_put _ _ _ _ _ _ _ (nt_l l3 3) (-1) (by first | assumption | omega) (by first | assumption | omega) (by first | assumption | omega) (by first | assumption | omega) (by first | assumption | omega) (by first | omega | (simp only [nt_l, List.length_append, List.length_cons, List.length_nil]; omega)) (by decide +kernel) (by decide)) cl_X1_put wm_X3_61 dX3_readOne_78 rfl rfl rfl rfl rfl (by decide) (by decide) (by omega) (Nat.le_of_ble_eq_true rfl) rfl (fun v9 w9 hq9 => ?_)
                  obtain ⟨m4, od4, rfl, rfl, r_m4, r_od4, hL2_78, hm2_78⟩ := hq9
                  refine g_ws hC [cO g0 3 [.ref g1, .ref g2, .int (iI nm3), .int (iI p3)], cO g1 6 [.ref g3, .int (iI e)], cA K g3 100 sg, cO g2 1 [.ref g4, .int (iI m4), .int (iI rc)], cA K g4 100 od4] rfl ?_
                  refine g_st hC [] rfl ?_
                  refine g_iinc (pc := 81) hC 0 [(4, _), (3, _), (2, _), (0, _), (1, _)] dX3_readOne_81 rfl (by decide) rfl ?_
                  refine g_lv hC [0, 1, 2, 3, 4] [(4, .int (iI 4)), (3, _), (2, _), (0, _), (1, _)] rfl ?_
                  refine g_goto (pc := 84) hC 61 dX3_readOne_84 (by decide) ?_
                  refine g_iload (pc := 61) hC 0 dX3_readOne_61 rfl ?_
                  refine g_iload_n (pc := 63) hC 2 dX3_readOne_63 rfl rfl ?_
                  refine g_icmp_ge (pc := 64) hC 87 dX3_readOne_64 (by decide) (by omega) (by omega) (fun c64 => by exfalso; omega) (fun c64 => ?_)
                  refine g_iload_n (pc := 67) hC 1 dX3_readOne_67 rfl rfl ?_
                  refine g_if_eq (pc := 68) hC 87 dX3_readOne_68 (by decide) (by omega) (fun c68 => by exfalso; omega) (fun c68 => ?_)
                  refine g_aload_n (pc := 71) hC 3 dX3_readOne_71 rfl rfl ?_
                  refine g_get (pc := 72) hC 0 fl_X3_15 dX3_readOne_72 rfl rfl ?_
                  refine g_bipush (pc := 75) hC (6) dX3_readOne_75 (by decide) ?_
                  refine g_iconst (pc := 77) hC dX3_readOne_77 ?_
                  refine g_callV (pc := 78) (qr := 3) hC [3, 4] (k_X1_put _ _ _ _ _ _ _ (nt_l l3 4) (-1) (by first | assumption | omega) (by first | assumption | omega) (by first | assumption | omega) (by first | assumption | omega) (by first | assumption | omega) (by first | omega | (simp only [nt_l, List.length_append, List.length_cons, List.length_nil]; omega)) (by decide +kernel) (by decide)) cl_X1_put wm_X3_61 dX3_readOne_78 rfl rfl rfl rfl rfl (by decide) (by decide) (by omega) (Nat.le_of_ble_eq_true rfl) rfl (fun v9 w9 hq9 => ?_)
                  obtain ⟨m4, od4, rfl, rfl, r_m4, r_od4, hL2_78, hm2_78⟩ := hq9
                  refine g_ws hC [cO g0 3 [.ref g1, .ref g2, .int (iI nm3), .int (iI p3)], cO g1 6 [.ref g3, .int (iI e)], cA K g3 100 sg, cO g2 1 [.ref g4, .int (iI m4), .int (iI rc)], cA K g4 100 od4] rfl ?_
                  refine g_st hC [] rfl ?_
                  refine g_iinc (pc := 81) hC 0 [(4, _), (3, _), (2, _), (0, _), (1, _)] dX3_readOne_81 rfl (by decide) rfl ?_
                  refine g_lv hC [0, 1, 2, 3, 4] [(4, .int (iI 5)), (3, _), (2, _), (0, _), (1, _)] rfl ?_
                  refine g_goto (pc := 84) hC 61 dX3_readOne_84 (by decide) ?_
                  refine g_iload (pc := 61) hC 0 dX3_readOne_61 rfl ?_
                  refine g_iload_n (pc := 63) hC 2 dX3_readOne_63 rfl rfl ?_
                  refine g_icmp_ge (pc := 64) hC 87 dX3_readOne_64 (by decide) (by omega) (by omega) (fun c64 => ?_) (fun c64 => by exfalso; omega)
                  refine g_iload_n (pc := 87) hC 1 dX3_readOne_87 rfl rfl ?_
                  exact g_zret (pc := 88) hR dX3_readOne_88 rfl (by omega) ⟨by omega, by omega⟩ (Nat.le_of_ble_eq_true rfl) ⟨r3, p3, nm3, m4, od4, (nt_l l3 5), rfl, rfl, (by first | assumption | omega), (by first | assumption | omega), (by first | assumption | omega), (by first | assumption | omega), (by first | assumption | omega), (px_fac_not (l4 := nt_l l3 5) rfl hq0 (px_fac_not (l4 := nt_l l3 4) rfl hq1 (px_fac_not (l4 := nt_l l3 3) rfl hq2 (px_fac_not (l4 := nt_l l3 2) rfl hq3 (px_fac_not (l4 := nt_l l3 1) rfl hq4 hz_47 (by rw [if_pos (show (1 - r3 : Int) = 0 by omega)]; rfl)) (by rw [if_pos (show (1 - r3 : Int) = 0 by omega)]; rfl)) (by rw [if_pos (show (1 - r3 : Int) = 0 by omega)]; rfl)) (by rw [if_pos (show (1 - r3 : Int) = 0 by omega)]; rfl)) (by rw [if_pos (show (1 - r3 : Int) = 0 by omega)]; rfl)), hL2_78, (by first | assumption | omega), (by first | omega | (simp only [nt_l, List.length_append, List.length_cons, List.length_nil]; omega)), (by first | assumption | omega)⟩
            · have hq5 : T ((((((p + 1) + 1) + 1) + 1) + 1)) = 33 := by omega
              have hlt5 := cr_lt hT (by omega) hq5 (by decide)
              refine g_iload_n (pc := 11) hC 2 dX3_readOne_11 rfl rfl ?_
              refine g_iload_n (pc := 12) hC 0 dX3_readOne_12 rfl rfl ?_
              refine g_iadd (pc := 13) hC dX3_readOne_13 ?_
              refine g_st hC [.int (iI (5))] rfl ?_
              refine g_iconst (pc := 14) hC dX3_readOne_14 ?_
              refine g_icmp_ge (pc := 15) hC 34 dX3_readOne_15 (by decide) (by omega) (by omega) (fun c15 => ?_) (fun c15 => by exfalso; omega)
              have hq9 : T ((((((p + 1) + 1) + 1) + 1) + 1)) = 33 := by omega
              skip
              refine g_aload_n (pc := 34) hC 1 dX3_readOne_34 rfl rfl ?_
              refine g_fnV (pc := 35) (qr := 0) hC [0, 1, 2] (k_X3_sign _ _ _ _ _ _ _ _ _ (by first | assumption | omega) (by first | assumption | omega) (by first | assumption | omega) (by first | assumption | omega) (by first | assumption | omega) (by first | assumption | omega)) cl_X3_sign wm_X3_28 dX3_readOne_35 rfl rfl rfl rfl rfl (by decide) (by decide) ⟨by omega, by omega⟩ (Nat.le_of_ble_eq_true rfl) rfl rfl ?_
              refine g_name hC (fun y99 e_y99 => ?_)
              have q_y99 : -1 ≤ y99 ∧ y99 ≤ 127 := by rw [e_y99]; exact hT.2.2.1 _
              refine g_bipush (pc := 38) hC (40) dX3_readOne_38 (by decide) ?_
              refine g_icmp_ne (pc := 40) hC 53 dX3_readOne_40 (by decide) (by omega) (by omega) (fun c40 => ?_) (fun c40 => by exfalso; omega)
              refine g_aload_n (pc := 53) hC 1 dX3_readOne_53 rfl rfl ?_
              refine g_callV (pc := 54) (qr := 0) hC [0, 1, 2, 3, 4] (k_X3_readTest _ _ _ _ _ _ _ _ _ _ _ _ _ _ (by first | assumption | omega) (by first | assumption | omega) (by first | assumption | omega) (by first | assumption | omega) (by first | assumption | omega) (by first | assumption | omega) (by first | assumption | omega) (by first | assumption | omega) (by first | assumption | omega) (by first | assumption | omega) (by first | assumption | omega) (by first | assumption | omega)) cl_X3_readTest wm_X3_71 dX3_readOne_54 rfl rfl rfl rfl rfl (by decide) (by decide) (by omega) (Nat.le_of_ble_eq_true rfl) rfl (fun v9 w9 hq9 => ?_)
              obtain ⟨r3, p3, nm3, m3, od3, l3, rfl, rfl, r_r3, r_p3, r_nm3, r_m3, r_od3, hz_54, hL2_54, hb_54, hl2_54, hnm2_54⟩ := hq9
              refine g_ws hC [cO g0 3 [.ref g1, .ref g2, .int (iI nm3), .int (iI p3)], cO g1 6 [.ref g3, .int (iI e)], cA K g3 100 sg, cO g2 1 [.ref g4, .int (iI m3), .int (iI rc)], cA K g4 100 od3] rfl ?_
              refine g_st hC [.int (iI r3)] rfl ?_
              refine g_istore_n (pc := 57) hC [(3, _), (2, _), (0, _), (1, _)] dX3_readOne_57 rfl (by decide) rfl ?_
              refine g_iconst (pc := 58) hC dX3_readOne_58 ?_
              refine g_istore (pc := 59) hC [(4, _), (3, _), (2, _), (0, _), (1, _)] dX3_readOne_59 (by decide) rfl ?_
              refine g_iload (pc := 61) hC 0 dX3_readOne_61 rfl ?_
              refine g_iload_n (pc := 63) hC 2 dX3_readOne_63 rfl rfl ?_
              refine g_icmp_ge (pc := 64) hC 87 dX3_readOne_64 (by decide) (by omega) (by omega) (fun c64 => by exfalso; omega) (fun c64 => ?_)
              refine g_iload_n (pc := 67) hC 1 dX3_readOne_67 rfl rfl ?_
              refine g_if_eq (pc := 68) hC 87 dX3_readOne_68 (by decide) (by omega) (fun c68 => ?_) (fun c68 => ?_)
              · refine g_iload_n (pc := 87) hC 1 dX3_readOne_87 rfl rfl ?_
                exact g_zret (pc := 88) hR dX3_readOne_88 rfl (by omega) ⟨by omega, by omega⟩ (Nat.le_of_ble_eq_true rfl) ⟨r3, p3, nm3, m3, od3, l3, rfl, rfl, (by first | assumption | omega), (by first | assumption | omega), (by first | assumption | omega), (by first | assumption | omega), (by first | assumption | omega), (px_fac_not (l4 := l3) rfl hq0 (px_fac_not (l4 := l3) rfl hq1 (px_fac_not (l4 := l3) rfl hq2 (px_fac_not (l4 := l3) rfl hq3 (px_fac_not (l4 := l3) rfl hq4 (px_fac_33 rfl hq9 hz_54) (by rw [if_neg (show ¬ (1 - r3 : Int) = 0 by omega)])) (by rw [if_neg (show ¬ (1 - r3 : Int) = 0 by omega)])) (by rw [if_neg (show ¬ (1 - r3 : Int) = 0 by omega)])) (by rw [if_neg (show ¬ (1 - r3 : Int) = 0 by omega)])) (by rw [if_neg (show ¬ (1 - r3 : Int) = 0 by omega)])), hL2_54, (by first | assumption | omega), (by first | assumption | omega), (by first | assumption | omega)⟩
              · refine g_aload_n (pc := 71) hC 3 dX3_readOne_71 rfl rfl ?_
                refine g_get (pc := 72) hC 0 fl_X3_15 dX3_readOne_72 rfl rfl ?_
                refine g_bipush (pc := 75) hC (6) dX3_readOne_75 (by decide) ?_
                refine g_iconst (pc := 77) hC dX3_readOne_77 ?_
                refine g_callV (pc := 78) (qr := 3) hC [3, 4] (k_X1_put _ _ _ _ _ _ _ (nt_l l3 0) (-1) (by first | assumption | omega) (by first | assumption | omega) (by first | assumption | omega) (by first | assumption | omega) (by first | assumption | omega) (by first | omega | (simp only [nt_l, List.length_append, List.length_cons, List.length_nil]; omega)) (by decide +kernel) (by decide)) cl_X1_put wm_X3_61 dX3_readOne_78 rfl rfl rfl rfl rfl (by decide) (by decide) (by omega) (Nat.le_of_ble_eq_true rfl) rfl (fun v9 w9 hq9 => ?_)
                obtain ⟨m4, od4, rfl, rfl, r_m4, r_od4, hL2_78, hm2_78⟩ := hq9
                refine g_ws hC [cO g0 3 [.ref g1, .ref g2, .int (iI nm3), .int (iI p3)], cO g1 6 [.ref g3, .int (iI e)], cA K g3 100 sg, cO g2 1 [.ref g4, .int (iI m4), .int (iI rc)], cA K g4 100 od4] rfl ?_
                refine g_st hC [] rfl ?_
                refine g_iinc (pc := 81) hC 0 [(4, _), (3, _), (2, _), (0, _), (1, _)] dX3_readOne_81 rfl (by decide) rfl ?_
                refine g_lv hC [0, 1, 2, 3, 4] [(4, .int (iI 1)), (3, _), (2, _), (0, _), (1, _)] rfl ?_
                refine g_goto (pc := 84) hC 61 dX3_readOne_84 (by decide) ?_
                refine g_iload (pc := 61) hC 0 dX3_readOne_61 rfl ?_
                refine g_iload_n (pc := 63) hC 2 dX3_readOne_63 rfl rfl ?_
                refine g_icmp_ge (pc := 64) hC 87 dX3_readOne_64 (by decide) (by omega) (by omega) (fun c64 => by exfalso; omega) (fun c64 => ?_)
                refine g_iload_n (pc := 67) hC 1 dX3_readOne_67 rfl rfl ?_
                refine g_if_eq (pc := 68) hC 87 dX3_readOne_68 (by decide) (by omega) (fun c68 => by exfalso; omega) (fun c68 => ?_)
                refine g_aload_n (pc := 71) hC 3 dX3_readOne_71 rfl rfl ?_
                refine g_get (pc := 72) hC 0 fl_X3_15 dX3_readOne_72 rfl rfl ?_
                refine g_bipush (pc := 75) hC (6) dX3_readOne_75 (by decide) ?_
                refine g_iconst (pc := 77) hC dX3_readOne_77 ?_
                refine g_callV (pc := 78) (qr := 3) hC [3, 4] (k_X1_put _ _ _ _ _ _ _ (nt_l l3 1) (-1) (by first | assumption | omega) (by first | assumption | omega) (by first | assumption | omega) (by first | assumption | omega) (by first | assumption | omega) (by first | omega | (simp only [nt_l, List.length_append, List.length_cons, List.length_nil]; omega)) (by decide +kernel) (by decide)) cl_X1_put wm_X3_61 dX3_readOne_78 rfl rfl rfl rfl rfl (by decide) (by decide) (by omega) (Nat.le_of_ble_eq_true rfl) rfl (fun v9 w9 hq9 => ?_)
                obtain ⟨m4, od4, rfl, rfl, r_m4, r_od4, hL2_78, hm2_78⟩ := hq9
                refine g_ws hC [cO g0 3 [.ref g1, .ref g2, .int (iI nm3), .int (iI p3)], cO g1 6 [.ref g3, .int (iI e)], cA K g3 100 sg, cO g2 1 [.ref g4, .int (iI m4), .int (iI rc)], cA K g4 100 od4] rfl ?_
                refine g_st hC [] rfl ?_
                refine g_iinc (pc := 81) hC 0 [(4, _), (3, _), (2, _), (0, _), (1, _)] dX3_readOne_81 rfl (by decide) rfl ?_
                refine g_lv hC [0, 1, 2, 3, 4] [(4, .int (iI 2)), (3, _), (2, _), (0, _), (1, _)] rfl ?_
                refine g_goto (pc := 84) hC 61 dX3_readOne_84 (by decide) ?_
                refine g_iload (pc := 61) hC 0 dX3_readOne_61 rfl ?_
                refine g_iload_n (pc := 63) hC 2 dX3_readOne_63 rfl rfl ?_
                refine g_icmp_ge (pc := 64) hC 87 dX3_readOne_64 (by decide) (by omega) (by omega) (fun c64 => by exfalso; omega) (fun c64 => ?_)
                refine g_iload_n (pc := 67) hC 1 dX3_readOne_67 rfl rfl ?_
                refine g_if_eq (pc := 68) hC 87 dX3_readOne_68 (by decide) (by omega) (fun c68 => by exfalso; omega) (fun c68 => ?_)
                refine g_aload_n (pc := 71) hC 3 dX3_readOne_71 rfl rfl ?_
                refine g_get (pc := 72) hC 0 fl_X3_15 dX3_readOne_72 rfl rfl ?_
                refine g_bipush (pc := 75) hC (6) dX3_readOne_75 (by decide) ?_
                refine g_iconst (pc := 77) hC dX3_readOne_77 ?_
                refine g_callV (pc := 78) (qr := 3) hC [3, 4] (k_X1_put _ _ _ _ _ _ _ (nt_l l3 2) (-1) (by first | assumption | omega) (by first | assumption | omega) (by first | assumption | omega) (by first | assumption | omega) (by first | assumption | omega) (by first | omega | (simp only [nt_l, List.length_append, List.length_cons, List.length_nil]; omega)) (by decide +kernel) (by decide)) cl_X1_put wm_X3_61 dX3_readOne_78 rfl rfl rfl rfl rfl (by decide) (by decide) (by omega) (Nat.le_of_ble_eq_true rfl) rfl (fun v9 w9 hq9 => ?_)
                obtain ⟨m4, od4, rfl, rfl, r_m4, r_od4, hL2_78, hm2_78⟩ := hq9
                refine g_ws hC [cO g0 3 [.ref g1, .ref g2, .int (iI nm3), .int (iI p3)], cO g1 6 [.ref g3, .int (iI e)], cA K g3 100 sg, cO g2 1 [.ref g4, .int (iI m4), .int (iI rc)], cA K g4 100 od4] rfl ?_
                refine g_st hC [] rfl ?_
                refine g_iinc (pc := 81) hC 0 [(4, _), (3, _), (2, _), (0, _), (1, _)] dX3_readOne_81 rfl (by decide) rfl ?_
                refine g_lv hC [0, 1, 2, 3, 4] [(4, .int (iI 3)), (3, _), (2, _), (0, _), (1, _)] rfl ?_
                refine g_goto (pc := 84) hC 61 dX3_readOne_84 (by decide) ?_
                refine g_iload (pc := 61) hC 0 dX3_readOne_61 rfl ?_
                refine g_iload_n (pc := 63) hC 2 dX3_readOne_63 rfl rfl ?_
                refine g_icmp_ge (pc := 64) hC 87 dX3_readOne_64 (by decide) (by omega) (by omega) (fun c64 => by exfalso; omega) (fun c64 => ?_)
                refine g_iload_n (pc := 67) hC 1 dX3_readOne_67 rfl rfl ?_
                refine g_if_eq (pc := 68) hC 87 dX3_readOne_68 (by decide) (by omega) (fun c68 => by exfalso; omega) (fun c68 => ?_)
                refine g_aload_n (pc := 71) hC 3 dX3_readOne_71 rfl rfl ?_
                refine g_get (pc := 72) hC 0 fl_X3_15 dX3_readOne_72 rfl rfl ?_
                refine g_bipush (pc := 75) hC (6) dX3_readOne_75 (by decide) ?_
                refine g_iconst (pc := 77) hC dX3_readOne_77 ?_
                refine g_callV (pc := 78) (qr := 3) hC [3, 4] (k_X1_put _ _ _ _ _ _ _ (nt_l l3 3) (-1) (by first | assumption | omega) (by first | assumption | omega) (by first | assumption | omega) (by first | assumption | omega) (by first | assumption | omega) (by first | omega | (simp only [nt_l, List.length_append, List.length_cons, List.length_nil]; omega)) (by decide +kernel) (by decide)) cl_X1_put wm_X3_61 dX3_readOne_78 rfl rfl rfl rfl rfl (by decide) (by decide) (by omega) (Nat.le_of_ble_eq_true rfl) rfl (fun v9 w9 hq9 => ?_)
                obtain ⟨m4, od4, rfl, rfl, r_m4, r_od4, hL2_78, hm2_78⟩ := hq9
                refine g_ws hC [cO g0 3 [.ref g1, .ref g2, .int (iI nm3), .int (iI p3)], cO g1 6 [.ref g3, .int (iI e)], cA K g3 100 sg, cO g2 1 [.ref g4, .int (iI m4), .int (iI rc)], cA K g4 100 od4] rfl ?_
                refine g_st hC [] rfl ?_
                refine g_iinc (pc := 81) hC 0 [(4, _), (3, _), (2, _), (0, _), (1, _)] dX3_readOne_81 rfl (by decide) rfl ?_
                refine g_lv hC [0, 1, 2, 3, 4] [(4, .int (iI 4)), (3, _), (2, _), (0, _), (1, _)] rfl ?_
                refine g_goto (pc := 84) hC 61 dX3_readOne_84 (by decide) ?_
                refine g_iload (pc := 61) hC 0 dX3_readOne_61 rfl ?_
                refine g_iload_n (pc := 63) hC 2 dX3_readOne_63 rfl rfl ?_
                refine g_icmp_ge (pc := 64) hC 87 dX3_readOne_64 (by decide) (by omega) (by omega) (fun c64 => by exfalso; omega) (fun c64 => ?_)
                refine g_iload_n (pc := 67) hC 1 dX3_readOne_67 rfl rfl ?_
                refine g_if_eq (pc := 68) hC 87 dX3_readOne_68 (by decide) (by omega) (fun c68 => by exfalso; omega) (fun c68 => ?_)
                refine g_aload_n (pc := 71) hC 3 dX3_readOne_71 rfl rfl ?_
                refine g_get (pc := 72) hC 0 fl_X3_15 dX3_readOne_72 rfl rfl ?_
                refine g_bipush (pc := 75) hC (6) dX3_readOne_75 (by decide) ?_
                refine g_iconst (pc := 77) hC dX3_readOne_77 ?_
                refine g_callV (pc := 78) (qr := 3) hC [3, 4] (k_X1_put _ _ _ _ _ _ _ (nt_l l3 4) (-1) (by first | assumption | omega) (by first | assumption | omega) (by first | assumption | omega) (by first | assumption | omega) (by first | assumption | omega) (by first | omega | (simp only [nt_l, List.length_append, List.length_cons, List.length_nil]; omega)) (by decide +kernel) (by decide)) cl_X1_put wm_X3_61 dX3_readOne_78 rfl rfl rfl rfl rfl (by decide) (by decide) (by omega) (Nat.le_of_ble_eq_true rfl) rfl (fun v9 w9 hq9 => ?_)
                obtain ⟨m4, od4, rfl, rfl, r_m4, r_od4, hL2_78, hm2_78⟩ := hq9
                refine g_ws hC [cO g0 3 [.ref g1, .ref g2, .int (iI nm3), .int (iI p3)], cO g1 6 [.ref g3, .int (iI e)], cA K g3 100 sg, cO g2 1 [.ref g4, .int (iI m4), .int (iI rc)], cA K g4 100 od4] rfl ?_
                refine g_st hC [] rfl ?_
                refine g_iinc (pc := 81) hC 0 [(4, _), (3, _), (2, _), (0, _), (1, _)] dX3_readOne_81 rfl (by decide) rfl ?_
                refine g_lv hC [0, 1, 2, 3, 4] [(4, .int (iI 5)), (3, _), (2, _), (0, _), (1, _)] rfl ?_
                refine g_goto (pc := 84) hC 61 dX3_readOne_84 (by decide) ?_
                refine g_iload (pc := 61) hC 0 dX3_readOne_61 rfl ?_
                refine g_iload_n (pc := 63) hC 2 dX3_readOne_63 rfl rfl ?_
                refine g_icmp_ge (pc := 64) hC 87 dX3_readOne_64 (by decide) (by omega) (by omega) (fun c64 => ?_) (fun c64 => by exfalso; omega)
                refine g_iload_n (pc := 87) hC 1 dX3_readOne_87 rfl rfl ?_
                exact g_zret (pc := 88) hR dX3_readOne_88 rfl (by omega) ⟨by omega, by omega⟩ (Nat.le_of_ble_eq_true rfl) ⟨r3, p3, nm3, m4, od4, (nt_l l3 5), rfl, rfl, (by first | assumption | omega), (by first | assumption | omega), (by first | assumption | omega), (by first | assumption | omega), (by first | assumption | omega), (px_fac_not (l4 := nt_l l3 5) rfl hq0 (px_fac_not (l4 := nt_l l3 4) rfl hq1 (px_fac_not (l4 := nt_l l3 3) rfl hq2 (px_fac_not (l4 := nt_l l3 2) rfl hq3 (px_fac_not (l4 := nt_l l3 1) rfl hq4 (px_fac_33 rfl hq9 hz_54) (by rw [if_pos (show (1 - r3 : Int) = 0 by omega)]; rfl)) (by rw [if_pos (show (1 - r3 : Int) = 0 by omega)]; rfl)) (by rw [if_pos (show (1 - r3 : Int) = 0 by omega)]; rfl)) (by rw [if_pos (show (1 - r3 : Int) = 0 by omega)]; rfl)) (by rw [if_pos (show (1 - r3 : Int) = 0 by omega)]; rfl)), hL2_78, (by first | assumption | omega), (by first | omega | (simp only [nt_l, List.length_append, List.length_cons, List.length_nil]; omega)), (by first | assumption | omega)⟩
set_option maxHeartbeats 4000000 in
set_option maxRecDepth 100000 in
theorem k_X3_readEither_0 {K : gK} (g0 : Nat) (g1 : Nat) (g2 : Nat) (g3 : Nat) (g4 : Nat) (nm : Int) (p : Int) (e : Int) (m : Int) (rc : Int) (sg : Int → Int) (od : Int → Int) (T : Int → Int) (l : List Int) (r_nm : rI nm) (r_p : rI p) (r_e : rI e) (r_m : rI m) (r_rc : rI rc) (r_sg : ∀ j, rI (sg j)) (r_od : ∀ j, rI (od j)) (hT : cr_T T e sg) (hp : 0 ≤ p ∧ p ≤ e) (hL : cr_L l od m) (hl : (l.length : Int) ≤ p) (hnm : 0 ≤ nm ∧ nm ≤ 99) : gMet K yX3_readEither cX3_readEither 5 (some .boolean) 23 0 0 [.ref g0, .int (iI 0)] [cO g0 3 [.ref g1, .ref g2, .int (iI nm), .int (iI p)], cO g1 6 [.ref g3, .int (iI e)], cA K g3 100 sg, cO g2 1 [.ref g4, .int (iI m), .int (iI rc)], cA K g4 100 od] (fun v9 w9 => ∃ (r : Int), ∃ (p2 : Int), ∃ (nm2 : Int), ∃ (m2 : Int), ∃ (od2 : Int → Int), ∃ (l2 : List Int), v9 = some (.int (iI r)) ∧ w9 = [cO g0 3 [.ref g1, .ref g2, .int (iI nm2), .int (iI p2)], cO g1 6 [.ref g3, .int (iI e)], cA K g3 100 sg, cO g2 1 [.ref g4, .int (iI m2), .int (iI rc)], cA K g4 100 od2] ∧ rI r ∧ rI p2 ∧ rI nm2 ∧ rI m2 ∧ (∀ j, rI (od2 j)) ∧ ((1 - r, p2, l2) = px_some T (px_fac T 5) (0, p, l)) ∧ (cr_L l2 od2 m2) ∧ ((r = 0 ∨ r = 1) ∧ p ≤ p2 ∧ p2 ≤ e ∧ (r = 1 → p < p2)) ∧ ((l2.length : Int) + p ≤ (l.length : Int) + p2) ∧ (0 ≤ nm2 ∧ nm2 ≤ 99)) := by
  refine g_enter (by decide +kernel) (Nat.le_of_ble_eq_true rfl) (fun G hC hR => ?_)
  refine g_lv hC [0, 1] [(0, _), (1, _)] rfl ?_
  have hge := hT.1
  refine g_iconst (pc := 0) hC dX3_readEither_0 ?_
  refine g_istore_n (pc := 1) hC [(2, _), (0, _), (1, _)] dX3_readEither_1 rfl (by decide) rfl ?_
  refine g_iconst (pc := 2) hC dX3_readEither_2 ?_
  refine g_istore_n (pc := 3) hC [(3, _), (2, _), (0, _), (1, _)] dX3_readEither_3 rfl (by decide) rfl ?_
  refine g_iconst (pc := 4) hC dX3_readEither_4 ?_
  refine g_istore (pc := 5) hC [(4, _), (3, _), (2, _), (0, _), (1, _)] dX3_readEither_5 (by decide) rfl ?_
  have L7 : ∀ (n1 : Nat) (an : Int) (o : Int) (pt : Int) (p1 : Int) (nm1 : Int) (m1 : Int) (od1 : Int → Int) (l1 : List Int) (f1 : Nat) (f2 : Nat), (rI an) → (rI o) → (rI pt) → (rI p1) → (rI nm1) → (rI m1) → (∀ j, rI (od1 j)) → (px_SO T (px_fac T 5) o f2 (px_ev T (px_fac T 5) f1 (px_AN an ((px_fac T 5) (0, p1, l1)))) = px_some T (px_fac T 5) (0, p, l)) → (cr_L l1 od1 m1) → ((an = 0 ∨ an = 1) ∧ (o = 0 ∨ o = 1) ∧ 0 ≤ pt ∧ p + 2 * pt ≤ p1 ∧ p1 ≤ e) → ((l1.length : Int) + p + an + o ≤ (l.length : Int) + p1) → (e - p1 ≤ (f1 : Int)) → (e - p1 ≤ (f2 : Int)) → (0 ≤ nm1 ∧ nm1 ≤ 99) → e - p1 < (n1 : Int) → G 0 0 7 [(0, .ref g0), (1, .int (iI 0)), (2, .int (iI an)), (3, .int (iI o)), (4, .int (iI pt))] [] [cO g0 3 [.ref g1, .ref g2, .int (iI nm1), .int (iI p1)], cO g1 6 [.ref g3, .int (iI e)], cA K g3 100 sg, cO g2 1 [.ref g4, .int (iI m1), .int (iI rc)], cA K g4 100 od1] := by
    intro n1
    induction n1 with
    | zero => intro an o pt p1 nm1 m1 od1 l1 f1 f2 r_an r_o r_pt r_p1 r_nm1 r_m1 r_od1 hz hL1 hb1 hl1 hf1 hf2 hnm1 hm7; exfalso; omega
    | succ n1 ih7 =>
      intro an o pt p1 nm1 m1 od1 l1 f1 f2 r_an r_o r_pt r_p1 r_nm1 r_m1 r_od1 hz hL1 hb1 hl1 hf1 hf2 hnm1 hm7
      refine g_iload (pc := 7) hC 4 dX3_readEither_7 rfl ?_
      refine g_bipush (pc := 9) hC (100) dX3_readEither_9 (by decide) ?_
      refine g_icmp_ge (pc := 11) hC 108 dX3_readEither_11 (by decide) (by omega) (by omega) (fun c11 => by exfalso; omega) (fun c11 => ?_)
      refine g_aload_n (pc := 14) hC 0 dX3_readEither_14 rfl rfl ?_
      refine g_iload_n (pc := 15) hC 1 dX3_readEither_15 rfl rfl ?_
      refine g_callV (pc := 16) (qr := 0) hC [0, 1, 2, 3, 4] (k_X3_readOne_0 _ _ _ _ _ _ _ _ _ _ _ _ _ _ (by first | assumption | omega) (by first | assumption | omega) (by first | assumption | omega) (by first | assumption | omega) (by first | assumption | omega) (by first | assumption | omega) (by first | assumption | omega) (by first | assumption | omega) (by first | assumption | omega) (by first | assumption | omega) (by first | assumption | omega) (by first | assumption | omega)) cl_X3_readOne wm_X3_65 dX3_readEither_16 rfl rfl rfl rfl rfl (by decide) (by decide) (by omega) (Nat.le_of_ble_eq_true rfl) rfl (fun v9 w9 hq9 => ?_)
      obtain ⟨r3, p3, nm3, m3, od3, l3, rfl, rfl, r_r3, r_p3, r_nm3, r_m3, r_od3, hz_16, hL2_16, hb_16, hl2_16, hnm2_16⟩ := hq9
      refine g_ws hC [cO g0 3 [.ref g1, .ref g2, .int (iI nm3), .int (iI p3)], cO g1 6 [.ref g3, .int (iI e)], cA K g3 100 sg, cO g2 1 [.ref g4, .int (iI m3), .int (iI rc)], cA K g4 100 od3] rfl ?_
      refine g_st hC [.int (iI r3)] rfl ?_
      refine g_if_ne (pc := 19) hC 24 dX3_readEither_19 (by decide) (by omega) (fun c19 => ?_) (fun c19 => ?_)
      · refine g_iload_n (pc := 24) hC 2 dX3_readEither_24 rfl rfl ?_
        refine g_if_eq (pc := 25) hC 38 dX3_readEither_25 (by decide) (by omega) (fun c25 => ?_) (fun c25 => ?_)
        · refine g_aload_n (pc := 38) hC 0 dX3_readEither_38 rfl rfl ?_
          refine g_fnV (pc := 39) (qr := 0) hC [0, 1, 2] (k_X3_sign _ _ _ _ _ _ _ _ _ (by first | assumption | omega) (by first | assumption | omega) (by first | assumption | omega) (by first | assumption | omega) (by first | assumption | omega) (by first | assumption | omega)) cl_X3_sign wm_X3_28 dX3_readEither_39 rfl rfl rfl rfl rfl (by decide) (by decide) ⟨by omega, by omega⟩ (Nat.le_of_ble_eq_true rfl) rfl rfl ?_
          refine g_name hC (fun y39 e_y39 => ?_)
          have q_y39 : -1 ≤ y39 ∧ y39 ≤ 127 := by rw [e_y39]; exact hT.2.2.1 _
          refine g_bipush (pc := 42) hC (38) dX3_readEither_42 (by decide) ?_
          refine g_icmp_ne (pc := 44) hC 51 dX3_readEither_44 (by decide) (by omega) (by omega) (fun c44 => ?_) (fun c44 => ?_)
          · refine g_iconst (pc := 51) hC dX3_readEither_51 ?_
            refine g_istore_n (pc := 52) hC [(2, _), (0, _), (1, _), (3, _), (4, _)] dX3_readEither_52 rfl (by decide) rfl ?_
            refine g_iload_n (pc := 53) hC 0 dX3_readEither_53 rfl rfl ?_
            refine g_if_ne (pc := 54) hC 92 dX3_readEither_54 (by decide) (by omega) (fun c54 => by exfalso; omega) (fun c54 => ?_)
            refine g_iload_n (pc := 57) hC 3 dX3_readEither_57 rfl rfl ?_
            refine g_if_eq (pc := 58) hC 71 dX3_readEither_58 (by decide) (by omega) (fun c58 => ?_) (fun c58 => ?_)
            · refine g_aload_n (pc := 71) hC 1 dX3_readEither_71 rfl rfl ?_
              refine g_fnV (pc := 72) (qr := 0) hC [0, 1, 2] (k_X3_sign _ _ _ _ _ _ _ _ _ (by first | assumption | omega) (by first | assumption | omega) (by first | assumption | omega) (by first | assumption | omega) (by first | assumption | omega) (by first | assumption | omega)) cl_X3_sign wm_X3_28 dX3_readEither_72 rfl rfl rfl rfl rfl (by decide) (by decide) ⟨by omega, by omega⟩ (Nat.le_of_ble_eq_true rfl) rfl rfl ?_
              refine g_name hC (fun y72 e_y72 => ?_)
              have q_y72 : -1 ≤ y72 ∧ y72 ≤ 127 := by rw [e_y72]; exact hT.2.2.1 _
              refine g_bipush (pc := 75) hC (124) dX3_readEither_75 (by decide) ?_
              refine g_icmp_ne (pc := 77) hC 84 dX3_readEither_77 (by decide) (by omega) (by omega) (fun c77 => ?_) (fun c77 => ?_)
              · refine g_iconst (pc := 84) hC dX3_readEither_84 ?_
                refine g_istore_n (pc := 85) hC [(3, _), (2, _), (0, _), (1, _), (4, _)] dX3_readEither_85 rfl (by decide) rfl ?_
                refine g_iload_n (pc := 86) hC 0 dX3_readEither_86 rfl rfl ?_
                refine g_if_ne (pc := 87) hC 92 dX3_readEither_87 (by decide) (by omega) (fun c87 => by exfalso; omega) (fun c87 => ?_)
                refine g_iconst (pc := 90) hC dX3_readEither_90 ?_
                exact g_zret (pc := 91) hR dX3_readEither_91 rfl (by omega) ⟨by omega, by omega⟩ (Nat.le_of_ble_eq_true rfl) ⟨1, p3, nm3, m3, od3, l3, rfl, rfl, (by first | assumption | omega), (by first | assumption | omega), (by first | assumption | omega), (by first | assumption | omega), (by first | assumption | omega), (px_E_end hz (by omega) hz_16 (by rw [if_pos (by omega)]) (by rw [if_pos (by omega)]) (by omega) (by omega)), hL2_16, (by first | assumption | omega), (by first | omega | (simp only [nt_l, List.length_append, List.length_cons, List.length_nil]; omega)), (by first | assumption | omega)⟩
              · have hlt := cr_lt hT (show 0 ≤ p3 by omega) (show T p3 = 124 by omega) (by decide)
                obtain ⟨q2, rfl⟩ : ∃ q2, f2 = q2 + 1 := ⟨f2 - 1, by omega⟩
                refine g_iconst (pc := 80) hC dX3_readEither_80 ?_
                refine g_goto (pc := 81) hC 85 dX3_readEither_81 (by decide) ?_
                refine g_istore_n (pc := 85) hC [(3, _), (2, _), (0, _), (1, _), (4, _)] dX3_readEither_85 rfl (by decide) rfl ?_
                refine g_iload_n (pc := 86) hC 0 dX3_readEither_86 rfl rfl ?_
                refine g_if_ne (pc := 87) hC 92 dX3_readEither_87 (by decide) (by omega) (fun c87 => ?_) (fun c87 => by exfalso; omega)
                refine g_aload_n (pc := 92) hC 2 dX3_readEither_92 rfl rfl ?_
                refine g_dup (pc := 93) hC dX3_readEither_93 rfl ?_
                refine g_get (pc := 94) hC 0 fl_X3_32 dX3_readEither_94 rfl rfl ?_
                refine g_iconst (pc := 97) hC dX3_readEither_97 ?_
                refine g_iadd (pc := 98) hC dX3_readEither_98 ?_
                refine g_putI (pc := 99) hC 0 [cO _ _ [_, _, _, _], _, _, _, _] fl_X3_32 dX3_readEither_99 rfl (Nat.le_of_ble_eq_true rfl) rfl ?_
                refine g_iinc (pc := 102) hC 4 [(4, _), (3, _), (2, _), (0, _), (1, _)] dX3_readEither_102 rfl (by decide) rfl ?_
                refine g_goto (pc := 105) hC 7 dX3_readEither_105 (by decide) ?_
                refine g_lv hC [3, 4, 2, 1, 0] [(0, _), (1, _), (2, _), (3, _), (4, _)] rfl ?_
                exact ih7 0 1 (pt + 1) (p3 + 1) nm3 m3 od3 l3 101 q2 (by first | assumption | omega) (by first | assumption | omega) (by first | assumption | omega) (by first | assumption | omega) (by first | assumption | omega) (by first | assumption | omega) (by first | assumption | omega) (px_E_or hz (by omega) hz_16 (by rw [if_pos (by omega)]) (by rw [if_pos (by omega)]) (by omega) (by omega)) hL2_16 (by first | assumption | omega) (by first | omega | (simp only [nt_l, List.length_append, List.length_cons, List.length_nil]; omega)) (by first | assumption | omega) (by first | assumption | omega) (by first | assumption | omega) (by omega)
            · refine g_aload_n (pc := 61) hC 1 dX3_readEither_61 rfl rfl ?_
              refine g_get (pc := 62) hC 0 fl_X3_15 dX3_readEither_62 rfl rfl ?_
              refine g_bipush (pc := 65) hC (8) dX3_readEither_65 (by decide) ?_
              refine g_iconst (pc := 67) hC dX3_readEither_67 ?_
              refine g_callV (pc := 68) (qr := 3) hC [3, 4] (k_X1_put _ _ _ _ _ _ _ l3 (-3) (by first | assumption | omega) (by first | assumption | omega) (by first | assumption | omega) (by first | assumption | omega) (by first | assumption | omega) (by first | omega | (simp only [nt_l, List.length_append, List.length_cons, List.length_nil]; omega)) (by decide +kernel) (by decide)) cl_X1_put wm_X3_61 dX3_readEither_68 rfl rfl rfl rfl rfl (by decide) (by decide) (by omega) (Nat.le_of_ble_eq_true rfl) rfl (fun v9 w9 hq9 => ?_)
              obtain ⟨m6, od6, rfl, rfl, r_m6, r_od6, hL2_68, hm2_68⟩ := hq9
              refine g_ws hC [cO g0 3 [.ref g1, .ref g2, .int (iI nm3), .int (iI p3)], cO g1 6 [.ref g3, .int (iI e)], cA K g3 100 sg, cO g2 1 [.ref g4, .int (iI m6), .int (iI rc)], cA K g4 100 od6] rfl ?_
              refine g_st hC [] rfl ?_
              refine g_aload_n (pc := 71) hC 1 dX3_readEither_71 rfl rfl ?_
              refine g_fnV (pc := 72) (qr := 0) hC [0, 1, 2] (k_X3_sign _ _ _ _ _ _ _ _ _ (by first | assumption | omega) (by first | assumption | omega) (by first | assumption | omega) (by first | assumption | omega) (by first | assumption | omega) (by first | assumption | omega)) cl_X3_sign wm_X3_28 dX3_readEither_72 rfl rfl rfl rfl rfl (by decide) (by decide) ⟨by omega, by omega⟩ (Nat.le_of_ble_eq_true rfl) rfl rfl ?_
              refine g_name hC (fun y72 e_y72 => ?_)
              have q_y72 : -1 ≤ y72 ∧ y72 ≤ 127 := by rw [e_y72]; exact hT.2.2.1 _
              refine g_bipush (pc := 75) hC (124) dX3_readEither_75 (by decide) ?_
              refine g_icmp_ne (pc := 77) hC 84 dX3_readEither_77 (by decide) (by omega) (by omega) (fun c77 => ?_) (fun c77 => ?_)
              · refine g_iconst (pc := 84) hC dX3_readEither_84 ?_
                refine g_istore_n (pc := 85) hC [(3, _), (2, _), (0, _), (1, _), (4, _)] dX3_readEither_85 rfl (by decide) rfl ?_
                refine g_iload_n (pc := 86) hC 0 dX3_readEither_86 rfl rfl ?_
                refine g_if_ne (pc := 87) hC 92 dX3_readEither_87 (by decide) (by omega) (fun c87 => by exfalso; omega) (fun c87 => ?_)
                refine g_iconst (pc := 90) hC dX3_readEither_90 ?_
                exact g_zret (pc := 91) hR dX3_readEither_91 rfl (by omega) ⟨by omega, by omega⟩ (Nat.le_of_ble_eq_true rfl) ⟨1, p3, nm3, m6, od6, (l3 ++ [-3]), rfl, rfl, (by first | assumption | omega), (by first | assumption | omega), (by first | assumption | omega), (by first | assumption | omega), (by first | assumption | omega), (px_E_end hz (by omega) hz_16 (by rw [if_pos (by omega)]) (by rw [if_neg (by omega)]) (by omega) (by omega)), hL2_68, (by first | assumption | omega), (by first | omega | (simp only [nt_l, List.length_append, List.length_cons, List.length_nil]; omega)), (by first | assumption | omega)⟩
              · have hlt := cr_lt hT (show 0 ≤ p3 by omega) (show T p3 = 124 by omega) (by decide)
                obtain ⟨q2, rfl⟩ : ∃ q2, f2 = q2 + 1 := ⟨f2 - 1, by omega⟩
                refine g_iconst (pc := 80) hC dX3_readEither_80 ?_
                refine g_goto (pc := 81) hC 85 dX3_readEither_81 (by decide) ?_
                refine g_istore_n (pc := 85) hC [(3, _), (2, _), (0, _), (1, _), (4, _)] dX3_readEither_85 rfl (by decide) rfl ?_
                refine g_iload_n (pc := 86) hC 0 dX3_readEither_86 rfl rfl ?_
                refine g_if_ne (pc := 87) hC 92 dX3_readEither_87 (by decide) (by omega) (fun c87 => ?_) (fun c87 => by exfalso; omega)
                refine g_aload_n (pc := 92) hC 2 dX3_readEither_92 rfl rfl ?_
                refine g_dup (pc := 93) hC dX3_readEither_93 rfl ?_
                refine g_get (pc := 94) hC 0 fl_X3_32 dX3_readEither_94 rfl rfl ?_
                refine g_iconst (pc := 97) hC dX3_readEither_97 ?_
                refine g_iadd (pc := 98) hC dX3_readEither_98 ?_
                refine g_putI (pc := 99) hC 0 [cO _ _ [_, _, _, _], _, _, _, _] fl_X3_32 dX3_readEither_99 rfl (Nat.le_of_ble_eq_true rfl) rfl ?_
                refine g_iinc (pc := 102) hC 4 [(4, _), (3, _), (2, _), (0, _), (1, _)] dX3_readEither_102 rfl (by decide) rfl ?_
                refine g_goto (pc := 105) hC 7 dX3_readEither_105 (by decide) ?_
                refine g_lv hC [3, 4, 2, 1, 0] [(0, _), (1, _), (2, _), (3, _), (4, _)] rfl ?_
                exact ih7 0 1 (pt + 1) (p3 + 1) nm3 m6 od6 (l3 ++ [-3]) 101 q2 (by first | assumption | omega) (by first | assumption | omega) (by first | assumption | omega) (by first | assumption | omega) (by first | assumption | omega) (by first | assumption | omega) (by first | assumption | omega) (px_E_or hz (by omega) hz_16 (by rw [if_pos (by omega)]) (by rw [if_neg (by omega)]) (by omega) (by omega)) hL2_68 (by first | assumption | omega) (by first | omega | (simp only [nt_l, List.length_append, List.length_cons, List.length_nil]; omega)) (by first | assumption | omega) (by first | assumption | omega) (by first | assumption | omega) (by omega)
          · have hlt := cr_lt hT (show 0 ≤ p3 by omega) (show T p3 = 38 by omega) (by decide)
            obtain ⟨q1, rfl⟩ : ∃ q1, f1 = q1 + 1 := ⟨f1 - 1, by omega⟩
            refine g_iconst (pc := 47) hC dX3_readEither_47 ?_
            refine g_goto (pc := 48) hC 52 dX3_readEither_48 (by decide) ?_
            refine g_istore_n (pc := 52) hC [(2, _), (0, _), (1, _), (3, _), (4, _)] dX3_readEither_52 rfl (by decide) rfl ?_
            refine g_iload_n (pc := 53) hC 0 dX3_readEither_53 rfl rfl ?_
            refine g_if_ne (pc := 54) hC 92 dX3_readEither_54 (by decide) (by omega) (fun c54 => ?_) (fun c54 => by exfalso; omega)
            refine g_aload_n (pc := 92) hC 1 dX3_readEither_92 rfl rfl ?_
            refine g_dup (pc := 93) hC dX3_readEither_93 rfl ?_
            refine g_get (pc := 94) hC 0 fl_X3_32 dX3_readEither_94 rfl rfl ?_
            refine g_iconst (pc := 97) hC dX3_readEither_97 ?_
            refine g_iadd (pc := 98) hC dX3_readEither_98 ?_
            refine g_putI (pc := 99) hC 0 [cO _ _ [_, _, _, _], _, _, _, _] fl_X3_32 dX3_readEither_99 rfl (Nat.le_of_ble_eq_true rfl) rfl ?_
            refine g_iinc (pc := 102) hC 4 [(4, _), (2, _), (0, _), (1, _), (3, _)] dX3_readEither_102 rfl (by decide) rfl ?_
            refine g_goto (pc := 105) hC 7 dX3_readEither_105 (by decide) ?_
            refine g_lv hC [2, 3, 1, 4, 0] [(0, _), (1, _), (2, _), (3, _), (4, _)] rfl ?_
            exact ih7 1 o (pt + 1) (p3 + 1) nm3 m3 od3 l3 q1 f2 (by first | assumption | omega) (by first | assumption | omega) (by first | assumption | omega) (by first | assumption | omega) (by first | assumption | omega) (by first | assumption | omega) (by first | assumption | omega) (px_E_and hz (by omega) hz_16 (by rw [if_pos (by omega)]) (by omega)) hL2_16 (by first | assumption | omega) (by first | omega | (simp only [nt_l, List.length_append, List.length_cons, List.length_nil]; omega)) (by first | assumption | omega) (by first | assumption | omega) (by first | assumption | omega) (by omega)
        · refine g_aload_n (pc := 28) hC 0 dX3_readEither_28 rfl rfl ?_
          refine g_get (pc := 29) hC 0 fl_X3_15 dX3_readEither_29 rfl rfl ?_
          refine g_bipush (pc := 32) hC (7) dX3_readEither_32 (by decide) ?_
          refine g_iconst (pc := 34) hC dX3_readEither_34 ?_
          refine g_callV (pc := 35) (qr := 3) hC [3, 4] (k_X1_put _ _ _ _ _ _ _ l3 (-2) (by first | assumption | omega) (by first | assumption | omega) (by first | assumption | omega) (by first | assumption | omega) (by first | assumption | omega) (by first | assumption | omega) (by decide +kernel) (by decide)) cl_X1_put wm_X3_61 dX3_readEither_35 rfl rfl rfl rfl rfl (by decide) (by decide) (by omega) (Nat.le_of_ble_eq_true rfl) rfl (fun v9 w9 hq9 => ?_)
          obtain ⟨m4, od4, rfl, rfl, r_m4, r_od4, hL2_35, hm2_35⟩ := hq9
          refine g_ws hC [cO g0 3 [.ref g1, .ref g2, .int (iI nm3), .int (iI p3)], cO g1 6 [.ref g3, .int (iI e)], cA K g3 100 sg, cO g2 1 [.ref g4, .int (iI m4), .int (iI rc)], cA K g4 100 od4] rfl ?_
          refine g_st hC [] rfl ?_
          refine g_aload_n (pc := 38) hC 0 dX3_readEither_38 rfl rfl ?_
          refine g_fnV (pc := 39) (qr := 0) hC [0, 1, 2] (k_X3_sign _ _ _ _ _ _ _ _ _ (by first | assumption | omega) (by first | assumption | omega) (by first | assumption | omega) (by first | assumption | omega) (by first | assumption | omega) (by first | assumption | omega)) cl_X3_sign wm_X3_28 dX3_readEither_39 rfl rfl rfl rfl rfl (by decide) (by decide) ⟨by omega, by omega⟩ (Nat.le_of_ble_eq_true rfl) rfl rfl ?_
          refine g_name hC (fun y39 e_y39 => ?_)
          have q_y39 : -1 ≤ y39 ∧ y39 ≤ 127 := by rw [e_y39]; exact hT.2.2.1 _
          refine g_bipush (pc := 42) hC (38) dX3_readEither_42 (by decide) ?_
          refine g_icmp_ne (pc := 44) hC 51 dX3_readEither_44 (by decide) (by omega) (by omega) (fun c44 => ?_) (fun c44 => ?_)
          · refine g_iconst (pc := 51) hC dX3_readEither_51 ?_
            refine g_istore_n (pc := 52) hC [(2, _), (0, _), (1, _), (3, _), (4, _)] dX3_readEither_52 rfl (by decide) rfl ?_
            refine g_iload_n (pc := 53) hC 0 dX3_readEither_53 rfl rfl ?_
            refine g_if_ne (pc := 54) hC 92 dX3_readEither_54 (by decide) (by omega) (fun c54 => by exfalso; omega) (fun c54 => ?_)
            refine g_iload_n (pc := 57) hC 3 dX3_readEither_57 rfl rfl ?_
            refine g_if_eq (pc := 58) hC 71 dX3_readEither_58 (by decide) (by omega) (fun c58 => ?_) (fun c58 => ?_)
            · refine g_aload_n (pc := 71) hC 1 dX3_readEither_71 rfl rfl ?_
              refine g_fnV (pc := 72) (qr := 0) hC [0, 1, 2] (k_X3_sign _ _ _ _ _ _ _ _ _ (by first | assumption | omega) (by first | assumption | omega) (by first | assumption | omega) (by first | assumption | omega) (by first | assumption | omega) (by first | assumption | omega)) cl_X3_sign wm_X3_28 dX3_readEither_72 rfl rfl rfl rfl rfl (by decide) (by decide) ⟨by omega, by omega⟩ (Nat.le_of_ble_eq_true rfl) rfl rfl ?_
              refine g_name hC (fun y72 e_y72 => ?_)
              have q_y72 : -1 ≤ y72 ∧ y72 ≤ 127 := by rw [e_y72]; exact hT.2.2.1 _
              refine g_bipush (pc := 75) hC (124) dX3_readEither_75 (by decide) ?_
              refine g_icmp_ne (pc := 77) hC 84 dX3_readEither_77 (by decide) (by omega) (by omega) (fun c77 => ?_) (fun c77 => ?_)
              · refine g_iconst (pc := 84) hC dX3_readEither_84 ?_
                refine g_istore_n (pc := 85) hC [(3, _), (2, _), (0, _), (1, _), (4, _)] dX3_readEither_85 rfl (by decide) rfl ?_
                refine g_iload_n (pc := 86) hC 0 dX3_readEither_86 rfl rfl ?_
                refine g_if_ne (pc := 87) hC 92 dX3_readEither_87 (by decide) (by omega) (fun c87 => by exfalso; omega) (fun c87 => ?_)
                refine g_iconst (pc := 90) hC dX3_readEither_90 ?_
                exact g_zret (pc := 91) hR dX3_readEither_91 rfl (by omega) ⟨by omega, by omega⟩ (Nat.le_of_ble_eq_true rfl) ⟨1, p3, nm3, m4, od4, (l3 ++ [-2]), rfl, rfl, (by first | assumption | omega), (by first | assumption | omega), (by first | assumption | omega), (by first | assumption | omega), (by first | assumption | omega), (px_E_end hz (by omega) hz_16 (by rw [if_neg (by omega)]) (by rw [if_pos (by omega)]) (by omega) (by omega)), hL2_35, (by first | assumption | omega), (by first | omega | (simp only [nt_l, List.length_append, List.length_cons, List.length_nil]; omega)), (by first | assumption | omega)⟩
              · have hlt := cr_lt hT (show 0 ≤ p3 by omega) (show T p3 = 124 by omega) (by decide)
                obtain ⟨q2, rfl⟩ : ∃ q2, f2 = q2 + 1 := ⟨f2 - 1, by omega⟩
                refine g_iconst (pc := 80) hC dX3_readEither_80 ?_
                refine g_goto (pc := 81) hC 85 dX3_readEither_81 (by decide) ?_
                refine g_istore_n (pc := 85) hC [(3, _), (2, _), (0, _), (1, _), (4, _)] dX3_readEither_85 rfl (by decide) rfl ?_
                refine g_iload_n (pc := 86) hC 0 dX3_readEither_86 rfl rfl ?_
                refine g_if_ne (pc := 87) hC 92 dX3_readEither_87 (by decide) (by omega) (fun c87 => ?_) (fun c87 => by exfalso; omega)
                refine g_aload_n (pc := 92) hC 2 dX3_readEither_92 rfl rfl ?_
                refine g_dup (pc := 93) hC dX3_readEither_93 rfl ?_
                refine g_get (pc := 94) hC 0 fl_X3_32 dX3_readEither_94 rfl rfl ?_
                refine g_iconst (pc := 97) hC dX3_readEither_97 ?_
                refine g_iadd (pc := 98) hC dX3_readEither_98 ?_
                refine g_putI (pc := 99) hC 0 [cO _ _ [_, _, _, _], _, _, _, _] fl_X3_32 dX3_readEither_99 rfl (Nat.le_of_ble_eq_true rfl) rfl ?_
                refine g_iinc (pc := 102) hC 4 [(4, _), (3, _), (2, _), (0, _), (1, _)] dX3_readEither_102 rfl (by decide) rfl ?_
                refine g_goto (pc := 105) hC 7 dX3_readEither_105 (by decide) ?_
                refine g_lv hC [3, 4, 2, 1, 0] [(0, _), (1, _), (2, _), (3, _), (4, _)] rfl ?_
                exact ih7 0 1 (pt + 1) (p3 + 1) nm3 m4 od4 (l3 ++ [-2]) 101 q2 (by first | assumption | omega) (by first | assumption | omega) (by first | assumption | omega) (by first | assumption | omega) (by first | assumption | omega) (by first | assumption | omega) (by first | assumption | omega) (px_E_or hz (by omega) hz_16 (by rw [if_neg (by omega)]) (by rw [if_pos (by omega)]) (by omega) (by omega)) hL2_35 (by first | assumption | omega) (by first | omega | (simp only [nt_l, List.length_append, List.length_cons, List.length_nil]; omega)) (by first | assumption | omega) (by first | assumption | omega) (by first | assumption | omega) (by omega)
            · refine g_aload_n (pc := 61) hC 1 dX3_readEither_61 rfl rfl ?_
              refine g_get (pc := 62) hC 0 fl_X3_15 dX3_readEither_62 rfl rfl ?_
              refine g_bipush (pc := 65) hC (8) dX3_readEither_65 (by decide) ?_
              refine g_iconst (pc := 67) hC dX3_readEither_67 ?_
              refine g_callV (pc := 68) (qr := 3) hC [3, 4] (k_X1_put _ _ _ _ _ _ _ (l3 ++ [-2]) (-3) (by first | assumption | omega) (by first | assumption | omega) (by first | assumption | omega) (by first | assumption | omega) (by first | assumption | omega) (by first | omega | (simp only [nt_l, List.length_append, List.length_cons, List.length_nil]; omega)) (by decide +kernel) (by decide)) cl_X1_put wm_X3_61 dX3_readEither_68 rfl rfl rfl rfl rfl (by decide) (by decide) (by omega) (Nat.le_of_ble_eq_true rfl) rfl (fun v9 w9 hq9 => ?_)
              obtain ⟨m6, od6, rfl, rfl, r_m6, r_od6, hL2_68, hm2_68⟩ := hq9
              refine g_ws hC [cO g0 3 [.ref g1, .ref g2, .int (iI nm3), .int (iI p3)], cO g1 6 [.ref g3, .int (iI e)], cA K g3 100 sg, cO g2 1 [.ref g4, .int (iI m6), .int (iI rc)], cA K g4 100 od6] rfl ?_
              refine g_st hC [] rfl ?_
              refine g_aload_n (pc := 71) hC 1 dX3_readEither_71 rfl rfl ?_
              refine g_fnV (pc := 72) (qr := 0) hC [0, 1, 2] (k_X3_sign _ _ _ _ _ _ _ _ _ (by first | assumption | omega) (by first | assumption | omega) (by first | assumption | omega) (by first | assumption | omega) (by first | assumption | omega) (by first | assumption | omega)) cl_X3_sign wm_X3_28 dX3_readEither_72 rfl rfl rfl rfl rfl (by decide) (by decide) ⟨by omega, by omega⟩ (Nat.le_of_ble_eq_true rfl) rfl rfl ?_
              refine g_name hC (fun y72 e_y72 => ?_)
              have q_y72 : -1 ≤ y72 ∧ y72 ≤ 127 := by rw [e_y72]; exact hT.2.2.1 _
              refine g_bipush (pc := 75) hC (124) dX3_readEither_75 (by decide) ?_
              refine g_icmp_ne (pc := 77) hC 84 dX3_readEither_77 (by decide) (by omega) (by omega) (fun c77 => ?_) (fun c77 => ?_)
              · refine g_iconst (pc := 84) hC dX3_readEither_84 ?_
                refine g_istore_n (pc := 85) hC [(3, _), (2, _), (0, _), (1, _), (4, _)] dX3_readEither_85 rfl (by decide) rfl ?_
                refine g_iload_n (pc := 86) hC 0 dX3_readEither_86 rfl rfl ?_
                refine g_if_ne (pc := 87) hC 92 dX3_readEither_87 (by decide) (by omega) (fun c87 => by exfalso; omega) (fun c87 => ?_)
                refine g_iconst (pc := 90) hC dX3_readEither_90 ?_
                exact g_zret (pc := 91) hR dX3_readEither_91 rfl (by omega) ⟨by omega, by omega⟩ (Nat.le_of_ble_eq_true rfl) ⟨1, p3, nm3, m6, od6, ((l3 ++ [-2]) ++ [-3]), rfl, rfl, (by first | assumption | omega), (by first | assumption | omega), (by first | assumption | omega), (by first | assumption | omega), (by first | assumption | omega), (px_E_end hz (by omega) hz_16 (by rw [if_neg (by omega)]) (by rw [if_neg (by omega)]) (by omega) (by omega)), hL2_68, (by first | assumption | omega), (by first | omega | (simp only [nt_l, List.length_append, List.length_cons, List.length_nil]; omega)), (by first | assumption | omega)⟩
              · have hlt := cr_lt hT (show 0 ≤ p3 by omega) (show T p3 = 124 by omega) (by decide)
                obtain ⟨q2, rfl⟩ : ∃ q2, f2 = q2 + 1 := ⟨f2 - 1, by omega⟩
                refine g_iconst (pc := 80) hC dX3_readEither_80 ?_
                refine g_goto (pc := 81) hC 85 dX3_readEither_81 (by decide) ?_
                refine g_istore_n (pc := 85) hC [(3, _), (2, _), (0, _), (1, _), (4, _)] dX3_readEither_85 rfl (by decide) rfl ?_
                refine g_iload_n (pc := 86) hC 0 dX3_readEither_86 rfl rfl ?_
                refine g_if_ne (pc := 87) hC 92 dX3_readEither_87 (by decide) (by omega) (fun c87 => ?_) (fun c87 => by exfalso; omega)
                refine g_aload_n (pc := 92) hC 2 dX3_readEither_92 rfl rfl ?_
                refine g_dup (pc := 93) hC dX3_readEither_93 rfl ?_
                refine g_get (pc := 94) hC 0 fl_X3_32 dX3_readEither_94 rfl rfl ?_
                refine g_iconst (pc := 97) hC dX3_readEither_97 ?_
                refine g_iadd (pc := 98) hC dX3_readEither_98 ?_
                refine g_putI (pc := 99) hC 0 [cO _ _ [_, _, _, _], _, _, _, _] fl_X3_32 dX3_readEither_99 rfl (Nat.le_of_ble_eq_true rfl) rfl ?_
                refine g_iinc (pc := 102) hC 4 [(4, _), (3, _), (2, _), (0, _), (1, _)] dX3_readEither_102 rfl (by decide) rfl ?_
                refine g_goto (pc := 105) hC 7 dX3_readEither_105 (by decide) ?_
                refine g_lv hC [3, 4, 2, 1, 0] [(0, _), (1, _), (2, _), (3, _), (4, _)] rfl ?_
                exact ih7 0 1 (pt + 1) (p3 + 1) nm3 m6 od6 ((l3 ++ [-2]) ++ [-3]) 101 q2 (by first | assumption | omega) (by first | assumption | omega) (by first | assumption | omega) (by first | assumption | omega) (by first | assumption | omega) (by first | assumption | omega) (by first | assumption | omega) (px_E_or hz (by omega) hz_16 (by rw [if_neg (by omega)]) (by rw [if_neg (by omega)]) (by omega) (by omega)) hL2_68 (by first | assumption | omega) (by first | omega | (simp only [nt_l, List.length_append, List.length_cons, List.length_nil]; omega)) (by first | assumption | omega) (by first | assumption | omega) (by first | assumption | omega) (by omega)
          · have hlt := cr_lt hT (show 0 ≤ p3 by omega) (show T p3 = 38 by omega) (by decide)
            obtain ⟨q1, rfl⟩ : ∃ q1, f1 = q1 + 1 := ⟨f1 - 1, by omega⟩
            refine g_iconst (pc := 47) hC dX3_readEither_47 ?_
            refine g_goto (pc := 48) hC 52 dX3_readEither_48 (by decide) ?_
            refine g_istore_n (pc := 52) hC [(2, _), (0, _), (1, _), (3, _), (4, _)] dX3_readEither_52 rfl (by decide) rfl ?_
            refine g_iload_n (pc := 53) hC 0 dX3_readEither_53 rfl rfl ?_
            refine g_if_ne (pc := 54) hC 92 dX3_readEither_54 (by decide) (by omega) (fun c54 => ?_) (fun c54 => by exfalso; omega)
            refine g_aload_n (pc := 92) hC 1 dX3_readEither_92 rfl rfl ?_
            refine g_dup (pc := 93) hC dX3_readEither_93 rfl ?_
            refine g_get (pc := 94) hC 0 fl_X3_32 dX3_readEither_94 rfl rfl ?_
            refine g_iconst (pc := 97) hC dX3_readEither_97 ?_
            refine g_iadd (pc := 98) hC dX3_readEither_98 ?_
            refine g_putI (pc := 99) hC 0 [cO _ _ [_, _, _, _], _, _, _, _] fl_X3_32 dX3_readEither_99 rfl (Nat.le_of_ble_eq_true rfl) rfl ?_
            refine g_iinc (pc := 102) hC 4 [(4, _), (2, _), (0, _), (1, _), (3, _)] dX3_readEither_102 rfl (by decide) rfl ?_
            refine g_goto (pc := 105) hC 7 dX3_readEither_105 (by decide) ?_
            refine g_lv hC [2, 3, 1, 4, 0] [(0, _), (1, _), (2, _), (3, _), (4, _)] rfl ?_
            exact ih7 1 o (pt + 1) (p3 + 1) nm3 m4 od4 (l3 ++ [-2]) q1 f2 (by first | assumption | omega) (by first | assumption | omega) (by first | assumption | omega) (by first | assumption | omega) (by first | assumption | omega) (by first | assumption | omega) (by first | assumption | omega) (px_E_and hz (by omega) hz_16 (by rw [if_neg (by omega)]) (by omega)) hL2_35 (by first | assumption | omega) (by first | omega | (simp only [nt_l, List.length_append, List.length_cons, List.length_nil]; omega)) (by first | assumption | omega) (by first | assumption | omega) (by first | assumption | omega) (by omega)
      · refine g_iconst (pc := 22) hC dX3_readEither_22 ?_
        exact g_zret (pc := 23) hR dX3_readEither_23 rfl (by omega) ⟨by omega, by omega⟩ (Nat.le_of_ble_eq_true rfl) ⟨0, p3, nm3, m3, od3, l3, rfl, rfl, (by first | assumption | omega), (by first | assumption | omega), (by first | assumption | omega), (by first | assumption | omega), (by first | assumption | omega), (px_E_f hz (by omega) hz_16), hL2_16, (by first | assumption | omega), (by omega), (by first | assumption | omega)⟩
  refine g_lv hC [3, 4, 2, 1, 0] [(0, _), (1, _), (2, _), (3, _), (4, _)] rfl ?_
  exact L7 ((e - p : Int).toNat + 1) 0 0 0 p nm m od l 101 101 (by first | assumption | omega) (by first | assumption | omega) (by first | assumption | omega) (by first | assumption | omega) (by first | assumption | omega) (by first | assumption | omega) (by first | assumption | omega) rfl (by first | assumption | omega) (by first | assumption | omega) (by first | assumption | omega) (by first | assumption | omega) (by first | assumption | omega) (by first | assumption | omega) (by omega)
set_option maxHeartbeats 4000000 in
set_option maxRecDepth 100000 in
theorem k_X3_readClause {K : gK} (g0 : Nat) (g1 : Nat) (g2 : Nat) (g3 : Nat) (g4 : Nat) (nm : Int) (p : Int) (e : Int) (m : Int) (rc : Int) (sg : Int → Int) (od : Int → Int) (T : Int → Int) (l : List Int) (r_nm : rI nm) (r_p : rI p) (r_e : rI e) (r_m : rI m) (r_rc : rI rc) (r_sg : ∀ j, rI (sg j)) (r_od : ∀ j, rI (od j)) (hT : cr_T T e sg) (hp : 0 ≤ p ∧ p ≤ e) (hL : cr_L l od m) (hl : (l.length : Int) ≤ p) (hnm : 0 ≤ nm ∧ nm ≤ 99) (hrc : 0 ≤ rc ∧ rc ≤ 99) : gMet K yX3_readClause cX3_readClause 3 (some .boolean) 24 0 0 [.ref g0] [cO g0 3 [.ref g1, .ref g2, .int (iI nm), .int (iI p)], cO g1 6 [.ref g3, .int (iI e)], cA K g3 100 sg, cO g2 1 [.ref g4, .int (iI m), .int (iI rc)], cA K g4 100 od] (fun v9 w9 => ∃ (r : Int), ∃ (p2 : Int), ∃ (nm2 : Int), ∃ (m2 : Int), ∃ (od2 : Int → Int), ∃ (l2 : List Int), ∃ (rc2 : Int), v9 = some (.int (iI r)) ∧ w9 = [cO g0 3 [.ref g1, .ref g2, .int (iI nm2), .int (iI p2)], cO g1 6 [.ref g3, .int (iI e)], cA K g3 100 sg, cO g2 1 [.ref g4, .int (iI m2), .int (iI rc2)], cA K g4 100 od2] ∧ rI r ∧ rI p2 ∧ rI nm2 ∧ rI m2 ∧ (∀ j, rI (od2 j)) ∧ rI rc2 ∧ ((1 - r, p2, l2, rc2) = px_cl T p l rc) ∧ (cr_L l2 od2 m2) ∧ ((r = 0 ∨ r = 1) ∧ p ≤ p2 ∧ p2 ≤ e) ∧ ((l2.length : Int) + p ≤ (l.length : Int) + p2) ∧ (0 ≤ nm2 ∧ nm2 ≤ 99) ∧ (0 ≤ rc2 ∧ rc2 ≤ 99)) := by
  refine g_enter (by decide +kernel) (Nat.le_of_ble_eq_true rfl) (fun G hC hR => ?_)
  refine g_lv hC [0] [(0, _)] rfl ?_
  have hge := hT.1
  refine g_aload_n (pc := 0) hC 0 dX3_readClause_0 rfl rfl ?_
  refine g_fnV (pc := 1) (qr := 0) hC [0, 1, 2] (k_X3_sign _ _ _ _ _ _ _ _ _ (by first | assumption | omega) (by first | assumption | omega) (by first | assumption | omega) (by first | assumption | omega) (by first | assumption | omega) (by first | assumption | omega)) cl_X3_sign wm_X3_28 dX3_readClause_1 rfl rfl rfl rfl rfl (by decide) (by decide) ⟨by omega, by omega⟩ (Nat.le_of_ble_eq_true rfl) rfl rfl ?_
  refine g_name hC (fun x1 e_x1 => ?_)
  have q_x1 : -1 ≤ x1 ∧ x1 ≤ 127 := by rw [e_x1]; exact hT.2.2.1 _
  refine g_istore_n (pc := 4) hC [(1, _), (0, _)] dX3_readClause_4 rfl (by decide) rfl ?_
  refine g_aload_n (pc := 5) hC 1 dX3_readClause_5 rfl rfl ?_
  refine g_iload_n (pc := 6) hC 0 dX3_readClause_6 rfl rfl ?_
  refine g_bipush (pc := 7) hC (114) dX3_readClause_7 (by decide) ?_
  refine g_icmp_ne (pc := 9) hC 17 dX3_readClause_9 (by decide) (by omega) (by omega) (fun c9 => ?_) (fun c9 => ?_)
  · refine g_iload_n (pc := 17) hC 0 dX3_readClause_17 rfl rfl ?_
    refine g_bipush (pc := 18) hC (104) dX3_readClause_18 (by decide) ?_
    refine g_icmp_ne (pc := 20) hC 28 dX3_readClause_20 (by decide) (by omega) (by omega) (fun c20 => ?_) (fun c20 => ?_)
    · refine g_ldcS_X3_40 (pc := 28) hC rfl dX3_readClause_28 ?_
      refine g_callV (pc := 30) (qr := 0) hC [0, 1, 2] (k_X3_readWord _ _ _ _ _ _ _ _ _ _ (by first | assumption | omega) (by first | assumption | omega) (by first | assumption | omega) (by first | assumption | omega) (by first | assumption | omega) (by first | assumption | omega) (by first | assumption | omega)) cl_X3_readWord wm_X3_42 dX3_readClause_30 rfl rfl rfl rfl rfl (by decide) (by decide) (by omega) (Nat.le_of_ble_eq_true rfl) rfl (fun v9 w9 hq9 => ?_)
      obtain ⟨r3, p3, rfl, rfl, r_r3, r_p3, hz_30, hb_30⟩ := hq9
      refine g_ws hC [cO g0 3 [.ref g1, .ref g2, .int (iI nm), .int (iI p3)], cO g1 6 [.ref g3, .int (iI e)], cA K g3 100 sg, cO g2 1 [.ref g4, .int (iI m), .int (iI rc)], cA K g4 100 od] rfl ?_
      refine g_st hC [.int (iI r3)] rfl ?_
      have hs9 : sl 2 = 5 := rfl
      refine g_if_eq (pc := 33) hC 43 dX3_readClause_33 (by decide) (by omega) (fun c33 => ?_) (fun c33 => ?_)
      · refine g_iconst (pc := 43) hC dX3_readClause_43 ?_
        exact g_zret (pc := 44) hR dX3_readClause_44 rfl (by omega) ⟨by omega, by omega⟩ (Nat.le_of_ble_eq_true rfl) ⟨0, p3, nm, m, od, l, rc, rfl, rfl, (by first | assumption | omega), (by first | assumption | omega), (by first | assumption | omega), (by first | assumption | omega), (by first | assumption | omega), (by first | assumption | omega), (px_cl_f (by omega) (by omega) (by omega) hz_30), hL, (by first | assumption | omega), (by first | assumption | omega), (by first | assumption | omega), (by first | assumption | omega)⟩
      · refine g_aload_n (pc := 36) hC 1 dX3_readClause_36 rfl rfl ?_
        refine g_callV (pc := 37) (qr := 0) hC [0, 1, 2] (k_X3_readNumber _ _ _ _ _ _ _ _ _ (by first | assumption | omega) (by first | assumption | omega) (by first | assumption | omega) (by first | assumption | omega) (by first | assumption | omega) (by first | assumption | omega) (by first | assumption | omega)) cl_X3_readNumber wm_X3_46 dX3_readClause_37 rfl rfl rfl rfl rfl (by decide) (by decide) (by omega) (Nat.le_of_ble_eq_true rfl) rfl (fun v9 w9 hq9 => ?_)
        obtain ⟨r4, p4, nm4, v4, rfl, rfl, r_r4, r_p4, r_nm4, r_v4, hz_37, hv_37, hb_37, hnm2_37⟩ := hq9
        refine g_ws hC [cO g0 3 [.ref g1, .ref g2, .int (iI nm4), .int (iI p4)], cO g1 6 [.ref g3, .int (iI e)], cA K g3 100 sg, cO g2 1 [.ref g4, .int (iI m), .int (iI rc)], cA K g4 100 od] rfl ?_
        refine g_st hC [.int (iI r4)] rfl ?_
        refine g_if_ne (pc := 40) hC 45 dX3_readClause_40 (by decide) (by omega) (fun c40 => ?_) (fun c40 => ?_)
        · refine g_aload_n (pc := 45) hC 1 dX3_readClause_45 rfl rfl ?_
          refine g_get (pc := 46) hC 0 fl_X3_49 dX3_readClause_46 rfl rfl ?_
          refine g_istore_n (pc := 49) hC [(2, _), (1, _), (0, _)] dX3_readClause_49 rfl (by decide) rfl ?_
          refine g_iload_n (pc := 50) hC 1 dX3_readClause_50 rfl rfl ?_
          refine g_bipush (pc := 51) hC (114) dX3_readClause_51 (by decide) ?_
          refine g_icmp_ne (pc := 53) hC 66 dX3_readClause_53 (by decide) (by omega) (by omega) (fun c53 => ?_) (fun c53 => by exfalso; omega)
          refine g_aload_n (pc := 66) hC 2 dX3_readClause_66 rfl rfl ?_
          refine g_ldcS_X3_55 (pc := 67) hC rfl dX3_readClause_67 ?_
          refine g_callV (pc := 69) (qr := 0) hC [0, 1, 2] (k_X3_readWord _ _ _ _ _ _ _ _ _ _ (by first | assumption | omega) (by first | assumption | omega) (by first | assumption | omega) (by first | assumption | omega) (by first | assumption | omega) (by first | assumption | omega) (by first | assumption | omega)) cl_X3_readWord wm_X3_42 dX3_readClause_69 rfl rfl rfl rfl rfl (by decide) (by decide) (by omega) (Nat.le_of_ble_eq_true rfl) rfl (fun v9 w9 hq9 => ?_)
          obtain ⟨r5, p5, rfl, rfl, r_r5, r_p5, hz_69, hb_69⟩ := hq9
          refine g_ws hC [cO g0 3 [.ref g1, .ref g2, .int (iI nm4), .int (iI p5)], cO g1 6 [.ref g3, .int (iI e)], cA K g3 100 sg, cO g2 1 [.ref g4, .int (iI m), .int (iI rc)], cA K g4 100 od] rfl ?_
          refine g_st hC [.int (iI r5)] rfl ?_
          have hs8 : sl 3 = 1 := rfl
          refine g_if_eq (pc := 72) hC 83 dX3_readClause_72 (by decide) (by omega) (fun c72 => ?_) (fun c72 => ?_)
          · refine g_iconst (pc := 83) hC dX3_readClause_83 ?_
            exact g_zret (pc := 84) hR dX3_readClause_84 rfl (by omega) ⟨by omega, by omega⟩ (Nat.le_of_ble_eq_true rfl) ⟨0, p5, nm4, m, od, l, rc, rfl, rfl, (by first | assumption | omega), (by first | assumption | omega), (by first | assumption | omega), (by first | assumption | omega), (by first | assumption | omega), (by first | assumption | omega), (px_cl_s rfl (px_cl_115 (by omega) hz_30) (px_much_3 (by omega) hz_30 (by omega) hz_37 (by omega) hz_69)), hL, (by first | assumption | omega), (by first | assumption | omega), (by first | assumption | omega), (by first | assumption | omega)⟩
          · refine g_aload_n (pc := 75) hC 2 dX3_readClause_75 rfl rfl ?_
            refine g_iconst (pc := 76) hC dX3_readClause_76 ?_
            refine g_callV (pc := 77) (qr := 0) hC [0, 1, 2, 3, 4] (k_X3_readEither_0 _ _ _ _ _ _ _ _ _ _ _ _ _ _ (by first | assumption | omega) (by first | assumption | omega) (by first | assumption | omega) (by first | assumption | omega) (by first | assumption | omega) (by first | assumption | omega) (by first | assumption | omega) (by first | assumption | omega) (by first | assumption | omega) (by first | assumption | omega) (by first | assumption | omega) (by first | assumption | omega)) cl_X3_readEither wm_X3_57 dX3_readClause_77 rfl rfl rfl rfl rfl (by decide) (by decide) (by omega) (Nat.le_of_ble_eq_true rfl) rfl (fun v9 w9 hq9 => ?_)
            obtain ⟨r6, p6, nm6, m6, od6, l6, rfl, rfl, r_r6, r_p6, r_nm6, r_m6, r_od6, hz_77, hL2_77, hb_77, hl2_77, hnm2_77⟩ := hq9
            refine g_ws hC [cO g0 3 [.ref g1, .ref g2, .int (iI nm6), .int (iI p6)], cO g1 6 [.ref g3, .int (iI e)], cA K g3 100 sg, cO g2 1 [.ref g4, .int (iI m6), .int (iI rc)], cA K g4 100 od6] rfl ?_
            refine g_st hC [.int (iI r6)] rfl ?_
            refine g_if_ne (pc := 80) hC 85 dX3_readClause_80 (by decide) (by omega) (fun c80 => ?_) (fun c80 => ?_)
            · refine g_aload_n (pc := 85) hC 2 dX3_readClause_85 rfl rfl ?_
              refine g_get (pc := 86) hC 0 fl_X3_15 dX3_readClause_86 rfl rfl ?_
              refine g_iload_n (pc := 89) hC 1 dX3_readClause_89 rfl rfl ?_
              refine g_bipush (pc := 90) hC (104) dX3_readClause_90 (by decide) ?_
              refine g_icmp_ne (pc := 92) hC 100 dX3_readClause_92 (by decide) (by omega) (by omega) (fun c92 => ?_) (fun c92 => by exfalso; omega)
              refine g_bipush (pc := 100) hC (10) dX3_readClause_100 (by decide) ?_
              refine g_iload_n (pc := 102) hC 0 dX3_readClause_102 rfl rfl ?_
              refine g_callV (pc := 103) (qr := 3) hC [3, 4] (k_X1_put _ _ _ _ _ _ _ l6 (-200 - v4) (by first | assumption | omega) (by first | assumption | omega) (by first | assumption | omega) (by first | assumption | omega) (by first | assumption | omega) (by first | assumption | omega) (by rw [hv_37.2.2 (by omega)]; exact tk_e_s ⟨hv_37.1, hv_37.2.1⟩) (by first | assumption | omega)) cl_X1_put wm_X3_61 dX3_readClause_103 rfl rfl rfl rfl rfl (by decide) (by decide) (by omega) (Nat.le_of_ble_eq_true rfl) rfl (fun v9 w9 hq9 => ?_)
              obtain ⟨m7, od7, rfl, rfl, r_m7, r_od7, hL2_103, hm2_103⟩ := hq9
              refine g_ws hC [cO g0 3 [.ref g1, .ref g2, .int (iI nm6), .int (iI p6)], cO g1 6 [.ref g3, .int (iI e)], cA K g3 100 sg, cO g2 1 [.ref g4, .int (iI m7), .int (iI rc)], cA K g4 100 od7] rfl ?_
              refine g_st hC [] rfl ?_
              refine g_iconst (pc := 106) hC dX3_readClause_106 ?_
              exact g_zret (pc := 107) hR dX3_readClause_107 rfl (by omega) ⟨by omega, by omega⟩ (Nat.le_of_ble_eq_true rfl) ⟨1, p6, nm6, m7, od7, (l6 ++ [-200 - v4]), rc, rfl, rfl, (by first | assumption | omega), (by first | assumption | omega), (by first | assumption | omega), (by first | assumption | omega), (by first | assumption | omega), (by first | assumption | omega), (px_cl_s rfl (px_cl_115 (by omega) hz_30) (px_much_5 (by omega) hz_30 (by omega) hz_37 (by omega) hz_69 (by omega) hz_77)), hL2_103, (by first | assumption | omega), (by first | omega | (simp only [nt_l, List.length_append, List.length_cons, List.length_nil]; omega)), (by first | assumption | omega), (by first | assumption | omega)⟩
            · refine g_iconst (pc := 83) hC dX3_readClause_83 ?_
              exact g_zret (pc := 84) hR dX3_readClause_84 rfl (by omega) ⟨by omega, by omega⟩ (Nat.le_of_ble_eq_true rfl) ⟨0, p6, nm6, m6, od6, l6, rc, rfl, rfl, (by first | assumption | omega), (by first | assumption | omega), (by first | assumption | omega), (by first | assumption | omega), (by first | assumption | omega), (by first | assumption | omega), (px_cl_s rfl (px_cl_115 (by omega) hz_30) (px_much_4 (by omega) hz_30 (by omega) hz_37 (by omega) hz_69 (by omega) hz_77)), hL2_77, (by first | assumption | omega), (by first | assumption | omega), (by first | assumption | omega), (by first | assumption | omega)⟩
        · refine g_iconst (pc := 43) hC dX3_readClause_43 ?_
          exact g_zret (pc := 44) hR dX3_readClause_44 rfl (by omega) ⟨by omega, by omega⟩ (Nat.le_of_ble_eq_true rfl) ⟨0, p4, nm4, m, od, l, rc, rfl, rfl, (by first | assumption | omega), (by first | assumption | omega), (by first | assumption | omega), (by first | assumption | omega), (by first | assumption | omega), (by first | assumption | omega), (px_cl_s rfl (px_cl_115 (by omega) hz_30) (px_much_2 (by omega) hz_30 (by omega) hz_37)), hL, (by first | assumption | omega), (by first | assumption | omega), (by first | assumption | omega), (by first | assumption | omega)⟩
    · refine g_ldcS_X3_38 (pc := 23) hC rfl dX3_readClause_23 ?_
      refine g_goto (pc := 25) hC 30 dX3_readClause_25 (by decide) ?_
      refine g_callV (pc := 30) (qr := 0) hC [0, 1, 2] (k_X3_readWord _ _ _ _ _ _ _ _ _ _ (by first | assumption | omega) (by first | assumption | omega) (by first | assumption | omega) (by first | assumption | omega) (by first | assumption | omega) (by first | assumption | omega) (by first | assumption | omega)) cl_X3_readWord wm_X3_42 dX3_readClause_30 rfl rfl rfl rfl rfl (by decide) (by decide) (by omega) (Nat.le_of_ble_eq_true rfl) rfl (fun v9 w9 hq9 => ?_)
      obtain ⟨r3, p3, rfl, rfl, r_r3, r_p3, hz_30, hb_30⟩ := hq9
      refine g_ws hC [cO g0 3 [.ref g1, .ref g2, .int (iI nm), .int (iI p3)], cO g1 6 [.ref g3, .int (iI e)], cA K g3 100 sg, cO g2 1 [.ref g4, .int (iI m), .int (iI rc)], cA K g4 100 od] rfl ?_
      refine g_st hC [.int (iI r3)] rfl ?_
      have hs9 : sl 1 = 5 := rfl
      refine g_if_eq (pc := 33) hC 43 dX3_readClause_33 (by decide) (by omega) (fun c33 => ?_) (fun c33 => ?_)
      · refine g_iconst (pc := 43) hC dX3_readClause_43 ?_
        exact g_zret (pc := 44) hR dX3_readClause_44 rfl (by omega) ⟨by omega, by omega⟩ (Nat.le_of_ble_eq_true rfl) ⟨0, p3, nm, m, od, l, rc, rfl, rfl, (by first | assumption | omega), (by first | assumption | omega), (by first | assumption | omega), (by first | assumption | omega), (by first | assumption | omega), (by first | assumption | omega), (px_cl_h rfl (by omega) (px_much_1 (by rw [show (1 : Int) = 1 - r3 by omega]; exact hz_30))), hL, (by first | assumption | omega), (by first | assumption | omega), (by first | assumption | omega), (by first | assumption | omega)⟩
      · refine g_aload_n (pc := 36) hC 1 dX3_readClause_36 rfl rfl ?_
        refine g_callV (pc := 37) (qr := 0) hC [0, 1, 2] (k_X3_readNumber _ _ _ _ _ _ _ _ _ (by first | assumption | omega) (by first | assumption | omega) (by first | assumption | omega) (by first | assumption | omega) (by first | assumption | omega) (by first | assumption | omega) (by first | assumption | omega)) cl_X3_readNumber wm_X3_46 dX3_readClause_37 rfl rfl rfl rfl rfl (by decide) (by decide) (by omega) (Nat.le_of_ble_eq_true rfl) rfl (fun v9 w9 hq9 => ?_)
        obtain ⟨r4, p4, nm4, v4, rfl, rfl, r_r4, r_p4, r_nm4, r_v4, hz_37, hv_37, hb_37, hnm2_37⟩ := hq9
        refine g_ws hC [cO g0 3 [.ref g1, .ref g2, .int (iI nm4), .int (iI p4)], cO g1 6 [.ref g3, .int (iI e)], cA K g3 100 sg, cO g2 1 [.ref g4, .int (iI m), .int (iI rc)], cA K g4 100 od] rfl ?_
        refine g_st hC [.int (iI r4)] rfl ?_
        refine g_if_ne (pc := 40) hC 45 dX3_readClause_40 (by decide) (by omega) (fun c40 => ?_) (fun c40 => ?_)
        · refine g_aload_n (pc := 45) hC 1 dX3_readClause_45 rfl rfl ?_
          refine g_get (pc := 46) hC 0 fl_X3_49 dX3_readClause_46 rfl rfl ?_
          refine g_istore_n (pc := 49) hC [(2, _), (1, _), (0, _)] dX3_readClause_49 rfl (by decide) rfl ?_
          refine g_iload_n (pc := 50) hC 1 dX3_readClause_50 rfl rfl ?_
          refine g_bipush (pc := 51) hC (114) dX3_readClause_51 (by decide) ?_
          refine g_icmp_ne (pc := 53) hC 66 dX3_readClause_53 (by decide) (by omega) (by omega) (fun c53 => ?_) (fun c53 => by exfalso; omega)
          refine g_aload_n (pc := 66) hC 2 dX3_readClause_66 rfl rfl ?_
          refine g_ldcS_X3_55 (pc := 67) hC rfl dX3_readClause_67 ?_
          refine g_callV (pc := 69) (qr := 0) hC [0, 1, 2] (k_X3_readWord _ _ _ _ _ _ _ _ _ _ (by first | assumption | omega) (by first | assumption | omega) (by first | assumption | omega) (by first | assumption | omega) (by first | assumption | omega) (by first | assumption | omega) (by first | assumption | omega)) cl_X3_readWord wm_X3_42 dX3_readClause_69 rfl rfl rfl rfl rfl (by decide) (by decide) (by omega) (Nat.le_of_ble_eq_true rfl) rfl (fun v9 w9 hq9 => ?_)
          obtain ⟨r5, p5, rfl, rfl, r_r5, r_p5, hz_69, hb_69⟩ := hq9
          refine g_ws hC [cO g0 3 [.ref g1, .ref g2, .int (iI nm4), .int (iI p5)], cO g1 6 [.ref g3, .int (iI e)], cA K g3 100 sg, cO g2 1 [.ref g4, .int (iI m), .int (iI rc)], cA K g4 100 od] rfl ?_
          refine g_st hC [.int (iI r5)] rfl ?_
          have hs8 : sl 3 = 1 := rfl
          refine g_if_eq (pc := 72) hC 83 dX3_readClause_72 (by decide) (by omega) (fun c72 => ?_) (fun c72 => ?_)
          · refine g_iconst (pc := 83) hC dX3_readClause_83 ?_
            exact g_zret (pc := 84) hR dX3_readClause_84 rfl (by omega) ⟨by omega, by omega⟩ (Nat.le_of_ble_eq_true rfl) ⟨0, p5, nm4, m, od, l, rc, rfl, rfl, (by first | assumption | omega), (by first | assumption | omega), (by first | assumption | omega), (by first | assumption | omega), (by first | assumption | omega), (by first | assumption | omega), (px_cl_h rfl (by omega) (px_much_3 (by omega) hz_30 (by omega) hz_37 (by omega) hz_69)), hL, (by first | assumption | omega), (by first | assumption | omega), (by first | assumption | omega), (by first | assumption | omega)⟩
          · refine g_aload_n (pc := 75) hC 2 dX3_readClause_75 rfl rfl ?_
            refine g_iconst (pc := 76) hC dX3_readClause_76 ?_
            refine g_callV (pc := 77) (qr := 0) hC [0, 1, 2, 3, 4] (k_X3_readEither_0 _ _ _ _ _ _ _ _ _ _ _ _ _ _ (by first | assumption | omega) (by first | assumption | omega) (by first | assumption | omega) (by first | assumption | omega) (by first | assumption | omega) (by first | assumption | omega) (by first | assumption | omega) (by first | assumption | omega) (by first | assumption | omega) (by first | assumption | omega) (by first | assumption | omega) (by first | assumption | omega)) cl_X3_readEither wm_X3_57 dX3_readClause_77 rfl rfl rfl rfl rfl (by decide) (by decide) (by omega) (Nat.le_of_ble_eq_true rfl) rfl (fun v9 w9 hq9 => ?_)
            obtain ⟨r6, p6, nm6, m6, od6, l6, rfl, rfl, r_r6, r_p6, r_nm6, r_m6, r_od6, hz_77, hL2_77, hb_77, hl2_77, hnm2_77⟩ := hq9
            refine g_ws hC [cO g0 3 [.ref g1, .ref g2, .int (iI nm6), .int (iI p6)], cO g1 6 [.ref g3, .int (iI e)], cA K g3 100 sg, cO g2 1 [.ref g4, .int (iI m6), .int (iI rc)], cA K g4 100 od6] rfl ?_
            refine g_st hC [.int (iI r6)] rfl ?_
            refine g_if_ne (pc := 80) hC 85 dX3_readClause_80 (by decide) (by omega) (fun c80 => ?_) (fun c80 => ?_)
            · refine g_aload_n (pc := 85) hC 2 dX3_readClause_85 rfl rfl ?_
              refine g_get (pc := 86) hC 0 fl_X3_15 dX3_readClause_86 rfl rfl ?_
              refine g_iload_n (pc := 89) hC 1 dX3_readClause_89 rfl rfl ?_
              refine g_bipush (pc := 90) hC (104) dX3_readClause_90 (by decide) ?_
              refine g_icmp_ne (pc := 92) hC 100 dX3_readClause_92 (by decide) (by omega) (by omega) (fun c92 => by exfalso; omega) (fun c92 => ?_)
              refine g_bipush (pc := 95) hC (9) dX3_readClause_95 (by decide) ?_
              refine g_goto (pc := 97) hC 102 dX3_readClause_97 (by decide) ?_
              refine g_iload_n (pc := 102) hC 0 dX3_readClause_102 rfl rfl ?_
              refine g_callV (pc := 103) (qr := 3) hC [3, 4] (k_X1_put _ _ _ _ _ _ _ l6 (-10 - v4) (by first | assumption | omega) (by first | assumption | omega) (by first | assumption | omega) (by first | assumption | omega) (by first | assumption | omega) (by first | assumption | omega) (by rw [hv_37.2.2 (by omega)]; exact tk_e_h ⟨hv_37.1, hv_37.2.1⟩) (by first | assumption | omega)) cl_X1_put wm_X3_61 dX3_readClause_103 rfl rfl rfl rfl rfl (by decide) (by decide) (by omega) (Nat.le_of_ble_eq_true rfl) rfl (fun v9 w9 hq9 => ?_)
              obtain ⟨m7, od7, rfl, rfl, r_m7, r_od7, hL2_103, hm2_103⟩ := hq9
              refine g_ws hC [cO g0 3 [.ref g1, .ref g2, .int (iI nm6), .int (iI p6)], cO g1 6 [.ref g3, .int (iI e)], cA K g3 100 sg, cO g2 1 [.ref g4, .int (iI m7), .int (iI rc)], cA K g4 100 od7] rfl ?_
              refine g_st hC [] rfl ?_
              refine g_iconst (pc := 106) hC dX3_readClause_106 ?_
              exact g_zret (pc := 107) hR dX3_readClause_107 rfl (by omega) ⟨by omega, by omega⟩ (Nat.le_of_ble_eq_true rfl) ⟨1, p6, nm6, m7, od7, (l6 ++ [-10 - v4]), rc, rfl, rfl, (by first | assumption | omega), (by first | assumption | omega), (by first | assumption | omega), (by first | assumption | omega), (by first | assumption | omega), (by first | assumption | omega), (px_cl_h rfl (by omega) (px_much_5 (by omega) hz_30 (by omega) hz_37 (by omega) hz_69 (by omega) hz_77)), hL2_103, (by first | assumption | omega), (by first | omega | (simp only [nt_l, List.length_append, List.length_cons, List.length_nil]; omega)), (by first | assumption | omega), (by first | assumption | omega)⟩
            · refine g_iconst (pc := 83) hC dX3_readClause_83 ?_
              exact g_zret (pc := 84) hR dX3_readClause_84 rfl (by omega) ⟨by omega, by omega⟩ (Nat.le_of_ble_eq_true rfl) ⟨0, p6, nm6, m6, od6, l6, rc, rfl, rfl, (by first | assumption | omega), (by first | assumption | omega), (by first | assumption | omega), (by first | assumption | omega), (by first | assumption | omega), (by first | assumption | omega), (px_cl_h rfl (by omega) (px_much_4 (by omega) hz_30 (by omega) hz_37 (by omega) hz_69 (by omega) hz_77)), hL2_77, (by first | assumption | omega), (by first | assumption | omega), (by first | assumption | omega), (by first | assumption | omega)⟩
        · refine g_iconst (pc := 43) hC dX3_readClause_43 ?_
          exact g_zret (pc := 44) hR dX3_readClause_44 rfl (by omega) ⟨by omega, by omega⟩ (Nat.le_of_ble_eq_true rfl) ⟨0, p4, nm4, m, od, l, rc, rfl, rfl, (by first | assumption | omega), (by first | assumption | omega), (by first | assumption | omega), (by first | assumption | omega), (by first | assumption | omega), (by first | assumption | omega), (px_cl_h rfl (by omega) (px_much_2 (by omega) hz_30 (by omega) hz_37)), hL, (by first | assumption | omega), (by first | assumption | omega), (by first | assumption | omega), (by first | assumption | omega)⟩
  · refine g_ldcS_X3_36 (pc := 12) hC rfl dX3_readClause_12 ?_
    refine g_goto (pc := 14) hC 30 dX3_readClause_14 (by decide) ?_
    refine g_callV (pc := 30) (qr := 0) hC [0, 1, 2] (k_X3_readWord _ _ _ _ _ _ _ _ _ _ (by first | assumption | omega) (by first | assumption | omega) (by first | assumption | omega) (by first | assumption | omega) (by first | assumption | omega) (by first | assumption | omega) (by first | assumption | omega)) cl_X3_readWord wm_X3_42 dX3_readClause_30 rfl rfl rfl rfl rfl (by decide) (by decide) (by omega) (Nat.le_of_ble_eq_true rfl) rfl (fun v9 w9 hq9 => ?_)
    obtain ⟨r3, p3, rfl, rfl, r_r3, r_p3, hz_30, hb_30⟩ := hq9
    refine g_ws hC [cO g0 3 [.ref g1, .ref g2, .int (iI nm), .int (iI p3)], cO g1 6 [.ref g3, .int (iI e)], cA K g3 100 sg, cO g2 1 [.ref g4, .int (iI m), .int (iI rc)], cA K g4 100 od] rfl ?_
    refine g_st hC [.int (iI r3)] rfl ?_
    have hs9 : sl 0 = 6 := rfl
    refine g_if_eq (pc := 33) hC 43 dX3_readClause_33 (by decide) (by omega) (fun c33 => ?_) (fun c33 => ?_)
    · refine g_iconst (pc := 43) hC dX3_readClause_43 ?_
      exact g_zret (pc := 44) hR dX3_readClause_44 rfl (by omega) ⟨by omega, by omega⟩ (Nat.le_of_ble_eq_true rfl) ⟨0, p3, nm, m, od, l, rc, rfl, rfl, (by first | assumption | omega), (by first | assumption | omega), (by first | assumption | omega), (by first | assumption | omega), (by first | assumption | omega), (by first | assumption | omega), (px_cl_r9 (by omega) (px_tell_1 (by rw [show (1 : Int) = 1 - r3 by omega]; exact hz_30)) (by rw [if_neg (by decide)])), hL, (by first | assumption | omega), (by first | assumption | omega), (by first | assumption | omega), (by first | assumption | omega)⟩
    · refine g_aload_n (pc := 36) hC 1 dX3_readClause_36 rfl rfl ?_
      refine g_callV (pc := 37) (qr := 0) hC [0, 1, 2] (k_X3_readNumber _ _ _ _ _ _ _ _ _ (by first | assumption | omega) (by first | assumption | omega) (by first | assumption | omega) (by first | assumption | omega) (by first | assumption | omega) (by first | assumption | omega) (by first | assumption | omega)) cl_X3_readNumber wm_X3_46 dX3_readClause_37 rfl rfl rfl rfl rfl (by decide) (by decide) (by omega) (Nat.le_of_ble_eq_true rfl) rfl (fun v9 w9 hq9 => ?_)
      obtain ⟨r4, p4, nm4, v4, rfl, rfl, r_r4, r_p4, r_nm4, r_v4, hz_37, hv_37, hb_37, hnm2_37⟩ := hq9
      refine g_ws hC [cO g0 3 [.ref g1, .ref g2, .int (iI nm4), .int (iI p4)], cO g1 6 [.ref g3, .int (iI e)], cA K g3 100 sg, cO g2 1 [.ref g4, .int (iI m), .int (iI rc)], cA K g4 100 od] rfl ?_
      refine g_st hC [.int (iI r4)] rfl ?_
      refine g_if_ne (pc := 40) hC 45 dX3_readClause_40 (by decide) (by omega) (fun c40 => ?_) (fun c40 => ?_)
      · refine g_aload_n (pc := 45) hC 1 dX3_readClause_45 rfl rfl ?_
        refine g_get (pc := 46) hC 0 fl_X3_49 dX3_readClause_46 rfl rfl ?_
        refine g_istore_n (pc := 49) hC [(2, _), (1, _), (0, _)] dX3_readClause_49 rfl (by decide) rfl ?_
        refine g_iload_n (pc := 50) hC 1 dX3_readClause_50 rfl rfl ?_
        refine g_bipush (pc := 51) hC (114) dX3_readClause_51 (by decide) ?_
        refine g_icmp_ne (pc := 53) hC 66 dX3_readClause_53 (by decide) (by omega) (by omega) (fun c53 => by exfalso; omega) (fun c53 => ?_)
        refine g_aload_n (pc := 56) hC 2 dX3_readClause_56 rfl rfl ?_
        refine g_get (pc := 57) hC 0 fl_X3_15 dX3_readClause_57 rfl rfl ?_
        refine g_iload_n (pc := 60) hC 0 dX3_readClause_60 rfl rfl ?_
        refine g_putI (pc := 61) hC 3 [_, _, _, cO _ _ [_, _, _], _] fl_X3_52 dX3_readClause_61 rfl (Nat.le_of_ble_eq_true rfl) rfl ?_
        refine g_iconst (pc := 64) hC dX3_readClause_64 ?_
        exact g_zret (pc := 65) hR dX3_readClause_65 rfl (by omega) ⟨by omega, by omega⟩ (Nat.le_of_ble_eq_true rfl) ⟨1, p4, nm4, m, od, l, nm4, rfl, rfl, (by first | assumption | omega), (by first | assumption | omega), (by first | assumption | omega), (by first | assumption | omega), (by first | assumption | omega), (by first | assumption | omega), (by have h77 := (px_cl_r9 (T := T) (p := p) (l := l) (rc := rc) (rc2 := nm4) (p2 := p4) (w2 := 1 - r4) (by omega) (px_tell_2 (by omega) hz_30 hz_37) (by rw [if_pos (by omega)]; omega)); rw [show (1 - r4 : Int) = 1 - 1 by omega] at h77; exact h77), hL, (by first | assumption | omega), (by first | assumption | omega), (by first | assumption | omega), (by first | assumption | omega)⟩
      · refine g_iconst (pc := 43) hC dX3_readClause_43 ?_
        exact g_zret (pc := 44) hR dX3_readClause_44 rfl (by omega) ⟨by omega, by omega⟩ (Nat.le_of_ble_eq_true rfl) ⟨0, p4, nm4, m, od, l, rc, rfl, rfl, (by first | assumption | omega), (by first | assumption | omega), (by first | assumption | omega), (by first | assumption | omega), (by first | assumption | omega), (by first | assumption | omega), (by have h77 := (px_cl_r9 (T := T) (p := p) (l := l) (rc := rc) (rc2 := rc) (p2 := p4) (w2 := 1 - r4) (by omega) (px_tell_2 (by omega) hz_30 hz_37) (by rw [if_neg (by omega)])); rw [show (1 - r4 : Int) = 1 - 0 by omega] at h77; exact h77), hL, (by first | assumption | omega), (by first | assumption | omega), (by first | assumption | omega), (by first | assumption | omega)⟩
set_option maxHeartbeats 4000000 in
set_option maxRecDepth 100000 in
theorem k_X3_readHouse {K : gK} (g0 : Nat) (g1 : Nat) (g2 : Nat) (g3 : Nat) (g4 : Nat) (nm : Int) (e : Int) (m : Int) (rc : Int) (sg : Int → Int) (od : Int → Int) (T : Int → Int) (r_nm : rI nm) (r_e : rI e) (r_m : rI m) (r_rc : rI rc) (r_sg : ∀ j, rI (sg j)) (r_od : ∀ j, rI (od j)) (hT : cr_T T e sg) (hnm : 0 ≤ nm ∧ nm ≤ 99) : gMet K yX3_readHouse cX3_readHouse 3 (some .boolean) 25 0 0 [.ref g0] [cO g0 3 [.ref g1, .ref g2, .int (iI nm), .int (iI 0)], cO g1 6 [.ref g3, .int (iI e)], cA K g3 100 sg, cO g2 1 [.ref g4, .int (iI m), .int (iI rc)], cA K g4 100 od] (fun v9 w9 => ∃ (r : Int), ∃ (p2 : Int), ∃ (nm2 : Int), ∃ (m2 : Int), ∃ (od2 : Int → Int), ∃ (l2 : List Int), ∃ (rc2 : Int), ∃ (w2 : Int), v9 = some (.int (iI r)) ∧ w9 = [cO g0 3 [.ref g1, .ref g2, .int (iI nm2), .int (iI p2)], cO g1 6 [.ref g3, .int (iI e)], cA K g3 100 sg, cO g2 1 [.ref g4, .int (iI m2), .int (iI rc2)], cA K g4 100 od2] ∧ rI r ∧ rI p2 ∧ rI nm2 ∧ rI m2 ∧ (∀ j, rI (od2 j)) ∧ rI rc2 ∧ rI w2 ∧ ((w2, p2, l2, rc2) = px_hs T 9 (px_cl T 0 [] 9)) ∧ (r = if w2 = 0 ∧ p2 = e then 1 else 0) ∧ (cr_L l2 od2 m2) ∧ ((w2 = 0 ∨ w2 = 1) ∧ 0 ≤ p2 ∧ p2 ≤ e) ∧ ((l2.length : Int) ≤ p2) ∧ (0 ≤ nm2 ∧ nm2 ≤ 99) ∧ (0 ≤ rc2 ∧ rc2 ≤ 99)) := by
  refine g_enter (by decide +kernel) (Nat.le_of_ble_eq_true rfl) (fun G hC hR => ?_)
  refine g_lv hC [0] [(0, _)] rfl ?_
  have hge := hT.1
  refine g_aload_n (pc := 0) hC 0 dX3_readHouse_0 rfl rfl ?_
  refine g_get (pc := 1) hC 0 fl_X3_15 dX3_readHouse_1 rfl rfl ?_
  refine g_callV (pc := 4) (qr := 3) hC [3] (k_X1_clear _ _ _ _ (by first | assumption | omega) (by first | assumption | omega)) cl_X1_clear wm_X3_19 dX3_readHouse_4 rfl rfl rfl rfl rfl (by decide) (by decide) (by omega) (Nat.le_of_ble_eq_true rfl) rfl (fun v9 w9 hq9 => ?_)
  obtain ⟨rfl, rfl⟩ := hq9
  refine g_ws hC [cO g0 3 [.ref g1, .ref g2, .int (iI nm), .int (iI 0)], cO g1 6 [.ref g3, .int (iI e)], cA K g3 100 sg, cO g2 1 [.ref g4, .int (iI 0), .int (iI 9)], cA K g4 100 od] rfl ?_
  refine g_st hC [] rfl ?_
  refine g_iconst (pc := 7) hC dX3_readHouse_7 ?_
  refine g_istore_n (pc := 8) hC [(1, _), (0, _)] dX3_readHouse_8 rfl (by decide) rfl ?_
  have L9 : ∀ (n1 : Nat) (c : Int) (p1 : Int) (nm1 : Int) (m1 : Int) (od1 : Int → Int) (rc1 : Int) (l1 : List Int) (f : Nat), (rI c) → (rI p1) → (rI nm1) → (rI m1) → (∀ j, rI (od1 j)) → (rI rc1) → (px_hs T f (px_cl T p1 l1 rc1) = px_hs T 9 (px_cl T 0 [] 9)) → (cr_L l1 od1 m1) → (0 ≤ p1 ∧ p1 ≤ e) → ((l1.length : Int) ≤ p1) → (0 ≤ nm1 ∧ nm1 ≤ 99) → (0 ≤ rc1 ∧ rc1 ≤ 99) → (c = 10 - (f : Int)) → (f : Int) < (n1 : Int) → G 0 0 9 [(0, .ref g0), (1, .int (iI c))] [] [cO g0 3 [.ref g1, .ref g2, .int (iI nm1), .int (iI p1)], cO g1 6 [.ref g3, .int (iI e)], cA K g3 100 sg, cO g2 1 [.ref g4, .int (iI m1), .int (iI rc1)], cA K g4 100 od1] := by
    intro n1
    induction n1 with
    | zero => intro c p1 nm1 m1 od1 rc1 l1 f r_c r_p1 r_nm1 r_m1 r_od1 r_rc1 hz hL1 hb1 hl1 hnm1 hrc1 hc hm9; exfalso; omega
    | succ n1 ih9 =>
      intro c p1 nm1 m1 od1 rc1 l1 f r_c r_p1 r_nm1 r_m1 r_od1 r_rc1 hz hL1 hb1 hl1 hnm1 hrc1 hc hm9
      refine g_iload_n (pc := 9) hC 1 dX3_readHouse_9 rfl rfl ?_
      refine g_bipush (pc := 10) hC (10) dX3_readHouse_10 (by decide) ?_
      refine g_icmp_gt (pc := 12) hC 65 dX3_readHouse_12 (by decide) (by omega) (by omega) (fun c12 => by exfalso; omega) (fun c12 => ?_)
      refine g_aload_n (pc := 15) hC 0 dX3_readHouse_15 rfl rfl ?_
      refine g_callV (pc := 16) (qr := 0) hC [0, 1, 2, 3, 4] (k_X3_readClause _ _ _ _ _ _ _ _ _ _ _ _ _ _ (by first | assumption | omega) (by first | assumption | omega) (by first | assumption | omega) (by first | assumption | omega) (by first | assumption | omega) (by first | assumption | omega) (by first | assumption | omega) (by first | assumption | omega) (by first | assumption | omega) (by first | assumption | omega) (by first | assumption | omega) (by first | assumption | omega) (by first | assumption | omega)) cl_X3_readClause wm_X3_24 dX3_readHouse_16 rfl rfl rfl rfl rfl (by decide) (by decide) (by omega) (Nat.le_of_ble_eq_true rfl) rfl (fun v9 w9 hq9 => ?_)
      obtain ⟨r3, p3, nm3, m3, od3, l3, rc3, rfl, rfl, r_r3, r_p3, r_nm3, r_m3, r_od3, r_rc3, hz_16, hL2_16, hb_16, hl2_16, hnm2_16, hrc2_16⟩ := hq9
      refine g_ws hC [cO g0 3 [.ref g1, .ref g2, .int (iI nm3), .int (iI p3)], cO g1 6 [.ref g3, .int (iI e)], cA K g3 100 sg, cO g2 1 [.ref g4, .int (iI m3), .int (iI rc3)], cA K g4 100 od3] rfl ?_
      refine g_st hC [.int (iI r3)] rfl ?_
      refine g_if_ne (pc := 19) hC 24 dX3_readHouse_19 (by decide) (by omega) (fun c19 => ?_) (fun c19 => ?_)
      · refine g_aload_n (pc := 24) hC 0 dX3_readHouse_24 rfl rfl ?_
        refine g_fnV (pc := 25) (qr := 0) hC [0, 1, 2] (k_X3_sign _ _ _ _ _ _ _ _ _ (by first | assumption | omega) (by first | assumption | omega) (by first | assumption | omega) (by first | assumption | omega) (by first | assumption | omega) (by first | assumption | omega)) cl_X3_sign wm_X3_28 dX3_readHouse_25 rfl rfl rfl rfl rfl (by decide) (by decide) ⟨by omega, by omega⟩ (Nat.le_of_ble_eq_true rfl) rfl rfl ?_
        refine g_name hC (fun y25 e_y25 => ?_)
        have q_y25 : -1 ≤ y25 ∧ y25 ≤ 127 := by rw [e_y25]; exact hT.2.2.1 _
        have hpe : y25 < 0 → p3 = e := fun h9 => by
          by_cases h8 : p3 < e
          · have := hT.2.2.2 p3 (by omega) h8; omega
          · omega
        have hpe2 : 0 ≤ y25 → p3 < e := fun h9 => cr_lt hT (by omega) e_y25.symm h9
        refine g_istore_n (pc := 28) hC [(2, _), (0, _), (1, _)] dX3_readHouse_28 rfl (by decide) rfl ?_
        refine g_iload_n (pc := 29) hC 0 dX3_readHouse_29 rfl rfl ?_
        refine g_if_ge (pc := 30) hC 35 dX3_readHouse_30 (by decide) (by omega) (fun c30 => ?_) (fun c30 => ?_)
        · refine g_iload_n (pc := 35) hC 0 dX3_readHouse_35 rfl rfl ?_
          refine g_bipush (pc := 36) hC (59) dX3_readHouse_36 (by decide) ?_
          refine g_icmp_ne (pc := 38) hC 47 dX3_readHouse_38 (by decide) (by omega) (by omega) (fun c38 => ?_) (fun c38 => ?_)
          · refine g_iconst (pc := 47) hC dX3_readHouse_47 ?_
            exact g_zret (pc := 48) hR dX3_readHouse_48 rfl (by omega) ⟨by omega, by omega⟩ (Nat.le_of_ble_eq_true rfl) ⟨0, p3, nm3, m3, od3, l3, rc3, (1 - r3), rfl, rfl, (by first | assumption | omega), (by first | assumption | omega), (by first | assumption | omega), (by first | assumption | omega), (by first | assumption | omega), (by first | assumption | omega), (by first | assumption | omega), (by rw [← hz, ← hz_16]; exact (px_hs_end (by rintro ⟨-, h1⟩; exact absurd (show T p3 = 59 from h1) (by omega))).symm), (by have := hpe2 (by omega); rw [if_neg (by omega)]), (by first | assumption | omega), (by first | assumption | omega), (by first | assumption | omega), (by first | assumption | omega), (by first | assumption | omega)⟩
          · refine g_iload_n (pc := 41) hC 2 dX3_readHouse_41 rfl rfl ?_
            refine g_bipush (pc := 42) hC (10) dX3_readHouse_42 (by decide) ?_
            refine g_icmp_ne (pc := 44) hC 49 dX3_readHouse_44 (by decide) (by omega) (by omega) (fun c44 => ?_) (fun c44 => ?_)
            · obtain ⟨q1, rfl⟩ : ∃ q1, f = q1 + 1 := ⟨f - 1, by omega⟩
              refine g_aload_n (pc := 49) hC 1 dX3_readHouse_49 rfl rfl ?_
              refine g_dup (pc := 50) hC dX3_readHouse_50 rfl ?_
              refine g_get (pc := 51) hC 0 fl_X3_32 dX3_readHouse_51 rfl rfl ?_
              refine g_iconst (pc := 54) hC dX3_readHouse_54 ?_
              refine g_iadd (pc := 55) hC dX3_readHouse_55 ?_
              refine g_putI (pc := 56) hC 0 [cO _ _ [_, _, _, _], _, _, _, _] fl_X3_32 dX3_readHouse_56 rfl (Nat.le_of_ble_eq_true rfl) rfl ?_
              refine g_iinc (pc := 59) hC 2 [(1, _), (2, _), (0, _)] dX3_readHouse_59 rfl (by decide) rfl ?_
              refine g_goto (pc := 62) hC 9 dX3_readHouse_62 (by decide) ?_
              refine g_lv hC [2, 0] [(0, _), (1, _)] rfl ?_
              exact ih9 (c + 1) (p3 + 1) nm3 m3 od3 rc3 l3 q1 (by first | assumption | omega) (by first | assumption | omega) (by first | assumption | omega) (by first | assumption | omega) (by first | assumption | omega) (by first | assumption | omega) (px_hs_s (by rw [hz_16]; exact hz) (by omega) (by omega) rfl) (by first | assumption | omega) (by first | assumption | omega) (by first | assumption | omega) (by first | assumption | omega) (by first | assumption | omega) (by first | assumption | omega) (by omega)
            · refine g_iconst (pc := 47) hC dX3_readHouse_47 ?_
              exact g_zret (pc := 48) hR dX3_readHouse_48 rfl (by omega) ⟨by omega, by omega⟩ (Nat.le_of_ble_eq_true rfl) ⟨0, p3, nm3, m3, od3, l3, rc3, (1 - r3), rfl, rfl, (by first | assumption | omega), (by first | assumption | omega), (by first | assumption | omega), (by first | assumption | omega), (by first | assumption | omega), (by first | assumption | omega), (by first | assumption | omega), (by rw [← hz, ← hz_16, show f = 0 by omega]; rfl), (by have := hpe2 (by omega); rw [if_neg (by omega)]), (by first | assumption | omega), (by first | assumption | omega), (by first | assumption | omega), (by first | assumption | omega), (by first | assumption | omega)⟩
        · refine g_iconst (pc := 33) hC dX3_readHouse_33 ?_
          exact g_zret (pc := 34) hR dX3_readHouse_34 rfl (by omega) ⟨by omega, by omega⟩ (Nat.le_of_ble_eq_true rfl) ⟨1, p3, nm3, m3, od3, l3, rc3, (1 - r3), rfl, rfl, (by first | assumption | omega), (by first | assumption | omega), (by first | assumption | omega), (by first | assumption | omega), (by first | assumption | omega), (by first | assumption | omega), (by first | assumption | omega), (by rw [← hz, ← hz_16]; exact (px_hs_end (by rintro ⟨-, h1⟩; exact absurd (show T p3 = 59 from h1) (by omega))).symm), (by rw [if_pos ⟨by omega, hpe (by omega)⟩]), (by first | assumption | omega), (by first | assumption | omega), (by first | assumption | omega), (by first | assumption | omega), (by first | assumption | omega)⟩
      · refine g_iconst (pc := 22) hC dX3_readHouse_22 ?_
        exact g_zret (pc := 23) hR dX3_readHouse_23 rfl (by omega) ⟨by omega, by omega⟩ (Nat.le_of_ble_eq_true rfl) ⟨0, p3, nm3, m3, od3, l3, rc3, (1 - r3), rfl, rfl, (by first | assumption | omega), (by first | assumption | omega), (by first | assumption | omega), (by first | assumption | omega), (by first | assumption | omega), (by first | assumption | omega), (by first | assumption | omega), (by rw [← hz, ← hz_16]; exact (px_hs_end (by rintro ⟨h1, -⟩; exact absurd (show (1 : Int) - r3 = 0 from h1) (by omega))).symm), (by rw [if_neg (by omega)]), (by first | assumption | omega), (by first | assumption | omega), (by first | assumption | omega), (by first | assumption | omega), (by first | assumption | omega)⟩
  refine g_lv hC [1, 0] [(0, _), (1, _)] rfl ?_
  exact L9 (((9 : Int) : Int).toNat + 1) 1 0 nm 0 od 9 ([]) 9 (by first | assumption | omega) (by first | assumption | omega) (by first | assumption | omega) (by first | assumption | omega) (by first | assumption | omega) (by first | assumption | omega) rfl ⟨rfl, fun j hj => absurd hj (Nat.not_lt_zero _)⟩ (by first | assumption | omega) (by simp only [List.length_nil]; omega) (by first | assumption | omega) (by first | assumption | omega) (by first | assumption | omega) (by omega)
