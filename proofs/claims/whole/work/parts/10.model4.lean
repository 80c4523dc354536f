theorem md_TKs {s s2 : Int → Int} {W : (Int → Int) → Int} {rch : Int} (e : ∀ j, j = 25 ∨ 200 ≤ j → s2 j = s j) (h : md_TK s W rch) : md_TK s2 W rch := by
  have h9 : md_TK (fun j => if j = 25 ∨ 200 ≤ j then s j else s2 j) W rch := by
    have e1 : (fun j => if j = 25 ∨ 200 ≤ j then s j else s2 j) = s2 := by
      funext j
      by_cases hj : j = 25 ∨ 200 ≤ j
      · show (if _ then _ else _) = _
        rw [if_pos hj, e j hj]
      · show (if _ then _ else _) = _
        rw [if_neg hj]
    obtain ⟨h1, h2, h3⟩ := h
    refine ⟨?_, h2, h3⟩
    rw [e1]
    have e25 := e 25 (Or.inl rfl)
    rcases h1 with ⟨a, b, c⟩ | ⟨a, b, c, d1, d2, d3, d4⟩
    · exact Or.inl ⟨by rw [e25]; exact a, b, c⟩
    · have et : ∀ j : Nat, md_tok s2 j = md_tok s j := fun j => by unfold md_tok; rw [e25]; exact e _ (by omega)
      have f1 := e (212 + s 25) (by omega)
      have f2 := e (217 + s 25) (by omega)
      refine Or.inr ⟨by rw [e25]; exact a, by rw [e25]; exact b, by rw [e25, f1]; exact c, by rw [e25, f2]; exact d1, by rw [e25, f2]; exact d2, ?_, ?_⟩
      · rw [e25, f2]
        have kD : ∀ j : Nat, tk_D (md_tok s2) j = tk_D (md_tok s) j := by
          intro j
          induction j with
          | zero => rfl
          | succ j ih => unfold tk_D; rw [et j, ih]
        intro j hj
        rw [et j, kD j]
        exact d3 j hj
      · intro b
        rw [d4 b, e25, f2]
        have key : ∀ j : Nat, tk_run (md_tok s2) b j = tk_run (md_tok s) b j := by
          intro j
          induction j with
          | zero => rfl
          | succ j ih => unfold tk_run; rw [ih, et j]
        rw [key]
  have e1 : (fun j => if j = 25 ∨ 200 ≤ j then s j else s2 j) = s2 := by
    funext j
    by_cases hj : j = 25 ∨ 200 ≤ j
    · show (if _ then _ else _) = _
      rw [if_pos hj, e j hj]
    · show (if _ then _ else _) = _
      rw [if_neg hj]
  rwa [e1] at h9
/-- a row tried: one place of what goes along is another -/
theorem md_try {s s2 : Int → Int} {W : (Int → Int) → Int} {rch w x : Int} (hg : md_rg s) (hT : md_TK s W rch) (e : s2 = upI s w x) (hx : 0 ≤ x ∧ x ≤ 9) (hw : (1 ≤ w ∧ w < 7) ∨ (13 ≤ w ∧ w < 19) ∨ (32 ≤ w ∧ w < 38)) : md_rg s2 ∧ md_TK s2 W rch ∧ s2 0 = s 0 ∧ s2 19 = s 19 ∧ ∀ u : Int → Int, md_PC W (fun z => s2 (26 + z)) u ↔ md_PC W (fun z => s (26 + z)) u := by
  have ne : ∀ j, j ≠ w → s2 j = s j := fun j hj => by rw [e]; exact upI_ne hj
  refine ⟨⟨fun p h1 h2 => ?_, fun j h1 h2 => by rw [ne j (by omega)]; exact hg.2.1 j h1 h2, by rw [ne 19 (by omega)]; exact hg.2.2.1, by rw [ne 0 (by omega)]; exact hg.2.2.2⟩, md_TKs (fun j hj => ne j (by omega)) hT, ne 0 (by omega), ne 19 (by omega), fun u => md_PC_kd (fun z h1 h2 => ne _ (by omega))⟩
  obtain ⟨a1, a2, a3, a4, a5⟩ := hg.1 p h1 h2
  have at9 : s2 w = x := by rw [e]; exact upI_at _ _ _
  refine ⟨?_, by rw [ne _ (by omega)]; exact a2, ?_, by rw [ne _ (by omega)]; exact a4, ?_⟩
  · by_cases hj : 1 + p = w
    · rw [hj, at9]; exact hx
    · rw [ne _ hj]; exact a1
  · by_cases hj : 13 + p = w
    · rw [hj, at9]; exact hx
    · rw [ne _ hj]; exact a3
  · by_cases hj : 32 + p = w
    · rw [hj, at9]; exact hx
    · rw [ne _ hj]; exact a5
theorem md_lead_away {W : (Int → Int) → Int} {rch : Int} {s : Int → Int} {p : Int} (h : ¬ s (7 + p) = 0) : md_lead W rch s p = -5 := by
  unfold md_lead
  rw [if_neg h]
theorem md_goN_away {W : (Int → Int) → Int} {rch : Int} {s : Int → Int} {p : Int} (h19 : s 19 ≤ 6) (hp : 0 ≤ p ∧ p < 6) (h : ¬ s (7 + p) = 0) : ∀ n : Nat, md_goN W rch s n (1 + p) = s (1 + p)
  | 0 => rfl
  | n + 1 => by
    have ih := md_goN_away (W := W) (rch := rch) h19 hp h n
    unfold md_goN md_go
    split
    · unfold md_next
      have e7 : md_goN W rch s n (7 + (1 + p - 1)) = s (7 + p) := by rw [show 7 + (1 + p - 1) = 7 + p by omega]; exact md_goN_hi h19 (by omega) n
      rw [if_pos (md_lead_away (by rw [e7]; exact h)), show 1 + (1 + p - 1) = 1 + p by omega]
      exact ih
    · rw [if_neg (by omega)]
      exact ih
/-- what was seen after n STEPS is so in the row t -/
def md_sn (t : Int → Int) (n : Int) : Nat → Int
  | 0 => 1
  | k + 1 => if md_sn t n k = 1 ∧ (t (68 + (k : Int)) ≠ n ∨ t (1 + t (62 + (k : Int))) = t (74 + (k : Int))) then 1 else 0
theorem md_sn_01 (t : Int → Int) (n : Int) : ∀ k : Nat, md_sn t n k = 0 ∨ md_sn t n k = 1
  | 0 => Or.inr rfl
  | k + 1 => by unfold md_sn; split <;> omega
theorem md_sn_s {t : Int → Int} {n i x y : Int} {k : Nat} (hi : i = (k : Int)) (hx : x = md_sn t n k) (hy : y = if x = 1 ∧ (t (68 + i) ≠ n ∨ t (1 + t (62 + i)) = t (74 + i)) then 1 else 0) : y = md_sn t n (k + 1) := by
  unfold md_sn
  rw [hy, hx, hi]
/-- all that was seen is so from the row s on -/
def md_as (W : (Int → Int) → Int) (rch : Int) (s : Int → Int) : Nat → Int
  | 0 => 1
  | n + 1 => if md_as W rch s n = 1 then md_sn (md_goN W rch s n) (n : Int) (s 21).toNat else 0
theorem md_as_01 (W : (Int → Int) → Int) (rch : Int) (s : Int → Int) : ∀ n : Nat, md_as W rch s n = 0 ∨ md_as W rch s n = 1
  | 0 => Or.inr rfl
  | n + 1 => by
    unfold md_as
    split
    · exact md_sn_01 _ _ _
    · exact Or.inl rfl
theorem md_as_st {W : (Int → Int) → Int} {rch : Int} {s : Int → Int} {n : Nat} (h : md_as W rch s n = 0) : ∀ k : Nat, md_as W rch s (n + k) = 0
  | 0 => h
  | k + 1 => by
    have ih := md_as_st h k
    rw [show md_as W rch s (n + (k + 1)) = if md_as W rch s (n + k) = 1 then md_sn (md_goN W rch s (n + k)) ((n + k : Nat) : Int) (s 21).toNat else 0 from rfl, ih]
    rfl
theorem md_as_end {W : (Int → Int) → Int} {rch : Int} {s : Int → Int} {n : Nat} (hn : n ≤ 21) (h : n = 21 ∨ md_as W rch s n = 0) : md_as W rch s n = md_as W rch s 21 := by
  rcases h with h | h
  · rw [h]
  · have e := md_as_st h (21 - n)
    rw [show n + (21 - n) = 21 by omega] at e
    rw [h, e]
def md_fit (W : (Int → Int) → Int) (rch : Int) (s : Int → Int) (w : Int) : Nat → Int
  | 0 => 0
  | k + 1 => bOr (md_fit W rch s w k) (if md_as W rch (upI s w (k : Int)) 21 = 0 then 0 else bShl 1 (k : Int))
theorem md_fit_s {W : (Int → Int) → Int} {rch : Int} {s : Int → Int} {w i x y z : Int} {k : Nat} (hi : i = (k : Int)) (hx : x = md_fit W rch s w k) (hy : y = md_as W rch (upI s w i) 21) (hz : z = if y = 0 then 0 else bShl 1 i) : bOr x z = md_fit W rch s w (k + 1) := by
  rw [hx, hz, hy, hi]
  rfl
def md_fm (W : (Int → Int) → Int) (rch : Int) (s : Int → Int) (w : Int) : Nat → Int × Int
  | 0 => (0, -5)
  | k + 1 => if md_as W rch (upI s w (9 - (k : Int))) 21 = 0 then md_fm W rch s w k else ((md_fm W rch s w k).1 + 1, 9 - (k : Int))
theorem md_fm_rng (W : (Int → Int) → Int) (rch : Int) (s : Int → Int) (w : Int) : ∀ k : Nat, 0 ≤ (md_fm W rch s w k).1 ∧ (md_fm W rch s w k).1 ≤ (k : Int) ∧ -5 ≤ (md_fm W rch s w k).2 + (k : Int) ∧ (md_fm W rch s w k).2 ≤ 9
  | 0 => by unfold md_fm; omega
  | k + 1 => by
    have ih := md_fm_rng W rch s w k
    unfold md_fm
    split
    · omega
    · simp only []; omega
/-- the places that hold what was told by hand -/
def md_rs (s : Int → Int) : Prop := (0 ≤ s 21 ∧ s 21 ≤ 6 ∧ ∀ k, 0 ≤ k → k < s 21 → (0 ≤ s (62 + k) ∧ s (62 + k) < s 19) ∧ (0 ≤ s (68 + k) ∧ s (68 + k) ≤ 20) ∧ (0 ≤ s (74 + k) ∧ s (74 + k) ≤ 9)) ∧
  (0 ≤ s 22 ∧ s 22 ≤ 8 ∧ ∀ k, 0 ≤ k → k < s 22 → (s (80 + k) = 0 ∨ ((s (80 + k) = 1 ∨ s (80 + k) = 2) ∧ 0 ≤ s (88 + k) ∧ s (88 + k) < s 19) ∨ (s (80 + k) = 3 ∧ 0 ≤ s (88 + k) ∧ s (88 + k) < 10 * s 19))) ∧
  (0 ≤ s 23 ∧ s 23 ≤ 8 ∧ ∀ k, 0 ≤ k → k < s 23 → (0 ≤ s (96 + k) ∧ s (96 + k) < s 19) ∧ (0 ≤ s (104 + k) ∧ s (104 + k) ≤ 9)) ∧ (0 ≤ s 24 ∧ s 24 ≤ 100)
theorem md_rs_same {s s2 : Int → Int} (h19 : s2 19 = s 19) (e : ∀ j, 21 ≤ j → j < 25 ∨ 62 ≤ j → s2 j = s j) (h : md_rs s) : md_rs s2 := by
  obtain ⟨⟨a1, a2, a3⟩, ⟨b1, b2, b3⟩, ⟨c1, c2, c3⟩, d⟩ := h
  have e21 := e 21 (by omega) (by omega)
  have e22 := e 22 (by omega) (by omega)
  have e23 := e 23 (by omega) (by omega)
  have e24 := e 24 (by omega) (by omega)
  refine ⟨⟨by omega, by omega, fun k k1 k2 => ?_⟩, ⟨by omega, by omega, fun k k1 k2 => ?_⟩, ⟨by omega, by omega, fun k k1 k2 => ?_⟩, by omega⟩
  · rw [e (62 + k) (by omega) (by omega), e (68 + k) (by omega) (by omega), e (74 + k) (by omega) (by omega), h19]
    exact a3 k k1 (by omega)
  · rw [e (80 + k) (by omega) (by omega), e (88 + k) (by omega) (by omega), h19]
    exact b3 k k1 (by omega)
  · rw [e (96 + k) (by omega) (by omega), e (104 + k) (by omega) (by omega), h19]
    exact c3 k k1 (by omega)
/-- TELLS: the bits after the first st states, and q of FOOTMEN at the next one -/
def md_tq (W : (Int → Int) → Int) (rch : Int) (s : Int → Int) (p : Int) (n : Nat) (st x : Int) : Nat → Int
  | 0 => x
  | q + 1 => bOr (md_tq W rch s p n st x q) (if st ≤ 0 then 0 else if md_goN W rch (upI s (1 + p) st) n (1 + (q : Int)) = md_goN W rch (upI s (1 + p) 0) n (1 + (q : Int)) then 0 else bShl 1 (q : Int))
def md_tl (W : (Int → Int) → Int) (rch : Int) (s : Int → Int) (p : Int) (n : Nat) : Nat → Int
  | 0 => 0
  | st + 1 => md_tq W rch s p n (st : Int) (md_tl W rch s p n st) (s 19).toNat
def md_up (W : (Int → Int) → Int) (rch : Int) (s : Int → Int) (p q x : Int) (n : Nat) : Nat → Int
  | 0 => 0
  | k + 1 => md_up W rch s p q x n k + (if md_goN W rch (upI s (1 + p) (k : Int)) n (1 + q) = x then 1 else 0)
theorem md_up_rng (W : (Int → Int) → Int) (rch : Int) (s : Int → Int) (p q x : Int) (n : Nat) : ∀ k : Nat, 0 ≤ md_up W rch s p q x n k ∧ md_up W rch s p q x n k ≤ (k : Int)
  | 0 => by unfold md_up; omega
  | k + 1 => by
    have ih := md_up_rng W rch s p q x n k
    unfold md_up
    split <;> omega
def md_sm (s : Int → Int) : Nat → Int × Int
  | 0 => (0, 0)
  | p + 1 => if s (7 + (p : Int)) = 0 then ((md_sm s p).1 + s (1 + (p : Int)), (md_sm s p).2 + 1) else md_sm s p
theorem md_sm_rng {s : Int → Int} (hg : md_rg s) : ∀ p : Nat, p ≤ 6 → 0 ≤ (md_sm s p).1 ∧ (md_sm s p).1 ≤ 9 * (p : Int) ∧ 0 ≤ (md_sm s p).2 ∧ (md_sm s p).2 ≤ (p : Int)
  | 0, _ => by unfold md_sm; omega
  | p + 1, h => by
    have ih := md_sm_rng hg p (by omega)
    have hp := hg.1 (p : Int) (by omega) (by omega)
    unfold md_sm
    split
    · simp only []; omega
    · omega
/-- a part of up / low in lowest terms -/
def md_low (up low part : Int) : Int := (if part = 0 then up else low) / ((Nat.gcd up.toNat low.toNat : Nat) : Int)
def an_steer (s : Int → Int) (p x : Int) : Int := if (0 ≤ p ∧ p < s 19) ∧ (0 ≤ x ∧ x ≤ 9) then (if s (7 + p) = 0 then (if s (1 + p) = x then -5 else 10 * p + x) else -5) else -1
def an_tells (W : (Int → Int) → Int) (rch : Int) (s : Int → Int) (p n : Int) : Int := if 0 ≤ p ∧ p < s 19 then (if 0 ≤ n ∧ n ≤ 20 then md_tl W rch s p n.toNat 10 else -2) else -1
def an_see (s : Int → Int) (p n x : Int) : Int := if p = -1 then 0 else if (0 ≤ p ∧ p < s 19) ∧ (0 ≤ x ∧ x ≤ 9) then (if 0 ≤ n ∧ n ≤ 20 then (if s 21 = 6 then -4 else s 21 + 1) else -2) else -1
def ne_see (s : Int → Int) (p n x : Int) : Int → Int := if p = -1 then upI s 21 0 else if ((0 ≤ p ∧ p < s 19) ∧ (0 ≤ x ∧ x ≤ 9)) ∧ (0 ≤ n ∧ n ≤ 20) ∧ s 21 ≠ 6 then upI (upI (upI (upI s (62 + s 21) p) (68 + s 21) n) (74 + s 21) x) 21 (s 21 + 1) else s
def an_states (W : (Int → Int) → Int) (rch : Int) (s : Int → Int) (p : Int) : Int := if 0 ≤ p ∧ p < s 19 then md_fit W rch s (1 + p) 10 else -1
def an_where (W : (Int → Int) → Int) (rch : Int) (s : Int → Int) (p : Int) : Int := if 0 ≤ p ∧ p < s 19 then md_fit W rch s (13 + p) 10 else -1
def an_firm (W : (Int → Int) → Int) (rch : Int) (s : Int → Int) (p w : Int) : Int := if (0 ≤ p ∧ p < s 19) ∧ (0 ≤ w ∧ w ≤ 1) then (if w = 0 then (md_fm W rch s (32 + p) 10).1 else (md_fm W rch s (32 + p) 10).2) else -1
def an_odds (W : (Int → Int) → Int) (rch : Int) (s : Int → Int) (p q x n part : Int) : Int := if ((0 ≤ p ∧ p < s 19) ∧ (0 ≤ q ∧ q < s 19)) ∧ (0 ≤ x ∧ x ≤ 9) ∧ (0 ≤ n ∧ n ≤ 60) ∧ (0 ≤ part ∧ part ≤ 1) then md_low (md_up W rch s p q x n.toNat 10) 10 part else -9223372036854775808
def an_mean (s : Int → Int) (part : Int) : Int := if (0 ≤ part ∧ part ≤ 1) ∧ (md_sm s (s 19).toNat).2 ≠ 0 then md_low (md_sm s (s 19).toNat).1 (md_sm s (s 19).toNat).2 part else -9223372036854775808
theorem md_backF {s sn fr s3 : Int → Int} (h2 : ∀ j, j < 0 ∨ 19 ≤ j → sn j = s j) (h3 : ∀ j, s3 j = if 0 ≤ j ∧ j < 19 then fr j else sn j) : ∀ j, s3 j = if 0 ≤ j ∧ j < 19 then fr j else s j := by
  intro j
  rw [h3]
  split
  · rfl
  · exact h2 j (by omega)
theorem md_backU {s s2 fr s3 : Int → Int} {w x : Int} (e : s2 = upI s w x) (hw : 0 ≤ w ∧ w < 19) (h1 : ∀ j, 0 ≤ j → j < 19 → fr j = s j) (h3 : ∀ j, s3 j = if 0 ≤ j ∧ j < 19 then fr j else s2 j) : s3 = s := by
  funext j
  rw [h3]
  split
  · exact h1 j (by omega) (by omega)
  · rw [e, upI_ne (by omega)]
set_option maxHeartbeats 4000000 in
set_option maxRecDepth 100000 in
theorem k_X10_isAsSeen {K : gK} (m0 : Nat) (m1 : Nat) (w_thrown : Value) (w_image : Value) (w_frame : Value) (w_hasImage : Value) (w_act : Value) (w_spot : Value) (w_end : Value) (w_isWrong : Value) (w_open : Value) (w_by : Value) (w_truths : Value) (w_pulls : Value) (w_isKeeping : Value) (w_next : Value) (w_first : Value) (w_order : Value) (w_bestOrder : Value) (w_rooms : Value) (w_leastUnlike : Value) (w_bodies : Value) (w_ran : Value) (w_kind : Value) (w_number : Value) (w_tellsV : Value) (n : Int) (s : Int → Int) (r_n : rI n) (r_s : ∀ j, rI (s j)) (hs : md_rs s) (h19 : 0 ≤ s 19 ∧ s 19 ≤ 6) : gFn K yX10_isAsSeen cX10_isAsSeen 4 (some .boolean) 0 [.ref m0, .int (iI n)] [cO m0 10 [w_thrown, .ref m1, w_image, w_frame, w_hasImage, w_act, w_spot, w_end, w_isWrong, w_open, w_by, w_truths, w_pulls, w_isKeeping, w_next, w_first, w_order, w_bestOrder, w_rooms, w_leastUnlike, w_bodies, w_ran, w_kind, w_number, w_tellsV], cA K m1 922 s] (md_sn s n (s 21).toNat) := by
  refine g_enter (by decide +kernel) (Nat.le_of_ble_eq_true rfl) (fun G hC hR => ?_)
  refine g_lv hC [0, 1] [(0, _), (1, _)] rfl ?_
  have hs0 := hs.1
  refine g_iconst (pc := 0) hC dX10_isAsSeen_0 ?_
  refine g_istore_n (pc := 1) hC [(2, _), (0, _), (1, _)] dX10_isAsSeen_1 rfl (by decide) rfl ?_
  refine g_iconst (pc := 2) hC dX10_isAsSeen_2 ?_
  refine g_istore_n (pc := 3) hC [(3, _), (2, _), (0, _), (1, _)] dX10_isAsSeen_3 rfl (by decide) rfl ?_
  have L4 : ∀ (n1 : Nat) (i : Int) (x : Int) (j : Nat), (rI i) → (rI x) → (i = (j : Int)) → (i ≤ s 21) → (x = md_sn s n j) → s 21 - i < (n1 : Int) → G 0 0 4 [(0, .ref m0), (1, .int (iI n)), (2, .int (iI x)), (3, .int (iI i))] [] [cO m0 10 [w_thrown, .ref m1, w_image, w_frame, w_hasImage, w_act, w_spot, w_end, w_isWrong, w_open, w_by, w_truths, w_pulls, w_isKeeping, w_next, w_first, w_order, w_bestOrder, w_rooms, w_leastUnlike, w_bodies, w_ran, w_kind, w_number, w_tellsV], cA K m1 922 s] := by
    intro n1
    induction n1 with
    | zero => intro i x j r_i r_x hi hj hx hm4; exfalso; omega
    | succ n1 ih4 =>
      intro i x j r_i r_x hi hj hx hm4
      have hs1 := hs.1
      have h01 := md_sn_01 s n j
      refine g_iload_n (pc := 4) hC 3 dX10_isAsSeen_4 rfl rfl ?_
      refine g_aload_n (pc := 5) hC 0 dX10_isAsSeen_5 rfl rfl ?_
      refine g_get (pc := 6) hC 0 fl_X10_9 dX10_isAsSeen_6 rfl rfl ?_
      refine g_bipush (pc := 9) hC (21) dX10_isAsSeen_9 (by decide) ?_
      refine g_iald (pc := 11) hC 1 dX10_isAsSeen_11 rfl (by omega) ?_
      have q2 := r_s 21
      refine g_icmp_ge (pc := 12) hC 72 dX10_isAsSeen_12 (by decide) (by omega) (by omega) (fun c12 => ?_) (fun c12 => ?_)
      · refine g_iload_n (pc := 72) hC 2 dX10_isAsSeen_72 rfl rfl ?_
        exact g_zret (pc := 73) hR dX10_isAsSeen_73 rfl (by omega) ⟨by omega, by omega⟩ (Nat.le_of_ble_eq_true rfl) ⟨ret_eq (by rw [hx, show (s 21).toNat = j by omega]), rfl⟩
      · have hk9 := hs.1.2.2 i (by omega) (by omega)
        refine g_iload_n (pc := 15) hC 2 dX10_isAsSeen_15 rfl rfl ?_
        refine g_if_eq (pc := 16) hC 64 dX10_isAsSeen_16 (by decide) (by omega) (fun c16 => ?_) (fun c16 => ?_)
        · refine g_iconst (pc := 64) hC dX10_isAsSeen_64 ?_
          refine g_istore_n (pc := 65) hC [(2, _), (0, _), (1, _), (3, _)] dX10_isAsSeen_65 rfl (by decide) rfl ?_
          refine g_iinc (pc := 66) hC 3 [(3, _), (2, _), (0, _), (1, _)] dX10_isAsSeen_66 rfl (by decide) rfl ?_
          refine g_goto (pc := 69) hC 4 dX10_isAsSeen_69 (by decide) ?_
          refine g_lv hC [2, 3, 1, 0] [(0, _), (1, _), (2, _), (3, _)] rfl ?_
          exact ih4 (i + 1) 0 (j + 1) (by first | assumption | omega) (by first | assumption | omega) (by first | assumption | omega) (by first | assumption | omega) (md_sn_s hi hx (by (repeat' split) <;> omega)) (by omega)
        · refine g_aload_n (pc := 19) hC 0 dX10_isAsSeen_19 rfl rfl ?_
          refine g_get (pc := 20) hC 0 fl_X10_9 dX10_isAsSeen_20 rfl rfl ?_
          refine g_bipush (pc := 23) hC (68) dX10_isAsSeen_23 (by decide) ?_
          refine g_iload_n (pc := 25) hC 3 dX10_isAsSeen_25 rfl rfl ?_
          refine g_iadd (pc := 26) hC dX10_isAsSeen_26 ?_
          refine g_iald (pc := 27) hC 1 dX10_isAsSeen_27 rfl (by omega) ?_
          have q3 := r_s (68 + i)
          refine g_iload_n (pc := 28) hC 1 dX10_isAsSeen_28 rfl rfl ?_
          refine g_icmp_ne (pc := 29) hC 60 dX10_isAsSeen_29 (by decide) (by omega) (by omega) (fun c29 => ?_) (fun c29 => ?_)
          · refine g_iconst (pc := 60) hC dX10_isAsSeen_60 ?_
            refine g_goto (pc := 61) hC 65 dX10_isAsSeen_61 (by decide) ?_
            refine g_istore_n (pc := 65) hC [(2, _), (0, _), (1, _), (3, _)] dX10_isAsSeen_65 rfl (by decide) rfl ?_
            refine g_iinc (pc := 66) hC 3 [(3, _), (2, _), (0, _), (1, _)] dX10_isAsSeen_66 rfl (by decide) rfl ?_
            refine g_goto (pc := 69) hC 4 dX10_isAsSeen_69 (by decide) ?_
            refine g_lv hC [2, 3, 1, 0] [(0, _), (1, _), (2, _), (3, _)] rfl ?_
            exact ih4 (i + 1) 1 (j + 1) (by first | assumption | omega) (by first | assumption | omega) (by first | assumption | omega) (by first | assumption | omega) (md_sn_s hi hx (by (repeat' split) <;> omega)) (by omega)
          · refine g_aload_n (pc := 32) hC 0 dX10_isAsSeen_32 rfl rfl ?_
            refine g_get (pc := 33) hC 0 fl_X10_9 dX10_isAsSeen_33 rfl rfl ?_
            refine g_iconst (pc := 36) hC dX10_isAsSeen_36 ?_
            refine g_aload_n (pc := 37) hC 0 dX10_isAsSeen_37 rfl rfl ?_
            refine g_get (pc := 38) hC 0 fl_X10_9 dX10_isAsSeen_38 rfl rfl ?_
            refine g_bipush (pc := 41) hC (62) dX10_isAsSeen_41 (by decide) ?_
            refine g_iload_n (pc := 43) hC 3 dX10_isAsSeen_43 rfl rfl ?_
            refine g_iadd (pc := 44) hC dX10_isAsSeen_44 ?_
            refine g_iald (pc := 45) hC 1 dX10_isAsSeen_45 rfl (by omega) ?_
            have q4 := r_s (62 + i)
            refine g_iadd (pc := 46) hC dX10_isAsSeen_46 ?_
            refine g_iald (pc := 47) hC 1 dX10_isAsSeen_47 rfl (by omega) ?_
            have q5 := r_s (1 + (s (62 + i)))
            refine g_aload_n (pc := 48) hC 0 dX10_isAsSeen_48 rfl rfl ?_
            refine g_get (pc := 49) hC 0 fl_X10_9 dX10_isAsSeen_49 rfl rfl ?_
            refine g_bipush (pc := 52) hC (74) dX10_isAsSeen_52 (by decide) ?_
            refine g_iload_n (pc := 54) hC 3 dX10_isAsSeen_54 rfl rfl ?_
            refine g_iadd (pc := 55) hC dX10_isAsSeen_55 ?_
            refine g_iald (pc := 56) hC 1 dX10_isAsSeen_56 rfl (by omega) ?_
            have q6 := r_s (74 + i)
            refine g_icmp_ne (pc := 57) hC 64 dX10_isAsSeen_57 (by decide) (by omega) (by omega) (fun c57 => ?_) (fun c57 => ?_)
            · refine g_iconst (pc := 64) hC dX10_isAsSeen_64 ?_
              refine g_istore_n (pc := 65) hC [(2, _), (0, _), (1, _), (3, _)] dX10_isAsSeen_65 rfl (by decide) rfl ?_
              refine g_iinc (pc := 66) hC 3 [(3, _), (2, _), (0, _), (1, _)] dX10_isAsSeen_66 rfl (by decide) rfl ?_
              refine g_goto (pc := 69) hC 4 dX10_isAsSeen_69 (by decide) ?_
              refine g_lv hC [2, 3, 1, 0] [(0, _), (1, _), (2, _), (3, _)] rfl ?_
              exact ih4 (i + 1) 0 (j + 1) (by first | assumption | omega) (by first | assumption | omega) (by first | assumption | omega) (by first | assumption | omega) (md_sn_s hi hx (by (repeat' split) <;> omega)) (by omega)
            · refine g_iconst (pc := 60) hC dX10_isAsSeen_60 ?_
              refine g_goto (pc := 61) hC 65 dX10_isAsSeen_61 (by decide) ?_
              refine g_istore_n (pc := 65) hC [(2, _), (0, _), (1, _), (3, _)] dX10_isAsSeen_65 rfl (by decide) rfl ?_
              refine g_iinc (pc := 66) hC 3 [(3, _), (2, _), (0, _), (1, _)] dX10_isAsSeen_66 rfl (by decide) rfl ?_
              refine g_goto (pc := 69) hC 4 dX10_isAsSeen_69 (by decide) ?_
              refine g_lv hC [2, 3, 1, 0] [(0, _), (1, _), (2, _), (3, _)] rfl ?_
              exact ih4 (i + 1) 1 (j + 1) (by first | assumption | omega) (by first | assumption | omega) (by first | assumption | omega) (by first | assumption | omega) (md_sn_s hi hx (by (repeat' split) <;> omega)) (by omega)
  refine g_lv hC [2, 3, 1, 0] [(0, _), (1, _), (2, _), (3, _)] rfl ?_
  exact L4 ((s 21 - 0 : Int).toNat + 1) 0 1 0 (by first | assumption | omega) (by first | assumption | omega) (by first | assumption | omega) (by first | assumption | omega) rfl (by omega)
set_option maxHeartbeats 4000000 in
set_option maxRecDepth 100000 in
theorem k_X10_areAsSeen {K : gK} (m0 : Nat) (m1 : Nat) (m3 : Nat) (m10 : Nat) (m11 : Nat) (m12 : Nat) (m14 : Nat) (w_thrown : Value) (w_image : Value) (w_hasImage : Value) (w_act : Value) (w_spot : Value) (w_end : Value) (w_isWrong : Value) (w_open : Value) (w_first : Value) (w_order : Value) (w_bestOrder : Value) (w_rooms : Value) (w_leastUnlike : Value) (w_bodies : Value) (w_ran : Value) (w_kind : Value) (w_number : Value) (w_tellsV : Value) (ik : Int) (s : Int → Int) (fr : Int → Int) (fb : Int → Int) (ft : Int → Int) (fu : Int → Int) (fn : Int → Int) (W : (Int → Int) → Int) (rch : Int) (r_ik : rI ik) (r_s : ∀ j, rI (s j)) (r_fr : ∀ j, rI (fr j)) (r_fb : ∀ j, rI (fb j)) (r_ft : rZ ft) (r_fu : ∀ j, rI (fu j)) (r_fn : ∀ j, rI (fn j)) (hg : md_rg s) (h0 : s 0 + 21 ≤ 20000) (hs : md_rs s) (hT : md_TK s W rch) (hk : ik = 0 ∨ (ik = 1 ∧ md_PC W (fun z => s (26 + z)) fu)) : gMet K yX10_areAsSeen cX10_areAsSeen 3 (some .boolean) 6 0 0 [.ref m0] [cO m0 10 [w_thrown, .ref m1, w_image, .ref m3, w_hasImage, w_act, w_spot, w_end, w_isWrong, w_open, .ref m10, .ref m11, .ref m12, .int (iI ik), .ref m14, w_first, w_order, w_bestOrder, w_rooms, w_leastUnlike, w_bodies, w_ran, w_kind, w_number, w_tellsV], cA K m1 922 s, cA K m3 19 fr, cA K m10 6 fb, cZ K m11 64 ft, cA K m12 36000 fu, cA K m14 6 fn] (fun v9 w9 => ∃ (s2 : Int → Int), ∃ (fb2 : Int → Int), ∃ (ft2 : Int → Int), ∃ (fu2 : Int → Int), ∃ (fn2 : Int → Int), v9 = some (.int (iI (md_as W rch s 21))) ∧ w9 = [cO m0 10 [w_thrown, .ref m1, w_image, .ref m3, w_hasImage, w_act, w_spot, w_end, w_isWrong, w_open, .ref m10, .ref m11, .ref m12, .int (iI ik), .ref m14, w_first, w_order, w_bestOrder, w_rooms, w_leastUnlike, w_bodies, w_ran, w_kind, w_number, w_tellsV], cA K m1 922 s2, cA K m3 19 fr, cA K m10 6 fb2, cZ K m11 64 ft2, cA K m12 36000 fu2, cA K m14 6 fn2] ∧ (∀ j, rI (s2 j)) ∧ (∀ j, rI (fb2 j)) ∧ rZ ft2 ∧ (∀ j, rI (fu2 j)) ∧ (∀ j, rI (fn2 j)) ∧ (ik = 0 ∨ (ik = 1 ∧ md_PC W (fun z => s (26 + z)) fu2)) ∧ (∀ j, s2 j = if 0 ≤ j ∧ j < 19 then fr j else s j)) := by
  refine g_enter (by decide +kernel) (Nat.le_of_ble_eq_true rfl) (fun G hC hR => ?_)
  refine g_lv hC [0] [(0, _)] rfl ?_
  have hg0 := hg.2.2.2
  have h19 := hg.2.2.1
  refine g_iconst (pc := 0) hC dX10_areAsSeen_0 ?_
  refine g_istore_n (pc := 1) hC [(1, _), (0, _)] dX10_areAsSeen_1 rfl (by decide) rfl ?_
  refine g_iconst (pc := 2) hC dX10_areAsSeen_2 ?_
  refine g_istore_n (pc := 3) hC [(2, _), (1, _), (0, _)] dX10_areAsSeen_3 rfl (by decide) rfl ?_
  have L4 : ∀ (n1 : Nat) (i : Int) (x : Int) (f0 : Int → Int) (f1 : Int → Int) (f2 : Int → Int) (f3 : Int → Int) (f4 : Int → Int) (j : Nat), (rI i) → (rI x) → (∀ j, rI (f0 j)) → (∀ j, rI (f1 j)) → (rZ f2) → (∀ j, rI (f3 j)) → (∀ j, rI (f4 j)) → (i = (j : Int)) → (i ≤ 21) → (f0 = md_goN W rch s j) → (x = md_as W rch s j) → (ik = 0 ∨ (ik = 1 ∧ md_PC W (fun z => s (26 + z)) f3)) → 21 - i < (n1 : Int) → G 0 0 4 [(0, .ref m0), (1, .int (iI x)), (2, .int (iI i))] [] [cO m0 10 [w_thrown, .ref m1, w_image, .ref m3, w_hasImage, w_act, w_spot, w_end, w_isWrong, w_open, .ref m10, .ref m11, .ref m12, .int (iI ik), .ref m14, w_first, w_order, w_bestOrder, w_rooms, w_leastUnlike, w_bodies, w_ran, w_kind, w_number, w_tellsV], cA K m1 922 f0, cA K m3 19 fr, cA K m10 6 f1, cZ K m11 64 f2, cA K m12 36000 f3, cA K m14 6 f4] := by
    intro n1
    induction n1 with
    | zero => intro i x f0 f1 f2 f3 f4 j r_i r_x r_f0 r_f1 r_f2 r_f3 r_f4 hi hj hf hx hk3 hm4; exfalso; omega
    | succ n1 ih4 =>
      intro i x f0 f1 f2 f3 f4 j r_i r_x r_f0 r_f1 r_f2 r_f3 r_f4 hi hj hf hx hk3 hm4
      have h01 := md_as_01 W rch s j
      have hsj : md_rs f0 := by rw [hf]; exact md_rs_same (md_goN_hi h19.2 (by omega) j) (fun z hz hz2 => md_goN_hi h19.2 (by omega) j) hs
      have hgj : md_rg f0 := by rw [hf]; exact md_goN_rg hg j (by omega)
      have hTj : md_TK f0 W rch := by rw [hf]; exact md_TK_same (fun z hz => md_goN_hi h19.2 (by omega) j) hT
      have hkj : ∀ u : Int → Int, md_PC W (fun z => f0 (26 + z)) u ↔ md_PC W (fun z => s (26 + z)) u := by
        intro u
        exact md_PC_kd (fun z hz hz2 => by rw [hf]; exact md_goN_hi h19.2 (by omega) j)
      refine g_iload_n (pc := 4) hC 2 dX10_areAsSeen_4 rfl rfl ?_
      refine g_bipush (pc := 5) hC (20) dX10_areAsSeen_5 (by decide) ?_
      refine g_icmp_gt (pc := 7) hC 30 dX10_areAsSeen_7 (by decide) (by omega) (by omega) (fun c7 => ?_) (fun c7 => ?_)
      · refine g_aload_n (pc := 30) hC 0 dX10_areAsSeen_30 rfl rfl ?_
        refine g_callV (pc := 31) (qr := 0) hC [0, 1, 2] (k_X10_goesBack _ _ _ _ _ _ _ _ _ _ _ _ _ _ _ _ _ _ _ _ _ _ _ _ _ _ _ _ (by first | assumption | omega) (by first | assumption | omega)) cl_X10_goesBack wm_X10_178 dX10_areAsSeen_31 rfl rfl rfl rfl rfl (by decide) (by decide) (by omega) (Nat.le_of_ble_eq_true rfl) rfl (fun v9 w9 hq9 => ?_)
        obtain ⟨s3, rfl, rfl, r_s3, hb_31⟩ := hq9
        refine g_ws hC [cO m0 10 [w_thrown, .ref m1, w_image, .ref m3, w_hasImage, w_act, w_spot, w_end, w_isWrong, w_open, .ref m10, .ref m11, .ref m12, .int (iI ik), .ref m14, w_first, w_order, w_bestOrder, w_rooms, w_leastUnlike, w_bodies, w_ran, w_kind, w_number, w_tellsV], cA K m1 922 s3, cA K m3 19 fr, cA K m10 6 f1, cZ K m11 64 f2, cA K m12 36000 f3, cA K m14 6 f4] rfl ?_
        refine g_st hC [] rfl ?_
        refine g_iload_n (pc := 34) hC 1 dX10_areAsSeen_34 rfl rfl ?_
        exact g_zret (pc := 35) hR dX10_areAsSeen_35 rfl (by omega) ⟨by omega, by omega⟩ (Nat.le_of_ble_eq_true rfl) ⟨s3, f1, f2, f3, f4, ret_eq (by rw [hx]; exact md_as_end (by omega) (by omega)), rfl, (by first | assumption | omega), (by first | assumption | omega), (by first | assumption | omega), (by first | assumption | omega), (by first | assumption | omega), hk3, (md_backF (fun z hz => by rw [hf]; exact md_goN_out h19.2 (by omega) j) hb_31)⟩
      · refine g_iload_n (pc := 10) hC 1 dX10_areAsSeen_10 rfl rfl ?_
        refine g_if_eq (pc := 11) hC 30 dX10_areAsSeen_11 (by decide) (by omega) (fun c11 => ?_) (fun c11 => ?_)
        · refine g_aload_n (pc := 30) hC 0 dX10_areAsSeen_30 rfl rfl ?_
          refine g_callV (pc := 31) (qr := 0) hC [0, 1, 2] (k_X10_goesBack _ _ _ _ _ _ _ _ _ _ _ _ _ _ _ _ _ _ _ _ _ _ _ _ _ _ _ _ (by first | assumption | omega) (by first | assumption | omega)) cl_X10_goesBack wm_X10_178 dX10_areAsSeen_31 rfl rfl rfl rfl rfl (by decide) (by decide) (by omega) (Nat.le_of_ble_eq_true rfl) rfl (fun v9 w9 hq9 => ?_)
          obtain ⟨s3, rfl, rfl, r_s3, hb_31⟩ := hq9
          refine g_ws hC [cO m0 10 [w_thrown, .ref m1, w_image, .ref m3, w_hasImage, w_act, w_spot, w_end, w_isWrong, w_open, .ref m10, .ref m11, .ref m12, .int (iI ik), .ref m14, w_first, w_order, w_bestOrder, w_rooms, w_leastUnlike, w_bodies, w_ran, w_kind, w_number, w_tellsV], cA K m1 922 s3, cA K m3 19 fr, cA K m10 6 f1, cZ K m11 64 f2, cA K m12 36000 f3, cA K m14 6 f4] rfl ?_
          refine g_st hC [] rfl ?_
          refine g_iload_n (pc := 34) hC 1 dX10_areAsSeen_34 rfl rfl ?_
          exact g_zret (pc := 35) hR dX10_areAsSeen_35 rfl (by omega) ⟨by omega, by omega⟩ (Nat.le_of_ble_eq_true rfl) ⟨s3, f1, f2, f3, f4, ret_eq (by rw [hx]; exact md_as_end (by omega) (by omega)), rfl, (by first | assumption | omega), (by first | assumption | omega), (by first | assumption | omega), (by first | assumption | omega), (by first | assumption | omega), hk3, (md_backF (fun z hz => by rw [hf]; exact md_goN_out h19.2 (by omega) j) hb_31)⟩
        · refine g_aload_n (pc := 14) hC 0 dX10_areAsSeen_14 rfl rfl ?_
          refine g_iload_n (pc := 15) hC 2 dX10_areAsSeen_15 rfl rfl ?_
          refine g_fnV (pc := 16) (qr := 0) hC [0, 1] (k_X10_isAsSeen _ _ _ _ _ _ _ _ _ _ _ _ _ _ _ _ _ _ _ _ _ _ _ _ _ _ _ _ (by first | assumption | omega) (by first | assumption | omega) hsj hgj.2.2.1) cl_X10_isAsSeen wm_X10_210 dX10_areAsSeen_16 rfl rfl rfl rfl rfl (by decide) (by decide) ⟨by omega, by omega⟩ (Nat.le_of_ble_eq_true rfl) rfl rfl ?_
          refine g_name hC (fun x1 e_x1 => ?_)
          have q_x1 : x1 = 0 ∨ x1 = 1 := by rw [e_x1]; exact md_sn_01 _ _ _
          refine g_istore_n (pc := 19) hC [(1, _), (0, _), (2, _)] dX10_areAsSeen_19 rfl (by decide) rfl ?_
          refine g_aload_n (pc := 20) hC 1 dX10_areAsSeen_20 rfl rfl ?_
          refine g_callV (pc := 21) (qr := 0) hC [0, 1, 3, 4, 5, 6] (k_X10_goes _ _ _ _ _ _ _ _ _ _ _ _ _ _ _ _ _ _ _ _ _ _ _ _ _ _ _ _ _ _ _ _ _ (by first | assumption | omega) (by first | assumption | omega) (by first | assumption | omega) (by first | assumption | omega) (by first | assumption | omega) (by first | assumption | omega) hgj (by rw [hf, md_goN_0]; omega) hTj (by rw [hkj]; exact hk3)) cl_X10_goes wm_X10_175 dX10_areAsSeen_21 rfl rfl rfl rfl rfl (by decide) (by decide) (by omega) (Nat.le_of_ble_eq_true rfl) rfl (fun v9 w9 hq9 => ?_)
          obtain ⟨s2, fb3, ft4, fu5, fn6, rfl, rfl, r_s2, r_fb3, r_ft4, r_fu5, r_fn6, hs_21, hk2_21⟩ := hq9
          refine g_ws hC [cO m0 10 [w_thrown, .ref m1, w_image, .ref m3, w_hasImage, w_act, w_spot, w_end, w_isWrong, w_open, .ref m10, .ref m11, .ref m12, .int (iI ik), .ref m14, w_first, w_order, w_bestOrder, w_rooms, w_leastUnlike, w_bodies, w_ran, w_kind, w_number, w_tellsV], cA K m1 922 s2, cA K m3 19 fr, cA K m10 6 fb3, cZ K m11 64 ft4, cA K m12 36000 fu5, cA K m14 6 fn6] rfl ?_
          refine g_st hC [] rfl ?_
          refine g_iinc (pc := 24) hC 2 [(2, _), (1, _), (0, _)] dX10_areAsSeen_24 rfl (by decide) rfl ?_
          refine g_goto (pc := 27) hC 4 dX10_areAsSeen_27 (by decide) ?_
          refine g_lv hC [2, 1, 0] [(0, _), (1, _), (2, _)] rfl ?_
          exact ih4 (i + 1) x1 s2 fb3 ft4 fu5 fn6 (j + 1) (by first | assumption | omega) (by first | assumption | omega) (by first | assumption | omega) (by first | assumption | omega) (by first | assumption | omega) (by first | assumption | omega) (by first | assumption | omega) (by first | assumption | omega) (by first | assumption | omega) (by rw [hs_21, hf]; rfl) (by rw [e_x1, show md_as W rch s (j + 1) = if md_as W rch s j = 1 then md_sn (md_goN W rch s j) (j : Int) (s 21).toNat else 0 from rfl, if_pos (by omega), ← hf, ← hi, show s 21 = f0 21 by rw [hf]; exact (md_goN_hi h19.2 (by omega) j).symm]) (by rw [hkj] at hk2_21; exact hk2_21) (by omega)
  refine g_lv hC [2, 1, 0] [(0, _), (1, _), (2, _)] rfl ?_
  exact L4 ((21 - 0 : Int).toNat + 1) 0 1 s fb ft fu fn 0 (by first | assumption | omega) (by first | assumption | omega) (by first | assumption | omega) (by first | assumption | omega) (by first | assumption | omega) (by first | assumption | omega) (by first | assumption | omega) (by first | assumption | omega) (by first | assumption | omega) rfl rfl (by first | assumption | omega) (by omega)
set_option maxHeartbeats 4000000 in
set_option maxRecDepth 100000 in
theorem k_X10_fitting {K : gK} (m0 : Nat) (m1 : Nat) (m3 : Nat) (m10 : Nat) (m11 : Nat) (m12 : Nat) (m14 : Nat) (w_thrown : Value) (w_image : Value) (w_hasImage : Value) (w_act : Value) (w_spot : Value) (w_end : Value) (w_isWrong : Value) (w_open : Value) (w_first : Value) (w_order : Value) (w_bestOrder : Value) (w_rooms : Value) (w_leastUnlike : Value) (w_bodies : Value) (w_ran : Value) (w_kind : Value) (w_number : Value) (w_tellsV : Value) (w : Int) (ik : Int) (s : Int → Int) (fr : Int → Int) (fb : Int → Int) (ft : Int → Int) (fu : Int → Int) (fn : Int → Int) (W : (Int → Int) → Int) (rch : Int) (r_w : rI w) (r_ik : rI ik) (r_s : ∀ j, rI (s j)) (r_fr : ∀ j, rI (fr j)) (r_fb : ∀ j, rI (fb j)) (r_ft : rZ ft) (r_fu : ∀ j, rI (fu j)) (r_fn : ∀ j, rI (fn j)) (hw : (1 ≤ w ∧ w < 7) ∨ (13 ≤ w ∧ w < 19)) (hg : md_rg s) (h0 : s 0 + 21 ≤ 20000) (hs : md_rs s) (hT : md_TK s W rch) : gMet K yX10_fitting cX10_fitting 4 (some .int) 7 0 0 [.ref m0, .int (iI w)] [cO m0 10 [w_thrown, .ref m1, w_image, .ref m3, w_hasImage, w_act, w_spot, w_end, w_isWrong, w_open, .ref m10, .ref m11, .ref m12, .int (iI ik), .ref m14, w_first, w_order, w_bestOrder, w_rooms, w_leastUnlike, w_bodies, w_ran, w_kind, w_number, w_tellsV], cA K m1 922 s, cA K m3 19 fr, cA K m10 6 fb, cZ K m11 64 ft, cA K m12 36000 fu, cA K m14 6 fn] (fun v9 w9 => ∃ (fr2 : Int → Int), ∃ (fb2 : Int → Int), ∃ (ft2 : Int → Int), ∃ (fu2 : Int → Int), ∃ (fn2 : Int → Int), v9 = some (.int (iI (md_fit W rch s w 10))) ∧ w9 = [cO m0 10 [w_thrown, .ref m1, w_image, .ref m3, w_hasImage, w_act, w_spot, w_end, w_isWrong, w_open, .ref m10, .ref m11, .ref m12, .int (iI 0), .ref m14, w_first, w_order, w_bestOrder, w_rooms, w_leastUnlike, w_bodies, w_ran, w_kind, w_number, w_tellsV], cA K m1 922 s, cA K m3 19 fr2, cA K m10 6 fb2, cZ K m11 64 ft2, cA K m12 36000 fu2, cA K m14 6 fn2] ∧ (∀ j, rI (fr2 j)) ∧ (∀ j, rI (fb2 j)) ∧ rZ ft2 ∧ (∀ j, rI (fu2 j)) ∧ (∀ j, rI (fn2 j))) := by
  refine g_enter (by decide +kernel) (Nat.le_of_ble_eq_true rfl) (fun G hC hR => ?_)
  refine g_lv hC [0, 1] [(0, _), (1, _)] rfl ?_
  have hg0 := hg.2.2.2
  have h19 := hg.2.2.1
  refine g_aload_n (pc := 0) hC 0 dX10_fitting_0 rfl rfl ?_
  refine g_callV (pc := 1) (qr := 0) hC [0, 5] (k_X10_begins _ _ _ _ _ _ _ _ _ _ _ _ _ _ _ _ _ _ _ _ _ _ _ _ _ _ _ (by first | assumption | omega)) cl_X10_begins wm_X10_190 dX10_fitting_1 rfl rfl rfl rfl rfl (by decide) (by decide) (by omega) (Nat.le_of_ble_eq_true rfl) rfl (fun v9 w9 hq9 => ?_)
  obtain ⟨fu1, rfl, rfl, r_fu1, hkb⟩ := hq9
  refine g_ws hC [cO m0 10 [w_thrown, .ref m1, w_image, .ref m3, w_hasImage, w_act, w_spot, w_end, w_isWrong, w_open, .ref m10, .ref m11, .ref m12, .int (iI 1), .ref m14, w_first, w_order, w_bestOrder, w_rooms, w_leastUnlike, w_bodies, w_ran, w_kind, w_number, w_tellsV], cA K m1 922 s, cA K m3 19 fr, cA K m10 6 fb, cZ K m11 64 ft, cA K m12 36000 fu1, cA K m14 6 fn] rfl ?_
  refine g_st hC [] rfl ?_
  have hk3 : md_PC W (fun z => s (26 + z)) fu1 := fun p q x d t a1 a2 a3 a4 a5 a6 a7 a8 a9 a10 => Or.inl (hkb _ (by omega) (by omega))
  refine g_iconst (pc := 4) hC dX10_fitting_4 ?_
  refine g_istore_n (pc := 5) hC [(2, _), (0, _), (1, _)] dX10_fitting_5 rfl (by decide) rfl ?_
  refine g_iconst (pc := 6) hC dX10_fitting_6 ?_
  refine g_istore_n (pc := 7) hC [(3, _), (2, _), (0, _), (1, _)] dX10_fitting_7 rfl (by decide) rfl ?_
  have L8 : ∀ (n1 : Nat) (i : Int) (x : Int) (g : Int → Int) (f1 : Int → Int) (f2 : Int → Int) (f3 : Int → Int) (f4 : Int → Int) (j : Nat), (rI i) → (rI x) → (∀ j, rI (g j)) → (∀ j, rI (f1 j)) → (rZ f2) → (∀ j, rI (f3 j)) → (∀ j, rI (f4 j)) → (i = (j : Int)) → (i ≤ 10) → (x = md_fit W rch s w j) → (md_PC W (fun z => s (26 + z)) f3) → 10 - i < (n1 : Int) → G 0 0 8 [(0, .ref m0), (1, .int (iI w)), (2, .int (iI x)), (3, .int (iI i))] [] [cO m0 10 [w_thrown, .ref m1, w_image, .ref m3, w_hasImage, w_act, w_spot, w_end, w_isWrong, w_open, .ref m10, .ref m11, .ref m12, .int (iI 1), .ref m14, w_first, w_order, w_bestOrder, w_rooms, w_leastUnlike, w_bodies, w_ran, w_kind, w_number, w_tellsV], cA K m1 922 s, cA K m3 19 g, cA K m10 6 f1, cZ K m11 64 f2, cA K m12 36000 f3, cA K m14 6 f4] := by
    intro n1
    induction n1 with
    | zero => intro i x g f1 f2 f3 f4 j r_i r_x r_g r_f1 r_f2 r_f3 r_f4 hi hj hx hk4 hm8; exfalso; omega
    | succ n1 ih8 =>
      intro i x g f1 f2 f3 f4 j r_i r_x r_g r_f1 r_f2 r_f3 r_f4 hi hj hx hk4 hm8
      refine g_iload_n (pc := 8) hC 3 dX10_fitting_8 rfl rfl ?_
      refine g_bipush (pc := 9) hC (10) dX10_fitting_9 (by decide) ?_
      refine g_icmp_ge (pc := 11) hC 48 dX10_fitting_11 (by decide) (by omega) (by omega) (fun c11 => ?_) (fun c11 => ?_)
      · refine g_aload_n (pc := 48) hC 0 dX10_fitting_48 rfl rfl ?_
        refine g_iload_n (pc := 49) hC 2 dX10_fitting_49 rfl rfl ?_
        refine g_callV (pc := 50) (qr := 0) hC [0] (k_X10_ends _ _ _ _ _ _ _ _ _ _ _ _ _ _ _ _ _ _ _ _ _ _ _ _ _ _ _ (by first | assumption | omega)) cl_X10_ends wm_X10_197 dX10_fitting_50 rfl rfl rfl rfl rfl (by decide) (by decide) (by omega) (Nat.le_of_ble_eq_true rfl) rfl (fun v9 w9 hq9 => ?_)
        obtain ⟨rfl, rfl⟩ := hq9
        refine g_ws hC [cO m0 10 [w_thrown, .ref m1, w_image, .ref m3, w_hasImage, w_act, w_spot, w_end, w_isWrong, w_open, .ref m10, .ref m11, .ref m12, .int (iI 0), .ref m14, w_first, w_order, w_bestOrder, w_rooms, w_leastUnlike, w_bodies, w_ran, w_kind, w_number, w_tellsV], cA K m1 922 s, cA K m3 19 g, cA K m10 6 f1, cZ K m11 64 f2, cA K m12 36000 f3, cA K m14 6 f4] rfl ?_
        refine g_st hC [.int (iI x)] rfl ?_
        exact g_iret (pc := 53) hR dX10_fitting_53 rfl ⟨by omega, by omega⟩ (Nat.le_of_ble_eq_true rfl) ⟨g, f1, f2, f3, f4, ret_eq (by rw [hx, show j = 10 by omega]), rfl, (by first | assumption | omega), (by first | assumption | omega), (by first | assumption | omega), (by first | assumption | omega), (by first | assumption | omega)⟩
      · refine g_aload_n (pc := 14) hC 0 dX10_fitting_14 rfl rfl ?_
        refine g_callV (pc := 15) (qr := 0) hC [0, 1, 2] (k_X10_keeps _ _ _ _ _ _ _ _ _ _ _ _ _ _ _ _ _ _ _ _ _ _ _ _ _ _ _ _ (by first | assumption | omega) (by first | assumption | omega)) cl_X10_keeps wm_X10_169 dX10_fitting_15 rfl rfl rfl rfl rfl (by decide) (by decide) (by omega) (Nat.le_of_ble_eq_true rfl) rfl (fun v9 w9 hq9 => ?_)
        obtain ⟨g1, rfl, rfl, r_g1, hkp⟩ := hq9
        refine g_ws hC [cO m0 10 [w_thrown, .ref m1, w_image, .ref m3, w_hasImage, w_act, w_spot, w_end, w_isWrong, w_open, .ref m10, .ref m11, .ref m12, .int (iI 1), .ref m14, w_first, w_order, w_bestOrder, w_rooms, w_leastUnlike, w_bodies, w_ran, w_kind, w_number, w_tellsV], cA K m1 922 s, cA K m3 19 g1, cA K m10 6 f1, cZ K m11 64 f2, cA K m12 36000 f3, cA K m14 6 f4] rfl ?_
        refine g_st hC [] rfl ?_
        refine g_aload_n (pc := 18) hC 0 dX10_fitting_18 rfl rfl ?_
        refine g_get (pc := 19) hC 0 fl_X10_9 dX10_fitting_19 rfl rfl ?_
        refine g_iload_n (pc := 22) hC 1 dX10_fitting_22 rfl rfl ?_
        refine g_iload_n (pc := 23) hC 3 dX10_fitting_23 rfl rfl ?_
        refine g_iast (pc := 24) hC 1 (fun f9 => [_, cA K _ _ f9, _, _, _, _, _]) dX10_fitting_24 rfl (by omega) (fun _ => rfl) (fun t1 e_t1 => ?_)
        have r_t1 := rng_up e_t1 r_s (by omega)
        have htr := md_try hg hT e_t1 (by omega) (by omega)
        have hst : md_rs t1 := md_rs_same htr.2.2.2.1 (fun z hz hz2 => by rw [e_t1]; exact upI_ne (by omega)) hs
        refine g_iload_n (pc := 25) hC 2 dX10_fitting_25 rfl rfl ?_
        refine g_aload_n (pc := 26) hC 0 dX10_fitting_26 rfl rfl ?_
        refine g_callV (pc := 27) (qr := 0) hC [0, 1, 2, 3, 4, 5, 6] (k_X10_areAsSeen _ _ _ _ _ _ _ _ _ _ _ _ _ _ _ _ _ _ _ _ _ _ _ _ _ _ _ _ _ _ _ _ _ _ (by first | assumption | omega) (by first | assumption | omega) (by first | assumption | omega) (by first | assumption | omega) (by first | assumption | omega) (by first | assumption | omega) (by first | assumption | omega) htr.1 (by rw [htr.2.2.1]; omega) hst htr.2.1 (Or.inr ⟨rfl, (htr.2.2.2.2 _).mpr hk4⟩)) cl_X10_areAsSeen wm_X10_213 dX10_fitting_27 rfl rfl rfl rfl rfl (by decide) (by decide) (by omega) (Nat.le_of_ble_eq_true rfl) rfl (fun v9 w9 hq9 => ?_)
        obtain ⟨t2, fb2, ft3, fu4, fn5, rfl, rfl, r_t2, r_fb2, r_ft3, r_fu4, r_fn5, hk2_27, hb_27⟩ := hq9
        refine g_ws hC [cO m0 10 [w_thrown, .ref m1, w_image, .ref m3, w_hasImage, w_act, w_spot, w_end, w_isWrong, w_open, .ref m10, .ref m11, .ref m12, .int (iI 1), .ref m14, w_first, w_order, w_bestOrder, w_rooms, w_leastUnlike, w_bodies, w_ran, w_kind, w_number, w_tellsV], cA K m1 922 t2, cA K m3 19 g1, cA K m10 6 fb2, cZ K m11 64 ft3, cA K m12 36000 fu4, cA K m14 6 fn5] rfl ?_
        refine g_st hC [.int (iI (md_as W rch t1 21)), _] rfl ?_
        refine g_name hC (fun y1 e_y1 => ?_)
        have h01 := md_as_01 W rch t1 21
        rw [← e_y1] at h01
        rw [e_t1] at e_y1
        rw [show (t2 : Int → Int) = s from (md_backU e_t1 (by omega) hkp hb_27)]
        refine g_if_eq (pc := 30) hC 39 dX10_fitting_30 (by decide) (by omega) (fun c30 => ?_) (fun c30 => ?_)
        · refine g_iconst (pc := 39) hC dX10_fitting_39 ?_
          refine g_ior (pc := 40) hC dX10_fitting_40 ?_
          refine g_istore_n (pc := 41) hC [(2, _), (0, _), (1, _), (3, _)] dX10_fitting_41 rfl (by decide) rfl ?_
          refine g_iinc (pc := 42) hC 3 [(3, _), (2, _), (0, _), (1, _)] dX10_fitting_42 rfl (by decide) rfl ?_
          refine g_goto (pc := 45) hC 8 dX10_fitting_45 (by decide) ?_
          refine g_lv hC [2, 3, 1, 0] [(0, _), (1, _), (2, _), (3, _)] rfl ?_
          exact ih8 (i + 1) (bOr x 0) g1 fb2 ft3 fu4 fn5 (j + 1) (by first | assumption | omega) (bOr_rng _ _) (by first | assumption | omega) (by first | assumption | omega) (by first | assumption | omega) (by first | assumption | omega) (by first | assumption | omega) (by first | assumption | omega) (by first | assumption | omega) (md_fit_s hi hx e_y1 (by rw [if_pos c30])) (by rcases hk2_27 with h9 | h9; exact absurd h9 (by decide); exact (htr.2.2.2.2 _).mp h9.2) (by omega)
        · refine g_iconst (pc := 33) hC dX10_fitting_33 ?_
          refine g_iload_n (pc := 34) hC 3 dX10_fitting_34 rfl rfl ?_
          refine g_ishl (pc := 35) hC dX10_fitting_35 ?_
          refine g_goto (pc := 36) hC 40 dX10_fitting_36 (by decide) ?_
          refine g_ior (pc := 40) hC dX10_fitting_40 ?_
          refine g_istore_n (pc := 41) hC [(2, _), (0, _), (1, _), (3, _)] dX10_fitting_41 rfl (by decide) rfl ?_
          refine g_iinc (pc := 42) hC 3 [(3, _), (2, _), (0, _), (1, _)] dX10_fitting_42 rfl (by decide) rfl ?_
          refine g_goto (pc := 45) hC 8 dX10_fitting_45 (by decide) ?_
          refine g_lv hC [2, 3, 1, 0] [(0, _), (1, _), (2, _), (3, _)] rfl ?_
          exact ih8 (i + 1) (bOr x (bShl 1 i)) g1 fb2 ft3 fu4 fn5 (j + 1) (by first | assumption | omega) (bOr_rng _ _) (by first | assumption | omega) (by first | assumption | omega) (by first | assumption | omega) (by first | assumption | omega) (by first | assumption | omega) (by first | assumption | omega) (by first | assumption | omega) (md_fit_s hi hx e_y1 (by rw [if_neg c30])) (by rcases hk2_27 with h9 | h9; exact absurd h9 (by decide); exact (htr.2.2.2.2 _).mp h9.2) (by omega)
  refine g_lv hC [2, 3, 1, 0] [(0, _), (1, _), (2, _), (3, _)] rfl ?_
  exact L8 ((10 - 0 : Int).toNat + 1) 0 0 fr fb ft fu1 fn 0 (by first | assumption | omega) (by first | assumption | omega) (by first | assumption | omega) (by first | assumption | omega) (by first | assumption | omega) (by first | assumption | omega) (by first | assumption | omega) (by first | assumption | omega) (by first | assumption | omega) rfl (by first | assumption | omega) (by omega)
