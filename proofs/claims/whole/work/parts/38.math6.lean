/-! MATHEMATICS, 6: what holds between the calls -/
def WSS (s : Int → Int) : (Int → Int) → Int := fun b => if s 25 = -1 then 0 else (tk_run (md_tok s) b (s (217 + s 25)).toNat).2.2
def rcS (s : Int → Int) : Int := if s 25 = -1 then 9 else s (212 + s 25)
theorem WSS_l {s : Int → Int} {k : Int} {l : List Int} (h25 : s 25 = k) (hk : 0 ≤ k) (h : md_HL s k l) : WSS s = lW l := by
  funext b
  unfold WSS lW
  have hl := h.2.2.2.1
  rw [if_neg (by omega), h25, show (s (217 + k)).toNat = l.length by omega, HL_run l.length (HL_tok (by rw [h25]; exact h))]
theorem WSS_0 {s : Int → Int} (h : s 25 = -1) : WSS s = fun _ => 0 := by
  funext b
  unfold WSS
  rw [if_pos h]
theorem rcS_0 {s : Int → Int} (h : s 25 = -1) : rcS s = 9 := if_pos h
theorem rcS_l {s : Int → Int} (h : ¬ s 25 = -1) : rcS s = s (212 + s 25) := if_neg h
theorem WSS_same {s t : Int → Int} (h : s 25 = -1 ∨ (0 ≤ s 25 ∧ s (217 + s 25) ≤ 100)) (e25 : t 25 = s 25) (e : 0 ≤ s 25 → t (212 + s 25) = s (212 + s 25) ∧ t (217 + s 25) = s (217 + s 25) ∧ ∀ j, 0 ≤ j → j < 100 → t (222 + 140 * s 25 + j) = s (222 + 140 * s 25 + j)) : WSS t = WSS s ∧ rcS t = rcS s := by
  rcases h with h | ⟨h, h2⟩
  · rw [WSS_0 h, WSS_0 (by rw [e25]; exact h), rcS_0 h, rcS_0 (by rw [e25]; exact h)]
    exact ⟨rfl, rfl⟩
  · obtain ⟨e1, e2, e3⟩ := e h
    refine ⟨?_, ?_⟩
    · funext b
      unfold WSS
      rw [e25, if_neg (by omega), if_neg (by omega), e2]
      rw [HL_run (f := md_tok t) (g := md_tok s) _ (fun j hj => by
        unfold md_tok
        rw [e25]
        exact e3 (j : Int) (by omega) (by omega))]
    · rw [rcS_l (by omega), rcS_l (by omega), e25, e1]
def hs_ok (s : Int → Int) : Prop := ∀ k : Int, 0 ≤ k → k < s 20 → (∃ l, md_HL s k l) ∧ (0 ≤ s (212 + k) ∧ s (212 + k) ≤ 99)
def tp_ok (s : Int → Int) : Prop := ∀ q, 0 ≤ q → q < 100 → 0 ≤ s (112 + q) ∧ s (112 + q) ≤ 127
def gs_ok (s : Int → Int) : Prop := md_rg s ∧ md_rs s ∧ md_cano s ∧ s 0 ≤ 9999 ∧ tp_ok s ∧ (0 ≤ s 20 ∧ s 20 ≤ 5) ∧ s 25 = s 20 - 1 ∧ hs_ok s
theorem gs_TK {s : Int → Int} (h : gs_ok s) : md_TK s (WSS s) (rcS s) := by
  obtain ⟨h1, h2, h3, h4, h5, h6, h7, h8⟩ := h
  by_cases hz : s 25 = -1
  · rw [WSS_0 hz, rcS_0 hz]
    exact HL_none hz
  · obtain ⟨⟨l, hl⟩, hr⟩ := h8 (s 25) (by omega) (by omega)
    rw [WSS_l rfl (by omega) hl, rcS_l hz]
    exact HL_TK (by omega) hr hl
theorem gs_WS {s t : Int → Int} (h : gs_ok s) (e25 : t 25 = s 25) (e1 : ∀ j, 212 ≤ j → t j = s j) : WSS t = WSS s ∧ rcS t = rcS s := by
  obtain ⟨h1, h2, h3, h4, h5, h6, h7, h8⟩ := h
  refine WSS_same ?_ e25 (fun hz => ⟨e1 _ (by omega), e1 _ (by omega), fun j q1 q2 => e1 _ (by omega)⟩)
  by_cases hz : s 25 = -1
  · exact Or.inl hz
  · obtain ⟨⟨l, hl⟩, hr⟩ := h8 (s 25) (by omega) (by omega)
    exact Or.inr ⟨by omega, by have := hl.2.2.2.1; have := hl.2.2.1; omega⟩
/-! the three rows of what was seen, of the plan, of the book -/
def rsA (s : Int → Int) : Prop := 0 ≤ s 21 ∧ s 21 ≤ 6 ∧ ∀ k, 0 ≤ k → k < s 21 → (0 ≤ s (62 + k) ∧ s (62 + k) < s 19) ∧ (0 ≤ s (68 + k) ∧ s (68 + k) ≤ 20) ∧ (0 ≤ s (74 + k) ∧ s (74 + k) ≤ 9)
def rsB (s : Int → Int) : Prop := 0 ≤ s 22 ∧ s 22 ≤ 8 ∧ ∀ k, 0 ≤ k → k < s 22 → (s (80 + k) = 0 ∨ ((s (80 + k) = 1 ∨ s (80 + k) = 2) ∧ 0 ≤ s (88 + k) ∧ s (88 + k) < s 19) ∨ (s (80 + k) = 3 ∧ 0 ≤ s (88 + k) ∧ s (88 + k) < 10 * s 19))
def rsC (s : Int → Int) : Prop := 0 ≤ s 23 ∧ s 23 ≤ 8 ∧ ∀ k, 0 ≤ k → k < s 23 → (0 ≤ s (96 + k) ∧ s (96 + k) < s 19) ∧ (0 ≤ s (104 + k) ∧ s (104 + k) ≤ 9)
theorem rs_iff {s : Int → Int} : md_rs s ↔ rsA s ∧ rsB s ∧ rsC s ∧ (0 ≤ s 24 ∧ s 24 ≤ 100) := Iff.rfl
theorem rsA_same {s t : Int → Int} (h19 : s 19 ≤ t 19) (e : ∀ j, j = 21 ∨ (62 ≤ j ∧ j < 80) → t j = s j) (h : rsA s) : rsA t := by
  obtain ⟨a1, a2, a3⟩ := h
  have e21 := e 21 (Or.inl rfl)
  refine ⟨by omega, by omega, fun k h1 h2 => ?_⟩
  rw [e21] at h2
  have h3 := a3 k h1 h2
  rw [e (62 + k) (by omega), e (68 + k) (by omega), e (74 + k) (by omega)]
  omega
theorem rsB_same {s t : Int → Int} (h19 : s 19 ≤ t 19) (e : ∀ j, j = 22 ∨ (80 ≤ j ∧ j < 96) → t j = s j) (h : rsB s) : rsB t := by
  obtain ⟨a1, a2, a3⟩ := h
  have e21 := e 22 (Or.inl rfl)
  refine ⟨by omega, by omega, fun k h1 h2 => ?_⟩
  rw [e21] at h2
  have h3 := a3 k h1 h2
  rw [e (80 + k) (by omega), e (88 + k) (by omega)]
  omega
theorem rsC_same {s t : Int → Int} (h19 : s 19 ≤ t 19) (e : ∀ j, j = 23 ∨ (96 ≤ j ∧ j < 112) → t j = s j) (h : rsC s) : rsC t := by
  obtain ⟨a1, a2, a3⟩ := h
  have e21 := e 23 (Or.inl rfl)
  refine ⟨by omega, by omega, fun k h1 h2 => ?_⟩
  rw [e21] at h2
  have h3 := a3 k h1 h2
  rw [e (96 + k) (by omega), e (104 + k) (by omega)]
  omega
theorem rg_same {s t : Int → Int} (e : ∀ j, (0 ≤ j ∧ j ≤ 19) ∨ (26 ≤ j ∧ j < 62) → t j = s j) (h : md_rg s) : md_rg t := by
  obtain ⟨h1, h2, h3, h4⟩ := h
  refine ⟨fun p q1 q2 => ?_, fun j q1 q2 => by rw [e j (by omega)]; exact h2 j q1 q2, by rw [e 19 (by omega)]; exact h3, by rw [e 0 (by omega)]; exact h4⟩
  rw [e (1 + p) (by omega), e (7 + p) (by omega), e (13 + p) (by omega), e (26 + p) (by omega), e (32 + p) (by omega)]
  exact h1 p q1 q2
theorem hs_same {s t : Int → Int} (e20 : t 20 = s 20) (h20 : s 20 ≤ 5) (e : ∀ j, 212 ≤ j → t j = s j) (h : hs_ok s) : hs_ok t := by
  intro k h1 h2
  rw [e20] at h2
  obtain ⟨⟨l, hl⟩, hr⟩ := h k h1 h2
  refine ⟨⟨l, HL_same hl (e _ (by omega)) (fun j q1 q2 => e _ (by omega))⟩, ?_⟩
  rw [e _ (by omega)]
  exact hr
/-- a change of footmen, rooms, states or step -/
theorem gs_lo {s t : Int → Int} (h : gs_ok s) (e : ∀ j, j < 0 ∨ (20 ≤ j ∧ j < 26) ∨ 62 ≤ j → t j = s j) (hg : md_rg t) (h19 : s 19 ≤ t 19) (h0 : t 0 ≤ 9999) : gs_ok t := by
  obtain ⟨h1, h2, h3, h4, h5, h6, h7, h8⟩ := h
  obtain ⟨a, b, c, d⟩ := rs_iff.mp h2
  refine ⟨hg, rs_iff.mpr ⟨rsA_same h19 (fun j q => e j (by omega)) a, rsB_same h19 (fun j q => e j (by omega)) b, rsC_same h19 (fun j q => e j (by omega)) c, by rw [e 24 (by omega)]; exact d⟩, fun j q => by rw [e j (by omega)]; exact h3 j q, h0, fun q q1 q2 => by rw [e _ (by omega)]; exact h5 q q1 q2, by rw [e 20 (by omega)]; exact h6, by rw [e 25 (by omega), e 20 (by omega)]; exact h7, hs_same (e 20 (by omega)) h6.2 (fun j q => e j (by omega)) h8⟩
/-- a change of what was seen, of the plan, of the book, of the tape -/
theorem gs_hi {s t : Int → Int} (h : gs_ok s) (e : ∀ j, ¬ (21 ≤ j ∧ j ≤ 24) → ¬ (62 ≤ j ∧ j < 212) → t j = s j) (hs : md_rs t) (ht : tp_ok t) : gs_ok t := by
  obtain ⟨h1, h2, h3, h4, h5, h6, h7, h8⟩ := h
  exact ⟨rg_same (fun j q => e j (by omega) (by omega)) h1, hs, fun j q => by rw [e j (by omega) (by omega)]; exact h3 j q, by rw [e 0 (by omega) (by omega)]; exact h4, ht, by rw [e 20 (by omega) (by omega)]; exact h6, by rw [e 25 (by omega) (by omega), e 20 (by omega) (by omega)]; exact h7, hs_same (e 20 (by omega) (by omega)) h6.2 (fun j q => e j (by omega) (by omega)) h8⟩
theorem man_out {s : Int → Int} {kind v room st : Int} (h19 : 0 ≤ s 19 ∧ s 19 ≤ 5) {j : Int} (h : j < 0 ∨ (20 ≤ j ∧ j < 26) ∨ 62 ≤ j ∨ j = 0) : ne_manS s kind v room st j = s j := by
  unfold ne_manS
  rw [if_neg (by omega), if_neg (by omega), if_neg (by omega), if_neg (by omega), if_neg (by omega), if_neg (by omega), if_neg (by omega)]
theorem man_rg {s : Int → Int} {kind v room st : Int} (hg : md_rg s) (h19 : s 19 ≤ 5) (hk : 0 ≤ kind ∧ kind ≤ 6) (hv : 0 ≤ v ∧ v ≤ 9) (hr : 0 ≤ room ∧ room ≤ 9) (hs : 0 ≤ st ∧ st ≤ 9) : md_rg (ne_manS s kind v room st) := by
  obtain ⟨h1, h2, h3, h4⟩ := hg
  have e19 : ne_manS s kind v room st 19 = s 19 + 1 := by unfold ne_manS; rw [if_pos rfl]
  have e0 : ne_manS s kind v room st 0 = s 0 := man_out ⟨h3.1, h19⟩ (by omega)
  refine ⟨fun p q1 q2 => ?_, fun j q1 q2 => ?_, by rw [e19]; omega, by rw [e0]; exact h4⟩
  · obtain ⟨a1, a2, a3, a4, a5⟩ := h1 p q1 q2
    refine ⟨?_, ?_, ?_, ?_, ?_⟩
    · unfold ne_manS; (repeat' split) <;> omega
    · unfold ne_manS; (repeat' split) <;> omega
    · unfold ne_manS; (repeat' split) <;> omega
    · unfold ne_manS; (repeat' split) <;> omega
    · unfold ne_manS; (repeat' split) <;> omega
  · have a := h2 j q1 q2
    unfold ne_manS
    (repeat' split) <;> omega
theorem gs_man {s : Int → Int} {kind v room st : Int} (h : gs_ok s) : gs_ok (ne_man s kind v room st) := by
  unfold ne_man
  by_cases hc : ((0 ≤ kind ∧ kind ≤ 6) ∧ (0 ≤ room ∧ room ≤ 9) ∧ (0 ≤ st ∧ st ≤ 9)) ∧ (0 ≤ v ∧ v ≤ 9) ∧ s 19 ≠ 6
  · rw [if_pos hc]
    have hg := h.1
    have h19 := hg.2.2.1
    have e0 : ne_manS s kind v room st 0 = s 0 := man_out (by omega) (by omega)
    have e19 : ne_manS s kind v room st 19 = s 19 + 1 := by unfold ne_manS; rw [if_pos rfl]
    exact gs_lo h (fun j q => man_out (by omega) (by omega)) (man_rg hg (by omega) hc.1.1 hc.2.1 hc.1.2.1 hc.1.2.2) (by omega) (by rw [e0]; exact h.2.2.2.1)
  · rw [if_neg hc]
    exact h
theorem rg_up {s : Int → Int} {w x : Int} (hg : md_rg s) (hx : (((1 ≤ w ∧ w < 7) ∨ (13 ≤ w ∧ w < 19) ∨ (32 ≤ w ∧ w < 62)) ∧ 0 ≤ x ∧ x ≤ 9) ∨ ((7 ≤ w ∧ w < 13) ∧ (x = 0 ∨ x = 1))) : md_rg (upI s w x) := by
  obtain ⟨h1, h2, h3, h4⟩ := hg
  refine ⟨fun p q1 q2 => ?_, fun j q1 q2 => ?_, by rw [upI_ne (by omega)]; exact h3, by rw [upI_ne (by omega)]; exact h4⟩
  · obtain ⟨a1, a2, a3, a4, a5⟩ := h1 p q1 q2
    refine ⟨?_, ?_, ?_, by rw [upI_ne (by omega)]; exact a4, ?_⟩
    · unfold upI; split <;> omega
    · unfold upI; split <;> omega
    · unfold upI; split <;> omega
    · unfold upI; split <;> omega
  · have a := h2 j q1 q2
    unfold upI
    split <;> omega
theorem gs_up {s : Int → Int} {w x : Int} (h : gs_ok s) (hx : (((1 ≤ w ∧ w < 7) ∨ (13 ≤ w ∧ w < 19) ∨ (32 ≤ w ∧ w < 62)) ∧ 0 ≤ x ∧ x ≤ 9) ∨ ((7 ≤ w ∧ w < 13) ∧ (x = 0 ∨ x = 1))) : gs_ok (upI s w x) :=
  gs_lo h (fun j q => upI_ne (by omega)) (rg_up h.1 hx) (by rw [upI_ne (by omega)]; omega) (by rw [upI_ne (by omega)]; exact h.2.2.2.1)
theorem gs_row {s : Int → Int} {p k x : Int} (h : gs_ok s) : gs_ok (ne_row s p k x) := by
  have h19 := h.1.2.2.1
  unfold ne_row
  by_cases hc : ((0 ≤ p ∧ p < s 19) ∧ (0 ≤ k ∧ k ≤ 3)) ∧ (0 ≤ x ∧ x ≤ 9) ∧ s (26 + p) = 6
  · rw [if_pos hc]
    exact gs_up h (Or.inl ⟨by omega, hc.2.1⟩)
  · rw [if_neg hc]
    exact h
theorem gs_set {s : Int → Int} {p w x : Int} (h : gs_ok s) : gs_ok (ne_set s p w x) := by
  have h19 := h.1.2.2.1
  unfold ne_set
  by_cases hc : (0 ≤ p ∧ p < s 19) ∧ (0 ≤ w ∧ w ≤ 1) ∧ (0 ≤ x ∧ x ≤ 9)
  · rw [if_pos hc]
    refine gs_up h (Or.inl ⟨?_, hc.2.2⟩)
    split <;> omega
  · rw [if_neg hc]
    exact h
theorem gs_away {s : Int → Int} {p z : Int} (h : gs_ok s) : gs_ok (ne_away s p z) := by
  have h19 := h.1.2.2.1
  unfold ne_away
  by_cases hc : 0 ≤ p ∧ p < s 19
  · rw [if_pos hc]
    refine gs_up h (Or.inr ⟨by omega, ?_⟩)
    split <;> omega
  · rw [if_neg hc]
    exact h
theorem go_neg {W : (Int → Int) → Int} {rch : Int} {s : Int → Int} {j : Int} (hj : j < 0) : md_go W rch s j = s j := by
  unfold md_go
  rw [if_neg (by omega), if_neg (by omega)]
theorem goN_neg {W : (Int → Int) → Int} {rch : Int} {s : Int → Int} {j : Int} (hj : j < 0) : ∀ n : Nat, md_goN W rch s n j = s j
  | 0 => rfl
  | n + 1 => by
    unfold md_goN
    rw [go_neg hj, goN_neg hj n]
theorem gs_pass {W : (Int → Int) → Int} {rch : Int} {s : Int → Int} {x : Int} (h : gs_ok s) : gs_ok (ne_pass W rch s x) := by
  have hg := h.1
  have h19 := hg.2.2.1
  unfold ne_pass
  by_cases hc : (0 ≤ x ∧ x ≤ 60) ∧ s 0 + x ≤ 9999
  · rw [if_pos hc]
    have h0 : md_goN W rch s x.toNat 0 = s 0 + ((x.toNat : Nat) : Int) := md_goN_0 x.toNat
    refine gs_lo h (fun j q => ?_) (md_goN_rg hg x.toNat (by omega)) (by rw [md_goN_hi h19.2 (by omega)]; omega) (by omega)
    by_cases hj : j < 0
    · exact goN_neg hj x.toNat
    · exact md_goN_hi h19.2 (by omega) x.toNat
  · rw [if_neg hc]
    exact h
theorem gs_feed {s : Int → Int} {g : Int} (h : gs_ok s) : gs_ok (ne_feed s g) := by
  have h24 := (rs_iff.mp h.2.1).2.2.2
  unfold ne_feed
  by_cases hc : 0 ≤ g ∧ g ≤ 127 ∧ s 24 ≠ 100
  · rw [if_pos hc]
    have e : ∀ j, j ≠ 24 → j ≠ 112 + s 24 → upI (upI s (112 + s 24) g) 24 (s 24 + 1) j = s j := fun j q1 q2 => by rw [upI_ne q1, upI_ne q2]
    obtain ⟨a, b, c, d⟩ := rs_iff.mp h.2.1
    refine gs_hi h (fun j q1 q2 => e j (by omega) (by omega)) (rs_iff.mpr ⟨rsA_same (by rw [e 19 (by omega) (by omega)]; omega) (fun j q => e j (by omega) (by omega)) a, rsB_same (by rw [e 19 (by omega) (by omega)]; omega) (fun j q => e j (by omega) (by omega)) b, rsC_same (by rw [e 19 (by omega) (by omega)]; omega) (fun j q => e j (by omega) (by omega)) c, by rw [upI_at]; omega⟩) (fun q q1 q2 => ?_)
    have h5 := h.2.2.2.2.1 q q1 q2
    rw [upI_ne (by omega)]
    unfold upI
    split <;> omega
  · rw [if_neg hc]
    exact h
theorem gs_see {s : Int → Int} {p n x : Int} (h : gs_ok s) : gs_ok (ne_see s p n x) := by
  obtain ⟨a, b, c, d⟩ := rs_iff.mp h.2.1
  unfold ne_see
  by_cases h1 : p = -1
  · rw [if_pos h1]
    have e : ∀ j, j ≠ 21 → upI s 21 0 j = s j := fun j q => upI_ne q
    refine gs_hi h (fun j q1 q2 => e j (by omega)) (rs_iff.mpr ⟨⟨by rw [upI_at]; omega, by rw [upI_at]; omega, fun k q1 q2 => by rw [upI_at] at q2; omega⟩, rsB_same (by rw [e 19 (by omega)]; omega) (fun j q => e j (by omega)) b, rsC_same (by rw [e 19 (by omega)]; omega) (fun j q => e j (by omega)) c, by rw [e 24 (by omega)]; exact d⟩) (fun q q1 q2 => by rw [e _ (by omega)]; exact h.2.2.2.2.1 q q1 q2)
  · rw [if_neg h1]
    by_cases hc : ((0 ≤ p ∧ p < s 19) ∧ (0 ≤ x ∧ x ≤ 9)) ∧ (0 ≤ n ∧ n ≤ 20) ∧ s 21 ≠ 6
    · rw [if_pos hc]
      obtain ⟨a1, a2, a3⟩ := a
      have e : ∀ j, j ≠ 21 → j ≠ 62 + s 21 → j ≠ 68 + s 21 → j ≠ 74 + s 21 → upI (upI (upI (upI s (62 + s 21) p) (68 + s 21) n) (74 + s 21) x) 21 (s 21 + 1) j = s j := fun j q1 q2 q3 q4 => by rw [upI_ne q1, upI_ne q4, upI_ne q3, upI_ne q2]
      refine gs_hi h (fun j q1 q2 => e j (by omega) (by omega) (by omega) (by omega)) (rs_iff.mpr ⟨⟨by rw [upI_at]; omega, by rw [upI_at]; omega, fun k q1 q2 => ?_⟩, rsB_same (by rw [e 19 (by omega) (by omega) (by omega) (by omega)]; omega) (fun j q => e j (by omega) (by omega) (by omega) (by omega)) b, rsC_same (by rw [e 19 (by omega) (by omega) (by omega) (by omega)]; omega) (fun j q => e j (by omega) (by omega) (by omega) (by omega)) c, by rw [e 24 (by omega) (by omega) (by omega) (by omega)]; exact d⟩) (fun q q1 q2 => by rw [e _ (by omega) (by omega) (by omega) (by omega)]; exact h.2.2.2.2.1 q q1 q2)
      rw [upI_at] at q2
      rw [e 19 (by omega) (by omega) (by omega) (by omega)]
      by_cases hk : k = s 21
      · rw [hk, upI_ne (by omega), upI_ne (by omega), upI_ne (by omega), upI_at, upI_ne (by omega), upI_ne (by omega), upI_at, upI_ne (by omega), upI_at]
        exact ⟨hc.1.1, hc.2.1, hc.1.2⟩
      · rw [e (62 + k) (by omega) (by omega) (by omega) (by omega), e (68 + k) (by omega) (by omega) (by omega) (by omega), e (74 + k) (by omega) (by omega) (by omega) (by omega)]
        exact a3 k q1 (by omega)
    · rw [if_neg hc]
      exact h
theorem gs_plan {s : Int → Int} {w n : Int} (h : gs_ok s) : gs_ok (ne_plan s w n) := by
  obtain ⟨a, b, c, d⟩ := rs_iff.mp h.2.1
  unfold ne_plan
  by_cases h1 : w = -1
  · rw [if_pos h1]
    have e : ∀ j, j ≠ 22 → upI s 22 0 j = s j := fun j q => upI_ne q
    refine gs_hi h (fun j q1 q2 => e j (by omega)) (rs_iff.mpr ⟨rsA_same (by rw [e 19 (by omega)]; omega) (fun j q => e j (by omega)) a, ⟨by rw [upI_at]; omega, by rw [upI_at]; omega, fun k q1 q2 => by rw [upI_at] at q2; omega⟩, rsC_same (by rw [e 19 (by omega)]; omega) (fun j q => e j (by omega)) c, by rw [e 24 (by omega)]; exact d⟩) (fun q q1 q2 => by rw [e _ (by omega)]; exact h.2.2.2.2.1 q q1 q2)
  · rw [if_neg h1]
    by_cases hc : an_isPlan s w n = 1 ∧ s 22 ≠ 8
    · rw [if_pos hc]
      obtain ⟨b1, b2, b3⟩ := b
      have e : ∀ j, j ≠ 22 → j ≠ 80 + s 22 → j ≠ 88 + s 22 → upI (upI (upI s (80 + s 22) w) (88 + s 22) n) 22 (s 22 + 1) j = s j := fun j q1 q2 q3 => by rw [upI_ne q1, upI_ne q3, upI_ne q2]
      refine gs_hi h (fun j q1 q2 => e j (by omega) (by omega) (by omega)) (rs_iff.mpr ⟨rsA_same (by rw [e 19 (by omega) (by omega) (by omega)]; omega) (fun j q => e j (by omega) (by omega) (by omega)) a, ⟨by rw [upI_at]; omega, by rw [upI_at]; omega, fun k q1 q2 => ?_⟩, rsC_same (by rw [e 19 (by omega) (by omega) (by omega)]; omega) (fun j q => e j (by omega) (by omega) (by omega)) c, by rw [e 24 (by omega) (by omega) (by omega)]; exact d⟩) (fun q q1 q2 => by rw [e _ (by omega) (by omega) (by omega)]; exact h.2.2.2.2.1 q q1 q2)
      rw [upI_at] at q2
      rw [e 19 (by omega) (by omega) (by omega)]
      by_cases hk : k = s 22
      · rw [hk, upI_ne (by omega), upI_ne (by omega), upI_at, upI_ne (by omega), upI_at]
        have h9 := hc.1
        unfold an_isPlan at h9
        by_cases hp : w = 0 ∨ ((1 ≤ w ∧ w ≤ 2) ∧ 0 ≤ n ∧ n < s 19) ∨ (w = 3 ∧ 0 ≤ n ∧ n / 10 < s 19)
        · omega
        · rw [if_neg hp] at h9
          omega
      · rw [e (80 + k) (by omega) (by omega) (by omega), e (88 + k) (by omega) (by omega) (by omega)]
        exact b3 k q1 (by omega)
    · rw [if_neg hc]
      exact h
theorem gs_book {s : Int → Int} {p x : Int} (h : gs_ok s) : gs_ok (ne_book s p x) := by
  obtain ⟨a, b, c, d⟩ := rs_iff.mp h.2.1
  unfold ne_book
  by_cases h1 : p = -1
  · rw [if_pos h1]
    have e : ∀ j, j ≠ 23 → upI s 23 0 j = s j := fun j q => upI_ne q
    refine gs_hi h (fun j q1 q2 => e j (by omega)) (rs_iff.mpr ⟨rsA_same (by rw [e 19 (by omega)]; omega) (fun j q => e j (by omega)) a, rsB_same (by rw [e 19 (by omega)]; omega) (fun j q => e j (by omega)) b, ⟨by rw [upI_at]; omega, by rw [upI_at]; omega, fun k q1 q2 => by rw [upI_at] at q2; omega⟩, by rw [e 24 (by omega)]; exact d⟩) (fun q q1 q2 => by rw [e _ (by omega)]; exact h.2.2.2.2.1 q q1 q2)
  · rw [if_neg h1]
    by_cases hc : ((0 ≤ p ∧ p < s 19) ∧ (0 ≤ x ∧ x ≤ 9)) ∧ s 23 ≠ 8
    · rw [if_pos hc]
      obtain ⟨c1, c2, c3⟩ := c
      have e : ∀ j, j ≠ 23 → j ≠ 96 + s 23 → j ≠ 104 + s 23 → upI (upI (upI s (96 + s 23) p) (104 + s 23) x) 23 (s 23 + 1) j = s j := fun j q1 q2 q3 => by rw [upI_ne q1, upI_ne q3, upI_ne q2]
      refine gs_hi h (fun j q1 q2 => e j (by omega) (by omega) (by omega)) (rs_iff.mpr ⟨rsA_same (by rw [e 19 (by omega) (by omega) (by omega)]; omega) (fun j q => e j (by omega) (by omega) (by omega)) a, rsB_same (by rw [e 19 (by omega) (by omega) (by omega)]; omega) (fun j q => e j (by omega) (by omega) (by omega)) b, ⟨by rw [upI_at]; omega, by rw [upI_at]; omega, fun k q1 q2 => ?_⟩, by rw [e 24 (by omega) (by omega) (by omega)]; exact d⟩) (fun q q1 q2 => by rw [e _ (by omega) (by omega) (by omega)]; exact h.2.2.2.2.1 q q1 q2)
      rw [upI_at] at q2
      rw [e 19 (by omega) (by omega) (by omega)]
      by_cases hk : k = s 23
      · rw [hk, upI_ne (by omega), upI_ne (by omega), upI_at, upI_ne (by omega), upI_at]
        exact hc.1
      · rw [e (96 + k) (by omega) (by omega) (by omega), e (104 + k) (by omega) (by omega) (by omega)]
        exact c3 k q1 (by omega)
    · rw [if_neg hc]
      exact h
/-! the house that is read -/
theorem gs_pT {s : Int → Int} (h : gs_ok s) : pT (md_tape s) (s 24) := md_T_pT (md_tape_T (s := s) (f := s) (ac := 0) (rs_iff.mp h.2.1).2.2.2 h.2.2.2.2.1 (fun _ _ _ => rfl))
theorem gs_px {s : Int → Int} {w p rc : Int} {l : List Int} (h : gs_ok s) (hz : (w, p, l, rc) = px_house s) : (0 ≤ p ∧ p ≤ s 24) ∧ (l.length : Int) ≤ p ∧ (0 ≤ rc ∧ rc ≤ 99) ∧ (w = 0 → lvJ l ∧ lvD l = 0 ∧ lvW l ≤ 10) := house_q (gs_pT h) (rs_iff.mp h.2.1).2.2.2.1 hz
theorem rd_at {s : Int → Int} {w p rc : Int} {l : List Int} (hz : (w, p, l, rc) = px_house s) : ne_read s = px_row (upI (upI s 24 0) (212 + s 20) rc) (s 20) l := by
  unfold ne_read
  rw [← hz]
theorem rd_out {s : Int → Int} {rc : Int} {l : List Int} {j : Int} (h1 : j ≠ 24) (h2 : j ≠ 212 + s 20) (h3 : j ≠ 217 + s 20) (h4 : ¬ (222 + 140 * s 20 ≤ j ∧ j < 222 + 140 * s 20 + (l.length : Int))) : px_row (upI (upI s 24 0) (212 + s 20) rc) (s 20) l j = s j := by
  unfold px_row
  rw [if_neg h4, if_neg h3, upI_ne h2, upI_ne h1]
theorem gs_read {s : Int → Int} (h : gs_ok s) (h5 : ¬ s 20 = 5) : gs_ok (ne_read s) ∧ (∀ j, j ≠ 24 → j < 212 → ne_read s j = s j) ∧ (∀ k, 0 ≤ k → k < s 20 → ne_read s (212 + k) = s (212 + k) ∧ ne_read s (217 + k) = s (217 + k) ∧ ∀ j, 0 ≤ j → j < 100 → ne_read s (222 + 140 * k + j) = s (222 + 140 * k + j)) ∧ (WSS (ne_read s) = WSS s ∧ rcS (ne_read s) = rcS s) := by
  obtain ⟨w, p, l, rc, hz⟩ : ∃ (w p : Int) (l : List Int) (rc : Int), (w, p, l, rc) = px_house s := ⟨_, _, _, _, rfl⟩
  have hx := gs_px h hz
  have h0 := h
  obtain ⟨h1, h2, h3, h4, h5', h6, h7, h8⟩ := h
  obtain ⟨a, b, c, d⟩ := rs_iff.mp h2
  rw [rd_at hz]
  have e1 : ∀ j, j ≠ 24 → j < 212 → px_row (upI (upI s 24 0) (212 + s 20) rc) (s 20) l j = s j := fun j q1 q2 => rd_out q1 (by omega) (by omega) (by omega)
  have e24 : px_row (upI (upI s 24 0) (212 + s 20) rc) (s 20) l 24 = 0 := by
    rw [px_row_lo h6.1 (by omega), upI_ne (by omega), upI_at]
  have e2 : ∀ k, 0 ≤ k → k < s 20 → px_row (upI (upI s 24 0) (212 + s 20) rc) (s 20) l (212 + k) = s (212 + k) ∧ px_row (upI (upI s 24 0) (212 + s 20) rc) (s 20) l (217 + k) = s (217 + k) ∧ ∀ j, 0 ≤ j → j < 100 → px_row (upI (upI s 24 0) (212 + s 20) rc) (s 20) l (222 + 140 * k + j) = s (222 + 140 * k + j) := fun k q1 q2 => ⟨rd_out (by omega) (by omega) (by omega) (by omega), rd_out (by omega) (by omega) (by omega) (by omega), fun j q3 q4 => rd_out (by omega) (by omega) (by omega) (by omega)⟩
  refine ⟨⟨rg_same (fun j q => e1 j (by omega) (by omega)) h1, rs_iff.mpr ⟨rsA_same (by rw [e1 19 (by omega) (by omega)]; omega) (fun j q => e1 j (by omega) (by omega)) a, rsB_same (by rw [e1 19 (by omega) (by omega)]; omega) (fun j q => e1 j (by omega) (by omega)) b, rsC_same (by rw [e1 19 (by omega) (by omega)]; omega) (fun j q => e1 j (by omega) (by omega)) c, by rw [e24]; omega⟩, fun j q => ?_, by rw [e1 0 (by omega) (by omega)]; exact h4, fun q q1 q2 => by rw [e1 _ (by omega) (by omega)]; exact h5' q q1 q2, by rw [e1 20 (by omega) (by omega)]; exact h6, by rw [e1 25 (by omega) (by omega), e1 20 (by omega) (by omega)]; exact h7, fun k q1 q2 => ?_⟩, e1, e2, ?_⟩
  · rw [rd_out (by omega) (by omega) (by omega) (by omega)]
    exact h3 j q
  · rw [e1 20 (by omega) (by omega)] at q2
    obtain ⟨⟨lt, hl⟩, hr⟩ := h8 k q1 q2
    obtain ⟨f1, f2, f3⟩ := e2 k q1 q2
    exact ⟨⟨lt, HL_same hl f2 f3⟩, by rw [f1]; exact hr⟩
  · by_cases hm : s 25 = -1
    · have e25 : px_row (upI (upI s 24 0) (212 + s 20) rc) (s 20) l 25 = -1 := by rw [e1 25 (by omega) (by omega)]; exact hm
      rw [WSS_0 e25, WSS_0 hm, rcS_0 e25, rcS_0 hm]
      exact ⟨rfl, rfl⟩
    · obtain ⟨⟨lt, hl⟩, hr⟩ := h8 (s 25) (by omega) (by omega)
      obtain ⟨f1, f2, f3⟩ := e2 (s 25) (by omega) (by omega)
      exact WSS_same (Or.inr ⟨by omega, by have := hl.2.2.2.1; have := hl.2.2.1; omega⟩) (e1 25 (by omega) (by omega)) (fun _ => ⟨f1, f2, f3⟩)
theorem house_no {s : Int → Int} (h5 : ¬ s 20 = 5) (hok : ¬ ((px_house s).1 = 0 ∧ (px_house s).2.1 = s 24)) : ne_house s = ne_read s := by
  unfold ne_house
  rw [if_neg h5, if_neg hok]
theorem house_f {s : Int → Int} (h5 : s 20 = 5) : ne_house s = s := by
  unfold ne_house
  rw [if_pos h5]
theorem house_ok {s : Int → Int} (h5 : ¬ s 20 = 5) (hok : (px_house s).1 = 0 ∧ (px_house s).2.1 = s 24) : ne_house s = upI (upI (ne_read s) 20 (s 20 + 1)) 25 (s 20) := by
  unfold ne_house
  rw [if_neg h5, if_pos hok]
theorem gs_hok {s : Int → Int} {w p rc : Int} {l : List Int} (h : gs_ok s) (h5 : ¬ s 20 = 5) (hok : (px_house s).1 = 0 ∧ (px_house s).2.1 = s 24) (hz : (w, p, l, rc) = px_house s) : gs_ok (ne_house s) ∧ md_HL (ne_house s) (s 20) l ∧ ne_house s (212 + s 20) = rc ∧ (∀ j, j ≠ 24 → j ≠ 20 → j ≠ 25 → j < 212 → ne_house s j = s j) ∧ ne_house s 24 = 0 ∧ ne_house s 20 = s 20 + 1 ∧ (∀ k, 0 ≤ k → k < s 20 → ne_house s (212 + k) = s (212 + k) ∧ ne_house s (217 + k) = s (217 + k) ∧ ∀ j, 0 ≤ j → j < 100 → ne_house s (222 + 140 * k + j) = s (222 + 140 * k + j)) := by
  have hx := gs_px h hz
  obtain ⟨hr, r1, r2, -⟩ := gs_read h h5
  have hT := (rs_iff.mp h.2.1).2.2.2
  obtain ⟨hx1, hx2, hx3, hx4⟩ := hx
  have hw : w = 0 := by have := hok.1; rw [← hz] at this; exact this
  obtain ⟨k1, k2, k3⟩ := hx4 hw
  have h6 := h.2.2.2.2.2.1
  have e : ∀ j, j ≠ 20 → j ≠ 25 → ne_house s j = ne_read s j := fun j q1 q2 => by rw [house_ok h5 hok, upI_ne q2, upI_ne q1]
  have e20 : ne_house s 20 = s 20 + 1 := by rw [house_ok h5 hok, upI_ne (by omega), upI_at]
  have e25 : ne_house s 25 = s 20 := by rw [house_ok h5 hok, upI_at]
  have hHL : md_HL (ne_house s) (s 20) l := by
    have g := HL_row (s0 := upI (upI s 24 0) (212 + s 20) rc) (k := s 20) k1 k3 (by omega) (by omega)
    rw [← rd_at hz] at g
    exact HL_same g (e _ (by omega) (by omega)) (fun j q1 q2 => e _ (by omega) (by omega))
  have hrc : ne_house s (212 + s 20) = rc := by rw [e _ (by omega) (by omega), rd_at hz, px_row_lo h6.1 (by omega), upI_at]
  have e2 : ∀ k, 0 ≤ k → k < s 20 → ne_house s (212 + k) = s (212 + k) ∧ ne_house s (217 + k) = s (217 + k) ∧ ∀ j, 0 ≤ j → j < 100 → ne_house s (222 + 140 * k + j) = s (222 + 140 * k + j) := fun k q1 q2 => by
    obtain ⟨f1, f2, f3⟩ := r2 k q1 q2
    exact ⟨by rw [e _ (by omega) (by omega)]; exact f1, by rw [e _ (by omega) (by omega)]; exact f2, fun j q3 q4 => by rw [e _ (by omega) (by omega)]; exact f3 j q3 q4⟩
  obtain ⟨g1, g2, g3, g4, g5, g6, g7, g8⟩ := hr
  obtain ⟨a, b, c, d⟩ := rs_iff.mp g2
  have e24 : ne_house s 24 = 0 := by rw [e _ (by omega) (by omega), rd_at hz, px_row_lo h6.1 (by omega), upI_ne (by omega), upI_at]
  refine ⟨⟨rg_same (fun j q => e j (by omega) (by omega)) g1, rs_iff.mpr ⟨rsA_same (by rw [e 19 (by omega) (by omega)]; omega) (fun j q => e j (by omega) (by omega)) a, rsB_same (by rw [e 19 (by omega) (by omega)]; omega) (fun j q => e j (by omega) (by omega)) b, rsC_same (by rw [e 19 (by omega) (by omega)]; omega) (fun j q => e j (by omega) (by omega)) c, by rw [e24]; omega⟩, fun j q => by rw [e j (by omega) (by omega)]; exact g3 j q, by rw [e 0 (by omega) (by omega)]; exact g4, fun q q1 q2 => by rw [e _ (by omega) (by omega)]; exact g5 q q1 q2, by rw [e20]; omega, by rw [e25, e20]; omega, fun k q1 q2 => ?_⟩, hHL, hrc, fun j q1 q2 q3 q4 => by rw [e j q2 q3]; exact r1 j q1 q4, e24, e20, e2⟩
  rw [e20] at q2
  by_cases hk : k = s 20
  · rw [hk]
    exact ⟨⟨l, hHL⟩, by rw [hrc]; exact hx3⟩
  · obtain ⟨⟨lt, hl⟩, hrr⟩ := h.2.2.2.2.2.2.2 k q1 (by omega)
    obtain ⟨f1, f2, f3⟩ := e2 k q1 (by omega)
    exact ⟨⟨lt, HL_same hl f2 f3⟩, by rw [f1]; exact hrr⟩
theorem gs_house {s : Int → Int} (h : gs_ok s) : gs_ok (ne_house s) := by
  by_cases h5 : s 20 = 5
  · rw [house_f h5]; exact h
  · by_cases hok : (px_house s).1 = 0 ∧ (px_house s).2.1 = s 24
    · obtain ⟨w, p, l, rc, hz⟩ : ∃ (w p : Int) (l : List Int) (rc : Int), (w, p, l, rc) = px_house s := ⟨_, _, _, _, rfl⟩
      exact (gs_hok h h5 hok hz).1
    · rw [house_no h5 hok]
      exact (gs_read h h5).1
/-! ROOMED speaks of footmen, kinds and step alone -/
def sim (s t : Int → Int) : Prop := ∀ j, (0 ≤ j ∧ j ≤ 19) ∨ (26 ≤ j ∧ j < 62) → s j = t j
theorem sim_pl {W : (Int → Int) → Int} {rch : Int} {s t : Int → Int} (h : sim s t) {p q : Int} (hp : 0 ≤ p ∧ p < 6) (hq : 0 ≤ q ∧ q < 6) : md_pl W rch s p q = md_pl W rch t p q := by
  unfold md_pl md_pull md_apart
  rw [h (7 + q) (by omega), h (13 + p) (by omega), h (13 + q) (by omega), h (26 + p) (by omega), h (1 + q) (by omega), h 0 (by omega)]
theorem sim_ld {W : (Int → Int) → Int} {rch : Int} {s t : Int → Int} (h : sim s t) {p : Int} (hp : 0 ≤ p ∧ p < 6) : ∀ n : Nat, n ≤ 6 → md_ld W rch s p n = md_ld W rch t p n
  | 0, _ => rfl
  | n + 1, hn => by
    have ih := sim_ld (W := W) (rch := rch) h hp n (by omega)
    unfold md_ld
    rw [ih, sim_pl h hp (by omega)]
theorem sim_next {W : (Int → Int) → Int} {rch : Int} {s t : Int → Int} (h : sim s t) (h19 : 0 ≤ s 19 ∧ s 19 ≤ 6) {p : Int} (hp : 0 ≤ p ∧ p < 6) : md_next W rch s p = md_next W rch t p := by
  have el : md_lead W rch s p = md_lead W rch t p := by
    unfold md_lead
    rw [h (7 + p) (by omega), h 19 (by omega), sim_ld h hp _ (by have := h 19 (by omega); omega)]
  have hr := md_lead_rng (W := W) (rch := rch) (s := s) (p := p) h19.1
  unfold md_next
  rw [← el]
  by_cases hl : md_lead W rch s p = -5
  · rw [if_pos hl, if_pos hl]
    exact h _ (by omega)
  · rw [if_neg hl, if_neg hl]
    unfold md_apart
    rw [h (26 + p) (by omega), h (1 + md_lead W rch s p) (by omega), h (1 + p) (by omega), h 0 (by omega), h (13 + p) (by omega), h (13 + md_lead W rch s p) (by omega), h (32 + p) (by omega), h (38 + 4 * p + t 0 % 4) (by omega)]
theorem sim_go {W : (Int → Int) → Int} {rch : Int} {s t : Int → Int} (h : sim s t) (h19 : 0 ≤ s 19 ∧ s 19 ≤ 6) : sim (md_go W rch s) (md_go W rch t) := by
  intro j hj
  have e19 := h 19 (by omega)
  unfold md_go
  rw [← e19, ← h 0 (by omega)]
  by_cases h1 : 1 ≤ j ∧ j < 1 + s 19
  · rw [if_pos h1, if_pos h1]
    exact sim_next h h19 (by omega)
  · rw [if_neg h1, if_neg h1, h j hj]
theorem sim_goN {W : (Int → Int) → Int} {rch : Int} {s t : Int → Int} (h : sim s t) (h19 : 0 ≤ s 19 ∧ s 19 ≤ 6) : ∀ n : Nat, sim (md_goN W rch s n) (md_goN W rch t n)
  | 0 => h
  | n + 1 => by
    have ih := sim_goN (W := W) (rch := rch) h h19 n
    exact sim_go ih (by rw [md_goN_hi h19.2 (by omega)]; exact h19)
theorem sim_set {s t : Int → Int} (h : sim s t) : ∀ n : Nat, n ≤ 6 → md_set s n = md_set t n
  | 0, _ => rfl
  | n + 1, hn => by
    have ih := sim_set h n (by omega)
    unfold md_set
    rw [ih, h (7 + (n : Int)) (by omega), h (1 + (n : Int)) (by omega)]
theorem sim_unl {s t : Int → Int} (h : sim s t) (h19 : 0 ≤ s 19 ∧ s 19 ≤ 6) : md_unl s = md_unl t := by
  unfold md_unl
  rw [← h 19 (by omega), sim_set h _ (by omega)]
theorem sim_rv {W : (Int → Int) → Int} {rch : Int} {s t : Int → Int} {P : List Nat} (h : sim s t) (h19 : 0 ≤ s 19 ∧ s 19 ≤ 6) (hP : ∀ q, 0 ≤ q → q < s 19 → 0 ≤ rm_at P q ∧ rm_at P q < s 19) : md_rv W rch s P = md_rv W rch t P := by
  have ho : sim (md_ord s (rm_at P)) (md_ord t (rm_at P)) := by
    intro j hj
    unfold md_ord
    rw [← h 19 (by omega)]
    by_cases h1 : 13 ≤ j ∧ j < 13 + s 19
    · have := hP (j - 13) (by omega) (by omega)
      rw [if_pos h1, if_pos h1]
      exact h _ (by omega)
    · rw [if_neg h1, if_neg h1]
      exact h j hj
  have o19 : md_ord s (rm_at P) 19 = s 19 := by unfold md_ord; rw [if_neg (by omega)]
  unfold md_rv
  exact sim_unl (sim_goN ho (by rw [o19]; exact h19) 3) (by rw [md_goN_hi (by rw [o19]; exact h19.2) (by omega), o19]; exact h19)
theorem fold_same {f g : Int × List Nat → List Nat → Int × List Nat} : ∀ (L : List (List Nat)) (z : Int × List Nat), (∀ z P, P ∈ L → f z P = g z P) → List.foldl f z L = List.foldl g z L
  | [], _, _ => rfl
  | P :: L, z, h => by
    rw [List.foldl_cons, List.foldl_cons, h z P List.mem_cons_self]
    exact fold_same L _ (fun z Q hQ => h z Q (List.mem_cons_of_mem _ hQ))
theorem sim_rmz {W : (Int → Int) → Int} {rch : Int} {s t : Int → Int} (h : sim s t) (h19 : 0 ≤ s 19 ∧ s 19 ≤ 6) : md_rmz W rch s = md_rmz W rch t := by
  unfold md_rmz
  rw [← h 19 (by omega)]
  refine fold_same _ _ (fun z P hP => ?_)
  obtain ⟨k, hk, e⟩ := List.getElem_of_mem hP
  have hp := fr_perm (c := (s 19).toNat) (k := k) (by omega) hk
  have eP : (rm_lv (s 19).toNat (s 19).toNat []).getD k [] = P := by
    rw [List.getD_eq_getElem?_getD, List.getElem?_eq_getElem hk, e]
    rfl
  rw [eP] at hp
  unfold rm_st
  rw [sim_rv h h19 (fun q q1 q2 => by have := hp q q1 (by omega); omega)]
/-! the trace -/
def tr_R (f : Int → Int) (n : Int) (l : List Int) : Prop := (n = (l.length : Int) ∧ n ≤ 8) ∧ ∀ j : Nat, j < l.length → f (j : Int) = l.getD j 0
def an_trace (l : List Int) (i : Int) : Int := if 0 ≤ i ∧ i < (l.length : Int) then l.getD i.toNat 0 else -1
theorem tr_an {f : Int → Int} {n i : Int} {l : List Int} (h : tr_R f n l) : (if 0 ≤ i ∧ i < n ∧ i < 20 then f i else -1) = an_trace l i := by
  obtain ⟨⟨h1, h2⟩, h3⟩ := h
  unfold an_trace
  by_cases hi : 0 ≤ i ∧ i < n
  · rw [if_pos (by omega), if_pos (by omega)]
    have := h3 i.toNat (by omega)
    rw [show ((i.toNat : Nat) : Int) = i by omega] at this
    exact this
  · rw [if_neg (by omega), if_neg (by omega)]
theorem acp_at : ∀ (L : List Int) (f : Int → Int) (z : Int) (j : Nat), j < L.length → (ac_p L (f, z)).1 (z + (j : Int)) = L.getD j 0
  | [], _, _, _, h => absurd h (Nat.not_lt_zero _)
  | b :: L, f, z, 0, _ => by
    have key : ∀ (L : List Int) (f : Int → Int) (z y : Int), y < z → (ac_p L (f, z)).1 y = f y := by
      intro L
      induction L with
      | nil => intro f z y _; rfl
      | cons c L ih =>
        intro f z y hy
        show (ac_p L (upI f z c, z + 1)).1 y = f y
        rw [ih _ _ _ (by omega), upI_ne (by omega)]
    show (ac_p L (upI f z b, z + 1)).1 (z + ((0 : Nat) : Int)) = b
    rw [key _ _ _ _ (by omega), show z + ((0 : Nat) : Int) = z by omega, upI_at]
  | b :: L, f, z, j + 1, h => by
    have ih := acp_at L (upI f z b) (z + 1) j (by simpa using h)
    show (ac_p L (upI f z b, z + 1)).1 (z + ((j + 1 : Nat) : Int)) = L.getD j 0
    rw [show z + ((j + 1 : Nat) : Int) = z + 1 + (j : Int) by omega]
    exact ih
theorem acp_rng : ∀ (L : List Int) (f : Int → Int) (z : Int), (∀ j, rI (f j)) → (∀ x ∈ L, rI x) → ∀ j, rI ((ac_p L (f, z)).1 j)
  | [], _, _, h, _, j => h j
  | b :: L, f, z, h, hL, j => acp_rng L (upI f z b) (z + 1) (fun i => by
      unfold upI
      split
      · exact hL b List.mem_cons_self
      · exact h i) (fun x hx => hL x (List.mem_cons_of_mem _ hx)) j
theorem ar_all {s : Int → Int} {p w : Int} : (ar_act s p w).length ≤ 8 ∧ ∀ x ∈ ar_act s p w, rI x := by
  have hb : ∀ kd : Int, ∀ x ∈ ar_b kd, 0 ≤ x ∧ x ≤ 61 := by
    intro kd x hx
    unfold ar_b at hx
    (repeat' split at hx) <;> simp at hx <;> omega
  have hs : ∀ kd : Int, ∀ x ∈ ar_s kd, 0 ≤ x ∧ x ≤ 61 := by
    intro kd x hx
    unfold ar_s at hx
    rcases List.mem_append.mp hx with h | h
    · (repeat' split at h) <;> simp at h <;> omega
    · exact hb kd x h
  have hw : ∀ kd : Int, ∀ x ∈ ar_w kd, 0 ≤ x ∧ x ≤ 61 := by
    intro kd x hx
    unfold ar_w at hx
    split at hx
    · rcases List.mem_append.mp hx with h | h
      · simp at h; omega
      · exact hs kd x h
    · split at hx
      · rcases List.mem_append.mp hx with h | h
        · rcases List.mem_append.mp h with h | h
          · simp at h; omega
          · exact hs kd x h
        · exact hb kd x h
      · rcases List.mem_append.mp hx with h | h
        · simp at h; omega
        · exact hs kd x h
  have n1 := ar_b_n (s (26 + p))
  have n2 := ar_s_n (s (26 + p))
  have n3 := ar_w_n (s (26 + p))
  unfold ar_act
  split
  · split
    · exact ⟨by omega, fun x hx => by have := hb _ x hx; omega⟩
    · split
      · exact ⟨by omega, fun x hx => by have := hs _ x hx; omega⟩
      · exact ⟨by omega, fun x hx => by have := hw _ x hx; omega⟩
  · exact ⟨by simp, fun x hx => absurd hx List.not_mem_nil⟩
theorem tr_act {s f g : Int → Int} {p w n : Int} (h : (g, n) = ac_p (ar_act s p w) (f, 0)) : tr_R g n (ar_act s p w) := by
  have hn := ac_p_n (ar_act s p w) (f, 0)
  have hl := (ar_all (s := s) (p := p) (w := w)).1
  rw [← h] at hn
  have hn : n = 0 + ((ar_act s p w).length : Int) := hn
  refine ⟨⟨by omega, by omega⟩, fun j hj => ?_⟩
  have h2 := acp_at (ar_act s p w) f 0 j hj
  rw [← h, Int.zero_add] at h2
  exact h2
theorem tr_act_r {s f g : Int → Int} {p w n : Int} (h : (g, n) = ac_p (ar_act s p w) (f, 0)) (hf : ∀ j, rI (f j)) : (∀ j, rI (g j)) ∧ rI n := by
  have h1 := acp_rng (ar_act s p w) f 0 hf ar_all.2
  rw [← h] at h1
  have h2 := tr_act h
  exact ⟨h1, by have := h2.1; omega⟩
theorem gs_0 : gs_ok (upI (fun _ => 0) 25 (-1)) := by
  have e : ∀ j, j ≠ 25 → upI (fun _ => (0 : Int)) 25 (-1) j = 0 := fun j q => upI_ne (f := fun _ => 0) q
  refine ⟨⟨fun p q1 q2 => ?_, fun j q1 q2 => ?_, ?_, ?_⟩, ⟨⟨?_, ?_, fun k q1 q2 => ?_⟩, ⟨?_, ?_, fun k q1 q2 => ?_⟩, ⟨?_, ?_, fun k q1 q2 => ?_⟩, ?_⟩, fun j q => e j (by omega), ?_, fun q q1 q2 => ?_, ?_, ?_, fun k q1 q2 => ?_⟩
  · rw [e _ (by omega), e _ (by omega), e _ (by omega), e _ (by omega), e _ (by omega)]; omega
  · rw [e _ (by omega)]; omega
  · rw [e _ (by omega)]; omega
  · rw [e _ (by omega)]; omega
  · rw [e _ (by omega)]; omega
  · rw [e _ (by omega)]; omega
  · rw [e 21 (by omega)] at q2; omega
  · rw [e _ (by omega)]; omega
  · rw [e _ (by omega)]; omega
  · rw [e 22 (by omega)] at q2; omega
  · rw [e _ (by omega)]; omega
  · rw [e _ (by omega)]; omega
  · rw [e 23 (by omega)] at q2; omega
  · rw [e _ (by omega)]; omega
  · rw [e _ (by omega)]; omega
  · rw [e _ (by omega)]; omega
  · rw [e _ (by omega)]; omega
  · rw [upI_at, e _ (by omega)]; omega
  · rw [e 20 (by omega)] at q2; omega
