def ld_of (x : Int) : Int := if x = -5 then -1 else x
theorem ld_up {W : (Int → Int) → Int} {rch : Int} {s : Int → Int} {p i pl gr ld : Int} {j : Nat} (hi : i = (j : Int)) (hg : gr = (md_ld W rch s p j).2) (hpl : pl = md_pl W rch s p i) (hlt : gr < pl) : i = ld_of (md_ld W rch s p (j + 1)).1 ∧ pl = (md_ld W rch s p (j + 1)).2 := by
  unfold md_ld
  rw [if_pos (by rw [← hg, ← hi, ← hpl]; exact hlt)]
  unfold ld_of
  refine ⟨?_, by rw [hpl, hi]⟩
  show i = if (j : Int) = -5 then -1 else (j : Int)
  rw [if_neg (by omega), hi]
theorem ld_no {W : (Int → Int) → Int} {rch : Int} {s : Int → Int} {p i gr ld : Int} {j : Nat} (hi : i = (j : Int)) (hg : gr = (md_ld W rch s p j).2) (hl : ld = ld_of (md_ld W rch s p j).1) (hlt : ¬ gr < md_pl W rch s p i) : ld = ld_of (md_ld W rch s p (j + 1)).1 ∧ gr = (md_ld W rch s p (j + 1)).2 := by
  unfold md_ld
  rw [if_neg (by rw [← hg, ← hi]; exact hlt)]
  exact ⟨hl, hg⟩
theorem ld_0 {W : (Int → Int) → Int} {rch : Int} {s : Int → Int} {p : Int} (h : ¬ s (7 + p) = 0) : -1 = ld_of (md_lead W rch s p) := by
  unfold md_lead
  rw [if_neg h]
  rfl
theorem ld_e {W : (Int → Int) → Int} {rch : Int} {s : Int → Int} {p ld : Int} {j : Nat} (h : s (7 + p) = 0) (hj : (s 19).toNat = j) (hl : ld = ld_of (md_ld W rch s p j).1) : ld = ld_of (md_lead W rch s p) := by
  unfold md_lead
  rw [if_pos h, hj]
  exact hl
theorem pl_0 {W : (Int → Int) → Int} {rch : Int} {s : Int → Int} {p q : Int} (h : q = p ∨ ¬ s (7 + q) = 0 ∨ rch < md_apart s p q) : md_pl W rch s p q = 0 := by
  unfold md_pl
  by_cases h1 : q = p
  · rw [if_pos h1]
  · rw [if_neg h1]
    by_cases h2 : s (7 + q) = 0
    · rw [if_pos h2, if_neg (by omega)]
    · rw [if_neg h2]
theorem pl_1 {W : (Int → Int) → Int} {rch : Int} {s : Int → Int} {p q : Int} (h1 : ¬ q = p) (h2 : s (7 + q) = 0) (h3 : md_apart s p q ≤ rch) : md_pl W rch s p q = md_pull W s p q := by
  unfold md_pl
  rw [if_neg h1, if_pos h2, if_pos h3]
theorem cs_pull_rng {W : (Int → Int) → Int} {s : Int → Int} {p q : Int} (hg : md_rg s) (hW : ∀ b, -990 ≤ W b ∧ W b ≤ 990) (hp : 0 ≤ p ∧ p < 6) (hq : 0 ≤ q ∧ q < 6) : -1000 ≤ md_pull W s p q ∧ md_pull W s p q ≤ 1000 := by
  have h1 := md_apart_rng hg hp hq
  have h2 := hW (tk_b p q (s (26 + p)) (s (1 + q)) (md_apart s p q) (s 0 % 10))
  unfold md_pull
  omega
theorem ld_of_rng {W : (Int → Int) → Int} {rch : Int} {s : Int → Int} {p : Int} (h : 0 ≤ s 19) : ld_of (md_lead W rch s p) = -1 ∨ (0 ≤ ld_of (md_lead W rch s p) ∧ ld_of (md_lead W rch s p) < s 19) := by
  have h1 := md_lead_rng (W := W) (rch := rch) (s := s) (p := p) h
  unfold ld_of
  split <;> omega
/-- rows that are the same on 0 .. n-1 -/
theorem cs_copy {s kd nb rm st rw nx kd2 nb2 rm2 st2 rw2 nx2 : Int → Int} {aw cn sp : Int} (h : cs_R s kd nb rm st rw nx aw cn sp) (e1 : ∀ p, 0 ≤ p → p < 6 → kd2 p = kd p) (e2 : ∀ p, 0 ≤ p → p < 6 → nb2 p = nb p) (e3 : ∀ p, 0 ≤ p → p < 6 → rm2 p = rm p) (e4 : ∀ p, 0 ≤ p → p < 6 → st2 p = st p) (e5 : ∀ p, 0 ≤ p → p < 24 → rw2 p = rw p) (hn : ∀ p, 0 ≤ p → p < 6 → 0 ≤ nx2 p ∧ nx2 p ≤ 9) (h19 : s 19 ≤ 6) : cs_R s kd2 nb2 rm2 st2 rw2 nx2 aw cn sp := by
  obtain ⟨a1, a2, a3, a4, a5⟩ := h
  refine ⟨a1, fun p h1 h2 => ?_, a3, fun p h1 h2 => ?_, fun j h1 h2 => ?_⟩
  · rw [e1 p h1 (by omega), e2 p h1 (by omega), e3 p h1 (by omega), e4 p h1 (by omega)]
    exact a2 p h1 h2
  · rw [e3 p h1 h2, e4 p h1 h2]
    exact ⟨(a4 p h1 h2).1, (a4 p h1 h2).2.1, hn p h1 h2⟩
  · rw [e5 j h1 h2]
    exact a5 j h1 h2
theorem cp_at {f g f2 : Int → Int} {k : Int} (e : f2 = fun j => if 0 ≤ j ∧ j < 0 + k then f (0 + (j - 0)) else g j) : ∀ p, 0 ≤ p → p < k → f2 p = f p := by
  intro p h1 h2
  rw [e]
  show (if _ then _ else _) = _
  rw [if_pos (by omega), show 0 + (p - 0) = p by omega]
theorem cs_add {s kd nb rm st rw nx kd2 nb2 rm2 st2 : Int → Int} {aw cn sp kind v room x : Int} (hg : md_rg s) (h : cs_R s kd nb rm st rw nx aw cn sp) (hr : (0 ≤ room ∧ room ≤ 9) ∧ (0 ≤ x ∧ x ≤ 9)) (h6 : s 19 < 6) (e1 : kd2 = upI kd cn kind) (e2 : nb2 = upI nb cn v) (e3 : rm2 = upI rm cn room) (e4 : st2 = upI st cn x) : cs_R (ne_manS s kind v room x) kd2 nb2 rm2 st2 rw nx aw (cn + 1) sp := by
  have h19 := hg.2.2.1
  obtain ⟨⟨a0, a1, a6⟩, a2, a3, a4, a5⟩ := h
  have m19 : ne_manS s kind v room x 19 = s 19 + 1 := by unfold ne_manS; rw [if_pos rfl]
  have m0 : ne_manS s kind v room x 0 = s 0 := by unfold ne_manS; rw [if_neg (by decide), if_neg (by omega), if_neg (by omega), if_neg (by omega), if_neg (by omega), if_neg (by omega), if_neg (by omega)]
  refine ⟨⟨by rw [m19, a0], by rw [m0, a1], a6⟩, fun p h1 h2 => ?_, fun p h1 h2 => a3 p (by omega) h2, fun p h1 h2 => ?_, fun j h1 h2 => ?_⟩
  · rw [m19] at h2
    rw [e1, e2, e3, e4]
    by_cases hp : p = cn
    · have hp9 : p = s 19 := by omega
      rw [hp, upI_at, upI_at, upI_at, upI_at, a0, a3 (s 19) (Int.le_refl _) h6]
      unfold ne_manS
      refine ⟨?_, ?_, ?_, ?_, ?_⟩
      · rw [if_neg (by omega), if_neg (by omega), if_neg (by omega), if_neg (by omega), if_neg (by omega), if_neg (by omega), if_pos rfl]
      · rw [if_neg (by omega), if_neg (by omega), if_neg (by omega), if_neg (by omega), if_neg (by omega), if_pos rfl]
      · rw [if_neg (by omega), if_neg (by omega), if_neg (by omega), if_neg (by omega), if_pos rfl]
      · rw [if_neg (by omega), if_neg (by omega), if_neg (by omega), if_pos rfl]
      · rw [if_neg (by omega), if_neg (by omega), if_pos rfl]
    · rw [upI_ne hp, upI_ne hp, upI_ne hp, upI_ne hp]
      obtain ⟨b1, b2, b3, b4, b5⟩ := a2 p h1 (by omega)
      have ne : ∀ j, j = 26 + p ∨ j = 32 + p ∨ j = 13 + p ∨ j = 1 + p ∨ j = 7 + p → ne_manS s kind v room x j = s j := by
        intro j hj
        unfold ne_manS
        rw [if_neg (by omega), if_neg (by omega), if_neg (by omega), if_neg (by omega), if_neg (by omega), if_neg (by omega), if_neg (by omega)]
      rw [ne _ (by omega), ne _ (by omega), ne _ (by omega), ne _ (by omega), ne _ (by omega)]
      exact ⟨b1, b2, b3, b4, b5⟩
  · rw [e3, e4]
    have b := a4 p h1 h2
    by_cases hp : p = cn
    · rw [hp, upI_at, upI_at]; rw [hp] at b; exact ⟨hr.1, hr.2, b.2.2⟩
    · rw [upI_ne hp, upI_ne hp]; exact b
  · rw [m19, a5 j h1 h2]
    by_cases hj : j < 4 * s 19
    · rw [if_pos hj, if_pos (by omega)]
      unfold ne_manS
      rw [if_neg (by omega), if_neg (by omega), if_neg (by omega), if_neg (by omega), if_neg (by omega), if_neg (by omega), if_neg (by omega)]
    · rw [if_neg hj]
      by_cases hj2 : j < 4 * (s 19 + 1)
      · rw [if_pos hj2]
        unfold ne_manS
        rw [if_neg (by omega), if_pos (by omega)]
      · rw [if_neg hj2]
def cx_w (w : Int) : Int := if w = 0 then 13 else if w = 1 then 1 else 32
theorem cs_ch {s kd nb rm st rw nx : Int → Int} {aw cn sp p x : Int} (hg : md_rg s) (h : cs_R s kd nb rm st rw nx aw cn sp) (hp : 0 ≤ p ∧ p < s 19) (hx : 0 ≤ x ∧ x ≤ 9) : cs_R (upI s (13 + p) x) kd nb (upI rm p x) st rw nx aw cn sp ∧ cs_R (upI s (1 + p) x) kd nb rm (upI st p x) rw nx aw cn sp ∧ cs_R (upI s (32 + p) x) kd (upI nb p x) rm st rw nx aw cn sp := by
  have h19 := hg.2.2.1
  obtain ⟨⟨a0, a1, a6⟩, a2, a3, a4, a5⟩ := h
  have k : ∀ (w j : Int), j ≠ w + p → upI s (w + p) x j = s j := fun w j hj => upI_ne hj
  refine ⟨⟨⟨by rw [k 13 19 (by omega)]; exact a0, by rw [k 13 0 (by omega)]; exact a1, a6⟩, fun q h1 h2 => ?_, fun q h1 h2 => a3 q (by rw [k 13 19 (by omega)] at h1; exact h1) h2, fun q h1 h2 => ?_, fun j h1 h2 => ?_⟩, ⟨⟨by rw [k 1 19 (by omega)]; exact a0, by rw [k 1 0 (by omega)]; exact a1, a6⟩, fun q h1 h2 => ?_, fun q h1 h2 => a3 q (by rw [k 1 19 (by omega)] at h1; exact h1) h2, fun q h1 h2 => ?_, fun j h1 h2 => ?_⟩, ⟨⟨by rw [k 32 19 (by omega)]; exact a0, by rw [k 32 0 (by omega)]; exact a1, a6⟩, fun q h1 h2 => ?_, fun q h1 h2 => a3 q (by rw [k 32 19 (by omega)] at h1; exact h1) h2, a4, fun j h1 h2 => ?_⟩⟩
  · rw [k 13 19 (by omega)] at h2
    obtain ⟨b1, b2, b3, b4, b5⟩ := a2 q h1 h2
    rw [k 13 _ (by omega), k 13 _ (by omega), k 13 (1 + q) (by omega), k 13 (7 + q) (by omega)]
    refine ⟨b1, b2, ?_, b4, b5⟩
    by_cases hq : q = p
    · rw [hq, upI_at, upI_at]
    · rw [upI_ne hq, k 13 _ (by omega)]; exact b3
  · have b := a4 q h1 h2
    by_cases hq : q = p
    · rw [hq, upI_at]; rw [hq] at b; exact ⟨hx, b.2⟩
    · rw [upI_ne hq]; exact b
  · rw [k 13 19 (by omega), k 13 (38 + j) (by omega)]; exact a5 j h1 h2
  · rw [k 1 19 (by omega)] at h2
    obtain ⟨b1, b2, b3, b4, b5⟩ := a2 q h1 h2
    rw [k 1 _ (by omega), k 1 _ (by omega), k 1 (13 + q) (by omega), k 1 (7 + q) (by omega)]
    refine ⟨b1, b2, b3, ?_, b5⟩
    by_cases hq : q = p
    · rw [hq, upI_at, upI_at]
    · rw [upI_ne hq, k 1 _ (by omega)]; exact b4
  · have b := a4 q h1 h2
    by_cases hq : q = p
    · rw [hq, upI_at]; rw [hq] at b; exact ⟨b.1, hx, b.2.2⟩
    · rw [upI_ne hq]; exact b
  · rw [k 1 19 (by omega), k 1 (38 + j) (by omega)]; exact a5 j h1 h2
  · rw [k 32 19 (by omega)] at h2
    obtain ⟨b1, b2, b3, b4, b5⟩ := a2 q h1 h2
    rw [k 32 _ (by omega), k 32 (13 + q) (by omega), k 32 (1 + q) (by omega), k 32 (7 + q) (by omega)]
    refine ⟨b1, ?_, b3, b4, b5⟩
    by_cases hq : q = p
    · rw [hq, upI_at, upI_at]
    · rw [upI_ne hq, k 32 _ (by omega)]; exact b2
  · rw [k 32 19 (by omega), k 32 (38 + j) (by omega)]; exact a5 j h1 h2
theorem bt_4 {a p : Int} (ha : 0 ≤ a ∧ a < 64) (hp : 0 ≤ p ∧ p < 6) : (0 ≤ bOr a (bShl 1 p) ∧ bOr a (bShl 1 p) < 64) ∧ ∀ q, 0 ≤ q → q < 6 → bAnd (bShr (bOr a (bShl 1 p)) q) 1 = if q = p then 1 else bAnd (bShr a q) 1 := by
  have h := bt_all (P := fun r p => (0 ≤ bOr r (bShl 1 p) ∧ bOr r (bShl 1 p) < 64) ∧ ∀ q : Fin 6, bAnd (bShr (bOr r (bShl 1 p)) (q.val : Int)) 1 = if (q.val : Int) = p then 1 else bAnd (bShr r (q.val : Int)) 1) (by decide +kernel) ha hp
  refine ⟨h.1, fun q h1 h2 => ?_⟩
  have h9 := h.2 ⟨q.toNat, by omega⟩
  have e2 : ((q.toNat : Nat) : Int) = q := by omega
  simp only [e2] at h9
  exact h9
theorem cs_aw {s kd nb rm st rw nx : Int → Int} {aw aw2 cn sp p x : Int} (hg : md_rg s) (h : cs_R s kd nb rm st rw nx aw cn sp) (hp : 0 ≤ p ∧ p < s 19) (hr : 0 ≤ aw2 ∧ aw2 < 64) (hb : ∀ q, 0 ≤ q → q < 6 → bAnd (bShr aw2 q) 1 = if q = p then x else bAnd (bShr aw q) 1) : cs_R (upI s (7 + p) x) kd nb rm st rw nx aw2 cn sp := by
  have h19 := hg.2.2.1
  obtain ⟨⟨a0, a1, a6⟩, a2, a3, a4, a5⟩ := h
  have k : ∀ j, j ≠ 7 + p → upI s (7 + p) x j = s j := fun j hj => upI_ne hj
  refine ⟨⟨by rw [k 19 (by omega)]; exact a0, by rw [k 0 (by omega)]; exact a1, hr⟩, fun q h1 h2 => ?_, fun q h1 h2 => ?_, a4, fun j h1 h2 => by rw [k 19 (by omega), k (38 + j) (by omega)]; exact a5 j h1 h2⟩
  · rw [k 19 (by omega)] at h2
    obtain ⟨b1, b2, b3, b4, b5⟩ := a2 q h1 h2
    rw [k _ (by omega), k _ (by omega), k (13 + q) (by omega), k (1 + q) (by omega), hb q h1 (by omega)]
    refine ⟨b1, b2, b3, b4, ?_⟩
    by_cases hq : q = p
    · rw [if_pos hq, hq, upI_at]
    · rw [if_neg hq, k _ (by omega)]; exact b5
  · rw [k 19 (by omega)] at h1
    rw [hb q (by omega) h2, if_neg (by omega)]
    exact a3 q h1 h2
theorem cs_go {W : (Int → Int) → Int} {rch : Int} {s kd nb rm st rw nx n2 st2 : Int → Int} {aw cn sp : Int} (hg : md_rg s) (h : cs_R s kd nb rm st rw nx aw cn sp) (hn : ∀ j, 0 ≤ j → j < s 19 → n2 j = md_next W rch s j) (hn2 : ∀ j, 0 ≤ j → j < 6 → 0 ≤ n2 j ∧ n2 j ≤ 9) (e : ∀ j, 0 ≤ j → j < 6 → st2 j = n2 j) : cs_R (md_go W rch s) kd nb rm st2 rw n2 aw cn (sp + 1) := by
  have h19 := hg.2.2.1
  obtain ⟨⟨a0, a1, a6⟩, a2, a3, a4, a5⟩ := h
  have k : ∀ j, 7 ≤ j → md_go W rch s j = s j := fun j hj => md_go_hi h19.2 hj
  refine ⟨⟨by rw [k 19 (by omega)]; exact a0, by rw [md_go_0, a1], a6⟩, fun q h1 h2 => ?_, fun q h1 h2 => a3 q (by rw [k 19 (by omega)] at h1; exact h1) h2, fun q h1 h2 => ?_, fun j h1 h2 => by rw [k 19 (by omega), k (38 + j) (by omega)]; exact a5 j h1 h2⟩
  · rw [k 19 (by omega)] at h2
    obtain ⟨b1, b2, b3, b4, b5⟩ := a2 q h1 h2
    rw [k _ (by omega), k _ (by omega), k (13 + q) (by omega), k (7 + q) (by omega)]
    refine ⟨b1, b2, b3, ?_, b5⟩
    rw [e q h1 (by omega), hn q h1 h2]
    unfold md_go
    rw [if_pos (by omega), show 1 + q - 1 = q by omega]
  · rw [e q h1 h2]
    exact ⟨(a4 q h1 h2).1, hn2 q h1 h2, hn2 q h1 h2⟩
theorem cs_set_rng {s : Int → Int} (hg : md_rg s) : ∀ j : Nat, j ≤ 6 → 0 ≤ md_set s j ∧ md_set s j < 1024
  | 0, _ => by unfold md_set; omega
  | j + 1, h => by
    have ih := cs_set_rng hg j (by omega)
    have hj := (hg.1 (j : Int) (by omega) (by omega)).1
    have h1 := bo10_at ih hj
    unfold md_set
    split
    · exact h1.1
    · rw [h1.2]; exact ih
def jb6 (o : Int) : Bool := jbc o == md_cnt o 6
theorem jb6_at {o : Int} (h : 0 ≤ o ∧ o < 64) : jbc o = md_cnt o 6 := by
  have h1 : ∀ i : Fin 64, jb6 (i.val : Int) = true := by decide +kernel
  have h2 := h1 ⟨o.toNat, by omega⟩
  have e : ((o.toNat : Nat) : Int) = o := by omega
  simp only [e] at h2
  unfold jb6 at h2
  exact beq_iff_eq.mp h2
theorem sm_cnt {s : Int → Int} {aw : Int} (hg : md_rg s) (h : ∀ p, 0 ≤ p → p < s 19 → bAnd (bShr aw p) 1 = s (7 + p)) : ∀ n : Nat, (n : Int) ≤ s 19 → (md_sm s n).2 = (n : Int) - md_cnt aw n
  | 0, _ => by unfold md_sm md_cnt; rfl
  | n + 1, hn => by
    have ih := sm_cnt hg h n (by omega)
    have h1 := h (n : Int) (by omega) (by omega)
    have h19 := hg.2.2.1
    have h2 := (hg.1 (n : Int) (by omega) (by omega)).2.1
    unfold md_sm md_cnt
    rw [h1]
    split
    · show (md_sm s n).2 + 1 = _
      omega
    · omega
theorem cnt_hi {aw : Int} {c : Int} (h : ∀ p, c ≤ p → p < 6 → bAnd (bShr aw p) 1 = 0) (h0 : 0 ≤ c) : ∀ k : Nat, (c.toNat + k ≤ 6) → md_cnt aw (c.toNat + k) = md_cnt aw c.toNat
  | 0, _ => rfl
  | k + 1, hk => by
    have ih := cnt_hi h h0 k (by omega)
    have h1 := h ((c.toNat + k : Nat) : Int) (by omega) (by omega)
    show md_cnt aw (c.toNat + k) + bAnd (bShr aw ((c.toNat + k : Nat) : Int)) 1 = _
    rw [ih, h1]
    omega
theorem cs_present {s kd nb rm st rw nx : Int → Int} {aw cn sp : Int} (hg : md_rg s) (h : cs_R s kd nb rm st rw nx aw cn sp) : cn - jbc aw = (md_sm s (s 19).toNat).2 := by
  have h19 := hg.2.2.1
  have h1 := sm_cnt hg (fun p a b => (h.2.1 p a b).2.2.2.2) (s 19).toNat (by omega)
  have h2 := cnt_hi h.2.2.1 h19.1 (6 - (s 19).toNat) (by omega)
  rw [show (s 19).toNat + (6 - (s 19).toNat) = 6 by omega] at h2
  rw [h1, jb6_at h.1.2.2, h2, h.1.1]
  omega
theorem md_sm_s0 {s : Int → Int} {j : Nat} (h : s (7 + (j : Int)) = 0) : (md_sm s (j + 1)).1 = (md_sm s j).1 + s (1 + (j : Int)) := by
  show (if s (7 + (j : Int)) = 0 then ((md_sm s j).1 + s (1 + (j : Int)), (md_sm s j).2 + 1) else md_sm s j).1 = _
  rw [if_pos h]
theorem md_sm_s1 {s : Int → Int} {j : Nat} (h : ¬ s (7 + (j : Int)) = 0) : (md_sm s (j + 1)).1 = (md_sm s j).1 := by
  show (if s (7 + (j : Int)) = 0 then ((md_sm s j).1 + s (1 + (j : Int)), (md_sm s j).2 + 1) else md_sm s j).1 = _
  rw [if_neg h]
theorem nx_up {f f2 : Int → Int} {i x : Int} (e : f2 = upI f i x) (h : ∀ j, 0 ≤ j → j < 6 → 0 ≤ f j ∧ f j ≤ 9) (hx : 0 ≤ x ∧ x ≤ 9) : ∀ j, 0 ≤ j → j < 6 → 0 ≤ f2 j ∧ f2 j ≤ 9 := by
  intro j h1 h2
  rw [e]
  by_cases hj : j = i
  · rw [hj, upI_at]; exact hx
  · rw [upI_ne hj]; exact h j h1 h2
set_option maxHeartbeats 4000000 in
set_option maxRecDepth 100000 in
theorem k_X2_leaderOf_n {K : gK} (q0 : Nat) (h0 : Nat) (k0 : Nat) (k1 : Nat) (k2 : Nat) (k3 : Nat) (k4 : Nat) (k5 : Nat) (w_facts : Value) (w_weighed : Value) (w_stamp : Value) (p : Int) (aw : Int) (cn : Int) (sp : Int) (kd : Int → Int) (nb : Int → Int) (rm : Int → Int) (st : Int → Int) (rw : Int → Int) (nx : Int → Int) (s : Int → Int) (W : (Int → Int) → Int) (rch : Int) (r_p : rI p) (r_aw : rI aw) (r_cn : rI cn) (r_sp : rI sp) (r_kd : ∀ j, rI (kd j)) (r_nb : ∀ j, rI (nb j)) (r_rm : ∀ j, rI (rm j)) (r_st : ∀ j, rI (st j)) (r_rw : ∀ j, rI (rw j)) (r_nx : ∀ j, rI (nx j)) (hg : md_rg s) (hR9 : cs_R s kd nb rm st rw nx aw cn sp) (hW0 : (∀ b, W b = 0) ∧ rch = 9) (hp : 0 ≤ p ∧ p < s 19) : gFn K yX2_leaderOf cX2_leaderOf 8 (some .int) 2 [.ref q0, .ref h0, .int (iI p)] [cO q0 2 [.null, w_facts, w_weighed, w_stamp], cO h0 5 [.ref k0, .ref k1, .ref k2, .ref k3, .ref k4, .ref k5, .int (iI aw), .int (iI cn), .int (iI sp)], cA K k0 6 kd, cA K k1 6 nb, cA K k2 6 rm, cA K k3 6 st, cA K k4 24 rw, cA K k5 6 nx] (ld_of (md_lead W rch s p)) := by
  refine g_enter (by decide +kernel) (Nat.le_of_ble_eq_true rfl) (fun G hC hR => ?_)
  refine g_lv hC [0, 1, 2] [(0, _), (1, _), (2, _)] rfl ?_
  have h19 := hg.2.2.1
  have hg0 := hg.2.2.2
  have hcs := hR9.1
  have hWr : ∀ b, -990 ≤ W b ∧ W b ≤ 990 := fun b => by rw [hW0.1 b]; omega
  refine g_iconst (pc := 0) hC dX2_leaderOf_0 ?_
  refine g_istore_n (pc := 1) hC [(3, _), (0, _), (1, _), (2, _)] dX2_leaderOf_1 rfl (by decide) rfl ?_
  refine g_aload_n (pc := 2) hC 2 dX2_leaderOf_2 rfl rfl ?_
  refine g_iload_n (pc := 3) hC 3 dX2_leaderOf_3 rfl rfl ?_
  have haw0 := (hR9.2.1 p (by omega) (by omega)).2.2.2.2
  refine g_fnV (pc := 4) (qr := 1) hC [1] (k_X5_isAway _ _ _ _ _ _ _ _ _ _ _ (by first | assumption | omega) (by first | assumption | omega)) cl_X5_isAway wm_X2_55 dX2_leaderOf_4 rfl rfl rfl rfl rfl (by decide) (by decide) ⟨by omega, by omega⟩ (Nat.le_of_ble_eq_true rfl) rfl rfl ?_
  refine g_name hC (fun x1 e_x1 => ?_)
  refine g_if_eq (pc := 7) hC 12 dX2_leaderOf_7 (by decide) (by omega) (fun c7 => ?_) (fun c7 => ?_)
  · refine g_iconst (pc := 12) hC dX2_leaderOf_12 ?_
    refine g_istore (pc := 13) hC [(4, _), (3, _), (0, _), (1, _), (2, _)] dX2_leaderOf_13 (by decide) rfl ?_
    refine g_aload_n (pc := 15) hC 2 dX2_leaderOf_15 rfl rfl ?_
    refine g_fnV (pc := 16) (qr := 0) hC [0] (k_X2_reach_n _ _ _ _ ) cl_X2_reach wm_X2_58 dX2_leaderOf_16 rfl rfl rfl rfl rfl (by decide) (by decide) ⟨by omega, by omega⟩ (Nat.le_of_ble_eq_true rfl) rfl rfl ?_
    refine g_name hC (fun x2 e_x2 => ?_)
    refine g_istore (pc := 19) hC [(5, _), (4, _), (3, _), (0, _), (1, _), (2, _)] dX2_leaderOf_19 (by decide) rfl ?_
    refine g_iconst (pc := 21) hC dX2_leaderOf_21 ?_
    refine g_istore (pc := 22) hC [(6, _), (5, _), (4, _), (3, _), (0, _), (1, _), (2, _)] dX2_leaderOf_22 (by decide) rfl ?_
    have L24 : ∀ (n3 : Nat) (i : Int) (gr : Int) (ld : Int) (j : Nat), (rI i) → (rI gr) → (rI ld) → (i = (j : Int)) → (i ≤ s 19) → (gr = (md_ld W rch s p j).2) → (ld = ld_of (md_ld W rch s p j).1) → s 19 - i < (n3 : Int) → G 0 0 24 [(0, .ref q0), (1, .ref h0), (2, .int (iI p)), (3, .int (iI ld)), (4, .int (iI gr)), (5, .int (iI x2)), (6, .int (iI i))] [] [cO q0 2 [.null, w_facts, w_weighed, w_stamp], cO h0 5 [.ref k0, .ref k1, .ref k2, .ref k3, .ref k4, .ref k5, .int (iI aw), .int (iI cn), .int (iI sp)], cA K k0 6 kd, cA K k1 6 nb, cA K k2 6 rm, cA K k3 6 st, cA K k4 24 rw, cA K k5 6 nx] := by
      intro n3
      induction n3 with
      | zero => intro i gr ld j r_i r_gr r_ld hi hj hgr hl hm24; exfalso; omega
      | succ n3 ih24 =>
        intro i gr ld j r_i r_gr r_ld hi hj hgr hl hm24
        have hgr0 := (md_ld_rng W rch s p j).1
        refine g_iload (pc := 24) hC 6 dX2_leaderOf_24 rfl ?_
        refine g_aload_n (pc := 26) hC 1 dX2_leaderOf_26 rfl rfl ?_
        refine g_get (pc := 27) hC 1 fl_X2_61 dX2_leaderOf_27 rfl rfl ?_
        refine g_icmp_ge (pc := 30) hC 90 dX2_leaderOf_30 (by decide) (by omega) (by omega) (fun c30 => ?_) (fun c30 => ?_)
        · have hj9 : (s 19).toNat = j := by omega
          refine g_iload_n (pc := 90) hC 3 dX2_leaderOf_90 rfl rfl ?_
          exact g_iret (pc := 91) hR dX2_leaderOf_91 rfl ⟨by omega, by omega⟩ (Nat.le_of_ble_eq_true rfl) ⟨ret_eq (ld_e (by omega) hj9 hl), rfl⟩
        · refine g_iload (pc := 33) hC 6 dX2_leaderOf_33 rfl ?_
          refine g_iload_n (pc := 35) hC 2 dX2_leaderOf_35 rfl rfl ?_
          refine g_icmp_eq (pc := 36) hC 84 dX2_leaderOf_36 (by decide) (by omega) (by omega) (fun c36 => ?_) (fun c36 => ?_)
          · refine g_iinc (pc := 84) hC 6 [(6, _), (0, _), (1, _), (2, _), (3, _), (4, _), (5, _)] dX2_leaderOf_84 rfl (by decide) rfl ?_
            refine g_goto (pc := 87) hC 24 dX2_leaderOf_87 (by decide) ?_
            refine g_lv hC [1, 2, 3, 4, 5, 6, 0] [(0, _), (1, _), (2, _), (3, _), (4, _), (5, _), (6, _)] rfl ?_
            exact ih24 (i + 1) gr ld (j + 1) (by first | assumption | omega) (by first | assumption | omega) (by first | assumption | omega) (by first | assumption | omega) (by first | assumption | omega) (ld_no hi hgr hl (by rw [pl_0 (Or.inl (by omega))]; omega)).2 (ld_no hi hgr hl (by rw [pl_0 (Or.inl (by omega))]; omega)).1 (by omega)
          · refine g_aload_n (pc := 39) hC 1 dX2_leaderOf_39 rfl rfl ?_
            refine g_iload (pc := 40) hC 6 dX2_leaderOf_40 rfl ?_
            refine g_fnV (pc := 42) (qr := 1) hC [1] (k_X5_isAway _ _ _ _ _ _ _ _ _ _ _ (by first | assumption | omega) (by first | assumption | omega)) cl_X5_isAway wm_X2_55 dX2_leaderOf_42 rfl rfl rfl rfl rfl (by decide) (by decide) ⟨by omega, by omega⟩ (Nat.le_of_ble_eq_true rfl) rfl rfl ?_
            refine g_name hC (fun x4 e_x4 => ?_)
            have haw1 := (hR9.2.1 i (by omega) (by omega)).2.2.2.2
            refine g_if_ne (pc := 45) hC 84 dX2_leaderOf_45 (by decide) (by omega) (fun c45 => ?_) (fun c45 => ?_)
            · refine g_iinc (pc := 84) hC 6 [(6, _), (0, _), (1, _), (2, _), (3, _), (4, _), (5, _)] dX2_leaderOf_84 rfl (by decide) rfl ?_
              refine g_goto (pc := 87) hC 24 dX2_leaderOf_87 (by decide) ?_
              refine g_lv hC [1, 2, 3, 4, 5, 6, 0] [(0, _), (1, _), (2, _), (3, _), (4, _), (5, _), (6, _)] rfl ?_
              exact ih24 (i + 1) gr ld (j + 1) (by first | assumption | omega) (by first | assumption | omega) (by first | assumption | omega) (by first | assumption | omega) (by first | assumption | omega) (ld_no hi hgr hl (by rw [pl_0 (Or.inr (Or.inl (by omega)))]; omega)).2 (ld_no hi hgr hl (by rw [pl_0 (Or.inr (Or.inl (by omega)))]; omega)).1 (by omega)
            · refine g_aload_n (pc := 48) hC 1 dX2_leaderOf_48 rfl rfl ?_
              refine g_iload_n (pc := 49) hC 2 dX2_leaderOf_49 rfl rfl ?_
              refine g_iload (pc := 50) hC 6 dX2_leaderOf_50 rfl ?_
              refine g_fnV (pc := 52) (qr := 1) hC [1, 4] (k_X5_apart _ _ _ _ _ _ _ _ _ _ _ _ _ (by first | assumption | omega) (by first | assumption | omega) (by first | assumption | omega) (by first | assumption | omega) (by first | assumption | omega) (fun j h1 h2 => (hR9.2.2.2.1 j h1 h2).1)) cl_X5_apart wm_X2_38 dX2_leaderOf_52 rfl rfl rfl rfl rfl (by decide) (by decide) ⟨by omega, by omega⟩ (Nat.le_of_ble_eq_true rfl) rfl rfl ?_
              refine g_name hC (fun x52 e_x52 => ?_)
              have hap := cs_ap hR9 (show 0 ≤ p ∧ p < s 19 by omega) (show 0 ≤ i ∧ i < s 19 by omega)
              rw [hap] at e_x52
              have har := md_apart_rng hg (show 0 ≤ p ∧ p < 6 by omega) (show 0 ≤ i ∧ i < 6 by omega)
              refine g_iload (pc := 55) hC 5 dX2_leaderOf_55 rfl ?_
              refine g_icmp_gt (pc := 57) hC 84 dX2_leaderOf_57 (by decide) (by omega) (by omega) (fun c57 => ?_) (fun c57 => ?_)
              · refine g_iinc (pc := 84) hC 6 [(6, _), (0, _), (1, _), (2, _), (3, _), (4, _), (5, _)] dX2_leaderOf_84 rfl (by decide) rfl ?_
                refine g_goto (pc := 87) hC 24 dX2_leaderOf_87 (by decide) ?_
                refine g_lv hC [1, 2, 3, 4, 5, 6, 0] [(0, _), (1, _), (2, _), (3, _), (4, _), (5, _), (6, _)] rfl ?_
                exact ih24 (i + 1) gr ld (j + 1) (by first | assumption | omega) (by first | assumption | omega) (by first | assumption | omega) (by first | assumption | omega) (by first | assumption | omega) (ld_no hi hgr hl (by rw [pl_0 (Or.inr (Or.inr (by omega)))]; omega)).2 (ld_no hi hgr hl (by rw [pl_0 (Or.inr (Or.inr (by omega)))]; omega)).1 (by omega)
              · have hpl9 := pl_1 (W := W) (rch := rch) (show ¬ i = p by omega) (show s (7 + i) = 0 by omega) (show md_apart s p i ≤ rch by omega)
                have hpr9 := cs_pull_rng (W := W) hg hWr (show 0 ≤ p ∧ p < 6 by omega) (show 0 ≤ i ∧ i < 6 by omega)
                skip
                refine g_aload_n (pc := 60) hC 0 dX2_leaderOf_60 rfl rfl ?_
                refine g_aload_n (pc := 61) hC 1 dX2_leaderOf_61 rfl rfl ?_
                refine g_iload_n (pc := 62) hC 2 dX2_leaderOf_62 rfl rfl ?_
                refine g_iload (pc := 63) hC 6 dX2_leaderOf_63 rfl ?_
                refine g_fnV (pc := 65) (qr := 0) hC [0, 1, 2, 3, 4, 5, 6, 7] (k_X2_onBy_n _ _ _ _ _ _ _ _ _ _ _ _ _ _ _ _ _ _ _ _ _ _ _ _ _ (by first | assumption | omega) (by first | assumption | omega) (by first | assumption | omega) (by first | assumption | omega) (by first | assumption | omega) (by first | assumption | omega) (by first | assumption | omega) (by first | assumption | omega) (by first | assumption | omega) (by first | assumption | omega) (by first | assumption | omega) (by first | assumption | omega) (by first | assumption | omega) (by first | assumption | omega) (by first | assumption | omega) (by first | assumption | omega)) cl_X2_onBy wm_X2_64 dX2_leaderOf_65 rfl rfl rfl rfl rfl (by decide) (by decide) ⟨by omega, by omega⟩ (Nat.le_of_ble_eq_true rfl) rfl rfl ?_
                refine g_name hC (fun pl e_pl => ?_)
                refine g_istore (pc := 68) hC [(7, _), (0, _), (1, _), (2, _), (3, _), (4, _), (5, _), (6, _)] dX2_leaderOf_68 (by decide) rfl ?_
                refine g_iload (pc := 70) hC 0 dX2_leaderOf_70 rfl ?_
                refine g_iload (pc := 72) hC 5 dX2_leaderOf_72 rfl ?_
                refine g_icmp_le (pc := 74) hC 84 dX2_leaderOf_74 (by decide) (by omega) (by omega) (fun c74 => ?_) (fun c74 => ?_)
                · refine g_iinc (pc := 84) hC 7 [(6, _), (7, _), (0, _), (1, _), (2, _), (3, _), (4, _), (5, _)] dX2_leaderOf_84 rfl (by decide) rfl ?_
                  refine g_goto (pc := 87) hC 24 dX2_leaderOf_87 (by decide) ?_
                  refine g_lv hC [2, 3, 4, 5, 6, 7, 0] [(0, _), (1, _), (2, _), (3, _), (4, _), (5, _), (6, _)] rfl ?_
                  exact ih24 (i + 1) gr ld (j + 1) (by first | assumption | omega) (by first | assumption | omega) (by first | assumption | omega) (by first | assumption | omega) (by first | assumption | omega) (ld_no hi hgr hl (by rw [hpl9]; omega)).2 (ld_no hi hgr hl (by rw [hpl9]; omega)).1 (by omega)
                · refine g_iload (pc := 77) hC 0 dX2_leaderOf_77 rfl ?_
                  refine g_istore (pc := 79) hC [(4, _), (7, _), (0, _), (1, _), (2, _), (3, _), (5, _), (6, _)] dX2_leaderOf_79 (by decide) rfl ?_
                  refine g_iload (pc := 81) hC 7 dX2_leaderOf_81 rfl ?_
                  refine g_istore_n (pc := 83) hC [(3, _), (4, _), (7, _), (0, _), (1, _), (2, _), (5, _), (6, _)] dX2_leaderOf_83 rfl (by decide) rfl ?_
                  refine g_iinc (pc := 84) hC 7 [(6, _), (3, _), (4, _), (7, _), (0, _), (1, _), (2, _), (5, _)] dX2_leaderOf_84 rfl (by decide) rfl ?_
                  refine g_goto (pc := 87) hC 24 dX2_leaderOf_87 (by decide) ?_
                  refine g_lv hC [4, 5, 6, 1, 2, 7, 0] [(0, _), (1, _), (2, _), (3, _), (4, _), (5, _), (6, _)] rfl ?_
                  exact ih24 (i + 1) pl i (j + 1) (by first | assumption | omega) (by first | assumption | omega) (by first | assumption | omega) (by first | assumption | omega) (by first | assumption | omega) (ld_up (pl := pl) (ld := ld) hi hgr (by rw [hpl9, e_pl]) (by omega)).2 (ld_up (pl := pl) (ld := ld) hi hgr (by rw [hpl9, e_pl]) (by omega)).1 (by omega)
    refine g_lv hC [4, 5, 6, 3, 2, 1, 0] [(0, _), (1, _), (2, _), (3, _), (4, _), (5, _), (6, _)] rfl ?_
    exact L24 ((s 19 - 0 : Int).toNat + 1) 0 0 (-1) 0 (by first | assumption | omega) (by first | assumption | omega) (by first | assumption | omega) (by first | assumption | omega) (by first | assumption | omega) rfl rfl (by omega)
  · refine g_iload_n (pc := 10) hC 0 dX2_leaderOf_10 rfl rfl ?_
    exact g_iret (pc := 11) hR dX2_leaderOf_11 rfl ⟨by omega, by omega⟩ (Nat.le_of_ble_eq_true rfl) ⟨ret_eq (ld_0 (by omega)), rfl⟩
set_option maxHeartbeats 4000000 in
set_option maxRecDepth 100000 in
theorem k_X5_goOneStep_n {K : gK} (h0 : Nat) (q0 : Nat) (k0 : Nat) (k1 : Nat) (k2 : Nat) (k3 : Nat) (k4 : Nat) (k5 : Nat) (w_facts : Value) (w_weighed : Value) (w_stamp : Value) (aw : Int) (cn : Int) (sp : Int) (kd : Int → Int) (nb : Int → Int) (rm : Int → Int) (st : Int → Int) (rw : Int → Int) (nx : Int → Int) (s : Int → Int) (W : (Int → Int) → Int) (rch : Int) (r_aw : rI aw) (r_cn : rI cn) (r_sp : rI sp) (r_kd : ∀ j, rI (kd j)) (r_nb : ∀ j, rI (nb j)) (r_rm : ∀ j, rI (rm j)) (r_st : ∀ j, rI (st j)) (r_rw : ∀ j, rI (rw j)) (r_nx : ∀ j, rI (nx j)) (hg : md_rg s) (hR9 : cs_R s kd nb rm st rw nx aw cn sp) (hW0 : (∀ b, W b = 0) ∧ rch = 9) : gMet K yX5_goOneStep cX5_goOneStep 3 none 3 0 0 [.ref h0, .ref q0] [cO q0 2 [.null, w_facts, w_weighed, w_stamp], cO h0 5 [.ref k0, .ref k1, .ref k2, .ref k3, .ref k4, .ref k5, .int (iI aw), .int (iI cn), .int (iI sp)], cA K k0 6 kd, cA K k1 6 nb, cA K k2 6 rm, cA K k3 6 st, cA K k4 24 rw, cA K k5 6 nx] (fun v9 w9 => ∃ (n2 : Int → Int), ∃ (st2 : Int → Int), v9 = none ∧ w9 = [cO q0 2 [.null, w_facts, w_weighed, w_stamp], cO h0 5 [.ref k0, .ref k1, .ref k2, .ref k3, .ref k4, .ref k5, .int (iI aw), .int (iI cn), .int (iI (sp + 1))], cA K k0 6 kd, cA K k1 6 nb, cA K k2 6 rm, cA K k3 6 st2, cA K k4 24 rw, cA K k5 6 n2] ∧ (∀ j, rI (n2 j)) ∧ (∀ j, rI (st2 j)) ∧ (cs_R (md_go W rch s) kd nb rm st2 rw n2 aw cn (sp + 1))) := by
  refine g_enter (by decide +kernel) (Nat.le_of_ble_eq_true rfl) (fun G hC hR => ?_)
  refine g_lv hC [0, 1] [(0, _), (1, _)] rfl ?_
  have h19 := hg.2.2.1
  have hg0 := hg.2.2.2
  have hcs := hR9.1
  refine g_iconst (pc := 0) hC dX5_goOneStep_0 ?_
  refine g_istore_n (pc := 1) hC [(2, _), (0, _), (1, _)] dX5_goOneStep_1 rfl (by decide) rfl ?_
  have L2 : ∀ (n1 : Nat) (i : Int) (ny : Int → Int), (rI i) → (∀ j, rI (ny j)) → (0 ≤ i ∧ i ≤ s 19) → (∀ j, 0 ≤ j → j < i → ny j = md_next W rch s j) → (∀ j, 0 ≤ j → j < 6 → 0 ≤ ny j ∧ ny j ≤ 9) → s 19 - i < (n1 : Int) → G 0 0 2 [(0, .ref h0), (1, .ref q0), (2, .int (iI i))] [] [cO q0 2 [.null, w_facts, w_weighed, w_stamp], cO h0 5 [.ref k0, .ref k1, .ref k2, .ref k3, .ref k4, .ref k5, .int (iI aw), .int (iI cn), .int (iI sp)], cA K k0 6 kd, cA K k1 6 nb, cA K k2 6 rm, cA K k3 6 st, cA K k4 24 rw, cA K k5 6 ny] := by
    intro n1
    induction n1 with
    | zero => intro i ny r_i r_ny hi hn hn2 hm2; exfalso; omega
    | succ n1 ih2 =>
      intro i ny r_i r_ny hi hn hn2 hm2
      have hRn : cs_R s kd nb rm st rw ny aw cn sp := cs_copy hR9 (fun _ _ _ => rfl) (fun _ _ _ => rfl) (fun _ _ _ => rfl) (fun _ _ _ => rfl) (fun _ _ _ => rfl) hn2 h19.2
      refine g_iload_n (pc := 2) hC 2 dX5_goOneStep_2 rfl rfl ?_
      refine g_aload_n (pc := 3) hC 0 dX5_goOneStep_3 rfl rfl ?_
      refine g_get (pc := 4) hC 1 fl_X5_30 dX5_goOneStep_4 rfl rfl ?_
      refine g_icmp_ge (pc := 7) hC 39 dX5_goOneStep_7 (by decide) (by omega) (by omega) (fun c7 => ?_) (fun c7 => ?_)
      · refine g_aload_n (pc := 39) hC 0 dX5_goOneStep_39 rfl rfl ?_
        refine g_get (pc := 40) hC 1 fl_X5_27 dX5_goOneStep_40 rfl rfl ?_
        refine g_iconst (pc := 43) hC dX5_goOneStep_43 ?_
        refine g_aload_n (pc := 44) hC 0 dX5_goOneStep_44 rfl rfl ?_
        refine g_get (pc := 45) hC 1 fl_X5_21 dX5_goOneStep_45 rfl rfl ?_
        refine g_iconst (pc := 48) hC dX5_goOneStep_48 ?_
        refine g_bipush (pc := 49) hC (6) dX5_goOneStep_49 (by decide) ?_
        refine g_copy (pc := 51) hC 7 5 (fun f9 => [_, _, _, _, _, cA K _ _ f9, _, _]) wm_X5_37 (Nat.le_of_ble_eq_true rfl) (by decide) dX5_goOneStep_51 rfl rfl (by omega) (fun _ => rfl) (fun st9 e_st9 => ?_)
        have r_st9 := rng_cp e_st9 r_ny r_st
        refine g_aload_n (pc := 54) hC 0 dX5_goOneStep_54 rfl rfl ?_
        refine g_dup (pc := 55) hC dX5_goOneStep_55 rfl ?_
        refine g_get (pc := 56) hC 1 fl_X5_43 dX5_goOneStep_56 rfl rfl ?_
        refine g_iconst (pc := 59) hC dX5_goOneStep_59 ?_
        refine g_iadd (pc := 60) hC dX5_goOneStep_60 ?_
        refine g_putI (pc := 61) hC 1 [_, cO _ _ [_, _, _, _, _, _, _, _, _], _, _, _, _, _, _] fl_X5_43 dX5_goOneStep_61 rfl (Nat.le_of_ble_eq_true rfl) rfl ?_
        exact g_vret (pc := 64) hR dX5_goOneStep_64 rfl ⟨by omega, by omega⟩ (Nat.le_of_ble_eq_true rfl) ⟨ny, st9, rfl, rfl, (by first | assumption | omega), (by first | assumption | omega), (cs_go hg hR9 (fun j h1 h2 => hn j h1 (by omega)) hn2 (cp_at e_st9))⟩
      · refine g_iload_n (pc := 10) hC 2 dX5_goOneStep_10 rfl rfl ?_
        refine g_bipush (pc := 11) hC (6) dX5_goOneStep_11 (by decide) ?_
        refine g_icmp_ge (pc := 13) hC 39 dX5_goOneStep_13 (by decide) (by omega) (by omega) (fun c13 => by exfalso; omega) (fun c13 => ?_)
        refine g_aload_n (pc := 16) hC 0 dX5_goOneStep_16 rfl rfl ?_
        refine g_get (pc := 17) hC 1 fl_X5_27 dX5_goOneStep_17 rfl rfl ?_
        refine g_iload_n (pc := 20) hC 2 dX5_goOneStep_20 rfl rfl ?_
        refine g_aload_n (pc := 21) hC 0 dX5_goOneStep_21 rfl rfl ?_
        refine g_iload_n (pc := 22) hC 2 dX5_goOneStep_22 rfl rfl ?_
        refine g_aload_n (pc := 23) hC 1 dX5_goOneStep_23 rfl rfl ?_
        refine g_aload_n (pc := 24) hC 0 dX5_goOneStep_24 rfl rfl ?_
        refine g_iload_n (pc := 25) hC 2 dX5_goOneStep_25 rfl rfl ?_
        refine g_fnV (pc := 26) (qr := 0) hC [0, 1, 2, 3, 4, 5, 6, 7] (k_X2_leaderOf_n _ _ _ _ _ _ _ _ _ _ _ _ _ _ _ _ _ _ _ _ _ _ _ _ (by first | assumption | omega) (by first | assumption | omega) (by first | assumption | omega) (by first | assumption | omega) (by first | assumption | omega) (by first | assumption | omega) (by first | assumption | omega) (by first | assumption | omega) (by first | assumption | omega) (by first | assumption | omega) (by first | assumption | omega) (by first | assumption | omega) (by first | assumption | omega) (by first | assumption | omega)) cl_X2_leaderOf wm_X5_54 dX5_goOneStep_26 rfl rfl rfl rfl rfl (by decide) (by decide) ⟨by omega, by omega⟩ (Nat.le_of_ble_eq_true rfl) rfl rfl ?_
        refine g_name hC (fun x26 e_x26 => ?_)
        have hldr := ld_of_rng (W := W) (rch := rch) (s := s) (p := i) h19.1
        refine g_fnV (pc := 29) (qr := 1) hC [1, 2, 3, 4, 5, 6, 7] (k_X5_nextOf _ _ _ _ _ _ _ _ _ _ _ _ _ _ _ _ _ _ _ (by first | assumption | omega) (by first | assumption | omega) (by first | assumption | omega) (by first | assumption | omega) (by first | assumption | omega) (by first | assumption | omega) (by first | assumption | omega) (by first | assumption | omega) (by first | assumption | omega) (by first | assumption | omega) (by first | assumption | omega) (by first | assumption | omega) hRn (by first | assumption | omega) (by first | assumption | omega)) cl_X5_nextOf wm_X5_60 dX5_goOneStep_29 rfl rfl rfl rfl rfl (by decide) (by decide) ⟨by omega, by omega⟩ (Nat.le_of_ble_eq_true rfl) rfl rfl ?_
        refine g_name hC (fun x29 e_x29 => ?_)
        have q_x29 : 0 ≤ x29 ∧ x29 ≤ 9 := by rw [e_x29]; exact md_nl_rng hg (by omega) (by omega)
        have hx29 : x29 = md_next W rch s i := by rw [e_x29]; exact md_nl_next h19.1 e_x26
        rw [hx29]
        refine g_iast (pc := 32) hC 7 (fun f9 => [_, _, _, _, _, _, _, cA K _ _ f9]) dX5_goOneStep_32 rfl (by omega) (fun _ => rfl) (fun n9 e_n9 => ?_)
        have r_n9 := rng_up e_n9 r_ny (by have h9 := md_next_rng (W := W) (rch := rch) hg (show 0 ≤ i ∧ i < 6 by omega); omega)
        refine g_iinc (pc := 33) hC 2 [(2, _), (0, _), (1, _)] dX5_goOneStep_33 rfl (by decide) rfl ?_
        refine g_goto (pc := 36) hC 2 dX5_goOneStep_36 (by decide) ?_
        refine g_lv hC [1, 2, 0] [(0, _), (1, _), (2, _)] rfl ?_
        exact ih2 (i + 1) n9 (by first | assumption | omega) (by first | assumption | omega) (by first | assumption | omega) (up_lt e_n9 hn) (nx_up e_n9 hn2 (md_next_rng hg (by omega))) (by omega)
  refine g_lv hC [1, 2, 0] [(0, _), (1, _), (2, _)] rfl ?_
  exact L2 ((s 19 - 0 : Int).toNat + 1) 0 nx (by first | assumption | omega) (by first | assumption | omega) (by first | assumption | omega) (fun j h1 h2 => by omega) (fun j h1 h2 => (hR9.2.2.2.1 j h1 h2).2.2) (by omega)
set_option maxHeartbeats 4000000 in
set_option maxRecDepth 100000 in
theorem k_X2_leaderOf_r {K : gK} (q0 : Nat) (h0 : Nat) (o0 : Nat) (q1 : Nat) (q2 : Nat) (o1 : Nat) (k0 : Nat) (k1 : Nat) (k2 : Nat) (k3 : Nat) (k4 : Nat) (k5 : Nat) (p : Int) (stp : Int) (m : Int) (rc : Int) (aw : Int) (cn : Int) (sp : Int) (fc : Int → Int) (wg : Int → Int) (od : Int → Int) (kd : Int → Int) (nb : Int → Int) (rm : Int → Int) (st : Int → Int) (rw : Int → Int) (nx : Int → Int) (s : Int → Int) (W : (Int → Int) → Int) (rch : Int) (r_p : rI p) (r_stp : rI stp) (r_m : rI m) (r_rc : rI rc) (r_aw : rI aw) (r_cn : rI cn) (r_sp : rI sp) (r_fc : ∀ j, rI (fc j)) (r_wg : ∀ j, rI (wg j)) (r_od : ∀ j, rI (od j)) (r_kd : ∀ j, rI (kd j)) (r_nb : ∀ j, rI (nb j)) (r_rm : ∀ j, rI (rm j)) (r_st : ∀ j, rI (st j)) (r_rw : ∀ j, rI (rw j)) (r_nx : ∀ j, rI (nx j)) (hg : md_rg s) (hR9 : cs_R s kd nb rm st rw nx aw cn sp) (hho : md_ho W od m) (hcc : md_CC W (fun z => s (26 + z)) wg stp) (hWr : ∀ b, -990 ≤ W b ∧ W b ≤ 990) (hrch : rc = rch) (hrr : 0 ≤ rch ∧ rch ≤ 99) (hp : 0 ≤ p ∧ p < s 19) : gMet K yX2_leaderOf cX2_leaderOf 8 (some .int) 2 0 0 [.ref q0, .ref h0, .int (iI p)] [cO q0 2 [.ref o0, .ref q1, .ref q2, .int (iI stp)], cA K q1 6 fc, cA K q2 36000 wg, cO o0 1 [.ref o1, .int (iI m), .int (iI rc)], cA K o1 100 od, cO h0 5 [.ref k0, .ref k1, .ref k2, .ref k3, .ref k4, .ref k5, .int (iI aw), .int (iI cn), .int (iI sp)], cA K k0 6 kd, cA K k1 6 nb, cA K k2 6 rm, cA K k3 6 st, cA K k4 24 rw, cA K k5 6 nx] (fun v9 w9 => ∃ (fc2 : Int → Int), ∃ (wg2 : Int → Int), v9 = some (.int (iI (ld_of (md_lead W rch s p)))) ∧ w9 = [cO q0 2 [.ref o0, .ref q1, .ref q2, .int (iI stp)], cA K q1 6 fc2, cA K q2 36000 wg2, cO o0 1 [.ref o1, .int (iI m), .int (iI rc)], cA K o1 100 od, cO h0 5 [.ref k0, .ref k1, .ref k2, .ref k3, .ref k4, .ref k5, .int (iI aw), .int (iI cn), .int (iI sp)], cA K k0 6 kd, cA K k1 6 nb, cA K k2 6 rm, cA K k3 6 st, cA K k4 24 rw, cA K k5 6 nx] ∧ (∀ j, rI (fc2 j)) ∧ (∀ j, rI (wg2 j)) ∧ (md_CC W (fun z => s (26 + z)) wg2 stp)) := by
  refine g_enter (by decide +kernel) (Nat.le_of_ble_eq_true rfl) (fun G hC hR => ?_)
  refine g_lv hC [0, 1, 2] [(0, _), (1, _), (2, _)] rfl ?_
  have h19 := hg.2.2.1
  have hg0 := hg.2.2.2
  have hcs := hR9.1
  refine g_iconst (pc := 0) hC dX2_leaderOf_0 ?_
  refine g_istore_n (pc := 1) hC [(3, _), (0, _), (1, _), (2, _)] dX2_leaderOf_1 rfl (by decide) rfl ?_
  refine g_aload_n (pc := 2) hC 2 dX2_leaderOf_2 rfl rfl ?_
  refine g_iload_n (pc := 3) hC 3 dX2_leaderOf_3 rfl rfl ?_
  have haw0 := (hR9.2.1 p (by omega) (by omega)).2.2.2.2
  refine g_fnV (pc := 4) (qr := 5) hC [5] (k_X5_isAway _ _ _ _ _ _ _ _ _ _ _ (by first | assumption | omega) (by first | assumption | omega)) cl_X5_isAway wm_X2_55 dX2_leaderOf_4 rfl rfl rfl rfl rfl (by decide) (by decide) ⟨by omega, by omega⟩ (Nat.le_of_ble_eq_true rfl) rfl rfl ?_
  refine g_name hC (fun x1 e_x1 => ?_)
  refine g_if_eq (pc := 7) hC 12 dX2_leaderOf_7 (by decide) (by omega) (fun c7 => ?_) (fun c7 => ?_)
  · refine g_iconst (pc := 12) hC dX2_leaderOf_12 ?_
    refine g_istore (pc := 13) hC [(4, _), (3, _), (0, _), (1, _), (2, _)] dX2_leaderOf_13 (by decide) rfl ?_
    refine g_aload_n (pc := 15) hC 2 dX2_leaderOf_15 rfl rfl ?_
    refine g_fnV (pc := 16) (qr := 0) hC [0, 3] (k_X2_reach_r _ _ _ _ _ _ _ _ (by first | assumption | omega)) cl_X2_reach wm_X2_58 dX2_leaderOf_16 rfl rfl rfl rfl rfl (by decide) (by decide) ⟨by omega, by omega⟩ (Nat.le_of_ble_eq_true rfl) rfl rfl ?_
    refine g_name hC (fun x2 e_x2 => ?_)
    refine g_istore (pc := 19) hC [(5, _), (4, _), (3, _), (0, _), (1, _), (2, _)] dX2_leaderOf_19 (by decide) rfl ?_
    refine g_iconst (pc := 21) hC dX2_leaderOf_21 ?_
    refine g_istore (pc := 22) hC [(6, _), (5, _), (4, _), (3, _), (0, _), (1, _), (2, _)] dX2_leaderOf_22 (by decide) rfl ?_
    have L24 : ∀ (n3 : Nat) (i : Int) (gr : Int) (ld : Int) (j : Nat) (f1 : Int → Int) (w1 : Int → Int), (rI i) → (rI gr) → (rI ld) → (∀ j, rI (f1 j)) → (∀ j, rI (w1 j)) → (i = (j : Int)) → (i ≤ s 19) → (gr = (md_ld W rch s p j).2) → (ld = ld_of (md_ld W rch s p j).1) → (md_CC W (fun z => s (26 + z)) w1 stp) → s 19 - i < (n3 : Int) → G 0 0 24 [(0, .ref q0), (1, .ref h0), (2, .int (iI p)), (3, .int (iI ld)), (4, .int (iI gr)), (5, .int (iI x2)), (6, .int (iI i))] [] [cO q0 2 [.ref o0, .ref q1, .ref q2, .int (iI stp)], cA K q1 6 f1, cA K q2 36000 w1, cO o0 1 [.ref o1, .int (iI m), .int (iI rc)], cA K o1 100 od, cO h0 5 [.ref k0, .ref k1, .ref k2, .ref k3, .ref k4, .ref k5, .int (iI aw), .int (iI cn), .int (iI sp)], cA K k0 6 kd, cA K k1 6 nb, cA K k2 6 rm, cA K k3 6 st, cA K k4 24 rw, cA K k5 6 nx] := by
      intro n3
      induction n3 with
      | zero => intro i gr ld j f1 w1 r_i r_gr r_ld r_f1 r_w1 hi hj hgr hl hcc1 hm24; exfalso; omega
      | succ n3 ih24 =>
        intro i gr ld j f1 w1 r_i r_gr r_ld r_f1 r_w1 hi hj hgr hl hcc1 hm24
        have hgr0 := (md_ld_rng W rch s p j).1
        refine g_iload (pc := 24) hC 6 dX2_leaderOf_24 rfl ?_
        refine g_aload_n (pc := 26) hC 1 dX2_leaderOf_26 rfl rfl ?_
        refine g_get (pc := 27) hC 5 fl_X2_61 dX2_leaderOf_27 rfl rfl ?_
        refine g_icmp_ge (pc := 30) hC 90 dX2_leaderOf_30 (by decide) (by omega) (by omega) (fun c30 => ?_) (fun c30 => ?_)
        · have hj9 : (s 19).toNat = j := by omega
          refine g_iload_n (pc := 90) hC 3 dX2_leaderOf_90 rfl rfl ?_
          exact g_iret (pc := 91) hR dX2_leaderOf_91 rfl ⟨by omega, by omega⟩ (Nat.le_of_ble_eq_true rfl) ⟨f1, w1, ret_eq (ld_e (by omega) hj9 hl), rfl, (by first | assumption | omega), (by first | assumption | omega), hcc1⟩
        · refine g_iload (pc := 33) hC 6 dX2_leaderOf_33 rfl ?_
          refine g_iload_n (pc := 35) hC 2 dX2_leaderOf_35 rfl rfl ?_
          refine g_icmp_eq (pc := 36) hC 84 dX2_leaderOf_36 (by decide) (by omega) (by omega) (fun c36 => ?_) (fun c36 => ?_)
          · refine g_iinc (pc := 84) hC 6 [(6, _), (0, _), (1, _), (2, _), (3, _), (4, _), (5, _)] dX2_leaderOf_84 rfl (by decide) rfl ?_
            refine g_goto (pc := 87) hC 24 dX2_leaderOf_87 (by decide) ?_
            refine g_lv hC [1, 2, 3, 4, 5, 6, 0] [(0, _), (1, _), (2, _), (3, _), (4, _), (5, _), (6, _)] rfl ?_
            exact ih24 (i + 1) gr ld (j + 1) f1 w1 (by first | assumption | omega) (by first | assumption | omega) (by first | assumption | omega) (by first | assumption | omega) (by first | assumption | omega) (by first | assumption | omega) (by first | assumption | omega) (ld_no hi hgr hl (by rw [pl_0 (Or.inl (by omega))]; omega)).2 (ld_no hi hgr hl (by rw [pl_0 (Or.inl (by omega))]; omega)).1 hcc1 (by omega)
          · refine g_aload_n (pc := 39) hC 1 dX2_leaderOf_39 rfl rfl ?_
            refine g_iload (pc := 40) hC 6 dX2_leaderOf_40 rfl ?_
            refine g_fnV (pc := 42) (qr := 5) hC [5] (k_X5_isAway _ _ _ _ _ _ _ _ _ _ _ (by first | assumption | omega) (by first | assumption | omega)) cl_X5_isAway wm_X2_55 dX2_leaderOf_42 rfl rfl rfl rfl rfl (by decide) (by decide) ⟨by omega, by omega⟩ (Nat.le_of_ble_eq_true rfl) rfl rfl ?_
            refine g_name hC (fun x4 e_x4 => ?_)
            have haw1 := (hR9.2.1 i (by omega) (by omega)).2.2.2.2
            refine g_if_ne (pc := 45) hC 84 dX2_leaderOf_45 (by decide) (by omega) (fun c45 => ?_) (fun c45 => ?_)
            · refine g_iinc (pc := 84) hC 6 [(6, _), (0, _), (1, _), (2, _), (3, _), (4, _), (5, _)] dX2_leaderOf_84 rfl (by decide) rfl ?_
              refine g_goto (pc := 87) hC 24 dX2_leaderOf_87 (by decide) ?_
              refine g_lv hC [1, 2, 3, 4, 5, 6, 0] [(0, _), (1, _), (2, _), (3, _), (4, _), (5, _), (6, _)] rfl ?_
              exact ih24 (i + 1) gr ld (j + 1) f1 w1 (by first | assumption | omega) (by first | assumption | omega) (by first | assumption | omega) (by first | assumption | omega) (by first | assumption | omega) (by first | assumption | omega) (by first | assumption | omega) (ld_no hi hgr hl (by rw [pl_0 (Or.inr (Or.inl (by omega)))]; omega)).2 (ld_no hi hgr hl (by rw [pl_0 (Or.inr (Or.inl (by omega)))]; omega)).1 hcc1 (by omega)
            · refine g_aload_n (pc := 48) hC 1 dX2_leaderOf_48 rfl rfl ?_
              refine g_iload_n (pc := 49) hC 2 dX2_leaderOf_49 rfl rfl ?_
              refine g_iload (pc := 50) hC 6 dX2_leaderOf_50 rfl ?_
              refine g_fnV (pc := 52) (qr := 5) hC [5, 8] (k_X5_apart _ _ _ _ _ _ _ _ _ _ _ _ _ (by first | assumption | omega) (by first | assumption | omega) (by first | assumption | omega) (by first | assumption | omega) (by first | assumption | omega) (fun j h1 h2 => (hR9.2.2.2.1 j h1 h2).1)) cl_X5_apart wm_X2_38 dX2_leaderOf_52 rfl rfl rfl rfl rfl (by decide) (by decide) ⟨by omega, by omega⟩ (Nat.le_of_ble_eq_true rfl) rfl rfl ?_
              refine g_name hC (fun x52 e_x52 => ?_)
              have hap := cs_ap hR9 (show 0 ≤ p ∧ p < s 19 by omega) (show 0 ≤ i ∧ i < s 19 by omega)
              rw [hap] at e_x52
              have har := md_apart_rng hg (show 0 ≤ p ∧ p < 6 by omega) (show 0 ≤ i ∧ i < 6 by omega)
              refine g_iload (pc := 55) hC 5 dX2_leaderOf_55 rfl ?_
              refine g_icmp_gt (pc := 57) hC 84 dX2_leaderOf_57 (by decide) (by omega) (by omega) (fun c57 => ?_) (fun c57 => ?_)
              · refine g_iinc (pc := 84) hC 6 [(6, _), (0, _), (1, _), (2, _), (3, _), (4, _), (5, _)] dX2_leaderOf_84 rfl (by decide) rfl ?_
                refine g_goto (pc := 87) hC 24 dX2_leaderOf_87 (by decide) ?_
                refine g_lv hC [1, 2, 3, 4, 5, 6, 0] [(0, _), (1, _), (2, _), (3, _), (4, _), (5, _), (6, _)] rfl ?_
                exact ih24 (i + 1) gr ld (j + 1) f1 w1 (by first | assumption | omega) (by first | assumption | omega) (by first | assumption | omega) (by first | assumption | omega) (by first | assumption | omega) (by first | assumption | omega) (by first | assumption | omega) (ld_no hi hgr hl (by rw [pl_0 (Or.inr (Or.inr (by omega)))]; omega)).2 (ld_no hi hgr hl (by rw [pl_0 (Or.inr (Or.inr (by omega)))]; omega)).1 hcc1 (by omega)
              · have hpl9 := pl_1 (W := W) (rch := rch) (show ¬ i = p by omega) (show s (7 + i) = 0 by omega) (show md_apart s p i ≤ rch by omega)
                have hpr9 := cs_pull_rng (W := W) hg hWr (show 0 ≤ p ∧ p < 6 by omega) (show 0 ≤ i ∧ i < 6 by omega)
                refine g_aload_n (pc := 60) hC 0 dX2_leaderOf_60 rfl rfl ?_
                refine g_aload_n (pc := 61) hC 1 dX2_leaderOf_61 rfl rfl ?_
                refine g_iload_n (pc := 62) hC 2 dX2_leaderOf_62 rfl rfl ?_
                refine g_iload (pc := 63) hC 6 dX2_leaderOf_63 rfl ?_
                refine g_callV (pc := 65) (qr := 0) hC [0, 1, 2, 3, 4, 5, 6, 7, 8, 9, 10, 11] (k_X2_onBy_r _ _ _ _ _ _ _ _ _ _ _ _ _ _ _ _ _ _ _ _ _ _ _ _ _ _ _ _ _ _ _ rch (by first | assumption | omega) (by first | assumption | omega) (by first | assumption | omega) (by first | assumption | omega) (by first | assumption | omega) (by first | assumption | omega) (by first | assumption | omega) (by first | assumption | omega) (by first | assumption | omega) (by first | assumption | omega) (by first | assumption | omega) (by first | assumption | omega) (by first | assumption | omega) (by first | assumption | omega) (by first | assumption | omega) (by first | assumption | omega) (by first | assumption | omega) (by first | assumption | omega) (by first | assumption | omega) (by first | assumption | omega) (by first | assumption | omega) (by first | assumption | omega) (by first | assumption | omega) (by first | assumption | omega)) cl_X2_onBy wm_X2_64 dX2_leaderOf_65 rfl rfl rfl rfl rfl (by decide) (by decide) (by omega) (Nat.le_of_ble_eq_true rfl) rfl (fun v9 w9 hq9 => ?_)
                obtain ⟨f5, w5, rfl, rfl, r_f5, r_w5, hcc2_65⟩ := hq9
                refine g_ws hC [cO q0 2 [.ref o0, .ref q1, .ref q2, .int (iI stp)], cA K q1 6 f5, cA K q2 36000 w5, cO o0 1 [.ref o1, .int (iI m), .int (iI rc)], cA K o1 100 od, cO h0 5 [.ref k0, .ref k1, .ref k2, .ref k3, .ref k4, .ref k5, .int (iI aw), .int (iI cn), .int (iI sp)], cA K k0 6 kd, cA K k1 6 nb, cA K k2 6 rm, cA K k3 6 st, cA K k4 24 rw, cA K k5 6 nx] rfl ?_
                refine g_st hC [.int (iI (md_pull W s p i))] rfl ?_
                refine g_name hC (fun pl e_pl => ?_)
                refine g_istore (pc := 68) hC [(7, _), (0, _), (1, _), (2, _), (3, _), (4, _), (5, _), (6, _)] dX2_leaderOf_68 (by decide) rfl ?_
                refine g_iload (pc := 70) hC 0 dX2_leaderOf_70 rfl ?_
                refine g_iload (pc := 72) hC 5 dX2_leaderOf_72 rfl ?_
                refine g_icmp_le (pc := 74) hC 84 dX2_leaderOf_74 (by decide) (by omega) (by omega) (fun c74 => ?_) (fun c74 => ?_)
                · refine g_iinc (pc := 84) hC 7 [(6, _), (7, _), (0, _), (1, _), (2, _), (3, _), (4, _), (5, _)] dX2_leaderOf_84 rfl (by decide) rfl ?_
                  refine g_goto (pc := 87) hC 24 dX2_leaderOf_87 (by decide) ?_
                  refine g_lv hC [2, 3, 4, 5, 6, 7, 0] [(0, _), (1, _), (2, _), (3, _), (4, _), (5, _), (6, _)] rfl ?_
                  exact ih24 (i + 1) gr ld (j + 1) f5 w5 (by first | assumption | omega) (by first | assumption | omega) (by first | assumption | omega) (by first | assumption | omega) (by first | assumption | omega) (by first | assumption | omega) (by first | assumption | omega) (ld_no hi hgr hl (by rw [hpl9]; omega)).2 (ld_no hi hgr hl (by rw [hpl9]; omega)).1 hcc2_65 (by omega)
                · refine g_iload (pc := 77) hC 0 dX2_leaderOf_77 rfl ?_
                  refine g_istore (pc := 79) hC [(4, _), (7, _), (0, _), (1, _), (2, _), (3, _), (5, _), (6, _)] dX2_leaderOf_79 (by decide) rfl ?_
                  refine g_iload (pc := 81) hC 7 dX2_leaderOf_81 rfl ?_
                  refine g_istore_n (pc := 83) hC [(3, _), (4, _), (7, _), (0, _), (1, _), (2, _), (5, _), (6, _)] dX2_leaderOf_83 rfl (by decide) rfl ?_
                  refine g_iinc (pc := 84) hC 7 [(6, _), (3, _), (4, _), (7, _), (0, _), (1, _), (2, _), (5, _)] dX2_leaderOf_84 rfl (by decide) rfl ?_
                  refine g_goto (pc := 87) hC 24 dX2_leaderOf_87 (by decide) ?_
                  refine g_lv hC [4, 5, 6, 1, 2, 7, 0] [(0, _), (1, _), (2, _), (3, _), (4, _), (5, _), (6, _)] rfl ?_
                  exact ih24 (i + 1) pl i (j + 1) f5 w5 (by first | assumption | omega) (by first | assumption | omega) (by first | assumption | omega) (by first | assumption | omega) (by first | assumption | omega) (by first | assumption | omega) (by first | assumption | omega) (ld_up (pl := pl) (ld := ld) hi hgr (by rw [hpl9, e_pl]) (by omega)).2 (ld_up (pl := pl) (ld := ld) hi hgr (by rw [hpl9, e_pl]) (by omega)).1 hcc2_65 (by omega)
    refine g_lv hC [4, 5, 6, 3, 2, 1, 0] [(0, _), (1, _), (2, _), (3, _), (4, _), (5, _), (6, _)] rfl ?_
    exact L24 ((s 19 - 0 : Int).toNat + 1) 0 0 (-1) 0 fc wg (by first | assumption | omega) (by first | assumption | omega) (by first | assumption | omega) (by first | assumption | omega) (by first | assumption | omega) (by first | assumption | omega) (by first | assumption | omega) rfl rfl (by first | assumption | omega) (by omega)
  · refine g_iload_n (pc := 10) hC 0 dX2_leaderOf_10 rfl rfl ?_
    exact g_iret (pc := 11) hR dX2_leaderOf_11 rfl ⟨by omega, by omega⟩ (Nat.le_of_ble_eq_true rfl) ⟨fc, wg, ret_eq (ld_0 (by omega)), rfl, (by first | assumption | omega), (by first | assumption | omega), hcc⟩
set_option maxHeartbeats 4000000 in
set_option maxRecDepth 100000 in
theorem k_X5_goOneStep_r {K : gK} (h0 : Nat) (q0 : Nat) (o0 : Nat) (q1 : Nat) (q2 : Nat) (o1 : Nat) (k0 : Nat) (k1 : Nat) (k2 : Nat) (k3 : Nat) (k4 : Nat) (k5 : Nat) (stp : Int) (m : Int) (rc : Int) (aw : Int) (cn : Int) (sp : Int) (fc : Int → Int) (wg : Int → Int) (od : Int → Int) (kd : Int → Int) (nb : Int → Int) (rm : Int → Int) (st : Int → Int) (rw : Int → Int) (nx : Int → Int) (s : Int → Int) (W : (Int → Int) → Int) (rch : Int) (r_stp : rI stp) (r_m : rI m) (r_rc : rI rc) (r_aw : rI aw) (r_cn : rI cn) (r_sp : rI sp) (r_fc : ∀ j, rI (fc j)) (r_wg : ∀ j, rI (wg j)) (r_od : ∀ j, rI (od j)) (r_kd : ∀ j, rI (kd j)) (r_nb : ∀ j, rI (nb j)) (r_rm : ∀ j, rI (rm j)) (r_st : ∀ j, rI (st j)) (r_rw : ∀ j, rI (rw j)) (r_nx : ∀ j, rI (nx j)) (hg : md_rg s) (hR9 : cs_R s kd nb rm st rw nx aw cn sp) (hho : md_ho W od m) (hcc : md_CC W (fun z => s (26 + z)) wg stp) (hWr : ∀ b, -990 ≤ W b ∧ W b ≤ 990) (hrch : rc = rch) (hrr : 0 ≤ rch ∧ rch ≤ 99) : gMet K yX5_goOneStep cX5_goOneStep 3 none 3 0 0 [.ref h0, .ref q0] [cO q0 2 [.ref o0, .ref q1, .ref q2, .int (iI stp)], cA K q1 6 fc, cA K q2 36000 wg, cO o0 1 [.ref o1, .int (iI m), .int (iI rc)], cA K o1 100 od, cO h0 5 [.ref k0, .ref k1, .ref k2, .ref k3, .ref k4, .ref k5, .int (iI aw), .int (iI cn), .int (iI sp)], cA K k0 6 kd, cA K k1 6 nb, cA K k2 6 rm, cA K k3 6 st, cA K k4 24 rw, cA K k5 6 nx] (fun v9 w9 => ∃ (n2 : Int → Int), ∃ (st2 : Int → Int), ∃ (fc2 : Int → Int), ∃ (wg2 : Int → Int), v9 = none ∧ w9 = [cO q0 2 [.ref o0, .ref q1, .ref q2, .int (iI stp)], cA K q1 6 fc2, cA K q2 36000 wg2, cO o0 1 [.ref o1, .int (iI m), .int (iI rc)], cA K o1 100 od, cO h0 5 [.ref k0, .ref k1, .ref k2, .ref k3, .ref k4, .ref k5, .int (iI aw), .int (iI cn), .int (iI (sp + 1))], cA K k0 6 kd, cA K k1 6 nb, cA K k2 6 rm, cA K k3 6 st2, cA K k4 24 rw, cA K k5 6 n2] ∧ (∀ j, rI (n2 j)) ∧ (∀ j, rI (st2 j)) ∧ (∀ j, rI (fc2 j)) ∧ (∀ j, rI (wg2 j)) ∧ (cs_R (md_go W rch s) kd nb rm st2 rw n2 aw cn (sp + 1)) ∧ (md_CC W (fun z => s (26 + z)) wg2 stp)) := by
  refine g_enter (by decide +kernel) (Nat.le_of_ble_eq_true rfl) (fun G hC hR => ?_)
  refine g_lv hC [0, 1] [(0, _), (1, _)] rfl ?_
  have h19 := hg.2.2.1
  have hg0 := hg.2.2.2
  have hcs := hR9.1
  refine g_iconst (pc := 0) hC dX5_goOneStep_0 ?_
  refine g_istore_n (pc := 1) hC [(2, _), (0, _), (1, _)] dX5_goOneStep_1 rfl (by decide) rfl ?_
  have L2 : ∀ (n1 : Nat) (i : Int) (ny : Int → Int) (f1 : Int → Int) (w1 : Int → Int), (rI i) → (∀ j, rI (ny j)) → (∀ j, rI (f1 j)) → (∀ j, rI (w1 j)) → (0 ≤ i ∧ i ≤ s 19) → (∀ j, 0 ≤ j → j < i → ny j = md_next W rch s j) → (∀ j, 0 ≤ j → j < 6 → 0 ≤ ny j ∧ ny j ≤ 9) → (md_CC W (fun z => s (26 + z)) w1 stp) → s 19 - i < (n1 : Int) → G 0 0 2 [(0, .ref h0), (1, .ref q0), (2, .int (iI i))] [] [cO q0 2 [.ref o0, .ref q1, .ref q2, .int (iI stp)], cA K q1 6 f1, cA K q2 36000 w1, cO o0 1 [.ref o1, .int (iI m), .int (iI rc)], cA K o1 100 od, cO h0 5 [.ref k0, .ref k1, .ref k2, .ref k3, .ref k4, .ref k5, .int (iI aw), .int (iI cn), .int (iI sp)], cA K k0 6 kd, cA K k1 6 nb, cA K k2 6 rm, cA K k3 6 st, cA K k4 24 rw, cA K k5 6 ny] := by
    intro n1
    induction n1 with
    | zero => intro i ny f1 w1 r_i r_ny r_f1 r_w1 hi hn hn2 hcc1 hm2; exfalso; omega
    | succ n1 ih2 =>
      intro i ny f1 w1 r_i r_ny r_f1 r_w1 hi hn hn2 hcc1 hm2
      have hRn : cs_R s kd nb rm st rw ny aw cn sp := cs_copy hR9 (fun _ _ _ => rfl) (fun _ _ _ => rfl) (fun _ _ _ => rfl) (fun _ _ _ => rfl) (fun _ _ _ => rfl) hn2 h19.2
      refine g_iload_n (pc := 2) hC 2 dX5_goOneStep_2 rfl rfl ?_
      refine g_aload_n (pc := 3) hC 0 dX5_goOneStep_3 rfl rfl ?_
      refine g_get (pc := 4) hC 5 fl_X5_30 dX5_goOneStep_4 rfl rfl ?_
      refine g_icmp_ge (pc := 7) hC 39 dX5_goOneStep_7 (by decide) (by omega) (by omega) (fun c7 => ?_) (fun c7 => ?_)
      · refine g_aload_n (pc := 39) hC 0 dX5_goOneStep_39 rfl rfl ?_
        refine g_get (pc := 40) hC 5 fl_X5_27 dX5_goOneStep_40 rfl rfl ?_
        refine g_iconst (pc := 43) hC dX5_goOneStep_43 ?_
        refine g_aload_n (pc := 44) hC 0 dX5_goOneStep_44 rfl rfl ?_
        refine g_get (pc := 45) hC 5 fl_X5_21 dX5_goOneStep_45 rfl rfl ?_
        refine g_iconst (pc := 48) hC dX5_goOneStep_48 ?_
        refine g_bipush (pc := 49) hC (6) dX5_goOneStep_49 (by decide) ?_
        refine g_copy (pc := 51) hC 11 9 (fun f9 => [_, _, _, _, _, _, _, _, _, cA K _ _ f9, _, _]) wm_X5_37 (Nat.le_of_ble_eq_true rfl) (by decide) dX5_goOneStep_51 rfl rfl (by omega) (fun _ => rfl) (fun st9 e_st9 => ?_)
        have r_st9 := rng_cp e_st9 r_ny r_st
        refine g_aload_n (pc := 54) hC 0 dX5_goOneStep_54 rfl rfl ?_
        refine g_dup (pc := 55) hC dX5_goOneStep_55 rfl ?_
        refine g_get (pc := 56) hC 5 fl_X5_43 dX5_goOneStep_56 rfl rfl ?_
        refine g_iconst (pc := 59) hC dX5_goOneStep_59 ?_
        refine g_iadd (pc := 60) hC dX5_goOneStep_60 ?_
        refine g_putI (pc := 61) hC 5 [_, _, _, _, _, cO _ _ [_, _, _, _, _, _, _, _, _], _, _, _, _, _, _] fl_X5_43 dX5_goOneStep_61 rfl (Nat.le_of_ble_eq_true rfl) rfl ?_
        exact g_vret (pc := 64) hR dX5_goOneStep_64 rfl ⟨by omega, by omega⟩ (Nat.le_of_ble_eq_true rfl) ⟨ny, st9, f1, w1, rfl, rfl, (by first | assumption | omega), (by first | assumption | omega), (by first | assumption | omega), (by first | assumption | omega), (cs_go hg hR9 (fun j h1 h2 => hn j h1 (by omega)) hn2 (cp_at e_st9)), hcc1⟩
      · refine g_iload_n (pc := 10) hC 2 dX5_goOneStep_10 rfl rfl ?_
        refine g_bipush (pc := 11) hC (6) dX5_goOneStep_11 (by decide) ?_
        refine g_icmp_ge (pc := 13) hC 39 dX5_goOneStep_13 (by decide) (by omega) (by omega) (fun c13 => by exfalso; omega) (fun c13 => ?_)
        refine g_aload_n (pc := 16) hC 0 dX5_goOneStep_16 rfl rfl ?_
        refine g_get (pc := 17) hC 5 fl_X5_27 dX5_goOneStep_17 rfl rfl ?_
        refine g_iload_n (pc := 20) hC 2 dX5_goOneStep_20 rfl rfl ?_
        refine g_aload_n (pc := 21) hC 0 dX5_goOneStep_21 rfl rfl ?_
        refine g_iload_n (pc := 22) hC 2 dX5_goOneStep_22 rfl rfl ?_
        refine g_aload_n (pc := 23) hC 1 dX5_goOneStep_23 rfl rfl ?_
        refine g_aload_n (pc := 24) hC 0 dX5_goOneStep_24 rfl rfl ?_
        refine g_iload_n (pc := 25) hC 2 dX5_goOneStep_25 rfl rfl ?_
        refine g_callV (pc := 26) (qr := 0) hC [0, 1, 2, 3, 4, 5, 6, 7, 8, 9, 10, 11] (k_X2_leaderOf_r _ _ _ _ _ _ _ _ _ _ _ _ _ _ _ _ _ _ _ _ _ _ _ _ _ _ _ _ _ _ _ (by first | assumption | omega) (by first | assumption | omega) (by first | assumption | omega) (by first | assumption | omega) (by first | assumption | omega) (by first | assumption | omega) (by first | assumption | omega) (by first | assumption | omega) (by first | assumption | omega) (by first | assumption | omega) (by first | assumption | omega) (by first | assumption | omega) (by first | assumption | omega) (by first | assumption | omega) (by first | assumption | omega) (by first | assumption | omega) (by first | assumption | omega) hRn (by first | assumption | omega) hcc1 (by first | assumption | omega) (by first | assumption | omega) (by first | assumption | omega) (by first | assumption | omega)) cl_X2_leaderOf wm_X5_54 dX5_goOneStep_26 rfl rfl rfl rfl rfl (by decide) (by decide) (by omega) (Nat.le_of_ble_eq_true rfl) rfl (fun v9 w9 hq9 => ?_)
        obtain ⟨f5, w5, rfl, rfl, r_f5, r_w5, hcc2_26⟩ := hq9
        refine g_ws hC [cO q0 2 [.ref o0, .ref q1, .ref q2, .int (iI stp)], cA K q1 6 f5, cA K q2 36000 w5, cO o0 1 [.ref o1, .int (iI m), .int (iI rc)], cA K o1 100 od, cO h0 5 [.ref k0, .ref k1, .ref k2, .ref k3, .ref k4, .ref k5, .int (iI aw), .int (iI cn), .int (iI sp)], cA K k0 6 kd, cA K k1 6 nb, cA K k2 6 rm, cA K k3 6 st, cA K k4 24 rw, cA K k5 6 ny] rfl ?_
        refine g_st hC [.int (iI (ld_of (md_lead W rch s i))), _, _, _, _] rfl ?_
        refine g_name hC (fun x26 e_x26 => ?_)
        have hldr := ld_of_rng (W := W) (rch := rch) (s := s) (p := i) h19.1
        refine g_fnV (pc := 29) (qr := 5) hC [5, 6, 7, 8, 9, 10, 11] (k_X5_nextOf _ _ _ _ _ _ _ _ _ _ _ _ _ _ _ _ _ _ _ (by first | assumption | omega) (by first | assumption | omega) (by first | assumption | omega) (by first | assumption | omega) (by first | assumption | omega) (by first | assumption | omega) (by first | assumption | omega) (by first | assumption | omega) (by first | assumption | omega) (by first | assumption | omega) (by first | assumption | omega) (by first | assumption | omega) hRn (by first | assumption | omega) (by first | assumption | omega)) cl_X5_nextOf wm_X5_60 dX5_goOneStep_29 rfl rfl rfl rfl rfl (by decide) (by decide) ⟨by omega, by omega⟩ (Nat.le_of_ble_eq_true rfl) rfl rfl ?_
        refine g_name hC (fun x29 e_x29 => ?_)
        have q_x29 : 0 ≤ x29 ∧ x29 ≤ 9 := by rw [e_x29]; exact md_nl_rng hg (by omega) (by omega)
        have hx29 : x29 = md_next W rch s i := by rw [e_x29]; exact md_nl_next h19.1 e_x26
        rw [hx29]
        refine g_iast (pc := 32) hC 11 (fun f9 => [_, _, _, _, _, _, _, _, _, _, _, cA K _ _ f9]) dX5_goOneStep_32 rfl (by omega) (fun _ => rfl) (fun n9 e_n9 => ?_)
        have r_n9 := rng_up e_n9 r_ny (by have h9 := md_next_rng (W := W) (rch := rch) hg (show 0 ≤ i ∧ i < 6 by omega); omega)
        refine g_iinc (pc := 33) hC 2 [(2, _), (0, _), (1, _)] dX5_goOneStep_33 rfl (by decide) rfl ?_
        refine g_goto (pc := 36) hC 2 dX5_goOneStep_36 (by decide) ?_
        refine g_lv hC [1, 2, 0] [(0, _), (1, _), (2, _)] rfl ?_
        exact ih2 (i + 1) n9 f5 w5 (by first | assumption | omega) (by first | assumption | omega) (by first | assumption | omega) (by first | assumption | omega) (by first | assumption | omega) (up_lt e_n9 hn) (nx_up e_n9 hn2 (md_next_rng hg (by omega))) hcc2_26 (by omega)
  refine g_lv hC [1, 2, 0] [(0, _), (1, _), (2, _)] rfl ?_
  exact L2 ((s 19 - 0 : Int).toNat + 1) 0 nx fc wg (by first | assumption | omega) (by first | assumption | omega) (by first | assumption | omega) (by first | assumption | omega) (by first | assumption | omega) (fun j h1 h2 => by omega) (fun j h1 h2 => (hR9.2.2.2.1 j h1 h2).2.2) (by first | assumption | omega) (by omega)
set_option maxHeartbeats 4000000 in
set_option maxRecDepth 100000 in
theorem k_X5_add {K : gK} (h0 : Nat) (k0 : Nat) (k1 : Nat) (k2 : Nat) (k3 : Nat) (k4 : Nat) (k5 : Nat) (kind : Int) (v : Int) (room : Int) (x : Int) (aw : Int) (cn : Int) (sp : Int) (kd : Int → Int) (nb : Int → Int) (rm : Int → Int) (st : Int → Int) (rw : Int → Int) (nx : Int → Int) (s : Int → Int) (r_kind : rI kind) (r_v : rI v) (r_room : rI room) (r_x : rI x) (r_aw : rI aw) (r_cn : rI cn) (r_sp : rI sp) (r_kd : ∀ j, rI (kd j)) (r_nb : ∀ j, rI (nb j)) (r_rm : ∀ j, rI (rm j)) (r_st : ∀ j, rI (st j)) (r_rw : ∀ j, rI (rw j)) (r_nx : ∀ j, rI (nx j)) (hg : md_rg s) (hR9 : cs_R s kd nb rm st rw nx aw cn sp) (hr2 : (0 ≤ room ∧ room ≤ 9) ∧ (0 ≤ x ∧ x ≤ 9)) : gMet K yX5_add cX5_add 6 (some .int) 0 0 0 [.ref h0, .int (iI kind), .int (iI v), .int (iI room), .int (iI x)] [cO h0 5 [.ref k0, .ref k1, .ref k2, .ref k3, .ref k4, .ref k5, .int (iI aw), .int (iI cn), .int (iI sp)], cA K k0 6 kd, cA K k1 6 nb, cA K k2 6 rm, cA K k3 6 st, cA K k4 24 rw, cA K k5 6 nx] (fun v9 w9 => ∃ (kd2 : Int → Int), ∃ (nb2 : Int → Int), ∃ (rm2 : Int → Int), ∃ (st2 : Int → Int), ∃ (cn2 : Int), v9 = some (.int (iI (if s 19 = 6 then -1 else s 19))) ∧ w9 = [cO h0 5 [.ref k0, .ref k1, .ref k2, .ref k3, .ref k4, .ref k5, .int (iI aw), .int (iI cn2), .int (iI sp)], cA K k0 6 kd2, cA K k1 6 nb2, cA K k2 6 rm2, cA K k3 6 st2, cA K k4 24 rw, cA K k5 6 nx] ∧ (∀ j, rI (kd2 j)) ∧ (∀ j, rI (nb2 j)) ∧ (∀ j, rI (rm2 j)) ∧ (∀ j, rI (st2 j)) ∧ rI cn2 ∧ (cs_R (if s 19 = 6 then s else ne_manS s kind v room x) kd2 nb2 rm2 st2 rw nx aw cn2 sp)) := by
  refine g_enter (by decide +kernel) (Nat.le_of_ble_eq_true rfl) (fun G hC hR => ?_)
  refine g_lv hC [0, 1, 2, 3, 4] [(0, _), (1, _), (2, _), (3, _), (4, _)] rfl ?_
  have h19 := hg.2.2.1
  have hg0 := hg.2.2.2
  have hcs := hR9.1
  refine g_aload_n (pc := 0) hC 0 dX5_add_0 rfl rfl ?_
  refine g_get (pc := 1) hC 0 fl_X5_30 dX5_add_1 rfl rfl ?_
  refine g_if_lt (pc := 4) hC 16 dX5_add_4 (by decide) (by omega) (fun c4 => by exfalso; omega) (fun c4 => ?_)
  refine g_aload_n (pc := 7) hC 0 dX5_add_7 rfl rfl ?_
  refine g_get (pc := 8) hC 0 fl_X5_30 dX5_add_8 rfl rfl ?_
  refine g_bipush (pc := 11) hC (6) dX5_add_11 (by decide) ?_
  refine g_icmp_lt (pc := 13) hC 18 dX5_add_13 (by decide) (by omega) (by omega) (fun c13 => ?_) (fun c13 => ?_)
  · refine g_aload_n (pc := 18) hC 0 dX5_add_18 rfl rfl ?_
    refine g_get (pc := 19) hC 0 fl_X5_30 dX5_add_19 rfl rfl ?_
    refine g_istore (pc := 22) hC [(5, _), (0, _), (1, _), (2, _), (3, _), (4, _)] dX5_add_22 (by decide) rfl ?_
    refine g_aload_n (pc := 24) hC 1 dX5_add_24 rfl rfl ?_
    refine g_get (pc := 25) hC 0 fl_X5_9 dX5_add_25 rfl rfl ?_
    refine g_iload (pc := 28) hC 0 dX5_add_28 rfl ?_
    refine g_iload_n (pc := 30) hC 2 dX5_add_30 rfl rfl ?_
    refine g_iast (pc := 31) hC 1 (fun f9 => [_, cA K _ _ f9, _, _, _, _, _]) dX5_add_31 rfl (by omega) (fun _ => rfl) (fun f1 e_f1 => ?_)
    have r_f1 := rng_up e_f1 r_kd (by omega)
    refine g_aload_n (pc := 32) hC 1 dX5_add_32 rfl rfl ?_
    refine g_get (pc := 33) hC 0 fl_X5_15 dX5_add_33 rfl rfl ?_
    refine g_iload (pc := 36) hC 0 dX5_add_36 rfl ?_
    refine g_iload_n (pc := 38) hC 3 dX5_add_38 rfl rfl ?_
    refine g_iast (pc := 39) hC 2 (fun f9 => [_, _, cA K _ _ f9, _, _, _, _]) dX5_add_39 rfl (by omega) (fun _ => rfl) (fun f2 e_f2 => ?_)
    have r_f2 := rng_up e_f2 r_nb (by omega)
    refine g_aload_n (pc := 40) hC 1 dX5_add_40 rfl rfl ?_
    refine g_get (pc := 41) hC 0 fl_X5_18 dX5_add_41 rfl rfl ?_
    refine g_iload (pc := 44) hC 0 dX5_add_44 rfl ?_
    refine g_iload_n (pc := 46) hC 4 dX5_add_46 rfl rfl ?_
    refine g_iast (pc := 47) hC 3 (fun f9 => [_, _, _, cA K _ _ f9, _, _, _]) dX5_add_47 rfl (by omega) (fun _ => rfl) (fun f3 e_f3 => ?_)
    have r_f3 := rng_up e_f3 r_rm (by omega)
    refine g_aload_n (pc := 48) hC 1 dX5_add_48 rfl rfl ?_
    refine g_get (pc := 49) hC 0 fl_X5_21 dX5_add_49 rfl rfl ?_
    refine g_iload (pc := 52) hC 0 dX5_add_52 rfl ?_
    refine g_iload (pc := 54) hC 5 dX5_add_54 rfl ?_
    refine g_iast (pc := 56) hC 4 (fun f9 => [_, _, _, _, cA K _ _ f9, _, _]) dX5_add_56 rfl (by omega) (fun _ => rfl) (fun f4 e_f4 => ?_)
    have r_f4 := rng_up e_f4 r_st (by omega)
    refine g_aload_n (pc := 57) hC 1 dX5_add_57 rfl rfl ?_
    refine g_dup (pc := 58) hC dX5_add_58 rfl ?_
    refine g_get (pc := 59) hC 0 fl_X5_30 dX5_add_59 rfl rfl ?_
    refine g_iconst (pc := 62) hC dX5_add_62 ?_
    refine g_iadd (pc := 63) hC dX5_add_63 ?_
    refine g_putI (pc := 64) hC 0 [cO _ _ [_, _, _, _, _, _, _, _, _], _, _, _, _, _, _] fl_X5_30 dX5_add_64 rfl (Nat.le_of_ble_eq_true rfl) rfl ?_
    refine g_iload (pc := 67) hC 0 dX5_add_67 rfl ?_
    exact g_iret (pc := 69) hR dX5_add_69 rfl ⟨by omega, by omega⟩ (Nat.le_of_ble_eq_true rfl) ⟨f1, f2, f3, f4, cn + 1, ret_eq (by omega), rfl, (by first | assumption | omega), (by first | assumption | omega), (by first | assumption | omega), (by first | assumption | omega), (by first | assumption | omega), (by rw [if_neg (by omega)]; exact cs_add hg hR9 hr2 (by omega) e_f1 e_f2 e_f3 e_f4)⟩
  · refine g_iconst (pc := 16) hC dX5_add_16 ?_
    exact g_iret (pc := 17) hR dX5_add_17 rfl ⟨by omega, by omega⟩ (Nat.le_of_ble_eq_true rfl) ⟨kd, nb, rm, st, cn, ret_eq (by omega), rfl, (by first | assumption | omega), (by first | assumption | omega), (by first | assumption | omega), (by first | assumption | omega), (by first | assumption | omega), (by rw [if_pos (by omega)]; exact hR9)⟩
set_option maxHeartbeats 4000000 in
set_option maxRecDepth 100000 in
theorem k_X5_copyFrom {K : gK} (h1 : Nat) (h0 : Nat) (j0 : Nat) (j1 : Nat) (j2 : Nat) (j3 : Nat) (j4 : Nat) (j5 : Nat) (k0 : Nat) (k1 : Nat) (k2 : Nat) (k3 : Nat) (k4 : Nat) (k5 : Nat) (aw0 : Int) (cn0 : Int) (sp0 : Int) (aw : Int) (cn : Int) (sp : Int) (kd0 : Int → Int) (nb0 : Int → Int) (rm0 : Int → Int) (st0 : Int → Int) (rw0 : Int → Int) (nx0 : Int → Int) (kd : Int → Int) (nb : Int → Int) (rm : Int → Int) (st : Int → Int) (rw : Int → Int) (nx : Int → Int) (s : Int → Int) (r_aw0 : rI aw0) (r_cn0 : rI cn0) (r_sp0 : rI sp0) (r_aw : rI aw) (r_cn : rI cn) (r_sp : rI sp) (r_kd0 : ∀ j, rI (kd0 j)) (r_nb0 : ∀ j, rI (nb0 j)) (r_rm0 : ∀ j, rI (rm0 j)) (r_st0 : ∀ j, rI (st0 j)) (r_rw0 : ∀ j, rI (rw0 j)) (r_nx0 : ∀ j, rI (nx0 j)) (r_kd : ∀ j, rI (kd j)) (r_nb : ∀ j, rI (nb j)) (r_rm : ∀ j, rI (rm j)) (r_st : ∀ j, rI (st j)) (r_rw : ∀ j, rI (rw j)) (r_nx : ∀ j, rI (nx j)) (hg : md_rg s) (hR9 : cs_R s kd nb rm st rw nx aw cn sp) (hn0 : ∀ p, 0 ≤ p → p < 6 → 0 ≤ nx0 p ∧ nx0 p ≤ 9) : gMet K yX5_copyFrom cX5_copyFrom 2 none 1 0 0 [.ref h1, .ref h0] [cO h1 5 [.ref j0, .ref j1, .ref j2, .ref j3, .ref j4, .ref j5, .int (iI aw0), .int (iI cn0), .int (iI sp0)], cA K j0 6 kd0, cA K j1 6 nb0, cA K j2 6 rm0, cA K j3 6 st0, cA K j4 24 rw0, cA K j5 6 nx0, cO h0 5 [.ref k0, .ref k1, .ref k2, .ref k3, .ref k4, .ref k5, .int (iI aw), .int (iI cn), .int (iI sp)], cA K k0 6 kd, cA K k1 6 nb, cA K k2 6 rm, cA K k3 6 st, cA K k4 24 rw, cA K k5 6 nx] (fun v9 w9 => ∃ (kd2 : Int → Int), ∃ (nb2 : Int → Int), ∃ (rm2 : Int → Int), ∃ (st2 : Int → Int), ∃ (rw2 : Int → Int), v9 = none ∧ w9 = [cO h1 5 [.ref j0, .ref j1, .ref j2, .ref j3, .ref j4, .ref j5, .int (iI aw), .int (iI cn), .int (iI sp)], cA K j0 6 kd2, cA K j1 6 nb2, cA K j2 6 rm2, cA K j3 6 st2, cA K j4 24 rw2, cA K j5 6 nx0, cO h0 5 [.ref k0, .ref k1, .ref k2, .ref k3, .ref k4, .ref k5, .int (iI aw), .int (iI cn), .int (iI sp)], cA K k0 6 kd, cA K k1 6 nb, cA K k2 6 rm, cA K k3 6 st, cA K k4 24 rw, cA K k5 6 nx] ∧ (∀ j, rI (kd2 j)) ∧ (∀ j, rI (nb2 j)) ∧ (∀ j, rI (rm2 j)) ∧ (∀ j, rI (st2 j)) ∧ (∀ j, rI (rw2 j)) ∧ (cs_R s kd2 nb2 rm2 st2 rw2 nx0 aw cn sp)) := by
  refine g_enter (by decide +kernel) (Nat.le_of_ble_eq_true rfl) (fun G hC hR => ?_)
  refine g_lv hC [0, 1] [(0, _), (1, _)] rfl ?_
  have h19 := hg.2.2.1
  have hg0 := hg.2.2.2
  have hcs := hR9.1
  refine g_aload_n (pc := 0) hC 1 dX5_copyFrom_0 rfl rfl ?_
  refine g_get (pc := 1) hC 7 fl_X5_9 dX5_copyFrom_1 rfl rfl ?_
  refine g_iconst (pc := 4) hC dX5_copyFrom_4 ?_
  refine g_aload_n (pc := 5) hC 0 dX5_copyFrom_5 rfl rfl ?_
  refine g_get (pc := 6) hC 0 fl_X5_9 dX5_copyFrom_6 rfl rfl ?_
  refine g_iconst (pc := 9) hC dX5_copyFrom_9 ?_
  refine g_bipush (pc := 10) hC (6) dX5_copyFrom_10 (by decide) ?_
  refine g_copy (pc := 12) hC 8 1 (fun f9 => [_, cA K _ _ f9, _, _, _, _, _, _, _, _, _, _, _, _]) wm_X5_37 (Nat.le_of_ble_eq_true rfl) (by decide) dX5_copyFrom_12 rfl rfl (by omega) (fun _ => rfl) (fun f1 e_f1 => ?_)
  have r_f1 := rng_cp e_f1 r_kd r_kd0
  refine g_aload_n (pc := 15) hC 1 dX5_copyFrom_15 rfl rfl ?_
  refine g_get (pc := 16) hC 7 fl_X5_15 dX5_copyFrom_16 rfl rfl ?_
  refine g_iconst (pc := 19) hC dX5_copyFrom_19 ?_
  refine g_aload_n (pc := 20) hC 0 dX5_copyFrom_20 rfl rfl ?_
  refine g_get (pc := 21) hC 0 fl_X5_15 dX5_copyFrom_21 rfl rfl ?_
  refine g_iconst (pc := 24) hC dX5_copyFrom_24 ?_
  refine g_bipush (pc := 25) hC (6) dX5_copyFrom_25 (by decide) ?_
  refine g_copy (pc := 27) hC 9 2 (fun f9 => [_, _, cA K _ _ f9, _, _, _, _, _, _, _, _, _, _, _]) wm_X5_37 (Nat.le_of_ble_eq_true rfl) (by decide) dX5_copyFrom_27 rfl rfl (by omega) (fun _ => rfl) (fun f2 e_f2 => ?_)
  have r_f2 := rng_cp e_f2 r_nb r_nb0
  refine g_aload_n (pc := 30) hC 1 dX5_copyFrom_30 rfl rfl ?_
  refine g_get (pc := 31) hC 7 fl_X5_18 dX5_copyFrom_31 rfl rfl ?_
  refine g_iconst (pc := 34) hC dX5_copyFrom_34 ?_
  refine g_aload_n (pc := 35) hC 0 dX5_copyFrom_35 rfl rfl ?_
  refine g_get (pc := 36) hC 0 fl_X5_18 dX5_copyFrom_36 rfl rfl ?_
  refine g_iconst (pc := 39) hC dX5_copyFrom_39 ?_
  refine g_bipush (pc := 40) hC (6) dX5_copyFrom_40 (by decide) ?_
  refine g_copy (pc := 42) hC 10 3 (fun f9 => [_, _, _, cA K _ _ f9, _, _, _, _, _, _, _, _, _, _]) wm_X5_37 (Nat.le_of_ble_eq_true rfl) (by decide) dX5_copyFrom_42 rfl rfl (by omega) (fun _ => rfl) (fun f3 e_f3 => ?_)
  have r_f3 := rng_cp e_f3 r_rm r_rm0
  refine g_aload_n (pc := 45) hC 1 dX5_copyFrom_45 rfl rfl ?_
  refine g_get (pc := 46) hC 7 fl_X5_21 dX5_copyFrom_46 rfl rfl ?_
  refine g_iconst (pc := 49) hC dX5_copyFrom_49 ?_
  refine g_aload_n (pc := 50) hC 0 dX5_copyFrom_50 rfl rfl ?_
  refine g_get (pc := 51) hC 0 fl_X5_21 dX5_copyFrom_51 rfl rfl ?_
  refine g_iconst (pc := 54) hC dX5_copyFrom_54 ?_
  refine g_bipush (pc := 55) hC (6) dX5_copyFrom_55 (by decide) ?_
  refine g_copy (pc := 57) hC 11 4 (fun f9 => [_, _, _, _, cA K _ _ f9, _, _, _, _, _, _, _, _, _]) wm_X5_37 (Nat.le_of_ble_eq_true rfl) (by decide) dX5_copyFrom_57 rfl rfl (by omega) (fun _ => rfl) (fun f4 e_f4 => ?_)
  have r_f4 := rng_cp e_f4 r_st r_st0
  refine g_aload_n (pc := 60) hC 1 dX5_copyFrom_60 rfl rfl ?_
  refine g_get (pc := 61) hC 7 fl_X5_24 dX5_copyFrom_61 rfl rfl ?_
  refine g_iconst (pc := 64) hC dX5_copyFrom_64 ?_
  refine g_aload_n (pc := 65) hC 0 dX5_copyFrom_65 rfl rfl ?_
  refine g_get (pc := 66) hC 0 fl_X5_24 dX5_copyFrom_66 rfl rfl ?_
  refine g_iconst (pc := 69) hC dX5_copyFrom_69 ?_
  refine g_bipush (pc := 70) hC (24) dX5_copyFrom_70 (by decide) ?_
  refine g_copy (pc := 72) hC 12 5 (fun f9 => [_, _, _, _, _, cA K _ _ f9, _, _, _, _, _, _, _, _]) wm_X5_37 (Nat.le_of_ble_eq_true rfl) (by decide) dX5_copyFrom_72 rfl rfl (by omega) (fun _ => rfl) (fun f5 e_f5 => ?_)
  have r_f5 := rng_cp e_f5 r_rw r_rw0
  refine g_aload_n (pc := 75) hC 0 dX5_copyFrom_75 rfl rfl ?_
  refine g_aload_n (pc := 76) hC 1 dX5_copyFrom_76 rfl rfl ?_
  refine g_get (pc := 77) hC 7 fl_X5_34 dX5_copyFrom_77 rfl rfl ?_
  refine g_putI (pc := 80) hC 0 [cO _ _ [_, _, _, _, _, _, _, _, _], _, _, _, _, _, _, _, _, _, _, _, _, _] fl_X5_34 dX5_copyFrom_80 rfl (Nat.le_of_ble_eq_true rfl) rfl ?_
  refine g_aload_n (pc := 83) hC 0 dX5_copyFrom_83 rfl rfl ?_
  refine g_aload_n (pc := 84) hC 1 dX5_copyFrom_84 rfl rfl ?_
  refine g_get (pc := 85) hC 7 fl_X5_30 dX5_copyFrom_85 rfl rfl ?_
  refine g_putI (pc := 88) hC 0 [cO _ _ [_, _, _, _, _, _, _, _, _], _, _, _, _, _, _, _, _, _, _, _, _, _] fl_X5_30 dX5_copyFrom_88 rfl (Nat.le_of_ble_eq_true rfl) rfl ?_
  refine g_aload_n (pc := 91) hC 0 dX5_copyFrom_91 rfl rfl ?_
  refine g_aload_n (pc := 92) hC 1 dX5_copyFrom_92 rfl rfl ?_
  refine g_get (pc := 93) hC 7 fl_X5_43 dX5_copyFrom_93 rfl rfl ?_
  refine g_putI (pc := 96) hC 0 [cO _ _ [_, _, _, _, _, _, _, _, _], _, _, _, _, _, _, _, _, _, _, _, _, _] fl_X5_43 dX5_copyFrom_96 rfl (Nat.le_of_ble_eq_true rfl) rfl ?_
  exact g_vret (pc := 99) hR dX5_copyFrom_99 rfl ⟨by omega, by omega⟩ (Nat.le_of_ble_eq_true rfl) ⟨f1, f2, f3, f4, f5, rfl, rfl, (by first | assumption | omega), (by first | assumption | omega), (by first | assumption | omega), (by first | assumption | omega), (by first | assumption | omega), (cs_copy hR9 (cp_at e_f1) (cp_at e_f2) (cp_at e_f3) (cp_at e_f4) (cp_at e_f5) hn0 h19.2)⟩
set_option maxHeartbeats 4000000 in
set_option maxRecDepth 100000 in
theorem k_X5_change {K : gK} (h0 : Nat) (k0 : Nat) (k1 : Nat) (k2 : Nat) (k3 : Nat) (k4 : Nat) (k5 : Nat) (p : Int) (w : Int) (x : Int) (aw : Int) (cn : Int) (sp : Int) (kd : Int → Int) (nb : Int → Int) (rm : Int → Int) (st : Int → Int) (rw : Int → Int) (nx : Int → Int) (s : Int → Int) (r_p : rI p) (r_w : rI w) (r_x : rI x) (r_aw : rI aw) (r_cn : rI cn) (r_sp : rI sp) (r_kd : ∀ j, rI (kd j)) (r_nb : ∀ j, rI (nb j)) (r_rm : ∀ j, rI (rm j)) (r_st : ∀ j, rI (st j)) (r_rw : ∀ j, rI (rw j)) (r_nx : ∀ j, rI (nx j)) (hg : md_rg s) (hR9 : cs_R s kd nb rm st rw nx aw cn sp) (hx : 0 ≤ x ∧ x ≤ 9) : gMet K yX5_change cX5_change 4 none 1 0 0 [.ref h0, .int (iI p), .int (iI w), .int (iI x)] [cO h0 5 [.ref k0, .ref k1, .ref k2, .ref k3, .ref k4, .ref k5, .int (iI aw), .int (iI cn), .int (iI sp)], cA K k0 6 kd, cA K k1 6 nb, cA K k2 6 rm, cA K k3 6 st, cA K k4 24 rw, cA K k5 6 nx] (fun v9 w9 => ∃ (nb2 : Int → Int), ∃ (rm2 : Int → Int), ∃ (st2 : Int → Int), v9 = none ∧ w9 = [cO h0 5 [.ref k0, .ref k1, .ref k2, .ref k3, .ref k4, .ref k5, .int (iI aw), .int (iI cn), .int (iI sp)], cA K k0 6 kd, cA K k1 6 nb2, cA K k2 6 rm2, cA K k3 6 st2, cA K k4 24 rw, cA K k5 6 nx] ∧ (∀ j, rI (nb2 j)) ∧ (∀ j, rI (rm2 j)) ∧ (∀ j, rI (st2 j)) ∧ (cs_R (if 0 ≤ p ∧ p < s 19 then upI s (cx_w w + p) x else s) kd nb2 rm2 st2 rw nx aw cn sp)) := by
  refine g_enter (by decide +kernel) (Nat.le_of_ble_eq_true rfl) (fun G hC hR => ?_)
  refine g_lv hC [0, 1, 2, 3] [(0, _), (1, _), (2, _), (3, _)] rfl ?_
  have h19 := hg.2.2.1
  have hg0 := hg.2.2.2
  have hcs := hR9.1
  refine g_aload_n (pc := 0) hC 0 dX5_change_0 rfl rfl ?_
  refine g_iload_n (pc := 1) hC 1 dX5_change_1 rfl rfl ?_
  refine g_fnV (pc := 2) (qr := 0) hC [0] (k_X5_has _ _ _ _ _ _ _ _ _ _ _ (by first | assumption | omega) (by first | assumption | omega)) cl_X5_has wm_X5_46 dX5_change_2 rfl rfl rfl rfl rfl (by decide) (by decide) ⟨by omega, by omega⟩ (Nat.le_of_ble_eq_true rfl) rfl rfl ?_
  refine g_name hC (fun x1 e_x1 => ?_)
  refine g_if_ne (pc := 5) hC 9 dX5_change_5 (by decide) (by omega) (fun c5 => ?_) (fun c5 => ?_)
  · refine g_iload_n (pc := 9) hC 2 dX5_change_9 rfl rfl ?_
    refine g_if_ne (pc := 10) hC 23 dX5_change_10 (by decide) (by omega) (fun c10 => ?_) (fun c10 => ?_)
    · refine g_iload_n (pc := 23) hC 2 dX5_change_23 rfl rfl ?_
      refine g_iconst (pc := 24) hC dX5_change_24 ?_
      refine g_icmp_ne (pc := 25) hC 38 dX5_change_25 (by decide) (by omega) (by omega) (fun c25 => ?_) (fun c25 => ?_)
      · refine g_aload_n (pc := 38) hC 0 dX5_change_38 rfl rfl ?_
        refine g_get (pc := 39) hC 0 fl_X5_15 dX5_change_39 rfl rfl ?_
        refine g_iload_n (pc := 42) hC 1 dX5_change_42 rfl rfl ?_
        refine g_iload_n (pc := 43) hC 3 dX5_change_43 rfl rfl ?_
        refine g_iast (pc := 44) hC 2 (fun f9 => [_, _, cA K _ _ f9, _, _, _, _]) dX5_change_44 rfl (by omega) (fun _ => rfl) (fun f3 e_f3 => ?_)
        have r_f3 := rng_up e_f3 r_nb (by omega)
        exact g_vret (pc := 45) hR dX5_change_45 rfl ⟨by omega, by omega⟩ (Nat.le_of_ble_eq_true rfl) ⟨f3, rm, st, rfl, rfl, (by first | assumption | omega), (by first | assumption | omega), (by first | assumption | omega), (by rw [if_pos (by omega)]; unfold cx_w; rw [if_neg (by omega), if_neg (by omega), e_f3]; exact (cs_ch hg hR9 (by omega) hx).2.2)⟩
      · refine g_aload_n (pc := 28) hC 0 dX5_change_28 rfl rfl ?_
        refine g_get (pc := 29) hC 0 fl_X5_21 dX5_change_29 rfl rfl ?_
        refine g_iload_n (pc := 32) hC 1 dX5_change_32 rfl rfl ?_
        refine g_iload_n (pc := 33) hC 3 dX5_change_33 rfl rfl ?_
        refine g_iast (pc := 34) hC 4 (fun f9 => [_, _, _, _, cA K _ _ f9, _, _]) dX5_change_34 rfl (by omega) (fun _ => rfl) (fun f2 e_f2 => ?_)
        have r_f2 := rng_up e_f2 r_st (by omega)
        refine g_goto (pc := 35) hC 45 dX5_change_35 (by decide) ?_
        exact g_vret (pc := 45) hR dX5_change_45 rfl ⟨by omega, by omega⟩ (Nat.le_of_ble_eq_true rfl) ⟨nb, rm, f2, rfl, rfl, (by first | assumption | omega), (by first | assumption | omega), (by first | assumption | omega), (by rw [if_pos (by omega)]; unfold cx_w; rw [if_neg (by omega), if_pos (by omega), e_f2]; exact (cs_ch hg hR9 (by omega) hx).2.1)⟩
    · refine g_aload_n (pc := 13) hC 0 dX5_change_13 rfl rfl ?_
      refine g_get (pc := 14) hC 0 fl_X5_18 dX5_change_14 rfl rfl ?_
      refine g_iload_n (pc := 17) hC 1 dX5_change_17 rfl rfl ?_
      refine g_iload_n (pc := 18) hC 3 dX5_change_18 rfl rfl ?_
      refine g_iast (pc := 19) hC 3 (fun f9 => [_, _, _, cA K _ _ f9, _, _, _]) dX5_change_19 rfl (by omega) (fun _ => rfl) (fun f1 e_f1 => ?_)
      have r_f1 := rng_up e_f1 r_rm (by omega)
      refine g_goto (pc := 20) hC 45 dX5_change_20 (by decide) ?_
      exact g_vret (pc := 45) hR dX5_change_45 rfl ⟨by omega, by omega⟩ (Nat.le_of_ble_eq_true rfl) ⟨nb, f1, st, rfl, rfl, (by first | assumption | omega), (by first | assumption | omega), (by first | assumption | omega), (by rw [if_pos (by omega)]; unfold cx_w; rw [if_pos (by omega), e_f1]; exact (cs_ch hg hR9 (by omega) hx).1)⟩
  · exact g_vret (pc := 8) hR dX5_change_8 rfl ⟨by omega, by omega⟩ (Nat.le_of_ble_eq_true rfl) ⟨nb, rm, st, rfl, rfl, (by first | assumption | omega), (by first | assumption | omega), (by first | assumption | omega), (by rw [if_neg (by omega)]; exact hR9)⟩
set_option maxHeartbeats 4000000 in
set_option maxRecDepth 100000 in
theorem k_X5_send {K : gK} (h0 : Nat) (k0 : Nat) (k1 : Nat) (k2 : Nat) (k3 : Nat) (k4 : Nat) (k5 : Nat) (p : Int) (z : Int) (aw : Int) (cn : Int) (sp : Int) (kd : Int → Int) (nb : Int → Int) (rm : Int → Int) (st : Int → Int) (rw : Int → Int) (nx : Int → Int) (s : Int → Int) (r_p : rI p) (r_z : rI z) (r_aw : rI aw) (r_cn : rI cn) (r_sp : rI sp) (r_kd : ∀ j, rI (kd j)) (r_nb : ∀ j, rI (nb j)) (r_rm : ∀ j, rI (rm j)) (r_st : ∀ j, rI (st j)) (r_rw : ∀ j, rI (rw j)) (r_nx : ∀ j, rI (nx j)) (hg : md_rg s) (hR9 : cs_R s kd nb rm st rw nx aw cn sp) (hz : z = 0 ∨ z = 1) : gMet K yX5_send cX5_send 3 none 1 0 0 [.ref h0, .int (iI p), .int (iI z)] [cO h0 5 [.ref k0, .ref k1, .ref k2, .ref k3, .ref k4, .ref k5, .int (iI aw), .int (iI cn), .int (iI sp)], cA K k0 6 kd, cA K k1 6 nb, cA K k2 6 rm, cA K k3 6 st, cA K k4 24 rw, cA K k5 6 nx] (fun v9 w9 => ∃ (aw2 : Int), v9 = none ∧ w9 = [cO h0 5 [.ref k0, .ref k1, .ref k2, .ref k3, .ref k4, .ref k5, .int (iI aw2), .int (iI cn), .int (iI sp)], cA K k0 6 kd, cA K k1 6 nb, cA K k2 6 rm, cA K k3 6 st, cA K k4 24 rw, cA K k5 6 nx] ∧ rI aw2 ∧ (cs_R (if 0 ≤ p ∧ p < s 19 then upI s (7 + p) z else s) kd nb rm st rw nx aw2 cn sp)) := by
  refine g_enter (by decide +kernel) (Nat.le_of_ble_eq_true rfl) (fun G hC hR => ?_)
  refine g_lv hC [0, 1, 2] [(0, _), (1, _), (2, _)] rfl ?_
  have h19 := hg.2.2.1
  have hg0 := hg.2.2.2
  have hcs := hR9.1
  refine g_aload_n (pc := 0) hC 0 dX5_send_0 rfl rfl ?_
  refine g_iload_n (pc := 1) hC 1 dX5_send_1 rfl rfl ?_
  refine g_fnV (pc := 2) (qr := 0) hC [0] (k_X5_has _ _ _ _ _ _ _ _ _ _ _ (by first | assumption | omega) (by first | assumption | omega)) cl_X5_has wm_X5_46 dX5_send_2 rfl rfl rfl rfl rfl (by decide) (by decide) ⟨by omega, by omega⟩ (Nat.le_of_ble_eq_true rfl) rfl rfl ?_
  refine g_name hC (fun x1 e_x1 => ?_)
  refine g_if_eq (pc := 5) hC 37 dX5_send_5 (by decide) (by omega) (fun c5 => ?_) (fun c5 => ?_)
  · exact g_vret (pc := 37) hR dX5_send_37 rfl ⟨by omega, by omega⟩ (Nat.le_of_ble_eq_true rfl) ⟨aw, rfl, rfl, (by first | assumption | omega), (by rw [if_neg (by omega)]; exact hR9)⟩
  · refine g_aload_n (pc := 8) hC 0 dX5_send_8 rfl rfl ?_
    refine g_iload_n (pc := 9) hC 2 dX5_send_9 rfl rfl ?_
    refine g_if_eq (pc := 10) hC 24 dX5_send_10 (by decide) (by omega) (fun c10 => ?_) (fun c10 => ?_)
    · refine g_aload_n (pc := 24) hC 0 dX5_send_24 rfl rfl ?_
      refine g_get (pc := 25) hC 0 fl_X5_34 dX5_send_25 rfl rfl ?_
      refine g_iconst (pc := 28) hC dX5_send_28 ?_
      refine g_iload_n (pc := 29) hC 1 dX5_send_29 rfl rfl ?_
      refine g_ishl (pc := 30) hC dX5_send_30 ?_
      refine g_iconst (pc := 31) hC dX5_send_31 ?_
      refine g_ixor (pc := 32) hC dX5_send_32 ?_
      refine g_iand (pc := 33) hC dX5_send_33 ?_
      have qaw := bAnd_rng aw (bXor (bShl 1 p) (-1))
      refine g_putI (pc := 34) hC 0 [cO _ _ [_, _, _, _, _, _, _, _, _], _, _, _, _, _, _] fl_X5_34 dX5_send_34 rfl (Nat.le_of_ble_eq_true rfl) rfl ?_
      exact g_vret (pc := 37) hR dX5_send_37 rfl ⟨by omega, by omega⟩ (Nat.le_of_ble_eq_true rfl) ⟨bAnd aw (bXor (bShl 1 p) (-1)), rfl, rfl, (by first | assumption | omega), (by rw [if_pos (by omega)]; exact cs_aw hg hR9 (by omega) (bt_1 ⟨hcs.2.2.1, hcs.2.2.2⟩ (p := p) (by omega)).2.1 (fun q h1 h2 => by rw [show z = 0 by omega]; exact bt_2 ⟨hcs.2.2.1, hcs.2.2.2⟩ (by omega) ⟨h1, h2⟩))⟩
    · refine g_aload_n (pc := 13) hC 0 dX5_send_13 rfl rfl ?_
      refine g_get (pc := 14) hC 0 fl_X5_34 dX5_send_14 rfl rfl ?_
      refine g_iconst (pc := 17) hC dX5_send_17 ?_
      refine g_iload_n (pc := 18) hC 1 dX5_send_18 rfl rfl ?_
      refine g_ishl (pc := 19) hC dX5_send_19 ?_
      refine g_ior (pc := 20) hC dX5_send_20 ?_
      refine g_goto (pc := 21) hC 34 dX5_send_21 (by decide) ?_
      have qaw := bOr_rng aw (bShl 1 p)
      refine g_putI (pc := 34) hC 0 [cO _ _ [_, _, _, _, _, _, _, _, _], _, _, _, _, _, _] fl_X5_34 dX5_send_34 rfl (Nat.le_of_ble_eq_true rfl) rfl ?_
      exact g_vret (pc := 37) hR dX5_send_37 rfl ⟨by omega, by omega⟩ (Nat.le_of_ble_eq_true rfl) ⟨bOr aw (bShl 1 p), rfl, rfl, (by first | assumption | omega), (by rw [if_pos (by omega)]; exact cs_aw hg hR9 (by omega) (bt_4 ⟨hcs.2.2.1, hcs.2.2.2⟩ (p := p) (by omega)).1 (fun q h1 h2 => by rw [show z = 1 by omega]; exact (bt_4 ⟨hcs.2.2.1, hcs.2.2.2⟩ (p := p) (by omega)).2 q h1 h2))⟩
set_option maxHeartbeats 4000000 in
set_option maxRecDepth 100000 in
theorem k_X5_unlikeStates {K : gK} (h0 : Nat) (k0 : Nat) (k1 : Nat) (k2 : Nat) (k3 : Nat) (k4 : Nat) (k5 : Nat) (aw : Int) (cn : Int) (sp : Int) (kd : Int → Int) (nb : Int → Int) (rm : Int → Int) (st : Int → Int) (rw : Int → Int) (nx : Int → Int) (s : Int → Int) (r_aw : rI aw) (r_cn : rI cn) (r_sp : rI sp) (r_kd : ∀ j, rI (kd j)) (r_nb : ∀ j, rI (nb j)) (r_rm : ∀ j, rI (rm j)) (r_st : ∀ j, rI (st j)) (r_rw : ∀ j, rI (rw j)) (r_nx : ∀ j, rI (nx j)) (hg : md_rg s) (hR9 : cs_R s kd nb rm st rw nx aw cn sp) : gFn K yX5_unlikeStates cX5_unlikeStates 3 (some .int) 1 [.ref h0] [cO h0 5 [.ref k0, .ref k1, .ref k2, .ref k3, .ref k4, .ref k5, .int (iI aw), .int (iI cn), .int (iI sp)], cA K k0 6 kd, cA K k1 6 nb, cA K k2 6 rm, cA K k3 6 st, cA K k4 24 rw, cA K k5 6 nx] (md_unl s) := by
  refine g_enter (by decide +kernel) (Nat.le_of_ble_eq_true rfl) (fun G hC hR => ?_)
  refine g_lv hC [0] [(0, _)] rfl ?_
  have h19 := hg.2.2.1
  have hg0 := hg.2.2.2
  have hcs := hR9.1
  refine g_iconst (pc := 0) hC dX5_unlikeStates_0 ?_
  refine g_istore_n (pc := 1) hC [(1, _), (0, _)] dX5_unlikeStates_1 rfl (by decide) rfl ?_
  refine g_iconst (pc := 2) hC dX5_unlikeStates_2 ?_
  refine g_istore_n (pc := 3) hC [(2, _), (1, _), (0, _)] dX5_unlikeStates_3 rfl (by decide) rfl ?_
  have L4 : ∀ (n1 : Nat) (x : Int) (i : Int) (j : Nat), (rI x) → (rI i) → (i = (j : Int)) → (i ≤ s 19) → (x = md_set s j) → s 19 - i < (n1 : Int) → G 0 0 4 [(0, .ref h0), (1, .int (iI x)), (2, .int (iI i))] [] [cO h0 5 [.ref k0, .ref k1, .ref k2, .ref k3, .ref k4, .ref k5, .int (iI aw), .int (iI cn), .int (iI sp)], cA K k0 6 kd, cA K k1 6 nb, cA K k2 6 rm, cA K k3 6 st, cA K k4 24 rw, cA K k5 6 nx] := by
    intro n1
    induction n1 with
    | zero => intro x i j r_x r_i hi hj hx hm4; exfalso; omega
    | succ n1 ih4 =>
      intro x i j r_x r_i hi hj hx hm4
      refine g_iload_n (pc := 4) hC 2 dX5_unlikeStates_4 rfl rfl ?_
      refine g_aload_n (pc := 5) hC 0 dX5_unlikeStates_5 rfl rfl ?_
      refine g_get (pc := 6) hC 0 fl_X5_30 dX5_unlikeStates_6 rfl rfl ?_
      refine g_icmp_ge (pc := 9) hC 47 dX5_unlikeStates_9 (by decide) (by omega) (by omega) (fun c9 => ?_) (fun c9 => ?_)
      · have hj9 : (s 19).toNat = j := by omega
        refine g_iload_n (pc := 47) hC 1 dX5_unlikeStates_47 rfl rfl ?_
        refine g_fnS (pc := 48) hC [] (k_J6_bitCount_0f7a4 _ ) cl_J6_bitCount_0f7a4 wm_X5_66 dX5_unlikeStates_48 rfl rfl (by decide) (by decide) ⟨by omega, by omega⟩ (Nat.le_of_ble_eq_true rfl) rfl rfl ?_
        exact g_iret (pc := 51) hR dX5_unlikeStates_51 rfl ⟨by omega, by omega⟩ (Nat.le_of_ble_eq_true rfl) ⟨ret_eq (by rw [jb10_at (by rw [hx]; exact cs_set_rng hg j (by omega))]; unfold md_unl; rw [hj9, ← hx]), rfl⟩
      · refine g_iload_n (pc := 12) hC 2 dX5_unlikeStates_12 rfl rfl ?_
        refine g_bipush (pc := 13) hC (6) dX5_unlikeStates_13 (by decide) ?_
        refine g_icmp_ge (pc := 15) hC 47 dX5_unlikeStates_15 (by decide) (by omega) (by omega) (fun c15 => by exfalso; omega) (fun c15 => ?_)
        refine g_iload_n (pc := 18) hC 1 dX5_unlikeStates_18 rfl rfl ?_
        refine g_aload_n (pc := 19) hC 0 dX5_unlikeStates_19 rfl rfl ?_
        refine g_iload_n (pc := 20) hC 2 dX5_unlikeStates_20 rfl rfl ?_
        refine g_fnV (pc := 21) (qr := 0) hC [0] (k_X5_isAway _ _ _ _ _ _ _ _ _ _ _ (by first | assumption | omega) (by first | assumption | omega)) cl_X5_isAway wm_X5_63 dX5_unlikeStates_21 rfl rfl rfl rfl rfl (by decide) (by decide) ⟨by omega, by omega⟩ (Nat.le_of_ble_eq_true rfl) rfl rfl ?_
        refine g_name hC (fun x3 e_x3 => ?_)
        have hci := hR9.2.1 i (by omega) (by omega)
        refine g_if_eq (pc := 24) hC 31 dX5_unlikeStates_24 (by decide) (by omega) (fun c24 => ?_) (fun c24 => ?_)
        · refine g_iconst (pc := 31) hC dX5_unlikeStates_31 ?_
          refine g_aload_n (pc := 32) hC 0 dX5_unlikeStates_32 rfl rfl ?_
          refine g_get (pc := 33) hC 0 fl_X5_21 dX5_unlikeStates_33 rfl rfl ?_
          refine g_iload_n (pc := 36) hC 2 dX5_unlikeStates_36 rfl rfl ?_
          refine g_iald (pc := 37) hC 4 dX5_unlikeStates_37 rfl (by omega) ?_
          have q4 := r_st i
          refine g_ishl (pc := 38) hC dX5_unlikeStates_38 ?_
          refine g_ior (pc := 39) hC dX5_unlikeStates_39 ?_
          refine g_istore_n (pc := 40) hC [(1, _), (0, _), (2, _)] dX5_unlikeStates_40 rfl (by decide) rfl ?_
          refine g_iinc (pc := 41) hC 2 [(2, _), (1, _), (0, _)] dX5_unlikeStates_41 rfl (by decide) rfl ?_
          refine g_goto (pc := 44) hC 4 dX5_unlikeStates_44 (by decide) ?_
          refine g_lv hC [2, 1, 0] [(0, _), (1, _), (2, _)] rfl ?_
          exact ih4 (bOr x (bShl 1 (st i))) (i + 1) (j + 1) (bOr_rng _ _) (by first | assumption | omega) (by first | assumption | omega) (by first | assumption | omega) (by rw [← md_set_s hi hx, if_pos (by omega), hci.2.2.2.1]) (by omega)
        · refine g_iconst (pc := 27) hC dX5_unlikeStates_27 ?_
          refine g_goto (pc := 28) hC 39 dX5_unlikeStates_28 (by decide) ?_
          refine g_ior (pc := 39) hC dX5_unlikeStates_39 ?_
          refine g_istore_n (pc := 40) hC [(1, _), (0, _), (2, _)] dX5_unlikeStates_40 rfl (by decide) rfl ?_
          refine g_iinc (pc := 41) hC 2 [(2, _), (1, _), (0, _)] dX5_unlikeStates_41 rfl (by decide) rfl ?_
          refine g_goto (pc := 44) hC 4 dX5_unlikeStates_44 (by decide) ?_
          refine g_lv hC [2, 1, 0] [(0, _), (1, _), (2, _)] rfl ?_
          exact ih4 (bOr x 0) (i + 1) (j + 1) (bOr_rng _ _) (by first | assumption | omega) (by first | assumption | omega) (by first | assumption | omega) (by rw [← md_set_s hi hx, if_neg (by omega)]) (by omega)
  refine g_lv hC [2, 1, 0] [(0, _), (1, _), (2, _)] rfl ?_
  exact L4 ((s 19 - 0 : Int).toNat + 1) 0 0 0 (by first | assumption | omega) (by first | assumption | omega) (by first | assumption | omega) (by first | assumption | omega) rfl (by omega)
set_option maxHeartbeats 4000000 in
set_option maxRecDepth 100000 in
theorem k_X5_present {K : gK} (h0 : Nat) (k0 : Nat) (k1 : Nat) (k2 : Nat) (k3 : Nat) (k4 : Nat) (k5 : Nat) (aw : Int) (cn : Int) (sp : Int) (kd : Int → Int) (nb : Int → Int) (rm : Int → Int) (st : Int → Int) (rw : Int → Int) (nx : Int → Int) (s : Int → Int) (r_aw : rI aw) (r_cn : rI cn) (r_sp : rI sp) (r_kd : ∀ j, rI (kd j)) (r_nb : ∀ j, rI (nb j)) (r_rm : ∀ j, rI (rm j)) (r_st : ∀ j, rI (st j)) (r_rw : ∀ j, rI (rw j)) (r_nx : ∀ j, rI (nx j)) (hg : md_rg s) (hR9 : cs_R s kd nb rm st rw nx aw cn sp) : gFn K yX5_present cX5_present 1 (some .int) 1 [.ref h0] [cO h0 5 [.ref k0, .ref k1, .ref k2, .ref k3, .ref k4, .ref k5, .int (iI aw), .int (iI cn), .int (iI sp)], cA K k0 6 kd, cA K k1 6 nb, cA K k2 6 rm, cA K k3 6 st, cA K k4 24 rw, cA K k5 6 nx] ((md_sm s (s 19).toNat).2) := by
  refine g_enter (by decide +kernel) (Nat.le_of_ble_eq_true rfl) (fun G hC hR => ?_)
  refine g_lv hC [0] [(0, _)] rfl ?_
  have h19 := hg.2.2.1
  have hg0 := hg.2.2.2
  have hcs := hR9.1
  refine g_aload_n (pc := 0) hC 0 dX5_present_0 rfl rfl ?_
  refine g_get (pc := 1) hC 0 fl_X5_30 dX5_present_1 rfl rfl ?_
  refine g_aload_n (pc := 4) hC 0 dX5_present_4 rfl rfl ?_
  refine g_get (pc := 5) hC 0 fl_X5_34 dX5_present_5 rfl rfl ?_
  refine g_fnS (pc := 8) hC [] (k_J6_bitCount_0f7a4 _ ) cl_J6_bitCount_0f7a4 wm_X5_66 dX5_present_8 rfl rfl (by decide) (by decide) ⟨by omega, by omega⟩ (Nat.le_of_ble_eq_true rfl) rfl rfl ?_
  refine g_isub (pc := 11) hC dX5_present_11 ?_
  exact g_iret (pc := 12) hR dX5_present_12 rfl ⟨by omega, by omega⟩ (Nat.le_of_ble_eq_true rfl) ⟨ret_eq (cs_present hg hR9), rfl⟩
set_option maxHeartbeats 4000000 in
set_option maxRecDepth 100000 in
theorem k_X5_sumOfStates {K : gK} (h0 : Nat) (k0 : Nat) (k1 : Nat) (k2 : Nat) (k3 : Nat) (k4 : Nat) (k5 : Nat) (z : Int) (aw : Int) (cn : Int) (sp : Int) (kd : Int → Int) (nb : Int → Int) (rm : Int → Int) (st : Int → Int) (rw : Int → Int) (nx : Int → Int) (s : Int → Int) (r_z : rI z) (r_aw : rI aw) (r_cn : rI cn) (r_sp : rI sp) (r_kd : ∀ j, rI (kd j)) (r_nb : ∀ j, rI (nb j)) (r_rm : ∀ j, rI (rm j)) (r_st : ∀ j, rI (st j)) (r_rw : ∀ j, rI (rw j)) (r_nx : ∀ j, rI (nx j)) (hg : md_rg s) (hR9 : cs_R s kd nb rm st rw nx aw cn sp) (hz : z = 0 ∨ z = 1) : gFn K yX5_sumOfStates cX5_sumOfStates 4 (some .int) 1 [.ref h0, .int (iI z)] [cO h0 5 [.ref k0, .ref k1, .ref k2, .ref k3, .ref k4, .ref k5, .int (iI aw), .int (iI cn), .int (iI sp)], cA K k0 6 kd, cA K k1 6 nb, cA K k2 6 rm, cA K k3 6 st, cA K k4 24 rw, cA K k5 6 nx] (if z = 0 then (md_sm s (s 19).toNat).1 else md_ss s (s 19).toNat) := by
  refine g_enter (by decide +kernel) (Nat.le_of_ble_eq_true rfl) (fun G hC hR => ?_)
  refine g_lv hC [0, 1] [(0, _), (1, _)] rfl ?_
  have h19 := hg.2.2.1
  have hg0 := hg.2.2.2
  have hcs := hR9.1
  refine g_iconst (pc := 0) hC dX5_sumOfStates_0 ?_
  refine g_istore_n (pc := 1) hC [(2, _), (0, _), (1, _)] dX5_sumOfStates_1 rfl (by decide) rfl ?_
  refine g_iconst (pc := 2) hC dX5_sumOfStates_2 ?_
  refine g_istore_n (pc := 3) hC [(3, _), (2, _), (0, _), (1, _)] dX5_sumOfStates_3 rfl (by decide) rfl ?_
  have L4 : ∀ (n1 : Nat) (x : Int) (i : Int) (j : Nat), (rI x) → (rI i) → (i = (j : Int)) → (i ≤ s 19) → (x = if z = 0 then (md_sm s j).1 else md_ss s j) → (0 ≤ x ∧ x ≤ 9 * i) → s 19 - i < (n1 : Int) → G 0 0 4 [(0, .ref h0), (1, .int (iI z)), (2, .int (iI x)), (3, .int (iI i))] [] [cO h0 5 [.ref k0, .ref k1, .ref k2, .ref k3, .ref k4, .ref k5, .int (iI aw), .int (iI cn), .int (iI sp)], cA K k0 6 kd, cA K k1 6 nb, cA K k2 6 rm, cA K k3 6 st, cA K k4 24 rw, cA K k5 6 nx] := by
    intro n1
    induction n1 with
    | zero => intro x i j r_x r_i hi hj hx hxr hm4; exfalso; omega
    | succ n1 ih4 =>
      intro x i j r_x r_i hi hj hx hxr hm4
      refine g_iload_n (pc := 4) hC 3 dX5_sumOfStates_4 rfl rfl ?_
      refine g_aload_n (pc := 5) hC 0 dX5_sumOfStates_5 rfl rfl ?_
      refine g_get (pc := 6) hC 0 fl_X5_30 dX5_sumOfStates_6 rfl rfl ?_
      refine g_icmp_ge (pc := 9) hC 49 dX5_sumOfStates_9 (by decide) (by omega) (by omega) (fun c9 => ?_) (fun c9 => ?_)
      · have hj9 : (s 19).toNat = j := by omega
        refine g_iload_n (pc := 49) hC 2 dX5_sumOfStates_49 rfl rfl ?_
        exact g_iret (pc := 50) hR dX5_sumOfStates_50 rfl ⟨by omega, by omega⟩ (Nat.le_of_ble_eq_true rfl) ⟨ret_eq (by rw [hj9]; exact hx), rfl⟩
      · have hci := hR9.2.1 i (by omega) (by omega)
        have hgi := (hg.1 i (by omega) (by omega)).1
        refine g_iload_n (pc := 12) hC 3 dX5_sumOfStates_12 rfl rfl ?_
        refine g_bipush (pc := 13) hC (6) dX5_sumOfStates_13 (by decide) ?_
        refine g_icmp_ge (pc := 15) hC 49 dX5_sumOfStates_15 (by decide) (by omega) (by omega) (fun c15 => by exfalso; omega) (fun c15 => ?_)
        refine g_iload_n (pc := 18) hC 2 dX5_sumOfStates_18 rfl rfl ?_
        refine g_iload_n (pc := 19) hC 1 dX5_sumOfStates_19 rfl rfl ?_
        refine g_if_ne (pc := 20) hC 31 dX5_sumOfStates_20 (by decide) (by omega) (fun c20 => ?_) (fun c20 => ?_)
        · refine g_aload_n (pc := 31) hC 0 dX5_sumOfStates_31 rfl rfl ?_
          refine g_get (pc := 32) hC 0 fl_X5_21 dX5_sumOfStates_32 rfl rfl ?_
          refine g_iload_n (pc := 35) hC 3 dX5_sumOfStates_35 rfl rfl ?_
          refine g_iald (pc := 36) hC 4 dX5_sumOfStates_36 rfl (by omega) ?_
          have q2 := r_st i
          refine g_goto (pc := 37) hC 41 dX5_sumOfStates_37 (by decide) ?_
          refine g_iadd (pc := 41) hC dX5_sumOfStates_41 ?_
          refine g_istore_n (pc := 42) hC [(2, _), (0, _), (1, _), (3, _)] dX5_sumOfStates_42 rfl (by decide) rfl ?_
          refine g_iinc (pc := 43) hC 3 [(3, _), (2, _), (0, _), (1, _)] dX5_sumOfStates_43 rfl (by decide) rfl ?_
          refine g_goto (pc := 46) hC 4 dX5_sumOfStates_46 (by decide) ?_
          refine g_lv hC [2, 3, 1, 0] [(0, _), (1, _), (2, _), (3, _)] rfl ?_
          exact ih4 (x + (st i)) (i + 1) (j + 1) (by first | assumption | omega) (by first | assumption | omega) (by first | assumption | omega) (by first | assumption | omega) (by rw [if_neg (by omega)] at hx ⊢; rw [hx, hci.2.2.2.1, hi]; rfl) (by first | assumption | omega) (by omega)
        · refine g_aload_n (pc := 23) hC 0 dX5_sumOfStates_23 rfl rfl ?_
          refine g_iload_n (pc := 24) hC 3 dX5_sumOfStates_24 rfl rfl ?_
          refine g_fnV (pc := 25) (qr := 0) hC [0] (k_X5_isAway _ _ _ _ _ _ _ _ _ _ _ (by first | assumption | omega) (by first | assumption | omega)) cl_X5_isAway wm_X5_63 dX5_sumOfStates_25 rfl rfl rfl rfl rfl (by decide) (by decide) ⟨by omega, by omega⟩ (Nat.le_of_ble_eq_true rfl) rfl rfl ?_
          refine g_name hC (fun x3 e_x3 => ?_)
          refine g_if_ne (pc := 28) hC 40 dX5_sumOfStates_28 (by decide) (by omega) (fun c28 => ?_) (fun c28 => ?_)
          · refine g_iconst (pc := 40) hC dX5_sumOfStates_40 ?_
            refine g_iadd (pc := 41) hC dX5_sumOfStates_41 ?_
            refine g_istore_n (pc := 42) hC [(2, _), (0, _), (1, _), (3, _)] dX5_sumOfStates_42 rfl (by decide) rfl ?_
            refine g_iinc (pc := 43) hC 3 [(3, _), (2, _), (0, _), (1, _)] dX5_sumOfStates_43 rfl (by decide) rfl ?_
            refine g_goto (pc := 46) hC 4 dX5_sumOfStates_46 (by decide) ?_
            refine g_lv hC [2, 3, 1, 0] [(0, _), (1, _), (2, _), (3, _)] rfl ?_
            exact ih4 (x + 0) (i + 1) (j + 1) (by first | assumption | omega) (by first | assumption | omega) (by first | assumption | omega) (by first | assumption | omega) (by rw [if_pos (by omega)] at hx ⊢; rw [hx, md_sm_s1 (by rw [← hi]; omega)]; omega) (by first | assumption | omega) (by omega)
          · refine g_aload_n (pc := 31) hC 0 dX5_sumOfStates_31 rfl rfl ?_
            refine g_get (pc := 32) hC 0 fl_X5_21 dX5_sumOfStates_32 rfl rfl ?_
            refine g_iload_n (pc := 35) hC 3 dX5_sumOfStates_35 rfl rfl ?_
            refine g_iald (pc := 36) hC 4 dX5_sumOfStates_36 rfl (by omega) ?_
            have q4 := r_st i
            refine g_goto (pc := 37) hC 41 dX5_sumOfStates_37 (by decide) ?_
            refine g_iadd (pc := 41) hC dX5_sumOfStates_41 ?_
            refine g_istore_n (pc := 42) hC [(2, _), (0, _), (1, _), (3, _)] dX5_sumOfStates_42 rfl (by decide) rfl ?_
            refine g_iinc (pc := 43) hC 3 [(3, _), (2, _), (0, _), (1, _)] dX5_sumOfStates_43 rfl (by decide) rfl ?_
            refine g_goto (pc := 46) hC 4 dX5_sumOfStates_46 (by decide) ?_
            refine g_lv hC [2, 3, 1, 0] [(0, _), (1, _), (2, _), (3, _)] rfl ?_
            exact ih4 (x + (st i)) (i + 1) (j + 1) (by first | assumption | omega) (by first | assumption | omega) (by first | assumption | omega) (by first | assumption | omega) (by rw [if_pos (by omega)] at hx ⊢; rw [hx, hci.2.2.2.1, hi, md_sm_s0 (by rw [← hi]; omega)]) (by first | assumption | omega) (by omega)
  refine g_lv hC [2, 3, 1, 0] [(0, _), (1, _), (2, _), (3, _)] rfl ?_
  exact L4 ((s 19 - 0 : Int).toNat + 1) 0 0 0 (by first | assumption | omega) (by first | assumption | omega) (by first | assumption | omega) (by first | assumption | omega) (by split <;> rfl) (by first | assumption | omega) (by omega)
