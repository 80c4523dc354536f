/-! MATHEMATICS, 5: what the parser's tokens keep -/
def pT (T : Int → Int) (e : Int) : Prop := ∀ q, 0 ≤ q → 0 ≤ T q → q < e
def fq (e D : Int) (F : pZ → pZ) : Prop := ∀ (w p : Int) (l : List Int) (w' p' : Int) (l' : List Int), 0 ≤ p → p ≤ e → F (w, p, l) = (w', p', l') → (p ≤ p' ∧ p' ≤ e) ∧ (l'.length : Int) + p ≤ (l.length : Int) + p' ∧ lvW l' = lvW l ∧ (w' = 0 → w = 0) ∧ (w' = 0 → lvJ l → 0 ≤ lvD l → lvD l ≤ D → lvJ l' ∧ lvD l' = lvD l + 1)
theorem la1 (l : List Int) (x : Int) : ((l ++ [x]).length : Int) = (l.length : Int) + 1 := by
  rw [List.length_append]
  simp only [List.length_cons, List.length_nil]
  omega
theorem pm_q {T : Int → Int} {e c w p w' p' : Int} (hT : pT T e) (hc : 0 ≤ c) (h0 : 0 ≤ p) (h1 : p ≤ e) (h : px_must T c w p = (w', p')) : (p ≤ p' ∧ p' ≤ e) ∧ (w' = 0 → w = 0 ∧ p' = p + 1) := by
  unfold px_must at h
  by_cases h9 : w = 0 ∧ T p = c
  · have := hT p h0 (by omega)
    rw [if_pos h9, Prod.mk.injEq] at h
    exact ⟨by omega, fun _ => by omega⟩
  · rw [if_neg h9, Prod.mk.injEq] at h
    exact ⟨by omega, fun _ => by omega⟩
theorem ps_q {T : Int → Int} {e w p : Int} {k : Nat} (hT : pT T e) (hk : k < 7) (h0 : 0 ≤ p) (h1 : p ≤ e) : ∀ j : Nat, (j : Int) ≤ sl k → ∀ w' p', px_spl T k j w p = (w', p') → (p ≤ p' ∧ p' ≤ e) ∧ (w' = 0 → w = 0 ∧ p' = p + (j : Int))
  | 0, _, w', p', h => by
    have h2 : (w, p) = (w', p') := h
    rw [Prod.mk.injEq] at h2
    exact ⟨by omega, fun _ => by omega⟩
  | j + 1, hj, w', p', h => by
    cases hz : px_spl T k j w p with
    | mk w1 p1 =>
      have ih := ps_q hT hk h0 h1 j (by omega) w1 p1 hz
      have h2 : px_must T (sx k (j : Int)) (px_spl T k j w p).1 (px_spl T k j w p).2 = (w', p') := h
      rw [hz] at h2
      have h3 := pm_q hT (sx_rng hk (i := (j : Int)) ⟨by omega, by omega⟩).1 (show 0 ≤ p1 by omega) ih.1.2 h2
      have h4 := ih.2
      have h5 := h3.2
      refine ⟨by omega, fun q => ?_⟩
      have h6 := h5 q
      have h7 := h4 h6.1
      omega
theorem pf_q {T : Int → Int} {e w p w' p' v : Int} (hT : pT T e) (h0 : 0 ≤ p) (h1 : p ≤ e) (h : px_fig T w p = (w', p', v)) : (p ≤ p' ∧ p' ≤ e) ∧ (0 ≤ v ∧ v ≤ 99) ∧ (w' = 0 → w = 0 ∧ p + 1 ≤ p') := by
  unfold px_fig at h
  by_cases h9 : w = 0 ∧ 48 ≤ T p ∧ T p ≤ 57
  · have a1 := hT p h0 (by omega)
    rw [if_pos h9] at h
    by_cases h8 : T p ≠ 48 ∧ 48 ≤ T (p + 1) ∧ T (p + 1) ≤ 57
    · have a2 := hT (p + 1) (by omega) (by omega)
      rw [if_pos h8, Prod.mk.injEq, Prod.mk.injEq] at h
      exact ⟨by omega, by omega, fun _ => by omega⟩
    · rw [if_neg h8, Prod.mk.injEq, Prod.mk.injEq] at h
      exact ⟨by omega, by omega, fun _ => by omega⟩
  · rw [if_neg h9, Prod.mk.injEq, Prod.mk.injEq] at h
    exact ⟨by omega, by omega, fun _ => by omega⟩
theorem pa_q {k : Nat} {c : Int} : ∀ n : Nat, px_am k c n ≠ -1 → ∃ i : Int, (0 ≤ i ∧ i < (n : Int)) ∧ c = sx k i
  | 0, h => absurd rfl h
  | n + 1, h => by
    by_cases h1 : px_am k c n = -1
    · by_cases h2 : c = sx k (n : Int)
      · exact ⟨(n : Int), by omega, h2⟩
      · exfalso
        apply h
        unfold px_am
        rw [if_pos h1, if_neg h2]
    · obtain ⟨i, a, b⟩ := pa_q n h1
      exact ⟨i, by omega, b⟩
theorem em_q {x w p w' p' : Int} {l l' : List Int} (h : px_emit x (w, p, l) = (w', p', l')) : w' = w ∧ p' = p ∧ ((w = 0 ∧ l' = l ++ [x]) ∨ (¬ w = 0 ∧ l' = l)) := by
  by_cases hw : w = 0
  · rw [px_emit_is (l2 := l ++ [x]) (by rw [if_pos hw]), Prod.mk.injEq, Prod.mk.injEq] at h
    exact ⟨h.1.symm, h.2.1.symm, Or.inl ⟨hw, h.2.2.symm⟩⟩
  · rw [px_emit_is (l2 := l) (by rw [if_neg hw]), Prod.mk.injEq, Prod.mk.injEq] at h
    exact ⟨h.1.symm, h.2.1.symm, Or.inr ⟨hw, h.2.2.symm⟩⟩
theorem tt_q {A B v D : Int} (hA : 0 ≤ A ∧ A ≤ 5) (hB : 0 ≤ B ∧ B ≤ 2) (hv : 0 ≤ v ∧ v ≤ 99) (hD : D ≤ 12) : lvc (A + 8 * B + 32 * v) D ∧ lvd (A + 8 * B + 32 * v) D = D + 1 := by
  refine ⟨⟨fun _ => ⟨by omega, by omega, by omega, by omega⟩, fun q => by omega, fun q => by omega, fun q => by omega, by omega, by omega⟩, ?_⟩
  unfold lvd
  rw [if_pos (by omega)]
theorem pt_q {T : Int → Int} {e p w' p' : Int} {l l' : List Int} (hT : pT T e) (h0 : 0 ≤ p) (h1 : p ≤ e) (h : px_tst T p l = (w', p', l')) : (p ≤ p' ∧ p' ≤ e) ∧ (l'.length : Int) + p ≤ (l.length : Int) + p' ∧ lvW l' = lvW l ∧ (w' = 0 → lvJ l → 0 ≤ lvD l → lvD l ≤ 12 → lvJ l' ∧ lvD l' = lvD l + 1) := by
  have s5 : sl 5 = 6 := rfl
  have s6 : sl 6 = 3 := rfl
  have r5 := px_am_rng 5 (T p) (sl 5).toNat
  have r6 := px_am_rng 6 (T (p + 1)) (sl 6).toNat
  unfold px_tst at h
  by_cases ha : px_am 5 (T p) (sl 5).toNat = -1
  · rw [if_pos ha, Prod.mk.injEq, Prod.mk.injEq] at h
    obtain ⟨e1, e2, e3⟩ := h
    subst e2
    subst e3
    exact ⟨by omega, by omega, rfl, fun q => by omega⟩
  · obtain ⟨i, hi, hc⟩ := pa_q _ ha
    have hs := sx_rng (k := 5) (i := i) (by decide) ⟨hi.1, by omega⟩
    have a1 := hT p h0 (by rw [hc]; exact hs.1)
    rw [if_neg ha] at h
    by_cases hb : px_am 6 (T (p + 1)) (sl 6).toNat = -1
    · rw [if_pos hb, Prod.mk.injEq, Prod.mk.injEq] at h
      obtain ⟨e1, e2, e3⟩ := h
      subst e2
      subst e3
      exact ⟨by omega, by omega, rfl, fun q => by omega⟩
    · obtain ⟨i2, hi2, hc2⟩ := pa_q _ hb
      have hs2 := sx_rng (k := 6) (i := i2) (by decide) ⟨hi2.1, by omega⟩
      have a2 := hT (p + 1) (by omega) (by rw [hc2]; exact hs2.1)
      rw [if_neg hb] at h
      cases hz : px_fig T 0 (p + 1 + 1) with
      | mk w3 z3 =>
        obtain ⟨p3, v⟩ := z3
        have hf := pf_q hT (show 0 ≤ p + 1 + 1 by omega) (by omega) hz
        rw [hz] at h
        have hm := em_q (x := px_am 5 (T p) (sl 5).toNat + 8 * px_am 6 (T (p + 1)) (sl 6).toNat + 32 * v) (w := w3) (p := p3) (l := l) h
        obtain ⟨m1, m2, m3⟩ := hm
        rcases m3 with ⟨g1, g2⟩ | ⟨g1, g2⟩
        · subst g2
          have g3 := la1 l (px_am 5 (T p) (sl 5).toNat + 8 * px_am 6 (T (p + 1)) (sl 6).toNat + 32 * v)
          have g4 := lvW_app l (px_am 5 (T p) (sl 5).toNat + 8 * px_am 6 (T (p + 1)) (sl 6).toNat + 32 * v)
          rw [if_neg (by omega)] at g4
          refine ⟨by omega, by omega, by omega, fun q hJ hD0 hD => ?_⟩
          have g5 := tt_q (A := px_am 5 (T p) (sl 5).toNat) (B := px_am 6 (T (p + 1)) (sl 6).toNat) (v := v) (D := lvD l) (by omega) (by omega) hf.2.1 hD
          exact ⟨lvJ_app hJ g5.1, by rw [lvD_app]; exact g5.2⟩
        · subst g2
          exact ⟨by omega, by omega, rfl, fun q => by omega⟩
theorem lv_not {D : Int} (h : 1 ≤ D) : lvc (-1) D ∧ lvd (-1) D = D := by
  refine ⟨⟨fun _ => by omega, fun q => by omega, fun q => by omega, fun q => by omega, by omega, by omega⟩, ?_⟩
  unfold lvd
  rw [if_neg (by omega), if_pos rfl]
theorem lv_two {t D : Int} (ht : t = -2 ∨ t = -3) (h : 2 ≤ D) : lvc t D ∧ lvd t D = D - 1 := by
  refine ⟨⟨fun _ => by omega, fun q => by omega, fun q => by omega, fun q => by omega, by omega, by omega⟩, ?_⟩
  unfold lvd
  rw [if_neg (by omega), if_neg (by omega), if_pos (by omega)]
theorem lv_cl {t : Int} (ht : (-109 ≤ t ∧ t ≤ -10) ∨ (-299 ≤ t ∧ t ≤ -200)) : lvc t 1 ∧ lvd t 1 = 0 := by
  refine ⟨⟨fun _ => by omega, fun q => by omega, fun q => by omega, fun q => rfl, by omega, by omega⟩, ?_⟩
  unfold lvd
  rw [if_neg (by omega), if_neg (by omega), if_neg (by omega)]
/-- a token of two behind what F has read -/
theorem two_q {e D t : Int} {F : pZ → pZ} (hF : fq e D F) (ht : t = -2 ∨ t = -3) {p w2 p2 : Int} {l l2 : List Int} (h0 : 0 ≤ p) (h1 : p < e) (h : px_emit t (F (0, p + 1, l)) = (w2, p2, l2)) : (p ≤ p2 ∧ p2 ≤ e) ∧ (l2.length : Int) + p ≤ (l.length : Int) + p2 ∧ lvW l2 = lvW l ∧ (w2 = 0 → lvJ l → 1 ≤ lvD l → lvD l ≤ D → lvJ l2 ∧ lvD l2 = lvD l) := by
  cases hz : F (0, p + 1, l) with
  | mk w1 z1 =>
    obtain ⟨p1, l1⟩ := z1
    have hf := hF 0 (p + 1) l w1 p1 l1 (by omega) (by omega) hz
    rw [hz] at h
    obtain ⟨m1, m2, m3⟩ := em_q h
    obtain ⟨f1, f2, f3, f4, f5⟩ := hf
    rcases m3 with ⟨g1, g2⟩ | ⟨g1, g2⟩
    · subst g2
      have g3 := la1 l1 t
      have g4 := lvW_app l1 t
      rw [if_neg (by omega)] at g4
      refine ⟨by omega, by omega, by omega, fun q hJ hD0 hD => ?_⟩
      have g5 := f5 g1 hJ (by omega) hD
      have g6 := lv_two ht (show 2 ≤ lvD l1 by omega)
      refine ⟨lvJ_app g5.1 g6.1, ?_⟩
      rw [lvD_app, g6.2]
      omega
    · subst g2
      exact ⟨by omega, by omega, f3, fun q => by omega⟩
theorem ev_q {T : Int → Int} {e D : Int} {F : pZ → pZ} (hT : pT T e) (hF : fq e D F) : ∀ (f : Nat) (w p : Int) (l : List Int) (w' p' : Int) (l' : List Int), 0 ≤ p → p ≤ e → px_ev T F f (w, p, l) = (w', p', l') → (p ≤ p' ∧ p' ≤ e) ∧ (l'.length : Int) + p ≤ (l.length : Int) + p' ∧ lvW l' = lvW l ∧ (w' = 0 → w = 0) ∧ (w' = 0 → lvJ l → 1 ≤ lvD l → lvD l ≤ D → lvJ l' ∧ lvD l' = lvD l)
  | 0, w, p, l, w', p', l', h0, h1, h => by
    have h2 : (w, p, l) = (w', p', l') := h
    rw [Prod.mk.injEq, Prod.mk.injEq] at h2
    obtain ⟨e1, e2, e3⟩ := h2
    subst e1
    subst e2
    subst e3
    exact ⟨by omega, by omega, rfl, fun q => q, fun _ q _ _ => ⟨q, rfl⟩⟩
  | f + 1, w, p, l, w', p', l', h0, h1, h => by
    by_cases hg : w = 0 ∧ T p = 38
    · have a1 := hT p h0 (by omega)
      have h2 : px_ev T F f (px_emit (-2) (F (w, p + 1, l))) = (w', p', l') := by
        rw [← h]
        symm
        rw [px_ev, if_pos ⟨hg.1, hg.2⟩]
      rw [hg.1] at h2
      cases he : px_emit (-2) (F (0, p + 1, l)) with
      | mk w2 z2 =>
        obtain ⟨p2, l2⟩ := z2
        obtain ⟨t1, t2, t3, t4⟩ := two_q hF (Or.inl rfl) h0 a1 he
        rw [he] at h2
        obtain ⟨i1, i2, i3, i4, i5⟩ := ev_q hT hF f w2 p2 l2 w' p' l' (by omega) (by omega) h2
        refine ⟨by omega, by omega, by omega, fun _ => hg.1, fun q hJ hD0 hD => ?_⟩
        have g1 := t4 (i4 q) hJ hD0 hD
        have g2 := i5 q g1.1 (by omega) (by omega)
        exact ⟨g2.1, by omega⟩
    · rw [px_ev_end (z := (w, p, l)) hg, Prod.mk.injEq, Prod.mk.injEq] at h
      obtain ⟨e1, e2, e3⟩ := h
      subst e1
      subst e2
      subst e3
      exact ⟨by omega, by omega, rfl, fun q => q, fun _ q _ _ => ⟨q, rfl⟩⟩
theorem every_q {T : Int → Int} {e D : Int} {F : pZ → pZ} (hT : pT T e) (hF : fq e D F) : fq e (D - 1) (px_every T F) := by
  intro w p l w' p' l' h0 h1 h
  unfold px_every at h
  cases hz : F (w, p, l) with
  | mk w1 z1 =>
    obtain ⟨p1, l1⟩ := z1
    obtain ⟨f1, f2, f3, f4, f5⟩ := hF w p l w1 p1 l1 h0 h1 hz
    rw [hz] at h
    obtain ⟨i1, i2, i3, i4, i5⟩ := ev_q hT hF 101 w1 p1 l1 w' p' l' (by omega) (by omega) h
    refine ⟨by omega, by omega, by omega, fun q => f4 (i4 q), fun q hJ hD0 hD => ?_⟩
    have g1 := f5 (i4 q) hJ hD0 (by omega)
    have g2 := i5 q g1.1 (by omega) (by omega)
    exact ⟨g2.1, by omega⟩
theorem so_q {T : Int → Int} {e D : Int} {F : pZ → pZ} (hT : pT T e) (hF : fq e D (px_every T F)) : ∀ (f : Nat) (w p : Int) (l : List Int) (w' p' : Int) (l' : List Int), 0 ≤ p → p ≤ e → px_so T F f (w, p, l) = (w', p', l') → (p ≤ p' ∧ p' ≤ e) ∧ (l'.length : Int) + p ≤ (l.length : Int) + p' ∧ lvW l' = lvW l ∧ (w' = 0 → w = 0) ∧ (w' = 0 → lvJ l → 1 ≤ lvD l → lvD l ≤ D → lvJ l' ∧ lvD l' = lvD l)
  | 0, w, p, l, w', p', l', h0, h1, h => by
    have h2 : (w, p, l) = (w', p', l') := h
    rw [Prod.mk.injEq, Prod.mk.injEq] at h2
    obtain ⟨e1, e2, e3⟩ := h2
    subst e1
    subst e2
    subst e3
    exact ⟨by omega, by omega, rfl, fun q => q, fun _ q _ _ => ⟨q, rfl⟩⟩
  | f + 1, w, p, l, w', p', l', h0, h1, h => by
    by_cases hg : w = 0 ∧ T p = 124
    · have a1 := hT p h0 (by omega)
      have h2 : px_so T F f (px_emit (-3) (px_every T F (w, p + 1, l))) = (w', p', l') := by
        rw [← h]
        symm
        rw [px_so, if_pos ⟨hg.1, hg.2⟩]
      rw [hg.1] at h2
      cases he : px_emit (-3) (px_every T F (0, p + 1, l)) with
      | mk w2 z2 =>
        obtain ⟨p2, l2⟩ := z2
        obtain ⟨t1, t2, t3, t4⟩ := two_q hF (Or.inr rfl) h0 a1 he
        rw [he] at h2
        obtain ⟨i1, i2, i3, i4, i5⟩ := so_q hT hF f w2 p2 l2 w' p' l' (by omega) (by omega) h2
        refine ⟨by omega, by omega, by omega, fun _ => hg.1, fun q hJ hD0 hD => ?_⟩
        have g1 := t4 (i4 q) hJ hD0 hD
        have g2 := i5 q g1.1 (by omega) (by omega)
        exact ⟨g2.1, by omega⟩
    · rw [px_so_end (z := (w, p, l)) hg, Prod.mk.injEq, Prod.mk.injEq] at h
      obtain ⟨e1, e2, e3⟩ := h
      subst e1
      subst e2
      subst e3
      exact ⟨by omega, by omega, rfl, fun q => q, fun _ q _ _ => ⟨q, rfl⟩⟩
theorem some_q {T : Int → Int} {e D : Int} {F : pZ → pZ} (hT : pT T e) (hF : fq e D F) : fq e (D - 2) (px_some T F) := by
  intro w p l w' p' l' h0 h1 h
  have hG := every_q hT hF
  unfold px_some at h
  cases hz : px_every T F (w, p, l) with
  | mk w1 z1 =>
    obtain ⟨p1, l1⟩ := z1
    obtain ⟨f1, f2, f3, f4, f5⟩ := hG w p l w1 p1 l1 h0 h1 hz
    rw [hz] at h
    obtain ⟨i1, i2, i3, i4, i5⟩ := so_q hT hG 101 w1 p1 l1 w' p' l' (by omega) (by omega) h
    refine ⟨by omega, by omega, by omega, fun q => f4 (i4 q), fun q hJ hD0 hD => ?_⟩
    have g1 := f5 (i4 q) hJ hD0 (by omega)
    have g2 := i5 q g1.1 (by omega) (by omega)
    exact ⟨g2.1, by omega⟩
theorem fac_q {T : Int → Int} {e : Int} (hT : pT T e) : ∀ d : Nat, fq e (12 - 2 * (d : Int)) (px_fac T d)
  | 0 => by
    intro w p l w' p' l' h0 h1 h
    by_cases hw : w = 0
    · by_cases hc : T p = 33 ∨ T p = 40
      · rw [← px_fac_0 hw hc, Prod.mk.injEq, Prod.mk.injEq] at h
        obtain ⟨e1, e2, e3⟩ := h
        subst e2
        subst e3
        exact ⟨by omega, by omega, rfl, fun q => by omega, fun q => by omega⟩
      · rw [← px_fac_t (d := 0) hw (by omega) (by omega) rfl] at h
        obtain ⟨i1, i2, i3, i4⟩ := pt_q hT h0 h1 h
        exact ⟨i1, i2, i3, fun _ => hw, fun q hJ hD0 hD => i4 q hJ hD0 (by omega)⟩
    · rw [px_fac_w hw, Prod.mk.injEq, Prod.mk.injEq] at h
      obtain ⟨e1, e2, e3⟩ := h
      subst e1
      subst e2
      subst e3
      exact ⟨by omega, by omega, rfl, fun q => q, fun q => absurd q hw⟩
  | d + 1 => by
    have ih := fac_q hT d
    intro w p l w' p' l' h0 h1 h
    by_cases hw : w = 0
    · by_cases hc : T p = 33
      · have a1 := hT p h0 (by omega)
        cases hz : px_fac T d (0, p + 1, l) with
        | mk w3 z3 =>
          obtain ⟨p3, l3⟩ := z3
          obtain ⟨f1, f2, f3, f4, f5⟩ := ih 0 (p + 1) l w3 p3 l3 (by omega) (by omega) hz
          rw [← px_fac_not hw hc hz.symm rfl, Prod.mk.injEq, Prod.mk.injEq] at h
          obtain ⟨e1, e2, e3⟩ := h
          subst e1
          subst e2
          by_cases h3 : w3 = 0
          · rw [if_pos h3] at e3
            subst e3
            have g3 := la1 l3 (-1)
            have g4 := lvW_app l3 (-1)
            rw [if_neg (by omega)] at g4
            refine ⟨by omega, by omega, by omega, fun _ => hw, fun q hJ hD0 hD => ?_⟩
            have g5 := f5 q hJ hD0 (by omega)
            have g6 := lv_not (show 1 ≤ lvD l3 by omega)
            refine ⟨lvJ_app g5.1 g6.1, ?_⟩
            rw [lvD_app, g6.2]
            exact g5.2
          · rw [if_neg h3] at e3
            subst e3
            exact ⟨by omega, by omega, f3, fun _ => hw, fun q => absurd q h3⟩
      · by_cases hc2 : T p = 40
        · have a1 := hT p h0 (by omega)
          have hS := some_q hT ih
          cases hz : px_some T (px_fac T d) (0, p + 1, l) with
          | mk w3 z3 =>
            obtain ⟨p3, l3⟩ := z3
            obtain ⟨f1, f2, f3, f4, f5⟩ := hS 0 (p + 1) l w3 p3 l3 (by omega) (by omega) hz
            cases hy : px_must T 41 w3 p3 with
            | mk w4 p4 =>
              have hm := pm_q hT (by decide) (by omega) f1.2 hy
              rw [← px_fac_br hw hc2 hz.symm hy.symm, Prod.mk.injEq, Prod.mk.injEq] at h
              obtain ⟨e1, e2, e3⟩ := h
              subst e1
              subst e2
              subst e3
              exact ⟨by omega, by omega, f3, fun _ => hw, fun q hJ hD0 hD => f5 (hm.2 q).1 hJ hD0 (by omega)⟩
        · rw [← px_fac_t (d := d + 1) hw hc hc2 rfl] at h
          obtain ⟨i1, i2, i3, i4⟩ := pt_q hT h0 h1 h
          exact ⟨i1, i2, i3, fun _ => hw, fun q hJ hD0 hD => i4 q hJ hD0 (by omega)⟩
    · rw [px_fac_w hw, Prod.mk.injEq, Prod.mk.injEq] at h
      obtain ⟨e1, e2, e3⟩ := h
      subst e1
      subst e2
      subst e3
      exact ⟨by omega, by omega, rfl, fun q => q, fun q => absurd q hw⟩
theorem much_q {T : Int → Int} {e kind p w' p' : Int} {k : Nat} {l l' : List Int} (hT : pT T e) (hk : k < 7) (hkd : kind = -10 ∨ kind = -200) (h0 : 0 ≤ p) (h1 : p ≤ e) (h : px_much T kind k (0, p, l) = (w', p', l')) : (p ≤ p' ∧ p' ≤ e) ∧ (l'.length : Int) + p ≤ (l.length : Int) + p' ∧ (lvW l ≤ lvW l' ∧ lvW l' ≤ lvW l + 1) ∧ (w' = 0 → lvJ l → lvD l = 0 → lvJ l' ∧ lvD l' = 0) := by
  have hsl := sl_rng hk
  cases y1 : px_spl T k (sl k).toNat 0 p with
  | mk w1 p1 =>
  have a1 := ps_q hT hk h0 h1 (sl k).toNat (by omega) w1 p1 y1
  cases y2 : px_fig T w1 p1 with
  | mk w2 z2 =>
  obtain ⟨p2, v⟩ := z2
  have a2 := pf_q hT (by omega) a1.1.2 y2
  cases y3 : px_must T 32 w2 p2 with
  | mk w3 p3 =>
  have a3 := pm_q hT (by decide) (by omega) a2.1.2 y3
  cases y4 : px_some T (px_fac T 5) (w3, p3, l) with
  | mk w4 z4 =>
  obtain ⟨p4, l4⟩ := z4
  obtain ⟨f1, f2, f3, f4, f5⟩ := some_q hT (fac_q hT 5) w3 p3 l w4 p4 l4 (by omega) a3.1.2 y4
  rw [← px_much_is y1.symm y2.symm y3.symm y4.symm rfl, Prod.mk.injEq, Prod.mk.injEq] at h
  obtain ⟨e1, e2, e3⟩ := h
  subst e1
  subst e2
  by_cases h4 : w4 = 0
  · rw [if_pos h4] at e3
    subst e3
    have b3 := f4 h4
    have b2 := a3.2 b3
    have b1 := a2.2.2 b2.1
    have b0 := a1.2 b1.1
    have g3 := la1 l4 (kind - v)
    have g4 := lvW_app l4 (kind - v)
    rw [if_pos (by omega)] at g4
    refine ⟨by omega, by omega, by omega, fun q hJ hD => ?_⟩
    have g5 := f5 h4 hJ (by omega) (by omega)
    have g6 := lv_cl (t := kind - v) (by omega)
    have g7 : lvD l4 = 1 := by omega
    refine ⟨lvJ_app g5.1 (by rw [g7]; exact g6.1), ?_⟩
    rw [lvD_app, g7]
    exact g6.2
  · rw [if_neg h4] at e3
    subst e3
    exact ⟨by omega, by omega, by omega, fun q => absurd q h4⟩
theorem cl_q {T : Int → Int} {e p rc w' p' rc' : Int} {l l' : List Int} (hT : pT T e) (h0 : 0 ≤ p) (h1 : p ≤ e) (hr : 0 ≤ rc ∧ rc ≤ 99) (h : px_cl T p l rc = (w', p', l', rc')) : (p ≤ p' ∧ p' ≤ e) ∧ (l'.length : Int) + p ≤ (l.length : Int) + p' ∧ (lvW l ≤ lvW l' ∧ lvW l' ≤ lvW l + 1) ∧ (0 ≤ rc' ∧ rc' ≤ 99) ∧ (w' = 0 → lvJ l → lvD l = 0 → lvJ l' ∧ lvD l' = 0) := by
  unfold px_cl at h
  by_cases c1 : T p = 114
  · rw [if_pos c1] at h
    cases y1 : px_spl T 0 (sl 0).toNat 0 p with
    | mk w1 p1 =>
    have a1 := ps_q hT (by decide) h0 h1 (sl 0).toNat (by have : sl 0 = 6 := rfl; omega) w1 p1 y1
    cases y2 : px_fig T w1 p1 with
    | mk w2 z2 =>
    obtain ⟨p2, v⟩ := z2
    have a2 := pf_q hT (by omega) a1.1.2 y2
    rw [← px_tell_is y1.symm y2.symm, Prod.mk.injEq, Prod.mk.injEq, Prod.mk.injEq] at h
    obtain ⟨e1, e2, e3, e4⟩ := h
    have e1 : w2 = w' := e1
    have e2 : p2 = p' := e2
    have e4 : (if w2 = 0 then v else rc) = rc' := e4
    subst e3
    refine ⟨by omega, by omega, by omega, ?_, fun _ hJ hD => ⟨hJ, hD⟩⟩
    rw [← e4]
    split <;> omega
  · rw [if_neg c1] at h
    by_cases c2 : T p = 104
    · rw [if_pos c2] at h
      cases y1 : px_much T (-10) 1 (0, p, l) with
      | mk w1 z1 =>
      obtain ⟨p1, l1⟩ := z1
      have a1 := much_q hT (by decide) (Or.inl rfl) h0 h1 y1
      rw [y1, Prod.mk.injEq, Prod.mk.injEq, Prod.mk.injEq] at h
      obtain ⟨e1, e2, e3, e4⟩ := h
      have e1 : w1 = w' := e1
      have e2 : p1 = p' := e2
      have e3 : l1 = l' := e3
      subst e1
      subst e2
      subst e3
      subst e4
      exact ⟨a1.1, a1.2.1, a1.2.2.1, hr, a1.2.2.2⟩
    · rw [if_neg c2] at h
      by_cases c3 : T p = 115
      · rw [if_pos c3] at h
        cases y1 : px_much T (-200) 2 (0, p, l) with
        | mk w1 z1 =>
        obtain ⟨p1, l1⟩ := z1
        have a1 := much_q hT (by decide) (Or.inr rfl) h0 h1 y1
        rw [y1, Prod.mk.injEq, Prod.mk.injEq, Prod.mk.injEq] at h
        obtain ⟨e1, e2, e3, e4⟩ := h
        have e1 : w1 = w' := e1
        have e2 : p1 = p' := e2
        have e3 : l1 = l' := e3
        subst e1
        subst e2
        subst e3
        subst e4
        exact ⟨a1.1, a1.2.1, a1.2.2.1, hr, a1.2.2.2⟩
      · rw [if_neg c3, Prod.mk.injEq, Prod.mk.injEq, Prod.mk.injEq] at h
        obtain ⟨e1, e2, e3, e4⟩ := h
        subst e2
        subst e3
        subst e4
        exact ⟨by omega, by omega, by omega, hr, fun q => by omega⟩
theorem hs_q {T : Int → Int} {e : Int} (hT : pT T e) : ∀ (f : Nat) (w p : Int) (l : List Int) (rc w' p' : Int) (l' : List Int) (rc' : Int), 0 ≤ p → p ≤ e → (0 ≤ rc ∧ rc ≤ 99) → px_hs T f (w, p, l, rc) = (w', p', l', rc') → (p ≤ p' ∧ p' ≤ e) ∧ (l'.length : Int) + p ≤ (l.length : Int) + p' ∧ (lvW l' ≤ lvW l + (f : Int)) ∧ (0 ≤ rc' ∧ rc' ≤ 99) ∧ (w' = 0 → w = 0) ∧ (w' = 0 → lvJ l → lvD l = 0 → lvJ l' ∧ lvD l' = 0)
  | 0, w, p, l, rc, w', p', l', rc', h0, h1, hr, h => by
    have h2 : (w, p, l, rc) = (w', p', l', rc') := h
    rw [Prod.mk.injEq, Prod.mk.injEq, Prod.mk.injEq] at h2
    obtain ⟨e1, e2, e3, e4⟩ := h2
    subst e1
    subst e2
    subst e3
    subst e4
    exact ⟨by omega, by omega, by omega, hr, fun q => q, fun _ hJ hD => ⟨hJ, hD⟩⟩
  | f + 1, w, p, l, rc, w', p', l', rc', h0, h1, hr, h => by
    by_cases hg : w = 0 ∧ T p = 59
    · have a1 := hT p h0 (by omega)
      have h2 : px_hs T f (px_cl T (p + 1) l rc) = (w', p', l', rc') := by
        rw [← h]
        symm
        rw [px_hs, if_pos ⟨hg.1, hg.2⟩]
      cases he : px_cl T (p + 1) l rc with
      | mk w2 z2 =>
      obtain ⟨p2, l2, rc2⟩ := z2
      obtain ⟨t1, t2, t3, t4, t5⟩ := cl_q hT (show 0 ≤ p + 1 by omega) (by omega) hr he
      rw [he] at h2
      obtain ⟨i1, i2, i3, i4, i5, i6⟩ := hs_q hT f w2 p2 l2 rc2 w' p' l' rc' (by omega) (by omega) t4 h2
      refine ⟨by omega, by omega, by omega, i4, fun _ => hg.1, fun q hJ hD => ?_⟩
      have g1 := t5 (i5 q) hJ hD
      exact i6 q g1.1 g1.2
    · rw [px_hs_end (z := (w, p, l, rc)) hg, Prod.mk.injEq, Prod.mk.injEq, Prod.mk.injEq] at h
      obtain ⟨e1, e2, e3, e4⟩ := h
      subst e1
      subst e2
      subst e3
      subst e4
      exact ⟨by omega, by omega, by omega, hr, fun q => q, fun _ hJ hD => ⟨hJ, hD⟩⟩
/-- what a house's text gives -/
theorem house_q {T : Int → Int} {e w p rc : Int} {l : List Int} (hT : pT T e) (he : 0 ≤ e) (h : (w, p, l, rc) = px_hs T 9 (px_cl T 0 [] 9)) : (0 ≤ p ∧ p ≤ e) ∧ (l.length : Int) ≤ p ∧ (0 ≤ rc ∧ rc ≤ 99) ∧ (w = 0 → lvJ l ∧ lvD l = 0 ∧ lvW l ≤ 10) := by
  have hJ0 : lvJ [] := fun j hj => absurd hj (by simp)
  have hD0 : lvD [] = 0 := rfl
  have hW0 : lvW [] = 0 := rfl
  have hl0 : (([] : List Int).length : Int) = 0 := rfl
  cases hz : px_cl T 0 [] 9 with
  | mk w2 z2 =>
  obtain ⟨p2, l2, rc2⟩ := z2
  obtain ⟨t1, t2, t3, t4, t5⟩ := cl_q hT (Int.le_refl 0) he (by omega) hz
  rw [hz] at h
  obtain ⟨i1, i2, i3, i4, i5, i6⟩ := hs_q hT 9 w2 p2 l2 rc2 w p l rc (by omega) (by omega) t4 h.symm
  refine ⟨by omega, by omega, i4, fun q => ?_⟩
  have g1 := t5 (i5 q) hJ0 hD0
  have g2 := i6 q g1.1 g1.2
  exact ⟨g2.1, g2.2, by omega⟩
theorem md_T_pT {T s : Int → Int} {e : Int} (h : md_T T e s) : pT T e := fun q h1 h2 => px_lt h h1 rfl h2
theorem cr_T_pT {T s : Int → Int} {e : Int} (h : cr_T T e s) : pT T e := fun q h1 h2 => cr_lt h h1 rfl h2
/-- what a list of tokens adds to a pull -/
def lW (l : List Int) : (Int → Int) → Int := fun b => (tk_run (tok_l l) b l.length).2.2
theorem lW_rng {l : List Int} (hJ : lvJ l) (hw : lvW l ≤ 10) (b : Int → Int) : -990 ≤ lW l b ∧ lW l b ≤ 990 := by
  have h := tk_w_rng (b := b) (lvJ_ok hJ) l.length (Nat.le_refl _)
  unfold lvW at hw
  unfold lW
  omega
/-- the row's tokens are l -/
def md_HL (s : Int → Int) (k : Int) (l : List Int) : Prop := lvJ l ∧ lvW l ≤ 10 ∧ (l.length : Int) ≤ 100 ∧ s (217 + k) = (l.length : Int) ∧ ∀ j : Nat, j < l.length → s (222 + 140 * k + (j : Int)) = l.getD j 0
theorem HL_tok {s : Int → Int} {l : List Int} (h : md_HL s (s 25) l) : ∀ j : Nat, j < l.length → md_tok s (j : Int) = tok_l l (j : Int) := by
  intro j hj
  exact h.2.2.2.2 j hj
theorem HL_D {f g : Int → Int} : ∀ n : Nat, (∀ j : Nat, j < n → f (j : Int) = g (j : Int)) → tk_D f n = tk_D g n
  | 0, _ => rfl
  | n + 1, h => by
    have ih := HL_D (f := f) (g := g) n (fun j hj => h j (by omega))
    unfold tk_D
    rw [ih, h n (by omega)]
theorem HL_run {f g b : Int → Int} : ∀ n : Nat, (∀ j : Nat, j < n → f (j : Int) = g (j : Int)) → tk_run f b n = tk_run g b n
  | 0, _ => rfl
  | n + 1, h => by
    have ih := HL_run (f := f) (g := g) (b := b) n (fun j hj => h j (by omega))
    unfold tk_run
    rw [ih, h n (by omega)]
theorem HL_TK {s : Int → Int} {l : List Int} (h25 : 0 ≤ s 25 ∧ s 25 ≤ 4) (hr : 0 ≤ s (212 + s 25) ∧ s (212 + s 25) ≤ 99) (h : md_HL s (s 25) l) : md_TK s (lW l) (s (212 + s 25)) := by
  have ht := HL_tok h
  obtain ⟨hJ, hw, hn, hl, hx⟩ := h
  have e1 : (s (217 + s 25)).toNat = l.length := by omega
  refine ⟨Or.inr ⟨h25.1, h25.2, rfl, by omega, by omega, ?_, fun b => ?_⟩, hr, fun b => lW_rng hJ hw b⟩
  · rw [e1]
    intro j hj
    have hk := lvJ_ok hJ j hj
    rw [ht j hj, HL_D j (fun i hi => ht i (by omega))]
    exact hk
  · rw [e1, HL_run l.length ht]
    rfl
theorem HL_none {s : Int → Int} (h : s 25 = -1) : md_TK s (fun _ => 0) 9 := ⟨Or.inl ⟨h, rfl, fun _ => rfl⟩, by omega, fun _ => ⟨by show (-990 : Int) ≤ 0; decide, by show (0 : Int) ≤ 990; decide⟩⟩
theorem HL_same {s s2 : Int → Int} {k : Int} {l : List Int} (h : md_HL s k l) (e1 : s2 (217 + k) = s (217 + k)) (e2 : ∀ j, 0 ≤ j → j < 100 → s2 (222 + 140 * k + j) = s (222 + 140 * k + j)) : md_HL s2 k l := by
  obtain ⟨hJ, hw, hn, hl, hx⟩ := h
  refine ⟨hJ, hw, hn, by rw [e1]; exact hl, fun j hj => ?_⟩
  rw [e2 (j : Int) (by omega) (by omega)]
  exact hx j hj
theorem HL_row {s0 : Int → Int} {k : Int} {l : List Int} (hJ : lvJ l) (hw : lvW l ≤ 10) (hn : (l.length : Int) ≤ 100) (hk : 0 ≤ k ∧ k ≤ 4) : md_HL (px_row s0 k l) k l := by
  refine ⟨hJ, hw, hn, px_row_n hk, fun j hj => ?_⟩
  unfold px_row
  rw [if_pos (by omega), show (222 + 140 * k + (j : Int) - (222 + 140 * k)).toNat = j by omega]
