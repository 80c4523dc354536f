/-! MATHEMATICS, 3: tokens as orders; a stack of truths as bits -/
/-- an order of the class over bits and a sum -/
def hw_step (b : Int → Int) (z : Int × Int) (o : Int) : Int × Int :=
  if bAnd o 15 < 6 then (bOr (bShl z.1 1) (bAnd (bShr (bShr o 4) (b (bAnd o 15))) 1), z.2)
  else if bAnd o 15 = 6 then (bXor z.1 1, z.2)
  else if bAnd o 15 = 7 then (bAnd (bShr z.1 1) (bOr z.1 (-2)), z.2)
  else if bAnd o 15 = 8 then (bOr (bShr z.1 1) (bAnd z.1 1), z.2)
  else (0, z.2 + (if bAnd o 15 = 9 then (if z.1 = 0 then 0 else bShr o 4) else -(if z.1 = 0 then 0 else bShr o 4)))
def hw_run (od b : Int → Int) : Nat → Int × Int
  | 0 => (0, 0)
  | j + 1 => hw_step b (hw_run od b j) (od (j : Int))
theorem hw_rng (od b : Int → Int) : ∀ j, rI (hw_run od b j).1
  | 0 => by unfold hw_run; show rI 0; omega
  | j + 1 => by
    unfold hw_run hw_step
    split
    · exact bOr_rng _ _
    · split
      · exact bXor_rng _ _
      · split
        · exact bAnd_rng _ _
        · split
          · exact bOr_rng _ _
          · show rI 0; omega
theorem hw_congr {od b b2 : Int → Int} (h : ∀ i, 0 ≤ i → i < 6 → b i = b2 i) {n : Nat} (ho : ∀ j : Nat, j < n → 0 ≤ od j ∧ od j < 16384) : ∀ j : Nat, j ≤ n → hw_run od b j = hw_run od b2 j
  | 0, _ => rfl
  | j + 1, hj => by
    have ih := hw_congr h ho j (by omega)
    have h1 := ho j (by omega)
    have h2 := o15_at h1
    unfold hw_run
    rw [ih]
    unfold hw_step
    by_cases h3 : bAnd (od (j : Int)) 15 < 6
    · rw [if_pos h3, if_pos h3, h _ (by omega) h3]
    · rw [if_neg h3, if_neg h3]
def tok_l (l : List Int) : Int → Int := fun i => l.getD i.toNat 0
def lvc (t D : Int) : Prop := (0 ≤ t → t % 8 ≤ 5 ∧ t / 8 % 4 ≤ 2 ∧ t / 32 ≤ 99 ∧ D ≤ 12) ∧ (t = -1 → 1 ≤ D) ∧ (t = -2 ∨ t = -3 → 2 ≤ D) ∧ (t ≤ -10 → D = 1) ∧ (-3 ≤ t ∨ (-109 ≤ t ∧ t ≤ -10) ∨ (-299 ≤ t ∧ t ≤ -200)) ∧ t ≤ 10000
def lvd (t D : Int) : Int := if 0 ≤ t then D + 1 else if t = -1 then D else if -10 < t then D - 1 else 0
def lvD (l : List Int) : Int := tk_D (tok_l l) l.length
def lvJ (l : List Int) : Prop := ∀ j : Nat, j < l.length → lvc (tok_l l (j : Int)) (tk_D (tok_l l) j)
def tk_w (tok : Int → Int) : Nat → Int
  | 0 => 0
  | j + 1 => tk_w tok j + (if tok (j : Int) ≤ -10 then 1 else 0)
def lvW (l : List Int) : Int := tk_w (tok_l l) l.length
theorem tok_app {l : List Int} {t : Int} {j : Nat} (h : j < l.length) : tok_l (l ++ [t]) (j : Int) = tok_l l (j : Int) := by
  unfold tok_l
  rw [List.getD_eq_getElem?_getD, List.getD_eq_getElem?_getD, List.getElem?_append_left (by omega)]
theorem tok_last {l : List Int} {t : Int} : tok_l (l ++ [t]) ((l.length : Nat) : Int) = t := by
  unfold tok_l
  rw [List.getD_eq_getElem?_getD]
  simp
theorem tk_D_app {l : List Int} {t : Int} : ∀ j : Nat, j ≤ l.length → tk_D (tok_l (l ++ [t])) j = tk_D (tok_l l) j
  | 0, _ => rfl
  | j + 1, h => by
    have ih := tk_D_app (l := l) (t := t) j (by omega)
    unfold tk_D
    rw [ih, tok_app (by omega)]
theorem tk_w_app {l : List Int} {t : Int} : ∀ j : Nat, j ≤ l.length → tk_w (tok_l (l ++ [t])) j = tk_w (tok_l l) j
  | 0, _ => rfl
  | j + 1, h => by
    have ih := tk_w_app (l := l) (t := t) j (by omega)
    unfold tk_w
    rw [ih, tok_app (by omega)]
theorem lvD_app (l : List Int) (t : Int) : lvD (l ++ [t]) = lvd t (lvD l) := by
  unfold lvD
  rw [List.length_append]
  have e : tk_D (tok_l (l ++ [t])) (l.length + 1) = if 0 ≤ tok_l (l ++ [t]) ((l.length : Nat) : Int) then tk_D (tok_l (l ++ [t])) l.length + 1 else if tok_l (l ++ [t]) ((l.length : Nat) : Int) = -1 then tk_D (tok_l (l ++ [t])) l.length else if -10 < tok_l (l ++ [t]) ((l.length : Nat) : Int) then tk_D (tok_l (l ++ [t])) l.length - 1 else 0 := rfl
  show tk_D (tok_l (l ++ [t])) (l.length + 1) = _
  rw [e, tk_D_app l.length (Nat.le_refl _), tok_last]
  rfl
theorem lvW_app (l : List Int) (t : Int) : lvW (l ++ [t]) = lvW l + (if t ≤ -10 then 1 else 0) := by
  unfold lvW
  rw [List.length_append]
  have e : tk_w (tok_l (l ++ [t])) (l.length + 1) = tk_w (tok_l (l ++ [t])) l.length + (if tok_l (l ++ [t]) ((l.length : Nat) : Int) ≤ -10 then 1 else 0) := rfl
  show tk_w (tok_l (l ++ [t])) (l.length + 1) = _
  rw [e, tk_w_app l.length (Nat.le_refl _), tok_last]
theorem lvJ_app {l : List Int} {t : Int} (h : lvJ l) (h2 : lvc t (lvD l)) : lvJ (l ++ [t]) := by
  intro j hj
  rw [List.length_append] at hj
  simp only [List.length_cons, List.length_nil] at hj
  by_cases hl : j = l.length
  · subst hl
    rw [tok_last, tk_D_app _ (Nat.le_refl _)]
    exact h2
  · rw [tok_app (by omega), tk_D_app _ (by omega)]
    exact h j (by omega)
theorem lvJ_ok {l : List Int} (h : lvJ l) : tk_ok (tok_l l) l.length := by
  intro j hj
  obtain ⟨h1, h2, h3, h4, h5, h6⟩ := h j hj
  refine ⟨fun q => ?_, h2, h3, h4, h5, h6⟩
  have := h1 q
  omega
theorem tk_w_rng {tok b : Int → Int} {n : Nat} (h : tk_ok tok n) : ∀ j : Nat, j ≤ n → -(99 * tk_w tok j) ≤ (tk_run tok b j).2.2 ∧ (tk_run tok b j).2.2 ≤ 99 * tk_w tok j ∧ 0 ≤ tk_w tok j
  | 0, _ => by simp [tk_run, tk_w]
  | j + 1, hj => by
    have ih := tk_w_rng (b := b) h j (by omega)
    obtain ⟨h1, h2, h3, h4, h5, h6⟩ := h j (by omega)
    have e : tk_w tok (j + 1) = tk_w tok j + (if tok (j : Int) ≤ -10 then 1 else 0) := rfl
    have hc : ∃ c : Int, (if tok (j : Int) ≤ -10 then (1 : Int) else 0) = c ∧ 0 ≤ c ∧ (tok (j : Int) ≤ -10 → c = 1) := ⟨_, rfl, by split <;> omega, fun q => if_pos q⟩
    obtain ⟨c, c1, c2, c3⟩ := hc
    rw [e, c1]
    unfold tk_run tk_step
    split
    · simp only []; omega
    · split
      · simp only []; omega
      · split
        · simp only []; omega
        · simp only []
          have := c3 (by omega)
          split
          · omega
          · split <;> omega
/-- a stack as bits -/
def bs (f : Int → Int) : Nat → Int
  | 0 => 0
  | n + 1 => 2 * bs f n + f (n : Int)
theorem bs_s (f : Int → Int) (n : Nat) : bs f (n + 1) = 2 * bs f n + f (n : Int) := rfl
theorem bs_up {f : Int → Int} {i x : Int} : ∀ n : Nat, (n : Int) ≤ i → bs (upI f i x) n = bs f n
  | 0, _ => rfl
  | n + 1, h => by
    have ih := bs_up (f := f) (i := i) (x := x) n (by omega)
    unfold bs
    rw [ih, upI_ne (by omega)]
theorem bs_rng {f : Int → Int} : ∀ n : Nat, (∀ i, 0 ≤ i → i < (n : Int) → f i = 0 ∨ f i = 1) → 0 ≤ bs f n ∧ bs f n < 2 ^ n
  | 0, _ => by unfold bs; decide
  | n + 1, h => by
    have ih := bs_rng n (fun i h1 h2 => h i h1 (by omega))
    have h9 := h (n : Int) (by omega) (by omega)
    have e : (2 : Int) ^ (n + 1) = 2 * 2 ^ n := by rw [Int.pow_succ]; omega
    unfold bs
    rw [e]
    omega
theorem bs_13 {f : Int → Int} {n : Nat} (hn : n ≤ 13) (h : ∀ i, 0 ≤ i → i < (n : Int) → f i = 0 ∨ f i = 1) : 0 ≤ bs f n ∧ bs f n < 8192 := by
  have h1 := bs_rng n h
  have h2 : (2 : Int) ^ n ≤ 8192 := by
    have : ∀ n : Fin 14, (2 : Int) ^ n.val ≤ 8192 := by decide +kernel
    exact this ⟨n, by omega⟩
  omega
theorem bs_12 {f : Int → Int} {n : Nat} (hn : n ≤ 12) (h : ∀ i, 0 ≤ i → i < (n : Int) → f i = 0 ∨ f i = 1) : 0 ≤ bs f n ∧ bs f n < 4096 := by
  have h1 := bs_rng n h
  have h2 : (2 : Int) ^ n ≤ 4096 := by
    have : ∀ n : Fin 13, (2 : Int) ^ n.val ≤ 4096 := by decide +kernel
    exact this ⟨n, by omega⟩
  omega
theorem vb_at {c v x : Int} (hc : 0 ≤ c ∧ c ≤ 2) (hv : 0 ≤ v ∧ v ≤ 99) (hx : 0 ≤ x ∧ x ≤ 9) : bAnd (bShr (vb_n (60 + c) v 10) x) 1 = if c = 0 then (if x < v then 1 else 0) else if c = 1 then (if x = v then 1 else 0) else (if v < x then 1 else 0) := by
  have h := (vb_8 ⟨c.toNat, by omega⟩ ⟨v.toNat, by omega⟩).2.2 ⟨x.toNat, by omega⟩
  have e1 : ((c.toNat : Nat) : Int) = c := by omega
  have e2 : ((v.toNat : Nat) : Int) = v := by omega
  have e3 : ((x.toNat : Nat) : Int) = x := by omega
  simp only [e1, e2, e3] at h
  rw [h]
  by_cases c0 : c = 0
  · rw [if_pos (by omega), if_pos c0]
    by_cases h9 : x < v
    · rw [if_pos (by omega), if_pos h9]
    · rw [if_neg (by omega), if_neg h9]
  · rw [if_neg (by omega), if_neg c0]
    by_cases c1 : c = 1
    · rw [if_pos (by omega), if_pos c1]
      by_cases h9 : x = v
      · rw [if_pos (by omega), if_pos h9]
      · rw [if_neg (by omega), if_neg h9]
    · rw [if_neg (by omega), if_neg c1]
      by_cases h9 : v < x
      · rw [if_pos (by omega), if_pos h9]
      · rw [if_neg (by omega), if_neg h9]
theorem tk_e_rng {t D : Int} (h : lvc t D) : 0 ≤ tk_e t ∧ tk_e t < 16384 := by
  obtain ⟨h1, h2, h3, h4, h5, h6⟩ := h
  unfold tk_e
  by_cases ht : 0 ≤ t
  · rw [if_pos ht]
    have := h1 ht
    have h9 := vb_rng (c := 60 + t / 8 % 4) (n := t / 32) (by omega) (by omega)
    omega
  · rw [if_neg ht]
    (repeat' split) <;> omega
/-- what the class has of a stack of the reference -/
def hw_R (z : (Int → Int) × Int × Int) (w : Int × Int) (D : Int) : Prop := w = (bs z.1 z.2.1.toNat, z.2.2) ∧ z.2.1 = D ∧ (0 ≤ D ∧ D ≤ 13) ∧ ∀ i, 0 ≤ i → i < D → z.1 i = 0 ∨ z.1 i = 1
theorem hw_one {b : Int → Int} {z : (Int → Int) × Int × Int} {w : Int × Int} {t D : Int} (hb : ∀ i, 0 ≤ i → i < 6 → 0 ≤ b i ∧ b i ≤ 9) (hc : lvc t D) (h : hw_R z w D) : hw_R (tk_step b z t) (hw_step b w (tk_e t)) (lvd t D) := by
  obtain ⟨f, top, sum⟩ := z
  obtain ⟨e, hD, hr, hf⟩ := h
  have hD1 : top = D := hD
  subst hD1
  have hf : ∀ i, 0 ≤ i → i < top → f i = 0 ∨ f i = 1 := hf
  have ho := o15_at (tk_e_rng hc)
  obtain ⟨h1, h2, h3, h4, h5, h6⟩ := hc
  have e1 : w.1 = bs f top.toNat := by rw [e]
  have e2 : w.2 = sum := by rw [e]
  have hbs := bs_13 (f := f) (n := top.toNat) (by omega) (fun i q1 q2 => hf i q1 (by omega))
  have hop := b13_at hbs
  unfold hw_R
  by_cases ht : 0 ≤ t
  · obtain ⟨a1, a2, a3, a4⟩ := h1 ht
    have hvb := vb_rng (c := 60 + t / 8 % 4) (n := t / 32) (by omega) (by omega)
    have te : tk_e t = vb_n (60 + t / 8 % 4) (t / 32) 10 * 16 + t % 8 := by unfold tk_e; rw [if_pos ht]
    have s1 : bAnd (tk_e t) 15 = t % 8 := by rw [ho.1, te]; omega
    have s2 : bShr (tk_e t) 4 = vb_n (60 + t / 8 % 4) (t / 32) 10 := by rw [ho.2, te]; omega
    have hbt := hb (t % 8) (by omega) (by omega)
    have hv := vb_at (c := t / 8 % 4) (v := t / 32) (x := b (t % 8)) (by omega) (by omega) hbt
    have htest : bAnd (bShr (vb_n (60 + t / 8 % 4) (t / 32) 10) (b (t % 8))) 1 = tk_test b t := by
      rw [hv]
      unfold tk_test
      rfl
    have h01 := tk_test_01 b t
    have hb12 := bs_12 (f := f) (n := top.toNat) (by omega) (fun i q1 q2 => hf i q1 (by omega))
    have g1 : hw_step b w (tk_e t) = (2 * bs f top.toNat + tk_test b t, sum) := by
      unfold hw_step
      rw [if_pos (by omega), s1, s2, htest, e1, e2, hop.1]
      rcases h01 with h9 | h9
      · rw [h9, hop.2.1]; simp
      · rw [h9, hop.2.2.1]
    have g2 : tk_step b (f, top, sum) t = (upI f top (tk_test b t), top + 1, sum) := by unfold tk_step; rw [if_pos ht]
    have g3 : lvd t top = top + 1 := by unfold lvd; rw [if_pos ht]
    rw [g1, g2, g3]
    refine ⟨?_, rfl, by omega, fun i q1 q2 => ?_⟩
    · show _ = (bs (upI f top (tk_test b t)) (top + 1).toNat, sum)
      rw [show (top + 1).toNat = top.toNat + 1 by omega]
      rw [bs_s, bs_up _ (by omega), show ((top.toNat : Nat) : Int) = top by omega, upI_at]
    · show upI f top (tk_test b t) i = 0 ∨ upI f top (tk_test b t) i = 1
      by_cases hi : i = top
      · rw [hi, upI_at]; exact h01
      · show upI f top (tk_test b t) i = 0 ∨ upI f top (tk_test b t) i = 1
        rw [upI_ne hi]
        exact hf i q1 (by omega)
  · by_cases t1 : t = -1
    · subst t1
      have hp := h2 rfl
      have te : tk_e (-1) = 6 := rfl
      have s1 : bAnd (tk_e (-1)) 15 = 6 := by rw [ho.1, te]; rfl
      obtain ⟨m, hm⟩ : ∃ m : Nat, top = (m : Int) + 1 := ⟨(top - 1).toNat, by omega⟩
      subst hm
      have eb : bs f ((m : Int) + 1).toNat = 2 * bs f m + f (m : Int) := by rw [show ((m : Int) + 1).toNat = m + 1 by omega]; rfl
      have fm := hf (m : Int) (by omega) (by omega)
      have g1 : hw_step b w (tk_e (-1)) = (2 * bs f m + (1 - f (m : Int)), sum) := by
        unfold hw_step
        rw [if_neg (by omega), if_pos s1, e1, e2, hop.2.2.2.1, eb]
        rcases fm with h9 | h9
        · rw [h9, if_pos (by omega)]; simp
        · rw [h9, if_neg (by omega)]; simp
      have g2 : tk_step b (f, (m : Int) + 1, sum) (-1) = (upI f (m : Int) (if f (m : Int) = 0 then 1 else 0), (m : Int) + 1, sum) := by
        unfold tk_step
        rw [if_neg (by decide), if_pos rfl]
        show (upI f ((m : Int) + 1 - 1) (if f ((m : Int) + 1 - 1) = 0 then 1 else 0), (m : Int) + 1, sum) = _
        rw [show (m : Int) + 1 - 1 = (m : Int) by omega]
      have g3 : lvd (-1) ((m : Int) + 1) = (m : Int) + 1 := rfl
      rw [g1, g2, g3]
      refine ⟨?_, rfl, hr, fun i q1 q2 => ?_⟩
      · show _ = (bs (upI f (m : Int) (if f (m : Int) = 0 then 1 else 0)) ((m : Int) + 1).toNat, sum)
        rw [show ((m : Int) + 1).toNat = m + 1 by omega]
        rw [bs_s, bs_up _ (by omega), upI_at]
        rcases fm with h9 | h9
        · rw [h9, if_pos rfl]; rfl
        · rw [h9, if_neg (by decide)]; rfl
      · show upI f (m : Int) (if f (m : Int) = 0 then 1 else 0) i = 0 ∨ upI f (m : Int) (if f (m : Int) = 0 then 1 else 0) i = 1
        by_cases hi : i = (m : Int)
        · rw [hi, upI_at]; split <;> omega
        · rw [upI_ne hi]; exact hf i q1 q2
    · by_cases t2 : -10 < t
      · have t3 : t = -2 ∨ t = -3 := by omega
        have hp := h3 t3
        obtain ⟨m, hm⟩ : ∃ m : Nat, top = (m : Int) + 2 := ⟨(top - 2).toNat, by omega⟩
        subst hm
        have eb : bs f ((m : Int) + 2).toNat = 2 * (2 * bs f m + f (m : Int)) + f ((m : Int) + 1) := by rw [show ((m : Int) + 2).toNat = m + 1 + 1 by omega]; rfl
        have fm := hf (m : Int) (by omega) (by omega)
        have fn := hf ((m : Int) + 1) (by omega) (by omega)
        have g3 : lvd t ((m : Int) + 2) = (m : Int) + 1 := by unfold lvd; rw [if_neg ht, if_neg t1, if_pos t2]; omega
        have hb0 := bs_13 (f := f) (n := m) (by omega) (fun i q1 q2 => hf i q1 (by omega))
        rw [eb] at hop e1
        have d1 : (2 * (2 * bs f m + f (m : Int)) + f ((m : Int) + 1)) / 2 = 2 * bs f m + f (m : Int) := by omega
        have d2 : (2 * (2 * bs f m + f (m : Int)) + f ((m : Int) + 1)) % 2 = f ((m : Int) + 1) := by omega
        have d3 : (2 * bs f m + f (m : Int)) % 2 = f (m : Int) := by omega
        have key : ∀ y : Int, (y = 0 ∨ y = 1) → hw_step b w (tk_e t) = (2 * bs f m + y, sum) → tk_step b (f, (m : Int) + 2, sum) t = (upI f (m : Int) y, (m : Int) + 1, sum) → hw_R (tk_step b (f, (m : Int) + 2, sum) t) (hw_step b w (tk_e t)) (lvd t ((m : Int) + 2)) := by
          intro y hy g1 g2
          unfold hw_R
          rw [g1, g2, g3]
          refine ⟨?_, rfl, by omega, fun i q1 q2 => ?_⟩
          · show _ = (bs (upI f (m : Int) y) ((m : Int) + 1).toNat, sum)
            rw [show ((m : Int) + 1).toNat = m + 1 by omega]
            rw [bs_s, bs_up _ (by omega), upI_at]
          · show upI f (m : Int) y i = 0 ∨ upI f (m : Int) y i = 1
            by_cases hi : i = (m : Int)
            · rw [hi, upI_at]; exact hy
            · rw [upI_ne hi]; exact hf i q1 (by omega)
        have st : ∀ y : Int, y = (if t = -2 then (if f (m : Int) = 0 then 0 else if f ((m : Int) + 1) = 0 then 0 else 1) else (if f (m : Int) = 0 then (if f ((m : Int) + 1) = 0 then 0 else 1) else 1)) → tk_step b (f, (m : Int) + 2, sum) t = (upI f (m : Int) y, (m : Int) + 1, sum) := by
          intro y hy
          unfold tk_step
          rw [if_neg ht, if_neg t1, if_pos t2]
          show (upI f ((m : Int) + 2 - 2) (if t = -2 then (if f ((m : Int) + 2 - 2) = 0 then 0 else if f ((m : Int) + 2 - 1) = 0 then 0 else 1) else (if f ((m : Int) + 2 - 2) = 0 then (if f ((m : Int) + 2 - 1) = 0 then 0 else 1) else 1)), (m : Int) + 2 - 1, sum) = _
          rw [show (m : Int) + 2 - 2 = (m : Int) by omega, show (m : Int) + 2 - 1 = (m : Int) + 1 by omega, ← hy]
        rcases t3 with t3 | t3
        · have te : tk_e t = 7 := by rw [t3]; rfl
          have s1 : bAnd (tk_e t) 15 = 7 := by rw [ho.1, te]; rfl
          refine key (if f (m : Int) = 0 then 0 else if f ((m : Int) + 1) = 0 then 0 else 1) (by (repeat' split) <;> omega) ?_ (st _ (by rw [if_pos t3]))
          unfold hw_step
          rw [if_neg (by omega), if_neg (by omega), if_pos s1, e1, e2, hop.2.2.2.2.1]
          have h9 := hop.2.2.2.2.2.2.1
          rw [d1] at h9 ⊢
          rw [h9, d2, d3]
          rcases fm with f1 | f1 <;> rcases fn with f2 | f2 <;> rw [f1, f2] <;> simp
        · have te : tk_e t = 8 := by rw [t3]; rfl
          have s1 : bAnd (tk_e t) 15 = 8 := by rw [ho.1, te]; rfl
          refine key (if f (m : Int) = 0 then (if f ((m : Int) + 1) = 0 then 0 else 1) else 1) (by (repeat' split) <;> omega) ?_ (st _ (by rw [if_neg (show ¬ t = -2 by omega)]))
          unfold hw_step
          rw [if_neg (by omega), if_neg (by omega), if_neg (by omega), if_pos s1, e1, e2, hop.2.2.2.2.1, hop.2.2.2.2.2.1]
          have h9 := hop.2.2.2.2.2.2.2
          rw [h9, d2, d1, d3]
          rcases fm with f1 | f1 <;> rcases fn with f2 | f2 <;> rw [f1, f2] <;> simp
      · have hD1 := h4 (by omega)
        subst hD1
        have f0 := hf 0 (by omega) (by omega)
        have eb : bs f (1 : Int).toNat = f 0 := by show 2 * (0 : Int) + f ((0 : Nat) : Int) = f 0; simp
        have g3 : lvd t 1 = 0 := by unfold lvd; rw [if_neg ht, if_neg t1, if_neg t2]
        rw [eb] at e1
        have g2 : tk_step b (f, 1, sum) t = (f, 0, sum + (if f 0 = 0 then 0 else if -200 < t then -10 - t else 200 + t)) := by
          unfold tk_step
          rw [if_neg ht, if_neg t1, if_neg t2]
        have g1 : hw_step b w (tk_e t) = (0, sum + (if f 0 = 0 then 0 else if -200 < t then -10 - t else 200 + t)) := by
          by_cases t4 : -200 < t
          · have te : tk_e t = (-10 - t) * 16 + 9 := by unfold tk_e; rw [if_neg ht, if_neg t1, if_neg (by omega), if_neg (by omega), if_pos t4]
            have s1 : bAnd (tk_e t) 15 = 9 := by rw [ho.1, te]; omega
            have s2 : bShr (tk_e t) 4 = -10 - t := by rw [ho.2, te]; omega
            unfold hw_step
            rw [if_neg (by omega), if_neg (by omega), if_neg (by omega), if_neg (by omega), if_pos s1, s2, e1, e2, if_pos t4]
          · have te : tk_e t = (-200 - t) * 16 + 10 := by unfold tk_e; rw [if_neg ht, if_neg t1, if_neg (by omega), if_neg (by omega), if_neg t4]
            have s1 : bAnd (tk_e t) 15 = 10 := by rw [ho.1, te]; omega
            have s2 : bShr (tk_e t) 4 = -200 - t := by rw [ho.2, te]; omega
            unfold hw_step
            rw [if_neg (by omega), if_neg (by omega), if_neg (by omega), if_neg (by omega), if_neg (by omega), s2, e1, e2, if_neg t4]
            by_cases f1 : f 0 = 0
            · rw [if_pos f1, if_pos f1]; simp
            · rw [if_neg f1, if_neg f1, show -(-200 - t) = 200 + t by omega]
        rw [g1, g2, g3]
        exact ⟨rfl, rfl, by omega, fun i q1 q2 => by omega⟩
theorem hw_all {l : List Int} {od b : Int → Int} (hJ : lvJ l) (hb : ∀ i, 0 ≤ i → i < 6 → 0 ≤ b i ∧ b i ≤ 9) (ho : ∀ j : Nat, j < l.length → od (j : Int) = tk_e (l.getD j 0)) : ∀ j : Nat, j ≤ l.length → hw_R (tk_run (tok_l l) b j) (hw_run od b j) (tk_D (tok_l l) j)
  | 0, _ => ⟨rfl, rfl, by unfold tk_D; omega, fun i q1 q2 => by unfold tk_D at q2; omega⟩
  | j + 1, hj => by
    have ih := hw_all hJ hb ho j (by omega)
    have h1 := hw_one hb (hJ j (by omega)) ih
    have e1 : od (j : Int) = tk_e (tok_l l (j : Int)) := ho j (by omega)
    unfold tk_run hw_run
    rw [e1]
    exact h1
/-- the class's house weighs as W does -/
def md_ho (W : (Int → Int) → Int) (od : Int → Int) (m : Int) : Prop := (0 ≤ m ∧ m ≤ 100) ∧ (∀ j : Nat, (j : Int) < m → 0 ≤ od j ∧ od j < 16384) ∧ (∀ b : Int → Int, (∀ i, 0 ≤ i → i < 6 → 0 ≤ b i ∧ b i ≤ 9) → (∀ j : Nat, (j : Int) ≤ m → -9900 ≤ (hw_run od b j).2 ∧ (hw_run od b j).2 ≤ 9900) ∧ (hw_run od b m.toNat).2 = W b)
theorem md_ho_of {l : List Int} {od : Int → Int} {m : Int} (hJ : lvJ l) (hn : l.length ≤ 100) (h : cr_L l od m) : md_ho (fun b => (tk_run (tok_l l) b l.length).2.2) od m := by
  have hm := h.1
  refine ⟨by omega, fun j hj => ?_, fun b hb => ⟨fun j hj => ?_, ?_⟩⟩
  · rw [h.2 j (by omega)]
    exact tk_e_rng (hJ j (by omega))
  · have h1 := hw_all hJ hb h.2 j (by omega)
    have h2 := tk_sum_rng (b := b) (lvJ_ok hJ) j (by omega)
    rw [h1.1]
    show -9900 ≤ (tk_run (tok_l l) b j).2.2 ∧ _
    omega
  · have h1 := hw_all hJ hb h.2 l.length (Nat.le_refl _)
    rw [show m.toNat = l.length by omega, h1.1]
