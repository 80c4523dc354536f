/-! MATHEMATICS, 1: the state as one row s of numbers (0 step, 1.. states, 7.. away, 13.. rooms, 19 how many, 25 which house holds, 26.. kinds, 32.. numbers, 38.. rows, 212.. reach, 217.. how many tokens, 222.. tokens) -/
def md_rg (s : Int → Int) : Prop := (∀ p, 0 ≤ p → p < 6 → (0 ≤ s (1 + p) ∧ s (1 + p) ≤ 9) ∧ (s (7 + p) = 0 ∨ s (7 + p) = 1) ∧ (0 ≤ s (13 + p) ∧ s (13 + p) ≤ 9) ∧ (0 ≤ s (26 + p) ∧ s (26 + p) ≤ 6) ∧ (0 ≤ s (32 + p) ∧ s (32 + p) ≤ 9)) ∧ (∀ j, 38 ≤ j → j < 62 → 0 ≤ s j ∧ s j ≤ 9) ∧ (0 ≤ s 19 ∧ s 19 ≤ 6) ∧ (0 ≤ s 0 ∧ s 0 ≤ 20000)
theorem md_rm {s : Int → Int} (h : md_rg s) : ∀ j, 13 ≤ j → j < 19 → 0 ≤ s j ∧ s j ≤ 9 := by
  intro j h1 h2
  have h3 := (h.1 (j - 13) (by omega) (by omega)).2.2.1
  rwa [show 13 + (j - 13) = j by omega] at h3
def md_apart (s : Int → Int) (p q : Int) : Int := if s (13 + p) - s (13 + q) < 0 then -(s (13 + p) - s (13 + q)) else s (13 + p) - s (13 + q)
theorem md_apart_rng {s : Int → Int} (h : md_rg s) {p q : Int} (hp : 0 ≤ p ∧ p < 6) (hq : 0 ≤ q ∧ q < 6) : 0 ≤ md_apart s p q ∧ md_apart s p q ≤ 9 := by
  have h1 := (h.1 p hp.1 hp.2).2.2.1
  have h2 := (h.1 q hq.1 hq.2).2.2.1
  unfold md_apart
  split <;> omega
/-- the facts that a test may ask about -/
def tk_b (p q k x d t : Int) : Int → Int := fun j => if j = 0 then p else if j = 1 then q else if j = 2 then k else if j = 3 then x else if j = 4 then d else if j = 5 then t else 0
def tk_test (b : Int → Int) (t : Int) : Int := if t / 8 % 4 = 0 then (if b (t % 8) < t / 32 then 1 else 0) else if t / 8 % 4 = 1 then (if b (t % 8) = t / 32 then 1 else 0) else (if t / 32 < b (t % 8) then 1 else 0)
theorem tk_test_01 (b : Int → Int) (t : Int) : tk_test b t = 0 ∨ tk_test b t = 1 := by
  unfold tk_test
  split <;> (try split) <;> (try split) <;> omega
/-- a token over a stack of truths (its picture, how many), and a sum -/
def tk_step (b : Int → Int) (z : (Int → Int) × Int × Int) (t : Int) : (Int → Int) × Int × Int :=
  if 0 ≤ t then (upI z.1 z.2.1 (tk_test b t), z.2.1 + 1, z.2.2)
  else if t = -1 then (upI z.1 (z.2.1 - 1) (if z.1 (z.2.1 - 1) = 0 then 1 else 0), z.2.1, z.2.2)
  else if -10 < t then (upI z.1 (z.2.1 - 2) (if t = -2 then (if z.1 (z.2.1 - 2) = 0 then 0 else if z.1 (z.2.1 - 1) = 0 then 0 else 1) else (if z.1 (z.2.1 - 2) = 0 then (if z.1 (z.2.1 - 1) = 0 then 0 else 1) else 1)), z.2.1 - 1, z.2.2)
  else (z.1, 0, z.2.2 + (if z.1 0 = 0 then 0 else if -200 < t then -10 - t else 200 + t))
def tk_run (tok b : Int → Int) : Nat → (Int → Int) × Int × Int
  | 0 => (fun _ => 0, 0, 0)
  | j + 1 => tk_step b (tk_run tok b j) (tok (j : Int))
def tk_D (tok : Int → Int) : Nat → Int
  | 0 => 0
  | j + 1 => if 0 ≤ tok (j : Int) then tk_D tok j + 1 else if tok (j : Int) = -1 then tk_D tok j else if -10 < tok (j : Int) then tk_D tok j - 1 else 0
def tk_ok (tok : Int → Int) (n : Nat) : Prop := ∀ j : Nat, j < n → (0 ≤ tok j → tok j % 8 ≤ 5 ∧ tok j / 8 % 4 ≤ 2 ∧ tok j / 32 ≤ 99 ∧ tk_D tok j ≤ 28) ∧ (tok j = -1 → 1 ≤ tk_D tok j) ∧ (tok j = -2 ∨ tok j = -3 → 2 ≤ tk_D tok j) ∧ (tok j ≤ -10 → tk_D tok j = 1) ∧ (-3 ≤ tok j ∨ (-109 ≤ tok j ∧ tok j ≤ -10) ∨ (-299 ≤ tok j ∧ tok j ≤ -200)) ∧ tok j ≤ 10000
theorem tk_top (tok b : Int → Int) : ∀ n, (tk_run tok b n).2.1 = tk_D tok n
  | 0 => rfl
  | j + 1 => by
    have ih := tk_top tok b j
    unfold tk_run tk_D tk_step
    split
    · simp only [ih]
    · split
      · exact ih
      · split
        · simp only [ih]
        · rfl
theorem tk_D_rng {tok : Int → Int} {n : Nat} (h : tk_ok tok n) : ∀ j : Nat, j ≤ n → 0 ≤ tk_D tok j ∧ tk_D tok j ≤ 29
  | 0, _ => by unfold tk_D; omega
  | j + 1, hj => by
    have ih := tk_D_rng h j (by omega)
    obtain ⟨h1, h2, h3, h4, h5, h6⟩ := h j (by omega)
    unfold tk_D
    split
    · have := h1 (by assumption)
      omega
    · split
      · omega
      · split
        · have := h3 (by omega)
          omega
        · omega
theorem tk_sum_rng {tok b : Int → Int} {n : Nat} (h : tk_ok tok n) : ∀ j : Nat, j ≤ n → -(99 * (j : Int)) ≤ (tk_run tok b j).2.2 ∧ (tk_run tok b j).2.2 ≤ 99 * (j : Int)
  | 0, _ => by simp [tk_run]
  | j + 1, hj => by
    have ih := tk_sum_rng (b := b) h j (by omega)
    obtain ⟨h1, h2, h3, h4, h5, h6⟩ := h j (by omega)
    unfold tk_run tk_step
    split
    · simp only []; omega
    · split
      · simp only []; omega
      · split
        · simp only []; omega
        · simp only []
          split
          · omega
          · split <;> omega
def md_tok (s : Int → Int) : Int → Int := fun j => s (222 + 140 * s 25 + j)
/-- which house holds: W what it adds to a pull, by the facts; rch its reach -/
def md_TK (s : Int → Int) (W : (Int → Int) → Int) (rch : Int) : Prop :=
  ((s 25 = -1 ∧ rch = 9 ∧ ∀ b, W b = 0) ∨ (0 ≤ s 25 ∧ s 25 ≤ 4 ∧ rch = s (212 + s 25) ∧ 0 ≤ s (217 + s 25) ∧ s (217 + s 25) ≤ 100 ∧ tk_ok (md_tok s) (s (217 + s 25)).toNat ∧ ∀ b, W b = (tk_run (md_tok s) b (s (217 + s 25)).toNat).2.2)) ∧ (0 ≤ rch ∧ rch ≤ 99) ∧ ∀ b, -990 ≤ W b ∧ W b ≤ 990
theorem md_TK_same {s s2 : Int → Int} {W : (Int → Int) → Int} {rch : Int} (e : ∀ j, 20 ≤ j → s2 j = s j) (h : md_TK s W rch) : md_TK s2 W rch := by
  obtain ⟨h1, h2, h3⟩ := h
  have e25 := e 25 (by omega)
  refine ⟨?_, h2, h3⟩
  rcases h1 with ⟨a, b, c⟩ | ⟨a, b, c, d1, d2, d3, d4⟩
  · exact Or.inl ⟨by rw [e25]; exact a, b, c⟩
  · have et : md_tok s2 = fun j => s2 (222 + 140 * s 25 + j) := by unfold md_tok; rw [e25]
    have e1 := e (212 + s 25) (by omega)
    have e2 := e (217 + s 25) (by omega)
    refine Or.inr ⟨by rw [e25]; exact a, by rw [e25]; exact b, by rw [e25, e1]; exact c, by rw [e25, e2]; exact d1, by rw [e25, e2]; exact d2, ?_, ?_⟩
    · rw [e25, e2]
      have key : ∀ j : Nat, md_tok s2 j = md_tok s j := fun j => by rw [et]; exact e _ (by omega)
      have kD : ∀ j : Nat, tk_D (md_tok s2) j = tk_D (md_tok s) j := by
        intro j
        induction j with
        | zero => rfl
        | succ j ih => unfold tk_D; rw [key j, ih]
      intro j hj
      rw [key j, kD j]
      exact d3 j hj
    · intro b
      rw [d4 b, e25, e2]
      have key : ∀ j : Nat, tk_run (md_tok s2) b j = tk_run (md_tok s) b j := by
        intro j
        induction j with
        | zero => rfl
        | succ j ih =>
          unfold tk_run
          rw [ih, show md_tok s2 (j : Int) = md_tok s (j : Int) by rw [et]; exact e _ (by omega)]
      rw [key]
def md_pull (W : (Int → Int) → Int) (s : Int → Int) (p q : Int) : Int := 10 - md_apart s p q + W (tk_b p q (s (26 + p)) (s (1 + q)) (md_apart s p q) (s 0 % 10))
/-- the model's remembered pulls -/
def md_PC (W : (Int → Int) → Int) (kd pu : Int → Int) : Prop := ∀ p q x d t, 0 ≤ p → p < 6 → 0 ≤ q → q < 6 → 0 ≤ x → x ≤ 9 → 0 ≤ d → d ≤ 9 → 0 ≤ t → t ≤ 9 → pu ((((p * 6 + q) * 10 + x) * 10 + d) * 10 + t) = 1000000000 ∨ pu ((((p * 6 + q) * 10 + x) * 10 + d) * 10 + t) = 10 - d + W (tk_b p q (kd p) x d t)
theorem md_PC_up {W : (Int → Int) → Int} {kd pu pu2 : Int → Int} {p q x d t : Int} (hp : 0 ≤ p ∧ p < 6) (hq : 0 ≤ q ∧ q < 6) (hx : 0 ≤ x ∧ x ≤ 9) (hd : 0 ≤ d ∧ d ≤ 9) (ht : 0 ≤ t ∧ t ≤ 9) (e : pu2 = upI pu ((((p * 6 + q) * 10 + x) * 10 + d) * 10 + t) (10 - d + W (tk_b p q (kd p) x d t))) (h : md_PC W kd pu) : md_PC W kd pu2 := by
  intro p' q' x' d' t' a1 a2 a3 a4 a5 a6 a7 a8 a9 a10
  rw [e]
  by_cases hi : (((p' * 6 + q') * 10 + x') * 10 + d') * 10 + t' = (((p * 6 + q) * 10 + x) * 10 + d) * 10 + t
  · have e1 : p' = p := by omega
    have e2 : q' = q := by omega
    have e3 : x' = x := by omega
    have e4 : d' = d := by omega
    have e5 : t' = t := by omega
    subst e1 e2 e3 e4 e5
    exact Or.inr (upI_at _ _ _)
  · rw [upI_ne hi]
    exact h p' q' x' d' t' a1 a2 a3 a4 a5 a6 a7 a8 a9 a10
/-- what one is pulled with by another: 0 where it may not lead -/
def md_pl (W : (Int → Int) → Int) (rch : Int) (s : Int → Int) (p q : Int) : Int := if q = p then 0 else if s (7 + q) = 0 then (if md_apart s p q ≤ rch then md_pull W s p q else 0) else 0
def md_ld (W : (Int → Int) → Int) (rch : Int) (s : Int → Int) (p : Int) : Nat → Int × Int
  | 0 => (-5, 0)
  | q + 1 => if (md_ld W rch s p q).2 < md_pl W rch s p (q : Int) then ((q : Int), md_pl W rch s p (q : Int)) else md_ld W rch s p q
theorem md_ld_rng (W : (Int → Int) → Int) (rch : Int) (s : Int → Int) (p : Int) : ∀ n : Nat, 0 ≤ (md_ld W rch s p n).2 ∧ ((md_ld W rch s p n).1 = -5 ∨ (0 ≤ (md_ld W rch s p n).1 ∧ (md_ld W rch s p n).1 < (n : Int) ∧ (md_ld W rch s p n).1 ≠ p))
  | 0 => by unfold md_ld; simp
  | q + 1 => by
    have ih := md_ld_rng W rch s p q
    unfold md_ld
    by_cases h : (md_ld W rch s p q).2 < md_pl W rch s p (q : Int)
    · rw [if_pos h]
      have hne : (q : Int) ≠ p := by
        intro e
        unfold md_pl at h
        rw [if_pos e] at h
        omega
      refine ⟨by show 0 ≤ md_pl W rch s p (q : Int); omega, Or.inr ⟨by show 0 ≤ (q : Int); omega, by show (q : Int) < ((q + 1 : Nat) : Int); omega, hne⟩⟩
    · rw [if_neg h]
      refine ⟨ih.1, ?_⟩
      rcases ih.2 with h2 | h2
      · exact Or.inl h2
      · exact Or.inr ⟨h2.1, by omega, h2.2.2⟩
def md_lead (W : (Int → Int) → Int) (rch : Int) (s : Int → Int) (p : Int) : Int := if s (7 + p) = 0 then (md_ld W rch s p (s 19).toNat).1 else -5
theorem md_lead_rng {W : (Int → Int) → Int} {rch : Int} {s : Int → Int} {p : Int} (h : 0 ≤ s 19) : md_lead W rch s p = -5 ∨ (0 ≤ md_lead W rch s p ∧ md_lead W rch s p < s 19 ∧ md_lead W rch s p ≠ p) := by
  unfold md_lead
  split
  · rcases (md_ld_rng W rch s p (s 19).toNat).2 with h2 | h2
    · exact Or.inl h2
    · exact Or.inr ⟨h2.1, by omega, h2.2.2⟩
  · exact Or.inl rfl
def md_nx (k led own stp ap v rw : Int) : Int :=
  if k = 1 then (if own < led then led else own) else if k = 2 then (if stp % 2 = 0 then led else own) else if k = 3 then (led + own) / 2
  else if k = 4 then (if stp % 5 = 0 then (if (if own < led then led else own) < 9 then (if own < led then led else own) + 1 else (if own < led then led else own)) else (if own < led then led else own))
  else if k = 5 then (if v < ap then own else if stp % 2 = 0 then led else own) else if k = 6 then ((led + own) / 2 + rw) % 10 else led
def md_next (W : (Int → Int) → Int) (rch : Int) (s : Int → Int) (p : Int) : Int :=
  if md_lead W rch s p = -5 then s (1 + p) else md_nx (s (26 + p)) (s (1 + md_lead W rch s p)) (s (1 + p)) (s 0) (md_apart s p (md_lead W rch s p)) (s (32 + p)) (s (38 + 4 * p + s 0 % 4))
theorem md_nx_rng {k led own stp ap v rw : Int} (h1 : 0 ≤ led ∧ led ≤ 9) (h2 : 0 ≤ own ∧ own ≤ 9) : 0 ≤ md_nx k led own stp ap v rw ∧ md_nx k led own stp ap v rw ≤ 9 := by
  unfold md_nx
  (repeat' split) <;> omega
theorem md_next_rng {W : (Int → Int) → Int} {rch : Int} {s : Int → Int} {p : Int} (h : md_rg s) (hp : 0 ≤ p ∧ p < 6) : 0 ≤ md_next W rch s p ∧ md_next W rch s p ≤ 9 := by
  have h1 := (h.1 p hp.1 hp.2).1
  unfold md_next
  split
  · exact h1
  · rcases md_lead_rng (W := W) (rch := rch) (p := p) h.2.2.1.1 with h2 | h2
    · omega
    · exact md_nx_rng (h.1 _ h2.1 (by have := h.2.2.1; omega)).1 h1
/-- a STEP -/
def md_go (W : (Int → Int) → Int) (rch : Int) (s : Int → Int) : Int → Int := fun j => if 1 ≤ j ∧ j < 1 + s 19 then md_next W rch s (j - 1) else if j = 0 then s 0 + 1 else s j
def md_goN (W : (Int → Int) → Int) (rch : Int) (s : Int → Int) : Nat → Int → Int
  | 0 => s
  | n + 1 => md_go W rch (md_goN W rch s n)
theorem md_go_hi {W : (Int → Int) → Int} {rch : Int} {s : Int → Int} (h : s 19 ≤ 6) {j : Int} (hj : 7 ≤ j) : md_go W rch s j = s j := by
  unfold md_go
  rw [if_neg (by omega), if_neg (by omega)]
theorem md_go_0 {W : (Int → Int) → Int} {rch : Int} {s : Int → Int} : md_go W rch s 0 = s 0 + 1 := by
  unfold md_go
  rw [if_neg (by omega), if_pos rfl]
theorem md_go_rg {W : (Int → Int) → Int} {rch : Int} {s : Int → Int} (h : md_rg s) (h0 : s 0 < 20000) : md_rg (md_go W rch s) := by
  have h19 := h.2.2.1
  have hh : ∀ j, 7 ≤ j → md_go W rch s j = s j := fun j hj => md_go_hi h19.2 hj
  refine ⟨fun p h1 h2 => ?_, fun j h1 h2 => ?_, ?_, ?_⟩
  · obtain ⟨a1, a2, a3, a4, a5⟩ := h.1 p h1 h2
    refine ⟨?_, by rw [hh _ (by omega)]; exact a2, by rw [hh _ (by omega)]; exact a3, by rw [hh _ (by omega)]; exact a4, by rw [hh _ (by omega)]; exact a5⟩
    unfold md_go
    split
    · exact md_next_rng h (by omega)
    · rw [if_neg (by omega)]
      exact a1
  · rw [hh _ (by omega)]; exact h.2.1 j h1 h2
  · rw [hh _ (by omega)]; exact h19
  · rw [md_go_0]; have := h.2.2.2; omega
theorem md_goN_hi {W : (Int → Int) → Int} {rch : Int} {s : Int → Int} (h : s 19 ≤ 6) {j : Int} (hj : 7 ≤ j) : ∀ n : Nat, md_goN W rch s n j = s j
  | 0 => rfl
  | n + 1 => by
    have ih : ∀ j, 7 ≤ j → md_goN W rch s n j = s j := fun j hj => md_goN_hi h hj n
    unfold md_goN
    rw [md_go_hi (by rw [ih 19 (by omega)]; exact h) hj, ih j hj]
theorem md_goN_0 {W : (Int → Int) → Int} {rch : Int} {s : Int → Int} : ∀ n : Nat, md_goN W rch s n 0 = s 0 + (n : Int)
  | 0 => by show s 0 = s 0 + ((0 : Nat) : Int); omega
  | n + 1 => by
    unfold md_goN
    rw [md_go_0, md_goN_0 n]
    omega
theorem md_goN_rg {W : (Int → Int) → Int} {rch : Int} {s : Int → Int} (h : md_rg s) : ∀ n : Nat, s 0 + (n : Int) ≤ 20000 → md_rg (md_goN W rch s n)
  | 0, _ => h
  | n + 1, hn => by
    unfold md_goN
    exact md_go_rg (md_goN_rg h n (by omega)) (by rw [md_goN_0]; omega)
theorem bAnd_1 (a : Int) : bAnd a 1 = 0 ∨ bAnd a 1 = 1 := by
  have h := pk_and (iI a) (m := 1) 1 (by decide)
  have e : bAnd a 1 = (nI ((iI a).toBitVec.toNat % 2 ^ 1)).toInt := by
    unfold bAnd
    rw [show iI 1 = (1 : Int32) from rfl, h]
  have hb : (iI a).toBitVec.toNat % 2 ^ 1 < 2 := Nat.mod_lt _ (by decide)
  rw [e, nI_toInt (by omega)]
  omega
def md_set (s : Int → Int) : Nat → Int
  | 0 => 0
  | p + 1 => bOr (md_set s p) (if s (7 + (p : Int)) = 0 then bShl 1 (s (1 + (p : Int))) else 0)
def md_cnt (x : Int) : Nat → Int
  | 0 => 0
  | k + 1 => md_cnt x k + bAnd (bShr x (k : Int)) 1
def md_unl (s : Int → Int) : Int := md_cnt (md_set s (s 19).toNat) 10
theorem md_cnt_rng (x : Int) : ∀ k : Nat, 0 ≤ md_cnt x k ∧ md_cnt x k ≤ (k : Int)
  | 0 => by unfold md_cnt; omega
  | k + 1 => by
    have ih := md_cnt_rng x k
    have h := bAnd_1 (bShr x (k : Int))
    unfold md_cnt
    omega
theorem md_unl_rng (s : Int → Int) : 0 ≤ md_unl s ∧ md_unl s ≤ 10 := md_cnt_rng _ 10
theorem md_set_rng (s : Int → Int) : ∀ p : Nat, rI (md_set s p)
  | 0 => by unfold md_set; omega
  | _ + 1 => bOr_rng _ _
