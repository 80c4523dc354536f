/-! THE LAW'S ENTRY -/
def eFlat : Cond → List Cond
  | .and a b => eFlat a ++ eFlat b
  | c => [c]
theorem eFlat_of {a : Array Value} {s : State} : ∀ c : Cond, c.before a s = true → ∀ w ∈ eFlat c, w.before a s = true := by
  intro c
  induction c with
  | and x y ihx ihy =>
    intro h w hw
    rw [Cond.before_and, Bool.and_eq_true] at h
    rw [eFlat] at hw
    rcases List.mem_append.mp hw with q | q
    · exact ihx h.1 w q
    · exact ihy h.2 w q
  | _ => intro h w hw; rw [List.mem_singleton.mp hw]; exact h
def EN : List Cond := eFlat (Cond.and given_1 narrow_1)
def tmS : Nat → Term := fun i => match i with
  | 0 => .string RX3 36
  | 1 => .string RX3 38
  | 2 => .string RX3 40
  | 3 => .string RX3 55
  | 4 => .string RX3 74
  | 5 => .string RX3 102
  | _ => .string RX10 106
theorem en_n : ∀ i : Fin 7, tx_len.getD i.val 0 < 2 ^ 31 := by decide +kernel
theorem en_ex : ∀ i : Fin 7, Cond.exactly (tmS i.val) "java/lang/String" ∈ EN := by decide +kernel
theorem en_co : ∀ i : Fin 7, Cond.eq (.field (tmS i.val) "java/lang/String" "coder" "B") (.int 0) ∈ EN := by decide +kernel
theorem en_ar : ∀ i : Fin 7, Cond.arrayOf (.field (tmS i.val) "java/lang/String" "value" "[B") .byte ∈ EN := by decide +kernel
theorem en_le : ∀ i : Fin 7, Cond.eq (.length (.field (tmS i.val) "java/lang/String" "value" "[B")) (.int (Int32.ofNat (tx_len.getD i.val 0))) ∈ EN := by decide +kernel
theorem en_el : ∀ i : Fin 7, ∀ j : Fin 6, j.val < tx_len.getD i.val 0 → Cond.eq (.elem (.field (tmS i.val) "java/lang/String" "value" "[B") (.int (Int32.ofNat j.val))) (.int ((tx_byt.getD i.val []).getD j.val 0)) ∈ EN := by decide +kernel
theorem en_le6 : ∀ i : Fin 7, tx_len.getD i.val 0 ≤ 6 := by decide +kernel
theorem en_ne : ∀ i j : Fin 7, i.val < j.val → Cond.not (Cond.eq (tmS i.val) (tmS j.val)) ∈ EN := by decide +kernel
theorem en_A : ∀ j : Fin 7, Cond.eq (.elem (.static "FootmenMatch" "ABOVE" "[I") (.int (Int32.ofNat j.val))) (.int (aI tb_above j.val)) ∈ EN := by decide +kernel
theorem en_B : ∀ j : Fin 21, Cond.eq (.elem (.static "FootmenMatch" "BODIES" "[I") (.int (Int32.ofNat j.val))) (.int (aI tb_bodies j.val)) ∈ EN := by decide +kernel
theorem en_gN : ∀ w ∈ gN, w.onTables = true ∧ w ∈ lw_tbl := by decide +kernel
theorem en_arr {args : Array Value} {s : State} {ty : FieldType} (hno : ∀ C, ty ≠ .object C) (h : (Cond.arrayClass ty).before args s = true) : ∃ cA : ClassId, ArrOfT s cA ty ∧ va_RA s cA ty := by
  obtain ⟨c, k, comp, h1, h2, h3⟩ := Cond.arrayClass_spec h
  refine ⟨c, fun N z => ⟨(fun q hq => by cases hq), k, h2, comp, h3⟩, ?_⟩
  cases ty with
  | object C => exact absurd rfl (hno C)
  | _ => exact h1
theorem en_arrH {args : Array Value} {s : State} {C : String} (h : (Cond.arrayOver (.object C)).before args s = true) : ∃ cA : ClassId, ArrOfT s cA (.object C) ∧ va_RA s cA (.object C) := by
  obtain ⟨comp, c, k, h1, h2, h3, h4, h5⟩ := Cond.arrayOver_spec h
  exact ⟨c, fun N z => ⟨(fun q hq => by cases hq), k, h3, comp, h4⟩, ⟨k, comp, h3, h4, h1, h5⟩⟩
set_option maxHeartbeats 4000000 in
theorem entry_K {args : Array Value} {s : State} (hts : ∀ w ∈ lw_tbl, w.before args s = true) (hgv : (Cond.and given_1 narrow_1).before args s = true) : ∃ K : gK, va_K K.1 vwCl (gT K) s ∧ gE K (fun q => s.heap.size ≤ q) s s.heap ∧ gF K s := by
  have hA : ∀ a : Nat, a < s.heap.size → ¬ (fun q : Nat => s.heap.size ≤ q) a := fun a h => Nat.not_le.mpr h
  have hs : ∀ w ∈ EN, w.before args s = true := eFlat_of _ hgv
  have tb : ∀ w, w ∈ TB → w.before args s = true := fun w h => hts _ (List.mem_filter.mp h).1
  obtain ⟨c0, i0, k0⟩ := u_known (C := RX0) (T := TX0) (N := 5) (n := 5) hts (fun w hw => (List.mem_filter.mp (in_X0 w hw)).1) (tb _ wi_X0)
  obtain ⟨c1, i1, k1⟩ := u_known (C := RX1) (T := TX1) (N := 3) (n := 3) hts (fun w hw => (List.mem_filter.mp (in_X1 w hw)).1) (tb _ wi_X1)
  obtain ⟨c2, i2, k2⟩ := u_known (C := RX2) (T := TX2) (N := 4) (n := 4) hts (fun w hw => (List.mem_filter.mp (in_X2 w hw)).1) (tb _ wi_X2)
  obtain ⟨c3, i3, k3⟩ := u_known (C := RX3) (T := TX3) (N := 4) (n := 4) hts (fun w hw => (List.mem_filter.mp (in_X3 w hw)).1) (tb _ wi_X3)
  obtain ⟨c4, i4, k4⟩ := u_known (C := RX4) (T := TX4) (N := 4) (n := 4) hts (fun w hw => (List.mem_filter.mp (in_X4 w hw)).1) (tb _ wi_X4)
  obtain ⟨c5, i5, k5⟩ := u_known (C := RX5) (T := TX5) (N := 9) (n := 9) hts (fun w hw => (List.mem_filter.mp (in_X5 w hw)).1) (tb _ wi_X5)
  obtain ⟨c6, i6, k6⟩ := u_known (C := RX6) (T := TX6) (N := 2) (n := 2) hts (fun w hw => (List.mem_filter.mp (in_X6 w hw)).1) (tb _ wi_X6)
  obtain ⟨c7, i7, k7⟩ := u_known (C := RX7) (T := TX7) (N := 6) (n := 6) hts (fun w hw => (List.mem_filter.mp (in_X7 w hw)).1) (tb _ wi_X7)
  obtain ⟨c8, i8, k8⟩ := u_known (C := RX8) (T := TX8) (N := 6) (n := 6) hts (fun w hw => (List.mem_filter.mp (in_X8 w hw)).1) (tb _ wi_X8)
  obtain ⟨c9, i9, k9⟩ := u_known (C := RX9) (T := TX9) (N := 7) (n := 7) hts (fun w hw => (List.mem_filter.mp (in_X9 w hw)).1) (tb _ wi_X9)
  obtain ⟨c10, i10, k10⟩ := u_known (C := RX10) (T := TX10) (N := 25) (n := 25) hts (fun w hw => (List.mem_filter.mp (in_X10 w hw)).1) (tb _ wi_X10)
  obtain ⟨aInt, xInt, yInt⟩ := en_arr (ty := .int) (fun C h => by cases h) (tb _ wa_int)
  obtain ⟨aBoo, xBoo, yBoo⟩ := en_arr (ty := .boolean) (fun C h => by cases h) (tb _ wa_boolean)
  obtain ⟨aHou, xHou, yHou⟩ := en_arrH (C := "FootmenMatch$House") (hts (Cond.arrayOver (.object "FootmenMatch$House")) (by decide +kernel))
  obtain ⟨adK, adV, hS, hTm⟩ := vk_Sof (args := args) (s := s) (N := 7) (tm := tmS) (len := tx_len) (byt := tx_byt) (A := fun q => s.heap.size ≤ q) (fun i hi => en_n ⟨i, hi⟩) (fun i hi => hs _ (en_ex ⟨i, hi⟩)) (fun i hi => hs _ (en_co ⟨i, hi⟩)) (fun i hi => hs _ (en_ar ⟨i, hi⟩)) (fun i hi => hs _ (en_le ⟨i, hi⟩))
    (fun i hi j hj => hs _ (en_el ⟨i, hi⟩ ⟨j, Nat.lt_of_lt_of_le hj (en_le6 ⟨i, hi⟩)⟩ hj)) (fun i j hi hj hne => by
      rcases Nat.lt_or_gt_of_ne hne with h | h
      · exact Or.inl (hs _ (en_ne ⟨i, hi⟩ ⟨j, hj⟩ h))
      · exact Or.inr (hs _ (en_ne ⟨j, hj⟩ ⟨i, hi⟩ h))) hA
  obtain ⟨tA, eA, hTA⟩ := va_Tof (args := args) (s := s) (tm := .static "FootmenMatch" "ABOVE" "[I") (ty := .int) (N := 7) (f := fun j => .int (aI tb_above j)) (A := fun q => s.heap.size ≤ q) (by decide) (hs _ (by decide +kernel)) (va_eqt (hs (Cond.eq (.length (.static "FootmenMatch" "ABOVE" "[I")) (.int (Int32.ofNat 7))) (by decide +kernel))) (fun j hj => va_eqt (hs _ (en_A ⟨j, hj⟩))) hA
  obtain ⟨tB, eB, hTB⟩ := va_Tof (args := args) (s := s) (tm := .static "FootmenMatch" "BODIES" "[I") (ty := .int) (N := 21) (f := fun j => .int (aI tb_bodies j)) (A := fun q => s.heap.size ≤ q) (by decide) (hs _ (by decide +kernel)) (va_eqt (hs (Cond.eq (.length (.static "FootmenMatch" "BODIES" "[I")) (.int (Int32.ofNat 21))) (by decide +kernel))) (fun j hj => va_eqt (hs _ (en_B ⟨j, hj⟩))) hA
  refine ⟨((fun k => match k with | 0 => c0 | 1 => c1 | 2 => c2 | 3 => c3 | 4 => c4 | 5 => c5 | 6 => c6 | 7 => c7 | 8 => c8 | 9 => c9 | _ => c10, fun k => match k with | 0 => i0 | 1 => i1 | 2 => i2 | 3 => i3 | 4 => i4 | 5 => i5 | 6 => i6 | 7 => i7 | 8 => i8 | 9 => i9 | _ => i10), (aInt, aBoo, aHou), adK, adV, tA, tB), ⟨fun k q hq => ?_, fun k q hq => ?_⟩, ?_, ?_⟩
  · match k, hq with
    | 0, hq => cases hq; exact k0
    | 1, hq => cases hq; exact k1
    | 2, hq => cases hq; exact k2
    | 3, hq => cases hq; exact k3
    | 4, hq => cases hq; exact k4
    | 5, hq => cases hq; exact k5
    | 6, hq => cases hq; exact k6
    | 7, hq => cases hq; exact k7
    | 8, hq => cases hq; exact k8
    | 9, hq => cases hq; exact k9
    | 10, hq => cases hq; exact k10
    | k + 11, hq => simp [vwCl] at hq
  · match k, hq with
    | 0, hq => cases hq; exact ⟨xInt, yInt⟩
    | 1, hq => cases hq; exact ⟨xBoo, yBoo⟩
    | 2, hq => cases hq; exact ⟨xHou, yHou⟩
    | k + 3, hq => simp [gT] at hq
  · exact ⟨⟨va_Zof (hts (Cond.laysStatic "FootmenMatch" "ABOVE" "[I") (by decide +kernel)) (tb _ wz_X9) eA hA, hTA⟩, ⟨va_Zof (hts (Cond.laysStatic "FootmenMatch" "BODIES" "[I") (by decide +kernel)) (tb _ wz_X9) eB hA, hTB⟩, hS, va_Zof (hts (Cond.laysStatic "java/lang/String" "COMPACT_STRINGS" "Z") (by decide +kernel)) (tb _ wz_J0) (va_eqi (hs (Cond.eq (.static "java/lang/String" "COMPACT_STRINGS" "Z") (.int 1)) (by decide +kernel))) hA, va_Zqof (hts (Cond.laysStatic "jdk/internal/util/Preconditions" "SIOOBE_FORMATTER" "Ljava/util/function/BiFunction;") (by decide +kernel)) (tb _ wz_J3) (hs (Cond.isRef (.static "jdk/internal/util/Preconditions" "SIOOBE_FORMATTER" "Ljava/util/function/BiFunction;")) (by decide +kernel)) hA⟩
  · exact ⟨fun w hw => va_Nw.of (en_gN w hw).1 (hts w (en_gN w hw).2), ⟨vk_R.of (hts (Cond.stringRef RX3 36 "reach ") (by decide +kernel)) (hTm 0 (by decide)), vk_R.of (hts (Cond.stringRef RX3 38 "heed ") (by decide +kernel)) (hTm 1 (by decide)), vk_R.of (hts (Cond.stringRef RX3 40 "shun ") (by decide +kernel)) (hTm 2 (by decide)), vk_R.of (hts (Cond.stringRef RX3 55 " ") (by decide +kernel)) (hTm 3 (by decide)), vk_R.of (hts (Cond.stringRef RX3 74 ")") (by decide +kernel)) (hTm 4 (by decide)), vk_R.of (hts (Cond.stringRef RX3 102 "pqksdt") (by decide +kernel)) (hTm 5 (by decide))⟩, ⟨vk_R.of (hts (Cond.stringRef RX10 118 "reach ") (by decide +kernel)) (va_eqR (hs (Cond.eq (.string RX3 36) (.string RX10 118)) (by decide +kernel)) (hTm 0 (by decide))), vk_R.of (hts (Cond.stringRef RX10 124 "heed ") (by decide +kernel)) (va_eqR (hs (Cond.eq (.string RX3 38) (.string RX10 124)) (by decide +kernel)) (hTm 1 (by decide))), vk_R.of (hts (Cond.stringRef RX10 129 "shun ") (by decide +kernel)) (va_eqR (hs (Cond.eq (.string RX3 40) (.string RX10 129)) (by decide +kernel)) (hTm 2 (by decide))), vk_R.of (hts (Cond.stringRef RX10 100 "pqksdt") (by decide +kernel)) (va_eqR (hs (Cond.eq (.string RX3 102) (.string RX10 100)) (by decide +kernel)) (hTm 5 (by decide))), vk_R.of (hts (Cond.stringRef RX10 106 "<=>") (by decide +kernel)) (hTm 6 (by decide)), va_AO.of (hts (Cond.arrayOver (.object "FootmenMatch$House")) (by decide +kernel))⟩⟩
