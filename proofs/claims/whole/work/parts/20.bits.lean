/-! BITS, by cases -/
def b13 (o : Int) : Bool := bShl o 1 == 2 * o && bOr (2 * o) 0 == 2 * o && bOr (2 * o) 1 == 2 * o + 1 && bXor o 1 == (if o % 2 = 0 then o + 1 else o - 1) && bShr o 1 == o / 2 && bAnd o 1 == o % 2 && bAnd (o / 2) (bOr o (-2)) == (if o % 2 = 1 then o / 2 else o / 2 - o / 2 % 2) && bOr (o / 2) (o % 2) == (if o % 2 = 1 ∧ o / 2 % 2 = 0 then o / 2 + 1 else o / 2)
theorem b13_all : ∀ (i : Fin 64) (j : Fin 128), b13 (128 * (i.val : Int) + (j.val : Int)) = true := by decide +kernel
theorem b13_at {o : Int} (h : 0 ≤ o ∧ o < 8192) : bShl o 1 = 2 * o ∧ bOr (2 * o) 0 = 2 * o ∧ bOr (2 * o) 1 = 2 * o + 1 ∧ bXor o 1 = (if o % 2 = 0 then o + 1 else o - 1) ∧ bShr o 1 = o / 2 ∧ bAnd o 1 = o % 2 ∧ bAnd (o / 2) (bOr o (-2)) = (if o % 2 = 1 then o / 2 else o / 2 - o / 2 % 2) ∧ bOr (o / 2) (o % 2) = (if o % 2 = 1 ∧ o / 2 % 2 = 0 then o / 2 + 1 else o / 2) := by
  have h1 := b13_all ⟨(o / 128).toNat, by omega⟩ ⟨(o % 128).toNat, by omega⟩
  have e : 128 * (((o / 128).toNat : Nat) : Int) + (((o % 128).toNat : Nat) : Int) = o := by omega
  simp only [e] at h1
  unfold b13 at h1
  simp only [Bool.and_eq_true, beq_iff_eq] at h1
  obtain ⟨⟨⟨⟨⟨⟨⟨a, b⟩, c⟩, d⟩, f⟩, g⟩, i⟩, j⟩ := h1
  exact ⟨a, b, c, d, f, g, i, j⟩
def o15 (o : Int) : Bool := bAnd o 15 == o % 16 && bShr o 4 == o / 16
theorem o15_all : ∀ (i : Fin 128) (j : Fin 128), o15 (128 * (i.val : Int) + (j.val : Int)) = true := by decide +kernel
theorem o15_at {o : Int} (h : 0 ≤ o ∧ o < 16384) : bAnd o 15 = o % 16 ∧ bShr o 4 = o / 16 := by
  have h1 := o15_all ⟨(o / 128).toNat, by omega⟩ ⟨(o % 128).toNat, by omega⟩
  have e : 128 * (((o / 128).toNat : Nat) : Int) + (((o % 128).toNat : Nat) : Int) = o := by omega
  simp only [e] at h1
  unfold o15 at h1
  simp only [Bool.and_eq_true, beq_iff_eq] at h1
  exact h1
def jb10 (o : Int) : Bool := jbc o == bAnd (bShr o 0) 1 + bAnd (bShr o 1) 1 + bAnd (bShr o 2) 1 + bAnd (bShr o 3) 1 + bAnd (bShr o 4) 1 + bAnd (bShr o 5) 1 + bAnd (bShr o 6) 1 + bAnd (bShr o 7) 1 + bAnd (bShr o 8) 1 + bAnd (bShr o 9) 1
theorem jb10_all : ∀ (i : Fin 32) (j : Fin 32), jb10 (32 * (i.val : Int) + (j.val : Int)) = true := by decide +kernel
theorem jb10_at {o : Int} (h : 0 ≤ o ∧ o < 1024) : jbc o = md_cnt o 10 := by
  have h1 := jb10_all ⟨(o / 32).toNat, by omega⟩ ⟨(o % 32).toNat, by omega⟩
  have e : 32 * (((o / 32).toNat : Nat) : Int) + (((o % 32).toNat : Nat) : Int) = o := by omega
  simp only [e] at h1
  unfold jb10 at h1
  simp only [beq_iff_eq] at h1
  rw [h1]
  simp [md_cnt]
def bo10 (o : Int) : Bool := (List.range 10).all (fun k => decide (0 ≤ bOr o (bShl 1 (k : Int)) ∧ bOr o (bShl 1 (k : Int)) < 1024)) && bOr o 0 == o
theorem bo10_all : ∀ (i : Fin 32) (j : Fin 32), bo10 (32 * (i.val : Int) + (j.val : Int)) = true := by decide +kernel
theorem bo10_at {o k : Int} (h : 0 ≤ o ∧ o < 1024) (hk : 0 ≤ k ∧ k ≤ 9) : (0 ≤ bOr o (bShl 1 k) ∧ bOr o (bShl 1 k) < 1024) ∧ bOr o 0 = o := by
  have h1 := bo10_all ⟨(o / 32).toNat, by omega⟩ ⟨(o % 32).toNat, by omega⟩
  have e : 32 * (((o / 32).toNat : Nat) : Int) + (((o % 32).toNat : Nat) : Int) = o := by omega
  simp only [e] at h1
  unfold bo10 at h1
  simp only [Bool.and_eq_true, beq_iff_eq, List.all_eq_true, decide_eq_true_eq] at h1
  have h2 := h1.1 k.toNat (List.mem_range.mpr (by omega))
  have e2 : ((k.toNat : Nat) : Int) = k := by omega
  simp only [e2] at h2
  exact ⟨h2, h1.2⟩
