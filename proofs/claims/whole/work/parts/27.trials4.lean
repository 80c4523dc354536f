def sn_c (s : Int → Int) (n : Int) : Nat → Int
  | 0 => 0
  | k + 1 => sn_c s n k + (if s (68 + (k : Int)) < n then 1 else 0)
theorem sn_c_rng (s : Int → Int) (n : Int) : ∀ k : Nat, 0 ≤ sn_c s n k ∧ sn_c s n k ≤ (k : Int) ∧ sn_c s n k ≤ sn_c s (n + 1) k
  | 0 => by unfold sn_c; omega
  | k + 1 => by
    have ih := sn_c_rng s n k
    unfold sn_c
    (repeat' split) <;> omega
theorem sn_c_full {s : Int → Int} {n : Int} : ∀ k : Nat, (k : Int) ≤ sn_c s n k → ∀ i : Nat, i < k → s (68 + (i : Int)) < n
  | 0, _, i, hi => absurd hi (Nat.not_lt_zero _)
  | k + 1, h, i, hi => by
    have hr := sn_c_rng s n k
    have e : sn_c s n (k + 1) = sn_c s n k + (if s (68 + (k : Int)) < n then 1 else 0) := rfl
    by_cases hc : s (68 + (k : Int)) < n
    · rw [e, if_pos hc] at h
      by_cases hk : i = k
      · rw [hk]; exact hc
      · exact sn_c_full k (by omega) i (by omega)
    · rw [e, if_neg hc] at h
      omega
theorem sn_c_0 {s : Int → Int} (h : ∀ i : Nat, 0 ≤ s (68 + (i : Int)) ∨ 21 ≤ i) : ∀ k : Nat, k ≤ 21 → sn_c s 0 k = 0
  | 0, _ => rfl
  | k + 1, hk => by
    have ih := sn_c_0 h k (by omega)
    have h1 := h k
    show sn_c s 0 k + (if s (68 + (k : Int)) < 0 then 1 else 0) = 0
    rw [ih, if_neg (by omega)]
    rfl
theorem sn_no {t : Int → Int} {n : Int} {m : Nat} (h : md_sn t n m = 0) : ∀ k : Nat, md_sn t n (m + k) = 0
  | 0 => h
  | k + 1 => by
    have ih := sn_no h k
    show (if md_sn t n (m + k) = 1 ∧ _ then (1 : Int) else 0) = 0
    rw [if_neg (by rw [ih]; intro q; exact absurd q.1 (by decide))]
theorem as_no {W : (Int → Int) → Int} {rch : Int} {s : Int → Int} {m : Nat} (h : md_as W rch s m = 0) : ∀ k : Nat, md_as W rch s (m + k) = 0
  | 0 => h
  | k + 1 => by
    have ih := as_no h k
    show (if md_as W rch s (m + k) = 1 then _ else (0 : Int)) = 0
    rw [if_neg (by rw [ih]; decide)]
theorem sn_yes {t : Int → Int} {n : Int} : ∀ k : Nat, (∀ i : Nat, i < k → t (68 + (i : Int)) ≠ n) → md_sn t n k = 1
  | 0, _ => rfl
  | k + 1, h => by
    have ih := sn_yes k (fun i hi => h i (by omega))
    unfold md_sn
    rw [if_pos ⟨ih, Or.inl (h k (by omega))⟩]
theorem as_done {W : (Int → Int) → Int} {rch : Int} {s : Int → Int} {m : Nat} (h19 : s 19 ≤ 6) (h : md_as W rch s m = 1) (hd : ∀ i : Nat, i < (s 21).toNat → s (68 + (i : Int)) < (m : Int)) : ∀ k : Nat, md_as W rch s (m + k) = 1
  | 0 => h
  | k + 1 => by
    have ih := as_done h19 h hd k
    show (if md_as W rch s (m + k) = 1 then md_sn (md_goN W rch s (m + k)) ((m + k : Nat) : Int) (s 21).toNat else 0) = 1
    rw [if_pos ih]
    refine sn_yes _ (fun i hi => ?_)
    rw [md_goN_hi h19 (by omega)]
    have := hd i hi
    omega
