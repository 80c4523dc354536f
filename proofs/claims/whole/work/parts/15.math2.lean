/-! MATHEMATICS, 2: the parser. T the tape's signs (-1 behind the last); z: whether wrong, the place, the tokens so far -/
def md_T (T : Int → Int) (e : Int) (s : Int → Int) : Prop := (0 ≤ e ∧ e ≤ 100) ∧ (∀ q, 0 ≤ q → T q = if q < e then s (112 + q) else -1) ∧ (∀ q, -1 ≤ T q ∧ T q ≤ 127) ∧ (∀ q, 0 ≤ q → q < e → 0 ≤ T q)
theorem px_lt {T s : Int → Int} {e q c : Int} (h : md_T T e s) (hq : 0 ≤ q) (hc : T q = c) (h0 : 0 ≤ c) : q < e := by
  by_cases h1 : q < e
  · exact h1
  · have h2 := h.2.1 q hq
    rw [if_neg h1] at h2
    omega
abbrev pZ : Type := Int × Int × List Int
def px_must (T : Int → Int) (c w p : Int) : Int × Int := if w = 0 ∧ T p = c then (0, p + 1) else (1, p)
def px_spl (T : Int → Int) (k : Nat) : Nat → Int → Int → Int × Int
  | 0, w, p => (w, p)
  | j + 1, w, p => px_must T (sx k (j : Int)) (px_spl T k j w p).1 (px_spl T k j w p).2
def px_fig (T : Int → Int) (w p : Int) : Int × Int × Int :=
  if w = 0 ∧ 48 ≤ T p ∧ T p ≤ 57 then (if T p ≠ 48 ∧ 48 ≤ T (p + 1) ∧ T (p + 1) ≤ 57 then (0, p + 2, 10 * (T p - 48) + T (p + 1) - 48) else (0, p + 1, T p - 48)) else (1, p, 0)
def px_am (k : Nat) (c : Int) : Nat → Int
  | 0 => -1
  | n + 1 => if px_am k c n = -1 then (if c = sx k (n : Int) then (n : Int) else -1) else px_am k c n
theorem px_am_rng (k : Nat) (c : Int) : ∀ n, -1 ≤ px_am k c n ∧ px_am k c n < n
  | 0 => by unfold px_am; omega
  | n + 1 => by
    have ih := px_am_rng k c n
    unfold px_am
    (repeat' split) <;> omega
theorem px_am_st {k : Nat} {c : Int} {n : Nat} (h : px_am k c n ≠ -1) : ∀ m : Nat, px_am k c (n + m) = px_am k c n
  | 0 => rfl
  | m + 1 => by
    have ih := px_am_st h m
    have e : px_am k c (n + m + 1) = if px_am k c (n + m) = -1 then (if c = sx k ((n + m : Nat) : Int) then ((n + m : Nat) : Int) else -1) else px_am k c (n + m) := rfl
    show px_am k c (n + m + 1) = _
    rw [e, ih, if_neg h]
theorem px_am_no {k : Nat} {c i : Int} {j : Nat} (hi : i = (j : Int)) (h : px_am k c j = -1) (hc : ¬ c = sx k i) : px_am k c (j + 1) = -1 := by
  unfold px_am
  rw [if_pos h, ← hi, if_neg hc]
theorem px_am_hit {k : Nat} {c i : Int} {j : Nat} (hi : i = (j : Int)) (h : px_am k c j = -1) (hc : c = sx k i) (hj : i < sl k) : i = px_am k c (sl k).toNat := by
  have h1 : px_am k c (j + 1) = i := by
    unfold px_am
    rw [if_pos h, ← hi, if_pos hc]
  have h2 := px_am_st (k := k) (c := c) (n := j + 1) (by omega) ((sl k).toNat - (j + 1))
  rw [show (sl k).toNat = j + 1 + ((sl k).toNat - (j + 1)) by omega, h2, h1]
def px_emit (x : Int) (z : pZ) : pZ := if z.1 = 0 then (z.1, z.2.1, z.2.2 ++ [x]) else z
def px_mustz (T : Int → Int) (c : Int) (z : pZ) : pZ := ((px_must T c z.1 z.2.1).1, (px_must T c z.1 z.2.1).2, z.2.2)
def px_tst (T : Int → Int) (p : Int) (l : List Int) : pZ :=
  if px_am 5 (T p) (sl 5).toNat = -1 then (1, p, l) else if px_am 6 (T (p + 1)) (sl 6).toNat = -1 then (1, p + 1, l)
  else px_emit (px_am 5 (T p) (sl 5).toNat + 8 * px_am 6 (T (p + 1)) (sl 6).toNat + 32 * (px_fig T 0 (p + 1 + 1)).2.2) ((px_fig T 0 (p + 1 + 1)).1, (px_fig T 0 (p + 1 + 1)).2.1, l)
def px_ev (T : Int → Int) (F : pZ → pZ) : Nat → pZ → pZ
  | 0, z => z
  | f + 1, z => if z.1 = 0 ∧ T z.2.1 = 38 then px_ev T F f (px_emit (-2) (F (z.1, z.2.1 + 1, z.2.2))) else z
def px_every (T : Int → Int) (F : pZ → pZ) (z : pZ) : pZ := px_ev T F 101 (F z)
def px_so (T : Int → Int) (F : pZ → pZ) : Nat → pZ → pZ
  | 0, z => z
  | f + 1, z => if z.1 = 0 ∧ T z.2.1 = 124 then px_so T F f (px_emit (-3) (px_every T F (z.1, z.2.1 + 1, z.2.2))) else z
def px_some (T : Int → Int) (F : pZ → pZ) (z : pZ) : pZ := px_so T F 101 (px_every T F z)
def px_fac (T : Int → Int) : Nat → pZ → pZ
  | 0, z => if z.1 = 0 then (if T z.2.1 = 33 ∨ T z.2.1 = 40 then (1, z.2.1, z.2.2) else px_tst T z.2.1 z.2.2) else z
  | d + 1, z => if z.1 = 0 then (if T z.2.1 = 33 then px_emit (-1) (px_fac T d (0, z.2.1 + 1, z.2.2)) else if T z.2.1 = 40 then px_mustz T 41 (px_some T (px_fac T d) (0, z.2.1 + 1, z.2.2)) else px_tst T z.2.1 z.2.2) else z
theorem px_ev_end {T : Int → Int} {F : pZ → pZ} {f : Nat} {z : pZ} (h : ¬ (z.1 = 0 ∧ T z.2.1 = 38)) : px_ev T F f z = z := by
  cases f with
  | zero => rfl
  | succ f => unfold px_ev; rw [if_neg h]
theorem px_so_end {T : Int → Int} {F : pZ → pZ} {f : Nat} {z : pZ} (h : ¬ (z.1 = 0 ∧ T z.2.1 = 124)) : px_so T F f z = z := by
  cases f with
  | zero => rfl
  | succ f => unfold px_so; rw [if_neg h]
theorem px_emit_is {x w p : Int} {l l2 : List Int} (h : l2 = if w = 0 then l ++ [x] else l) : px_emit x (w, p, l) = (w, p, l2) := by
  unfold px_emit
  by_cases hw : w = 0
  · rw [if_pos hw] at h
    rw [if_pos hw, h]
  · rw [if_neg hw] at h
    rw [if_neg hw, h]
theorem px_ev_s {T : Int → Int} {F : pZ → pZ} {f : Nat} {w p w3 p3 : Int} {l l3 l4 : List Int} {z : pZ} (hz : px_ev T F (f + 1) (w, p, l) = z) (hw : w = 0) (hc : T p = 38) (h : (w3, p3, l3) = F (w, p + 1, l)) (h4 : l4 = if w3 = 0 then l3 ++ [-2] else l3) : px_ev T F f (w3, p3, l4) = z := by
  rw [← hz, px_ev, if_pos ⟨hw, hc⟩]
  show _ = px_ev T F f (px_emit (-2) (F (w, p + 1, l)))
  rw [← h, px_emit_is h4]
theorem px_so_s {T : Int → Int} {F : pZ → pZ} {f : Nat} {w p w3 p3 : Int} {l l3 l4 : List Int} {z : pZ} (hz : px_so T F (f + 1) (w, p, l) = z) (hw : w = 0) (hc : T p = 124) (h : (w3, p3, l3) = px_every T F (w, p + 1, l)) (h4 : l4 = if w3 = 0 then l3 ++ [-3] else l3) : px_so T F f (w3, p3, l4) = z := by
  rw [← hz, px_so, if_pos ⟨hw, hc⟩]
  show _ = px_so T F f (px_emit (-3) (px_every T F (w, p + 1, l)))
  rw [← h, px_emit_is h4]
theorem px_fac_w {T : Int → Int} {d : Nat} {w p : Int} {l : List Int} (hw : ¬ w = 0) : px_fac T d (w, p, l) = (w, p, l) := by
  cases d <;> (unfold px_fac; rw [if_neg hw])
theorem px_every_w {T : Int → Int} {d : Nat} {w p : Int} {l : List Int} (hw : ¬ w = 0) : px_every T (px_fac T d) (w, p, l) = (w, p, l) := by
  unfold px_every
  rw [px_fac_w hw]
  exact px_ev_end (fun h => hw h.1)
theorem px_some_w {T : Int → Int} {d : Nat} {w p : Int} {l : List Int} (hw : ¬ w = 0) : px_some T (px_fac T d) (w, p, l) = (w, p, l) := by
  unfold px_some
  rw [px_every_w hw]
  exact px_so_end (fun h => hw h.1)
theorem px_fac_0 {T : Int → Int} {w p : Int} {l : List Int} (hw : w = 0) (hc : T p = 33 ∨ T p = 40) : (1, p, l) = px_fac T 0 (w, p, l) := by
  unfold px_fac
  rw [if_pos hw, if_pos hc]
theorem px_fac_not {T : Int → Int} {d : Nat} {w p w3 p3 : Int} {l l3 l4 : List Int} (hw : w = 0) (hc : T p = 33) (h : (w3, p3, l3) = px_fac T d (0, p + 1, l)) (h4 : l4 = if w3 = 0 then l3 ++ [-1] else l3) : (w3, p3, l4) = px_fac T (d + 1) (w, p, l) := by
  unfold px_fac
  rw [if_pos hw, if_pos hc]
  show _ = px_emit (-1) (px_fac T d (0, p + 1, l))
  rw [← h, px_emit_is h4]
theorem px_fac_br {T : Int → Int} {d : Nat} {w p w3 p3 w4 p4 : Int} {l l3 : List Int} (hw : w = 0) (hc : T p = 40) (h : (w3, p3, l3) = px_some T (px_fac T d) (0, p + 1, l)) (h4 : (w4, p4) = px_must T 41 w3 p3) : (w4, p4, l3) = px_fac T (d + 1) (w, p, l) := by
  unfold px_fac
  rw [if_pos hw, if_neg (by show ¬ T p = 33; omega), if_pos hc]
  show _ = px_mustz T 41 (px_some T (px_fac T d) (0, p + 1, l))
  rw [← h]
  unfold px_mustz
  show _ = ((px_must T 41 w3 p3).1, (px_must T 41 w3 p3).2, l3)
  rw [← h4]
theorem px_fac_t {T : Int → Int} {d : Nat} {w p : Int} {l : List Int} {z : pZ} (hw : w = 0) (hc : T p ≠ 33) (hc2 : T p ≠ 40) (h : z = px_tst T p l) : z = px_fac T d (w, p, l) := by
  rw [h]
  cases d with
  | zero => unfold px_fac; rw [if_pos hw, if_neg (fun q => q.elim hc hc2)]
  | succ d => unfold px_fac; rw [if_pos hw, if_neg hc, if_neg hc2]
theorem px_fig_w {T : Int → Int} {w p w3 p3 v : Int} (hw : ¬ w = 0) (h : (w3, p3, v) = px_fig T w p) : w3 = 1 ∧ p3 = p := by
  unfold px_fig at h
  rw [if_neg (fun q => hw q.1), Prod.mk.injEq, Prod.mk.injEq] at h
  exact ⟨h.1, h.2.1⟩
theorem px_tst_A {T : Int → Int} {p a pa w3 p3 v x : Int} {l l4 : List Int} (ha : a = px_am 5 (T p) (sl 5).toNat) (h : a = -1) (hp : pa = if px_am 5 (T p) (sl 5).toNat = -1 then p else p + 1) (hf : (w3, p3, v) = px_fig T 1 pa) (h4 : l4 = if w3 = 0 then l ++ [x] else l) : (w3, p3, l4) = px_tst T p l := by
  obtain ⟨h1, h2⟩ := px_fig_w (by omega) hf
  unfold px_tst
  rw [if_neg (by omega)] at h4
  rw [if_pos (by omega), h1, h2, h4, hp, if_pos (by omega)]
theorem px_tst_B {T : Int → Int} {p a b pa pb w3 p3 v x : Int} {l l4 : List Int} (ha : a = px_am 5 (T p) (sl 5).toNat) (h : ¬ a = -1) (hp : pa = if px_am 5 (T p) (sl 5).toNat = -1 then p else p + 1) (hb : b = px_am 6 (T pa) (sl 6).toNat) (h2 : b = -1) (hpb : pb = if px_am 6 (T pa) (sl 6).toNat = -1 then pa else pa + 1) (hf : (w3, p3, v) = px_fig T 1 pb) (h4 : l4 = if w3 = 0 then l ++ [x] else l) : (w3, p3, l4) = px_tst T p l := by
  obtain ⟨h1, h3⟩ := px_fig_w (by omega) hf
  rw [if_neg (by omega)] at hp h4
  rw [if_pos (by omega)] at hpb
  subst hp
  unfold px_tst
  rw [if_neg (by omega), if_pos (by omega), h1, h3, h4, hpb]
theorem px_tst_C {T : Int → Int} {p a b pa pb w3 p3 v : Int} {l l4 : List Int} (ha : a = px_am 5 (T p) (sl 5).toNat) (h : ¬ a = -1) (hp : pa = if px_am 5 (T p) (sl 5).toNat = -1 then p else p + 1) (hb : b = px_am 6 (T pa) (sl 6).toNat) (h2 : ¬ b = -1) (hpb : pb = if px_am 6 (T pa) (sl 6).toNat = -1 then pa else pa + 1) (hf : (w3, p3, v) = px_fig T 0 pb) (h4 : l4 = if w3 = 0 then l ++ [a + 8 * b + 32 * v] else l) : (w3, p3, l4) = px_tst T p l := by
  rw [if_neg (by omega)] at hp hpb
  subst hp
  subst hpb
  unfold px_tst
  rw [if_neg (by omega), if_neg (by omega), ← hf, ← ha, ← hb]
  exact (px_emit_is h4).symm
/-- the reference's row with tokens l at house ac -/
def px_row (s0 : Int → Int) (ac : Int) (l : List Int) : Int → Int := fun j => if 222 + 140 * ac ≤ j ∧ j < 222 + 140 * ac + (l.length : Int) then l.getD (j - (222 + 140 * ac)).toNat 0 else if j = 217 + ac then (l.length : Int) else s0 j
theorem px_row_lo {s0 : Int → Int} {ac : Int} {l : List Int} {j : Int} (ha : 0 ≤ ac) (hj : j < 217) : px_row s0 ac l j = s0 j := by
  unfold px_row
  rw [if_neg (by omega), if_neg (by omega)]
theorem px_row_n {s0 : Int → Int} {ac : Int} {l : List Int} (ha : 0 ≤ ac ∧ ac ≤ 4) : px_row s0 ac l (217 + ac) = (l.length : Int) := by
  unfold px_row
  rw [if_neg (by omega), if_pos rfl]
theorem px_row_0 {s0 : Int → Int} {ac : Int} (h : s0 (217 + ac) = 0) : s0 = px_row s0 ac [] := by
  funext j
  unfold px_row
  rw [if_neg (by simp only [List.length_nil]; omega)]
  by_cases hj : j = 217 + ac
  · rw [if_pos hj, hj, h]; rfl
  · rw [if_neg hj]
theorem px_row_app {s0 s f1 f2 : Int → Int} {ac n x : Int} {l : List Int} (ha : 0 ≤ ac ∧ ac ≤ 4) (hs : s = px_row s0 ac l) (hn : n = s (217 + ac)) (e1 : f1 = upI s (222 + 140 * ac + n) x) (e2 : f2 = upI f1 (217 + ac) (f1 (217 + ac) + 1)) : f2 = px_row s0 ac (l ++ [x]) := by
  have hl : n = (l.length : Int) := by rw [hn, hs]; exact px_row_n ha
  have h1 : f1 (217 + ac) = (l.length : Int) := by
    rw [e1, upI_ne (by omega), hs]
    exact px_row_n ha
  funext j
  rw [e2, h1]
  by_cases hj : j = 217 + ac
  · rw [hj, upI_at, px_row_n ha, List.length_append]
    rfl
  · rw [upI_ne hj, e1]
    by_cases hj2 : j = 222 + 140 * ac + n
    · rw [hj2, upI_at]
      unfold px_row
      rw [if_pos (by rw [List.length_append]; simp only [List.length_cons, List.length_nil]; omega), show (222 + 140 * ac + n - (222 + 140 * ac)).toNat = l.length by omega]
      simp
    · rw [upI_ne hj2, hs]
      unfold px_row
      by_cases hr : 222 + 140 * ac ≤ j ∧ j < 222 + 140 * ac + (l.length : Int)
      · rw [if_pos hr, if_pos (by rw [List.length_append]; omega)]
        rw [List.getD_eq_getElem?_getD, List.getD_eq_getElem?_getD, List.getElem?_append_left (by omega)]
      · rw [if_neg hr, if_neg hj, if_neg (by rw [List.length_append]; simp only [List.length_cons, List.length_nil]; omega), if_neg hj]
theorem px_T {T s s2 s0 : Int → Int} {e ac : Int} {l l2 : List Int} (ha : 0 ≤ ac) (hs : s = px_row s0 ac l) (hs2 : s2 = px_row s0 ac l2) (h : md_T T e s) : md_T T e s2 := by
  refine ⟨h.1, fun q hq => ?_, h.2.2⟩
  rw [h.2.1 q hq]
  by_cases hq2 : q < e
  · have := h.1
    rw [if_pos hq2, if_pos hq2, hs, hs2, px_row_lo ha (by omega), px_row_lo ha (by omega)]
  · rw [if_neg hq2, if_neg hq2]
theorem px_len {l l2 : List Int} {w x : Int} (h : l2 = if w = 0 then l ++ [x] else l) : (l.length : Int) ≤ (l2.length : Int) ∧ (l2.length : Int) ≤ (l.length : Int) + 1 := by
  rw [h]
  split
  · simp only [List.length_append, List.length_cons, List.length_nil]; omega
  · omega
