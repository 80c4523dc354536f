/-! THE WORLD between the law's calls: the class's cells, then the reference's -/
def upF (F : Nat → Int → Int) (k : Nat) (f : Int → Int) : Nat → Int → Int := fun j => match Nat.beq j k with | true => f | false => F j
def upJ (I : Nat → Int) (k : Nat) (x : Int) : Nat → Int := fun j => match Nat.beq j k with | true => x | false => I j
theorem upF_at (F : Nat → Int → Int) (k : Nat) (f : Int → Int) : upF F k f k = f := by
  unfold upF
  rw [show Nat.beq k k = true from Nat.beq_refl k]
theorem upF_ne {F : Nat → Int → Int} {k j : Nat} {f : Int → Int} (h : j ≠ k) : upF F k f j = F j := by
  unfold upF
  rw [show Nat.beq j k = false from by rw [← Bool.not_eq_true]; intro e; exact h (Nat.eq_of_beq_eq_true e)]
theorem upJ_at (F : Nat → Int) (k : Nat) (f : Int) : upJ F k f k = f := by
  unfold upJ
  rw [show Nat.beq k k = true from Nat.beq_refl k]
theorem upJ_ne {F : Nat → Int} {k j : Nat} {f : Int} (h : j ≠ k) : upJ F k f j = F j := by
  unfold upJ
  rw [show Nat.beq j k = false from by rw [← Bool.not_eq_true]; intro e; exact h (Nat.eq_of_beq_eq_true e)]
theorem upF_r {F : Nat → Int → Int} (h : ∀ k j, rI (F k j)) {f : Int → Int} (hf : ∀ j, rI (f j)) (a : Nat) : ∀ k j, rI (upF F a f k j) := by
  intro k j
  by_cases e : k = a
  · rw [e, upF_at]; exact hf j
  · rw [upF_ne e]; exact h k j
theorem upJ_r {I : Nat → Int} (h : ∀ k, rI (I k)) {x : Int} (hx : rI x) (a : Nat) : ∀ k, rI (upJ I a x k) := by
  intro k
  by_cases e : k = a
  · rw [e, upJ_at]; exact hx
  · rw [upJ_ne e]; exact h k
def WXM (K : gK) (ad : Nat → Nat) (F : Nat → Int → Int) (I J : Nat → Int) (Z : Int → Int) (hm : Nat → Option Nat) (hv : Value) (N : Nat) : va_W := [cO (ad 0) 9 [.ref (ad 1), .ref (ad 23), .int (iI (I 0)), .ref (ad 45), .ref (ad 46), .ref (ad 49), .ref (ad 59)], cO (ad 1) 8 [.ref (ad 2), .ref (ad 9), .ref (ad 11), .ref (ad 15), .ref (ad 19), .int (iI (I 1))], cO (ad 2) 5 [.ref (ad 3), .ref (ad 4), .ref (ad 5), .ref (ad 6), .ref (ad 7), .ref (ad 8), .int (iI (I 2)), .int (iI (I 3)), .int (iI (I 4))], cA K (ad 3) 6 (F 3), cA K (ad 4) 6 (F 4), cA K (ad 5) 6 (F 5), cA K (ad 6) 6 (F 6), cA K (ad 7) 24 (F 7), cA K (ad 8) 6 (F 8), cO (ad 9) 6 [.ref (ad 10), .int (iI (I 5))], cA K (ad 10) 100 (F 10), cO (ad 11) 4 [.ref (ad 12), .ref (ad 13), .ref (ad 14), .int (iI (I 6))], cA K (ad 12) 8 (F 12), cA K (ad 13) 8 (F 13), cA K (ad 14) 8 (F 14), cO (ad 15) 4 [.ref (ad 16), .ref (ad 17), .ref (ad 18), .int (iI (I 7))], cA K (ad 16) 8 (F 16), cA K (ad 17) 8 (F 17), cA K (ad 18) 8 (F 18), cO (ad 19) 4 [.ref (ad 20), .ref (ad 21), .ref (ad 22), .int (iI (I 8))], cA K (ad 20) 8 (F 20), cA K (ad 21) 8 (F 21), cA K (ad 22) 8 (F 22), cO (ad 23) 8 [.ref (ad 24), .ref (ad 31), .ref (ad 33), .ref (ad 37), .ref (ad 41), .int (iI (I 9))], cO (ad 24) 5 [.ref (ad 25), .ref (ad 26), .ref (ad 27), .ref (ad 28), .ref (ad 29), .ref (ad 30), .int (iI (I 10)), .int (iI (I 11)), .int (iI (I 12))], cA K (ad 25) 6 (F 25), cA K (ad 26) 6 (F 26), cA K (ad 27) 6 (F 27), cA K (ad 28) 6 (F 28), cA K (ad 29) 24 (F 29), cA K (ad 30) 6 (F 30), cO (ad 31) 6 [.ref (ad 32), .int (iI (I 13))], cA K (ad 32) 100 (F 32), cO (ad 33) 4 [.ref (ad 34), .ref (ad 35), .ref (ad 36), .int (iI (I 14))], cA K (ad 34) 8 (F 34), cA K (ad 35) 8 (F 35), cA K (ad 36) 8 (F 36), cO (ad 37) 4 [.ref (ad 38), .ref (ad 39), .ref (ad 40), .int (iI (I 15))], cA K (ad 38) 8 (F 38), cA K (ad 39) 8 (F 39), cA K (ad 40) 8 (F 40), cO (ad 41) 4 [.ref (ad 42), .ref (ad 43), .ref (ad 44), .int (iI (I 16))], cA K (ad 42) 8 (F 42), cA K (ad 43) 8 (F 43), cA K (ad 44) 8 (F 44), cH K (ad 45) 5 hm, cO (ad 46) 2 [hv, .ref (ad 47), .ref (ad 48), .int (iI (I 17))], cA K (ad 47) 6 (F 47), cA K (ad 48) N (F 48), cO (ad 49) 7 [.ref (ad 50), .ref (ad 46), .int (iI (I 18)), .ref (ad 57), .int (iI (I 19)), .ref (ad 58)], cO (ad 50) 5 [.ref (ad 51), .ref (ad 52), .ref (ad 53), .ref (ad 54), .ref (ad 55), .ref (ad 56), .int (iI (I 20)), .int (iI (I 21)), .int (iI (I 22))], cA K (ad 51) 6 (F 51), cA K (ad 52) 6 (F 52), cA K (ad 53) 6 (F 53), cA K (ad 54) 6 (F 54), cA K (ad 55) 24 (F 55), cA K (ad 56) 6 (F 56), cA K (ad 57) 6 (F 57), cA K (ad 58) 6 (F 58), cO (ad 59) 0 [.ref (ad 60), .int (iI (I 23)), .int (iI (J 0)), .int (iI (J 1)), .int (iI (J 2))], cA K (ad 60) 20 (F 60), cO (ad 61) 1 [.ref (ad 62), .int (iI (I 27)), .int (iI (I 28))], cA K (ad 62) 100 (F 62), cO (ad 63) 1 [.ref (ad 64), .int (iI (I 29)), .int (iI (I 30))], cA K (ad 64) 100 (F 64), cO (ad 65) 1 [.ref (ad 66), .int (iI (I 31)), .int (iI (I 32))], cA K (ad 66) 100 (F 66), cO (ad 67) 1 [.ref (ad 68), .int (iI (I 33)), .int (iI (I 34))], cA K (ad 68) 100 (F 68), cO (ad 69) 1 [.ref (ad 70), .int (iI (I 35)), .int (iI (I 36))], cA K (ad 70) 100 (F 70), cO (ad 71) 10 [.int (iI (I 37)), .ref (ad 72), .ref (ad 73), .ref (ad 74), .int (iI (I 38)), .int (iI (I 39)), .int (iI (I 40)), .int (iI (I 41)), .int (iI (I 42)), .int (iI (I 43)), .ref (ad 75), .ref (ad 76), .ref (ad 77), .int (iI (I 44)), .ref (ad 78), .ref (ad 79), .ref (ad 80), .ref (ad 81), .ref (ad 82), .int (iI (I 45)), .ref (ad 83), .int (iI (I 46)), .int (iI (J 3)), .int (iI (J 4)), .int (iI (J 5))], cA K (ad 72) 922 (F 72), cA K (ad 73) 922 (F 73), cA K (ad 74) 19 (F 74), cA K (ad 75) 6 (F 75), cZ K (ad 76) 64 Z, cA K (ad 77) 36000 (F 77), cA K (ad 78) 6 (F 78), cA K (ad 79) 6 (F 79), cA K (ad 80) 6 (F 80), cA K (ad 81) 6 (F 81), cA K (ad 82) 6 (F 82), cA K (ad 83) 20 (F 83)]
/-- the class's houses are the row's first c -/
def cx_H (F : Nat → Int → Int) (I : Nat → Int) (s : Int → Int) (c : Int) : Prop := ∀ k : Nat, k < 5 → (k : Int) < c → ∃ lt, md_HL s (k : Int) lt ∧ cr_L lt (F (62 + 2 * k)) (I (27 + 2 * k)) ∧ I (28 + 2 * k) = s (212 + (k : Int))
theorem cx_Hf {F : Nat → Int → Int} {I : Nat → Int} {s f : Int → Int} {c : Int} {a : Nat} (ha : a < 62 ∨ 71 ≤ a) (h : cx_H F I s c) : cx_H (upF F a f) I s c := by
  intro k h1 h2
  rw [upF_ne (by omega)]
  exact h k h1 h2
theorem cx_Hi {F : Nat → Int → Int} {I : Nat → Int} {s : Int → Int} {c x : Int} {a : Nat} (ha : a < 27 ∨ 37 ≤ a) (h : cx_H F I s c) : cx_H F (upJ I a x) s c := by
  intro k h1 h2
  rw [upJ_ne (by omega), upJ_ne (by omega)]
  exact h k h1 h2
theorem cx_Hs {F : Nat → Int → Int} {I : Nat → Int} {s t : Int → Int} {c : Int} (e : ∀ k : Nat, k < 5 → (k : Int) < c → t (212 + (k : Int)) = s (212 + (k : Int)) ∧ t (217 + (k : Int)) = s (217 + (k : Int)) ∧ ∀ j, 0 ≤ j → j < 100 → t (222 + 140 * (k : Int) + j) = s (222 + 140 * (k : Int) + j)) (h : cx_H F I s c) : cx_H F I t c := by
  intro k h1 h2
  obtain ⟨lt, g1, g2, g3⟩ := h k h1 h2
  obtain ⟨e1, e2, e3⟩ := e k h1 h2
  exact ⟨lt, HL_same g1 e2 e3, g2, by rw [e1]; exact g3⟩
def cx_P (ad : Nat → Nat) (F : Nat → Int → Int) (hv : Value) (N : Nat) (s : Int → Int) (stp : Int) : Prop := (1 ≤ stp ∧ stp ≤ 800000) ∧ ((s 20 = 0 ∧ hv = .null ∧ (N = 0 ∨ (N = 36000 ∧ md_CB (F 48) stp))) ∨ (∃ h : Nat, s 20 = (h : Int) + 1 ∧ h < 5 ∧ N = 36000 ∧ hv = .ref (ad (61 + 2 * h)) ∧ md_CC (WSS s) (fun z => s (26 + z)) (F 48) stp))
def cx_M (F : Nat → Int → Int) (I : Nat → Int) (s : Int → Int) : Prop := I 19 = 0 ∨ (I 19 = 1 ∧ I 18 = (md_rmz (WSS s) (rcS s) s).1 ∧ ∀ q, 0 ≤ q → q < s 19 → F 57 q = rm_at (md_rmz (WSS s) (rcS s) s).2 q)
def cx_I (F : Nat → Int → Int) (I : Nat → Int) (s im : Int → Int) (tk : Int) : Prop := I 0 = tk ∧ (tk = 1 → cw_R im (F 25) (F 26) (F 27) (F 28) (F 29) (F 30) (I 10) (I 11) (I 12) (F 32) (I 13) (F 34) (F 35) (F 36) (I 14) (F 38) (F 39) (I 15) (F 42) (F 43) (I 16) (I 9) ∧ cx_H F I im (im 20) ∧ im 20 ≤ s 20)
/-- what the class's part of the world says -/
def cx_R (ad : Nat → Nat) (F : Nat → Int → Int) (I : Nat → Int) (hv : Value) (N : Nat) (s im : Int → Int) (tk : Int) (l : List Int) (stp : Int) : Prop :=
  cw_R s (F 3) (F 4) (F 5) (F 6) (F 7) (F 8) (I 2) (I 3) (I 4) (F 10) (I 5) (F 12) (F 13) (F 14) (I 6) (F 16) (F 17) (I 7) (F 20) (F 21) (I 8) (I 1) ∧ cx_I F I s im tk ∧ ((∀ p, 0 ≤ p → p < 6 → 0 ≤ F 30 p ∧ F 30 p ≤ 9) ∧ (∀ p, 0 ≤ p → p < 6 → 0 ≤ F 56 p ∧ F 56 p ≤ 9)) ∧ (∀ j, j < 0 ∨ 6 ≤ j → F 58 j = 0) ∧ cx_M F I s ∧ tr_R (F 60) (I 23) l ∧ I 17 = stp ∧ cx_P ad F hv N s stp ∧ cx_H F I s (s 20)
/-- what the reference's part says -/
def mo_R (F : Nat → Int → Int) (I : Nat → Int) (s im : Int → Int) (tk : Int) (l : List Int) : Prop := F 72 = s ∧ (I 38 = tk ∧ (tk = 1 → F 73 = im)) ∧ md_cano (F 73) ∧ tr_R (F 83) (I 46) l ∧ I 44 = 0 ∧ (I 42 = 0 ∨ I 42 = 1)
def LW (K : gK) (xx mm : Nat) (ws : va_W) (N : Nat) (s im : Int → Int) (tk : Int) (l : List Int) (stp : Int) (t jm : Int → Int) (uk : Int) (ml : List Int) : Prop :=
  ∃ (ad : Nat → Nat) (F : Nat → Int → Int) (I J : Nat → Int) (Z : Int → Int) (hm : Nat → Option Nat) (hv : Value), ws = WXM K ad F I J Z hm hv N ∧ (ad 0 = xx ∧ ad 71 = mm) ∧ (∀ k : Nat, k < 5 → hm k = some (ad (61 + 2 * k))) ∧ (∀ k j, rI (F k j)) ∧ (∀ k, rI (I k)) ∧ rZ Z ∧ cx_R ad F I hv N s im tk l stp ∧ mo_R F I t jm uk ml
/-- what holds of a row and its image -/
def sg_ok (s im : Int → Int) (tk : Int) : Prop := gs_ok s ∧ (tk = 0 ∨ tk = 1) ∧ (tk = 1 → gs_ok im)
theorem cx_HO {F : Nat → Int → Int} {I : Nat → Int} {s : Int → Int} {h : Nat} (hg : gs_ok s) (h20 : s 20 = (h : Int) + 1) (h5 : h < 5) (hH : cx_H F I s (s 20)) : md_ho (WSS s) (F (62 + 2 * h)) (I (27 + 2 * h)) ∧ I (28 + 2 * h) = rcS s := by
  obtain ⟨lt, g1, g2, g3⟩ := hH h h5 (by omega)
  have h25 : s 25 = (h : Int) := by have := hg.2.2.2.2.2.2.1; omega
  refine ⟨?_, ?_⟩
  · rw [WSS_l h25 (by omega) g1]
    exact md_ho_of g1.1 (by have := g1.2.2.1; omega) g2
  · rw [g3, rcS_l (by omega), h25]
theorem cx_W0 {s : Int → Int} (hg : gs_ok s) (h20 : s 20 = 0) : (∀ b, WSS s b = 0) ∧ rcS s = 9 := by
  have h25 : s 25 = -1 := by have := hg.2.2.2.2.2.2.1; omega
  rw [WSS_0 h25, rcS_0 h25]
  exact ⟨fun _ => rfl, rfl⟩
theorem five_of {h : Nat} (h5 : h < 5) : h = 0 ∨ h = 1 ∨ h = 2 ∨ h = 3 ∨ h = 4 := by omega
/-- what a change of footmen, states or step leaves of an image's words -/
theorem cw_lo {s t kd nb rm st rw nx k2 n2 r2 s2 w2 x2 : Int → Int} {aw cn sp a2 c2 p2 : Int} {tf : Int → Int} {tz : Int} {e1 e2 e3 : Int → Int} {en : Int} {l1 l2 : Int → Int} {ln : Int} {b1 b2 : Int → Int} {bn ho : Int} (e : ∀ j, (20 ≤ j ∧ j < 25) ∨ (62 ≤ j ∧ j < 212) → t j = s j) (hs : md_rs s) (h : cw_R s kd nb rm st rw nx aw cn sp tf tz e1 e2 e3 en l1 l2 ln b1 b2 bn ho) (hR : cs_R t k2 n2 r2 s2 w2 x2 a2 c2 p2) : cw_R t k2 n2 r2 s2 w2 x2 a2 c2 p2 tf tz e1 e2 e3 en l1 l2 ln b1 b2 bn ho := by
  obtain ⟨a1, a2', a3, a4, a5, a6⟩ := h
  obtain ⟨c1, c2', c3, c4⟩ := hs
  refine ⟨hR, ⟨by rw [e 24 (by omega)]; exact a2'.1, fun q q1 q2 => ?_⟩, ⟨by rw [e 21 (by omega)]; exact a3.1, fun k q1 q2 => ?_⟩, ⟨by rw [e 22 (by omega)]; exact a4.1, fun k q1 q2 => ?_⟩, ⟨by rw [e 23 (by omega)]; exact a5.1, fun k q1 q2 => ?_⟩, by rw [e 20 (by omega)]; exact a6⟩
  · rw [e 24 (by omega)] at q2
    rw [e _ (by omega)]
    exact a2'.2 q q1 q2
  · rw [e 21 (by omega)] at q2
    rw [e _ (by omega), e _ (by omega), e _ (by omega)]
    exact a3.2 k q1 q2
  · rw [e 22 (by omega)] at q2
    rw [e _ (by omega), e _ (by omega)]
    exact a4.2 k q1 q2
  · rw [e 23 (by omega)] at q2
    rw [e _ (by omega), e _ (by omega)]
    exact a5.2 k q1 q2
theorem cs_sim {s t kd nb rm st rw nx : Int → Int} {aw cn sp : Int} (h19 : 0 ≤ s 19 ∧ s 19 ≤ 6) (e : ∀ j, (0 ≤ j ∧ j ≤ 19) ∨ (26 ≤ j ∧ j < 62) → t j = s j) (h : cs_R s kd nb rm st rw nx aw cn sp) : cs_R t kd nb rm st rw nx aw cn sp := by
  obtain ⟨⟨a0, a1, a6⟩, a2, a3, a4, a5⟩ := h
  refine ⟨⟨by rw [e 19 (by omega)]; exact a0, by rw [e 0 (by omega)]; exact a1, a6⟩, fun q h1 h2 => ?_, fun q h1 h2 => a3 q (by rw [e 19 (by omega)] at h1; exact h1) h2, a4, fun j h1 h2 => ?_⟩
  · rw [e 19 (by omega)] at h2
    rw [e (26 + q) (by omega), e (32 + q) (by omega), e (13 + q) (by omega), e (1 + q) (by omega), e (7 + q) (by omega)]
    exact a2 q h1 h2
  · rw [e 19 (by omega), e (38 + j) (by omega)]
    exact a5 j h1 h2
