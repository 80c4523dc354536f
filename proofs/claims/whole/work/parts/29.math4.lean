/-! MATHEMATICS, 4: ways to give the rooms, one behind another -/
def fr_c (P : List Nat) (n T G : Nat) : Bool := decide (T < G) && decide (G < n) && decide (P.getD T 0 ≤ P.getD (T + 1) 0) && (List.range n).all (fun q => !decide (T < q) || !decide (q + 1 < n) || decide (P.getD (q + 1) 0 < P.getD q 0)) && (decide (G = T + 1) || decide (P.getD T 0 ≤ P.getD G 0)) && (List.range n).all (fun q => !decide (G < q) || decide (P.getD q 0 < P.getD T 0))
def fr_S (P : List Nat) (T G q : Nat) : Nat := if q = G then P.getD T 0 else if q = T then P.getD G 0 else P.getD q 0
def fr_F (P : List Nat) (n T G : Nat) : List Nat := (List.range n).map (fun q => if T < q then fr_S P T G (n + T - q) else fr_S P T G q)
def fr_w (n : Nat) (P : List Nat) : Bool := decide (P.length = n) && P.all (fun q => decide (q < n))
def fr_d (n : Nat) (P : List Nat) : Bool := (List.range (n - 1)).all (fun q => decide (P.getD (q + 1) 0 < P.getD q 0))
def fr_1 (n : Nat) (P Q : List Nat) : Bool := !fr_d n P && (List.range n).all (fun T => (List.range n).all (fun G => !fr_c P n T G || decide (fr_F P n T G = Q)))
def fr_L (n : Nat) (P : List Nat) : Bool := (List.range n).all (fun T => (List.range n).all (fun G => !fr_c P n T G))
def fr_all (n : Nat) : List (List Nat) → Bool
  | [] => true
  | P :: l => fr_w n P && (match l with | [] => fr_L n P | Q :: _ => fr_1 n P Q) && fr_all n l
set_option maxRecDepth 100000 in
theorem fr_ok : ∀ n : Fin 7, (fr_all n.val (rm_lv n.val n.val []) && decide ((rm_lv n.val n.val []).length ≤ 720) && decide ((rm_lv n.val n.val []).getD 0 [] = List.range n.val)) = true := by decide +kernel
theorem fr_at {n : Nat} : ∀ (L : List (List Nat)) (k : Nat), fr_all n L = true → k < L.length → fr_w n (L.getD k []) = true ∧ (k + 1 < L.length → fr_1 n (L.getD k []) (L.getD (k + 1) []) = true) ∧ (k + 1 = L.length → fr_L n (L.getD k []) = true)
  | [], k, _, hk => absurd hk (Nat.not_lt_zero _)
  | [P], k, h, hk => by
    have hk0 : k = 0 := by simp at hk; exact hk
    subst hk0
    unfold fr_all at h
    simp only [Bool.and_eq_true] at h
    exact ⟨h.1.1, fun h9 => by simp at h9, fun _ => h.1.2⟩
  | P :: Q :: l, k, h, hk => by
    rw [fr_all] at h
    simp only [Bool.and_eq_true] at h
    cases k with
    | zero => exact ⟨h.1.1, fun _ => h.1.2, fun h9 => by simp at h9⟩
    | succ k =>
      have ih := fr_at (Q :: l) k h.2 (by simp only [List.length_cons] at hk ⊢; omega)
      refine ⟨ih.1, fun h9 => ih.2.1 (by simp only [List.length_cons] at h9 ⊢; omega), fun h9 => ih.2.2 (by simp only [List.length_cons] at h9 ⊢; omega)⟩
/-- what a turn does: nothing is left (0), or from one place on -/
def tn_S (wy : Int → Int) (T G : Int) : Int → Int := upI (upI wy T (wy G)) G (wy T)
def tn_F (wy : Int → Int) (n T G q : Int) : Int := if T < q ∧ q ≤ n - 1 then tn_S wy T G (n - 1 + T + 1 - q) else tn_S wy T G q
def tn_P (wy wy2 : Int → Int) (n r T G : Int) : Prop :=
  (r = 0 ∧ (∀ q, 0 ≤ q → q < n - 1 → wy (q + 1) < wy q) ∧ wy2 = wy) ∨ (r = 1 ∧ (0 ≤ T ∧ T < G ∧ G ≤ n - 1) ∧ wy T ≤ wy (T + 1) ∧ (∀ q, T < q → q < n - 1 → wy (q + 1) < wy q) ∧ (G = T + 1 ∨ wy T ≤ wy G) ∧ (∀ q, G < q → q ≤ n - 1 → wy q < wy T) ∧ (∀ q, 0 ≤ q → q < 6 → wy2 q = tn_F wy n T G q) ∧ ∀ q, q < 0 ∨ 6 ≤ q → wy2 q = wy q)
theorem tn_step {w1 w3 w4 : Int → Int} {la tu lo hg : Int} (h1 : lo + hg = la + tu + 1 ∧ tu + 1 ≤ lo) (h2 : lo < hg) (hr : 0 ≤ lo ∧ hg < 6) (h : ∀ q, 0 ≤ q → q < 6 → w3 q = if (tu < q ∧ q < lo) ∨ (hg < q ∧ q ≤ la) then w1 (la + tu + 1 - q) else w1 q) (e : w4 = upI (upI w3 lo (w3 hg)) hg (w3 lo)) : ∀ q, 0 ≤ q → q < 6 → w4 q = if (tu < q ∧ q < lo + 1) ∨ (hg + (-1) < q ∧ q ≤ la) then w1 (la + tu + 1 - q) else w1 q := by
  intro q q1 q2
  have hlo := h lo (by omega) (by omega)
  rw [if_neg (by omega)] at hlo
  have hhg := h hg (by omega) (by omega)
  rw [if_neg (by omega)] at hhg
  rw [e]
  by_cases a : q = hg
  · rw [a, upI_at, if_pos (by omega), show la + tu + 1 - hg = lo by omega]
    exact hlo
  · rw [upI_ne a]
    by_cases b : q = lo
    · rw [b, upI_at, if_pos (by omega), show la + tu + 1 - lo = hg by omega]
      exact hhg
    · rw [upI_ne b, h q q1 q2]
      by_cases c : (tu < q ∧ q < lo) ∨ (hg < q ∧ q ≤ la)
      · rw [if_pos c, if_pos (by omega)]
      · rw [if_neg c, if_neg (by omega)]
theorem tn_end {wy w1 w3 : Int → Int} {la tu lo hg g2 n : Int} (h1 : lo + hg = la + tu + 1 ∧ tu + 1 ≤ lo ∧ lo ≤ hg + 1) (h2 : hg ≤ lo) (hla : la = n - 1) (e1 : w1 = upI (upI wy tu (wy g2)) g2 (wy tu)) (h : ∀ q, 0 ≤ q → q < 6 → w3 q = if (tu < q ∧ q < lo) ∨ (hg < q ∧ q ≤ la) then w1 (la + tu + 1 - q) else w1 q) : ∀ q, 0 ≤ q → q < 6 → w3 q = tn_F wy n tu g2 q := by
  intro q q1 q2
  rw [h q q1 q2]
  unfold tn_F tn_S
  rw [← e1]
  by_cases c : tu < q ∧ q ≤ la
  · rw [if_pos (show tu < q ∧ q ≤ n - 1 by omega)]
    by_cases d : (tu < q ∧ q < lo) ∨ (hg < q ∧ q ≤ la)
    · rw [if_pos d, show n - 1 + tu + 1 - q = la + tu + 1 - q by omega]
    · rw [if_neg d, show n - 1 + tu + 1 - q = q by omega]
  · rw [if_neg (show ¬ (tu < q ∧ q ≤ n - 1) by omega), if_neg (by omega)]
theorem rm_at_n (P : List Nat) (q : Nat) : rm_at P (q : Int) = ((P.getD q 0 : Nat) : Int) := by
  unfold rm_at
  rw [Int.toNat_natCast]
theorem fr_turn {wy wy2 : Int → Int} {c : Nat} {r T G : Int} {P : List Nat} (hw : ∀ q, 0 ≤ q → q < (c : Int) → wy q = rm_at P q) (h : tn_P wy wy2 (c : Int) r T G) : (r = 0 ∧ fr_d c P = true ∧ wy2 = wy) ∨ (r = 1 ∧ (∃ t g : Nat, t < c ∧ g < c ∧ fr_c P c t g = true ∧ ∀ q, 0 ≤ q → q < (c : Int) → q < 6 → wy2 q = rm_at (fr_F P c t g) q) ∧ ∀ q, q < 0 ∨ 6 ≤ q → wy2 q = wy q) := by
  have hn : ∀ q : Nat, q < c → wy (q : Int) = ((P.getD q 0 : Nat) : Int) := fun q hq => by rw [hw q (by omega) (by omega), rm_at_n]
  rcases h with ⟨h1, h2, h3⟩ | ⟨h1, ⟨h2, h3, h4⟩, h5, h6, h7, h8, h9, h10⟩
  · refine Or.inl ⟨h1, ?_, h3⟩
    unfold fr_d
    rw [List.all_eq_true]
    intro q hq
    rw [List.mem_range] at hq
    rw [decide_eq_true_eq]
    have a := h2 (q : Int) (by omega) (by omega)
    have b1 := hn q (by omega)
    have b2 := hn (q + 1) (by omega)
    rw [show ((q + 1 : Nat) : Int) = (q : Int) + 1 by omega] at b2
    omega
  · obtain ⟨t, rfl⟩ : ∃ t : Nat, T = (t : Int) := ⟨T.toNat, by omega⟩
    obtain ⟨g, rfl⟩ : ∃ g : Nat, G = (g : Int) := ⟨G.toNat, by omega⟩
    refine Or.inr ⟨h1, ⟨t, g, by omega, by omega, ?_, ?_⟩, h10⟩
    · unfold fr_c
      simp only [Bool.and_eq_true, Bool.or_eq_true, Bool.not_eq_true', decide_eq_true_eq, decide_eq_false_iff_not, List.all_eq_true, List.mem_range]
      have bt := hn t (by omega)
      have bt1 := hn (t + 1) (by omega)
      rw [show ((t + 1 : Nat) : Int) = (t : Int) + 1 by omega] at bt1
      have bg := hn g (by omega)
      refine ⟨⟨⟨⟨⟨by omega, by omega⟩, by omega⟩, fun q hq => ?_⟩, by omega⟩, fun q hq => ?_⟩
      · by_cases a1 : t < q
        · by_cases a2 : q + 1 < c
          · have a := h6 (q : Int) (by omega) (by omega)
            have b1 := hn q (by omega)
            have b2 := hn (q + 1) (by omega)
            rw [show ((q + 1 : Nat) : Int) = (q : Int) + 1 by omega] at b2
            exact Or.inr (by omega)
          · exact Or.inl (Or.inr a2)
        · exact Or.inl (Or.inl a1)
      · by_cases a1 : g < q
        · have a := h8 (q : Int) (by omega) (by omega)
          have b1 := hn q (by omega)
          exact Or.inr (by omega)
        · exact Or.inl a1
    · intro q q1 q2 q3
      obtain ⟨x, rfl⟩ : ∃ x : Nat, q = (x : Int) := ⟨q.toNat, by omega⟩
      have hx : x < c := by omega
      have hS : ∀ y : Nat, y < c → tn_S wy (t : Int) (g : Int) (y : Int) = ((fr_S P t g y : Nat) : Int) := by
        intro y hy
        unfold tn_S fr_S
        by_cases a1 : y = g
        · rw [if_pos a1, a1, upI_at]
          exact hn t (by omega)
        · rw [if_neg a1, upI_ne (by omega)]
          by_cases a2 : y = t
          · rw [if_pos a2, a2, upI_at]
            exact hn g (by omega)
          · rw [if_neg a2, upI_ne (by omega)]
            exact hn y hy
      rw [h9 _ q1 q3, rm_at_n]
      unfold fr_F tn_F
      rw [List.getD_eq_getElem?_getD, List.getElem?_map, List.getElem?_range hx]
      show _ = (((if t < x then fr_S P t g (c + t - x) else fr_S P t g x) : Nat) : Int)
      by_cases a1 : t < x
      · rw [if_pos (by omega), if_pos a1, show (c : Int) - 1 + (t : Int) + 1 - (x : Int) = ((c + t - x : Nat) : Int) by omega]
        exact hS _ (by omega)
      · rw [if_neg (by omega), if_neg a1]
        exact hS _ hx
/-- from the k-th way to the next -/
theorem fr_next {wy wy2 : Int → Int} {c k : Nat} {r T G : Int} (hc : c ≤ 6) (hk : k < (rm_lv c c []).length) (hw : ∀ q, 0 ≤ q → q < (c : Int) → wy q = rm_at ((rm_lv c c []).getD k []) q) (h : tn_P wy wy2 (c : Int) r T G) : ((r = 1 ∧ k + 1 < (rm_lv c c []).length ∧ ∀ q, 0 ≤ q → q < (c : Int) → wy2 q = rm_at ((rm_lv c c []).getD (k + 1) []) q) ∨ (r = 0 ∧ k + 1 = (rm_lv c c []).length)) ∧ ∀ q, q < 0 ∨ 6 ≤ q → wy2 q = wy q := by
  have h0 := fr_ok ⟨c, by omega⟩
  simp only [Bool.and_eq_true, decide_eq_true_eq] at h0
  obtain ⟨a1, a2, a3⟩ := fr_at _ k h0.1.1 hk
  rcases fr_turn hw h with ⟨b1, b2, b3⟩ | ⟨b1, ⟨t, g, b2, b3, b4, b5⟩, b6⟩
  · refine ⟨Or.inr ⟨b1, ?_⟩, fun q _ => by rw [b3]⟩
    by_cases hlt : k + 1 < (rm_lv c c []).length
    · have a4 := a2 hlt
      unfold fr_1 at a4
      rw [b2] at a4
      simp at a4
    · omega
  · refine ⟨Or.inl ⟨b1, ?_⟩, b6⟩
    by_cases hlt : k + 1 < (rm_lv c c []).length
    · refine ⟨hlt, fun q q1 q2 => ?_⟩
      have a4 := a2 hlt
      unfold fr_1 at a4
      simp only [Bool.and_eq_true, Bool.or_eq_true, Bool.not_eq_true', decide_eq_true_eq, List.all_eq_true, List.mem_range] at a4
      have a5 := a4.2 t b2 g b3
      rw [b4] at a5
      rcases a5 with a5 | a5
      · exact absurd a5 (by decide)
      · rw [b5 q q1 q2 (by omega), a5]
    · exfalso
      have a4 := a3 (by omega)
      unfold fr_L at a4
      simp only [Bool.not_eq_true', List.all_eq_true, List.mem_range] at a4
      have a5 := a4 t b2 g b3
      rw [b4] at a5
      exact absurd a5 (by decide)
theorem fr_perm {c k : Nat} (hc : c ≤ 6) (hk : k < (rm_lv c c []).length) : ∀ q, 0 ≤ q → q < (c : Int) → 0 ≤ rm_at ((rm_lv c c []).getD k []) q ∧ rm_at ((rm_lv c c []).getD k []) q < (c : Int) := by
  have h0 := fr_ok ⟨c, by omega⟩
  simp only [Bool.and_eq_true, decide_eq_true_eq] at h0
  have a1 := (fr_at _ k h0.1.1 hk).1
  unfold fr_w at a1
  simp only [Bool.and_eq_true, decide_eq_true_eq, List.all_eq_true] at a1
  intro q q1 q2
  obtain ⟨x, rfl⟩ : ∃ x : Nat, q = (x : Int) := ⟨q.toNat, by omega⟩
  rw [rm_at_n]
  have hx : x < ((rm_lv c c []).getD k []).length := by rw [a1.1]; omega
  have hm := a1.2 _ (List.getElem_mem hx)
  rw [List.getD_eq_getElem?_getD, List.getElem?_eq_getElem hx]
  show 0 ≤ ((((rm_lv c c []).getD k [])[x] : Nat) : Int) ∧ _
  exact ⟨by omega, by show ((((rm_lv c c []).getD k [])[x] : Nat) : Int) < _; omega⟩
theorem fr_first {c : Nat} (hc : c ≤ 6) : 0 < (rm_lv c c []).length ∧ (rm_lv c c []).length ≤ 720 ∧ ∀ q, 0 ≤ q → q < (c : Int) → q = rm_at ((rm_lv c c []).getD 0 []) q := by
  have h0 := fr_ok ⟨c, by omega⟩
  simp only [Bool.and_eq_true, decide_eq_true_eq] at h0
  have h1 := rm_lv_ne hc
  refine ⟨List.length_pos_iff.mpr h1, h0.1.2, fun q q1 q2 => ?_⟩
  have h2 : (rm_lv c c []).getD 0 [] = List.range c := h0.2
  rw [h2]
  obtain ⟨x, rfl⟩ : ∃ x : Nat, q = (x : Int) := ⟨q.toNat, by omega⟩
  rw [rm_at_n, List.getD_eq_getElem?_getD, List.getElem?_range (by omega)]
  rfl
/-- rooms given anew, the first i of them -/
def md_odk (s or : Int → Int) (i : Int) : Int → Int := fun j => if 13 ≤ j ∧ j < 13 + i then s (13 + or (j - 13)) else s j
theorem md_odk_0 (s or : Int → Int) : md_odk s or 0 = s := by
  funext j
  unfold md_odk
  rw [if_neg (by omega)]
theorem md_odk_out {s or : Int → Int} {i j : Int} (hi : i ≤ 6) (h : j < 13 ∨ 19 ≤ j) : md_odk s or i j = s j := by
  unfold md_odk
  rw [if_neg (by omega)]
theorem md_odk_rg {s or : Int → Int} {i : Int} (hg : md_rg s) (hi : i ≤ 6) (ho : ∀ j, 0 ≤ j → j < i → 0 ≤ or j ∧ or j < 6) : md_rg (md_odk s or i) := by
  have e : ∀ j, j < 13 ∨ 19 ≤ j → md_odk s or i j = s j := fun j hj => md_odk_out hi hj
  refine ⟨fun p h1 h2 => ?_, fun j h1 h2 => by rw [e j (by omega)]; exact hg.2.1 j h1 h2, by rw [e 19 (by omega)]; exact hg.2.2.1, by rw [e 0 (by omega)]; exact hg.2.2.2⟩
  obtain ⟨a1, a2, a3, a4, a5⟩ := hg.1 p h1 h2
  refine ⟨by rw [e _ (by omega)]; exact a1, by rw [e _ (by omega)]; exact a2, ?_, by rw [e _ (by omega)]; exact a4, by rw [e _ (by omega)]; exact a5⟩
  unfold md_odk
  by_cases h : 13 ≤ 13 + p ∧ 13 + p < 13 + i
  · rw [if_pos h, show 13 + p - 13 = p by omega]
    have h3 := ho p h1 (by omega)
    exact (hg.1 (or p) h3.1 h3.2).2.2.1
  · rw [if_neg h]
    exact a3
theorem md_odk_up {s or : Int → Int} {i x : Int} (hi : 0 ≤ i ∧ i < s 19) (hc : s 19 ≤ 6) (hx : x = s (13 + or i)) : (if 0 ≤ i ∧ i < md_odk s or i 19 then upI (md_odk s or i) (cx_w 0 + i) x else md_odk s or i) = md_odk s or (i + 1) := by
  rw [md_odk_out (by omega) (by omega), if_pos hi]
  funext j
  show upI (md_odk s or i) (13 + i) x j = _
  by_cases h : j = 13 + i
  · rw [h, upI_at]
    unfold md_odk
    rw [if_pos (by omega), show 13 + i - 13 = i by omega, hx]
  · rw [upI_ne h]
    unfold md_odk
    by_cases h2 : 13 ≤ j ∧ j < 13 + i
    · rw [if_pos h2, if_pos (by omega)]
    · rw [if_neg h2, if_neg (by omega)]
/-- somebody is there: one state at least -/
theorem unl_or : ∀ (i : Fin 32) (j : Fin 32), ((List.range 10).all (fun k => decide (bOr (32 * (i.val : Int) + (j.val : Int)) (bShl 1 (k : Int)) ≠ 0)) && (decide (32 * (i.val : Int) + (j.val : Int) = 0) || decide (1 ≤ md_cnt (32 * (i.val : Int) + (j.val : Int)) 10)) && decide (md_cnt (32 * (i.val : Int) + (j.val : Int)) 10 ≤ 10)) = true := by decide +kernel
theorem unl_at {o : Int} (h : 0 ≤ o ∧ o < 1024) : (∀ k, 0 ≤ k → k ≤ 9 → bOr o (bShl 1 k) ≠ 0) ∧ (o = 0 ∨ 1 ≤ md_cnt o 10) := by
  have h1 := unl_or ⟨(o / 32).toNat, by omega⟩ ⟨(o % 32).toNat, by omega⟩
  have e : 32 * (((o / 32).toNat : Nat) : Int) + (((o % 32).toNat : Nat) : Int) = o := by omega
  simp only [e, Bool.and_eq_true, Bool.or_eq_true, decide_eq_true_eq, List.all_eq_true, List.mem_range] at h1
  refine ⟨fun k k1 k2 => ?_, h1.1.2⟩
  have h2 := h1.1.1 k.toNat (by omega)
  have e2 : ((k.toNat : Nat) : Int) = k := by omega
  rw [e2] at h2
  exact h2
theorem bOr_ne {a k : Int} (ha : 0 ≤ a ∧ a < 1024) (hk : 0 ≤ k ∧ k ≤ 9) : bOr a (bShl 1 k) ≠ 0 := (unl_at ha).1 k hk.1 hk.2
theorem set_pos {s : Int → Int} (hg : md_rg s) : ∀ n : Nat, n ≤ 6 → (∃ p : Nat, p < n ∧ s (7 + (p : Int)) = 0) → md_set s n ≠ 0
  | 0, _, ⟨p, hp, _⟩ => absurd hp (Nat.not_lt_zero _)
  | n + 1, hn, ⟨p, hp, h0⟩ => by
    have hr := cs_set_rng hg n (by omega)
    have hj := (hg.1 (n : Int) (by omega) (by omega)).1
    unfold md_set
    by_cases h : s (7 + (n : Int)) = 0
    · rw [if_pos h]
      exact bOr_ne hr hj
    · rw [if_neg h, (bo10_at (k := 0) hr (by omega)).2]
      refine set_pos hg n (by omega) ⟨p, ?_, h0⟩
      by_cases e : p = n
      · subst e; exact absurd h0 h
      · omega
theorem set_none {s : Int → Int} : ∀ n : Nat, (∀ p : Nat, p < n → ¬ s (7 + (p : Int)) = 0) → md_set s n = 0
  | 0, _ => rfl
  | n + 1, h => by
    have ih := set_none n (fun p hp => h p (by omega))
    unfold md_set
    rw [ih, if_neg (h n (by omega))]
    exact (bo10_at (k := 0) (by omega) (by omega)).2
theorem unl_pos {s : Int → Int} (hg : md_rg s) (h : ∃ p : Nat, (p : Int) < s 19 ∧ s (7 + (p : Int)) = 0) : 1 ≤ md_unl s := by
  have h19 := hg.2.2.1
  obtain ⟨p, hp, h0⟩ := h
  have h1 := set_pos hg (s 19).toNat (by omega) ⟨p, by omega, h0⟩
  have h2 := (unl_at (cs_set_rng hg (s 19).toNat (by omega))).2
  unfold md_unl
  rcases h2 with h2 | h2
  · exact absurd h2 h1
  · exact h2
theorem unl_none {s : Int → Int} (h : ∀ p : Nat, (p : Int) < s 19 → ¬ s (7 + (p : Int)) = 0) (h19 : 0 ≤ s 19) : md_unl s = 0 := by
  unfold md_unl
  rw [set_none _ (fun p hp => h p (by omega))]
  decide +kernel
def cq (o : Int) : Bool := (List.range 10).all (fun k => decide (md_cnt (bOr o (bShl 1 (k : Int))) 10 ≤ md_cnt o 10 + 1))
theorem cnt_o0 : ∀ (i : Fin 2) (j : Fin 32), cq (32 * (0 + (i.val : Int)) + (j.val : Int)) = true := by decide +kernel
theorem cnt_o1 : ∀ (i : Fin 2) (j : Fin 32), cq (32 * (2 + (i.val : Int)) + (j.val : Int)) = true := by decide +kernel
theorem cnt_o2 : ∀ (i : Fin 2) (j : Fin 32), cq (32 * (4 + (i.val : Int)) + (j.val : Int)) = true := by decide +kernel
theorem cnt_o3 : ∀ (i : Fin 2) (j : Fin 32), cq (32 * (6 + (i.val : Int)) + (j.val : Int)) = true := by decide +kernel
theorem cnt_o4 : ∀ (i : Fin 2) (j : Fin 32), cq (32 * (8 + (i.val : Int)) + (j.val : Int)) = true := by decide +kernel
theorem cnt_o5 : ∀ (i : Fin 2) (j : Fin 32), cq (32 * (10 + (i.val : Int)) + (j.val : Int)) = true := by decide +kernel
theorem cnt_o6 : ∀ (i : Fin 2) (j : Fin 32), cq (32 * (12 + (i.val : Int)) + (j.val : Int)) = true := by decide +kernel
theorem cnt_o7 : ∀ (i : Fin 2) (j : Fin 32), cq (32 * (14 + (i.val : Int)) + (j.val : Int)) = true := by decide +kernel
theorem cnt_o8 : ∀ (i : Fin 2) (j : Fin 32), cq (32 * (16 + (i.val : Int)) + (j.val : Int)) = true := by decide +kernel
theorem cnt_o9 : ∀ (i : Fin 2) (j : Fin 32), cq (32 * (18 + (i.val : Int)) + (j.val : Int)) = true := by decide +kernel
theorem cnt_o10 : ∀ (i : Fin 2) (j : Fin 32), cq (32 * (20 + (i.val : Int)) + (j.val : Int)) = true := by decide +kernel
theorem cnt_o11 : ∀ (i : Fin 2) (j : Fin 32), cq (32 * (22 + (i.val : Int)) + (j.val : Int)) = true := by decide +kernel
theorem cnt_o12 : ∀ (i : Fin 2) (j : Fin 32), cq (32 * (24 + (i.val : Int)) + (j.val : Int)) = true := by decide +kernel
theorem cnt_o13 : ∀ (i : Fin 2) (j : Fin 32), cq (32 * (26 + (i.val : Int)) + (j.val : Int)) = true := by decide +kernel
theorem cnt_o14 : ∀ (i : Fin 2) (j : Fin 32), cq (32 * (28 + (i.val : Int)) + (j.val : Int)) = true := by decide +kernel
theorem cnt_o15 : ∀ (i : Fin 2) (j : Fin 32), cq (32 * (30 + (i.val : Int)) + (j.val : Int)) = true := by decide +kernel
theorem cnt_hi2 {i : Nat} (h : i < 32) : (0 ≤ i ∧ i < 2) ∨ (2 ≤ i ∧ i < 4) ∨ (4 ≤ i ∧ i < 6) ∨ (6 ≤ i ∧ i < 8) ∨ (8 ≤ i ∧ i < 10) ∨ (10 ≤ i ∧ i < 12) ∨ (12 ≤ i ∧ i < 14) ∨ (14 ≤ i ∧ i < 16) ∨ (16 ≤ i ∧ i < 18) ∨ (18 ≤ i ∧ i < 20) ∨ (20 ≤ i ∧ i < 22) ∨ (22 ≤ i ∧ i < 24) ∨ (24 ≤ i ∧ i < 26) ∨ (26 ≤ i ∧ i < 28) ∨ (28 ≤ i ∧ i < 30) ∨ (30 ≤ i ∧ i < 32) := by omega
theorem cnt_or (i : Fin 32) (j : Fin 32) : cq (32 * (i.val : Int) + (j.val : Int)) = true := by
  rcases cnt_hi2 i.isLt with h | h | h | h | h | h | h | h | h | h | h | h | h | h | h | h
  · have h9 := cnt_o0 ⟨i.val - 0, by omega⟩ j
    have e9 : (0 : Int) + ((i.val - 0 : Nat) : Int) = (i.val : Int) := by omega
    simp only [e9] at h9
    exact h9
  · have h9 := cnt_o1 ⟨i.val - 2, by omega⟩ j
    have e9 : (2 : Int) + ((i.val - 2 : Nat) : Int) = (i.val : Int) := by omega
    simp only [e9] at h9
    exact h9
  · have h9 := cnt_o2 ⟨i.val - 4, by omega⟩ j
    have e9 : (4 : Int) + ((i.val - 4 : Nat) : Int) = (i.val : Int) := by omega
    simp only [e9] at h9
    exact h9
  · have h9 := cnt_o3 ⟨i.val - 6, by omega⟩ j
    have e9 : (6 : Int) + ((i.val - 6 : Nat) : Int) = (i.val : Int) := by omega
    simp only [e9] at h9
    exact h9
  · have h9 := cnt_o4 ⟨i.val - 8, by omega⟩ j
    have e9 : (8 : Int) + ((i.val - 8 : Nat) : Int) = (i.val : Int) := by omega
    simp only [e9] at h9
    exact h9
  · have h9 := cnt_o5 ⟨i.val - 10, by omega⟩ j
    have e9 : (10 : Int) + ((i.val - 10 : Nat) : Int) = (i.val : Int) := by omega
    simp only [e9] at h9
    exact h9
  · have h9 := cnt_o6 ⟨i.val - 12, by omega⟩ j
    have e9 : (12 : Int) + ((i.val - 12 : Nat) : Int) = (i.val : Int) := by omega
    simp only [e9] at h9
    exact h9
  · have h9 := cnt_o7 ⟨i.val - 14, by omega⟩ j
    have e9 : (14 : Int) + ((i.val - 14 : Nat) : Int) = (i.val : Int) := by omega
    simp only [e9] at h9
    exact h9
  · have h9 := cnt_o8 ⟨i.val - 16, by omega⟩ j
    have e9 : (16 : Int) + ((i.val - 16 : Nat) : Int) = (i.val : Int) := by omega
    simp only [e9] at h9
    exact h9
  · have h9 := cnt_o9 ⟨i.val - 18, by omega⟩ j
    have e9 : (18 : Int) + ((i.val - 18 : Nat) : Int) = (i.val : Int) := by omega
    simp only [e9] at h9
    exact h9
  · have h9 := cnt_o10 ⟨i.val - 20, by omega⟩ j
    have e9 : (20 : Int) + ((i.val - 20 : Nat) : Int) = (i.val : Int) := by omega
    simp only [e9] at h9
    exact h9
  · have h9 := cnt_o11 ⟨i.val - 22, by omega⟩ j
    have e9 : (22 : Int) + ((i.val - 22 : Nat) : Int) = (i.val : Int) := by omega
    simp only [e9] at h9
    exact h9
  · have h9 := cnt_o12 ⟨i.val - 24, by omega⟩ j
    have e9 : (24 : Int) + ((i.val - 24 : Nat) : Int) = (i.val : Int) := by omega
    simp only [e9] at h9
    exact h9
  · have h9 := cnt_o13 ⟨i.val - 26, by omega⟩ j
    have e9 : (26 : Int) + ((i.val - 26 : Nat) : Int) = (i.val : Int) := by omega
    simp only [e9] at h9
    exact h9
  · have h9 := cnt_o14 ⟨i.val - 28, by omega⟩ j
    have e9 : (28 : Int) + ((i.val - 28 : Nat) : Int) = (i.val : Int) := by omega
    simp only [e9] at h9
    exact h9
  · have h9 := cnt_o15 ⟨i.val - 30, by omega⟩ j
    have e9 : (30 : Int) + ((i.val - 30 : Nat) : Int) = (i.val : Int) := by omega
    simp only [e9] at h9
    exact h9
theorem cnt_at {o k : Int} (h : 0 ≤ o ∧ o < 1024) (hk : 0 ≤ k ∧ k ≤ 9) : md_cnt (bOr o (bShl 1 k)) 10 ≤ md_cnt o 10 + 1 := by
  have h1 := cnt_or ⟨(o / 32).toNat, by omega⟩ ⟨(o % 32).toNat, by omega⟩
  have e : 32 * (((o / 32).toNat : Nat) : Int) + (((o % 32).toNat : Nat) : Int) = o := by omega
  simp only [e] at h1
  unfold cq at h1
  simp only [decide_eq_true_eq, List.all_eq_true, List.mem_range] at h1
  have h2 := h1 k.toNat (by omega)
  have e2 : ((k.toNat : Nat) : Int) = k := by omega
  rw [e2] at h2
  exact h2
theorem unl_6n {s : Int → Int} (hg : md_rg s) : ∀ n : Nat, n ≤ 6 → md_cnt (md_set s n) 10 ≤ (n : Int)
  | 0, _ => by show md_cnt 0 10 ≤ 0; decide +kernel
  | n + 1, hn => by
    have ih := unl_6n hg n (by omega)
    have hr := cs_set_rng hg n (by omega)
    have hj := (hg.1 (n : Int) (by omega) (by omega)).1
    unfold md_set
    split
    · have := cnt_at hr hj
      omega
    · rw [(bo10_at (k := 0) hr (by omega)).2]
      omega
theorem unl_6 {s : Int → Int} (hg : md_rg s) : md_unl s ≤ 6 := by
  have h19 := hg.2.2.1
  have h := unl_6n hg (s 19).toNat (by omega)
  unfold md_unl
  omega
/-- what a way is worth: none is below the first that comes to 1 or less -/
theorem rv_same {W : (Int → Int) → Int} {rch : Int} {s : Int → Int} {c k : Nat} (hg : md_rg s) (h0 : s 0 + 3 ≤ 20000) (hc : s 19 = (c : Int)) (hk : k < (rm_lv c c []).length) : md_rv W rch s ((rm_lv c c []).getD k []) ≤ 6 ∧ ((∀ p : Nat, (p : Int) < s 19 → ¬ s (7 + (p : Int)) = 0) → md_rv W rch s ((rm_lv c c []).getD k []) = 0) ∧ ((∃ p : Nat, (p : Int) < s 19 ∧ s (7 + (p : Int)) = 0) → 1 ≤ md_rv W rch s ((rm_lv c c []).getD k [])) := by
  have h19 := hg.2.2.1
  have hp := fr_perm (by omega) hk
  have e : md_ord s (rm_at ((rm_lv c c []).getD k [])) = md_odk s (rm_at ((rm_lv c c []).getD k [])) (s 19) := rfl
  have hg1 : md_rg (md_ord s (rm_at ((rm_lv c c []).getD k []))) := by
    rw [e]
    exact md_odk_rg hg h19.2 (fun j j1 j2 => by have := hp j j1 (by omega); omega)
  have hout : ∀ j, j < 13 ∨ 19 ≤ j → md_ord s (rm_at ((rm_lv c c []).getD k [])) j = s j := fun j hj => by rw [e]; exact md_odk_out h19.2 hj
  have hg3 : md_rg (md_goN W rch (md_ord s (rm_at ((rm_lv c c []).getD k []))) 3) := md_goN_rg hg1 3 (by rw [hout 0 (by omega)]; omega)
  have hhi : ∀ j, 7 ≤ j → j < 13 ∨ 19 ≤ j → md_goN W rch (md_ord s (rm_at ((rm_lv c c []).getD k []))) 3 j = s j := fun j h1 h2 => by
    rw [md_goN_hi (by rw [hout 19 (by omega)]; exact h19.2) h1, hout j h2]
  unfold md_rv
  refine ⟨unl_6 hg3, fun h => unl_none (fun p hp9 => ?_) hg3.2.2.1.1, fun ⟨p, p1, p2⟩ => unl_pos hg3 ⟨p, by rw [hhi 19 (by omega) (by omega)]; exact p1, by rw [hhi _ (by omega) (by omega)]; exact p2⟩⟩
  rw [hhi 19 (by omega) (by omega)] at hp9
  rw [hhi _ (by omega) (by omega)]
  exact h p hp9
def fr_z (W : (Int → Int) → Int) (rch : Int) (s : Int → Int) (c k : Nat) : Int × List Nat := List.foldl (rm_st W rch s) (1000000000, []) ((rm_lv c c []).take k)
theorem fr_z_s {W : (Int → Int) → Int} {rch : Int} {s : Int → Int} {c k : Nat} (hk : k < (rm_lv c c []).length) : fr_z W rch s c (k + 1) = rm_st W rch s (fr_z W rch s c k) ((rm_lv c c []).getD k []) := by
  unfold fr_z
  rw [List.take_add_one, List.getElem?_eq_getElem hk, List.foldl_append, List.getD_eq_getElem?_getD, List.getElem?_eq_getElem hk]
  rfl
theorem fr_z_end {W : (Int → Int) → Int} {rch : Int} {s : Int → Int} {c k : Nat} (hc : s 19 = (c : Int)) (hk : k = (rm_lv c c []).length) : fr_z W rch s c k = md_rmz W rch s := by
  unfold fr_z md_rmz
  rw [hk, List.take_length, show (s 19).toNat = c by omega]
/-- what stands after k ways -/
def fr_I (W : (Int → Int) → Int) (rch : Int) (s : Int → Int) (c k : Nat) (fw : Int) (wh : Int → Int) : Prop := (k = 0 ∧ fw = 7) ∨ (0 < k ∧ fw = (fr_z W rch s c k).1 ∧ (∀ q, 0 ≤ q → q < (c : Int) → wh q = rm_at (fr_z W rch s c k).2 q) ∧ ∃ j, j < (rm_lv c c []).length ∧ fw = md_rv W rch s ((rm_lv c c []).getD j []))
theorem fr_I_s {W : (Int → Int) → Int} {rch : Int} {s : Int → Int} {c k : Nat} {fw fw2 v : Int} {wy wh wh2 : Int → Int} (hg : md_rg s) (h0 : s 0 + 3 ≤ 20000) (hc : s 19 = (c : Int)) (hk : k < (rm_lv c c []).length) (hI : fr_I W rch s c k fw wh) (hv : v = md_rv W rch s ((rm_lv c c []).getD k [])) (hw : ∀ q, 0 ≤ q → q < (c : Int) → wy q = rm_at ((rm_lv c c []).getD k []) q)
    (h : (v < fw ∧ fw2 = v ∧ ∀ q, 0 ≤ q → q < (c : Int) → wh2 q = wy q) ∨ (¬ v < fw ∧ fw2 = fw ∧ wh2 = wh)) : fr_I W rch s c (k + 1) fw2 wh2 := by
  have h6 := (rv_same (W := W) (rch := rch) hg h0 hc hk).1
  rw [← hv] at h6
  refine Or.inr ⟨by omega, ?_⟩
  rw [fr_z_s hk]
  unfold rm_st
  rw [← hv]
  rcases hI with ⟨a1, a2⟩ | ⟨a1, a2, a3, a4⟩
  · rcases h with ⟨b1, b2, b3⟩ | ⟨b1, b2, b3⟩
    · have e : fr_z W rch s c k = (1000000000, []) := by rw [a1]; rfl
      rw [e, if_pos (by show v < 1000000000; omega)]
      exact ⟨b2, fun q q1 q2 => by rw [b3 q q1 q2, hw q q1 q2], k, hk, by rw [b2, hv]⟩
    · omega
  · rcases h with ⟨b1, b2, b3⟩ | ⟨b1, b2, b3⟩
    · rw [if_pos (by omega)]
      exact ⟨b2, fun q q1 q2 => by rw [b3 q q1 q2, hw q q1 q2], k, hk, by rw [b2, hv]⟩
    · rw [if_neg (by omega), b2, b3]
      exact ⟨a2, a3, a4⟩
theorem fr_I_e {W : (Int → Int) → Int} {rch : Int} {s : Int → Int} {c k : Nat} {fw : Int} {wh : Int → Int} (hg : md_rg s) (h0 : s 0 + 3 ≤ 20000) (hc : s 19 = (c : Int)) (hI : fr_I W rch s c k fw wh) (hk : k ≤ (rm_lv c c []).length) (h : k = (rm_lv c c []).length ∨ fw ≤ 1) : fw = (md_rmz W rch s).1 ∧ ∀ q, 0 ≤ q → q < s 19 → wh q = rm_at (md_rmz W rch s).2 q := by
  have h19 := hg.2.2.1
  have hlen := (fr_first (c := c) (by omega)).1
  rcases hI with ⟨a1, a2⟩ | ⟨a1, a2, a3, j9, hj9, a4⟩
  · omega
  · rcases h with h | h
    · rw [fr_z_end hc h] at a2 a3
      exact ⟨a2, fun q q1 q2 => a3 q q1 (by omega)⟩
    · have key : ∀ d : Nat, k + d ≤ (rm_lv c c []).length → fr_z W rch s c (k + d) = fr_z W rch s c k := by
        intro d
        induction d with
        | zero => intro _; rfl
        | succ d ih =>
          intro hd
          have ih1 := ih (by omega)
          rw [show k + (d + 1) = k + d + 1 by omega, fr_z_s (by omega), ih1]
          unfold rm_st
          rw [if_neg]
          rw [← a2]
          have b1 := rv_same (W := W) (rch := rch) hg h0 hc hj9
          have b2 := rv_same (W := W) (rch := rch) hg h0 hc (k := k + d) (by omega)
          rw [← a4] at b1
          by_cases hp : ∃ p : Nat, (p : Int) < s 19 ∧ s (7 + (p : Int)) = 0
          · have b3 := b2.2.2 hp
            omega
          · have hn : ∀ p : Nat, (p : Int) < s 19 → ¬ s (7 + (p : Int)) = 0 := fun p p1 p2 => hp ⟨p, p1, p2⟩
            have b3 := b1.2.1 hn
            have b4 := b2.2.1 hn
            omega
      have e := key ((rm_lv c c []).length - k) (by omega)
      rw [fr_z_end hc (by omega)] at e
      rw [← e] at a2 a3
      exact ⟨a2, fun q q1 q2 => a3 q q1 (by omega)⟩
