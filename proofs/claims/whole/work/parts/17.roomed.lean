theorem bt_all {P : Int → Int → Prop} (h : ∀ (r : Fin 64) (p : Fin 6), P (r.val : Int) (p.val : Int)) {r p : Int} (hr : 0 ≤ r ∧ r < 64) (hp : 0 ≤ p ∧ p < 6) : P r p := by
  have h9 := h ⟨r.toNat, by omega⟩ ⟨p.toNat, by omega⟩
  have e1 : ((r.toNat : Nat) : Int) = r := by omega
  have e2 : ((p.toNat : Nat) : Int) = p := by omega
  simp only [e1, e2] at h9
  exact h9
def bt_out (r p : Int) : Int := bAnd r (bXor (bShl 1 p) (-1))
def bt_n (r : Int) : Nat := (bAnd (bShr r 0) 1).toNat + (bAnd (bShr r 1) 1).toNat + (bAnd (bShr r 2) 1).toNat + (bAnd (bShr r 3) 1).toNat + (bAnd (bShr r 4) 1).toNat + (bAnd (bShr r 5) 1).toNat
theorem bt_1 {r p : Int} (hr : 0 ≤ r ∧ r < 64) (hp : 0 ≤ p ∧ p < 6) : (bAnd (bShr r p) 1 = 0 ∨ bAnd (bShr r p) 1 = 1) ∧ (0 ≤ bt_out r p ∧ bt_out r p < 64) ∧ (bAnd (bShr r p) 1 = 1 → bt_n (bt_out r p) + 1 = bt_n r) ∧ (bt_n r = 0 → r = 0) ∧ (r = 0 → bt_n r = 0 ∧ bAnd (bShr r p) 1 = 0) :=
  bt_all (P := fun r p => (bAnd (bShr r p) 1 = 0 ∨ bAnd (bShr r p) 1 = 1) ∧ (0 ≤ bt_out r p ∧ bt_out r p < 64) ∧ (bAnd (bShr r p) 1 = 1 → bt_n (bt_out r p) + 1 = bt_n r) ∧ (bt_n r = 0 → r = 0) ∧ (r = 0 → bt_n r = 0 ∧ bAnd (bShr r p) 1 = 0)) (by decide +kernel) hr hp
theorem bt_2 {r p q : Int} (hr : 0 ≤ r ∧ r < 64) (hp : 0 ≤ p ∧ p < 6) (hq : 0 ≤ q ∧ q < 6) : bAnd (bShr (bt_out r p) q) 1 = if q = p then 0 else bAnd (bShr r q) 1 := by
  have h := bt_all (P := fun r p => ∀ q : Fin 6, bAnd (bShr (bt_out r p) (q.val : Int)) 1 = if (q.val : Int) = p then 0 else bAnd (bShr r (q.val : Int)) 1) (by decide +kernel) hr hp
  have h9 := h ⟨q.toNat, by omega⟩
  have e2 : ((q.toNat : Nat) : Int) = q := by omega
  simp only [e2] at h9
  exact h9
theorem bt_3 {c : Int} (hc : 0 ≤ c ∧ c ≤ 6) : (0 ≤ bShl 1 c - 1 ∧ bShl 1 c - 1 < 64) ∧ (bt_n (bShl 1 c - 1) : Int) = c ∧ ∀ q, 0 ≤ q → q < c → bAnd (bShr (bShl 1 c - 1) q) 1 = 1 := by
  have h : ∀ c : Fin 7, (0 ≤ bShl 1 (c.val : Int) - 1 ∧ bShl 1 (c.val : Int) - 1 < 64) ∧ (bt_n (bShl 1 (c.val : Int) - 1) : Int) = (c.val : Int) ∧ ∀ q : Fin 6, q.val < c.val → bAnd (bShr (bShl 1 (c.val : Int) - 1) (q.val : Int)) 1 = 1 := by decide +kernel
  have h9 := h ⟨c.toNat, by omega⟩
  have e : ((c.toNat : Nat) : Int) = c := by omega
  simp only [e] at h9
  refine ⟨h9.1, h9.2.1, fun q q1 q2 => ?_⟩
  have h8 := h9.2.2 ⟨q.toNat, by omega⟩ (by show q.toNat < c.toNat; omega)
  have e2 : ((q.toNat : Nat) : Int) = q := by omega
  simp only [e2] at h8
  exact h8
/-- orders of rooms, first to last, as the reference goes -/
def rm_l (G : Nat → List (List Nat)) : Nat → List (List Nat)
  | 0 => []
  | i + 1 => rm_l G i ++ G i
def rm_lv (c : Nat) : Nat → List Nat → List (List Nat)
  | 0, P => [P]
  | r + 1, P => rm_l (fun p => if P.elem p then [] else rm_lv c r (P ++ [p])) c
def rm_at (P : List Nat) (j : Int) : Int := ((P.getD j.toNat 0 : Nat) : Int)
def md_ord (s or : Int → Int) : Int → Int := fun j => if 13 ≤ j ∧ j < 13 + s 19 then s (13 + or (j - 13)) else s j
def md_rv (W : (Int → Int) → Int) (rch : Int) (s : Int → Int) (P : List Nat) : Int := md_unl (md_goN W rch (md_ord s (rm_at P)) 3)
def rm_st (W : (Int → Int) → Int) (rch : Int) (s : Int → Int) (z : Int × List Nat) (P : List Nat) : Int × List Nat := if md_rv W rch s P < z.1 then (md_rv W rch s P, P) else z
def rm_R (c lu : Int) (bo : Int → Int) (z : Int × List Nat) : Prop := lu = z.1 ∧ (lu < 1000000000 → ∀ j, 0 ≤ j → j < c → bo j = rm_at z.2 j)
theorem rm_up {W : (Int → Int) → Int} {rch c lu v : Int} {s bo b2 or : Int → Int} {z : Int × List Nat} {P : List Nat} (hc : c ≤ 6) (hR : rm_R c lu bo z) (hv : v = md_rv W rch s P) (hlt : v < lu) (hb : ∀ j, 0 ≤ j → j < 6 → b2 j = or j) (ho : ∀ j, 0 ≤ j → j < c → or j = rm_at P j) : rm_R c v b2 (rm_st W rch s z P) := by
  unfold rm_st
  rw [if_pos (by rw [← hv, ← hR.1]; exact hlt)]
  exact ⟨hv, fun _ j h1 h2 => by rw [hb j h1 (by omega)]; exact ho j h1 h2⟩
theorem rm_no {W : (Int → Int) → Int} {rch c lu v : Int} {s bo : Int → Int} {z : Int × List Nat} {P : List Nat} (hR : rm_R c lu bo z) (hv : v = md_rv W rch s P) (hlt : ¬ v < lu) : rm_R c lu bo (rm_st W rch s z P) := by
  unfold rm_st
  rw [if_neg (by rw [← hv, ← hR.1]; exact hlt)]
  exact hR
theorem md_tryR {s or t : Int → Int} {W : (Int → Int) → Int} {rch : Int} (hg : md_rg s) (hT : md_TK s W rch) (ho : ∀ j, 0 ≤ j → j < s 19 → 0 ≤ or j ∧ or j < 6) (e : t = md_ord s or) : md_rg t ∧ md_TK t W rch ∧ t 0 = s 0 ∧ t 19 = s 19 ∧ (∀ u : Int → Int, md_PC W (fun z => t (26 + z)) u ↔ md_PC W (fun z => s (26 + z)) u) ∧ ∀ j, j < 13 ∨ 19 ≤ j → t j = s j := by
  have h19 := hg.2.2.1
  have ne : ∀ j, j < 13 ∨ 19 ≤ j → t j = s j := fun j hj => by
    rw [e]
    unfold md_ord
    rw [if_neg (by omega)]
  refine ⟨⟨fun p h1 h2 => ?_, fun j h1 h2 => by rw [ne j (by omega)]; exact hg.2.1 j h1 h2, by rw [ne 19 (by omega)]; exact hg.2.2.1, by rw [ne 0 (by omega)]; exact hg.2.2.2⟩, md_TKs (fun j hj => ne j (by omega)) hT, ne 0 (by omega), ne 19 (by omega), fun u => md_PC_kd (fun z h1 h2 => ne _ (by omega)), ne⟩
  obtain ⟨a1, a2, a3, a4, a5⟩ := hg.1 p h1 h2
  refine ⟨by rw [ne _ (by omega)]; exact a1, by rw [ne _ (by omega)]; exact a2, ?_, by rw [ne _ (by omega)]; exact a4, by rw [ne _ (by omega)]; exact a5⟩
  rw [e]
  unfold md_ord
  by_cases h3 : 13 ≤ 13 + p ∧ 13 + p < 13 + s 19
  · rw [if_pos h3, show 13 + p - 13 = p by omega]
    have := ho p (by omega) (by omega)
    exact (hg.1 _ this.1 this.2).2.2.1
  · rw [if_neg h3]; exact a3
theorem md_ordL {s or : Int → Int} {P : List Nat} (h : ∀ j, 0 ≤ j → j < s 19 → or j = rm_at P j) : md_ord s or = md_ord s (rm_at P) := by
  funext j
  unfold md_ord
  by_cases h3 : 13 ≤ j ∧ j < 13 + s 19
  · rw [if_pos h3, if_pos h3, h _ (by omega) (by omega)]
  · rw [if_neg h3, if_neg h3]
theorem md_ordE {s f or rm : Int → Int} {i : Int} (hi : i = s 19) (hc : s 19 ≤ 6) (ho : ∀ j, 0 ≤ j → j < s 19 → 0 ≤ or j ∧ or j < 6) (hrm : ∀ j, 0 ≤ j → j < 6 → rm j = s (13 + j)) (h : ∀ j, f j = if 13 ≤ j ∧ j < 13 + i then rm (or (j - 13)) else s j) : f = md_ord s or := by
  funext j
  rw [h j]
  unfold md_ord
  by_cases h3 : 13 ≤ j ∧ j < 13 + s 19
  · have := ho (j - 13) (by omega) (by omega)
    rw [if_pos (by omega), if_pos h3, hrm _ this.1 this.2]
  · rw [if_neg (by omega), if_neg h3]
theorem up_ord {f f2 s or rm : Int → Int} {i : Int} (e : f2 = upI f (13 + i) (rm (or i))) (hi : 0 ≤ i) (h : ∀ j, f j = if 13 ≤ j ∧ j < 13 + i then rm (or (j - 13)) else s j) : ∀ j, f2 j = if 13 ≤ j ∧ j < 13 + (i + 1) then rm (or (j - 13)) else s j := by
  intro j
  rw [e]
  by_cases hj : j = 13 + i
  · rw [hj, upI_at, if_pos (by omega), show 13 + i - 13 = i by omega]
  · rw [upI_ne hj, h j]
    by_cases h3 : 13 ≤ j ∧ j < 13 + i
    · rw [if_pos h3, if_pos (by omega)]
    · rw [if_neg h3, if_neg (by omega)]
theorem rm_at_app {P : List Nat} {or o2 : Int → Int} {k : Nat} {i c : Int} {j : Nat} (hk : P.length = k) (hi : i = (j : Int)) (h0 : 0 ≤ i ∧ i < c) (h : ∀ q, 0 ≤ q → q < (k : Int) → or q = rm_at P q ∧ 0 ≤ or q ∧ or q < c) (e : o2 = upI or (k : Int) i) : ∀ q, 0 ≤ q → q < (k : Int) + 1 → o2 q = rm_at (P ++ [j]) q ∧ 0 ≤ o2 q ∧ o2 q < c := by
  intro q h1 h2
  rw [e]
  by_cases hq : q = (k : Int)
  · rw [hq, upI_at]
    refine ⟨?_, h0.1, h0.2⟩
    unfold rm_at
    rw [show ((k : Int)).toNat = P.length by omega, List.getD_eq_getElem?_getD]
    simp [hi]
  · rw [upI_ne hq]
    have h3 := h q h1 (by omega)
    refine ⟨?_, h3.2⟩
    rw [h3.1]
    unfold rm_at
    rw [List.getD_eq_getElem?_getD, List.getD_eq_getElem?_getD, List.getElem?_append_left (by omega)]
/-- the bits that are left are those not in the order yet -/
def rm_B (c rest : Int) (P : List Nat) : Prop := ∀ q : Nat, (q : Int) < c → (bAnd (bShr rest (q : Int)) 1 = 1 ↔ P.elem q = false)
theorem rm_B_s {c rest i : Int} {P : List Nat} {j : Nat} (hc : c ≤ 6) (hr : 0 ≤ rest ∧ rest < 64) (hi : i = (j : Int)) (hj : i < c) (h : rm_B c rest P) : rm_B c (bt_out rest i) (P ++ [j]) := by
  intro q hq
  rw [bt_2 hr (p := i) (q := (q : Int)) (by omega) (by omega)]
  have e : (P ++ [j]).elem q = (P.elem q || (q == j)) := by
    rw [Bool.eq_iff_iff]
    simp
  rw [e]
  by_cases hqj : (q : Int) = i
  · have h9 : q = j := by omega
    rw [if_pos hqj, h9]
    simp
  · have h9 : ¬ q = j := by omega
    rw [if_neg hqj, h q hq]
    simp [h9]
theorem rm_fold_0 {W : (Int → Int) → Int} {rch c : Int} {s : Int → Int} {z : Int × List Nat} {P : List Nat} {r j : Nat} {rest i : Int} (hB : rm_B c rest P) (hi : i = (j : Int)) (hj : i < c) (hb : ¬ bAnd (bShr rest i) 1 = 1) : List.foldl (rm_st W rch s) z (rm_l (fun p => if P.elem p then [] else rm_lv c.toNat r (P ++ [p])) (j + 1)) = List.foldl (rm_st W rch s) z (rm_l (fun p => if P.elem p then [] else rm_lv c.toNat r (P ++ [p])) j) := by
  have h : P.elem j = true := by
    rcases Bool.eq_false_or_eq_true (P.elem j) with h9 | h9
    · exact h9
    · exact absurd ((hB j (by omega)).mpr h9) (by rw [← hi]; exact hb)
  rw [show rm_l (fun p => if P.elem p then [] else rm_lv c.toNat r (P ++ [p])) (j + 1) = rm_l (fun p => if P.elem p then [] else rm_lv c.toNat r (P ++ [p])) j ++ (if P.elem j then [] else rm_lv c.toNat r (P ++ [j])) from rfl, h, List.foldl_append]
  rfl
theorem rm_fold_1 {W : (Int → Int) → Int} {rch c : Int} {s : Int → Int} {z : Int × List Nat} {P : List Nat} {r j : Nat} {rest i : Int} (hB : rm_B c rest P) (hi : i = (j : Int)) (hj : i < c) (hb : bAnd (bShr rest i) 1 = 1) : List.foldl (rm_st W rch s) z (rm_l (fun p => if P.elem p then [] else rm_lv c.toNat r (P ++ [p])) (j + 1)) = List.foldl (rm_st W rch s) (List.foldl (rm_st W rch s) z (rm_l (fun p => if P.elem p then [] else rm_lv c.toNat r (P ++ [p])) j)) (rm_lv c.toNat r (P ++ [j])) := by
  have h : P.elem j = false := (hB j (by omega)).mp (by rw [← hi]; exact hb)
  rw [show rm_l (fun p => if P.elem p then [] else rm_lv c.toNat r (P ++ [p])) (j + 1) = rm_l (fun p => if P.elem p then [] else rm_lv c.toNat r (P ++ [p])) j ++ (if P.elem j then [] else rm_lv c.toNat r (P ++ [j])) from rfl, h, List.foldl_append]
  rfl
def md_rmz (W : (Int → Int) → Int) (rch : Int) (s : Int → Int) : Int × List Nat := List.foldl (rm_st W rch s) (1000000000, []) (rm_lv (s 19).toNat (s 19).toNat [])
def an_roomed (W : (Int → Int) → Int) (rch : Int) (s : Int → Int) (k : Int) : Int := if k < -1 ∨ 5 < k then -1 else if k = -1 then (md_rmz W rch s).1 else if k < s 19 then rm_at (md_rmz W rch s).2 k else -5
theorem md_unl_10 {W : (Int → Int) → Int} {rch : Int} {s : Int → Int} {P : List Nat} : 0 ≤ md_rv W rch s P ∧ md_rv W rch s P ≤ 10 := md_unl_rng _
theorem rm_fold_le {W : (Int → Int) → Int} {rch : Int} {s : Int → Int} : ∀ (l : List (List Nat)) (z : Int × List Nat), z.1 ≤ 10 → (List.foldl (rm_st W rch s) z l).1 ≤ 10
  | [], z, h => h
  | P :: l, z, h => by
    refine rm_fold_le l _ ?_
    have h1 := md_unl_10 (W := W) (rch := rch) (s := s) (P := P)
    show (rm_st W rch s z P).1 ≤ 10
    unfold rm_st
    split
    · exact h1.2
    · exact h
theorem rm_fold_b {W : (Int → Int) → Int} {rch : Int} {s : Int → Int} (l : List (List Nat)) (hl : l ≠ []) : (List.foldl (rm_st W rch s) (1000000000, []) l).1 ≤ 10 := by
  cases l with
  | nil => exact absurd rfl hl
  | cons P l =>
    refine rm_fold_le l _ ?_
    have h1 := md_unl_10 (W := W) (rch := rch) (s := s) (P := P)
    show (rm_st W rch s (1000000000, []) P).1 ≤ 10
    unfold rm_st
    rw [if_pos (by show _ < (1000000000 : Int); omega)]
    exact h1.2
theorem rm_lv_ne {c : Nat} (h : c ≤ 6) : rm_lv c c [] ≠ [] := by
  have h9 : ∀ c : Fin 7, (rm_lv c.val c.val []).isEmpty = false := by decide +kernel
  intro e
  have h8 := h9 ⟨c, by omega⟩
  simp only [e] at h8
  cases h8
theorem md_rmz_le {W : (Int → Int) → Int} {rch : Int} {s : Int → Int} (h : 0 ≤ s 19 ∧ s 19 ≤ 6) : (md_rmz W rch s).1 ≤ 10 := rm_fold_b _ (rm_lv_ne (by omega))
set_option maxHeartbeats 4000000 in
set_option maxRecDepth 100000 in
theorem k_X10_triesOrder {K : gK} (m0 : Nat) (m1 : Nat) (m3 : Nat) (m10 : Nat) (m11 : Nat) (m12 : Nat) (m14 : Nat) (m16 : Nat) (m17 : Nat) (m18 : Nat) (w_thrown : Value) (w_image : Value) (w_hasImage : Value) (w_act : Value) (w_spot : Value) (w_end : Value) (w_isWrong : Value) (w_open : Value) (w_first : Value) (w_bodies : Value) (w_ran : Value) (w_kind : Value) (w_number : Value) (w_tellsV : Value) (lu : Int) (s : Int → Int) (fr : Int → Int) (fb : Int → Int) (ft : Int → Int) (fu : Int → Int) (fn : Int → Int) (or : Int → Int) (bo : Int → Int) (rm : Int → Int) (W : (Int → Int) → Int) (rch : Int) (z : Int × List Nat) (P : List Nat) (r_lu : rI lu) (r_s : ∀ j, rI (s j)) (r_fr : ∀ j, rI (fr j)) (r_fb : ∀ j, rI (fb j)) (r_ft : rZ ft) (r_fu : ∀ j, rI (fu j)) (r_fn : ∀ j, rI (fn j)) (r_or : ∀ j, rI (or j)) (r_bo : ∀ j, rI (bo j)) (r_rm : ∀ j, rI (rm j)) (hg : md_rg s) (h0 : s 0 + 3 ≤ 20000) (hT : md_TK s W rch) (hpc : md_PC W (fun z => s (26 + z)) fu) (hrm : ∀ j, 0 ≤ j → j < 6 → rm j = s (13 + j)) (hRB : rm_R (s 19) lu bo z) (ho : ∀ j, 0 ≤ j → j < s 19 → or j = rm_at P j ∧ 0 ≤ or j ∧ or j < 6) : gMet K yX10_triesOrder cX10_triesOrder 3 none 7 0 0 [.ref m0] [cO m0 10 [w_thrown, .ref m1, w_image, .ref m3, w_hasImage, w_act, w_spot, w_end, w_isWrong, w_open, .ref m10, .ref m11, .ref m12, .int (iI 1), .ref m14, w_first, .ref m16, .ref m17, .ref m18, .int (iI lu), w_bodies, w_ran, w_kind, w_number, w_tellsV], cA K m1 922 s, cA K m3 19 fr, cA K m10 6 fb, cZ K m11 64 ft, cA K m12 36000 fu, cA K m14 6 fn, cA K m16 6 or, cA K m17 6 bo, cA K m18 6 rm] (fun v9 w9 => ∃ (fr2 : Int → Int), ∃ (fb2 : Int → Int), ∃ (ft2 : Int → Int), ∃ (fu2 : Int → Int), ∃ (fn2 : Int → Int), ∃ (lu2 : Int), ∃ (bo2 : Int → Int), v9 = none ∧ w9 = [cO m0 10 [w_thrown, .ref m1, w_image, .ref m3, w_hasImage, w_act, w_spot, w_end, w_isWrong, w_open, .ref m10, .ref m11, .ref m12, .int (iI 1), .ref m14, w_first, .ref m16, .ref m17, .ref m18, .int (iI lu2), w_bodies, w_ran, w_kind, w_number, w_tellsV], cA K m1 922 s, cA K m3 19 fr2, cA K m10 6 fb2, cZ K m11 64 ft2, cA K m12 36000 fu2, cA K m14 6 fn2, cA K m16 6 or, cA K m17 6 bo2, cA K m18 6 rm] ∧ (∀ j, rI (fr2 j)) ∧ (∀ j, rI (fb2 j)) ∧ rZ ft2 ∧ (∀ j, rI (fu2 j)) ∧ (∀ j, rI (fn2 j)) ∧ rI lu2 ∧ (∀ j, rI (bo2 j)) ∧ (rm_R (s 19) lu2 bo2 (rm_st W rch s z P)) ∧ (md_PC W (fun z => s (26 + z)) fu2)) := by
  refine g_enter (by decide +kernel) (Nat.le_of_ble_eq_true rfl) (fun G hC hR => ?_)
  refine g_lv hC [0] [(0, _)] rfl ?_
  have hg0 := hg.2.2.2
  have h19 := hg.2.2.1
  refine g_aload_n (pc := 0) hC 0 dX10_triesOrder_0 rfl rfl ?_
  refine g_callV (pc := 1) (qr := 0) hC [0, 1, 2] (k_X10_keeps _ _ _ _ _ _ _ _ _ _ _ _ _ _ _ _ _ _ _ _ _ _ _ _ _ _ _ _ (by first | assumption | omega) (by first | assumption | omega)) cl_X10_keeps wm_X10_169 dX10_triesOrder_1 rfl rfl rfl rfl rfl (by decide) (by decide) (by omega) (Nat.le_of_ble_eq_true rfl) rfl (fun v9 w9 hq9 => ?_)
  obtain ⟨g1, rfl, rfl, r_g1, hkp⟩ := hq9
  refine g_ws hC [cO m0 10 [w_thrown, .ref m1, w_image, .ref m3, w_hasImage, w_act, w_spot, w_end, w_isWrong, w_open, .ref m10, .ref m11, .ref m12, .int (iI 1), .ref m14, w_first, .ref m16, .ref m17, .ref m18, .int (iI lu), w_bodies, w_ran, w_kind, w_number, w_tellsV], cA K m1 922 s, cA K m3 19 g1, cA K m10 6 fb, cZ K m11 64 ft, cA K m12 36000 fu, cA K m14 6 fn, cA K m16 6 or, cA K m17 6 bo, cA K m18 6 rm] rfl ?_
  refine g_st hC [] rfl ?_
  refine g_iconst (pc := 4) hC dX10_triesOrder_4 ?_
  refine g_istore_n (pc := 5) hC [(1, _), (0, _)] dX10_triesOrder_5 rfl (by decide) rfl ?_
  have L6 : ∀ (n1 : Nat) (i : Int) (f : Int → Int), (rI i) → (∀ j, rI (f j)) → (0 ≤ i ∧ i ≤ s 19) → (∀ j, f j = if 13 ≤ j ∧ j < 13 + i then rm (or (j - 13)) else s j) → s 19 - i < (n1 : Int) → G 0 0 6 [(0, .ref m0), (1, .int (iI i))] [] [cO m0 10 [w_thrown, .ref m1, w_image, .ref m3, w_hasImage, w_act, w_spot, w_end, w_isWrong, w_open, .ref m10, .ref m11, .ref m12, .int (iI 1), .ref m14, w_first, .ref m16, .ref m17, .ref m18, .int (iI lu), w_bodies, w_ran, w_kind, w_number, w_tellsV], cA K m1 922 f, cA K m3 19 g1, cA K m10 6 fb, cZ K m11 64 ft, cA K m12 36000 fu, cA K m14 6 fn, cA K m16 6 or, cA K m17 6 bo, cA K m18 6 rm] := by
    intro n1
    induction n1 with
    | zero => intro i f r_i r_f hi hf hm6; exfalso; omega
    | succ n1 ih6 =>
      intro i f r_i r_f hi hf hm6
      have hf19 : f 19 = s 19 := by rw [hf 19, if_neg (by omega)]
      refine g_iload_n (pc := 6) hC 1 dX10_triesOrder_6 rfl rfl ?_
      refine g_aload_n (pc := 7) hC 0 dX10_triesOrder_7 rfl rfl ?_
      refine g_get (pc := 8) hC 0 fl_X10_9 dX10_triesOrder_8 rfl rfl ?_
      refine g_bipush (pc := 11) hC (19) dX10_triesOrder_11 (by decide) ?_
      refine g_iald (pc := 13) hC 1 dX10_triesOrder_13 rfl (by omega) ?_
      have q2 := r_f 19
      refine g_icmp_ge (pc := 14) hC 43 dX10_triesOrder_14 (by decide) (by omega) (by omega) (fun c14 => ?_) (fun c14 => ?_)
      · have hord := md_ordE (i := i) (by omega) h19.2 (fun j h1 h2 => (ho j h1 h2).2) hrm hf
        have htr := md_tryR hg hT (fun j h1 h2 => (ho j h1 h2).2) hord
        refine g_aload_n (pc := 43) hC 0 dX10_triesOrder_43 rfl rfl ?_
        refine g_iconst (pc := 44) hC dX10_triesOrder_44 ?_
        refine g_callV (pc := 45) (qr := 0) hC [0, 1, 3, 4, 5, 6] (k_X10_goesOn _ _ _ _ _ _ _ _ _ _ _ _ _ _ _ _ _ _ _ _ _ _ _ _ _ _ _ _ _ _ _ _ _ _ (by first | assumption | omega) (by first | assumption | omega) (by first | assumption | omega) (by first | assumption | omega) (by first | assumption | omega) (by first | assumption | omega) (by first | assumption | omega) (by omega) htr.1 (by rw [htr.2.2.1]; omega) htr.2.1 (Or.inr ⟨rfl, (htr.2.2.2.2.1 _).mpr hpc⟩)) cl_X10_goesOn wm_X10_187 dX10_triesOrder_45 rfl rfl rfl rfl rfl (by decide) (by decide) (by omega) (Nat.le_of_ble_eq_true rfl) rfl (fun v9 w9 hq9 => ?_)
        obtain ⟨t2, fb3, ft4, fu1, fn5, rfl, rfl, r_t2, r_fb3, r_ft4, r_fu1, r_fn5, hs_45, hk2_45⟩ := hq9
        refine g_ws hC [cO m0 10 [w_thrown, .ref m1, w_image, .ref m3, w_hasImage, w_act, w_spot, w_end, w_isWrong, w_open, .ref m10, .ref m11, .ref m12, .int (iI 1), .ref m14, w_first, .ref m16, .ref m17, .ref m18, .int (iI lu), w_bodies, w_ran, w_kind, w_number, w_tellsV], cA K m1 922 t2, cA K m3 19 g1, cA K m10 6 fb3, cZ K m11 64 ft4, cA K m12 36000 fu1, cA K m14 6 fn5, cA K m16 6 or, cA K m17 6 bo, cA K m18 6 rm] rfl ?_
        refine g_st hC [] rfl ?_
        have hgt : md_rg t2 := by rw [hs_45]; exact md_goN_rg htr.1 3 (by rw [htr.2.2.1]; omega)
        have hout : ∀ j, j < 0 ∨ 19 ≤ j → t2 j = s j := fun j hj => by
          rw [hs_45, md_goN_out (by rw [htr.2.2.2.1]; omega) (by omega), htr.2.2.2.2.2 j (by omega)]
        have hpc9 : md_PC W (fun z => s (26 + z)) fu1 := (htr.2.2.2.2.1 _).mp (hk2_45.resolve_left (by decide)).2
        refine g_aload_n (pc := 48) hC 0 dX10_triesOrder_48 rfl rfl ?_
        refine g_fnV (pc := 49) (qr := 0) hC [0, 1] (k_X10_unlike _ _ _ _ _ _ _ _ _ _ _ _ _ _ _ _ _ _ _ _ _ _ _ _ _ _ _ (by first | assumption | omega) hgt) cl_X10_unlike wm_X10_172 dX10_triesOrder_49 rfl rfl rfl rfl rfl (by decide) (by decide) ⟨by omega, by omega⟩ (Nat.le_of_ble_eq_true rfl) rfl rfl ?_
        refine g_name hC (fun v e_v => ?_)
        have q_v : 0 ≤ v ∧ v ≤ 10 := by rw [e_v]; exact md_unl_rng _
        have hv9 : v = md_rv W rch s P := by
          rw [e_v, hs_45, hord, md_ordL (fun j h1 h2 => (ho j h1 h2).1)]
          rfl
        refine g_istore_n (pc := 52) hC [(1, _), (0, _)] dX10_triesOrder_52 rfl (by decide) rfl ?_
        refine g_aload_n (pc := 53) hC 1 dX10_triesOrder_53 rfl rfl ?_
        refine g_callV (pc := 54) (qr := 0) hC [0, 1, 2] (k_X10_goesBack _ _ _ _ _ _ _ _ _ _ _ _ _ _ _ _ _ _ _ _ _ _ _ _ _ _ _ _ (by first | assumption | omega) (by first | assumption | omega)) cl_X10_goesBack wm_X10_178 dX10_triesOrder_54 rfl rfl rfl rfl rfl (by decide) (by decide) (by omega) (Nat.le_of_ble_eq_true rfl) rfl (fun v9 w9 hq9 => ?_)
        obtain ⟨s3, rfl, rfl, r_s3, hb_54⟩ := hq9
        refine g_ws hC [cO m0 10 [w_thrown, .ref m1, w_image, .ref m3, w_hasImage, w_act, w_spot, w_end, w_isWrong, w_open, .ref m10, .ref m11, .ref m12, .int (iI 1), .ref m14, w_first, .ref m16, .ref m17, .ref m18, .int (iI lu), w_bodies, w_ran, w_kind, w_number, w_tellsV], cA K m1 922 s3, cA K m3 19 g1, cA K m10 6 fb3, cZ K m11 64 ft4, cA K m12 36000 fu1, cA K m14 6 fn5, cA K m16 6 or, cA K m17 6 bo, cA K m18 6 rm] rfl ?_
        refine g_st hC [] rfl ?_
        rw [show (s3 : Int → Int) = s from (md_back hkp hout hb_54)]
        refine g_iload_n (pc := 57) hC 0 dX10_triesOrder_57 rfl rfl ?_
        refine g_aload_n (pc := 58) hC 1 dX10_triesOrder_58 rfl rfl ?_
        refine g_get (pc := 59) hC 0 fl_X10_200 dX10_triesOrder_59 rfl rfl ?_
        refine g_icmp_ge (pc := 62) hC 96 dX10_triesOrder_62 (by decide) (by omega) (by omega) (fun c62 => ?_) (fun c62 => ?_)
        · exact g_vret (pc := 96) hR dX10_triesOrder_96 rfl ⟨by omega, by omega⟩ (Nat.le_of_ble_eq_true rfl) ⟨g1, fb3, ft4, fu1, fn5, lu, bo, rfl, rfl, (by first | assumption | omega), (by first | assumption | omega), (by first | assumption | omega), (by first | assumption | omega), (by first | assumption | omega), (by first | assumption | omega), (by first | assumption | omega), (rm_no hRB hv9 (by omega)), hpc9⟩
        · refine g_aload_n (pc := 65) hC 1 dX10_triesOrder_65 rfl rfl ?_
          refine g_iload_n (pc := 66) hC 0 dX10_triesOrder_66 rfl rfl ?_
          refine g_putI (pc := 67) hC 0 [cO _ _ [_, _, _, _, _, _, _, _, _, _, _, _, _, _, _, _, _, _, _, _, _, _, _, _, _], _, _, _, _, _, _, _, _, _] fl_X10_200 dX10_triesOrder_67 rfl (Nat.le_of_ble_eq_true rfl) rfl ?_
          refine g_iconst (pc := 70) hC dX10_triesOrder_70 ?_
          refine g_istore_n (pc := 71) hC [(2, _), (1, _), (0, _)] dX10_triesOrder_71 rfl (by decide) rfl ?_
          have L72 : ∀ (n6 : Nat) (i : Int) (f : Int → Int), (rI i) → (∀ j, rI (f j)) → (0 ≤ i ∧ i ≤ 6) → (∀ j, 0 ≤ j → j < i → f j = or j) → 6 - i < (n6 : Int) → G 0 0 72 [(0, .ref m0), (1, .int (iI v)), (2, .int (iI i))] [] [cO m0 10 [w_thrown, .ref m1, w_image, .ref m3, w_hasImage, w_act, w_spot, w_end, w_isWrong, w_open, .ref m10, .ref m11, .ref m12, .int (iI 1), .ref m14, w_first, .ref m16, .ref m17, .ref m18, .int (iI v), w_bodies, w_ran, w_kind, w_number, w_tellsV], cA K m1 922 s, cA K m3 19 g1, cA K m10 6 fb3, cZ K m11 64 ft4, cA K m12 36000 fu1, cA K m14 6 fn5, cA K m16 6 or, cA K m17 6 f, cA K m18 6 rm] := by
            intro n6
            induction n6 with
            | zero => intro i f r_i r_f hi hf6 hm72; exfalso; omega
            | succ n6 ih72 =>
              intro i f r_i r_f hi hf6 hm72
              refine g_iload_n (pc := 72) hC 2 dX10_triesOrder_72 rfl rfl ?_
              refine g_bipush (pc := 73) hC (6) dX10_triesOrder_73 (by decide) ?_
              refine g_icmp_ge (pc := 75) hC 96 dX10_triesOrder_75 (by decide) (by omega) (by omega) (fun c75 => ?_) (fun c75 => ?_)
              · exact g_vret (pc := 96) hR dX10_triesOrder_96 rfl ⟨by omega, by omega⟩ (Nat.le_of_ble_eq_true rfl) ⟨g1, fb3, ft4, fu1, fn5, v, f, rfl, rfl, (by first | assumption | omega), (by first | assumption | omega), (by first | assumption | omega), (by first | assumption | omega), (by first | assumption | omega), (by first | assumption | omega), (by first | assumption | omega), (rm_up h19.2 hRB hv9 (by omega) (fun j h1 h2 => hf6 j h1 (by omega)) (fun j h1 h2 => (ho j h1 h2).1)), hpc9⟩
              · refine g_aload_n (pc := 78) hC 0 dX10_triesOrder_78 rfl rfl ?_
                refine g_get (pc := 79) hC 0 fl_X10_41 dX10_triesOrder_79 rfl rfl ?_
                refine g_iload_n (pc := 82) hC 2 dX10_triesOrder_82 rfl rfl ?_
                refine g_aload_n (pc := 83) hC 0 dX10_triesOrder_83 rfl rfl ?_
                refine g_get (pc := 84) hC 0 fl_X10_38 dX10_triesOrder_84 rfl rfl ?_
                refine g_iload_n (pc := 87) hC 2 dX10_triesOrder_87 rfl rfl ?_
                refine g_iald (pc := 88) hC 7 dX10_triesOrder_88 rfl (by omega) ?_
                have q7 := r_or i
                refine g_iast (pc := 89) hC 8 (fun f9 => [_, _, _, _, _, _, _, _, cA K _ _ f9, _]) dX10_triesOrder_89 rfl (by omega) (fun _ => rfl) (fun f7 e_f7 => ?_)
                have r_f7 := rng_up e_f7 r_f (by omega)
                refine g_iinc (pc := 90) hC 2 [(2, _), (0, _), (1, _)] dX10_triesOrder_90 rfl (by decide) rfl ?_
                refine g_goto (pc := 93) hC 72 dX10_triesOrder_93 (by decide) ?_
                refine g_lv hC [1, 2, 0] [(0, _), (1, _), (2, _)] rfl ?_
                exact ih72 (i + 1) f7 (by first | assumption | omega) (by first | assumption | omega) (by first | assumption | omega) (up_lt e_f7 hf6) (by omega)
          refine g_lv hC [2, 1, 0] [(0, _), (1, _), (2, _)] rfl ?_
          exact L72 ((6 - 0 : Int).toNat + 1) 0 bo (by first | assumption | omega) (by first | assumption | omega) (by first | assumption | omega) (fun j h1 h2 => by omega) (by omega)
      · have hoi := ho i (by omega) (by omega)
        refine g_aload_n (pc := 17) hC 0 dX10_triesOrder_17 rfl rfl ?_
        refine g_get (pc := 18) hC 0 fl_X10_9 dX10_triesOrder_18 rfl rfl ?_
        refine g_bipush (pc := 21) hC (13) dX10_triesOrder_21 (by decide) ?_
        refine g_iload_n (pc := 23) hC 1 dX10_triesOrder_23 rfl rfl ?_
        refine g_iadd (pc := 24) hC dX10_triesOrder_24 ?_
        refine g_aload_n (pc := 25) hC 0 dX10_triesOrder_25 rfl rfl ?_
        refine g_get (pc := 26) hC 0 fl_X10_44 dX10_triesOrder_26 rfl rfl ?_
        refine g_aload_n (pc := 29) hC 0 dX10_triesOrder_29 rfl rfl ?_
        refine g_get (pc := 30) hC 0 fl_X10_38 dX10_triesOrder_30 rfl rfl ?_
        refine g_iload_n (pc := 33) hC 1 dX10_triesOrder_33 rfl rfl ?_
        refine g_iald (pc := 34) hC 7 dX10_triesOrder_34 rfl (by omega) ?_
        have q8 := r_or i
        refine g_iald (pc := 35) hC 9 dX10_triesOrder_35 rfl (by omega) ?_
        have q9 := r_rm (or i)
        refine g_iast (pc := 36) hC 1 (fun f9 => [_, cA K _ _ f9, _, _, _, _, _, _, _, _]) dX10_triesOrder_36 rfl (by omega) (fun _ => rfl) (fun f5 e_f5 => ?_)
        have r_f5 := rng_up e_f5 r_f (by omega)
        refine g_iinc (pc := 37) hC 1 [(1, _), (0, _)] dX10_triesOrder_37 rfl (by decide) rfl ?_
        refine g_goto (pc := 40) hC 6 dX10_triesOrder_40 (by decide) ?_
        refine g_lv hC [1, 0] [(0, _), (1, _)] rfl ?_
        exact ih6 (i + 1) f5 (by first | assumption | omega) (by first | assumption | omega) (by first | assumption | omega) (up_ord e_f5 hi.1 hf) (by omega)
  refine g_lv hC [1, 0] [(0, _), (1, _)] rfl ?_
  exact L6 ((s 19 - 0 : Int).toNat + 1) 0 s (by first | assumption | omega) (by first | assumption | omega) (by first | assumption | omega) (fun j => by rw [if_neg (by omega)]) (by omega)
set_option maxHeartbeats 4000000 in
set_option maxRecDepth 100000 in
theorem k_X10_ordersFrom_6L {K : gK} (m0 : Nat) (m1 : Nat) (m3 : Nat) (m10 : Nat) (m11 : Nat) (m12 : Nat) (m14 : Nat) (m16 : Nat) (m17 : Nat) (m18 : Nat) (w_thrown : Value) (w_image : Value) (w_hasImage : Value) (w_act : Value) (w_spot : Value) (w_end : Value) (w_isWrong : Value) (w_open : Value) (w_first : Value) (w_bodies : Value) (w_ran : Value) (w_kind : Value) (w_number : Value) (w_tellsV : Value) (rest : Int) (lu : Int) (s : Int → Int) (fr : Int → Int) (fb : Int → Int) (ft : Int → Int) (fu : Int → Int) (fn : Int → Int) (or : Int → Int) (bo : Int → Int) (rm : Int → Int) (W : (Int → Int) → Int) (rch : Int) (z : Int × List Nat) (P : List Nat) (r : Nat) (r_rest : rI rest) (r_lu : rI lu) (r_s : ∀ j, rI (s j)) (r_fr : ∀ j, rI (fr j)) (r_fb : ∀ j, rI (fb j)) (r_ft : rZ ft) (r_fu : ∀ j, rI (fu j)) (r_fn : ∀ j, rI (fn j)) (r_or : ∀ j, rI (or j)) (r_bo : ∀ j, rI (bo j)) (r_rm : ∀ j, rI (rm j)) (hg : md_rg s) (h0 : s 0 + 3 ≤ 20000) (hT : md_TK s W rch) (hpc : md_PC W (fun z => s (26 + z)) fu) (hrm : ∀ j, 0 ≤ j → j < 6 → rm j = s (13 + j)) (hRB : rm_R (s 19) lu bo z) (hP : P.length = 6) (hPo : ∀ q, 0 ≤ q → q < ((6 : Nat) : Int) → or q = rm_at P q ∧ 0 ≤ or q ∧ or q < s 19) (hr : (r : Int) = s 19 - 6) (hrs : 0 ≤ rest ∧ rest < 64) (hrn : bt_n rest = r) (hB : rm_B (s 19) rest P) (hr0 : r = 0) : gMet K yX10_ordersFrom cX10_ordersFrom 4 none 8 0 0 [.ref m0, .int (iI 6), .int (iI rest)] [cO m0 10 [w_thrown, .ref m1, w_image, .ref m3, w_hasImage, w_act, w_spot, w_end, w_isWrong, w_open, .ref m10, .ref m11, .ref m12, .int (iI 1), .ref m14, w_first, .ref m16, .ref m17, .ref m18, .int (iI lu), w_bodies, w_ran, w_kind, w_number, w_tellsV], cA K m1 922 s, cA K m3 19 fr, cA K m10 6 fb, cZ K m11 64 ft, cA K m12 36000 fu, cA K m14 6 fn, cA K m16 6 or, cA K m17 6 bo, cA K m18 6 rm] (fun v9 w9 => ∃ (fr2 : Int → Int), ∃ (fb2 : Int → Int), ∃ (ft2 : Int → Int), ∃ (fu2 : Int → Int), ∃ (fn2 : Int → Int), ∃ (lu2 : Int), ∃ (bo2 : Int → Int), ∃ (or2 : Int → Int), v9 = none ∧ w9 = [cO m0 10 [w_thrown, .ref m1, w_image, .ref m3, w_hasImage, w_act, w_spot, w_end, w_isWrong, w_open, .ref m10, .ref m11, .ref m12, .int (iI 1), .ref m14, w_first, .ref m16, .ref m17, .ref m18, .int (iI lu2), w_bodies, w_ran, w_kind, w_number, w_tellsV], cA K m1 922 s, cA K m3 19 fr2, cA K m10 6 fb2, cZ K m11 64 ft2, cA K m12 36000 fu2, cA K m14 6 fn2, cA K m16 6 or2, cA K m17 6 bo2, cA K m18 6 rm] ∧ (∀ j, rI (fr2 j)) ∧ (∀ j, rI (fb2 j)) ∧ rZ ft2 ∧ (∀ j, rI (fu2 j)) ∧ (∀ j, rI (fn2 j)) ∧ rI lu2 ∧ (∀ j, rI (bo2 j)) ∧ (∀ j, rI (or2 j)) ∧ (rm_R (s 19) lu2 bo2 (List.foldl (rm_st W rch s) z (rm_lv (s 19).toNat r P))) ∧ (md_PC W (fun z => s (26 + z)) fu2) ∧ (∀ q, 0 ≤ q → q < ((6 : Nat) : Int) → or2 q = or q)) := by
  refine g_enter (by decide +kernel) (Nat.le_of_ble_eq_true rfl) (fun G hC hR => ?_)
  refine g_lv hC [0, 1, 2] [(0, _), (1, _), (2, _)] rfl ?_
  have hg0 := hg.2.2.2
  have h19 := hg.2.2.1
  have h09 := bt_1 hrs (p := 0) (by omega)
  have hz : rest = 0 := h09.2.2.2.1 (by omega)
  refine g_iload_n (pc := 0) hC 2 dX10_ordersFrom_0 rfl rfl ?_
  refine g_if_ne (pc := 1) hC 8 dX10_ordersFrom_1 (by decide) (by omega) (fun c1 => by exfalso; omega) (fun c1 => ?_)
  refine g_aload_n (pc := 4) hC 0 dX10_ordersFrom_4 rfl rfl ?_
  refine g_callV (pc := 5) (qr := 0) hC [0, 1, 2, 3, 4, 5, 6, 7, 8, 9] (k_X10_triesOrder _ _ _ _ _ _ _ _ _ _ _ _ _ _ _ _ _ _ _ _ _ _ _ _ _ _ _ _ _ _ _ _ _ _ _ _ _ _ (by first | assumption | omega) (by first | assumption | omega) (by first | assumption | omega) (by first | assumption | omega) (by first | assumption | omega) (by first | assumption | omega) (by first | assumption | omega) (by first | assumption | omega) (by first | assumption | omega) (by first | assumption | omega) (by first | assumption | omega) (by first | assumption | omega) (by first | assumption | omega) (by first | assumption | omega) (by first | assumption | omega) (by first | assumption | omega) (fun j h1 h2 => by have h9 := hPo j h1 (by omega); exact ⟨h9.1, h9.2.1, by omega⟩)) cl_X10_triesOrder wm_X10_203 dX10_ordersFrom_5 rfl rfl rfl rfl rfl (by decide) (by decide) (by omega) (Nat.le_of_ble_eq_true rfl) rfl (fun v9 w9 hq9 => ?_)
  obtain ⟨fr1, fb1, ft1, fu1, fn1, lu1, bo1, rfl, rfl, r_fr1, r_fb1, r_ft1, r_fu1, r_fn1, r_lu1, r_bo1, hR2_5, hpc2_5⟩ := hq9
  refine g_ws hC [cO m0 10 [w_thrown, .ref m1, w_image, .ref m3, w_hasImage, w_act, w_spot, w_end, w_isWrong, w_open, .ref m10, .ref m11, .ref m12, .int (iI 1), .ref m14, w_first, .ref m16, .ref m17, .ref m18, .int (iI lu1), w_bodies, w_ran, w_kind, w_number, w_tellsV], cA K m1 922 s, cA K m3 19 fr1, cA K m10 6 fb1, cZ K m11 64 ft1, cA K m12 36000 fu1, cA K m14 6 fn1, cA K m16 6 or, cA K m17 6 bo1, cA K m18 6 rm] rfl ?_
  refine g_st hC [] rfl ?_
  refine g_iconst (pc := 8) hC dX10_ordersFrom_8 ?_
  refine g_istore_n (pc := 9) hC [(3, _), (0, _), (1, _), (2, _)] dX10_ordersFrom_9 rfl (by decide) rfl ?_
  have L10 : ∀ (n1 : Nat) (i : Int), (rI i) → (0 ≤ i ∧ i ≤ s 19) → s 19 - i < (n1 : Int) → G 0 0 10 [(0, .ref m0), (1, .int (iI 6)), (2, .int (iI rest)), (3, .int (iI i))] [] [cO m0 10 [w_thrown, .ref m1, w_image, .ref m3, w_hasImage, w_act, w_spot, w_end, w_isWrong, w_open, .ref m10, .ref m11, .ref m12, .int (iI 1), .ref m14, w_first, .ref m16, .ref m17, .ref m18, .int (iI lu1), w_bodies, w_ran, w_kind, w_number, w_tellsV], cA K m1 922 s, cA K m3 19 fr1, cA K m10 6 fb1, cZ K m11 64 ft1, cA K m12 36000 fu1, cA K m14 6 fn1, cA K m16 6 or, cA K m17 6 bo1, cA K m18 6 rm] := by
    intro n1
    induction n1 with
    | zero => intro i r_i hi hm10; exfalso; omega
    | succ n1 ih10 =>
      intro i r_i hi hm10
      refine g_iload_n (pc := 10) hC 3 dX10_ordersFrom_10 rfl rfl ?_
      refine g_aload_n (pc := 11) hC 0 dX10_ordersFrom_11 rfl rfl ?_
      refine g_get (pc := 12) hC 0 fl_X10_9 dX10_ordersFrom_12 rfl rfl ?_
      refine g_bipush (pc := 15) hC (19) dX10_ordersFrom_15 (by decide) ?_
      refine g_iald (pc := 17) hC 1 dX10_ordersFrom_17 rfl (by omega) ?_
      have q2 := r_s 19
      refine g_icmp_ge (pc := 18) hC 57 dX10_ordersFrom_18 (by decide) (by omega) (by omega) (fun c18 => ?_) (fun c18 => ?_)
      · exact g_vret (pc := 57) hR dX10_ordersFrom_57 rfl ⟨by omega, by omega⟩ (Nat.le_of_ble_eq_true rfl) ⟨fr1, fb1, ft1, fu1, fn1, lu1, bo1, or, rfl, rfl, (by first | assumption | omega), (by first | assumption | omega), (by first | assumption | omega), (by first | assumption | omega), (by first | assumption | omega), (by first | assumption | omega), (by first | assumption | omega), (by first | assumption | omega), (by rw [show r = 0 from hr0]; exact hR2_5), hpc2_5, (fun q h1 h2 => rfl)⟩
      · refine g_iload_n (pc := 21) hC 2 dX10_ordersFrom_21 rfl rfl ?_
        refine g_iload_n (pc := 22) hC 3 dX10_ordersFrom_22 rfl rfl ?_
        refine g_ishr (pc := 23) hC dX10_ordersFrom_23 ?_
        refine g_iconst (pc := 24) hC dX10_ordersFrom_24 ?_
        refine g_iand (pc := 25) hC dX10_ordersFrom_25 ?_
        refine g_iconst (pc := 26) hC dX10_ordersFrom_26 ?_
        have hb0 : bAnd (bShr rest i) 1 = 0 := ((bt_1 hrs (p := i) (by omega)).2.2.2.2 hz).2
        refine g_icmp_ne (pc := 27) hC 51 dX10_ordersFrom_27 (by decide) (by omega) (by omega) (fun c27 => ?_) (fun c27 => by exfalso; omega)
        refine g_iinc (pc := 51) hC 3 [(3, _), (0, _), (1, _), (2, _)] dX10_ordersFrom_51 rfl (by decide) rfl ?_
        refine g_goto (pc := 54) hC 10 dX10_ordersFrom_54 (by decide) ?_
        refine g_lv hC [1, 2, 3, 0] [(0, _), (1, _), (2, _), (3, _)] rfl ?_
        exact ih10 (i + 1) (by first | assumption | omega) (by first | assumption | omega) (by omega)
  refine g_lv hC [1, 2, 3, 0] [(0, _), (1, _), (2, _), (3, _)] rfl ?_
  exact L10 ((s 19 - 0 : Int).toNat + 1) 0 (by first | assumption | omega) (by first | assumption | omega) (by omega)
theorem k_X10_ordersFrom_6 {K : gK} (m0 : Nat) (m1 : Nat) (m3 : Nat) (m10 : Nat) (m11 : Nat) (m12 : Nat) (m14 : Nat) (m16 : Nat) (m17 : Nat) (m18 : Nat) (w_thrown : Value) (w_image : Value) (w_hasImage : Value) (w_act : Value) (w_spot : Value) (w_end : Value) (w_isWrong : Value) (w_open : Value) (w_first : Value) (w_bodies : Value) (w_ran : Value) (w_kind : Value) (w_number : Value) (w_tellsV : Value) (rest : Int) (lu : Int) (s : Int → Int) (fr : Int → Int) (fb : Int → Int) (ft : Int → Int) (fu : Int → Int) (fn : Int → Int) (or : Int → Int) (bo : Int → Int) (rm : Int → Int) (W : (Int → Int) → Int) (rch : Int) (z : Int × List Nat) (P : List Nat) (r : Nat) (r_rest : rI rest) (r_lu : rI lu) (r_s : ∀ j, rI (s j)) (r_fr : ∀ j, rI (fr j)) (r_fb : ∀ j, rI (fb j)) (r_ft : rZ ft) (r_fu : ∀ j, rI (fu j)) (r_fn : ∀ j, rI (fn j)) (r_or : ∀ j, rI (or j)) (r_bo : ∀ j, rI (bo j)) (r_rm : ∀ j, rI (rm j)) (hg : md_rg s) (h0 : s 0 + 3 ≤ 20000) (hT : md_TK s W rch) (hpc : md_PC W (fun z => s (26 + z)) fu) (hrm : ∀ j, 0 ≤ j → j < 6 → rm j = s (13 + j)) (hRB : rm_R (s 19) lu bo z) (hP : P.length = 6) (hPo : ∀ q, 0 ≤ q → q < ((6 : Nat) : Int) → or q = rm_at P q ∧ 0 ≤ or q ∧ or q < s 19) (hr : (r : Int) = s 19 - 6) (hrs : 0 ≤ rest ∧ rest < 64) (hrn : bt_n rest = r) (hB : rm_B (s 19) rest P) : gMet K yX10_ordersFrom cX10_ordersFrom 4 none 8 0 0 [.ref m0, .int (iI 6), .int (iI rest)] [cO m0 10 [w_thrown, .ref m1, w_image, .ref m3, w_hasImage, w_act, w_spot, w_end, w_isWrong, w_open, .ref m10, .ref m11, .ref m12, .int (iI 1), .ref m14, w_first, .ref m16, .ref m17, .ref m18, .int (iI lu), w_bodies, w_ran, w_kind, w_number, w_tellsV], cA K m1 922 s, cA K m3 19 fr, cA K m10 6 fb, cZ K m11 64 ft, cA K m12 36000 fu, cA K m14 6 fn, cA K m16 6 or, cA K m17 6 bo, cA K m18 6 rm] (fun v9 w9 => ∃ (fr2 : Int → Int), ∃ (fb2 : Int → Int), ∃ (ft2 : Int → Int), ∃ (fu2 : Int → Int), ∃ (fn2 : Int → Int), ∃ (lu2 : Int), ∃ (bo2 : Int → Int), ∃ (or2 : Int → Int), v9 = none ∧ w9 = [cO m0 10 [w_thrown, .ref m1, w_image, .ref m3, w_hasImage, w_act, w_spot, w_end, w_isWrong, w_open, .ref m10, .ref m11, .ref m12, .int (iI 1), .ref m14, w_first, .ref m16, .ref m17, .ref m18, .int (iI lu2), w_bodies, w_ran, w_kind, w_number, w_tellsV], cA K m1 922 s, cA K m3 19 fr2, cA K m10 6 fb2, cZ K m11 64 ft2, cA K m12 36000 fu2, cA K m14 6 fn2, cA K m16 6 or2, cA K m17 6 bo2, cA K m18 6 rm] ∧ (∀ j, rI (fr2 j)) ∧ (∀ j, rI (fb2 j)) ∧ rZ ft2 ∧ (∀ j, rI (fu2 j)) ∧ (∀ j, rI (fn2 j)) ∧ rI lu2 ∧ (∀ j, rI (bo2 j)) ∧ (∀ j, rI (or2 j)) ∧ (rm_R (s 19) lu2 bo2 (List.foldl (rm_st W rch s) z (rm_lv (s 19).toNat r P))) ∧ (md_PC W (fun z => s (26 + z)) fu2) ∧ (∀ q, 0 ≤ q → q < ((6 : Nat) : Int) → or2 q = or q)) := by
  by_cases hr0 : r = 0
  · exact k_X10_ordersFrom_6L m0 m1 m3 m10 m11 m12 m14 m16 m17 m18 w_thrown w_image w_hasImage w_act w_spot w_end w_isWrong w_open w_first w_bodies w_ran w_kind w_number w_tellsV rest lu s fr fb ft fu fn or bo rm W rch z P r r_rest r_lu r_s r_fr r_fb r_ft r_fu r_fn r_or r_bo r_rm hg h0 hT hpc hrm hRB hP hPo hr hrs hrn hB hr0
  · exfalso
    have h19 := hg.2.2.1
    omega
set_option maxHeartbeats 4000000 in
set_option maxRecDepth 100000 in
theorem k_X10_ordersFrom_5L {K : gK} (m0 : Nat) (m1 : Nat) (m3 : Nat) (m10 : Nat) (m11 : Nat) (m12 : Nat) (m14 : Nat) (m16 : Nat) (m17 : Nat) (m18 : Nat) (w_thrown : Value) (w_image : Value) (w_hasImage : Value) (w_act : Value) (w_spot : Value) (w_end : Value) (w_isWrong : Value) (w_open : Value) (w_first : Value) (w_bodies : Value) (w_ran : Value) (w_kind : Value) (w_number : Value) (w_tellsV : Value) (rest : Int) (lu : Int) (s : Int → Int) (fr : Int → Int) (fb : Int → Int) (ft : Int → Int) (fu : Int → Int) (fn : Int → Int) (or : Int → Int) (bo : Int → Int) (rm : Int → Int) (W : (Int → Int) → Int) (rch : Int) (z : Int × List Nat) (P : List Nat) (r : Nat) (r_rest : rI rest) (r_lu : rI lu) (r_s : ∀ j, rI (s j)) (r_fr : ∀ j, rI (fr j)) (r_fb : ∀ j, rI (fb j)) (r_ft : rZ ft) (r_fu : ∀ j, rI (fu j)) (r_fn : ∀ j, rI (fn j)) (r_or : ∀ j, rI (or j)) (r_bo : ∀ j, rI (bo j)) (r_rm : ∀ j, rI (rm j)) (hg : md_rg s) (h0 : s 0 + 3 ≤ 20000) (hT : md_TK s W rch) (hpc : md_PC W (fun z => s (26 + z)) fu) (hrm : ∀ j, 0 ≤ j → j < 6 → rm j = s (13 + j)) (hRB : rm_R (s 19) lu bo z) (hP : P.length = 5) (hPo : ∀ q, 0 ≤ q → q < ((5 : Nat) : Int) → or q = rm_at P q ∧ 0 ≤ or q ∧ or q < s 19) (hr : (r : Int) = s 19 - 5) (hrs : 0 ≤ rest ∧ rest < 64) (hrn : bt_n rest = r) (hB : rm_B (s 19) rest P) (hr0 : r = 0) : gMet K yX10_ordersFrom cX10_ordersFrom 4 none 9 0 0 [.ref m0, .int (iI 5), .int (iI rest)] [cO m0 10 [w_thrown, .ref m1, w_image, .ref m3, w_hasImage, w_act, w_spot, w_end, w_isWrong, w_open, .ref m10, .ref m11, .ref m12, .int (iI 1), .ref m14, w_first, .ref m16, .ref m17, .ref m18, .int (iI lu), w_bodies, w_ran, w_kind, w_number, w_tellsV], cA K m1 922 s, cA K m3 19 fr, cA K m10 6 fb, cZ K m11 64 ft, cA K m12 36000 fu, cA K m14 6 fn, cA K m16 6 or, cA K m17 6 bo, cA K m18 6 rm] (fun v9 w9 => ∃ (fr2 : Int → Int), ∃ (fb2 : Int → Int), ∃ (ft2 : Int → Int), ∃ (fu2 : Int → Int), ∃ (fn2 : Int → Int), ∃ (lu2 : Int), ∃ (bo2 : Int → Int), ∃ (or2 : Int → Int), v9 = none ∧ w9 = [cO m0 10 [w_thrown, .ref m1, w_image, .ref m3, w_hasImage, w_act, w_spot, w_end, w_isWrong, w_open, .ref m10, .ref m11, .ref m12, .int (iI 1), .ref m14, w_first, .ref m16, .ref m17, .ref m18, .int (iI lu2), w_bodies, w_ran, w_kind, w_number, w_tellsV], cA K m1 922 s, cA K m3 19 fr2, cA K m10 6 fb2, cZ K m11 64 ft2, cA K m12 36000 fu2, cA K m14 6 fn2, cA K m16 6 or2, cA K m17 6 bo2, cA K m18 6 rm] ∧ (∀ j, rI (fr2 j)) ∧ (∀ j, rI (fb2 j)) ∧ rZ ft2 ∧ (∀ j, rI (fu2 j)) ∧ (∀ j, rI (fn2 j)) ∧ rI lu2 ∧ (∀ j, rI (bo2 j)) ∧ (∀ j, rI (or2 j)) ∧ (rm_R (s 19) lu2 bo2 (List.foldl (rm_st W rch s) z (rm_lv (s 19).toNat r P))) ∧ (md_PC W (fun z => s (26 + z)) fu2) ∧ (∀ q, 0 ≤ q → q < ((5 : Nat) : Int) → or2 q = or q)) := by
  refine g_enter (by decide +kernel) (Nat.le_of_ble_eq_true rfl) (fun G hC hR => ?_)
  refine g_lv hC [0, 1, 2] [(0, _), (1, _), (2, _)] rfl ?_
  have hg0 := hg.2.2.2
  have h19 := hg.2.2.1
  have h09 := bt_1 hrs (p := 0) (by omega)
  have hz : rest = 0 := h09.2.2.2.1 (by omega)
  refine g_iload_n (pc := 0) hC 2 dX10_ordersFrom_0 rfl rfl ?_
  refine g_if_ne (pc := 1) hC 8 dX10_ordersFrom_1 (by decide) (by omega) (fun c1 => by exfalso; omega) (fun c1 => ?_)
  refine g_aload_n (pc := 4) hC 0 dX10_ordersFrom_4 rfl rfl ?_
  refine g_callV (pc := 5) (qr := 0) hC [0, 1, 2, 3, 4, 5, 6, 7, 8, 9] (k_X10_triesOrder _ _ _ _ _ _ _ _ _ _ _ _ _ _ _ _ _ _ _ _ _ _ _ _ _ _ _ _ _ _ _ _ _ _ _ _ _ _ (by first | assumption | omega) (by first | assumption | omega) (by first | assumption | omega) (by first | assumption | omega) (by first | assumption | omega) (by first | assumption | omega) (by first | assumption | omega) (by first | assumption | omega) (by first | assumption | omega) (by first | assumption | omega) (by first | assumption | omega) (by first | assumption | omega) (by first | assumption | omega) (by first | assumption | omega) (by first | assumption | omega) (by first | assumption | omega) (fun j h1 h2 => by have h9 := hPo j h1 (by omega); exact ⟨h9.1, h9.2.1, by omega⟩)) cl_X10_triesOrder wm_X10_203 dX10_ordersFrom_5 rfl rfl rfl rfl rfl (by decide) (by decide) (by omega) (Nat.le_of_ble_eq_true rfl) rfl (fun v9 w9 hq9 => ?_)
  obtain ⟨fr1, fb1, ft1, fu1, fn1, lu1, bo1, rfl, rfl, r_fr1, r_fb1, r_ft1, r_fu1, r_fn1, r_lu1, r_bo1, hR2_5, hpc2_5⟩ := hq9
  refine g_ws hC [cO m0 10 [w_thrown, .ref m1, w_image, .ref m3, w_hasImage, w_act, w_spot, w_end, w_isWrong, w_open, .ref m10, .ref m11, .ref m12, .int (iI 1), .ref m14, w_first, .ref m16, .ref m17, .ref m18, .int (iI lu1), w_bodies, w_ran, w_kind, w_number, w_tellsV], cA K m1 922 s, cA K m3 19 fr1, cA K m10 6 fb1, cZ K m11 64 ft1, cA K m12 36000 fu1, cA K m14 6 fn1, cA K m16 6 or, cA K m17 6 bo1, cA K m18 6 rm] rfl ?_
  refine g_st hC [] rfl ?_
  refine g_iconst (pc := 8) hC dX10_ordersFrom_8 ?_
  refine g_istore_n (pc := 9) hC [(3, _), (0, _), (1, _), (2, _)] dX10_ordersFrom_9 rfl (by decide) rfl ?_
  have L10 : ∀ (n1 : Nat) (i : Int), (rI i) → (0 ≤ i ∧ i ≤ s 19) → s 19 - i < (n1 : Int) → G 0 0 10 [(0, .ref m0), (1, .int (iI 5)), (2, .int (iI rest)), (3, .int (iI i))] [] [cO m0 10 [w_thrown, .ref m1, w_image, .ref m3, w_hasImage, w_act, w_spot, w_end, w_isWrong, w_open, .ref m10, .ref m11, .ref m12, .int (iI 1), .ref m14, w_first, .ref m16, .ref m17, .ref m18, .int (iI lu1), w_bodies, w_ran, w_kind, w_number, w_tellsV], cA K m1 922 s, cA K m3 19 fr1, cA K m10 6 fb1, cZ K m11 64 ft1, cA K m12 36000 fu1, cA K m14 6 fn1, cA K m16 6 or, cA K m17 6 bo1, cA K m18 6 rm] := by
    intro n1
    induction n1 with
    | zero => intro i r_i hi hm10; exfalso; omega
    | succ n1 ih10 =>
      intro i r_i hi hm10
      refine g_iload_n (pc := 10) hC 3 dX10_ordersFrom_10 rfl rfl ?_
      refine g_aload_n (pc := 11) hC 0 dX10_ordersFrom_11 rfl rfl ?_
      refine g_get (pc := 12) hC 0 fl_X10_9 dX10_ordersFrom_12 rfl rfl ?_
      refine g_bipush (pc := 15) hC (19) dX10_ordersFrom_15 (by decide) ?_
      refine g_iald (pc := 17) hC 1 dX10_ordersFrom_17 rfl (by omega) ?_
      have q2 := r_s 19
      refine g_icmp_ge (pc := 18) hC 57 dX10_ordersFrom_18 (by decide) (by omega) (by omega) (fun c18 => ?_) (fun c18 => ?_)
      · exact g_vret (pc := 57) hR dX10_ordersFrom_57 rfl ⟨by omega, by omega⟩ (Nat.le_of_ble_eq_true rfl) ⟨fr1, fb1, ft1, fu1, fn1, lu1, bo1, or, rfl, rfl, (by first | assumption | omega), (by first | assumption | omega), (by first | assumption | omega), (by first | assumption | omega), (by first | assumption | omega), (by first | assumption | omega), (by first | assumption | omega), (by first | assumption | omega), (by rw [show r = 0 from hr0]; exact hR2_5), hpc2_5, (fun q h1 h2 => rfl)⟩
      · refine g_iload_n (pc := 21) hC 2 dX10_ordersFrom_21 rfl rfl ?_
        refine g_iload_n (pc := 22) hC 3 dX10_ordersFrom_22 rfl rfl ?_
        refine g_ishr (pc := 23) hC dX10_ordersFrom_23 ?_
        refine g_iconst (pc := 24) hC dX10_ordersFrom_24 ?_
        refine g_iand (pc := 25) hC dX10_ordersFrom_25 ?_
        refine g_iconst (pc := 26) hC dX10_ordersFrom_26 ?_
        have hb0 : bAnd (bShr rest i) 1 = 0 := ((bt_1 hrs (p := i) (by omega)).2.2.2.2 hz).2
        refine g_icmp_ne (pc := 27) hC 51 dX10_ordersFrom_27 (by decide) (by omega) (by omega) (fun c27 => ?_) (fun c27 => by exfalso; omega)
        refine g_iinc (pc := 51) hC 3 [(3, _), (0, _), (1, _), (2, _)] dX10_ordersFrom_51 rfl (by decide) rfl ?_
        refine g_goto (pc := 54) hC 10 dX10_ordersFrom_54 (by decide) ?_
        refine g_lv hC [1, 2, 3, 0] [(0, _), (1, _), (2, _), (3, _)] rfl ?_
        exact ih10 (i + 1) (by first | assumption | omega) (by first | assumption | omega) (by omega)
  refine g_lv hC [1, 2, 3, 0] [(0, _), (1, _), (2, _), (3, _)] rfl ?_
  exact L10 ((s 19 - 0 : Int).toNat + 1) 0 (by first | assumption | omega) (by first | assumption | omega) (by omega)
set_option maxHeartbeats 4000000 in
set_option maxRecDepth 100000 in
theorem k_X10_ordersFrom_5I {K : gK} (m0 : Nat) (m1 : Nat) (m3 : Nat) (m10 : Nat) (m11 : Nat) (m12 : Nat) (m14 : Nat) (m16 : Nat) (m17 : Nat) (m18 : Nat) (w_thrown : Value) (w_image : Value) (w_hasImage : Value) (w_act : Value) (w_spot : Value) (w_end : Value) (w_isWrong : Value) (w_open : Value) (w_first : Value) (w_bodies : Value) (w_ran : Value) (w_kind : Value) (w_number : Value) (w_tellsV : Value) (rest : Int) (lu : Int) (s : Int → Int) (fr : Int → Int) (fb : Int → Int) (ft : Int → Int) (fu : Int → Int) (fn : Int → Int) (or : Int → Int) (bo : Int → Int) (rm : Int → Int) (W : (Int → Int) → Int) (rch : Int) (z : Int × List Nat) (P : List Nat) (r : Nat) (r_rest : rI rest) (r_lu : rI lu) (r_s : ∀ j, rI (s j)) (r_fr : ∀ j, rI (fr j)) (r_fb : ∀ j, rI (fb j)) (r_ft : rZ ft) (r_fu : ∀ j, rI (fu j)) (r_fn : ∀ j, rI (fn j)) (r_or : ∀ j, rI (or j)) (r_bo : ∀ j, rI (bo j)) (r_rm : ∀ j, rI (rm j)) (hg : md_rg s) (h0 : s 0 + 3 ≤ 20000) (hT : md_TK s W rch) (hpc : md_PC W (fun z => s (26 + z)) fu) (hrm : ∀ j, 0 ≤ j → j < 6 → rm j = s (13 + j)) (hRB : rm_R (s 19) lu bo z) (hP : P.length = 5) (hPo : ∀ q, 0 ≤ q → q < ((5 : Nat) : Int) → or q = rm_at P q ∧ 0 ≤ or q ∧ or q < s 19) (hr : (r : Int) = s 19 - 5) (hrs : 0 ≤ rest ∧ rest < 64) (hrn : bt_n rest = r) (hB : rm_B (s 19) rest P) (hr0 : ¬ r = 0) : gMet K yX10_ordersFrom cX10_ordersFrom 4 none 9 0 0 [.ref m0, .int (iI 5), .int (iI rest)] [cO m0 10 [w_thrown, .ref m1, w_image, .ref m3, w_hasImage, w_act, w_spot, w_end, w_isWrong, w_open, .ref m10, .ref m11, .ref m12, .int (iI 1), .ref m14, w_first, .ref m16, .ref m17, .ref m18, .int (iI lu), w_bodies, w_ran, w_kind, w_number, w_tellsV], cA K m1 922 s, cA K m3 19 fr, cA K m10 6 fb, cZ K m11 64 ft, cA K m12 36000 fu, cA K m14 6 fn, cA K m16 6 or, cA K m17 6 bo, cA K m18 6 rm] (fun v9 w9 => ∃ (fr2 : Int → Int), ∃ (fb2 : Int → Int), ∃ (ft2 : Int → Int), ∃ (fu2 : Int → Int), ∃ (fn2 : Int → Int), ∃ (lu2 : Int), ∃ (bo2 : Int → Int), ∃ (or2 : Int → Int), v9 = none ∧ w9 = [cO m0 10 [w_thrown, .ref m1, w_image, .ref m3, w_hasImage, w_act, w_spot, w_end, w_isWrong, w_open, .ref m10, .ref m11, .ref m12, .int (iI 1), .ref m14, w_first, .ref m16, .ref m17, .ref m18, .int (iI lu2), w_bodies, w_ran, w_kind, w_number, w_tellsV], cA K m1 922 s, cA K m3 19 fr2, cA K m10 6 fb2, cZ K m11 64 ft2, cA K m12 36000 fu2, cA K m14 6 fn2, cA K m16 6 or2, cA K m17 6 bo2, cA K m18 6 rm] ∧ (∀ j, rI (fr2 j)) ∧ (∀ j, rI (fb2 j)) ∧ rZ ft2 ∧ (∀ j, rI (fu2 j)) ∧ (∀ j, rI (fn2 j)) ∧ rI lu2 ∧ (∀ j, rI (bo2 j)) ∧ (∀ j, rI (or2 j)) ∧ (rm_R (s 19) lu2 bo2 (List.foldl (rm_st W rch s) z (rm_lv (s 19).toNat r P))) ∧ (md_PC W (fun z => s (26 + z)) fu2) ∧ (∀ q, 0 ≤ q → q < ((5 : Nat) : Int) → or2 q = or q)) := by
  refine g_enter (by decide +kernel) (Nat.le_of_ble_eq_true rfl) (fun G hC hR => ?_)
  refine g_lv hC [0, 1, 2] [(0, _), (1, _), (2, _)] rfl ?_
  have hg0 := hg.2.2.2
  have h19 := hg.2.2.1
  obtain ⟨r1, rfl⟩ : ∃ r1, r = r1 + 1 := ⟨r - 1, by omega⟩
  have hz : ¬ rest = 0 := fun h9 => by have h8 := (bt_1 hrs (p := 0) (by omega)).2.2.2.2 h9; omega
  refine g_iload_n (pc := 0) hC 2 dX10_ordersFrom_0 rfl rfl ?_
  refine g_if_ne (pc := 1) hC 8 dX10_ordersFrom_1 (by decide) (by omega) (fun c1 => ?_) (fun c1 => by exfalso; omega)
  refine g_iconst (pc := 8) hC dX10_ordersFrom_8 ?_
  refine g_istore_n (pc := 9) hC [(3, _), (0, _), (1, _), (2, _)] dX10_ordersFrom_9 rfl (by decide) rfl ?_
  have L10 : ∀ (n1 : Nat) (i : Int) (or1 : Int → Int) (lu1 : Int) (bo1 : Int → Int) (g0 : Int → Int) (f1 : Int → Int) (f2 : Int → Int) (f3 : Int → Int) (f4 : Int → Int) (j : Nat), (rI i) → (∀ j, rI (or1 j)) → (rI lu1) → (∀ j, rI (bo1 j)) → (∀ j, rI (g0 j)) → (∀ j, rI (f1 j)) → (rZ f2) → (∀ j, rI (f3 j)) → (∀ j, rI (f4 j)) → (i = (j : Int)) → (i ≤ s 19) → (rm_R (s 19) lu1 bo1 (List.foldl (rm_st W rch s) z (rm_l (fun p => if P.elem p then [] else rm_lv (s 19).toNat r1 (P ++ [p])) j))) → (∀ q, 0 ≤ q → q < ((5 : Nat) : Int) → or1 q = or q) → (md_PC W (fun z => s (26 + z)) f3) → s 19 - i < (n1 : Int) → G 0 0 10 [(0, .ref m0), (1, .int (iI 5)), (2, .int (iI rest)), (3, .int (iI i))] [] [cO m0 10 [w_thrown, .ref m1, w_image, .ref m3, w_hasImage, w_act, w_spot, w_end, w_isWrong, w_open, .ref m10, .ref m11, .ref m12, .int (iI 1), .ref m14, w_first, .ref m16, .ref m17, .ref m18, .int (iI lu1), w_bodies, w_ran, w_kind, w_number, w_tellsV], cA K m1 922 s, cA K m3 19 g0, cA K m10 6 f1, cZ K m11 64 f2, cA K m12 36000 f3, cA K m14 6 f4, cA K m16 6 or1, cA K m17 6 bo1, cA K m18 6 rm] := by
    intro n1
    induction n1 with
    | zero => intro i or1 lu1 bo1 g0 f1 f2 f3 f4 j r_i r_or1 r_lu1 r_bo1 r_g0 r_f1 r_f2 r_f3 r_f4 hi hj hR1 ho1 hpc1 hm10; exfalso; omega
    | succ n1 ih10 =>
      intro i or1 lu1 bo1 g0 f1 f2 f3 f4 j r_i r_or1 r_lu1 r_bo1 r_g0 r_f1 r_f2 r_f3 r_f4 hi hj hR1 ho1 hpc1 hm10
      refine g_iload_n (pc := 10) hC 3 dX10_ordersFrom_10 rfl rfl ?_
      refine g_aload_n (pc := 11) hC 0 dX10_ordersFrom_11 rfl rfl ?_
      refine g_get (pc := 12) hC 0 fl_X10_9 dX10_ordersFrom_12 rfl rfl ?_
      refine g_bipush (pc := 15) hC (19) dX10_ordersFrom_15 (by decide) ?_
      refine g_iald (pc := 17) hC 1 dX10_ordersFrom_17 rfl (by omega) ?_
      have q2 := r_s 19
      refine g_icmp_ge (pc := 18) hC 57 dX10_ordersFrom_18 (by decide) (by omega) (by omega) (fun c18 => ?_) (fun c18 => ?_)
      · exact g_vret (pc := 57) hR dX10_ordersFrom_57 rfl ⟨by omega, by omega⟩ (Nat.le_of_ble_eq_true rfl) ⟨g0, f1, f2, f3, f4, lu1, bo1, or1, rfl, rfl, (by first | assumption | omega), (by first | assumption | omega), (by first | assumption | omega), (by first | assumption | omega), (by first | assumption | omega), (by first | assumption | omega), (by first | assumption | omega), (by first | assumption | omega), (by rw [show j = (s 19).toNat by omega] at hR1; exact hR1), hpc1, ho1⟩
      · refine g_iload_n (pc := 21) hC 2 dX10_ordersFrom_21 rfl rfl ?_
        refine g_iload_n (pc := 22) hC 3 dX10_ordersFrom_22 rfl rfl ?_
        refine g_ishr (pc := 23) hC dX10_ordersFrom_23 ?_
        refine g_iconst (pc := 24) hC dX10_ordersFrom_24 ?_
        refine g_iand (pc := 25) hC dX10_ordersFrom_25 ?_
        refine g_iconst (pc := 26) hC dX10_ordersFrom_26 ?_
        have hb1 := bt_1 hrs (p := i) (by omega)
        refine g_icmp_ne (pc := 27) hC 51 dX10_ordersFrom_27 (by decide) (by omega) (by omega) (fun c27 => ?_) (fun c27 => ?_)
        · refine g_iinc (pc := 51) hC 3 [(3, _), (0, _), (1, _), (2, _)] dX10_ordersFrom_51 rfl (by decide) rfl ?_
          refine g_goto (pc := 54) hC 10 dX10_ordersFrom_54 (by decide) ?_
          refine g_lv hC [1, 2, 3, 0] [(0, _), (1, _), (2, _), (3, _)] rfl ?_
          exact ih10 (i + 1) or1 lu1 bo1 g0 f1 f2 f3 f4 (j + 1) (by first | assumption | omega) (by first | assumption | omega) (by first | assumption | omega) (by first | assumption | omega) (by first | assumption | omega) (by first | assumption | omega) (by first | assumption | omega) (by first | assumption | omega) (by first | assumption | omega) (by first | assumption | omega) (by first | assumption | omega) (by rw [rm_fold_0 hB hi (by omega) c27]; exact hR1) ho1 hpc1 (by omega)
        · refine g_aload_n (pc := 30) hC 0 dX10_ordersFrom_30 rfl rfl ?_
          refine g_get (pc := 31) hC 0 fl_X10_38 dX10_ordersFrom_31 rfl rfl ?_
          refine g_iload_n (pc := 34) hC 1 dX10_ordersFrom_34 rfl rfl ?_
          refine g_iload_n (pc := 35) hC 3 dX10_ordersFrom_35 rfl rfl ?_
          refine g_iast (pc := 36) hC 7 (fun f9 => [_, _, _, _, _, _, _, cA K _ _ f9, _, _]) dX10_ordersFrom_36 rfl (by omega) (fun _ => rfl) (fun or3 e_or3 => ?_)
          have r_or3 := rng_up e_or3 r_or1 (by omega)
          have hPo9 := rm_at_app (P := P) (or := or1) (o2 := or3) (k := 5) (c := s 19) hP hi (by omega) (fun q h1 h2 => by rw [ho1 q h1 h2]; exact hPo q h1 h2) e_or3
          refine g_aload_n (pc := 37) hC 0 dX10_ordersFrom_37 rfl rfl ?_
          refine g_iload_n (pc := 38) hC 1 dX10_ordersFrom_38 rfl rfl ?_
          refine g_iconst (pc := 39) hC dX10_ordersFrom_39 ?_
          refine g_iadd (pc := 40) hC dX10_ordersFrom_40 ?_
          refine g_iload_n (pc := 41) hC 2 dX10_ordersFrom_41 rfl rfl ?_
          refine g_iconst (pc := 42) hC dX10_ordersFrom_42 ?_
          refine g_iload_n (pc := 43) hC 3 dX10_ordersFrom_43 rfl rfl ?_
          refine g_ishl (pc := 44) hC dX10_ordersFrom_44 ?_
          refine g_iconst (pc := 45) hC dX10_ordersFrom_45 ?_
          refine g_ixor (pc := 46) hC dX10_ordersFrom_46 ?_
          refine g_iand (pc := 47) hC dX10_ordersFrom_47 ?_
          refine g_callV (pc := 48) (qr := 0) hC [0, 1, 2, 3, 4, 5, 6, 7, 8, 9] (k_X10_ordersFrom_6 _ _ _ _ _ _ _ _ _ _ _ _ _ _ _ _ _ _ _ _ _ _ _ _ _ _ _ _ _ _ _ _ _ _ _ _ _ (List.foldl (rm_st W rch s) z (rm_l (fun p => if P.elem p then [] else rm_lv (s 19).toNat r1 (P ++ [p])) j)) (P ++ [j]) r1 (by first | assumption | omega) (by first | assumption | omega) (by first | assumption | omega) (by first | assumption | omega) (by first | assumption | omega) (by first | assumption | omega) (by first | assumption | omega) (by first | assumption | omega) (by first | assumption | omega) (by first | assumption | omega) (by first | assumption | omega) (by first | assumption | omega) (by first | assumption | omega) (by first | assumption | omega) hpc1 (by first | assumption | omega) hR1 (by rw [List.length_append, hP]; rfl) hPo9 (by omega) hb1.2.1 (by have h9 := hb1.2.2.1 (by omega); unfold bt_out at h9; omega) (rm_B_s h19.2 hrs hi (by omega) hB)) cl_X10_ordersFrom wm_X10_206 dX10_ordersFrom_48 rfl rfl rfl rfl rfl (by decide) (by decide) (by omega) (Nat.le_of_ble_eq_true rfl) rfl (fun v9 w9 hq9 => ?_)
          obtain ⟨fr4, fb4, ft4, fu4, fn4, lu4, bo4, or4, rfl, rfl, r_fr4, r_fb4, r_ft4, r_fu4, r_fn4, r_lu4, r_bo4, r_or4, hR2_48, hpc2_48, ho2_48⟩ := hq9
          refine g_ws hC [cO m0 10 [w_thrown, .ref m1, w_image, .ref m3, w_hasImage, w_act, w_spot, w_end, w_isWrong, w_open, .ref m10, .ref m11, .ref m12, .int (iI 1), .ref m14, w_first, .ref m16, .ref m17, .ref m18, .int (iI lu4), w_bodies, w_ran, w_kind, w_number, w_tellsV], cA K m1 922 s, cA K m3 19 fr4, cA K m10 6 fb4, cZ K m11 64 ft4, cA K m12 36000 fu4, cA K m14 6 fn4, cA K m16 6 or4, cA K m17 6 bo4, cA K m18 6 rm] rfl ?_
          refine g_st hC [] rfl ?_
          refine g_iinc (pc := 51) hC 3 [(3, _), (0, _), (1, _), (2, _)] dX10_ordersFrom_51 rfl (by decide) rfl ?_
          refine g_goto (pc := 54) hC 10 dX10_ordersFrom_54 (by decide) ?_
          refine g_lv hC [1, 2, 3, 0] [(0, _), (1, _), (2, _), (3, _)] rfl ?_
          exact ih10 (i + 1) or4 lu4 bo4 fr4 fb4 ft4 fu4 fn4 (j + 1) (by first | assumption | omega) (by first | assumption | omega) (by first | assumption | omega) (by first | assumption | omega) (by first | assumption | omega) (by first | assumption | omega) (by first | assumption | omega) (by first | assumption | omega) (by first | assumption | omega) (by first | assumption | omega) (by first | assumption | omega) (by rw [rm_fold_1 hB hi (by omega) (by omega)]; exact hR2_48) (fun q h1 h2 => by rw [ho2_48 q h1 (by omega), e_or3, upI_ne (by omega)]; exact ho1 q h1 h2) hpc2_48 (by omega)
  refine g_lv hC [1, 2, 3, 0] [(0, _), (1, _), (2, _), (3, _)] rfl ?_
  exact L10 ((s 19 - 0 : Int).toNat + 1) 0 or lu bo fr fb ft fu fn 0 (by first | assumption | omega) (by first | assumption | omega) (by first | assumption | omega) (by first | assumption | omega) (by first | assumption | omega) (by first | assumption | omega) (by first | assumption | omega) (by first | assumption | omega) (by first | assumption | omega) (by first | assumption | omega) (by first | assumption | omega) hRB (fun q h1 h2 => rfl) (by first | assumption | omega) (by omega)
theorem k_X10_ordersFrom_5 {K : gK} (m0 : Nat) (m1 : Nat) (m3 : Nat) (m10 : Nat) (m11 : Nat) (m12 : Nat) (m14 : Nat) (m16 : Nat) (m17 : Nat) (m18 : Nat) (w_thrown : Value) (w_image : Value) (w_hasImage : Value) (w_act : Value) (w_spot : Value) (w_end : Value) (w_isWrong : Value) (w_open : Value) (w_first : Value) (w_bodies : Value) (w_ran : Value) (w_kind : Value) (w_number : Value) (w_tellsV : Value) (rest : Int) (lu : Int) (s : Int → Int) (fr : Int → Int) (fb : Int → Int) (ft : Int → Int) (fu : Int → Int) (fn : Int → Int) (or : Int → Int) (bo : Int → Int) (rm : Int → Int) (W : (Int → Int) → Int) (rch : Int) (z : Int × List Nat) (P : List Nat) (r : Nat) (r_rest : rI rest) (r_lu : rI lu) (r_s : ∀ j, rI (s j)) (r_fr : ∀ j, rI (fr j)) (r_fb : ∀ j, rI (fb j)) (r_ft : rZ ft) (r_fu : ∀ j, rI (fu j)) (r_fn : ∀ j, rI (fn j)) (r_or : ∀ j, rI (or j)) (r_bo : ∀ j, rI (bo j)) (r_rm : ∀ j, rI (rm j)) (hg : md_rg s) (h0 : s 0 + 3 ≤ 20000) (hT : md_TK s W rch) (hpc : md_PC W (fun z => s (26 + z)) fu) (hrm : ∀ j, 0 ≤ j → j < 6 → rm j = s (13 + j)) (hRB : rm_R (s 19) lu bo z) (hP : P.length = 5) (hPo : ∀ q, 0 ≤ q → q < ((5 : Nat) : Int) → or q = rm_at P q ∧ 0 ≤ or q ∧ or q < s 19) (hr : (r : Int) = s 19 - 5) (hrs : 0 ≤ rest ∧ rest < 64) (hrn : bt_n rest = r) (hB : rm_B (s 19) rest P) : gMet K yX10_ordersFrom cX10_ordersFrom 4 none 9 0 0 [.ref m0, .int (iI 5), .int (iI rest)] [cO m0 10 [w_thrown, .ref m1, w_image, .ref m3, w_hasImage, w_act, w_spot, w_end, w_isWrong, w_open, .ref m10, .ref m11, .ref m12, .int (iI 1), .ref m14, w_first, .ref m16, .ref m17, .ref m18, .int (iI lu), w_bodies, w_ran, w_kind, w_number, w_tellsV], cA K m1 922 s, cA K m3 19 fr, cA K m10 6 fb, cZ K m11 64 ft, cA K m12 36000 fu, cA K m14 6 fn, cA K m16 6 or, cA K m17 6 bo, cA K m18 6 rm] (fun v9 w9 => ∃ (fr2 : Int → Int), ∃ (fb2 : Int → Int), ∃ (ft2 : Int → Int), ∃ (fu2 : Int → Int), ∃ (fn2 : Int → Int), ∃ (lu2 : Int), ∃ (bo2 : Int → Int), ∃ (or2 : Int → Int), v9 = none ∧ w9 = [cO m0 10 [w_thrown, .ref m1, w_image, .ref m3, w_hasImage, w_act, w_spot, w_end, w_isWrong, w_open, .ref m10, .ref m11, .ref m12, .int (iI 1), .ref m14, w_first, .ref m16, .ref m17, .ref m18, .int (iI lu2), w_bodies, w_ran, w_kind, w_number, w_tellsV], cA K m1 922 s, cA K m3 19 fr2, cA K m10 6 fb2, cZ K m11 64 ft2, cA K m12 36000 fu2, cA K m14 6 fn2, cA K m16 6 or2, cA K m17 6 bo2, cA K m18 6 rm] ∧ (∀ j, rI (fr2 j)) ∧ (∀ j, rI (fb2 j)) ∧ rZ ft2 ∧ (∀ j, rI (fu2 j)) ∧ (∀ j, rI (fn2 j)) ∧ rI lu2 ∧ (∀ j, rI (bo2 j)) ∧ (∀ j, rI (or2 j)) ∧ (rm_R (s 19) lu2 bo2 (List.foldl (rm_st W rch s) z (rm_lv (s 19).toNat r P))) ∧ (md_PC W (fun z => s (26 + z)) fu2) ∧ (∀ q, 0 ≤ q → q < ((5 : Nat) : Int) → or2 q = or q)) := by
  by_cases hr0 : r = 0
  · exact k_X10_ordersFrom_5L m0 m1 m3 m10 m11 m12 m14 m16 m17 m18 w_thrown w_image w_hasImage w_act w_spot w_end w_isWrong w_open w_first w_bodies w_ran w_kind w_number w_tellsV rest lu s fr fb ft fu fn or bo rm W rch z P r r_rest r_lu r_s r_fr r_fb r_ft r_fu r_fn r_or r_bo r_rm hg h0 hT hpc hrm hRB hP hPo hr hrs hrn hB hr0
  · exact k_X10_ordersFrom_5I m0 m1 m3 m10 m11 m12 m14 m16 m17 m18 w_thrown w_image w_hasImage w_act w_spot w_end w_isWrong w_open w_first w_bodies w_ran w_kind w_number w_tellsV rest lu s fr fb ft fu fn or bo rm W rch z P r r_rest r_lu r_s r_fr r_fb r_ft r_fu r_fn r_or r_bo r_rm hg h0 hT hpc hrm hRB hP hPo hr hrs hrn hB hr0
set_option maxHeartbeats 4000000 in
set_option maxRecDepth 100000 in
theorem k_X10_ordersFrom_4L {K : gK} (m0 : Nat) (m1 : Nat) (m3 : Nat) (m10 : Nat) (m11 : Nat) (m12 : Nat) (m14 : Nat) (m16 : Nat) (m17 : Nat) (m18 : Nat) (w_thrown : Value) (w_image : Value) (w_hasImage : Value) (w_act : Value) (w_spot : Value) (w_end : Value) (w_isWrong : Value) (w_open : Value) (w_first : Value) (w_bodies : Value) (w_ran : Value) (w_kind : Value) (w_number : Value) (w_tellsV : Value) (rest : Int) (lu : Int) (s : Int → Int) (fr : Int → Int) (fb : Int → Int) (ft : Int → Int) (fu : Int → Int) (fn : Int → Int) (or : Int → Int) (bo : Int → Int) (rm : Int → Int) (W : (Int → Int) → Int) (rch : Int) (z : Int × List Nat) (P : List Nat) (r : Nat) (r_rest : rI rest) (r_lu : rI lu) (r_s : ∀ j, rI (s j)) (r_fr : ∀ j, rI (fr j)) (r_fb : ∀ j, rI (fb j)) (r_ft : rZ ft) (r_fu : ∀ j, rI (fu j)) (r_fn : ∀ j, rI (fn j)) (r_or : ∀ j, rI (or j)) (r_bo : ∀ j, rI (bo j)) (r_rm : ∀ j, rI (rm j)) (hg : md_rg s) (h0 : s 0 + 3 ≤ 20000) (hT : md_TK s W rch) (hpc : md_PC W (fun z => s (26 + z)) fu) (hrm : ∀ j, 0 ≤ j → j < 6 → rm j = s (13 + j)) (hRB : rm_R (s 19) lu bo z) (hP : P.length = 4) (hPo : ∀ q, 0 ≤ q → q < ((4 : Nat) : Int) → or q = rm_at P q ∧ 0 ≤ or q ∧ or q < s 19) (hr : (r : Int) = s 19 - 4) (hrs : 0 ≤ rest ∧ rest < 64) (hrn : bt_n rest = r) (hB : rm_B (s 19) rest P) (hr0 : r = 0) : gMet K yX10_ordersFrom cX10_ordersFrom 4 none 10 0 0 [.ref m0, .int (iI 4), .int (iI rest)] [cO m0 10 [w_thrown, .ref m1, w_image, .ref m3, w_hasImage, w_act, w_spot, w_end, w_isWrong, w_open, .ref m10, .ref m11, .ref m12, .int (iI 1), .ref m14, w_first, .ref m16, .ref m17, .ref m18, .int (iI lu), w_bodies, w_ran, w_kind, w_number, w_tellsV], cA K m1 922 s, cA K m3 19 fr, cA K m10 6 fb, cZ K m11 64 ft, cA K m12 36000 fu, cA K m14 6 fn, cA K m16 6 or, cA K m17 6 bo, cA K m18 6 rm] (fun v9 w9 => ∃ (fr2 : Int → Int), ∃ (fb2 : Int → Int), ∃ (ft2 : Int → Int), ∃ (fu2 : Int → Int), ∃ (fn2 : Int → Int), ∃ (lu2 : Int), ∃ (bo2 : Int → Int), ∃ (or2 : Int → Int), v9 = none ∧ w9 = [cO m0 10 [w_thrown, .ref m1, w_image, .ref m3, w_hasImage, w_act, w_spot, w_end, w_isWrong, w_open, .ref m10, .ref m11, .ref m12, .int (iI 1), .ref m14, w_first, .ref m16, .ref m17, .ref m18, .int (iI lu2), w_bodies, w_ran, w_kind, w_number, w_tellsV], cA K m1 922 s, cA K m3 19 fr2, cA K m10 6 fb2, cZ K m11 64 ft2, cA K m12 36000 fu2, cA K m14 6 fn2, cA K m16 6 or2, cA K m17 6 bo2, cA K m18 6 rm] ∧ (∀ j, rI (fr2 j)) ∧ (∀ j, rI (fb2 j)) ∧ rZ ft2 ∧ (∀ j, rI (fu2 j)) ∧ (∀ j, rI (fn2 j)) ∧ rI lu2 ∧ (∀ j, rI (bo2 j)) ∧ (∀ j, rI (or2 j)) ∧ (rm_R (s 19) lu2 bo2 (List.foldl (rm_st W rch s) z (rm_lv (s 19).toNat r P))) ∧ (md_PC W (fun z => s (26 + z)) fu2) ∧ (∀ q, 0 ≤ q → q < ((4 : Nat) : Int) → or2 q = or q)) := by
  refine g_enter (by decide +kernel) (Nat.le_of_ble_eq_true rfl) (fun G hC hR => ?_)
  refine g_lv hC [0, 1, 2] [(0, _), (1, _), (2, _)] rfl ?_
  have hg0 := hg.2.2.2
  have h19 := hg.2.2.1
  have h09 := bt_1 hrs (p := 0) (by omega)
  have hz : rest = 0 := h09.2.2.2.1 (by omega)
  refine g_iload_n (pc := 0) hC 2 dX10_ordersFrom_0 rfl rfl ?_
  refine g_if_ne (pc := 1) hC 8 dX10_ordersFrom_1 (by decide) (by omega) (fun c1 => by exfalso; omega) (fun c1 => ?_)
  refine g_aload_n (pc := 4) hC 0 dX10_ordersFrom_4 rfl rfl ?_
  refine g_callV (pc := 5) (qr := 0) hC [0, 1, 2, 3, 4, 5, 6, 7, 8, 9] (k_X10_triesOrder _ _ _ _ _ _ _ _ _ _ _ _ _ _ _ _ _ _ _ _ _ _ _ _ _ _ _ _ _ _ _ _ _ _ _ _ _ _ (by first | assumption | omega) (by first | assumption | omega) (by first | assumption | omega) (by first | assumption | omega) (by first | assumption | omega) (by first | assumption | omega) (by first | assumption | omega) (by first | assumption | omega) (by first | assumption | omega) (by first | assumption | omega) (by first | assumption | omega) (by first | assumption | omega) (by first | assumption | omega) (by first | assumption | omega) (by first | assumption | omega) (by first | assumption | omega) (fun j h1 h2 => by have h9 := hPo j h1 (by omega); exact ⟨h9.1, h9.2.1, by omega⟩)) cl_X10_triesOrder wm_X10_203 dX10_ordersFrom_5 rfl rfl rfl rfl rfl (by decide) (by decide) (by omega) (Nat.le_of_ble_eq_true rfl) rfl (fun v9 w9 hq9 => ?_)
  obtain ⟨fr1, fb1, ft1, fu1, fn1, lu1, bo1, rfl, rfl, r_fr1, r_fb1, r_ft1, r_fu1, r_fn1, r_lu1, r_bo1, hR2_5, hpc2_5⟩ := hq9
  refine g_ws hC [cO m0 10 [w_thrown, .ref m1, w_image, .ref m3, w_hasImage, w_act, w_spot, w_end, w_isWrong, w_open, .ref m10, .ref m11, .ref m12, .int (iI 1), .ref m14, w_first, .ref m16, .ref m17, .ref m18, .int (iI lu1), w_bodies, w_ran, w_kind, w_number, w_tellsV], cA K m1 922 s, cA K m3 19 fr1, cA K m10 6 fb1, cZ K m11 64 ft1, cA K m12 36000 fu1, cA K m14 6 fn1, cA K m16 6 or, cA K m17 6 bo1, cA K m18 6 rm] rfl ?_
  refine g_st hC [] rfl ?_
  refine g_iconst (pc := 8) hC dX10_ordersFrom_8 ?_
  refine g_istore_n (pc := 9) hC [(3, _), (0, _), (1, _), (2, _)] dX10_ordersFrom_9 rfl (by decide) rfl ?_
  have L10 : ∀ (n1 : Nat) (i : Int), (rI i) → (0 ≤ i ∧ i ≤ s 19) → s 19 - i < (n1 : Int) → G 0 0 10 [(0, .ref m0), (1, .int (iI 4)), (2, .int (iI rest)), (3, .int (iI i))] [] [cO m0 10 [w_thrown, .ref m1, w_image, .ref m3, w_hasImage, w_act, w_spot, w_end, w_isWrong, w_open, .ref m10, .ref m11, .ref m12, .int (iI 1), .ref m14, w_first, .ref m16, .ref m17, .ref m18, .int (iI lu1), w_bodies, w_ran, w_kind, w_number, w_tellsV], cA K m1 922 s, cA K m3 19 fr1, cA K m10 6 fb1, cZ K m11 64 ft1, cA K m12 36000 fu1, cA K m14 6 fn1, cA K m16 6 or, cA K m17 6 bo1, cA K m18 6 rm] := by
    intro n1
    induction n1 with
    | zero => intro i r_i hi hm10; exfalso; omega
    | succ n1 ih10 =>
      intro i r_i hi hm10
      refine g_iload_n (pc := 10) hC 3 dX10_ordersFrom_10 rfl rfl ?_
      refine g_aload_n (pc := 11) hC 0 dX10_ordersFrom_11 rfl rfl ?_
      refine g_get (pc := 12) hC 0 fl_X10_9 dX10_ordersFrom_12 rfl rfl ?_
      refine g_bipush (pc := 15) hC (19) dX10_ordersFrom_15 (by decide) ?_
      refine g_iald (pc := 17) hC 1 dX10_ordersFrom_17 rfl (by omega) ?_
      have q2 := r_s 19
      refine g_icmp_ge (pc := 18) hC 57 dX10_ordersFrom_18 (by decide) (by omega) (by omega) (fun c18 => ?_) (fun c18 => ?_)
      · exact g_vret (pc := 57) hR dX10_ordersFrom_57 rfl ⟨by omega, by omega⟩ (Nat.le_of_ble_eq_true rfl) ⟨fr1, fb1, ft1, fu1, fn1, lu1, bo1, or, rfl, rfl, (by first | assumption | omega), (by first | assumption | omega), (by first | assumption | omega), (by first | assumption | omega), (by first | assumption | omega), (by first | assumption | omega), (by first | assumption | omega), (by first | assumption | omega), (by rw [show r = 0 from hr0]; exact hR2_5), hpc2_5, (fun q h1 h2 => rfl)⟩
      · refine g_iload_n (pc := 21) hC 2 dX10_ordersFrom_21 rfl rfl ?_
        refine g_iload_n (pc := 22) hC 3 dX10_ordersFrom_22 rfl rfl ?_
        refine g_ishr (pc := 23) hC dX10_ordersFrom_23 ?_
        refine g_iconst (pc := 24) hC dX10_ordersFrom_24 ?_
        refine g_iand (pc := 25) hC dX10_ordersFrom_25 ?_
        refine g_iconst (pc := 26) hC dX10_ordersFrom_26 ?_
        have hb0 : bAnd (bShr rest i) 1 = 0 := ((bt_1 hrs (p := i) (by omega)).2.2.2.2 hz).2
        refine g_icmp_ne (pc := 27) hC 51 dX10_ordersFrom_27 (by decide) (by omega) (by omega) (fun c27 => ?_) (fun c27 => by exfalso; omega)
        refine g_iinc (pc := 51) hC 3 [(3, _), (0, _), (1, _), (2, _)] dX10_ordersFrom_51 rfl (by decide) rfl ?_
        refine g_goto (pc := 54) hC 10 dX10_ordersFrom_54 (by decide) ?_
        refine g_lv hC [1, 2, 3, 0] [(0, _), (1, _), (2, _), (3, _)] rfl ?_
        exact ih10 (i + 1) (by first | assumption | omega) (by first | assumption | omega) (by omega)
  refine g_lv hC [1, 2, 3, 0] [(0, _), (1, _), (2, _), (3, _)] rfl ?_
  exact L10 ((s 19 - 0 : Int).toNat + 1) 0 (by first | assumption | omega) (by first | assumption | omega) (by omega)
set_option maxHeartbeats 4000000 in
set_option maxRecDepth 100000 in
theorem k_X10_ordersFrom_4I {K : gK} (m0 : Nat) (m1 : Nat) (m3 : Nat) (m10 : Nat) (m11 : Nat) (m12 : Nat) (m14 : Nat) (m16 : Nat) (m17 : Nat) (m18 : Nat) (w_thrown : Value) (w_image : Value) (w_hasImage : Value) (w_act : Value) (w_spot : Value) (w_end : Value) (w_isWrong : Value) (w_open : Value) (w_first : Value) (w_bodies : Value) (w_ran : Value) (w_kind : Value) (w_number : Value) (w_tellsV : Value) (rest : Int) (lu : Int) (s : Int → Int) (fr : Int → Int) (fb : Int → Int) (ft : Int → Int) (fu : Int → Int) (fn : Int → Int) (or : Int → Int) (bo : Int → Int) (rm : Int → Int) (W : (Int → Int) → Int) (rch : Int) (z : Int × List Nat) (P : List Nat) (r : Nat) (r_rest : rI rest) (r_lu : rI lu) (r_s : ∀ j, rI (s j)) (r_fr : ∀ j, rI (fr j)) (r_fb : ∀ j, rI (fb j)) (r_ft : rZ ft) (r_fu : ∀ j, rI (fu j)) (r_fn : ∀ j, rI (fn j)) (r_or : ∀ j, rI (or j)) (r_bo : ∀ j, rI (bo j)) (r_rm : ∀ j, rI (rm j)) (hg : md_rg s) (h0 : s 0 + 3 ≤ 20000) (hT : md_TK s W rch) (hpc : md_PC W (fun z => s (26 + z)) fu) (hrm : ∀ j, 0 ≤ j → j < 6 → rm j = s (13 + j)) (hRB : rm_R (s 19) lu bo z) (hP : P.length = 4) (hPo : ∀ q, 0 ≤ q → q < ((4 : Nat) : Int) → or q = rm_at P q ∧ 0 ≤ or q ∧ or q < s 19) (hr : (r : Int) = s 19 - 4) (hrs : 0 ≤ rest ∧ rest < 64) (hrn : bt_n rest = r) (hB : rm_B (s 19) rest P) (hr0 : ¬ r = 0) : gMet K yX10_ordersFrom cX10_ordersFrom 4 none 10 0 0 [.ref m0, .int (iI 4), .int (iI rest)] [cO m0 10 [w_thrown, .ref m1, w_image, .ref m3, w_hasImage, w_act, w_spot, w_end, w_isWrong, w_open, .ref m10, .ref m11, .ref m12, .int (iI 1), .ref m14, w_first, .ref m16, .ref m17, .ref m18, .int (iI lu), w_bodies, w_ran, w_kind, w_number, w_tellsV], cA K m1 922 s, cA K m3 19 fr, cA K m10 6 fb, cZ K m11 64 ft, cA K m12 36000 fu, cA K m14 6 fn, cA K m16 6 or, cA K m17 6 bo, cA K m18 6 rm] (fun v9 w9 => ∃ (fr2 : Int → Int), ∃ (fb2 : Int → Int), ∃ (ft2 : Int → Int), ∃ (fu2 : Int → Int), ∃ (fn2 : Int → Int), ∃ (lu2 : Int), ∃ (bo2 : Int → Int), ∃ (or2 : Int → Int), v9 = none ∧ w9 = [cO m0 10 [w_thrown, .ref m1, w_image, .ref m3, w_hasImage, w_act, w_spot, w_end, w_isWrong, w_open, .ref m10, .ref m11, .ref m12, .int (iI 1), .ref m14, w_first, .ref m16, .ref m17, .ref m18, .int (iI lu2), w_bodies, w_ran, w_kind, w_number, w_tellsV], cA K m1 922 s, cA K m3 19 fr2, cA K m10 6 fb2, cZ K m11 64 ft2, cA K m12 36000 fu2, cA K m14 6 fn2, cA K m16 6 or2, cA K m17 6 bo2, cA K m18 6 rm] ∧ (∀ j, rI (fr2 j)) ∧ (∀ j, rI (fb2 j)) ∧ rZ ft2 ∧ (∀ j, rI (fu2 j)) ∧ (∀ j, rI (fn2 j)) ∧ rI lu2 ∧ (∀ j, rI (bo2 j)) ∧ (∀ j, rI (or2 j)) ∧ (rm_R (s 19) lu2 bo2 (List.foldl (rm_st W rch s) z (rm_lv (s 19).toNat r P))) ∧ (md_PC W (fun z => s (26 + z)) fu2) ∧ (∀ q, 0 ≤ q → q < ((4 : Nat) : Int) → or2 q = or q)) := by
  refine g_enter (by decide +kernel) (Nat.le_of_ble_eq_true rfl) (fun G hC hR => ?_)
  refine g_lv hC [0, 1, 2] [(0, _), (1, _), (2, _)] rfl ?_
  have hg0 := hg.2.2.2
  have h19 := hg.2.2.1
  obtain ⟨r1, rfl⟩ : ∃ r1, r = r1 + 1 := ⟨r - 1, by omega⟩
  have hz : ¬ rest = 0 := fun h9 => by have h8 := (bt_1 hrs (p := 0) (by omega)).2.2.2.2 h9; omega
  refine g_iload_n (pc := 0) hC 2 dX10_ordersFrom_0 rfl rfl ?_
  refine g_if_ne (pc := 1) hC 8 dX10_ordersFrom_1 (by decide) (by omega) (fun c1 => ?_) (fun c1 => by exfalso; omega)
  refine g_iconst (pc := 8) hC dX10_ordersFrom_8 ?_
  refine g_istore_n (pc := 9) hC [(3, _), (0, _), (1, _), (2, _)] dX10_ordersFrom_9 rfl (by decide) rfl ?_
  have L10 : ∀ (n1 : Nat) (i : Int) (or1 : Int → Int) (lu1 : Int) (bo1 : Int → Int) (g0 : Int → Int) (f1 : Int → Int) (f2 : Int → Int) (f3 : Int → Int) (f4 : Int → Int) (j : Nat), (rI i) → (∀ j, rI (or1 j)) → (rI lu1) → (∀ j, rI (bo1 j)) → (∀ j, rI (g0 j)) → (∀ j, rI (f1 j)) → (rZ f2) → (∀ j, rI (f3 j)) → (∀ j, rI (f4 j)) → (i = (j : Int)) → (i ≤ s 19) → (rm_R (s 19) lu1 bo1 (List.foldl (rm_st W rch s) z (rm_l (fun p => if P.elem p then [] else rm_lv (s 19).toNat r1 (P ++ [p])) j))) → (∀ q, 0 ≤ q → q < ((4 : Nat) : Int) → or1 q = or q) → (md_PC W (fun z => s (26 + z)) f3) → s 19 - i < (n1 : Int) → G 0 0 10 [(0, .ref m0), (1, .int (iI 4)), (2, .int (iI rest)), (3, .int (iI i))] [] [cO m0 10 [w_thrown, .ref m1, w_image, .ref m3, w_hasImage, w_act, w_spot, w_end, w_isWrong, w_open, .ref m10, .ref m11, .ref m12, .int (iI 1), .ref m14, w_first, .ref m16, .ref m17, .ref m18, .int (iI lu1), w_bodies, w_ran, w_kind, w_number, w_tellsV], cA K m1 922 s, cA K m3 19 g0, cA K m10 6 f1, cZ K m11 64 f2, cA K m12 36000 f3, cA K m14 6 f4, cA K m16 6 or1, cA K m17 6 bo1, cA K m18 6 rm] := by
    intro n1
    induction n1 with
    | zero => intro i or1 lu1 bo1 g0 f1 f2 f3 f4 j r_i r_or1 r_lu1 r_bo1 r_g0 r_f1 r_f2 r_f3 r_f4 hi hj hR1 ho1 hpc1 hm10; exfalso; omega
    | succ n1 ih10 =>
      intro i or1 lu1 bo1 g0 f1 f2 f3 f4 j r_i r_or1 r_lu1 r_bo1 r_g0 r_f1 r_f2 r_f3 r_f4 hi hj hR1 ho1 hpc1 hm10
      refine g_iload_n (pc := 10) hC 3 dX10_ordersFrom_10 rfl rfl ?_
      refine g_aload_n (pc := 11) hC 0 dX10_ordersFrom_11 rfl rfl ?_
      refine g_get (pc := 12) hC 0 fl_X10_9 dX10_ordersFrom_12 rfl rfl ?_
      refine g_bipush (pc := 15) hC (19) dX10_ordersFrom_15 (by decide) ?_
      refine g_iald (pc := 17) hC 1 dX10_ordersFrom_17 rfl (by omega) ?_
      have q2 := r_s 19
      refine g_icmp_ge (pc := 18) hC 57 dX10_ordersFrom_18 (by decide) (by omega) (by omega) (fun c18 => ?_) (fun c18 => ?_)
      · exact g_vret (pc := 57) hR dX10_ordersFrom_57 rfl ⟨by omega, by omega⟩ (Nat.le_of_ble_eq_true rfl) ⟨g0, f1, f2, f3, f4, lu1, bo1, or1, rfl, rfl, (by first | assumption | omega), (by first | assumption | omega), (by first | assumption | omega), (by first | assumption | omega), (by first | assumption | omega), (by first | assumption | omega), (by first | assumption | omega), (by first | assumption | omega), (by rw [show j = (s 19).toNat by omega] at hR1; exact hR1), hpc1, ho1⟩
      · refine g_iload_n (pc := 21) hC 2 dX10_ordersFrom_21 rfl rfl ?_
        refine g_iload_n (pc := 22) hC 3 dX10_ordersFrom_22 rfl rfl ?_
        refine g_ishr (pc := 23) hC dX10_ordersFrom_23 ?_
        refine g_iconst (pc := 24) hC dX10_ordersFrom_24 ?_
        refine g_iand (pc := 25) hC dX10_ordersFrom_25 ?_
        refine g_iconst (pc := 26) hC dX10_ordersFrom_26 ?_
        have hb1 := bt_1 hrs (p := i) (by omega)
        refine g_icmp_ne (pc := 27) hC 51 dX10_ordersFrom_27 (by decide) (by omega) (by omega) (fun c27 => ?_) (fun c27 => ?_)
        · refine g_iinc (pc := 51) hC 3 [(3, _), (0, _), (1, _), (2, _)] dX10_ordersFrom_51 rfl (by decide) rfl ?_
          refine g_goto (pc := 54) hC 10 dX10_ordersFrom_54 (by decide) ?_
          refine g_lv hC [1, 2, 3, 0] [(0, _), (1, _), (2, _), (3, _)] rfl ?_
          exact ih10 (i + 1) or1 lu1 bo1 g0 f1 f2 f3 f4 (j + 1) (by first | assumption | omega) (by first | assumption | omega) (by first | assumption | omega) (by first | assumption | omega) (by first | assumption | omega) (by first | assumption | omega) (by first | assumption | omega) (by first | assumption | omega) (by first | assumption | omega) (by first | assumption | omega) (by first | assumption | omega) (by rw [rm_fold_0 hB hi (by omega) c27]; exact hR1) ho1 hpc1 (by omega)
        · refine g_aload_n (pc := 30) hC 0 dX10_ordersFrom_30 rfl rfl ?_
          refine g_get (pc := 31) hC 0 fl_X10_38 dX10_ordersFrom_31 rfl rfl ?_
          refine g_iload_n (pc := 34) hC 1 dX10_ordersFrom_34 rfl rfl ?_
          refine g_iload_n (pc := 35) hC 3 dX10_ordersFrom_35 rfl rfl ?_
          refine g_iast (pc := 36) hC 7 (fun f9 => [_, _, _, _, _, _, _, cA K _ _ f9, _, _]) dX10_ordersFrom_36 rfl (by omega) (fun _ => rfl) (fun or3 e_or3 => ?_)
          have r_or3 := rng_up e_or3 r_or1 (by omega)
          have hPo9 := rm_at_app (P := P) (or := or1) (o2 := or3) (k := 4) (c := s 19) hP hi (by omega) (fun q h1 h2 => by rw [ho1 q h1 h2]; exact hPo q h1 h2) e_or3
          refine g_aload_n (pc := 37) hC 0 dX10_ordersFrom_37 rfl rfl ?_
          refine g_iload_n (pc := 38) hC 1 dX10_ordersFrom_38 rfl rfl ?_
          refine g_iconst (pc := 39) hC dX10_ordersFrom_39 ?_
          refine g_iadd (pc := 40) hC dX10_ordersFrom_40 ?_
          refine g_iload_n (pc := 41) hC 2 dX10_ordersFrom_41 rfl rfl ?_
          refine g_iconst (pc := 42) hC dX10_ordersFrom_42 ?_
          refine g_iload_n (pc := 43) hC 3 dX10_ordersFrom_43 rfl rfl ?_
          refine g_ishl (pc := 44) hC dX10_ordersFrom_44 ?_
          refine g_iconst (pc := 45) hC dX10_ordersFrom_45 ?_
          refine g_ixor (pc := 46) hC dX10_ordersFrom_46 ?_
          refine g_iand (pc := 47) hC dX10_ordersFrom_47 ?_
          refine g_callV (pc := 48) (qr := 0) hC [0, 1, 2, 3, 4, 5, 6, 7, 8, 9] (k_X10_ordersFrom_5 _ _ _ _ _ _ _ _ _ _ _ _ _ _ _ _ _ _ _ _ _ _ _ _ _ _ _ _ _ _ _ _ _ _ _ _ _ (List.foldl (rm_st W rch s) z (rm_l (fun p => if P.elem p then [] else rm_lv (s 19).toNat r1 (P ++ [p])) j)) (P ++ [j]) r1 (by first | assumption | omega) (by first | assumption | omega) (by first | assumption | omega) (by first | assumption | omega) (by first | assumption | omega) (by first | assumption | omega) (by first | assumption | omega) (by first | assumption | omega) (by first | assumption | omega) (by first | assumption | omega) (by first | assumption | omega) (by first | assumption | omega) (by first | assumption | omega) (by first | assumption | omega) hpc1 (by first | assumption | omega) hR1 (by rw [List.length_append, hP]; rfl) hPo9 (by omega) hb1.2.1 (by have h9 := hb1.2.2.1 (by omega); unfold bt_out at h9; omega) (rm_B_s h19.2 hrs hi (by omega) hB)) cl_X10_ordersFrom wm_X10_206 dX10_ordersFrom_48 rfl rfl rfl rfl rfl (by decide) (by decide) (by omega) (Nat.le_of_ble_eq_true rfl) rfl (fun v9 w9 hq9 => ?_)
          obtain ⟨fr4, fb4, ft4, fu4, fn4, lu4, bo4, or4, rfl, rfl, r_fr4, r_fb4, r_ft4, r_fu4, r_fn4, r_lu4, r_bo4, r_or4, hR2_48, hpc2_48, ho2_48⟩ := hq9
          refine g_ws hC [cO m0 10 [w_thrown, .ref m1, w_image, .ref m3, w_hasImage, w_act, w_spot, w_end, w_isWrong, w_open, .ref m10, .ref m11, .ref m12, .int (iI 1), .ref m14, w_first, .ref m16, .ref m17, .ref m18, .int (iI lu4), w_bodies, w_ran, w_kind, w_number, w_tellsV], cA K m1 922 s, cA K m3 19 fr4, cA K m10 6 fb4, cZ K m11 64 ft4, cA K m12 36000 fu4, cA K m14 6 fn4, cA K m16 6 or4, cA K m17 6 bo4, cA K m18 6 rm] rfl ?_
          refine g_st hC [] rfl ?_
          refine g_iinc (pc := 51) hC 3 [(3, _), (0, _), (1, _), (2, _)] dX10_ordersFrom_51 rfl (by decide) rfl ?_
          refine g_goto (pc := 54) hC 10 dX10_ordersFrom_54 (by decide) ?_
          refine g_lv hC [1, 2, 3, 0] [(0, _), (1, _), (2, _), (3, _)] rfl ?_
          exact ih10 (i + 1) or4 lu4 bo4 fr4 fb4 ft4 fu4 fn4 (j + 1) (by first | assumption | omega) (by first | assumption | omega) (by first | assumption | omega) (by first | assumption | omega) (by first | assumption | omega) (by first | assumption | omega) (by first | assumption | omega) (by first | assumption | omega) (by first | assumption | omega) (by first | assumption | omega) (by first | assumption | omega) (by rw [rm_fold_1 hB hi (by omega) (by omega)]; exact hR2_48) (fun q h1 h2 => by rw [ho2_48 q h1 (by omega), e_or3, upI_ne (by omega)]; exact ho1 q h1 h2) hpc2_48 (by omega)
  refine g_lv hC [1, 2, 3, 0] [(0, _), (1, _), (2, _), (3, _)] rfl ?_
  exact L10 ((s 19 - 0 : Int).toNat + 1) 0 or lu bo fr fb ft fu fn 0 (by first | assumption | omega) (by first | assumption | omega) (by first | assumption | omega) (by first | assumption | omega) (by first | assumption | omega) (by first | assumption | omega) (by first | assumption | omega) (by first | assumption | omega) (by first | assumption | omega) (by first | assumption | omega) (by first | assumption | omega) hRB (fun q h1 h2 => rfl) (by first | assumption | omega) (by omega)
theorem k_X10_ordersFrom_4 {K : gK} (m0 : Nat) (m1 : Nat) (m3 : Nat) (m10 : Nat) (m11 : Nat) (m12 : Nat) (m14 : Nat) (m16 : Nat) (m17 : Nat) (m18 : Nat) (w_thrown : Value) (w_image : Value) (w_hasImage : Value) (w_act : Value) (w_spot : Value) (w_end : Value) (w_isWrong : Value) (w_open : Value) (w_first : Value) (w_bodies : Value) (w_ran : Value) (w_kind : Value) (w_number : Value) (w_tellsV : Value) (rest : Int) (lu : Int) (s : Int → Int) (fr : Int → Int) (fb : Int → Int) (ft : Int → Int) (fu : Int → Int) (fn : Int → Int) (or : Int → Int) (bo : Int → Int) (rm : Int → Int) (W : (Int → Int) → Int) (rch : Int) (z : Int × List Nat) (P : List Nat) (r : Nat) (r_rest : rI rest) (r_lu : rI lu) (r_s : ∀ j, rI (s j)) (r_fr : ∀ j, rI (fr j)) (r_fb : ∀ j, rI (fb j)) (r_ft : rZ ft) (r_fu : ∀ j, rI (fu j)) (r_fn : ∀ j, rI (fn j)) (r_or : ∀ j, rI (or j)) (r_bo : ∀ j, rI (bo j)) (r_rm : ∀ j, rI (rm j)) (hg : md_rg s) (h0 : s 0 + 3 ≤ 20000) (hT : md_TK s W rch) (hpc : md_PC W (fun z => s (26 + z)) fu) (hrm : ∀ j, 0 ≤ j → j < 6 → rm j = s (13 + j)) (hRB : rm_R (s 19) lu bo z) (hP : P.length = 4) (hPo : ∀ q, 0 ≤ q → q < ((4 : Nat) : Int) → or q = rm_at P q ∧ 0 ≤ or q ∧ or q < s 19) (hr : (r : Int) = s 19 - 4) (hrs : 0 ≤ rest ∧ rest < 64) (hrn : bt_n rest = r) (hB : rm_B (s 19) rest P) : gMet K yX10_ordersFrom cX10_ordersFrom 4 none 10 0 0 [.ref m0, .int (iI 4), .int (iI rest)] [cO m0 10 [w_thrown, .ref m1, w_image, .ref m3, w_hasImage, w_act, w_spot, w_end, w_isWrong, w_open, .ref m10, .ref m11, .ref m12, .int (iI 1), .ref m14, w_first, .ref m16, .ref m17, .ref m18, .int (iI lu), w_bodies, w_ran, w_kind, w_number, w_tellsV], cA K m1 922 s, cA K m3 19 fr, cA K m10 6 fb, cZ K m11 64 ft, cA K m12 36000 fu, cA K m14 6 fn, cA K m16 6 or, cA K m17 6 bo, cA K m18 6 rm] (fun v9 w9 => ∃ (fr2 : Int → Int), ∃ (fb2 : Int → Int), ∃ (ft2 : Int → Int), ∃ (fu2 : Int → Int), ∃ (fn2 : Int → Int), ∃ (lu2 : Int), ∃ (bo2 : Int → Int), ∃ (or2 : Int → Int), v9 = none ∧ w9 = [cO m0 10 [w_thrown, .ref m1, w_image, .ref m3, w_hasImage, w_act, w_spot, w_end, w_isWrong, w_open, .ref m10, .ref m11, .ref m12, .int (iI 1), .ref m14, w_first, .ref m16, .ref m17, .ref m18, .int (iI lu2), w_bodies, w_ran, w_kind, w_number, w_tellsV], cA K m1 922 s, cA K m3 19 fr2, cA K m10 6 fb2, cZ K m11 64 ft2, cA K m12 36000 fu2, cA K m14 6 fn2, cA K m16 6 or2, cA K m17 6 bo2, cA K m18 6 rm] ∧ (∀ j, rI (fr2 j)) ∧ (∀ j, rI (fb2 j)) ∧ rZ ft2 ∧ (∀ j, rI (fu2 j)) ∧ (∀ j, rI (fn2 j)) ∧ rI lu2 ∧ (∀ j, rI (bo2 j)) ∧ (∀ j, rI (or2 j)) ∧ (rm_R (s 19) lu2 bo2 (List.foldl (rm_st W rch s) z (rm_lv (s 19).toNat r P))) ∧ (md_PC W (fun z => s (26 + z)) fu2) ∧ (∀ q, 0 ≤ q → q < ((4 : Nat) : Int) → or2 q = or q)) := by
  by_cases hr0 : r = 0
  · exact k_X10_ordersFrom_4L m0 m1 m3 m10 m11 m12 m14 m16 m17 m18 w_thrown w_image w_hasImage w_act w_spot w_end w_isWrong w_open w_first w_bodies w_ran w_kind w_number w_tellsV rest lu s fr fb ft fu fn or bo rm W rch z P r r_rest r_lu r_s r_fr r_fb r_ft r_fu r_fn r_or r_bo r_rm hg h0 hT hpc hrm hRB hP hPo hr hrs hrn hB hr0
  · exact k_X10_ordersFrom_4I m0 m1 m3 m10 m11 m12 m14 m16 m17 m18 w_thrown w_image w_hasImage w_act w_spot w_end w_isWrong w_open w_first w_bodies w_ran w_kind w_number w_tellsV rest lu s fr fb ft fu fn or bo rm W rch z P r r_rest r_lu r_s r_fr r_fb r_ft r_fu r_fn r_or r_bo r_rm hg h0 hT hpc hrm hRB hP hPo hr hrs hrn hB hr0
set_option maxHeartbeats 4000000 in
set_option maxRecDepth 100000 in
theorem k_X10_ordersFrom_3L {K : gK} (m0 : Nat) (m1 : Nat) (m3 : Nat) (m10 : Nat) (m11 : Nat) (m12 : Nat) (m14 : Nat) (m16 : Nat) (m17 : Nat) (m18 : Nat) (w_thrown : Value) (w_image : Value) (w_hasImage : Value) (w_act : Value) (w_spot : Value) (w_end : Value) (w_isWrong : Value) (w_open : Value) (w_first : Value) (w_bodies : Value) (w_ran : Value) (w_kind : Value) (w_number : Value) (w_tellsV : Value) (rest : Int) (lu : Int) (s : Int → Int) (fr : Int → Int) (fb : Int → Int) (ft : Int → Int) (fu : Int → Int) (fn : Int → Int) (or : Int → Int) (bo : Int → Int) (rm : Int → Int) (W : (Int → Int) → Int) (rch : Int) (z : Int × List Nat) (P : List Nat) (r : Nat) (r_rest : rI rest) (r_lu : rI lu) (r_s : ∀ j, rI (s j)) (r_fr : ∀ j, rI (fr j)) (r_fb : ∀ j, rI (fb j)) (r_ft : rZ ft) (r_fu : ∀ j, rI (fu j)) (r_fn : ∀ j, rI (fn j)) (r_or : ∀ j, rI (or j)) (r_bo : ∀ j, rI (bo j)) (r_rm : ∀ j, rI (rm j)) (hg : md_rg s) (h0 : s 0 + 3 ≤ 20000) (hT : md_TK s W rch) (hpc : md_PC W (fun z => s (26 + z)) fu) (hrm : ∀ j, 0 ≤ j → j < 6 → rm j = s (13 + j)) (hRB : rm_R (s 19) lu bo z) (hP : P.length = 3) (hPo : ∀ q, 0 ≤ q → q < ((3 : Nat) : Int) → or q = rm_at P q ∧ 0 ≤ or q ∧ or q < s 19) (hr : (r : Int) = s 19 - 3) (hrs : 0 ≤ rest ∧ rest < 64) (hrn : bt_n rest = r) (hB : rm_B (s 19) rest P) (hr0 : r = 0) : gMet K yX10_ordersFrom cX10_ordersFrom 4 none 11 0 0 [.ref m0, .int (iI 3), .int (iI rest)] [cO m0 10 [w_thrown, .ref m1, w_image, .ref m3, w_hasImage, w_act, w_spot, w_end, w_isWrong, w_open, .ref m10, .ref m11, .ref m12, .int (iI 1), .ref m14, w_first, .ref m16, .ref m17, .ref m18, .int (iI lu), w_bodies, w_ran, w_kind, w_number, w_tellsV], cA K m1 922 s, cA K m3 19 fr, cA K m10 6 fb, cZ K m11 64 ft, cA K m12 36000 fu, cA K m14 6 fn, cA K m16 6 or, cA K m17 6 bo, cA K m18 6 rm] (fun v9 w9 => ∃ (fr2 : Int → Int), ∃ (fb2 : Int → Int), ∃ (ft2 : Int → Int), ∃ (fu2 : Int → Int), ∃ (fn2 : Int → Int), ∃ (lu2 : Int), ∃ (bo2 : Int → Int), ∃ (or2 : Int → Int), v9 = none ∧ w9 = [cO m0 10 [w_thrown, .ref m1, w_image, .ref m3, w_hasImage, w_act, w_spot, w_end, w_isWrong, w_open, .ref m10, .ref m11, .ref m12, .int (iI 1), .ref m14, w_first, .ref m16, .ref m17, .ref m18, .int (iI lu2), w_bodies, w_ran, w_kind, w_number, w_tellsV], cA K m1 922 s, cA K m3 19 fr2, cA K m10 6 fb2, cZ K m11 64 ft2, cA K m12 36000 fu2, cA K m14 6 fn2, cA K m16 6 or2, cA K m17 6 bo2, cA K m18 6 rm] ∧ (∀ j, rI (fr2 j)) ∧ (∀ j, rI (fb2 j)) ∧ rZ ft2 ∧ (∀ j, rI (fu2 j)) ∧ (∀ j, rI (fn2 j)) ∧ rI lu2 ∧ (∀ j, rI (bo2 j)) ∧ (∀ j, rI (or2 j)) ∧ (rm_R (s 19) lu2 bo2 (List.foldl (rm_st W rch s) z (rm_lv (s 19).toNat r P))) ∧ (md_PC W (fun z => s (26 + z)) fu2) ∧ (∀ q, 0 ≤ q → q < ((3 : Nat) : Int) → or2 q = or q)) := by
  refine g_enter (by decide +kernel) (Nat.le_of_ble_eq_true rfl) (fun G hC hR => ?_)
  refine g_lv hC [0, 1, 2] [(0, _), (1, _), (2, _)] rfl ?_
  have hg0 := hg.2.2.2
  have h19 := hg.2.2.1
  have h09 := bt_1 hrs (p := 0) (by omega)
  have hz : rest = 0 := h09.2.2.2.1 (by omega)
  refine g_iload_n (pc := 0) hC 2 dX10_ordersFrom_0 rfl rfl ?_
  refine g_if_ne (pc := 1) hC 8 dX10_ordersFrom_1 (by decide) (by omega) (fun c1 => by exfalso; omega) (fun c1 => ?_)
  refine g_aload_n (pc := 4) hC 0 dX10_ordersFrom_4 rfl rfl ?_
  refine g_callV (pc := 5) (qr := 0) hC [0, 1, 2, 3, 4, 5, 6, 7, 8, 9] (k_X10_triesOrder _ _ _ _ _ _ _ _ _ _ _ _ _ _ _ _ _ _ _ _ _ _ _ _ _ _ _ _ _ _ _ _ _ _ _ _ _ _ (by first | assumption | omega) (by first | assumption | omega) (by first | assumption | omega) (by first | assumption | omega) (by first | assumption | omega) (by first | assumption | omega) (by first | assumption | omega) (by first | assumption | omega) (by first | assumption | omega) (by first | assumption | omega) (by first | assumption | omega) (by first | assumption | omega) (by first | assumption | omega) (by first | assumption | omega) (by first | assumption | omega) (by first | assumption | omega) (fun j h1 h2 => by have h9 := hPo j h1 (by omega); exact ⟨h9.1, h9.2.1, by omega⟩)) cl_X10_triesOrder wm_X10_203 dX10_ordersFrom_5 rfl rfl rfl rfl rfl (by decide) (by decide) (by omega) (Nat.le_of_ble_eq_true rfl) rfl (fun v9 w9 hq9 => ?_)
  obtain ⟨fr1, fb1, ft1, fu1, fn1, lu1, bo1, rfl, rfl, r_fr1, r_fb1, r_ft1, r_fu1, r_fn1, r_lu1, r_bo1, hR2_5, hpc2_5⟩ := hq9
  refine g_ws hC [cO m0 10 [w_thrown, .ref m1, w_image, .ref m3, w_hasImage, w_act, w_spot, w_end, w_isWrong, w_open, .ref m10, .ref m11, .ref m12, .int (iI 1), .ref m14, w_first, .ref m16, .ref m17, .ref m18, .int (iI lu1), w_bodies, w_ran, w_kind, w_number, w_tellsV], cA K m1 922 s, cA K m3 19 fr1, cA K m10 6 fb1, cZ K m11 64 ft1, cA K m12 36000 fu1, cA K m14 6 fn1, cA K m16 6 or, cA K m17 6 bo1, cA K m18 6 rm] rfl ?_
  refine g_st hC [] rfl ?_
  refine g_iconst (pc := 8) hC dX10_ordersFrom_8 ?_
  refine g_istore_n (pc := 9) hC [(3, _), (0, _), (1, _), (2, _)] dX10_ordersFrom_9 rfl (by decide) rfl ?_
  have L10 : ∀ (n1 : Nat) (i : Int), (rI i) → (0 ≤ i ∧ i ≤ s 19) → s 19 - i < (n1 : Int) → G 0 0 10 [(0, .ref m0), (1, .int (iI 3)), (2, .int (iI rest)), (3, .int (iI i))] [] [cO m0 10 [w_thrown, .ref m1, w_image, .ref m3, w_hasImage, w_act, w_spot, w_end, w_isWrong, w_open, .ref m10, .ref m11, .ref m12, .int (iI 1), .ref m14, w_first, .ref m16, .ref m17, .ref m18, .int (iI lu1), w_bodies, w_ran, w_kind, w_number, w_tellsV], cA K m1 922 s, cA K m3 19 fr1, cA K m10 6 fb1, cZ K m11 64 ft1, cA K m12 36000 fu1, cA K m14 6 fn1, cA K m16 6 or, cA K m17 6 bo1, cA K m18 6 rm] := by
    intro n1
    induction n1 with
    | zero => intro i r_i hi hm10; exfalso; omega
    | succ n1 ih10 =>
      intro i r_i hi hm10
      refine g_iload_n (pc := 10) hC 3 dX10_ordersFrom_10 rfl rfl ?_
      refine g_aload_n (pc := 11) hC 0 dX10_ordersFrom_11 rfl rfl ?_
      refine g_get (pc := 12) hC 0 fl_X10_9 dX10_ordersFrom_12 rfl rfl ?_
      refine g_bipush (pc := 15) hC (19) dX10_ordersFrom_15 (by decide) ?_
      refine g_iald (pc := 17) hC 1 dX10_ordersFrom_17 rfl (by omega) ?_
      have q2 := r_s 19
      refine g_icmp_ge (pc := 18) hC 57 dX10_ordersFrom_18 (by decide) (by omega) (by omega) (fun c18 => ?_) (fun c18 => ?_)
      · exact g_vret (pc := 57) hR dX10_ordersFrom_57 rfl ⟨by omega, by omega⟩ (Nat.le_of_ble_eq_true rfl) ⟨fr1, fb1, ft1, fu1, fn1, lu1, bo1, or, rfl, rfl, (by first | assumption | omega), (by first | assumption | omega), (by first | assumption | omega), (by first | assumption | omega), (by first | assumption | omega), (by first | assumption | omega), (by first | assumption | omega), (by first | assumption | omega), (by rw [show r = 0 from hr0]; exact hR2_5), hpc2_5, (fun q h1 h2 => rfl)⟩
      · refine g_iload_n (pc := 21) hC 2 dX10_ordersFrom_21 rfl rfl ?_
        refine g_iload_n (pc := 22) hC 3 dX10_ordersFrom_22 rfl rfl ?_
        refine g_ishr (pc := 23) hC dX10_ordersFrom_23 ?_
        refine g_iconst (pc := 24) hC dX10_ordersFrom_24 ?_
        refine g_iand (pc := 25) hC dX10_ordersFrom_25 ?_
        refine g_iconst (pc := 26) hC dX10_ordersFrom_26 ?_
        have hb0 : bAnd (bShr rest i) 1 = 0 := ((bt_1 hrs (p := i) (by omega)).2.2.2.2 hz).2
        refine g_icmp_ne (pc := 27) hC 51 dX10_ordersFrom_27 (by decide) (by omega) (by omega) (fun c27 => ?_) (fun c27 => by exfalso; omega)
        refine g_iinc (pc := 51) hC 3 [(3, _), (0, _), (1, _), (2, _)] dX10_ordersFrom_51 rfl (by decide) rfl ?_
        refine g_goto (pc := 54) hC 10 dX10_ordersFrom_54 (by decide) ?_
        refine g_lv hC [1, 2, 3, 0] [(0, _), (1, _), (2, _), (3, _)] rfl ?_
        exact ih10 (i + 1) (by first | assumption | omega) (by first | assumption | omega) (by omega)
  refine g_lv hC [1, 2, 3, 0] [(0, _), (1, _), (2, _), (3, _)] rfl ?_
  exact L10 ((s 19 - 0 : Int).toNat + 1) 0 (by first | assumption | omega) (by first | assumption | omega) (by omega)
set_option maxHeartbeats 4000000 in
set_option maxRecDepth 100000 in
theorem k_X10_ordersFrom_3I {K : gK} (m0 : Nat) (m1 : Nat) (m3 : Nat) (m10 : Nat) (m11 : Nat) (m12 : Nat) (m14 : Nat) (m16 : Nat) (m17 : Nat) (m18 : Nat) (w_thrown : Value) (w_image : Value) (w_hasImage : Value) (w_act : Value) (w_spot : Value) (w_end : Value) (w_isWrong : Value) (w_open : Value) (w_first : Value) (w_bodies : Value) (w_ran : Value) (w_kind : Value) (w_number : Value) (w_tellsV : Value) (rest : Int) (lu : Int) (s : Int → Int) (fr : Int → Int) (fb : Int → Int) (ft : Int → Int) (fu : Int → Int) (fn : Int → Int) (or : Int → Int) (bo : Int → Int) (rm : Int → Int) (W : (Int → Int) → Int) (rch : Int) (z : Int × List Nat) (P : List Nat) (r : Nat) (r_rest : rI rest) (r_lu : rI lu) (r_s : ∀ j, rI (s j)) (r_fr : ∀ j, rI (fr j)) (r_fb : ∀ j, rI (fb j)) (r_ft : rZ ft) (r_fu : ∀ j, rI (fu j)) (r_fn : ∀ j, rI (fn j)) (r_or : ∀ j, rI (or j)) (r_bo : ∀ j, rI (bo j)) (r_rm : ∀ j, rI (rm j)) (hg : md_rg s) (h0 : s 0 + 3 ≤ 20000) (hT : md_TK s W rch) (hpc : md_PC W (fun z => s (26 + z)) fu) (hrm : ∀ j, 0 ≤ j → j < 6 → rm j = s (13 + j)) (hRB : rm_R (s 19) lu bo z) (hP : P.length = 3) (hPo : ∀ q, 0 ≤ q → q < ((3 : Nat) : Int) → or q = rm_at P q ∧ 0 ≤ or q ∧ or q < s 19) (hr : (r : Int) = s 19 - 3) (hrs : 0 ≤ rest ∧ rest < 64) (hrn : bt_n rest = r) (hB : rm_B (s 19) rest P) (hr0 : ¬ r = 0) : gMet K yX10_ordersFrom cX10_ordersFrom 4 none 11 0 0 [.ref m0, .int (iI 3), .int (iI rest)] [cO m0 10 [w_thrown, .ref m1, w_image, .ref m3, w_hasImage, w_act, w_spot, w_end, w_isWrong, w_open, .ref m10, .ref m11, .ref m12, .int (iI 1), .ref m14, w_first, .ref m16, .ref m17, .ref m18, .int (iI lu), w_bodies, w_ran, w_kind, w_number, w_tellsV], cA K m1 922 s, cA K m3 19 fr, cA K m10 6 fb, cZ K m11 64 ft, cA K m12 36000 fu, cA K m14 6 fn, cA K m16 6 or, cA K m17 6 bo, cA K m18 6 rm] (fun v9 w9 => ∃ (fr2 : Int → Int), ∃ (fb2 : Int → Int), ∃ (ft2 : Int → Int), ∃ (fu2 : Int → Int), ∃ (fn2 : Int → Int), ∃ (lu2 : Int), ∃ (bo2 : Int → Int), ∃ (or2 : Int → Int), v9 = none ∧ w9 = [cO m0 10 [w_thrown, .ref m1, w_image, .ref m3, w_hasImage, w_act, w_spot, w_end, w_isWrong, w_open, .ref m10, .ref m11, .ref m12, .int (iI 1), .ref m14, w_first, .ref m16, .ref m17, .ref m18, .int (iI lu2), w_bodies, w_ran, w_kind, w_number, w_tellsV], cA K m1 922 s, cA K m3 19 fr2, cA K m10 6 fb2, cZ K m11 64 ft2, cA K m12 36000 fu2, cA K m14 6 fn2, cA K m16 6 or2, cA K m17 6 bo2, cA K m18 6 rm] ∧ (∀ j, rI (fr2 j)) ∧ (∀ j, rI (fb2 j)) ∧ rZ ft2 ∧ (∀ j, rI (fu2 j)) ∧ (∀ j, rI (fn2 j)) ∧ rI lu2 ∧ (∀ j, rI (bo2 j)) ∧ (∀ j, rI (or2 j)) ∧ (rm_R (s 19) lu2 bo2 (List.foldl (rm_st W rch s) z (rm_lv (s 19).toNat r P))) ∧ (md_PC W (fun z => s (26 + z)) fu2) ∧ (∀ q, 0 ≤ q → q < ((3 : Nat) : Int) → or2 q = or q)) := by
  refine g_enter (by decide +kernel) (Nat.le_of_ble_eq_true rfl) (fun G hC hR => ?_)
  refine g_lv hC [0, 1, 2] [(0, _), (1, _), (2, _)] rfl ?_
  have hg0 := hg.2.2.2
  have h19 := hg.2.2.1
  obtain ⟨r1, rfl⟩ : ∃ r1, r = r1 + 1 := ⟨r - 1, by omega⟩
  have hz : ¬ rest = 0 := fun h9 => by have h8 := (bt_1 hrs (p := 0) (by omega)).2.2.2.2 h9; omega
  refine g_iload_n (pc := 0) hC 2 dX10_ordersFrom_0 rfl rfl ?_
  refine g_if_ne (pc := 1) hC 8 dX10_ordersFrom_1 (by decide) (by omega) (fun c1 => ?_) (fun c1 => by exfalso; omega)
  refine g_iconst (pc := 8) hC dX10_ordersFrom_8 ?_
  refine g_istore_n (pc := 9) hC [(3, _), (0, _), (1, _), (2, _)] dX10_ordersFrom_9 rfl (by decide) rfl ?_
  have L10 : ∀ (n1 : Nat) (i : Int) (or1 : Int → Int) (lu1 : Int) (bo1 : Int → Int) (g0 : Int → Int) (f1 : Int → Int) (f2 : Int → Int) (f3 : Int → Int) (f4 : Int → Int) (j : Nat), (rI i) → (∀ j, rI (or1 j)) → (rI lu1) → (∀ j, rI (bo1 j)) → (∀ j, rI (g0 j)) → (∀ j, rI (f1 j)) → (rZ f2) → (∀ j, rI (f3 j)) → (∀ j, rI (f4 j)) → (i = (j : Int)) → (i ≤ s 19) → (rm_R (s 19) lu1 bo1 (List.foldl (rm_st W rch s) z (rm_l (fun p => if P.elem p then [] else rm_lv (s 19).toNat r1 (P ++ [p])) j))) → (∀ q, 0 ≤ q → q < ((3 : Nat) : Int) → or1 q = or q) → (md_PC W (fun z => s (26 + z)) f3) → s 19 - i < (n1 : Int) → G 0 0 10 [(0, .ref m0), (1, .int (iI 3)), (2, .int (iI rest)), (3, .int (iI i))] [] [cO m0 10 [w_thrown, .ref m1, w_image, .ref m3, w_hasImage, w_act, w_spot, w_end, w_isWrong, w_open, .ref m10, .ref m11, .ref m12, .int (iI 1), .ref m14, w_first, .ref m16, .ref m17, .ref m18, .int (iI lu1), w_bodies, w_ran, w_kind, w_number, w_tellsV], cA K m1 922 s, cA K m3 19 g0, cA K m10 6 f1, cZ K m11 64 f2, cA K m12 36000 f3, cA K m14 6 f4, cA K m16 6 or1, cA K m17 6 bo1, cA K m18 6 rm] := by
    intro n1
    induction n1 with
    | zero => intro i or1 lu1 bo1 g0 f1 f2 f3 f4 j r_i r_or1 r_lu1 r_bo1 r_g0 r_f1 r_f2 r_f3 r_f4 hi hj hR1 ho1 hpc1 hm10; exfalso; omega
    | succ n1 ih10 =>
      intro i or1 lu1 bo1 g0 f1 f2 f3 f4 j r_i r_or1 r_lu1 r_bo1 r_g0 r_f1 r_f2 r_f3 r_f4 hi hj hR1 ho1 hpc1 hm10
      refine g_iload_n (pc := 10) hC 3 dX10_ordersFrom_10 rfl rfl ?_
      refine g_aload_n (pc := 11) hC 0 dX10_ordersFrom_11 rfl rfl ?_
      refine g_get (pc := 12) hC 0 fl_X10_9 dX10_ordersFrom_12 rfl rfl ?_
      refine g_bipush (pc := 15) hC (19) dX10_ordersFrom_15 (by decide) ?_
      refine g_iald (pc := 17) hC 1 dX10_ordersFrom_17 rfl (by omega) ?_
      have q2 := r_s 19
      refine g_icmp_ge (pc := 18) hC 57 dX10_ordersFrom_18 (by decide) (by omega) (by omega) (fun c18 => ?_) (fun c18 => ?_)
      · exact g_vret (pc := 57) hR dX10_ordersFrom_57 rfl ⟨by omega, by omega⟩ (Nat.le_of_ble_eq_true rfl) ⟨g0, f1, f2, f3, f4, lu1, bo1, or1, rfl, rfl, (by first | assumption | omega), (by first | assumption | omega), (by first | assumption | omega), (by first | assumption | omega), (by first | assumption | omega), (by first | assumption | omega), (by first | assumption | omega), (by first | assumption | omega), (by rw [show j = (s 19).toNat by omega] at hR1; exact hR1), hpc1, ho1⟩
      · refine g_iload_n (pc := 21) hC 2 dX10_ordersFrom_21 rfl rfl ?_
        refine g_iload_n (pc := 22) hC 3 dX10_ordersFrom_22 rfl rfl ?_
        refine g_ishr (pc := 23) hC dX10_ordersFrom_23 ?_
        refine g_iconst (pc := 24) hC dX10_ordersFrom_24 ?_
        refine g_iand (pc := 25) hC dX10_ordersFrom_25 ?_
        refine g_iconst (pc := 26) hC dX10_ordersFrom_26 ?_
        have hb1 := bt_1 hrs (p := i) (by omega)
        refine g_icmp_ne (pc := 27) hC 51 dX10_ordersFrom_27 (by decide) (by omega) (by omega) (fun c27 => ?_) (fun c27 => ?_)
        · refine g_iinc (pc := 51) hC 3 [(3, _), (0, _), (1, _), (2, _)] dX10_ordersFrom_51 rfl (by decide) rfl ?_
          refine g_goto (pc := 54) hC 10 dX10_ordersFrom_54 (by decide) ?_
          refine g_lv hC [1, 2, 3, 0] [(0, _), (1, _), (2, _), (3, _)] rfl ?_
          exact ih10 (i + 1) or1 lu1 bo1 g0 f1 f2 f3 f4 (j + 1) (by first | assumption | omega) (by first | assumption | omega) (by first | assumption | omega) (by first | assumption | omega) (by first | assumption | omega) (by first | assumption | omega) (by first | assumption | omega) (by first | assumption | omega) (by first | assumption | omega) (by first | assumption | omega) (by first | assumption | omega) (by rw [rm_fold_0 hB hi (by omega) c27]; exact hR1) ho1 hpc1 (by omega)
        · refine g_aload_n (pc := 30) hC 0 dX10_ordersFrom_30 rfl rfl ?_
          refine g_get (pc := 31) hC 0 fl_X10_38 dX10_ordersFrom_31 rfl rfl ?_
          refine g_iload_n (pc := 34) hC 1 dX10_ordersFrom_34 rfl rfl ?_
          refine g_iload_n (pc := 35) hC 3 dX10_ordersFrom_35 rfl rfl ?_
          refine g_iast (pc := 36) hC 7 (fun f9 => [_, _, _, _, _, _, _, cA K _ _ f9, _, _]) dX10_ordersFrom_36 rfl (by omega) (fun _ => rfl) (fun or3 e_or3 => ?_)
          have r_or3 := rng_up e_or3 r_or1 (by omega)
          have hPo9 := rm_at_app (P := P) (or := or1) (o2 := or3) (k := 3) (c := s 19) hP hi (by omega) (fun q h1 h2 => by rw [ho1 q h1 h2]; exact hPo q h1 h2) e_or3
          refine g_aload_n (pc := 37) hC 0 dX10_ordersFrom_37 rfl rfl ?_
          refine g_iload_n (pc := 38) hC 1 dX10_ordersFrom_38 rfl rfl ?_
          refine g_iconst (pc := 39) hC dX10_ordersFrom_39 ?_
          refine g_iadd (pc := 40) hC dX10_ordersFrom_40 ?_
          refine g_iload_n (pc := 41) hC 2 dX10_ordersFrom_41 rfl rfl ?_
          refine g_iconst (pc := 42) hC dX10_ordersFrom_42 ?_
          refine g_iload_n (pc := 43) hC 3 dX10_ordersFrom_43 rfl rfl ?_
          refine g_ishl (pc := 44) hC dX10_ordersFrom_44 ?_
          refine g_iconst (pc := 45) hC dX10_ordersFrom_45 ?_
          refine g_ixor (pc := 46) hC dX10_ordersFrom_46 ?_
          refine g_iand (pc := 47) hC dX10_ordersFrom_47 ?_
          refine g_callV (pc := 48) (qr := 0) hC [0, 1, 2, 3, 4, 5, 6, 7, 8, 9] (k_X10_ordersFrom_4 _ _ _ _ _ _ _ _ _ _ _ _ _ _ _ _ _ _ _ _ _ _ _ _ _ _ _ _ _ _ _ _ _ _ _ _ _ (List.foldl (rm_st W rch s) z (rm_l (fun p => if P.elem p then [] else rm_lv (s 19).toNat r1 (P ++ [p])) j)) (P ++ [j]) r1 (by first | assumption | omega) (by first | assumption | omega) (by first | assumption | omega) (by first | assumption | omega) (by first | assumption | omega) (by first | assumption | omega) (by first | assumption | omega) (by first | assumption | omega) (by first | assumption | omega) (by first | assumption | omega) (by first | assumption | omega) (by first | assumption | omega) (by first | assumption | omega) (by first | assumption | omega) hpc1 (by first | assumption | omega) hR1 (by rw [List.length_append, hP]; rfl) hPo9 (by omega) hb1.2.1 (by have h9 := hb1.2.2.1 (by omega); unfold bt_out at h9; omega) (rm_B_s h19.2 hrs hi (by omega) hB)) cl_X10_ordersFrom wm_X10_206 dX10_ordersFrom_48 rfl rfl rfl rfl rfl (by decide) (by decide) (by omega) (Nat.le_of_ble_eq_true rfl) rfl (fun v9 w9 hq9 => ?_)
          obtain ⟨fr4, fb4, ft4, fu4, fn4, lu4, bo4, or4, rfl, rfl, r_fr4, r_fb4, r_ft4, r_fu4, r_fn4, r_lu4, r_bo4, r_or4, hR2_48, hpc2_48, ho2_48⟩ := hq9
          refine g_ws hC [cO m0 10 [w_thrown, .ref m1, w_image, .ref m3, w_hasImage, w_act, w_spot, w_end, w_isWrong, w_open, .ref m10, .ref m11, .ref m12, .int (iI 1), .ref m14, w_first, .ref m16, .ref m17, .ref m18, .int (iI lu4), w_bodies, w_ran, w_kind, w_number, w_tellsV], cA K m1 922 s, cA K m3 19 fr4, cA K m10 6 fb4, cZ K m11 64 ft4, cA K m12 36000 fu4, cA K m14 6 fn4, cA K m16 6 or4, cA K m17 6 bo4, cA K m18 6 rm] rfl ?_
          refine g_st hC [] rfl ?_
          refine g_iinc (pc := 51) hC 3 [(3, _), (0, _), (1, _), (2, _)] dX10_ordersFrom_51 rfl (by decide) rfl ?_
          refine g_goto (pc := 54) hC 10 dX10_ordersFrom_54 (by decide) ?_
          refine g_lv hC [1, 2, 3, 0] [(0, _), (1, _), (2, _), (3, _)] rfl ?_
          exact ih10 (i + 1) or4 lu4 bo4 fr4 fb4 ft4 fu4 fn4 (j + 1) (by first | assumption | omega) (by first | assumption | omega) (by first | assumption | omega) (by first | assumption | omega) (by first | assumption | omega) (by first | assumption | omega) (by first | assumption | omega) (by first | assumption | omega) (by first | assumption | omega) (by first | assumption | omega) (by first | assumption | omega) (by rw [rm_fold_1 hB hi (by omega) (by omega)]; exact hR2_48) (fun q h1 h2 => by rw [ho2_48 q h1 (by omega), e_or3, upI_ne (by omega)]; exact ho1 q h1 h2) hpc2_48 (by omega)
  refine g_lv hC [1, 2, 3, 0] [(0, _), (1, _), (2, _), (3, _)] rfl ?_
  exact L10 ((s 19 - 0 : Int).toNat + 1) 0 or lu bo fr fb ft fu fn 0 (by first | assumption | omega) (by first | assumption | omega) (by first | assumption | omega) (by first | assumption | omega) (by first | assumption | omega) (by first | assumption | omega) (by first | assumption | omega) (by first | assumption | omega) (by first | assumption | omega) (by first | assumption | omega) (by first | assumption | omega) hRB (fun q h1 h2 => rfl) (by first | assumption | omega) (by omega)
theorem k_X10_ordersFrom_3 {K : gK} (m0 : Nat) (m1 : Nat) (m3 : Nat) (m10 : Nat) (m11 : Nat) (m12 : Nat) (m14 : Nat) (m16 : Nat) (m17 : Nat) (m18 : Nat) (w_thrown : Value) (w_image : Value) (w_hasImage : Value) (w_act : Value) (w_spot : Value) (w_end : Value) (w_isWrong : Value) (w_open : Value) (w_first : Value) (w_bodies : Value) (w_ran : Value) (w_kind : Value) (w_number : Value) (w_tellsV : Value) (rest : Int) (lu : Int) (s : Int → Int) (fr : Int → Int) (fb : Int → Int) (ft : Int → Int) (fu : Int → Int) (fn : Int → Int) (or : Int → Int) (bo : Int → Int) (rm : Int → Int) (W : (Int → Int) → Int) (rch : Int) (z : Int × List Nat) (P : List Nat) (r : Nat) (r_rest : rI rest) (r_lu : rI lu) (r_s : ∀ j, rI (s j)) (r_fr : ∀ j, rI (fr j)) (r_fb : ∀ j, rI (fb j)) (r_ft : rZ ft) (r_fu : ∀ j, rI (fu j)) (r_fn : ∀ j, rI (fn j)) (r_or : ∀ j, rI (or j)) (r_bo : ∀ j, rI (bo j)) (r_rm : ∀ j, rI (rm j)) (hg : md_rg s) (h0 : s 0 + 3 ≤ 20000) (hT : md_TK s W rch) (hpc : md_PC W (fun z => s (26 + z)) fu) (hrm : ∀ j, 0 ≤ j → j < 6 → rm j = s (13 + j)) (hRB : rm_R (s 19) lu bo z) (hP : P.length = 3) (hPo : ∀ q, 0 ≤ q → q < ((3 : Nat) : Int) → or q = rm_at P q ∧ 0 ≤ or q ∧ or q < s 19) (hr : (r : Int) = s 19 - 3) (hrs : 0 ≤ rest ∧ rest < 64) (hrn : bt_n rest = r) (hB : rm_B (s 19) rest P) : gMet K yX10_ordersFrom cX10_ordersFrom 4 none 11 0 0 [.ref m0, .int (iI 3), .int (iI rest)] [cO m0 10 [w_thrown, .ref m1, w_image, .ref m3, w_hasImage, w_act, w_spot, w_end, w_isWrong, w_open, .ref m10, .ref m11, .ref m12, .int (iI 1), .ref m14, w_first, .ref m16, .ref m17, .ref m18, .int (iI lu), w_bodies, w_ran, w_kind, w_number, w_tellsV], cA K m1 922 s, cA K m3 19 fr, cA K m10 6 fb, cZ K m11 64 ft, cA K m12 36000 fu, cA K m14 6 fn, cA K m16 6 or, cA K m17 6 bo, cA K m18 6 rm] (fun v9 w9 => ∃ (fr2 : Int → Int), ∃ (fb2 : Int → Int), ∃ (ft2 : Int → Int), ∃ (fu2 : Int → Int), ∃ (fn2 : Int → Int), ∃ (lu2 : Int), ∃ (bo2 : Int → Int), ∃ (or2 : Int → Int), v9 = none ∧ w9 = [cO m0 10 [w_thrown, .ref m1, w_image, .ref m3, w_hasImage, w_act, w_spot, w_end, w_isWrong, w_open, .ref m10, .ref m11, .ref m12, .int (iI 1), .ref m14, w_first, .ref m16, .ref m17, .ref m18, .int (iI lu2), w_bodies, w_ran, w_kind, w_number, w_tellsV], cA K m1 922 s, cA K m3 19 fr2, cA K m10 6 fb2, cZ K m11 64 ft2, cA K m12 36000 fu2, cA K m14 6 fn2, cA K m16 6 or2, cA K m17 6 bo2, cA K m18 6 rm] ∧ (∀ j, rI (fr2 j)) ∧ (∀ j, rI (fb2 j)) ∧ rZ ft2 ∧ (∀ j, rI (fu2 j)) ∧ (∀ j, rI (fn2 j)) ∧ rI lu2 ∧ (∀ j, rI (bo2 j)) ∧ (∀ j, rI (or2 j)) ∧ (rm_R (s 19) lu2 bo2 (List.foldl (rm_st W rch s) z (rm_lv (s 19).toNat r P))) ∧ (md_PC W (fun z => s (26 + z)) fu2) ∧ (∀ q, 0 ≤ q → q < ((3 : Nat) : Int) → or2 q = or q)) := by
  by_cases hr0 : r = 0
  · exact k_X10_ordersFrom_3L m0 m1 m3 m10 m11 m12 m14 m16 m17 m18 w_thrown w_image w_hasImage w_act w_spot w_end w_isWrong w_open w_first w_bodies w_ran w_kind w_number w_tellsV rest lu s fr fb ft fu fn or bo rm W rch z P r r_rest r_lu r_s r_fr r_fb r_ft r_fu r_fn r_or r_bo r_rm hg h0 hT hpc hrm hRB hP hPo hr hrs hrn hB hr0
  · exact k_X10_ordersFrom_3I m0 m1 m3 m10 m11 m12 m14 m16 m17 m18 w_thrown w_image w_hasImage w_act w_spot w_end w_isWrong w_open w_first w_bodies w_ran w_kind w_number w_tellsV rest lu s fr fb ft fu fn or bo rm W rch z P r r_rest r_lu r_s r_fr r_fb r_ft r_fu r_fn r_or r_bo r_rm hg h0 hT hpc hrm hRB hP hPo hr hrs hrn hB hr0
set_option maxHeartbeats 4000000 in
set_option maxRecDepth 100000 in
theorem k_X10_ordersFrom_2L {K : gK} (m0 : Nat) (m1 : Nat) (m3 : Nat) (m10 : Nat) (m11 : Nat) (m12 : Nat) (m14 : Nat) (m16 : Nat) (m17 : Nat) (m18 : Nat) (w_thrown : Value) (w_image : Value) (w_hasImage : Value) (w_act : Value) (w_spot : Value) (w_end : Value) (w_isWrong : Value) (w_open : Value) (w_first : Value) (w_bodies : Value) (w_ran : Value) (w_kind : Value) (w_number : Value) (w_tellsV : Value) (rest : Int) (lu : Int) (s : Int → Int) (fr : Int → Int) (fb : Int → Int) (ft : Int → Int) (fu : Int → Int) (fn : Int → Int) (or : Int → Int) (bo : Int → Int) (rm : Int → Int) (W : (Int → Int) → Int) (rch : Int) (z : Int × List Nat) (P : List Nat) (r : Nat) (r_rest : rI rest) (r_lu : rI lu) (r_s : ∀ j, rI (s j)) (r_fr : ∀ j, rI (fr j)) (r_fb : ∀ j, rI (fb j)) (r_ft : rZ ft) (r_fu : ∀ j, rI (fu j)) (r_fn : ∀ j, rI (fn j)) (r_or : ∀ j, rI (or j)) (r_bo : ∀ j, rI (bo j)) (r_rm : ∀ j, rI (rm j)) (hg : md_rg s) (h0 : s 0 + 3 ≤ 20000) (hT : md_TK s W rch) (hpc : md_PC W (fun z => s (26 + z)) fu) (hrm : ∀ j, 0 ≤ j → j < 6 → rm j = s (13 + j)) (hRB : rm_R (s 19) lu bo z) (hP : P.length = 2) (hPo : ∀ q, 0 ≤ q → q < ((2 : Nat) : Int) → or q = rm_at P q ∧ 0 ≤ or q ∧ or q < s 19) (hr : (r : Int) = s 19 - 2) (hrs : 0 ≤ rest ∧ rest < 64) (hrn : bt_n rest = r) (hB : rm_B (s 19) rest P) (hr0 : r = 0) : gMet K yX10_ordersFrom cX10_ordersFrom 4 none 12 0 0 [.ref m0, .int (iI 2), .int (iI rest)] [cO m0 10 [w_thrown, .ref m1, w_image, .ref m3, w_hasImage, w_act, w_spot, w_end, w_isWrong, w_open, .ref m10, .ref m11, .ref m12, .int (iI 1), .ref m14, w_first, .ref m16, .ref m17, .ref m18, .int (iI lu), w_bodies, w_ran, w_kind, w_number, w_tellsV], cA K m1 922 s, cA K m3 19 fr, cA K m10 6 fb, cZ K m11 64 ft, cA K m12 36000 fu, cA K m14 6 fn, cA K m16 6 or, cA K m17 6 bo, cA K m18 6 rm] (fun v9 w9 => ∃ (fr2 : Int → Int), ∃ (fb2 : Int → Int), ∃ (ft2 : Int → Int), ∃ (fu2 : Int → Int), ∃ (fn2 : Int → Int), ∃ (lu2 : Int), ∃ (bo2 : Int → Int), ∃ (or2 : Int → Int), v9 = none ∧ w9 = [cO m0 10 [w_thrown, .ref m1, w_image, .ref m3, w_hasImage, w_act, w_spot, w_end, w_isWrong, w_open, .ref m10, .ref m11, .ref m12, .int (iI 1), .ref m14, w_first, .ref m16, .ref m17, .ref m18, .int (iI lu2), w_bodies, w_ran, w_kind, w_number, w_tellsV], cA K m1 922 s, cA K m3 19 fr2, cA K m10 6 fb2, cZ K m11 64 ft2, cA K m12 36000 fu2, cA K m14 6 fn2, cA K m16 6 or2, cA K m17 6 bo2, cA K m18 6 rm] ∧ (∀ j, rI (fr2 j)) ∧ (∀ j, rI (fb2 j)) ∧ rZ ft2 ∧ (∀ j, rI (fu2 j)) ∧ (∀ j, rI (fn2 j)) ∧ rI lu2 ∧ (∀ j, rI (bo2 j)) ∧ (∀ j, rI (or2 j)) ∧ (rm_R (s 19) lu2 bo2 (List.foldl (rm_st W rch s) z (rm_lv (s 19).toNat r P))) ∧ (md_PC W (fun z => s (26 + z)) fu2) ∧ (∀ q, 0 ≤ q → q < ((2 : Nat) : Int) → or2 q = or q)) := by
  refine g_enter (by decide +kernel) (Nat.le_of_ble_eq_true rfl) (fun G hC hR => ?_)
  refine g_lv hC [0, 1, 2] [(0, _), (1, _), (2, _)] rfl ?_
  have hg0 := hg.2.2.2
  have h19 := hg.2.2.1
  have h09 := bt_1 hrs (p := 0) (by omega)
  have hz : rest = 0 := h09.2.2.2.1 (by omega)
  refine g_iload_n (pc := 0) hC 2 dX10_ordersFrom_0 rfl rfl ?_
  refine g_if_ne (pc := 1) hC 8 dX10_ordersFrom_1 (by decide) (by omega) (fun c1 => by exfalso; omega) (fun c1 => ?_)
  refine g_aload_n (pc := 4) hC 0 dX10_ordersFrom_4 rfl rfl ?_
  refine g_callV (pc := 5) (qr := 0) hC [0, 1, 2, 3, 4, 5, 6, 7, 8, 9] (k_X10_triesOrder _ _ _ _ _ _ _ _ _ _ _ _ _ _ _ _ _ _ _ _ _ _ _ _ _ _ _ _ _ _ _ _ _ _ _ _ _ _ (by first | assumption | omega) (by first | assumption | omega) (by first | assumption | omega) (by first | assumption | omega) (by first | assumption | omega) (by first | assumption | omega) (by first | assumption | omega) (by first | assumption | omega) (by first | assumption | omega) (by first | assumption | omega) (by first | assumption | omega) (by first | assumption | omega) (by first | assumption | omega) (by first | assumption | omega) (by first | assumption | omega) (by first | assumption | omega) (fun j h1 h2 => by have h9 := hPo j h1 (by omega); exact ⟨h9.1, h9.2.1, by omega⟩)) cl_X10_triesOrder wm_X10_203 dX10_ordersFrom_5 rfl rfl rfl rfl rfl (by decide) (by decide) (by omega) (Nat.le_of_ble_eq_true rfl) rfl (fun v9 w9 hq9 => ?_)
  obtain ⟨fr1, fb1, ft1, fu1, fn1, lu1, bo1, rfl, rfl, r_fr1, r_fb1, r_ft1, r_fu1, r_fn1, r_lu1, r_bo1, hR2_5, hpc2_5⟩ := hq9
  refine g_ws hC [cO m0 10 [w_thrown, .ref m1, w_image, .ref m3, w_hasImage, w_act, w_spot, w_end, w_isWrong, w_open, .ref m10, .ref m11, .ref m12, .int (iI 1), .ref m14, w_first, .ref m16, .ref m17, .ref m18, .int (iI lu1), w_bodies, w_ran, w_kind, w_number, w_tellsV], cA K m1 922 s, cA K m3 19 fr1, cA K m10 6 fb1, cZ K m11 64 ft1, cA K m12 36000 fu1, cA K m14 6 fn1, cA K m16 6 or, cA K m17 6 bo1, cA K m18 6 rm] rfl ?_
  refine g_st hC [] rfl ?_
  refine g_iconst (pc := 8) hC dX10_ordersFrom_8 ?_
  refine g_istore_n (pc := 9) hC [(3, _), (0, _), (1, _), (2, _)] dX10_ordersFrom_9 rfl (by decide) rfl ?_
  have L10 : ∀ (n1 : Nat) (i : Int), (rI i) → (0 ≤ i ∧ i ≤ s 19) → s 19 - i < (n1 : Int) → G 0 0 10 [(0, .ref m0), (1, .int (iI 2)), (2, .int (iI rest)), (3, .int (iI i))] [] [cO m0 10 [w_thrown, .ref m1, w_image, .ref m3, w_hasImage, w_act, w_spot, w_end, w_isWrong, w_open, .ref m10, .ref m11, .ref m12, .int (iI 1), .ref m14, w_first, .ref m16, .ref m17, .ref m18, .int (iI lu1), w_bodies, w_ran, w_kind, w_number, w_tellsV], cA K m1 922 s, cA K m3 19 fr1, cA K m10 6 fb1, cZ K m11 64 ft1, cA K m12 36000 fu1, cA K m14 6 fn1, cA K m16 6 or, cA K m17 6 bo1, cA K m18 6 rm] := by
    intro n1
    induction n1 with
    | zero => intro i r_i hi hm10; exfalso; omega
    | succ n1 ih10 =>
      intro i r_i hi hm10
      refine g_iload_n (pc := 10) hC 3 dX10_ordersFrom_10 rfl rfl ?_
      refine g_aload_n (pc := 11) hC 0 dX10_ordersFrom_11 rfl rfl ?_
      refine g_get (pc := 12) hC 0 fl_X10_9 dX10_ordersFrom_12 rfl rfl ?_
      refine g_bipush (pc := 15) hC (19) dX10_ordersFrom_15 (by decide) ?_
      refine g_iald (pc := 17) hC 1 dX10_ordersFrom_17 rfl (by omega) ?_
      have q2 := r_s 19
      refine g_icmp_ge (pc := 18) hC 57 dX10_ordersFrom_18 (by decide) (by omega) (by omega) (fun c18 => ?_) (fun c18 => ?_)
      · exact g_vret (pc := 57) hR dX10_ordersFrom_57 rfl ⟨by omega, by omega⟩ (Nat.le_of_ble_eq_true rfl) ⟨fr1, fb1, ft1, fu1, fn1, lu1, bo1, or, rfl, rfl, (by first | assumption | omega), (by first | assumption | omega), (by first | assumption | omega), (by first | assumption | omega), (by first | assumption | omega), (by first | assumption | omega), (by first | assumption | omega), (by first | assumption | omega), (by rw [show r = 0 from hr0]; exact hR2_5), hpc2_5, (fun q h1 h2 => rfl)⟩
      · refine g_iload_n (pc := 21) hC 2 dX10_ordersFrom_21 rfl rfl ?_
        refine g_iload_n (pc := 22) hC 3 dX10_ordersFrom_22 rfl rfl ?_
        refine g_ishr (pc := 23) hC dX10_ordersFrom_23 ?_
        refine g_iconst (pc := 24) hC dX10_ordersFrom_24 ?_
        refine g_iand (pc := 25) hC dX10_ordersFrom_25 ?_
        refine g_iconst (pc := 26) hC dX10_ordersFrom_26 ?_
        have hb0 : bAnd (bShr rest i) 1 = 0 := ((bt_1 hrs (p := i) (by omega)).2.2.2.2 hz).2
        refine g_icmp_ne (pc := 27) hC 51 dX10_ordersFrom_27 (by decide) (by omega) (by omega) (fun c27 => ?_) (fun c27 => by exfalso; omega)
        refine g_iinc (pc := 51) hC 3 [(3, _), (0, _), (1, _), (2, _)] dX10_ordersFrom_51 rfl (by decide) rfl ?_
        refine g_goto (pc := 54) hC 10 dX10_ordersFrom_54 (by decide) ?_
        refine g_lv hC [1, 2, 3, 0] [(0, _), (1, _), (2, _), (3, _)] rfl ?_
        exact ih10 (i + 1) (by first | assumption | omega) (by first | assumption | omega) (by omega)
  refine g_lv hC [1, 2, 3, 0] [(0, _), (1, _), (2, _), (3, _)] rfl ?_
  exact L10 ((s 19 - 0 : Int).toNat + 1) 0 (by first | assumption | omega) (by first | assumption | omega) (by omega)
set_option maxHeartbeats 4000000 in
set_option maxRecDepth 100000 in
theorem k_X10_ordersFrom_2I {K : gK} (m0 : Nat) (m1 : Nat) (m3 : Nat) (m10 : Nat) (m11 : Nat) (m12 : Nat) (m14 : Nat) (m16 : Nat) (m17 : Nat) (m18 : Nat) (w_thrown : Value) (w_image : Value) (w_hasImage : Value) (w_act : Value) (w_spot : Value) (w_end : Value) (w_isWrong : Value) (w_open : Value) (w_first : Value) (w_bodies : Value) (w_ran : Value) (w_kind : Value) (w_number : Value) (w_tellsV : Value) (rest : Int) (lu : Int) (s : Int → Int) (fr : Int → Int) (fb : Int → Int) (ft : Int → Int) (fu : Int → Int) (fn : Int → Int) (or : Int → Int) (bo : Int → Int) (rm : Int → Int) (W : (Int → Int) → Int) (rch : Int) (z : Int × List Nat) (P : List Nat) (r : Nat) (r_rest : rI rest) (r_lu : rI lu) (r_s : ∀ j, rI (s j)) (r_fr : ∀ j, rI (fr j)) (r_fb : ∀ j, rI (fb j)) (r_ft : rZ ft) (r_fu : ∀ j, rI (fu j)) (r_fn : ∀ j, rI (fn j)) (r_or : ∀ j, rI (or j)) (r_bo : ∀ j, rI (bo j)) (r_rm : ∀ j, rI (rm j)) (hg : md_rg s) (h0 : s 0 + 3 ≤ 20000) (hT : md_TK s W rch) (hpc : md_PC W (fun z => s (26 + z)) fu) (hrm : ∀ j, 0 ≤ j → j < 6 → rm j = s (13 + j)) (hRB : rm_R (s 19) lu bo z) (hP : P.length = 2) (hPo : ∀ q, 0 ≤ q → q < ((2 : Nat) : Int) → or q = rm_at P q ∧ 0 ≤ or q ∧ or q < s 19) (hr : (r : Int) = s 19 - 2) (hrs : 0 ≤ rest ∧ rest < 64) (hrn : bt_n rest = r) (hB : rm_B (s 19) rest P) (hr0 : ¬ r = 0) : gMet K yX10_ordersFrom cX10_ordersFrom 4 none 12 0 0 [.ref m0, .int (iI 2), .int (iI rest)] [cO m0 10 [w_thrown, .ref m1, w_image, .ref m3, w_hasImage, w_act, w_spot, w_end, w_isWrong, w_open, .ref m10, .ref m11, .ref m12, .int (iI 1), .ref m14, w_first, .ref m16, .ref m17, .ref m18, .int (iI lu), w_bodies, w_ran, w_kind, w_number, w_tellsV], cA K m1 922 s, cA K m3 19 fr, cA K m10 6 fb, cZ K m11 64 ft, cA K m12 36000 fu, cA K m14 6 fn, cA K m16 6 or, cA K m17 6 bo, cA K m18 6 rm] (fun v9 w9 => ∃ (fr2 : Int → Int), ∃ (fb2 : Int → Int), ∃ (ft2 : Int → Int), ∃ (fu2 : Int → Int), ∃ (fn2 : Int → Int), ∃ (lu2 : Int), ∃ (bo2 : Int → Int), ∃ (or2 : Int → Int), v9 = none ∧ w9 = [cO m0 10 [w_thrown, .ref m1, w_image, .ref m3, w_hasImage, w_act, w_spot, w_end, w_isWrong, w_open, .ref m10, .ref m11, .ref m12, .int (iI 1), .ref m14, w_first, .ref m16, .ref m17, .ref m18, .int (iI lu2), w_bodies, w_ran, w_kind, w_number, w_tellsV], cA K m1 922 s, cA K m3 19 fr2, cA K m10 6 fb2, cZ K m11 64 ft2, cA K m12 36000 fu2, cA K m14 6 fn2, cA K m16 6 or2, cA K m17 6 bo2, cA K m18 6 rm] ∧ (∀ j, rI (fr2 j)) ∧ (∀ j, rI (fb2 j)) ∧ rZ ft2 ∧ (∀ j, rI (fu2 j)) ∧ (∀ j, rI (fn2 j)) ∧ rI lu2 ∧ (∀ j, rI (bo2 j)) ∧ (∀ j, rI (or2 j)) ∧ (rm_R (s 19) lu2 bo2 (List.foldl (rm_st W rch s) z (rm_lv (s 19).toNat r P))) ∧ (md_PC W (fun z => s (26 + z)) fu2) ∧ (∀ q, 0 ≤ q → q < ((2 : Nat) : Int) → or2 q = or q)) := by
  refine g_enter (by decide +kernel) (Nat.le_of_ble_eq_true rfl) (fun G hC hR => ?_)
  refine g_lv hC [0, 1, 2] [(0, _), (1, _), (2, _)] rfl ?_
  have hg0 := hg.2.2.2
  have h19 := hg.2.2.1
  obtain ⟨r1, rfl⟩ : ∃ r1, r = r1 + 1 := ⟨r - 1, by omega⟩
  have hz : ¬ rest = 0 := fun h9 => by have h8 := (bt_1 hrs (p := 0) (by omega)).2.2.2.2 h9; omega
  refine g_iload_n (pc := 0) hC 2 dX10_ordersFrom_0 rfl rfl ?_
  refine g_if_ne (pc := 1) hC 8 dX10_ordersFrom_1 (by decide) (by omega) (fun c1 => ?_) (fun c1 => by exfalso; omega)
  refine g_iconst (pc := 8) hC dX10_ordersFrom_8 ?_
  refine g_istore_n (pc := 9) hC [(3, _), (0, _), (1, _), (2, _)] dX10_ordersFrom_9 rfl (by decide) rfl ?_
  have L10 : ∀ (n1 : Nat) (i : Int) (or1 : Int → Int) (lu1 : Int) (bo1 : Int → Int) (g0 : Int → Int) (f1 : Int → Int) (f2 : Int → Int) (f3 : Int → Int) (f4 : Int → Int) (j : Nat), (rI i) → (∀ j, rI (or1 j)) → (rI lu1) → (∀ j, rI (bo1 j)) → (∀ j, rI (g0 j)) → (∀ j, rI (f1 j)) → (rZ f2) → (∀ j, rI (f3 j)) → (∀ j, rI (f4 j)) → (i = (j : Int)) → (i ≤ s 19) → (rm_R (s 19) lu1 bo1 (List.foldl (rm_st W rch s) z (rm_l (fun p => if P.elem p then [] else rm_lv (s 19).toNat r1 (P ++ [p])) j))) → (∀ q, 0 ≤ q → q < ((2 : Nat) : Int) → or1 q = or q) → (md_PC W (fun z => s (26 + z)) f3) → s 19 - i < (n1 : Int) → G 0 0 10 [(0, .ref m0), (1, .int (iI 2)), (2, .int (iI rest)), (3, .int (iI i))] [] [cO m0 10 [w_thrown, .ref m1, w_image, .ref m3, w_hasImage, w_act, w_spot, w_end, w_isWrong, w_open, .ref m10, .ref m11, .ref m12, .int (iI 1), .ref m14, w_first, .ref m16, .ref m17, .ref m18, .int (iI lu1), w_bodies, w_ran, w_kind, w_number, w_tellsV], cA K m1 922 s, cA K m3 19 g0, cA K m10 6 f1, cZ K m11 64 f2, cA K m12 36000 f3, cA K m14 6 f4, cA K m16 6 or1, cA K m17 6 bo1, cA K m18 6 rm] := by
    intro n1
    induction n1 with
    | zero => intro i or1 lu1 bo1 g0 f1 f2 f3 f4 j r_i r_or1 r_lu1 r_bo1 r_g0 r_f1 r_f2 r_f3 r_f4 hi hj hR1 ho1 hpc1 hm10; exfalso; omega
    | succ n1 ih10 =>
      intro i or1 lu1 bo1 g0 f1 f2 f3 f4 j r_i r_or1 r_lu1 r_bo1 r_g0 r_f1 r_f2 r_f3 r_f4 hi hj hR1 ho1 hpc1 hm10
      refine g_iload_n (pc := 10) hC 3 dX10_ordersFrom_10 rfl rfl ?_
      refine g_aload_n (pc := 11) hC 0 dX10_ordersFrom_11 rfl rfl ?_
      refine g_get (pc := 12) hC 0 fl_X10_9 dX10_ordersFrom_12 rfl rfl ?_
      refine g_bipush (pc := 15) hC (19) dX10_ordersFrom_15 (by decide) ?_
      refine g_iald (pc := 17) hC 1 dX10_ordersFrom_17 rfl (by omega) ?_
      have q2 := r_s 19
      refine g_icmp_ge (pc := 18) hC 57 dX10_ordersFrom_18 (by decide) (by omega) (by omega) (fun c18 => ?_) (fun c18 => ?_)
      · exact g_vret (pc := 57) hR dX10_ordersFrom_57 rfl ⟨by omega, by omega⟩ (Nat.le_of_ble_eq_true rfl) ⟨g0, f1, f2, f3, f4, lu1, bo1, or1, rfl, rfl, (by first | assumption | omega), (by first | assumption | omega), (by first | assumption | omega), (by first | assumption | omega), (by first | assumption | omega), (by first | assumption | omega), (by first | assumption | omega), (by first | assumption | omega), (by rw [show j = (s 19).toNat by omega] at hR1; exact hR1), hpc1, ho1⟩
      · refine g_iload_n (pc := 21) hC 2 dX10_ordersFrom_21 rfl rfl ?_
        refine g_iload_n (pc := 22) hC 3 dX10_ordersFrom_22 rfl rfl ?_
        refine g_ishr (pc := 23) hC dX10_ordersFrom_23 ?_
        refine g_iconst (pc := 24) hC dX10_ordersFrom_24 ?_
        refine g_iand (pc := 25) hC dX10_ordersFrom_25 ?_
        refine g_iconst (pc := 26) hC dX10_ordersFrom_26 ?_
        have hb1 := bt_1 hrs (p := i) (by omega)
        refine g_icmp_ne (pc := 27) hC 51 dX10_ordersFrom_27 (by decide) (by omega) (by omega) (fun c27 => ?_) (fun c27 => ?_)
        · refine g_iinc (pc := 51) hC 3 [(3, _), (0, _), (1, _), (2, _)] dX10_ordersFrom_51 rfl (by decide) rfl ?_
          refine g_goto (pc := 54) hC 10 dX10_ordersFrom_54 (by decide) ?_
          refine g_lv hC [1, 2, 3, 0] [(0, _), (1, _), (2, _), (3, _)] rfl ?_
          exact ih10 (i + 1) or1 lu1 bo1 g0 f1 f2 f3 f4 (j + 1) (by first | assumption | omega) (by first | assumption | omega) (by first | assumption | omega) (by first | assumption | omega) (by first | assumption | omega) (by first | assumption | omega) (by first | assumption | omega) (by first | assumption | omega) (by first | assumption | omega) (by first | assumption | omega) (by first | assumption | omega) (by rw [rm_fold_0 hB hi (by omega) c27]; exact hR1) ho1 hpc1 (by omega)
        · refine g_aload_n (pc := 30) hC 0 dX10_ordersFrom_30 rfl rfl ?_
          refine g_get (pc := 31) hC 0 fl_X10_38 dX10_ordersFrom_31 rfl rfl ?_
          refine g_iload_n (pc := 34) hC 1 dX10_ordersFrom_34 rfl rfl ?_
          refine g_iload_n (pc := 35) hC 3 dX10_ordersFrom_35 rfl rfl ?_
          refine g_iast (pc := 36) hC 7 (fun f9 => [_, _, _, _, _, _, _, cA K _ _ f9, _, _]) dX10_ordersFrom_36 rfl (by omega) (fun _ => rfl) (fun or3 e_or3 => ?_)
          have r_or3 := rng_up e_or3 r_or1 (by omega)
          have hPo9 := rm_at_app (P := P) (or := or1) (o2 := or3) (k := 2) (c := s 19) hP hi (by omega) (fun q h1 h2 => by rw [ho1 q h1 h2]; exact hPo q h1 h2) e_or3
          refine g_aload_n (pc := 37) hC 0 dX10_ordersFrom_37 rfl rfl ?_
          refine g_iload_n (pc := 38) hC 1 dX10_ordersFrom_38 rfl rfl ?_
          refine g_iconst (pc := 39) hC dX10_ordersFrom_39 ?_
          refine g_iadd (pc := 40) hC dX10_ordersFrom_40 ?_
          refine g_iload_n (pc := 41) hC 2 dX10_ordersFrom_41 rfl rfl ?_
          refine g_iconst (pc := 42) hC dX10_ordersFrom_42 ?_
          refine g_iload_n (pc := 43) hC 3 dX10_ordersFrom_43 rfl rfl ?_
          refine g_ishl (pc := 44) hC dX10_ordersFrom_44 ?_
          refine g_iconst (pc := 45) hC dX10_ordersFrom_45 ?_
          refine g_ixor (pc := 46) hC dX10_ordersFrom_46 ?_
          refine g_iand (pc := 47) hC dX10_ordersFrom_47 ?_
          refine g_callV (pc := 48) (qr := 0) hC [0, 1, 2, 3, 4, 5, 6, 7, 8, 9] (k_X10_ordersFrom_3 _ _ _ _ _ _ _ _ _ _ _ _ _ _ _ _ _ _ _ _ _ _ _ _ _ _ _ _ _ _ _ _ _ _ _ _ _ (List.foldl (rm_st W rch s) z (rm_l (fun p => if P.elem p then [] else rm_lv (s 19).toNat r1 (P ++ [p])) j)) (P ++ [j]) r1 (by first | assumption | omega) (by first | assumption | omega) (by first | assumption | omega) (by first | assumption | omega) (by first | assumption | omega) (by first | assumption | omega) (by first | assumption | omega) (by first | assumption | omega) (by first | assumption | omega) (by first | assumption | omega) (by first | assumption | omega) (by first | assumption | omega) (by first | assumption | omega) (by first | assumption | omega) hpc1 (by first | assumption | omega) hR1 (by rw [List.length_append, hP]; rfl) hPo9 (by omega) hb1.2.1 (by have h9 := hb1.2.2.1 (by omega); unfold bt_out at h9; omega) (rm_B_s h19.2 hrs hi (by omega) hB)) cl_X10_ordersFrom wm_X10_206 dX10_ordersFrom_48 rfl rfl rfl rfl rfl (by decide) (by decide) (by omega) (Nat.le_of_ble_eq_true rfl) rfl (fun v9 w9 hq9 => ?_)
          obtain ⟨fr4, fb4, ft4, fu4, fn4, lu4, bo4, or4, rfl, rfl, r_fr4, r_fb4, r_ft4, r_fu4, r_fn4, r_lu4, r_bo4, r_or4, hR2_48, hpc2_48, ho2_48⟩ := hq9
          refine g_ws hC [cO m0 10 [w_thrown, .ref m1, w_image, .ref m3, w_hasImage, w_act, w_spot, w_end, w_isWrong, w_open, .ref m10, .ref m11, .ref m12, .int (iI 1), .ref m14, w_first, .ref m16, .ref m17, .ref m18, .int (iI lu4), w_bodies, w_ran, w_kind, w_number, w_tellsV], cA K m1 922 s, cA K m3 19 fr4, cA K m10 6 fb4, cZ K m11 64 ft4, cA K m12 36000 fu4, cA K m14 6 fn4, cA K m16 6 or4, cA K m17 6 bo4, cA K m18 6 rm] rfl ?_
          refine g_st hC [] rfl ?_
          refine g_iinc (pc := 51) hC 3 [(3, _), (0, _), (1, _), (2, _)] dX10_ordersFrom_51 rfl (by decide) rfl ?_
          refine g_goto (pc := 54) hC 10 dX10_ordersFrom_54 (by decide) ?_
          refine g_lv hC [1, 2, 3, 0] [(0, _), (1, _), (2, _), (3, _)] rfl ?_
          exact ih10 (i + 1) or4 lu4 bo4 fr4 fb4 ft4 fu4 fn4 (j + 1) (by first | assumption | omega) (by first | assumption | omega) (by first | assumption | omega) (by first | assumption | omega) (by first | assumption | omega) (by first | assumption | omega) (by first | assumption | omega) (by first | assumption | omega) (by first | assumption | omega) (by first | assumption | omega) (by first | assumption | omega) (by rw [rm_fold_1 hB hi (by omega) (by omega)]; exact hR2_48) (fun q h1 h2 => by rw [ho2_48 q h1 (by omega), e_or3, upI_ne (by omega)]; exact ho1 q h1 h2) hpc2_48 (by omega)
  refine g_lv hC [1, 2, 3, 0] [(0, _), (1, _), (2, _), (3, _)] rfl ?_
  exact L10 ((s 19 - 0 : Int).toNat + 1) 0 or lu bo fr fb ft fu fn 0 (by first | assumption | omega) (by first | assumption | omega) (by first | assumption | omega) (by first | assumption | omega) (by first | assumption | omega) (by first | assumption | omega) (by first | assumption | omega) (by first | assumption | omega) (by first | assumption | omega) (by first | assumption | omega) (by first | assumption | omega) hRB (fun q h1 h2 => rfl) (by first | assumption | omega) (by omega)
theorem k_X10_ordersFrom_2 {K : gK} (m0 : Nat) (m1 : Nat) (m3 : Nat) (m10 : Nat) (m11 : Nat) (m12 : Nat) (m14 : Nat) (m16 : Nat) (m17 : Nat) (m18 : Nat) (w_thrown : Value) (w_image : Value) (w_hasImage : Value) (w_act : Value) (w_spot : Value) (w_end : Value) (w_isWrong : Value) (w_open : Value) (w_first : Value) (w_bodies : Value) (w_ran : Value) (w_kind : Value) (w_number : Value) (w_tellsV : Value) (rest : Int) (lu : Int) (s : Int → Int) (fr : Int → Int) (fb : Int → Int) (ft : Int → Int) (fu : Int → Int) (fn : Int → Int) (or : Int → Int) (bo : Int → Int) (rm : Int → Int) (W : (Int → Int) → Int) (rch : Int) (z : Int × List Nat) (P : List Nat) (r : Nat) (r_rest : rI rest) (r_lu : rI lu) (r_s : ∀ j, rI (s j)) (r_fr : ∀ j, rI (fr j)) (r_fb : ∀ j, rI (fb j)) (r_ft : rZ ft) (r_fu : ∀ j, rI (fu j)) (r_fn : ∀ j, rI (fn j)) (r_or : ∀ j, rI (or j)) (r_bo : ∀ j, rI (bo j)) (r_rm : ∀ j, rI (rm j)) (hg : md_rg s) (h0 : s 0 + 3 ≤ 20000) (hT : md_TK s W rch) (hpc : md_PC W (fun z => s (26 + z)) fu) (hrm : ∀ j, 0 ≤ j → j < 6 → rm j = s (13 + j)) (hRB : rm_R (s 19) lu bo z) (hP : P.length = 2) (hPo : ∀ q, 0 ≤ q → q < ((2 : Nat) : Int) → or q = rm_at P q ∧ 0 ≤ or q ∧ or q < s 19) (hr : (r : Int) = s 19 - 2) (hrs : 0 ≤ rest ∧ rest < 64) (hrn : bt_n rest = r) (hB : rm_B (s 19) rest P) : gMet K yX10_ordersFrom cX10_ordersFrom 4 none 12 0 0 [.ref m0, .int (iI 2), .int (iI rest)] [cO m0 10 [w_thrown, .ref m1, w_image, .ref m3, w_hasImage, w_act, w_spot, w_end, w_isWrong, w_open, .ref m10, .ref m11, .ref m12, .int (iI 1), .ref m14, w_first, .ref m16, .ref m17, .ref m18, .int (iI lu), w_bodies, w_ran, w_kind, w_number, w_tellsV], cA K m1 922 s, cA K m3 19 fr, cA K m10 6 fb, cZ K m11 64 ft, cA K m12 36000 fu, cA K m14 6 fn, cA K m16 6 or, cA K m17 6 bo, cA K m18 6 rm] (fun v9 w9 => ∃ (fr2 : Int → Int), ∃ (fb2 : Int → Int), ∃ (ft2 : Int → Int), ∃ (fu2 : Int → Int), ∃ (fn2 : Int → Int), ∃ (lu2 : Int), ∃ (bo2 : Int → Int), ∃ (or2 : Int → Int), v9 = none ∧ w9 = [cO m0 10 [w_thrown, .ref m1, w_image, .ref m3, w_hasImage, w_act, w_spot, w_end, w_isWrong, w_open, .ref m10, .ref m11, .ref m12, .int (iI 1), .ref m14, w_first, .ref m16, .ref m17, .ref m18, .int (iI lu2), w_bodies, w_ran, w_kind, w_number, w_tellsV], cA K m1 922 s, cA K m3 19 fr2, cA K m10 6 fb2, cZ K m11 64 ft2, cA K m12 36000 fu2, cA K m14 6 fn2, cA K m16 6 or2, cA K m17 6 bo2, cA K m18 6 rm] ∧ (∀ j, rI (fr2 j)) ∧ (∀ j, rI (fb2 j)) ∧ rZ ft2 ∧ (∀ j, rI (fu2 j)) ∧ (∀ j, rI (fn2 j)) ∧ rI lu2 ∧ (∀ j, rI (bo2 j)) ∧ (∀ j, rI (or2 j)) ∧ (rm_R (s 19) lu2 bo2 (List.foldl (rm_st W rch s) z (rm_lv (s 19).toNat r P))) ∧ (md_PC W (fun z => s (26 + z)) fu2) ∧ (∀ q, 0 ≤ q → q < ((2 : Nat) : Int) → or2 q = or q)) := by
  by_cases hr0 : r = 0
  · exact k_X10_ordersFrom_2L m0 m1 m3 m10 m11 m12 m14 m16 m17 m18 w_thrown w_image w_hasImage w_act w_spot w_end w_isWrong w_open w_first w_bodies w_ran w_kind w_number w_tellsV rest lu s fr fb ft fu fn or bo rm W rch z P r r_rest r_lu r_s r_fr r_fb r_ft r_fu r_fn r_or r_bo r_rm hg h0 hT hpc hrm hRB hP hPo hr hrs hrn hB hr0
  · exact k_X10_ordersFrom_2I m0 m1 m3 m10 m11 m12 m14 m16 m17 m18 w_thrown w_image w_hasImage w_act w_spot w_end w_isWrong w_open w_first w_bodies w_ran w_kind w_number w_tellsV rest lu s fr fb ft fu fn or bo rm W rch z P r r_rest r_lu r_s r_fr r_fb r_ft r_fu r_fn r_or r_bo r_rm hg h0 hT hpc hrm hRB hP hPo hr hrs hrn hB hr0
set_option maxHeartbeats 4000000 in
set_option maxRecDepth 100000 in
theorem k_X10_ordersFrom_1L {K : gK} (m0 : Nat) (m1 : Nat) (m3 : Nat) (m10 : Nat) (m11 : Nat) (m12 : Nat) (m14 : Nat) (m16 : Nat) (m17 : Nat) (m18 : Nat) (w_thrown : Value) (w_image : Value) (w_hasImage : Value) (w_act : Value) (w_spot : Value) (w_end : Value) (w_isWrong : Value) (w_open : Value) (w_first : Value) (w_bodies : Value) (w_ran : Value) (w_kind : Value) (w_number : Value) (w_tellsV : Value) (rest : Int) (lu : Int) (s : Int → Int) (fr : Int → Int) (fb : Int → Int) (ft : Int → Int) (fu : Int → Int) (fn : Int → Int) (or : Int → Int) (bo : Int → Int) (rm : Int → Int) (W : (Int → Int) → Int) (rch : Int) (z : Int × List Nat) (P : List Nat) (r : Nat) (r_rest : rI rest) (r_lu : rI lu) (r_s : ∀ j, rI (s j)) (r_fr : ∀ j, rI (fr j)) (r_fb : ∀ j, rI (fb j)) (r_ft : rZ ft) (r_fu : ∀ j, rI (fu j)) (r_fn : ∀ j, rI (fn j)) (r_or : ∀ j, rI (or j)) (r_bo : ∀ j, rI (bo j)) (r_rm : ∀ j, rI (rm j)) (hg : md_rg s) (h0 : s 0 + 3 ≤ 20000) (hT : md_TK s W rch) (hpc : md_PC W (fun z => s (26 + z)) fu) (hrm : ∀ j, 0 ≤ j → j < 6 → rm j = s (13 + j)) (hRB : rm_R (s 19) lu bo z) (hP : P.length = 1) (hPo : ∀ q, 0 ≤ q → q < ((1 : Nat) : Int) → or q = rm_at P q ∧ 0 ≤ or q ∧ or q < s 19) (hr : (r : Int) = s 19 - 1) (hrs : 0 ≤ rest ∧ rest < 64) (hrn : bt_n rest = r) (hB : rm_B (s 19) rest P) (hr0 : r = 0) : gMet K yX10_ordersFrom cX10_ordersFrom 4 none 13 0 0 [.ref m0, .int (iI 1), .int (iI rest)] [cO m0 10 [w_thrown, .ref m1, w_image, .ref m3, w_hasImage, w_act, w_spot, w_end, w_isWrong, w_open, .ref m10, .ref m11, .ref m12, .int (iI 1), .ref m14, w_first, .ref m16, .ref m17, .ref m18, .int (iI lu), w_bodies, w_ran, w_kind, w_number, w_tellsV], cA K m1 922 s, cA K m3 19 fr, cA K m10 6 fb, cZ K m11 64 ft, cA K m12 36000 fu, cA K m14 6 fn, cA K m16 6 or, cA K m17 6 bo, cA K m18 6 rm] (fun v9 w9 => ∃ (fr2 : Int → Int), ∃ (fb2 : Int → Int), ∃ (ft2 : Int → Int), ∃ (fu2 : Int → Int), ∃ (fn2 : Int → Int), ∃ (lu2 : Int), ∃ (bo2 : Int → Int), ∃ (or2 : Int → Int), v9 = none ∧ w9 = [cO m0 10 [w_thrown, .ref m1, w_image, .ref m3, w_hasImage, w_act, w_spot, w_end, w_isWrong, w_open, .ref m10, .ref m11, .ref m12, .int (iI 1), .ref m14, w_first, .ref m16, .ref m17, .ref m18, .int (iI lu2), w_bodies, w_ran, w_kind, w_number, w_tellsV], cA K m1 922 s, cA K m3 19 fr2, cA K m10 6 fb2, cZ K m11 64 ft2, cA K m12 36000 fu2, cA K m14 6 fn2, cA K m16 6 or2, cA K m17 6 bo2, cA K m18 6 rm] ∧ (∀ j, rI (fr2 j)) ∧ (∀ j, rI (fb2 j)) ∧ rZ ft2 ∧ (∀ j, rI (fu2 j)) ∧ (∀ j, rI (fn2 j)) ∧ rI lu2 ∧ (∀ j, rI (bo2 j)) ∧ (∀ j, rI (or2 j)) ∧ (rm_R (s 19) lu2 bo2 (List.foldl (rm_st W rch s) z (rm_lv (s 19).toNat r P))) ∧ (md_PC W (fun z => s (26 + z)) fu2) ∧ (∀ q, 0 ≤ q → q < ((1 : Nat) : Int) → or2 q = or q)) := by
  refine g_enter (by decide +kernel) (Nat.le_of_ble_eq_true rfl) (fun G hC hR => ?_)
  refine g_lv hC [0, 1, 2] [(0, _), (1, _), (2, _)] rfl ?_
  have hg0 := hg.2.2.2
  have h19 := hg.2.2.1
  have h09 := bt_1 hrs (p := 0) (by omega)
  have hz : rest = 0 := h09.2.2.2.1 (by omega)
  refine g_iload_n (pc := 0) hC 2 dX10_ordersFrom_0 rfl rfl ?_
  refine g_if_ne (pc := 1) hC 8 dX10_ordersFrom_1 (by decide) (by omega) (fun c1 => by exfalso; omega) (fun c1 => ?_)
  refine g_aload_n (pc := 4) hC 0 dX10_ordersFrom_4 rfl rfl ?_
  refine g_callV (pc := 5) (qr := 0) hC [0, 1, 2, 3, 4, 5, 6, 7, 8, 9] (k_X10_triesOrder _ _ _ _ _ _ _ _ _ _ _ _ _ _ _ _ _ _ _ _ _ _ _ _ _ _ _ _ _ _ _ _ _ _ _ _ _ _ (by first | assumption | omega) (by first | assumption | omega) (by first | assumption | omega) (by first | assumption | omega) (by first | assumption | omega) (by first | assumption | omega) (by first | assumption | omega) (by first | assumption | omega) (by first | assumption | omega) (by first | assumption | omega) (by first | assumption | omega) (by first | assumption | omega) (by first | assumption | omega) (by first | assumption | omega) (by first | assumption | omega) (by first | assumption | omega) (fun j h1 h2 => by have h9 := hPo j h1 (by omega); exact ⟨h9.1, h9.2.1, by omega⟩)) cl_X10_triesOrder wm_X10_203 dX10_ordersFrom_5 rfl rfl rfl rfl rfl (by decide) (by decide) (by omega) (Nat.le_of_ble_eq_true rfl) rfl (fun v9 w9 hq9 => ?_)
  obtain ⟨fr1, fb1, ft1, fu1, fn1, lu1, bo1, rfl, rfl, r_fr1, r_fb1, r_ft1, r_fu1, r_fn1, r_lu1, r_bo1, hR2_5, hpc2_5⟩ := hq9
  refine g_ws hC [cO m0 10 [w_thrown, .ref m1, w_image, .ref m3, w_hasImage, w_act, w_spot, w_end, w_isWrong, w_open, .ref m10, .ref m11, .ref m12, .int (iI 1), .ref m14, w_first, .ref m16, .ref m17, .ref m18, .int (iI lu1), w_bodies, w_ran, w_kind, w_number, w_tellsV], cA K m1 922 s, cA K m3 19 fr1, cA K m10 6 fb1, cZ K m11 64 ft1, cA K m12 36000 fu1, cA K m14 6 fn1, cA K m16 6 or, cA K m17 6 bo1, cA K m18 6 rm] rfl ?_
  refine g_st hC [] rfl ?_
  refine g_iconst (pc := 8) hC dX10_ordersFrom_8 ?_
  refine g_istore_n (pc := 9) hC [(3, _), (0, _), (1, _), (2, _)] dX10_ordersFrom_9 rfl (by decide) rfl ?_
  have L10 : ∀ (n1 : Nat) (i : Int), (rI i) → (0 ≤ i ∧ i ≤ s 19) → s 19 - i < (n1 : Int) → G 0 0 10 [(0, .ref m0), (1, .int (iI 1)), (2, .int (iI rest)), (3, .int (iI i))] [] [cO m0 10 [w_thrown, .ref m1, w_image, .ref m3, w_hasImage, w_act, w_spot, w_end, w_isWrong, w_open, .ref m10, .ref m11, .ref m12, .int (iI 1), .ref m14, w_first, .ref m16, .ref m17, .ref m18, .int (iI lu1), w_bodies, w_ran, w_kind, w_number, w_tellsV], cA K m1 922 s, cA K m3 19 fr1, cA K m10 6 fb1, cZ K m11 64 ft1, cA K m12 36000 fu1, cA K m14 6 fn1, cA K m16 6 or, cA K m17 6 bo1, cA K m18 6 rm] := by
    intro n1
    induction n1 with
    | zero => intro i r_i hi hm10; exfalso; omega
    | succ n1 ih10 =>
      intro i r_i hi hm10
      refine g_iload_n (pc := 10) hC 3 dX10_ordersFrom_10 rfl rfl ?_
      refine g_aload_n (pc := 11) hC 0 dX10_ordersFrom_11 rfl rfl ?_
      refine g_get (pc := 12) hC 0 fl_X10_9 dX10_ordersFrom_12 rfl rfl ?_
      refine g_bipush (pc := 15) hC (19) dX10_ordersFrom_15 (by decide) ?_
      refine g_iald (pc := 17) hC 1 dX10_ordersFrom_17 rfl (by omega) ?_
      have q2 := r_s 19
      refine g_icmp_ge (pc := 18) hC 57 dX10_ordersFrom_18 (by decide) (by omega) (by omega) (fun c18 => ?_) (fun c18 => ?_)
      · exact g_vret (pc := 57) hR dX10_ordersFrom_57 rfl ⟨by omega, by omega⟩ (Nat.le_of_ble_eq_true rfl) ⟨fr1, fb1, ft1, fu1, fn1, lu1, bo1, or, rfl, rfl, (by first | assumption | omega), (by first | assumption | omega), (by first | assumption | omega), (by first | assumption | omega), (by first | assumption | omega), (by first | assumption | omega), (by first | assumption | omega), (by first | assumption | omega), (by rw [show r = 0 from hr0]; exact hR2_5), hpc2_5, (fun q h1 h2 => rfl)⟩
      · refine g_iload_n (pc := 21) hC 2 dX10_ordersFrom_21 rfl rfl ?_
        refine g_iload_n (pc := 22) hC 3 dX10_ordersFrom_22 rfl rfl ?_
        refine g_ishr (pc := 23) hC dX10_ordersFrom_23 ?_
        refine g_iconst (pc := 24) hC dX10_ordersFrom_24 ?_
        refine g_iand (pc := 25) hC dX10_ordersFrom_25 ?_
        refine g_iconst (pc := 26) hC dX10_ordersFrom_26 ?_
        have hb0 : bAnd (bShr rest i) 1 = 0 := ((bt_1 hrs (p := i) (by omega)).2.2.2.2 hz).2
        refine g_icmp_ne (pc := 27) hC 51 dX10_ordersFrom_27 (by decide) (by omega) (by omega) (fun c27 => ?_) (fun c27 => by exfalso; omega)
        refine g_iinc (pc := 51) hC 3 [(3, _), (0, _), (1, _), (2, _)] dX10_ordersFrom_51 rfl (by decide) rfl ?_
        refine g_goto (pc := 54) hC 10 dX10_ordersFrom_54 (by decide) ?_
        refine g_lv hC [1, 2, 3, 0] [(0, _), (1, _), (2, _), (3, _)] rfl ?_
        exact ih10 (i + 1) (by first | assumption | omega) (by first | assumption | omega) (by omega)
  refine g_lv hC [1, 2, 3, 0] [(0, _), (1, _), (2, _), (3, _)] rfl ?_
  exact L10 ((s 19 - 0 : Int).toNat + 1) 0 (by first | assumption | omega) (by first | assumption | omega) (by omega)
set_option maxHeartbeats 4000000 in
set_option maxRecDepth 100000 in
theorem k_X10_ordersFrom_1I {K : gK} (m0 : Nat) (m1 : Nat) (m3 : Nat) (m10 : Nat) (m11 : Nat) (m12 : Nat) (m14 : Nat) (m16 : Nat) (m17 : Nat) (m18 : Nat) (w_thrown : Value) (w_image : Value) (w_hasImage : Value) (w_act : Value) (w_spot : Value) (w_end : Value) (w_isWrong : Value) (w_open : Value) (w_first : Value) (w_bodies : Value) (w_ran : Value) (w_kind : Value) (w_number : Value) (w_tellsV : Value) (rest : Int) (lu : Int) (s : Int → Int) (fr : Int → Int) (fb : Int → Int) (ft : Int → Int) (fu : Int → Int) (fn : Int → Int) (or : Int → Int) (bo : Int → Int) (rm : Int → Int) (W : (Int → Int) → Int) (rch : Int) (z : Int × List Nat) (P : List Nat) (r : Nat) (r_rest : rI rest) (r_lu : rI lu) (r_s : ∀ j, rI (s j)) (r_fr : ∀ j, rI (fr j)) (r_fb : ∀ j, rI (fb j)) (r_ft : rZ ft) (r_fu : ∀ j, rI (fu j)) (r_fn : ∀ j, rI (fn j)) (r_or : ∀ j, rI (or j)) (r_bo : ∀ j, rI (bo j)) (r_rm : ∀ j, rI (rm j)) (hg : md_rg s) (h0 : s 0 + 3 ≤ 20000) (hT : md_TK s W rch) (hpc : md_PC W (fun z => s (26 + z)) fu) (hrm : ∀ j, 0 ≤ j → j < 6 → rm j = s (13 + j)) (hRB : rm_R (s 19) lu bo z) (hP : P.length = 1) (hPo : ∀ q, 0 ≤ q → q < ((1 : Nat) : Int) → or q = rm_at P q ∧ 0 ≤ or q ∧ or q < s 19) (hr : (r : Int) = s 19 - 1) (hrs : 0 ≤ rest ∧ rest < 64) (hrn : bt_n rest = r) (hB : rm_B (s 19) rest P) (hr0 : ¬ r = 0) : gMet K yX10_ordersFrom cX10_ordersFrom 4 none 13 0 0 [.ref m0, .int (iI 1), .int (iI rest)] [cO m0 10 [w_thrown, .ref m1, w_image, .ref m3, w_hasImage, w_act, w_spot, w_end, w_isWrong, w_open, .ref m10, .ref m11, .ref m12, .int (iI 1), .ref m14, w_first, .ref m16, .ref m17, .ref m18, .int (iI lu), w_bodies, w_ran, w_kind, w_number, w_tellsV], cA K m1 922 s, cA K m3 19 fr, cA K m10 6 fb, cZ K m11 64 ft, cA K m12 36000 fu, cA K m14 6 fn, cA K m16 6 or, cA K m17 6 bo, cA K m18 6 rm] (fun v9 w9 => ∃ (fr2 : Int → Int), ∃ (fb2 : Int → Int), ∃ (ft2 : Int → Int), ∃ (fu2 : Int → Int), ∃ (fn2 : Int → Int), ∃ (lu2 : Int), ∃ (bo2 : Int → Int), ∃ (or2 : Int → Int), v9 = none ∧ w9 = [cO m0 10 [w_thrown, .ref m1, w_image, .ref m3, w_hasImage, w_act, w_spot, w_end, w_isWrong, w_open, .ref m10, .ref m11, .ref m12, .int (iI 1), .ref m14, w_first, .ref m16, .ref m17, .ref m18, .int (iI lu2), w_bodies, w_ran, w_kind, w_number, w_tellsV], cA K m1 922 s, cA K m3 19 fr2, cA K m10 6 fb2, cZ K m11 64 ft2, cA K m12 36000 fu2, cA K m14 6 fn2, cA K m16 6 or2, cA K m17 6 bo2, cA K m18 6 rm] ∧ (∀ j, rI (fr2 j)) ∧ (∀ j, rI (fb2 j)) ∧ rZ ft2 ∧ (∀ j, rI (fu2 j)) ∧ (∀ j, rI (fn2 j)) ∧ rI lu2 ∧ (∀ j, rI (bo2 j)) ∧ (∀ j, rI (or2 j)) ∧ (rm_R (s 19) lu2 bo2 (List.foldl (rm_st W rch s) z (rm_lv (s 19).toNat r P))) ∧ (md_PC W (fun z => s (26 + z)) fu2) ∧ (∀ q, 0 ≤ q → q < ((1 : Nat) : Int) → or2 q = or q)) := by
  refine g_enter (by decide +kernel) (Nat.le_of_ble_eq_true rfl) (fun G hC hR => ?_)
  refine g_lv hC [0, 1, 2] [(0, _), (1, _), (2, _)] rfl ?_
  have hg0 := hg.2.2.2
  have h19 := hg.2.2.1
  obtain ⟨r1, rfl⟩ : ∃ r1, r = r1 + 1 := ⟨r - 1, by omega⟩
  have hz : ¬ rest = 0 := fun h9 => by have h8 := (bt_1 hrs (p := 0) (by omega)).2.2.2.2 h9; omega
  refine g_iload_n (pc := 0) hC 2 dX10_ordersFrom_0 rfl rfl ?_
  refine g_if_ne (pc := 1) hC 8 dX10_ordersFrom_1 (by decide) (by omega) (fun c1 => ?_) (fun c1 => by exfalso; omega)
  refine g_iconst (pc := 8) hC dX10_ordersFrom_8 ?_
  refine g_istore_n (pc := 9) hC [(3, _), (0, _), (1, _), (2, _)] dX10_ordersFrom_9 rfl (by decide) rfl ?_
  have L10 : ∀ (n1 : Nat) (i : Int) (or1 : Int → Int) (lu1 : Int) (bo1 : Int → Int) (g0 : Int → Int) (f1 : Int → Int) (f2 : Int → Int) (f3 : Int → Int) (f4 : Int → Int) (j : Nat), (rI i) → (∀ j, rI (or1 j)) → (rI lu1) → (∀ j, rI (bo1 j)) → (∀ j, rI (g0 j)) → (∀ j, rI (f1 j)) → (rZ f2) → (∀ j, rI (f3 j)) → (∀ j, rI (f4 j)) → (i = (j : Int)) → (i ≤ s 19) → (rm_R (s 19) lu1 bo1 (List.foldl (rm_st W rch s) z (rm_l (fun p => if P.elem p then [] else rm_lv (s 19).toNat r1 (P ++ [p])) j))) → (∀ q, 0 ≤ q → q < ((1 : Nat) : Int) → or1 q = or q) → (md_PC W (fun z => s (26 + z)) f3) → s 19 - i < (n1 : Int) → G 0 0 10 [(0, .ref m0), (1, .int (iI 1)), (2, .int (iI rest)), (3, .int (iI i))] [] [cO m0 10 [w_thrown, .ref m1, w_image, .ref m3, w_hasImage, w_act, w_spot, w_end, w_isWrong, w_open, .ref m10, .ref m11, .ref m12, .int (iI 1), .ref m14, w_first, .ref m16, .ref m17, .ref m18, .int (iI lu1), w_bodies, w_ran, w_kind, w_number, w_tellsV], cA K m1 922 s, cA K m3 19 g0, cA K m10 6 f1, cZ K m11 64 f2, cA K m12 36000 f3, cA K m14 6 f4, cA K m16 6 or1, cA K m17 6 bo1, cA K m18 6 rm] := by
    intro n1
    induction n1 with
    | zero => intro i or1 lu1 bo1 g0 f1 f2 f3 f4 j r_i r_or1 r_lu1 r_bo1 r_g0 r_f1 r_f2 r_f3 r_f4 hi hj hR1 ho1 hpc1 hm10; exfalso; omega
    | succ n1 ih10 =>
      intro i or1 lu1 bo1 g0 f1 f2 f3 f4 j r_i r_or1 r_lu1 r_bo1 r_g0 r_f1 r_f2 r_f3 r_f4 hi hj hR1 ho1 hpc1 hm10
      refine g_iload_n (pc := 10) hC 3 dX10_ordersFrom_10 rfl rfl ?_
      refine g_aload_n (pc := 11) hC 0 dX10_ordersFrom_11 rfl rfl ?_
      refine g_get (pc := 12) hC 0 fl_X10_9 dX10_ordersFrom_12 rfl rfl ?_
      refine g_bipush (pc := 15) hC (19) dX10_ordersFrom_15 (by decide) ?_
      refine g_iald (pc := 17) hC 1 dX10_ordersFrom_17 rfl (by omega) ?_
      have q2 := r_s 19
      refine g_icmp_ge (pc := 18) hC 57 dX10_ordersFrom_18 (by decide) (by omega) (by omega) (fun c18 => ?_) (fun c18 => ?_)
      · exact g_vret (pc := 57) hR dX10_ordersFrom_57 rfl ⟨by omega, by omega⟩ (Nat.le_of_ble_eq_true rfl) ⟨g0, f1, f2, f3, f4, lu1, bo1, or1, rfl, rfl, (by first | assumption | omega), (by first | assumption | omega), (by first | assumption | omega), (by first | assumption | omega), (by first | assumption | omega), (by first | assumption | omega), (by first | assumption | omega), (by first | assumption | omega), (by rw [show j = (s 19).toNat by omega] at hR1; exact hR1), hpc1, ho1⟩
      · refine g_iload_n (pc := 21) hC 2 dX10_ordersFrom_21 rfl rfl ?_
        refine g_iload_n (pc := 22) hC 3 dX10_ordersFrom_22 rfl rfl ?_
        refine g_ishr (pc := 23) hC dX10_ordersFrom_23 ?_
        refine g_iconst (pc := 24) hC dX10_ordersFrom_24 ?_
        refine g_iand (pc := 25) hC dX10_ordersFrom_25 ?_
        refine g_iconst (pc := 26) hC dX10_ordersFrom_26 ?_
        have hb1 := bt_1 hrs (p := i) (by omega)
        refine g_icmp_ne (pc := 27) hC 51 dX10_ordersFrom_27 (by decide) (by omega) (by omega) (fun c27 => ?_) (fun c27 => ?_)
        · refine g_iinc (pc := 51) hC 3 [(3, _), (0, _), (1, _), (2, _)] dX10_ordersFrom_51 rfl (by decide) rfl ?_
          refine g_goto (pc := 54) hC 10 dX10_ordersFrom_54 (by decide) ?_
          refine g_lv hC [1, 2, 3, 0] [(0, _), (1, _), (2, _), (3, _)] rfl ?_
          exact ih10 (i + 1) or1 lu1 bo1 g0 f1 f2 f3 f4 (j + 1) (by first | assumption | omega) (by first | assumption | omega) (by first | assumption | omega) (by first | assumption | omega) (by first | assumption | omega) (by first | assumption | omega) (by first | assumption | omega) (by first | assumption | omega) (by first | assumption | omega) (by first | assumption | omega) (by first | assumption | omega) (by rw [rm_fold_0 hB hi (by omega) c27]; exact hR1) ho1 hpc1 (by omega)
        · refine g_aload_n (pc := 30) hC 0 dX10_ordersFrom_30 rfl rfl ?_
          refine g_get (pc := 31) hC 0 fl_X10_38 dX10_ordersFrom_31 rfl rfl ?_
          refine g_iload_n (pc := 34) hC 1 dX10_ordersFrom_34 rfl rfl ?_
          refine g_iload_n (pc := 35) hC 3 dX10_ordersFrom_35 rfl rfl ?_
          refine g_iast (pc := 36) hC 7 (fun f9 => [_, _, _, _, _, _, _, cA K _ _ f9, _, _]) dX10_ordersFrom_36 rfl (by omega) (fun _ => rfl) (fun or3 e_or3 => ?_)
          have r_or3 := rng_up e_or3 r_or1 (by omega)
          have hPo9 := rm_at_app (P := P) (or := or1) (o2 := or3) (k := 1) (c := s 19) hP hi (by omega) (fun q h1 h2 => by rw [ho1 q h1 h2]; exact hPo q h1 h2) e_or3
          refine g_aload_n (pc := 37) hC 0 dX10_ordersFrom_37 rfl rfl ?_
          refine g_iload_n (pc := 38) hC 1 dX10_ordersFrom_38 rfl rfl ?_
          refine g_iconst (pc := 39) hC dX10_ordersFrom_39 ?_
          refine g_iadd (pc := 40) hC dX10_ordersFrom_40 ?_
          refine g_iload_n (pc := 41) hC 2 dX10_ordersFrom_41 rfl rfl ?_
          refine g_iconst (pc := 42) hC dX10_ordersFrom_42 ?_
          refine g_iload_n (pc := 43) hC 3 dX10_ordersFrom_43 rfl rfl ?_
          refine g_ishl (pc := 44) hC dX10_ordersFrom_44 ?_
          refine g_iconst (pc := 45) hC dX10_ordersFrom_45 ?_
          refine g_ixor (pc := 46) hC dX10_ordersFrom_46 ?_
          refine g_iand (pc := 47) hC dX10_ordersFrom_47 ?_
          refine g_callV (pc := 48) (qr := 0) hC [0, 1, 2, 3, 4, 5, 6, 7, 8, 9] (k_X10_ordersFrom_2 _ _ _ _ _ _ _ _ _ _ _ _ _ _ _ _ _ _ _ _ _ _ _ _ _ _ _ _ _ _ _ _ _ _ _ _ _ (List.foldl (rm_st W rch s) z (rm_l (fun p => if P.elem p then [] else rm_lv (s 19).toNat r1 (P ++ [p])) j)) (P ++ [j]) r1 (by first | assumption | omega) (by first | assumption | omega) (by first | assumption | omega) (by first | assumption | omega) (by first | assumption | omega) (by first | assumption | omega) (by first | assumption | omega) (by first | assumption | omega) (by first | assumption | omega) (by first | assumption | omega) (by first | assumption | omega) (by first | assumption | omega) (by first | assumption | omega) (by first | assumption | omega) hpc1 (by first | assumption | omega) hR1 (by rw [List.length_append, hP]; rfl) hPo9 (by omega) hb1.2.1 (by have h9 := hb1.2.2.1 (by omega); unfold bt_out at h9; omega) (rm_B_s h19.2 hrs hi (by omega) hB)) cl_X10_ordersFrom wm_X10_206 dX10_ordersFrom_48 rfl rfl rfl rfl rfl (by decide) (by decide) (by omega) (Nat.le_of_ble_eq_true rfl) rfl (fun v9 w9 hq9 => ?_)
          obtain ⟨fr4, fb4, ft4, fu4, fn4, lu4, bo4, or4, rfl, rfl, r_fr4, r_fb4, r_ft4, r_fu4, r_fn4, r_lu4, r_bo4, r_or4, hR2_48, hpc2_48, ho2_48⟩ := hq9
          refine g_ws hC [cO m0 10 [w_thrown, .ref m1, w_image, .ref m3, w_hasImage, w_act, w_spot, w_end, w_isWrong, w_open, .ref m10, .ref m11, .ref m12, .int (iI 1), .ref m14, w_first, .ref m16, .ref m17, .ref m18, .int (iI lu4), w_bodies, w_ran, w_kind, w_number, w_tellsV], cA K m1 922 s, cA K m3 19 fr4, cA K m10 6 fb4, cZ K m11 64 ft4, cA K m12 36000 fu4, cA K m14 6 fn4, cA K m16 6 or4, cA K m17 6 bo4, cA K m18 6 rm] rfl ?_
          refine g_st hC [] rfl ?_
          refine g_iinc (pc := 51) hC 3 [(3, _), (0, _), (1, _), (2, _)] dX10_ordersFrom_51 rfl (by decide) rfl ?_
          refine g_goto (pc := 54) hC 10 dX10_ordersFrom_54 (by decide) ?_
          refine g_lv hC [1, 2, 3, 0] [(0, _), (1, _), (2, _), (3, _)] rfl ?_
          exact ih10 (i + 1) or4 lu4 bo4 fr4 fb4 ft4 fu4 fn4 (j + 1) (by first | assumption | omega) (by first | assumption | omega) (by first | assumption | omega) (by first | assumption | omega) (by first | assumption | omega) (by first | assumption | omega) (by first | assumption | omega) (by first | assumption | omega) (by first | assumption | omega) (by first | assumption | omega) (by first | assumption | omega) (by rw [rm_fold_1 hB hi (by omega) (by omega)]; exact hR2_48) (fun q h1 h2 => by rw [ho2_48 q h1 (by omega), e_or3, upI_ne (by omega)]; exact ho1 q h1 h2) hpc2_48 (by omega)
  refine g_lv hC [1, 2, 3, 0] [(0, _), (1, _), (2, _), (3, _)] rfl ?_
  exact L10 ((s 19 - 0 : Int).toNat + 1) 0 or lu bo fr fb ft fu fn 0 (by first | assumption | omega) (by first | assumption | omega) (by first | assumption | omega) (by first | assumption | omega) (by first | assumption | omega) (by first | assumption | omega) (by first | assumption | omega) (by first | assumption | omega) (by first | assumption | omega) (by first | assumption | omega) (by first | assumption | omega) hRB (fun q h1 h2 => rfl) (by first | assumption | omega) (by omega)
theorem k_X10_ordersFrom_1 {K : gK} (m0 : Nat) (m1 : Nat) (m3 : Nat) (m10 : Nat) (m11 : Nat) (m12 : Nat) (m14 : Nat) (m16 : Nat) (m17 : Nat) (m18 : Nat) (w_thrown : Value) (w_image : Value) (w_hasImage : Value) (w_act : Value) (w_spot : Value) (w_end : Value) (w_isWrong : Value) (w_open : Value) (w_first : Value) (w_bodies : Value) (w_ran : Value) (w_kind : Value) (w_number : Value) (w_tellsV : Value) (rest : Int) (lu : Int) (s : Int → Int) (fr : Int → Int) (fb : Int → Int) (ft : Int → Int) (fu : Int → Int) (fn : Int → Int) (or : Int → Int) (bo : Int → Int) (rm : Int → Int) (W : (Int → Int) → Int) (rch : Int) (z : Int × List Nat) (P : List Nat) (r : Nat) (r_rest : rI rest) (r_lu : rI lu) (r_s : ∀ j, rI (s j)) (r_fr : ∀ j, rI (fr j)) (r_fb : ∀ j, rI (fb j)) (r_ft : rZ ft) (r_fu : ∀ j, rI (fu j)) (r_fn : ∀ j, rI (fn j)) (r_or : ∀ j, rI (or j)) (r_bo : ∀ j, rI (bo j)) (r_rm : ∀ j, rI (rm j)) (hg : md_rg s) (h0 : s 0 + 3 ≤ 20000) (hT : md_TK s W rch) (hpc : md_PC W (fun z => s (26 + z)) fu) (hrm : ∀ j, 0 ≤ j → j < 6 → rm j = s (13 + j)) (hRB : rm_R (s 19) lu bo z) (hP : P.length = 1) (hPo : ∀ q, 0 ≤ q → q < ((1 : Nat) : Int) → or q = rm_at P q ∧ 0 ≤ or q ∧ or q < s 19) (hr : (r : Int) = s 19 - 1) (hrs : 0 ≤ rest ∧ rest < 64) (hrn : bt_n rest = r) (hB : rm_B (s 19) rest P) : gMet K yX10_ordersFrom cX10_ordersFrom 4 none 13 0 0 [.ref m0, .int (iI 1), .int (iI rest)] [cO m0 10 [w_thrown, .ref m1, w_image, .ref m3, w_hasImage, w_act, w_spot, w_end, w_isWrong, w_open, .ref m10, .ref m11, .ref m12, .int (iI 1), .ref m14, w_first, .ref m16, .ref m17, .ref m18, .int (iI lu), w_bodies, w_ran, w_kind, w_number, w_tellsV], cA K m1 922 s, cA K m3 19 fr, cA K m10 6 fb, cZ K m11 64 ft, cA K m12 36000 fu, cA K m14 6 fn, cA K m16 6 or, cA K m17 6 bo, cA K m18 6 rm] (fun v9 w9 => ∃ (fr2 : Int → Int), ∃ (fb2 : Int → Int), ∃ (ft2 : Int → Int), ∃ (fu2 : Int → Int), ∃ (fn2 : Int → Int), ∃ (lu2 : Int), ∃ (bo2 : Int → Int), ∃ (or2 : Int → Int), v9 = none ∧ w9 = [cO m0 10 [w_thrown, .ref m1, w_image, .ref m3, w_hasImage, w_act, w_spot, w_end, w_isWrong, w_open, .ref m10, .ref m11, .ref m12, .int (iI 1), .ref m14, w_first, .ref m16, .ref m17, .ref m18, .int (iI lu2), w_bodies, w_ran, w_kind, w_number, w_tellsV], cA K m1 922 s, cA K m3 19 fr2, cA K m10 6 fb2, cZ K m11 64 ft2, cA K m12 36000 fu2, cA K m14 6 fn2, cA K m16 6 or2, cA K m17 6 bo2, cA K m18 6 rm] ∧ (∀ j, rI (fr2 j)) ∧ (∀ j, rI (fb2 j)) ∧ rZ ft2 ∧ (∀ j, rI (fu2 j)) ∧ (∀ j, rI (fn2 j)) ∧ rI lu2 ∧ (∀ j, rI (bo2 j)) ∧ (∀ j, rI (or2 j)) ∧ (rm_R (s 19) lu2 bo2 (List.foldl (rm_st W rch s) z (rm_lv (s 19).toNat r P))) ∧ (md_PC W (fun z => s (26 + z)) fu2) ∧ (∀ q, 0 ≤ q → q < ((1 : Nat) : Int) → or2 q = or q)) := by
  by_cases hr0 : r = 0
  · exact k_X10_ordersFrom_1L m0 m1 m3 m10 m11 m12 m14 m16 m17 m18 w_thrown w_image w_hasImage w_act w_spot w_end w_isWrong w_open w_first w_bodies w_ran w_kind w_number w_tellsV rest lu s fr fb ft fu fn or bo rm W rch z P r r_rest r_lu r_s r_fr r_fb r_ft r_fu r_fn r_or r_bo r_rm hg h0 hT hpc hrm hRB hP hPo hr hrs hrn hB hr0
  · exact k_X10_ordersFrom_1I m0 m1 m3 m10 m11 m12 m14 m16 m17 m18 w_thrown w_image w_hasImage w_act w_spot w_end w_isWrong w_open w_first w_bodies w_ran w_kind w_number w_tellsV rest lu s fr fb ft fu fn or bo rm W rch z P r r_rest r_lu r_s r_fr r_fb r_ft r_fu r_fn r_or r_bo r_rm hg h0 hT hpc hrm hRB hP hPo hr hrs hrn hB hr0
set_option maxHeartbeats 4000000 in
set_option maxRecDepth 100000 in
theorem k_X10_ordersFrom_0L {K : gK} (m0 : Nat) (m1 : Nat) (m3 : Nat) (m10 : Nat) (m11 : Nat) (m12 : Nat) (m14 : Nat) (m16 : Nat) (m17 : Nat) (m18 : Nat) (w_thrown : Value) (w_image : Value) (w_hasImage : Value) (w_act : Value) (w_spot : Value) (w_end : Value) (w_isWrong : Value) (w_open : Value) (w_first : Value) (w_bodies : Value) (w_ran : Value) (w_kind : Value) (w_number : Value) (w_tellsV : Value) (rest : Int) (lu : Int) (s : Int → Int) (fr : Int → Int) (fb : Int → Int) (ft : Int → Int) (fu : Int → Int) (fn : Int → Int) (or : Int → Int) (bo : Int → Int) (rm : Int → Int) (W : (Int → Int) → Int) (rch : Int) (z : Int × List Nat) (P : List Nat) (r : Nat) (r_rest : rI rest) (r_lu : rI lu) (r_s : ∀ j, rI (s j)) (r_fr : ∀ j, rI (fr j)) (r_fb : ∀ j, rI (fb j)) (r_ft : rZ ft) (r_fu : ∀ j, rI (fu j)) (r_fn : ∀ j, rI (fn j)) (r_or : ∀ j, rI (or j)) (r_bo : ∀ j, rI (bo j)) (r_rm : ∀ j, rI (rm j)) (hg : md_rg s) (h0 : s 0 + 3 ≤ 20000) (hT : md_TK s W rch) (hpc : md_PC W (fun z => s (26 + z)) fu) (hrm : ∀ j, 0 ≤ j → j < 6 → rm j = s (13 + j)) (hRB : rm_R (s 19) lu bo z) (hP : P.length = 0) (hPo : ∀ q, 0 ≤ q → q < ((0 : Nat) : Int) → or q = rm_at P q ∧ 0 ≤ or q ∧ or q < s 19) (hr : (r : Int) = s 19 - 0) (hrs : 0 ≤ rest ∧ rest < 64) (hrn : bt_n rest = r) (hB : rm_B (s 19) rest P) (hr0 : r = 0) : gMet K yX10_ordersFrom cX10_ordersFrom 4 none 14 0 0 [.ref m0, .int (iI 0), .int (iI rest)] [cO m0 10 [w_thrown, .ref m1, w_image, .ref m3, w_hasImage, w_act, w_spot, w_end, w_isWrong, w_open, .ref m10, .ref m11, .ref m12, .int (iI 1), .ref m14, w_first, .ref m16, .ref m17, .ref m18, .int (iI lu), w_bodies, w_ran, w_kind, w_number, w_tellsV], cA K m1 922 s, cA K m3 19 fr, cA K m10 6 fb, cZ K m11 64 ft, cA K m12 36000 fu, cA K m14 6 fn, cA K m16 6 or, cA K m17 6 bo, cA K m18 6 rm] (fun v9 w9 => ∃ (fr2 : Int → Int), ∃ (fb2 : Int → Int), ∃ (ft2 : Int → Int), ∃ (fu2 : Int → Int), ∃ (fn2 : Int → Int), ∃ (lu2 : Int), ∃ (bo2 : Int → Int), ∃ (or2 : Int → Int), v9 = none ∧ w9 = [cO m0 10 [w_thrown, .ref m1, w_image, .ref m3, w_hasImage, w_act, w_spot, w_end, w_isWrong, w_open, .ref m10, .ref m11, .ref m12, .int (iI 1), .ref m14, w_first, .ref m16, .ref m17, .ref m18, .int (iI lu2), w_bodies, w_ran, w_kind, w_number, w_tellsV], cA K m1 922 s, cA K m3 19 fr2, cA K m10 6 fb2, cZ K m11 64 ft2, cA K m12 36000 fu2, cA K m14 6 fn2, cA K m16 6 or2, cA K m17 6 bo2, cA K m18 6 rm] ∧ (∀ j, rI (fr2 j)) ∧ (∀ j, rI (fb2 j)) ∧ rZ ft2 ∧ (∀ j, rI (fu2 j)) ∧ (∀ j, rI (fn2 j)) ∧ rI lu2 ∧ (∀ j, rI (bo2 j)) ∧ (∀ j, rI (or2 j)) ∧ (rm_R (s 19) lu2 bo2 (List.foldl (rm_st W rch s) z (rm_lv (s 19).toNat r P))) ∧ (md_PC W (fun z => s (26 + z)) fu2) ∧ (∀ q, 0 ≤ q → q < ((0 : Nat) : Int) → or2 q = or q)) := by
  refine g_enter (by decide +kernel) (Nat.le_of_ble_eq_true rfl) (fun G hC hR => ?_)
  refine g_lv hC [0, 1, 2] [(0, _), (1, _), (2, _)] rfl ?_
  have hg0 := hg.2.2.2
  have h19 := hg.2.2.1
  have h09 := bt_1 hrs (p := 0) (by omega)
  have hz : rest = 0 := h09.2.2.2.1 (by omega)
  refine g_iload_n (pc := 0) hC 2 dX10_ordersFrom_0 rfl rfl ?_
  refine g_if_ne (pc := 1) hC 8 dX10_ordersFrom_1 (by decide) (by omega) (fun c1 => by exfalso; omega) (fun c1 => ?_)
  refine g_aload_n (pc := 4) hC 0 dX10_ordersFrom_4 rfl rfl ?_
  refine g_callV (pc := 5) (qr := 0) hC [0, 1, 2, 3, 4, 5, 6, 7, 8, 9] (k_X10_triesOrder _ _ _ _ _ _ _ _ _ _ _ _ _ _ _ _ _ _ _ _ _ _ _ _ _ _ _ _ _ _ _ _ _ _ _ _ _ _ (by first | assumption | omega) (by first | assumption | omega) (by first | assumption | omega) (by first | assumption | omega) (by first | assumption | omega) (by first | assumption | omega) (by first | assumption | omega) (by first | assumption | omega) (by first | assumption | omega) (by first | assumption | omega) (by first | assumption | omega) (by first | assumption | omega) (by first | assumption | omega) (by first | assumption | omega) (by first | assumption | omega) (by first | assumption | omega) (fun j h1 h2 => by have h9 := hPo j h1 (by omega); exact ⟨h9.1, h9.2.1, by omega⟩)) cl_X10_triesOrder wm_X10_203 dX10_ordersFrom_5 rfl rfl rfl rfl rfl (by decide) (by decide) (by omega) (Nat.le_of_ble_eq_true rfl) rfl (fun v9 w9 hq9 => ?_)
  obtain ⟨fr1, fb1, ft1, fu1, fn1, lu1, bo1, rfl, rfl, r_fr1, r_fb1, r_ft1, r_fu1, r_fn1, r_lu1, r_bo1, hR2_5, hpc2_5⟩ := hq9
  refine g_ws hC [cO m0 10 [w_thrown, .ref m1, w_image, .ref m3, w_hasImage, w_act, w_spot, w_end, w_isWrong, w_open, .ref m10, .ref m11, .ref m12, .int (iI 1), .ref m14, w_first, .ref m16, .ref m17, .ref m18, .int (iI lu1), w_bodies, w_ran, w_kind, w_number, w_tellsV], cA K m1 922 s, cA K m3 19 fr1, cA K m10 6 fb1, cZ K m11 64 ft1, cA K m12 36000 fu1, cA K m14 6 fn1, cA K m16 6 or, cA K m17 6 bo1, cA K m18 6 rm] rfl ?_
  refine g_st hC [] rfl ?_
  refine g_iconst (pc := 8) hC dX10_ordersFrom_8 ?_
  refine g_istore_n (pc := 9) hC [(3, _), (0, _), (1, _), (2, _)] dX10_ordersFrom_9 rfl (by decide) rfl ?_
  have L10 : ∀ (n1 : Nat) (i : Int), (rI i) → (0 ≤ i ∧ i ≤ s 19) → s 19 - i < (n1 : Int) → G 0 0 10 [(0, .ref m0), (1, .int (iI 0)), (2, .int (iI rest)), (3, .int (iI i))] [] [cO m0 10 [w_thrown, .ref m1, w_image, .ref m3, w_hasImage, w_act, w_spot, w_end, w_isWrong, w_open, .ref m10, .ref m11, .ref m12, .int (iI 1), .ref m14, w_first, .ref m16, .ref m17, .ref m18, .int (iI lu1), w_bodies, w_ran, w_kind, w_number, w_tellsV], cA K m1 922 s, cA K m3 19 fr1, cA K m10 6 fb1, cZ K m11 64 ft1, cA K m12 36000 fu1, cA K m14 6 fn1, cA K m16 6 or, cA K m17 6 bo1, cA K m18 6 rm] := by
    intro n1
    induction n1 with
    | zero => intro i r_i hi hm10; exfalso; omega
    | succ n1 ih10 =>
      intro i r_i hi hm10
      refine g_iload_n (pc := 10) hC 3 dX10_ordersFrom_10 rfl rfl ?_
      refine g_aload_n (pc := 11) hC 0 dX10_ordersFrom_11 rfl rfl ?_
      refine g_get (pc := 12) hC 0 fl_X10_9 dX10_ordersFrom_12 rfl rfl ?_
      refine g_bipush (pc := 15) hC (19) dX10_ordersFrom_15 (by decide) ?_
      refine g_iald (pc := 17) hC 1 dX10_ordersFrom_17 rfl (by omega) ?_
      have q2 := r_s 19
      refine g_icmp_ge (pc := 18) hC 57 dX10_ordersFrom_18 (by decide) (by omega) (by omega) (fun c18 => ?_) (fun c18 => ?_)
      · exact g_vret (pc := 57) hR dX10_ordersFrom_57 rfl ⟨by omega, by omega⟩ (Nat.le_of_ble_eq_true rfl) ⟨fr1, fb1, ft1, fu1, fn1, lu1, bo1, or, rfl, rfl, (by first | assumption | omega), (by first | assumption | omega), (by first | assumption | omega), (by first | assumption | omega), (by first | assumption | omega), (by first | assumption | omega), (by first | assumption | omega), (by first | assumption | omega), (by rw [show r = 0 from hr0]; exact hR2_5), hpc2_5, (fun q h1 h2 => rfl)⟩
      · refine g_iload_n (pc := 21) hC 2 dX10_ordersFrom_21 rfl rfl ?_
        refine g_iload_n (pc := 22) hC 3 dX10_ordersFrom_22 rfl rfl ?_
        refine g_ishr (pc := 23) hC dX10_ordersFrom_23 ?_
        refine g_iconst (pc := 24) hC dX10_ordersFrom_24 ?_
        refine g_iand (pc := 25) hC dX10_ordersFrom_25 ?_
        refine g_iconst (pc := 26) hC dX10_ordersFrom_26 ?_
        have hb0 : bAnd (bShr rest i) 1 = 0 := ((bt_1 hrs (p := i) (by omega)).2.2.2.2 hz).2
        refine g_icmp_ne (pc := 27) hC 51 dX10_ordersFrom_27 (by decide) (by omega) (by omega) (fun c27 => ?_) (fun c27 => by exfalso; omega)
        refine g_iinc (pc := 51) hC 3 [(3, _), (0, _), (1, _), (2, _)] dX10_ordersFrom_51 rfl (by decide) rfl ?_
        refine g_goto (pc := 54) hC 10 dX10_ordersFrom_54 (by decide) ?_
        refine g_lv hC [1, 2, 3, 0] [(0, _), (1, _), (2, _), (3, _)] rfl ?_
        exact ih10 (i + 1) (by first | assumption | omega) (by first | assumption | omega) (by omega)
  refine g_lv hC [1, 2, 3, 0] [(0, _), (1, _), (2, _), (3, _)] rfl ?_
  exact L10 ((s 19 - 0 : Int).toNat + 1) 0 (by first | assumption | omega) (by first | assumption | omega) (by omega)
set_option maxHeartbeats 4000000 in
set_option maxRecDepth 100000 in
theorem k_X10_ordersFrom_0I {K : gK} (m0 : Nat) (m1 : Nat) (m3 : Nat) (m10 : Nat) (m11 : Nat) (m12 : Nat) (m14 : Nat) (m16 : Nat) (m17 : Nat) (m18 : Nat) (w_thrown : Value) (w_image : Value) (w_hasImage : Value) (w_act : Value) (w_spot : Value) (w_end : Value) (w_isWrong : Value) (w_open : Value) (w_first : Value) (w_bodies : Value) (w_ran : Value) (w_kind : Value) (w_number : Value) (w_tellsV : Value) (rest : Int) (lu : Int) (s : Int → Int) (fr : Int → Int) (fb : Int → Int) (ft : Int → Int) (fu : Int → Int) (fn : Int → Int) (or : Int → Int) (bo : Int → Int) (rm : Int → Int) (W : (Int → Int) → Int) (rch : Int) (z : Int × List Nat) (P : List Nat) (r : Nat) (r_rest : rI rest) (r_lu : rI lu) (r_s : ∀ j, rI (s j)) (r_fr : ∀ j, rI (fr j)) (r_fb : ∀ j, rI (fb j)) (r_ft : rZ ft) (r_fu : ∀ j, rI (fu j)) (r_fn : ∀ j, rI (fn j)) (r_or : ∀ j, rI (or j)) (r_bo : ∀ j, rI (bo j)) (r_rm : ∀ j, rI (rm j)) (hg : md_rg s) (h0 : s 0 + 3 ≤ 20000) (hT : md_TK s W rch) (hpc : md_PC W (fun z => s (26 + z)) fu) (hrm : ∀ j, 0 ≤ j → j < 6 → rm j = s (13 + j)) (hRB : rm_R (s 19) lu bo z) (hP : P.length = 0) (hPo : ∀ q, 0 ≤ q → q < ((0 : Nat) : Int) → or q = rm_at P q ∧ 0 ≤ or q ∧ or q < s 19) (hr : (r : Int) = s 19 - 0) (hrs : 0 ≤ rest ∧ rest < 64) (hrn : bt_n rest = r) (hB : rm_B (s 19) rest P) (hr0 : ¬ r = 0) : gMet K yX10_ordersFrom cX10_ordersFrom 4 none 14 0 0 [.ref m0, .int (iI 0), .int (iI rest)] [cO m0 10 [w_thrown, .ref m1, w_image, .ref m3, w_hasImage, w_act, w_spot, w_end, w_isWrong, w_open, .ref m10, .ref m11, .ref m12, .int (iI 1), .ref m14, w_first, .ref m16, .ref m17, .ref m18, .int (iI lu), w_bodies, w_ran, w_kind, w_number, w_tellsV], cA K m1 922 s, cA K m3 19 fr, cA K m10 6 fb, cZ K m11 64 ft, cA K m12 36000 fu, cA K m14 6 fn, cA K m16 6 or, cA K m17 6 bo, cA K m18 6 rm] (fun v9 w9 => ∃ (fr2 : Int → Int), ∃ (fb2 : Int → Int), ∃ (ft2 : Int → Int), ∃ (fu2 : Int → Int), ∃ (fn2 : Int → Int), ∃ (lu2 : Int), ∃ (bo2 : Int → Int), ∃ (or2 : Int → Int), v9 = none ∧ w9 = [cO m0 10 [w_thrown, .ref m1, w_image, .ref m3, w_hasImage, w_act, w_spot, w_end, w_isWrong, w_open, .ref m10, .ref m11, .ref m12, .int (iI 1), .ref m14, w_first, .ref m16, .ref m17, .ref m18, .int (iI lu2), w_bodies, w_ran, w_kind, w_number, w_tellsV], cA K m1 922 s, cA K m3 19 fr2, cA K m10 6 fb2, cZ K m11 64 ft2, cA K m12 36000 fu2, cA K m14 6 fn2, cA K m16 6 or2, cA K m17 6 bo2, cA K m18 6 rm] ∧ (∀ j, rI (fr2 j)) ∧ (∀ j, rI (fb2 j)) ∧ rZ ft2 ∧ (∀ j, rI (fu2 j)) ∧ (∀ j, rI (fn2 j)) ∧ rI lu2 ∧ (∀ j, rI (bo2 j)) ∧ (∀ j, rI (or2 j)) ∧ (rm_R (s 19) lu2 bo2 (List.foldl (rm_st W rch s) z (rm_lv (s 19).toNat r P))) ∧ (md_PC W (fun z => s (26 + z)) fu2) ∧ (∀ q, 0 ≤ q → q < ((0 : Nat) : Int) → or2 q = or q)) := by
  refine g_enter (by decide +kernel) (Nat.le_of_ble_eq_true rfl) (fun G hC hR => ?_)
  refine g_lv hC [0, 1, 2] [(0, _), (1, _), (2, _)] rfl ?_
  have hg0 := hg.2.2.2
  have h19 := hg.2.2.1
  obtain ⟨r1, rfl⟩ : ∃ r1, r = r1 + 1 := ⟨r - 1, by omega⟩
  have hz : ¬ rest = 0 := fun h9 => by have h8 := (bt_1 hrs (p := 0) (by omega)).2.2.2.2 h9; omega
  refine g_iload_n (pc := 0) hC 2 dX10_ordersFrom_0 rfl rfl ?_
  refine g_if_ne (pc := 1) hC 8 dX10_ordersFrom_1 (by decide) (by omega) (fun c1 => ?_) (fun c1 => by exfalso; omega)
  refine g_iconst (pc := 8) hC dX10_ordersFrom_8 ?_
  refine g_istore_n (pc := 9) hC [(3, _), (0, _), (1, _), (2, _)] dX10_ordersFrom_9 rfl (by decide) rfl ?_
  have L10 : ∀ (n1 : Nat) (i : Int) (or1 : Int → Int) (lu1 : Int) (bo1 : Int → Int) (g0 : Int → Int) (f1 : Int → Int) (f2 : Int → Int) (f3 : Int → Int) (f4 : Int → Int) (j : Nat), (rI i) → (∀ j, rI (or1 j)) → (rI lu1) → (∀ j, rI (bo1 j)) → (∀ j, rI (g0 j)) → (∀ j, rI (f1 j)) → (rZ f2) → (∀ j, rI (f3 j)) → (∀ j, rI (f4 j)) → (i = (j : Int)) → (i ≤ s 19) → (rm_R (s 19) lu1 bo1 (List.foldl (rm_st W rch s) z (rm_l (fun p => if P.elem p then [] else rm_lv (s 19).toNat r1 (P ++ [p])) j))) → (∀ q, 0 ≤ q → q < ((0 : Nat) : Int) → or1 q = or q) → (md_PC W (fun z => s (26 + z)) f3) → s 19 - i < (n1 : Int) → G 0 0 10 [(0, .ref m0), (1, .int (iI 0)), (2, .int (iI rest)), (3, .int (iI i))] [] [cO m0 10 [w_thrown, .ref m1, w_image, .ref m3, w_hasImage, w_act, w_spot, w_end, w_isWrong, w_open, .ref m10, .ref m11, .ref m12, .int (iI 1), .ref m14, w_first, .ref m16, .ref m17, .ref m18, .int (iI lu1), w_bodies, w_ran, w_kind, w_number, w_tellsV], cA K m1 922 s, cA K m3 19 g0, cA K m10 6 f1, cZ K m11 64 f2, cA K m12 36000 f3, cA K m14 6 f4, cA K m16 6 or1, cA K m17 6 bo1, cA K m18 6 rm] := by
    intro n1
    induction n1 with
    | zero => intro i or1 lu1 bo1 g0 f1 f2 f3 f4 j r_i r_or1 r_lu1 r_bo1 r_g0 r_f1 r_f2 r_f3 r_f4 hi hj hR1 ho1 hpc1 hm10; exfalso; omega
    | succ n1 ih10 =>
      intro i or1 lu1 bo1 g0 f1 f2 f3 f4 j r_i r_or1 r_lu1 r_bo1 r_g0 r_f1 r_f2 r_f3 r_f4 hi hj hR1 ho1 hpc1 hm10
      refine g_iload_n (pc := 10) hC 3 dX10_ordersFrom_10 rfl rfl ?_
      refine g_aload_n (pc := 11) hC 0 dX10_ordersFrom_11 rfl rfl ?_
      refine g_get (pc := 12) hC 0 fl_X10_9 dX10_ordersFrom_12 rfl rfl ?_
      refine g_bipush (pc := 15) hC (19) dX10_ordersFrom_15 (by decide) ?_
      refine g_iald (pc := 17) hC 1 dX10_ordersFrom_17 rfl (by omega) ?_
      have q2 := r_s 19
      refine g_icmp_ge (pc := 18) hC 57 dX10_ordersFrom_18 (by decide) (by omega) (by omega) (fun c18 => ?_) (fun c18 => ?_)
      · exact g_vret (pc := 57) hR dX10_ordersFrom_57 rfl ⟨by omega, by omega⟩ (Nat.le_of_ble_eq_true rfl) ⟨g0, f1, f2, f3, f4, lu1, bo1, or1, rfl, rfl, (by first | assumption | omega), (by first | assumption | omega), (by first | assumption | omega), (by first | assumption | omega), (by first | assumption | omega), (by first | assumption | omega), (by first | assumption | omega), (by first | assumption | omega), (by rw [show j = (s 19).toNat by omega] at hR1; exact hR1), hpc1, ho1⟩
      · refine g_iload_n (pc := 21) hC 2 dX10_ordersFrom_21 rfl rfl ?_
        refine g_iload_n (pc := 22) hC 3 dX10_ordersFrom_22 rfl rfl ?_
        refine g_ishr (pc := 23) hC dX10_ordersFrom_23 ?_
        refine g_iconst (pc := 24) hC dX10_ordersFrom_24 ?_
        refine g_iand (pc := 25) hC dX10_ordersFrom_25 ?_
        refine g_iconst (pc := 26) hC dX10_ordersFrom_26 ?_
        have hb1 := bt_1 hrs (p := i) (by omega)
        refine g_icmp_ne (pc := 27) hC 51 dX10_ordersFrom_27 (by decide) (by omega) (by omega) (fun c27 => ?_) (fun c27 => ?_)
        · refine g_iinc (pc := 51) hC 3 [(3, _), (0, _), (1, _), (2, _)] dX10_ordersFrom_51 rfl (by decide) rfl ?_
          refine g_goto (pc := 54) hC 10 dX10_ordersFrom_54 (by decide) ?_
          refine g_lv hC [1, 2, 3, 0] [(0, _), (1, _), (2, _), (3, _)] rfl ?_
          exact ih10 (i + 1) or1 lu1 bo1 g0 f1 f2 f3 f4 (j + 1) (by first | assumption | omega) (by first | assumption | omega) (by first | assumption | omega) (by first | assumption | omega) (by first | assumption | omega) (by first | assumption | omega) (by first | assumption | omega) (by first | assumption | omega) (by first | assumption | omega) (by first | assumption | omega) (by first | assumption | omega) (by rw [rm_fold_0 hB hi (by omega) c27]; exact hR1) ho1 hpc1 (by omega)
        · refine g_aload_n (pc := 30) hC 0 dX10_ordersFrom_30 rfl rfl ?_
          refine g_get (pc := 31) hC 0 fl_X10_38 dX10_ordersFrom_31 rfl rfl ?_
          refine g_iload_n (pc := 34) hC 1 dX10_ordersFrom_34 rfl rfl ?_
          refine g_iload_n (pc := 35) hC 3 dX10_ordersFrom_35 rfl rfl ?_
          refine g_iast (pc := 36) hC 7 (fun f9 => [_, _, _, _, _, _, _, cA K _ _ f9, _, _]) dX10_ordersFrom_36 rfl (by omega) (fun _ => rfl) (fun or3 e_or3 => ?_)
          have r_or3 := rng_up e_or3 r_or1 (by omega)
          have hPo9 := rm_at_app (P := P) (or := or1) (o2 := or3) (k := 0) (c := s 19) hP hi (by omega) (fun q h1 h2 => by rw [ho1 q h1 h2]; exact hPo q h1 h2) e_or3
          refine g_aload_n (pc := 37) hC 0 dX10_ordersFrom_37 rfl rfl ?_
          refine g_iload_n (pc := 38) hC 1 dX10_ordersFrom_38 rfl rfl ?_
          refine g_iconst (pc := 39) hC dX10_ordersFrom_39 ?_
          refine g_iadd (pc := 40) hC dX10_ordersFrom_40 ?_
          refine g_iload_n (pc := 41) hC 2 dX10_ordersFrom_41 rfl rfl ?_
          refine g_iconst (pc := 42) hC dX10_ordersFrom_42 ?_
          refine g_iload_n (pc := 43) hC 3 dX10_ordersFrom_43 rfl rfl ?_
          refine g_ishl (pc := 44) hC dX10_ordersFrom_44 ?_
          refine g_iconst (pc := 45) hC dX10_ordersFrom_45 ?_
          refine g_ixor (pc := 46) hC dX10_ordersFrom_46 ?_
          refine g_iand (pc := 47) hC dX10_ordersFrom_47 ?_
          refine g_callV (pc := 48) (qr := 0) hC [0, 1, 2, 3, 4, 5, 6, 7, 8, 9] (k_X10_ordersFrom_1 _ _ _ _ _ _ _ _ _ _ _ _ _ _ _ _ _ _ _ _ _ _ _ _ _ _ _ _ _ _ _ _ _ _ _ _ _ (List.foldl (rm_st W rch s) z (rm_l (fun p => if P.elem p then [] else rm_lv (s 19).toNat r1 (P ++ [p])) j)) (P ++ [j]) r1 (by first | assumption | omega) (by first | assumption | omega) (by first | assumption | omega) (by first | assumption | omega) (by first | assumption | omega) (by first | assumption | omega) (by first | assumption | omega) (by first | assumption | omega) (by first | assumption | omega) (by first | assumption | omega) (by first | assumption | omega) (by first | assumption | omega) (by first | assumption | omega) (by first | assumption | omega) hpc1 (by first | assumption | omega) hR1 (by rw [List.length_append, hP]; rfl) hPo9 (by omega) hb1.2.1 (by have h9 := hb1.2.2.1 (by omega); unfold bt_out at h9; omega) (rm_B_s h19.2 hrs hi (by omega) hB)) cl_X10_ordersFrom wm_X10_206 dX10_ordersFrom_48 rfl rfl rfl rfl rfl (by decide) (by decide) (by omega) (Nat.le_of_ble_eq_true rfl) rfl (fun v9 w9 hq9 => ?_)
          obtain ⟨fr4, fb4, ft4, fu4, fn4, lu4, bo4, or4, rfl, rfl, r_fr4, r_fb4, r_ft4, r_fu4, r_fn4, r_lu4, r_bo4, r_or4, hR2_48, hpc2_48, ho2_48⟩ := hq9
          refine g_ws hC [cO m0 10 [w_thrown, .ref m1, w_image, .ref m3, w_hasImage, w_act, w_spot, w_end, w_isWrong, w_open, .ref m10, .ref m11, .ref m12, .int (iI 1), .ref m14, w_first, .ref m16, .ref m17, .ref m18, .int (iI lu4), w_bodies, w_ran, w_kind, w_number, w_tellsV], cA K m1 922 s, cA K m3 19 fr4, cA K m10 6 fb4, cZ K m11 64 ft4, cA K m12 36000 fu4, cA K m14 6 fn4, cA K m16 6 or4, cA K m17 6 bo4, cA K m18 6 rm] rfl ?_
          refine g_st hC [] rfl ?_
          refine g_iinc (pc := 51) hC 3 [(3, _), (0, _), (1, _), (2, _)] dX10_ordersFrom_51 rfl (by decide) rfl ?_
          refine g_goto (pc := 54) hC 10 dX10_ordersFrom_54 (by decide) ?_
          refine g_lv hC [1, 2, 3, 0] [(0, _), (1, _), (2, _), (3, _)] rfl ?_
          exact ih10 (i + 1) or4 lu4 bo4 fr4 fb4 ft4 fu4 fn4 (j + 1) (by first | assumption | omega) (by first | assumption | omega) (by first | assumption | omega) (by first | assumption | omega) (by first | assumption | omega) (by first | assumption | omega) (by first | assumption | omega) (by first | assumption | omega) (by first | assumption | omega) (by first | assumption | omega) (by first | assumption | omega) (by rw [rm_fold_1 hB hi (by omega) (by omega)]; exact hR2_48) (fun q h1 h2 => by rw [ho2_48 q h1 (by omega), e_or3, upI_ne (by omega)]; exact ho1 q h1 h2) hpc2_48 (by omega)
  refine g_lv hC [1, 2, 3, 0] [(0, _), (1, _), (2, _), (3, _)] rfl ?_
  exact L10 ((s 19 - 0 : Int).toNat + 1) 0 or lu bo fr fb ft fu fn 0 (by first | assumption | omega) (by first | assumption | omega) (by first | assumption | omega) (by first | assumption | omega) (by first | assumption | omega) (by first | assumption | omega) (by first | assumption | omega) (by first | assumption | omega) (by first | assumption | omega) (by first | assumption | omega) (by first | assumption | omega) hRB (fun q h1 h2 => rfl) (by first | assumption | omega) (by omega)
theorem k_X10_ordersFrom_0 {K : gK} (m0 : Nat) (m1 : Nat) (m3 : Nat) (m10 : Nat) (m11 : Nat) (m12 : Nat) (m14 : Nat) (m16 : Nat) (m17 : Nat) (m18 : Nat) (w_thrown : Value) (w_image : Value) (w_hasImage : Value) (w_act : Value) (w_spot : Value) (w_end : Value) (w_isWrong : Value) (w_open : Value) (w_first : Value) (w_bodies : Value) (w_ran : Value) (w_kind : Value) (w_number : Value) (w_tellsV : Value) (rest : Int) (lu : Int) (s : Int → Int) (fr : Int → Int) (fb : Int → Int) (ft : Int → Int) (fu : Int → Int) (fn : Int → Int) (or : Int → Int) (bo : Int → Int) (rm : Int → Int) (W : (Int → Int) → Int) (rch : Int) (z : Int × List Nat) (P : List Nat) (r : Nat) (r_rest : rI rest) (r_lu : rI lu) (r_s : ∀ j, rI (s j)) (r_fr : ∀ j, rI (fr j)) (r_fb : ∀ j, rI (fb j)) (r_ft : rZ ft) (r_fu : ∀ j, rI (fu j)) (r_fn : ∀ j, rI (fn j)) (r_or : ∀ j, rI (or j)) (r_bo : ∀ j, rI (bo j)) (r_rm : ∀ j, rI (rm j)) (hg : md_rg s) (h0 : s 0 + 3 ≤ 20000) (hT : md_TK s W rch) (hpc : md_PC W (fun z => s (26 + z)) fu) (hrm : ∀ j, 0 ≤ j → j < 6 → rm j = s (13 + j)) (hRB : rm_R (s 19) lu bo z) (hP : P.length = 0) (hPo : ∀ q, 0 ≤ q → q < ((0 : Nat) : Int) → or q = rm_at P q ∧ 0 ≤ or q ∧ or q < s 19) (hr : (r : Int) = s 19 - 0) (hrs : 0 ≤ rest ∧ rest < 64) (hrn : bt_n rest = r) (hB : rm_B (s 19) rest P) : gMet K yX10_ordersFrom cX10_ordersFrom 4 none 14 0 0 [.ref m0, .int (iI 0), .int (iI rest)] [cO m0 10 [w_thrown, .ref m1, w_image, .ref m3, w_hasImage, w_act, w_spot, w_end, w_isWrong, w_open, .ref m10, .ref m11, .ref m12, .int (iI 1), .ref m14, w_first, .ref m16, .ref m17, .ref m18, .int (iI lu), w_bodies, w_ran, w_kind, w_number, w_tellsV], cA K m1 922 s, cA K m3 19 fr, cA K m10 6 fb, cZ K m11 64 ft, cA K m12 36000 fu, cA K m14 6 fn, cA K m16 6 or, cA K m17 6 bo, cA K m18 6 rm] (fun v9 w9 => ∃ (fr2 : Int → Int), ∃ (fb2 : Int → Int), ∃ (ft2 : Int → Int), ∃ (fu2 : Int → Int), ∃ (fn2 : Int → Int), ∃ (lu2 : Int), ∃ (bo2 : Int → Int), ∃ (or2 : Int → Int), v9 = none ∧ w9 = [cO m0 10 [w_thrown, .ref m1, w_image, .ref m3, w_hasImage, w_act, w_spot, w_end, w_isWrong, w_open, .ref m10, .ref m11, .ref m12, .int (iI 1), .ref m14, w_first, .ref m16, .ref m17, .ref m18, .int (iI lu2), w_bodies, w_ran, w_kind, w_number, w_tellsV], cA K m1 922 s, cA K m3 19 fr2, cA K m10 6 fb2, cZ K m11 64 ft2, cA K m12 36000 fu2, cA K m14 6 fn2, cA K m16 6 or2, cA K m17 6 bo2, cA K m18 6 rm] ∧ (∀ j, rI (fr2 j)) ∧ (∀ j, rI (fb2 j)) ∧ rZ ft2 ∧ (∀ j, rI (fu2 j)) ∧ (∀ j, rI (fn2 j)) ∧ rI lu2 ∧ (∀ j, rI (bo2 j)) ∧ (∀ j, rI (or2 j)) ∧ (rm_R (s 19) lu2 bo2 (List.foldl (rm_st W rch s) z (rm_lv (s 19).toNat r P))) ∧ (md_PC W (fun z => s (26 + z)) fu2) ∧ (∀ q, 0 ≤ q → q < ((0 : Nat) : Int) → or2 q = or q)) := by
  by_cases hr0 : r = 0
  · exact k_X10_ordersFrom_0L m0 m1 m3 m10 m11 m12 m14 m16 m17 m18 w_thrown w_image w_hasImage w_act w_spot w_end w_isWrong w_open w_first w_bodies w_ran w_kind w_number w_tellsV rest lu s fr fb ft fu fn or bo rm W rch z P r r_rest r_lu r_s r_fr r_fb r_ft r_fu r_fn r_or r_bo r_rm hg h0 hT hpc hrm hRB hP hPo hr hrs hrn hB hr0
  · exact k_X10_ordersFrom_0I m0 m1 m3 m10 m11 m12 m14 m16 m17 m18 w_thrown w_image w_hasImage w_act w_spot w_end w_isWrong w_open w_first w_bodies w_ran w_kind w_number w_tellsV rest lu s fr fb ft fu fn or bo rm W rch z P r r_rest r_lu r_s r_fr r_fb r_ft r_fu r_fn r_or r_bo r_rm hg h0 hT hpc hrm hRB hP hPo hr hrs hrn hB hr0
set_option maxHeartbeats 4000000 in
set_option maxRecDepth 100000 in
theorem k_X10_roomed {K : gK} (m0 : Nat) (m1 : Nat) (m3 : Nat) (m10 : Nat) (m11 : Nat) (m12 : Nat) (m14 : Nat) (m16 : Nat) (m17 : Nat) (m18 : Nat) (w_thrown : Value) (w_image : Value) (w_hasImage : Value) (w_act : Value) (w_spot : Value) (w_end : Value) (w_isWrong : Value) (w_open : Value) (w_first : Value) (w_bodies : Value) (w_ran : Value) (w_kind : Value) (w_number : Value) (w_tellsV : Value) (k : Int) (ik : Int) (lu : Int) (s : Int → Int) (fr : Int → Int) (fb : Int → Int) (ft : Int → Int) (fu : Int → Int) (fn : Int → Int) (or : Int → Int) (bo : Int → Int) (rm : Int → Int) (W : (Int → Int) → Int) (rch : Int) (r_k : rI k) (r_ik : rI ik) (r_lu : rI lu) (r_s : ∀ j, rI (s j)) (r_fr : ∀ j, rI (fr j)) (r_fb : ∀ j, rI (fb j)) (r_ft : rZ ft) (r_fu : ∀ j, rI (fu j)) (r_fn : ∀ j, rI (fn j)) (r_or : ∀ j, rI (or j)) (r_bo : ∀ j, rI (bo j)) (r_rm : ∀ j, rI (rm j)) (hg : md_rg s) (h0 : s 0 + 3 ≤ 20000) (hT : md_TK s W rch) (hik : ik = 0) : gMet K yX10_roomed cX10_roomed 3 (some .int) 15 0 0 [.ref m0, .int (iI k)] [cO m0 10 [w_thrown, .ref m1, w_image, .ref m3, w_hasImage, w_act, w_spot, w_end, w_isWrong, w_open, .ref m10, .ref m11, .ref m12, .int (iI ik), .ref m14, w_first, .ref m16, .ref m17, .ref m18, .int (iI lu), w_bodies, w_ran, w_kind, w_number, w_tellsV], cA K m1 922 s, cA K m3 19 fr, cA K m10 6 fb, cZ K m11 64 ft, cA K m12 36000 fu, cA K m14 6 fn, cA K m16 6 or, cA K m17 6 bo, cA K m18 6 rm] (fun v9 w9 => ∃ (fr2 : Int → Int), ∃ (fb2 : Int → Int), ∃ (ft2 : Int → Int), ∃ (fu2 : Int → Int), ∃ (fn2 : Int → Int), ∃ (lu2 : Int), ∃ (bo2 : Int → Int), ∃ (or2 : Int → Int), ∃ (rm2 : Int → Int), ∃ (ik2 : Int), v9 = some (.int (iI (an_roomed W rch s k))) ∧ w9 = [cO m0 10 [w_thrown, .ref m1, w_image, .ref m3, w_hasImage, w_act, w_spot, w_end, w_isWrong, w_open, .ref m10, .ref m11, .ref m12, .int (iI ik2), .ref m14, w_first, .ref m16, .ref m17, .ref m18, .int (iI lu2), w_bodies, w_ran, w_kind, w_number, w_tellsV], cA K m1 922 s, cA K m3 19 fr2, cA K m10 6 fb2, cZ K m11 64 ft2, cA K m12 36000 fu2, cA K m14 6 fn2, cA K m16 6 or2, cA K m17 6 bo2, cA K m18 6 rm2] ∧ (∀ j, rI (fr2 j)) ∧ (∀ j, rI (fb2 j)) ∧ rZ ft2 ∧ (∀ j, rI (fu2 j)) ∧ (∀ j, rI (fn2 j)) ∧ rI lu2 ∧ (∀ j, rI (bo2 j)) ∧ (∀ j, rI (or2 j)) ∧ (∀ j, rI (rm2 j)) ∧ rI ik2 ∧ (ik2 = 0)) := by
  refine g_enter (by decide +kernel) (Nat.le_of_ble_eq_true rfl) (fun G hC hR => ?_)
  refine g_lv hC [0, 1] [(0, _), (1, _)] rfl ?_
  have hg0 := hg.2.2.2
  have h19 := hg.2.2.1
  refine g_iload_n (pc := 0) hC 1 dX10_roomed_0 rfl rfl ?_
  refine g_iconst (pc := 1) hC dX10_roomed_1 ?_
  refine g_iconst (pc := 2) hC dX10_roomed_2 ?_
  refine g_fnS (pc := 3) hC [] (k_X10_in _ _ _ (by first | assumption | omega) (by first | assumption | omega) (by first | assumption | omega)) cl_X10_in wm_X10_54 dX10_roomed_3 rfl rfl (by decide) (by decide) ⟨by omega, by omega⟩ (Nat.le_of_ble_eq_true rfl) rfl rfl ?_
  refine g_name hC (fun x1 e_x1 => ?_)
  refine g_if_ne (pc := 6) hC 11 dX10_roomed_6 (by decide) (by omega) (fun c6 => ?_) (fun c6 => ?_)
  · refine g_iconst (pc := 11) hC dX10_roomed_11 ?_
    refine g_istore_n (pc := 12) hC [(2, _), (0, _), (1, _)] dX10_roomed_12 rfl (by decide) rfl ?_
    have L13 : ∀ (n2 : Nat) (i : Int) (f : Int → Int), (rI i) → (∀ j, rI (f j)) → (0 ≤ i ∧ i ≤ 6) → (∀ j, 0 ≤ j → j < i → f j = s (13 + j)) → 6 - i < (n2 : Int) → G 0 0 13 [(0, .ref m0), (1, .int (iI k)), (2, .int (iI i))] [] [cO m0 10 [w_thrown, .ref m1, w_image, .ref m3, w_hasImage, w_act, w_spot, w_end, w_isWrong, w_open, .ref m10, .ref m11, .ref m12, .int (iI ik), .ref m14, w_first, .ref m16, .ref m17, .ref m18, .int (iI lu), w_bodies, w_ran, w_kind, w_number, w_tellsV], cA K m1 922 s, cA K m3 19 fr, cA K m10 6 fb, cZ K m11 64 ft, cA K m12 36000 fu, cA K m14 6 fn, cA K m16 6 or, cA K m17 6 bo, cA K m18 6 f] := by
      intro n2
      induction n2 with
      | zero => intro i f r_i r_f hi hf hm13; exfalso; omega
      | succ n2 ih13 =>
        intro i f r_i r_f hi hf hm13
        refine g_iload_n (pc := 13) hC 2 dX10_roomed_13 rfl rfl ?_
        refine g_bipush (pc := 14) hC (6) dX10_roomed_14 (by decide) ?_
        refine g_icmp_ge (pc := 16) hC 40 dX10_roomed_16 (by decide) (by omega) (by omega) (fun c16 => ?_) (fun c16 => ?_)
        · refine g_aload_n (pc := 40) hC 0 dX10_roomed_40 rfl rfl ?_
          refine g_ldc (pc := 41) hC (1000000000) wo_X10_141 (by decide) dX10_roomed_41 ?_
          refine g_putI (pc := 43) hC 0 [cO _ _ [_, _, _, _, _, _, _, _, _, _, _, _, _, _, _, _, _, _, _, _, _, _, _, _, _], _, _, _, _, _, _, _, _, _] fl_X10_200 dX10_roomed_43 rfl (Nat.le_of_ble_eq_true rfl) rfl ?_
          refine g_aload_n (pc := 46) hC 0 dX10_roomed_46 rfl rfl ?_
          refine g_callV (pc := 47) (qr := 0) hC [0, 5] (k_X10_begins _ _ _ _ _ _ _ _ _ _ _ _ _ _ _ _ _ _ _ _ _ _ _ _ _ _ _ (by first | assumption | omega)) cl_X10_begins wm_X10_190 dX10_roomed_47 rfl rfl rfl rfl rfl (by decide) (by decide) (by omega) (Nat.le_of_ble_eq_true rfl) rfl (fun v9 w9 hq9 => ?_)
          obtain ⟨fu1, rfl, rfl, r_fu1, hkb⟩ := hq9
          refine g_ws hC [cO m0 10 [w_thrown, .ref m1, w_image, .ref m3, w_hasImage, w_act, w_spot, w_end, w_isWrong, w_open, .ref m10, .ref m11, .ref m12, .int (iI 1), .ref m14, w_first, .ref m16, .ref m17, .ref m18, .int (iI 1000000000), w_bodies, w_ran, w_kind, w_number, w_tellsV], cA K m1 922 s, cA K m3 19 fr, cA K m10 6 fb, cZ K m11 64 ft, cA K m12 36000 fu1, cA K m14 6 fn, cA K m16 6 or, cA K m17 6 bo, cA K m18 6 f] rfl ?_
          refine g_st hC [] rfl ?_
          have hk3 : md_PC W (fun z => s (26 + z)) fu1 := md_PC0 hkb
          refine g_aload_n (pc := 50) hC 0 dX10_roomed_50 rfl rfl ?_
          refine g_iconst (pc := 51) hC dX10_roomed_51 ?_
          refine g_iconst (pc := 52) hC dX10_roomed_52 ?_
          refine g_aload_n (pc := 53) hC 0 dX10_roomed_53 rfl rfl ?_
          refine g_get (pc := 54) hC 0 fl_X10_9 dX10_roomed_54 rfl rfl ?_
          refine g_bipush (pc := 57) hC (19) dX10_roomed_57 (by decide) ?_
          refine g_iald (pc := 59) hC 1 dX10_roomed_59 rfl (by omega) ?_
          have q3 := r_s 19
          refine g_ishl (pc := 60) hC dX10_roomed_60 ?_
          refine g_iconst (pc := 61) hC dX10_roomed_61 ?_
          refine g_isub (pc := 62) hC dX10_roomed_62 ?_
          have hb3 := bt_3 h19
          refine g_callV (pc := 63) (qr := 0) hC [0, 1, 2, 3, 4, 5, 6, 7, 8, 9] (k_X10_ordersFrom_0 _ _ _ _ _ _ _ _ _ _ _ _ _ _ _ _ _ _ _ _ _ _ _ _ _ _ _ _ _ _ _ _ _ _ _ _ _ ((1000000000, []) : Int × List Nat) ([] : List Nat) ((s 19).toNat) (by first | assumption | omega) (by first | assumption | omega) (by first | assumption | omega) (by first | assumption | omega) (by first | assumption | omega) (by first | assumption | omega) (by first | assumption | omega) (by first | assumption | omega) (by first | assumption | omega) (by first | assumption | omega) (by first | assumption | omega) (by first | assumption | omega) (by first | assumption | omega) (by first | assumption | omega) hk3 (fun j h1 h2 => hf j h1 (by omega)) ⟨rfl, fun h9 => by omega⟩ rfl (fun q h1 h2 => by omega) (by omega) hb3.1 (by omega) (fun q hq => ⟨fun _ => rfl, fun _ => hb3.2.2 (q : Int) (by omega) hq⟩)) cl_X10_ordersFrom wm_X10_206 dX10_roomed_63 rfl rfl rfl rfl rfl (by decide) (by decide) (by omega) (Nat.le_of_ble_eq_true rfl) rfl (fun v9 w9 hq9 => ?_)
          obtain ⟨fr4, fb5, ft6, fu7, fn8, lu4, bo4, or9, rfl, rfl, r_fr4, r_fb5, r_ft6, r_fu7, r_fn8, r_lu4, r_bo4, r_or9, hR2_63, hpc2_63, ho2_63⟩ := hq9
          refine g_ws hC [cO m0 10 [w_thrown, .ref m1, w_image, .ref m3, w_hasImage, w_act, w_spot, w_end, w_isWrong, w_open, .ref m10, .ref m11, .ref m12, .int (iI 1), .ref m14, w_first, .ref m16, .ref m17, .ref m18, .int (iI lu4), w_bodies, w_ran, w_kind, w_number, w_tellsV], cA K m1 922 s, cA K m3 19 fr4, cA K m10 6 fb5, cZ K m11 64 ft6, cA K m12 36000 fu7, cA K m14 6 fn8, cA K m16 6 or9, cA K m17 6 bo4, cA K m18 6 f] rfl ?_
          refine g_st hC [] rfl ?_
          have hz9 : rm_R (s 19) lu4 bo4 (md_rmz W rch s) := hR2_63
          have hz8 := md_rmz_le (W := W) (rch := rch) h19
          refine g_aload_n (pc := 66) hC 0 dX10_roomed_66 rfl rfl ?_
          refine g_iload_n (pc := 67) hC 1 dX10_roomed_67 rfl rfl ?_
          refine g_iconst (pc := 68) hC dX10_roomed_68 ?_
          refine g_icmp_ne (pc := 69) hC 79 dX10_roomed_69 (by decide) (by omega) (by omega) (fun c69 => ?_) (fun c69 => ?_)
          · refine g_iload_n (pc := 79) hC 1 dX10_roomed_79 rfl rfl ?_
            refine g_aload_n (pc := 80) hC 0 dX10_roomed_80 rfl rfl ?_
            refine g_get (pc := 81) hC 0 fl_X10_9 dX10_roomed_81 rfl rfl ?_
            refine g_bipush (pc := 84) hC (19) dX10_roomed_84 (by decide) ?_
            refine g_iald (pc := 86) hC 1 dX10_roomed_86 rfl (by omega) ?_
            have q10 := r_s 19
            refine g_icmp_ge (pc := 87) hC 99 dX10_roomed_87 (by decide) (by omega) (by omega) (fun c87 => ?_) (fun c87 => ?_)
            · refine g_bipush (pc := 99) hC (-5) dX10_roomed_99 (by decide) ?_
              refine g_callV (pc := 101) (qr := 0) hC [0] (k_X10_ends _ _ _ _ _ _ _ _ _ _ _ _ _ _ _ _ _ _ _ _ _ _ _ _ _ _ _ (by first | assumption | omega)) cl_X10_ends wm_X10_197 dX10_roomed_101 rfl rfl rfl rfl rfl (by decide) (by decide) (by omega) (Nat.le_of_ble_eq_true rfl) rfl (fun v9 w9 hq9 => ?_)
              obtain ⟨rfl, rfl⟩ := hq9
              refine g_ws hC [cO m0 10 [w_thrown, .ref m1, w_image, .ref m3, w_hasImage, w_act, w_spot, w_end, w_isWrong, w_open, .ref m10, .ref m11, .ref m12, .int (iI 0), .ref m14, w_first, .ref m16, .ref m17, .ref m18, .int (iI lu4), w_bodies, w_ran, w_kind, w_number, w_tellsV], cA K m1 922 s, cA K m3 19 fr4, cA K m10 6 fb5, cZ K m11 64 ft6, cA K m12 36000 fu7, cA K m14 6 fn8, cA K m16 6 or9, cA K m17 6 bo4, cA K m18 6 f] rfl ?_
              refine g_st hC [.int (iI (-5))] rfl ?_
              exact g_iret (pc := 104) hR dX10_roomed_104 rfl ⟨by omega, by omega⟩ (Nat.le_of_ble_eq_true rfl) ⟨fr4, fb5, ft6, fu7, fn8, lu4, bo4, or9, f, 0, ret_eq (by unfold an_roomed; rw [if_neg (by omega), if_neg (by omega), if_neg (by omega)]), rfl, (by first | assumption | omega), (by first | assumption | omega), (by first | assumption | omega), (by first | assumption | omega), (by first | assumption | omega), (by first | assumption | omega), (by first | assumption | omega), (by first | assumption | omega), (by first | assumption | omega), (by first | assumption | omega), (by first | assumption | omega)⟩
            · refine g_aload_n (pc := 90) hC 0 dX10_roomed_90 rfl rfl ?_
              refine g_get (pc := 91) hC 0 fl_X10_41 dX10_roomed_91 rfl rfl ?_
              refine g_iload_n (pc := 94) hC 1 dX10_roomed_94 rfl rfl ?_
              refine g_iald (pc := 95) hC 8 dX10_roomed_95 rfl (by omega) ?_
              have q11 := r_bo4 k
              refine g_goto (pc := 96) hC 101 dX10_roomed_96 (by decide) ?_
              refine g_callV (pc := 101) (qr := 0) hC [0] (k_X10_ends _ _ _ _ _ _ _ _ _ _ _ _ _ _ _ _ _ _ _ _ _ _ _ _ _ _ _ (by first | assumption | omega)) cl_X10_ends wm_X10_197 dX10_roomed_101 rfl rfl rfl rfl rfl (by decide) (by decide) (by omega) (Nat.le_of_ble_eq_true rfl) rfl (fun v9 w9 hq9 => ?_)
              obtain ⟨rfl, rfl⟩ := hq9
              refine g_ws hC [cO m0 10 [w_thrown, .ref m1, w_image, .ref m3, w_hasImage, w_act, w_spot, w_end, w_isWrong, w_open, .ref m10, .ref m11, .ref m12, .int (iI 0), .ref m14, w_first, .ref m16, .ref m17, .ref m18, .int (iI lu4), w_bodies, w_ran, w_kind, w_number, w_tellsV], cA K m1 922 s, cA K m3 19 fr4, cA K m10 6 fb5, cZ K m11 64 ft6, cA K m12 36000 fu7, cA K m14 6 fn8, cA K m16 6 or9, cA K m17 6 bo4, cA K m18 6 f] rfl ?_
              refine g_st hC [.int (iI (bo4 k))] rfl ?_
              exact g_iret (pc := 104) hR dX10_roomed_104 rfl ⟨by omega, by omega⟩ (Nat.le_of_ble_eq_true rfl) ⟨fr4, fb5, ft6, fu7, fn8, lu4, bo4, or9, f, 0, ret_eq (by unfold an_roomed; rw [if_neg (by omega), if_neg (by omega), if_pos (by omega)]; exact hz9.2 (by rw [hz9.1]; omega) k (by omega) (by omega)), rfl, (by first | assumption | omega), (by first | assumption | omega), (by first | assumption | omega), (by first | assumption | omega), (by first | assumption | omega), (by first | assumption | omega), (by first | assumption | omega), (by first | assumption | omega), (by first | assumption | omega), (by first | assumption | omega), (by first | assumption | omega)⟩
          · refine g_aload_n (pc := 72) hC 0 dX10_roomed_72 rfl rfl ?_
            refine g_get (pc := 73) hC 0 fl_X10_200 dX10_roomed_73 rfl rfl ?_
            refine g_goto (pc := 76) hC 101 dX10_roomed_76 (by decide) ?_
            refine g_callV (pc := 101) (qr := 0) hC [0] (k_X10_ends _ _ _ _ _ _ _ _ _ _ _ _ _ _ _ _ _ _ _ _ _ _ _ _ _ _ _ (by first | assumption | omega)) cl_X10_ends wm_X10_197 dX10_roomed_101 rfl rfl rfl rfl rfl (by decide) (by decide) (by omega) (Nat.le_of_ble_eq_true rfl) rfl (fun v9 w9 hq9 => ?_)
            obtain ⟨rfl, rfl⟩ := hq9
            refine g_ws hC [cO m0 10 [w_thrown, .ref m1, w_image, .ref m3, w_hasImage, w_act, w_spot, w_end, w_isWrong, w_open, .ref m10, .ref m11, .ref m12, .int (iI 0), .ref m14, w_first, .ref m16, .ref m17, .ref m18, .int (iI lu4), w_bodies, w_ran, w_kind, w_number, w_tellsV], cA K m1 922 s, cA K m3 19 fr4, cA K m10 6 fb5, cZ K m11 64 ft6, cA K m12 36000 fu7, cA K m14 6 fn8, cA K m16 6 or9, cA K m17 6 bo4, cA K m18 6 f] rfl ?_
            refine g_st hC [.int (iI lu4)] rfl ?_
            exact g_iret (pc := 104) hR dX10_roomed_104 rfl ⟨by omega, by omega⟩ (Nat.le_of_ble_eq_true rfl) ⟨fr4, fb5, ft6, fu7, fn8, lu4, bo4, or9, f, 0, ret_eq (by unfold an_roomed; rw [if_neg (by omega), if_pos (by omega)]; exact hz9.1), rfl, (by first | assumption | omega), (by first | assumption | omega), (by first | assumption | omega), (by first | assumption | omega), (by first | assumption | omega), (by first | assumption | omega), (by first | assumption | omega), (by first | assumption | omega), (by first | assumption | omega), (by first | assumption | omega), (by first | assumption | omega)⟩
        · refine g_aload_n (pc := 19) hC 0 dX10_roomed_19 rfl rfl ?_
          refine g_get (pc := 20) hC 0 fl_X10_44 dX10_roomed_20 rfl rfl ?_
          refine g_iload_n (pc := 23) hC 2 dX10_roomed_23 rfl rfl ?_
          refine g_aload_n (pc := 24) hC 0 dX10_roomed_24 rfl rfl ?_
          refine g_get (pc := 25) hC 0 fl_X10_9 dX10_roomed_25 rfl rfl ?_
          refine g_bipush (pc := 28) hC (13) dX10_roomed_28 (by decide) ?_
          refine g_iload_n (pc := 30) hC 2 dX10_roomed_30 rfl rfl ?_
          refine g_iadd (pc := 31) hC dX10_roomed_31 ?_
          refine g_iald (pc := 32) hC 1 dX10_roomed_32 rfl (by omega) ?_
          have q12 := r_s (13 + i)
          refine g_iast (pc := 33) hC 9 (fun f9 => [_, _, _, _, _, _, _, _, _, cA K _ _ f9]) dX10_roomed_33 rfl (by omega) (fun _ => rfl) (fun f9 e_f9 => ?_)
          have r_f9 := rng_up e_f9 r_f (by omega)
          refine g_iinc (pc := 34) hC 2 [(2, _), (0, _), (1, _)] dX10_roomed_34 rfl (by decide) rfl ?_
          refine g_goto (pc := 37) hC 13 dX10_roomed_37 (by decide) ?_
          refine g_lv hC [1, 2, 0] [(0, _), (1, _), (2, _)] rfl ?_
          exact ih13 (i + 1) f9 (by first | assumption | omega) (by first | assumption | omega) (by first | assumption | omega) (up_lt (g := fun j => s (13 + j)) e_f9 hf) (by omega)
    refine g_lv hC [1, 2, 0] [(0, _), (1, _), (2, _)] rfl ?_
    exact L13 ((6 - 0 : Int).toNat + 1) 0 rm (by first | assumption | omega) (by first | assumption | omega) (by first | assumption | omega) (fun j h1 h2 => by omega) (by omega)
  · refine g_iconst (pc := 9) hC dX10_roomed_9 ?_
    exact g_iret (pc := 10) hR dX10_roomed_10 rfl ⟨by omega, by omega⟩ (Nat.le_of_ble_eq_true rfl) ⟨fr, fb, ft, fu, fn, lu, bo, or, rm, ik, ret_eq (by unfold an_roomed; rw [if_pos (by omega)]), rfl, (by first | assumption | omega), (by first | assumption | omega), (by first | assumption | omega), (by first | assumption | omega), (by first | assumption | omega), (by first | assumption | omega), (by first | assumption | omega), (by first | assumption | omega), (by first | assumption | omega), (by first | assumption | omega), (by first | assumption | omega)⟩
