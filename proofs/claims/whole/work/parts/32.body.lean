/-! THE CLASS: bodies -/
def ow (a f : Int) : Int := ([0, 1, 0, 0, 1, 5, 0, 0, 0, 2, 0, 0, 2, 6, 0, 0, 0, 3, 4, 0, 3] : List Int).getD (a * 7 + f).toNat 0
def ow_d (f : Int) : Int := if f = 0 then 0 else if f ≤ 3 then 1 else 2
theorem ow_F : ∀ a : Fin 3, ∀ f : Fin 7, (0 ≤ tb_bodies (((a.val : Nat) : Int) * 7 + ((f.val : Nat) : Int)) ∧ tb_bodies (((a.val : Nat) : Int) * 7 + ((f.val : Nat) : Int)) ≤ 61) ∧ (¬ tb_bodies (((a.val : Nat) : Int) * 7 + ((f.val : Nat) : Int)) = 0 → ow ((a.val : Nat) : Int) ((f.val : Nat) : Int) = ((f.val : Nat) : Int)) ∧ (tb_bodies (((a.val : Nat) : Int) * 7 + ((f.val : Nat) : Int)) = 0 → (0 ≤ tb_above ((f.val : Nat) : Int) ∧ tb_above ((f.val : Nat) : Int) ≤ 6) ∧ ow ((a.val : Nat) : Int) (tb_above ((f.val : Nat) : Int)) = ow ((a.val : Nat) : Int) ((f.val : Nat) : Int) ∧ ow_d (tb_above ((f.val : Nat) : Int)) + 1 = ow_d ((f.val : Nat) : Int)) := by decide
theorem ow_1 {a f : Int} (ha : 0 ≤ a ∧ a ≤ 2) (hf : 0 ≤ f ∧ f ≤ 6) : (0 ≤ tb_bodies (a * 7 + f) ∧ tb_bodies (a * 7 + f) ≤ 61) ∧ (¬ tb_bodies (a * 7 + f) = 0 → ow a f = f) ∧ (tb_bodies (a * 7 + f) = 0 → (0 ≤ tb_above f ∧ tb_above f ≤ 6) ∧ ow a (tb_above f) = ow a f ∧ ow_d (tb_above f) + 1 = ow_d f) := by
  have h := ow_F ⟨a.toNat, by omega⟩ ⟨f.toNat, by omega⟩
  have e1 : ((a.toNat : Nat) : Int) = a := by omega
  have e2 : ((f.toNat : Nat) : Int) = f := by omega
  simp only [e1, e2] at h
  exact h
theorem ow_dr (f : Int) : 0 ≤ ow_d f ∧ ow_d f ≤ 2 := by
  unfold ow_d
  (repeat' split) <;> omega
theorem sx7 {f : Int} (h : 0 ≤ f ∧ f ≤ 6) : f = 0 ∨ f = 1 ∨ f = 2 ∨ f = 3 ∨ f = 4 ∨ f = 5 ∨ f = 6 := by omega
theorem ow_b {f : Int} (h : 0 ≤ f ∧ f ≤ 6) : (ow 0 f = 0 ∧ ¬ ac_un f 1 = 1 ∧ ¬ f = 5) ∨ (ow 0 f = 1 ∧ ac_un f 1 = 1) ∨ (ow 0 f = 5 ∧ ¬ ac_un f 1 = 1 ∧ f = 5) := by
  rcases sx7 h with e | e | e | e | e | e | e <;> subst e <;> decide
theorem ow_s {f : Int} (h : 0 ≤ f ∧ f ≤ 6) : (ow 1 f = 0 ∧ ¬ ac_un f 2 = 1 ∧ ¬ f = 6) ∨ (ow 1 f = 2 ∧ ac_un f 2 = 1) ∨ (ow 1 f = 6 ∧ ¬ ac_un f 2 = 1 ∧ f = 6) := by
  rcases sx7 h with e | e | e | e | e | e | e <;> subst e <;> decide
theorem ow_w {f : Int} (h : 0 ≤ f ∧ f ≤ 6) : (ow 2 f = 0 ∧ ¬ ac_un f 3 = 1 ∧ ¬ f = 4) ∨ (ow 2 f = 3 ∧ ac_un f 3 = 1) ∨ (ow 2 f = 4 ∧ ¬ ac_un f 3 = 1 ∧ f = 4) := by
  rcases sx7 h with e | e | e | e | e | e | e <;> subst e <;> decide
set_option maxHeartbeats 4000000 in
set_option maxRecDepth 100000 in
theorem k_X9_kindAbove {K : gK} (k : Int) (hk : 0 ≤ k ∧ k ≤ 6) : gFn K yX9_kindAbove cX9_kindAbove 1 (some .int) 0 [.int (iI k)] [] (tb_above k) := by
  refine g_enter (by decide +kernel) (Nat.le_of_ble_eq_true rfl) (fun G hC hR => ?_)
  refine g_lv hC [0] [(0, _)] rfl ?_
  refine g_iload_n (pc := 0) hC 0 dX9_kindAbove_0 rfl rfl ?_
  refine g_if_lt (pc := 1) hC 20 dX9_kindAbove_1 (by decide) (by omega) (fun c1 => by exfalso; omega) (fun c1 => ?_)
  refine g_iload_n (pc := 4) hC 0 dX9_kindAbove_4 rfl rfl ?_
  refine g_getAbove (pc := 5) hC wf_X9_277 dX9_kindAbove_5 ?_
  refine g_lenAbove (pc := 8) hC dX9_kindAbove_8 ?_
  refine g_icmp_ge (pc := 9) hC 20 dX9_kindAbove_9 (by decide) (by omega) (by omega) (fun c9 => by exfalso; omega) (fun c9 => ?_)
  refine g_getAbove (pc := 12) hC wf_X9_277 dX9_kindAbove_12 ?_
  refine g_iload_n (pc := 15) hC 0 dX9_kindAbove_15 rfl rfl ?_
  refine g_aldAbove (pc := 16) hC dX9_kindAbove_16 (by omega) ?_
  refine g_goto (pc := 17) hC 21 dX9_kindAbove_17 (by decide) ?_
  exact g_iret (pc := 21) hR dX9_kindAbove_21 rfl ⟨by omega, by omega⟩ (Nat.le_of_ble_eq_true rfl) ⟨ret_eq rfl, rfl⟩
set_option maxHeartbeats 4000000 in
set_option maxRecDepth 100000 in
theorem k_X0_bodyOf {K : gK} (a : Int) (f : Int) (ha : 0 ≤ a ∧ a ≤ 2) (hf : 0 ≤ f ∧ f ≤ 6) : gFn K yX0_bodyOf cX0_bodyOf 3 (some .int) 0 [.int (iI a), .int (iI f)] [] (tb_bodies (a * 7 + f)) := by
  refine g_enter (by decide +kernel) (Nat.le_of_ble_eq_true rfl) (fun G hC hR => ?_)
  refine g_lv hC [0, 1] [(0, _), (1, _)] rfl ?_
  refine g_iload_n (pc := 0) hC 0 dX0_bodyOf_0 rfl rfl ?_
  refine g_bipush (pc := 1) hC (7) dX0_bodyOf_1 (by decide) ?_
  refine g_imul (pc := 3) hC dX0_bodyOf_3 ?_
  refine g_iload_n (pc := 4) hC 1 dX0_bodyOf_4 rfl rfl ?_
  refine g_iadd (pc := 5) hC dX0_bodyOf_5 ?_
  refine g_istore_n (pc := 6) hC [(2, _), (0, _), (1, _)] dX0_bodyOf_6 rfl (by decide) rfl ?_
  refine g_iload_n (pc := 7) hC 0 dX0_bodyOf_7 rfl rfl ?_
  refine g_if_lt (pc := 8) hC 27 dX0_bodyOf_8 (by decide) (by omega) (fun c8 => by exfalso; omega) (fun c8 => ?_)
  refine g_iload_n (pc := 11) hC 0 dX0_bodyOf_11 rfl rfl ?_
  refine g_getBodies (pc := 12) hC rfl dX0_bodyOf_12 ?_
  refine g_lenBodies (pc := 15) hC dX0_bodyOf_15 ?_
  refine g_icmp_ge (pc := 16) hC 27 dX0_bodyOf_16 (by decide) (by omega) (by omega) (fun c16 => by exfalso; omega) (fun c16 => ?_)
  refine g_getBodies (pc := 19) hC rfl dX0_bodyOf_19 ?_
  refine g_iload_n (pc := 22) hC 0 dX0_bodyOf_22 rfl rfl ?_
  refine g_aldBodies (pc := 23) hC dX0_bodyOf_23 (by omega) ?_
  refine g_goto (pc := 24) hC 28 dX0_bodyOf_24 (by decide) ?_
  exact g_iret (pc := 28) hR dX0_bodyOf_28 rfl ⟨by omega, by omega⟩ (Nat.le_of_ble_eq_true rfl) ⟨ret_eq rfl, rfl⟩
set_option maxHeartbeats 4000000 in
set_option maxRecDepth 100000 in
theorem k_X0_ownerOf {K : gK} (a : Int) (f : Int) (ha : 0 ≤ a ∧ a ≤ 2) (hf : 0 ≤ f ∧ f ≤ 6) : gFn K yX0_ownerOf cX0_ownerOf 4 (some .int) 1 [.int (iI a), .int (iI f)] [] (ow a f) := by
  refine g_enter (by decide +kernel) (Nat.le_of_ble_eq_true rfl) (fun G hC hR => ?_)
  refine g_lv hC [0, 1] [(0, _), (1, _)] rfl ?_
  refine g_iload_n (pc := 0) hC 1 dX0_ownerOf_0 rfl rfl ?_
  refine g_istore_n (pc := 1) hC [(2, _), (0, _), (1, _)] dX0_ownerOf_1 rfl (by decide) rfl ?_
  refine g_iconst (pc := 2) hC dX0_ownerOf_2 ?_
  refine g_istore_n (pc := 3) hC [(3, _), (2, _), (0, _), (1, _)] dX0_ownerOf_3 rfl (by decide) rfl ?_
  have L4 : ∀ (n1 : Nat) (t : Int) (u : Int), (rI t) → (rI u) → (0 ≤ t ∧ t ≤ 6) → (0 ≤ u ∧ u + ow_d t ≤ 2) → (ow a t = ow a f) → 7 - u < (n1 : Int) → G 0 0 4 [(0, .int (iI a)), (1, .int (iI f)), (2, .int (iI t)), (3, .int (iI u))] [] [] := by
    intro n1
    induction n1 with
    | zero => intro t u r_t r_u ht hu ho hm4; exfalso; have := ow_dr t; omega
    | succ n1 ih4 =>
      intro t u r_t r_u ht hu ho hm4
      have hdr := ow_dr t
      have hw8 := ow_1 ha ht
      refine g_iload_n (pc := 4) hC 3 dX0_ownerOf_4 rfl rfl ?_
      refine g_bipush (pc := 5) hC (7) dX0_ownerOf_5 (by decide) ?_
      refine g_icmp_ge (pc := 7) hC 35 dX0_ownerOf_7 (by decide) (by omega) (by omega) (fun c7 => by exfalso; omega) (fun c7 => ?_)
      refine g_iload_n (pc := 10) hC 2 dX0_ownerOf_10 rfl rfl ?_
      refine g_if_lt (pc := 11) hC 35 dX0_ownerOf_11 (by decide) (by omega) (fun c11 => by exfalso; omega) (fun c11 => ?_)
      refine g_iload_n (pc := 14) hC 0 dX0_ownerOf_14 rfl rfl ?_
      refine g_iload_n (pc := 15) hC 2 dX0_ownerOf_15 rfl rfl ?_
      refine g_fnS (pc := 16) hC [] (k_X0_bodyOf _ _ (by first | assumption | omega) (by first | assumption | omega)) cl_X0_bodyOf wm_X0_27 dX0_ownerOf_16 rfl rfl (by decide) (by decide) ⟨by omega, by omega⟩ (Nat.le_of_ble_eq_true rfl) rfl rfl ?_
      refine g_name hC (fun bd e_bd => ?_)
      refine g_if_eq (pc := 19) hC 24 dX0_ownerOf_19 (by decide) (by omega) (fun c19 => ?_) (fun c19 => ?_)
      · have hw9 := hw8.2.2 (by omega)
        refine g_iload_n (pc := 24) hC 2 dX0_ownerOf_24 rfl rfl ?_
        refine g_fnSN (pc := 25) hC [] (k_X9_kindAbove _ (by first | assumption | omega)) cl_X9_kindAbove (by simp [gN] <;> rfl) dX0_ownerOf_25 rfl rfl (by decide) (by decide) ⟨by omega, by omega⟩ (Nat.le_of_ble_eq_true rfl) rfl rfl ?_
        refine g_name hC (fun t2 e_t2 => ?_)
        refine g_istore_n (pc := 28) hC [(2, _), (0, _), (1, _), (3, _)] dX0_ownerOf_28 rfl (by decide) rfl ?_
        refine g_iinc (pc := 29) hC 3 [(3, _), (2, _), (0, _), (1, _)] dX0_ownerOf_29 rfl (by decide) rfl ?_
        refine g_goto (pc := 32) hC 4 dX0_ownerOf_32 (by decide) ?_
        refine g_lv hC [2, 3, 1, 0] [(0, _), (1, _), (2, _), (3, _)] rfl ?_
        exact ih4 t2 (u + 1) (by first | assumption | omega) (by first | assumption | omega) (by rw [e_t2]; exact hw9.1) (by rw [e_t2]; omega) (by rw [e_t2, hw9.2.1]; exact ho) (by omega)
      · refine g_iload_n (pc := 22) hC 2 dX0_ownerOf_22 rfl rfl ?_
        exact g_iret (pc := 23) hR dX0_ownerOf_23 rfl ⟨by omega, by omega⟩ (Nat.le_of_ble_eq_true rfl) ⟨ret_eq (by rw [← ho]; exact (hw8.2.1 (by omega)).symm), rfl⟩
  refine g_lv hC [2, 3, 1, 0] [(0, _), (1, _), (2, _), (3, _)] rfl ?_
  exact L4 ((7 - 0 : Int).toNat + 1) f 0 (by first | assumption | omega) (by first | assumption | omega) (by first | assumption | omega) (by have := ow_dr f; omega) rfl (by omega)
set_option maxHeartbeats 4000000 in
set_option maxRecDepth 100000 in
theorem k_X0_note {K : gK} (g0 : Nat) (ga : Nat) (b : Int) (ran : Int) (nb : Int) (kd : Int) (tv : Int) (tf : Int → Int) (hr : 0 ≤ ran ∧ ran ≤ 19) (hkd : 0 ≤ kd ∧ kd ≤ 6) : gMet K yX0_note cX0_note 2 none 0 0 0 [.ref g0, .int (iI b)] [cO g0 0 [.ref ga, .int (iI ran), .int (iI nb), .int (iI kd), .int (iI tv)], cA K ga 20 tf] (fun v9 w9 => ∃ (tf2 : Int → Int), ∃ (ran2 : Int), v9 = none ∧ w9 = [cO g0 0 [.ref ga, .int (iI ran2), .int (iI nb), .int (iI kd), .int (iI tv)], cA K ga 20 tf2] ∧ ((tf2, ran2) = ac_p ([b]) (tf, ran)) ∧ (ran ≤ ran2 ∧ ran2 ≤ ran + 1)) := by
  refine g_enter (by decide +kernel) (Nat.le_of_ble_eq_true rfl) (fun G hC hR => ?_)
  refine g_lv hC [0, 1] [(0, _), (1, _)] rfl ?_
  refine g_aload_n (pc := 0) hC 0 dX0_note_0 rfl rfl ?_
  refine g_get (pc := 1) hC 0 fl_X0_50 dX0_note_1 rfl rfl ?_
  refine g_if_lt (pc := 4) hC 29 dX0_note_4 (by decide) (by omega) (fun c4 => by exfalso; omega) (fun c4 => ?_)
  refine g_aload_n (pc := 7) hC 0 dX0_note_7 rfl rfl ?_
  refine g_get (pc := 8) hC 0 fl_X0_50 dX0_note_8 rfl rfl ?_
  refine g_aload_n (pc := 11) hC 0 dX0_note_11 rfl rfl ?_
  refine g_get (pc := 12) hC 0 fl_X0_9 dX0_note_12 rfl rfl ?_
  refine g_alen (pc := 15) hC 1 dX0_note_15 rfl ?_
  refine g_st hC [.int (iI 20), _] rfl ?_
  refine g_icmp_ge (pc := 16) hC 29 dX0_note_16 (by decide) (by omega) (by omega) (fun c16 => by exfalso; omega) (fun c16 => ?_)
  refine g_aload_n (pc := 19) hC 0 dX0_note_19 rfl rfl ?_
  refine g_get (pc := 20) hC 0 fl_X0_9 dX0_note_20 rfl rfl ?_
  refine g_aload_n (pc := 23) hC 0 dX0_note_23 rfl rfl ?_
  refine g_get (pc := 24) hC 0 fl_X0_50 dX0_note_24 rfl rfl ?_
  refine g_iload_n (pc := 27) hC 1 dX0_note_27 rfl rfl ?_
  refine g_iast (pc := 28) hC 1 (fun f9 => [_, cA K _ _ f9]) dX0_note_28 rfl (by omega) (fun _ => rfl) (fun tf3 e_tf3 => ?_)
  refine g_aload_n (pc := 29) hC 0 dX0_note_29 rfl rfl ?_
  refine g_dup (pc := 30) hC dX0_note_30 rfl ?_
  refine g_get (pc := 31) hC 0 fl_X0_50 dX0_note_31 rfl rfl ?_
  refine g_iconst (pc := 34) hC dX0_note_34 ?_
  refine g_iadd (pc := 35) hC dX0_note_35 ?_
  refine g_putI (pc := 36) hC 0 [cO _ _ [_, _, _, _, _], _] fl_X0_50 dX0_note_36 rfl (Nat.le_of_ble_eq_true rfl) rfl ?_
  exact g_vret (pc := 39) hR dX0_note_39 rfl ⟨by omega, by omega⟩ (Nat.le_of_ble_eq_true rfl) ⟨tf3, ran + 1, rfl, rfl, (by rw [e_tf3]; rfl), (by first | assumption | omega)⟩
set_option maxHeartbeats 4000000 in
set_option maxRecDepth 100000 in
theorem k_X0_ans1 {K : gK} (g0 : Nat) (ga : Nat) (b : Int) (ab : Int) (x : Int) (dp : Int) (ran : Int) (nb : Int) (kd : Int) (tv : Int) (tf : Int → Int) (hb : b = 1) : gFn K yX0_answer cX0_answer 5 (some .int) 0 [.ref g0, .int (iI b), .int (iI ab), .int (iI x), .int (iI dp)] [cO g0 0 [.ref ga, .int (iI ran), .int (iI nb), .int (iI kd), .int (iI tv)], cA K ga 20 tf] (x + nb) := by
  refine g_enter (by decide +kernel) (Nat.le_of_ble_eq_true rfl) (fun G hC hR => ?_)
  refine g_lv hC [0, 1, 2, 3, 4] [(0, _), (1, _), (2, _), (3, _), (4, _)] rfl ?_
  refine g_iload_n (pc := 0) hC 1 dX0_answer_0 rfl rfl ?_
  by_cases k1_1 : b = 1
  · refine g_lsw (pc := 1) hC 76 dX0_answer_1 (by decide) (by omega) (off := 75) (by rw [k1_1]; decide) (by decide) ?_
    refine g_iload_n (pc := 76) hC 3 dX0_answer_76 rfl rfl ?_
    refine g_aload_n (pc := 77) hC 0 dX0_answer_77 rfl rfl ?_
    refine g_get (pc := 78) hC 0 fl_X0_41 dX0_answer_78 rfl rfl ?_
    refine g_iadd (pc := 81) hC dX0_answer_81 ?_
    exact g_iret (pc := 82) hR dX0_answer_82 rfl ⟨by omega, by omega⟩ (Nat.le_of_ble_eq_true rfl) ⟨ret_eq rfl, rfl⟩
  exfalso
  omega
set_option maxHeartbeats 4000000 in
set_option maxRecDepth 100000 in
theorem k_X0_run_b0 {K : gK} (g0 : Nat) (ga : Nat) (a : Int) (f : Int) (x : Int) (dp : Int) (ran : Int) (nb : Int) (kd : Int) (tv : Int) (tf : Int → Int) (hr : 0 ≤ ran ∧ ran ≤ 19) (hkd : 0 ≤ kd ∧ kd ≤ 6) (ha : a = 0) (hf : 0 ≤ f ∧ f ≤ 6) (ho : ow 0 f = 0) (hd : 0 ≤ dp ∧ dp ≤ 20) : gMet K yX0_run cX0_run 7 (some .int) 2 0 0 [.ref g0, .int (iI a), .int (iI f), .int (iI x), .int (iI dp)] [cO g0 0 [.ref ga, .int (iI ran), .int (iI nb), .int (iI kd), .int (iI tv)], cA K ga 20 tf] (fun v9 w9 => ∃ (tf2 : Int → Int), ∃ (ran2 : Int), v9 = some (.int (iI (ac_b f nb x))) ∧ w9 = [cO g0 0 [.ref ga, .int (iI ran2), .int (iI nb), .int (iI kd), .int (iI tv)], cA K ga 20 tf2] ∧ ((tf2, ran2) = ac_p (ar_b f) (tf, ran)) ∧ (ran ≤ ran2 ∧ ran2 ≤ ran + 1)) := by
  refine g_enter (by decide +kernel) (Nat.le_of_ble_eq_true rfl) (fun G hC hR => ?_)
  refine g_lv hC [0, 1, 2, 3, 4] [(0, _), (1, _), (2, _), (3, _), (4, _)] rfl ?_
  have hu : ¬ ac_un f 1 = 1 ∧ ¬ f = 5 := by rcases ow_b hf with y9 | y9 | y9 <;> first | exact y9.2 | (exfalso; omega)
  refine g_iload_n (pc := 0) hC 1 dX0_run_0 rfl rfl ?_
  refine g_iload_n (pc := 1) hC 2 dX0_run_1 rfl rfl ?_
  refine g_fnS (pc := 2) hC [] (k_X0_ownerOf _ _ (by first | assumption | omega) (by first | assumption | omega)) cl_X0_ownerOf wm_X0_23 dX0_run_2 rfl rfl (by decide) (by decide) ⟨by omega, by omega⟩ (Nat.le_of_ble_eq_true rfl) rfl rfl ?_
  refine g_name hC (fun o1 e_o1 => ?_)
  have hoo : o1 = 0 := by rw [e_o1, ha]; exact ho
  refine g_istore (pc := 5) hC [(5, _), (0, _), (1, _), (2, _), (3, _), (4, _)] dX0_run_5 (by decide) rfl ?_
  refine g_iload (pc := 7) hC 0 dX0_run_7 rfl ?_
  refine g_if_lt (pc := 9) hC 19 dX0_run_9 (by decide) (by omega) (fun c9 => by exfalso; omega) (fun c9 => ?_)
  refine g_iload (pc := 12) hC 5 dX0_run_12 rfl ?_
  refine g_bipush (pc := 14) hC (20) dX0_run_14 (by decide) ?_
  refine g_icmp_le (pc := 16) hC 21 dX0_run_16 (by decide) (by omega) (by omega) (fun c16 => ?_) (fun c16 => by exfalso; omega)
  refine g_iload_n (pc := 21) hC 2 dX0_run_21 rfl rfl ?_
  refine g_iload (pc := 22) hC 0 dX0_run_22 rfl ?_
  refine g_fnS (pc := 24) hC [] (k_X0_bodyOf _ _ (by first | assumption | omega) (by first | assumption | omega)) cl_X0_bodyOf wm_X0_27 dX0_run_24 rfl rfl (by decide) (by decide) ⟨by omega, by omega⟩ (Nat.le_of_ble_eq_true rfl) rfl rfl ?_
  refine g_name hC (fun bd e_bd => ?_)
  have hbd : bd = 1 := by rw [e_bd, hoo, ha]; rfl
  refine g_istore (pc := 27) hC [(6, _), (5, _), (0, _), (1, _), (2, _), (3, _), (4, _)] dX0_run_27 (by decide) rfl ?_
  refine g_aload_n (pc := 29) hC 2 dX0_run_29 rfl rfl ?_
  refine g_iload (pc := 30) hC 0 dX0_run_30 rfl ?_
  refine g_callV (pc := 32) (qr := 0) hC [0, 1] (k_X0_note _ _ _ _ _ _ _ _ (by first | assumption | omega) (by first | assumption | omega)) cl_X0_note wm_X0_30 dX0_run_32 rfl rfl rfl rfl rfl (by decide) (by decide) (by omega) (Nat.le_of_ble_eq_true rfl) rfl (fun v9 w9 hq9 => ?_)
  obtain ⟨tf1, ran2, rfl, rfl, hp_32, hn_32⟩ := hq9
  refine g_ws hC [cO g0 0 [.ref ga, .int (iI ran2), .int (iI nb), .int (iI kd), .int (iI tv)], cA K ga 20 tf1] rfl ?_
  refine g_st hC [] rfl ?_
  refine g_aload_n (pc := 35) hC 2 dX0_run_35 rfl rfl ?_
  refine g_iload (pc := 36) hC 0 dX0_run_36 rfl ?_
  refine g_iload (pc := 38) hC 1 dX0_run_38 rfl ?_
  refine g_fnSN (pc := 40) hC [] (k_X9_kindAbove _ (by first | assumption | omega)) cl_X9_kindAbove (by simp [gN] <;> rfl) dX0_run_40 rfl rfl (by decide) (by decide) ⟨by omega, by omega⟩ (Nat.le_of_ble_eq_true rfl) rfl rfl ?_
  refine g_name hC (fun up e_up => ?_)
  have hup : up = -1 := by rw [e_up, hoo]; rfl
  refine g_iload_n (pc := 43) hC 5 dX0_run_43 rfl rfl ?_
  refine g_iload (pc := 44) hC 6 dX0_run_44 rfl ?_
  refine g_iconst (pc := 46) hC dX0_run_46 ?_
  refine g_iadd (pc := 47) hC dX0_run_47 ?_
  refine g_fnV (pc := 48) (qr := 0) hC [0, 1] (k_X0_ans1 _ _ _ _ _ _ _ _ _ _ _ (by first | assumption | omega)) cl_X0_answer wm_X0_38 dX0_run_48 rfl rfl rfl rfl rfl (by decide) (by decide) ⟨by omega, by omega⟩ (Nat.le_of_ble_eq_true rfl) rfl rfl ?_
  refine g_name hC (fun r53 e_r53 => ?_)
  exact g_iret (pc := 51) hR dX0_run_51 rfl ⟨by omega, by omega⟩ (Nat.le_of_ble_eq_true rfl) ⟨tf1, ran2, ret_eq (by unfold ac_b; rw [if_neg hu.1, if_neg hu.2, e_r53]), rfl, (by unfold ar_b; rw [if_neg hu.1, if_neg hu.2, hp_32, hbd]), (by first | assumption | omega)⟩
set_option maxHeartbeats 4000000 in
set_option maxRecDepth 100000 in
theorem k_X0_ans11 {K : gK} (g0 : Nat) (ga : Nat) (b : Int) (ab : Int) (x : Int) (dp : Int) (ran : Int) (nb : Int) (kd : Int) (tv : Int) (tf : Int → Int) (hr : 0 ≤ ran ∧ ran ≤ 19) (hkd : 0 ≤ kd ∧ kd ≤ 6) (hb : b = 11) (hab : ab = 0) (hd : 0 ≤ dp ∧ dp ≤ 20) : gMet K yX0_answer cX0_answer 5 (some .int) 3 0 0 [.ref g0, .int (iI b), .int (iI ab), .int (iI x), .int (iI dp)] [cO g0 0 [.ref ga, .int (iI ran), .int (iI nb), .int (iI kd), .int (iI tv)], cA K ga 20 tf] (fun v9 w9 => ∃ (tf2 : Int → Int), ∃ (ran2 : Int), v9 = some (.int (iI (x * 3 + nb))) ∧ w9 = [cO g0 0 [.ref ga, .int (iI ran2), .int (iI nb), .int (iI kd), .int (iI tv)], cA K ga 20 tf2] ∧ ((tf2, ran2) = ac_p ([1]) (tf, ran)) ∧ (ran ≤ ran2 ∧ ran2 ≤ ran + 1)) := by
  refine g_enter (by decide +kernel) (Nat.le_of_ble_eq_true rfl) (fun G hC hR => ?_)
  refine g_lv hC [0, 1, 2, 3, 4] [(0, _), (1, _), (2, _), (3, _), (4, _)] rfl ?_
  refine g_iload_n (pc := 0) hC 1 dX0_answer_0 rfl rfl ?_
  by_cases k1_11 : b = 11
  · refine g_lsw (pc := 1) hC 116 dX0_answer_1 (by decide) (by omega) (off := 115) (by rw [k1_11]; decide) (by decide) ?_
    refine g_aload_n (pc := 116) hC 0 dX0_answer_116 rfl rfl ?_
    refine g_iconst (pc := 117) hC dX0_answer_117 ?_
    refine g_iload_n (pc := 118) hC 2 dX0_answer_118 rfl rfl ?_
    refine g_iload_n (pc := 119) hC 3 dX0_answer_119 rfl rfl ?_
    refine g_iconst (pc := 120) hC dX0_answer_120 ?_
    refine g_imul (pc := 121) hC dX0_answer_121 ?_
    refine g_iload (pc := 122) hC 4 dX0_answer_122 rfl ?_
    refine g_callV (pc := 124) (qr := 0) hC [0, 1] (k_X0_run_b0 _ _ _ _ _ _ _ _ _ _ _ (by first | assumption | omega) (by first | assumption | omega) (by first | assumption | omega) (by first | assumption | omega) (by rw [hab]; rfl) (by first | assumption | omega)) cl_X0_run wm_X0_19 dX0_answer_124 rfl rfl rfl rfl rfl (by decide) (by decide) (by omega) (Nat.le_of_ble_eq_true rfl) rfl (fun v9 w9 hq9 => ?_)
    obtain ⟨tf1, ran2, rfl, rfl, hp_124, hn_124⟩ := hq9
    refine g_ws hC [cO g0 0 [.ref ga, .int (iI ran2), .int (iI nb), .int (iI kd), .int (iI tv)], cA K ga 20 tf1] rfl ?_
    refine g_st hC [.int (iI (ac_b ab nb (x * 3)))] rfl ?_
    exact g_iret (pc := 127) hR dX0_answer_127 rfl ⟨by omega, by omega⟩ (Nat.le_of_ble_eq_true rfl) ⟨tf1, ran2, ret_eq (by rw [hab]; rfl), rfl, (by rw [hp_124, hab]; rfl), (by first | assumption | omega)⟩
  exfalso
  omega
set_option maxHeartbeats 4000000 in
set_option maxRecDepth 100000 in
theorem k_X0_ans51 {K : gK} (g0 : Nat) (ga : Nat) (b : Int) (ab : Int) (x : Int) (dp : Int) (ran : Int) (nb : Int) (kd : Int) (tv : Int) (tf : Int → Int) (hr : 0 ≤ ran ∧ ran ≤ 19) (hkd : 0 ≤ kd ∧ kd ≤ 6) (hb : b = 51) (hab : ab = 2) (hd : 0 ≤ dp ∧ dp ≤ 20) : gMet K yX0_answer cX0_answer 5 (some .int) 3 0 0 [.ref g0, .int (iI b), .int (iI ab), .int (iI x), .int (iI dp)] [cO g0 0 [.ref ga, .int (iI ran), .int (iI nb), .int (iI kd), .int (iI tv)], cA K ga 20 tf] (fun v9 w9 => ∃ (tf2 : Int → Int), ∃ (ran2 : Int), v9 = some (.int (iI (bXor (x + nb) nb))) ∧ w9 = [cO g0 0 [.ref ga, .int (iI ran2), .int (iI nb), .int (iI kd), .int (iI tv)], cA K ga 20 tf2] ∧ ((tf2, ran2) = ac_p ([1]) (tf, ran)) ∧ (ran ≤ ran2 ∧ ran2 ≤ ran + 1)) := by
  refine g_enter (by decide +kernel) (Nat.le_of_ble_eq_true rfl) (fun G hC hR => ?_)
  refine g_lv hC [0, 1, 2, 3, 4] [(0, _), (1, _), (2, _), (3, _), (4, _)] rfl ?_
  refine g_iload_n (pc := 0) hC 1 dX0_answer_0 rfl rfl ?_
  by_cases k1_51 : b = 51
  · refine g_lsw (pc := 1) hC 177 dX0_answer_1 (by decide) (by omega) (off := 176) (by rw [k1_51]; decide) (by decide) ?_
    refine g_aload_n (pc := 177) hC 0 dX0_answer_177 rfl rfl ?_
    refine g_iconst (pc := 178) hC dX0_answer_178 ?_
    refine g_iload_n (pc := 179) hC 2 dX0_answer_179 rfl rfl ?_
    refine g_iload_n (pc := 180) hC 3 dX0_answer_180 rfl rfl ?_
    refine g_iload (pc := 181) hC 4 dX0_answer_181 rfl ?_
    refine g_callV (pc := 183) (qr := 0) hC [0, 1] (k_X0_run_b0 _ _ _ _ _ _ _ _ _ _ _ (by first | assumption | omega) (by first | assumption | omega) (by first | assumption | omega) (by first | assumption | omega) (by rw [hab]; rfl) (by first | assumption | omega)) cl_X0_run wm_X0_19 dX0_answer_183 rfl rfl rfl rfl rfl (by decide) (by decide) (by omega) (Nat.le_of_ble_eq_true rfl) rfl (fun v9 w9 hq9 => ?_)
    obtain ⟨tf1, ran2, rfl, rfl, hp_183, hn_183⟩ := hq9
    refine g_ws hC [cO g0 0 [.ref ga, .int (iI ran2), .int (iI nb), .int (iI kd), .int (iI tv)], cA K ga 20 tf1] rfl ?_
    refine g_st hC [.int (iI (ac_b ab nb x))] rfl ?_
    refine g_aload_n (pc := 186) hC 0 dX0_answer_186 rfl rfl ?_
    refine g_get (pc := 187) hC 0 fl_X0_41 dX0_answer_187 rfl rfl ?_
    refine g_ixor (pc := 190) hC dX0_answer_190 ?_
    exact g_iret (pc := 191) hR dX0_answer_191 rfl ⟨by omega, by omega⟩ (Nat.le_of_ble_eq_true rfl) ⟨tf1, ran2, ret_eq (by rw [hab]; rfl), rfl, (by rw [hp_183, hab]; rfl), (by first | assumption | omega)⟩
  exfalso
  omega
set_option maxHeartbeats 4000000 in
set_option maxRecDepth 100000 in
theorem k_X0_run_b_0 {K : gK} (g0 : Nat) (ga : Nat) (a : Int) (f : Int) (x : Int) (dp : Int) (ran : Int) (nb : Int) (kd : Int) (tv : Int) (tf : Int → Int) (hr : 0 ≤ ran ∧ ran ≤ 18) (hkd : 0 ≤ kd ∧ kd ≤ 6) (ha : a = 0) (hf : 0 ≤ f ∧ f ≤ 6) (ho : ow 0 f = 0) (hd : 0 ≤ dp ∧ dp ≤ 19) : gMet K yX0_run cX0_run 7 (some .int) 4 0 0 [.ref g0, .int (iI a), .int (iI f), .int (iI x), .int (iI dp)] [cO g0 0 [.ref ga, .int (iI ran), .int (iI nb), .int (iI kd), .int (iI tv)], cA K ga 20 tf] (fun v9 w9 => ∃ (tf2 : Int → Int), ∃ (ran2 : Int), v9 = some (.int (iI (ac_b f nb x))) ∧ w9 = [cO g0 0 [.ref ga, .int (iI ran2), .int (iI nb), .int (iI kd), .int (iI tv)], cA K ga 20 tf2] ∧ ((tf2, ran2) = ac_p (ar_b f) (tf, ran)) ∧ (ran ≤ ran2 ∧ ran2 ≤ ran + 2)) := by
  refine g_enter (by decide +kernel) (Nat.le_of_ble_eq_true rfl) (fun G hC hR => ?_)
  refine g_lv hC [0, 1, 2, 3, 4] [(0, _), (1, _), (2, _), (3, _), (4, _)] rfl ?_
  have hu : ¬ ac_un f 1 = 1 ∧ ¬ f = 5 := by rcases ow_b hf with y9 | y9 | y9 <;> first | exact y9.2 | (exfalso; omega)
  refine g_iload_n (pc := 0) hC 1 dX0_run_0 rfl rfl ?_
  refine g_iload_n (pc := 1) hC 2 dX0_run_1 rfl rfl ?_
  refine g_fnS (pc := 2) hC [] (k_X0_ownerOf _ _ (by first | assumption | omega) (by first | assumption | omega)) cl_X0_ownerOf wm_X0_23 dX0_run_2 rfl rfl (by decide) (by decide) ⟨by omega, by omega⟩ (Nat.le_of_ble_eq_true rfl) rfl rfl ?_
  refine g_name hC (fun o1 e_o1 => ?_)
  have hoo : o1 = 0 := by rw [e_o1, ha]; exact ho
  refine g_istore (pc := 5) hC [(5, _), (0, _), (1, _), (2, _), (3, _), (4, _)] dX0_run_5 (by decide) rfl ?_
  refine g_iload (pc := 7) hC 0 dX0_run_7 rfl ?_
  refine g_if_lt (pc := 9) hC 19 dX0_run_9 (by decide) (by omega) (fun c9 => by exfalso; omega) (fun c9 => ?_)
  refine g_iload (pc := 12) hC 5 dX0_run_12 rfl ?_
  refine g_bipush (pc := 14) hC (20) dX0_run_14 (by decide) ?_
  refine g_icmp_le (pc := 16) hC 21 dX0_run_16 (by decide) (by omega) (by omega) (fun c16 => ?_) (fun c16 => by exfalso; omega)
  refine g_iload_n (pc := 21) hC 2 dX0_run_21 rfl rfl ?_
  refine g_iload (pc := 22) hC 0 dX0_run_22 rfl ?_
  refine g_fnS (pc := 24) hC [] (k_X0_bodyOf _ _ (by first | assumption | omega) (by first | assumption | omega)) cl_X0_bodyOf wm_X0_27 dX0_run_24 rfl rfl (by decide) (by decide) ⟨by omega, by omega⟩ (Nat.le_of_ble_eq_true rfl) rfl rfl ?_
  refine g_name hC (fun bd e_bd => ?_)
  have hbd : bd = 1 := by rw [e_bd, hoo, ha]; rfl
  refine g_istore (pc := 27) hC [(6, _), (5, _), (0, _), (1, _), (2, _), (3, _), (4, _)] dX0_run_27 (by decide) rfl ?_
  refine g_aload_n (pc := 29) hC 2 dX0_run_29 rfl rfl ?_
  refine g_iload (pc := 30) hC 0 dX0_run_30 rfl ?_
  refine g_callV (pc := 32) (qr := 0) hC [0, 1] (k_X0_note _ _ _ _ _ _ _ _ (by first | assumption | omega) (by first | assumption | omega)) cl_X0_note wm_X0_30 dX0_run_32 rfl rfl rfl rfl rfl (by decide) (by decide) (by omega) (Nat.le_of_ble_eq_true rfl) rfl (fun v9 w9 hq9 => ?_)
  obtain ⟨tf1, ran2, rfl, rfl, hp_32, hn_32⟩ := hq9
  refine g_ws hC [cO g0 0 [.ref ga, .int (iI ran2), .int (iI nb), .int (iI kd), .int (iI tv)], cA K ga 20 tf1] rfl ?_
  refine g_st hC [] rfl ?_
  refine g_aload_n (pc := 35) hC 2 dX0_run_35 rfl rfl ?_
  refine g_iload (pc := 36) hC 0 dX0_run_36 rfl ?_
  refine g_iload (pc := 38) hC 1 dX0_run_38 rfl ?_
  refine g_fnSN (pc := 40) hC [] (k_X9_kindAbove _ (by first | assumption | omega)) cl_X9_kindAbove (by simp [gN] <;> rfl) dX0_run_40 rfl rfl (by decide) (by decide) ⟨by omega, by omega⟩ (Nat.le_of_ble_eq_true rfl) rfl rfl ?_
  refine g_name hC (fun up e_up => ?_)
  have hup : up = -1 := by rw [e_up, hoo]; rfl
  refine g_iload_n (pc := 43) hC 5 dX0_run_43 rfl rfl ?_
  refine g_iload (pc := 44) hC 6 dX0_run_44 rfl ?_
  refine g_iconst (pc := 46) hC dX0_run_46 ?_
  refine g_iadd (pc := 47) hC dX0_run_47 ?_
  refine g_fnV (pc := 48) (qr := 0) hC [0, 1] (k_X0_ans1 _ _ _ _ _ _ _ _ _ _ _ (by first | assumption | omega)) cl_X0_answer wm_X0_38 dX0_run_48 rfl rfl rfl rfl rfl (by decide) (by decide) ⟨by omega, by omega⟩ (Nat.le_of_ble_eq_true rfl) rfl rfl ?_
  refine g_name hC (fun r53 e_r53 => ?_)
  exact g_iret (pc := 51) hR dX0_run_51 rfl ⟨by omega, by omega⟩ (Nat.le_of_ble_eq_true rfl) ⟨tf1, ran2, ret_eq (by unfold ac_b; rw [if_neg hu.1, if_neg hu.2, e_r53]), rfl, (by unfold ar_b; rw [if_neg hu.1, if_neg hu.2, hp_32, hbd]), (by first | assumption | omega)⟩
set_option maxHeartbeats 4000000 in
set_option maxRecDepth 100000 in
theorem k_X0_run_b_1 {K : gK} (g0 : Nat) (ga : Nat) (a : Int) (f : Int) (x : Int) (dp : Int) (ran : Int) (nb : Int) (kd : Int) (tv : Int) (tf : Int → Int) (hr : 0 ≤ ran ∧ ran ≤ 18) (hkd : 0 ≤ kd ∧ kd ≤ 6) (ha : a = 0) (hf : 0 ≤ f ∧ f ≤ 6) (ho : ow 0 f = 1) (hd : 0 ≤ dp ∧ dp ≤ 19) : gMet K yX0_run cX0_run 7 (some .int) 4 0 0 [.ref g0, .int (iI a), .int (iI f), .int (iI x), .int (iI dp)] [cO g0 0 [.ref ga, .int (iI ran), .int (iI nb), .int (iI kd), .int (iI tv)], cA K ga 20 tf] (fun v9 w9 => ∃ (tf2 : Int → Int), ∃ (ran2 : Int), v9 = some (.int (iI (ac_b f nb x))) ∧ w9 = [cO g0 0 [.ref ga, .int (iI ran2), .int (iI nb), .int (iI kd), .int (iI tv)], cA K ga 20 tf2] ∧ ((tf2, ran2) = ac_p (ar_b f) (tf, ran)) ∧ (ran ≤ ran2 ∧ ran2 ≤ ran + 2)) := by
  refine g_enter (by decide +kernel) (Nat.le_of_ble_eq_true rfl) (fun G hC hR => ?_)
  refine g_lv hC [0, 1, 2, 3, 4] [(0, _), (1, _), (2, _), (3, _), (4, _)] rfl ?_
  have hu : ac_un f 1 = 1 := by rcases ow_b hf with y9 | y9 | y9 <;> first | exact y9.2 | (exfalso; omega)
  refine g_iload_n (pc := 0) hC 1 dX0_run_0 rfl rfl ?_
  refine g_iload_n (pc := 1) hC 2 dX0_run_1 rfl rfl ?_
  refine g_fnS (pc := 2) hC [] (k_X0_ownerOf _ _ (by first | assumption | omega) (by first | assumption | omega)) cl_X0_ownerOf wm_X0_23 dX0_run_2 rfl rfl (by decide) (by decide) ⟨by omega, by omega⟩ (Nat.le_of_ble_eq_true rfl) rfl rfl ?_
  refine g_name hC (fun o1 e_o1 => ?_)
  have hoo : o1 = 1 := by rw [e_o1, ha]; exact ho
  refine g_istore (pc := 5) hC [(5, _), (0, _), (1, _), (2, _), (3, _), (4, _)] dX0_run_5 (by decide) rfl ?_
  refine g_iload (pc := 7) hC 0 dX0_run_7 rfl ?_
  refine g_if_lt (pc := 9) hC 19 dX0_run_9 (by decide) (by omega) (fun c9 => by exfalso; omega) (fun c9 => ?_)
  refine g_iload (pc := 12) hC 5 dX0_run_12 rfl ?_
  refine g_bipush (pc := 14) hC (20) dX0_run_14 (by decide) ?_
  refine g_icmp_le (pc := 16) hC 21 dX0_run_16 (by decide) (by omega) (by omega) (fun c16 => ?_) (fun c16 => by exfalso; omega)
  refine g_iload_n (pc := 21) hC 2 dX0_run_21 rfl rfl ?_
  refine g_iload (pc := 22) hC 0 dX0_run_22 rfl ?_
  refine g_fnS (pc := 24) hC [] (k_X0_bodyOf _ _ (by first | assumption | omega) (by first | assumption | omega)) cl_X0_bodyOf wm_X0_27 dX0_run_24 rfl rfl (by decide) (by decide) ⟨by omega, by omega⟩ (Nat.le_of_ble_eq_true rfl) rfl rfl ?_
  refine g_name hC (fun bd e_bd => ?_)
  have hbd : bd = 11 := by rw [e_bd, hoo, ha]; rfl
  refine g_istore (pc := 27) hC [(6, _), (5, _), (0, _), (1, _), (2, _), (3, _), (4, _)] dX0_run_27 (by decide) rfl ?_
  refine g_aload_n (pc := 29) hC 2 dX0_run_29 rfl rfl ?_
  refine g_iload (pc := 30) hC 0 dX0_run_30 rfl ?_
  refine g_callV (pc := 32) (qr := 0) hC [0, 1] (k_X0_note _ _ _ _ _ _ _ _ (by first | assumption | omega) (by first | assumption | omega)) cl_X0_note wm_X0_30 dX0_run_32 rfl rfl rfl rfl rfl (by decide) (by decide) (by omega) (Nat.le_of_ble_eq_true rfl) rfl (fun v9 w9 hq9 => ?_)
  obtain ⟨tf1, ran2, rfl, rfl, hp_32, hn_32⟩ := hq9
  refine g_ws hC [cO g0 0 [.ref ga, .int (iI ran2), .int (iI nb), .int (iI kd), .int (iI tv)], cA K ga 20 tf1] rfl ?_
  refine g_st hC [] rfl ?_
  refine g_aload_n (pc := 35) hC 2 dX0_run_35 rfl rfl ?_
  refine g_iload (pc := 36) hC 0 dX0_run_36 rfl ?_
  refine g_iload (pc := 38) hC 1 dX0_run_38 rfl ?_
  refine g_fnSN (pc := 40) hC [] (k_X9_kindAbove _ (by first | assumption | omega)) cl_X9_kindAbove (by simp [gN] <;> rfl) dX0_run_40 rfl rfl (by decide) (by decide) ⟨by omega, by omega⟩ (Nat.le_of_ble_eq_true rfl) rfl rfl ?_
  refine g_name hC (fun up e_up => ?_)
  have hup : up = 0 := by rw [e_up, hoo]; rfl
  refine g_iload_n (pc := 43) hC 5 dX0_run_43 rfl rfl ?_
  refine g_iload (pc := 44) hC 6 dX0_run_44 rfl ?_
  refine g_iconst (pc := 46) hC dX0_run_46 ?_
  refine g_iadd (pc := 47) hC dX0_run_47 ?_
  refine g_callV (pc := 48) (qr := 0) hC [0, 1] (k_X0_ans11 _ _ _ _ _ _ _ _ _ _ _ (by first | assumption | omega) (by first | assumption | omega) (by first | assumption | omega) (by first | assumption | omega) (by first | assumption | omega)) cl_X0_answer wm_X0_38 dX0_run_48 rfl rfl rfl rfl rfl (by decide) (by decide) (by omega) (Nat.le_of_ble_eq_true rfl) rfl (fun v9 w9 hq9 => ?_)
  obtain ⟨tf3, ran4, rfl, rfl, hp_48, hn_48⟩ := hq9
  refine g_ws hC [cO g0 0 [.ref ga, .int (iI ran4), .int (iI nb), .int (iI kd), .int (iI tv)], cA K ga 20 tf3] rfl ?_
  refine g_st hC [.int (iI (x * 3 + nb))] rfl ?_
  exact g_iret (pc := 51) hR dX0_run_51 rfl ⟨by omega, by omega⟩ (Nat.le_of_ble_eq_true rfl) ⟨tf3, ran4, ret_eq (by unfold ac_b; rw [if_pos hu]), rfl, (by unfold ar_b; rw [if_pos hu, hp_48, hp_32, hbd]; rfl), (by first | assumption | omega)⟩
set_option maxHeartbeats 4000000 in
set_option maxRecDepth 100000 in
theorem k_X0_run_b_5 {K : gK} (g0 : Nat) (ga : Nat) (a : Int) (f : Int) (x : Int) (dp : Int) (ran : Int) (nb : Int) (kd : Int) (tv : Int) (tf : Int → Int) (hr : 0 ≤ ran ∧ ran ≤ 18) (hkd : 0 ≤ kd ∧ kd ≤ 6) (ha : a = 0) (hf : 0 ≤ f ∧ f ≤ 6) (ho : ow 0 f = 5) (hd : 0 ≤ dp ∧ dp ≤ 19) : gMet K yX0_run cX0_run 7 (some .int) 4 0 0 [.ref g0, .int (iI a), .int (iI f), .int (iI x), .int (iI dp)] [cO g0 0 [.ref ga, .int (iI ran), .int (iI nb), .int (iI kd), .int (iI tv)], cA K ga 20 tf] (fun v9 w9 => ∃ (tf2 : Int → Int), ∃ (ran2 : Int), v9 = some (.int (iI (ac_b f nb x))) ∧ w9 = [cO g0 0 [.ref ga, .int (iI ran2), .int (iI nb), .int (iI kd), .int (iI tv)], cA K ga 20 tf2] ∧ ((tf2, ran2) = ac_p (ar_b f) (tf, ran)) ∧ (ran ≤ ran2 ∧ ran2 ≤ ran + 2)) := by
  refine g_enter (by decide +kernel) (Nat.le_of_ble_eq_true rfl) (fun G hC hR => ?_)
  refine g_lv hC [0, 1, 2, 3, 4] [(0, _), (1, _), (2, _), (3, _), (4, _)] rfl ?_
  have hu : ¬ ac_un f 1 = 1 ∧ f = 5 := by rcases ow_b hf with y9 | y9 | y9 <;> first | exact y9.2 | (exfalso; omega)
  refine g_iload_n (pc := 0) hC 1 dX0_run_0 rfl rfl ?_
  refine g_iload_n (pc := 1) hC 2 dX0_run_1 rfl rfl ?_
  refine g_fnS (pc := 2) hC [] (k_X0_ownerOf _ _ (by first | assumption | omega) (by first | assumption | omega)) cl_X0_ownerOf wm_X0_23 dX0_run_2 rfl rfl (by decide) (by decide) ⟨by omega, by omega⟩ (Nat.le_of_ble_eq_true rfl) rfl rfl ?_
  refine g_name hC (fun o1 e_o1 => ?_)
  have hoo : o1 = 5 := by rw [e_o1, ha]; exact ho
  refine g_istore (pc := 5) hC [(5, _), (0, _), (1, _), (2, _), (3, _), (4, _)] dX0_run_5 (by decide) rfl ?_
  refine g_iload (pc := 7) hC 0 dX0_run_7 rfl ?_
  refine g_if_lt (pc := 9) hC 19 dX0_run_9 (by decide) (by omega) (fun c9 => by exfalso; omega) (fun c9 => ?_)
  refine g_iload (pc := 12) hC 5 dX0_run_12 rfl ?_
  refine g_bipush (pc := 14) hC (20) dX0_run_14 (by decide) ?_
  refine g_icmp_le (pc := 16) hC 21 dX0_run_16 (by decide) (by omega) (by omega) (fun c16 => ?_) (fun c16 => by exfalso; omega)
  refine g_iload_n (pc := 21) hC 2 dX0_run_21 rfl rfl ?_
  refine g_iload (pc := 22) hC 0 dX0_run_22 rfl ?_
  refine g_fnS (pc := 24) hC [] (k_X0_bodyOf _ _ (by first | assumption | omega) (by first | assumption | omega)) cl_X0_bodyOf wm_X0_27 dX0_run_24 rfl rfl (by decide) (by decide) ⟨by omega, by omega⟩ (Nat.le_of_ble_eq_true rfl) rfl rfl ?_
  refine g_name hC (fun bd e_bd => ?_)
  have hbd : bd = 51 := by rw [e_bd, hoo, ha]; rfl
  refine g_istore (pc := 27) hC [(6, _), (5, _), (0, _), (1, _), (2, _), (3, _), (4, _)] dX0_run_27 (by decide) rfl ?_
  refine g_aload_n (pc := 29) hC 2 dX0_run_29 rfl rfl ?_
  refine g_iload (pc := 30) hC 0 dX0_run_30 rfl ?_
  refine g_callV (pc := 32) (qr := 0) hC [0, 1] (k_X0_note _ _ _ _ _ _ _ _ (by first | assumption | omega) (by first | assumption | omega)) cl_X0_note wm_X0_30 dX0_run_32 rfl rfl rfl rfl rfl (by decide) (by decide) (by omega) (Nat.le_of_ble_eq_true rfl) rfl (fun v9 w9 hq9 => ?_)
  obtain ⟨tf1, ran2, rfl, rfl, hp_32, hn_32⟩ := hq9
  refine g_ws hC [cO g0 0 [.ref ga, .int (iI ran2), .int (iI nb), .int (iI kd), .int (iI tv)], cA K ga 20 tf1] rfl ?_
  refine g_st hC [] rfl ?_
  refine g_aload_n (pc := 35) hC 2 dX0_run_35 rfl rfl ?_
  refine g_iload (pc := 36) hC 0 dX0_run_36 rfl ?_
  refine g_iload (pc := 38) hC 1 dX0_run_38 rfl ?_
  refine g_fnSN (pc := 40) hC [] (k_X9_kindAbove _ (by first | assumption | omega)) cl_X9_kindAbove (by simp [gN] <;> rfl) dX0_run_40 rfl rfl (by decide) (by decide) ⟨by omega, by omega⟩ (Nat.le_of_ble_eq_true rfl) rfl rfl ?_
  refine g_name hC (fun up e_up => ?_)
  have hup : up = 2 := by rw [e_up, hoo]; rfl
  refine g_iload_n (pc := 43) hC 5 dX0_run_43 rfl rfl ?_
  refine g_iload (pc := 44) hC 6 dX0_run_44 rfl ?_
  refine g_iconst (pc := 46) hC dX0_run_46 ?_
  refine g_iadd (pc := 47) hC dX0_run_47 ?_
  refine g_callV (pc := 48) (qr := 0) hC [0, 1] (k_X0_ans51 _ _ _ _ _ _ _ _ _ _ _ (by first | assumption | omega) (by first | assumption | omega) (by first | assumption | omega) (by first | assumption | omega) (by first | assumption | omega)) cl_X0_answer wm_X0_38 dX0_run_48 rfl rfl rfl rfl rfl (by decide) (by decide) (by omega) (Nat.le_of_ble_eq_true rfl) rfl (fun v9 w9 hq9 => ?_)
  obtain ⟨tf3, ran4, rfl, rfl, hp_48, hn_48⟩ := hq9
  refine g_ws hC [cO g0 0 [.ref ga, .int (iI ran4), .int (iI nb), .int (iI kd), .int (iI tv)], cA K ga 20 tf3] rfl ?_
  refine g_st hC [.int (iI (bXor (x + nb) nb))] rfl ?_
  exact g_iret (pc := 51) hR dX0_run_51 rfl ⟨by omega, by omega⟩ (Nat.le_of_ble_eq_true rfl) ⟨tf3, ran4, ret_eq (by unfold ac_b; rw [if_neg hu.1, if_pos hu.2]), rfl, (by unfold ar_b; rw [if_neg hu.1, if_pos hu.2, hp_48, hp_32, hbd]; rfl), (by first | assumption | omega)⟩
set_option maxHeartbeats 4000000 in
theorem k_X0_run_b {K : gK} (g0 : Nat) (ga : Nat) (a : Int) (f : Int) (x : Int) (dp : Int) (ran : Int) (nb : Int) (kd : Int) (tv : Int) (tf : Int → Int) (hr : 0 ≤ ran ∧ ran ≤ 18) (hkd : 0 ≤ kd ∧ kd ≤ 6) (ha : a = 0) (hf : 0 ≤ f ∧ f ≤ 6) (hd : 0 ≤ dp ∧ dp ≤ 19) : gMet K yX0_run cX0_run 7 (some .int) 4 0 0 [.ref g0, .int (iI a), .int (iI f), .int (iI x), .int (iI dp)] [cO g0 0 [.ref ga, .int (iI ran), .int (iI nb), .int (iI kd), .int (iI tv)], cA K ga 20 tf] (fun v9 w9 => ∃ (tf2 : Int → Int), ∃ (ran2 : Int), v9 = some (.int (iI (ac_b f nb x))) ∧ w9 = [cO g0 0 [.ref ga, .int (iI ran2), .int (iI nb), .int (iI kd), .int (iI tv)], cA K ga 20 tf2] ∧ ((tf2, ran2) = ac_p (ar_b f) (tf, ran)) ∧ (ran ≤ ran2 ∧ ran2 ≤ ran + 2)) := by
  rcases ow_b hf with h9 | h9 | h9
  · exact k_X0_run_b_0 _ _ _ _ _ _ _ _ _ _ _ hr hkd ha hf h9.1 hd
  · exact k_X0_run_b_1 _ _ _ _ _ _ _ _ _ _ _ hr hkd ha hf h9.1 hd
  · exact k_X0_run_b_5 _ _ _ _ _ _ _ _ _ _ _ hr hkd ha hf h9.1 hd
set_option maxHeartbeats 4000000 in
set_option maxRecDepth 100000 in
theorem k_X0_ans2 {K : gK} (g0 : Nat) (ga : Nat) (b : Int) (ab : Int) (x : Int) (dp : Int) (ran : Int) (nb : Int) (kd : Int) (tv : Int) (tf : Int → Int) (hr : 0 ≤ ran ∧ ran ≤ 18) (hkd : 0 ≤ kd ∧ kd ≤ 6) (hb : b = 2) (hd : 0 ≤ dp ∧ dp ≤ 19) : gMet K yX0_answer cX0_answer 5 (some .int) 5 0 0 [.ref g0, .int (iI b), .int (iI ab), .int (iI x), .int (iI dp)] [cO g0 0 [.ref ga, .int (iI ran), .int (iI nb), .int (iI kd), .int (iI tv)], cA K ga 20 tf] (fun v9 w9 => ∃ (tf2 : Int → Int), ∃ (ran2 : Int), v9 = some (.int (iI (ac_b kd nb x - tv))) ∧ w9 = [cO g0 0 [.ref ga, .int (iI ran2), .int (iI nb), .int (iI kd), .int (iI tv)], cA K ga 20 tf2] ∧ ((tf2, ran2) = ac_p (ar_b kd) (tf, ran)) ∧ (ran ≤ ran2 ∧ ran2 ≤ ran + 2)) := by
  refine g_enter (by decide +kernel) (Nat.le_of_ble_eq_true rfl) (fun G hC hR => ?_)
  refine g_lv hC [0, 1, 2, 3, 4] [(0, _), (1, _), (2, _), (3, _), (4, _)] rfl ?_
  refine g_iload_n (pc := 0) hC 1 dX0_answer_0 rfl rfl ?_
  by_cases k1_2 : b = 2
  · refine g_lsw (pc := 1) hC 83 dX0_answer_1 (by decide) (by omega) (off := 82) (by rw [k1_2]; decide) (by decide) ?_
    refine g_aload_n (pc := 83) hC 0 dX0_answer_83 rfl rfl ?_
    refine g_iconst (pc := 84) hC dX0_answer_84 ?_
    refine g_aload_n (pc := 85) hC 0 dX0_answer_85 rfl rfl ?_
    refine g_get (pc := 86) hC 0 fl_X0_15 dX0_answer_86 rfl rfl ?_
    refine g_iload_n (pc := 89) hC 3 dX0_answer_89 rfl rfl ?_
    refine g_iload (pc := 90) hC 4 dX0_answer_90 rfl ?_
    refine g_callV (pc := 92) (qr := 0) hC [0, 1] (k_X0_run_b _ _ _ _ _ _ _ _ _ _ _ (by first | assumption | omega) (by first | assumption | omega) (by first | assumption | omega) (by first | assumption | omega) (by first | assumption | omega)) cl_X0_run wm_X0_19 dX0_answer_92 rfl rfl rfl rfl rfl (by decide) (by decide) (by omega) (Nat.le_of_ble_eq_true rfl) rfl (fun v9 w9 hq9 => ?_)
    obtain ⟨tf1, ran2, rfl, rfl, hp_92, hn_92⟩ := hq9
    refine g_ws hC [cO g0 0 [.ref ga, .int (iI ran2), .int (iI nb), .int (iI kd), .int (iI tv)], cA K ga 20 tf1] rfl ?_
    refine g_st hC [.int (iI (ac_b kd nb x))] rfl ?_
    refine g_aload_n (pc := 95) hC 0 dX0_answer_95 rfl rfl ?_
    refine g_get (pc := 96) hC 0 fl_X0_44 dX0_answer_96 rfl rfl ?_
    refine g_isub (pc := 99) hC dX0_answer_99 ?_
    exact g_iret (pc := 100) hR dX0_answer_100 rfl ⟨by omega, by omega⟩ (Nat.le_of_ble_eq_true rfl) ⟨tf1, ran2, ret_eq rfl, rfl, hp_92, (by first | assumption | omega)⟩
  exfalso
  omega
set_option maxHeartbeats 4000000 in
set_option maxRecDepth 100000 in
theorem k_X0_run_s0 {K : gK} (g0 : Nat) (ga : Nat) (a : Int) (f : Int) (x : Int) (dp : Int) (ran : Int) (nb : Int) (kd : Int) (tv : Int) (tf : Int → Int) (hr : 0 ≤ ran ∧ ran ≤ 17) (hkd : 0 ≤ kd ∧ kd ≤ 6) (ha : a = 1) (hf : 0 ≤ f ∧ f ≤ 6) (ho : ow 1 f = 0) (hd : 0 ≤ dp ∧ dp ≤ 18) : gMet K yX0_run cX0_run 7 (some .int) 6 0 0 [.ref g0, .int (iI a), .int (iI f), .int (iI x), .int (iI dp)] [cO g0 0 [.ref ga, .int (iI ran), .int (iI nb), .int (iI kd), .int (iI tv)], cA K ga 20 tf] (fun v9 w9 => ∃ (tf2 : Int → Int), ∃ (ran2 : Int), v9 = some (.int (iI (ac_b kd nb x - tv))) ∧ w9 = [cO g0 0 [.ref ga, .int (iI ran2), .int (iI nb), .int (iI kd), .int (iI tv)], cA K ga 20 tf2] ∧ ((tf2, ran2) = ac_p ([2] ++ ar_b kd) (tf, ran)) ∧ (ran ≤ ran2 ∧ ran2 ≤ ran + 3)) := by
  refine g_enter (by decide +kernel) (Nat.le_of_ble_eq_true rfl) (fun G hC hR => ?_)
  refine g_lv hC [0, 1, 2, 3, 4] [(0, _), (1, _), (2, _), (3, _), (4, _)] rfl ?_
  refine g_iload_n (pc := 0) hC 1 dX0_run_0 rfl rfl ?_
  refine g_iload_n (pc := 1) hC 2 dX0_run_1 rfl rfl ?_
  refine g_fnS (pc := 2) hC [] (k_X0_ownerOf _ _ (by first | assumption | omega) (by first | assumption | omega)) cl_X0_ownerOf wm_X0_23 dX0_run_2 rfl rfl (by decide) (by decide) ⟨by omega, by omega⟩ (Nat.le_of_ble_eq_true rfl) rfl rfl ?_
  refine g_name hC (fun o1 e_o1 => ?_)
  have hoo : o1 = 0 := by rw [e_o1, ha]; exact ho
  refine g_istore (pc := 5) hC [(5, _), (0, _), (1, _), (2, _), (3, _), (4, _)] dX0_run_5 (by decide) rfl ?_
  refine g_iload (pc := 7) hC 0 dX0_run_7 rfl ?_
  refine g_if_lt (pc := 9) hC 19 dX0_run_9 (by decide) (by omega) (fun c9 => by exfalso; omega) (fun c9 => ?_)
  refine g_iload (pc := 12) hC 5 dX0_run_12 rfl ?_
  refine g_bipush (pc := 14) hC (20) dX0_run_14 (by decide) ?_
  refine g_icmp_le (pc := 16) hC 21 dX0_run_16 (by decide) (by omega) (by omega) (fun c16 => ?_) (fun c16 => by exfalso; omega)
  refine g_iload_n (pc := 21) hC 2 dX0_run_21 rfl rfl ?_
  refine g_iload (pc := 22) hC 0 dX0_run_22 rfl ?_
  refine g_fnS (pc := 24) hC [] (k_X0_bodyOf _ _ (by first | assumption | omega) (by first | assumption | omega)) cl_X0_bodyOf wm_X0_27 dX0_run_24 rfl rfl (by decide) (by decide) ⟨by omega, by omega⟩ (Nat.le_of_ble_eq_true rfl) rfl rfl ?_
  refine g_name hC (fun bd e_bd => ?_)
  have hbd : bd = 2 := by rw [e_bd, hoo, ha]; rfl
  refine g_istore (pc := 27) hC [(6, _), (5, _), (0, _), (1, _), (2, _), (3, _), (4, _)] dX0_run_27 (by decide) rfl ?_
  refine g_aload_n (pc := 29) hC 2 dX0_run_29 rfl rfl ?_
  refine g_iload (pc := 30) hC 0 dX0_run_30 rfl ?_
  refine g_callV (pc := 32) (qr := 0) hC [0, 1] (k_X0_note _ _ _ _ _ _ _ _ (by first | assumption | omega) (by first | assumption | omega)) cl_X0_note wm_X0_30 dX0_run_32 rfl rfl rfl rfl rfl (by decide) (by decide) (by omega) (Nat.le_of_ble_eq_true rfl) rfl (fun v9 w9 hq9 => ?_)
  obtain ⟨tf1, ran2, rfl, rfl, hp_32, hn_32⟩ := hq9
  refine g_ws hC [cO g0 0 [.ref ga, .int (iI ran2), .int (iI nb), .int (iI kd), .int (iI tv)], cA K ga 20 tf1] rfl ?_
  refine g_st hC [] rfl ?_
  refine g_aload_n (pc := 35) hC 2 dX0_run_35 rfl rfl ?_
  refine g_iload (pc := 36) hC 0 dX0_run_36 rfl ?_
  refine g_iload (pc := 38) hC 1 dX0_run_38 rfl ?_
  refine g_fnSN (pc := 40) hC [] (k_X9_kindAbove _ (by first | assumption | omega)) cl_X9_kindAbove (by simp [gN] <;> rfl) dX0_run_40 rfl rfl (by decide) (by decide) ⟨by omega, by omega⟩ (Nat.le_of_ble_eq_true rfl) rfl rfl ?_
  refine g_name hC (fun up e_up => ?_)
  have hup : up = -1 := by rw [e_up, hoo]; rfl
  refine g_iload_n (pc := 43) hC 5 dX0_run_43 rfl rfl ?_
  refine g_iload (pc := 44) hC 6 dX0_run_44 rfl ?_
  refine g_iconst (pc := 46) hC dX0_run_46 ?_
  refine g_iadd (pc := 47) hC dX0_run_47 ?_
  refine g_callV (pc := 48) (qr := 0) hC [0, 1] (k_X0_ans2 _ _ _ _ _ _ _ _ _ _ _ (by first | assumption | omega) (by first | assumption | omega) (by first | assumption | omega) (by first | assumption | omega)) cl_X0_answer wm_X0_38 dX0_run_48 rfl rfl rfl rfl rfl (by decide) (by decide) (by omega) (Nat.le_of_ble_eq_true rfl) rfl (fun v9 w9 hq9 => ?_)
  obtain ⟨tf3, ran4, rfl, rfl, hp_48, hn_48⟩ := hq9
  refine g_ws hC [cO g0 0 [.ref ga, .int (iI ran4), .int (iI nb), .int (iI kd), .int (iI tv)], cA K ga 20 tf3] rfl ?_
  refine g_st hC [.int (iI (ac_b kd nb x - tv))] rfl ?_
  exact g_iret (pc := 51) hR dX0_run_51 rfl ⟨by omega, by omega⟩ (Nat.le_of_ble_eq_true rfl) ⟨tf3, ran4, ret_eq rfl, rfl, (by rw [hp_48, hp_32, hbd]; rfl), (by first | assumption | omega)⟩
set_option maxHeartbeats 4000000 in
set_option maxRecDepth 100000 in
theorem k_X0_ans21 {K : gK} (g0 : Nat) (ga : Nat) (b : Int) (ab : Int) (x : Int) (dp : Int) (ran : Int) (nb : Int) (kd : Int) (tv : Int) (tf : Int → Int) (hr : 0 ≤ ran ∧ ran ≤ 17) (hkd : 0 ≤ kd ∧ kd ≤ 6) (hb : b = 21) (hab : ab = 0) (hd : 0 ≤ dp ∧ dp ≤ 18) : gMet K yX0_answer cX0_answer 5 (some .int) 7 0 0 [.ref g0, .int (iI b), .int (iI ab), .int (iI x), .int (iI dp)] [cO g0 0 [.ref ga, .int (iI ran), .int (iI nb), .int (iI kd), .int (iI tv)], cA K ga 20 tf] (fun v9 w9 => ∃ (tf2 : Int → Int), ∃ (ran2 : Int), v9 = some (.int (iI (-(ac_b kd nb x - tv)))) ∧ w9 = [cO g0 0 [.ref ga, .int (iI ran2), .int (iI nb), .int (iI kd), .int (iI tv)], cA K ga 20 tf2] ∧ ((tf2, ran2) = ac_p ([2] ++ ar_b kd) (tf, ran)) ∧ (ran ≤ ran2 ∧ ran2 ≤ ran + 3)) := by
  refine g_enter (by decide +kernel) (Nat.le_of_ble_eq_true rfl) (fun G hC hR => ?_)
  refine g_lv hC [0, 1, 2, 3, 4] [(0, _), (1, _), (2, _), (3, _), (4, _)] rfl ?_
  refine g_iload_n (pc := 0) hC 1 dX0_answer_0 rfl rfl ?_
  by_cases k1_21 : b = 21
  · refine g_lsw (pc := 1) hC 128 dX0_answer_1 (by decide) (by omega) (off := 127) (by rw [k1_21]; decide) (by decide) ?_
    refine g_aload_n (pc := 128) hC 0 dX0_answer_128 rfl rfl ?_
    refine g_iconst (pc := 129) hC dX0_answer_129 ?_
    refine g_iload_n (pc := 130) hC 2 dX0_answer_130 rfl rfl ?_
    refine g_iload_n (pc := 131) hC 3 dX0_answer_131 rfl rfl ?_
    refine g_iload (pc := 132) hC 4 dX0_answer_132 rfl ?_
    refine g_callV (pc := 134) (qr := 0) hC [0, 1] (k_X0_run_s0 _ _ _ _ _ _ _ _ _ _ _ (by first | assumption | omega) (by first | assumption | omega) (by first | assumption | omega) (by first | assumption | omega) (by rw [hab]; rfl) (by first | assumption | omega)) cl_X0_run wm_X0_19 dX0_answer_134 rfl rfl rfl rfl rfl (by decide) (by decide) (by omega) (Nat.le_of_ble_eq_true rfl) rfl (fun v9 w9 hq9 => ?_)
    obtain ⟨tf1, ran2, rfl, rfl, hp_134, hn_134⟩ := hq9
    refine g_ws hC [cO g0 0 [.ref ga, .int (iI ran2), .int (iI nb), .int (iI kd), .int (iI tv)], cA K ga 20 tf1] rfl ?_
    refine g_st hC [.int (iI (ac_b kd nb x - tv))] rfl ?_
    refine g_ineg (pc := 137) hC dX0_answer_137 ?_
    exact g_iret (pc := 138) hR dX0_answer_138 rfl ⟨by omega, by omega⟩ (Nat.le_of_ble_eq_true rfl) ⟨tf1, ran2, ret_eq rfl, rfl, hp_134, (by first | assumption | omega)⟩
  exfalso
  omega
set_option maxHeartbeats 4000000 in
set_option maxRecDepth 100000 in
theorem k_X0_ans61 {K : gK} (g0 : Nat) (ga : Nat) (b : Int) (ab : Int) (x : Int) (dp : Int) (ran : Int) (nb : Int) (kd : Int) (tv : Int) (tf : Int → Int) (hr : 0 ≤ ran ∧ ran ≤ 17) (hkd : 0 ≤ kd ∧ kd ≤ 6) (hb : b = 61) (hab : ab = 3) (hd : 0 ≤ dp ∧ dp ≤ 18) : gMet K yX0_answer cX0_answer 5 (some .int) 7 0 0 [.ref g0, .int (iI b), .int (iI ab), .int (iI x), .int (iI dp)] [cO g0 0 [.ref ga, .int (iI ran), .int (iI nb), .int (iI kd), .int (iI tv)], cA K ga 20 tf] (fun v9 w9 => ∃ (tf2 : Int → Int), ∃ (ran2 : Int), v9 = some (.int (iI (ac_b kd nb x - tv + tv))) ∧ w9 = [cO g0 0 [.ref ga, .int (iI ran2), .int (iI nb), .int (iI kd), .int (iI tv)], cA K ga 20 tf2] ∧ ((tf2, ran2) = ac_p ([2] ++ ar_b kd) (tf, ran)) ∧ (ran ≤ ran2 ∧ ran2 ≤ ran + 3)) := by
  refine g_enter (by decide +kernel) (Nat.le_of_ble_eq_true rfl) (fun G hC hR => ?_)
  refine g_lv hC [0, 1, 2, 3, 4] [(0, _), (1, _), (2, _), (3, _), (4, _)] rfl ?_
  refine g_iload_n (pc := 0) hC 1 dX0_answer_0 rfl rfl ?_
  have k1_1 : ¬ b = 1 := by omega
  have k1_2 : ¬ b = 2 := by omega
  have k1_3 : ¬ b = 3 := by omega
  have k1_11 : ¬ b = 11 := by omega
  have k1_21 : ¬ b = 21 := by omega
  have k1_31 : ¬ b = 31 := by omega
  have k1_41 : ¬ b = 41 := by omega
  have k1_51 : ¬ b = 51 := by omega
  refine g_lsw (pc := 1) hC 192 dX0_answer_1 (by decide) (by omega) (off := 191) (by simp only [Op.lookupswitch.offset_cons, if_neg (Ne.symm k1_1), if_neg (Ne.symm k1_2), if_neg (Ne.symm k1_3), if_neg (Ne.symm k1_11), if_neg (Ne.symm k1_21), if_neg (Ne.symm k1_31), if_neg (Ne.symm k1_41), if_neg (Ne.symm k1_51)]; rfl) (by decide) ?_
  refine g_aload_n (pc := 192) hC 0 dX0_answer_192 rfl rfl ?_
  refine g_iconst (pc := 193) hC dX0_answer_193 ?_
  refine g_iload_n (pc := 194) hC 2 dX0_answer_194 rfl rfl ?_
  refine g_iload_n (pc := 195) hC 3 dX0_answer_195 rfl rfl ?_
  refine g_iload (pc := 196) hC 4 dX0_answer_196 rfl ?_
  refine g_callV (pc := 198) (qr := 0) hC [0, 1] (k_X0_run_s0 _ _ _ _ _ _ _ _ _ _ _ (by first | assumption | omega) (by first | assumption | omega) (by first | assumption | omega) (by first | assumption | omega) (by rw [hab]; rfl) (by first | assumption | omega)) cl_X0_run wm_X0_19 dX0_answer_198 rfl rfl rfl rfl rfl (by decide) (by decide) (by omega) (Nat.le_of_ble_eq_true rfl) rfl (fun v9 w9 hq9 => ?_)
  obtain ⟨tf1, ran2, rfl, rfl, hp_198, hn_198⟩ := hq9
  refine g_ws hC [cO g0 0 [.ref ga, .int (iI ran2), .int (iI nb), .int (iI kd), .int (iI tv)], cA K ga 20 tf1] rfl ?_
  refine g_st hC [.int (iI (ac_b kd nb x - tv))] rfl ?_
  refine g_aload_n (pc := 201) hC 0 dX0_answer_201 rfl rfl ?_
  refine g_get (pc := 202) hC 0 fl_X0_44 dX0_answer_202 rfl rfl ?_
  refine g_iadd (pc := 205) hC dX0_answer_205 ?_
  exact g_iret (pc := 206) hR dX0_answer_206 rfl ⟨by omega, by omega⟩ (Nat.le_of_ble_eq_true rfl) ⟨tf1, ran2, ret_eq rfl, rfl, hp_198, (by first | assumption | omega)⟩
set_option maxHeartbeats 4000000 in
set_option maxRecDepth 100000 in
theorem k_X0_run_s_0 {K : gK} (g0 : Nat) (ga : Nat) (a : Int) (f : Int) (x : Int) (dp : Int) (ran : Int) (nb : Int) (kd : Int) (tv : Int) (tf : Int → Int) (hr : 0 ≤ ran ∧ ran ≤ 16) (hkd : 0 ≤ kd ∧ kd ≤ 6) (ha : a = 1) (hf : 0 ≤ f ∧ f ≤ 6) (ho : ow 1 f = 0) (hd : 0 ≤ dp ∧ dp ≤ 17) (hfk : f = kd) : gMet K yX0_run cX0_run 7 (some .int) 8 0 0 [.ref g0, .int (iI a), .int (iI f), .int (iI x), .int (iI dp)] [cO g0 0 [.ref ga, .int (iI ran), .int (iI nb), .int (iI kd), .int (iI tv)], cA K ga 20 tf] (fun v9 w9 => ∃ (tf2 : Int → Int), ∃ (ran2 : Int), v9 = some (.int (iI (ac_s kd nb tv x))) ∧ w9 = [cO g0 0 [.ref ga, .int (iI ran2), .int (iI nb), .int (iI kd), .int (iI tv)], cA K ga 20 tf2] ∧ ((tf2, ran2) = ac_p (ar_s kd) (tf, ran)) ∧ (ran ≤ ran2 ∧ ran2 ≤ ran + 4)) := by
  refine g_enter (by decide +kernel) (Nat.le_of_ble_eq_true rfl) (fun G hC hR => ?_)
  refine g_lv hC [0, 1, 2, 3, 4] [(0, _), (1, _), (2, _), (3, _), (4, _)] rfl ?_
  rw [hfk] at ho
  have hu : ¬ ac_un kd 2 = 1 ∧ ¬ kd = 6 := by rcases ow_s hkd with y9 | y9 | y9 <;> first | exact y9.2 | (exfalso; omega)
  refine g_iload_n (pc := 0) hC 1 dX0_run_0 rfl rfl ?_
  refine g_iload_n (pc := 1) hC 2 dX0_run_1 rfl rfl ?_
  refine g_fnS (pc := 2) hC [] (k_X0_ownerOf _ _ (by first | assumption | omega) (by first | assumption | omega)) cl_X0_ownerOf wm_X0_23 dX0_run_2 rfl rfl (by decide) (by decide) ⟨by omega, by omega⟩ (Nat.le_of_ble_eq_true rfl) rfl rfl ?_
  refine g_name hC (fun o1 e_o1 => ?_)
  have hoo : o1 = 0 := by rw [e_o1, ha, hfk]; exact ho
  refine g_istore (pc := 5) hC [(5, _), (0, _), (1, _), (2, _), (3, _), (4, _)] dX0_run_5 (by decide) rfl ?_
  refine g_iload (pc := 7) hC 0 dX0_run_7 rfl ?_
  refine g_if_lt (pc := 9) hC 19 dX0_run_9 (by decide) (by omega) (fun c9 => by exfalso; omega) (fun c9 => ?_)
  refine g_iload (pc := 12) hC 5 dX0_run_12 rfl ?_
  refine g_bipush (pc := 14) hC (20) dX0_run_14 (by decide) ?_
  refine g_icmp_le (pc := 16) hC 21 dX0_run_16 (by decide) (by omega) (by omega) (fun c16 => ?_) (fun c16 => by exfalso; omega)
  refine g_iload_n (pc := 21) hC 2 dX0_run_21 rfl rfl ?_
  refine g_iload (pc := 22) hC 0 dX0_run_22 rfl ?_
  refine g_fnS (pc := 24) hC [] (k_X0_bodyOf _ _ (by first | assumption | omega) (by first | assumption | omega)) cl_X0_bodyOf wm_X0_27 dX0_run_24 rfl rfl (by decide) (by decide) ⟨by omega, by omega⟩ (Nat.le_of_ble_eq_true rfl) rfl rfl ?_
  refine g_name hC (fun bd e_bd => ?_)
  have hbd : bd = 2 := by rw [e_bd, hoo, ha]; rfl
  refine g_istore (pc := 27) hC [(6, _), (5, _), (0, _), (1, _), (2, _), (3, _), (4, _)] dX0_run_27 (by decide) rfl ?_
  refine g_aload_n (pc := 29) hC 2 dX0_run_29 rfl rfl ?_
  refine g_iload (pc := 30) hC 0 dX0_run_30 rfl ?_
  refine g_callV (pc := 32) (qr := 0) hC [0, 1] (k_X0_note _ _ _ _ _ _ _ _ (by first | assumption | omega) (by first | assumption | omega)) cl_X0_note wm_X0_30 dX0_run_32 rfl rfl rfl rfl rfl (by decide) (by decide) (by omega) (Nat.le_of_ble_eq_true rfl) rfl (fun v9 w9 hq9 => ?_)
  obtain ⟨tf1, ran2, rfl, rfl, hp_32, hn_32⟩ := hq9
  refine g_ws hC [cO g0 0 [.ref ga, .int (iI ran2), .int (iI nb), .int (iI kd), .int (iI tv)], cA K ga 20 tf1] rfl ?_
  refine g_st hC [] rfl ?_
  refine g_aload_n (pc := 35) hC 2 dX0_run_35 rfl rfl ?_
  refine g_iload (pc := 36) hC 0 dX0_run_36 rfl ?_
  refine g_iload (pc := 38) hC 1 dX0_run_38 rfl ?_
  refine g_fnSN (pc := 40) hC [] (k_X9_kindAbove _ (by first | assumption | omega)) cl_X9_kindAbove (by simp [gN] <;> rfl) dX0_run_40 rfl rfl (by decide) (by decide) ⟨by omega, by omega⟩ (Nat.le_of_ble_eq_true rfl) rfl rfl ?_
  refine g_name hC (fun up e_up => ?_)
  have hup : up = -1 := by rw [e_up, hoo]; rfl
  refine g_iload_n (pc := 43) hC 5 dX0_run_43 rfl rfl ?_
  refine g_iload (pc := 44) hC 6 dX0_run_44 rfl ?_
  refine g_iconst (pc := 46) hC dX0_run_46 ?_
  refine g_iadd (pc := 47) hC dX0_run_47 ?_
  refine g_callV (pc := 48) (qr := 0) hC [0, 1] (k_X0_ans2 _ _ _ _ _ _ _ _ _ _ _ (by first | assumption | omega) (by first | assumption | omega) (by first | assumption | omega) (by first | assumption | omega)) cl_X0_answer wm_X0_38 dX0_run_48 rfl rfl rfl rfl rfl (by decide) (by decide) (by omega) (Nat.le_of_ble_eq_true rfl) rfl (fun v9 w9 hq9 => ?_)
  obtain ⟨tf3, ran4, rfl, rfl, hp_48, hn_48⟩ := hq9
  refine g_ws hC [cO g0 0 [.ref ga, .int (iI ran4), .int (iI nb), .int (iI kd), .int (iI tv)], cA K ga 20 tf3] rfl ?_
  refine g_st hC [.int (iI (ac_b kd nb x - tv))] rfl ?_
  exact g_iret (pc := 51) hR dX0_run_51 rfl ⟨by omega, by omega⟩ (Nat.le_of_ble_eq_true rfl) ⟨tf3, ran4, ret_eq (by unfold ac_s; rw [if_neg hu.1, if_neg hu.2]), rfl, (by unfold ar_s; rw [if_neg hu.1, if_neg hu.2, hp_48, hp_32, hbd]; rfl), (by first | assumption | omega)⟩
set_option maxHeartbeats 4000000 in
set_option maxRecDepth 100000 in
theorem k_X0_run_s_2 {K : gK} (g0 : Nat) (ga : Nat) (a : Int) (f : Int) (x : Int) (dp : Int) (ran : Int) (nb : Int) (kd : Int) (tv : Int) (tf : Int → Int) (hr : 0 ≤ ran ∧ ran ≤ 16) (hkd : 0 ≤ kd ∧ kd ≤ 6) (ha : a = 1) (hf : 0 ≤ f ∧ f ≤ 6) (ho : ow 1 f = 2) (hd : 0 ≤ dp ∧ dp ≤ 17) (hfk : f = kd) : gMet K yX0_run cX0_run 7 (some .int) 8 0 0 [.ref g0, .int (iI a), .int (iI f), .int (iI x), .int (iI dp)] [cO g0 0 [.ref ga, .int (iI ran), .int (iI nb), .int (iI kd), .int (iI tv)], cA K ga 20 tf] (fun v9 w9 => ∃ (tf2 : Int → Int), ∃ (ran2 : Int), v9 = some (.int (iI (ac_s kd nb tv x))) ∧ w9 = [cO g0 0 [.ref ga, .int (iI ran2), .int (iI nb), .int (iI kd), .int (iI tv)], cA K ga 20 tf2] ∧ ((tf2, ran2) = ac_p (ar_s kd) (tf, ran)) ∧ (ran ≤ ran2 ∧ ran2 ≤ ran + 4)) := by
  refine g_enter (by decide +kernel) (Nat.le_of_ble_eq_true rfl) (fun G hC hR => ?_)
  refine g_lv hC [0, 1, 2, 3, 4] [(0, _), (1, _), (2, _), (3, _), (4, _)] rfl ?_
  rw [hfk] at ho
  have hu : ac_un kd 2 = 1 := by rcases ow_s hkd with y9 | y9 | y9 <;> first | exact y9.2 | (exfalso; omega)
  refine g_iload_n (pc := 0) hC 1 dX0_run_0 rfl rfl ?_
  refine g_iload_n (pc := 1) hC 2 dX0_run_1 rfl rfl ?_
  refine g_fnS (pc := 2) hC [] (k_X0_ownerOf _ _ (by first | assumption | omega) (by first | assumption | omega)) cl_X0_ownerOf wm_X0_23 dX0_run_2 rfl rfl (by decide) (by decide) ⟨by omega, by omega⟩ (Nat.le_of_ble_eq_true rfl) rfl rfl ?_
  refine g_name hC (fun o1 e_o1 => ?_)
  have hoo : o1 = 2 := by rw [e_o1, ha, hfk]; exact ho
  refine g_istore (pc := 5) hC [(5, _), (0, _), (1, _), (2, _), (3, _), (4, _)] dX0_run_5 (by decide) rfl ?_
  refine g_iload (pc := 7) hC 0 dX0_run_7 rfl ?_
  refine g_if_lt (pc := 9) hC 19 dX0_run_9 (by decide) (by omega) (fun c9 => by exfalso; omega) (fun c9 => ?_)
  refine g_iload (pc := 12) hC 5 dX0_run_12 rfl ?_
  refine g_bipush (pc := 14) hC (20) dX0_run_14 (by decide) ?_
  refine g_icmp_le (pc := 16) hC 21 dX0_run_16 (by decide) (by omega) (by omega) (fun c16 => ?_) (fun c16 => by exfalso; omega)
  refine g_iload_n (pc := 21) hC 2 dX0_run_21 rfl rfl ?_
  refine g_iload (pc := 22) hC 0 dX0_run_22 rfl ?_
  refine g_fnS (pc := 24) hC [] (k_X0_bodyOf _ _ (by first | assumption | omega) (by first | assumption | omega)) cl_X0_bodyOf wm_X0_27 dX0_run_24 rfl rfl (by decide) (by decide) ⟨by omega, by omega⟩ (Nat.le_of_ble_eq_true rfl) rfl rfl ?_
  refine g_name hC (fun bd e_bd => ?_)
  have hbd : bd = 21 := by rw [e_bd, hoo, ha]; rfl
  refine g_istore (pc := 27) hC [(6, _), (5, _), (0, _), (1, _), (2, _), (3, _), (4, _)] dX0_run_27 (by decide) rfl ?_
  refine g_aload_n (pc := 29) hC 2 dX0_run_29 rfl rfl ?_
  refine g_iload (pc := 30) hC 0 dX0_run_30 rfl ?_
  refine g_callV (pc := 32) (qr := 0) hC [0, 1] (k_X0_note _ _ _ _ _ _ _ _ (by first | assumption | omega) (by first | assumption | omega)) cl_X0_note wm_X0_30 dX0_run_32 rfl rfl rfl rfl rfl (by decide) (by decide) (by omega) (Nat.le_of_ble_eq_true rfl) rfl (fun v9 w9 hq9 => ?_)
  obtain ⟨tf1, ran2, rfl, rfl, hp_32, hn_32⟩ := hq9
  refine g_ws hC [cO g0 0 [.ref ga, .int (iI ran2), .int (iI nb), .int (iI kd), .int (iI tv)], cA K ga 20 tf1] rfl ?_
  refine g_st hC [] rfl ?_
  refine g_aload_n (pc := 35) hC 2 dX0_run_35 rfl rfl ?_
  refine g_iload (pc := 36) hC 0 dX0_run_36 rfl ?_
  refine g_iload (pc := 38) hC 1 dX0_run_38 rfl ?_
  refine g_fnSN (pc := 40) hC [] (k_X9_kindAbove _ (by first | assumption | omega)) cl_X9_kindAbove (by simp [gN] <;> rfl) dX0_run_40 rfl rfl (by decide) (by decide) ⟨by omega, by omega⟩ (Nat.le_of_ble_eq_true rfl) rfl rfl ?_
  refine g_name hC (fun up e_up => ?_)
  have hup : up = 0 := by rw [e_up, hoo]; rfl
  refine g_iload_n (pc := 43) hC 5 dX0_run_43 rfl rfl ?_
  refine g_iload (pc := 44) hC 6 dX0_run_44 rfl ?_
  refine g_iconst (pc := 46) hC dX0_run_46 ?_
  refine g_iadd (pc := 47) hC dX0_run_47 ?_
  refine g_callV (pc := 48) (qr := 0) hC [0, 1] (k_X0_ans21 _ _ _ _ _ _ _ _ _ _ _ (by first | assumption | omega) (by first | assumption | omega) (by first | assumption | omega) (by first | assumption | omega) (by first | assumption | omega)) cl_X0_answer wm_X0_38 dX0_run_48 rfl rfl rfl rfl rfl (by decide) (by decide) (by omega) (Nat.le_of_ble_eq_true rfl) rfl (fun v9 w9 hq9 => ?_)
  obtain ⟨tf3, ran4, rfl, rfl, hp_48, hn_48⟩ := hq9
  refine g_ws hC [cO g0 0 [.ref ga, .int (iI ran4), .int (iI nb), .int (iI kd), .int (iI tv)], cA K ga 20 tf3] rfl ?_
  refine g_st hC [.int (iI (-(ac_b kd nb x - tv)))] rfl ?_
  exact g_iret (pc := 51) hR dX0_run_51 rfl ⟨by omega, by omega⟩ (Nat.le_of_ble_eq_true rfl) ⟨tf3, ran4, ret_eq (by unfold ac_s; rw [if_pos hu]), rfl, (by unfold ar_s; rw [if_pos hu, hp_48, hp_32, hbd]; rfl), (by first | assumption | omega)⟩
set_option maxHeartbeats 4000000 in
set_option maxRecDepth 100000 in
theorem k_X0_run_s_6 {K : gK} (g0 : Nat) (ga : Nat) (a : Int) (f : Int) (x : Int) (dp : Int) (ran : Int) (nb : Int) (kd : Int) (tv : Int) (tf : Int → Int) (hr : 0 ≤ ran ∧ ran ≤ 16) (hkd : 0 ≤ kd ∧ kd ≤ 6) (ha : a = 1) (hf : 0 ≤ f ∧ f ≤ 6) (ho : ow 1 f = 6) (hd : 0 ≤ dp ∧ dp ≤ 17) (hfk : f = kd) : gMet K yX0_run cX0_run 7 (some .int) 8 0 0 [.ref g0, .int (iI a), .int (iI f), .int (iI x), .int (iI dp)] [cO g0 0 [.ref ga, .int (iI ran), .int (iI nb), .int (iI kd), .int (iI tv)], cA K ga 20 tf] (fun v9 w9 => ∃ (tf2 : Int → Int), ∃ (ran2 : Int), v9 = some (.int (iI (ac_s kd nb tv x))) ∧ w9 = [cO g0 0 [.ref ga, .int (iI ran2), .int (iI nb), .int (iI kd), .int (iI tv)], cA K ga 20 tf2] ∧ ((tf2, ran2) = ac_p (ar_s kd) (tf, ran)) ∧ (ran ≤ ran2 ∧ ran2 ≤ ran + 4)) := by
  refine g_enter (by decide +kernel) (Nat.le_of_ble_eq_true rfl) (fun G hC hR => ?_)
  refine g_lv hC [0, 1, 2, 3, 4] [(0, _), (1, _), (2, _), (3, _), (4, _)] rfl ?_
  rw [hfk] at ho
  have hu : ¬ ac_un kd 2 = 1 ∧ kd = 6 := by rcases ow_s hkd with y9 | y9 | y9 <;> first | exact y9.2 | (exfalso; omega)
  refine g_iload_n (pc := 0) hC 1 dX0_run_0 rfl rfl ?_
  refine g_iload_n (pc := 1) hC 2 dX0_run_1 rfl rfl ?_
  refine g_fnS (pc := 2) hC [] (k_X0_ownerOf _ _ (by first | assumption | omega) (by first | assumption | omega)) cl_X0_ownerOf wm_X0_23 dX0_run_2 rfl rfl (by decide) (by decide) ⟨by omega, by omega⟩ (Nat.le_of_ble_eq_true rfl) rfl rfl ?_
  refine g_name hC (fun o1 e_o1 => ?_)
  have hoo : o1 = 6 := by rw [e_o1, ha, hfk]; exact ho
  refine g_istore (pc := 5) hC [(5, _), (0, _), (1, _), (2, _), (3, _), (4, _)] dX0_run_5 (by decide) rfl ?_
  refine g_iload (pc := 7) hC 0 dX0_run_7 rfl ?_
  refine g_if_lt (pc := 9) hC 19 dX0_run_9 (by decide) (by omega) (fun c9 => by exfalso; omega) (fun c9 => ?_)
  refine g_iload (pc := 12) hC 5 dX0_run_12 rfl ?_
  refine g_bipush (pc := 14) hC (20) dX0_run_14 (by decide) ?_
  refine g_icmp_le (pc := 16) hC 21 dX0_run_16 (by decide) (by omega) (by omega) (fun c16 => ?_) (fun c16 => by exfalso; omega)
  refine g_iload_n (pc := 21) hC 2 dX0_run_21 rfl rfl ?_
  refine g_iload (pc := 22) hC 0 dX0_run_22 rfl ?_
  refine g_fnS (pc := 24) hC [] (k_X0_bodyOf _ _ (by first | assumption | omega) (by first | assumption | omega)) cl_X0_bodyOf wm_X0_27 dX0_run_24 rfl rfl (by decide) (by decide) ⟨by omega, by omega⟩ (Nat.le_of_ble_eq_true rfl) rfl rfl ?_
  refine g_name hC (fun bd e_bd => ?_)
  have hbd : bd = 61 := by rw [e_bd, hoo, ha]; rfl
  refine g_istore (pc := 27) hC [(6, _), (5, _), (0, _), (1, _), (2, _), (3, _), (4, _)] dX0_run_27 (by decide) rfl ?_
  refine g_aload_n (pc := 29) hC 2 dX0_run_29 rfl rfl ?_
  refine g_iload (pc := 30) hC 0 dX0_run_30 rfl ?_
  refine g_callV (pc := 32) (qr := 0) hC [0, 1] (k_X0_note _ _ _ _ _ _ _ _ (by first | assumption | omega) (by first | assumption | omega)) cl_X0_note wm_X0_30 dX0_run_32 rfl rfl rfl rfl rfl (by decide) (by decide) (by omega) (Nat.le_of_ble_eq_true rfl) rfl (fun v9 w9 hq9 => ?_)
  obtain ⟨tf1, ran2, rfl, rfl, hp_32, hn_32⟩ := hq9
  refine g_ws hC [cO g0 0 [.ref ga, .int (iI ran2), .int (iI nb), .int (iI kd), .int (iI tv)], cA K ga 20 tf1] rfl ?_
  refine g_st hC [] rfl ?_
  refine g_aload_n (pc := 35) hC 2 dX0_run_35 rfl rfl ?_
  refine g_iload (pc := 36) hC 0 dX0_run_36 rfl ?_
  refine g_iload (pc := 38) hC 1 dX0_run_38 rfl ?_
  refine g_fnSN (pc := 40) hC [] (k_X9_kindAbove _ (by first | assumption | omega)) cl_X9_kindAbove (by simp [gN] <;> rfl) dX0_run_40 rfl rfl (by decide) (by decide) ⟨by omega, by omega⟩ (Nat.le_of_ble_eq_true rfl) rfl rfl ?_
  refine g_name hC (fun up e_up => ?_)
  have hup : up = 3 := by rw [e_up, hoo]; rfl
  refine g_iload_n (pc := 43) hC 5 dX0_run_43 rfl rfl ?_
  refine g_iload (pc := 44) hC 6 dX0_run_44 rfl ?_
  refine g_iconst (pc := 46) hC dX0_run_46 ?_
  refine g_iadd (pc := 47) hC dX0_run_47 ?_
  refine g_callV (pc := 48) (qr := 0) hC [0, 1] (k_X0_ans61 _ _ _ _ _ _ _ _ _ _ _ (by first | assumption | omega) (by first | assumption | omega) (by first | assumption | omega) (by first | assumption | omega) (by first | assumption | omega)) cl_X0_answer wm_X0_38 dX0_run_48 rfl rfl rfl rfl rfl (by decide) (by decide) (by omega) (Nat.le_of_ble_eq_true rfl) rfl (fun v9 w9 hq9 => ?_)
  obtain ⟨tf3, ran4, rfl, rfl, hp_48, hn_48⟩ := hq9
  refine g_ws hC [cO g0 0 [.ref ga, .int (iI ran4), .int (iI nb), .int (iI kd), .int (iI tv)], cA K ga 20 tf3] rfl ?_
  refine g_st hC [.int (iI (ac_b kd nb x - tv + tv))] rfl ?_
  exact g_iret (pc := 51) hR dX0_run_51 rfl ⟨by omega, by omega⟩ (Nat.le_of_ble_eq_true rfl) ⟨tf3, ran4, ret_eq (by unfold ac_s; rw [if_neg hu.1, if_pos hu.2]), rfl, (by unfold ar_s; rw [if_neg hu.1, if_pos hu.2, hp_48, hp_32, hbd]; rfl), (by first | assumption | omega)⟩
set_option maxHeartbeats 4000000 in
theorem k_X0_run_s {K : gK} (g0 : Nat) (ga : Nat) (a : Int) (f : Int) (x : Int) (dp : Int) (ran : Int) (nb : Int) (kd : Int) (tv : Int) (tf : Int → Int) (hr : 0 ≤ ran ∧ ran ≤ 16) (hkd : 0 ≤ kd ∧ kd ≤ 6) (ha : a = 1) (hf : 0 ≤ f ∧ f ≤ 6) (hd : 0 ≤ dp ∧ dp ≤ 17) (hfk : f = kd) : gMet K yX0_run cX0_run 7 (some .int) 8 0 0 [.ref g0, .int (iI a), .int (iI f), .int (iI x), .int (iI dp)] [cO g0 0 [.ref ga, .int (iI ran), .int (iI nb), .int (iI kd), .int (iI tv)], cA K ga 20 tf] (fun v9 w9 => ∃ (tf2 : Int → Int), ∃ (ran2 : Int), v9 = some (.int (iI (ac_s kd nb tv x))) ∧ w9 = [cO g0 0 [.ref ga, .int (iI ran2), .int (iI nb), .int (iI kd), .int (iI tv)], cA K ga 20 tf2] ∧ ((tf2, ran2) = ac_p (ar_s kd) (tf, ran)) ∧ (ran ≤ ran2 ∧ ran2 ≤ ran + 4)) := by
  rcases ow_s hf with h9 | h9 | h9
  · exact k_X0_run_s_0 _ _ _ _ _ _ _ _ _ _ _ hr hkd ha hf h9.1 hd hfk
  · exact k_X0_run_s_2 _ _ _ _ _ _ _ _ _ _ _ hr hkd ha hf h9.1 hd hfk
  · exact k_X0_run_s_6 _ _ _ _ _ _ _ _ _ _ _ hr hkd ha hf h9.1 hd hfk
set_option maxHeartbeats 4000000 in
set_option maxRecDepth 100000 in
theorem k_X0_ans3 {K : gK} (g0 : Nat) (ga : Nat) (b : Int) (ab : Int) (x : Int) (dp : Int) (ran : Int) (nb : Int) (kd : Int) (tv : Int) (tf : Int → Int) (hr : 0 ≤ ran ∧ ran ≤ 16) (hkd : 0 ≤ kd ∧ kd ≤ 6) (hb : b = 3) (hd : 0 ≤ dp ∧ dp ≤ 17) : gMet K yX0_answer cX0_answer 5 (some .int) 9 0 0 [.ref g0, .int (iI b), .int (iI ab), .int (iI x), .int (iI dp)] [cO g0 0 [.ref ga, .int (iI ran), .int (iI nb), .int (iI kd), .int (iI tv)], cA K ga 20 tf] (fun v9 w9 => ∃ (tf2 : Int → Int), ∃ (ran2 : Int), v9 = some (.int (iI (ac_s kd nb tv x * 2))) ∧ w9 = [cO g0 0 [.ref ga, .int (iI ran2), .int (iI nb), .int (iI kd), .int (iI tv)], cA K ga 20 tf2] ∧ ((tf2, ran2) = ac_p (ar_s kd) (tf, ran)) ∧ (ran ≤ ran2 ∧ ran2 ≤ ran + 4)) := by
  refine g_enter (by decide +kernel) (Nat.le_of_ble_eq_true rfl) (fun G hC hR => ?_)
  refine g_lv hC [0, 1, 2, 3, 4] [(0, _), (1, _), (2, _), (3, _), (4, _)] rfl ?_
  refine g_iload_n (pc := 0) hC 1 dX0_answer_0 rfl rfl ?_
  by_cases k1_3 : b = 3
  · refine g_lsw (pc := 1) hC 101 dX0_answer_1 (by decide) (by omega) (off := 100) (by rw [k1_3]; decide) (by decide) ?_
    refine g_aload_n (pc := 101) hC 0 dX0_answer_101 rfl rfl ?_
    refine g_iconst (pc := 102) hC dX0_answer_102 ?_
    refine g_aload_n (pc := 103) hC 0 dX0_answer_103 rfl rfl ?_
    refine g_get (pc := 104) hC 0 fl_X0_15 dX0_answer_104 rfl rfl ?_
    refine g_iload_n (pc := 107) hC 3 dX0_answer_107 rfl rfl ?_
    refine g_iload (pc := 108) hC 4 dX0_answer_108 rfl ?_
    refine g_callV (pc := 110) (qr := 0) hC [0, 1] (k_X0_run_s _ _ _ _ _ _ _ _ _ _ _ (by first | assumption | omega) (by first | assumption | omega) (by first | assumption | omega) (by first | assumption | omega) (by first | assumption | omega) (by first | assumption | omega)) cl_X0_run wm_X0_19 dX0_answer_110 rfl rfl rfl rfl rfl (by decide) (by decide) (by omega) (Nat.le_of_ble_eq_true rfl) rfl (fun v9 w9 hq9 => ?_)
    obtain ⟨tf1, ran2, rfl, rfl, hp_110, hn_110⟩ := hq9
    refine g_ws hC [cO g0 0 [.ref ga, .int (iI ran2), .int (iI nb), .int (iI kd), .int (iI tv)], cA K ga 20 tf1] rfl ?_
    refine g_st hC [.int (iI (ac_s kd nb tv x))] rfl ?_
    refine g_iconst (pc := 113) hC dX0_answer_113 ?_
    refine g_imul (pc := 114) hC dX0_answer_114 ?_
    exact g_iret (pc := 115) hR dX0_answer_115 rfl ⟨by omega, by omega⟩ (Nat.le_of_ble_eq_true rfl) ⟨tf1, ran2, ret_eq rfl, rfl, hp_110, (by first | assumption | omega)⟩
  exfalso
  omega
set_option maxHeartbeats 4000000 in
set_option maxRecDepth 100000 in
theorem k_X0_run_w0 {K : gK} (g0 : Nat) (ga : Nat) (a : Int) (f : Int) (x : Int) (dp : Int) (ran : Int) (nb : Int) (kd : Int) (tv : Int) (tf : Int → Int) (hr : 0 ≤ ran ∧ ran ≤ 15) (hkd : 0 ≤ kd ∧ kd ≤ 6) (ha : a = 2) (hf : 0 ≤ f ∧ f ≤ 6) (ho : ow 2 f = 0) (hd : 0 ≤ dp ∧ dp ≤ 16) : gMet K yX0_run cX0_run 7 (some .int) 10 0 0 [.ref g0, .int (iI a), .int (iI f), .int (iI x), .int (iI dp)] [cO g0 0 [.ref ga, .int (iI ran), .int (iI nb), .int (iI kd), .int (iI tv)], cA K ga 20 tf] (fun v9 w9 => ∃ (tf2 : Int → Int), ∃ (ran2 : Int), v9 = some (.int (iI (ac_s kd nb tv x * 2))) ∧ w9 = [cO g0 0 [.ref ga, .int (iI ran2), .int (iI nb), .int (iI kd), .int (iI tv)], cA K ga 20 tf2] ∧ ((tf2, ran2) = ac_p ([3] ++ ar_s kd) (tf, ran)) ∧ (ran ≤ ran2 ∧ ran2 ≤ ran + 5)) := by
  refine g_enter (by decide +kernel) (Nat.le_of_ble_eq_true rfl) (fun G hC hR => ?_)
  refine g_lv hC [0, 1, 2, 3, 4] [(0, _), (1, _), (2, _), (3, _), (4, _)] rfl ?_
  refine g_iload_n (pc := 0) hC 1 dX0_run_0 rfl rfl ?_
  refine g_iload_n (pc := 1) hC 2 dX0_run_1 rfl rfl ?_
  refine g_fnS (pc := 2) hC [] (k_X0_ownerOf _ _ (by first | assumption | omega) (by first | assumption | omega)) cl_X0_ownerOf wm_X0_23 dX0_run_2 rfl rfl (by decide) (by decide) ⟨by omega, by omega⟩ (Nat.le_of_ble_eq_true rfl) rfl rfl ?_
  refine g_name hC (fun o1 e_o1 => ?_)
  have hoo : o1 = 0 := by rw [e_o1, ha]; exact ho
  refine g_istore (pc := 5) hC [(5, _), (0, _), (1, _), (2, _), (3, _), (4, _)] dX0_run_5 (by decide) rfl ?_
  refine g_iload (pc := 7) hC 0 dX0_run_7 rfl ?_
  refine g_if_lt (pc := 9) hC 19 dX0_run_9 (by decide) (by omega) (fun c9 => by exfalso; omega) (fun c9 => ?_)
  refine g_iload (pc := 12) hC 5 dX0_run_12 rfl ?_
  refine g_bipush (pc := 14) hC (20) dX0_run_14 (by decide) ?_
  refine g_icmp_le (pc := 16) hC 21 dX0_run_16 (by decide) (by omega) (by omega) (fun c16 => ?_) (fun c16 => by exfalso; omega)
  refine g_iload_n (pc := 21) hC 2 dX0_run_21 rfl rfl ?_
  refine g_iload (pc := 22) hC 0 dX0_run_22 rfl ?_
  refine g_fnS (pc := 24) hC [] (k_X0_bodyOf _ _ (by first | assumption | omega) (by first | assumption | omega)) cl_X0_bodyOf wm_X0_27 dX0_run_24 rfl rfl (by decide) (by decide) ⟨by omega, by omega⟩ (Nat.le_of_ble_eq_true rfl) rfl rfl ?_
  refine g_name hC (fun bd e_bd => ?_)
  have hbd : bd = 3 := by rw [e_bd, hoo, ha]; rfl
  refine g_istore (pc := 27) hC [(6, _), (5, _), (0, _), (1, _), (2, _), (3, _), (4, _)] dX0_run_27 (by decide) rfl ?_
  refine g_aload_n (pc := 29) hC 2 dX0_run_29 rfl rfl ?_
  refine g_iload (pc := 30) hC 0 dX0_run_30 rfl ?_
  refine g_callV (pc := 32) (qr := 0) hC [0, 1] (k_X0_note _ _ _ _ _ _ _ _ (by first | assumption | omega) (by first | assumption | omega)) cl_X0_note wm_X0_30 dX0_run_32 rfl rfl rfl rfl rfl (by decide) (by decide) (by omega) (Nat.le_of_ble_eq_true rfl) rfl (fun v9 w9 hq9 => ?_)
  obtain ⟨tf1, ran2, rfl, rfl, hp_32, hn_32⟩ := hq9
  refine g_ws hC [cO g0 0 [.ref ga, .int (iI ran2), .int (iI nb), .int (iI kd), .int (iI tv)], cA K ga 20 tf1] rfl ?_
  refine g_st hC [] rfl ?_
  refine g_aload_n (pc := 35) hC 2 dX0_run_35 rfl rfl ?_
  refine g_iload (pc := 36) hC 0 dX0_run_36 rfl ?_
  refine g_iload (pc := 38) hC 1 dX0_run_38 rfl ?_
  refine g_fnSN (pc := 40) hC [] (k_X9_kindAbove _ (by first | assumption | omega)) cl_X9_kindAbove (by simp [gN] <;> rfl) dX0_run_40 rfl rfl (by decide) (by decide) ⟨by omega, by omega⟩ (Nat.le_of_ble_eq_true rfl) rfl rfl ?_
  refine g_name hC (fun up e_up => ?_)
  have hup : up = -1 := by rw [e_up, hoo]; rfl
  refine g_iload_n (pc := 43) hC 5 dX0_run_43 rfl rfl ?_
  refine g_iload (pc := 44) hC 6 dX0_run_44 rfl ?_
  refine g_iconst (pc := 46) hC dX0_run_46 ?_
  refine g_iadd (pc := 47) hC dX0_run_47 ?_
  refine g_callV (pc := 48) (qr := 0) hC [0, 1] (k_X0_ans3 _ _ _ _ _ _ _ _ _ _ _ (by first | assumption | omega) (by first | assumption | omega) (by first | assumption | omega) (by first | assumption | omega)) cl_X0_answer wm_X0_38 dX0_run_48 rfl rfl rfl rfl rfl (by decide) (by decide) (by omega) (Nat.le_of_ble_eq_true rfl) rfl (fun v9 w9 hq9 => ?_)
  obtain ⟨tf3, ran4, rfl, rfl, hp_48, hn_48⟩ := hq9
  refine g_ws hC [cO g0 0 [.ref ga, .int (iI ran4), .int (iI nb), .int (iI kd), .int (iI tv)], cA K ga 20 tf3] rfl ?_
  refine g_st hC [.int (iI (ac_s kd nb tv x * 2))] rfl ?_
  exact g_iret (pc := 51) hR dX0_run_51 rfl ⟨by omega, by omega⟩ (Nat.le_of_ble_eq_true rfl) ⟨tf3, ran4, ret_eq rfl, rfl, (by rw [hp_48, hp_32, hbd]; rfl), (by first | assumption | omega)⟩
set_option maxHeartbeats 4000000 in
set_option maxRecDepth 100000 in
theorem k_X0_ans31 {K : gK} (g0 : Nat) (ga : Nat) (b : Int) (ab : Int) (x : Int) (dp : Int) (ran : Int) (nb : Int) (kd : Int) (tv : Int) (tf : Int → Int) (hr : 0 ≤ ran ∧ ran ≤ 10) (hkd : 0 ≤ kd ∧ kd ≤ 6) (hb : b = 31) (hab : ab = 0) (hd : 0 ≤ dp ∧ dp ≤ 16) : gMet K yX0_answer cX0_answer 5 (some .int) 11 0 0 [.ref g0, .int (iI b), .int (iI ab), .int (iI x), .int (iI dp)] [cO g0 0 [.ref ga, .int (iI ran), .int (iI nb), .int (iI kd), .int (iI tv)], cA K ga 20 tf] (fun v9 w9 => ∃ (tf2 : Int → Int), ∃ (ran2 : Int), v9 = some (.int (iI (bXor (ac_s kd nb tv x * 2) 7))) ∧ w9 = [cO g0 0 [.ref ga, .int (iI ran2), .int (iI nb), .int (iI kd), .int (iI tv)], cA K ga 20 tf2] ∧ ((tf2, ran2) = ac_p ([3] ++ ar_s kd) (tf, ran)) ∧ (ran ≤ ran2 ∧ ran2 ≤ ran + 5)) := by
  refine g_enter (by decide +kernel) (Nat.le_of_ble_eq_true rfl) (fun G hC hR => ?_)
  refine g_lv hC [0, 1, 2, 3, 4] [(0, _), (1, _), (2, _), (3, _), (4, _)] rfl ?_
  refine g_iload_n (pc := 0) hC 1 dX0_answer_0 rfl rfl ?_
  by_cases k1_31 : b = 31
  · refine g_lsw (pc := 1) hC 139 dX0_answer_1 (by decide) (by omega) (off := 138) (by rw [k1_31]; decide) (by decide) ?_
    refine g_aload_n (pc := 139) hC 0 dX0_answer_139 rfl rfl ?_
    refine g_iconst (pc := 140) hC dX0_answer_140 ?_
    refine g_iload_n (pc := 141) hC 2 dX0_answer_141 rfl rfl ?_
    refine g_iload_n (pc := 142) hC 3 dX0_answer_142 rfl rfl ?_
    refine g_iload (pc := 143) hC 4 dX0_answer_143 rfl ?_
    refine g_callV (pc := 145) (qr := 0) hC [0, 1] (k_X0_run_w0 _ _ _ _ _ _ _ _ _ _ _ (by first | assumption | omega) (by first | assumption | omega) (by first | assumption | omega) (by first | assumption | omega) (by rw [hab]; rfl) (by first | assumption | omega)) cl_X0_run wm_X0_19 dX0_answer_145 rfl rfl rfl rfl rfl (by decide) (by decide) (by omega) (Nat.le_of_ble_eq_true rfl) rfl (fun v9 w9 hq9 => ?_)
    obtain ⟨tf1, ran2, rfl, rfl, hp_145, hn_145⟩ := hq9
    refine g_ws hC [cO g0 0 [.ref ga, .int (iI ran2), .int (iI nb), .int (iI kd), .int (iI tv)], cA K ga 20 tf1] rfl ?_
    refine g_st hC [.int (iI (ac_s kd nb tv x * 2))] rfl ?_
    refine g_bipush (pc := 148) hC (7) dX0_answer_148 (by decide) ?_
    refine g_ixor (pc := 150) hC dX0_answer_150 ?_
    exact g_iret (pc := 151) hR dX0_answer_151 rfl ⟨by omega, by omega⟩ (Nat.le_of_ble_eq_true rfl) ⟨tf1, ran2, ret_eq rfl, rfl, hp_145, (by first | assumption | omega)⟩
  exfalso
  omega
set_option maxHeartbeats 4000000 in
set_option maxRecDepth 100000 in
theorem k_X0_ans41 {K : gK} (g0 : Nat) (ga : Nat) (b : Int) (ab : Int) (x : Int) (dp : Int) (ran : Int) (nb : Int) (kd : Int) (tv : Int) (tf : Int → Int) (hr : 0 ≤ ran ∧ ran ≤ 10) (hkd : 0 ≤ kd ∧ kd ≤ 6) (hb : b = 41) (hab : ab = 1) (hd : 0 ≤ dp ∧ dp ≤ 16) : gMet K yX0_answer cX0_answer 5 (some .int) 11 0 0 [.ref g0, .int (iI b), .int (iI ab), .int (iI x), .int (iI dp)] [cO g0 0 [.ref ga, .int (iI ran), .int (iI nb), .int (iI kd), .int (iI tv)], cA K ga 20 tf] (fun v9 w9 => ∃ (tf2 : Int → Int), ∃ (ran2 : Int), v9 = some (.int (iI (ac_s kd nb tv (x - 1) * 2 + ac_b kd nb 2))) ∧ w9 = [cO g0 0 [.ref ga, .int (iI ran2), .int (iI nb), .int (iI kd), .int (iI tv)], cA K ga 20 tf2] ∧ ((tf2, ran2) = ac_p (([3] ++ ar_s kd) ++ ar_b kd) (tf, ran)) ∧ (ran ≤ ran2 ∧ ran2 ≤ ran + 7)) := by
  refine g_enter (by decide +kernel) (Nat.le_of_ble_eq_true rfl) (fun G hC hR => ?_)
  refine g_lv hC [0, 1, 2, 3, 4] [(0, _), (1, _), (2, _), (3, _), (4, _)] rfl ?_
  refine g_iload_n (pc := 0) hC 1 dX0_answer_0 rfl rfl ?_
  by_cases k1_41 : b = 41
  · refine g_lsw (pc := 1) hC 152 dX0_answer_1 (by decide) (by omega) (off := 151) (by rw [k1_41]; decide) (by decide) ?_
    refine g_aload_n (pc := 152) hC 0 dX0_answer_152 rfl rfl ?_
    refine g_iconst (pc := 153) hC dX0_answer_153 ?_
    refine g_iload_n (pc := 154) hC 2 dX0_answer_154 rfl rfl ?_
    refine g_iload_n (pc := 155) hC 3 dX0_answer_155 rfl rfl ?_
    refine g_iconst (pc := 156) hC dX0_answer_156 ?_
    refine g_isub (pc := 157) hC dX0_answer_157 ?_
    refine g_iload (pc := 158) hC 4 dX0_answer_158 rfl ?_
    refine g_callV (pc := 160) (qr := 0) hC [0, 1] (k_X0_run_w0 _ _ _ _ _ _ _ _ _ _ _ (by first | assumption | omega) (by first | assumption | omega) (by first | assumption | omega) (by first | assumption | omega) (by rw [hab]; rfl) (by first | assumption | omega)) cl_X0_run wm_X0_19 dX0_answer_160 rfl rfl rfl rfl rfl (by decide) (by decide) (by omega) (Nat.le_of_ble_eq_true rfl) rfl (fun v9 w9 hq9 => ?_)
    obtain ⟨tf1, ran2, rfl, rfl, hp_160, hn_160⟩ := hq9
    refine g_ws hC [cO g0 0 [.ref ga, .int (iI ran2), .int (iI nb), .int (iI kd), .int (iI tv)], cA K ga 20 tf1] rfl ?_
    refine g_st hC [.int (iI (ac_s kd nb tv (x - 1) * 2))] rfl ?_
    refine g_aload_n (pc := 163) hC 0 dX0_answer_163 rfl rfl ?_
    refine g_iconst (pc := 164) hC dX0_answer_164 ?_
    refine g_aload_n (pc := 165) hC 0 dX0_answer_165 rfl rfl ?_
    refine g_get (pc := 166) hC 0 fl_X0_15 dX0_answer_166 rfl rfl ?_
    refine g_iconst (pc := 169) hC dX0_answer_169 ?_
    refine g_iload (pc := 170) hC 4 dX0_answer_170 rfl ?_
    refine g_callV (pc := 172) (qr := 0) hC [0, 1] (k_X0_run_b _ _ _ _ _ _ _ _ _ _ _ (by first | assumption | omega) (by first | assumption | omega) (by first | assumption | omega) (by first | assumption | omega) (by first | assumption | omega)) cl_X0_run wm_X0_19 dX0_answer_172 rfl rfl rfl rfl rfl (by decide) (by decide) (by omega) (Nat.le_of_ble_eq_true rfl) rfl (fun v9 w9 hq9 => ?_)
    obtain ⟨tf3, ran4, rfl, rfl, hp_172, hn_172⟩ := hq9
    refine g_ws hC [cO g0 0 [.ref ga, .int (iI ran4), .int (iI nb), .int (iI kd), .int (iI tv)], cA K ga 20 tf3] rfl ?_
    refine g_st hC [.int (iI (ac_b kd nb 2)), _] rfl ?_
    refine g_iadd (pc := 175) hC dX0_answer_175 ?_
    exact g_iret (pc := 176) hR dX0_answer_176 rfl ⟨by omega, by omega⟩ (Nat.le_of_ble_eq_true rfl) ⟨tf3, ran4, ret_eq rfl, rfl, (by rw [hp_172, hp_160, ← ac_p_app]), (by first | assumption | omega)⟩
  exfalso
  omega
set_option maxHeartbeats 4000000 in
set_option maxRecDepth 100000 in
theorem k_X0_run_w_0 {K : gK} (g0 : Nat) (ga : Nat) (a : Int) (f : Int) (x : Int) (dp : Int) (ran : Int) (nb : Int) (kd : Int) (tv : Int) (tf : Int → Int) (hr : 0 ≤ ran ∧ ran ≤ 9) (hkd : 0 ≤ kd ∧ kd ≤ 6) (ha : a = 2) (hf : 0 ≤ f ∧ f ≤ 6) (ho : ow 2 f = 0) (hd : 0 ≤ dp ∧ dp ≤ 15) (hfk : f = kd) : gMet K yX0_run cX0_run 7 (some .int) 12 0 0 [.ref g0, .int (iI a), .int (iI f), .int (iI x), .int (iI dp)] [cO g0 0 [.ref ga, .int (iI ran), .int (iI nb), .int (iI kd), .int (iI tv)], cA K ga 20 tf] (fun v9 w9 => ∃ (tf2 : Int → Int), ∃ (ran2 : Int), v9 = some (.int (iI (ac_w kd nb tv x))) ∧ w9 = [cO g0 0 [.ref ga, .int (iI ran2), .int (iI nb), .int (iI kd), .int (iI tv)], cA K ga 20 tf2] ∧ ((tf2, ran2) = ac_p (ar_w kd) (tf, ran)) ∧ (ran ≤ ran2 ∧ ran2 ≤ ran + 8)) := by
  refine g_enter (by decide +kernel) (Nat.le_of_ble_eq_true rfl) (fun G hC hR => ?_)
  refine g_lv hC [0, 1, 2, 3, 4] [(0, _), (1, _), (2, _), (3, _), (4, _)] rfl ?_
  rw [hfk] at ho
  have hu : ¬ ac_un kd 3 = 1 ∧ ¬ kd = 4 := by rcases ow_w hkd with y9 | y9 | y9 <;> first | exact y9.2 | (exfalso; omega)
  refine g_iload_n (pc := 0) hC 1 dX0_run_0 rfl rfl ?_
  refine g_iload_n (pc := 1) hC 2 dX0_run_1 rfl rfl ?_
  refine g_fnS (pc := 2) hC [] (k_X0_ownerOf _ _ (by first | assumption | omega) (by first | assumption | omega)) cl_X0_ownerOf wm_X0_23 dX0_run_2 rfl rfl (by decide) (by decide) ⟨by omega, by omega⟩ (Nat.le_of_ble_eq_true rfl) rfl rfl ?_
  refine g_name hC (fun o1 e_o1 => ?_)
  have hoo : o1 = 0 := by rw [e_o1, ha, hfk]; exact ho
  refine g_istore (pc := 5) hC [(5, _), (0, _), (1, _), (2, _), (3, _), (4, _)] dX0_run_5 (by decide) rfl ?_
  refine g_iload (pc := 7) hC 0 dX0_run_7 rfl ?_
  refine g_if_lt (pc := 9) hC 19 dX0_run_9 (by decide) (by omega) (fun c9 => by exfalso; omega) (fun c9 => ?_)
  refine g_iload (pc := 12) hC 5 dX0_run_12 rfl ?_
  refine g_bipush (pc := 14) hC (20) dX0_run_14 (by decide) ?_
  refine g_icmp_le (pc := 16) hC 21 dX0_run_16 (by decide) (by omega) (by omega) (fun c16 => ?_) (fun c16 => by exfalso; omega)
  refine g_iload_n (pc := 21) hC 2 dX0_run_21 rfl rfl ?_
  refine g_iload (pc := 22) hC 0 dX0_run_22 rfl ?_
  refine g_fnS (pc := 24) hC [] (k_X0_bodyOf _ _ (by first | assumption | omega) (by first | assumption | omega)) cl_X0_bodyOf wm_X0_27 dX0_run_24 rfl rfl (by decide) (by decide) ⟨by omega, by omega⟩ (Nat.le_of_ble_eq_true rfl) rfl rfl ?_
  refine g_name hC (fun bd e_bd => ?_)
  have hbd : bd = 3 := by rw [e_bd, hoo, ha]; rfl
  refine g_istore (pc := 27) hC [(6, _), (5, _), (0, _), (1, _), (2, _), (3, _), (4, _)] dX0_run_27 (by decide) rfl ?_
  refine g_aload_n (pc := 29) hC 2 dX0_run_29 rfl rfl ?_
  refine g_iload (pc := 30) hC 0 dX0_run_30 rfl ?_
  refine g_callV (pc := 32) (qr := 0) hC [0, 1] (k_X0_note _ _ _ _ _ _ _ _ (by first | assumption | omega) (by first | assumption | omega)) cl_X0_note wm_X0_30 dX0_run_32 rfl rfl rfl rfl rfl (by decide) (by decide) (by omega) (Nat.le_of_ble_eq_true rfl) rfl (fun v9 w9 hq9 => ?_)
  obtain ⟨tf1, ran2, rfl, rfl, hp_32, hn_32⟩ := hq9
  refine g_ws hC [cO g0 0 [.ref ga, .int (iI ran2), .int (iI nb), .int (iI kd), .int (iI tv)], cA K ga 20 tf1] rfl ?_
  refine g_st hC [] rfl ?_
  refine g_aload_n (pc := 35) hC 2 dX0_run_35 rfl rfl ?_
  refine g_iload (pc := 36) hC 0 dX0_run_36 rfl ?_
  refine g_iload (pc := 38) hC 1 dX0_run_38 rfl ?_
  refine g_fnSN (pc := 40) hC [] (k_X9_kindAbove _ (by first | assumption | omega)) cl_X9_kindAbove (by simp [gN] <;> rfl) dX0_run_40 rfl rfl (by decide) (by decide) ⟨by omega, by omega⟩ (Nat.le_of_ble_eq_true rfl) rfl rfl ?_
  refine g_name hC (fun up e_up => ?_)
  have hup : up = -1 := by rw [e_up, hoo]; rfl
  refine g_iload_n (pc := 43) hC 5 dX0_run_43 rfl rfl ?_
  refine g_iload (pc := 44) hC 6 dX0_run_44 rfl ?_
  refine g_iconst (pc := 46) hC dX0_run_46 ?_
  refine g_iadd (pc := 47) hC dX0_run_47 ?_
  refine g_callV (pc := 48) (qr := 0) hC [0, 1] (k_X0_ans3 _ _ _ _ _ _ _ _ _ _ _ (by first | assumption | omega) (by first | assumption | omega) (by first | assumption | omega) (by first | assumption | omega)) cl_X0_answer wm_X0_38 dX0_run_48 rfl rfl rfl rfl rfl (by decide) (by decide) (by omega) (Nat.le_of_ble_eq_true rfl) rfl (fun v9 w9 hq9 => ?_)
  obtain ⟨tf3, ran4, rfl, rfl, hp_48, hn_48⟩ := hq9
  refine g_ws hC [cO g0 0 [.ref ga, .int (iI ran4), .int (iI nb), .int (iI kd), .int (iI tv)], cA K ga 20 tf3] rfl ?_
  refine g_st hC [.int (iI (ac_s kd nb tv x * 2))] rfl ?_
  exact g_iret (pc := 51) hR dX0_run_51 rfl ⟨by omega, by omega⟩ (Nat.le_of_ble_eq_true rfl) ⟨tf3, ran4, ret_eq (by unfold ac_w; rw [if_neg hu.1, if_neg hu.2]), rfl, (by unfold ar_w; rw [if_neg hu.1, if_neg hu.2, hp_48, hp_32, hbd]; rfl), (by first | assumption | omega)⟩
set_option maxHeartbeats 4000000 in
set_option maxRecDepth 100000 in
theorem k_X0_run_w_3 {K : gK} (g0 : Nat) (ga : Nat) (a : Int) (f : Int) (x : Int) (dp : Int) (ran : Int) (nb : Int) (kd : Int) (tv : Int) (tf : Int → Int) (hr : 0 ≤ ran ∧ ran ≤ 9) (hkd : 0 ≤ kd ∧ kd ≤ 6) (ha : a = 2) (hf : 0 ≤ f ∧ f ≤ 6) (ho : ow 2 f = 3) (hd : 0 ≤ dp ∧ dp ≤ 15) (hfk : f = kd) : gMet K yX0_run cX0_run 7 (some .int) 12 0 0 [.ref g0, .int (iI a), .int (iI f), .int (iI x), .int (iI dp)] [cO g0 0 [.ref ga, .int (iI ran), .int (iI nb), .int (iI kd), .int (iI tv)], cA K ga 20 tf] (fun v9 w9 => ∃ (tf2 : Int → Int), ∃ (ran2 : Int), v9 = some (.int (iI (ac_w kd nb tv x))) ∧ w9 = [cO g0 0 [.ref ga, .int (iI ran2), .int (iI nb), .int (iI kd), .int (iI tv)], cA K ga 20 tf2] ∧ ((tf2, ran2) = ac_p (ar_w kd) (tf, ran)) ∧ (ran ≤ ran2 ∧ ran2 ≤ ran + 8)) := by
  refine g_enter (by decide +kernel) (Nat.le_of_ble_eq_true rfl) (fun G hC hR => ?_)
  refine g_lv hC [0, 1, 2, 3, 4] [(0, _), (1, _), (2, _), (3, _), (4, _)] rfl ?_
  rw [hfk] at ho
  have hu : ac_un kd 3 = 1 := by rcases ow_w hkd with y9 | y9 | y9 <;> first | exact y9.2 | (exfalso; omega)
  refine g_iload_n (pc := 0) hC 1 dX0_run_0 rfl rfl ?_
  refine g_iload_n (pc := 1) hC 2 dX0_run_1 rfl rfl ?_
  refine g_fnS (pc := 2) hC [] (k_X0_ownerOf _ _ (by first | assumption | omega) (by first | assumption | omega)) cl_X0_ownerOf wm_X0_23 dX0_run_2 rfl rfl (by decide) (by decide) ⟨by omega, by omega⟩ (Nat.le_of_ble_eq_true rfl) rfl rfl ?_
  refine g_name hC (fun o1 e_o1 => ?_)
  have hoo : o1 = 3 := by rw [e_o1, ha, hfk]; exact ho
  refine g_istore (pc := 5) hC [(5, _), (0, _), (1, _), (2, _), (3, _), (4, _)] dX0_run_5 (by decide) rfl ?_
  refine g_iload (pc := 7) hC 0 dX0_run_7 rfl ?_
  refine g_if_lt (pc := 9) hC 19 dX0_run_9 (by decide) (by omega) (fun c9 => by exfalso; omega) (fun c9 => ?_)
  refine g_iload (pc := 12) hC 5 dX0_run_12 rfl ?_
  refine g_bipush (pc := 14) hC (20) dX0_run_14 (by decide) ?_
  refine g_icmp_le (pc := 16) hC 21 dX0_run_16 (by decide) (by omega) (by omega) (fun c16 => ?_) (fun c16 => by exfalso; omega)
  refine g_iload_n (pc := 21) hC 2 dX0_run_21 rfl rfl ?_
  refine g_iload (pc := 22) hC 0 dX0_run_22 rfl ?_
  refine g_fnS (pc := 24) hC [] (k_X0_bodyOf _ _ (by first | assumption | omega) (by first | assumption | omega)) cl_X0_bodyOf wm_X0_27 dX0_run_24 rfl rfl (by decide) (by decide) ⟨by omega, by omega⟩ (Nat.le_of_ble_eq_true rfl) rfl rfl ?_
  refine g_name hC (fun bd e_bd => ?_)
  have hbd : bd = 31 := by rw [e_bd, hoo, ha]; rfl
  refine g_istore (pc := 27) hC [(6, _), (5, _), (0, _), (1, _), (2, _), (3, _), (4, _)] dX0_run_27 (by decide) rfl ?_
  refine g_aload_n (pc := 29) hC 2 dX0_run_29 rfl rfl ?_
  refine g_iload (pc := 30) hC 0 dX0_run_30 rfl ?_
  refine g_callV (pc := 32) (qr := 0) hC [0, 1] (k_X0_note _ _ _ _ _ _ _ _ (by first | assumption | omega) (by first | assumption | omega)) cl_X0_note wm_X0_30 dX0_run_32 rfl rfl rfl rfl rfl (by decide) (by decide) (by omega) (Nat.le_of_ble_eq_true rfl) rfl (fun v9 w9 hq9 => ?_)
  obtain ⟨tf1, ran2, rfl, rfl, hp_32, hn_32⟩ := hq9
  refine g_ws hC [cO g0 0 [.ref ga, .int (iI ran2), .int (iI nb), .int (iI kd), .int (iI tv)], cA K ga 20 tf1] rfl ?_
  refine g_st hC [] rfl ?_
  refine g_aload_n (pc := 35) hC 2 dX0_run_35 rfl rfl ?_
  refine g_iload (pc := 36) hC 0 dX0_run_36 rfl ?_
  refine g_iload (pc := 38) hC 1 dX0_run_38 rfl ?_
  refine g_fnSN (pc := 40) hC [] (k_X9_kindAbove _ (by first | assumption | omega)) cl_X9_kindAbove (by simp [gN] <;> rfl) dX0_run_40 rfl rfl (by decide) (by decide) ⟨by omega, by omega⟩ (Nat.le_of_ble_eq_true rfl) rfl rfl ?_
  refine g_name hC (fun up e_up => ?_)
  have hup : up = 0 := by rw [e_up, hoo]; rfl
  refine g_iload_n (pc := 43) hC 5 dX0_run_43 rfl rfl ?_
  refine g_iload (pc := 44) hC 6 dX0_run_44 rfl ?_
  refine g_iconst (pc := 46) hC dX0_run_46 ?_
  refine g_iadd (pc := 47) hC dX0_run_47 ?_
  refine g_callV (pc := 48) (qr := 0) hC [0, 1] (k_X0_ans31 _ _ _ _ _ _ _ _ _ _ _ (by first | assumption | omega) (by first | assumption | omega) (by first | assumption | omega) (by first | assumption | omega) (by first | assumption | omega)) cl_X0_answer wm_X0_38 dX0_run_48 rfl rfl rfl rfl rfl (by decide) (by decide) (by omega) (Nat.le_of_ble_eq_true rfl) rfl (fun v9 w9 hq9 => ?_)
  obtain ⟨tf3, ran4, rfl, rfl, hp_48, hn_48⟩ := hq9
  refine g_ws hC [cO g0 0 [.ref ga, .int (iI ran4), .int (iI nb), .int (iI kd), .int (iI tv)], cA K ga 20 tf3] rfl ?_
  refine g_st hC [.int (iI (bXor (ac_s kd nb tv x * 2) 7))] rfl ?_
  exact g_iret (pc := 51) hR dX0_run_51 rfl ⟨by omega, by omega⟩ (Nat.le_of_ble_eq_true rfl) ⟨tf3, ran4, ret_eq (by unfold ac_w; rw [if_pos hu]), rfl, (by unfold ar_w; rw [if_pos hu, hp_48, hp_32, hbd]; rfl), (by first | assumption | omega)⟩
set_option maxHeartbeats 4000000 in
set_option maxRecDepth 100000 in
theorem k_X0_run_w_4 {K : gK} (g0 : Nat) (ga : Nat) (a : Int) (f : Int) (x : Int) (dp : Int) (ran : Int) (nb : Int) (kd : Int) (tv : Int) (tf : Int → Int) (hr : 0 ≤ ran ∧ ran ≤ 9) (hkd : 0 ≤ kd ∧ kd ≤ 6) (ha : a = 2) (hf : 0 ≤ f ∧ f ≤ 6) (ho : ow 2 f = 4) (hd : 0 ≤ dp ∧ dp ≤ 15) (hfk : f = kd) : gMet K yX0_run cX0_run 7 (some .int) 12 0 0 [.ref g0, .int (iI a), .int (iI f), .int (iI x), .int (iI dp)] [cO g0 0 [.ref ga, .int (iI ran), .int (iI nb), .int (iI kd), .int (iI tv)], cA K ga 20 tf] (fun v9 w9 => ∃ (tf2 : Int → Int), ∃ (ran2 : Int), v9 = some (.int (iI (ac_w kd nb tv x))) ∧ w9 = [cO g0 0 [.ref ga, .int (iI ran2), .int (iI nb), .int (iI kd), .int (iI tv)], cA K ga 20 tf2] ∧ ((tf2, ran2) = ac_p (ar_w kd) (tf, ran)) ∧ (ran ≤ ran2 ∧ ran2 ≤ ran + 8)) := by
  refine g_enter (by decide +kernel) (Nat.le_of_ble_eq_true rfl) (fun G hC hR => ?_)
  refine g_lv hC [0, 1, 2, 3, 4] [(0, _), (1, _), (2, _), (3, _), (4, _)] rfl ?_
  rw [hfk] at ho
  have hu : ¬ ac_un kd 3 = 1 ∧ kd = 4 := by rcases ow_w hkd with y9 | y9 | y9 <;> first | exact y9.2 | (exfalso; omega)
  refine g_iload_n (pc := 0) hC 1 dX0_run_0 rfl rfl ?_
  refine g_iload_n (pc := 1) hC 2 dX0_run_1 rfl rfl ?_
  refine g_fnS (pc := 2) hC [] (k_X0_ownerOf _ _ (by first | assumption | omega) (by first | assumption | omega)) cl_X0_ownerOf wm_X0_23 dX0_run_2 rfl rfl (by decide) (by decide) ⟨by omega, by omega⟩ (Nat.le_of_ble_eq_true rfl) rfl rfl ?_
  refine g_name hC (fun o1 e_o1 => ?_)
  have hoo : o1 = 4 := by rw [e_o1, ha, hfk]; exact ho
  refine g_istore (pc := 5) hC [(5, _), (0, _), (1, _), (2, _), (3, _), (4, _)] dX0_run_5 (by decide) rfl ?_
  refine g_iload (pc := 7) hC 0 dX0_run_7 rfl ?_
  refine g_if_lt (pc := 9) hC 19 dX0_run_9 (by decide) (by omega) (fun c9 => by exfalso; omega) (fun c9 => ?_)
  refine g_iload (pc := 12) hC 5 dX0_run_12 rfl ?_
  refine g_bipush (pc := 14) hC (20) dX0_run_14 (by decide) ?_
  refine g_icmp_le (pc := 16) hC 21 dX0_run_16 (by decide) (by omega) (by omega) (fun c16 => ?_) (fun c16 => by exfalso; omega)
  refine g_iload_n (pc := 21) hC 2 dX0_run_21 rfl rfl ?_
  refine g_iload (pc := 22) hC 0 dX0_run_22 rfl ?_
  refine g_fnS (pc := 24) hC [] (k_X0_bodyOf _ _ (by first | assumption | omega) (by first | assumption | omega)) cl_X0_bodyOf wm_X0_27 dX0_run_24 rfl rfl (by decide) (by decide) ⟨by omega, by omega⟩ (Nat.le_of_ble_eq_true rfl) rfl rfl ?_
  refine g_name hC (fun bd e_bd => ?_)
  have hbd : bd = 41 := by rw [e_bd, hoo, ha]; rfl
  refine g_istore (pc := 27) hC [(6, _), (5, _), (0, _), (1, _), (2, _), (3, _), (4, _)] dX0_run_27 (by decide) rfl ?_
  refine g_aload_n (pc := 29) hC 2 dX0_run_29 rfl rfl ?_
  refine g_iload (pc := 30) hC 0 dX0_run_30 rfl ?_
  refine g_callV (pc := 32) (qr := 0) hC [0, 1] (k_X0_note _ _ _ _ _ _ _ _ (by first | assumption | omega) (by first | assumption | omega)) cl_X0_note wm_X0_30 dX0_run_32 rfl rfl rfl rfl rfl (by decide) (by decide) (by omega) (Nat.le_of_ble_eq_true rfl) rfl (fun v9 w9 hq9 => ?_)
  obtain ⟨tf1, ran2, rfl, rfl, hp_32, hn_32⟩ := hq9
  refine g_ws hC [cO g0 0 [.ref ga, .int (iI ran2), .int (iI nb), .int (iI kd), .int (iI tv)], cA K ga 20 tf1] rfl ?_
  refine g_st hC [] rfl ?_
  refine g_aload_n (pc := 35) hC 2 dX0_run_35 rfl rfl ?_
  refine g_iload (pc := 36) hC 0 dX0_run_36 rfl ?_
  refine g_iload (pc := 38) hC 1 dX0_run_38 rfl ?_
  refine g_fnSN (pc := 40) hC [] (k_X9_kindAbove _ (by first | assumption | omega)) cl_X9_kindAbove (by simp [gN] <;> rfl) dX0_run_40 rfl rfl (by decide) (by decide) ⟨by omega, by omega⟩ (Nat.le_of_ble_eq_true rfl) rfl rfl ?_
  refine g_name hC (fun up e_up => ?_)
  have hup : up = 1 := by rw [e_up, hoo]; rfl
  refine g_iload_n (pc := 43) hC 5 dX0_run_43 rfl rfl ?_
  refine g_iload (pc := 44) hC 6 dX0_run_44 rfl ?_
  refine g_iconst (pc := 46) hC dX0_run_46 ?_
  refine g_iadd (pc := 47) hC dX0_run_47 ?_
  refine g_callV (pc := 48) (qr := 0) hC [0, 1] (k_X0_ans41 _ _ _ _ _ _ _ _ _ _ _ (by first | assumption | omega) (by first | assumption | omega) (by first | assumption | omega) (by first | assumption | omega) (by first | assumption | omega)) cl_X0_answer wm_X0_38 dX0_run_48 rfl rfl rfl rfl rfl (by decide) (by decide) (by omega) (Nat.le_of_ble_eq_true rfl) rfl (fun v9 w9 hq9 => ?_)
  obtain ⟨tf3, ran4, rfl, rfl, hp_48, hn_48⟩ := hq9
  refine g_ws hC [cO g0 0 [.ref ga, .int (iI ran4), .int (iI nb), .int (iI kd), .int (iI tv)], cA K ga 20 tf3] rfl ?_
  refine g_st hC [.int (iI (ac_s kd nb tv (x - 1) * 2 + ac_b kd nb 2))] rfl ?_
  exact g_iret (pc := 51) hR dX0_run_51 rfl ⟨by omega, by omega⟩ (Nat.le_of_ble_eq_true rfl) ⟨tf3, ran4, ret_eq (by unfold ac_w; rw [if_neg hu.1, if_pos hu.2]), rfl, (by unfold ar_w; rw [if_neg hu.1, if_pos hu.2, hp_48, hp_32, hbd, ac_p_app ([3] ++ ar_s kd), ac_p_app ([41, 3] ++ ar_s kd)]; rfl), (by first | assumption | omega)⟩
set_option maxHeartbeats 4000000 in
theorem k_X0_run_w {K : gK} (g0 : Nat) (ga : Nat) (a : Int) (f : Int) (x : Int) (dp : Int) (ran : Int) (nb : Int) (kd : Int) (tv : Int) (tf : Int → Int) (hr : 0 ≤ ran ∧ ran ≤ 9) (hkd : 0 ≤ kd ∧ kd ≤ 6) (ha : a = 2) (hf : 0 ≤ f ∧ f ≤ 6) (hd : 0 ≤ dp ∧ dp ≤ 15) (hfk : f = kd) : gMet K yX0_run cX0_run 7 (some .int) 12 0 0 [.ref g0, .int (iI a), .int (iI f), .int (iI x), .int (iI dp)] [cO g0 0 [.ref ga, .int (iI ran), .int (iI nb), .int (iI kd), .int (iI tv)], cA K ga 20 tf] (fun v9 w9 => ∃ (tf2 : Int → Int), ∃ (ran2 : Int), v9 = some (.int (iI (ac_w kd nb tv x))) ∧ w9 = [cO g0 0 [.ref ga, .int (iI ran2), .int (iI nb), .int (iI kd), .int (iI tv)], cA K ga 20 tf2] ∧ ((tf2, ran2) = ac_p (ar_w kd) (tf, ran)) ∧ (ran ≤ ran2 ∧ ran2 ≤ ran + 8)) := by
  rcases ow_w hf with h9 | h9 | h9
  · exact k_X0_run_w_0 _ _ _ _ _ _ _ _ _ _ _ hr hkd ha hf h9.1 hd hfk
  · exact k_X0_run_w_3 _ _ _ _ _ _ _ _ _ _ _ hr hkd ha hf h9.1 hd hfk
  · exact k_X0_run_w_4 _ _ _ _ _ _ _ _ _ _ _ hr hkd ha hf h9.1 hd hfk
set_option maxHeartbeats 4000000 in
set_option maxRecDepth 100000 in
theorem k_X0_begin_0 {K : gK} (g0 : Nat) (ga : Nat) (a : Int) (x : Int) (ran : Int) (nb : Int) (kd : Int) (tv : Int) (tf : Int → Int) (hr : 0 ≤ ran ∧ ran ≤ 9) (hkd : 0 ≤ kd ∧ kd ≤ 6) (ha : a = 0) : gMet K yX0_begin cX0_begin 3 (some .int) 13 0 0 [.ref g0, .int (iI a), .int (iI x)] [cO g0 0 [.ref ga, .int (iI ran), .int (iI nb), .int (iI kd), .int (iI tv)], cA K ga 20 tf] (fun v9 w9 => ∃ (tf2 : Int → Int), ∃ (ran2 : Int), v9 = some (.int (iI (if a = 0 then ac_b kd nb x else if a = 1 then ac_s kd nb tv x else ac_w kd nb tv x))) ∧ w9 = [cO g0 0 [.ref ga, .int (iI ran2), .int (iI nb), .int (iI kd), .int (iI tv)], cA K ga 20 tf2] ∧ ((tf2, ran2) = ac_p (if a = 0 then ar_b kd else if a = 1 then ar_s kd else ar_w kd) (tf, ran)) ∧ (ran ≤ ran2 ∧ ran2 ≤ ran + 8)) := by
  refine g_enter (by decide +kernel) (Nat.le_of_ble_eq_true rfl) (fun G hC hR => ?_)
  refine g_lv hC [0, 1, 2] [(0, _), (1, _), (2, _)] rfl ?_
  refine g_aload_n (pc := 0) hC 0 dX0_begin_0 rfl rfl ?_
  refine g_iload_n (pc := 1) hC 1 dX0_begin_1 rfl rfl ?_
  refine g_aload_n (pc := 2) hC 0 dX0_begin_2 rfl rfl ?_
  refine g_get (pc := 3) hC 0 fl_X0_15 dX0_begin_3 rfl rfl ?_
  refine g_iload_n (pc := 6) hC 2 dX0_begin_6 rfl rfl ?_
  refine g_iconst (pc := 7) hC dX0_begin_7 ?_
  refine g_callV (pc := 8) (qr := 0) hC [0, 1] (k_X0_run_b _ _ _ _ _ _ _ _ _ _ _ (by first | assumption | omega) (by first | assumption | omega) (by first | assumption | omega) (by first | assumption | omega) (by first | assumption | omega)) cl_X0_run wm_X0_19 dX0_begin_8 rfl rfl rfl rfl rfl (by decide) (by decide) (by omega) (Nat.le_of_ble_eq_true rfl) rfl (fun v9 w9 hq9 => ?_)
  obtain ⟨tf1, ran2, rfl, rfl, hp_8, hn_8⟩ := hq9
  refine g_ws hC [cO g0 0 [.ref ga, .int (iI ran2), .int (iI nb), .int (iI kd), .int (iI tv)], cA K ga 20 tf1] rfl ?_
  refine g_st hC [.int (iI (ac_b kd nb x))] rfl ?_
  exact g_iret (pc := 11) hR dX0_begin_11 rfl ⟨by omega, by omega⟩ (Nat.le_of_ble_eq_true rfl) ⟨tf1, ran2, ret_eq (by rw [if_pos ha]), rfl, (by rw [if_pos ha, hp_8]), (by first | assumption | omega)⟩
set_option maxHeartbeats 4000000 in
set_option maxRecDepth 100000 in
theorem k_X0_begin_1 {K : gK} (g0 : Nat) (ga : Nat) (a : Int) (x : Int) (ran : Int) (nb : Int) (kd : Int) (tv : Int) (tf : Int → Int) (hr : 0 ≤ ran ∧ ran ≤ 9) (hkd : 0 ≤ kd ∧ kd ≤ 6) (ha : a = 1) : gMet K yX0_begin cX0_begin 3 (some .int) 13 0 0 [.ref g0, .int (iI a), .int (iI x)] [cO g0 0 [.ref ga, .int (iI ran), .int (iI nb), .int (iI kd), .int (iI tv)], cA K ga 20 tf] (fun v9 w9 => ∃ (tf2 : Int → Int), ∃ (ran2 : Int), v9 = some (.int (iI (if a = 0 then ac_b kd nb x else if a = 1 then ac_s kd nb tv x else ac_w kd nb tv x))) ∧ w9 = [cO g0 0 [.ref ga, .int (iI ran2), .int (iI nb), .int (iI kd), .int (iI tv)], cA K ga 20 tf2] ∧ ((tf2, ran2) = ac_p (if a = 0 then ar_b kd else if a = 1 then ar_s kd else ar_w kd) (tf, ran)) ∧ (ran ≤ ran2 ∧ ran2 ≤ ran + 8)) := by
  refine g_enter (by decide +kernel) (Nat.le_of_ble_eq_true rfl) (fun G hC hR => ?_)
  refine g_lv hC [0, 1, 2] [(0, _), (1, _), (2, _)] rfl ?_
  refine g_aload_n (pc := 0) hC 0 dX0_begin_0 rfl rfl ?_
  refine g_iload_n (pc := 1) hC 1 dX0_begin_1 rfl rfl ?_
  refine g_aload_n (pc := 2) hC 0 dX0_begin_2 rfl rfl ?_
  refine g_get (pc := 3) hC 0 fl_X0_15 dX0_begin_3 rfl rfl ?_
  refine g_iload_n (pc := 6) hC 2 dX0_begin_6 rfl rfl ?_
  refine g_iconst (pc := 7) hC dX0_begin_7 ?_
  refine g_callV (pc := 8) (qr := 0) hC [0, 1] (k_X0_run_s _ _ _ _ _ _ _ _ _ _ _ (by first | assumption | omega) (by first | assumption | omega) (by first | assumption | omega) (by first | assumption | omega) (by first | assumption | omega) (by first | assumption | omega)) cl_X0_run wm_X0_19 dX0_begin_8 rfl rfl rfl rfl rfl (by decide) (by decide) (by omega) (Nat.le_of_ble_eq_true rfl) rfl (fun v9 w9 hq9 => ?_)
  obtain ⟨tf1, ran2, rfl, rfl, hp_8, hn_8⟩ := hq9
  refine g_ws hC [cO g0 0 [.ref ga, .int (iI ran2), .int (iI nb), .int (iI kd), .int (iI tv)], cA K ga 20 tf1] rfl ?_
  refine g_st hC [.int (iI (ac_s kd nb tv x))] rfl ?_
  exact g_iret (pc := 11) hR dX0_begin_11 rfl ⟨by omega, by omega⟩ (Nat.le_of_ble_eq_true rfl) ⟨tf1, ran2, ret_eq (by rw [if_neg (by omega), if_pos ha]), rfl, (by rw [if_neg (by omega), if_pos ha, hp_8]), (by first | assumption | omega)⟩
set_option maxHeartbeats 4000000 in
set_option maxRecDepth 100000 in
theorem k_X0_begin_2 {K : gK} (g0 : Nat) (ga : Nat) (a : Int) (x : Int) (ran : Int) (nb : Int) (kd : Int) (tv : Int) (tf : Int → Int) (hr : 0 ≤ ran ∧ ran ≤ 9) (hkd : 0 ≤ kd ∧ kd ≤ 6) (ha : a = 2) : gMet K yX0_begin cX0_begin 3 (some .int) 13 0 0 [.ref g0, .int (iI a), .int (iI x)] [cO g0 0 [.ref ga, .int (iI ran), .int (iI nb), .int (iI kd), .int (iI tv)], cA K ga 20 tf] (fun v9 w9 => ∃ (tf2 : Int → Int), ∃ (ran2 : Int), v9 = some (.int (iI (if a = 0 then ac_b kd nb x else if a = 1 then ac_s kd nb tv x else ac_w kd nb tv x))) ∧ w9 = [cO g0 0 [.ref ga, .int (iI ran2), .int (iI nb), .int (iI kd), .int (iI tv)], cA K ga 20 tf2] ∧ ((tf2, ran2) = ac_p (if a = 0 then ar_b kd else if a = 1 then ar_s kd else ar_w kd) (tf, ran)) ∧ (ran ≤ ran2 ∧ ran2 ≤ ran + 8)) := by
  refine g_enter (by decide +kernel) (Nat.le_of_ble_eq_true rfl) (fun G hC hR => ?_)
  refine g_lv hC [0, 1, 2] [(0, _), (1, _), (2, _)] rfl ?_
  refine g_aload_n (pc := 0) hC 0 dX0_begin_0 rfl rfl ?_
  refine g_iload_n (pc := 1) hC 1 dX0_begin_1 rfl rfl ?_
  refine g_aload_n (pc := 2) hC 0 dX0_begin_2 rfl rfl ?_
  refine g_get (pc := 3) hC 0 fl_X0_15 dX0_begin_3 rfl rfl ?_
  refine g_iload_n (pc := 6) hC 2 dX0_begin_6 rfl rfl ?_
  refine g_iconst (pc := 7) hC dX0_begin_7 ?_
  refine g_callV (pc := 8) (qr := 0) hC [0, 1] (k_X0_run_w _ _ _ _ _ _ _ _ _ _ _ (by first | assumption | omega) (by first | assumption | omega) (by first | assumption | omega) (by first | assumption | omega) (by first | assumption | omega) (by first | assumption | omega)) cl_X0_run wm_X0_19 dX0_begin_8 rfl rfl rfl rfl rfl (by decide) (by decide) (by omega) (Nat.le_of_ble_eq_true rfl) rfl (fun v9 w9 hq9 => ?_)
  obtain ⟨tf1, ran2, rfl, rfl, hp_8, hn_8⟩ := hq9
  refine g_ws hC [cO g0 0 [.ref ga, .int (iI ran2), .int (iI nb), .int (iI kd), .int (iI tv)], cA K ga 20 tf1] rfl ?_
  refine g_st hC [.int (iI (ac_w kd nb tv x))] rfl ?_
  exact g_iret (pc := 11) hR dX0_begin_11 rfl ⟨by omega, by omega⟩ (Nat.le_of_ble_eq_true rfl) ⟨tf1, ran2, ret_eq (by rw [if_neg (by omega), if_neg (by omega)]), rfl, (by rw [if_neg (by omega), if_neg (by omega), hp_8]), (by first | assumption | omega)⟩
theorem tr3 {a : Int} (h : 0 ≤ a ∧ a ≤ 2) : a = 0 ∨ a = 1 ∨ a = 2 := by omega
set_option maxHeartbeats 4000000 in
theorem k_X0_begin {K : gK} (g0 : Nat) (ga : Nat) (a : Int) (x : Int) (ran : Int) (nb : Int) (kd : Int) (tv : Int) (tf : Int → Int) (hr : 0 ≤ ran ∧ ran ≤ 9) (hkd : 0 ≤ kd ∧ kd ≤ 6) (ha : 0 ≤ a ∧ a ≤ 2) : gMet K yX0_begin cX0_begin 3 (some .int) 13 0 0 [.ref g0, .int (iI a), .int (iI x)] [cO g0 0 [.ref ga, .int (iI ran), .int (iI nb), .int (iI kd), .int (iI tv)], cA K ga 20 tf] (fun v9 w9 => ∃ (tf2 : Int → Int), ∃ (ran2 : Int), v9 = some (.int (iI (if a = 0 then ac_b kd nb x else if a = 1 then ac_s kd nb tv x else ac_w kd nb tv x))) ∧ w9 = [cO g0 0 [.ref ga, .int (iI ran2), .int (iI nb), .int (iI kd), .int (iI tv)], cA K ga 20 tf2] ∧ ((tf2, ran2) = ac_p (if a = 0 then ar_b kd else if a = 1 then ar_s kd else ar_w kd) (tf, ran)) ∧ (ran ≤ ran2 ∧ ran2 ≤ ran + 8)) := by
  rcases tr3 ha with h9 | h9 | h9
  · exact k_X0_begin_0 _ _ _ _ _ _ _ _ _ hr hkd h9
  · exact k_X0_begin_1 _ _ _ _ _ _ _ _ _ hr hkd h9
  · exact k_X0_begin_2 _ _ _ _ _ _ _ _ _ hr hkd h9
