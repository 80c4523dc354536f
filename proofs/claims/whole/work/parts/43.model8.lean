/-! THE REFERENCE'S CALLS over the world -/
set_option maxHeartbeats 16000000 in
set_option maxRecDepth 100000 in
theorem lm_of {K : gK} {G : gG} {yl : MethodName} {n mc ms co so pc index N : Nat} {lv : List (Nat × Value)} {st : List Value} {xx mm : Nat} {ws : va_W} {s im t jm : Int → Int} {tk uk stp : Int} {l ml : List Int} (hC : gC G K yl cL_law 4 n mc ms) (hn : 100 ≤ n) (hco : co ≤ mc ∧ so ≤ ms) (hst : (st.map fun v => v.category).sum ≤ 8) (hl : Cond.methodLink yl.cls index yX10_of ∈ TB) (d : decode cL_law pc = .ok (.invokevirtual index, 3)) (p : Int) (w : Int) (r_p : rI p) (r_w : rI w) (h0 : LW K xx mm ws N s im tk l stp t jm uk ml) (hs9 : sg_ok t jm uk) (kk : ∀ ws2, LW K xx mm ws2 N s im tk l stp t jm uk ml → G co so (pc + 3) lv (.int (iI (an_of (WSS t) (rcS t) t p w)) :: st) ws2) : G co so pc lv (.int (iI w) :: .int (iI p) :: .ref mm :: st) ws := by
  obtain ⟨ad, F, I, J, Z, hm, hv, rfl, ⟨rfl, rfl⟩, hhm, hF, hI, hZ, ⟨a1, a2, a3, a4, a5, a6, rfl, a8, a9⟩, ⟨rfl, b2, b3, b4, b5, b6⟩⟩ := h0
  have hg := hs9.1
  have hg1 := hg.1
  have hg2 := hg.2.1
  have h19 := hg1.2.2.1
  have h09 := hg.2.2.2.1
  have hTK := gs_TK hg
  obtain ⟨rA, rB, rC, rT⟩ := rs_iff.mp hg2
  refine g_callV (pc := pc) (qr := 71) hC [71, 72, 75, 76, 77] (k_X10_of (ad 71) (ad 72) (ad 75) (ad 76) (ad 77) (.int (iI (I 37))) (.ref (ad 73)) (.ref (ad 74)) (.int (iI (I 38))) (.int (iI (I 39))) (.int (iI (I 40))) (.int (iI (I 41))) (.int (iI (I 42))) (.int (iI (I 43))) (.ref (ad 78)) (.ref (ad 79)) (.ref (ad 80)) (.ref (ad 81)) (.ref (ad 82)) (.int (iI (I 45))) (.ref (ad 83)) (.int (iI (I 46))) (.int (iI (J 3))) (.int (iI (J 4))) (.int (iI (J 5))) p w (I 44) (F 72) (F 75) Z (F 77) (WSS (F 72)) (rcS (F 72)) r_p r_w (hI _) (hF _) (hF _) hZ (hF _) hg1 hTK (Or.inl b5)) cl_X10_of hl d rfl rfl rfl rfl rfl (by decide) (Nat.le_trans (by decide) hn) hco hst rfl (fun v9 w9 hq9 => ?_)
  obtain ⟨fb2, ft2, fu2, rfl, rfl, r_fb2, r_ft2, r_fu2, hk2⟩ := hq9
  refine g_ws hC (WXM K ad (upF (upF F 75 fb2) 77 fu2) I J ft2 hm hv N) rfl ?_
  exact kk _ ⟨ad, (upF (upF F 75 fb2) 77 fu2), I, J, ft2, hm, hv, rfl, ⟨rfl, rfl⟩, hhm, (upF_r (upF_r hF r_fb2 75) r_fu2 77), hI, r_ft2, ⟨a1, ⟨a2.1, fun q => ⟨(a2.2 q).1, (cx_Hf (by decide) (cx_Hf (by decide) (a2.2 q).2.1)), (a2.2 q).2.2⟩⟩, a3, a4, a5, a6, rfl, a8, (cx_Hf (by decide) (cx_Hf (by decide) a9))⟩, ⟨rfl, b2, b3, b4, b5, b6⟩⟩
set_option maxHeartbeats 16000000 in
set_option maxRecDepth 100000 in
theorem lm_pull {K : gK} {G : gG} {yl : MethodName} {n mc ms co so pc index N : Nat} {lv : List (Nat × Value)} {st : List Value} {xx mm : Nat} {ws : va_W} {s im t jm : Int → Int} {tk uk stp : Int} {l ml : List Int} (hC : gC G K yl cL_law 4 n mc ms) (hn : 100 ≤ n) (hco : co ≤ mc ∧ so ≤ ms) (hst : (st.map fun v => v.category).sum ≤ 8) (hl : Cond.methodLink yl.cls index yX10_pull ∈ TB) (d : decode cL_law pc = .ok (.invokevirtual index, 3)) (p : Int) (q : Int) (r_p : rI p) (r_q : rI q) (h0 : LW K xx mm ws N s im tk l stp t jm uk ml) (hs9 : sg_ok t jm uk) (kk : ∀ ws2, LW K xx mm ws2 N s im tk l stp t jm uk ml → G co so (pc + 3) lv (.int (iI (an_pull (WSS t) t p q)) :: st) ws2) : G co so pc lv (.int (iI q) :: .int (iI p) :: .ref mm :: st) ws := by
  obtain ⟨ad, F, I, J, Z, hm, hv, rfl, ⟨rfl, rfl⟩, hhm, hF, hI, hZ, ⟨a1, a2, a3, a4, a5, a6, rfl, a8, a9⟩, ⟨rfl, b2, b3, b4, b5, b6⟩⟩ := h0
  have hg := hs9.1
  have hg1 := hg.1
  have hg2 := hg.2.1
  have h19 := hg1.2.2.1
  have h09 := hg.2.2.2.1
  have hTK := gs_TK hg
  obtain ⟨rA, rB, rC, rT⟩ := rs_iff.mp hg2
  refine g_callV (pc := pc) (qr := 71) hC [71, 72, 75, 76, 77] (k_X10_pull (ad 71) (ad 72) (ad 75) (ad 76) (ad 77) (.int (iI (I 37))) (.ref (ad 73)) (.ref (ad 74)) (.int (iI (I 38))) (.int (iI (I 39))) (.int (iI (I 40))) (.int (iI (I 41))) (.int (iI (I 42))) (.int (iI (I 43))) (.ref (ad 78)) (.ref (ad 79)) (.ref (ad 80)) (.ref (ad 81)) (.ref (ad 82)) (.int (iI (I 45))) (.ref (ad 83)) (.int (iI (I 46))) (.int (iI (J 3))) (.int (iI (J 4))) (.int (iI (J 5))) p q (I 44) (F 72) (F 75) Z (F 77) (WSS (F 72)) (rcS (F 72)) r_p r_q (hI _) (hF _) (hF _) hZ (hF _) hg1 hTK (Or.inl b5)) cl_X10_pull hl d rfl rfl rfl rfl rfl (by decide) (Nat.le_trans (by decide) hn) hco hst rfl (fun v9 w9 hq9 => ?_)
  obtain ⟨fb2, ft2, fu2, rfl, rfl, r_fb2, r_ft2, r_fu2, hk2⟩ := hq9
  refine g_ws hC (WXM K ad (upF (upF F 75 fb2) 77 fu2) I J ft2 hm hv N) rfl ?_
  exact kk _ ⟨ad, (upF (upF F 75 fb2) 77 fu2), I, J, ft2, hm, hv, rfl, ⟨rfl, rfl⟩, hhm, (upF_r (upF_r hF r_fb2 75) r_fu2 77), hI, r_ft2, ⟨a1, ⟨a2.1, fun q => ⟨(a2.2 q).1, (cx_Hf (by decide) (cx_Hf (by decide) (a2.2 q).2.1)), (a2.2 q).2.2⟩⟩, a3, a4, a5, a6, rfl, a8, (cx_Hf (by decide) (cx_Hf (by decide) a9))⟩, ⟨rfl, b2, b3, b4, b5, b6⟩⟩
set_option maxHeartbeats 16000000 in
set_option maxRecDepth 100000 in
theorem lm_told {K : gK} {G : gG} {yl : MethodName} {n mc ms co so pc index N : Nat} {lv : List (Nat × Value)} {st : List Value} {xx mm : Nat} {ws : va_W} {s im t jm : Int → Int} {tk uk stp : Int} {l ml : List Int} (hC : gC G K yl cL_law 4 n mc ms) (hn : 100 ≤ n) (hco : co ≤ mc ∧ so ≤ ms) (hst : (st.map fun v => v.category).sum ≤ 8) (hl : Cond.methodLink yl.cls index yX10_told ∈ TB) (d : decode cL_law pc = .ok (.invokevirtual index, 3)) (w : Int) (r_w : rI w) (h0 : LW K xx mm ws N s im tk l stp t jm uk ml) (hs9 : sg_ok t jm uk) (kk : ∀ ws2, LW K xx mm ws2 N s im tk l stp t jm uk ml → G co so (pc + 3) lv (.int (iI (an_told (WSS t) (rcS t) t w)) :: st) ws2) : G co so pc lv (.int (iI w) :: .ref mm :: st) ws := by
  obtain ⟨ad, F, I, J, Z, hm, hv, rfl, ⟨rfl, rfl⟩, hhm, hF, hI, hZ, ⟨a1, a2, a3, a4, a5, a6, rfl, a8, a9⟩, ⟨rfl, b2, b3, b4, b5, b6⟩⟩ := h0
  have hg := hs9.1
  have hg1 := hg.1
  have hg2 := hg.2.1
  have h19 := hg1.2.2.1
  have h09 := hg.2.2.2.1
  have hTK := gs_TK hg
  obtain ⟨rA, rB, rC, rT⟩ := rs_iff.mp hg2
  refine g_callV (pc := pc) (qr := 71) hC [71, 72, 74, 75, 76, 77, 78] (k_X10_told (ad 71) (ad 72) (ad 74) (ad 75) (ad 76) (ad 77) (ad 78) (.int (iI (I 37))) (.ref (ad 73)) (.int (iI (I 38))) (.int (iI (I 39))) (.int (iI (I 40))) (.int (iI (I 41))) (.int (iI (I 42))) (.int (iI (I 43))) (.ref (ad 79)) (.ref (ad 80)) (.ref (ad 81)) (.ref (ad 82)) (.int (iI (I 45))) (.ref (ad 83)) (.int (iI (I 46))) (.int (iI (J 3))) (.int (iI (J 4))) (.int (iI (J 5))) w (I 44) (F 72) (F 74) (F 75) Z (F 77) (F 78) (WSS (F 72)) (rcS (F 72)) r_w (hI _) (hF _) (hF _) (hF _) hZ (hF _) (hF _) hg1 (by omega) hTK (Or.inl b5)) cl_X10_told hl d rfl rfl rfl rfl rfl (by decide) (Nat.le_trans (by decide) hn) hco hst rfl (fun v9 w9 hq9 => ?_)
  obtain ⟨fr2, fb2, ft2, fu2, fn2, rfl, rfl, r_fr2, r_fb2, r_ft2, r_fu2, r_fn2, hk2⟩ := hq9
  refine g_ws hC (WXM K ad (upF (upF (upF (upF F 74 fr2) 75 fb2) 77 fu2) 78 fn2) I J ft2 hm hv N) rfl ?_
  exact kk _ ⟨ad, (upF (upF (upF (upF F 74 fr2) 75 fb2) 77 fu2) 78 fn2), I, J, ft2, hm, hv, rfl, ⟨rfl, rfl⟩, hhm, (upF_r (upF_r (upF_r (upF_r hF r_fr2 74) r_fb2 75) r_fu2 77) r_fn2 78), hI, r_ft2, ⟨a1, ⟨a2.1, fun q => ⟨(a2.2 q).1, (cx_Hf (by decide) (cx_Hf (by decide) (cx_Hf (by decide) (cx_Hf (by decide) (a2.2 q).2.1)))), (a2.2 q).2.2⟩⟩, a3, a4, a5, a6, rfl, a8, (cx_Hf (by decide) (cx_Hf (by decide) (cx_Hf (by decide) (cx_Hf (by decide) a9))))⟩, ⟨rfl, b2, b3, b4, b5, b6⟩⟩
set_option maxHeartbeats 16000000 in
set_option maxRecDepth 100000 in
theorem lm_on {K : gK} {G : gG} {yl : MethodName} {n mc ms co so pc index N : Nat} {lv : List (Nat × Value)} {st : List Value} {xx mm : Nat} {ws : va_W} {s im t jm : Int → Int} {tk uk stp : Int} {l ml : List Int} (hC : gC G K yl cL_law 4 n mc ms) (hn : 100 ≤ n) (hco : co ≤ mc ∧ so ≤ ms) (hst : (st.map fun v => v.category).sum ≤ 8) (hl : Cond.methodLink yl.cls index yX10_on ∈ TB) (d : decode cL_law pc = .ok (.invokevirtual index, 3)) (x : Int) (w : Int) (r_x : rI x) (r_w : rI w) (h0 : LW K xx mm ws N s im tk l stp t jm uk ml) (hs9 : sg_ok t jm uk) (kk : ∀ ws2, LW K xx mm ws2 N s im tk l stp t jm uk ml → G co so (pc + 3) lv (.int (iI (an_on (WSS t) (rcS t) t x w)) :: st) ws2) : G co so pc lv (.int (iI w) :: .int (iI x) :: .ref mm :: st) ws := by
  obtain ⟨ad, F, I, J, Z, hm, hv, rfl, ⟨rfl, rfl⟩, hhm, hF, hI, hZ, ⟨a1, a2, a3, a4, a5, a6, rfl, a8, a9⟩, ⟨rfl, b2, b3, b4, b5, b6⟩⟩ := h0
  have hg := hs9.1
  have hg1 := hg.1
  have hg2 := hg.2.1
  have h19 := hg1.2.2.1
  have h09 := hg.2.2.2.1
  have hTK := gs_TK hg
  obtain ⟨rA, rB, rC, rT⟩ := rs_iff.mp hg2
  refine g_callV (pc := pc) (qr := 71) hC [71, 72, 74, 75, 76, 77, 78] (k_X10_on (ad 71) (ad 72) (ad 74) (ad 75) (ad 76) (ad 77) (ad 78) (.int (iI (I 37))) (.ref (ad 73)) (.int (iI (I 38))) (.int (iI (I 39))) (.int (iI (I 40))) (.int (iI (I 41))) (.int (iI (I 42))) (.int (iI (I 43))) (.ref (ad 79)) (.ref (ad 80)) (.ref (ad 81)) (.ref (ad 82)) (.int (iI (I 45))) (.ref (ad 83)) (.int (iI (I 46))) (.int (iI (J 3))) (.int (iI (J 4))) (.int (iI (J 5))) x w (I 44) (F 72) (F 74) (F 75) Z (F 77) (F 78) (WSS (F 72)) (rcS (F 72)) r_x r_w (hI _) (hF _) (hF _) (hF _) hZ (hF _) (hF _) hg1 (by omega) hTK (Or.inl b5)) cl_X10_on hl d rfl rfl rfl rfl rfl (by decide) (Nat.le_trans (by decide) hn) hco hst rfl (fun v9 w9 hq9 => ?_)
  obtain ⟨fr2, fb2, ft2, fu2, fn2, rfl, rfl, r_fr2, r_fb2, r_ft2, r_fu2, r_fn2, hk2⟩ := hq9
  refine g_ws hC (WXM K ad (upF (upF (upF (upF F 74 fr2) 75 fb2) 77 fu2) 78 fn2) I J ft2 hm hv N) rfl ?_
  exact kk _ ⟨ad, (upF (upF (upF (upF F 74 fr2) 75 fb2) 77 fu2) 78 fn2), I, J, ft2, hm, hv, rfl, ⟨rfl, rfl⟩, hhm, (upF_r (upF_r (upF_r (upF_r hF r_fr2 74) r_fb2 75) r_fu2 77) r_fn2 78), hI, r_ft2, ⟨a1, ⟨a2.1, fun q => ⟨(a2.2 q).1, (cx_Hf (by decide) (cx_Hf (by decide) (cx_Hf (by decide) (cx_Hf (by decide) (a2.2 q).2.1)))), (a2.2 q).2.2⟩⟩, a3, a4, a5, a6, rfl, a8, (cx_Hf (by decide) (cx_Hf (by decide) (cx_Hf (by decide) (cx_Hf (by decide) a9))))⟩, ⟨rfl, b2, b3, b4, b5, b6⟩⟩
set_option maxHeartbeats 16000000 in
set_option maxRecDepth 100000 in
theorem lm_steer {K : gK} {G : gG} {yl : MethodName} {n mc ms co so pc index N : Nat} {lv : List (Nat × Value)} {st : List Value} {xx mm : Nat} {ws : va_W} {s im t jm : Int → Int} {tk uk stp : Int} {l ml : List Int} (hC : gC G K yl cL_law 4 n mc ms) (hn : 100 ≤ n) (hco : co ≤ mc ∧ so ≤ ms) (hst : (st.map fun v => v.category).sum ≤ 8) (hl : Cond.methodLink yl.cls index yX10_steer ∈ TB) (d : decode cL_law pc = .ok (.invokevirtual index, 3)) (p : Int) (x : Int) (r_p : rI p) (r_x : rI x) (h0 : LW K xx mm ws N s im tk l stp t jm uk ml) (hs9 : sg_ok t jm uk) (kk : ∀ ws2, LW K xx mm ws2 N s im tk l stp t jm uk ml → G co so (pc + 3) lv (.int (iI (an_steer t p x)) :: st) ws2) : G co so pc lv (.int (iI x) :: .int (iI p) :: .ref mm :: st) ws := by
  obtain ⟨ad, F, I, J, Z, hm, hv, rfl, ⟨rfl, rfl⟩, hhm, hF, hI, hZ, ⟨a1, a2, a3, a4, a5, a6, rfl, a8, a9⟩, ⟨rfl, b2, b3, b4, b5, b6⟩⟩ := h0
  have hg := hs9.1
  have hg1 := hg.1
  have hg2 := hg.2.1
  have h19 := hg1.2.2.1
  have h09 := hg.2.2.2.1
  have hTK := gs_TK hg
  obtain ⟨rA, rB, rC, rT⟩ := rs_iff.mp hg2
  refine g_callV (pc := pc) (qr := 71) hC [71, 72, 74, 75, 76, 77, 78] (k_X10_steer (ad 71) (ad 72) (ad 74) (ad 75) (ad 76) (ad 77) (ad 78) (.int (iI (I 37))) (.ref (ad 73)) (.int (iI (I 38))) (.int (iI (I 39))) (.int (iI (I 40))) (.int (iI (I 41))) (.int (iI (I 42))) (.int (iI (I 43))) (.ref (ad 79)) (.ref (ad 80)) (.ref (ad 81)) (.ref (ad 82)) (.int (iI (I 45))) (.ref (ad 83)) (.int (iI (I 46))) (.int (iI (J 3))) (.int (iI (J 4))) (.int (iI (J 5))) p x (I 44) (F 72) (F 74) (F 75) Z (F 77) (F 78) (WSS (F 72)) (rcS (F 72)) r_p r_x (hI _) (hF _) (hF _) (hF _) hZ (hF _) (hF _) hg1 (by omega) hTK b5) cl_X10_steer hl d rfl rfl rfl rfl rfl (by decide) (Nat.le_trans (by decide) hn) hco hst rfl (fun v9 w9 hq9 => ?_)
  obtain ⟨fr2, fb2, ft2, fu2, fn2, ik2, rfl, rfl, r_fr2, r_fb2, r_ft2, r_fu2, r_fn2, r_ik2, hik2⟩ := hq9
  refine g_ws hC (WXM K ad (upF (upF (upF (upF F 74 fr2) 75 fb2) 77 fu2) 78 fn2) (upJ I 44 ik2) J ft2 hm hv N) rfl ?_
  exact kk _ ⟨ad, (upF (upF (upF (upF F 74 fr2) 75 fb2) 77 fu2) 78 fn2), (upJ I 44 ik2), J, ft2, hm, hv, rfl, ⟨rfl, rfl⟩, hhm, (upF_r (upF_r (upF_r (upF_r hF r_fr2 74) r_fb2 75) r_fu2 77) r_fn2 78), (upJ_r hI r_ik2 44), r_ft2, ⟨a1, ⟨a2.1, fun q => ⟨(a2.2 q).1, (cx_Hf (by decide) (cx_Hf (by decide) (cx_Hf (by decide) (cx_Hf (by decide) (cx_Hi (by decide) (a2.2 q).2.1))))), (a2.2 q).2.2⟩⟩, a3, a4, a5, a6, rfl, a8, (cx_Hf (by decide) (cx_Hf (by decide) (cx_Hf (by decide) (cx_Hf (by decide) (cx_Hi (by decide) a9)))))⟩, ⟨rfl, b2, b3, b4, hik2, b6⟩⟩
set_option maxHeartbeats 16000000 in
set_option maxRecDepth 100000 in
theorem lm_tells {K : gK} {G : gG} {yl : MethodName} {n mc ms co so pc index N : Nat} {lv : List (Nat × Value)} {st : List Value} {xx mm : Nat} {ws : va_W} {s im t jm : Int → Int} {tk uk stp : Int} {l ml : List Int} (hC : gC G K yl cL_law 4 n mc ms) (hn : 100 ≤ n) (hco : co ≤ mc ∧ so ≤ ms) (hst : (st.map fun v => v.category).sum ≤ 8) (hl : Cond.methodLink yl.cls index yX10_tells ∈ TB) (d : decode cL_law pc = .ok (.invokevirtual index, 3)) (p : Int) (x : Int) (r_p : rI p) (r_x : rI x) (h0 : LW K xx mm ws N s im tk l stp t jm uk ml) (hs9 : sg_ok t jm uk) (kk : ∀ ws2, LW K xx mm ws2 N s im tk l stp t jm uk ml → G co so (pc + 3) lv (.int (iI (an_tells (WSS t) (rcS t) t p x)) :: st) ws2) : G co so pc lv (.int (iI x) :: .int (iI p) :: .ref mm :: st) ws := by
  obtain ⟨ad, F, I, J, Z, hm, hv, rfl, ⟨rfl, rfl⟩, hhm, hF, hI, hZ, ⟨a1, a2, a3, a4, a5, a6, rfl, a8, a9⟩, ⟨rfl, b2, b3, b4, b5, b6⟩⟩ := h0
  have hg := hs9.1
  have hg1 := hg.1
  have hg2 := hg.2.1
  have h19 := hg1.2.2.1
  have h09 := hg.2.2.2.1
  have hTK := gs_TK hg
  obtain ⟨rA, rB, rC, rT⟩ := rs_iff.mp hg2
  refine g_callV (pc := pc) (qr := 71) hC [71, 72, 74, 75, 76, 77, 78, 79] (k_X10_tells (ad 71) (ad 72) (ad 74) (ad 75) (ad 76) (ad 77) (ad 78) (ad 79) (.int (iI (I 37))) (.ref (ad 73)) (.int (iI (I 38))) (.int (iI (I 39))) (.int (iI (I 40))) (.int (iI (I 41))) (.int (iI (I 42))) (.int (iI (I 43))) (.ref (ad 80)) (.ref (ad 81)) (.ref (ad 82)) (.int (iI (I 45))) (.ref (ad 83)) (.int (iI (I 46))) (.int (iI (J 3))) (.int (iI (J 4))) (.int (iI (J 5))) p x (I 44) (F 72) (F 74) (F 75) Z (F 77) (F 78) (F 79) (WSS (F 72)) (rcS (F 72)) r_p r_x (hI _) (hF _) (hF _) (hF _) hZ (hF _) (hF _) (hF _) hg1 (by omega) hTK b5) cl_X10_tells hl d rfl rfl rfl rfl rfl (by decide) (Nat.le_trans (by decide) hn) hco hst rfl (fun v9 w9 hq9 => ?_)
  obtain ⟨fr2, fb2, ft2, fu2, fn2, fi2, ik2, rfl, rfl, r_fr2, r_fb2, r_ft2, r_fu2, r_fn2, r_fi2, r_ik2, hik2⟩ := hq9
  refine g_ws hC (WXM K ad (upF (upF (upF (upF (upF F 74 fr2) 75 fb2) 77 fu2) 78 fn2) 79 fi2) (upJ I 44 ik2) J ft2 hm hv N) rfl ?_
  exact kk _ ⟨ad, (upF (upF (upF (upF (upF F 74 fr2) 75 fb2) 77 fu2) 78 fn2) 79 fi2), (upJ I 44 ik2), J, ft2, hm, hv, rfl, ⟨rfl, rfl⟩, hhm, (upF_r (upF_r (upF_r (upF_r (upF_r hF r_fr2 74) r_fb2 75) r_fu2 77) r_fn2 78) r_fi2 79), (upJ_r hI r_ik2 44), r_ft2, ⟨a1, ⟨a2.1, fun q => ⟨(a2.2 q).1, (cx_Hf (by decide) (cx_Hf (by decide) (cx_Hf (by decide) (cx_Hf (by decide) (cx_Hf (by decide) (cx_Hi (by decide) (a2.2 q).2.1)))))), (a2.2 q).2.2⟩⟩, a3, a4, a5, a6, rfl, a8, (cx_Hf (by decide) (cx_Hf (by decide) (cx_Hf (by decide) (cx_Hf (by decide) (cx_Hf (by decide) (cx_Hi (by decide) a9))))))⟩, ⟨rfl, b2, b3, b4, hik2, b6⟩⟩
set_option maxHeartbeats 16000000 in
set_option maxRecDepth 100000 in
theorem lm_roomed {K : gK} {G : gG} {yl : MethodName} {n mc ms co so pc index N : Nat} {lv : List (Nat × Value)} {st : List Value} {xx mm : Nat} {ws : va_W} {s im t jm : Int → Int} {tk uk stp : Int} {l ml : List Int} (hC : gC G K yl cL_law 4 n mc ms) (hn : 100 ≤ n) (hco : co ≤ mc ∧ so ≤ ms) (hst : (st.map fun v => v.category).sum ≤ 8) (hl : Cond.methodLink yl.cls index yX10_roomed ∈ TB) (d : decode cL_law pc = .ok (.invokevirtual index, 3)) (k : Int) (r_k : rI k) (h0 : LW K xx mm ws N s im tk l stp t jm uk ml) (hs9 : sg_ok t jm uk) (kk : ∀ ws2, LW K xx mm ws2 N s im tk l stp t jm uk ml → G co so (pc + 3) lv (.int (iI (an_roomed (WSS t) (rcS t) t k)) :: st) ws2) : G co so pc lv (.int (iI k) :: .ref mm :: st) ws := by
  obtain ⟨ad, F, I, J, Z, hm, hv, rfl, ⟨rfl, rfl⟩, hhm, hF, hI, hZ, ⟨a1, a2, a3, a4, a5, a6, rfl, a8, a9⟩, ⟨rfl, b2, b3, b4, b5, b6⟩⟩ := h0
  have hg := hs9.1
  have hg1 := hg.1
  have hg2 := hg.2.1
  have h19 := hg1.2.2.1
  have h09 := hg.2.2.2.1
  have hTK := gs_TK hg
  obtain ⟨rA, rB, rC, rT⟩ := rs_iff.mp hg2
  refine g_callV (pc := pc) (qr := 71) hC [71, 72, 74, 75, 76, 77, 78, 80, 81, 82] (k_X10_roomed (ad 71) (ad 72) (ad 74) (ad 75) (ad 76) (ad 77) (ad 78) (ad 80) (ad 81) (ad 82) (.int (iI (I 37))) (.ref (ad 73)) (.int (iI (I 38))) (.int (iI (I 39))) (.int (iI (I 40))) (.int (iI (I 41))) (.int (iI (I 42))) (.int (iI (I 43))) (.ref (ad 79)) (.ref (ad 83)) (.int (iI (I 46))) (.int (iI (J 3))) (.int (iI (J 4))) (.int (iI (J 5))) k (I 44) (I 45) (F 72) (F 74) (F 75) Z (F 77) (F 78) (F 80) (F 81) (F 82) (WSS (F 72)) (rcS (F 72)) r_k (hI _) (hI _) (hF _) (hF _) (hF _) hZ (hF _) (hF _) (hF _) (hF _) (hF _) hg1 (by omega) hTK b5) cl_X10_roomed hl d rfl rfl rfl rfl rfl (by decide) (Nat.le_trans (by decide) hn) hco hst rfl (fun v9 w9 hq9 => ?_)
  obtain ⟨fr2, fb2, ft2, fu2, fn2, lu2, bo2, or2, rm2, ik2, rfl, rfl, r_fr2, r_fb2, r_ft2, r_fu2, r_fn2, r_lu2, r_bo2, r_or2, r_rm2, r_ik2, hik2⟩ := hq9
  refine g_ws hC (WXM K ad (upF (upF (upF (upF (upF (upF (upF F 74 fr2) 75 fb2) 77 fu2) 78 fn2) 80 or2) 81 bo2) 82 rm2) (upJ (upJ I 44 ik2) 45 lu2) J ft2 hm hv N) rfl ?_
  exact kk _ ⟨ad, (upF (upF (upF (upF (upF (upF (upF F 74 fr2) 75 fb2) 77 fu2) 78 fn2) 80 or2) 81 bo2) 82 rm2), (upJ (upJ I 44 ik2) 45 lu2), J, ft2, hm, hv, rfl, ⟨rfl, rfl⟩, hhm, (upF_r (upF_r (upF_r (upF_r (upF_r (upF_r (upF_r hF r_fr2 74) r_fb2 75) r_fu2 77) r_fn2 78) r_or2 80) r_bo2 81) r_rm2 82), (upJ_r (upJ_r hI r_ik2 44) r_lu2 45), r_ft2, ⟨a1, ⟨a2.1, fun q => ⟨(a2.2 q).1, (cx_Hf (by decide) (cx_Hf (by decide) (cx_Hf (by decide) (cx_Hf (by decide) (cx_Hf (by decide) (cx_Hf (by decide) (cx_Hf (by decide) (cx_Hi (by decide) (cx_Hi (by decide) (a2.2 q).2.1))))))))), (a2.2 q).2.2⟩⟩, a3, a4, a5, a6, rfl, a8, (cx_Hf (by decide) (cx_Hf (by decide) (cx_Hf (by decide) (cx_Hf (by decide) (cx_Hf (by decide) (cx_Hf (by decide) (cx_Hf (by decide) (cx_Hi (by decide) (cx_Hi (by decide) a9)))))))))⟩, ⟨rfl, b2, b3, b4, hik2, b6⟩⟩
set_option maxHeartbeats 16000000 in
set_option maxRecDepth 100000 in
theorem lm_states {K : gK} {G : gG} {yl : MethodName} {n mc ms co so pc index N : Nat} {lv : List (Nat × Value)} {st : List Value} {xx mm : Nat} {ws : va_W} {s im t jm : Int → Int} {tk uk stp : Int} {l ml : List Int} (hC : gC G K yl cL_law 4 n mc ms) (hn : 100 ≤ n) (hco : co ≤ mc ∧ so ≤ ms) (hst : (st.map fun v => v.category).sum ≤ 8) (hl : Cond.methodLink yl.cls index yX10_states ∈ TB) (d : decode cL_law pc = .ok (.invokevirtual index, 3)) (p : Int) (r_p : rI p) (h0 : LW K xx mm ws N s im tk l stp t jm uk ml) (hs9 : sg_ok t jm uk) (kk : ∀ ws2, LW K xx mm ws2 N s im tk l stp t jm uk ml → G co so (pc + 3) lv (.int (iI (an_states (WSS t) (rcS t) t p)) :: st) ws2) : G co so pc lv (.int (iI p) :: .ref mm :: st) ws := by
  obtain ⟨ad, F, I, J, Z, hm, hv, rfl, ⟨rfl, rfl⟩, hhm, hF, hI, hZ, ⟨a1, a2, a3, a4, a5, a6, rfl, a8, a9⟩, ⟨rfl, b2, b3, b4, b5, b6⟩⟩ := h0
  have hg := hs9.1
  have hg1 := hg.1
  have hg2 := hg.2.1
  have h19 := hg1.2.2.1
  have h09 := hg.2.2.2.1
  have hTK := gs_TK hg
  obtain ⟨rA, rB, rC, rT⟩ := rs_iff.mp hg2
  refine g_callV (pc := pc) (qr := 71) hC [71, 72, 74, 75, 76, 77, 78] (k_X10_states (ad 71) (ad 72) (ad 74) (ad 75) (ad 76) (ad 77) (ad 78) (.int (iI (I 37))) (.ref (ad 73)) (.int (iI (I 38))) (.int (iI (I 39))) (.int (iI (I 40))) (.int (iI (I 41))) (.int (iI (I 42))) (.int (iI (I 43))) (.ref (ad 79)) (.ref (ad 80)) (.ref (ad 81)) (.ref (ad 82)) (.int (iI (I 45))) (.ref (ad 83)) (.int (iI (I 46))) (.int (iI (J 3))) (.int (iI (J 4))) (.int (iI (J 5))) p (I 44) (F 72) (F 74) (F 75) Z (F 77) (F 78) (WSS (F 72)) (rcS (F 72)) r_p (hI _) (hF _) (hF _) (hF _) hZ (hF _) (hF _) hg1 (by omega) hg2 hTK b5) cl_X10_states hl d rfl rfl rfl rfl rfl (by decide) (Nat.le_trans (by decide) hn) hco hst rfl (fun v9 w9 hq9 => ?_)
  obtain ⟨fr2, fb2, ft2, fu2, fn2, ik2, rfl, rfl, r_fr2, r_fb2, r_ft2, r_fu2, r_fn2, r_ik2, hik2⟩ := hq9
  refine g_ws hC (WXM K ad (upF (upF (upF (upF F 74 fr2) 75 fb2) 77 fu2) 78 fn2) (upJ I 44 ik2) J ft2 hm hv N) rfl ?_
  exact kk _ ⟨ad, (upF (upF (upF (upF F 74 fr2) 75 fb2) 77 fu2) 78 fn2), (upJ I 44 ik2), J, ft2, hm, hv, rfl, ⟨rfl, rfl⟩, hhm, (upF_r (upF_r (upF_r (upF_r hF r_fr2 74) r_fb2 75) r_fu2 77) r_fn2 78), (upJ_r hI r_ik2 44), r_ft2, ⟨a1, ⟨a2.1, fun q => ⟨(a2.2 q).1, (cx_Hf (by decide) (cx_Hf (by decide) (cx_Hf (by decide) (cx_Hf (by decide) (cx_Hi (by decide) (a2.2 q).2.1))))), (a2.2 q).2.2⟩⟩, a3, a4, a5, a6, rfl, a8, (cx_Hf (by decide) (cx_Hf (by decide) (cx_Hf (by decide) (cx_Hf (by decide) (cx_Hi (by decide) a9)))))⟩, ⟨rfl, b2, b3, b4, hik2, b6⟩⟩
set_option maxHeartbeats 16000000 in
set_option maxRecDepth 100000 in
theorem lm_where {K : gK} {G : gG} {yl : MethodName} {n mc ms co so pc index N : Nat} {lv : List (Nat × Value)} {st : List Value} {xx mm : Nat} {ws : va_W} {s im t jm : Int → Int} {tk uk stp : Int} {l ml : List Int} (hC : gC G K yl cL_law 4 n mc ms) (hn : 100 ≤ n) (hco : co ≤ mc ∧ so ≤ ms) (hst : (st.map fun v => v.category).sum ≤ 8) (hl : Cond.methodLink yl.cls index yX10_where ∈ TB) (d : decode cL_law pc = .ok (.invokevirtual index, 3)) (p : Int) (r_p : rI p) (h0 : LW K xx mm ws N s im tk l stp t jm uk ml) (hs9 : sg_ok t jm uk) (kk : ∀ ws2, LW K xx mm ws2 N s im tk l stp t jm uk ml → G co so (pc + 3) lv (.int (iI (an_where (WSS t) (rcS t) t p)) :: st) ws2) : G co so pc lv (.int (iI p) :: .ref mm :: st) ws := by
  obtain ⟨ad, F, I, J, Z, hm, hv, rfl, ⟨rfl, rfl⟩, hhm, hF, hI, hZ, ⟨a1, a2, a3, a4, a5, a6, rfl, a8, a9⟩, ⟨rfl, b2, b3, b4, b5, b6⟩⟩ := h0
  have hg := hs9.1
  have hg1 := hg.1
  have hg2 := hg.2.1
  have h19 := hg1.2.2.1
  have h09 := hg.2.2.2.1
  have hTK := gs_TK hg
  obtain ⟨rA, rB, rC, rT⟩ := rs_iff.mp hg2
  refine g_callV (pc := pc) (qr := 71) hC [71, 72, 74, 75, 76, 77, 78] (k_X10_where (ad 71) (ad 72) (ad 74) (ad 75) (ad 76) (ad 77) (ad 78) (.int (iI (I 37))) (.ref (ad 73)) (.int (iI (I 38))) (.int (iI (I 39))) (.int (iI (I 40))) (.int (iI (I 41))) (.int (iI (I 42))) (.int (iI (I 43))) (.ref (ad 79)) (.ref (ad 80)) (.ref (ad 81)) (.ref (ad 82)) (.int (iI (I 45))) (.ref (ad 83)) (.int (iI (I 46))) (.int (iI (J 3))) (.int (iI (J 4))) (.int (iI (J 5))) p (I 44) (F 72) (F 74) (F 75) Z (F 77) (F 78) (WSS (F 72)) (rcS (F 72)) r_p (hI _) (hF _) (hF _) (hF _) hZ (hF _) (hF _) hg1 (by omega) hg2 hTK b5) cl_X10_where hl d rfl rfl rfl rfl rfl (by decide) (Nat.le_trans (by decide) hn) hco hst rfl (fun v9 w9 hq9 => ?_)
  obtain ⟨fr2, fb2, ft2, fu2, fn2, ik2, rfl, rfl, r_fr2, r_fb2, r_ft2, r_fu2, r_fn2, r_ik2, hik2⟩ := hq9
  refine g_ws hC (WXM K ad (upF (upF (upF (upF F 74 fr2) 75 fb2) 77 fu2) 78 fn2) (upJ I 44 ik2) J ft2 hm hv N) rfl ?_
  exact kk _ ⟨ad, (upF (upF (upF (upF F 74 fr2) 75 fb2) 77 fu2) 78 fn2), (upJ I 44 ik2), J, ft2, hm, hv, rfl, ⟨rfl, rfl⟩, hhm, (upF_r (upF_r (upF_r (upF_r hF r_fr2 74) r_fb2 75) r_fu2 77) r_fn2 78), (upJ_r hI r_ik2 44), r_ft2, ⟨a1, ⟨a2.1, fun q => ⟨(a2.2 q).1, (cx_Hf (by decide) (cx_Hf (by decide) (cx_Hf (by decide) (cx_Hf (by decide) (cx_Hi (by decide) (a2.2 q).2.1))))), (a2.2 q).2.2⟩⟩, a3, a4, a5, a6, rfl, a8, (cx_Hf (by decide) (cx_Hf (by decide) (cx_Hf (by decide) (cx_Hf (by decide) (cx_Hi (by decide) a9)))))⟩, ⟨rfl, b2, b3, b4, hik2, b6⟩⟩
set_option maxHeartbeats 16000000 in
set_option maxRecDepth 100000 in
theorem lm_firm {K : gK} {G : gG} {yl : MethodName} {n mc ms co so pc index N : Nat} {lv : List (Nat × Value)} {st : List Value} {xx mm : Nat} {ws : va_W} {s im t jm : Int → Int} {tk uk stp : Int} {l ml : List Int} (hC : gC G K yl cL_law 4 n mc ms) (hn : 100 ≤ n) (hco : co ≤ mc ∧ so ≤ ms) (hst : (st.map fun v => v.category).sum ≤ 8) (hl : Cond.methodLink yl.cls index yX10_firm ∈ TB) (d : decode cL_law pc = .ok (.invokevirtual index, 3)) (p : Int) (w : Int) (r_p : rI p) (r_w : rI w) (h0 : LW K xx mm ws N s im tk l stp t jm uk ml) (hs9 : sg_ok t jm uk) (kk : ∀ ws2, LW K xx mm ws2 N s im tk l stp t jm uk ml → G co so (pc + 3) lv (.int (iI (an_firm (WSS t) (rcS t) t p w)) :: st) ws2) : G co so pc lv (.int (iI w) :: .int (iI p) :: .ref mm :: st) ws := by
  obtain ⟨ad, F, I, J, Z, hm, hv, rfl, ⟨rfl, rfl⟩, hhm, hF, hI, hZ, ⟨a1, a2, a3, a4, a5, a6, rfl, a8, a9⟩, ⟨rfl, b2, b3, b4, b5, b6⟩⟩ := h0
  have hg := hs9.1
  have hg1 := hg.1
  have hg2 := hg.2.1
  have h19 := hg1.2.2.1
  have h09 := hg.2.2.2.1
  have hTK := gs_TK hg
  obtain ⟨rA, rB, rC, rT⟩ := rs_iff.mp hg2
  refine g_callV (pc := pc) (qr := 71) hC [71, 72, 74, 75, 76, 77, 78] (k_X10_firm (ad 71) (ad 72) (ad 74) (ad 75) (ad 76) (ad 77) (ad 78) (.int (iI (I 37))) (.ref (ad 73)) (.int (iI (I 38))) (.int (iI (I 39))) (.int (iI (I 40))) (.int (iI (I 41))) (.int (iI (I 42))) (.int (iI (I 43))) (.ref (ad 79)) (.ref (ad 80)) (.ref (ad 81)) (.ref (ad 82)) (.int (iI (I 45))) (.ref (ad 83)) (.int (iI (I 46))) (.int (iI (J 3))) (.int (iI (J 4))) (.int (iI (J 5))) p w (I 44) (F 72) (F 74) (F 75) Z (F 77) (F 78) (WSS (F 72)) (rcS (F 72)) r_p r_w (hI _) (hF _) (hF _) (hF _) hZ (hF _) (hF _) hg1 (by omega) hg2 hTK b5) cl_X10_firm hl d rfl rfl rfl rfl rfl (by decide) (Nat.le_trans (by decide) hn) hco hst rfl (fun v9 w9 hq9 => ?_)
  obtain ⟨fr2, fb2, ft2, fu2, fn2, ik2, rfl, rfl, r_fr2, r_fb2, r_ft2, r_fu2, r_fn2, r_ik2, hik2⟩ := hq9
  refine g_ws hC (WXM K ad (upF (upF (upF (upF F 74 fr2) 75 fb2) 77 fu2) 78 fn2) (upJ I 44 ik2) J ft2 hm hv N) rfl ?_
  exact kk _ ⟨ad, (upF (upF (upF (upF F 74 fr2) 75 fb2) 77 fu2) 78 fn2), (upJ I 44 ik2), J, ft2, hm, hv, rfl, ⟨rfl, rfl⟩, hhm, (upF_r (upF_r (upF_r (upF_r hF r_fr2 74) r_fb2 75) r_fu2 77) r_fn2 78), (upJ_r hI r_ik2 44), r_ft2, ⟨a1, ⟨a2.1, fun q => ⟨(a2.2 q).1, (cx_Hf (by decide) (cx_Hf (by decide) (cx_Hf (by decide) (cx_Hf (by decide) (cx_Hi (by decide) (a2.2 q).2.1))))), (a2.2 q).2.2⟩⟩, a3, a4, a5, a6, rfl, a8, (cx_Hf (by decide) (cx_Hf (by decide) (cx_Hf (by decide) (cx_Hf (by decide) (cx_Hi (by decide) a9)))))⟩, ⟨rfl, b2, b3, b4, hik2, b6⟩⟩
set_option maxHeartbeats 16000000 in
set_option maxRecDepth 100000 in
theorem lm_odds {K : gK} {G : gG} {yl : MethodName} {n mc ms co so pc index N : Nat} {lv : List (Nat × Value)} {st : List Value} {xx mm : Nat} {ws : va_W} {s im t jm : Int → Int} {tk uk stp : Int} {l ml : List Int} (hC : gC G K yl cL_law 4 n mc ms) (hn : 100 ≤ n) (hco : co ≤ mc ∧ so ≤ ms) (hst : (st.map fun v => v.category).sum ≤ 8) (hl : Cond.methodLink yl.cls index yX10_odds ∈ TB) (d : decode cL_law pc = .ok (.invokevirtual index, 3)) (p : Int) (q : Int) (x : Int) (y : Int) (part : Int) (r_p : rI p) (r_q : rI q) (r_x : rI x) (r_y : rI y) (r_part : rI part) (h0 : LW K xx mm ws N s im tk l stp t jm uk ml) (hs9 : sg_ok t jm uk) (kk : ∀ ws2, LW K xx mm ws2 N s im tk l stp t jm uk ml → G co so (pc + 3) lv (.long (iL (an_odds (WSS t) (rcS t) t p q x y part)) :: st) ws2) : G co so pc lv (.int (iI part) :: .int (iI y) :: .int (iI x) :: .int (iI q) :: .int (iI p) :: .ref mm :: st) ws := by
  obtain ⟨ad, F, I, J, Z, hm, hv, rfl, ⟨rfl, rfl⟩, hhm, hF, hI, hZ, ⟨a1, a2, a3, a4, a5, a6, rfl, a8, a9⟩, ⟨rfl, b2, b3, b4, b5, b6⟩⟩ := h0
  have hg := hs9.1
  have hg1 := hg.1
  have hg2 := hg.2.1
  have h19 := hg1.2.2.1
  have h09 := hg.2.2.2.1
  have hTK := gs_TK hg
  obtain ⟨rA, rB, rC, rT⟩ := rs_iff.mp hg2
  refine g_callV (pc := pc) (qr := 71) hC [71, 72, 74, 75, 76, 77, 78] (k_X10_odds (ad 71) (ad 72) (ad 74) (ad 75) (ad 76) (ad 77) (ad 78) (.int (iI (I 37))) (.ref (ad 73)) (.int (iI (I 38))) (.int (iI (I 39))) (.int (iI (I 40))) (.int (iI (I 41))) (.int (iI (I 42))) (.int (iI (I 43))) (.ref (ad 79)) (.ref (ad 80)) (.ref (ad 81)) (.ref (ad 82)) (.int (iI (I 45))) (.ref (ad 83)) (.int (iI (I 46))) (.int (iI (J 3))) (.int (iI (J 4))) (.int (iI (J 5))) p q x y part (I 44) (F 72) (F 74) (F 75) Z (F 77) (F 78) (WSS (F 72)) (rcS (F 72)) r_p r_q r_x r_y r_part (hI _) (hF _) (hF _) (hF _) hZ (hF _) (hF _) hg1 (by omega) hTK b5) cl_X10_odds hl d rfl rfl rfl rfl rfl (by decide) (Nat.le_trans (by decide) hn) hco hst rfl (fun v9 w9 hq9 => ?_)
  obtain ⟨fr2, fb2, ft2, fu2, fn2, ik2, rfl, rfl, r_fr2, r_fb2, r_ft2, r_fu2, r_fn2, r_ik2, hik2⟩ := hq9
  refine g_ws hC (WXM K ad (upF (upF (upF (upF F 74 fr2) 75 fb2) 77 fu2) 78 fn2) (upJ I 44 ik2) J ft2 hm hv N) rfl ?_
  exact kk _ ⟨ad, (upF (upF (upF (upF F 74 fr2) 75 fb2) 77 fu2) 78 fn2), (upJ I 44 ik2), J, ft2, hm, hv, rfl, ⟨rfl, rfl⟩, hhm, (upF_r (upF_r (upF_r (upF_r hF r_fr2 74) r_fb2 75) r_fu2 77) r_fn2 78), (upJ_r hI r_ik2 44), r_ft2, ⟨a1, ⟨a2.1, fun q => ⟨(a2.2 q).1, (cx_Hf (by decide) (cx_Hf (by decide) (cx_Hf (by decide) (cx_Hf (by decide) (cx_Hi (by decide) (a2.2 q).2.1))))), (a2.2 q).2.2⟩⟩, a3, a4, a5, a6, rfl, a8, (cx_Hf (by decide) (cx_Hf (by decide) (cx_Hf (by decide) (cx_Hf (by decide) (cx_Hi (by decide) a9)))))⟩, ⟨rfl, b2, b3, b4, hik2, b6⟩⟩
set_option maxHeartbeats 16000000 in
set_option maxRecDepth 100000 in
theorem lm_done {K : gK} {G : gG} {yl : MethodName} {n mc ms co so pc index N : Nat} {lv : List (Nat × Value)} {st : List Value} {xx mm : Nat} {ws : va_W} {s im t jm : Int → Int} {tk uk stp : Int} {l ml : List Int} (hC : gC G K yl cL_law 4 n mc ms) (hn : 100 ≤ n) (hco : co ≤ mc ∧ so ≤ ms) (hst : (st.map fun v => v.category).sum ≤ 8) (hl : Cond.methodLink yl.cls index yX10_done ∈ TB) (d : decode cL_law pc = .ok (.invokevirtual index, 3)) (w : Int) (r_w : rI w) (h0 : LW K xx mm ws N s im tk l stp t jm uk ml) (hs9 : sg_ok t jm uk) (kk : ∀ ws2, LW K xx mm ws2 N s im tk l stp t jm uk ml → G co so (pc + 3) lv (.int (iI (an_done (WSS t) (rcS t) t w)) :: st) ws2) : G co so pc lv (.int (iI w) :: .ref mm :: st) ws := by
  obtain ⟨ad, F, I, J, Z, hm, hv, rfl, ⟨rfl, rfl⟩, hhm, hF, hI, hZ, ⟨a1, a2, a3, a4, a5, a6, rfl, a8, a9⟩, ⟨rfl, b2, b3, b4, b5, b6⟩⟩ := h0
  have hg := hs9.1
  have hg1 := hg.1
  have hg2 := hg.2.1
  have h19 := hg1.2.2.1
  have h09 := hg.2.2.2.1
  have hTK := gs_TK hg
  obtain ⟨rA, rB, rC, rT⟩ := rs_iff.mp hg2
  refine g_callV (pc := pc) (qr := 71) hC [71, 72, 74, 75, 76, 77, 78] (k_X10_done (ad 71) (ad 72) (ad 74) (ad 75) (ad 76) (ad 77) (ad 78) (.int (iI (I 37))) (.ref (ad 73)) (.int (iI (I 38))) (.int (iI (I 39))) (.int (iI (I 40))) (.int (iI (I 41))) (.int (iI (I 42))) (.int (iI (I 43))) (.ref (ad 79)) (.ref (ad 80)) (.ref (ad 81)) (.ref (ad 82)) (.int (iI (I 45))) (.ref (ad 83)) (.int (iI (I 46))) (.int (iI (J 3))) (.int (iI (J 4))) (.int (iI (J 5))) w (I 44) (F 72) (F 74) (F 75) Z (F 77) (F 78) (WSS (F 72)) (rcS (F 72)) r_w (hI _) (hF _) (hF _) (hF _) hZ (hF _) (hF _) hg1 (by omega) hg2 hTK (Or.inl b5)) cl_X10_done hl d rfl rfl rfl rfl rfl (by decide) (Nat.le_trans (by decide) hn) hco hst rfl (fun v9 w9 hq9 => ?_)
  obtain ⟨fr2, fb2, ft2, fu2, fn2, rfl, rfl, r_fr2, r_fb2, r_ft2, r_fu2, r_fn2, hk2⟩ := hq9
  refine g_ws hC (WXM K ad (upF (upF (upF (upF F 74 fr2) 75 fb2) 77 fu2) 78 fn2) I J ft2 hm hv N) rfl ?_
  exact kk _ ⟨ad, (upF (upF (upF (upF F 74 fr2) 75 fb2) 77 fu2) 78 fn2), I, J, ft2, hm, hv, rfl, ⟨rfl, rfl⟩, hhm, (upF_r (upF_r (upF_r (upF_r hF r_fr2 74) r_fb2 75) r_fu2 77) r_fn2 78), hI, r_ft2, ⟨a1, ⟨a2.1, fun q => ⟨(a2.2 q).1, (cx_Hf (by decide) (cx_Hf (by decide) (cx_Hf (by decide) (cx_Hf (by decide) (a2.2 q).2.1)))), (a2.2 q).2.2⟩⟩, a3, a4, a5, a6, rfl, a8, (cx_Hf (by decide) (cx_Hf (by decide) (cx_Hf (by decide) (cx_Hf (by decide) a9))))⟩, ⟨rfl, b2, b3, b4, b5, b6⟩⟩
set_option maxHeartbeats 16000000 in
set_option maxRecDepth 100000 in
theorem lm_looked {K : gK} {G : gG} {yl : MethodName} {n mc ms co so pc index N : Nat} {lv : List (Nat × Value)} {st : List Value} {xx mm : Nat} {ws : va_W} {s im t jm : Int → Int} {tk uk stp : Int} {l ml : List Int} (hC : gC G K yl cL_law 4 n mc ms) (hn : 100 ≤ n) (hco : co ≤ mc ∧ so ≤ ms) (hst : (st.map fun v => v.category).sum ≤ 8) (hl : Cond.methodLink yl.cls index yX10_looked ∈ TB) (d : decode cL_law pc = .ok (.invokevirtual index, 3)) (h0 : LW K xx mm ws N s im tk l stp t jm uk ml) (hs9 : sg_ok t jm uk) (kk : G co so (pc + 3) lv (.int (iI (an_looked t)) :: st) ws) : G co so pc lv (.ref mm :: st) ws := by
  obtain ⟨ad, F, I, J, Z, hm, hv, rfl, ⟨rfl, rfl⟩, hhm, hF, hI, hZ, ⟨a1, a2, a3, a4, a5, a6, rfl, a8, a9⟩, ⟨rfl, b2, b3, b4, b5, b6⟩⟩ := h0
  have hg := hs9.1
  have hg1 := hg.1
  have hg2 := hg.2.1
  have h19 := hg1.2.2.1
  have h09 := hg.2.2.2.1
  have hTK := gs_TK hg
  obtain ⟨rA, rB, rC, rT⟩ := rs_iff.mp hg2
  refine g_fnV (pc := pc) (qr := 71) hC [71, 72] (k_X10_looked (ad 71) (ad 72) (.int (iI (I 37))) (.ref (ad 73)) (.ref (ad 74)) (.int (iI (I 38))) (.int (iI (I 39))) (.int (iI (I 40))) (.int (iI (I 41))) (.int (iI (I 42))) (.int (iI (I 43))) (.ref (ad 75)) (.ref (ad 76)) (.ref (ad 77)) (.int (iI (I 44))) (.ref (ad 78)) (.ref (ad 79)) (.ref (ad 80)) (.ref (ad 81)) (.ref (ad 82)) (.int (iI (I 45))) (.ref (ad 83)) (.int (iI (I 46))) (.int (iI (J 3))) (.int (iI (J 4))) (.int (iI (J 5))) (F 72) (hF _) hg1 hg2) cl_X10_looked hl d rfl rfl rfl rfl rfl (by decide) (Nat.le_trans (by decide) hn) hco hst rfl rfl ?_
  exact kk
set_option maxHeartbeats 16000000 in
set_option maxRecDepth 100000 in
theorem lm_as {K : gK} {G : gG} {yl : MethodName} {n mc ms co so pc index N : Nat} {lv : List (Nat × Value)} {st : List Value} {xx mm : Nat} {ws : va_W} {s im t jm : Int → Int} {tk uk stp : Int} {l ml : List Int} (hC : gC G K yl cL_law 4 n mc ms) (hn : 100 ≤ n) (hco : co ≤ mc ∧ so ≤ ms) (hst : (st.map fun v => v.category).sum ≤ 8) (hl : Cond.methodLink yl.cls index yX10_as ∈ TB) (d : decode cL_law pc = .ok (.invokevirtual index, 3)) (p : Int) (k : Int) (r_p : rI p) (r_k : rI k) (h0 : LW K xx mm ws N s im tk l stp t jm uk ml) (hs9 : sg_ok t jm uk) (kk : G co so (pc + 3) lv (.int (iI (an_as t p k)) :: st) ws) : G co so pc lv (.int (iI k) :: .int (iI p) :: .ref mm :: st) ws := by
  obtain ⟨ad, F, I, J, Z, hm, hv, rfl, ⟨rfl, rfl⟩, hhm, hF, hI, hZ, ⟨a1, a2, a3, a4, a5, a6, rfl, a8, a9⟩, ⟨rfl, b2, b3, b4, b5, b6⟩⟩ := h0
  have hg := hs9.1
  have hg1 := hg.1
  have hg2 := hg.2.1
  have h19 := hg1.2.2.1
  have h09 := hg.2.2.2.1
  have hTK := gs_TK hg
  obtain ⟨rA, rB, rC, rT⟩ := rs_iff.mp hg2
  refine g_fnV (pc := pc) (qr := 71) hC [71, 72] (k_X10_as (ad 71) (ad 72) (.int (iI (I 37))) (.ref (ad 73)) (.ref (ad 74)) (.int (iI (I 38))) (.int (iI (I 39))) (.int (iI (I 40))) (.int (iI (I 41))) (.int (iI (I 42))) (.int (iI (I 43))) (.ref (ad 75)) (.ref (ad 76)) (.ref (ad 77)) (.int (iI (I 44))) (.ref (ad 78)) (.ref (ad 79)) (.ref (ad 80)) (.ref (ad 81)) (.ref (ad 82)) (.int (iI (I 45))) (.ref (ad 83)) (.int (iI (I 46))) (.int (iI (J 3))) (.int (iI (J 4))) (.int (iI (J 5))) p k (F 72) r_p r_k (hF _) hg1) cl_X10_as hl d rfl rfl rfl rfl rfl (by decide) (Nat.le_trans (by decide) hn) hco hst rfl rfl ?_
  exact kk
set_option maxHeartbeats 16000000 in
set_option maxRecDepth 100000 in
theorem lm_trace {K : gK} {G : gG} {yl : MethodName} {n mc ms co so pc index N : Nat} {lv : List (Nat × Value)} {st : List Value} {xx mm : Nat} {ws : va_W} {s im t jm : Int → Int} {tk uk stp : Int} {l ml : List Int} (hC : gC G K yl cL_law 4 n mc ms) (hn : 100 ≤ n) (hco : co ≤ mc ∧ so ≤ ms) (hst : (st.map fun v => v.category).sum ≤ 8) (hl : Cond.methodLink yl.cls index yX10_trace ∈ TB) (d : decode cL_law pc = .ok (.invokevirtual index, 3)) (i : Int) (r_i : rI i) (h0 : LW K xx mm ws N s im tk l stp t jm uk ml) (hs9 : sg_ok t jm uk) (kk : G co so (pc + 3) lv (.int (iI (an_trace ml i)) :: st) ws) : G co so pc lv (.int (iI i) :: .ref mm :: st) ws := by
  obtain ⟨ad, F, I, J, Z, hm, hv, rfl, ⟨rfl, rfl⟩, hhm, hF, hI, hZ, ⟨a1, a2, a3, a4, a5, a6, rfl, a8, a9⟩, ⟨rfl, b2, b3, b4, b5, b6⟩⟩ := h0
  have hg := hs9.1
  have hg1 := hg.1
  have hg2 := hg.2.1
  have h19 := hg1.2.2.1
  have h09 := hg.2.2.2.1
  have hTK := gs_TK hg
  obtain ⟨rA, rB, rC, rT⟩ := rs_iff.mp hg2
  refine g_fnV (pc := pc) (qr := 71) hC [71, 83] (k_X10_trace (ad 71) (ad 83) (.int (iI (I 37))) (.ref (ad 72)) (.ref (ad 73)) (.ref (ad 74)) (.int (iI (I 38))) (.int (iI (I 39))) (.int (iI (I 40))) (.int (iI (I 41))) (.int (iI (I 42))) (.int (iI (I 43))) (.ref (ad 75)) (.ref (ad 76)) (.ref (ad 77)) (.int (iI (I 44))) (.ref (ad 78)) (.ref (ad 79)) (.ref (ad 80)) (.ref (ad 81)) (.ref (ad 82)) (.int (iI (I 45))) (.int (iI (J 3))) (.int (iI (J 4))) (.int (iI (J 5))) i (I 46) (F 83) r_i (hI _) (hF _) (by have := b4.1; omega)) cl_X10_trace hl d rfl rfl rfl rfl rfl (by decide) (Nat.le_trans (by decide) hn) hco hst rfl rfl ?_
  rw [tr_an b4]
  exact kk
set_option maxHeartbeats 16000000 in
set_option maxRecDepth 100000 in
theorem lm_count {K : gK} {G : gG} {yl : MethodName} {n mc ms co so pc index N : Nat} {lv : List (Nat × Value)} {st : List Value} {xx mm : Nat} {ws : va_W} {s im t jm : Int → Int} {tk uk stp : Int} {l ml : List Int} (hC : gC G K yl cL_law 4 n mc ms) (hn : 100 ≤ n) (hco : co ≤ mc ∧ so ≤ ms) (hst : (st.map fun v => v.category).sum ≤ 8) (hl : Cond.methodLink yl.cls index yX10_count ∈ TB) (d : decode cL_law pc = .ok (.invokevirtual index, 3)) (w : Int) (r_w : rI w) (h0 : LW K xx mm ws N s im tk l stp t jm uk ml) (hs9 : sg_ok t jm uk) (kk : G co so (pc + 3) lv (.int (iI (if w = 6 then (ml.length : Int) else if 0 ≤ w ∧ w ≤ 5 then t (19 + w) else -1)) :: st) ws) : G co so pc lv (.int (iI w) :: .ref mm :: st) ws := by
  obtain ⟨ad, F, I, J, Z, hm, hv, rfl, ⟨rfl, rfl⟩, hhm, hF, hI, hZ, ⟨a1, a2, a3, a4, a5, a6, rfl, a8, a9⟩, ⟨rfl, b2, b3, b4, b5, b6⟩⟩ := h0
  have hg := hs9.1
  have hg1 := hg.1
  have hg2 := hg.2.1
  have h19 := hg1.2.2.1
  have h09 := hg.2.2.2.1
  have hTK := gs_TK hg
  obtain ⟨rA, rB, rC, rT⟩ := rs_iff.mp hg2
  refine g_fnV (pc := pc) (qr := 71) hC [71, 72] (k_X10_count (ad 71) (ad 72) (.int (iI (I 37))) (.ref (ad 73)) (.ref (ad 74)) (.int (iI (I 38))) (.int (iI (I 39))) (.int (iI (I 40))) (.int (iI (I 41))) (.int (iI (I 42))) (.int (iI (I 43))) (.ref (ad 75)) (.ref (ad 76)) (.ref (ad 77)) (.int (iI (I 44))) (.ref (ad 78)) (.ref (ad 79)) (.ref (ad 80)) (.ref (ad 81)) (.ref (ad 82)) (.int (iI (I 45))) (.ref (ad 83)) (.int (iI (J 3))) (.int (iI (J 4))) (.int (iI (J 5))) w (I 46) (F 72) r_w (hI _) (hF _)) cl_X10_count hl d rfl rfl rfl rfl rfl (by decide) (Nat.le_trans (by decide) hn) hco hst rfl rfl ?_
  rw [b4.1.1]
  exact kk
set_option maxHeartbeats 16000000 in
set_option maxRecDepth 100000 in
theorem lm_mean {K : gK} {G : gG} {yl : MethodName} {n mc ms co so pc index N : Nat} {lv : List (Nat × Value)} {st : List Value} {xx mm : Nat} {ws : va_W} {s im t jm : Int → Int} {tk uk stp : Int} {l ml : List Int} (hC : gC G K yl cL_law 4 n mc ms) (hn : 100 ≤ n) (hco : co ≤ mc ∧ so ≤ ms) (hst : (st.map fun v => v.category).sum ≤ 8) (hl : Cond.methodLink yl.cls index yX10_mean ∈ TB) (d : decode cL_law pc = .ok (.invokevirtual index, 3)) (part : Int) (r_part : rI part) (h0 : LW K xx mm ws N s im tk l stp t jm uk ml) (hs9 : sg_ok t jm uk) (kk : G co so (pc + 3) lv (.long (iL (an_mean t part)) :: st) ws) : G co so pc lv (.int (iI part) :: .ref mm :: st) ws := by
  obtain ⟨ad, F, I, J, Z, hm, hv, rfl, ⟨rfl, rfl⟩, hhm, hF, hI, hZ, ⟨a1, a2, a3, a4, a5, a6, rfl, a8, a9⟩, ⟨rfl, b2, b3, b4, b5, b6⟩⟩ := h0
  have hg := hs9.1
  have hg1 := hg.1
  have hg2 := hg.2.1
  have h19 := hg1.2.2.1
  have h09 := hg.2.2.2.1
  have hTK := gs_TK hg
  obtain ⟨rA, rB, rC, rT⟩ := rs_iff.mp hg2
  refine g_callV (pc := pc) (qr := 71) hC [71, 72] (k_X10_mean (ad 71) (ad 72) (.int (iI (I 37))) (.ref (ad 73)) (.ref (ad 74)) (.int (iI (I 38))) (.int (iI (I 39))) (.int (iI (I 40))) (.int (iI (I 41))) (.int (iI (I 42))) (.int (iI (I 43))) (.ref (ad 75)) (.ref (ad 76)) (.ref (ad 77)) (.int (iI (I 44))) (.ref (ad 78)) (.ref (ad 79)) (.ref (ad 80)) (.ref (ad 81)) (.ref (ad 82)) (.int (iI (I 45))) (.ref (ad 83)) (.int (iI (I 46))) (.int (iI (J 3))) (.int (iI (J 4))) (.int (iI (J 5))) part (F 72) r_part (hF _) hg1) cl_X10_mean hl d rfl rfl rfl rfl rfl (by decide) (Nat.le_trans (by decide) hn) hco hst rfl (fun v9 w9 hq9 => ?_)
  obtain ⟨rfl, rfl⟩ := hq9
  exact kk
set_option maxHeartbeats 16000000 in
set_option maxRecDepth 100000 in
theorem lm_feed {K : gK} {G : gG} {yl : MethodName} {n mc ms co so pc index N : Nat} {lv : List (Nat × Value)} {st : List Value} {xx mm : Nat} {ws : va_W} {s im t jm : Int → Int} {tk uk stp : Int} {l ml : List Int} (hC : gC G K yl cL_law 4 n mc ms) (hn : 100 ≤ n) (hco : co ≤ mc ∧ so ≤ ms) (hst : (st.map fun v => v.category).sum ≤ 8) (hl : Cond.methodLink yl.cls index yX10_feed ∈ TB) (d : decode cL_law pc = .ok (.invokevirtual index, 3)) (g : Int) (r_g : rI g) (h0 : LW K xx mm ws N s im tk l stp t jm uk ml) (hs9 : sg_ok t jm uk) (kk : ∀ ws2, LW K xx mm ws2 N s im tk l stp (ne_feed t g) jm uk ml → G co so (pc + 3) lv (.int (iI (an_feed t g)) :: st) ws2) : G co so pc lv (.int (iI g) :: .ref mm :: st) ws := by
  obtain ⟨ad, F, I, J, Z, hm, hv, rfl, ⟨rfl, rfl⟩, hhm, hF, hI, hZ, ⟨a1, a2, a3, a4, a5, a6, rfl, a8, a9⟩, ⟨rfl, b2, b3, b4, b5, b6⟩⟩ := h0
  have hg := hs9.1
  have hg1 := hg.1
  have hg2 := hg.2.1
  have h19 := hg1.2.2.1
  have h09 := hg.2.2.2.1
  have hTK := gs_TK hg
  obtain ⟨rA, rB, rC, rT⟩ := rs_iff.mp hg2
  refine g_callV (pc := pc) (qr := 71) hC [71, 72] (k_X10_feed (ad 71) (ad 72) (.int (iI (I 37))) (.ref (ad 73)) (.ref (ad 74)) (.int (iI (I 38))) (.int (iI (I 39))) (.int (iI (I 40))) (.int (iI (I 41))) (.int (iI (I 42))) (.int (iI (I 43))) (.ref (ad 75)) (.ref (ad 76)) (.ref (ad 77)) (.int (iI (I 44))) (.ref (ad 78)) (.ref (ad 79)) (.ref (ad 80)) (.ref (ad 81)) (.ref (ad 82)) (.int (iI (I 45))) (.ref (ad 83)) (.int (iI (I 46))) (.int (iI (J 3))) (.int (iI (J 4))) (.int (iI (J 5))) g (F 72) r_g (hF _) rT) cl_X10_feed hl d rfl rfl rfl rfl rfl (by decide) (Nat.le_trans (by decide) hn) hco hst rfl (fun v9 w9 hq9 => ?_)
  obtain ⟨s5, rfl, rfl, r_s5, hs5⟩ := hq9
  refine g_ws hC (WXM K ad (upF F 72 s5) I J Z hm hv N) rfl ?_
  exact kk _ ⟨ad, (upF F 72 s5), I, J, Z, hm, hv, rfl, ⟨rfl, rfl⟩, hhm, (upF_r hF r_s5 72), hI, hZ, ⟨a1, ⟨a2.1, fun q => ⟨(a2.2 q).1, (cx_Hf (by decide) (a2.2 q).2.1), (a2.2 q).2.2⟩⟩, a3, a4, a5, a6, rfl, a8, (cx_Hf (by decide) a9)⟩, ⟨hs5, b2, b3, b4, b5, b6⟩⟩
set_option maxHeartbeats 16000000 in
set_option maxRecDepth 100000 in
theorem lm_man {K : gK} {G : gG} {yl : MethodName} {n mc ms co so pc index N : Nat} {lv : List (Nat × Value)} {st : List Value} {xx mm : Nat} {ws : va_W} {s im t jm : Int → Int} {tk uk stp : Int} {l ml : List Int} (hC : gC G K yl cL_law 4 n mc ms) (hn : 100 ≤ n) (hco : co ≤ mc ∧ so ≤ ms) (hst : (st.map fun v => v.category).sum ≤ 8) (hl : Cond.methodLink yl.cls index yX10_man ∈ TB) (d : decode cL_law pc = .ok (.invokevirtual index, 3)) (kind : Int) (v : Int) (room : Int) (x : Int) (r_kind : rI kind) (r_v : rI v) (r_room : rI room) (r_x : rI x) (h0 : LW K xx mm ws N s im tk l stp t jm uk ml) (hs9 : sg_ok t jm uk) (kk : ∀ ws2, LW K xx mm ws2 N s im tk l stp (ne_man t kind v room x) jm uk ml → G co so (pc + 3) lv (.int (iI (an_man t kind v room x)) :: st) ws2) : G co so pc lv (.int (iI x) :: .int (iI room) :: .int (iI v) :: .int (iI kind) :: .ref mm :: st) ws := by
  obtain ⟨ad, F, I, J, Z, hm, hv, rfl, ⟨rfl, rfl⟩, hhm, hF, hI, hZ, ⟨a1, a2, a3, a4, a5, a6, rfl, a8, a9⟩, ⟨rfl, b2, b3, b4, b5, b6⟩⟩ := h0
  have hg := hs9.1
  have hg1 := hg.1
  have hg2 := hg.2.1
  have h19 := hg1.2.2.1
  have h09 := hg.2.2.2.1
  have hTK := gs_TK hg
  obtain ⟨rA, rB, rC, rT⟩ := rs_iff.mp hg2
  refine g_callV (pc := pc) (qr := 71) hC [71, 72] (k_X10_man (ad 71) (ad 72) (.int (iI (I 37))) (.ref (ad 73)) (.ref (ad 74)) (.int (iI (I 38))) (.int (iI (I 39))) (.int (iI (I 40))) (.int (iI (I 41))) (.int (iI (I 42))) (.int (iI (I 43))) (.ref (ad 75)) (.ref (ad 76)) (.ref (ad 77)) (.int (iI (I 44))) (.ref (ad 78)) (.ref (ad 79)) (.ref (ad 80)) (.ref (ad 81)) (.ref (ad 82)) (.int (iI (I 45))) (.ref (ad 83)) (.int (iI (I 46))) (.int (iI (J 3))) (.int (iI (J 4))) (.int (iI (J 5))) kind v room x (F 72) r_kind r_v r_room r_x (hF _) hg1) cl_X10_man hl d rfl rfl rfl rfl rfl (by decide) (Nat.le_trans (by decide) hn) hco hst rfl (fun v9 w9 hq9 => ?_)
  obtain ⟨s5, rfl, rfl, r_s5, hs5⟩ := hq9
  refine g_ws hC (WXM K ad (upF F 72 s5) I J Z hm hv N) rfl ?_
  exact kk _ ⟨ad, (upF F 72 s5), I, J, Z, hm, hv, rfl, ⟨rfl, rfl⟩, hhm, (upF_r hF r_s5 72), hI, hZ, ⟨a1, ⟨a2.1, fun q => ⟨(a2.2 q).1, (cx_Hf (by decide) (a2.2 q).2.1), (a2.2 q).2.2⟩⟩, a3, a4, a5, a6, rfl, a8, (cx_Hf (by decide) a9)⟩, ⟨hs5, b2, b3, b4, b5, b6⟩⟩
set_option maxHeartbeats 16000000 in
set_option maxRecDepth 100000 in
theorem lm_row {K : gK} {G : gG} {yl : MethodName} {n mc ms co so pc index N : Nat} {lv : List (Nat × Value)} {st : List Value} {xx mm : Nat} {ws : va_W} {s im t jm : Int → Int} {tk uk stp : Int} {l ml : List Int} (hC : gC G K yl cL_law 4 n mc ms) (hn : 100 ≤ n) (hco : co ≤ mc ∧ so ≤ ms) (hst : (st.map fun v => v.category).sum ≤ 8) (hl : Cond.methodLink yl.cls index yX10_row ∈ TB) (d : decode cL_law pc = .ok (.invokevirtual index, 3)) (p : Int) (k : Int) (x : Int) (r_p : rI p) (r_k : rI k) (r_x : rI x) (h0 : LW K xx mm ws N s im tk l stp t jm uk ml) (hs9 : sg_ok t jm uk) (kk : ∀ ws2, LW K xx mm ws2 N s im tk l stp (ne_row t p k x) jm uk ml → G co so (pc + 3) lv (.int (iI (an_row t p k x)) :: st) ws2) : G co so pc lv (.int (iI x) :: .int (iI k) :: .int (iI p) :: .ref mm :: st) ws := by
  obtain ⟨ad, F, I, J, Z, hm, hv, rfl, ⟨rfl, rfl⟩, hhm, hF, hI, hZ, ⟨a1, a2, a3, a4, a5, a6, rfl, a8, a9⟩, ⟨rfl, b2, b3, b4, b5, b6⟩⟩ := h0
  have hg := hs9.1
  have hg1 := hg.1
  have hg2 := hg.2.1
  have h19 := hg1.2.2.1
  have h09 := hg.2.2.2.1
  have hTK := gs_TK hg
  obtain ⟨rA, rB, rC, rT⟩ := rs_iff.mp hg2
  refine g_callV (pc := pc) (qr := 71) hC [71, 72] (k_X10_row (ad 71) (ad 72) (.int (iI (I 37))) (.ref (ad 73)) (.ref (ad 74)) (.int (iI (I 38))) (.int (iI (I 39))) (.int (iI (I 40))) (.int (iI (I 41))) (.int (iI (I 42))) (.int (iI (I 43))) (.ref (ad 75)) (.ref (ad 76)) (.ref (ad 77)) (.int (iI (I 44))) (.ref (ad 78)) (.ref (ad 79)) (.ref (ad 80)) (.ref (ad 81)) (.ref (ad 82)) (.int (iI (I 45))) (.ref (ad 83)) (.int (iI (I 46))) (.int (iI (J 3))) (.int (iI (J 4))) (.int (iI (J 5))) p k x (F 72) r_p r_k r_x (hF _) hg1) cl_X10_row hl d rfl rfl rfl rfl rfl (by decide) (Nat.le_trans (by decide) hn) hco hst rfl (fun v9 w9 hq9 => ?_)
  obtain ⟨s5, rfl, rfl, r_s5, hs5⟩ := hq9
  refine g_ws hC (WXM K ad (upF F 72 s5) I J Z hm hv N) rfl ?_
  exact kk _ ⟨ad, (upF F 72 s5), I, J, Z, hm, hv, rfl, ⟨rfl, rfl⟩, hhm, (upF_r hF r_s5 72), hI, hZ, ⟨a1, ⟨a2.1, fun q => ⟨(a2.2 q).1, (cx_Hf (by decide) (a2.2 q).2.1), (a2.2 q).2.2⟩⟩, a3, a4, a5, a6, rfl, a8, (cx_Hf (by decide) a9)⟩, ⟨hs5, b2, b3, b4, b5, b6⟩⟩
set_option maxHeartbeats 16000000 in
set_option maxRecDepth 100000 in
theorem lm_set {K : gK} {G : gG} {yl : MethodName} {n mc ms co so pc index N : Nat} {lv : List (Nat × Value)} {st : List Value} {xx mm : Nat} {ws : va_W} {s im t jm : Int → Int} {tk uk stp : Int} {l ml : List Int} (hC : gC G K yl cL_law 4 n mc ms) (hn : 100 ≤ n) (hco : co ≤ mc ∧ so ≤ ms) (hst : (st.map fun v => v.category).sum ≤ 8) (hl : Cond.methodLink yl.cls index yX10_set ∈ TB) (d : decode cL_law pc = .ok (.invokevirtual index, 3)) (p : Int) (w : Int) (x : Int) (r_p : rI p) (r_w : rI w) (r_x : rI x) (h0 : LW K xx mm ws N s im tk l stp t jm uk ml) (hs9 : sg_ok t jm uk) (kk : ∀ ws2, LW K xx mm ws2 N s im tk l stp (ne_set t p w x) jm uk ml → G co so (pc + 3) lv (.int (iI (an_set t p w x)) :: st) ws2) : G co so pc lv (.int (iI x) :: .int (iI w) :: .int (iI p) :: .ref mm :: st) ws := by
  obtain ⟨ad, F, I, J, Z, hm, hv, rfl, ⟨rfl, rfl⟩, hhm, hF, hI, hZ, ⟨a1, a2, a3, a4, a5, a6, rfl, a8, a9⟩, ⟨rfl, b2, b3, b4, b5, b6⟩⟩ := h0
  have hg := hs9.1
  have hg1 := hg.1
  have hg2 := hg.2.1
  have h19 := hg1.2.2.1
  have h09 := hg.2.2.2.1
  have hTK := gs_TK hg
  obtain ⟨rA, rB, rC, rT⟩ := rs_iff.mp hg2
  refine g_callV (pc := pc) (qr := 71) hC [71, 72] (k_X10_set (ad 71) (ad 72) (.int (iI (I 37))) (.ref (ad 73)) (.ref (ad 74)) (.int (iI (I 38))) (.int (iI (I 39))) (.int (iI (I 40))) (.int (iI (I 41))) (.int (iI (I 42))) (.int (iI (I 43))) (.ref (ad 75)) (.ref (ad 76)) (.ref (ad 77)) (.int (iI (I 44))) (.ref (ad 78)) (.ref (ad 79)) (.ref (ad 80)) (.ref (ad 81)) (.ref (ad 82)) (.int (iI (I 45))) (.ref (ad 83)) (.int (iI (I 46))) (.int (iI (J 3))) (.int (iI (J 4))) (.int (iI (J 5))) p w x (F 72) r_p r_w r_x (hF _) hg1) cl_X10_set hl d rfl rfl rfl rfl rfl (by decide) (Nat.le_trans (by decide) hn) hco hst rfl (fun v9 w9 hq9 => ?_)
  obtain ⟨s5, rfl, rfl, r_s5, hs5⟩ := hq9
  refine g_ws hC (WXM K ad (upF F 72 s5) I J Z hm hv N) rfl ?_
  exact kk _ ⟨ad, (upF F 72 s5), I, J, Z, hm, hv, rfl, ⟨rfl, rfl⟩, hhm, (upF_r hF r_s5 72), hI, hZ, ⟨a1, ⟨a2.1, fun q => ⟨(a2.2 q).1, (cx_Hf (by decide) (a2.2 q).2.1), (a2.2 q).2.2⟩⟩, a3, a4, a5, a6, rfl, a8, (cx_Hf (by decide) a9)⟩, ⟨hs5, b2, b3, b4, b5, b6⟩⟩
set_option maxHeartbeats 16000000 in
set_option maxRecDepth 100000 in
theorem lm_away {K : gK} {G : gG} {yl : MethodName} {n mc ms co so pc index N : Nat} {lv : List (Nat × Value)} {st : List Value} {xx mm : Nat} {ws : va_W} {s im t jm : Int → Int} {tk uk stp : Int} {l ml : List Int} (hC : gC G K yl cL_law 4 n mc ms) (hn : 100 ≤ n) (hco : co ≤ mc ∧ so ≤ ms) (hst : (st.map fun v => v.category).sum ≤ 8) (hl : Cond.methodLink yl.cls index yX10_away ∈ TB) (d : decode cL_law pc = .ok (.invokevirtual index, 3)) (p : Int) (z : Int) (r_p : rI p) (r_z : rI z) (h0 : LW K xx mm ws N s im tk l stp t jm uk ml) (hs9 : sg_ok t jm uk) (hz : z = 0 ∨ z = 1) (kk : ∀ ws2, LW K xx mm ws2 N s im tk l stp (ne_away t p z) jm uk ml → G co so (pc + 3) lv (.int (iI (an_away t p)) :: st) ws2) : G co so pc lv (.int (iI z) :: .int (iI p) :: .ref mm :: st) ws := by
  obtain ⟨ad, F, I, J, Z, hm, hv, rfl, ⟨rfl, rfl⟩, hhm, hF, hI, hZ, ⟨a1, a2, a3, a4, a5, a6, rfl, a8, a9⟩, ⟨rfl, b2, b3, b4, b5, b6⟩⟩ := h0
  have hg := hs9.1
  have hg1 := hg.1
  have hg2 := hg.2.1
  have h19 := hg1.2.2.1
  have h09 := hg.2.2.2.1
  have hTK := gs_TK hg
  obtain ⟨rA, rB, rC, rT⟩ := rs_iff.mp hg2
  refine g_callV (pc := pc) (qr := 71) hC [71, 72] (k_X10_away (ad 71) (ad 72) (.int (iI (I 37))) (.ref (ad 73)) (.ref (ad 74)) (.int (iI (I 38))) (.int (iI (I 39))) (.int (iI (I 40))) (.int (iI (I 41))) (.int (iI (I 42))) (.int (iI (I 43))) (.ref (ad 75)) (.ref (ad 76)) (.ref (ad 77)) (.int (iI (I 44))) (.ref (ad 78)) (.ref (ad 79)) (.ref (ad 80)) (.ref (ad 81)) (.ref (ad 82)) (.int (iI (I 45))) (.ref (ad 83)) (.int (iI (I 46))) (.int (iI (J 3))) (.int (iI (J 4))) (.int (iI (J 5))) p z (F 72) r_p r_z (hF _) hg1 hz) cl_X10_away hl d rfl rfl rfl rfl rfl (by decide) (Nat.le_trans (by decide) hn) hco hst rfl (fun v9 w9 hq9 => ?_)
  obtain ⟨s5, rfl, rfl, r_s5, hs5⟩ := hq9
  refine g_ws hC (WXM K ad (upF F 72 s5) I J Z hm hv N) rfl ?_
  exact kk _ ⟨ad, (upF F 72 s5), I, J, Z, hm, hv, rfl, ⟨rfl, rfl⟩, hhm, (upF_r hF r_s5 72), hI, hZ, ⟨a1, ⟨a2.1, fun q => ⟨(a2.2 q).1, (cx_Hf (by decide) (a2.2 q).2.1), (a2.2 q).2.2⟩⟩, a3, a4, a5, a6, rfl, a8, (cx_Hf (by decide) a9)⟩, ⟨hs5, b2, b3, b4, b5, b6⟩⟩
set_option maxHeartbeats 16000000 in
set_option maxRecDepth 100000 in
theorem lm_pass {K : gK} {G : gG} {yl : MethodName} {n mc ms co so pc index N : Nat} {lv : List (Nat × Value)} {st : List Value} {xx mm : Nat} {ws : va_W} {s im t jm : Int → Int} {tk uk stp : Int} {l ml : List Int} (hC : gC G K yl cL_law 4 n mc ms) (hn : 100 ≤ n) (hco : co ≤ mc ∧ so ≤ ms) (hst : (st.map fun v => v.category).sum ≤ 8) (hl : Cond.methodLink yl.cls index yX10_pass ∈ TB) (d : decode cL_law pc = .ok (.invokevirtual index, 3)) (x : Int) (r_x : rI x) (h0 : LW K xx mm ws N s im tk l stp t jm uk ml) (hs9 : sg_ok t jm uk) (kk : ∀ ws2, LW K xx mm ws2 N s im tk l stp (ne_pass (WSS t) (rcS t) t x) jm uk ml → G co so (pc + 3) lv (.int (iI (an_pass t x)) :: st) ws2) : G co so pc lv (.int (iI x) :: .ref mm :: st) ws := by
  obtain ⟨ad, F, I, J, Z, hm, hv, rfl, ⟨rfl, rfl⟩, hhm, hF, hI, hZ, ⟨a1, a2, a3, a4, a5, a6, rfl, a8, a9⟩, ⟨rfl, b2, b3, b4, b5, b6⟩⟩ := h0
  have hg := hs9.1
  have hg1 := hg.1
  have hg2 := hg.2.1
  have h19 := hg1.2.2.1
  have h09 := hg.2.2.2.1
  have hTK := gs_TK hg
  obtain ⟨rA, rB, rC, rT⟩ := rs_iff.mp hg2
  refine g_callV (pc := pc) (qr := 71) hC [71, 72, 75, 76, 77, 78] (k_X10_pass (ad 71) (ad 72) (ad 75) (ad 76) (ad 77) (ad 78) (.int (iI (I 37))) (.ref (ad 73)) (.ref (ad 74)) (.int (iI (I 38))) (.int (iI (I 39))) (.int (iI (I 40))) (.int (iI (I 41))) (.int (iI (I 42))) (.int (iI (I 43))) (.ref (ad 79)) (.ref (ad 80)) (.ref (ad 81)) (.ref (ad 82)) (.int (iI (I 45))) (.ref (ad 83)) (.int (iI (I 46))) (.int (iI (J 3))) (.int (iI (J 4))) (.int (iI (J 5))) x (I 44) (F 72) (F 75) Z (F 77) (F 78) (WSS (F 72)) (rcS (F 72)) r_x (hI _) (hF _) (hF _) hZ (hF _) (hF _) hg1 (by omega) hTK (Or.inl b5)) cl_X10_pass hl d rfl rfl rfl rfl rfl (by decide) (Nat.le_trans (by decide) hn) hco hst rfl (fun v9 w9 hq9 => ?_)
  obtain ⟨s5, fb5, ft5, fu5, fn5, rfl, rfl, r_s5, r_fb5, r_ft5, r_fu5, r_fn5, hs5, hk2⟩ := hq9
  refine g_ws hC (WXM K ad (upF (upF (upF (upF F 72 s5) 75 fb5) 77 fu5) 78 fn5) I J ft5 hm hv N) rfl ?_
  exact kk _ ⟨ad, (upF (upF (upF (upF F 72 s5) 75 fb5) 77 fu5) 78 fn5), I, J, ft5, hm, hv, rfl, ⟨rfl, rfl⟩, hhm, (upF_r (upF_r (upF_r (upF_r hF r_s5 72) r_fb5 75) r_fu5 77) r_fn5 78), hI, r_ft5, ⟨a1, ⟨a2.1, fun q => ⟨(a2.2 q).1, (cx_Hf (by decide) (cx_Hf (by decide) (cx_Hf (by decide) (cx_Hf (by decide) (a2.2 q).2.1)))), (a2.2 q).2.2⟩⟩, a3, a4, a5, a6, rfl, a8, (cx_Hf (by decide) (cx_Hf (by decide) (cx_Hf (by decide) (cx_Hf (by decide) a9))))⟩, ⟨hs5, b2, b3, b4, b5, b6⟩⟩
set_option maxHeartbeats 16000000 in
set_option maxRecDepth 100000 in
theorem lm_see {K : gK} {G : gG} {yl : MethodName} {n mc ms co so pc index N : Nat} {lv : List (Nat × Value)} {st : List Value} {xx mm : Nat} {ws : va_W} {s im t jm : Int → Int} {tk uk stp : Int} {l ml : List Int} (hC : gC G K yl cL_law 4 n mc ms) (hn : 100 ≤ n) (hco : co ≤ mc ∧ so ≤ ms) (hst : (st.map fun v => v.category).sum ≤ 8) (hl : Cond.methodLink yl.cls index yX10_see ∈ TB) (d : decode cL_law pc = .ok (.invokevirtual index, 3)) (p : Int) (y : Int) (x : Int) (r_p : rI p) (r_y : rI y) (r_x : rI x) (h0 : LW K xx mm ws N s im tk l stp t jm uk ml) (hs9 : sg_ok t jm uk) (kk : ∀ ws2, LW K xx mm ws2 N s im tk l stp (ne_see t p y x) jm uk ml → G co so (pc + 3) lv (.int (iI (an_see t p y x)) :: st) ws2) : G co so pc lv (.int (iI x) :: .int (iI y) :: .int (iI p) :: .ref mm :: st) ws := by
  obtain ⟨ad, F, I, J, Z, hm, hv, rfl, ⟨rfl, rfl⟩, hhm, hF, hI, hZ, ⟨a1, a2, a3, a4, a5, a6, rfl, a8, a9⟩, ⟨rfl, b2, b3, b4, b5, b6⟩⟩ := h0
  have hg := hs9.1
  have hg1 := hg.1
  have hg2 := hg.2.1
  have h19 := hg1.2.2.1
  have h09 := hg.2.2.2.1
  have hTK := gs_TK hg
  obtain ⟨rA, rB, rC, rT⟩ := rs_iff.mp hg2
  refine g_callV (pc := pc) (qr := 71) hC [71, 72] (k_X10_see (ad 71) (ad 72) (.int (iI (I 37))) (.ref (ad 73)) (.ref (ad 74)) (.int (iI (I 38))) (.int (iI (I 39))) (.int (iI (I 40))) (.int (iI (I 41))) (.int (iI (I 42))) (.int (iI (I 43))) (.ref (ad 75)) (.ref (ad 76)) (.ref (ad 77)) (.int (iI (I 44))) (.ref (ad 78)) (.ref (ad 79)) (.ref (ad 80)) (.ref (ad 81)) (.ref (ad 82)) (.int (iI (I 45))) (.ref (ad 83)) (.int (iI (I 46))) (.int (iI (J 3))) (.int (iI (J 4))) (.int (iI (J 5))) p y x (F 72) r_p r_y r_x (hF _) hg1 hg2) cl_X10_see hl d rfl rfl rfl rfl rfl (by decide) (Nat.le_trans (by decide) hn) hco hst rfl (fun v9 w9 hq9 => ?_)
  obtain ⟨s5, rfl, rfl, r_s5, hs5⟩ := hq9
  refine g_ws hC (WXM K ad (upF F 72 s5) I J Z hm hv N) rfl ?_
  exact kk _ ⟨ad, (upF F 72 s5), I, J, Z, hm, hv, rfl, ⟨rfl, rfl⟩, hhm, (upF_r hF r_s5 72), hI, hZ, ⟨a1, ⟨a2.1, fun q => ⟨(a2.2 q).1, (cx_Hf (by decide) (a2.2 q).2.1), (a2.2 q).2.2⟩⟩, a3, a4, a5, a6, rfl, a8, (cx_Hf (by decide) a9)⟩, ⟨hs5, b2, b3, b4, b5, b6⟩⟩
set_option maxHeartbeats 16000000 in
set_option maxRecDepth 100000 in
theorem lm_plan {K : gK} {G : gG} {yl : MethodName} {n mc ms co so pc index N : Nat} {lv : List (Nat × Value)} {st : List Value} {xx mm : Nat} {ws : va_W} {s im t jm : Int → Int} {tk uk stp : Int} {l ml : List Int} (hC : gC G K yl cL_law 4 n mc ms) (hn : 100 ≤ n) (hco : co ≤ mc ∧ so ≤ ms) (hst : (st.map fun v => v.category).sum ≤ 8) (hl : Cond.methodLink yl.cls index yX10_plan ∈ TB) (d : decode cL_law pc = .ok (.invokevirtual index, 3)) (w : Int) (y : Int) (r_w : rI w) (r_y : rI y) (h0 : LW K xx mm ws N s im tk l stp t jm uk ml) (hs9 : sg_ok t jm uk) (kk : ∀ ws2, LW K xx mm ws2 N s im tk l stp (ne_plan t w y) jm uk ml → G co so (pc + 3) lv (.int (iI (an_plan t w y)) :: st) ws2) : G co so pc lv (.int (iI y) :: .int (iI w) :: .ref mm :: st) ws := by
  obtain ⟨ad, F, I, J, Z, hm, hv, rfl, ⟨rfl, rfl⟩, hhm, hF, hI, hZ, ⟨a1, a2, a3, a4, a5, a6, rfl, a8, a9⟩, ⟨rfl, b2, b3, b4, b5, b6⟩⟩ := h0
  have hg := hs9.1
  have hg1 := hg.1
  have hg2 := hg.2.1
  have h19 := hg1.2.2.1
  have h09 := hg.2.2.2.1
  have hTK := gs_TK hg
  obtain ⟨rA, rB, rC, rT⟩ := rs_iff.mp hg2
  refine g_callV (pc := pc) (qr := 71) hC [71, 72] (k_X10_plan (ad 71) (ad 72) (.int (iI (I 37))) (.ref (ad 73)) (.ref (ad 74)) (.int (iI (I 38))) (.int (iI (I 39))) (.int (iI (I 40))) (.int (iI (I 41))) (.int (iI (I 42))) (.int (iI (I 43))) (.ref (ad 75)) (.ref (ad 76)) (.ref (ad 77)) (.int (iI (I 44))) (.ref (ad 78)) (.ref (ad 79)) (.ref (ad 80)) (.ref (ad 81)) (.ref (ad 82)) (.int (iI (I 45))) (.ref (ad 83)) (.int (iI (I 46))) (.int (iI (J 3))) (.int (iI (J 4))) (.int (iI (J 5))) w y (F 72) r_w r_y (hF _) hg1 hg2) cl_X10_plan hl d rfl rfl rfl rfl rfl (by decide) (Nat.le_trans (by decide) hn) hco hst rfl (fun v9 w9 hq9 => ?_)
  obtain ⟨s5, rfl, rfl, r_s5, hs5⟩ := hq9
  refine g_ws hC (WXM K ad (upF F 72 s5) I J Z hm hv N) rfl ?_
  exact kk _ ⟨ad, (upF F 72 s5), I, J, Z, hm, hv, rfl, ⟨rfl, rfl⟩, hhm, (upF_r hF r_s5 72), hI, hZ, ⟨a1, ⟨a2.1, fun q => ⟨(a2.2 q).1, (cx_Hf (by decide) (a2.2 q).2.1), (a2.2 q).2.2⟩⟩, a3, a4, a5, a6, rfl, a8, (cx_Hf (by decide) a9)⟩, ⟨hs5, b2, b3, b4, b5, b6⟩⟩
set_option maxHeartbeats 16000000 in
set_option maxRecDepth 100000 in
theorem lm_book {K : gK} {G : gG} {yl : MethodName} {n mc ms co so pc index N : Nat} {lv : List (Nat × Value)} {st : List Value} {xx mm : Nat} {ws : va_W} {s im t jm : Int → Int} {tk uk stp : Int} {l ml : List Int} (hC : gC G K yl cL_law 4 n mc ms) (hn : 100 ≤ n) (hco : co ≤ mc ∧ so ≤ ms) (hst : (st.map fun v => v.category).sum ≤ 8) (hl : Cond.methodLink yl.cls index yX10_book ∈ TB) (d : decode cL_law pc = .ok (.invokevirtual index, 3)) (p : Int) (x : Int) (r_p : rI p) (r_x : rI x) (h0 : LW K xx mm ws N s im tk l stp t jm uk ml) (hs9 : sg_ok t jm uk) (kk : ∀ ws2, LW K xx mm ws2 N s im tk l stp (ne_book t p x) jm uk ml → G co so (pc + 3) lv (.int (iI (an_book t p x)) :: st) ws2) : G co so pc lv (.int (iI x) :: .int (iI p) :: .ref mm :: st) ws := by
  obtain ⟨ad, F, I, J, Z, hm, hv, rfl, ⟨rfl, rfl⟩, hhm, hF, hI, hZ, ⟨a1, a2, a3, a4, a5, a6, rfl, a8, a9⟩, ⟨rfl, b2, b3, b4, b5, b6⟩⟩ := h0
  have hg := hs9.1
  have hg1 := hg.1
  have hg2 := hg.2.1
  have h19 := hg1.2.2.1
  have h09 := hg.2.2.2.1
  have hTK := gs_TK hg
  obtain ⟨rA, rB, rC, rT⟩ := rs_iff.mp hg2
  refine g_callV (pc := pc) (qr := 71) hC [71, 72] (k_X10_book (ad 71) (ad 72) (.int (iI (I 37))) (.ref (ad 73)) (.ref (ad 74)) (.int (iI (I 38))) (.int (iI (I 39))) (.int (iI (I 40))) (.int (iI (I 41))) (.int (iI (I 42))) (.int (iI (I 43))) (.ref (ad 75)) (.ref (ad 76)) (.ref (ad 77)) (.int (iI (I 44))) (.ref (ad 78)) (.ref (ad 79)) (.ref (ad 80)) (.ref (ad 81)) (.ref (ad 82)) (.int (iI (I 45))) (.ref (ad 83)) (.int (iI (I 46))) (.int (iI (J 3))) (.int (iI (J 4))) (.int (iI (J 5))) p x (F 72) r_p r_x (hF _) hg1 hg2) cl_X10_book hl d rfl rfl rfl rfl rfl (by decide) (Nat.le_trans (by decide) hn) hco hst rfl (fun v9 w9 hq9 => ?_)
  obtain ⟨s5, rfl, rfl, r_s5, hs5⟩ := hq9
  refine g_ws hC (WXM K ad (upF F 72 s5) I J Z hm hv N) rfl ?_
  exact kk _ ⟨ad, (upF F 72 s5), I, J, Z, hm, hv, rfl, ⟨rfl, rfl⟩, hhm, (upF_r hF r_s5 72), hI, hZ, ⟨a1, ⟨a2.1, fun q => ⟨(a2.2 q).1, (cx_Hf (by decide) (a2.2 q).2.1), (a2.2 q).2.2⟩⟩, a3, a4, a5, a6, rfl, a8, (cx_Hf (by decide) a9)⟩, ⟨hs5, b2, b3, b4, b5, b6⟩⟩
set_option maxHeartbeats 16000000 in
set_option maxRecDepth 100000 in
theorem lm_house {K : gK} {G : gG} {yl : MethodName} {n mc ms co so pc index N : Nat} {lv : List (Nat × Value)} {st : List Value} {xx mm : Nat} {ws : va_W} {s im t jm : Int → Int} {tk uk stp : Int} {l ml : List Int} (hC : gC G K yl cL_law 4 n mc ms) (hn : 100 ≤ n) (hco : co ≤ mc ∧ so ≤ ms) (hst : (st.map fun v => v.category).sum ≤ 8) (hl : Cond.methodLink yl.cls index yX10_house ∈ TB) (d : decode cL_law pc = .ok (.invokevirtual index, 3)) (h0 : LW K xx mm ws N s im tk l stp t jm uk ml) (hs9 : sg_ok t jm uk) (kk : ∀ ws2, LW K xx mm ws2 N s im tk l stp (ne_house t) jm uk ml → G co so (pc + 3) lv (.int (iI (an_house t)) :: st) ws2) : G co so pc lv (.ref mm :: st) ws := by
  obtain ⟨ad, F, I, J, Z, hm, hv, rfl, ⟨rfl, rfl⟩, hhm, hF, hI, hZ, ⟨a1, a2, a3, a4, a5, a6, rfl, a8, a9⟩, ⟨rfl, b2, b3, b4, b5, b6⟩⟩ := h0
  have hg := hs9.1
  have hg1 := hg.1
  have hg2 := hg.2.1
  have h19 := hg1.2.2.1
  have h09 := hg.2.2.2.1
  have hTK := gs_TK hg
  obtain ⟨rA, rB, rC, rT⟩ := rs_iff.mp hg2
  refine g_callV (pc := pc) (qr := 71) hC [71, 72] (k_X10_house (ad 71) (ad 72) (.int (iI (I 37))) (.ref (ad 73)) (.ref (ad 74)) (.int (iI (I 38))) (.ref (ad 75)) (.ref (ad 76)) (.ref (ad 77)) (.int (iI (I 44))) (.ref (ad 78)) (.ref (ad 79)) (.ref (ad 80)) (.ref (ad 81)) (.ref (ad 82)) (.int (iI (I 45))) (.ref (ad 83)) (.int (iI (I 46))) (.int (iI (J 3))) (.int (iI (J 4))) (.int (iI (J 5))) (I 39) (I 40) (I 41) (I 42) (I 43) (F 72) (hI _) (hI _) (hI _) (hI _) (hI _) (hF _) b6 hg.2.2.2.2.2.1 rT hg.2.2.2.2.1) cl_X10_house hl d rfl rfl rfl rfl rfl (by decide) (Nat.le_trans (by decide) hn) hco hst rfl (fun v9 w9 hq9 => ?_)
  obtain ⟨ac5, p5, e5, w5, o5, s5, rfl, rfl, r_ac5, r_p5, r_e5, r_w5, r_o5, r_s5, hs5, hw2⟩ := hq9
  refine g_ws hC (WXM K ad (upF F 72 s5) (upJ (upJ (upJ (upJ (upJ I 39 ac5) 40 p5) 41 e5) 42 w5) 43 o5) J Z hm hv N) rfl ?_
  exact kk _ ⟨ad, (upF F 72 s5), (upJ (upJ (upJ (upJ (upJ I 39 ac5) 40 p5) 41 e5) 42 w5) 43 o5), J, Z, hm, hv, rfl, ⟨rfl, rfl⟩, hhm, (upF_r hF r_s5 72), (upJ_r (upJ_r (upJ_r (upJ_r (upJ_r hI r_ac5 39) r_p5 40) r_e5 41) r_w5 42) r_o5 43), hZ, ⟨a1, ⟨a2.1, fun q => ⟨(a2.2 q).1, (cx_Hf (by decide) (cx_Hi (by decide) (cx_Hi (by decide) (cx_Hi (by decide) (cx_Hi (by decide) (cx_Hi (by decide) (a2.2 q).2.1)))))), (a2.2 q).2.2⟩⟩, a3, a4, a5, a6, rfl, a8, (cx_Hf (by decide) (cx_Hi (by decide) (cx_Hi (by decide) (cx_Hi (by decide) (cx_Hi (by decide) (cx_Hi (by decide) a9))))))⟩, ⟨hs5, b2, b3, b4, b5, hw2⟩⟩
set_option maxHeartbeats 16000000 in
set_option maxRecDepth 100000 in
theorem lm_act {K : gK} {G : gG} {yl : MethodName} {n mc ms co so pc index N : Nat} {lv : List (Nat × Value)} {st : List Value} {xx mm : Nat} {ws : va_W} {s im t jm : Int → Int} {tk uk stp : Int} {l ml : List Int} (hC : gC G K yl cL_law 4 n mc ms) (hn : 100 ≤ n) (hco : co ≤ mc ∧ so ≤ ms) (hst : (st.map fun v => v.category).sum ≤ 8) (hl : Cond.methodLink yl.cls index yX10_act ∈ TB) (d : decode cL_law pc = .ok (.invokevirtual index, 3)) (p : Int) (w : Int) (x : Int) (r_p : rI p) (r_w : rI w) (r_x : rI x) (h0 : LW K xx mm ws N s im tk l stp t jm uk ml) (hs9 : sg_ok t jm uk) (kk : ∀ ws2, LW K xx mm ws2 N s im tk l stp t jm uk (ar_act t p w) → G co so (pc + 3) lv (.int (iI (an_act t p w x)) :: st) ws2) : G co so pc lv (.int (iI x) :: .int (iI w) :: .int (iI p) :: .ref mm :: st) ws := by
  obtain ⟨ad, F, I, J, Z, hm, hv, rfl, ⟨rfl, rfl⟩, hhm, hF, hI, hZ, ⟨a1, a2, a3, a4, a5, a6, rfl, a8, a9⟩, ⟨rfl, b2, b3, b4, b5, b6⟩⟩ := h0
  have hg := hs9.1
  have hg1 := hg.1
  have hg2 := hg.2.1
  have h19 := hg1.2.2.1
  have h09 := hg.2.2.2.1
  have hTK := gs_TK hg
  obtain ⟨rA, rB, rC, rT⟩ := rs_iff.mp hg2
  refine g_callV (pc := pc) (qr := 71) hC [71, 72, 83] (k_X10_act (ad 71) (ad 72) (ad 83) (.int (iI (I 37))) (.ref (ad 73)) (.ref (ad 74)) (.int (iI (I 38))) (.int (iI (I 39))) (.int (iI (I 40))) (.int (iI (I 41))) (.int (iI (I 42))) (.int (iI (I 43))) (.ref (ad 75)) (.ref (ad 76)) (.ref (ad 77)) (.int (iI (I 44))) (.ref (ad 78)) (.ref (ad 79)) (.ref (ad 80)) (.ref (ad 81)) (.ref (ad 82)) (.int (iI (I 45))) p w x (I 46) (J 3) (J 4) (J 5) (F 72) (F 83) hg1 r_p r_w (hF _)) cl_X10_act hl d rfl rfl rfl rfl rfl (by decide) (Nat.le_trans (by decide) hn) hco hst rfl (fun v9 w9 hq9 => ?_)
  obtain ⟨bo5, ran5, kd5, nb5, tv5, rfl, rfl, hp, hn⟩ := hq9
  have r9 := tr_act_r hp (hF 83)
  have r_bo5 := r9.1
  have r_ran5 := r9.2
  refine g_ws hC (WXM K ad (upF F 83 bo5) (upJ I 46 ran5) (upJ (upJ (upJ J 3 kd5) 4 nb5) 5 tv5) Z hm hv N) rfl ?_
  exact kk _ ⟨ad, (upF F 83 bo5), (upJ I 46 ran5), (upJ (upJ (upJ J 3 kd5) 4 nb5) 5 tv5), Z, hm, hv, rfl, ⟨rfl, rfl⟩, hhm, (upF_r hF r_bo5 83), (upJ_r hI r_ran5 46), hZ, ⟨a1, ⟨a2.1, fun q => ⟨(a2.2 q).1, (cx_Hf (by decide) (cx_Hi (by decide) (a2.2 q).2.1)), (a2.2 q).2.2⟩⟩, a3, a4, a5, a6, rfl, a8, (cx_Hf (by decide) (cx_Hi (by decide) a9))⟩, ⟨rfl, b2, b3, (tr_act hp), b5, b6⟩⟩
set_option maxHeartbeats 16000000 in
set_option maxRecDepth 100000 in
theorem lm_image {K : gK} {G : gG} {yl : MethodName} {n mc ms co so pc index N : Nat} {lv : List (Nat × Value)} {st : List Value} {xx mm : Nat} {ws : va_W} {s im t jm : Int → Int} {tk uk stp : Int} {l ml : List Int} (hC : gC G K yl cL_law 4 n mc ms) (hn : 100 ≤ n) (hco : co ≤ mc ∧ so ≤ ms) (hst : (st.map fun v => v.category).sum ≤ 8) (hl : Cond.methodLink yl.cls index yX10_image ∈ TB) (d : decode cL_law pc = .ok (.invokevirtual index, 3)) (h0 : LW K xx mm ws N s im tk l stp t jm uk ml) (hs9 : sg_ok t jm uk) (kk : ∀ ws2, LW K xx mm ws2 N s im tk l stp t t 1 ml → G co so (pc + 3) lv (.int (iI (t 19)) :: st) ws2) : G co so pc lv (.ref mm :: st) ws := by
  obtain ⟨ad, F, I, J, Z, hm, hv, rfl, ⟨rfl, rfl⟩, hhm, hF, hI, hZ, ⟨a1, a2, a3, a4, a5, a6, rfl, a8, a9⟩, ⟨rfl, b2, b3, b4, b5, b6⟩⟩ := h0
  have hg := hs9.1
  have hg1 := hg.1
  have hg2 := hg.2.1
  have h19 := hg1.2.2.1
  have h09 := hg.2.2.2.1
  have hTK := gs_TK hg
  obtain ⟨rA, rB, rC, rT⟩ := rs_iff.mp hg2
  refine g_callV (pc := pc) (qr := 71) hC [71, 72, 73] (k_X10_image (ad 71) (ad 72) (ad 73) (.int (iI (I 37))) (.ref (ad 74)) (.int (iI (I 39))) (.int (iI (I 40))) (.int (iI (I 41))) (.int (iI (I 42))) (.int (iI (I 43))) (.ref (ad 75)) (.ref (ad 76)) (.ref (ad 77)) (.int (iI (I 44))) (.ref (ad 78)) (.ref (ad 79)) (.ref (ad 80)) (.ref (ad 81)) (.ref (ad 82)) (.int (iI (I 45))) (.ref (ad 83)) (.int (iI (I 46))) (.int (iI (J 3))) (.int (iI (J 4))) (.int (iI (J 5))) (I 38) (F 72) (F 73) (hI _) (hF _) (hF _) hg.2.2.1 b3) cl_X10_image hl d rfl rfl rfl rfl rfl (by decide) (Nat.le_trans (by decide) hn) hco hst rfl (fun v9 w9 hq9 => ?_)
  obtain ⟨im5, rfl, rfl, r_im5, hm5⟩ := hq9
  refine g_ws hC (WXM K ad (upF F 73 im5) (upJ I 38 1) J Z hm hv N) rfl ?_
  exact kk _ ⟨ad, (upF F 73 im5), (upJ I 38 1), J, Z, hm, hv, rfl, ⟨rfl, rfl⟩, hhm, (upF_r hF r_im5 73), (upJ_r hI (by omega) 38), hZ, ⟨a1, ⟨a2.1, fun q => ⟨(a2.2 q).1, (cx_Hf (by decide) (cx_Hi (by decide) (a2.2 q).2.1)), (a2.2 q).2.2⟩⟩, a3, a4, a5, a6, rfl, a8, (cx_Hf (by decide) (cx_Hi (by decide) a9))⟩, ⟨rfl, ⟨rfl, fun _ => hm5⟩, (by show md_cano im5; rw [hm5]; exact hg.2.2.1), b4, b5, b6⟩⟩
set_option maxHeartbeats 16000000 in
set_option maxRecDepth 100000 in
theorem lm_undo0 {K : gK} {G : gG} {yl : MethodName} {n mc ms co so pc index N : Nat} {lv : List (Nat × Value)} {st : List Value} {xx mm : Nat} {ws : va_W} {s im t jm : Int → Int} {tk uk stp : Int} {l ml : List Int} (hC : gC G K yl cL_law 4 n mc ms) (hn : 100 ≤ n) (hco : co ≤ mc ∧ so ≤ ms) (hst : (st.map fun v => v.category).sum ≤ 8) (hl : Cond.methodLink yl.cls index yX10_undo ∈ TB) (d : decode cL_law pc = .ok (.invokevirtual index, 3)) (h0 : LW K xx mm ws N s im tk l stp t jm uk ml) (hs9 : sg_ok t jm uk) (hu : uk = 0) (kk : ∀ ws2, LW K xx mm ws2 N s im tk l stp t jm uk ml → G co so (pc + 3) lv (.int (iI (-3)) :: st) ws2) : G co so pc lv (.ref mm :: st) ws := by
  obtain ⟨ad, F, I, J, Z, hm, hv, rfl, ⟨rfl, rfl⟩, hhm, hF, hI, hZ, ⟨a1, a2, a3, a4, a5, a6, rfl, a8, a9⟩, ⟨rfl, b2, b3, b4, b5, b6⟩⟩ := h0
  have hg := hs9.1
  have hg1 := hg.1
  have hg2 := hg.2.1
  have h19 := hg1.2.2.1
  have h09 := hg.2.2.2.1
  have hTK := gs_TK hg
  obtain ⟨rA, rB, rC, rT⟩ := rs_iff.mp hg2
  refine g_callV (pc := pc) (qr := 71) hC [71, 72, 73] (k_X10_undo (ad 71) (ad 72) (ad 73) (.int (iI (I 37))) (.ref (ad 74)) (.int (iI (I 39))) (.int (iI (I 40))) (.int (iI (I 41))) (.int (iI (I 42))) (.int (iI (I 43))) (.ref (ad 75)) (.ref (ad 76)) (.ref (ad 77)) (.int (iI (I 44))) (.ref (ad 78)) (.ref (ad 79)) (.ref (ad 80)) (.ref (ad 81)) (.ref (ad 82)) (.int (iI (I 45))) (.ref (ad 83)) (.int (iI (I 46))) (.int (iI (J 3))) (.int (iI (J 4))) (.int (iI (J 5))) (I 38) (F 72) (F 73) (hI _) (hF _) (hF _) hg.2.2.1 b3) cl_X10_undo hl d rfl rfl rfl rfl rfl (by decide) (Nat.le_trans (by decide) hn) hco hst rfl (fun v9 w9 hq9 => ?_)
  obtain ⟨s5, rfl, rfl, r_s5, hm5⟩ := hq9
  have e5 : s5 = F 72 := by rw [hm5, if_pos (by have := b2.1; omega)]
  rw [if_pos (show I 38 = 0 by have := b2.1; omega)]
  refine g_ws hC (WXM K ad (upF F 72 s5) I J Z hm hv N) rfl ?_
  exact kk _ ⟨ad, (upF F 72 s5), I, J, Z, hm, hv, rfl, ⟨rfl, rfl⟩, hhm, (upF_r hF r_s5 72), hI, hZ, ⟨a1, ⟨a2.1, fun q => ⟨(a2.2 q).1, (cx_Hf (by decide) (a2.2 q).2.1), (a2.2 q).2.2⟩⟩, a3, a4, a5, a6, rfl, a8, (cx_Hf (by decide) a9)⟩, ⟨e5, b2, b3, b4, b5, b6⟩⟩
set_option maxHeartbeats 16000000 in
set_option maxRecDepth 100000 in
theorem lm_undo1 {K : gK} {G : gG} {yl : MethodName} {n mc ms co so pc index N : Nat} {lv : List (Nat × Value)} {st : List Value} {xx mm : Nat} {ws : va_W} {s im t jm : Int → Int} {tk uk stp : Int} {l ml : List Int} (hC : gC G K yl cL_law 4 n mc ms) (hn : 100 ≤ n) (hco : co ≤ mc ∧ so ≤ ms) (hst : (st.map fun v => v.category).sum ≤ 8) (hl : Cond.methodLink yl.cls index yX10_undo ∈ TB) (d : decode cL_law pc = .ok (.invokevirtual index, 3)) (h0 : LW K xx mm ws N s im tk l stp t jm uk ml) (hs9 : sg_ok t jm uk) (hu : uk = 1) (kk : ∀ ws2, LW K xx mm ws2 N s im tk l stp jm jm uk ml → G co so (pc + 3) lv (.int (iI (jm 19)) :: st) ws2) : G co so pc lv (.ref mm :: st) ws := by
  obtain ⟨ad, F, I, J, Z, hm, hv, rfl, ⟨rfl, rfl⟩, hhm, hF, hI, hZ, ⟨a1, a2, a3, a4, a5, a6, rfl, a8, a9⟩, ⟨rfl, b2, b3, b4, b5, b6⟩⟩ := h0
  have hg := hs9.1
  have hg1 := hg.1
  have hg2 := hg.2.1
  have h19 := hg1.2.2.1
  have h09 := hg.2.2.2.1
  have hTK := gs_TK hg
  obtain ⟨rA, rB, rC, rT⟩ := rs_iff.mp hg2
  refine g_callV (pc := pc) (qr := 71) hC [71, 72, 73] (k_X10_undo (ad 71) (ad 72) (ad 73) (.int (iI (I 37))) (.ref (ad 74)) (.int (iI (I 39))) (.int (iI (I 40))) (.int (iI (I 41))) (.int (iI (I 42))) (.int (iI (I 43))) (.ref (ad 75)) (.ref (ad 76)) (.ref (ad 77)) (.int (iI (I 44))) (.ref (ad 78)) (.ref (ad 79)) (.ref (ad 80)) (.ref (ad 81)) (.ref (ad 82)) (.int (iI (I 45))) (.ref (ad 83)) (.int (iI (I 46))) (.int (iI (J 3))) (.int (iI (J 4))) (.int (iI (J 5))) (I 38) (F 72) (F 73) (hI _) (hF _) (hF _) hg.2.2.1 b3) cl_X10_undo hl d rfl rfl rfl rfl rfl (by decide) (Nat.le_trans (by decide) hn) hco hst rfl (fun v9 w9 hq9 => ?_)
  obtain ⟨s5, rfl, rfl, r_s5, hm5⟩ := hq9
  have e5 : s5 = jm := by rw [hm5, if_neg (by have := b2.1; omega)]; exact b2.2 hu
  rw [if_neg (show ¬ I 38 = 0 by have := b2.1; omega), b2.2 hu]
  refine g_ws hC (WXM K ad (upF F 72 s5) I J Z hm hv N) rfl ?_
  exact kk _ ⟨ad, (upF F 72 s5), I, J, Z, hm, hv, rfl, ⟨rfl, rfl⟩, hhm, (upF_r hF r_s5 72), hI, hZ, ⟨a1, ⟨a2.1, fun q => ⟨(a2.2 q).1, (cx_Hf (by decide) (a2.2 q).2.1), (a2.2 q).2.2⟩⟩, a3, a4, a5, a6, rfl, a8, (cx_Hf (by decide) a9)⟩, ⟨e5, b2, b3, b4, b5, b6⟩⟩
