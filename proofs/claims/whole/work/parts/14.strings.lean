def sx (k : Nat) (i : Int) : Int := ((tx_byt.getD k []).getD i.toNat 0).toInt
def sl (k : Nat) : Int := ((tx_len.getD k 0 : Nat) : Int)
theorem sl_rng {k : Nat} (hk : k < 7) : 1 ≤ sl k ∧ sl k ≤ 6 := by
  have h : ∀ k : Fin 7, 1 ≤ sl k.val ∧ sl k.val ≤ 6 := by decide +kernel
  exact h ⟨k, hk⟩
theorem sx_rng {k : Nat} {i : Int} (hk : k < 7) (hi : 0 ≤ i ∧ i < sl k) : 0 ≤ sx k i ∧ sx k i < 128 ∧ bAnd (sx k i) 255 = sx k i := by
  have h : ∀ (k : Fin 7) (i : Fin 6), (i.val : Int) < sl k.val → 0 ≤ sx k.val (i.val : Int) ∧ sx k.val (i.val : Int) < 128 ∧ bAnd (sx k.val (i.val : Int)) 255 = sx k.val (i.val : Int) := by decide +kernel
  have h2 := sl_rng hk
  have h3 := h ⟨k, hk⟩ ⟨i.toNat, by omega⟩
  have e : ((i.toNat : Nat) : Int) = i := by omega
  simp only [e] at h3
  exact h3 hi.2
theorem iI_i2c {a : Int} (h : 0 ≤ a ∧ a < 128) : ((iI a).toUInt32 % 65536).toInt32 = iI a := by
  have h2 : ∀ i : Fin 128, ((iI (i.val : Int)).toUInt32 % 65536).toInt32 = iI (i.val : Int) := by decide +kernel
  have h3 := h2 ⟨a.toNat, by omega⟩
  have e : ((a.toNat : Nat) : Int) = a := by omega
  simp only [e] at h3
  exact h3
theorem nar_ch {a : Int} (h : 0 ≤ a ∧ a < 128) : narrow .char (.int (iI a)) = .int (iI a) := by
  have h2 : ∀ i : Fin 128, narrow .char (.int (iI (i.val : Int))) = .int (iI (i.val : Int)) := by decide +kernel
  have h3 := h2 ⟨a.toNat, by omega⟩
  have e : ((a.toNat : Nat) : Int) = a := by omega
  simp only [e] at h3
  exact h3
section GR
variable {G : gG} {K : gK} {y : MethodName} {cc : ByteArray} {nL n mc ms co so pc : Nat} {lv : List (Nat × Value)} {st : List Value} {ws : va_W}
theorem g_i2c (hC : gC G K y cc nL n mc ms) {a : Int} (d : decode cc pc = .ok (.i2c, 1)) (ha : 0 ≤ a ∧ a < 128) (kk : G co so (pc + 1) lv (.int (iI a) :: st) ws) : G co so pc lv (.int (iI a) :: st) ws := by
  obtain ⟨p, l, e, R, s, m, args, below, meth, c, Q, A, rfl, hx, hb, hml, hown, hts, hK, hA, hE, hF, hRf, hRl, hRc, hRs, hnm⟩ := hC
  intro H locs ls hP hD hS hl
  exact lv_i2c hx hb d (iI_i2c ha) (kk H locs ls hP hD hS hl)
theorem g_getCS (hC : gC G K y cc nL n mc ms) {index : Nat} (hw : Cond.fieldLink y.cls index "java/lang/String" "COMPACT_STRINGS" "Z" ∈ TB) (d : decode cc pc = .ok (.getstatic index, 3)) (kk : G co so (pc + 3) lv (.int (iI 1) :: st) ws) : G co so pc lv (st) ws := by
  obtain ⟨p, l, e, R, s, m, args, below, meth, c, Q, A, rfl, hx, hb, hml, hown, hts, hK, hA, hE, hF, hRf, hRl, hRc, hRs, hnm⟩ := hC
  intro H locs ls hP hD hS hl
  exact va_gets hx hb hE.2.2.2.1 hS hown (hts _ hw) (fun _ h => h) d (kk H locs ls hP hD hS hl)
theorem g_getSF (hC : gC G K y cc nL n mc ms) {index : Nat} (hw : Cond.fieldLink y.cls index "jdk/internal/util/Preconditions" "SIOOBE_FORMATTER" "Ljava/util/function/BiFunction;" ∈ TB) (d : decode cc pc = .ok (.getstatic index, 3)) (k1 : G co so (pc + 3) lv (.null :: st) ws) (k2 : ∀ t9 : Nat, G co so (pc + 3) lv (.ref t9 :: st) ws) : G co so pc lv (st) ws := by
  obtain ⟨p, l, e, R, s, m, args, below, meth, c, Q, A, rfl, hx, hb, hml, hown, hts, hK, hA, hE, hF, hRf, hRl, hRc, hRs, hnm⟩ := hC
  intro H locs ls hP hD hS hl
  rcases hE.2.2.2.2 with h9 | ⟨t9, h9⟩
  · exact va_gets hx hb h9 hS hown (hts _ hw) (fun _ h => h) d (k1 H locs ls hP hD hS hl)
  · exact va_gets hx hb h9 hS hown (hts _ hw) (fun _ h => h) d (k2 t9 H locs ls hP hD hS hl)
theorem g_getKc (hC : gC G K y cc nL n mc ms) {k index : Nat} (hk : k < 7) (hw : Cond.fieldLink y.cls index "java/lang/String" "coder" "B" ∈ TB) (d : decode cc pc = .ok (.getfield index, 3)) (kk : G co so (pc + 3) lv (.int (iI 0) :: st) ws) : G co so pc lv (.ref (K.2.2.1 k) :: st) ws := by
  obtain ⟨p, l, e, R, s, m, args, below, meth, c, Q, A, rfl, hx, hb, hml, hown, hts, hK, hA, hE, hF, hRf, hRl, hRc, hRs, hnm⟩ := hC
  intro H locs ls hP hD hS hl
  exact vk_getf hx hb (hE.2.2.1.1 k hk).2.1 hS hown (hts _ hw) (fun _ h => h) d (kk H locs ls hP hD hS hl)
theorem g_getKv (hC : gC G K y cc nL n mc ms) {k index : Nat} (hk : k < 7) (hw : Cond.fieldLink y.cls index "java/lang/String" "value" "[B" ∈ TB) (d : decode cc pc = .ok (.getfield index, 3)) (kk : G co so (pc + 3) lv (.ref (K.2.2.2.1 k) :: st) ws) : G co so pc lv (.ref (K.2.2.1 k) :: st) ws := by
  obtain ⟨p, l, e, R, s, m, args, below, meth, c, Q, A, rfl, hx, hb, hml, hown, hts, hK, hA, hE, hF, hRf, hRl, hRc, hRs, hnm⟩ := hC
  intro H locs ls hP hD hS hl
  exact vk_getf hx hb (hE.2.2.1.1 k hk).2.2.1 hS hown (hts _ hw) (fun _ h => h) d (kk H locs ls hP hD hS hl)
theorem g_lenK (hC : gC G K y cc nL n mc ms) {k : Nat} (d : decode cc pc = .ok (.arraylength, 1)) (hk : k < 7) (kk : G co so (pc + 1) lv (.int (iI (sl k)) :: st) ws) : G co so pc lv (.ref (K.2.2.2.1 k) :: st) ws := by
  obtain ⟨p, l, e, R, s, m, args, below, meth, c, Q, A, rfl, hx, hb, hml, hown, hts, hK, hA, hE, hF, hRf, hRl, hRc, hRs, hnm⟩ := hC
  intro H locs ls hP hD hS hl
  exact va_tlen hx hb (hE.2.2.1.1 k hk).2.2.2 hS (v := iI (sl k)) Int32.ofInt_eq_ofNat.symm d (kk H locs ls hP hD hS hl)
theorem g_baldK (hC : gC G K y cc nL n mc ms) {k : Nat} {i : Int} (d : decode cc pc = .ok (.baload, 1)) (hk : k < 7) (hi : 0 ≤ i ∧ i < sl k) (kk : G co so (pc + 1) lv (.int (iI (sx k i)) :: st) ws) : G co so pc lv (.int (iI i) :: .ref (K.2.2.2.1 k) :: st) ws := by
  obtain ⟨p, l, e, R, s, m, args, below, meth, c, Q, A, rfl, hx, hb, hml, hown, hts, hK, hA, hE, hF, hRf, hRl, hRc, hRs, hnm⟩ := hC
  intro H locs ls hP hD hS hl
  have h6 := sl_rng hk
  have hc := iI_clamp (i := i) ⟨hi.1, by omega⟩
  have e9 : (iI i).toNatClampNeg = i.toNat := by omega
  refine va_tb hx hb (hE.2.2.1.1 k hk).2.2.2 hS (in_of (N := tx_len.getD k 0) ⟨hi.1, hi.2, by omega⟩) (v := .int (iI (sx k i))) (by rw [e9]; unfold sx; rw [iI_as]) d (kk H locs ls hP hD hS hl)
theorem g_callVk (hC : gC G K y cc nL n mc ms) {yc : MethodName} {bc : ByteArray} {nc kc mcc msc na : Nat} {rc : Option FieldType} {k : Nat} {As rest : List Value} {wc : va_W} {post : Option Value → va_W → Prop} {index : Nat} (ps : List Nat) (hM : gMet K yc bc nc rc kc mcc msc (.ref (K.2.2.1 k) :: As) wc post) (hv : gCv yc bc nc rc na) (hlink : Cond.methodLink y.cls index yc ∈ TB) (d : decode cc pc = .ok (.invokevirtual index, 3)) (hst : st = As.reverse ++ .ref (K.2.2.1 k) :: rest) (hk : k < 7) (hcn : yc.cls = RJ0) (hps : ps.map (fun i => ws[i]?) = wc.map some) (hnd : va_nd ps = true) (hlev : kc + 1 ≤ n) (hroom : co + mcc ≤ mc ∧ so + msc ≤ ms) (hrest : (rest.map fun v => v.category).sum ≤ 8) (hna : As.length = na) (kk : ∀ (v : Option Value) (w1 : va_W), post v w1 → G (co + mcc) (so + msc) (pc + 3) lv (v.toList ++ rest) (gput ws ps w1)) : G co so pc lv (st) ws := by
  obtain ⟨p, l, e, R, s, m, args, below, meth, c, Q, A, rfl, hx, hb, hml, hown, hts, hK, hA, hE, hF, hRf, hRl, hRc, hRs, hnm⟩ := hC
  intro H locs ls hP hD hS hl
  subst hst
  obtain ⟨v1, v2, v3, v4, v5, v6⟩ := hv
  have hrv : ∃ cell : Cell, H[K.2.2.1 k]? = some cell ∧ cell.vm.isStatics = false ∧ s.vm.findClass yc.cls = some cell.cls := by
    rw [hcn]
    exact vk_recv hE.2.2.1 hk hS
  have hr := va_runV (g := F0 m pc ls (As.reverse ++ .ref (K.2.2.1 k) :: rest)) (As := As) (rest := rest) (cells := co) (slots := so) (locs := locs) (e := e) (below := below) (meth := meth) ⟨hx, hb, hml, hown, hts⟩ (hM l H.size) (cwV na hts (tb_g (fun w hw => by
    simp only [wsV, List.cons_append, List.nil_append, List.mem_cons] at hw
    rcases hw with rfl | rfl | rfl | rfl | rfl | hw
    · exact hlink
    · exact v1
    · exact v2
    · exact v4
    · exact v3
    · exact hw)) rfl rfl rfl ⟨rfl, v5⟩ ⟨by show kc + 1 ≤ R.frames; omega, by show 8 + (nc + 11) + 40 * kc ≤ R.locals; omega⟩) ⟨g_blind, hrv, g_pre hP hD hS hA hK hE hF hps hnd⟩ rfl hna hl.1 rfl (lv_room hrest) d ⟨Nat.le_trans hroom.1 hRc, Nat.le_trans hroom.2 hRs⟩
  exact w_after hr hP hD hS hA hps hnd (fun v w1 H1 locs1 hp1 hP1 hD1 hS1 => kk v w1 hp1 H1 locs1 ls hP1 hD1 hS1 hl)
theorem g_fnVk (hC : gC G K y cc nL n mc ms) {yc : MethodName} {bc : ByteArray} {nc kc na : Nat} {rc : Option FieldType} {k : Nat} {As rest : List Value} {wc : va_W} {r : Int} {index : Nat} (ps : List Nat) (hM : gFn K yc bc nc rc kc (.ref (K.2.2.1 k) :: As) wc r) (hv : gCv yc bc nc rc na) (hlink : Cond.methodLink y.cls index yc ∈ TB) (d : decode cc pc = .ok (.invokevirtual index, 3)) (hst : st = As.reverse ++ .ref (K.2.2.1 k) :: rest) (hk : k < 7) (hcn : yc.cls = RJ0) (hps : ps.map (fun i => ws[i]?) = wc.map some) (hnd : va_nd ps = true) (hlev : kc + 1 ≤ n) (hroom : co ≤ mc ∧ so ≤ ms) (hrest : (rest.map fun v => v.category).sum ≤ 8) (hna : As.length = na) (hsame : gput ws ps wc = ws) (kk : G co so (pc + 3) lv (.int (iI r) :: rest) ws) : G co so pc lv st ws :=
  g_callVk hC ps hM hv hlink d hst hk hcn hps hnd hlev hroom hrest hna (fun v w1 h => by
    obtain ⟨rfl, rfl⟩ := h
    rw [hsame]
    exact kk)
theorem g_nret {ret : Option FieldType} {nw : Nat} {post : Option Value → va_W → Prop} {v : Int} {ty : FieldType} (hR : gR G cc ret mc ms nw post) (d : decode cc pc = .ok (.ireturn, 1)) (hret : ret = some ty) (hz : narrow ty (.int (iI v)) = .int (iI v)) (hc : co ≤ mc ∧ so ≤ ms) (hw : nw ≤ ws.length) (hp : post (some (.int (iI v))) ws) : G co so pc lv [.int (iI v)] ws := hR.1 co so pc lv ws (iI v) ty hret hz d hc.1 hc.2 hw hp
end GR
theorem bShr_0 {a : Int} (h : 0 ≤ a ∧ a ≤ 6) : bShr a 0 = a := by
  have h2 : ∀ i : Fin 7, bShr (i.val : Int) 0 = (i.val : Int) := by decide +kernel
  have h3 := h2 ⟨a.toNat, by omega⟩
  have e : ((a.toNat : Nat) : Int) = a := by omega
  simp only [e] at h3
  exact h3
def jb_1 (x : Int) : Int := x - bAnd (bUsh x 1) 1431655765
def jb_2 (x : Int) : Int := bAnd x 858993459 + bAnd (bUsh x 2) 858993459
def jb_3 (x : Int) : Int := bAnd (x + bUsh x 4) 252645135
def jb_4 (x : Int) : Int := x + bUsh x 8
def jb_5 (x : Int) : Int := x + bUsh x 16
def jbc (x : Int) : Int := bAnd (jb_5 (jb_4 (jb_3 (jb_2 (jb_1 x))))) 63
set_option maxHeartbeats 4000000 in
set_option maxRecDepth 100000 in
theorem k_J3_ciN {K : gK} (i : Int) (n : Int) (r_i : rI i) (r_n : rI n) (hi : 0 ≤ i ∧ i < n) : gFn K yJ3_checkIndex_8e157 cJ3_checkIndex_8e157 3 (some .int) 0 [.int (iI i), .int (iI n), .null] [] (i) := by
  refine g_enter (by decide +kernel) (Nat.le_of_ble_eq_true rfl) (fun G hC hR => ?_)
  refine g_lv hC [0, 1, 2] [(0, _), (1, _), (2, _)] rfl ?_
  refine g_iload_n (pc := 0) hC 0 dJ3_checkIndex_8e157_0 rfl rfl ?_
  refine g_if_lt (pc := 1) hC 9 dJ3_checkIndex_8e157_1 (by decide) (by omega) (fun c1 => by exfalso; omega) (fun c1 => ?_)
  refine g_iload_n (pc := 4) hC 0 dJ3_checkIndex_8e157_4 rfl rfl ?_
  refine g_iload_n (pc := 5) hC 1 dJ3_checkIndex_8e157_5 rfl rfl ?_
  refine g_icmp_lt (pc := 6) hC 16 dJ3_checkIndex_8e157_6 (by decide) (by omega) (by omega) (fun c6 => ?_) (fun c6 => by exfalso; omega)
  refine g_iload_n (pc := 16) hC 0 dJ3_checkIndex_8e157_16 rfl rfl ?_
  exact g_iret (pc := 17) hR dJ3_checkIndex_8e157_17 rfl ⟨by omega, by omega⟩ (Nat.le_of_ble_eq_true rfl) ⟨ret_eq rfl, rfl⟩
set_option maxHeartbeats 4000000 in
set_option maxRecDepth 100000 in
theorem k_J3_ciR {K : gK} (t0 : Nat) (i : Int) (n : Int) (r_i : rI i) (r_n : rI n) (hi : 0 ≤ i ∧ i < n) : gFn K yJ3_checkIndex_8e157 cJ3_checkIndex_8e157 3 (some .int) 0 [.int (iI i), .int (iI n), .ref t0] [] (i) := by
  refine g_enter (by decide +kernel) (Nat.le_of_ble_eq_true rfl) (fun G hC hR => ?_)
  refine g_lv hC [0, 1, 2] [(0, _), (1, _), (2, _)] rfl ?_
  refine g_iload_n (pc := 0) hC 0 dJ3_checkIndex_8e157_0 rfl rfl ?_
  refine g_if_lt (pc := 1) hC 9 dJ3_checkIndex_8e157_1 (by decide) (by omega) (fun c1 => by exfalso; omega) (fun c1 => ?_)
  refine g_iload_n (pc := 4) hC 0 dJ3_checkIndex_8e157_4 rfl rfl ?_
  refine g_iload_n (pc := 5) hC 1 dJ3_checkIndex_8e157_5 rfl rfl ?_
  refine g_icmp_lt (pc := 6) hC 16 dJ3_checkIndex_8e157_6 (by decide) (by omega) (by omega) (fun c6 => ?_) (fun c6 => by exfalso; omega)
  refine g_iload_n (pc := 16) hC 0 dJ3_checkIndex_8e157_16 rfl rfl ?_
  exact g_iret (pc := 17) hR dJ3_checkIndex_8e157_17 rfl ⟨by omega, by omega⟩ (Nat.le_of_ble_eq_true rfl) ⟨ret_eq rfl, rfl⟩
set_option maxHeartbeats 4000000 in
set_option maxRecDepth 100000 in
theorem k_J0_checkIndex_df160 {K : gK} (i : Int) (n : Int) (r_i : rI i) (r_n : rI n) (hi : 0 ≤ i ∧ i < n) : gMet K yJ0_checkIndex_df160 cJ0_checkIndex_df160 2 none 1 0 0 [.int (iI i), .int (iI n)] [] (fun v9 w9 => v9 = none ∧ w9 = []) := by
  refine g_enter (by decide +kernel) (Nat.le_of_ble_eq_true rfl) (fun G hC hR => ?_)
  refine g_lv hC [0, 1] [(0, _), (1, _)] rfl ?_
  refine g_iload_n (pc := 0) hC 0 dJ0_checkIndex_df160_0 rfl rfl ?_
  refine g_iload_n (pc := 1) hC 1 dJ0_checkIndex_df160_1 rfl rfl ?_
  refine g_getSF (pc := 2) hC wf_J0_1053 dJ0_checkIndex_df160_2 ?_ (fun t9 => ?_)
  · refine g_fnS (pc := 5) hC [] (k_J3_ciN _ _ (by first | assumption | omega) (by first | assumption | omega) (by first | assumption | omega)) cl_J3_checkIndex_8e157 wm_J0_1059 dJ0_checkIndex_df160_5 rfl rfl (by decide) (by decide) ⟨by omega, by omega⟩ (Nat.le_of_ble_eq_true rfl) rfl rfl ?_
    refine g_name hC (fun x1 e_x1 => ?_)
    refine g_pop (pc := 8) hC dJ0_checkIndex_df160_8 rfl ?_
    exact g_vret (pc := 9) hR dJ0_checkIndex_df160_9 rfl ⟨by omega, by omega⟩ (Nat.le_of_ble_eq_true rfl) ⟨rfl, rfl⟩
  · refine g_fnS (pc := 5) hC [] (k_J3_ciR _ _ _ (by first | assumption | omega) (by first | assumption | omega) (by first | assumption | omega)) cl_J3_checkIndex_8e157 wm_J0_1059 dJ0_checkIndex_df160_5 rfl rfl (by decide) (by decide) ⟨by omega, by omega⟩ (Nat.le_of_ble_eq_true rfl) rfl rfl ?_
    refine g_name hC (fun x2 e_x2 => ?_)
    refine g_pop (pc := 8) hC dJ0_checkIndex_df160_8 rfl ?_
    exact g_vret (pc := 9) hR dJ0_checkIndex_df160_9 rfl ⟨by omega, by omega⟩ (Nat.le_of_ble_eq_true rfl) ⟨rfl, rfl⟩
set_option maxHeartbeats 4000000 in
set_option maxRecDepth 100000 in
theorem k_J1_charAt_3b067 {K : gK} (i : Int) (k : Nat) (r_i : rI i) (hk : k < 7) (hi : 0 ≤ i ∧ i < sl k) : gFn K yJ1_charAt_3b067 cJ1_charAt_3b067 2 (some .char) 2 [.ref (K.2.2.2.1 k), .int (iI i)] [] (sx k i) := by
  refine g_enter (by decide +kernel) (Nat.le_of_ble_eq_true rfl) (fun G hC hR => ?_)
  refine g_lv hC [0, 1] [(0, _), (1, _)] rfl ?_
  have hsl := sl_rng hk
  have hsx := sx_rng hk hi
  refine g_iload_n (pc := 0) hC 1 dJ1_charAt_3b067_0 rfl rfl ?_
  refine g_aload_n (pc := 1) hC 0 dJ1_charAt_3b067_1 rfl rfl ?_
  refine g_lenK (pc := 2) hC dJ1_charAt_3b067_2 (by first | assumption | omega) ?_
  refine g_callS (pc := 3) hC [] (k_J0_checkIndex_df160 _ _ (by first | assumption | omega) (by first | assumption | omega) (by first | assumption | omega)) cl_J0_checkIndex_df160 wm_J1_9 dJ1_charAt_3b067_3 rfl rfl (by decide) (by decide) (by omega) (Nat.le_of_ble_eq_true rfl) rfl (fun v9 w9 hq9 => ?_)
  obtain ⟨rfl, rfl⟩ := hq9
  refine g_ws hC [] rfl ?_
  refine g_st hC [] rfl ?_
  refine g_aload_n (pc := 6) hC 0 dJ1_charAt_3b067_6 rfl rfl ?_
  refine g_iload_n (pc := 7) hC 1 dJ1_charAt_3b067_7 rfl rfl ?_
  refine g_baldK (pc := 8) hC dJ1_charAt_3b067_8 (by first | assumption | omega) (by first | assumption | omega) ?_
  refine g_sipush (pc := 9) hC (255) dJ1_charAt_3b067_9 (by decide) ?_
  refine g_iand (pc := 12) hC dJ1_charAt_3b067_12 ?_
  rw [hsx.2.2]
  refine g_i2c (pc := 13) hC dJ1_charAt_3b067_13 (by omega) ?_
  exact g_nret (pc := 14) hR dJ1_charAt_3b067_14 rfl (nar_ch ⟨hsx.1, hsx.2.1⟩) ⟨by omega, by omega⟩ (Nat.le_of_ble_eq_true rfl) ⟨ret_eq rfl, rfl⟩
set_option maxHeartbeats 4000000 in
set_option maxRecDepth 100000 in
theorem k_J0_isLatin1_aae02 {K : gK} (k : Nat) (hk : k < 7) : gFn K yJ0_isLatin1_aae02 cJ0_isLatin1_aae02 1 (some .boolean) 0 [.ref (K.2.2.1 k)] [] (1) := by
  refine g_enter (by decide +kernel) (Nat.le_of_ble_eq_true rfl) (fun G hC hR => ?_)
  refine g_lv hC [0] [(0, _)] rfl ?_
  refine g_getCS (pc := 0) hC wf_J0_38 dJ0_isLatin1_aae02_0 ?_
  refine g_if_eq (pc := 3) hC 17 dJ0_isLatin1_aae02_3 (by decide) (by omega) (fun c3 => by exfalso; omega) (fun c3 => ?_)
  refine g_aload_n (pc := 6) hC 0 dJ0_isLatin1_aae02_6 rfl rfl ?_
  refine g_getKc (pc := 7) hC (by first | assumption | omega) wf_J0_15 dJ0_isLatin1_aae02_7 ?_
  refine g_if_ne (pc := 10) hC 17 dJ0_isLatin1_aae02_10 (by decide) (by omega) (fun c10 => by exfalso; omega) (fun c10 => ?_)
  refine g_iconst (pc := 13) hC dJ0_isLatin1_aae02_13 ?_
  refine g_goto (pc := 14) hC 18 dJ0_isLatin1_aae02_14 (by decide) ?_
  exact g_zret (pc := 18) hR dJ0_isLatin1_aae02_18 rfl (by omega) ⟨by omega, by omega⟩ (Nat.le_of_ble_eq_true rfl) ⟨ret_eq rfl, rfl⟩
set_option maxHeartbeats 4000000 in
set_option maxRecDepth 100000 in
theorem k_J0_coder_7d493 {K : gK} (k : Nat) (hk : k < 7) : gFn K yJ0_coder_7d493 cJ0_coder_7d493 1 (some .byte) 0 [.ref (K.2.2.1 k)] [] (0) := by
  refine g_enter (by decide +kernel) (Nat.le_of_ble_eq_true rfl) (fun G hC hR => ?_)
  refine g_lv hC [0] [(0, _)] rfl ?_
  refine g_getCS (pc := 0) hC wf_J0_38 dJ0_coder_7d493_0 ?_
  refine g_if_eq (pc := 3) hC 13 dJ0_coder_7d493_3 (by decide) (by omega) (fun c3 => by exfalso; omega) (fun c3 => ?_)
  refine g_aload_n (pc := 6) hC 0 dJ0_coder_7d493_6 rfl rfl ?_
  refine g_getKc (pc := 7) hC (by first | assumption | omega) wf_J0_15 dJ0_coder_7d493_7 ?_
  refine g_goto (pc := 10) hC 14 dJ0_coder_7d493_10 (by decide) ?_
  exact g_nret (pc := 14) hR dJ0_coder_7d493_14 rfl rfl ⟨by omega, by omega⟩ (Nat.le_of_ble_eq_true rfl) ⟨ret_eq rfl, rfl⟩
set_option maxHeartbeats 4000000 in
set_option maxRecDepth 100000 in
theorem k_J0_length_8abf5 {K : gK} (k : Nat) (hk : k < 7) : gFn K yJ0_length_8abf5 cJ0_length_8abf5 1 (some .int) 1 [.ref (K.2.2.1 k)] [] (sl k) := by
  refine g_enter (by decide +kernel) (Nat.le_of_ble_eq_true rfl) (fun G hC hR => ?_)
  refine g_lv hC [0] [(0, _)] rfl ?_
  have hsl := sl_rng hk
  refine g_aload_n (pc := 0) hC 0 dJ0_length_8abf5_0 rfl rfl ?_
  refine g_getKv (pc := 1) hC (by first | assumption | omega) wf_J0_9 dJ0_length_8abf5_1 ?_
  refine g_lenK (pc := 4) hC dJ0_length_8abf5_4 (by first | assumption | omega) ?_
  refine g_aload_n (pc := 5) hC 0 dJ0_length_8abf5_5 rfl rfl ?_
  refine g_fnVk (pc := 6) hC [] (k_J0_coder_7d493 _ (by first | assumption | omega)) cl_J0_coder_7d493 wm_J0_335 dJ0_length_8abf5_6 rfl (by first | assumption | omega) rfl rfl (by decide) (by decide) ⟨by omega, by omega⟩ (Nat.le_of_ble_eq_true rfl) rfl rfl ?_
  refine g_name hC (fun x1 e_x1 => ?_)
  refine g_ishr (pc := 9) hC dJ0_length_8abf5_9 ?_
  exact g_iret (pc := 10) hR dJ0_length_8abf5_10 rfl ⟨by omega, by omega⟩ (Nat.le_of_ble_eq_true rfl) ⟨ret_eq (by rw [e_x1]; exact bShr_0 (by omega)), rfl⟩
set_option maxHeartbeats 4000000 in
set_option maxRecDepth 100000 in
theorem k_J0_charAt_5068e {K : gK} (i : Int) (k : Nat) (r_i : rI i) (hk : k < 7) (hi : 0 ≤ i ∧ i < sl k) : gFn K yJ0_charAt_5068e cJ0_charAt_5068e 2 (some .char) 3 [.ref (K.2.2.1 k), .int (iI i)] [] (sx k i) := by
  refine g_enter (by decide +kernel) (Nat.le_of_ble_eq_true rfl) (fun G hC hR => ?_)
  refine g_lv hC [0, 1] [(0, _), (1, _)] rfl ?_
  have hsl := sl_rng hk
  have hsx := sx_rng hk hi
  refine g_aload_n (pc := 0) hC 0 dJ0_charAt_5068e_0 rfl rfl ?_
  refine g_fnVk (pc := 1) hC [] (k_J0_isLatin1_aae02 _ (by first | assumption | omega)) cl_J0_isLatin1_aae02 wm_J0_492 dJ0_charAt_5068e_1 rfl (by first | assumption | omega) rfl rfl (by decide) (by decide) ⟨by omega, by omega⟩ (Nat.le_of_ble_eq_true rfl) rfl rfl ?_
  refine g_name hC (fun x1 e_x1 => ?_)
  refine g_if_eq (pc := 4) hC 16 dJ0_charAt_5068e_4 (by decide) (by omega) (fun c4 => by exfalso; omega) (fun c4 => ?_)
  refine g_aload_n (pc := 7) hC 0 dJ0_charAt_5068e_7 rfl rfl ?_
  refine g_getKv (pc := 8) hC (by first | assumption | omega) wf_J0_9 dJ0_charAt_5068e_8 ?_
  refine g_iload_n (pc := 11) hC 1 dJ0_charAt_5068e_11 rfl rfl ?_
  refine g_fnS (pc := 12) hC [] (k_J1_charAt_3b067 _ _ (by first | assumption | omega) (by first | assumption | omega) (by first | assumption | omega)) cl_J1_charAt_3b067 wm_J0_495 dJ0_charAt_5068e_12 rfl rfl (by decide) (by decide) ⟨by omega, by omega⟩ (Nat.le_of_ble_eq_true rfl) rfl rfl ?_
  exact g_nret (pc := 15) hR dJ0_charAt_5068e_15 rfl (nar_ch ⟨hsx.1, hsx.2.1⟩) ⟨by omega, by omega⟩ (Nat.le_of_ble_eq_true rfl) ⟨ret_eq rfl, rfl⟩
set_option maxHeartbeats 4000000 in
set_option maxRecDepth 100000 in
theorem k_J6_bitCount_0f7a4 {K : gK} (x : Int) : gFn K yJ6_bitCount_0f7a4 cJ6_bitCount_0f7a4 1 (some .int) 0 [.int (iI x)] [] (jbc x) := by
  refine g_enter (by decide +kernel) (Nat.le_of_ble_eq_true rfl) (fun G hC hR => ?_)
  refine g_lv hC [0] [(0, _)] rfl ?_
  refine g_iload_n (pc := 0) hC 0 dJ6_bitCount_0f7a4_0 rfl rfl ?_
  refine g_iload_n (pc := 1) hC 0 dJ6_bitCount_0f7a4_1 rfl rfl ?_
  refine g_iconst (pc := 2) hC dJ6_bitCount_0f7a4_2 ?_
  refine g_iushr (pc := 3) hC dJ6_bitCount_0f7a4_3 ?_
  refine g_ldcw (pc := 4) hC (1431655765) wo_J6_265 (by decide) dJ6_bitCount_0f7a4_4 ?_
  refine g_iand (pc := 7) hC dJ6_bitCount_0f7a4_7 ?_
  refine g_isub (pc := 8) hC dJ6_bitCount_0f7a4_8 ?_
  refine g_istore_n (pc := 9) hC [(0, _)] dJ6_bitCount_0f7a4_9 rfl (by decide) rfl ?_
  refine g_iload_n (pc := 10) hC 0 dJ6_bitCount_0f7a4_10 rfl rfl ?_
  refine g_ldcw (pc := 11) hC (858993459) wo_J6_266 (by decide) dJ6_bitCount_0f7a4_11 ?_
  refine g_iand (pc := 14) hC dJ6_bitCount_0f7a4_14 ?_
  refine g_iload_n (pc := 15) hC 0 dJ6_bitCount_0f7a4_15 rfl rfl ?_
  refine g_iconst (pc := 16) hC dJ6_bitCount_0f7a4_16 ?_
  refine g_iushr (pc := 17) hC dJ6_bitCount_0f7a4_17 ?_
  refine g_ldcw (pc := 18) hC (858993459) wo_J6_266 (by decide) dJ6_bitCount_0f7a4_18 ?_
  refine g_iand (pc := 21) hC dJ6_bitCount_0f7a4_21 ?_
  refine g_iadd (pc := 22) hC dJ6_bitCount_0f7a4_22 ?_
  refine g_istore_n (pc := 23) hC [(0, _)] dJ6_bitCount_0f7a4_23 rfl (by decide) rfl ?_
  refine g_iload_n (pc := 24) hC 0 dJ6_bitCount_0f7a4_24 rfl rfl ?_
  refine g_iload_n (pc := 25) hC 0 dJ6_bitCount_0f7a4_25 rfl rfl ?_
  refine g_iconst (pc := 26) hC dJ6_bitCount_0f7a4_26 ?_
  refine g_iushr (pc := 27) hC dJ6_bitCount_0f7a4_27 ?_
  refine g_iadd (pc := 28) hC dJ6_bitCount_0f7a4_28 ?_
  refine g_ldcw (pc := 29) hC (252645135) wo_J6_267 (by decide) dJ6_bitCount_0f7a4_29 ?_
  refine g_iand (pc := 32) hC dJ6_bitCount_0f7a4_32 ?_
  refine g_istore_n (pc := 33) hC [(0, _)] dJ6_bitCount_0f7a4_33 rfl (by decide) rfl ?_
  refine g_iload_n (pc := 34) hC 0 dJ6_bitCount_0f7a4_34 rfl rfl ?_
  refine g_iload_n (pc := 35) hC 0 dJ6_bitCount_0f7a4_35 rfl rfl ?_
  refine g_bipush (pc := 36) hC (8) dJ6_bitCount_0f7a4_36 (by decide) ?_
  refine g_iushr (pc := 38) hC dJ6_bitCount_0f7a4_38 ?_
  refine g_iadd (pc := 39) hC dJ6_bitCount_0f7a4_39 ?_
  refine g_istore_n (pc := 40) hC [(0, _)] dJ6_bitCount_0f7a4_40 rfl (by decide) rfl ?_
  refine g_iload_n (pc := 41) hC 0 dJ6_bitCount_0f7a4_41 rfl rfl ?_
  refine g_iload_n (pc := 42) hC 0 dJ6_bitCount_0f7a4_42 rfl rfl ?_
  refine g_bipush (pc := 43) hC (16) dJ6_bitCount_0f7a4_43 (by decide) ?_
  refine g_iushr (pc := 45) hC dJ6_bitCount_0f7a4_45 ?_
  refine g_iadd (pc := 46) hC dJ6_bitCount_0f7a4_46 ?_
  refine g_istore_n (pc := 47) hC [(0, _)] dJ6_bitCount_0f7a4_47 rfl (by decide) rfl ?_
  refine g_iload_n (pc := 48) hC 0 dJ6_bitCount_0f7a4_48 rfl rfl ?_
  refine g_bipush (pc := 49) hC (63) dJ6_bitCount_0f7a4_49 (by decide) ?_
  refine g_iand (pc := 51) hC dJ6_bitCount_0f7a4_51 ?_
  exact g_iret (pc := 52) hR dJ6_bitCount_0f7a4_52 rfl ⟨by omega, by omega⟩ (Nat.le_of_ble_eq_true rfl) ⟨ret_eq rfl, rfl⟩
