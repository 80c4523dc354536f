section GR
variable {G : gG} {K : gK} {y : MethodName} {cc : ByteArray} {nL n mc ms co so pc : Nat} {lv : List (Nat × Value)} {st : List Value} {ws : va_W}
theorem g_iconst (hC : gC G K y cc nL n mc ms) {k : Int} (d : decode cc pc = .ok (.iconst k, 1)) (kk : G co so (pc + 1) lv (.int (iI k) :: st) ws) : G co so pc lv (st) ws := by
  obtain ⟨p, l, e, R, s, m, args, below, meth, c, Q, A, rfl, hx, hb, hml, hown, hts, hK, hA, hE, hF, hRf, hRl, hRc, hRs, hnm⟩ := hC
  intro H locs ls hP hD hS hl
  exact lv_iconst (v := iI k) hx hb d rfl (kk H locs ls hP hD hS hl)
theorem g_bipush (hC : gC G K y cc nL n mc ms) {k : Int} (v : Int) (d : decode cc pc = .ok (.bipush k, 2)) (hv : (Int8.ofInt k).toInt32 = iI v) (kk : G co so (pc + 2) lv (.int (iI v) :: st) ws) : G co so pc lv (st) ws := by
  obtain ⟨p, l, e, R, s, m, args, below, meth, c, Q, A, rfl, hx, hb, hml, hown, hts, hK, hA, hE, hF, hRf, hRl, hRc, hRs, hnm⟩ := hC
  intro H locs ls hP hD hS hl
  exact lv_bipush (v := iI v) hx hb d hv (kk H locs ls hP hD hS hl)
theorem g_sipush (hC : gC G K y cc nL n mc ms) {k : Int} (v : Int) (d : decode cc pc = .ok (.sipush k, 3)) (hv : (Int16.ofInt k).toInt32 = iI v) (kk : G co so (pc + 3) lv (.int (iI v) :: st) ws) : G co so pc lv (st) ws := by
  obtain ⟨p, l, e, R, s, m, args, below, meth, c, Q, A, rfl, hx, hb, hml, hown, hts, hK, hA, hE, hF, hRf, hRl, hRc, hRs, hnm⟩ := hC
  intro H locs ls hP hD hS hl
  exact lv_sipush (v := iI v) hx hb d hv (kk H locs ls hP hD hS hl)
theorem g_lconst (hC : gC G K y cc nL n mc ms) {k : Fin 2} (v : Int) (d : decode cc pc = .ok (.lconst k, 1)) (hv : Int64.ofNat (k : Nat) = iL v) (kk : G co so (pc + 1) lv (.long (iL v) :: st) ws) : G co so pc lv (st) ws := by
  obtain ⟨p, l, e, R, s, m, args, below, meth, c, Q, A, rfl, hx, hb, hml, hown, hts, hK, hA, hE, hF, hRf, hRl, hRc, hRs, hnm⟩ := hC
  intro H locs ls hP hD hS hl
  exact lv_lconst (v := iL v) hx hb d hv (kk H locs ls hP hD hS hl)
theorem g_ldc (hC : gC G K y cc nL n mc ms) {i : Nat} {x : Int32} (v : Int) (hw : Cond.constant y.cls i x ∈ TB) (hv : x = iI v) (d : decode cc pc = .ok (.ldc i, 2)) (kk : G co so (pc + 2) lv (.int (iI v) :: st) ws) : G co so pc lv (st) ws := by
  obtain ⟨p, l, e, R, s, m, args, below, meth, c, Q, A, rfl, hx, hb, hml, hown, hts, hK, hA, hE, hF, hRf, hRl, hRc, hRs, hnm⟩ := hC
  intro H locs ls hP hD hS hl
  subst hv
  exact lv_ldc hx hb hown (hts _ hw) d (kk H locs ls hP hD hS hl)
theorem g_ldcw (hC : gC G K y cc nL n mc ms) {i : Nat} {x : Int32} (v : Int) (hw : Cond.constant y.cls i x ∈ TB) (hv : x = iI v) (d : decode cc pc = .ok (.ldc_w i, 3)) (kk : G co so (pc + 3) lv (.int (iI v) :: st) ws) : G co so pc lv (st) ws := by
  obtain ⟨p, l, e, R, s, m, args, below, meth, c, Q, A, rfl, hx, hb, hml, hown, hts, hK, hA, hE, hF, hRf, hRl, hRc, hRs, hnm⟩ := hC
  intro H locs ls hP hD hS hl
  subst hv
  exact lv_ldcw hx hb hown (hts _ hw) d (kk H locs ls hP hD hS hl)
theorem g_ldc2 (hC : gC G K y cc nL n mc ms) {i : Nat} {x : Int64} (v : Int) (hw : Cond.constantLong y.cls i x ∈ TB) (hv : x = iL v) (d : decode cc pc = .ok (.ldc2_w i, 3)) (kk : G co so (pc + 3) lv (.long (iL v) :: st) ws) : G co so pc lv (st) ws := by
  obtain ⟨p, l, e, R, s, m, args, below, meth, c, Q, A, rfl, hx, hb, hml, hown, hts, hK, hA, hE, hF, hRf, hRl, hRc, hRs, hnm⟩ := hC
  intro H locs ls hP hD hS hl
  subst hv
  exact lv_ldc2 hx hb hown (hts _ hw) d (kk H locs ls hP hD hS hl)
theorem g_null (hC : gC G K y cc nL n mc ms) (d : decode cc pc = .ok (.aconst_null, 1)) (kk : G co so (pc + 1) lv (.null :: st) ws) : G co so pc lv (st) ws := by
  obtain ⟨p, l, e, R, s, m, args, below, meth, c, Q, A, rfl, hx, hb, hml, hown, hts, hK, hA, hE, hF, hRf, hRl, hRc, hRs, hnm⟩ := hC
  intro H locs ls hP hD hS hl
  exact lv_null hx hb d (kk H locs ls hP hD hS hl)
theorem g_iload_n (hC : gC G K y cc nL n mc ms) {k : Fin 4} {x : Int32} (j : Nat) {i : Nat} (d : decode cc pc = .ok (.iload_n k, 1)) (hi : (k : Nat) = i) (hk : lv[j]? = some (i, .int x)) (kk : G co so (pc + 1) lv (.int x :: st) ws) : G co so pc lv (st) ws := by
  obtain ⟨p, l, e, R, s, m, args, below, meth, c, Q, A, rfl, hx, hb, hml, hown, hts, hK, hA, hE, hF, hRf, hRl, hRc, hRs, hnm⟩ := hC
  intro H locs ls hP hD hS hl
  exact lv_iload_n hx hb d hi (lv_at hl j hk) (kk H locs ls hP hD hS hl)
theorem g_iload (hC : gC G K y cc nL n mc ms) {x : Int32} (j : Nat) {i : Nat} (d : decode cc pc = .ok (.iload i, 2)) (hk : lv[j]? = some (i, .int x)) (kk : G co so (pc + 2) lv (.int x :: st) ws) : G co so pc lv (st) ws := by
  obtain ⟨p, l, e, R, s, m, args, below, meth, c, Q, A, rfl, hx, hb, hml, hown, hts, hK, hA, hE, hF, hRf, hRl, hRc, hRs, hnm⟩ := hC
  intro H locs ls hP hD hS hl
  exact lv_iload hx hb d (lv_at hl j hk) (kk H locs ls hP hD hS hl)
theorem g_lload_n (hC : gC G K y cc nL n mc ms) {k : Fin 4} {x : Int64} (j : Nat) {i : Nat} (d : decode cc pc = .ok (.lload_n k, 1)) (hi : (k : Nat) = i) (hk : lv[j]? = some (i, .long x)) (kk : G co so (pc + 1) lv (.long x :: st) ws) : G co so pc lv (st) ws := by
  obtain ⟨p, l, e, R, s, m, args, below, meth, c, Q, A, rfl, hx, hb, hml, hown, hts, hK, hA, hE, hF, hRf, hRl, hRc, hRs, hnm⟩ := hC
  intro H locs ls hP hD hS hl
  exact lv_lload_n hx hb d hi (lv_at hl j hk) (kk H locs ls hP hD hS hl)
theorem g_lload (hC : gC G K y cc nL n mc ms) {x : Int64} (j : Nat) {i : Nat} (d : decode cc pc = .ok (.lload i, 2)) (hk : lv[j]? = some (i, .long x)) (kk : G co so (pc + 2) lv (.long x :: st) ws) : G co so pc lv (st) ws := by
  obtain ⟨p, l, e, R, s, m, args, below, meth, c, Q, A, rfl, hx, hb, hml, hown, hts, hK, hA, hE, hF, hRf, hRl, hRc, hRs, hnm⟩ := hC
  intro H locs ls hP hD hS hl
  exact lv_lload hx hb d (lv_at hl j hk) (kk H locs ls hP hD hS hl)
theorem g_aload_n (hC : gC G K y cc nL n mc ms) {k : Fin 4} {x : Nat} (j : Nat) {i : Nat} (d : decode cc pc = .ok (.aload_n k, 1)) (hi : (k : Nat) = i) (hk : lv[j]? = some (i, .ref x)) (kk : G co so (pc + 1) lv (.ref x :: st) ws) : G co so pc lv (st) ws := by
  obtain ⟨p, l, e, R, s, m, args, below, meth, c, Q, A, rfl, hx, hb, hml, hown, hts, hK, hA, hE, hF, hRf, hRl, hRc, hRs, hnm⟩ := hC
  intro H locs ls hP hD hS hl
  exact lv_aload_n hx hb d hi (lv_at hl j hk) (kk H locs ls hP hD hS hl)
theorem g_aload (hC : gC G K y cc nL n mc ms) {x : Nat} (j : Nat) {i : Nat} (d : decode cc pc = .ok (.aload i, 2)) (hk : lv[j]? = some (i, .ref x)) (kk : G co so (pc + 2) lv (.ref x :: st) ws) : G co so pc lv (st) ws := by
  obtain ⟨p, l, e, R, s, m, args, below, meth, c, Q, A, rfl, hx, hb, hml, hown, hts, hK, hA, hE, hF, hRf, hRl, hRc, hRs, hnm⟩ := hC
  intro H locs ls hP hD hS hl
  exact lv_aload hx hb d (lv_at hl j hk) (kk H locs ls hP hD hS hl)
theorem g_aload_nN (hC : gC G K y cc nL n mc ms) {k : Fin 4} (j : Nat) {i : Nat} (d : decode cc pc = .ok (.aload_n k, 1)) (hi : (k : Nat) = i) (hk : lv[j]? = some (i, .null)) (kk : G co so (pc + 1) lv (.null :: st) ws) : G co so pc lv (st) ws := by
  obtain ⟨p, l, e, R, s, m, args, below, meth, c, Q, A, rfl, hx, hb, hml, hown, hts, hK, hA, hE, hF, hRf, hRl, hRc, hRs, hnm⟩ := hC
  intro H locs ls hP hD hS hl
  exact lv_aload_nN hx hb d hi (lv_at hl j hk) (kk H locs ls hP hD hS hl)
theorem g_istore_n (hC : gC G K y cc nL n mc ms) {k : Fin 4} {x : Int32} {i : Nat} (lv' : List (Nat × Value)) (d : decode cc pc = .ok (.istore_n k, 1)) (hi : (k : Nat) = i) (hn : i < nL) (hl2 : (i, Value.int x) :: lv.filter (fun q => !(q.1 == i) && !(q.1 + 1 == i && q.2.category == 2)) = lv') (kk : G co so (pc + 1) lv' (st) ws) : G co so pc lv (.int x :: st) ws := by
  obtain ⟨p, l, e, R, s, m, args, below, meth, c, Q, A, rfl, hx, hb, hml, hown, hts, hK, hA, hE, hF, hRf, hRl, hRc, hRs, hnm⟩ := hC
  intro H locs ls hP hD hS hl
  exact lv_istore_n hx hb d hi hl hn hl2 (fun ls' hl' => kk H locs ls' hP hD hS hl')
theorem g_istore (hC : gC G K y cc nL n mc ms) {x : Int32} {i : Nat} (lv' : List (Nat × Value)) (d : decode cc pc = .ok (.istore i, 2)) (hn : i < nL) (hl2 : (i, Value.int x) :: lv.filter (fun q => !(q.1 == i) && !(q.1 + 1 == i && q.2.category == 2)) = lv') (kk : G co so (pc + 2) lv' (st) ws) : G co so pc lv (.int x :: st) ws := by
  obtain ⟨p, l, e, R, s, m, args, below, meth, c, Q, A, rfl, hx, hb, hml, hown, hts, hK, hA, hE, hF, hRf, hRl, hRc, hRs, hnm⟩ := hC
  intro H locs ls hP hD hS hl
  exact lv_istore hx hb d hl hn hl2 (fun ls' hl' => kk H locs ls' hP hD hS hl')
theorem g_lstore_n (hC : gC G K y cc nL n mc ms) {k : Fin 4} {x : Int64} {i : Nat} (lv' : List (Nat × Value)) (d : decode cc pc = .ok (.lstore_n k, 1)) (hi : (k : Nat) = i) (hn : i + 1 < nL) (hl2 : (i, Value.long x) :: lv.filter (fun q => !(q.1 == i) && (!(q.1 == i + 1) && !(q.1 + 1 == i && q.2.category == 2))) = lv') (kk : G co so (pc + 1) lv' (st) ws) : G co so pc lv (.long x :: st) ws := by
  obtain ⟨p, l, e, R, s, m, args, below, meth, c, Q, A, rfl, hx, hb, hml, hown, hts, hK, hA, hE, hF, hRf, hRl, hRc, hRs, hnm⟩ := hC
  intro H locs ls hP hD hS hl
  exact lv_lstore_n hx hb d hi hl hn hl2 (fun ls' hl' => kk H locs ls' hP hD hS hl')
theorem g_lstore (hC : gC G K y cc nL n mc ms) {x : Int64} {i : Nat} (lv' : List (Nat × Value)) (d : decode cc pc = .ok (.lstore i, 2)) (hn : i + 1 < nL) (hl2 : (i, Value.long x) :: lv.filter (fun q => !(q.1 == i) && (!(q.1 == i + 1) && !(q.1 + 1 == i && q.2.category == 2))) = lv') (kk : G co so (pc + 2) lv' (st) ws) : G co so pc lv (.long x :: st) ws := by
  obtain ⟨p, l, e, R, s, m, args, below, meth, c, Q, A, rfl, hx, hb, hml, hown, hts, hK, hA, hE, hF, hRf, hRl, hRc, hRs, hnm⟩ := hC
  intro H locs ls hP hD hS hl
  exact lv_lstore hx hb d hl hn hl2 (fun ls' hl' => kk H locs ls' hP hD hS hl')
theorem g_astore_n (hC : gC G K y cc nL n mc ms) {k : Fin 4} {x : Nat} {i : Nat} (lv' : List (Nat × Value)) (d : decode cc pc = .ok (.astore_n k, 1)) (hi : (k : Nat) = i) (hn : i < nL) (hl2 : (i, Value.ref x) :: lv.filter (fun q => !(q.1 == i) && !(q.1 + 1 == i && q.2.category == 2)) = lv') (kk : G co so (pc + 1) lv' (st) ws) : G co so pc lv (.ref x :: st) ws := by
  obtain ⟨p, l, e, R, s, m, args, below, meth, c, Q, A, rfl, hx, hb, hml, hown, hts, hK, hA, hE, hF, hRf, hRl, hRc, hRs, hnm⟩ := hC
  intro H locs ls hP hD hS hl
  exact lv_astore_n hx hb d hi hl hn hl2 (fun ls' hl' => kk H locs ls' hP hD hS hl')
theorem g_astore (hC : gC G K y cc nL n mc ms) {x : Nat} {i : Nat} (lv' : List (Nat × Value)) (d : decode cc pc = .ok (.astore i, 2)) (hn : i < nL) (hl2 : (i, Value.ref x) :: lv.filter (fun q => !(q.1 == i) && !(q.1 + 1 == i && q.2.category == 2)) = lv') (kk : G co so (pc + 2) lv' (st) ws) : G co so pc lv (.ref x :: st) ws := by
  obtain ⟨p, l, e, R, s, m, args, below, meth, c, Q, A, rfl, hx, hb, hml, hown, hts, hK, hA, hE, hF, hRf, hRl, hRc, hRs, hnm⟩ := hC
  intro H locs ls hP hD hS hl
  exact lv_astore hx hb d hl hn hl2 (fun ls' hl' => kk H locs ls' hP hD hS hl')
theorem g_astore_nN (hC : gC G K y cc nL n mc ms) {k : Fin 4} {i : Nat} (lv' : List (Nat × Value)) (d : decode cc pc = .ok (.astore_n k, 1)) (hi : (k : Nat) = i) (hn : i < nL) (hl2 : (i, Value.null) :: lv.filter (fun q => !(q.1 == i) && !(q.1 + 1 == i && q.2.category == 2)) = lv') (kk : G co so (pc + 1) lv' (st) ws) : G co so pc lv (.null :: st) ws := by
  obtain ⟨p, l, e, R, s, m, args, below, meth, c, Q, A, rfl, hx, hb, hml, hown, hts, hK, hA, hE, hF, hRf, hRl, hRc, hRs, hnm⟩ := hC
  intro H locs ls hP hD hS hl
  exact lv_astore_nN hx hb d hi hl hn hl2 (fun ls' hl' => kk H locs ls' hP hD hS hl')
theorem g_iinc (hC : gC G K y cc nL n mc ms) {i : Nat} {z a : Int} (j : Nat) (lv' : List (Nat × Value)) (d : decode cc pc = .ok (.iinc i z, 3)) (hk : lv[j]? = some (i, .int (iI a))) (hn : i < nL) (hl2 : (i, Value.int (iI (a + z))) :: lv.filter (fun q => !(q.1 == i) && !(q.1 + 1 == i && q.2.category == 2)) = lv') (kk : G co so (pc + 3) lv' (st) ws) : G co so pc lv (st) ws := by
  obtain ⟨p, l, e, R, s, m, args, below, meth, c, Q, A, rfl, hx, hb, hml, hown, hts, hK, hA, hE, hF, hRf, hRl, hRc, hRs, hnm⟩ := hC
  intro H locs ls hP hD hS hl
  exact lv_iinc (v := iI (a + z)) hx hb d hl hk (iI_add a z) hn hl2 (fun ls' hl' => kk H locs ls' hP hD hS hl')
theorem g_iadd (hC : gC G K y cc nL n mc ms) {a b : Int} (d : decode cc pc = .ok (.iadd, 1)) (kk : G co so (pc + 1) lv (.int (iI (a + b)) :: st) ws) : G co so pc lv (.int (iI b) :: .int (iI a) :: st) ws := by
  obtain ⟨p, l, e, R, s, m, args, below, meth, c, Q, A, rfl, hx, hb, hml, hown, hts, hK, hA, hE, hF, hRf, hRl, hRc, hRs, hnm⟩ := hC
  intro H locs ls hP hD hS hl
  refine lv_iadd hx hb d ?_
  rw [iI_add]
  exact kk H locs ls hP hD hS hl
theorem g_isub (hC : gC G K y cc nL n mc ms) {a b : Int} (d : decode cc pc = .ok (.isub, 1)) (kk : G co so (pc + 1) lv (.int (iI (a - b)) :: st) ws) : G co so pc lv (.int (iI b) :: .int (iI a) :: st) ws := by
  obtain ⟨p, l, e, R, s, m, args, below, meth, c, Q, A, rfl, hx, hb, hml, hown, hts, hK, hA, hE, hF, hRf, hRl, hRc, hRs, hnm⟩ := hC
  intro H locs ls hP hD hS hl
  refine lv_isub hx hb d ?_
  rw [iI_sub]
  exact kk H locs ls hP hD hS hl
theorem g_imul (hC : gC G K y cc nL n mc ms) {a b : Int} (d : decode cc pc = .ok (.imul, 1)) (kk : G co so (pc + 1) lv (.int (iI (a * b)) :: st) ws) : G co so pc lv (.int (iI b) :: .int (iI a) :: st) ws := by
  obtain ⟨p, l, e, R, s, m, args, below, meth, c, Q, A, rfl, hx, hb, hml, hown, hts, hK, hA, hE, hF, hRf, hRl, hRc, hRs, hnm⟩ := hC
  intro H locs ls hP hD hS hl
  refine lv_imul hx hb d ?_
  rw [iI_mul]
  exact kk H locs ls hP hD hS hl
theorem g_iand (hC : gC G K y cc nL n mc ms) {a b : Int} (d : decode cc pc = .ok (.iand, 1)) (kk : G co so (pc + 1) lv (.int (iI (bAnd a b)) :: st) ws) : G co so pc lv (.int (iI b) :: .int (iI a) :: st) ws := by
  obtain ⟨p, l, e, R, s, m, args, below, meth, c, Q, A, rfl, hx, hb, hml, hown, hts, hK, hA, hE, hF, hRf, hRl, hRc, hRs, hnm⟩ := hC
  intro H locs ls hP hD hS hl
  refine lv_iand hx hb d ?_
  rw [iI_and]
  exact kk H locs ls hP hD hS hl
theorem g_ior (hC : gC G K y cc nL n mc ms) {a b : Int} (d : decode cc pc = .ok (.ior, 1)) (kk : G co so (pc + 1) lv (.int (iI (bOr a b)) :: st) ws) : G co so pc lv (.int (iI b) :: .int (iI a) :: st) ws := by
  obtain ⟨p, l, e, R, s, m, args, below, meth, c, Q, A, rfl, hx, hb, hml, hown, hts, hK, hA, hE, hF, hRf, hRl, hRc, hRs, hnm⟩ := hC
  intro H locs ls hP hD hS hl
  refine lv_ior hx hb d ?_
  rw [iI_or]
  exact kk H locs ls hP hD hS hl
theorem g_ixor (hC : gC G K y cc nL n mc ms) {a b : Int} (d : decode cc pc = .ok (.ixor, 1)) (kk : G co so (pc + 1) lv (.int (iI (bXor a b)) :: st) ws) : G co so pc lv (.int (iI b) :: .int (iI a) :: st) ws := by
  obtain ⟨p, l, e, R, s, m, args, below, meth, c, Q, A, rfl, hx, hb, hml, hown, hts, hK, hA, hE, hF, hRf, hRl, hRc, hRs, hnm⟩ := hC
  intro H locs ls hP hD hS hl
  refine lv_ixor hx hb d ?_
  rw [iI_xor]
  exact kk H locs ls hP hD hS hl
theorem g_ishl (hC : gC G K y cc nL n mc ms) {a b : Int} (d : decode cc pc = .ok (.ishl, 1)) (kk : G co so (pc + 1) lv (.int (iI (bShl a b)) :: st) ws) : G co so pc lv (.int (iI b) :: .int (iI a) :: st) ws := by
  obtain ⟨p, l, e, R, s, m, args, below, meth, c, Q, A, rfl, hx, hb, hml, hown, hts, hK, hA, hE, hF, hRf, hRl, hRc, hRs, hnm⟩ := hC
  intro H locs ls hP hD hS hl
  refine lv_ishl hx hb d ?_
  rw [iI_shl]
  exact kk H locs ls hP hD hS hl
theorem g_ishr (hC : gC G K y cc nL n mc ms) {a b : Int} (d : decode cc pc = .ok (.ishr, 1)) (kk : G co so (pc + 1) lv (.int (iI (bShr a b)) :: st) ws) : G co so pc lv (.int (iI b) :: .int (iI a) :: st) ws := by
  obtain ⟨p, l, e, R, s, m, args, below, meth, c, Q, A, rfl, hx, hb, hml, hown, hts, hK, hA, hE, hF, hRf, hRl, hRc, hRs, hnm⟩ := hC
  intro H locs ls hP hD hS hl
  refine lv_ishr hx hb d ?_
  rw [iI_shr]
  exact kk H locs ls hP hD hS hl
theorem g_iushr (hC : gC G K y cc nL n mc ms) {a b : Int} (d : decode cc pc = .ok (.iushr, 1)) (kk : G co so (pc + 1) lv (.int (iI (bUsh a b)) :: st) ws) : G co so pc lv (.int (iI b) :: .int (iI a) :: st) ws := by
  obtain ⟨p, l, e, R, s, m, args, below, meth, c, Q, A, rfl, hx, hb, hml, hown, hts, hK, hA, hE, hF, hRf, hRl, hRc, hRs, hnm⟩ := hC
  intro H locs ls hP hD hS hl
  exact lv_iushr hx hb d (iI_ush a b) (kk H locs ls hP hD hS hl)
theorem g_ineg (hC : gC G K y cc nL n mc ms) {a : Int} (d : decode cc pc = .ok (.ineg, 1)) (kk : G co so (pc + 1) lv (.int (iI (-a)) :: st) ws) : G co so pc lv (.int (iI a) :: st) ws := by
  obtain ⟨p, l, e, R, s, m, args, below, meth, c, Q, A, rfl, hx, hb, hml, hown, hts, hK, hA, hE, hF, hRf, hRl, hRc, hRs, hnm⟩ := hC
  intro H locs ls hP hD hS hl
  refine lv_ineg hx hb d ?_
  rw [iI_neg]
  exact kk H locs ls hP hD hS hl
theorem g_idiv (hC : gC G K y cc nL n mc ms) {a b : Int} (d : decode cc pc = .ok (.idiv, 1)) (ha : 0 ≤ a ∧ a < 2147483648) (hbb : 0 < b ∧ b < 2147483648) (kk : G co so (pc + 1) lv (.int (iI (a / b)) :: st) ws) : G co so pc lv (.int (iI b) :: .int (iI a) :: st) ws := by
  obtain ⟨p, l, e, R, s, m, args, below, meth, c, Q, A, rfl, hx, hb, hml, hown, hts, hK, hA, hE, hF, hRf, hRl, hRc, hRs, hnm⟩ := hC
  intro H locs ls hP hD hS hl
  have hne : ¬ iI b = 0 := fun h => by
    have h2 := (iI_eq (a := b) (b := 0) (by omega) (by omega)).mp h
    omega
  refine lv_idiv hx hb d hne ?_
  rw [iI_div ha hbb]
  exact kk H locs ls hP hD hS hl
theorem g_irem (hC : gC G K y cc nL n mc ms) {a b : Int} (d : decode cc pc = .ok (.irem, 1)) (ha : 0 ≤ a ∧ a < 2147483648) (hbb : 0 < b ∧ b < 2147483648) (kk : G co so (pc + 1) lv (.int (iI (a % b)) :: st) ws) : G co so pc lv (.int (iI b) :: .int (iI a) :: st) ws := by
  obtain ⟨p, l, e, R, s, m, args, below, meth, c, Q, A, rfl, hx, hb, hml, hown, hts, hK, hA, hE, hF, hRf, hRl, hRc, hRs, hnm⟩ := hC
  intro H locs ls hP hD hS hl
  have hne : ¬ iI b = 0 := fun h => by
    have h2 := (iI_eq (a := b) (b := 0) (by omega) (by omega)).mp h
    omega
  refine lv_irem hx hb d hne ?_
  rw [iI_rem ha hbb]
  exact kk H locs ls hP hD hS hl
theorem g_ldiv (hC : gC G K y cc nL n mc ms) {a b : Int} (d : decode cc pc = .ok (.ldiv, 1)) (ha : 0 ≤ a ∧ a < 2147483648) (hbb : 0 < b ∧ b < 2147483648) (kk : G co so (pc + 1) lv (.long (iL (a / b)) :: st) ws) : G co so pc lv (.long (iL b) :: .long (iL a) :: st) ws := by
  obtain ⟨p, l, e, R, s, m, args, below, meth, c, Q, A, rfl, hx, hb, hml, hown, hts, hK, hA, hE, hF, hRf, hRl, hRc, hRs, hnm⟩ := hC
  intro H locs ls hP hD hS hl
  have hne : ¬ iL b = 0 := fun h => by
    have h2 := (iL_eq (a := b) (b := 0) (by omega) (by omega)).mp h
    omega
  refine lv_ldiv hx hb d hne ?_
  rw [iL_div ha hbb]
  exact kk H locs ls hP hD hS hl
theorem g_lrem (hC : gC G K y cc nL n mc ms) {a b : Int} (d : decode cc pc = .ok (.lrem, 1)) (ha : 0 ≤ a ∧ a < 2147483648) (hbb : 0 < b ∧ b < 2147483648) (kk : G co so (pc + 1) lv (.long (iL (a % b)) :: st) ws) : G co so pc lv (.long (iL b) :: .long (iL a) :: st) ws := by
  obtain ⟨p, l, e, R, s, m, args, below, meth, c, Q, A, rfl, hx, hb, hml, hown, hts, hK, hA, hE, hF, hRf, hRl, hRc, hRs, hnm⟩ := hC
  intro H locs ls hP hD hS hl
  have hne : ¬ iL b = 0 := fun h => by
    have h2 := (iL_eq (a := b) (b := 0) (by omega) (by omega)).mp h
    omega
  refine lv_lrem hx hb d hne ?_
  rw [iL_rem ha hbb]
  exact kk H locs ls hP hD hS hl
theorem g_ladd (hC : gC G K y cc nL n mc ms) {a b : Int} (d : decode cc pc = .ok (.ladd, 1)) (kk : G co so (pc + 1) lv (.long (iL (a + b)) :: st) ws) : G co so pc lv (.long (iL b) :: .long (iL a) :: st) ws := by
  obtain ⟨p, l, e, R, s, m, args, below, meth, c, Q, A, rfl, hx, hb, hml, hown, hts, hK, hA, hE, hF, hRf, hRl, hRc, hRs, hnm⟩ := hC
  intro H locs ls hP hD hS hl
  refine lv_ladd hx hb d ?_
  rw [iL_add]
  exact kk H locs ls hP hD hS hl
theorem g_lneg (hC : gC G K y cc nL n mc ms) {a : Int} (d : decode cc pc = .ok (.lneg, 1)) (kk : G co so (pc + 1) lv (.long (iL (-a)) :: st) ws) : G co so pc lv (.long (iL a) :: st) ws := by
  obtain ⟨p, l, e, R, s, m, args, below, meth, c, Q, A, rfl, hx, hb, hml, hown, hts, hK, hA, hE, hF, hRf, hRl, hRc, hRs, hnm⟩ := hC
  intro H locs ls hP hD hS hl
  refine lv_lneg hx hb d ?_
  rw [iL_neg]
  exact kk H locs ls hP hD hS hl
theorem g_i2l (hC : gC G K y cc nL n mc ms) {a : Int} (d : decode cc pc = .ok (.i2l, 1)) (ha : rI a) (kk : G co so (pc + 1) lv (.long (iL a) :: st) ws) : G co so pc lv (.int (iI a) :: st) ws := by
  obtain ⟨p, l, e, R, s, m, args, below, meth, c, Q, A, rfl, hx, hb, hml, hown, hts, hK, hA, hE, hF, hRf, hRl, hRc, hRs, hnm⟩ := hC
  intro H locs ls hP hD hS hl
  exact lv_i2l hx hb d (iI_long ha) (kk H locs ls hP hD hS hl)
theorem lg_cmp_iL {a b : Int} (ha : rL a) (hb : rL b) : lg_cmp (iL a) (iL b) = iI (if a < b then -1 else if a = b then 0 else 1) := by
  unfold lg_cmp
  simp only [iL_lt ha hb, iL_eq ha hb, gt_iff_lt, iL_lt hb ha]
  by_cases h1 : a < b
  · rw [if_neg (by omega : ¬ b < a), if_neg (by omega : ¬ a = b), if_pos h1]; rfl
  · by_cases h2 : a = b
    · rw [if_neg (by omega : ¬ b < a), if_pos h2, if_neg h1, if_pos h2]; rfl
    · rw [if_pos (by omega : b < a), if_neg h1, if_neg h2]; rfl
theorem g_lcmp (hC : gC G K y cc nL n mc ms) {a b : Int} (d : decode cc pc = .ok (.lcmp, 1)) (ha : rL a) (hbb : rL b) (kk : G co so (pc + 1) lv (.int (iI (if a < b then -1 else if a = b then 0 else 1)) :: st) ws) : G co so pc lv (.long (iL b) :: .long (iL a) :: st) ws := by
  obtain ⟨p, l, e, R, s, m, args, below, meth, c, Q, A, rfl, hx, hb, hml, hown, hts, hK, hA, hE, hF, hRf, hRl, hRc, hRs, hnm⟩ := hC
  intro H locs ls hP hD hS hl
  refine W.lcmp hx hb d ?_
  rw [lg_cmp_iL ha hbb]
  exact kk H locs ls hP hD hS hl
theorem g_dup (hC : gC G K y cc nL n mc ms) {v : Value} (d : decode cc pc = .ok (.dup, 1)) (hv : v.category = 1) (kk : G co so (pc + 1) lv (v :: v :: st) ws) : G co so pc lv (v :: st) ws := by
  obtain ⟨p, l, e, R, s, m, args, below, meth, c, Q, A, rfl, hx, hb, hml, hown, hts, hK, hA, hE, hF, hRf, hRl, hRc, hRs, hnm⟩ := hC
  intro H locs ls hP hD hS hl
  exact lv_dup hx hb d hv (kk H locs ls hP hD hS hl)
theorem g_dup2 (hC : gC G K y cc nL n mc ms) {v w : Value} (d : decode cc pc = .ok (.dup2, 1)) (hv : v.category = 1) (hw : w.category = 1) (kk : G co so (pc + 1) lv (v :: w :: v :: w :: st) ws) : G co so pc lv (v :: w :: st) ws := by
  obtain ⟨p, l, e, R, s, m, args, below, meth, c, Q, A, rfl, hx, hb, hml, hown, hts, hK, hA, hE, hF, hRf, hRl, hRc, hRs, hnm⟩ := hC
  intro H locs ls hP hD hS hl
  exact lv_dup2_11 hx hb d hv hw (kk H locs ls hP hD hS hl)
theorem g_pop (hC : gC G K y cc nL n mc ms) {v : Value} (d : decode cc pc = .ok (.pop, 1)) (hv : v.category = 1) (kk : G co so (pc + 1) lv (st) ws) : G co so pc lv (v :: st) ws := by
  obtain ⟨p, l, e, R, s, m, args, below, meth, c, Q, A, rfl, hx, hb, hml, hown, hts, hK, hA, hE, hF, hRf, hRl, hRc, hRs, hnm⟩ := hC
  intro H locs ls hP hD hS hl
  exact lv_pop hx hb d hv (kk H locs ls hP hD hS hl)
theorem g_icmp_eq (hC : gC G K y cc nL n mc ms) {a b : Int} {off : Int} (tgt : Nat) (d : decode cc pc = .ok (.if_icmp .eq off, 3)) (ht : (pc : Int) + off = (tgt : Int)) (ha : rI a) (hbb : rI b) (kt : a = b → G co so tgt lv (st) ws) (kf : ¬ a = b → G co so (pc + 3) lv (st) ws) : G co so pc lv (.int (iI b) :: .int (iI a) :: st) ws := by
  obtain ⟨p, l, e, R, s, m, args, below, meth, c, Q, A, rfl, hx, hb, hml, hown, hts, hK, hA, hE, hF, hRf, hRl, hRc, hRs, hnm⟩ := hC
  intro H locs ls hP hD hS hl
  exact lv_icmp_eq hx hb d ht (fun h => kt ((iI_eq ha hbb).mp h) H locs ls hP hD hS hl) (fun h => kf (fun q => h ((iI_eq ha hbb).mpr q)) H locs ls hP hD hS hl)
theorem g_if_eq (hC : gC G K y cc nL n mc ms) {a : Int} {off : Int} (tgt : Nat) (d : decode cc pc = .ok (.ifCond .eq off, 3)) (ht : (pc : Int) + off = (tgt : Int)) (ha : rI a) (kt : a = 0 → G co so tgt lv (st) ws) (kf : ¬ a = 0 → G co so (pc + 3) lv (st) ws) : G co so pc lv (.int (iI a) :: st) ws := by
  obtain ⟨p, l, e, R, s, m, args, below, meth, c, Q, A, rfl, hx, hb, hml, hown, hts, hK, hA, hE, hF, hRf, hRl, hRc, hRs, hnm⟩ := hC
  intro H locs ls hP hD hS hl
  exact lv_if_eq hx hb d ht (fun h => kt ((iI_eq (a := a) (b := 0) ha (by omega)).mp h) H locs ls hP hD hS hl) (fun h => kf (fun q => h ((iI_eq (a := a) (b := 0) ha (by omega)).mpr q)) H locs ls hP hD hS hl)
theorem g_icmp_ne (hC : gC G K y cc nL n mc ms) {a b : Int} {off : Int} (tgt : Nat) (d : decode cc pc = .ok (.if_icmp .ne off, 3)) (ht : (pc : Int) + off = (tgt : Int)) (ha : rI a) (hbb : rI b) (kt : ¬ a = b → G co so tgt lv (st) ws) (kf : a = b → G co so (pc + 3) lv (st) ws) : G co so pc lv (.int (iI b) :: .int (iI a) :: st) ws := by
  obtain ⟨p, l, e, R, s, m, args, below, meth, c, Q, A, rfl, hx, hb, hml, hown, hts, hK, hA, hE, hF, hRf, hRl, hRc, hRs, hnm⟩ := hC
  intro H locs ls hP hD hS hl
  exact lv_icmp_ne hx hb d ht (fun h => kt (fun q => h ((iI_eq ha hbb).mpr q)) H locs ls hP hD hS hl) (fun h => kf ((iI_eq ha hbb).mp h) H locs ls hP hD hS hl)
theorem g_if_ne (hC : gC G K y cc nL n mc ms) {a : Int} {off : Int} (tgt : Nat) (d : decode cc pc = .ok (.ifCond .ne off, 3)) (ht : (pc : Int) + off = (tgt : Int)) (ha : rI a) (kt : ¬ a = 0 → G co so tgt lv (st) ws) (kf : a = 0 → G co so (pc + 3) lv (st) ws) : G co so pc lv (.int (iI a) :: st) ws := by
  obtain ⟨p, l, e, R, s, m, args, below, meth, c, Q, A, rfl, hx, hb, hml, hown, hts, hK, hA, hE, hF, hRf, hRl, hRc, hRs, hnm⟩ := hC
  intro H locs ls hP hD hS hl
  exact lv_if_ne hx hb d ht (fun h => kt (fun q => h ((iI_eq (a := a) (b := 0) ha (by omega)).mpr q)) H locs ls hP hD hS hl) (fun h => kf ((iI_eq (a := a) (b := 0) ha (by omega)).mp h) H locs ls hP hD hS hl)
theorem g_icmp_lt (hC : gC G K y cc nL n mc ms) {a b : Int} {off : Int} (tgt : Nat) (d : decode cc pc = .ok (.if_icmp .lt off, 3)) (ht : (pc : Int) + off = (tgt : Int)) (ha : rI a) (hbb : rI b) (kt : a < b → G co so tgt lv (st) ws) (kf : ¬ a < b → G co so (pc + 3) lv (st) ws) : G co so pc lv (.int (iI b) :: .int (iI a) :: st) ws := by
  obtain ⟨p, l, e, R, s, m, args, below, meth, c, Q, A, rfl, hx, hb, hml, hown, hts, hK, hA, hE, hF, hRf, hRl, hRc, hRs, hnm⟩ := hC
  intro H locs ls hP hD hS hl
  exact lv_icmp_lt hx hb d ht (fun h => kt ((iI_lt ha hbb).mp h) H locs ls hP hD hS hl) (fun h => kf (fun q => h ((iI_lt ha hbb).mpr q)) H locs ls hP hD hS hl)
theorem g_if_lt (hC : gC G K y cc nL n mc ms) {a : Int} {off : Int} (tgt : Nat) (d : decode cc pc = .ok (.ifCond .lt off, 3)) (ht : (pc : Int) + off = (tgt : Int)) (ha : rI a) (kt : a < 0 → G co so tgt lv (st) ws) (kf : ¬ a < 0 → G co so (pc + 3) lv (st) ws) : G co so pc lv (.int (iI a) :: st) ws := by
  obtain ⟨p, l, e, R, s, m, args, below, meth, c, Q, A, rfl, hx, hb, hml, hown, hts, hK, hA, hE, hF, hRf, hRl, hRc, hRs, hnm⟩ := hC
  intro H locs ls hP hD hS hl
  exact lv_if_lt hx hb d ht (fun h => kt ((iI_lt (a := a) (b := 0) ha (by omega)).mp h) H locs ls hP hD hS hl) (fun h => kf (fun q => h ((iI_lt (a := a) (b := 0) ha (by omega)).mpr q)) H locs ls hP hD hS hl)
theorem g_icmp_ge (hC : gC G K y cc nL n mc ms) {a b : Int} {off : Int} (tgt : Nat) (d : decode cc pc = .ok (.if_icmp .ge off, 3)) (ht : (pc : Int) + off = (tgt : Int)) (ha : rI a) (hbb : rI b) (kt : b ≤ a → G co so tgt lv (st) ws) (kf : ¬ b ≤ a → G co so (pc + 3) lv (st) ws) : G co so pc lv (.int (iI b) :: .int (iI a) :: st) ws := by
  obtain ⟨p, l, e, R, s, m, args, below, meth, c, Q, A, rfl, hx, hb, hml, hown, hts, hK, hA, hE, hF, hRf, hRl, hRc, hRs, hnm⟩ := hC
  intro H locs ls hP hD hS hl
  exact lv_icmp_ge hx hb d ht (fun h => kt ((iI_le hbb ha).mp h) H locs ls hP hD hS hl) (fun h => kf (fun q => h ((iI_le hbb ha).mpr q)) H locs ls hP hD hS hl)
theorem g_if_ge (hC : gC G K y cc nL n mc ms) {a : Int} {off : Int} (tgt : Nat) (d : decode cc pc = .ok (.ifCond .ge off, 3)) (ht : (pc : Int) + off = (tgt : Int)) (ha : rI a) (kt : 0 ≤ a → G co so tgt lv (st) ws) (kf : ¬ 0 ≤ a → G co so (pc + 3) lv (st) ws) : G co so pc lv (.int (iI a) :: st) ws := by
  obtain ⟨p, l, e, R, s, m, args, below, meth, c, Q, A, rfl, hx, hb, hml, hown, hts, hK, hA, hE, hF, hRf, hRl, hRc, hRs, hnm⟩ := hC
  intro H locs ls hP hD hS hl
  exact lv_if_ge hx hb d ht (fun h => kt ((iI_le (a := 0) (b := a) (by omega) ha).mp h) H locs ls hP hD hS hl) (fun h => kf (fun q => h ((iI_le (a := 0) (b := a) (by omega) ha).mpr q)) H locs ls hP hD hS hl)
theorem g_icmp_gt (hC : gC G K y cc nL n mc ms) {a b : Int} {off : Int} (tgt : Nat) (d : decode cc pc = .ok (.if_icmp .gt off, 3)) (ht : (pc : Int) + off = (tgt : Int)) (ha : rI a) (hbb : rI b) (kt : b < a → G co so tgt lv (st) ws) (kf : ¬ b < a → G co so (pc + 3) lv (st) ws) : G co so pc lv (.int (iI b) :: .int (iI a) :: st) ws := by
  obtain ⟨p, l, e, R, s, m, args, below, meth, c, Q, A, rfl, hx, hb, hml, hown, hts, hK, hA, hE, hF, hRf, hRl, hRc, hRs, hnm⟩ := hC
  intro H locs ls hP hD hS hl
  exact lv_icmp_gt hx hb d ht (fun h => kt ((iI_lt hbb ha).mp h) H locs ls hP hD hS hl) (fun h => kf (fun q => h ((iI_lt hbb ha).mpr q)) H locs ls hP hD hS hl)
theorem g_if_gt (hC : gC G K y cc nL n mc ms) {a : Int} {off : Int} (tgt : Nat) (d : decode cc pc = .ok (.ifCond .gt off, 3)) (ht : (pc : Int) + off = (tgt : Int)) (ha : rI a) (kt : 0 < a → G co so tgt lv (st) ws) (kf : ¬ 0 < a → G co so (pc + 3) lv (st) ws) : G co so pc lv (.int (iI a) :: st) ws := by
  obtain ⟨p, l, e, R, s, m, args, below, meth, c, Q, A, rfl, hx, hb, hml, hown, hts, hK, hA, hE, hF, hRf, hRl, hRc, hRs, hnm⟩ := hC
  intro H locs ls hP hD hS hl
  exact lv_if_gt hx hb d ht (fun h => kt ((iI_lt (a := 0) (b := a) (by omega) ha).mp h) H locs ls hP hD hS hl) (fun h => kf (fun q => h ((iI_lt (a := 0) (b := a) (by omega) ha).mpr q)) H locs ls hP hD hS hl)
theorem g_icmp_le (hC : gC G K y cc nL n mc ms) {a b : Int} {off : Int} (tgt : Nat) (d : decode cc pc = .ok (.if_icmp .le off, 3)) (ht : (pc : Int) + off = (tgt : Int)) (ha : rI a) (hbb : rI b) (kt : a ≤ b → G co so tgt lv (st) ws) (kf : ¬ a ≤ b → G co so (pc + 3) lv (st) ws) : G co so pc lv (.int (iI b) :: .int (iI a) :: st) ws := by
  obtain ⟨p, l, e, R, s, m, args, below, meth, c, Q, A, rfl, hx, hb, hml, hown, hts, hK, hA, hE, hF, hRf, hRl, hRc, hRs, hnm⟩ := hC
  intro H locs ls hP hD hS hl
  exact lv_icmp_le hx hb d ht (fun h => kt ((iI_le ha hbb).mp h) H locs ls hP hD hS hl) (fun h => kf (fun q => h ((iI_le ha hbb).mpr q)) H locs ls hP hD hS hl)
theorem g_if_le (hC : gC G K y cc nL n mc ms) {a : Int} {off : Int} (tgt : Nat) (d : decode cc pc = .ok (.ifCond .le off, 3)) (ht : (pc : Int) + off = (tgt : Int)) (ha : rI a) (kt : a ≤ 0 → G co so tgt lv (st) ws) (kf : ¬ a ≤ 0 → G co so (pc + 3) lv (st) ws) : G co so pc lv (.int (iI a) :: st) ws := by
  obtain ⟨p, l, e, R, s, m, args, below, meth, c, Q, A, rfl, hx, hb, hml, hown, hts, hK, hA, hE, hF, hRf, hRl, hRc, hRs, hnm⟩ := hC
  intro H locs ls hP hD hS hl
  exact lv_if_le hx hb d ht (fun h => kt ((iI_le (a := a) (b := 0) ha (by omega)).mp h) H locs ls hP hD hS hl) (fun h => kf (fun q => h ((iI_le (a := a) (b := 0) ha (by omega)).mpr q)) H locs ls hP hD hS hl)
theorem g_goto (hC : gC G K y cc nL n mc ms) {off : Int} (tgt : Nat) (d : decode cc pc = .ok (.goto off, 3)) (ht : (pc : Int) + off = (tgt : Int)) (kk : G co so tgt lv (st) ws) : G co so pc lv (st) ws := by
  obtain ⟨p, l, e, R, s, m, args, below, meth, c, Q, A, rfl, hx, hb, hml, hown, hts, hK, hA, hE, hF, hRf, hRl, hRc, hRs, hnm⟩ := hC
  intro H locs ls hP hD hS hl
  exact lv_goto hx hb d ht (kk H locs ls hP hD hS hl)
theorem g_tswIn (hC : gC G K y cc nL n mc ms) {dflt lo hi : Int} {offs : Array Int} {len : Nat} {a : Int} (v : Int) {off : Int} (tgt : Nat) (d : decode cc pc = .ok (.tableswitch dflt lo hi offs, len)) (hv : a = v) (hr : rI v ∧ lo ≤ v ∧ v ≤ hi) (ho : offs[(v - lo).toNat]? = some off) (ht : (pc : Int) + off = (tgt : Int)) (kk : G co so tgt lv (st) ws) : G co so pc lv (.int (iI a) :: st) ws := by
  obtain ⟨p, l, e, R, s, m, args, below, meth, c, Q, A, rfl, hx, hb, hml, hown, hts, hK, hA, hE, hF, hRf, hRl, hRc, hRs, hnm⟩ := hC
  intro H locs ls hP hD hS hl
  subst hv
  exact lv_tableIn hx hb d (by rw [iI_toInt hr.1]; omega) (by rw [iI_toInt hr.1]; omega) (by rw [iI_toInt hr.1]; exact ho) ht (kk H locs ls hP hD hS hl)
theorem g_tswOut (hC : gC G K y cc nL n mc ms) {dflt lo hi : Int} {offs : Array Int} {len : Nat} {a : Int} (tgt : Nat) (d : decode cc pc = .ok (.tableswitch dflt lo hi offs, len)) (hr : rI a) (hv : a < lo ∨ hi < a) (ht : (pc : Int) + dflt = (tgt : Int)) (kk : G co so tgt lv (st) ws) : G co so pc lv (.int (iI a) :: st) ws := by
  obtain ⟨p, l, e, R, s, m, args, below, meth, c, Q, A, rfl, hx, hb, hml, hown, hts, hK, hA, hE, hF, hRf, hRl, hRc, hRs, hnm⟩ := hC
  intro H locs ls hP hD hS hl
  exact lv_tableOut hx hb d (by rw [iI_toInt hr]; exact hv) ht (kk H locs ls hP hD hS hl)
theorem g_lsw (hC : gC G K y cc nL n mc ms) {dflt : Int} {ps : Array (Int × Int)} {len : Nat} {a : Int} {off : Int} (tgt : Nat) (d : decode cc pc = .ok (.lookupswitch dflt ps, len)) (hp : (ps.toList.zip (ps.toList.drop 1)).all (fun (a, next) => a.1 < next.1) = true) (hr : rI a) (ho : Op.lookupswitch.offset ps.toList dflt a = off) (ht : (pc : Int) + off = (tgt : Int)) (kk : G co so tgt lv (st) ws) : G co so pc lv (.int (iI a) :: st) ws := by
  obtain ⟨p, l, e, R, s, m, args, below, meth, c, Q, A, rfl, hx, hb, hml, hown, hts, hK, hA, hE, hF, hRf, hRl, hRc, hRs, hnm⟩ := hC
  intro H locs ls hP hD hS hl
  exact lv_lookup hx hb d hp (by rw [iI_toInt hr]; exact ho) ht (kk H locs ls hP hD hS hl)
theorem g_ifnullR (hC : gC G K y cc nL n mc ms) {x : Nat} {off : Int} (d : decode cc pc = .ok (.ifnull off, 3)) (kk : G co so (pc + 3) lv (st) ws) : G co so pc lv (.ref x :: st) ws := by
  obtain ⟨p, l, e, R, s, m, args, below, meth, c, Q, A, rfl, hx, hb, hml, hown, hts, hK, hA, hE, hF, hRf, hRl, hRc, hRs, hnm⟩ := hC
  intro H locs ls hP hD hS hl
  exact lv_ifnull hx hb d (kk H locs ls hP hD hS hl)
theorem g_ifnullN (hC : gC G K y cc nL n mc ms) {off : Int} (tgt : Nat) (d : decode cc pc = .ok (.ifnull off, 3)) (ht : (pc : Int) + off = (tgt : Int)) (kk : G co so tgt lv (st) ws) : G co so pc lv (.null :: st) ws := by
  obtain ⟨p, l, e, R, s, m, args, below, meth, c, Q, A, rfl, hx, hb, hml, hown, hts, hK, hA, hE, hF, hRf, hRl, hRc, hRs, hnm⟩ := hC
  intro H locs ls hP hD hS hl
  exact lv_ifnullN hx hb d ht (kk H locs ls hP hD hS hl)
theorem g_ifnonnullR (hC : gC G K y cc nL n mc ms) {x : Nat} {off : Int} (tgt : Nat) (d : decode cc pc = .ok (.ifnonnull off, 3)) (ht : (pc : Int) + off = (tgt : Int)) (kk : G co so tgt lv (st) ws) : G co so pc lv (.ref x :: st) ws := by
  obtain ⟨p, l, e, R, s, m, args, below, meth, c, Q, A, rfl, hx, hb, hml, hown, hts, hK, hA, hE, hF, hRf, hRl, hRc, hRs, hnm⟩ := hC
  intro H locs ls hP hD hS hl
  exact lv_ifnonnull hx hb d ht (kk H locs ls hP hD hS hl)
theorem g_ifnonnullN (hC : gC G K y cc nL n mc ms) {off : Int} (d : decode cc pc = .ok (.ifnonnull off, 3)) (kk : G co so (pc + 3) lv (st) ws) : G co so pc lv (.null :: st) ws := by
  obtain ⟨p, l, e, R, s, m, args, below, meth, c, Q, A, rfl, hx, hb, hml, hown, hts, hK, hA, hE, hF, hRf, hRl, hRc, hRs, hnm⟩ := hC
  intro H locs ls hP hD hS hl
  exact lv_ifnonnullN hx hb d (kk H locs ls hP hD hS hl)
theorem g_ws (hC : gC G K y cc nL n mc ms) (ws' : va_W) (h : ws = ws') (kk : G co so pc lv (st) ws') : G co so pc lv (st) ws := by
  obtain ⟨p, l, e, R, s, m, args, below, meth, c, Q, A, rfl, hx, hb, hml, hown, hts, hK, hA, hE, hF, hRf, hRl, hRc, hRs, hnm⟩ := hC
  intro H locs ls hP hD hS hl
  subst h
  exact kk H locs ls hP hD hS hl
theorem g_st (hC : gC G K y cc nL n mc ms) (st' : List Value) (h : st = st') (kk : G co so pc lv (st') ws) : G co so pc lv (st) ws := by
  obtain ⟨p, l, e, R, s, m, args, below, meth, c, Q, A, rfl, hx, hb, hml, hown, hts, hK, hA, hE, hF, hRf, hRl, hRc, hRs, hnm⟩ := hC
  intro H locs ls hP hD hS hl
  subst h
  exact kk H locs ls hP hD hS hl
theorem g_lv (hC : gC G K y cc nL n mc ms) (is : List Nat) (lv' : List (Nat × Value)) (h : lv_pick lv is = lv') (kk : G co so pc lv' (st) ws) : G co so pc lv (st) ws := by
  obtain ⟨p, l, e, R, s, m, args, below, meth, c, Q, A, rfl, hx, hb, hml, hown, hts, hK, hA, hE, hF, hRf, hRl, hRc, hRs, hnm⟩ := hC
  intro H locs ls hP hD hS hl
  exact kk H locs ls hP hD hS (lv_sub hl is h)
theorem g_wsub (hC : gC G K y cc nL n mc ms) (is : List Nat) (ws' : va_W) (hnd : va_nd is = true) (h : is.map (fun i => ws[i]?) = ws'.map some) (kk : G co so pc lv (st) ws') : G co so pc lv (st) ws := by
  obtain ⟨p, l, e, R, s, m, args, below, meth, c, Q, A, rfl, hx, hb, hml, hown, hts, hK, hA, hE, hF, hRf, hRl, hRc, hRs, hnm⟩ := hC
  intro H locs ls hP hD hS hl
  exact kk H locs ls (fun k q hk => by
    obtain ⟨i, -, hi⟩ := g_places h k q hk
    exact hP i q hi) (hD.sub is hnd h) hS hl
theorem g_name (hC : gC G K y cc nL n mc ms) {x : Int} (kk : ∀ z : Int, z = x → G co so pc lv (.int (iI z) :: st) ws) : G co so pc lv (.int (iI x) :: st) ws := by
  obtain ⟨p, l, e, R, s, m, args, below, meth, c, Q, A, rfl, hx, hb, hml, hown, hts, hK, hA, hE, hF, hRf, hRl, hRc, hRs, hnm⟩ := hC
  intro H locs ls hP hD hS hl
  exact kk x rfl H locs ls hP hD hS hl
theorem g_wide (hC : gC G K y cc nL n mc ms) (co' so' : Nat) (h1 : co ≤ co') (h2 : so ≤ so') (kk : G co' so' pc lv (st) ws) : G co so pc lv (st) ws := by
  obtain ⟨p, l, e, R, s, m, args, below, meth, c, Q, A, rfl, hx, hb, hml, hown, hts, hK, hA, hE, hF, hRf, hRl, hRc, hRs, hnm⟩ := hC
  intro H locs ls hP hD hS hl
  exact W.widen h1 h2 (kk H locs ls hP hD hS hl)
theorem g_get (hC : gC G K y cc nL n mc ms) {index ci k a : Nat} {fin : Bool} {ty : FieldType} {fs : List Value} {v : Value} (q : Nat) (hL : gLk y.cls index ci k fin ty) (d : decode cc pc = .ok (.getfield index, 3)) (hq : ws[q]? = some (cO a ci fs)) (hv : fs[k]? = some v) (kk : G co so (pc + 3) lv (v :: st) ws) : G co so pc lv (.ref a :: st) ws := by
  obtain ⟨p, l, e, R, s, m, args, below, meth, c, Q, A, rfl, hx, hb, hml, hown, hts, hK, hA, hE, hF, hRf, hRl, hRc, hRs, hnm⟩ := hC
  intro H locs ls hP hD hS hl
  obtain ⟨C, T, N, ty0, hc, hin, hty, hnn, hk, hlink, hfin, hty0, hC⟩ := hL
  exact va_get hx hb hts hin hown hK hP q hq hc k hk (hts _ hlink) (fun _ h => h) hv d (kk H locs ls hP hD hS hl)
theorem z_nar {b : Int} (h : b = 0 ∨ b = 1) : narrow .boolean (.int (iI b)) = .int (iI b) := by
  rcases h with rfl | rfl <;> rfl
theorem z_fit {b : Int} (h : b = 0 ∨ b = 1) : fits .boolean (.int (iI b)) = true := by
  rcases h with rfl | rfl <;> rfl
theorem z_vp {b : Int} (h : b = 0 ∨ b = 1) : vp_nar .boolean (iI b) = iI b := by
  rcases h with rfl | rfl <;> rfl
theorem g_putI (hC : gC G K y cc nL n mc ms) {index ci k a : Nat} {fs : List Value} {x : Int} (q : Nat) (ws' : va_W) (hL : gLk y.cls index ci k false .int) (d : decode cc pc = .ok (.putfield index, 3)) (hq : ws[q]? = some (cO a ci fs)) (hkl : k < fs.length) (hw : ws.set q (cO a ci (fs.set k (.int (iI x)))) = ws') (kk : G co so (pc + 3) lv (st) ws') : G co so pc lv (.int (iI x) :: .ref a :: st) ws := by
  obtain ⟨p, l, e, R, s, m, args, below, meth, c, Q, A, rfl, hx, hb, hml, hown, hts, hK, hA, hE, hF, hRf, hRl, hRc, hRs, hnm⟩ := hC
  intro H locs ls hP hD hS hl
  obtain ⟨C, T, N, ty0, hc, hin, hty, hnn, hk, hlink, hfin, hty0, hC⟩ := hL
  subst hw
  exact va_put hx hb hts hin ty0 hty hnn hown hK hP hD hS q hq hc k hk (hts _ hlink) (fun _ h => h) hfin (by rw [hty k hk, hty0]) rfl rfl hkl d (fun H1 locs1 hP1 hD1 hS1 => kk H1 locs1 ls hP1 hD1 hS1 hl)
theorem g_putZ (hC : gC G K y cc nL n mc ms) {index ci k a : Nat} {fs : List Value} {x : Int} (q : Nat) (ws' : va_W) (hL : gLk y.cls index ci k false .boolean) (d : decode cc pc = .ok (.putfield index, 3)) (hq : ws[q]? = some (cO a ci fs)) (hkl : k < fs.length) (hz : x = 0 ∨ x = 1) (hw : ws.set q (cO a ci (fs.set k (.int (iI x)))) = ws') (kk : G co so (pc + 3) lv (st) ws') : G co so pc lv (.int (iI x) :: .ref a :: st) ws := by
  obtain ⟨p, l, e, R, s, m, args, below, meth, c, Q, A, rfl, hx, hb, hml, hown, hts, hK, hA, hE, hF, hRf, hRl, hRc, hRs, hnm⟩ := hC
  intro H locs ls hP hD hS hl
  obtain ⟨C, T, N, ty0, hc, hin, hty, hnn, hk, hlink, hfin, hty0, hC⟩ := hL
  subst hw
  exact va_put hx hb hts hin ty0 hty hnn hown hK hP hD hS q hq hc k hk (hts _ hlink) (fun _ h => h) hfin (by rw [hty k hk, hty0]) (z_nar hz) (z_fit hz) hkl d (fun H1 locs1 hP1 hD1 hS1 => kk H1 locs1 ls hP1 hD1 hS1 hl)
theorem g_putA (hC : gC G K y cc nL n mc ms) {index ci k a : Nat} {fs : List Value} {x : Nat} {t : FieldType} (q : Nat) (ws' : va_W) (hL : gLk y.cls index ci k false (.array t)) (d : decode cc pc = .ok (.putfield index, 3)) (hq : ws[q]? = some (cO a ci fs)) (hkl : k < fs.length) (hw : ws.set q (cO a ci (fs.set k (.ref x))) = ws') (kk : G co so (pc + 3) lv (st) ws') : G co so pc lv (.ref x :: .ref a :: st) ws := by
  obtain ⟨p, l, e, R, s, m, args, below, meth, c, Q, A, rfl, hx, hb, hml, hown, hts, hK, hA, hE, hF, hRf, hRl, hRc, hRs, hnm⟩ := hC
  intro H locs ls hP hD hS hl
  obtain ⟨C, T, N, ty0, hc, hin, hty, hnn, hk, hlink, hfin, hty0, hC⟩ := hL
  subst hw
  exact va_put hx hb hts hin ty0 hty hnn hown hK hP hD hS q hq hc k hk (hts _ hlink) (fun _ h => h) hfin (by rw [hty k hk, hty0]) rfl rfl hkl d (fun H1 locs1 hP1 hD1 hS1 => kk H1 locs1 ls hP1 hD1 hS1 hl)
theorem g_putR (hC : gC G K y cc nL n mc ms) {index ci k a : Nat} {fs : List Value} {x : Nat} {t : String} (q : Nat) (ws' : va_W) (hL : gLk y.cls index ci k false (.object t)) (d : decode cc pc = .ok (.putfield index, 3)) (hq : ws[q]? = some (cO a ci fs)) (hkl : k < fs.length) (hw : ws.set q (cO a ci (fs.set k (.ref x))) = ws') (kk : G co so (pc + 3) lv (st) ws') : G co so pc lv (.ref x :: .ref a :: st) ws := by
  obtain ⟨p, l, e, R, s, m, args, below, meth, c, Q, A, rfl, hx, hb, hml, hown, hts, hK, hA, hE, hF, hRf, hRl, hRc, hRs, hnm⟩ := hC
  intro H locs ls hP hD hS hl
  obtain ⟨C, T, N, ty0, hc, hin, hty, hnn, hk, hlink, hfin, hty0, hC⟩ := hL
  subst hw
  exact va_put hx hb hts hin ty0 hty hnn hown hK hP hD hS q hq hc k hk (hts _ hlink) (fun _ h => h) hfin (by rw [hty k hk, hty0]) rfl rfl hkl d (fun H1 locs1 hP1 hD1 hS1 => kk H1 locs1 ls hP1 hD1 hS1 hl)
theorem g_putN (hC : gC G K y cc nL n mc ms) {index ci k a : Nat} {fs : List Value} {t : String} (q : Nat) (ws' : va_W) (hL : gLk y.cls index ci k false (.object t)) (d : decode cc pc = .ok (.putfield index, 3)) (hq : ws[q]? = some (cO a ci fs)) (hkl : k < fs.length) (hw : ws.set q (cO a ci (fs.set k (.null))) = ws') (kk : G co so (pc + 3) lv (st) ws') : G co so pc lv (.null :: .ref a :: st) ws := by
  obtain ⟨p, l, e, R, s, m, args, below, meth, c, Q, A, rfl, hx, hb, hml, hown, hts, hK, hA, hE, hF, hRf, hRl, hRc, hRs, hnm⟩ := hC
  intro H locs ls hP hD hS hl
  obtain ⟨C, T, N, ty0, hc, hin, hty, hnn, hk, hlink, hfin, hty0, hC⟩ := hL
  subst hw
  exact va_put hx hb hts hin ty0 hty hnn hown hK hP hD hS q hq hc k hk (hts _ hlink) (fun _ h => h) hfin (by rw [hty k hk, hty0]) rfl rfl hkl d (fun H1 locs1 hP1 hD1 hS1 => kk H1 locs1 ls hP1 hD1 hS1 hl)
theorem g_putFA (hC : gC G K y cc nL n mc ms) {index ci k a : Nat} {fs : List Value} {cq : vw_C} {x : Nat} {t : FieldType} (q : Nat) (ws' : va_W) (hL : gLk y.cls index ci k true (.array t)) (d : decode cc pc = .ok (.putfield index, 3)) (hq : ws[q]? = some (cO a ci fs)) (hkl : k < fs.length) (hin9 : y.name = "<init>") (hcq : vwCl[ci]? = some cq) (hd9 : cq.1 = y.cls) (hw : ws.set q (cO a ci (fs.set k (.ref x))) = ws') (kk : G co so (pc + 3) lv (st) ws') : G co so pc lv (.ref x :: .ref a :: st) ws := by
  obtain ⟨p, l, e, R, s, m, args, below, meth, c, Q, A, rfl, hx, hb, hml, hown, hts, hK, hA, hE, hF, hRf, hRl, hRc, hRs, hnm⟩ := hC
  intro H locs ls hP hD hS hl
  obtain ⟨C, T, N, ty0, hc, hin, hty, hnn, hk, hlink, hfin, hty0, hC⟩ := hL
  subst hw
  have hcc : C = cq.1 := by have := hc.symm.trans hcq; exact congrArg (fun z => z.1) (Option.some.inj this)
  exact va_putF hx hb hts hin ty0 hty hnn hown hK hP hD hS q hq hc k hk (hts _ hlink) (fun _ h => h) hfin (hnm.trans hin9) (hC.trans (hcc.trans hd9)) (by rw [hty k hk, hty0]) rfl rfl hkl d (fun H1 locs1 hP1 hD1 hS1 => kk H1 locs1 ls hP1 hD1 hS1 hl)
theorem g_putFR (hC : gC G K y cc nL n mc ms) {index ci k a : Nat} {fs : List Value} {cq : vw_C} {x : Nat} {t : String} (q : Nat) (ws' : va_W) (hL : gLk y.cls index ci k true (.object t)) (d : decode cc pc = .ok (.putfield index, 3)) (hq : ws[q]? = some (cO a ci fs)) (hkl : k < fs.length) (hin9 : y.name = "<init>") (hcq : vwCl[ci]? = some cq) (hd9 : cq.1 = y.cls) (hw : ws.set q (cO a ci (fs.set k (.ref x))) = ws') (kk : G co so (pc + 3) lv (st) ws') : G co so pc lv (.ref x :: .ref a :: st) ws := by
  obtain ⟨p, l, e, R, s, m, args, below, meth, c, Q, A, rfl, hx, hb, hml, hown, hts, hK, hA, hE, hF, hRf, hRl, hRc, hRs, hnm⟩ := hC
  intro H locs ls hP hD hS hl
  obtain ⟨C, T, N, ty0, hc, hin, hty, hnn, hk, hlink, hfin, hty0, hC⟩ := hL
  subst hw
  have hcc : C = cq.1 := by have := hc.symm.trans hcq; exact congrArg (fun z => z.1) (Option.some.inj this)
  exact va_putF hx hb hts hin ty0 hty hnn hown hK hP hD hS q hq hc k hk (hts _ hlink) (fun _ h => h) hfin (hnm.trans hin9) (hC.trans (hcc.trans hd9)) (by rw [hty k hk, hty0]) rfl rfl hkl d (fun H1 locs1 hP1 hD1 hS1 => kk H1 locs1 ls hP1 hD1 hS1 hl)
theorem g_iald (hC : gC G K y cc nL n mc ms) {a N : Nat} {f : Int → Int} {i : Int} (q : Nat) (d : decode cc pc = .ok (.iaload, 1)) (hq : ws[q]? = some (cA K a N f)) (hi : 0 ≤ i ∧ i < (N : Int) ∧ i < 2147483648) (kk : G co so (pc + 1) lv (.int (iI (f i)) :: st) ws) : G co so pc lv (.int (iI i) :: .ref a :: st) ws := by
  obtain ⟨p, l, e, R, s, m, args, below, meth, c, Q, A, rfl, hx, hb, hml, hown, hts, hK, hA, hE, hF, hRf, hRl, hRc, hRs, hnm⟩ := hC
  intro H locs ls hP hD hS hl
  refine va_iald hx hb hK hP q 0 hq rfl (in_of hi) d ?_
  rw [aI_at f ⟨hi.1, hi.2.2⟩]
  exact kk H locs ls hP hD hS hl
theorem g_zald (hC : gC G K y cc nL n mc ms) {a N : Nat} {f : Int → Int} {i : Int} (q : Nat) (d : decode cc pc = .ok (.baload, 1)) (hq : ws[q]? = some (cZ K a N f)) (hi : 0 ≤ i ∧ i < (N : Int) ∧ i < 2147483648) (kk : G co so (pc + 1) lv (.int (iI (f i)) :: st) ws) : G co so pc lv (.int (iI i) :: .ref a :: st) ws := by
  obtain ⟨p, l, e, R, s, m, args, below, meth, c, Q, A, rfl, hx, hb, hml, hown, hts, hK, hA, hE, hF, hRf, hRl, hRc, hRs, hnm⟩ := hC
  intro H locs ls hP hD hS hl
  refine va_zald hx hb hK hP q 1 hq rfl (in_of hi) d ?_
  rw [aI_at f ⟨hi.1, hi.2.2⟩]
  exact kk H locs ls hP hD hS hl
theorem g_iast (hC : gC G K y cc nL n mc ms) {a N : Nat} {f : Int → Int} {i x : Int} (q : Nat) (ws' : (Int → Int) → va_W) (d : decode cc pc = .ok (.iastore, 1)) (hq : ws[q]? = some (cA K a N f)) (hi : 0 ≤ i ∧ i < (N : Int) ∧ i < 2147483648) (hw : ∀ f9 : Int → Int, ws.set q (cA K a N f9) = ws' f9) (kk : ∀ f9 : Int → Int, f9 = upI f i x → G co so (pc + 1) lv (st) (ws' f9)) : G co so pc lv (.int (iI x) :: .int (iI i) :: .ref a :: st) ws := by
  obtain ⟨p, l, e, R, s, m, args, below, meth, c, Q, A, rfl, hx, hb, hml, hown, hts, hK, hA, hE, hF, hRf, hRl, hRc, hRs, hnm⟩ := hC
  intro H locs ls hP hD hS hl
  refine va_iast hx hb hK hP hD hS q 0 hq rfl (in_of hi) d (fun H1 locs1 hP1 hD1 hS1 => ?_)
  rw [aI_upd f ⟨hi.1, hi.2.2⟩] at hP1 hD1
  exact kk _ rfl H1 locs1 ls (by rw [← hw]; exact hP1) (by rw [← hw]; exact hD1) hS1 hl
theorem g_zast (hC : gC G K y cc nL n mc ms) {a N : Nat} {f : Int → Int} {i x : Int} (q : Nat) (ws' : (Int → Int) → va_W) (d : decode cc pc = .ok (.bastore, 1)) (hq : ws[q]? = some (cZ K a N f)) (hi : 0 ≤ i ∧ i < (N : Int) ∧ i < 2147483648) (hz : x = 0 ∨ x = 1) (hw : ∀ f9 : Int → Int, ws.set q (cZ K a N f9) = ws' f9) (kk : ∀ f9 : Int → Int, f9 = upI f i x → G co so (pc + 1) lv (st) (ws' f9)) : G co so pc lv (.int (iI x) :: .int (iI i) :: .ref a :: st) ws := by
  obtain ⟨p, l, e, R, s, m, args, below, meth, c, Q, A, rfl, hx, hb, hml, hown, hts, hK, hA, hE, hF, hRf, hRl, hRc, hRs, hnm⟩ := hC
  intro H locs ls hP hD hS hl
  refine va_zast hx hb hK hP hD hS q 1 hq rfl (in_of hi) d (fun H1 locs1 hP1 hD1 hS1 => ?_)
  rw [z_vp hz, aI_upd f ⟨hi.1, hi.2.2⟩] at hP1 hD1
  exact kk _ rfl H1 locs1 ls (by rw [← hw]; exact hP1) (by rw [← hw]; exact hD1) hS1 hl
theorem g_alen (hC : gC G K y cc nL n mc ms) {a N : Nat} {f : Int → Int} (q : Nat) (d : decode cc pc = .ok (.arraylength, 1)) (hq : ws[q]? = some (cA K a N f)) (kk : G co so (pc + 1) lv (.int (iI (N : Int)) :: st) ws) : G co so pc lv (.ref a :: st) ws := by
  obtain ⟨p, l, e, R, s, m, args, below, meth, c, Q, A, rfl, hx, hb, hml, hown, hts, hK, hA, hE, hF, hRf, hRl, hRc, hRs, hnm⟩ := hC
  intro H locs ls hP hD hS hl
  exact va_alen (ty := .int) hx hb hK hP q 0 hq (show (gT K)[0]? = _ from rfl) (v := iI (N : Int)) Int32.ofInt_eq_ofNat.symm d (kk H locs ls hP hD hS hl)
theorem g_alenH (hC : gC G K y cc nL n mc ms) {a N : Nat} {f : Nat → Option Nat} (q : Nat) (d : decode cc pc = .ok (.arraylength, 1)) (hq : ws[q]? = some (cH K a N f)) (kk : G co so (pc + 1) lv (.int (iI (N : Int)) :: st) ws) : G co so pc lv (.ref a :: st) ws := by
  obtain ⟨p, l, e, R, s, m, args, below, meth, c, Q, A, rfl, hx, hb, hml, hown, hts, hK, hA, hE, hF, hRf, hRl, hRc, hRs, hnm⟩ := hC
  intro H locs ls hP hD hS hl
  exact va_alen (ty := .object "FootmenMatch$House") hx hb hK hP q 2 hq (show (gT K)[2]? = _ from rfl) (v := iI (N : Int)) Int32.ofInt_eq_ofNat.symm d (kk H locs ls hP hD hS hl)
theorem g_aldH (hC : gC G K y cc nL n mc ms) {a N : Nat} {f : Nat → Option Nat} {i : Int} {j : Nat} {h9 : Nat} (q : Nat) (d : decode cc pc = .ok (.aaload, 1)) (hq : ws[q]? = some (cH K a N f)) (hi : 0 ≤ i ∧ i < (N : Int) ∧ i < 2147483648) (hj : i = (j : Int)) (hv : f j = some h9) (kk : G co so (pc + 1) lv (.ref h9 :: st) ws) : G co so pc lv (.int (iI i) :: .ref a :: st) ws := by
  obtain ⟨p, l, e, R, s, m, args, below, meth, c, Q, A, rfl, hx, hb, hml, hown, hts, hK, hA, hE, hF, hRf, hRl, hRc, hRs, hnm⟩ := hC
  intro H locs ls hP hD hS hl
  refine va_aldq hx hb hK hP q 2 hq (show (gT K)[2]? = _ from rfl) (in_of hi) d ?_
  have hc := iI_clamp (i := i) ⟨hi.1, hi.2.2⟩
  have e9 : (iI i).toNatClampNeg = j := by omega
  rw [e9, hv]
  exact kk H locs ls hP hD hS hl
theorem g_rowclass {K : gK} {s : State} {cA : ClassId} (hK : va_K K.1 vwCl (gT K ++ [(cA, .int)]) s) : cA = K.2.1.1 := by
  have h1 := (hK.2 0 (K.2.1.1, .int) rfl).2
  have h2 := (hK.2 3 (cA, .int) rfl).2
  exact Option.some.inj (h2.symm.trans h1)
theorem g_rowclassZ {K : gK} {s : State} {cA : ClassId} (hK : va_K K.1 vwCl (gT K ++ [(cA, .boolean)]) s) : cA = K.2.1.2.1 := by
  have h1 := (hK.2 1 (K.2.1.2.1, .boolean) rfl).2
  have h2 := (hK.2 3 (cA, .boolean) rfl).2
  exact Option.some.inj (h2.symm.trans h1)
theorem g_rowclassH {K : gK} {s : State} {cA : ClassId} (hK : va_K K.1 vwCl (gT K ++ [(cA, .object "FootmenMatch$House")]) s) : cA = K.2.1.2.2 := by
  obtain ⟨_, _, _, _, _, h1⟩ := (hK.2 2 (K.2.1.2.2, .object "FootmenMatch$House") rfl).2
  obtain ⟨_, _, _, _, _, h2⟩ := (hK.2 3 (cA, .object "FootmenMatch$House") rfl).2
  exact Option.some.inj (h2.symm.trans h1)
theorem aI_0 : aI (fun _ => 0) = fun _ => (0 : Int32) := rfl
theorem g_newI (hC : gC G K y cc nL n mc ms) {i : Int} (N : Nat) (ws' : Nat → va_W) (d : decode cc pc = .ok (.newarray .int, 2)) (hi : i = (N : Int) ∧ N ≤ 100000) (hcells : co + 1 ≤ mc ∧ so + N ≤ ms) (hw : ∀ a : Nat, ws ++ [cA K a N (fun _ => 0)] = ws' a) (kk : ∀ a : Nat, G (co + 1) (so + N) (pc + 2) lv (.ref a :: st) (ws' a)) : G co so pc lv (.int (iI i) :: st) ws := by
  obtain ⟨p, l, e, R, s, m, args, below, meth, c, Q, A, rfl, hx, hb, hml, hown, hts, hK, hA, hE, hF, hRf, hRl, hRc, hRs, hnm⟩ := hC
  intro H locs ls hP hD hS hl
  have hnn : ¬ iI i < 0 := fun h => by
    have h2 := (iI_lt (a := i) (b := 0) (by omega) (by omega)).mp h
    omega
  have hN : (iI i).toNatClampNeg = N := by
    have hc := iI_clamp (i := i) (by omega)
    omega
  refine va_newa (atype := .int) (ty := .int) (a0 := (N, .inl (aI (fun _ => 0)))) hx hb (hts _ wa_int) rfl hK hP hD hS hA (fun cA => rfl) hnn hN (Nat.le_trans (Nat.mul_le_mul_right _ hi.2) (by decide)) (Nat.le_trans hcells.1 hRc) (Nat.le_trans hcells.2 hRs) d (fun q cA H1 hK1 hP1 hD1 hS1 => ?_)
  have e9 := g_rowclass hK1
  subst e9
  refine kk q H1 locs ls ?_ ?_ hS1 hl
  · rw [← hw q]; exact hP1
  · rw [← hw q]; exact hD1
theorem g_newZ (hC : gC G K y cc nL n mc ms) {i : Int} (N : Nat) (ws' : Nat → va_W) (d : decode cc pc = .ok (.newarray .boolean, 2)) (hi : i = (N : Int) ∧ N ≤ 100000) (hcells : co + 1 ≤ mc ∧ so + N ≤ ms) (hw : ∀ a : Nat, ws ++ [cZ K a N (fun _ => 0)] = ws' a) (kk : ∀ a : Nat, G (co + 1) (so + N) (pc + 2) lv (.ref a :: st) (ws' a)) : G co so pc lv (.int (iI i) :: st) ws := by
  obtain ⟨p, l, e, R, s, m, args, below, meth, c, Q, A, rfl, hx, hb, hml, hown, hts, hK, hA, hE, hF, hRf, hRl, hRc, hRs, hnm⟩ := hC
  intro H locs ls hP hD hS hl
  have hnn : ¬ iI i < 0 := fun h => by
    have h2 := (iI_lt (a := i) (b := 0) (by omega) (by omega)).mp h
    omega
  have hN : (iI i).toNatClampNeg = N := by
    have hc := iI_clamp (i := i) (by omega)
    omega
  refine va_newa (atype := .boolean) (ty := .boolean) (a0 := (N, .inl (aI (fun _ => 0)))) hx hb (hts _ wa_boolean) rfl hK hP hD hS hA (fun cA => rfl) hnn hN (Nat.le_trans (Nat.mul_le_mul_right _ hi.2) (by decide)) (Nat.le_trans hcells.1 hRc) (Nat.le_trans hcells.2 hRs) d (fun q cA H1 hK1 hP1 hD1 hS1 => ?_)
  have e9 := g_rowclassZ hK1
  subst e9
  refine kk q H1 locs ls ?_ ?_ hS1 hl
  · rw [← hw q]; exact hP1
  · rw [← hw q]; exact hD1
theorem g_newH (hC : gC G K y cc nL n mc ms) {i : Int} {index : Nat} (N : Nat) (ws' : Nat → va_W) (hwc : Cond.classLink y.cls index "FootmenMatch$House" ∈ TB) (d : decode cc pc = .ok (.anewarray index, 3)) (hi : i = (N : Int) ∧ N ≤ 100000) (hcells : co + 1 ≤ mc ∧ so + N ≤ ms) (hw : ∀ a : Nat, ws ++ [cH K a N (fun _ => none)] = ws' a) (kk : ∀ a : Nat, G (co + 1) (so + N) (pc + 3) lv (.ref a :: st) (ws' a)) : G co so pc lv (.int (iI i) :: st) ws := by
  obtain ⟨p, l, e, R, s, m, args, below, meth, c, Q, A, rfl, hx, hb, hml, hown, hts, hK, hA, hE, hF, hRf, hRl, hRc, hRs, hnm⟩ := hC
  intro H locs ls hP hD hS hl
  have hnn : ¬ iI i < 0 := fun h => by
    have h2 := (iI_lt (a := i) (b := 0) (by omega) (by omega)).mp h
    omega
  have hN : (iI i).toNatClampNeg = N := by
    have hc := iI_clamp (i := i) (by omega)
    omega
  refine va_newq hx hb hown (hts _ hwc) hF.2.2.2.2.2.2.2 hK hP hD hS hA hnn hN (Nat.le_trans (Nat.mul_le_mul_right _ hi.2) (by decide)) (Nat.le_trans hcells.1 hRc) (Nat.le_trans hcells.2 hRs) d (fun q cA H1 hK1 hP1 hD1 hS1 => ?_)
  have e9 := g_rowclassH hK1
  subst e9
  refine kk q H1 locs ls ?_ ?_ hS1 hl
  · rw [← hw q]; exact hP1
  · rw [← hw q]; exact hD1
theorem g_astH (hC : gC G K y cc nL n mc ms) {a N x : Nat} {fs : List Value} {f : Nat → Option Nat} {i : Int} {j : Nat} (q qk : Nat) (ws' : va_W) (d : decode cc pc = .ok (.aastore, 1)) (hq : ws[q]? = some (cH K a N f)) (hqk : ws[qk]? = some (cO x 1 fs)) (hi : 0 ≤ i ∧ i < (N : Int) ∧ i < 2147483648) (hj : i = (j : Int)) (hw : ws.set q (cH K a N (va_up f j (some x))) = ws') (kk : G co so (pc + 1) lv (st) ws') : G co so pc lv (.ref x :: .int (iI i) :: .ref a :: st) ws := by
  obtain ⟨p, l, e, R, s, m, args, below, meth, c, Q, A, rfl, hx, hb, hml, hown, hts, hK, hA, hE, hF, hRf, hRl, hRc, hRs, hnm⟩ := hC
  intro H locs ls hP hD hS hl
  subst hw
  refine va_astq hx hb hK hP hD hS q 2 qk 1 (r := (RX1, TX1, 3)) hq (show (gT K)[2]? = _ from rfl) hqk rfl (in_of hi) d (fun H1 locs1 hP1 hD1 hS1 => ?_)
  have hc := iI_clamp (i := i) ⟨hi.1, hi.2.2⟩
  have e9 : (iI i).toNatClampNeg = j := by omega
  rw [e9] at hP1 hD1
  exact kk H1 locs1 ls hP1 hD1 hS1 hl
theorem g_new (hC : gC G K y cc nL n mc ms) {index ci N : Nat} {C : String} {T : u_T} {ty : Nat → FieldType} {fs : List Value} (ws' : Nat → va_W) (hcl : Cond.classLink y.cls index C ∈ TB) (hin : ∀ w ∈ u_ws C T N, w ∈ TB) (hty : ∀ k, k < N → parseFieldDescriptor (T k).2.2.1 = some (ty k)) (hinst : Cond.instantiable C N ∈ TB) (hini : Cond.initialized C ∈ TB) (hc : vwCl[ci]? = some (C, T, N)) (hfs : ∀ j, j < N → defaultValue (ty j) = vp_V fs j) (hcells : co + 1 ≤ mc ∧ so + N ≤ ms) (d : decode cc pc = .ok (.new index, 3)) (hw : ∀ a : Nat, ws ++ [cO a ci fs] = ws' a) (kk : ∀ a : Nat, G (co + 1) (so + N) (pc + 3) lv (.ref a :: st) (ws' a)) : G co so pc lv (st) ws := by
  obtain ⟨p, l, e, R, s, m, args, below, meth, c, Q, A, rfl, hx, hb, hml, hown, hts, hK, hA, hE, hF, hRf, hRl, hRc, hRs, hnm⟩ := hC
  intro H locs ls hP hD hS hl
  refine va_new hx hb hts hin ty hty hown (hts _ hcl) (hts _ hinst) (hts _ hini) hK hP hD hS hA hc hfs (Nat.le_trans hcells.1 hRc) (Nat.le_trans hcells.2 hRs) d (fun q H1 hP1 hD1 hS1 => ?_)
  refine kk q H1 locs ls ?_ ?_ hS1 hl
  · rw [← hw q]; exact hP1
  · rw [← hw q]; exact hD1
theorem g_objInit (hC : gC G K y cc nL n mc ms) {index a : Nat} (hlink : Cond.methodLink y.cls index objectInit ∈ TB) (hst : (st.map fun v => v.category).sum ≤ 8) (hn1 : 1 ≤ n) (d : decode cc pc = .ok (.invokespecial index, 3)) (kk : G co so (pc + 3) lv (st) ws) : G co so pc lv (.ref a :: st) ws := by
  obtain ⟨p, l, e, R, s, m, args, below, meth, c, Q, A, rfl, hx, hb, hml, hown, hts, hK, hA, hE, hF, hRf, hRl, hRc, hRs, hnm⟩ := hC
  intro H locs ls hP hD hS hl
  refine W.objInit hx hb hown (hts _ hlink) (hts _ wj_objectInit) (hts _ wk_objectInit) rfl (by rw [hml]; exact hl.1) rfl d (Nat.le_trans hn1 hRf) (Nat.le_trans (Nat.le_trans (show 2 * 0 + (st.map fun v => v.category).sum + 12 ≤ 40 * n by omega) hRl) (Nat.le_refl _)) ?_
  exact kk H locs ls hP hD hS hl
theorem g_copy (hC : gC G K y cc nL n mc ms) {index a b N M : Nat} {f g9 : Int → Int} {sp dp k9 : Int} (q0 q1 : Nat) (ws' : (Int → Int) → va_W) (hlink : Cond.methodLink y.cls index arraycopyName ∈ TB) (hst : (st.map fun v => v.category).sum ≤ 8) (hn1 : 1 ≤ n) (d : decode cc pc = .ok (.invokestatic index, 3)) (ha : ws[q0]? = some (cA K a N f)) (hb9 : ws[q1]? = some (cA K b M g9)) (hi : 0 ≤ sp ∧ 0 ≤ dp ∧ 0 ≤ k9 ∧ sp + k9 ≤ (N : Int) ∧ dp + k9 ≤ (M : Int) ∧ (N : Int) < 1000000 ∧ (M : Int) < 1000000) (hw : ∀ f9 : Int → Int, ws.set q1 (cA K b M f9) = ws' f9) (kk : ∀ f9 : Int → Int, f9 = (fun j => if dp ≤ j ∧ j < dp + k9 then f (sp + (j - dp)) else g9 j) → G co so (pc + 3) lv (st) (ws' f9)) : G co so pc lv (.int (iI k9) :: .int (iI dp) :: .ref b :: .int (iI sp) :: .ref a :: st) ws := by
  obtain ⟨p, l, e, R, s, m, args, below, meth, c, Q, A, rfl, hx, hb, hml, hown, hts, hK, hA, hE, hF, hRf, hRl, hRc, hRs, hnm⟩ := hC
  intro H locs ls hP hD hS hl
  have nn : ∀ z : Int, 0 ≤ z → z < 2147483648 → ¬ iI z < 0 := fun z h1 h2 h => by
    have h3 := (iI_lt (a := z) (b := 0) (by omega) (by omega)).mp h
    omega
  have c1 := iI_clamp (i := sp) (by omega)
  have c2 := iI_clamp (i := dp) (by omega)
  have c3 := iI_clamp (i := k9) (by omega)
  refine va_copyi (ty := .int) hx hb (hml.trans hl.1.symm) hown (hts _ hlink) (hts _ wnat) (hts _ wj_arraycopyName) (hts _ wz_J10) hK hP hD hS q0 q1 0 0 ha hb9 (show (gT K)[0]? = _ from rfl) (show (gT K)[0]? = _ from rfl) rfl (nn _ (by omega) (by omega)) (nn _ (by omega) (by omega)) (nn _ (by omega) (by omega)) (by omega) (by omega) (fun _ _ => rfl) (Nat.le_trans hn1 hRf) (Nat.le_trans (show (st.map fun v => v.category).sum + (nativeFrameWords "java/lang/System" "arraycopy" 5 + 11) ≤ 40 * n from ?_) hRl) d (fun H1 locs1 hP1 hD1 hS1 => ?_)
  · have e9 : nativeFrameWords "java/lang/System" "arraycopy" 5 ≤ 20 := by decide +kernel
    omega
  · have e9 : va_cpy (aI f) (aI g9) (iI sp).toNatClampNeg (iI dp).toNatClampNeg (iI k9).toNatClampNeg = aI (fun j => if dp ≤ j ∧ j < dp + k9 then f (sp + (j - dp)) else g9 j) := by
      funext j
      show (if (iI dp).toNatClampNeg ≤ j ∧ j < (iI dp).toNatClampNeg + (iI k9).toNatClampNeg then iI (f (((iI sp).toNatClampNeg + (j - (iI dp).toNatClampNeg) : Nat) : Int)) else iI (g9 (j : Int))) = iI (if dp ≤ (j : Int) ∧ (j : Int) < dp + k9 then f (sp + ((j : Int) - dp)) else g9 (j : Int))
      by_cases h9 : (iI dp).toNatClampNeg ≤ j ∧ j < (iI dp).toNatClampNeg + (iI k9).toNatClampNeg
      · rw [if_pos h9, if_pos (by omega)]
        have e8 : (((iI sp).toNatClampNeg + (j - (iI dp).toNatClampNeg) : Nat) : Int) = sp + ((j : Int) - dp) := by omega
        rw [e8]
      · rw [if_neg h9, if_neg (by omega)]
    rw [e9] at hP1 hD1
    exact kk _ rfl H1 locs1 ls (by rw [← hw]; exact hP1) (by rw [← hw]; exact hD1) hS1 hl
theorem g_getAbove (hC : gC G K y cc nL n mc ms) {index : Nat} (hw : Cond.fieldLink y.cls index "FootmenMatch" "ABOVE" "[I" ∈ TB) (d : decode cc pc = .ok (.getstatic index, 3)) (kk : G co so (pc + 3) lv (.ref K.2.2.2.2.1 :: st) ws) : G co so pc lv (st) ws := by
  obtain ⟨p, l, e, R, s, m, args, below, meth, c, Q, A, rfl, hx, hb, hml, hown, hts, hK, hA, hE, hF, hRf, hRl, hRc, hRs, hnm⟩ := hC
  intro H locs ls hP hD hS hl
  exact va_gets hx hb hE.1.1 hS hown (hts _ hw) (fun _ h => h) d (kk H locs ls hP hD hS hl)
theorem g_getBodies (hC : gC G K y cc nL n mc ms) (hy9 : y.cls = RX0) (d : decode cc pc = .ok (.getstatic 47, 3)) (kk : G co so (pc + 3) lv (.ref K.2.2.2.2.2 :: st) ws) : G co so pc lv (st) ws := by
  obtain ⟨p, l, e, R, s, m, args, below, meth, c, Q, A, rfl, hx, hb, hml, hown, hts, hK, hA, hE, hF, hRf, hRl, hRc, hRs, hnm⟩ := hC
  intro H locs ls hP hD hS hl
  exact va_getsN (own := RX0) (ref := "FootmenMatch") (host := RX9) hx hb hE.2.1.1 hS (by rw [← hy9]; exact hown) (va_Nw.use rfl (hF.1 _ (by simp [gN]))) (fun _ h => h) d (kk H locs ls hP hD hS hl)
theorem g_aldAbove (hC : gC G K y cc nL n mc ms) {i : Int} (d : decode cc pc = .ok (.iaload, 1)) (hi : 0 ≤ i ∧ i < 7) (kk : G co so (pc + 1) lv (.int (iI (tb_above i)) :: st) ws) : G co so pc lv (.int (iI i) :: .ref K.2.2.2.2.1 :: st) ws := by
  obtain ⟨p, l, e, R, s, m, args, below, meth, c, Q, A, rfl, hx, hb, hml, hown, hts, hK, hA, hE, hF, hRf, hRl, hRc, hRs, hnm⟩ := hC
  intro H locs ls hP hD hS hl
  refine va_ti hx hb hE.1.2 hS (in_of (N := 7) (by omega)) rfl d ?_
  rw [aI_at tb_above (by omega)]
  exact kk H locs ls hP hD hS hl
theorem g_lenAbove (hC : gC G K y cc nL n mc ms) (d : decode cc pc = .ok (.arraylength, 1)) (kk : G co so (pc + 1) lv (.int (iI 7) :: st) ws) : G co so pc lv (.ref K.2.2.2.2.1 :: st) ws := by
  obtain ⟨p, l, e, R, s, m, args, below, meth, c, Q, A, rfl, hx, hb, hml, hown, hts, hK, hA, hE, hF, hRf, hRl, hRc, hRs, hnm⟩ := hC
  intro H locs ls hP hD hS hl
  exact va_tlen hx hb hE.1.2 hS (v := iI 7) rfl d (kk H locs ls hP hD hS hl)
theorem g_aldBodies (hC : gC G K y cc nL n mc ms) {i : Int} (d : decode cc pc = .ok (.iaload, 1)) (hi : 0 ≤ i ∧ i < 21) (kk : G co so (pc + 1) lv (.int (iI (tb_bodies i)) :: st) ws) : G co so pc lv (.int (iI i) :: .ref K.2.2.2.2.2 :: st) ws := by
  obtain ⟨p, l, e, R, s, m, args, below, meth, c, Q, A, rfl, hx, hb, hml, hown, hts, hK, hA, hE, hF, hRf, hRl, hRc, hRs, hnm⟩ := hC
  intro H locs ls hP hD hS hl
  refine va_ti hx hb hE.2.1.2 hS (in_of (N := 21) (by omega)) rfl d ?_
  rw [aI_at tb_bodies (by omega)]
  exact kk H locs ls hP hD hS hl
theorem g_lenBodies (hC : gC G K y cc nL n mc ms) (d : decode cc pc = .ok (.arraylength, 1)) (kk : G co so (pc + 1) lv (.int (iI 21) :: st) ws) : G co so pc lv (.ref K.2.2.2.2.2 :: st) ws := by
  obtain ⟨p, l, e, R, s, m, args, below, meth, c, Q, A, rfl, hx, hb, hml, hown, hts, hK, hA, hE, hF, hRf, hRl, hRc, hRs, hnm⟩ := hC
  intro H locs ls hP hD hS hl
  exact va_tlen hx hb hE.2.1.2 hS (v := iI 21) rfl d (kk H locs ls hP hD hS hl)
theorem g_ldcS_X3_36 (hC : gC G K y cc nL n mc ms) (hy9 : y.cls = RX3) (d : decode cc pc = .ok (.ldc 36, 2)) (kk : G co so (pc + 2) lv (.ref (K.2.2.1 0) :: st) ws) : G co so pc lv (st) ws := by
  obtain ⟨p, l, e, R, s, m, args, below, meth, c, Q, A, rfl, hx, hb, hml, hown, hts, hK, hA, hE, hF, hRf, hRl, hRc, hRs, hnm⟩ := hC
  intro H locs ls hP hD hS hl
  exact va_ldcS (own := RX3) hx hb (by rw [← hy9]; exact hown) hF.2.1.1 d (kk H locs ls hP hD hS hl)
theorem g_ldcS_X3_38 (hC : gC G K y cc nL n mc ms) (hy9 : y.cls = RX3) (d : decode cc pc = .ok (.ldc 38, 2)) (kk : G co so (pc + 2) lv (.ref (K.2.2.1 1) :: st) ws) : G co so pc lv (st) ws := by
  obtain ⟨p, l, e, R, s, m, args, below, meth, c, Q, A, rfl, hx, hb, hml, hown, hts, hK, hA, hE, hF, hRf, hRl, hRc, hRs, hnm⟩ := hC
  intro H locs ls hP hD hS hl
  exact va_ldcS (own := RX3) hx hb (by rw [← hy9]; exact hown) hF.2.1.2.1 d (kk H locs ls hP hD hS hl)
theorem g_ldcS_X3_40 (hC : gC G K y cc nL n mc ms) (hy9 : y.cls = RX3) (d : decode cc pc = .ok (.ldc 40, 2)) (kk : G co so (pc + 2) lv (.ref (K.2.2.1 2) :: st) ws) : G co so pc lv (st) ws := by
  obtain ⟨p, l, e, R, s, m, args, below, meth, c, Q, A, rfl, hx, hb, hml, hown, hts, hK, hA, hE, hF, hRf, hRl, hRc, hRs, hnm⟩ := hC
  intro H locs ls hP hD hS hl
  exact va_ldcS (own := RX3) hx hb (by rw [← hy9]; exact hown) hF.2.1.2.2.1 d (kk H locs ls hP hD hS hl)
theorem g_ldcS_X3_55 (hC : gC G K y cc nL n mc ms) (hy9 : y.cls = RX3) (d : decode cc pc = .ok (.ldc 55, 2)) (kk : G co so (pc + 2) lv (.ref (K.2.2.1 3) :: st) ws) : G co so pc lv (st) ws := by
  obtain ⟨p, l, e, R, s, m, args, below, meth, c, Q, A, rfl, hx, hb, hml, hown, hts, hK, hA, hE, hF, hRf, hRl, hRc, hRs, hnm⟩ := hC
  intro H locs ls hP hD hS hl
  exact va_ldcS (own := RX3) hx hb (by rw [← hy9]; exact hown) hF.2.1.2.2.2.1 d (kk H locs ls hP hD hS hl)
theorem g_ldcS_X3_74 (hC : gC G K y cc nL n mc ms) (hy9 : y.cls = RX3) (d : decode cc pc = .ok (.ldc 74, 2)) (kk : G co so (pc + 2) lv (.ref (K.2.2.1 4) :: st) ws) : G co so pc lv (st) ws := by
  obtain ⟨p, l, e, R, s, m, args, below, meth, c, Q, A, rfl, hx, hb, hml, hown, hts, hK, hA, hE, hF, hRf, hRl, hRc, hRs, hnm⟩ := hC
  intro H locs ls hP hD hS hl
  exact va_ldcS (own := RX3) hx hb (by rw [← hy9]; exact hown) hF.2.1.2.2.2.2.1 d (kk H locs ls hP hD hS hl)
theorem g_ldcS_X3_102 (hC : gC G K y cc nL n mc ms) (hy9 : y.cls = RX3) (d : decode cc pc = .ok (.ldc 102, 2)) (kk : G co so (pc + 2) lv (.ref (K.2.2.1 5) :: st) ws) : G co so pc lv (st) ws := by
  obtain ⟨p, l, e, R, s, m, args, below, meth, c, Q, A, rfl, hx, hb, hml, hown, hts, hK, hA, hE, hF, hRf, hRl, hRc, hRs, hnm⟩ := hC
  intro H locs ls hP hD hS hl
  exact va_ldcS (own := RX3) hx hb (by rw [← hy9]; exact hown) hF.2.1.2.2.2.2.2 d (kk H locs ls hP hD hS hl)
theorem g_ldcS_X10_118 (hC : gC G K y cc nL n mc ms) (hy9 : y.cls = RX10) (d : decode cc pc = .ok (.ldc 118, 2)) (kk : G co so (pc + 2) lv (.ref (K.2.2.1 0) :: st) ws) : G co so pc lv (st) ws := by
  obtain ⟨p, l, e, R, s, m, args, below, meth, c, Q, A, rfl, hx, hb, hml, hown, hts, hK, hA, hE, hF, hRf, hRl, hRc, hRs, hnm⟩ := hC
  intro H locs ls hP hD hS hl
  exact va_ldcS (own := RX10) hx hb (by rw [← hy9]; exact hown) hF.2.2.1 d (kk H locs ls hP hD hS hl)
theorem g_ldcS_X10_124 (hC : gC G K y cc nL n mc ms) (hy9 : y.cls = RX10) (d : decode cc pc = .ok (.ldc 124, 2)) (kk : G co so (pc + 2) lv (.ref (K.2.2.1 1) :: st) ws) : G co so pc lv (st) ws := by
  obtain ⟨p, l, e, R, s, m, args, below, meth, c, Q, A, rfl, hx, hb, hml, hown, hts, hK, hA, hE, hF, hRf, hRl, hRc, hRs, hnm⟩ := hC
  intro H locs ls hP hD hS hl
  exact va_ldcS (own := RX10) hx hb (by rw [← hy9]; exact hown) hF.2.2.2.1 d (kk H locs ls hP hD hS hl)
theorem g_ldcS_X10_129 (hC : gC G K y cc nL n mc ms) (hy9 : y.cls = RX10) (d : decode cc pc = .ok (.ldc 129, 2)) (kk : G co so (pc + 2) lv (.ref (K.2.2.1 2) :: st) ws) : G co so pc lv (st) ws := by
  obtain ⟨p, l, e, R, s, m, args, below, meth, c, Q, A, rfl, hx, hb, hml, hown, hts, hK, hA, hE, hF, hRf, hRl, hRc, hRs, hnm⟩ := hC
  intro H locs ls hP hD hS hl
  exact va_ldcS (own := RX10) hx hb (by rw [← hy9]; exact hown) hF.2.2.2.2.1 d (kk H locs ls hP hD hS hl)
theorem g_ldcS_X10_100 (hC : gC G K y cc nL n mc ms) (hy9 : y.cls = RX10) (d : decode cc pc = .ok (.ldc 100, 2)) (kk : G co so (pc + 2) lv (.ref (K.2.2.1 5) :: st) ws) : G co so pc lv (st) ws := by
  obtain ⟨p, l, e, R, s, m, args, below, meth, c, Q, A, rfl, hx, hb, hml, hown, hts, hK, hA, hE, hF, hRf, hRl, hRc, hRs, hnm⟩ := hC
  intro H locs ls hP hD hS hl
  exact va_ldcS (own := RX10) hx hb (by rw [← hy9]; exact hown) hF.2.2.2.2.2.1 d (kk H locs ls hP hD hS hl)
theorem g_ldcS_X10_106 (hC : gC G K y cc nL n mc ms) (hy9 : y.cls = RX10) (d : decode cc pc = .ok (.ldc 106, 2)) (kk : G co so (pc + 2) lv (.ref (K.2.2.1 6) :: st) ws) : G co so pc lv (st) ws := by
  obtain ⟨p, l, e, R, s, m, args, below, meth, c, Q, A, rfl, hx, hb, hml, hown, hts, hK, hA, hE, hF, hRf, hRl, hRc, hRs, hnm⟩ := hC
  intro H locs ls hP hD hS hl
  exact va_ldcS (own := RX10) hx hb (by rw [← hy9]; exact hown) hF.2.2.2.2.2.2.1 d (kk H locs ls hP hD hS hl)
theorem g_callV (hC : gC G K y cc nL n mc ms) {yc : MethodName} {bc : ByteArray} {nc kc mcc msc na : Nat} {rc : Option FieldType} {b : Nat} {As rest : List Value} {wc : va_W} {post : Option Value → va_W → Prop} {index : Nat} {ci qr : Nat} {fs : List Value} {cq : vw_C} (ps : List Nat) (hM : gMet K yc bc nc rc kc mcc msc (.ref b :: As) wc post) (hv : gCv yc bc nc rc na) (hlink : Cond.methodLink y.cls index yc ∈ TB) (d : decode cc pc = .ok (.invokevirtual index, 3)) (hst : st = As.reverse ++ .ref b :: rest) (hqr : ws[qr]? = some (cO b ci fs)) (hcq : vwCl[ci]? = some cq) (hcn : cq.1 = yc.cls) (hps : ps.map (fun i => ws[i]?) = wc.map some) (hnd : va_nd ps = true) (hlev : kc + 1 ≤ n) (hroom : co + mcc ≤ mc ∧ so + msc ≤ ms) (hrest : (rest.map fun v => v.category).sum ≤ 8) (hna : As.length = na) (kk : ∀ (v : Option Value) (w1 : va_W), post v w1 → G (co + mcc) (so + msc) (pc + 3) lv (v.toList ++ rest) (gput ws ps w1)) : G co so pc lv (st) ws := by
  obtain ⟨p, l, e, R, s, m, args, below, meth, c, Q, A, rfl, hx, hb, hml, hown, hts, hK, hA, hE, hF, hRf, hRl, hRc, hRs, hnm⟩ := hC
  intro H locs ls hP hD hS hl
  subst hst
  obtain ⟨v1, v2, v3, v4, v5, v6⟩ := hv
  have hrv : ∃ cell : Cell, H[b]? = some cell ∧ cell.vm.isStatics = false ∧ s.vm.findClass yc.cls = some cell.cls := by
    rw [← hcn]
    exact va_recv hK hP hcq hqr
  have hr := va_runV (g := F0 m pc ls (As.reverse ++ .ref b :: rest)) (As := As) (rest := rest) (cells := co) (slots := so) (locs := locs) (e := e) (below := below) (meth := meth) ⟨hx, hb, hml, hown, hts⟩ (hM l H.size) (cwV na hts (tb_g (fun w hw => by
    simp only [wsV, List.cons_append, List.nil_append, List.mem_cons] at hw
    rcases hw with rfl | rfl | rfl | rfl | rfl | hw
    · exact hlink
    · exact v1
    · exact v2
    · exact v4
    · exact v3
    · exact hw)) rfl rfl rfl ⟨rfl, v5⟩ ⟨by show kc + 1 ≤ R.frames; omega, by show 8 + (nc + 11) + 40 * kc ≤ R.locals; omega⟩) ⟨g_blind, hrv, g_pre hP hD hS hA hK hE hF hps hnd⟩ rfl hna hl.1 rfl (lv_room hrest) d ⟨Nat.le_trans hroom.1 hRc, Nat.le_trans hroom.2 hRs⟩
  exact w_after hr hP hD hS hA hps hnd (fun v w1 H1 locs1 hp1 hP1 hD1 hS1 => kk v w1 hp1 H1 locs1 ls hP1 hD1 hS1 hl)
theorem g_callS (hC : gC G K y cc nL n mc ms) {yc : MethodName} {bc : ByteArray} {nc kc mcc msc na : Nat} {rc : Option FieldType} {As rest : List Value} {wc : va_W} {post : Option Value → va_W → Prop} {index : Nat} (ps : List Nat) (hM : gMet K yc bc nc rc kc mcc msc As wc post) (hv : gCs yc bc nc rc na) (hlink : Cond.methodLink y.cls index yc ∈ TB) (d : decode cc pc = .ok (.invokestatic index, 3)) (hst : st = As.reverse ++ rest) (hps : ps.map (fun i => ws[i]?) = wc.map some) (hnd : va_nd ps = true) (hlev : kc + 1 ≤ n) (hroom : co + mcc ≤ mc ∧ so + msc ≤ ms) (hrest : (rest.map fun v => v.category).sum ≤ 8) (hna : As.length = na) (kk : ∀ (v : Option Value) (w1 : va_W), post v w1 → G (co + mcc) (so + msc) (pc + 3) lv (v.toList ++ rest) (gput ws ps w1)) : G co so pc lv (st) ws := by
  obtain ⟨p, l, e, R, s, m, args, below, meth, c, Q, A, rfl, hx, hb, hml, hown, hts, hK, hA, hE, hF, hRf, hRl, hRc, hRs, hnm⟩ := hC
  intro H locs ls hP hD hS hl
  subst hst
  obtain ⟨v1, v3, v4, v5, v6⟩ := hv
  have hr := va_runS (g := F0 m pc ls (As.reverse ++ rest)) (As := As) (rest := rest) (cells := co) (slots := so) (locs := locs) (e := e) (below := below) (meth := meth) ⟨hx, hb, hml, hown, hts⟩ (hM l H.size) (va_cwS na hts (tb_g (fun w hw => by
    simp only [va_wsS, List.cons_append, List.nil_append, List.mem_cons] at hw
    rcases hw with rfl | rfl | rfl | rfl | hw
    · exact hlink
    · exact v1
    · exact v4
    · exact v3
    · exact hw)) rfl rfl rfl v5 ⟨by show kc + 1 ≤ R.frames; omega, by show 8 + (nc + 11) + 40 * kc ≤ R.locals; omega⟩) ⟨g_blind, g_pre hP hD hS hA hK hE hF hps hnd⟩ rfl hna hl.1 rfl (lv_room hrest) d ⟨Nat.le_trans hroom.1 hRc, Nat.le_trans hroom.2 hRs⟩
  exact w_after hr hP hD hS hA hps hnd (fun v w1 H1 locs1 hp1 hP1 hD1 hS1 => kk v w1 hp1 H1 locs1 ls hP1 hD1 hS1 hl)
theorem g_callSN (hC : gC G K y cc nL n mc ms) {yc : MethodName} {bc : ByteArray} {nc kc mcc msc na : Nat} {rc : Option FieldType} {As rest : List Value} {wc : va_W} {post : Option Value → va_W → Prop} {index : Nat} (ps : List Nat) (hM : gMet K yc bc nc rc kc mcc msc As wc post) (hv : gCs yc bc nc rc na) (hlink : Cond.methodLinkNest y.cls index yc RX9 ∈ gN) (d : decode cc pc = .ok (.invokestatic index, 3)) (hst : st = As.reverse ++ rest) (hps : ps.map (fun i => ws[i]?) = wc.map some) (hnd : va_nd ps = true) (hlev : kc + 1 ≤ n) (hroom : co + mcc ≤ mc ∧ so + msc ≤ ms) (hrest : (rest.map fun v => v.category).sum ≤ 8) (hna : As.length = na) (kk : ∀ (v : Option Value) (w1 : va_W), post v w1 → G (co + mcc) (so + msc) (pc + 3) lv (v.toList ++ rest) (gput ws ps w1)) : G co so pc lv (st) ws := by
  obtain ⟨p, l, e, R, s, m, args, below, meth, c, Q, A, rfl, hx, hb, hml, hown, hts, hK, hA, hE, hF, hRf, hRl, hRc, hRs, hnm⟩ := hC
  intro H locs ls hP hD hS hl
  subst hst
  obtain ⟨v1, v3, v4, v5, v6⟩ := hv
  have hr := va_runSN (g := F0 m pc ls (As.reverse ++ rest)) (As := As) (rest := rest) (cells := co) (slots := so) (locs := locs) (e := e) (below := below) (meth := meth) ⟨hx, hb, hml, hown, hts⟩ (hM l H.size) ⟨va_cnB na hts (tb_g (fun w hw => by
    rcases List.mem_cons.mp hw with rfl | hw
    · exact v3
    · exact hw)) rfl rfl rfl (hF.1 _ hlink) (hts _ v4) v5 ⟨by show kc + 1 ≤ R.frames; omega, by show 8 + (nc + 11) + 40 * kc ≤ R.locals; omega⟩, hts _ v1, trivial⟩ ⟨g_blind, g_pre hP hD hS hA hK hE hF hps hnd⟩ rfl hna hl.1 rfl (lv_room hrest) d ⟨Nat.le_trans hroom.1 hRc, Nat.le_trans hroom.2 hRs⟩
  exact w_after hr hP hD hS hA hps hnd (fun v w1 H1 locs1 hp1 hP1 hD1 hS1 => kk v w1 hp1 H1 locs1 ls hP1 hD1 hS1 hl)
theorem g_callI (hC : gC G K y cc nL n mc ms) {yc : MethodName} {bc : ByteArray} {nc kc mcc msc na : Nat} {b : Nat} {As rest : List Value} {wc : va_W} {post : Option Value → va_W → Prop} {index : Nat} (ps : List Nat) (hM : gMet K yc bc nc none kc mcc msc (.ref b :: As) wc post) (hv : gCi yc bc nc na) (hlink : Cond.methodLink y.cls index yc ∈ TB) (d : decode cc pc = .ok (.invokespecial index, 3)) (hst : st = As.reverse ++ .ref b :: rest) (hps : ps.map (fun i => ws[i]?) = wc.map some) (hnd : va_nd ps = true) (hlev : kc + 1 ≤ n) (hroom : co + mcc ≤ mc ∧ so + msc ≤ ms) (hrest : (rest.map fun v => v.category).sum ≤ 8) (hna : As.length = na) (kk : ∀ (v : Option Value) (w1 : va_W), post v w1 → G (co + mcc) (so + msc) (pc + 3) lv (v.toList ++ rest) (gput ws ps w1)) : G co so pc lv (st) ws := by
  obtain ⟨p, l, e, R, s, m, args, below, meth, c, Q, A, rfl, hx, hb, hml, hown, hts, hK, hA, hE, hF, hRf, hRl, hRc, hRs, hnm⟩ := hC
  intro H locs ls hP hD hS hl
  subst hst
  obtain ⟨v1, v3, v4, v5, v6, v7⟩ := hv
  have hr := va_runI (g := F0 m pc ls (As.reverse ++ .ref b :: rest)) (As := As) (rest := rest) (cells := co) (slots := so) (locs := locs) (e := e) (below := below) (meth := meth) ⟨hx, hb, hml, hown, hts⟩ (hM l H.size) (cwI na hts (tb_g (fun w hw => by
    rcases List.mem_cons.mp hw with rfl | hw
    · exact v3
    · exact hw)) rfl rfl rfl (hts _ v4) (hts _ hlink) (hts _ v1) v7 v5 ⟨by show kc + 1 ≤ R.frames; omega, by show 8 + (nc + 11) + 40 * kc ≤ R.locals; omega⟩) ⟨g_blind, g_pre hP hD hS hA hK hE hF hps hnd⟩ rfl hna hl.1 rfl (lv_room hrest) d ⟨Nat.le_trans hroom.1 hRc, Nat.le_trans hroom.2 hRs⟩
  exact w_after hr hP hD hS hA hps hnd (fun v w1 H1 locs1 hp1 hP1 hD1 hS1 => kk v w1 hp1 H1 locs1 ls hP1 hD1 hS1 hl)
theorem g_callIN (hC : gC G K y cc nL n mc ms) {yc : MethodName} {bc : ByteArray} {nc kc mcc msc na : Nat} {b : Nat} {As rest : List Value} {wc : va_W} {post : Option Value → va_W → Prop} {index : Nat} (ps : List Nat) (hM : gMet K yc bc nc none kc mcc msc (.ref b :: As) wc post) (hv : gCi yc bc nc na) (hlink : Cond.methodLinkNest y.cls index yc RX9 ∈ gN) (d : decode cc pc = .ok (.invokespecial index, 3)) (hst : st = As.reverse ++ .ref b :: rest) (hps : ps.map (fun i => ws[i]?) = wc.map some) (hnd : va_nd ps = true) (hlev : kc + 1 ≤ n) (hroom : co + mcc ≤ mc ∧ so + msc ≤ ms) (hrest : (rest.map fun v => v.category).sum ≤ 8) (hna : As.length = na) (kk : ∀ (v : Option Value) (w1 : va_W), post v w1 → G (co + mcc) (so + msc) (pc + 3) lv (v.toList ++ rest) (gput ws ps w1)) : G co so pc lv (st) ws := by
  obtain ⟨p, l, e, R, s, m, args, below, meth, c, Q, A, rfl, hx, hb, hml, hown, hts, hK, hA, hE, hF, hRf, hRl, hRc, hRs, hnm⟩ := hC
  intro H locs ls hP hD hS hl
  subst hst
  obtain ⟨v1, v3, v4, v5, v6, v7⟩ := hv
  have hr := va_runIN (g := F0 m pc ls (As.reverse ++ .ref b :: rest)) (As := As) (rest := rest) (cells := co) (slots := so) (locs := locs) (e := e) (below := below) (meth := meth) ⟨hx, hb, hml, hown, hts⟩ (hM l H.size) ⟨va_cnB na hts (tb_g (fun w hw => by
    rcases List.mem_cons.mp hw with rfl | hw
    · exact v3
    · exact hw)) rfl rfl rfl (hF.1 _ hlink) (hts _ v4) v5 ⟨by show kc + 1 ≤ R.frames; omega, by show 8 + (nc + 11) + 40 * kc ≤ R.locals; omega⟩, v7, hts _ v1⟩ ⟨g_blind, g_pre hP hD hS hA hK hE hF hps hnd⟩ rfl hna hl.1 rfl (lv_room hrest) d ⟨Nat.le_trans hroom.1 hRc, Nat.le_trans hroom.2 hRs⟩
  exact w_after hr hP hD hS hA hps hnd (fun v w1 H1 locs1 hp1 hP1 hD1 hS1 => kk v w1 hp1 H1 locs1 ls hP1 hD1 hS1 hl)
end GR
/-- a contract of a method that changes nothing, and answers the int r -/
def gFn (K : gK) (y : MethodName) (cc : ByteArray) (nL : Nat) (ret : Option FieldType) (n : Nat) (av : List Value) (w0 : va_W) (r : Int) : Prop := gMet K y cc nL ret n 0 0 av w0 (fun v w1 => v = some (.int (iI r)) ∧ w1 = w0)
section GD
variable {G : gG} {K : gK} {y : MethodName} {cc : ByteArray} {nL n mc ms co so pc : Nat} {lv : List (Nat × Value)} {st : List Value} {ws : va_W}
theorem g_iret {ret : Option FieldType} {nw : Nat} {post : Option Value → va_W → Prop} {v : Int} (hR : gR G cc ret mc ms nw post) (d : decode cc pc = .ok (.ireturn, 1)) (hret : ret = some .int) (hc : co ≤ mc ∧ so ≤ ms) (hw : nw ≤ ws.length) (hp : post (some (.int (iI v))) ws) : G co so pc lv [.int (iI v)] ws := hR.1 co so pc lv ws (iI v) .int hret rfl d hc.1 hc.2 hw hp
theorem g_zret {ret : Option FieldType} {nw : Nat} {post : Option Value → va_W → Prop} {v : Int} (hR : gR G cc ret mc ms nw post) (d : decode cc pc = .ok (.ireturn, 1)) (hret : ret = some .boolean) (hz : v = 0 ∨ v = 1) (hc : co ≤ mc ∧ so ≤ ms) (hw : nw ≤ ws.length) (hp : post (some (.int (iI v))) ws) : G co so pc lv [.int (iI v)] ws := hR.1 co so pc lv ws (iI v) .boolean hret (z_nar hz) d hc.1 hc.2 hw hp
theorem g_lret {ret : Option FieldType} {nw : Nat} {post : Option Value → va_W → Prop} {v : Int} (hR : gR G cc ret mc ms nw post) (d : decode cc pc = .ok (.lreturn, 1)) (hret : ret = some .long) (hc : co ≤ mc ∧ so ≤ ms) (hw : nw ≤ ws.length) (hp : post (some (.long (iL v))) ws) : G co so pc lv [.long (iL v)] ws := hR.2.1 co so pc lv ws (iL v) hret d hc.1 hc.2 hw hp
theorem g_vret {ret : Option FieldType} {nw : Nat} {post : Option Value → va_W → Prop} (hR : gR G cc ret mc ms nw post) (d : decode cc pc = .ok (.return_, 1)) (hret : ret = none) (hc : co ≤ mc ∧ so ≤ ms) (hw : nw ≤ ws.length) (hp : post none ws) : G co so pc lv [] ws := hR.2.2 co so pc lv ws hret d hc.1 hc.2 hw hp
theorem g_fnV (hC : gC G K y cc nL n mc ms) {yc : MethodName} {bc : ByteArray} {nc kc na : Nat} {rc : Option FieldType} {b : Nat} {As rest : List Value} {wc : va_W} {r : Int} {index : Nat} {ci qr : Nat} {fs : List Value} {cq : vw_C} (ps : List Nat) (hM : gFn K yc bc nc rc kc (.ref b :: As) wc r) (hv : gCv yc bc nc rc na) (hlink : Cond.methodLink y.cls index yc ∈ TB) (d : decode cc pc = .ok (.invokevirtual index, 3)) (hst : st = As.reverse ++ .ref b :: rest) (hqr : ws[qr]? = some (cO b ci fs)) (hcq : vwCl[ci]? = some cq) (hcn : cq.1 = yc.cls) (hps : ps.map (fun i => ws[i]?) = wc.map some) (hnd : va_nd ps = true) (hlev : kc + 1 ≤ n) (hroom : co ≤ mc ∧ so ≤ ms) (hrest : (rest.map fun v => v.category).sum ≤ 8) (hna : As.length = na) (hsame : gput ws ps wc = ws) (kk : G co so (pc + 3) lv (.int (iI r) :: rest) ws) : G co so pc lv st ws :=
  g_callV hC ps hM hv hlink d hst hqr hcq hcn hps hnd hlev hroom hrest hna (fun v w1 h => by
    obtain ⟨rfl, rfl⟩ := h
    rw [hsame]
    exact kk)
theorem g_fnS (hC : gC G K y cc nL n mc ms) {yc : MethodName} {bc : ByteArray} {nc kc na : Nat} {rc : Option FieldType} {As rest : List Value} {wc : va_W} {r : Int} {index : Nat} (ps : List Nat) (hM : gFn K yc bc nc rc kc As wc r) (hv : gCs yc bc nc rc na) (hlink : Cond.methodLink y.cls index yc ∈ TB) (d : decode cc pc = .ok (.invokestatic index, 3)) (hst : st = As.reverse ++ rest) (hps : ps.map (fun i => ws[i]?) = wc.map some) (hnd : va_nd ps = true) (hlev : kc + 1 ≤ n) (hroom : co ≤ mc ∧ so ≤ ms) (hrest : (rest.map fun v => v.category).sum ≤ 8) (hna : As.length = na) (hsame : gput ws ps wc = ws) (kk : G co so (pc + 3) lv (.int (iI r) :: rest) ws) : G co so pc lv st ws :=
  g_callS hC ps hM hv hlink d hst hps hnd hlev hroom hrest hna (fun v w1 h => by
    obtain ⟨rfl, rfl⟩ := h
    rw [hsame]
    exact kk)
theorem g_fnSN (hC : gC G K y cc nL n mc ms) {yc : MethodName} {bc : ByteArray} {nc kc na : Nat} {rc : Option FieldType} {As rest : List Value} {wc : va_W} {r : Int} {index : Nat} (ps : List Nat) (hM : gFn K yc bc nc rc kc As wc r) (hv : gCs yc bc nc rc na) (hlink : Cond.methodLinkNest y.cls index yc RX9 ∈ gN) (d : decode cc pc = .ok (.invokestatic index, 3)) (hst : st = As.reverse ++ rest) (hps : ps.map (fun i => ws[i]?) = wc.map some) (hnd : va_nd ps = true) (hlev : kc + 1 ≤ n) (hroom : co ≤ mc ∧ so ≤ ms) (hrest : (rest.map fun v => v.category).sum ≤ 8) (hna : As.length = na) (hsame : gput ws ps wc = ws) (kk : G co so (pc + 3) lv (.int (iI r) :: rest) ws) : G co so pc lv st ws :=
  g_callSN hC ps hM hv hlink d hst hps hnd hlev hroom hrest hna (fun v w1 h => by
    obtain ⟨rfl, rfl⟩ := h
    rw [hsame]
    exact kk)
end GD
def rZ (f : Int → Int) : Prop := ∀ j, f j = 0 ∨ f j = 1
theorem rng_up {f f2 : Int → Int} {i x : Int} (e : f2 = upI f i x) (h : ∀ j, rI (f j)) (hx : rI x) : ∀ j, rI (f2 j) := by
  intro j
  rw [e]
  unfold upI
  by_cases hj : j = i
  · rw [if_pos hj]; exact hx
  · rw [if_neg hj]; exact h j
theorem rng_upZ {f f2 : Int → Int} {i x : Int} (e : f2 = upI f i x) (h : rZ f) (hx : x = 0 ∨ x = 1) : rZ f2 := by
  intro j
  rw [e]
  unfold upI
  by_cases hj : j = i
  · rw [if_pos hj]; exact hx
  · rw [if_neg hj]; exact h j
theorem rng_cp {f g f2 : Int → Int} {sp dp k : Int} (e : f2 = fun j => if dp ≤ j ∧ j < dp + k then f (sp + (j - dp)) else g j) (h : ∀ j, rI (f j)) (h2 : ∀ j, rI (g j)) : ∀ j, rI (f2 j) := by
  intro j
  rw [e]
  by_cases hj : dp ≤ j ∧ j < dp + k
  · show rI (if _ then _ else _)
    rw [if_pos hj]; exact h _
  · show rI (if _ then _ else _)
    rw [if_neg hj]; exact h2 _
theorem ret_eq {a b : Int} (h : a = b) : some (Value.int (iI a)) = some (Value.int (iI b)) := by rw [h]
theorem ret_eqL {a b : Int} (h : a = b) : some (Value.long (iL a)) = some (Value.long (iL b)) := by rw [h]
theorem cl_X0_init : gCi yX0_init cX0_init 1 0 := ⟨wj_yX0_init, wk_yX0_init, wz_X0, by decide +kernel, by decide, rfl⟩
theorem cl_X0_bodyOf : gCs yX0_bodyOf cX0_bodyOf 3 (some .int) 2 := ⟨wj_yX0_bodyOf, wk_yX0_bodyOf, wz_X0, by decide +kernel, by decide⟩
theorem cl_X9_kindAbove : gCs yX9_kindAbove cX9_kindAbove 1 (some .int) 1 := ⟨wj_yX9_kindAbove, wk_yX9_kindAbove, wz_X9, by decide +kernel, by decide⟩
theorem cl_X0_ownerOf : gCs yX0_ownerOf cX0_ownerOf 4 (some .int) 2 := ⟨wj_yX0_ownerOf, wk_yX0_ownerOf, wz_X0, by decide +kernel, by decide⟩
theorem cl_X0_note : gCv yX0_note cX0_note 2 none 1 := ⟨wj_yX0_note, ws_yX0_note, wk_yX0_note, wz_X0, by decide +kernel, by decide⟩
theorem cl_X0_run : gCv yX0_run cX0_run 7 (some .int) 4 := ⟨wj_yX0_run, ws_yX0_run, wk_yX0_run, wz_X0, by decide +kernel, by decide⟩
theorem cl_X0_answer : gCv yX0_answer cX0_answer 5 (some .int) 4 := ⟨wj_yX0_answer, ws_yX0_answer, wk_yX0_answer, wz_X0, by decide +kernel, by decide⟩
theorem cl_X0_begin : gCv yX0_begin cX0_begin 3 (some .int) 2 := ⟨wj_yX0_begin, ws_yX0_begin, wk_yX0_begin, wz_X0, by decide +kernel, by decide⟩
theorem cl_X1_init : gCi yX1_init cX1_init 1 0 := ⟨wj_yX1_init, wk_yX1_init, wz_X1, by decide +kernel, by decide, rfl⟩
theorem cl_X1_clear : gCv yX1_clear cX1_clear 1 none 0 := ⟨wj_yX1_clear, ws_yX1_clear, wk_yX1_clear, wz_X1, by decide +kernel, by decide⟩
theorem cl_X1_put : gCv yX1_put cX1_put 3 none 2 := ⟨wj_yX1_put, ws_yX1_put, wk_yX1_put, wz_X1, by decide +kernel, by decide⟩
theorem cl_X1_weigh : gCv yX1_weigh cX1_weigh 8 (some .int) 1 := ⟨wj_yX1_weigh, ws_yX1_weigh, wk_yX1_weigh, wz_X1, by decide +kernel, by decide⟩
theorem cl_X2_init : gCi yX2_init cX2_init 1 0 := ⟨wj_yX2_init, wk_yX2_init, wz_X2, by decide +kernel, by decide, rfl⟩
theorem cl_X2_hold : gCv yX2_hold cX2_hold 2 none 1 := ⟨wj_yX2_hold, ws_yX2_hold, wk_yX2_hold, wz_X2, by decide +kernel, by decide⟩
theorem cl_X2_reach : gCv yX2_reach cX2_reach 1 (some .int) 0 := ⟨wj_yX2_reach, ws_yX2_reach, wk_yX2_reach, wz_X2, by decide +kernel, by decide⟩
theorem cl_X5_has : gCv yX5_has cX5_has 2 (some .boolean) 1 := ⟨wj_yX5_has, ws_yX5_has, wk_yX5_has, wz_X5, by decide +kernel, by decide⟩
theorem cl_X5_apart : gCv yX5_apart cX5_apart 4 (some .int) 2 := ⟨wj_yX5_apart, ws_yX5_apart, wk_yX5_apart, wz_X5, by decide +kernel, by decide⟩
theorem cl_X2_onBy : gCv yX2_onBy cX2_onBy 8 (some .int) 3 := ⟨wj_yX2_onBy, ws_yX2_onBy, wk_yX2_onBy, wz_X2, by decide +kernel, by decide⟩
theorem cl_X5_isAway : gCv yX5_isAway cX5_isAway 2 (some .boolean) 1 := ⟨wj_yX5_isAway, ws_yX5_isAway, wk_yX5_isAway, wz_X5, by decide +kernel, by decide⟩
theorem cl_X2_leaderOf : gCv yX2_leaderOf cX2_leaderOf 8 (some .int) 2 := ⟨wj_yX2_leaderOf, ws_yX2_leaderOf, wk_yX2_leaderOf, wz_X2, by decide +kernel, by decide⟩
theorem cl_X3_init : gCi yX3_init cX3_init 3 2 := ⟨wj_yX3_init, wk_yX3_init, wz_X3, by decide +kernel, by decide, rfl⟩
theorem cl_X3_sign : gCv yX3_sign cX3_sign 1 (some .int) 0 := ⟨wj_yX3_sign, ws_yX3_sign, wk_yX3_sign, wz_X3, by decide +kernel, by decide⟩
theorem cl_J0_coder_7d493 : gCv yJ0_coder_7d493 cJ0_coder_7d493 1 (some .byte) 0 := ⟨wj_yJ0_coder_7d493, ws_yJ0_coder_7d493, wk_yJ0_coder_7d493, wz_J0, by decide +kernel, by decide⟩
theorem cl_J0_length_8abf5 : gCv yJ0_length_8abf5 cJ0_length_8abf5 1 (some .int) 0 := ⟨wj_yJ0_length_8abf5, ws_yJ0_length_8abf5, wk_yJ0_length_8abf5, wz_J0, by decide +kernel, by decide⟩
theorem cl_J0_isLatin1_aae02 : gCv yJ0_isLatin1_aae02 cJ0_isLatin1_aae02 1 (some .boolean) 0 := ⟨wj_yJ0_isLatin1_aae02, ws_yJ0_isLatin1_aae02, wk_yJ0_isLatin1_aae02, wz_J0, by decide +kernel, by decide⟩
theorem cl_J3_checkIndex_8e157 : gCs yJ3_checkIndex_8e157 cJ3_checkIndex_8e157 3 (some .int) 3 := ⟨wj_yJ3_checkIndex_8e157, wk_yJ3_checkIndex_8e157, wz_J3, by decide +kernel, by decide⟩
theorem cl_J0_checkIndex_df160 : gCs yJ0_checkIndex_df160 cJ0_checkIndex_df160 2 none 2 := ⟨wj_yJ0_checkIndex_df160, wk_yJ0_checkIndex_df160, wz_J0, by decide +kernel, by decide⟩
theorem cl_J1_charAt_3b067 : gCs yJ1_charAt_3b067 cJ1_charAt_3b067 2 (some .char) 2 := ⟨wj_yJ1_charAt_3b067, wk_yJ1_charAt_3b067, wz_J1, by decide +kernel, by decide⟩
theorem cl_J2_length_9d52b : gCs yJ2_length_9d52b cJ2_length_9d52b 1 (some .int) 1 := ⟨wj_yJ2_length_9d52b, wk_yJ2_length_9d52b, wz_J2, by decide +kernel, by decide⟩
theorem cl_J2_checkIndex_2214a : gCs yJ2_checkIndex_2214a cJ2_checkIndex_2214a 2 none 2 := ⟨wj_yJ2_checkIndex_2214a, wk_yJ2_checkIndex_2214a, wz_J2, by decide +kernel, by decide⟩
theorem cl_J2_getChar_3b067 : gCs yJ2_getChar_3b067 cJ2_getChar_3b067 2 (some .char) 2 := ⟨wj_yJ2_getChar_3b067, wk_yJ2_getChar_3b067, wz_J2, by decide +kernel, by decide⟩
theorem cl_J2_charAt_3b067 : gCs yJ2_charAt_3b067 cJ2_charAt_3b067 2 (some .char) 2 := ⟨wj_yJ2_charAt_3b067, wk_yJ2_charAt_3b067, wz_J2, by decide +kernel, by decide⟩
theorem cl_J0_charAt_5068e : gCv yJ0_charAt_5068e cJ0_charAt_5068e 2 (some .char) 1 := ⟨wj_yJ0_charAt_5068e, ws_yJ0_charAt_5068e, wk_yJ0_charAt_5068e, wz_J0, by decide +kernel, by decide⟩
theorem cl_X3_readWord : gCv yX3_readWord cX3_readWord 3 (some .boolean) 1 := ⟨wj_yX3_readWord, ws_yX3_readWord, wk_yX3_readWord, wz_X3, by decide +kernel, by decide⟩
theorem cl_X3_readNumber : gCv yX3_readNumber cX3_readNumber 2 (some .boolean) 0 := ⟨wj_yX3_readNumber, ws_yX3_readNumber, wk_yX3_readNumber, wz_X3, by decide +kernel, by decide⟩
theorem cl_X3_placeOfLetter : gCs yX3_placeOfLetter cX3_placeOfLetter 2 (some .int) 1 := ⟨wj_yX3_placeOfLetter, wk_yX3_placeOfLetter, wz_X3, by decide +kernel, by decide⟩
theorem cl_X3_valuesBy : gCs yX3_valuesBy cX3_valuesBy 5 (some .int) 2 := ⟨wj_yX3_valuesBy, wk_yX3_valuesBy, wz_X3, by decide +kernel, by decide⟩
theorem cl_X3_readTest : gCv yX3_readTest cX3_readTest 3 (some .boolean) 0 := ⟨wj_yX3_readTest, ws_yX3_readTest, wk_yX3_readTest, wz_X3, by decide +kernel, by decide⟩
theorem cl_X3_readInBrackets : gCv yX3_readInBrackets cX3_readInBrackets 2 (some .boolean) 1 := ⟨wj_yX3_readInBrackets, ws_yX3_readInBrackets, wk_yX3_readInBrackets, wz_X3, by decide +kernel, by decide⟩
theorem cl_X3_readOne : gCv yX3_readOne cX3_readOne 5 (some .boolean) 1 := ⟨wj_yX3_readOne, ws_yX3_readOne, wk_yX3_readOne, wz_X3, by decide +kernel, by decide⟩
theorem cl_X3_readEither : gCv yX3_readEither cX3_readEither 5 (some .boolean) 1 := ⟨wj_yX3_readEither, ws_yX3_readEither, wk_yX3_readEither, wz_X3, by decide +kernel, by decide⟩
theorem cl_X3_readClause : gCv yX3_readClause cX3_readClause 3 (some .boolean) 0 := ⟨wj_yX3_readClause, ws_yX3_readClause, wk_yX3_readClause, wz_X3, by decide +kernel, by decide⟩
theorem cl_X3_readHouse : gCv yX3_readHouse cX3_readHouse 3 (some .boolean) 0 := ⟨wj_yX3_readHouse, ws_yX3_readHouse, wk_yX3_readHouse, wz_X3, by decide +kernel, by decide⟩
theorem cl_X4_init : gCi yX4_init cX4_init 1 0 := ⟨wj_yX4_init, wk_yX4_init, wz_X4, by decide +kernel, by decide, rfl⟩
theorem cl_X4_add : gCv yX4_add cX4_add 5 (some .int) 4 := ⟨wj_yX4_add, ws_yX4_add, wk_yX4_add, wz_X4, by decide +kernel, by decide⟩
theorem cl_X4_copyFrom : gCv yX4_copyFrom cX4_copyFrom 2 none 1 := ⟨wj_yX4_copyFrom, ws_yX4_copyFrom, wk_yX4_copyFrom, wz_X4, by decide +kernel, by decide⟩
theorem cl_X5_init : gCi yX5_init cX5_init 1 0 := ⟨wj_yX5_init, wk_yX5_init, wz_X5, by decide +kernel, by decide, rfl⟩
theorem cl_X5_add : gCv yX5_add cX5_add 6 (some .int) 4 := ⟨wj_yX5_add, ws_yX5_add, wk_yX5_add, wz_X5, by decide +kernel, by decide⟩
theorem cl_X5_copyFrom : gCv yX5_copyFrom cX5_copyFrom 2 none 1 := ⟨wj_yX5_copyFrom, ws_yX5_copyFrom, wk_yX5_copyFrom, wz_X5, by decide +kernel, by decide⟩
theorem cl_X5_change : gCv yX5_change cX5_change 4 none 3 := ⟨wj_yX5_change, ws_yX5_change, wk_yX5_change, wz_X5, by decide +kernel, by decide⟩
theorem cl_X5_send : gCv yX5_send cX5_send 3 none 2 := ⟨wj_yX5_send, ws_yX5_send, wk_yX5_send, wz_X5, by decide +kernel, by decide⟩
theorem cl_X5_nextOf : gCv yX5_nextOf cX5_nextOf 7 (some .int) 2 := ⟨wj_yX5_nextOf, ws_yX5_nextOf, wk_yX5_nextOf, wz_X5, by decide +kernel, by decide⟩
theorem cl_X5_goOneStep : gCv yX5_goOneStep cX5_goOneStep 3 none 1 := ⟨wj_yX5_goOneStep, ws_yX5_goOneStep, wk_yX5_goOneStep, wz_X5, by decide +kernel, by decide⟩
theorem cl_J6_bitCount_0f7a4 : gCs yJ6_bitCount_0f7a4 cJ6_bitCount_0f7a4 1 (some .int) 1 := ⟨wj_yJ6_bitCount_0f7a4, wk_yJ6_bitCount_0f7a4, wz_J6, by decide +kernel, by decide⟩
theorem cl_X5_unlikeStates : gCv yX5_unlikeStates cX5_unlikeStates 3 (some .int) 0 := ⟨wj_yX5_unlikeStates, ws_yX5_unlikeStates, wk_yX5_unlikeStates, wz_X5, by decide +kernel, by decide⟩
theorem cl_X5_present : gCv yX5_present cX5_present 1 (some .int) 0 := ⟨wj_yX5_present, ws_yX5_present, wk_yX5_present, wz_X5, by decide +kernel, by decide⟩
theorem cl_X5_sumOfStates : gCv yX5_sumOfStates cX5_sumOfStates 4 (some .int) 1 := ⟨wj_yX5_sumOfStates, ws_yX5_sumOfStates, wk_yX5_sumOfStates, wz_X5, by decide +kernel, by decide⟩
theorem cl_X6_init : gCi yX6_init cX6_init 1 0 := ⟨wj_yX6_init, wk_yX6_init, wz_X6, by decide +kernel, by decide, rfl⟩
theorem cl_X6_add : gCv yX6_add cX6_add 2 (some .boolean) 1 := ⟨wj_yX6_add, ws_yX6_add, wk_yX6_add, wz_X6, by decide +kernel, by decide⟩
theorem cl_X6_copyFrom : gCv yX6_copyFrom cX6_copyFrom 2 none 1 := ⟨wj_yX6_copyFrom, ws_yX6_copyFrom, wk_yX6_copyFrom, wz_X6, by decide +kernel, by decide⟩
theorem cl_X7_init : gCi yX7_init cX7_init 2 1 := ⟨wj_yX7_init, wk_yX7_init, wz_X7, by decide +kernel, by decide, rfl⟩
theorem cl_X7_begin : gCv yX7_begin cX7_begin 2 none 1 := ⟨wj_yX7_begin, ws_yX7_begin, wk_yX7_begin, wz_X7, by decide +kernel, by decide⟩
theorem cl_X7_goOn : gCv yX7_goOn cX7_goOn 3 none 1 := ⟨wj_yX7_goOn, ws_yX7_goOn, wk_yX7_goOn, wz_X7, by decide +kernel, by decide⟩
theorem cl_X7_settles : gCv yX7_settles cX7_settles 3 (some .int) 1 := ⟨wj_yX7_settles, ws_yX7_settles, wk_yX7_settles, wz_X7, by decide +kernel, by decide⟩
theorem cl_X7_toldOn : gCv yX7_toldOn cX7_toldOn 7 (some .int) 3 := ⟨wj_yX7_toldOn, ws_yX7_toldOn, wk_yX7_toldOn, wz_X7, by decide +kernel, by decide⟩
theorem cl_X7_unlikeByWay : gCv yX7_unlikeByWay cX7_unlikeByWay 4 (some .int) 1 := ⟨wj_yX7_unlikeByWay, ws_yX7_unlikeByWay, wk_yX7_unlikeByWay, wz_X7, by decide +kernel, by decide⟩
theorem cl_X7_swap : gCv yX7_swap cX7_swap 4 none 2 := ⟨wj_yX7_swap, ws_yX7_swap, wk_yX7_swap, wz_X7, by decide +kernel, by decide⟩
theorem cl_X7_turnToNextWay : gCv yX7_turnToNextWay cX7_turnToNextWay 7 (some .boolean) 1 := ⟨wj_yX7_turnToNextWay, ws_yX7_turnToNextWay, wk_yX7_turnToNextWay, wz_X7, by decide +kernel, by decide⟩
theorem cl_X7_findRooms : gCv yX7_findRooms cX7_findRooms 5 none 1 := ⟨wj_yX7_findRooms, ws_yX7_findRooms, wk_yX7_findRooms, wz_X7, by decide +kernel, by decide⟩
theorem cl_X7_showsAll : gCv yX7_showsAll cX7_showsAll 6 (some .boolean) 1 := ⟨wj_yX7_showsAll, ws_yX7_showsAll, wk_yX7_showsAll, wz_X7, by decide +kernel, by decide⟩
theorem cl_X7_fitting : gCv yX7_fitting cX7_fitting 6 (some .int) 3 := ⟨wj_yX7_fitting, ws_yX7_fitting, wk_yX7_fitting, wz_X7, by decide +kernel, by decide⟩
theorem cl_X7_waysTo : gCv yX7_waysTo cX7_waysTo 8 (some .int) 5 := ⟨wj_yX7_waysTo, ws_yX7_waysTo, wk_yX7_waysTo, wz_X7, by decide +kernel, by decide⟩
theorem cl_X7_goByPlan : gCv yX7_goByPlan cX7_goByPlan 4 none 1 := ⟨wj_yX7_goByPlan, ws_yX7_goByPlan, wk_yX7_goByPlan, wz_X7, by decide +kernel, by decide⟩
theorem cl_X8_init : gCi yX8_init cX8_init 1 0 := ⟨wj_yX8_init, wk_yX8_init, wz_X8, by decide +kernel, by decide, rfl⟩
theorem cl_X8_copyFrom : gCv yX8_copyFrom cX8_copyFrom 2 none 1 := ⟨wj_yX8_copyFrom, ws_yX8_copyFrom, wk_yX8_copyFrom, wz_X8, by decide +kernel, by decide⟩
theorem cl_X9_init : gCi yX9_init cX9_init 2 0 := ⟨wj_yX9_init, wk_yX9_init, wz_X9, by decide +kernel, by decide, rfl⟩
theorem cl_X9_feed : gCv yX9_feed cX9_feed 2 (some .int) 1 := ⟨wj_yX9_feed, ws_yX9_feed, wk_yX9_feed, wz_X9, by decide +kernel, by decide⟩
theorem cl_X9_forgetWorked : gCv yX9_forgetWorked cX9_forgetWorked 2 none 0 := ⟨wj_yX9_forgetWorked, ws_yX9_forgetWorked, wk_yX9_forgetWorked, wz_X9, by decide +kernel, by decide⟩
theorem cl_X9_house : gCv yX9_house cX9_house 3 (some .int) 0 := ⟨wj_yX9_house, ws_yX9_house, wk_yX9_house, wz_X9, by decide +kernel, by decide⟩
theorem cl_X9_isDigit : gCs yX9_isDigit cX9_isDigit 1 (some .boolean) 1 := ⟨wj_yX9_isDigit, wk_yX9_isDigit, wz_X9, by decide +kernel, by decide⟩
theorem cl_X9_man : gCv yX9_man cX9_man 6 (some .int) 4 := ⟨wj_yX9_man, ws_yX9_man, wk_yX9_man, wz_X9, by decide +kernel, by decide⟩
theorem cl_X9_orMissing : gCs yX9_orMissing cX9_orMissing 1 (some .int) 1 := ⟨wj_yX9_orMissing, wk_yX9_orMissing, wz_X9, by decide +kernel, by decide⟩
theorem cl_X9_of : gCv yX9_of cX9_of 4 (some .int) 2 := ⟨wj_yX9_of, ws_yX9_of, wk_yX9_of, wz_X9, by decide +kernel, by decide⟩
theorem cl_X9_pull : gCv yX9_pull cX9_pull 3 (some .int) 2 := ⟨wj_yX9_pull, ws_yX9_pull, wk_yX9_pull, wz_X9, by decide +kernel, by decide⟩
theorem cl_X9_row : gCv yX9_row cX9_row 6 (some .int) 3 := ⟨wj_yX9_row, ws_yX9_row, wk_yX9_row, wz_X9, by decide +kernel, by decide⟩
theorem cl_X9_set : gCv yX9_set cX9_set 5 (some .int) 3 := ⟨wj_yX9_set, ws_yX9_set, wk_yX9_set, wz_X9, by decide +kernel, by decide⟩
theorem cl_X9_away : gCv yX9_away cX9_away 4 (some .int) 2 := ⟨wj_yX9_away, ws_yX9_away, wk_yX9_away, wz_X9, by decide +kernel, by decide⟩
theorem cl_X9_told : gCv yX9_told cX9_told 2 (some .int) 1 := ⟨wj_yX9_told, ws_yX9_told, wk_yX9_told, wz_X9, by decide +kernel, by decide⟩
theorem cl_X9_pass : gCv yX9_pass cX9_pass 3 (some .int) 1 := ⟨wj_yX9_pass, ws_yX9_pass, wk_yX9_pass, wz_X9, by decide +kernel, by decide⟩
theorem cl_X9_on : gCv yX9_on cX9_on 3 (some .int) 2 := ⟨wj_yX9_on, ws_yX9_on, wk_yX9_on, wz_X9, by decide +kernel, by decide⟩
theorem cl_X9_steer : gCv yX9_steer cX9_steer 4 (some .int) 2 := ⟨wj_yX9_steer, ws_yX9_steer, wk_yX9_steer, wz_X9, by decide +kernel, by decide⟩
theorem cl_X9_tells : gCv yX9_tells cX9_tells 3 (some .int) 2 := ⟨wj_yX9_tells, ws_yX9_tells, wk_yX9_tells, wz_X9, by decide +kernel, by decide⟩
theorem cl_X9_roomed : gCv yX9_roomed cX9_roomed 2 (some .int) 1 := ⟨wj_yX9_roomed, ws_yX9_roomed, wk_yX9_roomed, wz_X9, by decide +kernel, by decide⟩
theorem cl_X9_see : gCv yX9_see cX9_see 4 (some .int) 3 := ⟨wj_yX9_see, ws_yX9_see, wk_yX9_see, wz_X9, by decide +kernel, by decide⟩
theorem cl_X9_states : gCv yX9_states cX9_states 2 (some .int) 1 := ⟨wj_yX9_states, ws_yX9_states, wk_yX9_states, wz_X9, by decide +kernel, by decide⟩
theorem cl_X9_where : gCv yX9_where cX9_where 2 (some .int) 1 := ⟨wj_yX9_where, ws_yX9_where, wk_yX9_where, wz_X9, by decide +kernel, by decide⟩
theorem cl_X9_leastOf : gCs yX9_leastOf cX9_leastOf 2 (some .int) 1 := ⟨wj_yX9_leastOf, wk_yX9_leastOf, wz_X9, by decide +kernel, by decide⟩
theorem cl_X9_firm : gCv yX9_firm cX9_firm 4 (some .int) 2 := ⟨wj_yX9_firm, ws_yX9_firm, wk_yX9_firm, wz_X9, by decide +kernel, by decide⟩
theorem cl_X9_partOf : gCs yX9_partOf cX9_partOf 4 (some .long) 3 := ⟨wj_yX9_partOf, wk_yX9_partOf, wz_X9, by decide +kernel, by decide⟩
theorem cl_X9_odds : gCv yX9_odds cX9_odds 8 (some .long) 5 := ⟨wj_yX9_odds, ws_yX9_odds, wk_yX9_odds, wz_X9, by decide +kernel, by decide⟩
theorem cl_X9_mean : gCv yX9_mean cX9_mean 3 (some .long) 1 := ⟨wj_yX9_mean, ws_yX9_mean, wk_yX9_mean, wz_X9, by decide +kernel, by decide⟩
theorem cl_X9_isPlanned : gCv yX9_isPlanned cX9_isPlanned 3 (some .boolean) 2 := ⟨wj_yX9_isPlanned, ws_yX9_isPlanned, wk_yX9_isPlanned, wz_X9, by decide +kernel, by decide⟩
theorem cl_X9_plan : gCv yX9_plan cX9_plan 3 (some .int) 2 := ⟨wj_yX9_plan, ws_yX9_plan, wk_yX9_plan, wz_X9, by decide +kernel, by decide⟩
theorem cl_X9_done : gCv yX9_done cX9_done 2 (some .int) 1 := ⟨wj_yX9_done, ws_yX9_done, wk_yX9_done, wz_X9, by decide +kernel, by decide⟩
theorem cl_X9_book : gCv yX9_book cX9_book 3 (some .int) 2 := ⟨wj_yX9_book, ws_yX9_book, wk_yX9_book, wz_X9, by decide +kernel, by decide⟩
theorem cl_X9_looked : gCv yX9_looked cX9_looked 4 (some .int) 0 := ⟨wj_yX9_looked, ws_yX9_looked, wk_yX9_looked, wz_X9, by decide +kernel, by decide⟩
theorem cl_X9_act : gCv yX9_act cX9_act 4 (some .int) 3 := ⟨wj_yX9_act, ws_yX9_act, wk_yX9_act, wz_X9, by decide +kernel, by decide⟩
theorem cl_X9_trace : gCv yX9_trace cX9_trace 2 (some .int) 1 := ⟨wj_yX9_trace, ws_yX9_trace, wk_yX9_trace, wz_X9, by decide +kernel, by decide⟩
theorem cl_X9_isUnder : gCs yX9_isUnder cX9_isUnder 4 (some .boolean) 2 := ⟨wj_yX9_isUnder, wk_yX9_isUnder, wz_X9, by decide +kernel, by decide⟩
theorem cl_X9_as : gCv yX9_as cX9_as 3 (some .int) 2 := ⟨wj_yX9_as, ws_yX9_as, wk_yX9_as, wz_X9, by decide +kernel, by decide⟩
theorem cl_X9_image : gCv yX9_image cX9_image 1 (some .int) 0 := ⟨wj_yX9_image, ws_yX9_image, wk_yX9_image, wz_X9, by decide +kernel, by decide⟩
theorem cl_X9_undo : gCv yX9_undo cX9_undo 1 (some .int) 0 := ⟨wj_yX9_undo, ws_yX9_undo, wk_yX9_undo, wz_X9, by decide +kernel, by decide⟩
theorem cl_X9_count : gCv yX9_count cX9_count 2 (some .int) 1 := ⟨wj_yX9_count, ws_yX9_count, wk_yX9_count, wz_X9, by decide +kernel, by decide⟩
theorem cl_X10_init : gCi yX10_init cX10_init 1 0 := ⟨wj_yX10_init, wk_yX10_init, wz_X10, by decide +kernel, by decide, rfl⟩
theorem cl_X10_in : gCs yX10_in cX10_in 3 (some .boolean) 3 := ⟨wj_yX10_in, wk_yX10_in, wz_X10, by decide +kernel, by decide⟩
theorem cl_X10_isDigit : gCs yX10_isDigit cX10_isDigit 1 (some .boolean) 1 := ⟨wj_yX10_isDigit, wk_yX10_isDigit, wz_X10, by decide +kernel, by decide⟩
theorem cl_X10_isMan : gCv yX10_isMan cX10_isMan 2 (some .boolean) 1 := ⟨wj_yX10_isMan, ws_yX10_isMan, wk_yX10_isMan, wz_X10, by decide +kernel, by decide⟩
theorem cl_X10_apart : gCv yX10_apart cX10_apart 4 (some .int) 2 := ⟨wj_yX10_apart, ws_yX10_apart, wk_yX10_apart, wz_X10, by decide +kernel, by decide⟩
theorem cl_X10_keeps : gCv yX10_keeps cX10_keeps 2 none 0 := ⟨wj_yX10_keeps, ws_yX10_keeps, wk_yX10_keeps, wz_X10, by decide +kernel, by decide⟩
theorem cl_X10_goesBack : gCv yX10_goesBack cX10_goesBack 2 none 0 := ⟨wj_yX10_goesBack, ws_yX10_goesBack, wk_yX10_goesBack, wz_X10, by decide +kernel, by decide⟩
theorem cl_X10_feed : gCv yX10_feed cX10_feed 2 (some .int) 1 := ⟨wj_yX10_feed, ws_yX10_feed, wk_yX10_feed, wz_X10, by decide +kernel, by decide⟩
theorem cl_X10_here : gCv yX10_here cX10_here 1 (some .int) 0 := ⟨wj_yX10_here, ws_yX10_here, wk_yX10_here, wz_X10, by decide +kernel, by decide⟩
theorem cl_X10_must : gCv yX10_must cX10_must 2 none 1 := ⟨wj_yX10_must, ws_yX10_must, wk_yX10_must, wz_X10, by decide +kernel, by decide⟩
theorem cl_X10_spells : gCv yX10_spells cX10_spells 3 none 1 := ⟨wj_yX10_spells, ws_yX10_spells, wk_yX10_spells, wz_X10, by decide +kernel, by decide⟩
theorem cl_X10_figures : gCv yX10_figures cX10_figures 3 (some .int) 0 := ⟨wj_yX10_figures, ws_yX10_figures, wk_yX10_figures, wz_X10, by decide +kernel, by decide⟩
theorem cl_X10_among : gCv yX10_among cX10_among 3 (some .int) 1 := ⟨wj_yX10_among, ws_yX10_among, wk_yX10_among, wz_X10, by decide +kernel, by decide⟩
theorem cl_X10_emits : gCv yX10_emits cX10_emits 2 none 1 := ⟨wj_yX10_emits, ws_yX10_emits, wk_yX10_emits, wz_X10, by decide +kernel, by decide⟩
theorem cl_X10_factor : gCv yX10_factor cX10_factor 5 none 0 := ⟨wj_yX10_factor, ws_yX10_factor, wk_yX10_factor, wz_X10, by decide +kernel, by decide⟩
theorem cl_X10_some : gCv yX10_some cX10_some 1 none 0 := ⟨wj_yX10_some, ws_yX10_some, wk_yX10_some, wz_X10, by decide +kernel, by decide⟩
theorem cl_X10_every : gCv yX10_every cX10_every 1 none 0 := ⟨wj_yX10_every, ws_yX10_every, wk_yX10_every, wz_X10, by decide +kernel, by decide⟩
theorem cl_X10_much : gCv yX10_much cX10_much 4 none 2 := ⟨wj_yX10_much, ws_yX10_much, wk_yX10_much, wz_X10, by decide +kernel, by decide⟩
theorem cl_X10_tellsHere : gCv yX10_tellsHere cX10_tellsHere 4 none 2 := ⟨wj_yX10_tellsHere, ws_yX10_tellsHere, wk_yX10_tellsHere, wz_X10, by decide +kernel, by decide⟩
theorem cl_X10_clauseHere : gCv yX10_clauseHere cX10_clauseHere 1 none 0 := ⟨wj_yX10_clauseHere, ws_yX10_clauseHere, wk_yX10_clauseHere, wz_X10, by decide +kernel, by decide⟩
theorem cl_X10_house : gCv yX10_house cX10_house 2 (some .int) 0 := ⟨wj_yX10_house, ws_yX10_house, wk_yX10_house, wz_X10, by decide +kernel, by decide⟩
theorem cl_X10_tellsOf : gCv yX10_tellsOf cX10_tellsOf 3 (some .int) 2 := ⟨wj_yX10_tellsOf, ws_yX10_tellsOf, wk_yX10_tellsOf, wz_X10, by decide +kernel, by decide⟩
theorem cl_X10_pullRead : gCv yX10_pullRead cX10_pullRead 12 (some .int) 2 := ⟨wj_yX10_pullRead, ws_yX10_pullRead, wk_yX10_pullRead, wz_X10, by decide +kernel, by decide⟩
theorem cl_X10_begins : gCv yX10_begins cX10_begins 2 none 0 := ⟨wj_yX10_begins, ws_yX10_begins, wk_yX10_begins, wz_X10, by decide +kernel, by decide⟩
theorem cl_X10_ends : gCv yX10_ends cX10_ends 2 (some .int) 1 := ⟨wj_yX10_ends, ws_yX10_ends, wk_yX10_ends, wz_X10, by decide +kernel, by decide⟩
theorem cl_X10_pullOf : gCv yX10_pullOf cX10_pullOf 4 (some .int) 2 := ⟨wj_yX10_pullOf, ws_yX10_pullOf, wk_yX10_pullOf, wz_X10, by decide +kernel, by decide⟩
theorem cl_X10_leaderOf : gCv yX10_leaderOf cX10_leaderOf 7 (some .int) 1 := ⟨wj_yX10_leaderOf, ws_yX10_leaderOf, wk_yX10_leaderOf, wz_X10, by decide +kernel, by decide⟩
theorem cl_X10_nextOf : gCv yX10_nextOf cX10_nextOf 7 (some .int) 1 := ⟨wj_yX10_nextOf, ws_yX10_nextOf, wk_yX10_nextOf, wz_X10, by decide +kernel, by decide⟩
theorem cl_X10_unlike : gCv yX10_unlike cX10_unlike 4 (some .int) 0 := ⟨wj_yX10_unlike, ws_yX10_unlike, wk_yX10_unlike, wz_X10, by decide +kernel, by decide⟩
theorem cl_X10_becomes : gCv yX10_becomes cX10_becomes 4 (some .int) 2 := ⟨wj_yX10_becomes, ws_yX10_becomes, wk_yX10_becomes, wz_X10, by decide +kernel, by decide⟩
theorem cl_X10_man : gCv yX10_man cX10_man 7 (some .int) 4 := ⟨wj_yX10_man, ws_yX10_man, wk_yX10_man, wz_X10, by decide +kernel, by decide⟩
theorem cl_X10_of : gCv yX10_of cX10_of 3 (some .int) 2 := ⟨wj_yX10_of, ws_yX10_of, wk_yX10_of, wz_X10, by decide +kernel, by decide⟩
theorem cl_X10_pull : gCv yX10_pull cX10_pull 3 (some .int) 2 := ⟨wj_yX10_pull, ws_yX10_pull, wk_yX10_pull, wz_X10, by decide +kernel, by decide⟩
theorem cl_X10_row : gCv yX10_row cX10_row 4 (some .int) 3 := ⟨wj_yX10_row, ws_yX10_row, wk_yX10_row, wz_X10, by decide +kernel, by decide⟩
theorem cl_X10_set : gCv yX10_set cX10_set 4 (some .int) 3 := ⟨wj_yX10_set, ws_yX10_set, wk_yX10_set, wz_X10, by decide +kernel, by decide⟩
theorem cl_X10_away : gCv yX10_away cX10_away 3 (some .int) 2 := ⟨wj_yX10_away, ws_yX10_away, wk_yX10_away, wz_X10, by decide +kernel, by decide⟩
theorem cl_X10_goes : gCv yX10_goes cX10_goes 2 none 0 := ⟨wj_yX10_goes, ws_yX10_goes, wk_yX10_goes, wz_X10, by decide +kernel, by decide⟩
theorem cl_X10_settles : gCv yX10_settles cX10_settles 3 (some .int) 0 := ⟨wj_yX10_settles, ws_yX10_settles, wk_yX10_settles, wz_X10, by decide +kernel, by decide⟩
theorem cl_X10_awayOnes : gCv yX10_awayOnes cX10_awayOnes 3 (some .int) 0 := ⟨wj_yX10_awayOnes, ws_yX10_awayOnes, wk_yX10_awayOnes, wz_X10, by decide +kernel, by decide⟩
theorem cl_X10_told : gCv yX10_told cX10_told 2 (some .int) 1 := ⟨wj_yX10_told, ws_yX10_told, wk_yX10_told, wz_X10, by decide +kernel, by decide⟩
theorem cl_X10_goesOn : gCv yX10_goesOn cX10_goesOn 3 none 1 := ⟨wj_yX10_goesOn, ws_yX10_goesOn, wk_yX10_goesOn, wz_X10, by decide +kernel, by decide⟩
theorem cl_X10_pass : gCv yX10_pass cX10_pass 2 (some .int) 1 := ⟨wj_yX10_pass, ws_yX10_pass, wk_yX10_pass, wz_X10, by decide +kernel, by decide⟩
theorem cl_X10_on : gCv yX10_on cX10_on 4 (some .int) 2 := ⟨wj_yX10_on, ws_yX10_on, wk_yX10_on, wz_X10, by decide +kernel, by decide⟩
theorem cl_X10_stepsTo : gCv yX10_stepsTo cX10_stepsTo 6 (some .int) 3 := ⟨wj_yX10_stepsTo, ws_yX10_stepsTo, wk_yX10_stepsTo, wz_X10, by decide +kernel, by decide⟩
theorem cl_X10_steer : gCv yX10_steer cX10_steer 7 (some .int) 2 := ⟨wj_yX10_steer, ws_yX10_steer, wk_yX10_steer, wz_X10, by decide +kernel, by decide⟩
theorem cl_X10_tells : gCv yX10_tells cX10_tells 6 (some .int) 2 := ⟨wj_yX10_tells, ws_yX10_tells, wk_yX10_tells, wz_X10, by decide +kernel, by decide⟩
theorem cl_X10_triesOrder : gCv yX10_triesOrder cX10_triesOrder 3 none 0 := ⟨wj_yX10_triesOrder, ws_yX10_triesOrder, wk_yX10_triesOrder, wz_X10, by decide +kernel, by decide⟩
theorem cl_X10_ordersFrom : gCv yX10_ordersFrom cX10_ordersFrom 4 none 2 := ⟨wj_yX10_ordersFrom, ws_yX10_ordersFrom, wk_yX10_ordersFrom, wz_X10, by decide +kernel, by decide⟩
theorem cl_X10_roomed : gCv yX10_roomed cX10_roomed 3 (some .int) 1 := ⟨wj_yX10_roomed, ws_yX10_roomed, wk_yX10_roomed, wz_X10, by decide +kernel, by decide⟩
theorem cl_X10_see : gCv yX10_see cX10_see 4 (some .int) 3 := ⟨wj_yX10_see, ws_yX10_see, wk_yX10_see, wz_X10, by decide +kernel, by decide⟩
theorem cl_X10_isAsSeen : gCv yX10_isAsSeen cX10_isAsSeen 4 (some .boolean) 1 := ⟨wj_yX10_isAsSeen, ws_yX10_isAsSeen, wk_yX10_isAsSeen, wz_X10, by decide +kernel, by decide⟩
theorem cl_X10_areAsSeen : gCv yX10_areAsSeen cX10_areAsSeen 3 (some .boolean) 0 := ⟨wj_yX10_areAsSeen, ws_yX10_areAsSeen, wk_yX10_areAsSeen, wz_X10, by decide +kernel, by decide⟩
theorem cl_X10_fitting : gCv yX10_fitting cX10_fitting 4 (some .int) 1 := ⟨wj_yX10_fitting, ws_yX10_fitting, wk_yX10_fitting, wz_X10, by decide +kernel, by decide⟩
theorem cl_X10_states : gCv yX10_states cX10_states 2 (some .int) 1 := ⟨wj_yX10_states, ws_yX10_states, wk_yX10_states, wz_X10, by decide +kernel, by decide⟩
theorem cl_X10_where : gCv yX10_where cX10_where 2 (some .int) 1 := ⟨wj_yX10_where, ws_yX10_where, wk_yX10_where, wz_X10, by decide +kernel, by decide⟩
theorem cl_X10_firm : gCv yX10_firm cX10_firm 8 (some .int) 2 := ⟨wj_yX10_firm, ws_yX10_firm, wk_yX10_firm, wz_X10, by decide +kernel, by decide⟩
theorem cl_X10_lowest : gCs yX10_lowest cX10_lowest 11 (some .long) 3 := ⟨wj_yX10_lowest, wk_yX10_lowest, wz_X10, by decide +kernel, by decide⟩
theorem cl_X10_odds : gCv yX10_odds cX10_odds 8 (some .long) 5 := ⟨wj_yX10_odds, ws_yX10_odds, wk_yX10_odds, wz_X10, by decide +kernel, by decide⟩
theorem cl_X10_mean : gCv yX10_mean cX10_mean 7 (some .long) 1 := ⟨wj_yX10_mean, ws_yX10_mean, wk_yX10_mean, wz_X10, by decide +kernel, by decide⟩
theorem cl_X10_isPlan : gCv yX10_isPlan cX10_isPlan 3 (some .boolean) 2 := ⟨wj_yX10_isPlan, ws_yX10_isPlan, wk_yX10_isPlan, wz_X10, by decide +kernel, by decide⟩
theorem cl_X10_plan : gCv yX10_plan cX10_plan 3 (some .int) 2 := ⟨wj_yX10_plan, ws_yX10_plan, wk_yX10_plan, wz_X10, by decide +kernel, by decide⟩
theorem cl_X10_goesBy : gCv yX10_goesBy cX10_goesBy 3 none 2 := ⟨wj_yX10_goesBy, ws_yX10_goesBy, wk_yX10_goesBy, wz_X10, by decide +kernel, by decide⟩
theorem cl_X10_done : gCv yX10_done cX10_done 4 (some .int) 1 := ⟨wj_yX10_done, ws_yX10_done, wk_yX10_done, wz_X10, by decide +kernel, by decide⟩
theorem cl_X10_book : gCv yX10_book cX10_book 3 (some .int) 2 := ⟨wj_yX10_book, ws_yX10_book, wk_yX10_book, wz_X10, by decide +kernel, by decide⟩
theorem cl_X10_looked : gCv yX10_looked cX10_looked 2 (some .int) 0 := ⟨wj_yX10_looked, ws_yX10_looked, wk_yX10_looked, wz_X10, by decide +kernel, by decide⟩
theorem cl_X10_ranBody : gCv yX10_ranBody cX10_ranBody 2 none 1 := ⟨wj_yX10_ranBody, ws_yX10_ranBody, wk_yX10_ranBody, wz_X10, by decide +kernel, by decide⟩
theorem cl_X10_isUnder : gCs yX10_isUnder cX10_isUnder 2 (some .boolean) 2 := ⟨wj_yX10_isUnder, wk_yX10_isUnder, wz_X10, by decide +kernel, by decide⟩
theorem cl_X10_plainBows : gCv yX10_plainBows cX10_plainBows 2 (some .int) 1 := ⟨wj_yX10_plainBows, ws_yX10_plainBows, wk_yX10_plainBows, wz_X10, by decide +kernel, by decide⟩
theorem cl_X10_bowsActs : gCv yX10_bowsActs cX10_bowsActs 2 (some .int) 1 := ⟨wj_yX10_bowsActs, ws_yX10_bowsActs, wk_yX10_bowsActs, wz_X10, by decide +kernel, by decide⟩
theorem cl_X10_plainServes : gCv yX10_plainServes cX10_plainServes 2 (some .int) 1 := ⟨wj_yX10_plainServes, ws_yX10_plainServes, wk_yX10_plainServes, wz_X10, by decide +kernel, by decide⟩
theorem cl_X10_servesActs : gCv yX10_servesActs cX10_servesActs 2 (some .int) 1 := ⟨wj_yX10_servesActs, ws_yX10_servesActs, wk_yX10_servesActs, wz_X10, by decide +kernel, by decide⟩
theorem cl_X10_plainTelling : gCv yX10_plainTelling cX10_plainTelling 2 (some .int) 1 := ⟨wj_yX10_plainTelling, ws_yX10_plainTelling, wk_yX10_plainTelling, wz_X10, by decide +kernel, by decide⟩
theorem cl_X10_weepsActs : gCv yX10_weepsActs cX10_weepsActs 3 (some .int) 1 := ⟨wj_yX10_weepsActs, ws_yX10_weepsActs, wk_yX10_weepsActs, wz_X10, by decide +kernel, by decide⟩
theorem cl_X10_act : gCv yX10_act cX10_act 4 (some .int) 3 := ⟨wj_yX10_act, ws_yX10_act, wk_yX10_act, wz_X10, by decide +kernel, by decide⟩
theorem cl_X10_trace : gCv yX10_trace cX10_trace 2 (some .int) 1 := ⟨wj_yX10_trace, ws_yX10_trace, wk_yX10_trace, wz_X10, by decide +kernel, by decide⟩
theorem cl_X10_as : gCv yX10_as cX10_as 3 (some .int) 2 := ⟨wj_yX10_as, ws_yX10_as, wk_yX10_as, wz_X10, by decide +kernel, by decide⟩
theorem cl_X10_image : gCv yX10_image cX10_image 2 (some .int) 0 := ⟨wj_yX10_image, ws_yX10_image, wk_yX10_image, wz_X10, by decide +kernel, by decide⟩
theorem cl_X10_undo : gCv yX10_undo cX10_undo 2 (some .int) 0 := ⟨wj_yX10_undo, ws_yX10_undo, wk_yX10_undo, wz_X10, by decide +kernel, by decide⟩
theorem cl_X10_count : gCv yX10_count cX10_count 2 (some .int) 1 := ⟨wj_yX10_count, ws_yX10_count, wk_yX10_count, wz_X10, by decide +kernel, by decide⟩
theorem fl_X5_9 : gLk RX5 9 5 0 true (.array .int) := ⟨RX5, TX5, 9, tyX5, rfl, in_X5, tyX5_ok, nmX5, by decide, wf_X5_9, rfl, rfl, rfl⟩
theorem fl_X2_48 : gLk RX2 48 5 0 true (.array .int) := ⟨RX5, TX5, 9, tyX5, rfl, in_X5, tyX5_ok, nmX5, by decide, wf_X2_48, rfl, rfl, rfl⟩
theorem fl_X9_97 : gLk RX9 97 5 0 true (.array .int) := ⟨RX5, TX5, 9, tyX5, rfl, in_X5, tyX5_ok, nmX5, by decide, wf_X9_97, rfl, rfl, rfl⟩
theorem fl_X5_15 : gLk RX5 15 5 1 true (.array .int) := ⟨RX5, TX5, 9, tyX5, rfl, in_X5, tyX5_ok, nmX5, by decide, wf_X5_15, rfl, rfl, rfl⟩
theorem fl_X9_101 : gLk RX9 101 5 1 true (.array .int) := ⟨RX5, TX5, 9, tyX5, rfl, in_X5, tyX5_ok, nmX5, by decide, wf_X9_101, rfl, rfl, rfl⟩
theorem fl_X5_18 : gLk RX5 18 5 2 true (.array .int) := ⟨RX5, TX5, 9, tyX5, rfl, in_X5, tyX5_ok, nmX5, by decide, wf_X5_18, rfl, rfl, rfl⟩
theorem fl_X9_104 : gLk RX9 104 5 2 true (.array .int) := ⟨RX5, TX5, 9, tyX5, rfl, in_X5, tyX5_ok, nmX5, by decide, wf_X9_104, rfl, rfl, rfl⟩
theorem fl_X7_83 : gLk RX7 83 5 2 true (.array .int) := ⟨RX5, TX5, 9, tyX5, rfl, in_X5, tyX5_ok, nmX5, by decide, wf_X7_83, rfl, rfl, rfl⟩
theorem fl_X5_21 : gLk RX5 21 5 3 true (.array .int) := ⟨RX5, TX5, 9, tyX5, rfl, in_X5, tyX5_ok, nmX5, by decide, wf_X5_21, rfl, rfl, rfl⟩
theorem fl_X2_45 : gLk RX2 45 5 3 true (.array .int) := ⟨RX5, TX5, 9, tyX5, rfl, in_X5, tyX5_ok, nmX5, by decide, wf_X2_45, rfl, rfl, rfl⟩
theorem fl_X7_56 : gLk RX7 56 5 3 true (.array .int) := ⟨RX5, TX5, 9, tyX5, rfl, in_X5, tyX5_ok, nmX5, by decide, wf_X7_56, rfl, rfl, rfl⟩
theorem fl_X9_107 : gLk RX9 107 5 3 true (.array .int) := ⟨RX5, TX5, 9, tyX5, rfl, in_X5, tyX5_ok, nmX5, by decide, wf_X9_107, rfl, rfl, rfl⟩
theorem fl_X5_24 : gLk RX5 24 5 4 true (.array .int) := ⟨RX5, TX5, 9, tyX5, rfl, in_X5, tyX5_ok, nmX5, by decide, wf_X5_24, rfl, rfl, rfl⟩
theorem fl_X9_130 : gLk RX9 130 5 4 true (.array .int) := ⟨RX5, TX5, 9, tyX5, rfl, in_X5, tyX5_ok, nmX5, by decide, wf_X9_130, rfl, rfl, rfl⟩
theorem fl_X5_27 : gLk RX5 27 5 5 true (.array .int) := ⟨RX5, TX5, 9, tyX5, rfl, in_X5, tyX5_ok, nmX5, by decide, wf_X5_27, rfl, rfl, rfl⟩
theorem fl_X5_34 : gLk RX5 34 5 6 false .int := ⟨RX5, TX5, 9, tyX5, rfl, in_X5, tyX5_ok, nmX5, by decide, wf_X5_34, rfl, rfl, rfl⟩
theorem fl_X9_110 : gLk RX9 110 5 6 false .int := ⟨RX5, TX5, 9, tyX5, rfl, in_X5, tyX5_ok, nmX5, by decide, wf_X9_110, rfl, rfl, rfl⟩
theorem fl_X5_30 : gLk RX5 30 5 7 false .int := ⟨RX5, TX5, 9, tyX5, rfl, in_X5, tyX5_ok, nmX5, by decide, wf_X5_30, rfl, rfl, rfl⟩
theorem fl_X2_61 : gLk RX2 61 5 7 false .int := ⟨RX5, TX5, 9, tyX5, rfl, in_X5, tyX5_ok, nmX5, by decide, wf_X2_61, rfl, rfl, rfl⟩
theorem fl_X7_52 : gLk RX7 52 5 7 false .int := ⟨RX5, TX5, 9, tyX5, rfl, in_X5, tyX5_ok, nmX5, by decide, wf_X7_52, rfl, rfl, rfl⟩
theorem fl_X9_181 : gLk RX9 181 5 7 false .int := ⟨RX5, TX5, 9, tyX5, rfl, in_X5, tyX5_ok, nmX5, by decide, wf_X9_181, rfl, rfl, rfl⟩
theorem fl_X2_42 : gLk RX2 42 5 8 false .int := ⟨RX5, TX5, 9, tyX5, rfl, in_X5, tyX5_ok, nmX5, by decide, wf_X2_42, rfl, rfl, rfl⟩
theorem fl_X5_43 : gLk RX5 43 5 8 false .int := ⟨RX5, TX5, 9, tyX5, rfl, in_X5, tyX5_ok, nmX5, by decide, wf_X5_43, rfl, rfl, rfl⟩
theorem fl_X9_141 : gLk RX9 141 5 8 false .int := ⟨RX5, TX5, 9, tyX5, rfl, in_X5, tyX5_ok, nmX5, by decide, wf_X9_141, rfl, rfl, rfl⟩
theorem fl_X6_9 : gLk RX6 9 6 0 true (.array .int) := ⟨RX6, TX6, 2, tyX6, rfl, in_X6, tyX6_ok, nmX6, by decide, wf_X6_9, rfl, rfl, rfl⟩
theorem fl_X3_98 : gLk RX3 98 6 0 true (.array .int) := ⟨RX6, TX6, 2, tyX6, rfl, in_X6, tyX6_ok, nmX6, by decide, wf_X3_98, rfl, rfl, rfl⟩
theorem fl_X6_15 : gLk RX6 15 6 1 false .int := ⟨RX6, TX6, 2, tyX6, rfl, in_X6, tyX6_ok, nmX6, by decide, wf_X6_15, rfl, rfl, rfl⟩
theorem fl_X9_61 : gLk RX9 61 6 1 false .int := ⟨RX6, TX6, 2, tyX6, rfl, in_X6, tyX6_ok, nmX6, by decide, wf_X9_61, rfl, rfl, rfl⟩
theorem fl_X3_93 : gLk RX3 93 6 1 false .int := ⟨RX6, TX6, 2, tyX6, rfl, in_X6, tyX6_ok, nmX6, by decide, wf_X3_93, rfl, rfl, rfl⟩
theorem fl_X4_9 : gLk RX4 9 4 0 true (.array .int) := ⟨RX4, TX4, 4, tyX4, rfl, in_X4, tyX4_ok, nmX4, by decide, wf_X4_9, rfl, rfl, rfl⟩
theorem fl_X7_111 : gLk RX7 111 4 0 true (.array .int) := ⟨RX4, TX4, 4, tyX4, rfl, in_X4, tyX4_ok, nmX4, by decide, wf_X7_111, rfl, rfl, rfl⟩
theorem fl_X9_238 : gLk RX9 238 4 0 true (.array .int) := ⟨RX4, TX4, 4, tyX4, rfl, in_X4, tyX4_ok, nmX4, by decide, wf_X9_238, rfl, rfl, rfl⟩
theorem fl_X4_15 : gLk RX4 15 4 1 true (.array .int) := ⟨RX4, TX4, 4, tyX4, rfl, in_X4, tyX4_ok, nmX4, by decide, wf_X4_15, rfl, rfl, rfl⟩
theorem fl_X7_108 : gLk RX7 108 4 1 true (.array .int) := ⟨RX4, TX4, 4, tyX4, rfl, in_X4, tyX4_ok, nmX4, by decide, wf_X7_108, rfl, rfl, rfl⟩
theorem fl_X9_241 : gLk RX9 241 4 1 true (.array .int) := ⟨RX4, TX4, 4, tyX4, rfl, in_X4, tyX4_ok, nmX4, by decide, wf_X9_241, rfl, rfl, rfl⟩
theorem fl_X4_18 : gLk RX4 18 4 2 true (.array .int) := ⟨RX4, TX4, 4, tyX4, rfl, in_X4, tyX4_ok, nmX4, by decide, wf_X4_18, rfl, rfl, rfl⟩
theorem fl_X7_114 : gLk RX7 114 4 2 true (.array .int) := ⟨RX4, TX4, 4, tyX4, rfl, in_X4, tyX4_ok, nmX4, by decide, wf_X7_114, rfl, rfl, rfl⟩
theorem fl_X4_21 : gLk RX4 21 4 3 false .int := ⟨RX4, TX4, 4, tyX4, rfl, in_X4, tyX4_ok, nmX4, by decide, wf_X4_21, rfl, rfl, rfl⟩
theorem fl_X7_103 : gLk RX7 103 4 3 false .int := ⟨RX4, TX4, 4, tyX4, rfl, in_X4, tyX4_ok, nmX4, by decide, wf_X7_103, rfl, rfl, rfl⟩
theorem fl_X9_191 : gLk RX9 191 4 3 false .int := ⟨RX4, TX4, 4, tyX4, rfl, in_X4, tyX4_ok, nmX4, by decide, wf_X9_191, rfl, rfl, rfl⟩
theorem fl_X8_10 : gLk RX8 10 8 0 true (.object "FootmenMatch$Scene") := ⟨RX8, TX8, 6, tyX8, rfl, in_X8, tyX8_ok, nmX8, by decide, wf_X8_10, rfl, rfl, rfl⟩
theorem fl_X9_85 : gLk RX9 85 8 0 true (.object "FootmenMatch$Scene") := ⟨RX8, TX8, 6, tyX8, rfl, in_X8, tyX8_ok, nmX8, by decide, wf_X9_85, rfl, rfl, rfl⟩
theorem fl_X7_90 : gLk RX7 90 8 0 true (.object "FootmenMatch$Scene") := ⟨RX8, TX8, 6, tyX8, rfl, in_X8, tyX8_ok, nmX8, by decide, wf_X7_90, rfl, rfl, rfl⟩
theorem fl_X8_19 : gLk RX8 19 8 1 true (.object "FootmenMatch$Tape") := ⟨RX8, TX8, 6, tyX8, rfl, in_X8, tyX8_ok, nmX8, by decide, wf_X8_19, rfl, rfl, rfl⟩
theorem fl_X9_51 : gLk RX9 51 8 1 true (.object "FootmenMatch$Tape") := ⟨RX8, TX8, 6, tyX8, rfl, in_X8, tyX8_ok, nmX8, by decide, wf_X9_51, rfl, rfl, rfl⟩
theorem fl_X8_26 : gLk RX8 26 8 2 true (.object "FootmenMatch$Rows") := ⟨RX8, TX8, 6, tyX8, rfl, in_X8, tyX8_ok, nmX8, by decide, wf_X8_26, rfl, rfl, rfl⟩
theorem fl_X7_95 : gLk RX7 95 8 2 true (.object "FootmenMatch$Rows") := ⟨RX8, TX8, 6, tyX8, rfl, in_X8, tyX8_ok, nmX8, by decide, wf_X7_95, rfl, rfl, rfl⟩
theorem fl_X9_187 : gLk RX9 187 8 2 true (.object "FootmenMatch$Rows") := ⟨RX8, TX8, 6, tyX8, rfl, in_X8, tyX8_ok, nmX8, by decide, wf_X9_187, rfl, rfl, rfl⟩
theorem fl_X8_30 : gLk RX8 30 8 3 true (.object "FootmenMatch$Rows") := ⟨RX8, TX8, 6, tyX8, rfl, in_X8, tyX8_ok, nmX8, by decide, wf_X8_30, rfl, rfl, rfl⟩
theorem fl_X9_224 : gLk RX9 224 8 3 true (.object "FootmenMatch$Rows") := ⟨RX8, TX8, 6, tyX8, rfl, in_X8, tyX8_ok, nmX8, by decide, wf_X9_224, rfl, rfl, rfl⟩
theorem fl_X8_33 : gLk RX8 33 8 4 true (.object "FootmenMatch$Rows") := ⟨RX8, TX8, 6, tyX8, rfl, in_X8, tyX8_ok, nmX8, by decide, wf_X8_33, rfl, rfl, rfl⟩
theorem fl_X9_235 : gLk RX9 235 8 4 true (.object "FootmenMatch$Rows") := ⟨RX8, TX8, 6, tyX8, rfl, in_X8, tyX8_ok, nmX8, by decide, wf_X9_235, rfl, rfl, rfl⟩
theorem fl_X8_46 : gLk RX8 46 8 5 false .int := ⟨RX8, TX8, 6, tyX8, rfl, in_X8, tyX8_ok, nmX8, by decide, wf_X8_46, rfl, rfl, rfl⟩
theorem fl_X9_65 : gLk RX9 65 8 5 false .int := ⟨RX8, TX8, 6, tyX8, rfl, in_X8, tyX8_ok, nmX8, by decide, wf_X9_65, rfl, rfl, rfl⟩
theorem fl_X2_22 : gLk RX2 22 2 0 false (.object "FootmenMatch$House") := ⟨RX2, TX2, 4, tyX2, rfl, in_X2, tyX2_ok, nmX2, by decide, wf_X2_22, rfl, rfl, rfl⟩
theorem fl_X2_9 : gLk RX2 9 2 1 true (.array .int) := ⟨RX2, TX2, 4, tyX2, rfl, in_X2, tyX2_ok, nmX2, by decide, wf_X2_9, rfl, rfl, rfl⟩
theorem fl_X2_15 : gLk RX2 15 2 2 false (.array .int) := ⟨RX2, TX2, 4, tyX2, rfl, in_X2, tyX2_ok, nmX2, by decide, wf_X2_15, rfl, rfl, rfl⟩
theorem fl_X2_18 : gLk RX2 18 2 3 false .int := ⟨RX2, TX2, 4, tyX2, rfl, in_X2, tyX2_ok, nmX2, by decide, wf_X2_18, rfl, rfl, rfl⟩
theorem fl_X7_12 : gLk RX7 12 7 0 true (.object "FootmenMatch$Scene") := ⟨RX7, TX7, 6, tyX7, rfl, in_X7, tyX7_ok, nmX7, by decide, wf_X7_12, rfl, rfl, rfl⟩
theorem fl_X9_166 : gLk RX9 166 7 0 true (.object "FootmenMatch$Scene") := ⟨RX7, TX7, 6, tyX7, rfl, in_X7, tyX7_ok, nmX7, by decide, wf_X9_166, rfl, rfl, rfl⟩
theorem fl_X7_25 : gLk RX7 25 7 1 true (.object "FootmenMatch$Pulls") := ⟨RX7, TX7, 6, tyX7, rfl, in_X7, tyX7_ok, nmX7, by decide, wf_X7_25, rfl, rfl, rfl⟩
theorem fl_X7_63 : gLk RX7 63 7 2 false .int := ⟨RX7, TX7, 6, tyX7, rfl, in_X7, tyX7_ok, nmX7, by decide, wf_X7_63, rfl, rfl, rfl⟩
theorem fl_X9_178 : gLk RX9 178 7 2 false .int := ⟨RX7, TX7, 6, tyX7, rfl, in_X7, tyX7_ok, nmX7, by decide, wf_X9_178, rfl, rfl, rfl⟩
theorem fl_X7_18 : gLk RX7 18 7 3 true (.array .int) := ⟨RX7, TX7, 6, tyX7, rfl, in_X7, tyX7_ok, nmX7, by decide, wf_X7_18, rfl, rfl, rfl⟩
theorem fl_X9_184 : gLk RX9 184 7 3 true (.array .int) := ⟨RX7, TX7, 6, tyX7, rfl, in_X7, tyX7_ok, nmX7, by decide, wf_X9_184, rfl, rfl, rfl⟩
theorem fl_X7_59 : gLk RX7 59 7 4 false .boolean := ⟨RX7, TX7, 6, tyX7, rfl, in_X7, tyX7_ok, nmX7, by decide, wf_X7_59, rfl, rfl, rfl⟩
theorem fl_X9_274 : gLk RX9 274 7 4 false .boolean := ⟨RX7, TX7, 6, tyX7, rfl, in_X7, tyX7_ok, nmX7, by decide, wf_X9_274, rfl, rfl, rfl⟩
theorem fl_X7_22 : gLk RX7 22 7 5 true (.array .int) := ⟨RX7, TX7, 6, tyX7, rfl, in_X7, tyX7_ok, nmX7, by decide, wf_X7_22, rfl, rfl, rfl⟩
theorem fl_X0_9 : gLk RX0 9 0 0 true (.array .int) := ⟨RX0, TX0, 5, tyX0, rfl, in_X0, tyX0_ok, nmX0, by decide, wf_X0_9, rfl, rfl, rfl⟩
theorem fl_X9_256 : gLk RX9 256 0 0 true (.array .int) := ⟨RX0, TX0, 5, tyX0, rfl, in_X0, tyX0_ok, nmX0, by decide, wf_X9_256, rfl, rfl, rfl⟩
theorem fl_X0_50 : gLk RX0 50 0 1 false .int := ⟨RX0, TX0, 5, tyX0, rfl, in_X0, tyX0_ok, nmX0, by decide, wf_X0_50, rfl, rfl, rfl⟩
theorem fl_X9_244 : gLk RX9 244 0 1 false .int := ⟨RX0, TX0, 5, tyX0, rfl, in_X0, tyX0_ok, nmX0, by decide, wf_X9_244, rfl, rfl, rfl⟩
theorem fl_X0_41 : gLk RX0 41 0 2 false .int := ⟨RX0, TX0, 5, tyX0, rfl, in_X0, tyX0_ok, nmX0, by decide, wf_X0_41, rfl, rfl, rfl⟩
theorem fl_X9_247 : gLk RX9 247 0 2 false .int := ⟨RX0, TX0, 5, tyX0, rfl, in_X0, tyX0_ok, nmX0, by decide, wf_X9_247, rfl, rfl, rfl⟩
theorem fl_X0_15 : gLk RX0 15 0 3 false .int := ⟨RX0, TX0, 5, tyX0, rfl, in_X0, tyX0_ok, nmX0, by decide, wf_X0_15, rfl, rfl, rfl⟩
theorem fl_X9_250 : gLk RX9 250 0 3 false .int := ⟨RX0, TX0, 5, tyX0, rfl, in_X0, tyX0_ok, nmX0, by decide, wf_X9_250, rfl, rfl, rfl⟩
theorem fl_X0_44 : gLk RX0 44 0 4 false .int := ⟨RX0, TX0, 5, tyX0, rfl, in_X0, tyX0_ok, nmX0, by decide, wf_X0_44, rfl, rfl, rfl⟩
theorem fl_X9_252 : gLk RX9 252 0 4 false .int := ⟨RX0, TX0, 5, tyX0, rfl, in_X0, tyX0_ok, nmX0, by decide, wf_X9_252, rfl, rfl, rfl⟩
theorem fl_X1_9 : gLk RX1 9 1 0 true (.array .int) := ⟨RX1, TX1, 3, tyX1, rfl, in_X1, tyX1_ok, nmX1, by decide, wf_X1_9, rfl, rfl, rfl⟩
theorem fl_X1_15 : gLk RX1 15 1 1 false .int := ⟨RX1, TX1, 3, tyX1, rfl, in_X1, tyX1_ok, nmX1, by decide, wf_X1_15, rfl, rfl, rfl⟩
theorem fl_X1_19 : gLk RX1 19 1 2 false .int := ⟨RX1, TX1, 3, tyX1, rfl, in_X1, tyX1_ok, nmX1, by decide, wf_X1_19, rfl, rfl, rfl⟩
theorem fl_X2_27 : gLk RX2 27 1 2 false .int := ⟨RX1, TX1, 3, tyX1, rfl, in_X1, tyX1_ok, nmX1, by decide, wf_X2_27, rfl, rfl, rfl⟩
theorem fl_X3_52 : gLk RX3 52 1 2 false .int := ⟨RX1, TX1, 3, tyX1, rfl, in_X1, tyX1_ok, nmX1, by decide, wf_X3_52, rfl, rfl, rfl⟩
theorem fl_X9_12 : gLk RX9 12 9 0 true (.object "FootmenMatch$Whole") := ⟨RX9, TX9, 7, tyX9, rfl, in_X9, tyX9_ok, nmX9, by decide, wf_X9_12, rfl, rfl, rfl⟩
theorem fl_X9_18 : gLk RX9 18 9 1 true (.object "FootmenMatch$Whole") := ⟨RX9, TX9, 7, tyX9, rfl, in_X9, tyX9_ok, nmX9, by decide, wf_X9_18, rfl, rfl, rfl⟩
theorem fl_X9_266 : gLk RX9 266 9 2 false .boolean := ⟨RX9, TX9, 7, tyX9, rfl, in_X9, tyX9_ok, nmX9, by decide, wf_X9_266, rfl, rfl, rfl⟩
theorem fl_X9_23 : gLk RX9 23 9 3 true (.array (.object "FootmenMatch$House")) := ⟨RX9, TX9, 7, tyX9, rfl, in_X9, tyX9_ok, nmX9, by decide, wf_X9_23, rfl, rfl, rfl⟩
theorem fl_X9_30 : gLk RX9 30 9 4 true (.object "FootmenMatch$Pulls") := ⟨RX9, TX9, 7, tyX9, rfl, in_X9, tyX9_ok, nmX9, by decide, wf_X9_30, rfl, rfl, rfl⟩
theorem fl_X9_39 : gLk RX9 39 9 5 true (.object "FootmenMatch$Trials") := ⟨RX9, TX9, 7, tyX9, rfl, in_X9, tyX9_ok, nmX9, by decide, wf_X9_39, rfl, rfl, rfl⟩
theorem fl_X9_46 : gLk RX9 46 9 6 true (.object "FootmenMatch$Body") := ⟨RX9, TX9, 7, tyX9, rfl, in_X9, tyX9_ok, nmX9, by decide, wf_X9_46, rfl, rfl, rfl⟩
theorem fl_X3_9 : gLk RX3 9 3 0 true (.object "FootmenMatch$Tape") := ⟨RX3, TX3, 4, tyX3, rfl, in_X3, tyX3_ok, nmX3, by decide, wf_X3_9, rfl, rfl, rfl⟩
theorem fl_X3_15 : gLk RX3 15 3 1 true (.object "FootmenMatch$House") := ⟨RX3, TX3, 4, tyX3, rfl, in_X3, tyX3_ok, nmX3, by decide, wf_X3_15, rfl, rfl, rfl⟩
theorem fl_X3_49 : gLk RX3 49 3 2 false .int := ⟨RX3, TX3, 4, tyX3, rfl, in_X3, tyX3_ok, nmX3, by decide, wf_X3_49, rfl, rfl, rfl⟩
theorem fl_X3_32 : gLk RX3 32 3 3 false .int := ⟨RX3, TX3, 4, tyX3, rfl, in_X3, tyX3_ok, nmX3, by decide, wf_X3_32, rfl, rfl, rfl⟩
theorem fl_X9_76 : gLk RX9 76 3 3 false .int := ⟨RX3, TX3, 4, tyX3, rfl, in_X3, tyX3_ok, nmX3, by decide, wf_X9_76, rfl, rfl, rfl⟩
theorem fl_X10_9 : gLk RX10 9 10 1 true (.array .int) := ⟨RX10, TX10, 25, tyX10, rfl, in_X10, tyX10_ok, nmX10, by decide, wf_X10_9, rfl, rfl, rfl⟩
theorem fl_X10_15 : gLk RX10 15 10 2 true (.array .int) := ⟨RX10, TX10, 25, tyX10, rfl, in_X10, tyX10_ok, nmX10, by decide, wf_X10_15, rfl, rfl, rfl⟩
theorem fl_X10_18 : gLk RX10 18 10 3 true (.array .int) := ⟨RX10, TX10, 25, tyX10, rfl, in_X10, tyX10_ok, nmX10, by decide, wf_X10_18, rfl, rfl, rfl⟩
theorem fl_X10_271 : gLk RX10 271 10 4 false .boolean := ⟨RX10, TX10, 25, tyX10, rfl, in_X10, tyX10_ok, nmX10, by decide, wf_X10_271, rfl, rfl, rfl⟩
theorem fl_X10_85 : gLk RX10 85 10 5 false .int := ⟨RX10, TX10, 25, tyX10, rfl, in_X10, tyX10_ok, nmX10, by decide, wf_X10_85, rfl, rfl, rfl⟩
theorem fl_X10_58 : gLk RX10 58 10 6 false .int := ⟨RX10, TX10, 25, tyX10, rfl, in_X10, tyX10_ok, nmX10, by decide, wf_X10_58, rfl, rfl, rfl⟩
theorem fl_X10_61 : gLk RX10 61 10 7 false .int := ⟨RX10, TX10, 25, tyX10, rfl, in_X10, tyX10_ok, nmX10, by decide, wf_X10_61, rfl, rfl, rfl⟩
theorem fl_X10_64 : gLk RX10 64 10 8 false .boolean := ⟨RX10, TX10, 25, tyX10, rfl, in_X10, tyX10_ok, nmX10, by decide, wf_X10_64, rfl, rfl, rfl⟩
theorem fl_X10_88 : gLk RX10 88 10 9 false .int := ⟨RX10, TX10, 25, tyX10, rfl, in_X10, tyX10_ok, nmX10, by decide, wf_X10_88, rfl, rfl, rfl⟩
theorem fl_X10_21 : gLk RX10 21 10 10 true (.array .int) := ⟨RX10, TX10, 25, tyX10, rfl, in_X10, tyX10_ok, nmX10, by decide, wf_X10_21, rfl, rfl, rfl⟩
theorem fl_X10_24 : gLk RX10 24 10 11 true (.array .boolean) := ⟨RX10, TX10, 25, tyX10, rfl, in_X10, tyX10_ok, nmX10, by decide, wf_X10_24, rfl, rfl, rfl⟩
theorem fl_X10_29 : gLk RX10 29 10 12 true (.array .int) := ⟨RX10, TX10, 25, tyX10, rfl, in_X10, tyX10_ok, nmX10, by decide, wf_X10_29, rfl, rfl, rfl⟩
theorem fl_X10_142 : gLk RX10 142 10 13 false .boolean := ⟨RX10, TX10, 25, tyX10, rfl, in_X10, tyX10_ok, nmX10, by decide, wf_X10_142, rfl, rfl, rfl⟩
theorem fl_X10_32 : gLk RX10 32 10 14 true (.array .int) := ⟨RX10, TX10, 25, tyX10, rfl, in_X10, tyX10_ok, nmX10, by decide, wf_X10_32, rfl, rfl, rfl⟩
theorem fl_X10_35 : gLk RX10 35 10 15 true (.array .int) := ⟨RX10, TX10, 25, tyX10, rfl, in_X10, tyX10_ok, nmX10, by decide, wf_X10_35, rfl, rfl, rfl⟩
theorem fl_X10_38 : gLk RX10 38 10 16 true (.array .int) := ⟨RX10, TX10, 25, tyX10, rfl, in_X10, tyX10_ok, nmX10, by decide, wf_X10_38, rfl, rfl, rfl⟩
theorem fl_X10_41 : gLk RX10 41 10 17 true (.array .int) := ⟨RX10, TX10, 25, tyX10, rfl, in_X10, tyX10_ok, nmX10, by decide, wf_X10_41, rfl, rfl, rfl⟩
theorem fl_X10_44 : gLk RX10 44 10 18 true (.array .int) := ⟨RX10, TX10, 25, tyX10, rfl, in_X10, tyX10_ok, nmX10, by decide, wf_X10_44, rfl, rfl, rfl⟩
theorem fl_X10_200 : gLk RX10 200 10 19 false .int := ⟨RX10, TX10, 25, tyX10, rfl, in_X10, tyX10_ok, nmX10, by decide, wf_X10_200, rfl, rfl, rfl⟩
theorem fl_X10_47 : gLk RX10 47 10 20 true (.array .int) := ⟨RX10, TX10, 25, tyX10, rfl, in_X10, tyX10_ok, nmX10, by decide, wf_X10_47, rfl, rfl, rfl⟩
theorem fl_X10_235 : gLk RX10 235 10 21 false .int := ⟨RX10, TX10, 25, tyX10, rfl, in_X10, tyX10_ok, nmX10, by decide, wf_X10_235, rfl, rfl, rfl⟩
theorem fl_X10_244 : gLk RX10 244 10 22 false .int := ⟨RX10, TX10, 25, tyX10, rfl, in_X10, tyX10_ok, nmX10, by decide, wf_X10_244, rfl, rfl, rfl⟩
theorem fl_X10_241 : gLk RX10 241 10 23 false .int := ⟨RX10, TX10, 25, tyX10, rfl, in_X10, tyX10_ok, nmX10, by decide, wf_X10_241, rfl, rfl, rfl⟩
theorem fl_X10_256 : gLk RX10 256 10 24 false .int := ⟨RX10, TX10, 25, tyX10, rfl, in_X10, tyX10_ok, nmX10, by decide, wf_X10_256, rfl, rfl, rfl⟩
