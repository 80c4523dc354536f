/-! INTEGERS: every int on the stack is the image of an Int -/
def iI (z : Int) : Int32 := Int32.ofInt z
def iL (z : Int) : Int64 := Int64.ofInt z
abbrev rI (a : Int) : Prop := -2147483648 ≤ a ∧ a < 2147483648
abbrev rL (a : Int) : Prop := -9223372036854775808 ≤ a ∧ a < 9223372036854775808
theorem iI_toInt {a : Int} (h : rI a) : (iI a).toInt = a := Int32.toInt_ofInt_of_le (by omega) (by omega)
theorem iL_toInt {a : Int} (h : rL a) : (iL a).toInt = a := Int64.toInt_ofInt_of_le (by omega) (by omega)
theorem iI_as (x : Int32) : iI x.toInt = x := Int32.ofInt_toInt x
theorem iI_rng (x : Int32) : rI x.toInt := by
  have h1 := Int32.le_toInt x
  have h2 := Int32.toInt_lt x
  omega
theorem iI_add (a b : Int) : iI a + iI b = iI (a + b) := (Int32.ofInt_add a b).symm
theorem iI_sub (a b : Int) : iI a - iI b = iI (a - b) := (Int32.ofInt_sub a b).symm
theorem iI_mul (a b : Int) : iI a * iI b = iI (a * b) := (Int32.ofInt_mul a b).symm
theorem iI_neg (a : Int) : -iI a = iI (-a) := (Int32.ofInt_neg a).symm
theorem iL_add (a b : Int) : iL a + iL b = iL (a + b) := (Int64.ofInt_add a b).symm
theorem iL_sub (a b : Int) : iL a - iL b = iL (a - b) := (Int64.ofInt_sub a b).symm
theorem iL_mul (a b : Int) : iL a * iL b = iL (a * b) := (Int64.ofInt_mul a b).symm
theorem iL_neg (a : Int) : -iL a = iL (-a) := (Int64.ofInt_neg a).symm
theorem iI_lt {a b : Int} (ha : rI a) (hb : rI b) : iI a < iI b ↔ a < b := by
  rw [Int32.lt_iff_toInt_lt, iI_toInt ha, iI_toInt hb]
theorem iI_le {a b : Int} (ha : rI a) (hb : rI b) : iI a ≤ iI b ↔ a ≤ b := by
  rw [Int32.le_iff_toInt_le, iI_toInt ha, iI_toInt hb]
theorem iI_eq {a b : Int} (ha : rI a) (hb : rI b) : iI a = iI b ↔ a = b := by
  rw [← Int32.toInt_inj, iI_toInt ha, iI_toInt hb]
theorem iL_lt {a b : Int} (ha : rL a) (hb : rL b) : iL a < iL b ↔ a < b := by
  rw [Int64.lt_iff_toInt_lt, iL_toInt ha, iL_toInt hb]
theorem iL_eq {a b : Int} (ha : rL a) (hb : rL b) : iL a = iL b ↔ a = b := by
  rw [← Int64.toInt_inj, iL_toInt ha, iL_toInt hb]
theorem iI_0 : iI 0 = 0 := rfl
theorem iI_long {a : Int} (h : rI a) : (iI a).toInt64 = iL a := by
  apply Int64.toInt_inj.mp
  rw [Int32.toInt_toInt64, iI_toInt h, iL_toInt (by omega)]
theorem iI_div {a b : Int} (ha : 0 ≤ a ∧ a < 2147483648) (hb : 0 < b ∧ b < 2147483648) : iI a / iI b = iI (a / b) := by
  apply Int32.toInt_inj.mp
  have h0 : 0 ≤ a / b := Int.ediv_nonneg ha.1 (by omega)
  have h1 : a / b ≤ a := Int.ediv_le_self b ha.1
  rw [Int32.toInt_div_of_ne_left, iI_toInt (by omega), iI_toInt (by omega), iI_toInt (by omega), Int.tdiv_eq_ediv_of_nonneg ha.1]
  intro h
  have h2 := congrArg Int32.toInt h
  rw [iI_toInt (by omega)] at h2
  have h3 : Int32.minValue.toInt = -2147483648 := by decide
  omega
theorem iI_rem {a b : Int} (ha : 0 ≤ a ∧ a < 2147483648) (hb : 0 < b ∧ b < 2147483648) : iI a - iI a / iI b * iI b = iI (a % b) := by
  rw [iI_div ha hb, iI_mul, iI_sub]
  have h := Int.mul_ediv_add_emod a b
  have e : a - a / b * b = a % b := by
    rw [Int.mul_comm] at h
    omega
  rw [e]
theorem iL_div {a b : Int} (ha : 0 ≤ a ∧ a < 2147483648) (hb : 0 < b ∧ b < 2147483648) : iL a / iL b = iL (a / b) := by
  apply Int64.toInt_inj.mp
  have h0 : 0 ≤ a / b := Int.ediv_nonneg ha.1 (by omega)
  have h1 : a / b ≤ a := Int.ediv_le_self b ha.1
  rw [Int64.toInt_div_of_ne_left, iL_toInt (by omega), iL_toInt (by omega), iL_toInt (by omega), Int.tdiv_eq_ediv_of_nonneg ha.1]
  intro h
  have h2 := congrArg Int64.toInt h
  rw [iL_toInt (by omega)] at h2
  have h3 : Int64.minValue.toInt = -9223372036854775808 := by decide
  omega
theorem iL_rem {a b : Int} (ha : 0 ≤ a ∧ a < 2147483648) (hb : 0 < b ∧ b < 2147483648) : iL a - iL a / iL b * iL b = iL (a % b) := by
  rw [iL_div ha hb, iL_mul, iL_sub]
  have h := Int.mul_ediv_add_emod a b
  have e : a - a / b * b = a % b := by
    rw [Int.mul_comm] at h
    omega
  rw [e]
/-- bits, as numbers: what the machine's operation gives, read back -/
def bAnd (a b : Int) : Int := (iI a &&& iI b).toInt
def bOr (a b : Int) : Int := (iI a ||| iI b).toInt
def bXor (a b : Int) : Int := (iI a ^^^ iI b).toInt
def bShl (a b : Int) : Int := (iI a <<< (iI b &&& 31)).toInt
def bShr (a b : Int) : Int := (iI a >>> (iI b &&& 31)).toInt
def bUsh (a b : Int) : Int := ((iI a).toUInt32 >>> ((iI b).toUInt32 &&& Int32.toUInt32 31)).toInt32.toInt
theorem iI_and (a b : Int) : iI a &&& iI b = iI (bAnd a b) := (iI_as _).symm
theorem iI_or (a b : Int) : iI a ||| iI b = iI (bOr a b) := (iI_as _).symm
theorem iI_xor (a b : Int) : iI a ^^^ iI b = iI (bXor a b) := (iI_as _).symm
theorem iI_shl (a b : Int) : iI a <<< (iI b &&& 31) = iI (bShl a b) := (iI_as _).symm
theorem iI_shr (a b : Int) : iI a >>> (iI b &&& 31) = iI (bShr a b) := (iI_as _).symm
theorem iI_ush (a b : Int) : ((iI a).toUInt32 >>> ((iI b).toUInt32 &&& Int32.toUInt32 31)).toInt32 = iI (bUsh a b) := (iI_as _).symm
theorem bAnd_rng (a b : Int) : rI (bAnd a b) := iI_rng _
theorem bOr_rng (a b : Int) : rI (bOr a b) := iI_rng _
theorem bXor_rng (a b : Int) : rI (bXor a b) := iI_rng _
theorem bShl_rng (a b : Int) : rI (bShl a b) := iI_rng _
theorem bShr_rng (a b : Int) : rI (bShr a b) := iI_rng _
/-! ROWS of ints -/
def aI (f : Int → Int) : Nat → Int32 := fun j => iI (f (j : Int))
def upI (f : Int → Int) (i x : Int) : Int → Int := fun j => if j = i then x else f j
theorem upI_at (f : Int → Int) (i x : Int) : upI f i x i = x := if_pos rfl
theorem upI_ne {f : Int → Int} {i j x : Int} (h : j ≠ i) : upI f i x j = f j := if_neg h
theorem iI_clamp {i : Int} (h : 0 ≤ i ∧ i < 2147483648) : (((iI i).toNatClampNeg : Nat) : Int) = i := by
  show (((iI i).toInt.toNat : Nat) : Int) = i
  rw [iI_toInt (by omega)]
  omega
theorem aI_at (f : Int → Int) {i : Int} (h : 0 ≤ i ∧ i < 2147483648) : aI f (iI i).toNatClampNeg = iI (f i) := by
  unfold aI
  rw [iI_clamp h]
theorem aI_upd (f : Int → Int) {i : Int} (h : 0 ≤ i ∧ i < 2147483648) (x : Int) : upd (aI f) (iI i).toNatClampNeg (iI x) = aI (upI f i x) := by
  funext j
  have hc := iI_clamp h
  unfold upd aI upI
  by_cases e : j = (iI i).toNatClampNeg
  · rw [if_pos e, if_pos (by rw [e, hc])]
  · rw [if_neg e, if_neg (by omega)]
theorem in_of {i : Int} {N : Nat} (h : 0 ≤ i ∧ i < (N : Int) ∧ i < 2147483648) : vp_in (iI i) N := by
  rw [vp_in_iff, iI_toInt (by omega)]
  omega
/-! THE KINDS: of classes of rows (ints, booleans, houses), the strings and the tables -/
abbrev gK : Type := va_G × (ClassId × ClassId × ClassId) × (Nat → Nat) × (Nat → Nat) × Nat × Nat
def gT (K : gK) : List (ClassId × FieldType) := [(K.2.1.1, .int), (K.2.1.2.1, .boolean), (K.2.1.2.2, .object "FootmenMatch$House")]
def cO (a ci : Nat) (fs : List Value) : Nat × va_E := (a, .inr (ci, fs))
def cA (K : gK) (a N : Nat) (f : Int → Int) : Nat × va_E := (a, .inl (K.2.1.1, N, .inl (aI f)))
def cZ (K : gK) (a N : Nat) (f : Int → Int) : Nat × va_E := (a, .inl (K.2.1.2.1, N, .inl (aI f)))
def cH (K : gK) (a N : Nat) (f : Nat → Option Nat) : Nat × va_E := (a, .inl (K.2.1.2.2, N, .inr (.inr (.inr (.inr f)))))
def tx_byt : List (List Int32) := [[114, 101, 97, 99, 104, 32], [104, 101, 101, 100, 32], [115, 104, 117, 110, 32], [32], [41], [112, 113, 107, 115, 100, 116], [60, 61, 62]]
def tx_len : List Nat := [6, 5, 5, 1, 1, 6, 3]
def tb_above (j : Int) : Int := if j = 0 then -1 else if j = 4 then 1 else if j = 5 then 2 else if j = 6 then 3 else 0
def tb_bodies (j : Int) : Int := ([1, 11, 0, 0, 0, 51, 0, 2, 0, 21, 0, 0, 0, 61, 3, 0, 0, 31, 41, 0, 0] : List Int).getD j.toNat 0
def gN : List Cond := [.methodLinkNest RX9 11 yX8_init RX9, .methodLinkNest RX8 9 yX5_init RX9, .methodLinkNest RX8 18 yX6_init RX9, .methodLinkNest RX8 25 yX4_init RX9, .methodLinkNest RX9 29 yX2_init RX9, .methodLinkNest RX7 11 yX5_init RX9, .methodLinkNest RX9 45 yX0_init RX9, .methodLinkNest RX9 50 yX1_init RX9, .fieldLinkNest RX0 47 "FootmenMatch" "BODIES" "[I" RX9, .methodLinkNest RX0 34 yX9_kindAbove RX9]
/-- what no method changes: the tables, the strings -/
def gE (K : gK) (A : Nat → Prop) (U : State) (H : Heap) : Prop :=
  (va_Z RX9 "ABOVE" "[I" (.ref K.2.2.2.2.1) A U H ∧ va_T .int K.2.2.2.2.1 7 (fun j => .int (aI tb_above j)) A U H) ∧ (va_Z RX9 "BODIES" "[I" (.ref K.2.2.2.2.2) A U H ∧ va_T .int K.2.2.2.2.2 21 (fun j => .int (aI tb_bodies j)) A U H) ∧ vk_S 7 tx_len tx_byt K.2.2.1 K.2.2.2.1 A U H ∧ va_Z RJ0 "COMPACT_STRINGS" "Z" (.int (iI 1)) A U H ∧ va_Zq RJ3 "SIOOBE_FORMATTER" "Ljava/util/function/BiFunction;" A U H
def gF (K : gK) (U : State) : Prop :=
  (∀ w ∈ gN, va_Nw w U) ∧ (vk_R RX3 36 "reach " (K.2.2.1 0) U ∧ vk_R RX3 38 "heed " (K.2.2.1 1) U ∧ vk_R RX3 40 "shun " (K.2.2.1 2) U ∧ vk_R RX3 55 " " (K.2.2.1 3) U ∧ vk_R RX3 74 ")" (K.2.2.1 4) U ∧ vk_R RX3 102 "pqksdt" (K.2.2.1 5) U) ∧ (vk_R RX10 118 "reach " (K.2.2.1 0) U ∧ vk_R RX10 124 "heed " (K.2.2.1 1) U ∧ vk_R RX10 129 "shun " (K.2.2.1 2) U ∧ vk_R RX10 100 "pqksdt" (K.2.2.1 5) U ∧ vk_R RX10 106 "<=>" (K.2.2.1 6) U ∧ va_AO "FootmenMatch$House" U)
theorem gN_warm {s U : State} (hW : s.WarmedH U.vm) (h : ∀ w ∈ gN, va_Nw w s) : ∀ w ∈ gN, va_Nw w U := by
  simp only [gN, List.forall_mem_cons] at h ⊢
  obtain ⟨h0, h1, h2, h3, h4, h5, h6, h7, h8, h9, -⟩ := h
  exact ⟨va_Nw.warmM hW h0, va_Nw.warmM hW h1, va_Nw.warmM hW h2, va_Nw.warmM hW h3, va_Nw.warmM hW h4, va_Nw.warmM hW h5, va_Nw.warmM hW h6, va_Nw.warmM hW h7, va_Nw.warmF hW h8, va_Nw.warmM hW h9, fun _ h => absurd h List.not_mem_nil⟩
theorem gF_warm {K : gK} {s U : State} (hW : s.WarmedH U.vm) (h : gF K s) : gF K U := by
  obtain ⟨h0, ⟨a0, a1, a2, a3, a4, a5⟩, b0, b1, b2, b3, b4, b5⟩ := h
  exact ⟨gN_warm hW h0, ⟨a0.warm hW, a1.warm hW, a2.warm hW, a3.warm hW, a4.warm hW, a5.warm hW⟩, b0.warm hW, b1.warm hW, b2.warm hW, b3.warm hW, b4.warm hW, b5.moved hW.alike⟩
theorem gF_same {K : gK} {u U : State} (hv : U.vm = u.vm) (h : gF K u) : gF K U := by
  obtain ⟨h0, ⟨a0, a1, a2, a3, a4, a5⟩, b0, b1, b2, b3, b4, b5⟩ := h
  refine ⟨?_, ⟨a0.same hv, a1.same hv, a2.same hv, a3.same hv, a4.same hv, a5.same hv⟩, b0.same hv, b1.same hv, b2.same hv, b3.same hv, b4.same hv, b5.moved (by rw [hv]; exact Vm.Alike.refl _)⟩
  simp only [gN, List.forall_mem_cons] at h0 ⊢
  obtain ⟨h0, h1, h2, h3, h4, h5, h6, h7, h8, h9, -⟩ := h0
  exact ⟨va_Nw.same rfl hv.symm h0, va_Nw.same rfl hv.symm h1, va_Nw.same rfl hv.symm h2, va_Nw.same rfl hv.symm h3, va_Nw.same rfl hv.symm h4, va_Nw.same rfl hv.symm h5, va_Nw.same rfl hv.symm h6, va_Nw.same rfl hv.symm h7, va_Nw.same rfl hv.symm h8, va_Nw.same rfl hv.symm h9, fun _ h => absurd h List.not_mem_nil⟩
theorem gE_moved {K : gK} {A : Nat → Prop} {u U : State} {H : Heap} (hvm : u.vm.Alike U.vm) (h : gE K A u H) : gE K A U H := ⟨⟨h.1.1.moved hvm, h.1.2.moved hvm⟩, ⟨h.2.1.1.moved hvm, h.2.1.2.moved hvm⟩, h.2.2.1.moved hvm, h.2.2.2.1.moved hvm, h.2.2.2.2.moved hvm⟩
theorem gE_kept {K : gK} {A : Nat → Prop} {U : State} {H H1 : Heap} (h : gE K A U H) (hq : ∀ a : Nat, a < H.size → ¬ A a → H1[a]? = H[a]?) : gE K A U H1 := ⟨⟨h.1.1.kept hq, h.1.2.kept hq⟩, ⟨h.2.1.1.kept hq, h.2.1.2.kept hq⟩, h.2.2.1.kept hq, h.2.2.2.1.kept hq, h.2.2.2.2.kept hq⟩
theorem gE_narrow {K : gK} {A B : Nat → Prop} {U : State} {H : Heap} (h : gE K A U H) (hAB : ∀ q, B q → A q) : gE K B U H := ⟨⟨h.1.1.narrow hAB, h.1.2.narrow hAB⟩, ⟨h.2.1.1.narrow hAB, h.2.1.2.narrow hAB⟩, h.2.2.1.narrow hAB, h.2.2.2.1.narrow hAB, h.2.2.2.2.narrow hAB⟩
/-! A CONTRACT: the words are one list for all; the world w0 at the start, 'post' of the answer and the world behind it -/
def gMet (K : gK) (y : MethodName) (cc : ByteArray) (nL : Nat) (ret : Option FieldType) (n mc ms : Nat) (av : List Value) (w0 : va_W) (post : Option Value → va_W → Prop) : Prop :=
  ∀ (l : Launch) (sz : Nat), Met l y (Cond.code y cc nL ret :: TB) ({ frames := n, cells := mc, slots := ms, locals := 40 * n })
    (va_Pc av (fun U => U.heap.size = sz ∧ va_P K.1 vwCl w0 U.heap ∧ va_K K.1 vwCl (gT K) U ∧ va_D (fun _ => True) w0 ∧ gE K (va_A w0 sz) U U.heap ∧ gF K U))
    (fun _ st oc t => (∃ (v : Option Value) (w1 : va_W), oc = .returned v ∧ post v w1 ∧ w0.length ≤ w1.length ∧ va_P K.1 vwCl w1 t.heap ∧ va_D (va_A w0 sz) w1) ∧ va_F (va_A w0 sz) st t)
    mc ms (va_A w0 sz)
abbrev gG : Type := Nat → Nat → Nat → List (Nat × Value) → List Value → va_W → Prop
/-- where a method's walk stands: the machine, its tables; what is left out of the picture: the heap, the locals as a row -/
def gC (G : gG) (K : gK) (y : MethodName) (cc : ByteArray) (nL n mc ms : Nat) : Prop :=
  ∃ (p : Program) (l : Launch) (e : Env) (R : Room) (s : State) (m : MethodId) (args : Array Value) (below : List Frame) (meth : Method) (c : Code) (Q : State → Prop) (A : Nat → Prop),
    G = (fun cells slots pc lv st ws => ∀ (H : Heap) (locs : List Loc) (ls : Array Slot), va_P K.1 vwCl ws H → va_D A ws → va_S A s.heap H locs → lv_has ls nL lv → W p l e R s m args below meth c H locs cells slots Q (F0 m pc ls st)) ∧
    p.tables.exec = Jvm.exec ∧ c.code = cc ∧ c.maxLocals = nL ∧ s.vm.findClass y.cls = some m.cls ∧ (∀ w ∈ TB, w.before args s = true) ∧ va_K K.1 vwCl (gT K) s ∧ (∀ q, s.heap.size ≤ q → A q) ∧ gE K A s s.heap ∧ gF K s ∧ n ≤ R.frames ∧ 40 * n ≤ R.locals ∧ mc ≤ R.cells ∧ ms ≤ R.slots ∧ meth.name = y.name
/-- a method's end -/
def gR (G : gG) (cc : ByteArray) (ret : Option FieldType) (mc ms nw : Nat) (post : Option Value → va_W → Prop) : Prop :=
  (∀ (co so pc : Nat) (lv : List (Nat × Value)) (ws : va_W) (v : Int32) (ty : FieldType), ret = some ty → narrow ty (.int v) = .int v → decode cc pc = .ok (.ireturn, 1) → co ≤ mc → so ≤ ms → nw ≤ ws.length → post (some (.int v)) ws → G co so pc lv [.int v] ws) ∧
  (∀ (co so pc : Nat) (lv : List (Nat × Value)) (ws : va_W) (v : Int64), ret = some .long → decode cc pc = .ok (.lreturn, 1) → co ≤ mc → so ≤ ms → nw ≤ ws.length → post (some (.long v)) ws → G co so pc lv [.long v] ws) ∧
  (∀ (co so pc : Nat) (lv : List (Nat × Value)) (ws : va_W), ret = none → decode cc pc = .ok (.return_, 1) → co ≤ mc → so ≤ ms → nw ≤ ws.length → post none ws → G co so pc lv [] ws)
theorem g_enter {K : gK} {y : MethodName} {cc : ByteArray} {nL : Nat} {ret : Option FieldType} {n mc ms : Nat} {av : List Value} {w0 : va_W} {post : Option Value → va_W → Prop} (hy : plainName y.cls = true) (hav : (lg_sl av).length ≤ nL)
    (body : ∀ G : gG, gC G K y cc nL n mc ms → gR G cc ret mc ms w0.length post → G 0 0 0 (lv_args 0 av) [] w0) : gMet K y cc nL ret n mc ms av w0 post := by
  intro l sz
  refine Met.ofW (cc := cc) (maxL := nL) (ret := ret) hy rfl ?_
  intro p e s m args below meth c s₁ B hml hv
  obtain ⟨rfl, hsz, hP, hK, hD0, hE, hF⟩ := hv
  have hts := atoms_spec (ws := Cond.code y cc nL ret :: TB) B.pre
  subst hsz
  have hl := lv_entry av (n := nL) hav
  rw [lg_entry_eq]
  refine body (fun cells slots pc lv st ws => ∀ (H : Heap) (locs : List Loc) (ls : Array Slot), va_P K.1 vwCl ws H → va_D (va_A w0 s.heap.size) ws → va_S (va_A w0 s.heap.size) s.heap H locs → lv_has ls nL lv → W p l e _ s m av.toArray below meth c H locs cells slots _ (F0 m pc ls st)) ?_ ?_ s.heap [] _ hP hD0.self va_S.rf hl
  · exact ⟨p, l, e, _, s, m, av.toArray, below, meth, c, _, va_A w0 s.heap.size, rfl, B.exec, B.bytes, hml, findClass_of_methodNamed B.named, fun w hw => hts w (List.mem_cons_of_mem _ hw), hK, fun q h => Or.inr h, hE, hF, Nat.le_refl _, Nat.le_refl _, Nat.le_refl _, Nat.le_refl _, (name_of_methodNamed B.named B.method).1⟩
  · refine ⟨?_, ?_, ?_⟩
    · intro co so pc lv ws v ty hret hn hdg h1 h2 h3 hpost H locs ls hP hD hS hl
      refine W.widen h1 h2 ?_
      exact W.zret B.exec B.bytes (by rw [B.returns]; exact hret) hn (fun t ht hW => ⟨⟨_, ws, rfl, hpost, h3, by rw [ht]; exact hP, hD⟩, hS.F ht⟩) hS.2.2 hdg B.notSynchronized
    · intro co so pc lv ws v hret hdg h1 h2 h3 hpost H locs ls hP hD hS hl
      refine W.widen h1 h2 ?_
      exact W.lret B.exec B.bytes (by rw [B.returns]; exact hret) (fun t ht hW => ⟨⟨_, ws, rfl, hpost, h3, by rw [ht]; exact hP, hD⟩, hS.F ht⟩) hS.2.2 hdg B.notSynchronized
    · intro co so pc lv ws hret hdg h1 h2 h3 hpost H locs ls hP hD hS hl
      refine W.widen h1 h2 ?_
      exact W.vret B.exec B.bytes (by rw [B.returns]; exact hret) (fun t ht hW => ⟨⟨_, ws, rfl, hpost, h3, by rw [ht]; exact hP, hD⟩, hS.F ht⟩) hS.2.2 hdg B.notSynchronized
/-! CALLS: a part of the world, by its places, goes in; what comes back stands at the same places, new cells behind all -/
def gputL : List Nat → va_W → va_W → va_W
  | [], ws, w1 => ws ++ w1
  | p :: ps, ws, w1 => match w1 with
    | [] => ws
    | c :: w2 => gputL ps (ws.set p c) w2
abbrev gput (ws : va_W) (ps : List Nat) (w1 : va_W) : va_W := gputL ps ws w1
theorem gput_ok {D : va_G} {A : Nat → Prop} {H1 : Heap} : ∀ (ps : List Nat) (ws w1 : va_W), ps.length ≤ w1.length → va_nd ps = true → (∀ i ∈ ps, i < ws.length) →
    (∀ (k : Nat) (q : Nat × va_E), ws[k]? = some q → k ∉ ps → va_at D vwCl q H1 ∧ A q.1) → (∀ q ∈ w1, va_at D vwCl q H1 ∧ A q.1) →
    (∀ (i j : Nat) (x z : Nat × va_E), ws[i]? = some x → ws[j]? = some z → i ∉ ps → j ∉ ps → x.1 = z.1 → i = j) → (∀ (i : Nat) (x : Nat × va_E), ws[i]? = some x → i ∉ ps → ∀ z ∈ w1, x.1 ≠ z.1) →
    (∀ (i j : Nat) (x z : Nat × va_E), w1[i]? = some x → w1[j]? = some z → x.1 = z.1 → i = j) → va_P D vwCl (gputL ps ws w1) H1 ∧ va_D A (gputL ps ws w1)
  | [], ws, w1, _, _, _, h1, h2, h3, h4, h5 => by
    have g1 : va_P D vwCl ws H1 := fun k q hk => (h1 k q hk List.not_mem_nil).1
    have g2 : va_P D vwCl w1 H1 := fun k q hk => (h2 q (List.mem_of_getElem? hk)).1
    have d1 : va_D A ws := ⟨fun i j x z hi hj e => h3 i j x z hi hj List.not_mem_nil List.not_mem_nil e, fun k q hk => (h1 k q hk List.not_mem_nil).2⟩
    have d2 : va_D A w1 := ⟨fun i j x z hi hj e => h5 i j x z hi hj e, fun k q hk => (h2 q (List.mem_of_getElem? hk)).2⟩
    exact ⟨va_P.app g1 g2, va_D.app d1 d2 (fun i j x z hi hj => h4 i x hi List.not_mem_nil z (List.mem_of_getElem? hj))⟩
  | p :: ps, ws, [], hl, _, _, _, _, _, _, _ => by simp at hl
  | p :: ps, ws, c :: w1, hl, hn, hr, h1, h2, h3, h4, h5 => by
    have hp : p < ws.length := hr p List.mem_cons_self
    simp only [va_nd, Bool.and_eq_true, decide_eq_true_eq] at hn
    have key : ∀ (k : Nat) (q : Nat × va_E), (ws.set p c)[k]? = some q → (k = p ∧ q = c) ∨ (k ≠ p ∧ ws[k]? = some q) := by
      intro k q hk
      by_cases e : k = p
      · subst e
        rw [List.getElem?_set_self hp] at hk
        exact Or.inl ⟨rfl, (Option.some.inj hk).symm⟩
      · rw [List.getElem?_set_ne (Ne.symm e)] at hk
        exact Or.inr ⟨e, hk⟩
    have nin : ∀ {k : Nat}, k ≠ p → k ∉ ps → k ∉ p :: ps := fun a b h => (List.mem_cons.mp h).elim a b
    have w5 : ∀ (z : Nat × va_E), z ∈ w1 → c.1 ≠ z.1 := by
      intro z hz e
      obtain ⟨j, hj⟩ := List.getElem?_of_mem hz
      have := h5 0 (j + 1) c z rfl (by rw [List.getElem?_cons_succ]; exact hj) e
      omega
    refine gput_ok ps (ws.set p c) w1 (by simpa using hl) hn.2 (fun i hi => by rw [List.length_set]; exact hr i (List.mem_cons_of_mem _ hi)) ?_ (fun q hq => h2 q (List.mem_cons_of_mem _ hq)) ?_ ?_ ?_
    · intro k q hk hkn
      rcases key k q hk with ⟨_, e⟩ | ⟨e, h⟩
      · rw [e]
        exact h2 c List.mem_cons_self
      · exact h1 k q h (nin e hkn)
    · intro i j x z hi hj ni nj e
      rcases key i x hi with ⟨a1, a2⟩ | ⟨a1, a2⟩ <;> rcases key j z hj with ⟨b1, b2⟩ | ⟨b1, b2⟩
      · rw [a1, b1]
      · subst a2
        exact absurd e.symm (h4 j z b2 (nin b1 nj) x List.mem_cons_self)
      · subst b2
        exact absurd e (h4 i x a2 (nin a1 ni) z List.mem_cons_self)
      · exact h3 i j x z a2 b2 (nin a1 ni) (nin b1 nj) e
    · intro i x hi ni z hz
      rcases key i x hi with ⟨a1, a2⟩ | ⟨a1, a2⟩
      · rw [a2]
        exact w5 z hz
      · exact h4 i x a2 (nin a1 ni) z (List.mem_cons_of_mem _ hz)
    · intro i j x z hi hj e
      have := h5 (i + 1) (j + 1) x z (by rw [List.getElem?_cons_succ]; exact hi) (by rw [List.getElem?_cons_succ]; exact hj) e
      omega
theorem g_places {ws wc : va_W} {ps : List Nat} (h : ps.map (fun i => ws[i]?) = wc.map some) : ∀ (k : Nat) (q : Nat × va_E), wc[k]? = some q → ∃ i, ps[k]? = some i ∧ ws[i]? = some q := by
  intro k q hk
  have h1 : (ps.map (fun i => ws[i]?))[k]? = some (some q) := by rw [h, List.getElem?_map, hk]; rfl
  rw [List.getElem?_map] at h1
  cases hi : ps[k]? with
  | none => rw [hi] at h1; cases h1
  | some i => rw [hi] at h1; exact ⟨i, rfl, Option.some.inj h1⟩
theorem g_places2 {ws wc : va_W} {ps : List Nat} (h : ps.map (fun i => ws[i]?) = wc.map some) : ∀ i ∈ ps, ∃ (k : Nat) (q : Nat × va_E), wc[k]? = some q ∧ ws[i]? = some q := by
  intro i hi
  obtain ⟨k, hk⟩ := List.getElem?_of_mem hi
  have h1 : (wc.map some)[k]? = some (ws[i]?) := by rw [← h, List.getElem?_map, hk]; rfl
  rw [List.getElem?_map] at h1
  cases hq : wc[k]? with
  | none => rw [hq] at h1; cases h1
  | some q => rw [hq] at h1; exact ⟨k, q, hq, (Option.some.inj h1).symm⟩
theorem w_after {p : Program} {l : Launch} {e : Env} {R : Room} {s : State} {m : MethodId} {args : Array Value} {below : List Frame} {meth : Method} {c : Code} {H : Heap} {locs : List Loc} {cells slots mc ms : Nat} {Q : State → Prop} {K : gK} {A0 : Nat → Prop} {H0 : Heap} {pc : Nat} {ls : Array Slot} {st0 rest : List Value} {wc ws : va_W} {ps : List Nat} {post : Option Value → va_W → Prop}
    (hr : va_Run p l e R s m args below meth c H locs cells slots mc ms (F0 m pc ls st0) rest (fun st oc t => (∃ (v : Option Value) (w1 : va_W), oc = .returned v ∧ post v w1 ∧ wc.length ≤ w1.length ∧ va_P K.1 vwCl w1 t.heap ∧ va_D (va_A wc H.size) w1) ∧ va_F (va_A wc H.size) st t) (va_A wc H.size))
    (hP : va_P K.1 vwCl ws H) (hD : va_D A0 ws) (hS : va_S A0 H0 H locs) (hA : ∀ q, H0.size ≤ q → A0 q) (hps : ps.map (fun i => ws[i]?) = wc.map some) (hnd : va_nd ps = true)
    (kk : ∀ (v : Option Value) (w1 : va_W) (H1 : Heap) (locs1 : List Loc), post v w1 → va_P K.1 vwCl (gput ws ps w1) H1 → va_D A0 (gput ws ps w1) → va_S A0 H0 H1 locs1 → W p l e R s m args below meth c H1 locs1 (cells + mc) (slots + ms) Q (F0 m (pc + 3) ls (v.toList ++ rest))) : W p l e R s m args below meth c H locs cells slots Q (F0 m pc ls st0) := by
  have hF := va_free (wc := wc) hD hS hA ps hps
  intro T hT X
  obtain ⟨v, st₀, t, T', L, h0, X', hL, e1, e2, ⟨⟨v', w1, hv, hp, hlen, hP1, hD1⟩, hz, hk⟩, st⟩ := hr T hT X
  cases hv
  rw [h0] at hz hk
  rw [← e1] at hP1 hz hk
  have hlp : ps.length = wc.length := by have := congrArg List.length hps; simpa using this
  have apart : ∀ (k : Nat) (q : Nat × va_E), ws[k]? = some q → k ∉ ps → q.1 < H.size ∧ ¬ va_A wc H.size q.1 := by
    intro k q hq hn
    have hl := (hP k q hq).lt
    refine ⟨hl, fun h => ?_⟩
    rcases h with ⟨k2, e0, h⟩ | h
    · obtain ⟨j, h3, h4⟩ := g_places hps k2 (q.1, e0) h
      have hij := hD.1 k j q (q.1, e0) hq h4 rfl
      subst hij
      exact hn (List.mem_of_getElem? h3)
    · omega
  obtain ⟨gP, gD⟩ := gput_ok (D := K.1) (A := A0) (H1 := T'.heap) ps ws w1 (by omega) hnd (fun i hi => by
      obtain ⟨k, q, -, hq⟩ := g_places2 hps i hi
      exact (List.getElem?_eq_some_iff.mp hq).1) (fun k q hq hn => ⟨(hP k q hq).kept (hk q.1 (apart k q hq hn).1 (apart k q hq hn).2), hD.2 k q hq⟩) (fun q hq => by
      obtain ⟨k, hk'⟩ := List.getElem?_of_mem hq
      exact ⟨hP1 k q hk', hF _ (hD1.2 k q hk')⟩) (fun i j x z hi hj _ _ ex => hD.1 i j x z hi hj ex) (fun i x hi hn z hz' ex => by
      obtain ⟨k, hk'⟩ := List.getElem?_of_mem hz'
      exact (apart i x hi hn).2 (by rw [ex]; exact hD1.2 k z hk')) (fun i j x z hi hj ex => hD1.1 i j x z hi hj ex)
  obtain ⟨t2, a1, b1⟩ := kk v w1 T'.heap (locs ++ L) hp gP gD
    ⟨Nat.le_trans hS.1 hz, fun q h1 h2 => by rw [hk q (Nat.lt_of_lt_of_le h1 hS.1) (fun z => h2 (hF q z))]; exact hS.2.1 q h1 h2, fun q hq => by
      rcases List.mem_append.mp hq with h | h
      · exact hS.2.2 q h
      · exact hF _ (hL q h)⟩ T' rfl X'
  exact ⟨t2, st t2 a1, b1⟩
theorem g_blind {K : gK} {av : List Value} {w0 : va_W} {sz : Nat} : FrameBlind (va_Pc av (fun U => U.heap.size = sz ∧ va_P K.1 vwCl w0 U.heap ∧ va_K K.1 vwCl (gT K) U ∧ va_D (fun _ => True) w0 ∧ gE K (va_A w0 sz) U U.heap ∧ gF K U)) := fun a U g mk q => by
  obtain ⟨h, q1, qP, qK, qD, qE, qF⟩ := q
  exact ⟨h, q1, qP, va_K.moved (u := U) (U := U.calling g mk a) (Vm.Alike.refl U.vm) qK, qD, gE_moved (u := U) (U := U.calling g mk a) (Vm.Alike.refl U.vm) qE, gF_same (u := U) (U := U.calling g mk a) rfl qF⟩
theorem g_pre {K : gK} {s : State} {H : Heap} {locs : List Loc} {A : Nat → Prop} {ws wc : va_W} {ps : List Nat} {av : List Value} (hP : va_P K.1 vwCl ws H) (hD : va_D A ws) (hS : va_S A s.heap H locs) (hA : ∀ q, s.heap.size ≤ q → A q) (hK : va_K K.1 vwCl (gT K) s) (hE : gE K A s s.heap) (hF : gF K s) (hps : ps.map (fun i => ws[i]?) = wc.map some) (hnd : va_nd ps = true) :
    ∀ U : State, U.heap = H → s.WarmedH U.vm → va_Pc av (fun U => U.heap.size = H.size ∧ va_P K.1 vwCl wc U.heap ∧ va_K K.1 vwCl (gT K) U ∧ va_D (fun _ => True) wc ∧ gE K (va_A wc H.size) U U.heap ∧ gF K U) av.toArray U := by
  intro U hU hW
  refine ⟨rfl, by rw [hU], ?_, va_K.moved hW.alike hK, (hD.sub ps hnd hps).weaken (fun _ _ _ _ => trivial), ?_, gF_warm hW hF⟩
  · rw [hU]
    intro k q hk
    obtain ⟨i, -, hi⟩ := g_places hps k q hk
    exact hP i q hi
  · rw [hU]
    exact gE_moved hW.alike (gE_narrow (gE_kept hE hS.2.1) (va_free (wc := wc) hD hS hA ps hps))
theorem tb_g {ws : List Cond} (h : ∀ w ∈ ws, w ∈ TB) : GoodIn TB ws := fun w hw => ⟨h w hw, good_of_word (List.mem_filter.mp (h w hw)).2⟩
/-- what the tables say of a method that is called: instance, static -/
def gCv (y : MethodName) (cc : ByteArray) (nL : Nat) (ret : Option FieldType) (na : Nat) : Prop :=
  Cond.instanceMethod y ∈ TB ∧ Cond.selects y.cls y y ∈ TB ∧ Cond.code y cc nL ret ∈ TB ∧ Cond.initialized y.cls ∈ TB ∧ (y.cls ≠ "java/lang/invoke/MethodHandle" ∧ y.cls ≠ "java/lang/invoke/VarHandle" ∧ (parseMethodDescriptor y.desc).map (fun d => d.parameters.length) = some na) ∧ nL ≤ 21
def gCs (y : MethodName) (cc : ByteArray) (nL : Nat) (ret : Option FieldType) (na : Nat) : Prop :=
  Cond.static y ∈ TB ∧ Cond.code y cc nL ret ∈ TB ∧ Cond.initialized y.cls ∈ TB ∧ (y.cls ≠ "java/lang/invoke/MethodHandle" ∧ y.cls ≠ "java/lang/invoke/VarHandle" ∧ (parseMethodDescriptor y.desc).map (fun d => d.parameters.length) = some na) ∧ nL ≤ 21
def gCi (y : MethodName) (cc : ByteArray) (nL : Nat) (na : Nat) : Prop :=
  Cond.instanceMethod y ∈ TB ∧ Cond.code y cc nL none ∈ TB ∧ Cond.initialized y.cls ∈ TB ∧ (y.cls ≠ "java/lang/invoke/MethodHandle" ∧ y.cls ≠ "java/lang/invoke/VarHandle" ∧ (parseMethodDescriptor y.desc).map (fun d => d.parameters.length) = some na) ∧ nL ≤ 21 ∧ y.name = "<init>"
/-- a field as a method of the class 'own' names it: its class's place, its own; final; its type -/
def gLk (own : String) (index ci k : Nat) (fin : Bool) (ty : FieldType) : Prop :=
  ∃ (C : String) (T : u_T) (N : Nat) (ty0 : Nat → FieldType), vwCl[ci]? = some (C, T, N) ∧ (∀ w ∈ u_ws C T N, w ∈ TB) ∧ (∀ k, k < N → parseFieldDescriptor (T k).2.2.1 = some (ty0 k)) ∧ (∀ a, a < N → ∀ b, b < N → a ≠ b → (T a).2.1 ≠ (T b).2.1) ∧ k < N ∧ Cond.fieldLink own index (T k).1 (T k).2.1 (T k).2.2.1 ∈ TB ∧ (T k).2.2.2 = fin ∧ ty0 k = ty ∧ (T k).1 = C
