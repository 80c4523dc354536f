/-! THE LAW -/
def xsv (xs : Nat → Int32) (i : Int) : Int := (xs i.toNat).toInt
theorem xsv_r (xs : Nat → Int32) (i : Int) : rI (xsv xs i) := iI_rng _
/-- what the law's own frame gives: its script, its end -/
def gL (G : gG) (b L : Nat) (xs : Nat → Int32) : Prop :=
  (∀ (co so pc : Nat) (lv : List (Nat × Value)) (st : List Value) (ws : va_W) (i : Int), decode cL_law pc = .ok (.iaload, 1) → (0 ≤ i ∧ i < (L : Int) ∧ i < 2147483648) → G co so (pc + 1) lv (.int (iI (xsv xs i)) :: st) ws → G co so pc lv (.int (iI i) :: .ref b :: st) ws) ∧
  (∀ (co so pc : Nat) (lv : List (Nat × Value)) (st : List Value) (ws : va_W), decode cL_law pc = .ok (.arraylength, 1) → G co so (pc + 1) lv (.int (iI (L : Int)) :: st) ws → G co so pc lv (.ref b :: st) ws) ∧
  (∀ (co so pc : Nat) (lv : List (Nat × Value)) (ws : va_W), decode cL_law pc = .ok (.ireturn, 1) → co ≤ 600000 → so ≤ 7302250 → G co so pc lv [.int (iI 1)] ws)
theorem g_icmp_same {G : gG} {K : gK} {y : MethodName} {cc : ByteArray} {nL n mc ms co so pc : Nat} {lv : List (Nat × Value)} {st : List Value} {ws : va_W} (hC : gC G K y cc nL n mc ms) {v : Int32} {off : Int} (tgt : Nat) (d : decode cc pc = .ok (.if_icmp .eq off, 3)) (ht : (pc : Int) + off = (tgt : Int)) (kk : G co so tgt lv (st) ws) : G co so pc lv (.int v :: .int v :: st) ws := by
  obtain ⟨p, l, e, R, s, m, args, below, meth, c, Q, A, rfl, hx, hb, hml, hown, hts, hK, hA, hE, hF, hRf, hRl, hRc, hRs, hnm⟩ := hC
  intro H locs ls hP hD hS hl
  exact lv_icmp_eq hx hb d ht (fun _ => kk H locs ls hP hD hS hl) (fun h => absurd rfl h)
/-- where the law's loop stands -/
def LB (K : gK) (xx mm co so : Nat) (i : Int) (ws : va_W) : Prop := ∃ (s im : Int → Int) (tk : Int) (l : List Int) (stp : Int) (N : Nat), LW K xx mm ws N s im tk l stp s im tk l ∧ sg_ok s im tk ∧ stp ≤ i + 1 ∧ (co : Int) ≤ 84 + i ∧ (so : Int) ≤ 39161 + (N : Int) + i
theorem LW_N {K : gK} {xx mm N : Nat} {ws : va_W} {s im t jm : Int → Int} {tk uk stp : Int} {l ml : List Int} (h : LW K xx mm ws N s im tk l stp t jm uk ml) : N ≤ 36000 := by
  obtain ⟨ad, F, I, J, Z, hm, hv, -, -, -, -, -, -, ⟨-, -, -, -, -, -, -, ⟨-, aq⟩, -⟩, -⟩ := h
  rcases aq with ⟨-, -, q | q⟩ | ⟨h, -, -, q, -⟩ <;> omega
theorem odds_rL {W : (Int → Int) → Int} {rch : Int} {s : Int → Int} {p q x n part : Int} : rL (an_odds W rch s p q x n part) := by
  unfold an_odds
  split
  · have h := md_up_rng W rch s p q x n.toNat 10
    have h2 := md_low_rng (up := md_up W rch s p q x n.toNat 10) (low := 10) (part := part) (by omega) (by omega)
    omega
  · omega
theorem mean_rL {s : Int → Int} {part : Int} (hg : md_rg s) : rL (an_mean s part) := by
  have h19 := hg.2.2.1
  unfold an_mean
  split
  · rename_i h
    have h1 := md_sm_rng hg (s 19).toNat (by omega)
    have h2 := md_low_rng (up := (md_sm s (s 19).toNat).1) (low := (md_sm s (s 19).toNat).2) (part := part) (by omega) (by omega)
    omega
  · omega
set_option maxHeartbeats 4000000 in
theorem law_0 {K : gK} {G : gG} {nm : String} {b L : Nat} {xs : Nat → Int32} {xx mm co so : Nat} {i : Int} {ws : va_W} (hC : gC G K (⟨RL, nm, "([I)Z"⟩ : MethodName) cL_law 4 100 600000 7302250) (hL : gL G b L xs) (hi : 0 ≤ i ∧ i + 6 ≤ (L : Int) ∧ (L : Int) ≤ 3072) (h : LB K xx mm co so i ws) (kk : ∀ co2 so2 ws2, LB K xx mm co2 so2 (i + 6) ws2 → G co2 so2 1086 [(0, .ref b), (1, .ref xx), (2, .ref mm), (3, .int (iI i))] [] ws2) : G co so 168 [(0, .ref b), (1, .ref xx), (2, .ref mm), (3, .int (iI i))] [] ws := by
  obtain ⟨s, im, tk, l, stp, N, h, hs, h1, h2, h3⟩ := h
  have hN := LW_N h
  have hg1 := hs.1.1
  refine g_aload_n (pc := 168) hC 1 dL_law_168 rfl rfl ?_
  refine g_aload_n (pc := 169) hC 0 dL_law_169 rfl rfl ?_
  refine g_iload_n (pc := 170) hC 3 dL_law_170 rfl rfl ?_
  refine g_iconst (pc := 171) hC dL_law_171 ?_
  refine g_iadd (pc := 172) hC dL_law_172 ?_
  refine hL.1 _ _ 173 _ _ _ _ dL_law_173 (by omega) ?_
  refine lx_feed (pc := 174) hC (Nat.le_of_ble_eq_true rfl) ⟨by omega, by omega⟩ (Nat.le_of_ble_eq_true rfl) wm_L_13 dL_law_174 (xsv xs (i + 1)) (xsv_r _ _) h hs (fun w3 h4 => ?_)
  refine g_aload_n (pc := 177) hC 2 dL_law_177 rfl rfl ?_
  refine g_aload_n (pc := 178) hC 0 dL_law_178 rfl rfl ?_
  refine g_iload_n (pc := 179) hC 3 dL_law_179 rfl rfl ?_
  refine g_iconst (pc := 180) hC dL_law_180 ?_
  refine g_iadd (pc := 181) hC dL_law_181 ?_
  refine hL.1 _ _ 182 _ _ _ _ dL_law_182 (by omega) ?_
  refine lm_feed (pc := 183) hC (Nat.le_of_ble_eq_true rfl) ⟨by omega, by omega⟩ (Nat.le_of_ble_eq_true rfl) wm_L_17 dL_law_183 (xsv xs (i + 1)) (xsv_r _ _) h4 hs (fun w5 h6 => ?_)
  refine g_icmp_same (pc := 186) hC 1086 dL_law_186 (by decide) ?_
  exact kk _ _ _ ⟨_, im, tk, l, stp, N, h6, ⟨gs_feed hs.1, hs.2.1, hs.2.2⟩, by omega, by omega, by omega⟩
set_option maxHeartbeats 4000000 in
theorem law_1 {K : gK} {G : gG} {nm : String} {b L : Nat} {xs : Nat → Int32} {xx mm co so : Nat} {i : Int} {ws : va_W} (hC : gC G K (⟨RL, nm, "([I)Z"⟩ : MethodName) cL_law 4 100 600000 7302250) (hL : gL G b L xs) (hi : 0 ≤ i ∧ i + 6 ≤ (L : Int) ∧ (L : Int) ≤ 3072) (h : LB K xx mm co so i ws) (kk : ∀ co2 so2 ws2, LB K xx mm co2 so2 (i + 6) ws2 → G co2 so2 1086 [(0, .ref b), (1, .ref xx), (2, .ref mm), (3, .int (iI i))] [] ws2) : G co so 191 [(0, .ref b), (1, .ref xx), (2, .ref mm), (3, .int (iI i))] [] ws := by
  obtain ⟨s, im, tk, l, stp, N, h, hs, h1, h2, h3⟩ := h
  have hN := LW_N h
  have hg1 := hs.1.1
  refine g_aload_n (pc := 191) hC 1 dL_law_191 rfl rfl ?_
  refine lx_house (pc := 192) hC (Nat.le_of_ble_eq_true rfl) ⟨by omega, by omega⟩ (Nat.le_of_ble_eq_true rfl) wm_L_18 dL_law_192  h hs (by omega) (fun w3 N2 sp2 dc ds hsp hdc hds h4 => ?_)
  have hN2 := LW_N h4
  refine g_aload_n (pc := 195) hC 2 dL_law_195 rfl rfl ?_
  refine lm_house (pc := 196) hC (Nat.le_of_ble_eq_true rfl) ⟨by omega, by omega⟩ (Nat.le_of_ble_eq_true rfl) wm_L_22 dL_law_196  h4 hs (fun w5 h6 => ?_)
  refine g_icmp_same (pc := 199) hC 1086 dL_law_199 (by decide) ?_
  exact kk _ _ _ ⟨_, im, tk, l, sp2, N2, h6, ⟨gs_house hs.1, hs.2.1, hs.2.2⟩, by omega, by omega, by omega⟩
set_option maxHeartbeats 4000000 in
theorem law_2 {K : gK} {G : gG} {nm : String} {b L : Nat} {xs : Nat → Int32} {xx mm co so : Nat} {i : Int} {ws : va_W} (hC : gC G K (⟨RL, nm, "([I)Z"⟩ : MethodName) cL_law 4 100 600000 7302250) (hL : gL G b L xs) (hi : 0 ≤ i ∧ i + 6 ≤ (L : Int) ∧ (L : Int) ≤ 3072) (h : LB K xx mm co so i ws) (kk : ∀ co2 so2 ws2, LB K xx mm co2 so2 (i + 6) ws2 → G co2 so2 1086 [(0, .ref b), (1, .ref xx), (2, .ref mm), (3, .int (iI i))] [] ws2) : G co so 204 [(0, .ref b), (1, .ref xx), (2, .ref mm), (3, .int (iI i))] [] ws := by
  obtain ⟨s, im, tk, l, stp, N, h, hs, h1, h2, h3⟩ := h
  have hN := LW_N h
  have hg1 := hs.1.1
  refine g_aload_n (pc := 204) hC 1 dL_law_204 rfl rfl ?_
  refine g_aload_n (pc := 205) hC 0 dL_law_205 rfl rfl ?_
  refine g_iload_n (pc := 206) hC 3 dL_law_206 rfl rfl ?_
  refine g_iconst (pc := 207) hC dL_law_207 ?_
  refine g_iadd (pc := 208) hC dL_law_208 ?_
  refine hL.1 _ _ 209 _ _ _ _ dL_law_209 (by omega) ?_
  refine g_aload_n (pc := 210) hC 0 dL_law_210 rfl rfl ?_
  refine g_iload_n (pc := 211) hC 3 dL_law_211 rfl rfl ?_
  refine g_iconst (pc := 212) hC dL_law_212 ?_
  refine g_iadd (pc := 213) hC dL_law_213 ?_
  refine hL.1 _ _ 214 _ _ _ _ dL_law_214 (by omega) ?_
  refine g_aload_n (pc := 215) hC 0 dL_law_215 rfl rfl ?_
  refine g_iload_n (pc := 216) hC 3 dL_law_216 rfl rfl ?_
  refine g_iconst (pc := 217) hC dL_law_217 ?_
  refine g_iadd (pc := 218) hC dL_law_218 ?_
  refine hL.1 _ _ 219 _ _ _ _ dL_law_219 (by omega) ?_
  refine g_aload_n (pc := 220) hC 0 dL_law_220 rfl rfl ?_
  refine g_iload_n (pc := 221) hC 3 dL_law_221 rfl rfl ?_
  refine g_iconst (pc := 222) hC dL_law_222 ?_
  refine g_iadd (pc := 223) hC dL_law_223 ?_
  refine hL.1 _ _ 224 _ _ _ _ dL_law_224 (by omega) ?_
  refine lx_man (pc := 225) hC (Nat.le_of_ble_eq_true rfl) ⟨by omega, by omega⟩ (Nat.le_of_ble_eq_true rfl) wm_L_23 dL_law_225 (xsv xs (i + 1)) (xsv xs (i + 2)) (xsv xs (i + 3)) (xsv xs (i + 4)) (xsv_r _ _) (xsv_r _ _) (xsv_r _ _) (xsv_r _ _) h hs (by omega) (fun w3 sp2 hsp h4 => ?_)
  refine g_aload_n (pc := 228) hC 2 dL_law_228 rfl rfl ?_
  refine g_aload_n (pc := 229) hC 0 dL_law_229 rfl rfl ?_
  refine g_iload_n (pc := 230) hC 3 dL_law_230 rfl rfl ?_
  refine g_iconst (pc := 231) hC dL_law_231 ?_
  refine g_iadd (pc := 232) hC dL_law_232 ?_
  refine hL.1 _ _ 233 _ _ _ _ dL_law_233 (by omega) ?_
  refine g_aload_n (pc := 234) hC 0 dL_law_234 rfl rfl ?_
  refine g_iload_n (pc := 235) hC 3 dL_law_235 rfl rfl ?_
  refine g_iconst (pc := 236) hC dL_law_236 ?_
  refine g_iadd (pc := 237) hC dL_law_237 ?_
  refine hL.1 _ _ 238 _ _ _ _ dL_law_238 (by omega) ?_
  refine g_aload_n (pc := 239) hC 0 dL_law_239 rfl rfl ?_
  refine g_iload_n (pc := 240) hC 3 dL_law_240 rfl rfl ?_
  refine g_iconst (pc := 241) hC dL_law_241 ?_
  refine g_iadd (pc := 242) hC dL_law_242 ?_
  refine hL.1 _ _ 243 _ _ _ _ dL_law_243 (by omega) ?_
  refine g_aload_n (pc := 244) hC 0 dL_law_244 rfl rfl ?_
  refine g_iload_n (pc := 245) hC 3 dL_law_245 rfl rfl ?_
  refine g_iconst (pc := 246) hC dL_law_246 ?_
  refine g_iadd (pc := 247) hC dL_law_247 ?_
  refine hL.1 _ _ 248 _ _ _ _ dL_law_248 (by omega) ?_
  refine lm_man (pc := 249) hC (Nat.le_of_ble_eq_true rfl) ⟨by omega, by omega⟩ (Nat.le_of_ble_eq_true rfl) wm_L_27 dL_law_249 (xsv xs (i + 1)) (xsv xs (i + 2)) (xsv xs (i + 3)) (xsv xs (i + 4)) (xsv_r _ _) (xsv_r _ _) (xsv_r _ _) (xsv_r _ _) h4 hs (fun w5 h6 => ?_)
  refine g_icmp_same (pc := 252) hC 1086 dL_law_252 (by decide) ?_
  exact kk _ _ _ ⟨_, im, tk, l, sp2, N, h6, ⟨gs_man hs.1, hs.2.1, hs.2.2⟩, by omega, by omega, by omega⟩
set_option maxHeartbeats 4000000 in
theorem law_3 {K : gK} {G : gG} {nm : String} {b L : Nat} {xs : Nat → Int32} {xx mm co so : Nat} {i : Int} {ws : va_W} (hC : gC G K (⟨RL, nm, "([I)Z"⟩ : MethodName) cL_law 4 100 600000 7302250) (hL : gL G b L xs) (hi : 0 ≤ i ∧ i + 6 ≤ (L : Int) ∧ (L : Int) ≤ 3072) (h : LB K xx mm co so i ws) (kk : ∀ co2 so2 ws2, LB K xx mm co2 so2 (i + 6) ws2 → G co2 so2 1086 [(0, .ref b), (1, .ref xx), (2, .ref mm), (3, .int (iI i))] [] ws2) : G co so 257 [(0, .ref b), (1, .ref xx), (2, .ref mm), (3, .int (iI i))] [] ws := by
  obtain ⟨s, im, tk, l, stp, N, h, hs, h1, h2, h3⟩ := h
  have hN := LW_N h
  have hg1 := hs.1.1
  refine g_aload_n (pc := 257) hC 1 dL_law_257 rfl rfl ?_
  refine g_aload_n (pc := 258) hC 0 dL_law_258 rfl rfl ?_
  refine g_iload_n (pc := 259) hC 3 dL_law_259 rfl rfl ?_
  refine g_iconst (pc := 260) hC dL_law_260 ?_
  refine g_iadd (pc := 261) hC dL_law_261 ?_
  refine hL.1 _ _ 262 _ _ _ _ dL_law_262 (by omega) ?_
  refine g_aload_n (pc := 263) hC 0 dL_law_263 rfl rfl ?_
  refine g_iload_n (pc := 264) hC 3 dL_law_264 rfl rfl ?_
  refine g_iconst (pc := 265) hC dL_law_265 ?_
  refine g_iadd (pc := 266) hC dL_law_266 ?_
  refine hL.1 _ _ 267 _ _ _ _ dL_law_267 (by omega) ?_
  refine lx_of (pc := 268) hC (Nat.le_of_ble_eq_true rfl) ⟨by omega, by omega⟩ (Nat.le_of_ble_eq_true rfl) wm_L_28 dL_law_268 (xsv xs (i + 1)) (xsv xs (i + 2)) (xsv_r _ _) (xsv_r _ _) h hs (fun w3 h4 => ?_)
  refine g_aload_n (pc := 271) hC 2 dL_law_271 rfl rfl ?_
  refine g_aload_n (pc := 272) hC 0 dL_law_272 rfl rfl ?_
  refine g_iload_n (pc := 273) hC 3 dL_law_273 rfl rfl ?_
  refine g_iconst (pc := 274) hC dL_law_274 ?_
  refine g_iadd (pc := 275) hC dL_law_275 ?_
  refine hL.1 _ _ 276 _ _ _ _ dL_law_276 (by omega) ?_
  refine g_aload_n (pc := 277) hC 0 dL_law_277 rfl rfl ?_
  refine g_iload_n (pc := 278) hC 3 dL_law_278 rfl rfl ?_
  refine g_iconst (pc := 279) hC dL_law_279 ?_
  refine g_iadd (pc := 280) hC dL_law_280 ?_
  refine hL.1 _ _ 281 _ _ _ _ dL_law_281 (by omega) ?_
  refine lm_of (pc := 282) hC (Nat.le_of_ble_eq_true rfl) ⟨by omega, by omega⟩ (Nat.le_of_ble_eq_true rfl) wm_L_32 dL_law_282 (xsv xs (i + 1)) (xsv xs (i + 2)) (xsv_r _ _) (xsv_r _ _) h4 hs (fun w5 h6 => ?_)
  refine g_icmp_same (pc := 285) hC 1086 dL_law_285 (by decide) ?_
  exact kk _ _ _ ⟨s, im, tk, l, stp, N, h6, hs, by omega, by omega, by omega⟩
set_option maxHeartbeats 4000000 in
theorem law_4 {K : gK} {G : gG} {nm : String} {b L : Nat} {xs : Nat → Int32} {xx mm co so : Nat} {i : Int} {ws : va_W} (hC : gC G K (⟨RL, nm, "([I)Z"⟩ : MethodName) cL_law 4 100 600000 7302250) (hL : gL G b L xs) (hi : 0 ≤ i ∧ i + 6 ≤ (L : Int) ∧ (L : Int) ≤ 3072) (h : LB K xx mm co so i ws) (kk : ∀ co2 so2 ws2, LB K xx mm co2 so2 (i + 6) ws2 → G co2 so2 1086 [(0, .ref b), (1, .ref xx), (2, .ref mm), (3, .int (iI i))] [] ws2) : G co so 290 [(0, .ref b), (1, .ref xx), (2, .ref mm), (3, .int (iI i))] [] ws := by
  obtain ⟨s, im, tk, l, stp, N, h, hs, h1, h2, h3⟩ := h
  have hN := LW_N h
  have hg1 := hs.1.1
  refine g_aload_n (pc := 290) hC 1 dL_law_290 rfl rfl ?_
  refine g_aload_n (pc := 291) hC 0 dL_law_291 rfl rfl ?_
  refine g_iload_n (pc := 292) hC 3 dL_law_292 rfl rfl ?_
  refine g_iconst (pc := 293) hC dL_law_293 ?_
  refine g_iadd (pc := 294) hC dL_law_294 ?_
  refine hL.1 _ _ 295 _ _ _ _ dL_law_295 (by omega) ?_
  refine g_aload_n (pc := 296) hC 0 dL_law_296 rfl rfl ?_
  refine g_iload_n (pc := 297) hC 3 dL_law_297 rfl rfl ?_
  refine g_iconst (pc := 298) hC dL_law_298 ?_
  refine g_iadd (pc := 299) hC dL_law_299 ?_
  refine hL.1 _ _ 300 _ _ _ _ dL_law_300 (by omega) ?_
  refine lx_pull (pc := 301) hC (Nat.le_of_ble_eq_true rfl) ⟨by omega, by omega⟩ (Nat.le_of_ble_eq_true rfl) wm_L_33 dL_law_301 (xsv xs (i + 1)) (xsv xs (i + 2)) (xsv_r _ _) (xsv_r _ _) h hs (fun w3 h4 => ?_)
  refine g_aload_n (pc := 304) hC 2 dL_law_304 rfl rfl ?_
  refine g_aload_n (pc := 305) hC 0 dL_law_305 rfl rfl ?_
  refine g_iload_n (pc := 306) hC 3 dL_law_306 rfl rfl ?_
  refine g_iconst (pc := 307) hC dL_law_307 ?_
  refine g_iadd (pc := 308) hC dL_law_308 ?_
  refine hL.1 _ _ 309 _ _ _ _ dL_law_309 (by omega) ?_
  refine g_aload_n (pc := 310) hC 0 dL_law_310 rfl rfl ?_
  refine g_iload_n (pc := 311) hC 3 dL_law_311 rfl rfl ?_
  refine g_iconst (pc := 312) hC dL_law_312 ?_
  refine g_iadd (pc := 313) hC dL_law_313 ?_
  refine hL.1 _ _ 314 _ _ _ _ dL_law_314 (by omega) ?_
  refine lm_pull (pc := 315) hC (Nat.le_of_ble_eq_true rfl) ⟨by omega, by omega⟩ (Nat.le_of_ble_eq_true rfl) wm_L_36 dL_law_315 (xsv xs (i + 1)) (xsv xs (i + 2)) (xsv_r _ _) (xsv_r _ _) h4 hs (fun w5 h6 => ?_)
  refine g_icmp_same (pc := 318) hC 1086 dL_law_318 (by decide) ?_
  exact kk _ _ _ ⟨s, im, tk, l, stp, N, h6, hs, by omega, by omega, by omega⟩
set_option maxHeartbeats 4000000 in
theorem law_5 {K : gK} {G : gG} {nm : String} {b L : Nat} {xs : Nat → Int32} {xx mm co so : Nat} {i : Int} {ws : va_W} (hC : gC G K (⟨RL, nm, "([I)Z"⟩ : MethodName) cL_law 4 100 600000 7302250) (hL : gL G b L xs) (hi : 0 ≤ i ∧ i + 6 ≤ (L : Int) ∧ (L : Int) ≤ 3072) (h : LB K xx mm co so i ws) (kk : ∀ co2 so2 ws2, LB K xx mm co2 so2 (i + 6) ws2 → G co2 so2 1086 [(0, .ref b), (1, .ref xx), (2, .ref mm), (3, .int (iI i))] [] ws2) : G co so 323 [(0, .ref b), (1, .ref xx), (2, .ref mm), (3, .int (iI i))] [] ws := by
  obtain ⟨s, im, tk, l, stp, N, h, hs, h1, h2, h3⟩ := h
  have hN := LW_N h
  have hg1 := hs.1.1
  refine g_aload_n (pc := 323) hC 1 dL_law_323 rfl rfl ?_
  refine g_aload_n (pc := 324) hC 0 dL_law_324 rfl rfl ?_
  refine g_iload_n (pc := 325) hC 3 dL_law_325 rfl rfl ?_
  refine g_iconst (pc := 326) hC dL_law_326 ?_
  refine g_iadd (pc := 327) hC dL_law_327 ?_
  refine hL.1 _ _ 328 _ _ _ _ dL_law_328 (by omega) ?_
  refine g_aload_n (pc := 329) hC 0 dL_law_329 rfl rfl ?_
  refine g_iload_n (pc := 330) hC 3 dL_law_330 rfl rfl ?_
  refine g_iconst (pc := 331) hC dL_law_331 ?_
  refine g_iadd (pc := 332) hC dL_law_332 ?_
  refine hL.1 _ _ 333 _ _ _ _ dL_law_333 (by omega) ?_
  refine g_aload_n (pc := 334) hC 0 dL_law_334 rfl rfl ?_
  refine g_iload_n (pc := 335) hC 3 dL_law_335 rfl rfl ?_
  refine g_iconst (pc := 336) hC dL_law_336 ?_
  refine g_iadd (pc := 337) hC dL_law_337 ?_
  refine hL.1 _ _ 338 _ _ _ _ dL_law_338 (by omega) ?_
  refine lx_row (pc := 339) hC (Nat.le_of_ble_eq_true rfl) ⟨by omega, by omega⟩ (Nat.le_of_ble_eq_true rfl) wm_L_37 dL_law_339 (xsv xs (i + 1)) (xsv xs (i + 2)) (xsv xs (i + 3)) (xsv_r _ _) (xsv_r _ _) (xsv_r _ _) h hs (by omega) (fun w3 sp2 hsp h4 => ?_)
  refine g_aload_n (pc := 342) hC 2 dL_law_342 rfl rfl ?_
  refine g_aload_n (pc := 343) hC 0 dL_law_343 rfl rfl ?_
  refine g_iload_n (pc := 344) hC 3 dL_law_344 rfl rfl ?_
  refine g_iconst (pc := 345) hC dL_law_345 ?_
  refine g_iadd (pc := 346) hC dL_law_346 ?_
  refine hL.1 _ _ 347 _ _ _ _ dL_law_347 (by omega) ?_
  refine g_aload_n (pc := 348) hC 0 dL_law_348 rfl rfl ?_
  refine g_iload_n (pc := 349) hC 3 dL_law_349 rfl rfl ?_
  refine g_iconst (pc := 350) hC dL_law_350 ?_
  refine g_iadd (pc := 351) hC dL_law_351 ?_
  refine hL.1 _ _ 352 _ _ _ _ dL_law_352 (by omega) ?_
  refine g_aload_n (pc := 353) hC 0 dL_law_353 rfl rfl ?_
  refine g_iload_n (pc := 354) hC 3 dL_law_354 rfl rfl ?_
  refine g_iconst (pc := 355) hC dL_law_355 ?_
  refine g_iadd (pc := 356) hC dL_law_356 ?_
  refine hL.1 _ _ 357 _ _ _ _ dL_law_357 (by omega) ?_
  refine lm_row (pc := 358) hC (Nat.le_of_ble_eq_true rfl) ⟨by omega, by omega⟩ (Nat.le_of_ble_eq_true rfl) wm_L_41 dL_law_358 (xsv xs (i + 1)) (xsv xs (i + 2)) (xsv xs (i + 3)) (xsv_r _ _) (xsv_r _ _) (xsv_r _ _) h4 hs (fun w5 h6 => ?_)
  refine g_icmp_same (pc := 361) hC 1086 dL_law_361 (by decide) ?_
  exact kk _ _ _ ⟨_, im, tk, l, sp2, N, h6, ⟨gs_row hs.1, hs.2.1, hs.2.2⟩, by omega, by omega, by omega⟩
set_option maxHeartbeats 4000000 in
theorem law_6 {K : gK} {G : gG} {nm : String} {b L : Nat} {xs : Nat → Int32} {xx mm co so : Nat} {i : Int} {ws : va_W} (hC : gC G K (⟨RL, nm, "([I)Z"⟩ : MethodName) cL_law 4 100 600000 7302250) (hL : gL G b L xs) (hi : 0 ≤ i ∧ i + 6 ≤ (L : Int) ∧ (L : Int) ≤ 3072) (h : LB K xx mm co so i ws) (kk : ∀ co2 so2 ws2, LB K xx mm co2 so2 (i + 6) ws2 → G co2 so2 1086 [(0, .ref b), (1, .ref xx), (2, .ref mm), (3, .int (iI i))] [] ws2) : G co so 366 [(0, .ref b), (1, .ref xx), (2, .ref mm), (3, .int (iI i))] [] ws := by
  obtain ⟨s, im, tk, l, stp, N, h, hs, h1, h2, h3⟩ := h
  have hN := LW_N h
  have hg1 := hs.1.1
  refine g_aload_n (pc := 366) hC 1 dL_law_366 rfl rfl ?_
  refine g_aload_n (pc := 367) hC 0 dL_law_367 rfl rfl ?_
  refine g_iload_n (pc := 368) hC 3 dL_law_368 rfl rfl ?_
  refine g_iconst (pc := 369) hC dL_law_369 ?_
  refine g_iadd (pc := 370) hC dL_law_370 ?_
  refine hL.1 _ _ 371 _ _ _ _ dL_law_371 (by omega) ?_
  refine g_aload_n (pc := 372) hC 0 dL_law_372 rfl rfl ?_
  refine g_iload_n (pc := 373) hC 3 dL_law_373 rfl rfl ?_
  refine g_iconst (pc := 374) hC dL_law_374 ?_
  refine g_iadd (pc := 375) hC dL_law_375 ?_
  refine hL.1 _ _ 376 _ _ _ _ dL_law_376 (by omega) ?_
  refine g_aload_n (pc := 377) hC 0 dL_law_377 rfl rfl ?_
  refine g_iload_n (pc := 378) hC 3 dL_law_378 rfl rfl ?_
  refine g_iconst (pc := 379) hC dL_law_379 ?_
  refine g_iadd (pc := 380) hC dL_law_380 ?_
  refine hL.1 _ _ 381 _ _ _ _ dL_law_381 (by omega) ?_
  refine lx_set (pc := 382) hC (Nat.le_of_ble_eq_true rfl) ⟨by omega, by omega⟩ (Nat.le_of_ble_eq_true rfl) wm_L_42 dL_law_382 (xsv xs (i + 1)) (xsv xs (i + 2)) (xsv xs (i + 3)) (xsv_r _ _) (xsv_r _ _) (xsv_r _ _) h hs (by omega) (fun w3 sp2 hsp h4 => ?_)
  refine g_aload_n (pc := 385) hC 2 dL_law_385 rfl rfl ?_
  refine g_aload_n (pc := 386) hC 0 dL_law_386 rfl rfl ?_
  refine g_iload_n (pc := 387) hC 3 dL_law_387 rfl rfl ?_
  refine g_iconst (pc := 388) hC dL_law_388 ?_
  refine g_iadd (pc := 389) hC dL_law_389 ?_
  refine hL.1 _ _ 390 _ _ _ _ dL_law_390 (by omega) ?_
  refine g_aload_n (pc := 391) hC 0 dL_law_391 rfl rfl ?_
  refine g_iload_n (pc := 392) hC 3 dL_law_392 rfl rfl ?_
  refine g_iconst (pc := 393) hC dL_law_393 ?_
  refine g_iadd (pc := 394) hC dL_law_394 ?_
  refine hL.1 _ _ 395 _ _ _ _ dL_law_395 (by omega) ?_
  refine g_aload_n (pc := 396) hC 0 dL_law_396 rfl rfl ?_
  refine g_iload_n (pc := 397) hC 3 dL_law_397 rfl rfl ?_
  refine g_iconst (pc := 398) hC dL_law_398 ?_
  refine g_iadd (pc := 399) hC dL_law_399 ?_
  refine hL.1 _ _ 400 _ _ _ _ dL_law_400 (by omega) ?_
  refine lm_set (pc := 401) hC (Nat.le_of_ble_eq_true rfl) ⟨by omega, by omega⟩ (Nat.le_of_ble_eq_true rfl) wm_L_45 dL_law_401 (xsv xs (i + 1)) (xsv xs (i + 2)) (xsv xs (i + 3)) (xsv_r _ _) (xsv_r _ _) (xsv_r _ _) h4 hs (fun w5 h6 => ?_)
  refine g_icmp_same (pc := 404) hC 1086 dL_law_404 (by decide) ?_
  exact kk _ _ _ ⟨_, im, tk, l, sp2, N, h6, ⟨gs_set hs.1, hs.2.1, hs.2.2⟩, by omega, by omega, by omega⟩
set_option maxHeartbeats 4000000 in
theorem law_7 {K : gK} {G : gG} {nm : String} {b L : Nat} {xs : Nat → Int32} {xx mm co so : Nat} {i : Int} {ws : va_W} (hC : gC G K (⟨RL, nm, "([I)Z"⟩ : MethodName) cL_law 4 100 600000 7302250) (hL : gL G b L xs) (hi : 0 ≤ i ∧ i + 6 ≤ (L : Int) ∧ (L : Int) ≤ 3072) (h : LB K xx mm co so i ws) (kk : ∀ co2 so2 ws2, LB K xx mm co2 so2 (i + 6) ws2 → G co2 so2 1086 [(0, .ref b), (1, .ref xx), (2, .ref mm), (3, .int (iI i))] [] ws2) : G co so 409 [(0, .ref b), (1, .ref xx), (2, .ref mm), (3, .int (iI i))] [] ws := by
  obtain ⟨s, im, tk, l, stp, N, h, hs, h1, h2, h3⟩ := h
  have hN := LW_N h
  have hg1 := hs.1.1
  refine g_aload_n (pc := 409) hC 1 dL_law_409 rfl rfl ?_
  refine g_aload_n (pc := 410) hC 0 dL_law_410 rfl rfl ?_
  refine g_iload_n (pc := 411) hC 3 dL_law_411 rfl rfl ?_
  refine g_iconst (pc := 412) hC dL_law_412 ?_
  refine g_iadd (pc := 413) hC dL_law_413 ?_
  refine hL.1 _ _ 414 _ _ _ _ dL_law_414 (by omega) ?_
  refine g_aload_n (pc := 415) hC 0 dL_law_415 rfl rfl ?_
  refine g_iload_n (pc := 416) hC 3 dL_law_416 rfl rfl ?_
  refine g_iconst (pc := 417) hC dL_law_417 ?_
  refine g_iadd (pc := 418) hC dL_law_418 ?_
  refine hL.1 _ _ 419 _ _ _ _ dL_law_419 (by omega) ?_
  refine g_if_eq (pc := 420) hC 427 dL_law_420 (by decide) (xsv_r _ _) (fun c1 => ?_) (fun c1 => ?_)
  ·
    refine g_iconst (pc := 427) hC dL_law_427 ?_
    refine lx_away (pc := 428) hC (Nat.le_of_ble_eq_true rfl) ⟨by omega, by omega⟩ (Nat.le_of_ble_eq_true rfl) wm_L_46 dL_law_428 (xsv xs (i + 1)) (0) (xsv_r _ _) (by omega) h hs (by omega) (by omega) (fun w3 sp2 hsp h4 => ?_)
    refine g_aload_n (pc := 431) hC 2 dL_law_431 rfl rfl ?_
    refine g_aload_n (pc := 432) hC 0 dL_law_432 rfl rfl ?_
    refine g_iload_n (pc := 433) hC 3 dL_law_433 rfl rfl ?_
    refine g_iconst (pc := 434) hC dL_law_434 ?_
    refine g_iadd (pc := 435) hC dL_law_435 ?_
    refine hL.1 _ _ 436 _ _ _ _ dL_law_436 (by omega) ?_
    refine g_aload_n (pc := 437) hC 0 dL_law_437 rfl rfl ?_
    refine g_iload_n (pc := 438) hC 3 dL_law_438 rfl rfl ?_
    refine g_iconst (pc := 439) hC dL_law_439 ?_
    refine g_iadd (pc := 440) hC dL_law_440 ?_
    refine hL.1 _ _ 441 _ _ _ _ dL_law_441 (by omega) ?_
    refine g_if_eq (pc := 442) hC 449 dL_law_442 (by decide) (xsv_r _ _) (fun c2 => ?_) (fun c2 => ?_)
    ·
      refine g_iconst (pc := 449) hC dL_law_449 ?_
      refine lm_away (pc := 450) hC (Nat.le_of_ble_eq_true rfl) ⟨by omega, by omega⟩ (Nat.le_of_ble_eq_true rfl) wm_L_50 dL_law_450 (xsv xs (i + 1)) (0) (xsv_r _ _) (by omega) h4 hs (by omega) (fun w5 h6 => ?_)
      refine g_icmp_same (pc := 453) hC 1086 dL_law_453 (by decide) ?_
      exact kk _ _ _ ⟨_, im, tk, l, sp2, N, h6, ⟨gs_away hs.1, hs.2.1, hs.2.2⟩, by omega, by omega, by omega⟩
    ·
      refine g_iconst (pc := 445) hC dL_law_445 ?_
      refine g_goto (pc := 446) hC 450 dL_law_446 (by decide) ?_
      exfalso; omega
  ·
    refine g_iconst (pc := 423) hC dL_law_423 ?_
    refine g_goto (pc := 424) hC 428 dL_law_424 (by decide) ?_
    refine lx_away (pc := 428) hC (Nat.le_of_ble_eq_true rfl) ⟨by omega, by omega⟩ (Nat.le_of_ble_eq_true rfl) wm_L_46 dL_law_428 (xsv xs (i + 1)) (1) (xsv_r _ _) (by omega) h hs (by omega) (by omega) (fun w3 sp2 hsp h4 => ?_)
    refine g_aload_n (pc := 431) hC 2 dL_law_431 rfl rfl ?_
    refine g_aload_n (pc := 432) hC 0 dL_law_432 rfl rfl ?_
    refine g_iload_n (pc := 433) hC 3 dL_law_433 rfl rfl ?_
    refine g_iconst (pc := 434) hC dL_law_434 ?_
    refine g_iadd (pc := 435) hC dL_law_435 ?_
    refine hL.1 _ _ 436 _ _ _ _ dL_law_436 (by omega) ?_
    refine g_aload_n (pc := 437) hC 0 dL_law_437 rfl rfl ?_
    refine g_iload_n (pc := 438) hC 3 dL_law_438 rfl rfl ?_
    refine g_iconst (pc := 439) hC dL_law_439 ?_
    refine g_iadd (pc := 440) hC dL_law_440 ?_
    refine hL.1 _ _ 441 _ _ _ _ dL_law_441 (by omega) ?_
    refine g_if_eq (pc := 442) hC 449 dL_law_442 (by decide) (xsv_r _ _) (fun c2 => ?_) (fun c2 => ?_)
    ·
      refine g_iconst (pc := 449) hC dL_law_449 ?_
      exfalso; omega
    ·
      refine g_iconst (pc := 445) hC dL_law_445 ?_
      refine g_goto (pc := 446) hC 450 dL_law_446 (by decide) ?_
      refine lm_away (pc := 450) hC (Nat.le_of_ble_eq_true rfl) ⟨by omega, by omega⟩ (Nat.le_of_ble_eq_true rfl) wm_L_50 dL_law_450 (xsv xs (i + 1)) (1) (xsv_r _ _) (by omega) h4 hs (by omega) (fun w5 h6 => ?_)
      refine g_icmp_same (pc := 453) hC 1086 dL_law_453 (by decide) ?_
      exact kk _ _ _ ⟨_, im, tk, l, sp2, N, h6, ⟨gs_away hs.1, hs.2.1, hs.2.2⟩, by omega, by omega, by omega⟩
set_option maxHeartbeats 4000000 in
theorem law_8 {K : gK} {G : gG} {nm : String} {b L : Nat} {xs : Nat → Int32} {xx mm co so : Nat} {i : Int} {ws : va_W} (hC : gC G K (⟨RL, nm, "([I)Z"⟩ : MethodName) cL_law 4 100 600000 7302250) (hL : gL G b L xs) (hi : 0 ≤ i ∧ i + 6 ≤ (L : Int) ∧ (L : Int) ≤ 3072) (h : LB K xx mm co so i ws) (kk : ∀ co2 so2 ws2, LB K xx mm co2 so2 (i + 6) ws2 → G co2 so2 1086 [(0, .ref b), (1, .ref xx), (2, .ref mm), (3, .int (iI i))] [] ws2) : G co so 458 [(0, .ref b), (1, .ref xx), (2, .ref mm), (3, .int (iI i))] [] ws := by
  obtain ⟨s, im, tk, l, stp, N, h, hs, h1, h2, h3⟩ := h
  have hN := LW_N h
  have hg1 := hs.1.1
  refine g_aload_n (pc := 458) hC 1 dL_law_458 rfl rfl ?_
  refine g_aload_n (pc := 459) hC 0 dL_law_459 rfl rfl ?_
  refine g_iload_n (pc := 460) hC 3 dL_law_460 rfl rfl ?_
  refine g_iconst (pc := 461) hC dL_law_461 ?_
  refine g_iadd (pc := 462) hC dL_law_462 ?_
  refine hL.1 _ _ 463 _ _ _ _ dL_law_463 (by omega) ?_
  refine lx_told (pc := 464) hC (Nat.le_of_ble_eq_true rfl) ⟨by omega, by omega⟩ (Nat.le_of_ble_eq_true rfl) wm_L_51 dL_law_464 (xsv xs (i + 1)) (xsv_r _ _) h hs (fun w3 h4 => ?_)
  refine g_aload_n (pc := 467) hC 2 dL_law_467 rfl rfl ?_
  refine g_aload_n (pc := 468) hC 0 dL_law_468 rfl rfl ?_
  refine g_iload_n (pc := 469) hC 3 dL_law_469 rfl rfl ?_
  refine g_iconst (pc := 470) hC dL_law_470 ?_
  refine g_iadd (pc := 471) hC dL_law_471 ?_
  refine hL.1 _ _ 472 _ _ _ _ dL_law_472 (by omega) ?_
  refine lm_told (pc := 473) hC (Nat.le_of_ble_eq_true rfl) ⟨by omega, by omega⟩ (Nat.le_of_ble_eq_true rfl) wm_L_54 dL_law_473 (xsv xs (i + 1)) (xsv_r _ _) h4 hs (fun w5 h6 => ?_)
  refine g_icmp_same (pc := 476) hC 1086 dL_law_476 (by decide) ?_
  exact kk _ _ _ ⟨s, im, tk, l, stp, N, h6, hs, by omega, by omega, by omega⟩
set_option maxHeartbeats 4000000 in
theorem law_9 {K : gK} {G : gG} {nm : String} {b L : Nat} {xs : Nat → Int32} {xx mm co so : Nat} {i : Int} {ws : va_W} (hC : gC G K (⟨RL, nm, "([I)Z"⟩ : MethodName) cL_law 4 100 600000 7302250) (hL : gL G b L xs) (hi : 0 ≤ i ∧ i + 6 ≤ (L : Int) ∧ (L : Int) ≤ 3072) (h : LB K xx mm co so i ws) (kk : ∀ co2 so2 ws2, LB K xx mm co2 so2 (i + 6) ws2 → G co2 so2 1086 [(0, .ref b), (1, .ref xx), (2, .ref mm), (3, .int (iI i))] [] ws2) : G co so 481 [(0, .ref b), (1, .ref xx), (2, .ref mm), (3, .int (iI i))] [] ws := by
  obtain ⟨s, im, tk, l, stp, N, h, hs, h1, h2, h3⟩ := h
  have hN := LW_N h
  have hg1 := hs.1.1
  refine g_aload_n (pc := 481) hC 1 dL_law_481 rfl rfl ?_
  refine g_aload_n (pc := 482) hC 0 dL_law_482 rfl rfl ?_
  refine g_iload_n (pc := 483) hC 3 dL_law_483 rfl rfl ?_
  refine g_iconst (pc := 484) hC dL_law_484 ?_
  refine g_iadd (pc := 485) hC dL_law_485 ?_
  refine hL.1 _ _ 486 _ _ _ _ dL_law_486 (by omega) ?_
  refine lx_pass (pc := 487) hC (Nat.le_of_ble_eq_true rfl) ⟨by omega, by omega⟩ (Nat.le_of_ble_eq_true rfl) wm_L_55 dL_law_487 (xsv xs (i + 1)) (xsv_r _ _) h hs (by omega) (fun w3 sp2 hsp h4 => ?_)
  refine g_aload_n (pc := 490) hC 2 dL_law_490 rfl rfl ?_
  refine g_aload_n (pc := 491) hC 0 dL_law_491 rfl rfl ?_
  refine g_iload_n (pc := 492) hC 3 dL_law_492 rfl rfl ?_
  refine g_iconst (pc := 493) hC dL_law_493 ?_
  refine g_iadd (pc := 494) hC dL_law_494 ?_
  refine hL.1 _ _ 495 _ _ _ _ dL_law_495 (by omega) ?_
  refine lm_pass (pc := 496) hC (Nat.le_of_ble_eq_true rfl) ⟨by omega, by omega⟩ (Nat.le_of_ble_eq_true rfl) wm_L_58 dL_law_496 (xsv xs (i + 1)) (xsv_r _ _) h4 hs (fun w5 h6 => ?_)
  refine g_icmp_same (pc := 499) hC 1086 dL_law_499 (by decide) ?_
  exact kk _ _ _ ⟨_, im, tk, l, sp2, N, h6, ⟨gs_pass hs.1, hs.2.1, hs.2.2⟩, by omega, by omega, by omega⟩
set_option maxHeartbeats 4000000 in
theorem law_10 {K : gK} {G : gG} {nm : String} {b L : Nat} {xs : Nat → Int32} {xx mm co so : Nat} {i : Int} {ws : va_W} (hC : gC G K (⟨RL, nm, "([I)Z"⟩ : MethodName) cL_law 4 100 600000 7302250) (hL : gL G b L xs) (hi : 0 ≤ i ∧ i + 6 ≤ (L : Int) ∧ (L : Int) ≤ 3072) (h : LB K xx mm co so i ws) (kk : ∀ co2 so2 ws2, LB K xx mm co2 so2 (i + 6) ws2 → G co2 so2 1086 [(0, .ref b), (1, .ref xx), (2, .ref mm), (3, .int (iI i))] [] ws2) : G co so 504 [(0, .ref b), (1, .ref xx), (2, .ref mm), (3, .int (iI i))] [] ws := by
  obtain ⟨s, im, tk, l, stp, N, h, hs, h1, h2, h3⟩ := h
  have hN := LW_N h
  have hg1 := hs.1.1
  refine g_aload_n (pc := 504) hC 1 dL_law_504 rfl rfl ?_
  refine g_aload_n (pc := 505) hC 0 dL_law_505 rfl rfl ?_
  refine g_iload_n (pc := 506) hC 3 dL_law_506 rfl rfl ?_
  refine g_iconst (pc := 507) hC dL_law_507 ?_
  refine g_iadd (pc := 508) hC dL_law_508 ?_
  refine hL.1 _ _ 509 _ _ _ _ dL_law_509 (by omega) ?_
  refine g_aload_n (pc := 510) hC 0 dL_law_510 rfl rfl ?_
  refine g_iload_n (pc := 511) hC 3 dL_law_511 rfl rfl ?_
  refine g_iconst (pc := 512) hC dL_law_512 ?_
  refine g_iadd (pc := 513) hC dL_law_513 ?_
  refine hL.1 _ _ 514 _ _ _ _ dL_law_514 (by omega) ?_
  refine lx_on (pc := 515) hC (Nat.le_of_ble_eq_true rfl) ⟨by omega, by omega⟩ (Nat.le_of_ble_eq_true rfl) wm_L_59 dL_law_515 (xsv xs (i + 1)) (xsv xs (i + 2)) (xsv_r _ _) (xsv_r _ _) h hs (fun w3 h4 => ?_)
  refine g_aload_n (pc := 518) hC 2 dL_law_518 rfl rfl ?_
  refine g_aload_n (pc := 519) hC 0 dL_law_519 rfl rfl ?_
  refine g_iload_n (pc := 520) hC 3 dL_law_520 rfl rfl ?_
  refine g_iconst (pc := 521) hC dL_law_521 ?_
  refine g_iadd (pc := 522) hC dL_law_522 ?_
  refine hL.1 _ _ 523 _ _ _ _ dL_law_523 (by omega) ?_
  refine g_aload_n (pc := 524) hC 0 dL_law_524 rfl rfl ?_
  refine g_iload_n (pc := 525) hC 3 dL_law_525 rfl rfl ?_
  refine g_iconst (pc := 526) hC dL_law_526 ?_
  refine g_iadd (pc := 527) hC dL_law_527 ?_
  refine hL.1 _ _ 528 _ _ _ _ dL_law_528 (by omega) ?_
  refine lm_on (pc := 529) hC (Nat.le_of_ble_eq_true rfl) ⟨by omega, by omega⟩ (Nat.le_of_ble_eq_true rfl) wm_L_62 dL_law_529 (xsv xs (i + 1)) (xsv xs (i + 2)) (xsv_r _ _) (xsv_r _ _) h4 hs (fun w5 h6 => ?_)
  refine g_icmp_same (pc := 532) hC 1086 dL_law_532 (by decide) ?_
  exact kk _ _ _ ⟨s, im, tk, l, stp, N, h6, hs, by omega, by omega, by omega⟩
set_option maxHeartbeats 4000000 in
theorem law_11 {K : gK} {G : gG} {nm : String} {b L : Nat} {xs : Nat → Int32} {xx mm co so : Nat} {i : Int} {ws : va_W} (hC : gC G K (⟨RL, nm, "([I)Z"⟩ : MethodName) cL_law 4 100 600000 7302250) (hL : gL G b L xs) (hi : 0 ≤ i ∧ i + 6 ≤ (L : Int) ∧ (L : Int) ≤ 3072) (h : LB K xx mm co so i ws) (kk : ∀ co2 so2 ws2, LB K xx mm co2 so2 (i + 6) ws2 → G co2 so2 1086 [(0, .ref b), (1, .ref xx), (2, .ref mm), (3, .int (iI i))] [] ws2) : G co so 537 [(0, .ref b), (1, .ref xx), (2, .ref mm), (3, .int (iI i))] [] ws := by
  obtain ⟨s, im, tk, l, stp, N, h, hs, h1, h2, h3⟩ := h
  have hN := LW_N h
  have hg1 := hs.1.1
  refine g_aload_n (pc := 537) hC 1 dL_law_537 rfl rfl ?_
  refine g_aload_n (pc := 538) hC 0 dL_law_538 rfl rfl ?_
  refine g_iload_n (pc := 539) hC 3 dL_law_539 rfl rfl ?_
  refine g_iconst (pc := 540) hC dL_law_540 ?_
  refine g_iadd (pc := 541) hC dL_law_541 ?_
  refine hL.1 _ _ 542 _ _ _ _ dL_law_542 (by omega) ?_
  refine g_aload_n (pc := 543) hC 0 dL_law_543 rfl rfl ?_
  refine g_iload_n (pc := 544) hC 3 dL_law_544 rfl rfl ?_
  refine g_iconst (pc := 545) hC dL_law_545 ?_
  refine g_iadd (pc := 546) hC dL_law_546 ?_
  refine hL.1 _ _ 547 _ _ _ _ dL_law_547 (by omega) ?_
  refine lx_steer (pc := 548) hC (Nat.le_of_ble_eq_true rfl) ⟨by omega, by omega⟩ (Nat.le_of_ble_eq_true rfl) wm_L_63 dL_law_548 (xsv xs (i + 1)) (xsv xs (i + 2)) (xsv_r _ _) (xsv_r _ _) h hs ?_
  refine g_aload_n (pc := 551) hC 2 dL_law_551 rfl rfl ?_
  refine g_aload_n (pc := 552) hC 0 dL_law_552 rfl rfl ?_
  refine g_iload_n (pc := 553) hC 3 dL_law_553 rfl rfl ?_
  refine g_iconst (pc := 554) hC dL_law_554 ?_
  refine g_iadd (pc := 555) hC dL_law_555 ?_
  refine hL.1 _ _ 556 _ _ _ _ dL_law_556 (by omega) ?_
  refine g_aload_n (pc := 557) hC 0 dL_law_557 rfl rfl ?_
  refine g_iload_n (pc := 558) hC 3 dL_law_558 rfl rfl ?_
  refine g_iconst (pc := 559) hC dL_law_559 ?_
  refine g_iadd (pc := 560) hC dL_law_560 ?_
  refine hL.1 _ _ 561 _ _ _ _ dL_law_561 (by omega) ?_
  refine lm_steer (pc := 562) hC (Nat.le_of_ble_eq_true rfl) ⟨by omega, by omega⟩ (Nat.le_of_ble_eq_true rfl) wm_L_66 dL_law_562 (xsv xs (i + 1)) (xsv xs (i + 2)) (xsv_r _ _) (xsv_r _ _) h hs (fun w5 h6 => ?_)
  refine g_icmp_same (pc := 565) hC 1086 dL_law_565 (by decide) ?_
  exact kk _ _ _ ⟨s, im, tk, l, stp, N, h6, hs, by omega, by omega, by omega⟩
set_option maxHeartbeats 4000000 in
theorem law_12 {K : gK} {G : gG} {nm : String} {b L : Nat} {xs : Nat → Int32} {xx mm co so : Nat} {i : Int} {ws : va_W} (hC : gC G K (⟨RL, nm, "([I)Z"⟩ : MethodName) cL_law 4 100 600000 7302250) (hL : gL G b L xs) (hi : 0 ≤ i ∧ i + 6 ≤ (L : Int) ∧ (L : Int) ≤ 3072) (h : LB K xx mm co so i ws) (kk : ∀ co2 so2 ws2, LB K xx mm co2 so2 (i + 6) ws2 → G co2 so2 1086 [(0, .ref b), (1, .ref xx), (2, .ref mm), (3, .int (iI i))] [] ws2) : G co so 570 [(0, .ref b), (1, .ref xx), (2, .ref mm), (3, .int (iI i))] [] ws := by
  obtain ⟨s, im, tk, l, stp, N, h, hs, h1, h2, h3⟩ := h
  have hN := LW_N h
  have hg1 := hs.1.1
  refine g_aload_n (pc := 570) hC 1 dL_law_570 rfl rfl ?_
  refine g_aload_n (pc := 571) hC 0 dL_law_571 rfl rfl ?_
  refine g_iload_n (pc := 572) hC 3 dL_law_572 rfl rfl ?_
  refine g_iconst (pc := 573) hC dL_law_573 ?_
  refine g_iadd (pc := 574) hC dL_law_574 ?_
  refine hL.1 _ _ 575 _ _ _ _ dL_law_575 (by omega) ?_
  refine g_aload_n (pc := 576) hC 0 dL_law_576 rfl rfl ?_
  refine g_iload_n (pc := 577) hC 3 dL_law_577 rfl rfl ?_
  refine g_iconst (pc := 578) hC dL_law_578 ?_
  refine g_iadd (pc := 579) hC dL_law_579 ?_
  refine hL.1 _ _ 580 _ _ _ _ dL_law_580 (by omega) ?_
  refine lx_tells (pc := 581) hC (Nat.le_of_ble_eq_true rfl) ⟨by omega, by omega⟩ (Nat.le_of_ble_eq_true rfl) wm_L_67 dL_law_581 (xsv xs (i + 1)) (xsv xs (i + 2)) (xsv_r _ _) (xsv_r _ _) h hs (fun w3 h4 => ?_)
  refine g_aload_n (pc := 584) hC 2 dL_law_584 rfl rfl ?_
  refine g_aload_n (pc := 585) hC 0 dL_law_585 rfl rfl ?_
  refine g_iload_n (pc := 586) hC 3 dL_law_586 rfl rfl ?_
  refine g_iconst (pc := 587) hC dL_law_587 ?_
  refine g_iadd (pc := 588) hC dL_law_588 ?_
  refine hL.1 _ _ 589 _ _ _ _ dL_law_589 (by omega) ?_
  refine g_aload_n (pc := 590) hC 0 dL_law_590 rfl rfl ?_
  refine g_iload_n (pc := 591) hC 3 dL_law_591 rfl rfl ?_
  refine g_iconst (pc := 592) hC dL_law_592 ?_
  refine g_iadd (pc := 593) hC dL_law_593 ?_
  refine hL.1 _ _ 594 _ _ _ _ dL_law_594 (by omega) ?_
  refine lm_tells (pc := 595) hC (Nat.le_of_ble_eq_true rfl) ⟨by omega, by omega⟩ (Nat.le_of_ble_eq_true rfl) wm_L_70 dL_law_595 (xsv xs (i + 1)) (xsv xs (i + 2)) (xsv_r _ _) (xsv_r _ _) h4 hs (fun w5 h6 => ?_)
  refine g_icmp_same (pc := 598) hC 1086 dL_law_598 (by decide) ?_
  exact kk _ _ _ ⟨s, im, tk, l, stp, N, h6, hs, by omega, by omega, by omega⟩
set_option maxHeartbeats 4000000 in
theorem law_13 {K : gK} {G : gG} {nm : String} {b L : Nat} {xs : Nat → Int32} {xx mm co so : Nat} {i : Int} {ws : va_W} (hC : gC G K (⟨RL, nm, "([I)Z"⟩ : MethodName) cL_law 4 100 600000 7302250) (hL : gL G b L xs) (hi : 0 ≤ i ∧ i + 6 ≤ (L : Int) ∧ (L : Int) ≤ 3072) (h : LB K xx mm co so i ws) (kk : ∀ co2 so2 ws2, LB K xx mm co2 so2 (i + 6) ws2 → G co2 so2 1086 [(0, .ref b), (1, .ref xx), (2, .ref mm), (3, .int (iI i))] [] ws2) : G co so 603 [(0, .ref b), (1, .ref xx), (2, .ref mm), (3, .int (iI i))] [] ws := by
  obtain ⟨s, im, tk, l, stp, N, h, hs, h1, h2, h3⟩ := h
  have hN := LW_N h
  have hg1 := hs.1.1
  refine g_aload_n (pc := 603) hC 1 dL_law_603 rfl rfl ?_
  refine g_aload_n (pc := 604) hC 0 dL_law_604 rfl rfl ?_
  refine g_iload_n (pc := 605) hC 3 dL_law_605 rfl rfl ?_
  refine g_iconst (pc := 606) hC dL_law_606 ?_
  refine g_iadd (pc := 607) hC dL_law_607 ?_
  refine hL.1 _ _ 608 _ _ _ _ dL_law_608 (by omega) ?_
  refine lx_roomed (pc := 609) hC (Nat.le_of_ble_eq_true rfl) ⟨by omega, by omega⟩ (Nat.le_of_ble_eq_true rfl) wm_L_71 dL_law_609 (xsv xs (i + 1)) (xsv_r _ _) h hs (fun w3 h4 => ?_)
  refine g_aload_n (pc := 612) hC 2 dL_law_612 rfl rfl ?_
  refine g_aload_n (pc := 613) hC 0 dL_law_613 rfl rfl ?_
  refine g_iload_n (pc := 614) hC 3 dL_law_614 rfl rfl ?_
  refine g_iconst (pc := 615) hC dL_law_615 ?_
  refine g_iadd (pc := 616) hC dL_law_616 ?_
  refine hL.1 _ _ 617 _ _ _ _ dL_law_617 (by omega) ?_
  refine lm_roomed (pc := 618) hC (Nat.le_of_ble_eq_true rfl) ⟨by omega, by omega⟩ (Nat.le_of_ble_eq_true rfl) wm_L_74 dL_law_618 (xsv xs (i + 1)) (xsv_r _ _) h4 hs (fun w5 h6 => ?_)
  refine g_icmp_same (pc := 621) hC 1086 dL_law_621 (by decide) ?_
  exact kk _ _ _ ⟨s, im, tk, l, stp, N, h6, hs, by omega, by omega, by omega⟩
set_option maxHeartbeats 4000000 in
theorem law_14 {K : gK} {G : gG} {nm : String} {b L : Nat} {xs : Nat → Int32} {xx mm co so : Nat} {i : Int} {ws : va_W} (hC : gC G K (⟨RL, nm, "([I)Z"⟩ : MethodName) cL_law 4 100 600000 7302250) (hL : gL G b L xs) (hi : 0 ≤ i ∧ i + 6 ≤ (L : Int) ∧ (L : Int) ≤ 3072) (h : LB K xx mm co so i ws) (kk : ∀ co2 so2 ws2, LB K xx mm co2 so2 (i + 6) ws2 → G co2 so2 1086 [(0, .ref b), (1, .ref xx), (2, .ref mm), (3, .int (iI i))] [] ws2) : G co so 626 [(0, .ref b), (1, .ref xx), (2, .ref mm), (3, .int (iI i))] [] ws := by
  obtain ⟨s, im, tk, l, stp, N, h, hs, h1, h2, h3⟩ := h
  have hN := LW_N h
  have hg1 := hs.1.1
  refine g_aload_n (pc := 626) hC 1 dL_law_626 rfl rfl ?_
  refine g_aload_n (pc := 627) hC 0 dL_law_627 rfl rfl ?_
  refine g_iload_n (pc := 628) hC 3 dL_law_628 rfl rfl ?_
  refine g_iconst (pc := 629) hC dL_law_629 ?_
  refine g_iadd (pc := 630) hC dL_law_630 ?_
  refine hL.1 _ _ 631 _ _ _ _ dL_law_631 (by omega) ?_
  refine g_aload_n (pc := 632) hC 0 dL_law_632 rfl rfl ?_
  refine g_iload_n (pc := 633) hC 3 dL_law_633 rfl rfl ?_
  refine g_iconst (pc := 634) hC dL_law_634 ?_
  refine g_iadd (pc := 635) hC dL_law_635 ?_
  refine hL.1 _ _ 636 _ _ _ _ dL_law_636 (by omega) ?_
  refine g_aload_n (pc := 637) hC 0 dL_law_637 rfl rfl ?_
  refine g_iload_n (pc := 638) hC 3 dL_law_638 rfl rfl ?_
  refine g_iconst (pc := 639) hC dL_law_639 ?_
  refine g_iadd (pc := 640) hC dL_law_640 ?_
  refine hL.1 _ _ 641 _ _ _ _ dL_law_641 (by omega) ?_
  refine lx_see (pc := 642) hC (Nat.le_of_ble_eq_true rfl) ⟨by omega, by omega⟩ (Nat.le_of_ble_eq_true rfl) wm_L_75 dL_law_642 (xsv xs (i + 1)) (xsv xs (i + 2)) (xsv xs (i + 3)) (xsv_r _ _) (xsv_r _ _) (xsv_r _ _) h hs (fun w3 h4 => ?_)
  refine g_aload_n (pc := 645) hC 2 dL_law_645 rfl rfl ?_
  refine g_aload_n (pc := 646) hC 0 dL_law_646 rfl rfl ?_
  refine g_iload_n (pc := 647) hC 3 dL_law_647 rfl rfl ?_
  refine g_iconst (pc := 648) hC dL_law_648 ?_
  refine g_iadd (pc := 649) hC dL_law_649 ?_
  refine hL.1 _ _ 650 _ _ _ _ dL_law_650 (by omega) ?_
  refine g_aload_n (pc := 651) hC 0 dL_law_651 rfl rfl ?_
  refine g_iload_n (pc := 652) hC 3 dL_law_652 rfl rfl ?_
  refine g_iconst (pc := 653) hC dL_law_653 ?_
  refine g_iadd (pc := 654) hC dL_law_654 ?_
  refine hL.1 _ _ 655 _ _ _ _ dL_law_655 (by omega) ?_
  refine g_aload_n (pc := 656) hC 0 dL_law_656 rfl rfl ?_
  refine g_iload_n (pc := 657) hC 3 dL_law_657 rfl rfl ?_
  refine g_iconst (pc := 658) hC dL_law_658 ?_
  refine g_iadd (pc := 659) hC dL_law_659 ?_
  refine hL.1 _ _ 660 _ _ _ _ dL_law_660 (by omega) ?_
  refine lm_see (pc := 661) hC (Nat.le_of_ble_eq_true rfl) ⟨by omega, by omega⟩ (Nat.le_of_ble_eq_true rfl) wm_L_78 dL_law_661 (xsv xs (i + 1)) (xsv xs (i + 2)) (xsv xs (i + 3)) (xsv_r _ _) (xsv_r _ _) (xsv_r _ _) h4 hs (fun w5 h6 => ?_)
  refine g_icmp_same (pc := 664) hC 1086 dL_law_664 (by decide) ?_
  exact kk _ _ _ ⟨_, im, tk, l, stp, N, h6, ⟨gs_see hs.1, hs.2.1, hs.2.2⟩, by omega, by omega, by omega⟩
set_option maxHeartbeats 4000000 in
theorem law_15 {K : gK} {G : gG} {nm : String} {b L : Nat} {xs : Nat → Int32} {xx mm co so : Nat} {i : Int} {ws : va_W} (hC : gC G K (⟨RL, nm, "([I)Z"⟩ : MethodName) cL_law 4 100 600000 7302250) (hL : gL G b L xs) (hi : 0 ≤ i ∧ i + 6 ≤ (L : Int) ∧ (L : Int) ≤ 3072) (h : LB K xx mm co so i ws) (kk : ∀ co2 so2 ws2, LB K xx mm co2 so2 (i + 6) ws2 → G co2 so2 1086 [(0, .ref b), (1, .ref xx), (2, .ref mm), (3, .int (iI i))] [] ws2) : G co so 669 [(0, .ref b), (1, .ref xx), (2, .ref mm), (3, .int (iI i))] [] ws := by
  obtain ⟨s, im, tk, l, stp, N, h, hs, h1, h2, h3⟩ := h
  have hN := LW_N h
  have hg1 := hs.1.1
  refine g_aload_n (pc := 669) hC 1 dL_law_669 rfl rfl ?_
  refine g_aload_n (pc := 670) hC 0 dL_law_670 rfl rfl ?_
  refine g_iload_n (pc := 671) hC 3 dL_law_671 rfl rfl ?_
  refine g_iconst (pc := 672) hC dL_law_672 ?_
  refine g_iadd (pc := 673) hC dL_law_673 ?_
  refine hL.1 _ _ 674 _ _ _ _ dL_law_674 (by omega) ?_
  refine lx_states (pc := 675) hC (Nat.le_of_ble_eq_true rfl) ⟨by omega, by omega⟩ (Nat.le_of_ble_eq_true rfl) wm_L_79 dL_law_675 (xsv xs (i + 1)) (xsv_r _ _) h hs (fun w3 h4 => ?_)
  refine g_aload_n (pc := 678) hC 2 dL_law_678 rfl rfl ?_
  refine g_aload_n (pc := 679) hC 0 dL_law_679 rfl rfl ?_
  refine g_iload_n (pc := 680) hC 3 dL_law_680 rfl rfl ?_
  refine g_iconst (pc := 681) hC dL_law_681 ?_
  refine g_iadd (pc := 682) hC dL_law_682 ?_
  refine hL.1 _ _ 683 _ _ _ _ dL_law_683 (by omega) ?_
  refine lm_states (pc := 684) hC (Nat.le_of_ble_eq_true rfl) ⟨by omega, by omega⟩ (Nat.le_of_ble_eq_true rfl) wm_L_82 dL_law_684 (xsv xs (i + 1)) (xsv_r _ _) h4 hs (fun w5 h6 => ?_)
  refine g_icmp_same (pc := 687) hC 1086 dL_law_687 (by decide) ?_
  exact kk _ _ _ ⟨s, im, tk, l, stp, N, h6, hs, by omega, by omega, by omega⟩
set_option maxHeartbeats 4000000 in
theorem law_16 {K : gK} {G : gG} {nm : String} {b L : Nat} {xs : Nat → Int32} {xx mm co so : Nat} {i : Int} {ws : va_W} (hC : gC G K (⟨RL, nm, "([I)Z"⟩ : MethodName) cL_law 4 100 600000 7302250) (hL : gL G b L xs) (hi : 0 ≤ i ∧ i + 6 ≤ (L : Int) ∧ (L : Int) ≤ 3072) (h : LB K xx mm co so i ws) (kk : ∀ co2 so2 ws2, LB K xx mm co2 so2 (i + 6) ws2 → G co2 so2 1086 [(0, .ref b), (1, .ref xx), (2, .ref mm), (3, .int (iI i))] [] ws2) : G co so 692 [(0, .ref b), (1, .ref xx), (2, .ref mm), (3, .int (iI i))] [] ws := by
  obtain ⟨s, im, tk, l, stp, N, h, hs, h1, h2, h3⟩ := h
  have hN := LW_N h
  have hg1 := hs.1.1
  refine g_aload_n (pc := 692) hC 1 dL_law_692 rfl rfl ?_
  refine g_aload_n (pc := 693) hC 0 dL_law_693 rfl rfl ?_
  refine g_iload_n (pc := 694) hC 3 dL_law_694 rfl rfl ?_
  refine g_iconst (pc := 695) hC dL_law_695 ?_
  refine g_iadd (pc := 696) hC dL_law_696 ?_
  refine hL.1 _ _ 697 _ _ _ _ dL_law_697 (by omega) ?_
  refine lx_where (pc := 698) hC (Nat.le_of_ble_eq_true rfl) ⟨by omega, by omega⟩ (Nat.le_of_ble_eq_true rfl) wm_L_83 dL_law_698 (xsv xs (i + 1)) (xsv_r _ _) h hs (fun w3 h4 => ?_)
  refine g_aload_n (pc := 701) hC 2 dL_law_701 rfl rfl ?_
  refine g_aload_n (pc := 702) hC 0 dL_law_702 rfl rfl ?_
  refine g_iload_n (pc := 703) hC 3 dL_law_703 rfl rfl ?_
  refine g_iconst (pc := 704) hC dL_law_704 ?_
  refine g_iadd (pc := 705) hC dL_law_705 ?_
  refine hL.1 _ _ 706 _ _ _ _ dL_law_706 (by omega) ?_
  refine lm_where (pc := 707) hC (Nat.le_of_ble_eq_true rfl) ⟨by omega, by omega⟩ (Nat.le_of_ble_eq_true rfl) wm_L_86 dL_law_707 (xsv xs (i + 1)) (xsv_r _ _) h4 hs (fun w5 h6 => ?_)
  refine g_icmp_same (pc := 710) hC 1086 dL_law_710 (by decide) ?_
  exact kk _ _ _ ⟨s, im, tk, l, stp, N, h6, hs, by omega, by omega, by omega⟩
set_option maxHeartbeats 4000000 in
theorem law_17 {K : gK} {G : gG} {nm : String} {b L : Nat} {xs : Nat → Int32} {xx mm co so : Nat} {i : Int} {ws : va_W} (hC : gC G K (⟨RL, nm, "([I)Z"⟩ : MethodName) cL_law 4 100 600000 7302250) (hL : gL G b L xs) (hi : 0 ≤ i ∧ i + 6 ≤ (L : Int) ∧ (L : Int) ≤ 3072) (h : LB K xx mm co so i ws) (kk : ∀ co2 so2 ws2, LB K xx mm co2 so2 (i + 6) ws2 → G co2 so2 1086 [(0, .ref b), (1, .ref xx), (2, .ref mm), (3, .int (iI i))] [] ws2) : G co so 715 [(0, .ref b), (1, .ref xx), (2, .ref mm), (3, .int (iI i))] [] ws := by
  obtain ⟨s, im, tk, l, stp, N, h, hs, h1, h2, h3⟩ := h
  have hN := LW_N h
  have hg1 := hs.1.1
  refine g_aload_n (pc := 715) hC 1 dL_law_715 rfl rfl ?_
  refine g_aload_n (pc := 716) hC 0 dL_law_716 rfl rfl ?_
  refine g_iload_n (pc := 717) hC 3 dL_law_717 rfl rfl ?_
  refine g_iconst (pc := 718) hC dL_law_718 ?_
  refine g_iadd (pc := 719) hC dL_law_719 ?_
  refine hL.1 _ _ 720 _ _ _ _ dL_law_720 (by omega) ?_
  refine g_aload_n (pc := 721) hC 0 dL_law_721 rfl rfl ?_
  refine g_iload_n (pc := 722) hC 3 dL_law_722 rfl rfl ?_
  refine g_iconst (pc := 723) hC dL_law_723 ?_
  refine g_iadd (pc := 724) hC dL_law_724 ?_
  refine hL.1 _ _ 725 _ _ _ _ dL_law_725 (by omega) ?_
  refine lx_firm (pc := 726) hC (Nat.le_of_ble_eq_true rfl) ⟨by omega, by omega⟩ (Nat.le_of_ble_eq_true rfl) wm_L_87 dL_law_726 (xsv xs (i + 1)) (xsv xs (i + 2)) (xsv_r _ _) (xsv_r _ _) h hs (fun w3 h4 => ?_)
  refine g_aload_n (pc := 729) hC 2 dL_law_729 rfl rfl ?_
  refine g_aload_n (pc := 730) hC 0 dL_law_730 rfl rfl ?_
  refine g_iload_n (pc := 731) hC 3 dL_law_731 rfl rfl ?_
  refine g_iconst (pc := 732) hC dL_law_732 ?_
  refine g_iadd (pc := 733) hC dL_law_733 ?_
  refine hL.1 _ _ 734 _ _ _ _ dL_law_734 (by omega) ?_
  refine g_aload_n (pc := 735) hC 0 dL_law_735 rfl rfl ?_
  refine g_iload_n (pc := 736) hC 3 dL_law_736 rfl rfl ?_
  refine g_iconst (pc := 737) hC dL_law_737 ?_
  refine g_iadd (pc := 738) hC dL_law_738 ?_
  refine hL.1 _ _ 739 _ _ _ _ dL_law_739 (by omega) ?_
  refine lm_firm (pc := 740) hC (Nat.le_of_ble_eq_true rfl) ⟨by omega, by omega⟩ (Nat.le_of_ble_eq_true rfl) wm_L_90 dL_law_740 (xsv xs (i + 1)) (xsv xs (i + 2)) (xsv_r _ _) (xsv_r _ _) h4 hs (fun w5 h6 => ?_)
  refine g_icmp_same (pc := 743) hC 1086 dL_law_743 (by decide) ?_
  exact kk _ _ _ ⟨s, im, tk, l, stp, N, h6, hs, by omega, by omega, by omega⟩
set_option maxHeartbeats 4000000 in
theorem law_18 {K : gK} {G : gG} {nm : String} {b L : Nat} {xs : Nat → Int32} {xx mm co so : Nat} {i : Int} {ws : va_W} (hC : gC G K (⟨RL, nm, "([I)Z"⟩ : MethodName) cL_law 4 100 600000 7302250) (hL : gL G b L xs) (hi : 0 ≤ i ∧ i + 6 ≤ (L : Int) ∧ (L : Int) ≤ 3072) (h : LB K xx mm co so i ws) (kk : ∀ co2 so2 ws2, LB K xx mm co2 so2 (i + 6) ws2 → G co2 so2 1086 [(0, .ref b), (1, .ref xx), (2, .ref mm), (3, .int (iI i))] [] ws2) : G co so 748 [(0, .ref b), (1, .ref xx), (2, .ref mm), (3, .int (iI i))] [] ws := by
  obtain ⟨s, im, tk, l, stp, N, h, hs, h1, h2, h3⟩ := h
  have hN := LW_N h
  have hg1 := hs.1.1
  refine g_aload_n (pc := 748) hC 1 dL_law_748 rfl rfl ?_
  refine g_aload_n (pc := 749) hC 0 dL_law_749 rfl rfl ?_
  refine g_iload_n (pc := 750) hC 3 dL_law_750 rfl rfl ?_
  refine g_iconst (pc := 751) hC dL_law_751 ?_
  refine g_iadd (pc := 752) hC dL_law_752 ?_
  refine hL.1 _ _ 753 _ _ _ _ dL_law_753 (by omega) ?_
  refine g_aload_n (pc := 754) hC 0 dL_law_754 rfl rfl ?_
  refine g_iload_n (pc := 755) hC 3 dL_law_755 rfl rfl ?_
  refine g_iconst (pc := 756) hC dL_law_756 ?_
  refine g_iadd (pc := 757) hC dL_law_757 ?_
  refine hL.1 _ _ 758 _ _ _ _ dL_law_758 (by omega) ?_
  refine g_aload_n (pc := 759) hC 0 dL_law_759 rfl rfl ?_
  refine g_iload_n (pc := 760) hC 3 dL_law_760 rfl rfl ?_
  refine g_iconst (pc := 761) hC dL_law_761 ?_
  refine g_iadd (pc := 762) hC dL_law_762 ?_
  refine hL.1 _ _ 763 _ _ _ _ dL_law_763 (by omega) ?_
  refine g_aload_n (pc := 764) hC 0 dL_law_764 rfl rfl ?_
  refine g_iload_n (pc := 765) hC 3 dL_law_765 rfl rfl ?_
  refine g_iconst (pc := 766) hC dL_law_766 ?_
  refine g_iadd (pc := 767) hC dL_law_767 ?_
  refine hL.1 _ _ 768 _ _ _ _ dL_law_768 (by omega) ?_
  refine g_aload_n (pc := 769) hC 0 dL_law_769 rfl rfl ?_
  refine g_iload_n (pc := 770) hC 3 dL_law_770 rfl rfl ?_
  refine g_iconst (pc := 771) hC dL_law_771 ?_
  refine g_iadd (pc := 772) hC dL_law_772 ?_
  refine hL.1 _ _ 773 _ _ _ _ dL_law_773 (by omega) ?_
  refine lx_odds (pc := 774) hC (Nat.le_of_ble_eq_true rfl) ⟨by omega, by omega⟩ (Nat.le_of_ble_eq_true rfl) wm_L_91 dL_law_774 (xsv xs (i + 1)) (xsv xs (i + 2)) (xsv xs (i + 3)) (xsv xs (i + 4)) (xsv xs (i + 5)) (xsv_r _ _) (xsv_r _ _) (xsv_r _ _) (xsv_r _ _) (xsv_r _ _) h hs (fun w3 h4 => ?_)
  refine g_aload_n (pc := 777) hC 2 dL_law_777 rfl rfl ?_
  refine g_aload_n (pc := 778) hC 0 dL_law_778 rfl rfl ?_
  refine g_iload_n (pc := 779) hC 3 dL_law_779 rfl rfl ?_
  refine g_iconst (pc := 780) hC dL_law_780 ?_
  refine g_iadd (pc := 781) hC dL_law_781 ?_
  refine hL.1 _ _ 782 _ _ _ _ dL_law_782 (by omega) ?_
  refine g_aload_n (pc := 783) hC 0 dL_law_783 rfl rfl ?_
  refine g_iload_n (pc := 784) hC 3 dL_law_784 rfl rfl ?_
  refine g_iconst (pc := 785) hC dL_law_785 ?_
  refine g_iadd (pc := 786) hC dL_law_786 ?_
  refine hL.1 _ _ 787 _ _ _ _ dL_law_787 (by omega) ?_
  refine g_aload_n (pc := 788) hC 0 dL_law_788 rfl rfl ?_
  refine g_iload_n (pc := 789) hC 3 dL_law_789 rfl rfl ?_
  refine g_iconst (pc := 790) hC dL_law_790 ?_
  refine g_iadd (pc := 791) hC dL_law_791 ?_
  refine hL.1 _ _ 792 _ _ _ _ dL_law_792 (by omega) ?_
  refine g_aload_n (pc := 793) hC 0 dL_law_793 rfl rfl ?_
  refine g_iload_n (pc := 794) hC 3 dL_law_794 rfl rfl ?_
  refine g_iconst (pc := 795) hC dL_law_795 ?_
  refine g_iadd (pc := 796) hC dL_law_796 ?_
  refine hL.1 _ _ 797 _ _ _ _ dL_law_797 (by omega) ?_
  refine g_aload_n (pc := 798) hC 0 dL_law_798 rfl rfl ?_
  refine g_iload_n (pc := 799) hC 3 dL_law_799 rfl rfl ?_
  refine g_iconst (pc := 800) hC dL_law_800 ?_
  refine g_iadd (pc := 801) hC dL_law_801 ?_
  refine hL.1 _ _ 802 _ _ _ _ dL_law_802 (by omega) ?_
  refine lm_odds (pc := 803) hC (Nat.le_of_ble_eq_true rfl) ⟨by omega, by omega⟩ (Nat.le_of_ble_eq_true rfl) wm_L_95 dL_law_803 (xsv xs (i + 1)) (xsv xs (i + 2)) (xsv xs (i + 3)) (xsv xs (i + 4)) (xsv xs (i + 5)) (xsv_r _ _) (xsv_r _ _) (xsv_r _ _) (xsv_r _ _) (xsv_r _ _) h4 hs (fun w5 h6 => ?_)
  refine g_lcmp (pc := 806) hC dL_law_806 odds_rL odds_rL ?_
  refine g_st hC [.int (iI 0)] (by simp) ?_
  refine g_if_eq (pc := 807) hC 1086 dL_law_807 (by decide) (by omega) (fun _ => ?_) (fun hq => absurd rfl hq)
  exact kk _ _ _ ⟨s, im, tk, l, stp, N, h6, hs, by omega, by omega, by omega⟩
set_option maxHeartbeats 4000000 in
theorem law_19 {K : gK} {G : gG} {nm : String} {b L : Nat} {xs : Nat → Int32} {xx mm co so : Nat} {i : Int} {ws : va_W} (hC : gC G K (⟨RL, nm, "([I)Z"⟩ : MethodName) cL_law 4 100 600000 7302250) (hL : gL G b L xs) (hi : 0 ≤ i ∧ i + 6 ≤ (L : Int) ∧ (L : Int) ≤ 3072) (h : LB K xx mm co so i ws) (kk : ∀ co2 so2 ws2, LB K xx mm co2 so2 (i + 6) ws2 → G co2 so2 1086 [(0, .ref b), (1, .ref xx), (2, .ref mm), (3, .int (iI i))] [] ws2) : G co so 812 [(0, .ref b), (1, .ref xx), (2, .ref mm), (3, .int (iI i))] [] ws := by
  obtain ⟨s, im, tk, l, stp, N, h, hs, h1, h2, h3⟩ := h
  have hN := LW_N h
  have hg1 := hs.1.1
  refine g_aload_n (pc := 812) hC 1 dL_law_812 rfl rfl ?_
  refine g_aload_n (pc := 813) hC 0 dL_law_813 rfl rfl ?_
  refine g_iload_n (pc := 814) hC 3 dL_law_814 rfl rfl ?_
  refine g_iconst (pc := 815) hC dL_law_815 ?_
  refine g_iadd (pc := 816) hC dL_law_816 ?_
  refine hL.1 _ _ 817 _ _ _ _ dL_law_817 (by omega) ?_
  refine lx_mean (pc := 818) hC (Nat.le_of_ble_eq_true rfl) ⟨by omega, by omega⟩ (Nat.le_of_ble_eq_true rfl) wm_L_96 dL_law_818 (xsv xs (i + 1)) (xsv_r _ _) h hs ?_
  refine g_aload_n (pc := 821) hC 2 dL_law_821 rfl rfl ?_
  refine g_aload_n (pc := 822) hC 0 dL_law_822 rfl rfl ?_
  refine g_iload_n (pc := 823) hC 3 dL_law_823 rfl rfl ?_
  refine g_iconst (pc := 824) hC dL_law_824 ?_
  refine g_iadd (pc := 825) hC dL_law_825 ?_
  refine hL.1 _ _ 826 _ _ _ _ dL_law_826 (by omega) ?_
  refine lm_mean (pc := 827) hC (Nat.le_of_ble_eq_true rfl) ⟨by omega, by omega⟩ (Nat.le_of_ble_eq_true rfl) wm_L_100 dL_law_827 (xsv xs (i + 1)) (xsv_r _ _) h hs ?_
  refine g_lcmp (pc := 830) hC dL_law_830 (mean_rL hg1) (mean_rL hg1) ?_
  refine g_st hC [.int (iI 0)] (by simp) ?_
  refine g_if_eq (pc := 831) hC 1086 dL_law_831 (by decide) (by omega) (fun _ => ?_) (fun hq => absurd rfl hq)
  exact kk _ _ _ ⟨s, im, tk, l, stp, N, h, hs, by omega, by omega, by omega⟩
set_option maxHeartbeats 4000000 in
theorem law_20 {K : gK} {G : gG} {nm : String} {b L : Nat} {xs : Nat → Int32} {xx mm co so : Nat} {i : Int} {ws : va_W} (hC : gC G K (⟨RL, nm, "([I)Z"⟩ : MethodName) cL_law 4 100 600000 7302250) (hL : gL G b L xs) (hi : 0 ≤ i ∧ i + 6 ≤ (L : Int) ∧ (L : Int) ≤ 3072) (h : LB K xx mm co so i ws) (kk : ∀ co2 so2 ws2, LB K xx mm co2 so2 (i + 6) ws2 → G co2 so2 1086 [(0, .ref b), (1, .ref xx), (2, .ref mm), (3, .int (iI i))] [] ws2) : G co so 836 [(0, .ref b), (1, .ref xx), (2, .ref mm), (3, .int (iI i))] [] ws := by
  obtain ⟨s, im, tk, l, stp, N, h, hs, h1, h2, h3⟩ := h
  have hN := LW_N h
  have hg1 := hs.1.1
  refine g_aload_n (pc := 836) hC 1 dL_law_836 rfl rfl ?_
  refine g_aload_n (pc := 837) hC 0 dL_law_837 rfl rfl ?_
  refine g_iload_n (pc := 838) hC 3 dL_law_838 rfl rfl ?_
  refine g_iconst (pc := 839) hC dL_law_839 ?_
  refine g_iadd (pc := 840) hC dL_law_840 ?_
  refine hL.1 _ _ 841 _ _ _ _ dL_law_841 (by omega) ?_
  refine g_aload_n (pc := 842) hC 0 dL_law_842 rfl rfl ?_
  refine g_iload_n (pc := 843) hC 3 dL_law_843 rfl rfl ?_
  refine g_iconst (pc := 844) hC dL_law_844 ?_
  refine g_iadd (pc := 845) hC dL_law_845 ?_
  refine hL.1 _ _ 846 _ _ _ _ dL_law_846 (by omega) ?_
  refine lx_plan (pc := 847) hC (Nat.le_of_ble_eq_true rfl) ⟨by omega, by omega⟩ (Nat.le_of_ble_eq_true rfl) wm_L_101 dL_law_847 (xsv xs (i + 1)) (xsv xs (i + 2)) (xsv_r _ _) (xsv_r _ _) h hs (fun w3 h4 => ?_)
  refine g_aload_n (pc := 850) hC 2 dL_law_850 rfl rfl ?_
  refine g_aload_n (pc := 851) hC 0 dL_law_851 rfl rfl ?_
  refine g_iload_n (pc := 852) hC 3 dL_law_852 rfl rfl ?_
  refine g_iconst (pc := 853) hC dL_law_853 ?_
  refine g_iadd (pc := 854) hC dL_law_854 ?_
  refine hL.1 _ _ 855 _ _ _ _ dL_law_855 (by omega) ?_
  refine g_aload_n (pc := 856) hC 0 dL_law_856 rfl rfl ?_
  refine g_iload_n (pc := 857) hC 3 dL_law_857 rfl rfl ?_
  refine g_iconst (pc := 858) hC dL_law_858 ?_
  refine g_iadd (pc := 859) hC dL_law_859 ?_
  refine hL.1 _ _ 860 _ _ _ _ dL_law_860 (by omega) ?_
  refine lm_plan (pc := 861) hC (Nat.le_of_ble_eq_true rfl) ⟨by omega, by omega⟩ (Nat.le_of_ble_eq_true rfl) wm_L_104 dL_law_861 (xsv xs (i + 1)) (xsv xs (i + 2)) (xsv_r _ _) (xsv_r _ _) h4 hs (fun w5 h6 => ?_)
  refine g_icmp_same (pc := 864) hC 1086 dL_law_864 (by decide) ?_
  exact kk _ _ _ ⟨_, im, tk, l, stp, N, h6, ⟨gs_plan hs.1, hs.2.1, hs.2.2⟩, by omega, by omega, by omega⟩
set_option maxHeartbeats 4000000 in
theorem law_21 {K : gK} {G : gG} {nm : String} {b L : Nat} {xs : Nat → Int32} {xx mm co so : Nat} {i : Int} {ws : va_W} (hC : gC G K (⟨RL, nm, "([I)Z"⟩ : MethodName) cL_law 4 100 600000 7302250) (hL : gL G b L xs) (hi : 0 ≤ i ∧ i + 6 ≤ (L : Int) ∧ (L : Int) ≤ 3072) (h : LB K xx mm co so i ws) (kk : ∀ co2 so2 ws2, LB K xx mm co2 so2 (i + 6) ws2 → G co2 so2 1086 [(0, .ref b), (1, .ref xx), (2, .ref mm), (3, .int (iI i))] [] ws2) : G co so 869 [(0, .ref b), (1, .ref xx), (2, .ref mm), (3, .int (iI i))] [] ws := by
  obtain ⟨s, im, tk, l, stp, N, h, hs, h1, h2, h3⟩ := h
  have hN := LW_N h
  have hg1 := hs.1.1
  refine g_aload_n (pc := 869) hC 1 dL_law_869 rfl rfl ?_
  refine g_aload_n (pc := 870) hC 0 dL_law_870 rfl rfl ?_
  refine g_iload_n (pc := 871) hC 3 dL_law_871 rfl rfl ?_
  refine g_iconst (pc := 872) hC dL_law_872 ?_
  refine g_iadd (pc := 873) hC dL_law_873 ?_
  refine hL.1 _ _ 874 _ _ _ _ dL_law_874 (by omega) ?_
  refine lx_done (pc := 875) hC (Nat.le_of_ble_eq_true rfl) ⟨by omega, by omega⟩ (Nat.le_of_ble_eq_true rfl) wm_L_105 dL_law_875 (xsv xs (i + 1)) (xsv_r _ _) h hs (fun w3 h4 => ?_)
  refine g_aload_n (pc := 878) hC 2 dL_law_878 rfl rfl ?_
  refine g_aload_n (pc := 879) hC 0 dL_law_879 rfl rfl ?_
  refine g_iload_n (pc := 880) hC 3 dL_law_880 rfl rfl ?_
  refine g_iconst (pc := 881) hC dL_law_881 ?_
  refine g_iadd (pc := 882) hC dL_law_882 ?_
  refine hL.1 _ _ 883 _ _ _ _ dL_law_883 (by omega) ?_
  refine lm_done (pc := 884) hC (Nat.le_of_ble_eq_true rfl) ⟨by omega, by omega⟩ (Nat.le_of_ble_eq_true rfl) wm_L_108 dL_law_884 (xsv xs (i + 1)) (xsv_r _ _) h4 hs (fun w5 h6 => ?_)
  refine g_icmp_same (pc := 887) hC 1086 dL_law_887 (by decide) ?_
  exact kk _ _ _ ⟨s, im, tk, l, stp, N, h6, hs, by omega, by omega, by omega⟩
set_option maxHeartbeats 4000000 in
theorem law_22 {K : gK} {G : gG} {nm : String} {b L : Nat} {xs : Nat → Int32} {xx mm co so : Nat} {i : Int} {ws : va_W} (hC : gC G K (⟨RL, nm, "([I)Z"⟩ : MethodName) cL_law 4 100 600000 7302250) (hL : gL G b L xs) (hi : 0 ≤ i ∧ i + 6 ≤ (L : Int) ∧ (L : Int) ≤ 3072) (h : LB K xx mm co so i ws) (kk : ∀ co2 so2 ws2, LB K xx mm co2 so2 (i + 6) ws2 → G co2 so2 1086 [(0, .ref b), (1, .ref xx), (2, .ref mm), (3, .int (iI i))] [] ws2) : G co so 892 [(0, .ref b), (1, .ref xx), (2, .ref mm), (3, .int (iI i))] [] ws := by
  obtain ⟨s, im, tk, l, stp, N, h, hs, h1, h2, h3⟩ := h
  have hN := LW_N h
  have hg1 := hs.1.1
  refine g_aload_n (pc := 892) hC 1 dL_law_892 rfl rfl ?_
  refine g_aload_n (pc := 893) hC 0 dL_law_893 rfl rfl ?_
  refine g_iload_n (pc := 894) hC 3 dL_law_894 rfl rfl ?_
  refine g_iconst (pc := 895) hC dL_law_895 ?_
  refine g_iadd (pc := 896) hC dL_law_896 ?_
  refine hL.1 _ _ 897 _ _ _ _ dL_law_897 (by omega) ?_
  refine g_aload_n (pc := 898) hC 0 dL_law_898 rfl rfl ?_
  refine g_iload_n (pc := 899) hC 3 dL_law_899 rfl rfl ?_
  refine g_iconst (pc := 900) hC dL_law_900 ?_
  refine g_iadd (pc := 901) hC dL_law_901 ?_
  refine hL.1 _ _ 902 _ _ _ _ dL_law_902 (by omega) ?_
  refine lx_book (pc := 903) hC (Nat.le_of_ble_eq_true rfl) ⟨by omega, by omega⟩ (Nat.le_of_ble_eq_true rfl) wm_L_109 dL_law_903 (xsv xs (i + 1)) (xsv xs (i + 2)) (xsv_r _ _) (xsv_r _ _) h hs (fun w3 h4 => ?_)
  refine g_aload_n (pc := 906) hC 2 dL_law_906 rfl rfl ?_
  refine g_aload_n (pc := 907) hC 0 dL_law_907 rfl rfl ?_
  refine g_iload_n (pc := 908) hC 3 dL_law_908 rfl rfl ?_
  refine g_iconst (pc := 909) hC dL_law_909 ?_
  refine g_iadd (pc := 910) hC dL_law_910 ?_
  refine hL.1 _ _ 911 _ _ _ _ dL_law_911 (by omega) ?_
  refine g_aload_n (pc := 912) hC 0 dL_law_912 rfl rfl ?_
  refine g_iload_n (pc := 913) hC 3 dL_law_913 rfl rfl ?_
  refine g_iconst (pc := 914) hC dL_law_914 ?_
  refine g_iadd (pc := 915) hC dL_law_915 ?_
  refine hL.1 _ _ 916 _ _ _ _ dL_law_916 (by omega) ?_
  refine lm_book (pc := 917) hC (Nat.le_of_ble_eq_true rfl) ⟨by omega, by omega⟩ (Nat.le_of_ble_eq_true rfl) wm_L_112 dL_law_917 (xsv xs (i + 1)) (xsv xs (i + 2)) (xsv_r _ _) (xsv_r _ _) h4 hs (fun w5 h6 => ?_)
  refine g_icmp_same (pc := 920) hC 1086 dL_law_920 (by decide) ?_
  exact kk _ _ _ ⟨_, im, tk, l, stp, N, h6, ⟨gs_book hs.1, hs.2.1, hs.2.2⟩, by omega, by omega, by omega⟩
set_option maxHeartbeats 4000000 in
theorem law_23 {K : gK} {G : gG} {nm : String} {b L : Nat} {xs : Nat → Int32} {xx mm co so : Nat} {i : Int} {ws : va_W} (hC : gC G K (⟨RL, nm, "([I)Z"⟩ : MethodName) cL_law 4 100 600000 7302250) (hL : gL G b L xs) (hi : 0 ≤ i ∧ i + 6 ≤ (L : Int) ∧ (L : Int) ≤ 3072) (h : LB K xx mm co so i ws) (kk : ∀ co2 so2 ws2, LB K xx mm co2 so2 (i + 6) ws2 → G co2 so2 1086 [(0, .ref b), (1, .ref xx), (2, .ref mm), (3, .int (iI i))] [] ws2) : G co so 925 [(0, .ref b), (1, .ref xx), (2, .ref mm), (3, .int (iI i))] [] ws := by
  obtain ⟨s, im, tk, l, stp, N, h, hs, h1, h2, h3⟩ := h
  have hN := LW_N h
  have hg1 := hs.1.1
  refine g_aload_n (pc := 925) hC 1 dL_law_925 rfl rfl ?_
  refine lx_looked (pc := 926) hC (Nat.le_of_ble_eq_true rfl) ⟨by omega, by omega⟩ (Nat.le_of_ble_eq_true rfl) wm_L_113 dL_law_926  h hs ?_
  refine g_aload_n (pc := 929) hC 2 dL_law_929 rfl rfl ?_
  refine lm_looked (pc := 930) hC (Nat.le_of_ble_eq_true rfl) ⟨by omega, by omega⟩ (Nat.le_of_ble_eq_true rfl) wm_L_116 dL_law_930  h hs ?_
  refine g_icmp_same (pc := 933) hC 1086 dL_law_933 (by decide) ?_
  exact kk _ _ _ ⟨s, im, tk, l, stp, N, h, hs, by omega, by omega, by omega⟩
set_option maxHeartbeats 4000000 in
theorem law_24 {K : gK} {G : gG} {nm : String} {b L : Nat} {xs : Nat → Int32} {xx mm co so : Nat} {i : Int} {ws : va_W} (hC : gC G K (⟨RL, nm, "([I)Z"⟩ : MethodName) cL_law 4 100 600000 7302250) (hL : gL G b L xs) (hi : 0 ≤ i ∧ i + 6 ≤ (L : Int) ∧ (L : Int) ≤ 3072) (h : LB K xx mm co so i ws) (kk : ∀ co2 so2 ws2, LB K xx mm co2 so2 (i + 6) ws2 → G co2 so2 1086 [(0, .ref b), (1, .ref xx), (2, .ref mm), (3, .int (iI i))] [] ws2) : G co so 938 [(0, .ref b), (1, .ref xx), (2, .ref mm), (3, .int (iI i))] [] ws := by
  obtain ⟨s, im, tk, l, stp, N, h, hs, h1, h2, h3⟩ := h
  have hN := LW_N h
  have hg1 := hs.1.1
  refine g_aload_n (pc := 938) hC 1 dL_law_938 rfl rfl ?_
  refine g_aload_n (pc := 939) hC 0 dL_law_939 rfl rfl ?_
  refine g_iload_n (pc := 940) hC 3 dL_law_940 rfl rfl ?_
  refine g_iconst (pc := 941) hC dL_law_941 ?_
  refine g_iadd (pc := 942) hC dL_law_942 ?_
  refine hL.1 _ _ 943 _ _ _ _ dL_law_943 (by omega) ?_
  refine g_aload_n (pc := 944) hC 0 dL_law_944 rfl rfl ?_
  refine g_iload_n (pc := 945) hC 3 dL_law_945 rfl rfl ?_
  refine g_iconst (pc := 946) hC dL_law_946 ?_
  refine g_iadd (pc := 947) hC dL_law_947 ?_
  refine hL.1 _ _ 948 _ _ _ _ dL_law_948 (by omega) ?_
  refine g_aload_n (pc := 949) hC 0 dL_law_949 rfl rfl ?_
  refine g_iload_n (pc := 950) hC 3 dL_law_950 rfl rfl ?_
  refine g_iconst (pc := 951) hC dL_law_951 ?_
  refine g_iadd (pc := 952) hC dL_law_952 ?_
  refine hL.1 _ _ 953 _ _ _ _ dL_law_953 (by omega) ?_
  refine lx_act (pc := 954) hC (Nat.le_of_ble_eq_true rfl) ⟨by omega, by omega⟩ (Nat.le_of_ble_eq_true rfl) wm_L_117 dL_law_954 (xsv xs (i + 1)) (xsv xs (i + 2)) (xsv xs (i + 3)) (xsv_r _ _) (xsv_r _ _) (xsv_r _ _) h hs (fun w3 h4 => ?_)
  refine g_aload_n (pc := 957) hC 2 dL_law_957 rfl rfl ?_
  refine g_aload_n (pc := 958) hC 0 dL_law_958 rfl rfl ?_
  refine g_iload_n (pc := 959) hC 3 dL_law_959 rfl rfl ?_
  refine g_iconst (pc := 960) hC dL_law_960 ?_
  refine g_iadd (pc := 961) hC dL_law_961 ?_
  refine hL.1 _ _ 962 _ _ _ _ dL_law_962 (by omega) ?_
  refine g_aload_n (pc := 963) hC 0 dL_law_963 rfl rfl ?_
  refine g_iload_n (pc := 964) hC 3 dL_law_964 rfl rfl ?_
  refine g_iconst (pc := 965) hC dL_law_965 ?_
  refine g_iadd (pc := 966) hC dL_law_966 ?_
  refine hL.1 _ _ 967 _ _ _ _ dL_law_967 (by omega) ?_
  refine g_aload_n (pc := 968) hC 0 dL_law_968 rfl rfl ?_
  refine g_iload_n (pc := 969) hC 3 dL_law_969 rfl rfl ?_
  refine g_iconst (pc := 970) hC dL_law_970 ?_
  refine g_iadd (pc := 971) hC dL_law_971 ?_
  refine hL.1 _ _ 972 _ _ _ _ dL_law_972 (by omega) ?_
  refine lm_act (pc := 973) hC (Nat.le_of_ble_eq_true rfl) ⟨by omega, by omega⟩ (Nat.le_of_ble_eq_true rfl) wm_L_120 dL_law_973 (xsv xs (i + 1)) (xsv xs (i + 2)) (xsv xs (i + 3)) (xsv_r _ _) (xsv_r _ _) (xsv_r _ _) h4 hs (fun w5 h6 => ?_)
  refine g_icmp_same (pc := 976) hC 1086 dL_law_976 (by decide) ?_
  exact kk _ _ _ ⟨s, im, tk, _, stp, N, h6, hs, by omega, by omega, by omega⟩
set_option maxHeartbeats 4000000 in
theorem law_25 {K : gK} {G : gG} {nm : String} {b L : Nat} {xs : Nat → Int32} {xx mm co so : Nat} {i : Int} {ws : va_W} (hC : gC G K (⟨RL, nm, "([I)Z"⟩ : MethodName) cL_law 4 100 600000 7302250) (hL : gL G b L xs) (hi : 0 ≤ i ∧ i + 6 ≤ (L : Int) ∧ (L : Int) ≤ 3072) (h : LB K xx mm co so i ws) (kk : ∀ co2 so2 ws2, LB K xx mm co2 so2 (i + 6) ws2 → G co2 so2 1086 [(0, .ref b), (1, .ref xx), (2, .ref mm), (3, .int (iI i))] [] ws2) : G co so 981 [(0, .ref b), (1, .ref xx), (2, .ref mm), (3, .int (iI i))] [] ws := by
  obtain ⟨s, im, tk, l, stp, N, h, hs, h1, h2, h3⟩ := h
  have hN := LW_N h
  have hg1 := hs.1.1
  refine g_aload_n (pc := 981) hC 1 dL_law_981 rfl rfl ?_
  refine g_aload_n (pc := 982) hC 0 dL_law_982 rfl rfl ?_
  refine g_iload_n (pc := 983) hC 3 dL_law_983 rfl rfl ?_
  refine g_iconst (pc := 984) hC dL_law_984 ?_
  refine g_iadd (pc := 985) hC dL_law_985 ?_
  refine hL.1 _ _ 986 _ _ _ _ dL_law_986 (by omega) ?_
  refine lx_trace (pc := 987) hC (Nat.le_of_ble_eq_true rfl) ⟨by omega, by omega⟩ (Nat.le_of_ble_eq_true rfl) wm_L_121 dL_law_987 (xsv xs (i + 1)) (xsv_r _ _) h hs ?_
  refine g_aload_n (pc := 990) hC 2 dL_law_990 rfl rfl ?_
  refine g_aload_n (pc := 991) hC 0 dL_law_991 rfl rfl ?_
  refine g_iload_n (pc := 992) hC 3 dL_law_992 rfl rfl ?_
  refine g_iconst (pc := 993) hC dL_law_993 ?_
  refine g_iadd (pc := 994) hC dL_law_994 ?_
  refine hL.1 _ _ 995 _ _ _ _ dL_law_995 (by omega) ?_
  refine lm_trace (pc := 996) hC (Nat.le_of_ble_eq_true rfl) ⟨by omega, by omega⟩ (Nat.le_of_ble_eq_true rfl) wm_L_124 dL_law_996 (xsv xs (i + 1)) (xsv_r _ _) h hs ?_
  refine g_icmp_same (pc := 999) hC 1086 dL_law_999 (by decide) ?_
  exact kk _ _ _ ⟨s, im, tk, l, stp, N, h, hs, by omega, by omega, by omega⟩
set_option maxHeartbeats 4000000 in
theorem law_26 {K : gK} {G : gG} {nm : String} {b L : Nat} {xs : Nat → Int32} {xx mm co so : Nat} {i : Int} {ws : va_W} (hC : gC G K (⟨RL, nm, "([I)Z"⟩ : MethodName) cL_law 4 100 600000 7302250) (hL : gL G b L xs) (hi : 0 ≤ i ∧ i + 6 ≤ (L : Int) ∧ (L : Int) ≤ 3072) (h : LB K xx mm co so i ws) (kk : ∀ co2 so2 ws2, LB K xx mm co2 so2 (i + 6) ws2 → G co2 so2 1086 [(0, .ref b), (1, .ref xx), (2, .ref mm), (3, .int (iI i))] [] ws2) : G co so 1004 [(0, .ref b), (1, .ref xx), (2, .ref mm), (3, .int (iI i))] [] ws := by
  obtain ⟨s, im, tk, l, stp, N, h, hs, h1, h2, h3⟩ := h
  have hN := LW_N h
  have hg1 := hs.1.1
  refine g_aload_n (pc := 1004) hC 1 dL_law_1004 rfl rfl ?_
  refine g_aload_n (pc := 1005) hC 0 dL_law_1005 rfl rfl ?_
  refine g_iload_n (pc := 1006) hC 3 dL_law_1006 rfl rfl ?_
  refine g_iconst (pc := 1007) hC dL_law_1007 ?_
  refine g_iadd (pc := 1008) hC dL_law_1008 ?_
  refine hL.1 _ _ 1009 _ _ _ _ dL_law_1009 (by omega) ?_
  refine g_aload_n (pc := 1010) hC 0 dL_law_1010 rfl rfl ?_
  refine g_iload_n (pc := 1011) hC 3 dL_law_1011 rfl rfl ?_
  refine g_iconst (pc := 1012) hC dL_law_1012 ?_
  refine g_iadd (pc := 1013) hC dL_law_1013 ?_
  refine hL.1 _ _ 1014 _ _ _ _ dL_law_1014 (by omega) ?_
  refine lx_as (pc := 1015) hC (Nat.le_of_ble_eq_true rfl) ⟨by omega, by omega⟩ (Nat.le_of_ble_eq_true rfl) wm_L_125 dL_law_1015 (xsv xs (i + 1)) (xsv xs (i + 2)) (xsv_r _ _) (xsv_r _ _) h hs ?_
  refine g_aload_n (pc := 1018) hC 2 dL_law_1018 rfl rfl ?_
  refine g_aload_n (pc := 1019) hC 0 dL_law_1019 rfl rfl ?_
  refine g_iload_n (pc := 1020) hC 3 dL_law_1020 rfl rfl ?_
  refine g_iconst (pc := 1021) hC dL_law_1021 ?_
  refine g_iadd (pc := 1022) hC dL_law_1022 ?_
  refine hL.1 _ _ 1023 _ _ _ _ dL_law_1023 (by omega) ?_
  refine g_aload_n (pc := 1024) hC 0 dL_law_1024 rfl rfl ?_
  refine g_iload_n (pc := 1025) hC 3 dL_law_1025 rfl rfl ?_
  refine g_iconst (pc := 1026) hC dL_law_1026 ?_
  refine g_iadd (pc := 1027) hC dL_law_1027 ?_
  refine hL.1 _ _ 1028 _ _ _ _ dL_law_1028 (by omega) ?_
  refine lm_as (pc := 1029) hC (Nat.le_of_ble_eq_true rfl) ⟨by omega, by omega⟩ (Nat.le_of_ble_eq_true rfl) wm_L_128 dL_law_1029 (xsv xs (i + 1)) (xsv xs (i + 2)) (xsv_r _ _) (xsv_r _ _) h hs ?_
  refine g_icmp_same (pc := 1032) hC 1086 dL_law_1032 (by decide) ?_
  exact kk _ _ _ ⟨s, im, tk, l, stp, N, h, hs, by omega, by omega, by omega⟩
set_option maxHeartbeats 4000000 in
theorem law_27 {K : gK} {G : gG} {nm : String} {b L : Nat} {xs : Nat → Int32} {xx mm co so : Nat} {i : Int} {ws : va_W} (hC : gC G K (⟨RL, nm, "([I)Z"⟩ : MethodName) cL_law 4 100 600000 7302250) (hL : gL G b L xs) (hi : 0 ≤ i ∧ i + 6 ≤ (L : Int) ∧ (L : Int) ≤ 3072) (h : LB K xx mm co so i ws) (kk : ∀ co2 so2 ws2, LB K xx mm co2 so2 (i + 6) ws2 → G co2 so2 1086 [(0, .ref b), (1, .ref xx), (2, .ref mm), (3, .int (iI i))] [] ws2) : G co so 1037 [(0, .ref b), (1, .ref xx), (2, .ref mm), (3, .int (iI i))] [] ws := by
  obtain ⟨s, im, tk, l, stp, N, h, hs, h1, h2, h3⟩ := h
  have hN := LW_N h
  have hg1 := hs.1.1
  refine g_aload_n (pc := 1037) hC 1 dL_law_1037 rfl rfl ?_
  refine lx_image (pc := 1038) hC (Nat.le_of_ble_eq_true rfl) ⟨by omega, by omega⟩ (Nat.le_of_ble_eq_true rfl) wm_L_129 dL_law_1038  h hs (fun w3 h4 => ?_)
  refine g_aload_n (pc := 1041) hC 2 dL_law_1041 rfl rfl ?_
  refine lm_image (pc := 1042) hC (Nat.le_of_ble_eq_true rfl) ⟨by omega, by omega⟩ (Nat.le_of_ble_eq_true rfl) wm_L_132 dL_law_1042  h4 hs (fun w5 h6 => ?_)
  refine g_icmp_same (pc := 1045) hC 1086 dL_law_1045 (by decide) ?_
  exact kk _ _ _ ⟨s, s, 1, l, stp, N, h6, ⟨hs.1, Or.inr rfl, fun _ => hs.1⟩, by omega, by omega, by omega⟩
set_option maxHeartbeats 4000000 in
theorem law_28 {K : gK} {G : gG} {nm : String} {b L : Nat} {xs : Nat → Int32} {xx mm co so : Nat} {i : Int} {ws : va_W} (hC : gC G K (⟨RL, nm, "([I)Z"⟩ : MethodName) cL_law 4 100 600000 7302250) (hL : gL G b L xs) (hi : 0 ≤ i ∧ i + 6 ≤ (L : Int) ∧ (L : Int) ≤ 3072) (h : LB K xx mm co so i ws) (kk : ∀ co2 so2 ws2, LB K xx mm co2 so2 (i + 6) ws2 → G co2 so2 1086 [(0, .ref b), (1, .ref xx), (2, .ref mm), (3, .int (iI i))] [] ws2) : G co so 1050 [(0, .ref b), (1, .ref xx), (2, .ref mm), (3, .int (iI i))] [] ws := by
  obtain ⟨s, im, tk, l, stp, N, h, hs, h1, h2, h3⟩ := h
  have hN := LW_N h
  have hg1 := hs.1.1
  rcases hs.2.1 with ht | ht
  ·
    refine g_aload_n (pc := 1050) hC 1 dL_law_1050 rfl rfl ?_
    refine lx_undo0 (pc := 1051) hC (Nat.le_of_ble_eq_true rfl) ⟨by omega, by omega⟩ (Nat.le_of_ble_eq_true rfl) wm_L_133 dL_law_1051  h ht ?_
    refine g_aload_n (pc := 1054) hC 2 dL_law_1054 rfl rfl ?_
    refine lm_undo0 (pc := 1055) hC (Nat.le_of_ble_eq_true rfl) ⟨by omega, by omega⟩ (Nat.le_of_ble_eq_true rfl) wm_L_136 dL_law_1055  h hs ht (fun w5 h6 => ?_)
    refine g_icmp_same (pc := 1058) hC 1086 dL_law_1058 (by decide) ?_
    exact kk _ _ _ ⟨s, im, tk, l, stp, N, h6, hs, by omega, by omega, by omega⟩
  ·
    refine g_aload_n (pc := 1050) hC 1 dL_law_1050 rfl rfl ?_
    refine lx_undo1 (pc := 1051) hC (Nat.le_of_ble_eq_true rfl) ⟨by omega, by omega⟩ (Nat.le_of_ble_eq_true rfl) wm_L_133 dL_law_1051  h hs (by omega) ht (fun w3 h4 => ?_)
    refine g_aload_n (pc := 1054) hC 2 dL_law_1054 rfl rfl ?_
    refine lm_undo1 (pc := 1055) hC (Nat.le_of_ble_eq_true rfl) ⟨by omega, by omega⟩ (Nat.le_of_ble_eq_true rfl) wm_L_136 dL_law_1055  h4 hs ht (fun w5 h6 => ?_)
    refine g_icmp_same (pc := 1058) hC 1086 dL_law_1058 (by decide) ?_
    exact kk _ _ _ ⟨im, im, tk, l, (stp + 1), N, h6, ⟨hs.2.2 ht, hs.2.1, hs.2.2⟩, by omega, by omega, by omega⟩
set_option maxHeartbeats 4000000 in
theorem law_29 {K : gK} {G : gG} {nm : String} {b L : Nat} {xs : Nat → Int32} {xx mm co so : Nat} {i : Int} {ws : va_W} (hC : gC G K (⟨RL, nm, "([I)Z"⟩ : MethodName) cL_law 4 100 600000 7302250) (hL : gL G b L xs) (hi : 0 ≤ i ∧ i + 6 ≤ (L : Int) ∧ (L : Int) ≤ 3072) (h : LB K xx mm co so i ws) (kk : ∀ co2 so2 ws2, LB K xx mm co2 so2 (i + 6) ws2 → G co2 so2 1086 [(0, .ref b), (1, .ref xx), (2, .ref mm), (3, .int (iI i))] [] ws2) : G co so 1063 [(0, .ref b), (1, .ref xx), (2, .ref mm), (3, .int (iI i))] [] ws := by
  obtain ⟨s, im, tk, l, stp, N, h, hs, h1, h2, h3⟩ := h
  have hN := LW_N h
  have hg1 := hs.1.1
  refine g_aload_n (pc := 1063) hC 1 dL_law_1063 rfl rfl ?_
  refine g_aload_n (pc := 1064) hC 0 dL_law_1064 rfl rfl ?_
  refine g_iload_n (pc := 1065) hC 3 dL_law_1065 rfl rfl ?_
  refine g_iconst (pc := 1066) hC dL_law_1066 ?_
  refine g_iadd (pc := 1067) hC dL_law_1067 ?_
  refine hL.1 _ _ 1068 _ _ _ _ dL_law_1068 (by omega) ?_
  refine lx_count (pc := 1069) hC (Nat.le_of_ble_eq_true rfl) ⟨by omega, by omega⟩ (Nat.le_of_ble_eq_true rfl) wm_L_137 dL_law_1069 (xsv xs (i + 1)) (xsv_r _ _) h hs ?_
  refine g_aload_n (pc := 1072) hC 2 dL_law_1072 rfl rfl ?_
  refine g_aload_n (pc := 1073) hC 0 dL_law_1073 rfl rfl ?_
  refine g_iload_n (pc := 1074) hC 3 dL_law_1074 rfl rfl ?_
  refine g_iconst (pc := 1075) hC dL_law_1075 ?_
  refine g_iadd (pc := 1076) hC dL_law_1076 ?_
  refine hL.1 _ _ 1077 _ _ _ _ dL_law_1077 (by omega) ?_
  refine lm_count (pc := 1078) hC (Nat.le_of_ble_eq_true rfl) ⟨by omega, by omega⟩ (Nat.le_of_ble_eq_true rfl) wm_L_140 dL_law_1078 (xsv xs (i + 1)) (xsv_r _ _) h hs ?_
  refine g_icmp_same (pc := 1081) hC 1086 dL_law_1081 (by decide) ?_
  exact kk _ _ _ ⟨s, im, tk, l, stp, N, h, hs, by omega, by omega, by omega⟩
theorem start_R {ad : Nat → Nat} : cx_R ad (upF (fun _ _ => 0) 72 (upI (fun _ => 0) 25 (-1))) (upJ (fun _ => 0) 17 1) .null 0 (upI (fun _ => 0) 25 (-1)) (upI (fun _ => 0) 25 (-1)) 0 [] 1 ∧ mo_R (upF (fun _ _ => 0) 72 (upI (fun _ => 0) 25 (-1))) (upJ (fun _ => 0) 17 1) (upI (fun _ => 0) 25 (-1)) (upI (fun _ => 0) 25 (-1)) 0 [] := by
  have e : ∀ j, j ≠ 25 → upI (fun _ => (0 : Int)) 25 (-1) j = 0 := fun j q => upI_ne (f := fun _ => 0) q
  have z0 : bAnd (bShr 0 0) 1 = 0 ∧ bAnd (bShr 0 1) 1 = 0 ∧ bAnd (bShr 0 2) 1 = 0 ∧ bAnd (bShr 0 3) 1 = 0 ∧ bAnd (bShr 0 4) 1 = 0 ∧ bAnd (bShr 0 5) 1 = 0 := by decide +kernel
  have zz : ∀ p : Int, 0 ≤ p → p < 6 → bAnd (bShr 0 p) 1 = 0 := by
    intro p h1 h2
    have hc : p = 0 ∨ p = 1 ∨ p = 2 ∨ p = 3 ∨ p = 4 ∨ p = 5 := by omega
    rcases hc with rfl | rfl | rfl | rfl | rfl | rfl
    · exact z0.1
    · exact z0.2.1
    · exact z0.2.2.1
    · exact z0.2.2.2.1
    · exact z0.2.2.2.2.1
    · exact z0.2.2.2.2.2
  have zr : ∀ p : Int, 0 ≤ (0 : Int) ∧ (0 : Int) ≤ 9 := fun _ => by omega
  have hcs : cs_R (upI (fun _ => 0) 25 (-1)) (fun _ => 0) (fun _ => 0) (fun _ => 0) (fun _ => 0) (fun _ => 0) (fun _ => 0) 0 0 0 := by
    refine ⟨⟨(e 19 (by omega)).symm, (e 0 (by omega)).symm, by omega⟩, fun p h1 h2 => ?_, fun p h1 h2 => zz p (by rw [e 19 (by omega)] at h1; omega) h2, fun p h1 h2 => ⟨zr p, zr p, zr p⟩, fun j h1 h2 => ?_⟩
    · rw [e 19 (by omega)] at h2; omega
    · show (0 : Int) = _
      split
      · exact (e _ (by omega)).symm
      · rfl
  have hcw : cw_R (upI (fun _ => 0) 25 (-1)) (fun _ => 0) (fun _ => 0) (fun _ => 0) (fun _ => 0) (fun _ => 0) (fun _ => 0) 0 0 0 (fun _ => 0) 0 (fun _ => 0) (fun _ => 0) (fun _ => 0) 0 (fun _ => 0) (fun _ => 0) 0 (fun _ => 0) (fun _ => 0) 0 0 :=
    ⟨hcs, ⟨(e 24 (by omega)).symm, fun q h1 h2 => by rw [e 24 (by omega)] at h2; omega⟩, ⟨(e 21 (by omega)).symm, fun q h1 h2 => by rw [e 21 (by omega)] at h2; omega⟩, ⟨(e 22 (by omega)).symm, fun q h1 h2 => by rw [e 22 (by omega)] at h2; omega⟩, ⟨(e 23 (by omega)).symm, fun q h1 h2 => by rw [e 23 (by omega)] at h2; omega⟩, (e 20 (by omega)).symm⟩
  refine ⟨⟨hcw, ⟨rfl, fun q => by omega⟩, ⟨fun p _ _ => zr p, fun p _ _ => zr p⟩, fun j _ => rfl, Or.inl rfl, ⟨⟨rfl, by show (0 : Int) ≤ 8; omega⟩, fun j hj => absurd hj (Nat.not_lt_zero _)⟩, rfl, ⟨by omega, Or.inl ⟨e 20 (by omega), rfl, Or.inl rfl⟩⟩, fun k h1 h2 => by rw [e 20 (by omega)] at h2; omega⟩, ⟨rfl, ⟨rfl, fun q => by omega⟩, fun j _ => rfl, ⟨⟨rfl, by show (0 : Int) ≤ 8; omega⟩, fun j hj => absurd hj (Nat.not_lt_zero _)⟩, rfl, Or.inl rfl⟩⟩
theorem law_loop {K : gK} {G : gG} {nm : String} {b L : Nat} {xs : Nat → Int32} {xx mm : Nat} (hC : gC G K (⟨RL, nm, "([I)Z"⟩ : MethodName) cL_law 4 100 600000 7302250) (hL : gL G b L xs) (hL9 : (L : Int) ≤ 3072) : ∀ (n : Nat) (i : Int) (co so : Nat) (ws : va_W), 0 ≤ i → i ≤ 3078 → LB K xx mm co so i ws → 3100 - i < (n : Int) → G co so 18 [(0, .ref b), (1, .ref xx), (2, .ref mm), (3, .int (iI i))] [] ws
  | 0, i, co, so, ws, h0, h1, h, hn => by exfalso; omega
  | n + 1, i, co, so, ws, h0, h1, h, hn => by
    have ih : 0 ≤ i → i + 6 ≤ (L : Int) → ∀ co2 so2 ws2, LB K xx mm co2 so2 (i + 6) ws2 → G co2 so2 1086 [(0, .ref b), (1, .ref xx), (2, .ref mm), (3, .int (iI i))] [] ws2 := by
      intro _ h2 co2 so2 ws2 hb
      refine g_iinc (pc := 1086) hC 3 _ dL_law_1086 rfl (by decide) rfl ?_
      refine g_lv hC [1, 2, 3, 0] [(0, _), (1, _), (2, _), (3, _)] rfl ?_
      refine g_goto (pc := 1089) hC 18 dL_law_1089 (by decide) ?_
      exact law_loop hC hL hL9 n (i + 6) co2 so2 ws2 (by omega) (by omega) hb (by omega)
    refine g_iload_n (pc := 18) hC 3 dL_law_18 rfl rfl ?_
    refine g_aload_n (pc := 19) hC 0 dL_law_19 rfl rfl ?_
    refine hL.2.1 _ _ 20 _ _ _ dL_law_20 ?_
    refine g_bipush (pc := 21) hC (6) dL_law_21 (by decide) ?_
    refine g_isub (pc := 23) hC dL_law_23 ?_
    refine g_icmp_gt (pc := 24) hC 1092 dL_law_24 (by decide) (by omega) (by omega) (fun c24 => ?_) (fun c24 => ?_)
    · refine g_iconst (pc := 1092) hC dL_law_1092 ?_
      obtain ⟨s, im, tk, l, stp, N, h, hs, h2, h3, h4⟩ := h
      have hN := LW_N h
      exact hL.2.2 _ _ 1093 _ _ dL_law_1093 (by omega) (by omega)
    · have h2 : i + 6 ≤ (L : Int) := by omega
      refine g_aload_n (pc := 27) hC 0 dL_law_27 rfl rfl ?_
      refine g_iload_n (pc := 28) hC 3 dL_law_28 rfl rfl ?_
      refine hL.1 _ _ 29 _ _ _ _ dL_law_29 (by omega) ?_
      refine g_bipush (pc := 30) hC (31) dL_law_30 (by decide) ?_
      refine g_iand (pc := 32) hC dL_law_32 ?_
      refine g_name hC (fun v e_v => ?_)
      have r_v : rI v := by rw [e_v]; exact bAnd_rng _ _
      by_cases k0 : v = 0
      · refine g_tswIn (pc := 33) hC (0) (off := 135) 168 dL_law_33 k0 (by omega) (by decide) (by decide) ?_
        exact law_0 hC hL ⟨h0, h2, hL9⟩ h (ih h0 h2)
      by_cases k1 : v = 1
      · refine g_tswIn (pc := 33) hC (1) (off := 158) 191 dL_law_33 k1 (by omega) (by decide) (by decide) ?_
        exact law_1 hC hL ⟨h0, h2, hL9⟩ h (ih h0 h2)
      by_cases k2 : v = 2
      · refine g_tswIn (pc := 33) hC (2) (off := 171) 204 dL_law_33 k2 (by omega) (by decide) (by decide) ?_
        exact law_2 hC hL ⟨h0, h2, hL9⟩ h (ih h0 h2)
      by_cases k3 : v = 3
      · refine g_tswIn (pc := 33) hC (3) (off := 224) 257 dL_law_33 k3 (by omega) (by decide) (by decide) ?_
        exact law_3 hC hL ⟨h0, h2, hL9⟩ h (ih h0 h2)
      by_cases k4 : v = 4
      · refine g_tswIn (pc := 33) hC (4) (off := 257) 290 dL_law_33 k4 (by omega) (by decide) (by decide) ?_
        exact law_4 hC hL ⟨h0, h2, hL9⟩ h (ih h0 h2)
      by_cases k5 : v = 5
      · refine g_tswIn (pc := 33) hC (5) (off := 290) 323 dL_law_33 k5 (by omega) (by decide) (by decide) ?_
        exact law_5 hC hL ⟨h0, h2, hL9⟩ h (ih h0 h2)
      by_cases k6 : v = 6
      · refine g_tswIn (pc := 33) hC (6) (off := 333) 366 dL_law_33 k6 (by omega) (by decide) (by decide) ?_
        exact law_6 hC hL ⟨h0, h2, hL9⟩ h (ih h0 h2)
      by_cases k7 : v = 7
      · refine g_tswIn (pc := 33) hC (7) (off := 376) 409 dL_law_33 k7 (by omega) (by decide) (by decide) ?_
        exact law_7 hC hL ⟨h0, h2, hL9⟩ h (ih h0 h2)
      by_cases k8 : v = 8
      · refine g_tswIn (pc := 33) hC (8) (off := 425) 458 dL_law_33 k8 (by omega) (by decide) (by decide) ?_
        exact law_8 hC hL ⟨h0, h2, hL9⟩ h (ih h0 h2)
      by_cases k9 : v = 9
      · refine g_tswIn (pc := 33) hC (9) (off := 448) 481 dL_law_33 k9 (by omega) (by decide) (by decide) ?_
        exact law_9 hC hL ⟨h0, h2, hL9⟩ h (ih h0 h2)
      by_cases k10 : v = 10
      · refine g_tswIn (pc := 33) hC (10) (off := 471) 504 dL_law_33 k10 (by omega) (by decide) (by decide) ?_
        exact law_10 hC hL ⟨h0, h2, hL9⟩ h (ih h0 h2)
      by_cases k11 : v = 11
      · refine g_tswIn (pc := 33) hC (11) (off := 504) 537 dL_law_33 k11 (by omega) (by decide) (by decide) ?_
        exact law_11 hC hL ⟨h0, h2, hL9⟩ h (ih h0 h2)
      by_cases k12 : v = 12
      · refine g_tswIn (pc := 33) hC (12) (off := 537) 570 dL_law_33 k12 (by omega) (by decide) (by decide) ?_
        exact law_12 hC hL ⟨h0, h2, hL9⟩ h (ih h0 h2)
      by_cases k13 : v = 13
      · refine g_tswIn (pc := 33) hC (13) (off := 570) 603 dL_law_33 k13 (by omega) (by decide) (by decide) ?_
        exact law_13 hC hL ⟨h0, h2, hL9⟩ h (ih h0 h2)
      by_cases k14 : v = 14
      · refine g_tswIn (pc := 33) hC (14) (off := 593) 626 dL_law_33 k14 (by omega) (by decide) (by decide) ?_
        exact law_14 hC hL ⟨h0, h2, hL9⟩ h (ih h0 h2)
      by_cases k15 : v = 15
      · refine g_tswIn (pc := 33) hC (15) (off := 636) 669 dL_law_33 k15 (by omega) (by decide) (by decide) ?_
        exact law_15 hC hL ⟨h0, h2, hL9⟩ h (ih h0 h2)
      by_cases k16 : v = 16
      · refine g_tswIn (pc := 33) hC (16) (off := 659) 692 dL_law_33 k16 (by omega) (by decide) (by decide) ?_
        exact law_16 hC hL ⟨h0, h2, hL9⟩ h (ih h0 h2)
      by_cases k17 : v = 17
      · refine g_tswIn (pc := 33) hC (17) (off := 682) 715 dL_law_33 k17 (by omega) (by decide) (by decide) ?_
        exact law_17 hC hL ⟨h0, h2, hL9⟩ h (ih h0 h2)
      by_cases k18 : v = 18
      · refine g_tswIn (pc := 33) hC (18) (off := 715) 748 dL_law_33 k18 (by omega) (by decide) (by decide) ?_
        exact law_18 hC hL ⟨h0, h2, hL9⟩ h (ih h0 h2)
      by_cases k19 : v = 19
      · refine g_tswIn (pc := 33) hC (19) (off := 779) 812 dL_law_33 k19 (by omega) (by decide) (by decide) ?_
        exact law_19 hC hL ⟨h0, h2, hL9⟩ h (ih h0 h2)
      by_cases k20 : v = 20
      · refine g_tswIn (pc := 33) hC (20) (off := 803) 836 dL_law_33 k20 (by omega) (by decide) (by decide) ?_
        exact law_20 hC hL ⟨h0, h2, hL9⟩ h (ih h0 h2)
      by_cases k21 : v = 21
      · refine g_tswIn (pc := 33) hC (21) (off := 836) 869 dL_law_33 k21 (by omega) (by decide) (by decide) ?_
        exact law_21 hC hL ⟨h0, h2, hL9⟩ h (ih h0 h2)
      by_cases k22 : v = 22
      · refine g_tswIn (pc := 33) hC (22) (off := 859) 892 dL_law_33 k22 (by omega) (by decide) (by decide) ?_
        exact law_22 hC hL ⟨h0, h2, hL9⟩ h (ih h0 h2)
      by_cases k23 : v = 23
      · refine g_tswIn (pc := 33) hC (23) (off := 892) 925 dL_law_33 k23 (by omega) (by decide) (by decide) ?_
        exact law_23 hC hL ⟨h0, h2, hL9⟩ h (ih h0 h2)
      by_cases k24 : v = 24
      · refine g_tswIn (pc := 33) hC (24) (off := 905) 938 dL_law_33 k24 (by omega) (by decide) (by decide) ?_
        exact law_24 hC hL ⟨h0, h2, hL9⟩ h (ih h0 h2)
      by_cases k25 : v = 25
      · refine g_tswIn (pc := 33) hC (25) (off := 948) 981 dL_law_33 k25 (by omega) (by decide) (by decide) ?_
        exact law_25 hC hL ⟨h0, h2, hL9⟩ h (ih h0 h2)
      by_cases k26 : v = 26
      · refine g_tswIn (pc := 33) hC (26) (off := 971) 1004 dL_law_33 k26 (by omega) (by decide) (by decide) ?_
        exact law_26 hC hL ⟨h0, h2, hL9⟩ h (ih h0 h2)
      by_cases k27 : v = 27
      · refine g_tswIn (pc := 33) hC (27) (off := 1004) 1037 dL_law_33 k27 (by omega) (by decide) (by decide) ?_
        exact law_27 hC hL ⟨h0, h2, hL9⟩ h (ih h0 h2)
      by_cases k28 : v = 28
      · refine g_tswIn (pc := 33) hC (28) (off := 1017) 1050 dL_law_33 k28 (by omega) (by decide) (by decide) ?_
        exact law_28 hC hL ⟨h0, h2, hL9⟩ h (ih h0 h2)
      by_cases k29 : v = 29
      · refine g_tswIn (pc := 33) hC (29) (off := 1030) 1063 dL_law_33 k29 (by omega) (by decide) (by decide) ?_
        exact law_29 hC hL ⟨h0, h2, hL9⟩ h (ih h0 h2)
      refine g_tswOut (pc := 33) hC 1086 dL_law_33 r_v (by omega) (by decide) ?_
      obtain ⟨s, im, tk, l, stp, N, h, hs, h3, h4, h5⟩ := h
      exact ih h0 h2 co so ws ⟨s, im, tk, l, stp, N, h, hs, by omega, by omega, by omega⟩
