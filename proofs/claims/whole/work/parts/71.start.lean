theorem rZ0 : rZ (fun _ => 0) := fun _ => Or.inl rfl
theorem up0_r : ∀ j, rI (upI (fun _ => 0) 25 (-1) j) := by
  intro j
  by_cases h : j = 25
  · rw [h, upI_at]; omega
  · rw [upI_ne h]; show rI 0; omega
set_option maxHeartbeats 16000000 in
set_option maxRecDepth 100000 in
theorem law_body {K : gK} {G : gG} {nm : String} {b L : Nat} {xs : Nat → Int32} (hC : gC G K (⟨RL, nm, "([I)Z"⟩ : MethodName) cL_law 4 100 600000 7302250) (hL : gL G b L xs) (hL9 : (L : Int) ≤ 3072) : G 0 0 0 [(0, .ref b)] [] [] := by
  refine g_new (pc := 0) hC (ty := tyX9) (fs := [.null, .null, .int (iI 0), .null, .null, .null, .null]) (fun a9 => [cO a9 9 _]) wc_L_7 in_X9 tyX9_ok wi_X9 wz_X9 rfl (by decide +kernel) (by omega) dL_law_0 (fun _ => rfl) (fun a1 => ?_)
  refine g_dup (pc := 3) hC dL_law_3 rfl ?_
  refine g_callI (pc := 4) hC [0] (k_X9_init _ ) cl_X9_init wm_L_9 dL_law_4 rfl rfl (by decide) (by decide) (by omega) (Nat.le_of_ble_eq_true rfl) rfl (fun v9 w9 hq9 => ?_)
  obtain ⟨nA2, hA3, kA4, kA5, kA6, kA7, kA8, kA9, poA10, paA11, srA12, srA13, srA14, srA15, prA16, prA17, prA18, prA19, brA20, brA21, brA22, brA23, nZ24, hZ25, kZ26, kZ27, kZ28, kZ29, kZ30, kZ31, poZ32, paZ33, srZ34, srZ35, srZ36, srZ37, prZ38, prZ39, prZ40, prZ41, brZ42, brZ43, brZ44, brZ45, hh46, q47, q48, q49, t50, h51, j52, j53, j54, j55, j56, j57, t58, t59, g60, ga61, o62, u63, o64, u65, o66, u67, o68, u69, o70, u71, hm72, rfl, rfl, hm0_4, hm1_4, hm2_4, hm3_4, hm4_4⟩ := hq9
  refine g_ws hC (cO a1 9 [.ref nA2, .ref nZ24, .int (iI 0), .ref hh46, .ref q47, .ref t50, .ref g60] :: cO nA2 8 [.ref hA3, .ref poA10, .ref srA12, .ref prA16, .ref brA20, .int (iI 0)] :: cO hA3 5 [.ref kA4, .ref kA5, .ref kA6, .ref kA7, .ref kA8, .ref kA9, .int (iI 0), .int (iI 0), .int (iI 0)] :: cA K kA4 6 (fun _ => 0) :: cA K kA5 6 (fun _ => 0) :: cA K kA6 6 (fun _ => 0) :: cA K kA7 6 (fun _ => 0) :: cA K kA8 24 (fun _ => 0) :: cA K kA9 6 (fun _ => 0) :: cO poA10 6 [.ref paA11, .int (iI 0)] :: cA K paA11 100 (fun _ => 0) :: cO srA12 4 [.ref srA13, .ref srA14, .ref srA15, .int (iI 0)] :: cA K srA13 8 (fun _ => 0) :: cA K srA14 8 (fun _ => 0) :: cA K srA15 8 (fun _ => 0) :: cO prA16 4 [.ref prA17, .ref prA18, .ref prA19, .int (iI 0)] :: cA K prA17 8 (fun _ => 0) :: cA K prA18 8 (fun _ => 0) :: cA K prA19 8 (fun _ => 0) :: cO brA20 4 [.ref brA21, .ref brA22, .ref brA23, .int (iI 0)] :: cA K brA21 8 (fun _ => 0) :: cA K brA22 8 (fun _ => 0) :: cA K brA23 8 (fun _ => 0) :: cO nZ24 8 [.ref hZ25, .ref poZ32, .ref srZ34, .ref prZ38, .ref brZ42, .int (iI 0)] :: cO hZ25 5 [.ref kZ26, .ref kZ27, .ref kZ28, .ref kZ29, .ref kZ30, .ref kZ31, .int (iI 0), .int (iI 0), .int (iI 0)] :: cA K kZ26 6 (fun _ => 0) :: cA K kZ27 6 (fun _ => 0) :: cA K kZ28 6 (fun _ => 0) :: cA K kZ29 6 (fun _ => 0) :: cA K kZ30 24 (fun _ => 0) :: cA K kZ31 6 (fun _ => 0) :: cO poZ32 6 [.ref paZ33, .int (iI 0)] :: cA K paZ33 100 (fun _ => 0) :: cO srZ34 4 [.ref srZ35, .ref srZ36, .ref srZ37, .int (iI 0)] :: cA K srZ35 8 (fun _ => 0) :: cA K srZ36 8 (fun _ => 0) :: cA K srZ37 8 (fun _ => 0) :: cO prZ38 4 [.ref prZ39, .ref prZ40, .ref prZ41, .int (iI 0)] :: cA K prZ39 8 (fun _ => 0) :: cA K prZ40 8 (fun _ => 0) :: cA K prZ41 8 (fun _ => 0) :: cO brZ42 4 [.ref brZ43, .ref brZ44, .ref brZ45, .int (iI 0)] :: cA K brZ43 8 (fun _ => 0) :: cA K brZ44 8 (fun _ => 0) :: cA K brZ45 8 (fun _ => 0) :: cH K hh46 5 hm72 :: cO q47 2 [.null, .ref q48, .ref q49, .int (iI 1)] :: cA K q48 6 (fun _ => 0) :: cA K q49 0 (fun _ => 0) :: cO t50 7 [.ref h51, .ref q47, .int (iI 0), .ref t58, .int (iI 0), .ref t59] :: cO h51 5 [.ref j52, .ref j53, .ref j54, .ref j55, .ref j56, .ref j57, .int (iI 0), .int (iI 0), .int (iI 0)] :: cA K j52 6 (fun _ => 0) :: cA K j53 6 (fun _ => 0) :: cA K j54 6 (fun _ => 0) :: cA K j55 6 (fun _ => 0) :: cA K j56 24 (fun _ => 0) :: cA K j57 6 (fun _ => 0) :: cA K t58 6 (fun _ => 0) :: cA K t59 6 (fun _ => 0) :: cO g60 0 [.ref ga61, .int (iI 0), .int (iI 0), .int (iI 0), .int (iI 0)] :: cA K ga61 20 (fun _ => 0) :: cO o62 1 [.ref u63, .int (iI 0), .int (iI 0)] :: cA K u63 100 (fun _ => 0) :: cO o64 1 [.ref u65, .int (iI 0), .int (iI 0)] :: cA K u65 100 (fun _ => 0) :: cO o66 1 [.ref u67, .int (iI 0), .int (iI 0)] :: cA K u67 100 (fun _ => 0) :: cO o68 1 [.ref u69, .int (iI 0), .int (iI 0)] :: cA K u69 100 (fun _ => 0) :: cO o70 1 [.ref u71, .int (iI 0), .int (iI 0)] :: cA K u71 100 (fun _ => 0) :: []) rfl ?_
  refine g_st hC [_] rfl ?_
  refine g_astore_n (pc := 7) hC [(1, _), (0, _)] dL_law_7 rfl (by decide) rfl ?_
  refine g_new (pc := 8) hC (ty := tyX10) (fs := [.int (iI 0), .null, .null, .null, .int (iI 0), .int (iI 0), .int (iI 0), .int (iI 0), .int (iI 0), .int (iI 0), .null, .null, .null, .int (iI 0), .null, .null, .null, .null, .null, .int (iI 0), .null, .int (iI 0), .int (iI 0), .int (iI 0), .int (iI 0)]) (fun a9 => [_, _, _, _, _, _, _, _, _, _, _, _, _, _, _, _, _, _, _, _, _, _, _, _, _, _, _, _, _, _, _, _, _, _, _, _, _, _, _, _, _, _, _, _, _, _, _, _, _, _, _, _, _, _, _, _, _, _, _, _, _, _, _, _, _, _, _, _, _, _, _, cO a9 10 _]) wc_L_10 in_X10 tyX10_ok wi_X10 wz_X10 rfl (by decide +kernel) (by omega) dL_law_8 (fun _ => rfl) (fun a73 => ?_)
  refine g_dup (pc := 11) hC dL_law_11 rfl ?_
  refine g_callI (pc := 12) hC [71] (k_X10_init _ ) cl_X10_init wm_L_12 dL_law_12 rfl rfl (by decide) (by decide) (by omega) (Nat.le_of_ble_eq_true rfl) rfl (fun v9 w9 hq9 => ?_)
  obtain ⟨m74, m75, m76, m77, m78, m79, m80, m81, m82, m83, m84, m85, s86, rfl, rfl, hs2_12⟩ := hq9
  refine g_ws hC (cO a1 9 [.ref nA2, .ref nZ24, .int (iI 0), .ref hh46, .ref q47, .ref t50, .ref g60] :: cO nA2 8 [.ref hA3, .ref poA10, .ref srA12, .ref prA16, .ref brA20, .int (iI 0)] :: cO hA3 5 [.ref kA4, .ref kA5, .ref kA6, .ref kA7, .ref kA8, .ref kA9, .int (iI 0), .int (iI 0), .int (iI 0)] :: cA K kA4 6 (fun _ => 0) :: cA K kA5 6 (fun _ => 0) :: cA K kA6 6 (fun _ => 0) :: cA K kA7 6 (fun _ => 0) :: cA K kA8 24 (fun _ => 0) :: cA K kA9 6 (fun _ => 0) :: cO poA10 6 [.ref paA11, .int (iI 0)] :: cA K paA11 100 (fun _ => 0) :: cO srA12 4 [.ref srA13, .ref srA14, .ref srA15, .int (iI 0)] :: cA K srA13 8 (fun _ => 0) :: cA K srA14 8 (fun _ => 0) :: cA K srA15 8 (fun _ => 0) :: cO prA16 4 [.ref prA17, .ref prA18, .ref prA19, .int (iI 0)] :: cA K prA17 8 (fun _ => 0) :: cA K prA18 8 (fun _ => 0) :: cA K prA19 8 (fun _ => 0) :: cO brA20 4 [.ref brA21, .ref brA22, .ref brA23, .int (iI 0)] :: cA K brA21 8 (fun _ => 0) :: cA K brA22 8 (fun _ => 0) :: cA K brA23 8 (fun _ => 0) :: cO nZ24 8 [.ref hZ25, .ref poZ32, .ref srZ34, .ref prZ38, .ref brZ42, .int (iI 0)] :: cO hZ25 5 [.ref kZ26, .ref kZ27, .ref kZ28, .ref kZ29, .ref kZ30, .ref kZ31, .int (iI 0), .int (iI 0), .int (iI 0)] :: cA K kZ26 6 (fun _ => 0) :: cA K kZ27 6 (fun _ => 0) :: cA K kZ28 6 (fun _ => 0) :: cA K kZ29 6 (fun _ => 0) :: cA K kZ30 24 (fun _ => 0) :: cA K kZ31 6 (fun _ => 0) :: cO poZ32 6 [.ref paZ33, .int (iI 0)] :: cA K paZ33 100 (fun _ => 0) :: cO srZ34 4 [.ref srZ35, .ref srZ36, .ref srZ37, .int (iI 0)] :: cA K srZ35 8 (fun _ => 0) :: cA K srZ36 8 (fun _ => 0) :: cA K srZ37 8 (fun _ => 0) :: cO prZ38 4 [.ref prZ39, .ref prZ40, .ref prZ41, .int (iI 0)] :: cA K prZ39 8 (fun _ => 0) :: cA K prZ40 8 (fun _ => 0) :: cA K prZ41 8 (fun _ => 0) :: cO brZ42 4 [.ref brZ43, .ref brZ44, .ref brZ45, .int (iI 0)] :: cA K brZ43 8 (fun _ => 0) :: cA K brZ44 8 (fun _ => 0) :: cA K brZ45 8 (fun _ => 0) :: cH K hh46 5 hm72 :: cO q47 2 [.null, .ref q48, .ref q49, .int (iI 1)] :: cA K q48 6 (fun _ => 0) :: cA K q49 0 (fun _ => 0) :: cO t50 7 [.ref h51, .ref q47, .int (iI 0), .ref t58, .int (iI 0), .ref t59] :: cO h51 5 [.ref j52, .ref j53, .ref j54, .ref j55, .ref j56, .ref j57, .int (iI 0), .int (iI 0), .int (iI 0)] :: cA K j52 6 (fun _ => 0) :: cA K j53 6 (fun _ => 0) :: cA K j54 6 (fun _ => 0) :: cA K j55 6 (fun _ => 0) :: cA K j56 24 (fun _ => 0) :: cA K j57 6 (fun _ => 0) :: cA K t58 6 (fun _ => 0) :: cA K t59 6 (fun _ => 0) :: cO g60 0 [.ref ga61, .int (iI 0), .int (iI 0), .int (iI 0), .int (iI 0)] :: cA K ga61 20 (fun _ => 0) :: cO o62 1 [.ref u63, .int (iI 0), .int (iI 0)] :: cA K u63 100 (fun _ => 0) :: cO o64 1 [.ref u65, .int (iI 0), .int (iI 0)] :: cA K u65 100 (fun _ => 0) :: cO o66 1 [.ref u67, .int (iI 0), .int (iI 0)] :: cA K u67 100 (fun _ => 0) :: cO o68 1 [.ref u69, .int (iI 0), .int (iI 0)] :: cA K u69 100 (fun _ => 0) :: cO o70 1 [.ref u71, .int (iI 0), .int (iI 0)] :: cA K u71 100 (fun _ => 0) :: cO a73 10 [.int (iI 0), .ref m74, .ref m75, .ref m76, .int (iI 0), .int (iI 0), .int (iI 0), .int (iI 0), .int (iI 0), .int (iI 0), .ref m77, .ref m78, .ref m79, .int (iI 0), .ref m80, .ref m81, .ref m82, .ref m83, .ref m84, .int (iI 0), .ref m85, .int (iI 0), .int (iI 0), .int (iI 0), .int (iI 0)] :: cA K m74 922 s86 :: cA K m75 922 (fun _ => 0) :: cA K m76 19 (fun _ => 0) :: cA K m77 6 (fun _ => 0) :: cZ K m78 64 (fun _ => 0) :: cA K m79 36000 (fun _ => 0) :: cA K m80 6 (fun _ => 0) :: cA K m81 6 (fun _ => 0) :: cA K m82 6 (fun _ => 0) :: cA K m83 6 (fun _ => 0) :: cA K m84 6 (fun _ => 0) :: cA K m85 20 (fun _ => 0) :: []) rfl ?_
  refine g_st hC [_] rfl ?_
  refine g_astore_n (pc := 15) hC [(2, _), (1, _), (0, _)] dL_law_15 rfl (by decide) rfl ?_
  refine g_iconst (pc := 16) hC dL_law_16 ?_
  refine g_istore_n (pc := 17) hC [(3, _), (2, _), (1, _), (0, _)] dL_law_17 rfl (by decide) rfl ?_
  subst hs2_12
  refine g_lv hC [3, 2, 1, 0] [(0, _), (1, _), (2, _), (3, _)] rfl ?_
  obtain ⟨ad, e0, e1, e2, e3, e4, e5, e6, e7, e8, e9, e10, e11, e12, e13, e14, e15, e16, e17, e18, e19, e20, e21, e22, e23, e24, e25, e26, e27, e28, e29, e30, e31, e32, e33, e34, e35, e36, e37, e38, e39, e40, e41, e42, e43, e44, e45, e46, e47, e48, e49, e50, e51, e52, e53, e54, e55, e56, e57, e58, e59, e60, e61, e62, e63, e64, e65, e66, e67, e68, e69, e70, e71, e72, e73, e74, e75, e76, e77, e78, e79, e80, e81, e82, e83⟩ : ∃ ad : Nat → Nat, ad 0 = a1 ∧ ad 1 = nA2 ∧ ad 2 = hA3 ∧ ad 3 = kA4 ∧ ad 4 = kA5 ∧ ad 5 = kA6 ∧ ad 6 = kA7 ∧ ad 7 = kA8 ∧ ad 8 = kA9 ∧ ad 9 = poA10 ∧ ad 10 = paA11 ∧ ad 11 = srA12 ∧ ad 12 = srA13 ∧ ad 13 = srA14 ∧ ad 14 = srA15 ∧ ad 15 = prA16 ∧ ad 16 = prA17 ∧ ad 17 = prA18 ∧ ad 18 = prA19 ∧ ad 19 = brA20 ∧ ad 20 = brA21 ∧ ad 21 = brA22 ∧ ad 22 = brA23 ∧ ad 23 = nZ24 ∧ ad 24 = hZ25 ∧ ad 25 = kZ26 ∧ ad 26 = kZ27 ∧ ad 27 = kZ28 ∧ ad 28 = kZ29 ∧ ad 29 = kZ30 ∧ ad 30 = kZ31 ∧ ad 31 = poZ32 ∧ ad 32 = paZ33 ∧ ad 33 = srZ34 ∧ ad 34 = srZ35 ∧ ad 35 = srZ36 ∧ ad 36 = srZ37 ∧ ad 37 = prZ38 ∧ ad 38 = prZ39 ∧ ad 39 = prZ40 ∧ ad 40 = prZ41 ∧ ad 41 = brZ42 ∧ ad 42 = brZ43 ∧ ad 43 = brZ44 ∧ ad 44 = brZ45 ∧ ad 45 = hh46 ∧ ad 46 = q47 ∧ ad 47 = q48 ∧ ad 48 = q49 ∧ ad 49 = t50 ∧ ad 50 = h51 ∧ ad 51 = j52 ∧ ad 52 = j53 ∧ ad 53 = j54 ∧ ad 54 = j55 ∧ ad 55 = j56 ∧ ad 56 = j57 ∧ ad 57 = t58 ∧ ad 58 = t59 ∧ ad 59 = g60 ∧ ad 60 = ga61 ∧ ad 61 = o62 ∧ ad 62 = u63 ∧ ad 63 = o64 ∧ ad 64 = u65 ∧ ad 65 = o66 ∧ ad 66 = u67 ∧ ad 67 = o68 ∧ ad 68 = u69 ∧ ad 69 = o70 ∧ ad 70 = u71 ∧ ad 71 = a73 ∧ ad 72 = m74 ∧ ad 73 = m75 ∧ ad 74 = m76 ∧ ad 75 = m77 ∧ ad 76 = m78 ∧ ad 77 = m79 ∧ ad 78 = m80 ∧ ad 79 = m81 ∧ ad 80 = m82 ∧ ad 81 = m83 ∧ ad 82 = m84 ∧ ad 83 = m85 := ⟨fun k : Nat => (a1 :: nA2 :: hA3 :: kA4 :: kA5 :: kA6 :: kA7 :: kA8 :: kA9 :: poA10 :: paA11 :: srA12 :: srA13 :: srA14 :: srA15 :: prA16 :: prA17 :: prA18 :: prA19 :: brA20 :: brA21 :: brA22 :: brA23 :: nZ24 :: hZ25 :: kZ26 :: kZ27 :: kZ28 :: kZ29 :: kZ30 :: kZ31 :: poZ32 :: paZ33 :: srZ34 :: srZ35 :: srZ36 :: srZ37 :: prZ38 :: prZ39 :: prZ40 :: prZ41 :: brZ42 :: brZ43 :: brZ44 :: brZ45 :: hh46 :: q47 :: q48 :: q49 :: t50 :: h51 :: j52 :: j53 :: j54 :: j55 :: j56 :: j57 :: t58 :: t59 :: g60 :: ga61 :: o62 :: u63 :: o64 :: u65 :: o66 :: u67 :: o68 :: u69 :: o70 :: u71 :: a73 :: m74 :: m75 :: m76 :: m77 :: m78 :: m79 :: m80 :: m81 :: m82 :: m83 :: m84 :: m85 :: [] : List Nat).getD k 0, rfl, rfl, rfl, rfl, rfl, rfl, rfl, rfl, rfl, rfl, rfl, rfl, rfl, rfl, rfl, rfl, rfl, rfl, rfl, rfl, rfl, rfl, rfl, rfl, rfl, rfl, rfl, rfl, rfl, rfl, rfl, rfl, rfl, rfl, rfl, rfl, rfl, rfl, rfl, rfl, rfl, rfl, rfl, rfl, rfl, rfl, rfl, rfl, rfl, rfl, rfl, rfl, rfl, rfl, rfl, rfl, rfl, rfl, rfl, rfl, rfl, rfl, rfl, rfl, rfl, rfl, rfl, rfl, rfl, rfl, rfl, rfl, rfl, rfl, rfl, rfl, rfl, rfl, rfl, rfl, rfl, rfl, rfl, rfl⟩
  subst e0
  subst e1
  subst e2
  subst e3
  subst e4
  subst e5
  subst e6
  subst e7
  subst e8
  subst e9
  subst e10
  subst e11
  subst e12
  subst e13
  subst e14
  subst e15
  subst e16
  subst e17
  subst e18
  subst e19
  subst e20
  subst e21
  subst e22
  subst e23
  subst e24
  subst e25
  subst e26
  subst e27
  subst e28
  subst e29
  subst e30
  subst e31
  subst e32
  subst e33
  subst e34
  subst e35
  subst e36
  subst e37
  subst e38
  subst e39
  subst e40
  subst e41
  subst e42
  subst e43
  subst e44
  subst e45
  subst e46
  subst e47
  subst e48
  subst e49
  subst e50
  subst e51
  subst e52
  subst e53
  subst e54
  subst e55
  subst e56
  subst e57
  subst e58
  subst e59
  subst e60
  subst e61
  subst e62
  subst e63
  subst e64
  subst e65
  subst e66
  subst e67
  subst e68
  subst e69
  subst e70
  subst e71
  subst e72
  subst e73
  subst e74
  subst e75
  subst e76
  subst e77
  subst e78
  subst e79
  subst e80
  subst e81
  subst e82
  subst e83
  have hhm : ∀ k : Nat, k < 5 → hm72 k = some (ad (61 + 2 * k)) := by
    intro k hk
    rcases five_of hk with e | e | e | e | e <;> subst e
    · exact hm0_4
    · exact hm1_4
    · exact hm2_4
    · exact hm3_4
    · exact hm4_4
  exact law_loop hC hL hL9 4000 0 _ _ _ (by omega) (by omega) ⟨upI (fun _ => 0) 25 (-1), upI (fun _ => 0) 25 (-1), 0, [], 1, 0, ⟨ad, upF (fun _ _ => 0) 72 (upI (fun _ => 0) 25 (-1)), upJ (fun _ => 0) 17 1, (fun _ => 0), (fun _ => 0), hm72, .null, rfl, ⟨rfl, rfl⟩, hhm, upF_r (fun _ _ => by show rI 0; omega) up0_r 72, upJ_r (fun _ => by show rI 0; omega) (by omega) 17, rZ0, (start_R (ad := ad)).1, (start_R (ad := ad)).2⟩, ⟨gs_0, Or.inl rfl, fun q => by omega⟩, by omega, by omega, by omega⟩ (by omega)
