/-! the law's cases -/
def lwE (X : xG) : Prop := x_AA X ∧ x_St X ∧ x_S2 X
theorem fit0 {d nL cells slots : Nat} (hd : d ≤ 20) (hn : nL ≤ 64) (hc : cells ≤ 600000 ∧ slots ≤ 7000000) : x_fit room_1 d nL 0 0 cells slots = true := by
  unfold x_fit
  rw [Bool.and_eq_true, Bool.and_eq_true, Bool.and_eq_true, decide_eq_true_eq, decide_eq_true_eq, decide_eq_true_eq, decide_eq_true_eq]
  refine ⟨⟨⟨?_, ?_⟩, ?_⟩, ?_⟩
  · show d + 1 ≤ 2048
    omega
  · show 8 + (nL + 11) + 64 * d ≤ 84000
    omega
  · show cells + 0 ≤ 601024
    omega
  · show slots + 0 ≤ 7293034
    omega
theorem sc_in {i L k : Nat} {v : Int32} (hk : v = nI k) (h : i + k < L) (hL : L ≤ 3072) : vp_in (nI i + v) L := by
  rw [hk, nI_add]
  exact vp_in_nI h (by omega)
section lawc
variable {X : xG} {G : xM} {MI : Mi} {ML : Nat → Nat → Int64} {MR : Nat → Nat → Option Nat} {cells slots L i : Nat} {xs : Nat → Int32}
theorem lc_feed (E : lwE X) (hX : x_Sc X G L xs) (hi : i + 6 ≤ L) (hL : L ≤ 3072) (hI : InvE MI ML MR) (hc : cells ≤ 600000 ∧ slots ≤ 7000000) (k : ∀ MI2 ML2 MR2, InvE MI2 ML2 MR2 → RW X G RL cL_law 7 room_1 0 SH MI2 ML2 MR2 cells slots 1517 [(4, .int (nI i)), (3, .ref 154), (2, .ref 124), (1, .ref 0), (0, .ref 1300)] []) : RW X G RL cL_law 7 room_1 0 SH MI ML MR cells slots 224 [(4, .int (nI i)), (3, .ref 154), (2, .ref 124), (1, .ref 0), (0, .ref 1300)] [] := by
  obtain ⟨r, S, A, Gn, b, K, u, bi, bo, w, h⟩ := hI
  obtain ⟨d1, Q1, hd1, hC1, hQ⟩ := two_feed (X := X) (c0 := (xs (nI i + 1).toNatClampNeg)) (c1 := (xs (nI i + 2).toNatClampNeg)) (c2 := (xs (nI i + 3).toNatClampNeg)) (c3 := (xs (nI i + 4).toNatClampNeg)) (c4 := (xs (nI i + 5).toNatClampNeg))  h
  refine r_aload_n 3 rfl dL_law_224 ?_
  refine r_aload_n 4 rfl dL_law_225 ?_
  refine r_iload 0 rfl dL_law_226 ?_
  refine r_iconst (v := 1) rfl dL_law_228 ?_
  refine r_iadd dL_law_229 ?_
  refine r_scr hX dL_law_230 (sc_in (k := 1) rfl (by omega) hL) ?_
  refine r_aload_n 4 rfl dL_law_231 ?_
  refine r_iload 0 rfl dL_law_232 ?_
  refine r_iconst (v := 2) rfl dL_law_234 ?_
  refine r_iadd dL_law_235 ?_
  refine r_scr hX dL_law_236 (sc_in (k := 2) rfl (by omega) hL) ?_
  refine r_aload_n 4 rfl dL_law_237 ?_
  refine r_iload 0 rfl dL_law_238 ?_
  refine r_iconst (v := 3) rfl dL_law_240 ?_
  refine r_iadd dL_law_241 ?_
  refine r_scr hX dL_law_242 (sc_in (k := 3) rfl (by omega) hL) ?_
  refine r_aload_n 4 rfl dL_law_243 ?_
  refine r_iload 0 rfl dL_law_244 ?_
  refine r_iconst (v := 4) rfl dL_law_246 ?_
  refine r_iadd dL_law_247 ?_
  refine r_scr hX dL_law_248 (sc_in (k := 4) rfl (by omega) hL) ?_
  refine r_aload_n 4 rfl dL_law_249 ?_
  refine r_iload 0 rfl dL_law_250 ?_
  refine r_iconst (v := 5) rfl dL_law_252 ?_
  refine r_iadd dL_law_253 ?_
  refine r_scr hX dL_law_254 (sc_in (k := 5) rfl (by omega) hL) ?_
  refine r_Vg [.int _, .int _, .int _, .int _, .int _] dL_law_255 lk_L_19 mb_X10_feed in_X10_feed se_X10_feed rfl hC1 rfl rfl rfl (Nat.le_of_ble_eq_true rfl) (fit0 hd1 (by decide) hc) (fun zr zA zB zC hz => ?_)
  obtain ⟨v, d2, Q2, rfl, hd2, hC2, hQ2⟩ := hQ zr zA zB zC hz
  show RW X G _ _ _ _ _ _ _ _ _ _ _ _ _ [.int v]
  refine r_aload_n 2 rfl dL_law_258 ?_
  refine r_aload_n 4 rfl dL_law_259 ?_
  refine r_iload 0 rfl dL_law_260 ?_
  refine r_iconst (v := 1) rfl dL_law_262 ?_
  refine r_iadd dL_law_263 ?_
  refine r_scr hX dL_law_264 (sc_in (k := 1) rfl (by omega) hL) ?_
  refine r_aload_n 4 rfl dL_law_265 ?_
  refine r_iload 0 rfl dL_law_266 ?_
  refine r_iconst (v := 2) rfl dL_law_268 ?_
  refine r_iadd dL_law_269 ?_
  refine r_scr hX dL_law_270 (sc_in (k := 2) rfl (by omega) hL) ?_
  refine r_aload_n 4 rfl dL_law_271 ?_
  refine r_iload 0 rfl dL_law_272 ?_
  refine r_iconst (v := 3) rfl dL_law_274 ?_
  refine r_iadd dL_law_275 ?_
  refine r_scr hX dL_law_276 (sc_in (k := 3) rfl (by omega) hL) ?_
  refine r_aload_n 4 rfl dL_law_277 ?_
  refine r_iload 0 rfl dL_law_278 ?_
  refine r_iconst (v := 4) rfl dL_law_280 ?_
  refine r_iadd dL_law_281 ?_
  refine r_scr hX dL_law_282 (sc_in (k := 4) rfl (by omega) hL) ?_
  refine r_aload_n 4 rfl dL_law_283 ?_
  refine r_iload 0 rfl dL_law_284 ?_
  refine r_iconst (v := 5) rfl dL_law_286 ?_
  refine r_iadd dL_law_287 ?_
  refine r_scr hX dL_law_288 (sc_in (k := 5) rfl (by omega) hL) ?_
  refine r_Vg [.int _, .int _, .int _, .int _, .int _] dL_law_289 lk_L_23 mb_X11_feed in_X11_feed se_X11_feed rfl hC2 rfl rfl rfl (Nat.le_of_ble_eq_true rfl) (fit0 hd2 (by decide) hc) (fun zr2 zA2 zB2 zC2 hz2 => ?_)
  obtain ⟨rfl, hI2⟩ := hQ2 zr2 zA2 zB2 zC2 hz2
  show RW X G _ _ _ _ _ _ _ _ _ _ _ _ _ [.int v, .int v]
  exact r_icmpeq (tgt := 1517) dL_law_292 (by decide) (fun _ => k _ _ _ hI2) (fun q => absurd rfl q)
theorem lc_machine (E : lwE X) (hX : x_Sc X G L xs) (hi : i + 6 ≤ L) (hL : L ≤ 3072) (hI : InvE MI ML MR) (hc : cells ≤ 600000 ∧ slots ≤ 7000000) (k : ∀ MI2 ML2 MR2, InvE MI2 ML2 MR2 → RW X G RL cL_law 7 room_1 0 SH MI2 ML2 MR2 cells slots 1517 [(4, .int (nI i)), (3, .ref 154), (2, .ref 124), (1, .ref 0), (0, .ref 1300)] []) : RW X G RL cL_law 7 room_1 0 SH MI ML MR cells slots 297 [(4, .int (nI i)), (3, .ref 154), (2, .ref 124), (1, .ref 0), (0, .ref 1300)] [] := by
  obtain ⟨r, S, A, Gn, b, K, u, bi, bo, w, h⟩ := hI
  obtain ⟨d1, Q1, hd1, hC1, hQ⟩ := two_machine (X := X) (x := (xs (nI i + 1).toNatClampNeg)) E.2.1 E.2.2 h
  refine r_aload_n 3 rfl dL_law_297 ?_
  refine r_aload_n 4 rfl dL_law_298 ?_
  refine r_iload 0 rfl dL_law_299 ?_
  refine r_iconst (v := 1) rfl dL_law_301 ?_
  refine r_iadd dL_law_302 ?_
  refine r_scr hX dL_law_303 (sc_in (k := 1) rfl (by omega) hL) ?_
  refine r_Vg [.int _] dL_law_304 lk_L_24 mb_X10_machine in_X10_machine se_X10_machine rfl hC1 rfl rfl rfl (Nat.le_of_ble_eq_true rfl) (fit0 hd1 (by decide) hc) (fun zr zA zB zC hz => ?_)
  obtain ⟨v, d2, Q2, rfl, hd2, hC2, hQ2⟩ := hQ zr zA zB zC hz
  show RW X G _ _ _ _ _ _ _ _ _ _ _ _ _ [.int v]
  refine r_aload_n 2 rfl dL_law_307 ?_
  refine r_aload_n 4 rfl dL_law_308 ?_
  refine r_iload 0 rfl dL_law_309 ?_
  refine r_iconst (v := 1) rfl dL_law_311 ?_
  refine r_iadd dL_law_312 ?_
  refine r_scr hX dL_law_313 (sc_in (k := 1) rfl (by omega) hL) ?_
  refine r_Vg [.int _] dL_law_314 lk_L_27 mb_X11_machine in_X11_machine se_X11_machine rfl hC2 rfl rfl rfl (Nat.le_of_ble_eq_true rfl) (fit0 hd2 (by decide) hc) (fun zr2 zA2 zB2 zC2 hz2 => ?_)
  obtain ⟨rfl, hI2⟩ := hQ2 zr2 zA2 zB2 zC2 hz2
  show RW X G _ _ _ _ _ _ _ _ _ _ _ _ _ [.int v, .int v]
  exact r_icmpeq (tgt := 1517) dL_law_317 (by decide) (fun _ => k _ _ _ hI2) (fun q => absurd rfl q)
theorem lc_fault (E : lwE X) (hX : x_Sc X G L xs) (hi : i + 6 ≤ L) (hL : L ≤ 3072) (hI : InvE MI ML MR) (hc : cells ≤ 600000 ∧ slots ≤ 7000000) (k : ∀ MI2 ML2 MR2, InvE MI2 ML2 MR2 → RW X G RL cL_law 7 room_1 0 SH MI2 ML2 MR2 cells slots 1517 [(4, .int (nI i)), (3, .ref 154), (2, .ref 124), (1, .ref 0), (0, .ref 1300)] []) : RW X G RL cL_law 7 room_1 0 SH MI ML MR cells slots 322 [(4, .int (nI i)), (3, .ref 154), (2, .ref 124), (1, .ref 0), (0, .ref 1300)] [] := by
  obtain ⟨r, S, A, Gn, b, K, u, bi, bo, w, h⟩ := hI
  obtain ⟨d1, Q1, hd1, hC1, hQ⟩ := two_fault (X := X)   h
  refine r_aload_n 3 rfl dL_law_322 ?_
  refine r_Vg [] dL_law_323 lk_L_28 mb_X10_fault in_X10_fault se_X10_fault rfl hC1 rfl rfl rfl (Nat.le_of_ble_eq_true rfl) (fit0 hd1 (by decide) hc) (fun zr zA zB zC hz => ?_)
  obtain ⟨v, d2, Q2, rfl, hd2, hC2, hQ2⟩ := hQ zr zA zB zC hz
  show RW X G _ _ _ _ _ _ _ _ _ _ _ _ _ [.int v]
  refine r_aload_n 2 rfl dL_law_326 ?_
  refine r_Vg [] dL_law_327 lk_L_32 mb_X11_fault in_X11_fault se_X11_fault rfl hC2 rfl rfl rfl (Nat.le_of_ble_eq_true rfl) (fit0 hd2 (by decide) hc) (fun zr2 zA2 zB2 zC2 hz2 => ?_)
  obtain ⟨rfl, hI2⟩ := hQ2 zr2 zA2 zB2 zC2 hz2
  show RW X G _ _ _ _ _ _ _ _ _ _ _ _ _ [.int v, .int v]
  exact r_icmpeq (tgt := 1517) dL_law_330 (by decide) (fun _ => k _ _ _ hI2) (fun q => absurd rfl q)
theorem lc_where (E : lwE X) (hX : x_Sc X G L xs) (hi : i + 6 ≤ L) (hL : L ≤ 3072) (hI : InvE MI ML MR) (hc : cells ≤ 600000 ∧ slots ≤ 7000000) (k : ∀ MI2 ML2 MR2, InvE MI2 ML2 MR2 → RW X G RL cL_law 7 room_1 0 SH MI2 ML2 MR2 cells slots 1517 [(4, .int (nI i)), (3, .ref 154), (2, .ref 124), (1, .ref 0), (0, .ref 1300)] []) : RW X G RL cL_law 7 room_1 0 SH MI ML MR cells slots 335 [(4, .int (nI i)), (3, .ref 154), (2, .ref 124), (1, .ref 0), (0, .ref 1300)] [] := by
  obtain ⟨r, S, A, Gn, b, K, u, bi, bo, w, h⟩ := hI
  obtain ⟨d1, Q1, hd1, hC1, hQ⟩ := two_where (X := X)   h
  refine r_aload_n 3 rfl dL_law_335 ?_
  refine r_Vg [] dL_law_336 lk_L_33 mb_X10_where in_X10_where se_X10_where rfl hC1 rfl rfl rfl (Nat.le_of_ble_eq_true rfl) (fit0 hd1 (by decide) hc) (fun zr zA zB zC hz => ?_)
  obtain ⟨v, d2, Q2, rfl, hd2, hC2, hQ2⟩ := hQ zr zA zB zC hz
  show RW X G _ _ _ _ _ _ _ _ _ _ _ _ _ [.int v]
  refine r_aload_n 2 rfl dL_law_339 ?_
  refine r_Vg [] dL_law_340 lk_L_36 mb_X11_where in_X11_where se_X11_where rfl hC2 rfl rfl rfl (Nat.le_of_ble_eq_true rfl) (fit0 hd2 (by decide) hc) (fun zr2 zA2 zB2 zC2 hz2 => ?_)
  obtain ⟨rfl, hI2⟩ := hQ2 zr2 zA2 zB2 zC2 hz2
  show RW X G _ _ _ _ _ _ _ _ _ _ _ _ _ [.int v, .int v]
  exact r_icmpeq (tgt := 1517) dL_law_343 (by decide) (fun _ => k _ _ _ hI2) (fun q => absurd rfl q)
theorem lc_bad (E : lwE X) (hX : x_Sc X G L xs) (hi : i + 6 ≤ L) (hL : L ≤ 3072) (hI : InvE MI ML MR) (hc : cells ≤ 600000 ∧ slots ≤ 7000000) (k : ∀ MI2 ML2 MR2, InvE MI2 ML2 MR2 → RW X G RL cL_law 7 room_1 0 SH MI2 ML2 MR2 cells slots 1517 [(4, .int (nI i)), (3, .ref 154), (2, .ref 124), (1, .ref 0), (0, .ref 1300)] []) : RW X G RL cL_law 7 room_1 0 SH MI ML MR cells slots 348 [(4, .int (nI i)), (3, .ref 154), (2, .ref 124), (1, .ref 0), (0, .ref 1300)] [] := by
  obtain ⟨r, S, A, Gn, b, K, u, bi, bo, w, h⟩ := hI
  obtain ⟨d1, Q1, hd1, hC1, hQ⟩ := two_bad (X := X)   h
  refine r_aload_n 3 rfl dL_law_348 ?_
  refine r_Vg [] dL_law_349 lk_L_37 mb_X10_bad in_X10_bad se_X10_bad rfl hC1 rfl rfl rfl (Nat.le_of_ble_eq_true rfl) (fit0 hd1 (by decide) hc) (fun zr zA zB zC hz => ?_)
  obtain ⟨v, d2, Q2, rfl, hd2, hC2, hQ2⟩ := hQ zr zA zB zC hz
  show RW X G _ _ _ _ _ _ _ _ _ _ _ _ _ [.int v]
  refine r_aload_n 2 rfl dL_law_352 ?_
  refine r_Vg [] dL_law_353 lk_L_40 mb_X11_bad in_X11_bad se_X11_bad rfl hC2 rfl rfl rfl (Nat.le_of_ble_eq_true rfl) (fit0 hd2 (by decide) hc) (fun zr2 zA2 zB2 zC2 hz2 => ?_)
  obtain ⟨rfl, hI2⟩ := hQ2 zr2 zA2 zB2 zC2 hz2
  show RW X G _ _ _ _ _ _ _ _ _ _ _ _ _ [.int v, .int v]
  exact r_icmpeq (tgt := 1517) dL_law_356 (by decide) (fun _ => k _ _ _ hI2) (fun q => absurd rfl q)
theorem lc_badAt (E : lwE X) (hX : x_Sc X G L xs) (hi : i + 6 ≤ L) (hL : L ≤ 3072) (hI : InvE MI ML MR) (hc : cells ≤ 600000 ∧ slots ≤ 7000000) (k : ∀ MI2 ML2 MR2, InvE MI2 ML2 MR2 → RW X G RL cL_law 7 room_1 0 SH MI2 ML2 MR2 cells slots 1517 [(4, .int (nI i)), (3, .ref 154), (2, .ref 124), (1, .ref 0), (0, .ref 1300)] []) : RW X G RL cL_law 7 room_1 0 SH MI ML MR cells slots 361 [(4, .int (nI i)), (3, .ref 154), (2, .ref 124), (1, .ref 0), (0, .ref 1300)] [] := by
  obtain ⟨r, S, A, Gn, b, K, u, bi, bo, w, h⟩ := hI
  obtain ⟨d1, Q1, hd1, hC1, hQ⟩ := two_badAt (X := X)   h
  refine r_aload_n 3 rfl dL_law_361 ?_
  refine r_Vg [] dL_law_362 lk_L_41 mb_X10_badAt in_X10_badAt se_X10_badAt rfl hC1 rfl rfl rfl (Nat.le_of_ble_eq_true rfl) (fit0 hd1 (by decide) hc) (fun zr zA zB zC hz => ?_)
  obtain ⟨v, d2, Q2, rfl, hd2, hC2, hQ2⟩ := hQ zr zA zB zC hz
  show RW X G _ _ _ _ _ _ _ _ _ _ _ _ _ [.int v]
  refine r_aload_n 2 rfl dL_law_365 ?_
  refine r_Vg [] dL_law_366 lk_L_44 mb_X11_badAt in_X11_badAt se_X11_badAt rfl hC2 rfl rfl rfl (Nat.le_of_ble_eq_true rfl) (fit0 hd2 (by decide) hc) (fun zr2 zA2 zB2 zC2 hz2 => ?_)
  obtain ⟨rfl, hI2⟩ := hQ2 zr2 zA2 zB2 zC2 hz2
  show RW X G _ _ _ _ _ _ _ _ _ _ _ _ _ [.int v, .int v]
  exact r_icmpeq (tgt := 1517) dL_law_369 (by decide) (fun _ => k _ _ _ hI2) (fun q => absurd rfl q)
theorem lc_state (E : lwE X) (hX : x_Sc X G L xs) (hi : i + 6 ≤ L) (hL : L ≤ 3072) (hI : InvE MI ML MR) (hc : cells ≤ 600000 ∧ slots ≤ 7000000) (k : ∀ MI2 ML2 MR2, InvE MI2 ML2 MR2 → RW X G RL cL_law 7 room_1 0 SH MI2 ML2 MR2 cells slots 1517 [(4, .int (nI i)), (3, .ref 154), (2, .ref 124), (1, .ref 0), (0, .ref 1300)] []) : RW X G RL cL_law 7 room_1 0 SH MI ML MR cells slots 374 [(4, .int (nI i)), (3, .ref 154), (2, .ref 124), (1, .ref 0), (0, .ref 1300)] [] := by
  obtain ⟨r, S, A, Gn, b, K, u, bi, bo, w, h⟩ := hI
  obtain ⟨d1, Q1, hd1, hC1, hQ⟩ := two_state (X := X) (x := (xs (nI i + 1).toNatClampNeg)) (y := (xs (nI i + 2).toNatClampNeg))  h
  refine r_aload_n 3 rfl dL_law_374 ?_
  refine r_aload_n 4 rfl dL_law_375 ?_
  refine r_iload 0 rfl dL_law_376 ?_
  refine r_iconst (v := 1) rfl dL_law_378 ?_
  refine r_iadd dL_law_379 ?_
  refine r_scr hX dL_law_380 (sc_in (k := 1) rfl (by omega) hL) ?_
  refine r_aload_n 4 rfl dL_law_381 ?_
  refine r_iload 0 rfl dL_law_382 ?_
  refine r_iconst (v := 2) rfl dL_law_384 ?_
  refine r_iadd dL_law_385 ?_
  refine r_scr hX dL_law_386 (sc_in (k := 2) rfl (by omega) hL) ?_
  refine r_Vg [.int _, .int _] dL_law_387 lk_L_45 mb_X10_state in_X10_state se_X10_state rfl hC1 rfl rfl rfl (Nat.le_of_ble_eq_true rfl) (fit0 hd1 (by decide) hc) (fun zr zA zB zC hz => ?_)
  obtain ⟨v, d2, Q2, rfl, hd2, hC2, hQ2⟩ := hQ zr zA zB zC hz
  show RW X G _ _ _ _ _ _ _ _ _ _ _ _ _ [.int v]
  refine r_aload_n 2 rfl dL_law_390 ?_
  refine r_aload_n 4 rfl dL_law_391 ?_
  refine r_iload 0 rfl dL_law_392 ?_
  refine r_iconst (v := 1) rfl dL_law_394 ?_
  refine r_iadd dL_law_395 ?_
  refine r_scr hX dL_law_396 (sc_in (k := 1) rfl (by omega) hL) ?_
  refine r_aload_n 4 rfl dL_law_397 ?_
  refine r_iload 0 rfl dL_law_398 ?_
  refine r_iconst (v := 2) rfl dL_law_400 ?_
  refine r_iadd dL_law_401 ?_
  refine r_scr hX dL_law_402 (sc_in (k := 2) rfl (by omega) hL) ?_
  refine r_Vg [.int _, .int _] dL_law_403 lk_L_49 mb_X11_state in_X11_state se_X11_state rfl hC2 rfl rfl rfl (Nat.le_of_ble_eq_true rfl) (fit0 hd2 (by decide) hc) (fun zr2 zA2 zB2 zC2 hz2 => ?_)
  obtain ⟨rfl, hI2⟩ := hQ2 zr2 zA2 zB2 zC2 hz2
  show RW X G _ _ _ _ _ _ _ _ _ _ _ _ _ [.int v, .int v]
  exact r_icmpeq (tgt := 1517) dL_law_406 (by decide) (fun _ => k _ _ _ hI2) (fun q => absurd rfl q)
theorem lc_arc (E : lwE X) (hX : x_Sc X G L xs) (hi : i + 6 ≤ L) (hL : L ≤ 3072) (hI : InvE MI ML MR) (hc : cells ≤ 600000 ∧ slots ≤ 7000000) (k : ∀ MI2 ML2 MR2, InvE MI2 ML2 MR2 → RW X G RL cL_law 7 room_1 0 SH MI2 ML2 MR2 cells slots 1517 [(4, .int (nI i)), (3, .ref 154), (2, .ref 124), (1, .ref 0), (0, .ref 1300)] []) : RW X G RL cL_law 7 room_1 0 SH MI ML MR cells slots 411 [(4, .int (nI i)), (3, .ref 154), (2, .ref 124), (1, .ref 0), (0, .ref 1300)] [] := by
  obtain ⟨r, S, A, Gn, b, K, u, bi, bo, w, h⟩ := hI
  obtain ⟨d1, Q1, hd1, hC1, hQ⟩ := two_arc (X := X) (x := (xs (nI i + 1).toNatClampNeg)) (y := (xs (nI i + 2).toNatClampNeg))  h
  refine r_aload_n 3 rfl dL_law_411 ?_
  refine r_aload_n 4 rfl dL_law_412 ?_
  refine r_iload 0 rfl dL_law_413 ?_
  refine r_iconst (v := 1) rfl dL_law_415 ?_
  refine r_iadd dL_law_416 ?_
  refine r_scr hX dL_law_417 (sc_in (k := 1) rfl (by omega) hL) ?_
  refine r_aload_n 4 rfl dL_law_418 ?_
  refine r_iload 0 rfl dL_law_419 ?_
  refine r_iconst (v := 2) rfl dL_law_421 ?_
  refine r_iadd dL_law_422 ?_
  refine r_scr hX dL_law_423 (sc_in (k := 2) rfl (by omega) hL) ?_
  refine r_Vg [.int _, .int _] dL_law_424 lk_L_50 mb_X10_arc in_X10_arc se_X10_arc rfl hC1 rfl rfl rfl (Nat.le_of_ble_eq_true rfl) (fit0 hd1 (by decide) hc) (fun zr zA zB zC hz => ?_)
  obtain ⟨v, d2, Q2, rfl, hd2, hC2, hQ2⟩ := hQ zr zA zB zC hz
  show RW X G _ _ _ _ _ _ _ _ _ _ _ _ _ [.int v]
  refine r_aload_n 2 rfl dL_law_427 ?_
  refine r_aload_n 4 rfl dL_law_428 ?_
  refine r_iload 0 rfl dL_law_429 ?_
  refine r_iconst (v := 1) rfl dL_law_431 ?_
  refine r_iadd dL_law_432 ?_
  refine r_scr hX dL_law_433 (sc_in (k := 1) rfl (by omega) hL) ?_
  refine r_aload_n 4 rfl dL_law_434 ?_
  refine r_iload 0 rfl dL_law_435 ?_
  refine r_iconst (v := 2) rfl dL_law_437 ?_
  refine r_iadd dL_law_438 ?_
  refine r_scr hX dL_law_439 (sc_in (k := 2) rfl (by omega) hL) ?_
  refine r_Vg [.int _, .int _] dL_law_440 lk_L_53 mb_X11_arc in_X11_arc se_X11_arc rfl hC2 rfl rfl rfl (Nat.le_of_ble_eq_true rfl) (fit0 hd2 (by decide) hc) (fun zr2 zA2 zB2 zC2 hz2 => ?_)
  obtain ⟨rfl, hI2⟩ := hQ2 zr2 zA2 zB2 zC2 hz2
  show RW X G _ _ _ _ _ _ _ _ _ _ _ _ _ [.int v, .int v]
  exact r_icmpeq (tgt := 1517) dL_law_443 (by decide) (fun _ => k _ _ _ hI2) (fun q => absurd rfl q)
theorem lc_gate (E : lwE X) (hX : x_Sc X G L xs) (hi : i + 6 ≤ L) (hL : L ≤ 3072) (hI : InvE MI ML MR) (hc : cells ≤ 600000 ∧ slots ≤ 7000000) (k : ∀ MI2 ML2 MR2, InvE MI2 ML2 MR2 → RW X G RL cL_law 7 room_1 0 SH MI2 ML2 MR2 cells slots 1517 [(4, .int (nI i)), (3, .ref 154), (2, .ref 124), (1, .ref 0), (0, .ref 1300)] []) : RW X G RL cL_law 7 room_1 0 SH MI ML MR cells slots 448 [(4, .int (nI i)), (3, .ref 154), (2, .ref 124), (1, .ref 0), (0, .ref 1300)] [] := by
  obtain ⟨r, S, A, Gn, b, K, u, bi, bo, w, h⟩ := hI
  obtain ⟨d1, Q1, hd1, hC1, hQ⟩ := two_gate (X := X) (x := (xs (nI i + 1).toNatClampNeg)) (y := (xs (nI i + 2).toNatClampNeg))  h
  refine r_aload_n 3 rfl dL_law_448 ?_
  refine r_aload_n 4 rfl dL_law_449 ?_
  refine r_iload 0 rfl dL_law_450 ?_
  refine r_iconst (v := 1) rfl dL_law_452 ?_
  refine r_iadd dL_law_453 ?_
  refine r_scr hX dL_law_454 (sc_in (k := 1) rfl (by omega) hL) ?_
  refine r_aload_n 4 rfl dL_law_455 ?_
  refine r_iload 0 rfl dL_law_456 ?_
  refine r_iconst (v := 2) rfl dL_law_458 ?_
  refine r_iadd dL_law_459 ?_
  refine r_scr hX dL_law_460 (sc_in (k := 2) rfl (by omega) hL) ?_
  refine r_Vg [.int _, .int _] dL_law_461 lk_L_54 mb_X10_gate in_X10_gate se_X10_gate rfl hC1 rfl rfl rfl (Nat.le_of_ble_eq_true rfl) (fit0 hd1 (by decide) hc) (fun zr zA zB zC hz => ?_)
  obtain ⟨v, d2, Q2, rfl, hd2, hC2, hQ2⟩ := hQ zr zA zB zC hz
  show RW X G _ _ _ _ _ _ _ _ _ _ _ _ _ [.int v]
  refine r_aload_n 2 rfl dL_law_464 ?_
  refine r_aload_n 4 rfl dL_law_465 ?_
  refine r_iload 0 rfl dL_law_466 ?_
  refine r_iconst (v := 1) rfl dL_law_468 ?_
  refine r_iadd dL_law_469 ?_
  refine r_scr hX dL_law_470 (sc_in (k := 1) rfl (by omega) hL) ?_
  refine r_aload_n 4 rfl dL_law_471 ?_
  refine r_iload 0 rfl dL_law_472 ?_
  refine r_iconst (v := 2) rfl dL_law_474 ?_
  refine r_iadd dL_law_475 ?_
  refine r_scr hX dL_law_476 (sc_in (k := 2) rfl (by omega) hL) ?_
  refine r_Vg [.int _, .int _] dL_law_477 lk_L_57 mb_X11_gate in_X11_gate se_X11_gate rfl hC2 rfl rfl rfl (Nat.le_of_ble_eq_true rfl) (fit0 hd2 (by decide) hc) (fun zr2 zA2 zB2 zC2 hz2 => ?_)
  obtain ⟨rfl, hI2⟩ := hQ2 zr2 zA2 zB2 zC2 hz2
  show RW X G _ _ _ _ _ _ _ _ _ _ _ _ _ [.int v, .int v]
  exact r_icmpeq (tgt := 1517) dL_law_480 (by decide) (fun _ => k _ _ _ hI2) (fun q => absurd rfl q)
theorem lc_at (E : lwE X) (hX : x_Sc X G L xs) (hi : i + 6 ≤ L) (hL : L ≤ 3072) (hI : InvE MI ML MR) (hc : cells ≤ 600000 ∧ slots ≤ 7000000) (k : ∀ MI2 ML2 MR2, InvE MI2 ML2 MR2 → RW X G RL cL_law 7 room_1 0 SH MI2 ML2 MR2 cells slots 1517 [(4, .int (nI i)), (3, .ref 154), (2, .ref 124), (1, .ref 0), (0, .ref 1300)] []) : RW X G RL cL_law 7 room_1 0 SH MI ML MR cells slots 485 [(4, .int (nI i)), (3, .ref 154), (2, .ref 124), (1, .ref 0), (0, .ref 1300)] [] := by
  obtain ⟨r, S, A, Gn, b, K, u, bi, bo, w, h⟩ := hI
  obtain ⟨d1, Q1, hd1, hC1, hQ⟩ := two_at (X := X) (x := (xs (nI i + 1).toNatClampNeg)) (y := (xs (nI i + 2).toNatClampNeg))  h
  refine r_aload_n 3 rfl dL_law_485 ?_
  refine r_aload_n 4 rfl dL_law_486 ?_
  refine r_iload 0 rfl dL_law_487 ?_
  refine r_iconst (v := 1) rfl dL_law_489 ?_
  refine r_iadd dL_law_490 ?_
  refine r_scr hX dL_law_491 (sc_in (k := 1) rfl (by omega) hL) ?_
  refine r_aload_n 4 rfl dL_law_492 ?_
  refine r_iload 0 rfl dL_law_493 ?_
  refine r_iconst (v := 2) rfl dL_law_495 ?_
  refine r_iadd dL_law_496 ?_
  refine r_scr hX dL_law_497 (sc_in (k := 2) rfl (by omega) hL) ?_
  refine r_Vg [.int _, .int _] dL_law_498 lk_L_58 mb_X10_at in_X10_at se_X10_at rfl hC1 rfl rfl rfl (Nat.le_of_ble_eq_true rfl) (fit0 hd1 (by decide) hc) (fun zr zA zB zC hz => ?_)
  obtain ⟨v, d2, Q2, rfl, hd2, hC2, hQ2⟩ := hQ zr zA zB zC hz
  show RW X G _ _ _ _ _ _ _ _ _ _ _ _ _ [.int v]
  refine r_aload_n 2 rfl dL_law_501 ?_
  refine r_aload_n 4 rfl dL_law_502 ?_
  refine r_iload 0 rfl dL_law_503 ?_
  refine r_iconst (v := 1) rfl dL_law_505 ?_
  refine r_iadd dL_law_506 ?_
  refine r_scr hX dL_law_507 (sc_in (k := 1) rfl (by omega) hL) ?_
  refine r_aload_n 4 rfl dL_law_508 ?_
  refine r_iload 0 rfl dL_law_509 ?_
  refine r_iconst (v := 2) rfl dL_law_511 ?_
  refine r_iadd dL_law_512 ?_
  refine r_scr hX dL_law_513 (sc_in (k := 2) rfl (by omega) hL) ?_
  refine r_Vg [.int _, .int _] dL_law_514 lk_L_61 mb_X11_at in_X11_at se_X11_at rfl hC2 rfl rfl rfl (Nat.le_of_ble_eq_true rfl) (fit0 hd2 (by decide) hc) (fun zr2 zA2 zB2 zC2 hz2 => ?_)
  obtain ⟨rfl, hI2⟩ := hQ2 zr2 zA2 zB2 zC2 hz2
  show RW X G _ _ _ _ _ _ _ _ _ _ _ _ _ [.int v, .int v]
  exact r_icmpeq (tgt := 1517) dL_law_517 (by decide) (fun _ => k _ _ _ hI2) (fun q => absurd rfl q)
theorem lc_points (E : lwE X) (hX : x_Sc X G L xs) (hi : i + 6 ≤ L) (hL : L ≤ 3072) (hI : InvE MI ML MR) (hc : cells ≤ 600000 ∧ slots ≤ 7000000) (k : ∀ MI2 ML2 MR2, InvE MI2 ML2 MR2 → RW X G RL cL_law 7 room_1 0 SH MI2 ML2 MR2 cells slots 1517 [(4, .int (nI i)), (3, .ref 154), (2, .ref 124), (1, .ref 0), (0, .ref 1300)] []) : RW X G RL cL_law 7 room_1 0 SH MI ML MR cells slots 522 [(4, .int (nI i)), (3, .ref 154), (2, .ref 124), (1, .ref 0), (0, .ref 1300)] [] := by
  obtain ⟨r, S, A, Gn, b, K, u, bi, bo, w, h⟩ := hI
  obtain ⟨d1, Q1, hd1, hC1, hQ⟩ := two_points (X := X) (x := (xs (nI i + 1).toNatClampNeg)) (y := (xs (nI i + 2).toNatClampNeg))  h
  refine r_aload_n 3 rfl dL_law_522 ?_
  refine r_aload_n 4 rfl dL_law_523 ?_
  refine r_iload 0 rfl dL_law_524 ?_
  refine r_iconst (v := 1) rfl dL_law_526 ?_
  refine r_iadd dL_law_527 ?_
  refine r_scr hX dL_law_528 (sc_in (k := 1) rfl (by omega) hL) ?_
  refine r_aload_n 4 rfl dL_law_529 ?_
  refine r_iload 0 rfl dL_law_530 ?_
  refine r_iconst (v := 2) rfl dL_law_532 ?_
  refine r_iadd dL_law_533 ?_
  refine r_scr hX dL_law_534 (sc_in (k := 2) rfl (by omega) hL) ?_
  refine r_Vg [.int _, .int _] dL_law_535 lk_L_62 mb_X10_points in_X10_points se_X10_points rfl hC1 rfl rfl rfl (Nat.le_of_ble_eq_true rfl) (fit0 hd1 (by decide) hc) (fun zr zA zB zC hz => ?_)
  obtain ⟨v, d2, Q2, rfl, hd2, hC2, hQ2⟩ := hQ zr zA zB zC hz
  show RW X G _ _ _ _ _ _ _ _ _ _ _ _ _ [.int v]
  refine r_aload_n 2 rfl dL_law_538 ?_
  refine r_aload_n 4 rfl dL_law_539 ?_
  refine r_iload 0 rfl dL_law_540 ?_
  refine r_iconst (v := 1) rfl dL_law_542 ?_
  refine r_iadd dL_law_543 ?_
  refine r_scr hX dL_law_544 (sc_in (k := 1) rfl (by omega) hL) ?_
  refine r_aload_n 4 rfl dL_law_545 ?_
  refine r_iload 0 rfl dL_law_546 ?_
  refine r_iconst (v := 2) rfl dL_law_548 ?_
  refine r_iadd dL_law_549 ?_
  refine r_scr hX dL_law_550 (sc_in (k := 2) rfl (by omega) hL) ?_
  refine r_Vg [.int _, .int _] dL_law_551 lk_L_65 mb_X11_points in_X11_points se_X11_points rfl hC2 rfl rfl rfl (Nat.le_of_ble_eq_true rfl) (fit0 hd2 (by decide) hc) (fun zr2 zA2 zB2 zC2 hz2 => ?_)
  obtain ⟨rfl, hI2⟩ := hQ2 zr2 zA2 zB2 zC2 hz2
  show RW X G _ _ _ _ _ _ _ _ _ _ _ _ _ [.int v, .int v]
  exact r_icmpeq (tgt := 1517) dL_law_554 (by decide) (fun _ => k _ _ _ hI2) (fun q => absurd rfl q)
theorem lc_required (E : lwE X) (hX : x_Sc X G L xs) (hi : i + 6 ≤ L) (hL : L ≤ 3072) (hI : InvE MI ML MR) (hc : cells ≤ 600000 ∧ slots ≤ 7000000) (k : ∀ MI2 ML2 MR2, InvE MI2 ML2 MR2 → RW X G RL cL_law 7 room_1 0 SH MI2 ML2 MR2 cells slots 1517 [(4, .int (nI i)), (3, .ref 154), (2, .ref 124), (1, .ref 0), (0, .ref 1300)] []) : RW X G RL cL_law 7 room_1 0 SH MI ML MR cells slots 559 [(4, .int (nI i)), (3, .ref 154), (2, .ref 124), (1, .ref 0), (0, .ref 1300)] [] := by
  obtain ⟨r, S, A, Gn, b, K, u, bi, bo, w, h⟩ := hI
  obtain ⟨d1, Q1, hd1, hC1, hQ⟩ := two_required (X := X) (x := (xs (nI i + 1).toNatClampNeg)) E.2.2 h
  refine r_aload_n 3 rfl dL_law_559 ?_
  refine r_aload_n 4 rfl dL_law_560 ?_
  refine r_iload 0 rfl dL_law_561 ?_
  refine r_iconst (v := 1) rfl dL_law_563 ?_
  refine r_iadd dL_law_564 ?_
  refine r_scr hX dL_law_565 (sc_in (k := 1) rfl (by omega) hL) ?_
  refine r_Vg [.int _] dL_law_566 lk_L_66 mb_X10_required in_X10_required se_X10_required rfl hC1 rfl rfl rfl (Nat.le_of_ble_eq_true rfl) (fit0 hd1 (by decide) hc) (fun zr zA zB zC hz => ?_)
  obtain ⟨v, d2, Q2, rfl, hd2, hC2, hQ2⟩ := hQ zr zA zB zC hz
  show RW X G _ _ _ _ _ _ _ _ _ _ _ _ _ [.int v]
  refine r_aload_n 2 rfl dL_law_569 ?_
  refine r_aload_n 4 rfl dL_law_570 ?_
  refine r_iload 0 rfl dL_law_571 ?_
  refine r_iconst (v := 1) rfl dL_law_573 ?_
  refine r_iadd dL_law_574 ?_
  refine r_scr hX dL_law_575 (sc_in (k := 1) rfl (by omega) hL) ?_
  refine r_Vg [.int _] dL_law_576 lk_L_69 mb_X11_required in_X11_required se_X11_required rfl hC2 rfl rfl rfl (Nat.le_of_ble_eq_true rfl) (fit0 hd2 (by decide) hc) (fun zr2 zA2 zB2 zC2 hz2 => ?_)
  obtain ⟨rfl, hI2⟩ := hQ2 zr2 zA2 zB2 zC2 hz2
  show RW X G _ _ _ _ _ _ _ _ _ _ _ _ _ [.int v, .int v]
  exact r_icmpeq (tgt := 1517) dL_law_579 (by decide) (fun _ => k _ _ _ hI2) (fun q => absurd rfl q)
theorem lc_requiredCube (E : lwE X) (hX : x_Sc X G L xs) (hi : i + 6 ≤ L) (hL : L ≤ 3072) (hI : InvE MI ML MR) (hc : cells ≤ 600000 ∧ slots ≤ 7000000) (k : ∀ MI2 ML2 MR2, InvE MI2 ML2 MR2 → RW X G RL cL_law 7 room_1 0 SH MI2 ML2 MR2 cells slots 1517 [(4, .int (nI i)), (3, .ref 154), (2, .ref 124), (1, .ref 0), (0, .ref 1300)] []) : RW X G RL cL_law 7 room_1 0 SH MI ML MR cells slots 584 [(4, .int (nI i)), (3, .ref 154), (2, .ref 124), (1, .ref 0), (0, .ref 1300)] [] := by
  obtain ⟨r, S, A, Gn, b, K, u, bi, bo, w, h⟩ := hI
  obtain ⟨d1, Q1, hd1, hC1, hQ⟩ := two_requiredCube (X := X) (x := (xs (nI i + 1).toNatClampNeg)) (y := (xs (nI i + 2).toNatClampNeg)) E.2.2 h
  refine r_aload_n 3 rfl dL_law_584 ?_
  refine r_aload_n 4 rfl dL_law_585 ?_
  refine r_iload 0 rfl dL_law_586 ?_
  refine r_iconst (v := 1) rfl dL_law_588 ?_
  refine r_iadd dL_law_589 ?_
  refine r_scr hX dL_law_590 (sc_in (k := 1) rfl (by omega) hL) ?_
  refine r_aload_n 4 rfl dL_law_591 ?_
  refine r_iload 0 rfl dL_law_592 ?_
  refine r_iconst (v := 2) rfl dL_law_594 ?_
  refine r_iadd dL_law_595 ?_
  refine r_scr hX dL_law_596 (sc_in (k := 2) rfl (by omega) hL) ?_
  refine r_Vg [.int _, .int _] dL_law_597 lk_L_70 mb_X10_requiredCube in_X10_requiredCube se_X10_requiredCube rfl hC1 rfl rfl rfl (Nat.le_of_ble_eq_true rfl) (fit0 hd1 (by decide) hc) (fun zr zA zB zC hz => ?_)
  obtain ⟨v, d2, Q2, rfl, hd2, hC2, hQ2⟩ := hQ zr zA zB zC hz
  show RW X G _ _ _ _ _ _ _ _ _ _ _ _ _ [.int v]
  refine r_aload_n 2 rfl dL_law_600 ?_
  refine r_aload_n 4 rfl dL_law_601 ?_
  refine r_iload 0 rfl dL_law_602 ?_
  refine r_iconst (v := 1) rfl dL_law_604 ?_
  refine r_iadd dL_law_605 ?_
  refine r_scr hX dL_law_606 (sc_in (k := 1) rfl (by omega) hL) ?_
  refine r_aload_n 4 rfl dL_law_607 ?_
  refine r_iload 0 rfl dL_law_608 ?_
  refine r_iconst (v := 2) rfl dL_law_610 ?_
  refine r_iadd dL_law_611 ?_
  refine r_scr hX dL_law_612 (sc_in (k := 2) rfl (by omega) hL) ?_
  refine r_Vg [.int _, .int _] dL_law_613 lk_L_73 mb_X11_requiredCube in_X11_requiredCube se_X11_requiredCube rfl hC2 rfl rfl rfl (Nat.le_of_ble_eq_true rfl) (fit0 hd2 (by decide) hc) (fun zr2 zA2 zB2 zC2 hz2 => ?_)
  obtain ⟨rfl, hI2⟩ := hQ2 zr2 zA2 zB2 zC2 hz2
  show RW X G _ _ _ _ _ _ _ _ _ _ _ _ _ [.int v, .int v]
  exact r_icmpeq (tgt := 1517) dL_law_616 (by decide) (fun _ => k _ _ _ hI2) (fun q => absurd rfl q)
theorem lc_falls (E : lwE X) (hX : x_Sc X G L xs) (hi : i + 6 ≤ L) (hL : L ≤ 3072) (hI : InvE MI ML MR) (hc : cells ≤ 600000 ∧ slots ≤ 7000000) (k : ∀ MI2 ML2 MR2, InvE MI2 ML2 MR2 → RW X G RL cL_law 7 room_1 0 SH MI2 ML2 MR2 cells slots 1517 [(4, .int (nI i)), (3, .ref 154), (2, .ref 124), (1, .ref 0), (0, .ref 1300)] []) : RW X G RL cL_law 7 room_1 0 SH MI ML MR cells slots 621 [(4, .int (nI i)), (3, .ref 154), (2, .ref 124), (1, .ref 0), (0, .ref 1300)] [] := by
  obtain ⟨r, S, A, Gn, b, K, u, bi, bo, w, h⟩ := hI
  obtain ⟨d1, Q1, hd1, hC1, hQ⟩ := two_falls (X := X) (x := (xs (nI i + 1).toNatClampNeg)) E.2.2 h
  refine r_aload_n 3 rfl dL_law_621 ?_
  refine r_aload_n 4 rfl dL_law_622 ?_
  refine r_iload 0 rfl dL_law_623 ?_
  refine r_iconst (v := 1) rfl dL_law_625 ?_
  refine r_iadd dL_law_626 ?_
  refine r_scr hX dL_law_627 (sc_in (k := 1) rfl (by omega) hL) ?_
  refine r_Vg [.int _] dL_law_628 lk_L_74 mb_X10_falls in_X10_falls se_X10_falls rfl hC1 rfl rfl rfl (Nat.le_of_ble_eq_true rfl) (fit0 hd1 (by decide) hc) (fun zr zA zB zC hz => ?_)
  obtain ⟨v, d2, Q2, rfl, hd2, hC2, hQ2⟩ := hQ zr zA zB zC hz
  show RW X G _ _ _ _ _ _ _ _ _ _ _ _ _ [.int v]
  refine r_aload_n 2 rfl dL_law_631 ?_
  refine r_aload_n 4 rfl dL_law_632 ?_
  refine r_iload 0 rfl dL_law_633 ?_
  refine r_iconst (v := 1) rfl dL_law_635 ?_
  refine r_iadd dL_law_636 ?_
  refine r_scr hX dL_law_637 (sc_in (k := 1) rfl (by omega) hL) ?_
  refine r_Vg [.int _] dL_law_638 lk_L_77 mb_X11_falls in_X11_falls se_X11_falls rfl hC2 rfl rfl rfl (Nat.le_of_ble_eq_true rfl) (fit0 hd2 (by decide) hc) (fun zr2 zA2 zB2 zC2 hz2 => ?_)
  obtain ⟨rfl, hI2⟩ := hQ2 zr2 zA2 zB2 zC2 hz2
  show RW X G _ _ _ _ _ _ _ _ _ _ _ _ _ [.int v, .int v]
  exact r_icmpeq (tgt := 1517) dL_law_641 (by decide) (fun _ => k _ _ _ hI2) (fun q => absurd rfl q)
theorem lc_safe (E : lwE X) (hX : x_Sc X G L xs) (hi : i + 6 ≤ L) (hL : L ≤ 3072) (hI : InvE MI ML MR) (hc : cells ≤ 600000 ∧ slots ≤ 7000000) (k : ∀ MI2 ML2 MR2, InvE MI2 ML2 MR2 → RW X G RL cL_law 7 room_1 0 SH MI2 ML2 MR2 cells slots 1517 [(4, .int (nI i)), (3, .ref 154), (2, .ref 124), (1, .ref 0), (0, .ref 1300)] []) : RW X G RL cL_law 7 room_1 0 SH MI ML MR cells slots 646 [(4, .int (nI i)), (3, .ref 154), (2, .ref 124), (1, .ref 0), (0, .ref 1300)] [] := by
  obtain ⟨r, S, A, Gn, b, K, u, bi, bo, w, h⟩ := hI
  obtain ⟨d1, Q1, hd1, hC1, hQ⟩ := two_safe (X := X) (x := (xs (nI i + 1).toNatClampNeg)) (y := (xs (nI i + 2).toNatClampNeg)) E.2.2 h
  refine r_aload_n 3 rfl dL_law_646 ?_
  refine r_aload_n 4 rfl dL_law_647 ?_
  refine r_iload 0 rfl dL_law_648 ?_
  refine r_iconst (v := 1) rfl dL_law_650 ?_
  refine r_iadd dL_law_651 ?_
  refine r_scr hX dL_law_652 (sc_in (k := 1) rfl (by omega) hL) ?_
  refine r_aload_n 4 rfl dL_law_653 ?_
  refine r_iload 0 rfl dL_law_654 ?_
  refine r_iconst (v := 2) rfl dL_law_656 ?_
  refine r_iadd dL_law_657 ?_
  refine r_scr hX dL_law_658 (sc_in (k := 2) rfl (by omega) hL) ?_
  refine r_Vg [.int _, .int _] dL_law_659 lk_L_78 mb_X10_safe in_X10_safe se_X10_safe rfl hC1 rfl rfl rfl (Nat.le_of_ble_eq_true rfl) (fit0 hd1 (by decide) hc) (fun zr zA zB zC hz => ?_)
  obtain ⟨v, d2, Q2, rfl, hd2, hC2, hQ2⟩ := hQ zr zA zB zC hz
  show RW X G _ _ _ _ _ _ _ _ _ _ _ _ _ [.int v]
  refine r_aload_n 2 rfl dL_law_662 ?_
  refine r_aload_n 4 rfl dL_law_663 ?_
  refine r_iload 0 rfl dL_law_664 ?_
  refine r_iconst (v := 1) rfl dL_law_666 ?_
  refine r_iadd dL_law_667 ?_
  refine r_scr hX dL_law_668 (sc_in (k := 1) rfl (by omega) hL) ?_
  refine r_aload_n 4 rfl dL_law_669 ?_
  refine r_iload 0 rfl dL_law_670 ?_
  refine r_iconst (v := 2) rfl dL_law_672 ?_
  refine r_iadd dL_law_673 ?_
  refine r_scr hX dL_law_674 (sc_in (k := 2) rfl (by omega) hL) ?_
  refine r_Vg [.int _, .int _] dL_law_675 lk_L_81 mb_X11_safe in_X11_safe se_X11_safe rfl hC2 rfl rfl rfl (Nat.le_of_ble_eq_true rfl) (fit0 hd2 (by decide) hc) (fun zr2 zA2 zB2 zC2 hz2 => ?_)
  obtain ⟨rfl, hI2⟩ := hQ2 zr2 zA2 zB2 zC2 hz2
  show RW X G _ _ _ _ _ _ _ _ _ _ _ _ _ [.int v, .int v]
  exact r_icmpeq (tgt := 1517) dL_law_678 (by decide) (fun _ => k _ _ _ hI2) (fun q => absurd rfl q)
theorem lc_primes (E : lwE X) (hX : x_Sc X G L xs) (hi : i + 6 ≤ L) (hL : L ≤ 3072) (hI : InvE MI ML MR) (hc : cells ≤ 600000 ∧ slots ≤ 7000000) (k : ∀ MI2 ML2 MR2, InvE MI2 ML2 MR2 → RW X G RL cL_law 7 room_1 0 SH MI2 ML2 MR2 cells slots 1517 [(4, .int (nI i)), (3, .ref 154), (2, .ref 124), (1, .ref 0), (0, .ref 1300)] []) : RW X G RL cL_law 7 room_1 0 SH MI ML MR cells slots 683 [(4, .int (nI i)), (3, .ref 154), (2, .ref 124), (1, .ref 0), (0, .ref 1300)] [] := by
  obtain ⟨r, S, A, Gn, b, K, u, bi, bo, w, h⟩ := hI
  obtain ⟨d1, Q1, hd1, hC1, hQ⟩ := two_primes (X := X) (x := (xs (nI i + 1).toNatClampNeg)) E.2.2 h
  refine r_aload_n 3 rfl dL_law_683 ?_
  refine r_aload_n 4 rfl dL_law_684 ?_
  refine r_iload 0 rfl dL_law_685 ?_
  refine r_iconst (v := 1) rfl dL_law_687 ?_
  refine r_iadd dL_law_688 ?_
  refine r_scr hX dL_law_689 (sc_in (k := 1) rfl (by omega) hL) ?_
  refine r_Vg [.int _] dL_law_690 lk_L_82 mb_X10_primes in_X10_primes se_X10_primes rfl hC1 rfl rfl rfl (Nat.le_of_ble_eq_true rfl) (fit0 hd1 (by decide) hc) (fun zr zA zB zC hz => ?_)
  obtain ⟨v, d2, Q2, rfl, hd2, hC2, hQ2⟩ := hQ zr zA zB zC hz
  show RW X G _ _ _ _ _ _ _ _ _ _ _ _ _ [.int v]
  refine r_aload_n 2 rfl dL_law_693 ?_
  refine r_aload_n 4 rfl dL_law_694 ?_
  refine r_iload 0 rfl dL_law_695 ?_
  refine r_iconst (v := 1) rfl dL_law_697 ?_
  refine r_iadd dL_law_698 ?_
  refine r_scr hX dL_law_699 (sc_in (k := 1) rfl (by omega) hL) ?_
  refine r_Vg [.int _] dL_law_700 lk_L_85 mb_X11_primes in_X11_primes se_X11_primes rfl hC2 rfl rfl rfl (Nat.le_of_ble_eq_true rfl) (fit0 hd2 (by decide) hc) (fun zr2 zA2 zB2 zC2 hz2 => ?_)
  obtain ⟨rfl, hI2⟩ := hQ2 zr2 zA2 zB2 zC2 hz2
  show RW X G _ _ _ _ _ _ _ _ _ _ _ _ _ [.int v, .int v]
  exact r_icmpeq (tgt := 1517) dL_law_703 (by decide) (fun _ => k _ _ _ hI2) (fun q => absurd rfl q)
theorem lc_prime (E : lwE X) (hX : x_Sc X G L xs) (hi : i + 6 ≤ L) (hL : L ≤ 3072) (hI : InvE MI ML MR) (hc : cells ≤ 600000 ∧ slots ≤ 7000000) (k : ∀ MI2 ML2 MR2, InvE MI2 ML2 MR2 → RW X G RL cL_law 7 room_1 0 SH MI2 ML2 MR2 cells slots 1517 [(4, .int (nI i)), (3, .ref 154), (2, .ref 124), (1, .ref 0), (0, .ref 1300)] []) : RW X G RL cL_law 7 room_1 0 SH MI ML MR cells slots 708 [(4, .int (nI i)), (3, .ref 154), (2, .ref 124), (1, .ref 0), (0, .ref 1300)] [] := by
  obtain ⟨r, S, A, Gn, b, K, u, bi, bo, w, h⟩ := hI
  obtain ⟨d1, Q1, hd1, hC1, hQ⟩ := two_prime (X := X) (x := (xs (nI i + 1).toNatClampNeg)) (y := (xs (nI i + 2).toNatClampNeg)) E.2.2 h
  refine r_aload_n 3 rfl dL_law_708 ?_
  refine r_aload_n 4 rfl dL_law_709 ?_
  refine r_iload 0 rfl dL_law_710 ?_
  refine r_iconst (v := 1) rfl dL_law_712 ?_
  refine r_iadd dL_law_713 ?_
  refine r_scr hX dL_law_714 (sc_in (k := 1) rfl (by omega) hL) ?_
  refine r_aload_n 4 rfl dL_law_715 ?_
  refine r_iload 0 rfl dL_law_716 ?_
  refine r_iconst (v := 2) rfl dL_law_718 ?_
  refine r_iadd dL_law_719 ?_
  refine r_scr hX dL_law_720 (sc_in (k := 2) rfl (by omega) hL) ?_
  refine r_Vg [.int _, .int _] dL_law_721 lk_L_86 mb_X10_prime in_X10_prime se_X10_prime rfl hC1 rfl rfl rfl (Nat.le_of_ble_eq_true rfl) (fit0 hd1 (by decide) hc) (fun zr zA zB zC hz => ?_)
  obtain ⟨v, d2, Q2, rfl, hd2, hC2, hQ2⟩ := hQ zr zA zB zC hz
  show RW X G _ _ _ _ _ _ _ _ _ _ _ _ _ [.int v]
  refine r_aload_n 2 rfl dL_law_724 ?_
  refine r_aload_n 4 rfl dL_law_725 ?_
  refine r_iload 0 rfl dL_law_726 ?_
  refine r_iconst (v := 1) rfl dL_law_728 ?_
  refine r_iadd dL_law_729 ?_
  refine r_scr hX dL_law_730 (sc_in (k := 1) rfl (by omega) hL) ?_
  refine r_aload_n 4 rfl dL_law_731 ?_
  refine r_iload 0 rfl dL_law_732 ?_
  refine r_iconst (v := 2) rfl dL_law_734 ?_
  refine r_iadd dL_law_735 ?_
  refine r_scr hX dL_law_736 (sc_in (k := 2) rfl (by omega) hL) ?_
  refine r_Vg [.int _, .int _] dL_law_737 lk_L_89 mb_X11_prime in_X11_prime se_X11_prime rfl hC2 rfl rfl rfl (Nat.le_of_ble_eq_true rfl) (fit0 hd2 (by decide) hc) (fun zr2 zA2 zB2 zC2 hz2 => ?_)
  obtain ⟨rfl, hI2⟩ := hQ2 zr2 zA2 zB2 zC2 hz2
  show RW X G _ _ _ _ _ _ _ _ _ _ _ _ _ [.int v, .int v]
  exact r_icmpeq (tgt := 1517) dL_law_740 (by decide) (fun _ => k _ _ _ hI2) (fun q => absurd rfl q)
theorem lc_needed (E : lwE X) (hX : x_Sc X G L xs) (hi : i + 6 ≤ L) (hL : L ≤ 3072) (hI : InvE MI ML MR) (hc : cells ≤ 600000 ∧ slots ≤ 7000000) (k : ∀ MI2 ML2 MR2, InvE MI2 ML2 MR2 → RW X G RL cL_law 7 room_1 0 SH MI2 ML2 MR2 cells slots 1517 [(4, .int (nI i)), (3, .ref 154), (2, .ref 124), (1, .ref 0), (0, .ref 1300)] []) : RW X G RL cL_law 7 room_1 0 SH MI ML MR cells slots 745 [(4, .int (nI i)), (3, .ref 154), (2, .ref 124), (1, .ref 0), (0, .ref 1300)] [] := by
  obtain ⟨r, S, A, Gn, b, K, u, bi, bo, w, h⟩ := hI
  obtain ⟨d1, Q1, hd1, hC1, hQ⟩ := two_needed (X := X) (x := (xs (nI i + 1).toNatClampNeg)) E.2.2 h
  refine r_aload_n 3 rfl dL_law_745 ?_
  refine r_aload_n 4 rfl dL_law_746 ?_
  refine r_iload 0 rfl dL_law_747 ?_
  refine r_iconst (v := 1) rfl dL_law_749 ?_
  refine r_iadd dL_law_750 ?_
  refine r_scr hX dL_law_751 (sc_in (k := 1) rfl (by omega) hL) ?_
  refine r_Vg [.int _] dL_law_752 lk_L_90 mb_X10_needed in_X10_needed se_X10_needed rfl hC1 rfl rfl rfl (Nat.le_of_ble_eq_true rfl) (fit0 hd1 (by decide) hc) (fun zr zA zB zC hz => ?_)
  obtain ⟨v, d2, Q2, rfl, hd2, hC2, hQ2⟩ := hQ zr zA zB zC hz
  show RW X G _ _ _ _ _ _ _ _ _ _ _ _ _ [.int v]
  refine r_aload_n 2 rfl dL_law_755 ?_
  refine r_aload_n 4 rfl dL_law_756 ?_
  refine r_iload 0 rfl dL_law_757 ?_
  refine r_iconst (v := 1) rfl dL_law_759 ?_
  refine r_iadd dL_law_760 ?_
  refine r_scr hX dL_law_761 (sc_in (k := 1) rfl (by omega) hL) ?_
  refine r_Vg [.int _] dL_law_762 lk_L_93 mb_X11_needed in_X11_needed se_X11_needed rfl hC2 rfl rfl rfl (Nat.le_of_ble_eq_true rfl) (fit0 hd2 (by decide) hc) (fun zr2 zA2 zB2 zC2 hz2 => ?_)
  obtain ⟨rfl, hI2⟩ := hQ2 zr2 zA2 zB2 zC2 hz2
  show RW X G _ _ _ _ _ _ _ _ _ _ _ _ _ [.int v, .int v]
  exact r_icmpeq (tgt := 1517) dL_law_765 (by decide) (fun _ => k _ _ _ hI2) (fun q => absurd rfl q)
theorem lc_lacking (E : lwE X) (hX : x_Sc X G L xs) (hi : i + 6 ≤ L) (hL : L ≤ 3072) (hI : InvE MI ML MR) (hc : cells ≤ 600000 ∧ slots ≤ 7000000) (k : ∀ MI2 ML2 MR2, InvE MI2 ML2 MR2 → RW X G RL cL_law 7 room_1 0 SH MI2 ML2 MR2 cells slots 1517 [(4, .int (nI i)), (3, .ref 154), (2, .ref 124), (1, .ref 0), (0, .ref 1300)] []) : RW X G RL cL_law 7 room_1 0 SH MI ML MR cells slots 770 [(4, .int (nI i)), (3, .ref 154), (2, .ref 124), (1, .ref 0), (0, .ref 1300)] [] := by
  obtain ⟨r, S, A, Gn, b, K, u, bi, bo, w, h⟩ := hI
  obtain ⟨d1, Q1, hd1, hC1, hQ⟩ := two_lacking (X := X) (x := (xs (nI i + 1).toNatClampNeg)) E.2.2 h
  refine r_aload_n 3 rfl dL_law_770 ?_
  refine r_aload_n 4 rfl dL_law_771 ?_
  refine r_iload 0 rfl dL_law_772 ?_
  refine r_iconst (v := 1) rfl dL_law_774 ?_
  refine r_iadd dL_law_775 ?_
  refine r_scr hX dL_law_776 (sc_in (k := 1) rfl (by omega) hL) ?_
  refine r_Vg [.int _] dL_law_777 lk_L_94 mb_X10_lacking in_X10_lacking se_X10_lacking rfl hC1 rfl rfl rfl (Nat.le_of_ble_eq_true rfl) (fit0 hd1 (by decide) hc) (fun zr zA zB zC hz => ?_)
  obtain ⟨v, d2, Q2, rfl, hd2, hC2, hQ2⟩ := hQ zr zA zB zC hz
  show RW X G _ _ _ _ _ _ _ _ _ _ _ _ _ [.int v]
  refine r_aload_n 2 rfl dL_law_780 ?_
  refine r_aload_n 4 rfl dL_law_781 ?_
  refine r_iload 0 rfl dL_law_782 ?_
  refine r_iconst (v := 1) rfl dL_law_784 ?_
  refine r_iadd dL_law_785 ?_
  refine r_scr hX dL_law_786 (sc_in (k := 1) rfl (by omega) hL) ?_
  refine r_Vg [.int _] dL_law_787 lk_L_97 mb_X11_lacking in_X11_lacking se_X11_lacking rfl hC2 rfl rfl rfl (Nat.le_of_ble_eq_true rfl) (fit0 hd2 (by decide) hc) (fun zr2 zA2 zB2 zC2 hz2 => ?_)
  obtain ⟨rfl, hI2⟩ := hQ2 zr2 zA2 zB2 zC2 hz2
  show RW X G _ _ _ _ _ _ _ _ _ _ _ _ _ [.int v, .int v]
  exact r_icmpeq (tgt := 1517) dL_law_790 (by decide) (fun _ => k _ _ _ hI2) (fun q => absurd rfl q)
theorem lc_fewest (E : lwE X) (hX : x_Sc X G L xs) (hi : i + 6 ≤ L) (hL : L ≤ 3072) (hI : InvE MI ML MR) (hc : cells ≤ 600000 ∧ slots ≤ 7000000) (k : ∀ MI2 ML2 MR2, InvE MI2 ML2 MR2 → RW X G RL cL_law 7 room_1 0 SH MI2 ML2 MR2 cells slots 1517 [(4, .int (nI i)), (3, .ref 154), (2, .ref 124), (1, .ref 0), (0, .ref 1300)] []) : RW X G RL cL_law 7 room_1 0 SH MI ML MR cells slots 795 [(4, .int (nI i)), (3, .ref 154), (2, .ref 124), (1, .ref 0), (0, .ref 1300)] [] := by
  obtain ⟨r, S, A, Gn, b, K, u, bi, bo, w, h⟩ := hI
  obtain ⟨d1, Q1, hd1, hC1, hQ⟩ := two_fewest (X := X) (x := (xs (nI i + 1).toNatClampNeg)) E.2.2 h
  refine r_aload_n 3 rfl dL_law_795 ?_
  refine r_aload_n 4 rfl dL_law_796 ?_
  refine r_iload 0 rfl dL_law_797 ?_
  refine r_iconst (v := 1) rfl dL_law_799 ?_
  refine r_iadd dL_law_800 ?_
  refine r_scr hX dL_law_801 (sc_in (k := 1) rfl (by omega) hL) ?_
  refine r_Vg [.int _] dL_law_802 lk_L_98 mb_X10_fewest in_X10_fewest se_X10_fewest rfl hC1 rfl rfl rfl (Nat.le_of_ble_eq_true rfl) (fit0 hd1 (by decide) hc) (fun zr zA zB zC hz => ?_)
  obtain ⟨v, d2, Q2, rfl, hd2, hC2, hQ2⟩ := hQ zr zA zB zC hz
  show RW X G _ _ _ _ _ _ _ _ _ _ _ _ _ [.int v]
  refine r_aload_n 2 rfl dL_law_805 ?_
  refine r_aload_n 4 rfl dL_law_806 ?_
  refine r_iload 0 rfl dL_law_807 ?_
  refine r_iconst (v := 1) rfl dL_law_809 ?_
  refine r_iadd dL_law_810 ?_
  refine r_scr hX dL_law_811 (sc_in (k := 1) rfl (by omega) hL) ?_
  refine r_Vg [.int _] dL_law_812 lk_L_101 mb_X11_fewest in_X11_fewest se_X11_fewest rfl hC2 rfl rfl rfl (Nat.le_of_ble_eq_true rfl) (fit0 hd2 (by decide) hc) (fun zr2 zA2 zB2 zC2 hz2 => ?_)
  obtain ⟨rfl, hI2⟩ := hQ2 zr2 zA2 zB2 zC2 hz2
  show RW X G _ _ _ _ _ _ _ _ _ _ _ _ _ [.int v, .int v]
  exact r_icmpeq (tgt := 1517) dL_law_815 (by decide) (fun _ => k _ _ _ hI2) (fun q => absurd rfl q)
theorem lc_chosen (E : lwE X) (hX : x_Sc X G L xs) (hi : i + 6 ≤ L) (hL : L ≤ 3072) (hI : InvE MI ML MR) (hc : cells ≤ 600000 ∧ slots ≤ 7000000) (k : ∀ MI2 ML2 MR2, InvE MI2 ML2 MR2 → RW X G RL cL_law 7 room_1 0 SH MI2 ML2 MR2 cells slots 1517 [(4, .int (nI i)), (3, .ref 154), (2, .ref 124), (1, .ref 0), (0, .ref 1300)] []) : RW X G RL cL_law 7 room_1 0 SH MI ML MR cells slots 820 [(4, .int (nI i)), (3, .ref 154), (2, .ref 124), (1, .ref 0), (0, .ref 1300)] [] := by
  obtain ⟨r, S, A, Gn, b, K, u, bi, bo, w, h⟩ := hI
  obtain ⟨d1, Q1, hd1, hC1, hQ⟩ := two_chosen (X := X) (x := (xs (nI i + 1).toNatClampNeg)) (y := (xs (nI i + 2).toNatClampNeg)) E.2.2 h
  refine r_aload_n 3 rfl dL_law_820 ?_
  refine r_aload_n 4 rfl dL_law_821 ?_
  refine r_iload 0 rfl dL_law_822 ?_
  refine r_iconst (v := 1) rfl dL_law_824 ?_
  refine r_iadd dL_law_825 ?_
  refine r_scr hX dL_law_826 (sc_in (k := 1) rfl (by omega) hL) ?_
  refine r_aload_n 4 rfl dL_law_827 ?_
  refine r_iload 0 rfl dL_law_828 ?_
  refine r_iconst (v := 2) rfl dL_law_830 ?_
  refine r_iadd dL_law_831 ?_
  refine r_scr hX dL_law_832 (sc_in (k := 2) rfl (by omega) hL) ?_
  refine r_Vg [.int _, .int _] dL_law_833 lk_L_102 mb_X10_chosen in_X10_chosen se_X10_chosen rfl hC1 rfl rfl rfl (Nat.le_of_ble_eq_true rfl) (fit0 hd1 (by decide) hc) (fun zr zA zB zC hz => ?_)
  obtain ⟨v, d2, Q2, rfl, hd2, hC2, hQ2⟩ := hQ zr zA zB zC hz
  show RW X G _ _ _ _ _ _ _ _ _ _ _ _ _ [.int v]
  refine r_aload_n 2 rfl dL_law_836 ?_
  refine r_aload_n 4 rfl dL_law_837 ?_
  refine r_iload 0 rfl dL_law_838 ?_
  refine r_iconst (v := 1) rfl dL_law_840 ?_
  refine r_iadd dL_law_841 ?_
  refine r_scr hX dL_law_842 (sc_in (k := 1) rfl (by omega) hL) ?_
  refine r_aload_n 4 rfl dL_law_843 ?_
  refine r_iload 0 rfl dL_law_844 ?_
  refine r_iconst (v := 2) rfl dL_law_846 ?_
  refine r_iadd dL_law_847 ?_
  refine r_scr hX dL_law_848 (sc_in (k := 2) rfl (by omega) hL) ?_
  refine r_Vg [.int _, .int _] dL_law_849 lk_L_105 mb_X11_chosen in_X11_chosen se_X11_chosen rfl hC2 rfl rfl rfl (Nat.le_of_ble_eq_true rfl) (fit0 hd2 (by decide) hc) (fun zr2 zA2 zB2 zC2 hz2 => ?_)
  obtain ⟨rfl, hI2⟩ := hQ2 zr2 zA2 zB2 zC2 hz2
  show RW X G _ _ _ _ _ _ _ _ _ _ _ _ _ [.int v, .int v]
  exact r_icmpeq (tgt := 1517) dL_law_852 (by decide) (fun _ => k _ _ _ hI2) (fun q => absurd rfl q)
theorem lc_literals (E : lwE X) (hX : x_Sc X G L xs) (hi : i + 6 ≤ L) (hL : L ≤ 3072) (hI : InvE MI ML MR) (hc : cells ≤ 600000 ∧ slots ≤ 7000000) (k : ∀ MI2 ML2 MR2, InvE MI2 ML2 MR2 → RW X G RL cL_law 7 room_1 0 SH MI2 ML2 MR2 cells slots 1517 [(4, .int (nI i)), (3, .ref 154), (2, .ref 124), (1, .ref 0), (0, .ref 1300)] []) : RW X G RL cL_law 7 room_1 0 SH MI ML MR cells slots 857 [(4, .int (nI i)), (3, .ref 154), (2, .ref 124), (1, .ref 0), (0, .ref 1300)] [] := by
  obtain ⟨r, S, A, Gn, b, K, u, bi, bo, w, h⟩ := hI
  obtain ⟨d1, Q1, hd1, hC1, hQ⟩ := two_literals (X := X) (x := (xs (nI i + 1).toNatClampNeg)) E.2.2 h
  refine r_aload_n 3 rfl dL_law_857 ?_
  refine r_aload_n 4 rfl dL_law_858 ?_
  refine r_iload 0 rfl dL_law_859 ?_
  refine r_iconst (v := 1) rfl dL_law_861 ?_
  refine r_iadd dL_law_862 ?_
  refine r_scr hX dL_law_863 (sc_in (k := 1) rfl (by omega) hL) ?_
  refine r_Vg [.int _] dL_law_864 lk_L_106 mb_X10_literals in_X10_literals se_X10_literals rfl hC1 rfl rfl rfl (Nat.le_of_ble_eq_true rfl) (fit0 hd1 (by decide) hc) (fun zr zA zB zC hz => ?_)
  obtain ⟨v, d2, Q2, rfl, hd2, hC2, hQ2⟩ := hQ zr zA zB zC hz
  show RW X G _ _ _ _ _ _ _ _ _ _ _ _ _ [.int v]
  refine r_aload_n 2 rfl dL_law_867 ?_
  refine r_aload_n 4 rfl dL_law_868 ?_
  refine r_iload 0 rfl dL_law_869 ?_
  refine r_iconst (v := 1) rfl dL_law_871 ?_
  refine r_iadd dL_law_872 ?_
  refine r_scr hX dL_law_873 (sc_in (k := 1) rfl (by omega) hL) ?_
  refine r_Vg [.int _] dL_law_874 lk_L_109 mb_X11_literals in_X11_literals se_X11_literals rfl hC2 rfl rfl rfl (Nat.le_of_ble_eq_true rfl) (fit0 hd2 (by decide) hc) (fun zr2 zA2 zB2 zC2 hz2 => ?_)
  obtain ⟨rfl, hI2⟩ := hQ2 zr2 zA2 zB2 zC2 hz2
  show RW X G _ _ _ _ _ _ _ _ _ _ _ _ _ [.int v, .int v]
  exact r_icmpeq (tgt := 1517) dL_law_877 (by decide) (fun _ => k _ _ _ hI2) (fun q => absurd rfl q)
theorem lc_formula (E : lwE X) (hX : x_Sc X G L xs) (hi : i + 6 ≤ L) (hL : L ≤ 3072) (hI : InvE MI ML MR) (hc : cells ≤ 600000 ∧ slots ≤ 7000000) (k : ∀ MI2 ML2 MR2, InvE MI2 ML2 MR2 → RW X G RL cL_law 7 room_1 0 SH MI2 ML2 MR2 cells slots 1517 [(4, .int (nI i)), (3, .ref 154), (2, .ref 124), (1, .ref 0), (0, .ref 1300)] []) : RW X G RL cL_law 7 room_1 0 SH MI ML MR cells slots 882 [(4, .int (nI i)), (3, .ref 154), (2, .ref 124), (1, .ref 0), (0, .ref 1300)] [] := by
  obtain ⟨r, S, A, Gn, b, K, u, bi, bo, w, h⟩ := hI
  obtain ⟨d1, Q1, hd1, hC1, hQ⟩ := two_formula (X := X) (x := (xs (nI i + 1).toNatClampNeg)) E.2.2 h
  refine r_aload_n 3 rfl dL_law_882 ?_
  refine r_aload_n 4 rfl dL_law_883 ?_
  refine r_iload 0 rfl dL_law_884 ?_
  refine r_iconst (v := 1) rfl dL_law_886 ?_
  refine r_iadd dL_law_887 ?_
  refine r_scr hX dL_law_888 (sc_in (k := 1) rfl (by omega) hL) ?_
  refine r_Vg [.int _] dL_law_889 lk_L_110 mb_X10_formula in_X10_formula se_X10_formula rfl hC1 rfl rfl rfl (Nat.le_of_ble_eq_true rfl) (fit0 hd1 (by decide) hc) (fun zr zA zB zC hz => ?_)
  obtain ⟨v, d2, Q2, rfl, hd2, hC2, hQ2⟩ := hQ zr zA zB zC hz
  show RW X G _ _ _ _ _ _ _ _ _ _ _ _ _ [.int v]
  refine r_aload_n 2 rfl dL_law_892 ?_
  refine r_aload_n 4 rfl dL_law_893 ?_
  refine r_iload 0 rfl dL_law_894 ?_
  refine r_iconst (v := 1) rfl dL_law_896 ?_
  refine r_iadd dL_law_897 ?_
  refine r_scr hX dL_law_898 (sc_in (k := 1) rfl (by omega) hL) ?_
  refine r_Vg [.int _] dL_law_899 lk_L_113 mb_X11_formula in_X11_formula se_X11_formula rfl hC2 rfl rfl rfl (Nat.le_of_ble_eq_true rfl) (fit0 hd2 (by decide) hc) (fun zr2 zA2 zB2 zC2 hz2 => ?_)
  obtain ⟨rfl, hI2⟩ := hQ2 zr2 zA2 zB2 zC2 hz2
  show RW X G _ _ _ _ _ _ _ _ _ _ _ _ _ [.int v, .int v]
  exact r_icmpeq (tgt := 1517) dL_law_902 (by decide) (fun _ => k _ _ _ hI2) (fun q => absurd rfl q)
theorem lc_sign (E : lwE X) (hX : x_Sc X G L xs) (hi : i + 6 ≤ L) (hL : L ≤ 3072) (hI : InvE MI ML MR) (hc : cells ≤ 600000 ∧ slots ≤ 7000000) (k : ∀ MI2 ML2 MR2, InvE MI2 ML2 MR2 → RW X G RL cL_law 7 room_1 0 SH MI2 ML2 MR2 cells slots 1517 [(4, .int (nI i)), (3, .ref 154), (2, .ref 124), (1, .ref 0), (0, .ref 1300)] []) : RW X G RL cL_law 7 room_1 0 SH MI ML MR cells slots 907 [(4, .int (nI i)), (3, .ref 154), (2, .ref 124), (1, .ref 0), (0, .ref 1300)] [] := by
  obtain ⟨r, S, A, Gn, b, K, u, bi, bo, w, h⟩ := hI
  obtain ⟨d1, Q1, hd1, hC1, hQ⟩ := two_sign (X := X) (x := (xs (nI i + 1).toNatClampNeg)) (y := (xs (nI i + 2).toNatClampNeg)) E.2.2 h
  refine r_aload_n 3 rfl dL_law_907 ?_
  refine r_aload_n 4 rfl dL_law_908 ?_
  refine r_iload 0 rfl dL_law_909 ?_
  refine r_iconst (v := 1) rfl dL_law_911 ?_
  refine r_iadd dL_law_912 ?_
  refine r_scr hX dL_law_913 (sc_in (k := 1) rfl (by omega) hL) ?_
  refine r_aload_n 4 rfl dL_law_914 ?_
  refine r_iload 0 rfl dL_law_915 ?_
  refine r_iconst (v := 2) rfl dL_law_917 ?_
  refine r_iadd dL_law_918 ?_
  refine r_scr hX dL_law_919 (sc_in (k := 2) rfl (by omega) hL) ?_
  refine r_Vg [.int _, .int _] dL_law_920 lk_L_114 mb_X10_sign in_X10_sign se_X10_sign rfl hC1 rfl rfl rfl (Nat.le_of_ble_eq_true rfl) (fit0 hd1 (by decide) hc) (fun zr zA zB zC hz => ?_)
  obtain ⟨v, d2, Q2, rfl, hd2, hC2, hQ2⟩ := hQ zr zA zB zC hz
  show RW X G _ _ _ _ _ _ _ _ _ _ _ _ _ [.int v]
  refine r_aload_n 2 rfl dL_law_923 ?_
  refine r_aload_n 4 rfl dL_law_924 ?_
  refine r_iload 0 rfl dL_law_925 ?_
  refine r_iconst (v := 1) rfl dL_law_927 ?_
  refine r_iadd dL_law_928 ?_
  refine r_scr hX dL_law_929 (sc_in (k := 1) rfl (by omega) hL) ?_
  refine r_aload_n 4 rfl dL_law_930 ?_
  refine r_iload 0 rfl dL_law_931 ?_
  refine r_iconst (v := 2) rfl dL_law_933 ?_
  refine r_iadd dL_law_934 ?_
  refine r_scr hX dL_law_935 (sc_in (k := 2) rfl (by omega) hL) ?_
  refine r_Vg [.int _, .int _] dL_law_936 lk_L_117 mb_X11_sign in_X11_sign se_X11_sign rfl hC2 rfl rfl rfl (Nat.le_of_ble_eq_true rfl) (fit0 hd2 (by decide) hc) (fun zr2 zA2 zB2 zC2 hz2 => ?_)
  obtain ⟨rfl, hI2⟩ := hQ2 zr2 zA2 zB2 zC2 hz2
  show RW X G _ _ _ _ _ _ _ _ _ _ _ _ _ [.int v, .int v]
  exact r_icmpeq (tgt := 1517) dL_law_939 (by decide) (fun _ => k _ _ _ hI2) (fun q => absurd rfl q)
theorem lc_harm (E : lwE X) (hX : x_Sc X G L xs) (hi : i + 6 ≤ L) (hL : L ≤ 3072) (hI : InvE MI ML MR) (hc : cells ≤ 600000 ∧ slots ≤ 7000000) (k : ∀ MI2 ML2 MR2, InvE MI2 ML2 MR2 → RW X G RL cL_law 7 room_1 0 SH MI2 ML2 MR2 cells slots 1517 [(4, .int (nI i)), (3, .ref 154), (2, .ref 124), (1, .ref 0), (0, .ref 1300)] []) : RW X G RL cL_law 7 room_1 0 SH MI ML MR cells slots 944 [(4, .int (nI i)), (3, .ref 154), (2, .ref 124), (1, .ref 0), (0, .ref 1300)] [] := by
  obtain ⟨r, S, A, Gn, b, K, u, bi, bo, w, h⟩ := hI
  obtain ⟨d1, Q1, hd1, hC1, hQ⟩ := two_harm (X := X) (x := (xs (nI i + 1).toNatClampNeg)) (y := (xs (nI i + 2).toNatClampNeg))  h
  refine r_aload_n 3 rfl dL_law_944 ?_
  refine r_aload_n 4 rfl dL_law_945 ?_
  refine r_iload 0 rfl dL_law_946 ?_
  refine r_iconst (v := 1) rfl dL_law_948 ?_
  refine r_iadd dL_law_949 ?_
  refine r_scr hX dL_law_950 (sc_in (k := 1) rfl (by omega) hL) ?_
  refine r_aload_n 4 rfl dL_law_951 ?_
  refine r_iload 0 rfl dL_law_952 ?_
  refine r_iconst (v := 2) rfl dL_law_954 ?_
  refine r_iadd dL_law_955 ?_
  refine r_scr hX dL_law_956 (sc_in (k := 2) rfl (by omega) hL) ?_
  refine r_Vg [.int _, .int _] dL_law_957 lk_L_118 mb_X10_harm in_X10_harm se_X10_harm rfl hC1 rfl rfl rfl (Nat.le_of_ble_eq_true rfl) (fit0 hd1 (by decide) hc) (fun zr zA zB zC hz => ?_)
  obtain ⟨v, d2, Q2, rfl, hd2, hC2, hQ2⟩ := hQ zr zA zB zC hz
  show RW X G _ _ _ _ _ _ _ _ _ _ _ _ _ [.int v]
  refine r_aload_n 2 rfl dL_law_960 ?_
  refine r_aload_n 4 rfl dL_law_961 ?_
  refine r_iload 0 rfl dL_law_962 ?_
  refine r_iconst (v := 1) rfl dL_law_964 ?_
  refine r_iadd dL_law_965 ?_
  refine r_scr hX dL_law_966 (sc_in (k := 1) rfl (by omega) hL) ?_
  refine r_aload_n 4 rfl dL_law_967 ?_
  refine r_iload 0 rfl dL_law_968 ?_
  refine r_iconst (v := 2) rfl dL_law_970 ?_
  refine r_iadd dL_law_971 ?_
  refine r_scr hX dL_law_972 (sc_in (k := 2) rfl (by omega) hL) ?_
  refine r_Vg [.int _, .int _] dL_law_973 lk_L_121 mb_X11_harm in_X11_harm se_X11_harm rfl hC2 rfl rfl rfl (Nat.le_of_ble_eq_true rfl) (fit0 hd2 (by decide) hc) (fun zr2 zA2 zB2 zC2 hz2 => ?_)
  obtain ⟨rfl, hI2⟩ := hQ2 zr2 zA2 zB2 zC2 hz2
  show RW X G _ _ _ _ _ _ _ _ _ _ _ _ _ [.int v, .int v]
  exact r_icmpeq (tgt := 1517) dL_law_976 (by decide) (fun _ => k _ _ _ hI2) (fun q => absurd rfl q)
theorem lc_glitch (E : lwE X) (hX : x_Sc X G L xs) (hi : i + 6 ≤ L) (hL : L ≤ 3072) (hI : InvE MI ML MR) (hc : cells ≤ 600000 ∧ slots ≤ 7000000) (k : ∀ MI2 ML2 MR2, InvE MI2 ML2 MR2 → RW X G RL cL_law 7 room_1 0 SH MI2 ML2 MR2 cells slots 1517 [(4, .int (nI i)), (3, .ref 154), (2, .ref 124), (1, .ref 0), (0, .ref 1300)] []) : RW X G RL cL_law 7 room_1 0 SH MI ML MR cells slots 981 [(4, .int (nI i)), (3, .ref 154), (2, .ref 124), (1, .ref 0), (0, .ref 1300)] [] := by
  obtain ⟨r, S, A, Gn, b, K, u, bi, bo, w, h⟩ := hI
  obtain ⟨d1, Q1, hd1, hC1, hQ⟩ := two_glitch (X := X) (x := (xs (nI i + 1).toNatClampNeg))  h
  refine r_aload_n 3 rfl dL_law_981 ?_
  refine r_aload_n 4 rfl dL_law_982 ?_
  refine r_iload 0 rfl dL_law_983 ?_
  refine r_iconst (v := 1) rfl dL_law_985 ?_
  refine r_iadd dL_law_986 ?_
  refine r_scr hX dL_law_987 (sc_in (k := 1) rfl (by omega) hL) ?_
  refine r_Vg [.int _] dL_law_988 lk_L_122 mb_X10_glitch in_X10_glitch se_X10_glitch rfl hC1 rfl rfl rfl (Nat.le_of_ble_eq_true rfl) (fit0 hd1 (by decide) hc) (fun zr zA zB zC hz => ?_)
  obtain ⟨v, d2, Q2, rfl, hd2, hC2, hQ2⟩ := hQ zr zA zB zC hz
  show RW X G _ _ _ _ _ _ _ _ _ _ _ _ _ [.int v]
  refine r_aload_n 2 rfl dL_law_991 ?_
  refine r_aload_n 4 rfl dL_law_992 ?_
  refine r_iload 0 rfl dL_law_993 ?_
  refine r_iconst (v := 1) rfl dL_law_995 ?_
  refine r_iadd dL_law_996 ?_
  refine r_scr hX dL_law_997 (sc_in (k := 1) rfl (by omega) hL) ?_
  refine r_Vg [.int _] dL_law_998 lk_L_125 mb_X11_glitch in_X11_glitch se_X11_glitch rfl hC2 rfl rfl rfl (Nat.le_of_ble_eq_true rfl) (fit0 hd2 (by decide) hc) (fun zr2 zA2 zB2 zC2 hz2 => ?_)
  obtain ⟨rfl, hI2⟩ := hQ2 zr2 zA2 zB2 zC2 hz2
  show RW X G _ _ _ _ _ _ _ _ _ _ _ _ _ [.int v, .int v]
  exact r_icmpeq (tgt := 1517) dL_law_1001 (by decide) (fun _ => k _ _ _ hI2) (fun q => absurd rfl q)
theorem lc_run (E : lwE X) (hX : x_Sc X G L xs) (hi : i + 6 ≤ L) (hL : L ≤ 3072) (hI : InvE MI ML MR) (hc : cells ≤ 600000 ∧ slots ≤ 7000000) (k : ∀ MI2 ML2 MR2, InvE MI2 ML2 MR2 → RW X G RL cL_law 7 room_1 0 SH MI2 ML2 MR2 cells slots 1517 [(4, .int (nI i)), (3, .ref 154), (2, .ref 124), (1, .ref 0), (0, .ref 1300)] []) : RW X G RL cL_law 7 room_1 0 SH MI ML MR cells slots 1006 [(4, .int (nI i)), (3, .ref 154), (2, .ref 124), (1, .ref 0), (0, .ref 1300)] [] := by
  obtain ⟨r, S, A, Gn, b, K, u, bi, bo, w, h⟩ := hI
  by_cases zb : xs (nI i + 3).toNatClampNeg = 0
  · obtain ⟨d1, Q1, hd1, hC1, hQ⟩ := two_run0 (X := X) (x := (xs (nI i + 1).toNatClampNeg)) (y := (xs (nI i + 2).toNatClampNeg)) E.2.2 h
    refine r_aload_n 3 rfl dL_law_1006 ?_
    refine r_aload_n 4 rfl dL_law_1007 ?_
    refine r_iload 0 rfl dL_law_1008 ?_
    refine r_iconst (v := 1) rfl dL_law_1010 ?_
    refine r_iadd dL_law_1011 ?_
    refine r_scr hX dL_law_1012 (sc_in (k := 1) rfl (by omega) hL) ?_
    refine r_aload_n 4 rfl dL_law_1013 ?_
    refine r_iload 0 rfl dL_law_1014 ?_
    refine r_iconst (v := 2) rfl dL_law_1016 ?_
    refine r_iadd dL_law_1017 ?_
    refine r_scr hX dL_law_1018 (sc_in (k := 2) rfl (by omega) hL) ?_
    refine r_aload_n 4 rfl dL_law_1019 ?_
    refine r_iload 0 rfl dL_law_1020 ?_
    refine r_iconst (v := 3) rfl dL_law_1022 ?_
    refine r_iadd dL_law_1023 ?_
    refine r_scr hX dL_law_1024 (sc_in (k := 3) rfl (by omega) hL) ?_
    refine r_ifeq (tgt := 1032) dL_law_1025 (by decide) (fun _ => ?_) (fun q => absurd zb q)
    refine r_iconst (v := 0) rfl dL_law_1032 ?_
    refine r_Vg [.int _, .int _, .int _] dL_law_1033 lk_L_126 mb_X10_run in_X10_run se_X10_run rfl hC1 rfl rfl rfl (Nat.le_of_ble_eq_true rfl) (fit0 hd1 (by decide) hc) (fun zr zA zB zC hz => ?_)
    obtain ⟨v, d2, Q2, rfl, hd2, hC2, hQ2⟩ := hQ zr zA zB zC hz
    show RW X G _ _ _ _ _ _ _ _ _ _ _ _ _ [.int v]
    refine r_aload_n 2 rfl dL_law_1036 ?_
    refine r_aload_n 4 rfl dL_law_1037 ?_
    refine r_iload 0 rfl dL_law_1038 ?_
    refine r_iconst (v := 1) rfl dL_law_1040 ?_
    refine r_iadd dL_law_1041 ?_
    refine r_scr hX dL_law_1042 (sc_in (k := 1) rfl (by omega) hL) ?_
    refine r_aload_n 4 rfl dL_law_1043 ?_
    refine r_iload 0 rfl dL_law_1044 ?_
    refine r_iconst (v := 2) rfl dL_law_1046 ?_
    refine r_iadd dL_law_1047 ?_
    refine r_scr hX dL_law_1048 (sc_in (k := 2) rfl (by omega) hL) ?_
    refine r_aload_n 4 rfl dL_law_1049 ?_
    refine r_iload 0 rfl dL_law_1050 ?_
    refine r_iconst (v := 3) rfl dL_law_1052 ?_
    refine r_iadd dL_law_1053 ?_
    refine r_scr hX dL_law_1054 (sc_in (k := 3) rfl (by omega) hL) ?_
    refine r_ifeq (tgt := 1062) dL_law_1055 (by decide) (fun _ => ?_) (fun q => absurd zb q)
    refine r_iconst (v := 0) rfl dL_law_1062 ?_
    refine r_Vg [.int _, .int _, .int _] dL_law_1063 lk_L_130 mb_X11_run in_X11_run se_X11_run rfl hC2 rfl rfl rfl (Nat.le_of_ble_eq_true rfl) (fit0 hd2 (by decide) hc) (fun zr2 zA2 zB2 zC2 hz2 => ?_)
    obtain ⟨rfl, hI2⟩ := hQ2 zr2 zA2 zB2 zC2 hz2
    show RW X G _ _ _ _ _ _ _ _ _ _ _ _ _ [.int v, .int v]
    exact r_icmpeq (tgt := 1517) dL_law_1066 (by decide) (fun _ => k _ _ _ hI2) (fun q => absurd rfl q)
  · obtain ⟨d1, Q1, hd1, hC1, hQ⟩ := two_run1 (X := X) (x := (xs (nI i + 1).toNatClampNeg)) (y := (xs (nI i + 2).toNatClampNeg))  h
    refine r_aload_n 3 rfl dL_law_1006 ?_
    refine r_aload_n 4 rfl dL_law_1007 ?_
    refine r_iload 0 rfl dL_law_1008 ?_
    refine r_iconst (v := 1) rfl dL_law_1010 ?_
    refine r_iadd dL_law_1011 ?_
    refine r_scr hX dL_law_1012 (sc_in (k := 1) rfl (by omega) hL) ?_
    refine r_aload_n 4 rfl dL_law_1013 ?_
    refine r_iload 0 rfl dL_law_1014 ?_
    refine r_iconst (v := 2) rfl dL_law_1016 ?_
    refine r_iadd dL_law_1017 ?_
    refine r_scr hX dL_law_1018 (sc_in (k := 2) rfl (by omega) hL) ?_
    refine r_aload_n 4 rfl dL_law_1019 ?_
    refine r_iload 0 rfl dL_law_1020 ?_
    refine r_iconst (v := 3) rfl dL_law_1022 ?_
    refine r_iadd dL_law_1023 ?_
    refine r_scr hX dL_law_1024 (sc_in (k := 3) rfl (by omega) hL) ?_
    refine r_ifeq (tgt := 1032) dL_law_1025 (by decide) (fun q => absurd q zb) (fun _ => ?_)
    refine r_iconst (v := 1) rfl dL_law_1028 ?_
    refine r_goto (tgt := 1033) dL_law_1029 (by decide) ?_
    refine r_Vg [.int _, .int _, .int _] dL_law_1033 lk_L_126 mb_X10_run in_X10_run se_X10_run rfl hC1 rfl rfl rfl (Nat.le_of_ble_eq_true rfl) (fit0 hd1 (by decide) hc) (fun zr zA zB zC hz => ?_)
    obtain ⟨v, d2, Q2, rfl, hd2, hC2, hQ2⟩ := hQ zr zA zB zC hz
    show RW X G _ _ _ _ _ _ _ _ _ _ _ _ _ [.int v]
    refine r_aload_n 2 rfl dL_law_1036 ?_
    refine r_aload_n 4 rfl dL_law_1037 ?_
    refine r_iload 0 rfl dL_law_1038 ?_
    refine r_iconst (v := 1) rfl dL_law_1040 ?_
    refine r_iadd dL_law_1041 ?_
    refine r_scr hX dL_law_1042 (sc_in (k := 1) rfl (by omega) hL) ?_
    refine r_aload_n 4 rfl dL_law_1043 ?_
    refine r_iload 0 rfl dL_law_1044 ?_
    refine r_iconst (v := 2) rfl dL_law_1046 ?_
    refine r_iadd dL_law_1047 ?_
    refine r_scr hX dL_law_1048 (sc_in (k := 2) rfl (by omega) hL) ?_
    refine r_aload_n 4 rfl dL_law_1049 ?_
    refine r_iload 0 rfl dL_law_1050 ?_
    refine r_iconst (v := 3) rfl dL_law_1052 ?_
    refine r_iadd dL_law_1053 ?_
    refine r_scr hX dL_law_1054 (sc_in (k := 3) rfl (by omega) hL) ?_
    refine r_ifeq (tgt := 1062) dL_law_1055 (by decide) (fun q => absurd q zb) (fun _ => ?_)
    refine r_iconst (v := 1) rfl dL_law_1058 ?_
    refine r_goto (tgt := 1063) dL_law_1059 (by decide) ?_
    refine r_Vg [.int _, .int _, .int _] dL_law_1063 lk_L_130 mb_X11_run in_X11_run se_X11_run rfl hC2 rfl rfl rfl (Nat.le_of_ble_eq_true rfl) (fit0 hd2 (by decide) hc) (fun zr2 zA2 zB2 zC2 hz2 => ?_)
    obtain ⟨rfl, hI2⟩ := hQ2 zr2 zA2 zB2 zC2 hz2
    show RW X G _ _ _ _ _ _ _ _ _ _ _ _ _ [.int v, .int v]
    exact r_icmpeq (tgt := 1517) dL_law_1066 (by decide) (fun _ => k _ _ _ hI2) (fun q => absurd rfl q)
theorem lc_runBurst (E : lwE X) (hX : x_Sc X G L xs) (hi : i + 6 ≤ L) (hL : L ≤ 3072) (hI : InvE MI ML MR) (hc : cells ≤ 600000 ∧ slots ≤ 7000000) (k : ∀ MI2 ML2 MR2, InvE MI2 ML2 MR2 → RW X G RL cL_law 7 room_1 0 SH MI2 ML2 MR2 cells slots 1517 [(4, .int (nI i)), (3, .ref 154), (2, .ref 124), (1, .ref 0), (0, .ref 1300)] []) : RW X G RL cL_law 7 room_1 0 SH MI ML MR cells slots 1071 [(4, .int (nI i)), (3, .ref 154), (2, .ref 124), (1, .ref 0), (0, .ref 1300)] [] := by
  obtain ⟨r, S, A, Gn, b, K, u, bi, bo, w, h⟩ := hI
  by_cases zb : xs (nI i + 3).toNatClampNeg = 0
  · obtain ⟨d1, Q1, hd1, hC1, hQ⟩ := two_runBurst0 (X := X) (x := (xs (nI i + 1).toNatClampNeg)) (y := (xs (nI i + 2).toNatClampNeg)) E.2.2 h
    refine r_aload_n 3 rfl dL_law_1071 ?_
    refine r_aload_n 4 rfl dL_law_1072 ?_
    refine r_iload 0 rfl dL_law_1073 ?_
    refine r_iconst (v := 1) rfl dL_law_1075 ?_
    refine r_iadd dL_law_1076 ?_
    refine r_scr hX dL_law_1077 (sc_in (k := 1) rfl (by omega) hL) ?_
    refine r_aload_n 4 rfl dL_law_1078 ?_
    refine r_iload 0 rfl dL_law_1079 ?_
    refine r_iconst (v := 2) rfl dL_law_1081 ?_
    refine r_iadd dL_law_1082 ?_
    refine r_scr hX dL_law_1083 (sc_in (k := 2) rfl (by omega) hL) ?_
    refine r_aload_n 4 rfl dL_law_1084 ?_
    refine r_iload 0 rfl dL_law_1085 ?_
    refine r_iconst (v := 3) rfl dL_law_1087 ?_
    refine r_iadd dL_law_1088 ?_
    refine r_scr hX dL_law_1089 (sc_in (k := 3) rfl (by omega) hL) ?_
    refine r_ifeq (tgt := 1097) dL_law_1090 (by decide) (fun _ => ?_) (fun q => absurd zb q)
    refine r_iconst (v := 0) rfl dL_law_1097 ?_
    refine r_Vg [.int _, .int _, .int _] dL_law_1098 lk_L_131 mb_X10_runBurst in_X10_runBurst se_X10_runBurst rfl hC1 rfl rfl rfl (Nat.le_of_ble_eq_true rfl) (fit0 hd1 (by decide) hc) (fun zr zA zB zC hz => ?_)
    obtain ⟨v, d2, Q2, rfl, hd2, hC2, hQ2⟩ := hQ zr zA zB zC hz
    show RW X G _ _ _ _ _ _ _ _ _ _ _ _ _ [.int v]
    refine r_aload_n 2 rfl dL_law_1101 ?_
    refine r_aload_n 4 rfl dL_law_1102 ?_
    refine r_iload 0 rfl dL_law_1103 ?_
    refine r_iconst (v := 1) rfl dL_law_1105 ?_
    refine r_iadd dL_law_1106 ?_
    refine r_scr hX dL_law_1107 (sc_in (k := 1) rfl (by omega) hL) ?_
    refine r_aload_n 4 rfl dL_law_1108 ?_
    refine r_iload 0 rfl dL_law_1109 ?_
    refine r_iconst (v := 2) rfl dL_law_1111 ?_
    refine r_iadd dL_law_1112 ?_
    refine r_scr hX dL_law_1113 (sc_in (k := 2) rfl (by omega) hL) ?_
    refine r_aload_n 4 rfl dL_law_1114 ?_
    refine r_iload 0 rfl dL_law_1115 ?_
    refine r_iconst (v := 3) rfl dL_law_1117 ?_
    refine r_iadd dL_law_1118 ?_
    refine r_scr hX dL_law_1119 (sc_in (k := 3) rfl (by omega) hL) ?_
    refine r_ifeq (tgt := 1127) dL_law_1120 (by decide) (fun _ => ?_) (fun q => absurd zb q)
    refine r_iconst (v := 0) rfl dL_law_1127 ?_
    refine r_Vg [.int _, .int _, .int _] dL_law_1128 lk_L_134 mb_X11_runBurst in_X11_runBurst se_X11_runBurst rfl hC2 rfl rfl rfl (Nat.le_of_ble_eq_true rfl) (fit0 hd2 (by decide) hc) (fun zr2 zA2 zB2 zC2 hz2 => ?_)
    obtain ⟨rfl, hI2⟩ := hQ2 zr2 zA2 zB2 zC2 hz2
    show RW X G _ _ _ _ _ _ _ _ _ _ _ _ _ [.int v, .int v]
    exact r_icmpeq (tgt := 1517) dL_law_1131 (by decide) (fun _ => k _ _ _ hI2) (fun q => absurd rfl q)
  · obtain ⟨d1, Q1, hd1, hC1, hQ⟩ := two_runBurst1 (X := X) (x := (xs (nI i + 1).toNatClampNeg)) (y := (xs (nI i + 2).toNatClampNeg))  h
    refine r_aload_n 3 rfl dL_law_1071 ?_
    refine r_aload_n 4 rfl dL_law_1072 ?_
    refine r_iload 0 rfl dL_law_1073 ?_
    refine r_iconst (v := 1) rfl dL_law_1075 ?_
    refine r_iadd dL_law_1076 ?_
    refine r_scr hX dL_law_1077 (sc_in (k := 1) rfl (by omega) hL) ?_
    refine r_aload_n 4 rfl dL_law_1078 ?_
    refine r_iload 0 rfl dL_law_1079 ?_
    refine r_iconst (v := 2) rfl dL_law_1081 ?_
    refine r_iadd dL_law_1082 ?_
    refine r_scr hX dL_law_1083 (sc_in (k := 2) rfl (by omega) hL) ?_
    refine r_aload_n 4 rfl dL_law_1084 ?_
    refine r_iload 0 rfl dL_law_1085 ?_
    refine r_iconst (v := 3) rfl dL_law_1087 ?_
    refine r_iadd dL_law_1088 ?_
    refine r_scr hX dL_law_1089 (sc_in (k := 3) rfl (by omega) hL) ?_
    refine r_ifeq (tgt := 1097) dL_law_1090 (by decide) (fun q => absurd q zb) (fun _ => ?_)
    refine r_iconst (v := 1) rfl dL_law_1093 ?_
    refine r_goto (tgt := 1098) dL_law_1094 (by decide) ?_
    refine r_Vg [.int _, .int _, .int _] dL_law_1098 lk_L_131 mb_X10_runBurst in_X10_runBurst se_X10_runBurst rfl hC1 rfl rfl rfl (Nat.le_of_ble_eq_true rfl) (fit0 hd1 (by decide) hc) (fun zr zA zB zC hz => ?_)
    obtain ⟨v, d2, Q2, rfl, hd2, hC2, hQ2⟩ := hQ zr zA zB zC hz
    show RW X G _ _ _ _ _ _ _ _ _ _ _ _ _ [.int v]
    refine r_aload_n 2 rfl dL_law_1101 ?_
    refine r_aload_n 4 rfl dL_law_1102 ?_
    refine r_iload 0 rfl dL_law_1103 ?_
    refine r_iconst (v := 1) rfl dL_law_1105 ?_
    refine r_iadd dL_law_1106 ?_
    refine r_scr hX dL_law_1107 (sc_in (k := 1) rfl (by omega) hL) ?_
    refine r_aload_n 4 rfl dL_law_1108 ?_
    refine r_iload 0 rfl dL_law_1109 ?_
    refine r_iconst (v := 2) rfl dL_law_1111 ?_
    refine r_iadd dL_law_1112 ?_
    refine r_scr hX dL_law_1113 (sc_in (k := 2) rfl (by omega) hL) ?_
    refine r_aload_n 4 rfl dL_law_1114 ?_
    refine r_iload 0 rfl dL_law_1115 ?_
    refine r_iconst (v := 3) rfl dL_law_1117 ?_
    refine r_iadd dL_law_1118 ?_
    refine r_scr hX dL_law_1119 (sc_in (k := 3) rfl (by omega) hL) ?_
    refine r_ifeq (tgt := 1127) dL_law_1120 (by decide) (fun q => absurd q zb) (fun _ => ?_)
    refine r_iconst (v := 1) rfl dL_law_1123 ?_
    refine r_goto (tgt := 1128) dL_law_1124 (by decide) ?_
    refine r_Vg [.int _, .int _, .int _] dL_law_1128 lk_L_134 mb_X11_runBurst in_X11_runBurst se_X11_runBurst rfl hC2 rfl rfl rfl (Nat.le_of_ble_eq_true rfl) (fit0 hd2 (by decide) hc) (fun zr2 zA2 zB2 zC2 hz2 => ?_)
    obtain ⟨rfl, hI2⟩ := hQ2 zr2 zA2 zB2 zC2 hz2
    show RW X G _ _ _ _ _ _ _ _ _ _ _ _ _ [.int v, .int v]
    exact r_icmpeq (tgt := 1517) dL_law_1131 (by decide) (fun _ => k _ _ _ hI2) (fun q => absurd rfl q)
theorem lc_settles (E : lwE X) (hX : x_Sc X G L xs) (hi : i + 6 ≤ L) (hL : L ≤ 3072) (hI : InvE MI ML MR) (hc : cells ≤ 600000 ∧ slots ≤ 7000000) (k : ∀ MI2 ML2 MR2, InvE MI2 ML2 MR2 → RW X G RL cL_law 7 room_1 0 SH MI2 ML2 MR2 cells slots 1517 [(4, .int (nI i)), (3, .ref 154), (2, .ref 124), (1, .ref 0), (0, .ref 1300)] []) : RW X G RL cL_law 7 room_1 0 SH MI ML MR cells slots 1136 [(4, .int (nI i)), (3, .ref 154), (2, .ref 124), (1, .ref 0), (0, .ref 1300)] [] := by
  obtain ⟨r, S, A, Gn, b, K, u, bi, bo, w, h⟩ := hI
  obtain ⟨d1, Q1, hd1, hC1, hQ⟩ := two_settles (X := X) (x := (xs (nI i + 1).toNatClampNeg)) E.2.2 h
  refine r_aload_n 3 rfl dL_law_1136 ?_
  refine r_aload_n 4 rfl dL_law_1137 ?_
  refine r_iload 0 rfl dL_law_1138 ?_
  refine r_iconst (v := 1) rfl dL_law_1140 ?_
  refine r_iadd dL_law_1141 ?_
  refine r_scr hX dL_law_1142 (sc_in (k := 1) rfl (by omega) hL) ?_
  refine r_Vg [.int _] dL_law_1143 lk_L_135 mb_X10_settles in_X10_settles se_X10_settles rfl hC1 rfl rfl rfl (Nat.le_of_ble_eq_true rfl) (fit0 hd1 (by decide) hc) (fun zr zA zB zC hz => ?_)
  obtain ⟨v, d2, Q2, rfl, hd2, hC2, hQ2⟩ := hQ zr zA zB zC hz
  show RW X G _ _ _ _ _ _ _ _ _ _ _ _ _ [.int v]
  refine r_aload_n 2 rfl dL_law_1146 ?_
  refine r_aload_n 4 rfl dL_law_1147 ?_
  refine r_iload 0 rfl dL_law_1148 ?_
  refine r_iconst (v := 1) rfl dL_law_1150 ?_
  refine r_iadd dL_law_1151 ?_
  refine r_scr hX dL_law_1152 (sc_in (k := 1) rfl (by omega) hL) ?_
  refine r_Vg [.int _] dL_law_1153 lk_L_138 mb_X11_settles in_X11_settles se_X11_settles rfl hC2 rfl rfl rfl (Nat.le_of_ble_eq_true rfl) (fit0 hd2 (by decide) hc) (fun zr2 zA2 zB2 zC2 hz2 => ?_)
  obtain ⟨rfl, hI2⟩ := hQ2 zr2 zA2 zB2 zC2 hz2
  show RW X G _ _ _ _ _ _ _ _ _ _ _ _ _ [.int v, .int v]
  exact r_icmpeq (tgt := 1517) dL_law_1156 (by decide) (fun _ => k _ _ _ hI2) (fun q => absurd rfl q)
theorem lc_settled (E : lwE X) (hX : x_Sc X G L xs) (hi : i + 6 ≤ L) (hL : L ≤ 3072) (hI : InvE MI ML MR) (hc : cells ≤ 600000 ∧ slots ≤ 7000000) (k : ∀ MI2 ML2 MR2, InvE MI2 ML2 MR2 → RW X G RL cL_law 7 room_1 0 SH MI2 ML2 MR2 cells slots 1517 [(4, .int (nI i)), (3, .ref 154), (2, .ref 124), (1, .ref 0), (0, .ref 1300)] []) : RW X G RL cL_law 7 room_1 0 SH MI ML MR cells slots 1161 [(4, .int (nI i)), (3, .ref 154), (2, .ref 124), (1, .ref 0), (0, .ref 1300)] [] := by
  obtain ⟨r, S, A, Gn, b, K, u, bi, bo, w, h⟩ := hI
  obtain ⟨d1, Q1, hd1, hC1, hQ⟩ := two_settled (X := X) (x := (xs (nI i + 1).toNatClampNeg)) E.2.2 h
  refine r_aload_n 3 rfl dL_law_1161 ?_
  refine r_aload_n 4 rfl dL_law_1162 ?_
  refine r_iload 0 rfl dL_law_1163 ?_
  refine r_iconst (v := 1) rfl dL_law_1165 ?_
  refine r_iadd dL_law_1166 ?_
  refine r_scr hX dL_law_1167 (sc_in (k := 1) rfl (by omega) hL) ?_
  refine r_Vg [.int _] dL_law_1168 lk_L_139 mb_X10_settled in_X10_settled se_X10_settled rfl hC1 rfl rfl rfl (Nat.le_of_ble_eq_true rfl) (fit0 hd1 (by decide) hc) (fun zr zA zB zC hz => ?_)
  obtain ⟨v, d2, Q2, rfl, hd2, hC2, hQ2⟩ := hQ zr zA zB zC hz
  show RW X G _ _ _ _ _ _ _ _ _ _ _ _ _ [.int v]
  refine r_aload_n 2 rfl dL_law_1171 ?_
  refine r_aload_n 4 rfl dL_law_1172 ?_
  refine r_iload 0 rfl dL_law_1173 ?_
  refine r_iconst (v := 1) rfl dL_law_1175 ?_
  refine r_iadd dL_law_1176 ?_
  refine r_scr hX dL_law_1177 (sc_in (k := 1) rfl (by omega) hL) ?_
  refine r_Vg [.int _] dL_law_1178 lk_L_142 mb_X11_settled in_X11_settled se_X11_settled rfl hC2 rfl rfl rfl (Nat.le_of_ble_eq_true rfl) (fit0 hd2 (by decide) hc) (fun zr2 zA2 zB2 zC2 hz2 => ?_)
  obtain ⟨rfl, hI2⟩ := hQ2 zr2 zA2 zB2 zC2 hz2
  show RW X G _ _ _ _ _ _ _ _ _ _ _ _ _ [.int v, .int v]
  exact r_icmpeq (tgt := 1517) dL_law_1181 (by decide) (fun _ => k _ _ _ hI2) (fun q => absurd rfl q)
theorem lc_push (E : lwE X) (hX : x_Sc X G L xs) (hi : i + 6 ≤ L) (hL : L ≤ 3072) (hI : InvE MI ML MR) (hc : cells ≤ 600000 ∧ slots ≤ 7000000) (k : ∀ MI2 ML2 MR2, InvE MI2 ML2 MR2 → RW X G RL cL_law 7 room_1 0 SH MI2 ML2 MR2 cells slots 1517 [(4, .int (nI i)), (3, .ref 154), (2, .ref 124), (1, .ref 0), (0, .ref 1300)] []) : RW X G RL cL_law 7 room_1 0 SH MI ML MR cells slots 1186 [(4, .int (nI i)), (3, .ref 154), (2, .ref 124), (1, .ref 0), (0, .ref 1300)] [] := by
  obtain ⟨r, S, A, Gn, b, K, u, bi, bo, w, h⟩ := hI
  obtain ⟨d1, Q1, hd1, hC1, hQ⟩ := two_push (X := X) (x := (xs (nI i + 1).toNatClampNeg))  h
  refine r_aload_n 3 rfl dL_law_1186 ?_
  refine r_aload_n 4 rfl dL_law_1187 ?_
  refine r_iload 0 rfl dL_law_1188 ?_
  refine r_iconst (v := 1) rfl dL_law_1190 ?_
  refine r_iadd dL_law_1191 ?_
  refine r_scr hX dL_law_1192 (sc_in (k := 1) rfl (by omega) hL) ?_
  refine r_Vg [.int _] dL_law_1193 lk_L_143 mb_X10_push in_X10_push se_X10_push rfl hC1 rfl rfl rfl (Nat.le_of_ble_eq_true rfl) (fit0 hd1 (by decide) hc) (fun zr zA zB zC hz => ?_)
  obtain ⟨v, d2, Q2, rfl, hd2, hC2, hQ2⟩ := hQ zr zA zB zC hz
  show RW X G _ _ _ _ _ _ _ _ _ _ _ _ _ [.int v]
  refine r_aload_n 2 rfl dL_law_1196 ?_
  refine r_aload_n 4 rfl dL_law_1197 ?_
  refine r_iload 0 rfl dL_law_1198 ?_
  refine r_iconst (v := 1) rfl dL_law_1200 ?_
  refine r_iadd dL_law_1201 ?_
  refine r_scr hX dL_law_1202 (sc_in (k := 1) rfl (by omega) hL) ?_
  refine r_Vg [.int _] dL_law_1203 lk_L_146 mb_X11_push in_X11_push se_X11_push rfl hC2 rfl rfl rfl (Nat.le_of_ble_eq_true rfl) (fit0 hd2 (by decide) hc) (fun zr2 zA2 zB2 zC2 hz2 => ?_)
  obtain ⟨rfl, hI2⟩ := hQ2 zr2 zA2 zB2 zC2 hz2
  show RW X G _ _ _ _ _ _ _ _ _ _ _ _ _ [.int v, .int v]
  exact r_icmpeq (tgt := 1517) dL_law_1206 (by decide) (fun _ => k _ _ _ hI2) (fun q => absurd rfl q)
theorem lc_walk (E : lwE X) (hX : x_Sc X G L xs) (hi : i + 6 ≤ L) (hL : L ≤ 3072) (hI : InvE MI ML MR) (hc : cells ≤ 600000 ∧ slots ≤ 7000000) (k : ∀ MI2 ML2 MR2, InvE MI2 ML2 MR2 → RW X G RL cL_law 7 room_1 0 SH MI2 ML2 MR2 cells slots 1517 [(4, .int (nI i)), (3, .ref 154), (2, .ref 124), (1, .ref 0), (0, .ref 1300)] []) : RW X G RL cL_law 7 room_1 0 SH MI ML MR cells slots 1211 [(4, .int (nI i)), (3, .ref 154), (2, .ref 124), (1, .ref 0), (0, .ref 1300)] [] := by
  obtain ⟨r, S, A, Gn, b, K, u, bi, bo, w, h⟩ := hI
  obtain ⟨d1, Q1, hd1, hC1, hQ⟩ := two_walk (X := X) (x := (xs (nI i + 1).toNatClampNeg))  h
  refine r_aload_n 3 rfl dL_law_1211 ?_
  refine r_aload_n 4 rfl dL_law_1212 ?_
  refine r_iload 0 rfl dL_law_1213 ?_
  refine r_iconst (v := 1) rfl dL_law_1215 ?_
  refine r_iadd dL_law_1216 ?_
  refine r_scr hX dL_law_1217 (sc_in (k := 1) rfl (by omega) hL) ?_
  refine r_Vg [.int _] dL_law_1218 lk_L_147 mb_X10_walk in_X10_walk se_X10_walk rfl hC1 rfl rfl rfl (Nat.le_of_ble_eq_true rfl) (fit0 hd1 (by decide) hc) (fun zr zA zB zC hz => ?_)
  obtain ⟨v, d2, Q2, rfl, hd2, hC2, hQ2⟩ := hQ zr zA zB zC hz
  show RW X G _ _ _ _ _ _ _ _ _ _ _ _ _ [.int v]
  refine r_aload_n 2 rfl dL_law_1221 ?_
  refine r_aload_n 4 rfl dL_law_1222 ?_
  refine r_iload 0 rfl dL_law_1223 ?_
  refine r_iconst (v := 1) rfl dL_law_1225 ?_
  refine r_iadd dL_law_1226 ?_
  refine r_scr hX dL_law_1227 (sc_in (k := 1) rfl (by omega) hL) ?_
  refine r_Vg [.int _] dL_law_1228 lk_L_150 mb_X11_walk in_X11_walk se_X11_walk rfl hC2 rfl rfl rfl (Nat.le_of_ble_eq_true rfl) (fit0 hd2 (by decide) hc) (fun zr2 zA2 zB2 zC2 hz2 => ?_)
  obtain ⟨rfl, hI2⟩ := hQ2 zr2 zA2 zB2 zC2 hz2
  show RW X G _ _ _ _ _ _ _ _ _ _ _ _ _ [.int v, .int v]
  exact r_icmpeq (tgt := 1517) dL_law_1231 (by decide) (fun _ => k _ _ _ hI2) (fun q => absurd rfl q)
theorem lc_shown (E : lwE X) (hX : x_Sc X G L xs) (hi : i + 6 ≤ L) (hL : L ≤ 3072) (hI : InvE MI ML MR) (hc : cells ≤ 600000 ∧ slots ≤ 7000000) (k : ∀ MI2 ML2 MR2, InvE MI2 ML2 MR2 → RW X G RL cL_law 7 room_1 0 SH MI2 ML2 MR2 cells slots 1517 [(4, .int (nI i)), (3, .ref 154), (2, .ref 124), (1, .ref 0), (0, .ref 1300)] []) : RW X G RL cL_law 7 room_1 0 SH MI ML MR cells slots 1236 [(4, .int (nI i)), (3, .ref 154), (2, .ref 124), (1, .ref 0), (0, .ref 1300)] [] := by
  obtain ⟨r, S, A, Gn, b, K, u, bi, bo, w, h⟩ := hI
  obtain ⟨d1, Q1, hd1, hC1, hQ⟩ := two_shown (X := X)  E.2.2 h
  refine r_aload_n 3 rfl dL_law_1236 ?_
  refine r_Vg [] dL_law_1237 lk_L_151 mb_X10_shown in_X10_shown se_X10_shown rfl hC1 rfl rfl rfl (Nat.le_of_ble_eq_true rfl) (fit0 hd1 (by decide) hc) (fun zr zA zB zC hz => ?_)
  obtain ⟨v, d2, Q2, rfl, hd2, hC2, hQ2⟩ := hQ zr zA zB zC hz
  show RW X G _ _ _ _ _ _ _ _ _ _ _ _ _ [.int v]
  refine r_aload_n 2 rfl dL_law_1240 ?_
  refine r_Vg [] dL_law_1241 lk_L_154 mb_X11_shown in_X11_shown se_X11_shown rfl hC2 rfl rfl rfl (Nat.le_of_ble_eq_true rfl) (fit0 hd2 (by decide) hc) (fun zr2 zA2 zB2 zC2 hz2 => ?_)
  obtain ⟨rfl, hI2⟩ := hQ2 zr2 zA2 zB2 zC2 hz2
  show RW X G _ _ _ _ _ _ _ _ _ _ _ _ _ [.int v, .int v]
  exact r_icmpeq (tgt := 1517) dL_law_1244 (by decide) (fun _ => k _ _ _ hI2) (fun q => absurd rfl q)
theorem lc_codings (E : lwE X) (hX : x_Sc X G L xs) (hi : i + 6 ≤ L) (hL : L ≤ 3072) (hI : InvE MI ML MR) (hc : cells ≤ 600000 ∧ slots ≤ 7000000) (k : ∀ MI2 ML2 MR2, InvE MI2 ML2 MR2 → RW X G RL cL_law 7 room_1 0 SH MI2 ML2 MR2 cells slots 1517 [(4, .int (nI i)), (3, .ref 154), (2, .ref 124), (1, .ref 0), (0, .ref 1300)] []) : RW X G RL cL_law 7 room_1 0 SH MI ML MR cells slots 1249 [(4, .int (nI i)), (3, .ref 154), (2, .ref 124), (1, .ref 0), (0, .ref 1300)] [] := by
  obtain ⟨r, S, A, Gn, b, K, u, bi, bo, w, h⟩ := hI
  obtain ⟨d1, Q1, hd1, hC1, hQ⟩ := two_codings (X := X) (x := (xs (nI i + 1).toNatClampNeg)) E.2.1 h
  refine r_aload_n 3 rfl dL_law_1249 ?_
  refine r_aload_n 4 rfl dL_law_1250 ?_
  refine r_iload 0 rfl dL_law_1251 ?_
  refine r_iconst (v := 1) rfl dL_law_1253 ?_
  refine r_iadd dL_law_1254 ?_
  refine r_scr hX dL_law_1255 (sc_in (k := 1) rfl (by omega) hL) ?_
  refine r_Vg [.int _] dL_law_1256 lk_L_155 mb_X10_codings in_X10_codings se_X10_codings rfl hC1 rfl rfl rfl (Nat.le_of_ble_eq_true rfl) (fit0 hd1 (by decide) hc) (fun zr zA zB zC hz => ?_)
  obtain ⟨v, d2, Q2, rfl, hd2, hC2, hQ2⟩ := hQ zr zA zB zC hz
  show RW X G _ _ _ _ _ _ _ _ _ _ _ _ _ [.int v]
  refine r_aload_n 2 rfl dL_law_1259 ?_
  refine r_aload_n 4 rfl dL_law_1260 ?_
  refine r_iload 0 rfl dL_law_1261 ?_
  refine r_iconst (v := 1) rfl dL_law_1263 ?_
  refine r_iadd dL_law_1264 ?_
  refine r_scr hX dL_law_1265 (sc_in (k := 1) rfl (by omega) hL) ?_
  refine r_Vg [.int _] dL_law_1266 lk_L_158 mb_X11_codings in_X11_codings se_X11_codings rfl hC2 rfl rfl rfl (Nat.le_of_ble_eq_true rfl) (fit0 hd2 (by decide) hc) (fun zr2 zA2 zB2 zC2 hz2 => ?_)
  obtain ⟨rfl, hI2⟩ := hQ2 zr2 zA2 zB2 zC2 hz2
  show RW X G _ _ _ _ _ _ _ _ _ _ _ _ _ [.int v, .int v]
  exact r_icmpeq (tgt := 1517) dL_law_1269 (by decide) (fun _ => k _ _ _ hI2) (fun q => absurd rfl q)
theorem lc_coding (E : lwE X) (hX : x_Sc X G L xs) (hi : i + 6 ≤ L) (hL : L ≤ 3072) (hI : InvE MI ML MR) (hc : cells ≤ 600000 ∧ slots ≤ 7000000) (k : ∀ MI2 ML2 MR2, InvE MI2 ML2 MR2 → RW X G RL cL_law 7 room_1 0 SH MI2 ML2 MR2 cells slots 1517 [(4, .int (nI i)), (3, .ref 154), (2, .ref 124), (1, .ref 0), (0, .ref 1300)] []) : RW X G RL cL_law 7 room_1 0 SH MI ML MR cells slots 1274 [(4, .int (nI i)), (3, .ref 154), (2, .ref 124), (1, .ref 0), (0, .ref 1300)] [] := by
  obtain ⟨r, S, A, Gn, b, K, u, bi, bo, w, h⟩ := hI
  obtain ⟨d1, Q1, hd1, hC1, hQ⟩ := two_coding (X := X) (x := (xs (nI i + 1).toNatClampNeg)) (y := (xs (nI i + 2).toNatClampNeg)) E.2.1 h
  refine r_aload_n 3 rfl dL_law_1274 ?_
  refine r_aload_n 4 rfl dL_law_1275 ?_
  refine r_iload 0 rfl dL_law_1276 ?_
  refine r_iconst (v := 1) rfl dL_law_1278 ?_
  refine r_iadd dL_law_1279 ?_
  refine r_scr hX dL_law_1280 (sc_in (k := 1) rfl (by omega) hL) ?_
  refine r_aload_n 4 rfl dL_law_1281 ?_
  refine r_iload 0 rfl dL_law_1282 ?_
  refine r_iconst (v := 2) rfl dL_law_1284 ?_
  refine r_iadd dL_law_1285 ?_
  refine r_scr hX dL_law_1286 (sc_in (k := 2) rfl (by omega) hL) ?_
  refine r_Vg [.int _, .int _] dL_law_1287 lk_L_159 mb_X10_coding in_X10_coding se_X10_coding rfl hC1 rfl rfl rfl (Nat.le_of_ble_eq_true rfl) (fit0 hd1 (by decide) hc) (fun zr zA zB zC hz => ?_)
  obtain ⟨v, d2, Q2, rfl, hd2, hC2, hQ2⟩ := hQ zr zA zB zC hz
  show RW X G _ _ _ _ _ _ _ _ _ _ _ _ _ [.int v]
  refine r_aload_n 2 rfl dL_law_1290 ?_
  refine r_aload_n 4 rfl dL_law_1291 ?_
  refine r_iload 0 rfl dL_law_1292 ?_
  refine r_iconst (v := 1) rfl dL_law_1294 ?_
  refine r_iadd dL_law_1295 ?_
  refine r_scr hX dL_law_1296 (sc_in (k := 1) rfl (by omega) hL) ?_
  refine r_aload_n 4 rfl dL_law_1297 ?_
  refine r_iload 0 rfl dL_law_1298 ?_
  refine r_iconst (v := 2) rfl dL_law_1300 ?_
  refine r_iadd dL_law_1301 ?_
  refine r_scr hX dL_law_1302 (sc_in (k := 2) rfl (by omega) hL) ?_
  refine r_Vg [.int _, .int _] dL_law_1303 lk_L_162 mb_X11_coding in_X11_coding se_X11_coding rfl hC2 rfl rfl rfl (Nat.le_of_ble_eq_true rfl) (fit0 hd2 (by decide) hc) (fun zr2 zA2 zB2 zC2 hz2 => ?_)
  obtain ⟨rfl, hI2⟩ := hQ2 zr2 zA2 zB2 zC2 hz2
  show RW X G _ _ _ _ _ _ _ _ _ _ _ _ _ [.int v, .int v]
  exact r_icmpeq (tgt := 1517) dL_law_1306 (by decide) (fun _ => k _ _ _ hI2) (fun q => absurd rfl q)
theorem lc_recode (E : lwE X) (hX : x_Sc X G L xs) (hi : i + 6 ≤ L) (hL : L ≤ 3072) (hI : InvE MI ML MR) (hc : cells ≤ 600000 ∧ slots ≤ 7000000) (k : ∀ MI2 ML2 MR2, InvE MI2 ML2 MR2 → RW X G RL cL_law 7 room_1 0 SH MI2 ML2 MR2 cells slots 1517 [(4, .int (nI i)), (3, .ref 154), (2, .ref 124), (1, .ref 0), (0, .ref 1300)] []) : RW X G RL cL_law 7 room_1 0 SH MI ML MR cells slots 1311 [(4, .int (nI i)), (3, .ref 154), (2, .ref 124), (1, .ref 0), (0, .ref 1300)] [] := by
  obtain ⟨r, S, A, Gn, b, K, u, bi, bo, w, h⟩ := hI
  obtain ⟨d1, Q1, hd1, hC1, hQ⟩ := two_recode (X := X) (x := (xs (nI i + 1).toNatClampNeg)) (y := (xs (nI i + 2).toNatClampNeg)) E.2.1 E.1 h
  refine r_aload_n 3 rfl dL_law_1311 ?_
  refine r_aload_n 4 rfl dL_law_1312 ?_
  refine r_iload 0 rfl dL_law_1313 ?_
  refine r_iconst (v := 1) rfl dL_law_1315 ?_
  refine r_iadd dL_law_1316 ?_
  refine r_scr hX dL_law_1317 (sc_in (k := 1) rfl (by omega) hL) ?_
  refine r_aload_n 4 rfl dL_law_1318 ?_
  refine r_iload 0 rfl dL_law_1319 ?_
  refine r_iconst (v := 2) rfl dL_law_1321 ?_
  refine r_iadd dL_law_1322 ?_
  refine r_scr hX dL_law_1323 (sc_in (k := 2) rfl (by omega) hL) ?_
  refine r_Vg [.int _, .int _] dL_law_1324 lk_L_163 mb_X10_recode in_X10_recode se_X10_recode rfl hC1 rfl rfl rfl (Nat.le_of_ble_eq_true rfl) (fit0 hd1 (by decide) hc) (fun zr zA zB zC hz => ?_)
  obtain ⟨v, d2, Q2, rfl, hd2, hC2, hQ2⟩ := hQ zr zA zB zC hz
  show RW X G _ _ _ _ _ _ _ _ _ _ _ _ _ [.int v]
  refine r_aload_n 2 rfl dL_law_1327 ?_
  refine r_aload_n 4 rfl dL_law_1328 ?_
  refine r_iload 0 rfl dL_law_1329 ?_
  refine r_iconst (v := 1) rfl dL_law_1331 ?_
  refine r_iadd dL_law_1332 ?_
  refine r_scr hX dL_law_1333 (sc_in (k := 1) rfl (by omega) hL) ?_
  refine r_aload_n 4 rfl dL_law_1334 ?_
  refine r_iload 0 rfl dL_law_1335 ?_
  refine r_iconst (v := 2) rfl dL_law_1337 ?_
  refine r_iadd dL_law_1338 ?_
  refine r_scr hX dL_law_1339 (sc_in (k := 2) rfl (by omega) hL) ?_
  refine r_Vg [.int _, .int _] dL_law_1340 lk_L_166 mb_X11_recode in_X11_recode se_X11_recode rfl hC2 rfl rfl rfl (Nat.le_of_ble_eq_true rfl) (fit0 hd2 (by decide) hc) (fun zr2 zA2 zB2 zC2 hz2 => ?_)
  obtain ⟨rfl, hI2⟩ := hQ2 zr2 zA2 zB2 zC2 hz2
  show RW X G _ _ _ _ _ _ _ _ _ _ _ _ _ [.int v, .int v]
  exact r_icmpeq (tgt := 1517) dL_law_1343 (by decide) (fun _ => k _ _ _ hI2) (fun q => absurd rfl q)
theorem lc_strike (E : lwE X) (hX : x_Sc X G L xs) (hi : i + 6 ≤ L) (hL : L ≤ 3072) (hI : InvE MI ML MR) (hc : cells ≤ 600000 ∧ slots ≤ 7000000) (k : ∀ MI2 ML2 MR2, InvE MI2 ML2 MR2 → RW X G RL cL_law 7 room_1 0 SH MI2 ML2 MR2 cells slots 1517 [(4, .int (nI i)), (3, .ref 154), (2, .ref 124), (1, .ref 0), (0, .ref 1300)] []) : RW X G RL cL_law 7 room_1 0 SH MI ML MR cells slots 1348 [(4, .int (nI i)), (3, .ref 154), (2, .ref 124), (1, .ref 0), (0, .ref 1300)] [] := by
  obtain ⟨r, S, A, Gn, b, K, u, bi, bo, w, h⟩ := hI
  obtain ⟨d1, Q1, hd1, hC1, hQ⟩ := two_strike (X := X) (x := (xs (nI i + 1).toNatClampNeg)) E.2.1 E.1 h
  refine r_aload_n 3 rfl dL_law_1348 ?_
  refine r_aload_n 4 rfl dL_law_1349 ?_
  refine r_iload 0 rfl dL_law_1350 ?_
  refine r_iconst (v := 1) rfl dL_law_1352 ?_
  refine r_iadd dL_law_1353 ?_
  refine r_scr hX dL_law_1354 (sc_in (k := 1) rfl (by omega) hL) ?_
  refine r_Vg [.int _] dL_law_1355 lk_L_167 mb_X10_strike in_X10_strike se_X10_strike rfl hC1 rfl rfl rfl (Nat.le_of_ble_eq_true rfl) (fit0 hd1 (by decide) hc) (fun zr zA zB zC hz => ?_)
  obtain ⟨v, d2, Q2, rfl, hd2, hC2, hQ2⟩ := hQ zr zA zB zC hz
  show RW X G _ _ _ _ _ _ _ _ _ _ _ _ _ [.int v]
  refine r_aload_n 2 rfl dL_law_1358 ?_
  refine r_aload_n 4 rfl dL_law_1359 ?_
  refine r_iload 0 rfl dL_law_1360 ?_
  refine r_iconst (v := 1) rfl dL_law_1362 ?_
  refine r_iadd dL_law_1363 ?_
  refine r_scr hX dL_law_1364 (sc_in (k := 1) rfl (by omega) hL) ?_
  refine r_Vg [.int _] dL_law_1365 lk_L_170 mb_X11_strike in_X11_strike se_X11_strike rfl hC2 rfl rfl rfl (Nat.le_of_ble_eq_true rfl) (fit0 hd2 (by decide) hc) (fun zr2 zA2 zB2 zC2 hz2 => ?_)
  obtain ⟨rfl, hI2⟩ := hQ2 zr2 zA2 zB2 zC2 hz2
  show RW X G _ _ _ _ _ _ _ _ _ _ _ _ _ [.int v, .int v]
  exact r_icmpeq (tgt := 1517) dL_law_1368 (by decide) (fun _ => k _ _ _ hI2) (fun q => absurd rfl q)
theorem lc_add (E : lwE X) (hX : x_Sc X G L xs) (hi : i + 6 ≤ L) (hL : L ≤ 3072) (hI : InvE MI ML MR) (hc : cells ≤ 600000 ∧ slots ≤ 7000000) (k : ∀ MI2 ML2 MR2, InvE MI2 ML2 MR2 → RW X G RL cL_law 7 room_1 0 SH MI2 ML2 MR2 cells slots 1517 [(4, .int (nI i)), (3, .ref 154), (2, .ref 124), (1, .ref 0), (0, .ref 1300)] []) : RW X G RL cL_law 7 room_1 0 SH MI ML MR cells slots 1373 [(4, .int (nI i)), (3, .ref 154), (2, .ref 124), (1, .ref 0), (0, .ref 1300)] [] := by
  obtain ⟨r, S, A, Gn, b, K, u, bi, bo, w, h⟩ := hI
  obtain ⟨d1, Q1, hd1, hC1, hQ⟩ := two_add (X := X) (x := (xs (nI i + 1).toNatClampNeg)) (y := (xs (nI i + 2).toNatClampNeg)) E.1 h
  refine r_aload_n 3 rfl dL_law_1373 ?_
  refine r_aload_n 4 rfl dL_law_1374 ?_
  refine r_iload 0 rfl dL_law_1375 ?_
  refine r_iconst (v := 1) rfl dL_law_1377 ?_
  refine r_iadd dL_law_1378 ?_
  refine r_scr hX dL_law_1379 (sc_in (k := 1) rfl (by omega) hL) ?_
  refine r_aload_n 4 rfl dL_law_1380 ?_
  refine r_iload 0 rfl dL_law_1381 ?_
  refine r_iconst (v := 2) rfl dL_law_1383 ?_
  refine r_iadd dL_law_1384 ?_
  refine r_scr hX dL_law_1385 (sc_in (k := 2) rfl (by omega) hL) ?_
  refine r_Vg [.int _, .int _] dL_law_1386 lk_L_171 mb_X10_add in_X10_add se_X10_add rfl hC1 rfl rfl rfl (Nat.le_of_ble_eq_true rfl) (fit0 hd1 (by decide) hc) (fun zr zA zB zC hz => ?_)
  obtain ⟨v, d2, Q2, rfl, hd2, hC2, hQ2⟩ := hQ zr zA zB zC hz
  show RW X G _ _ _ _ _ _ _ _ _ _ _ _ _ [.int v]
  refine r_aload_n 2 rfl dL_law_1389 ?_
  refine r_aload_n 4 rfl dL_law_1390 ?_
  refine r_iload 0 rfl dL_law_1391 ?_
  refine r_iconst (v := 1) rfl dL_law_1393 ?_
  refine r_iadd dL_law_1394 ?_
  refine r_scr hX dL_law_1395 (sc_in (k := 1) rfl (by omega) hL) ?_
  refine r_aload_n 4 rfl dL_law_1396 ?_
  refine r_iload 0 rfl dL_law_1397 ?_
  refine r_iconst (v := 2) rfl dL_law_1399 ?_
  refine r_iadd dL_law_1400 ?_
  refine r_scr hX dL_law_1401 (sc_in (k := 2) rfl (by omega) hL) ?_
  refine r_Vg [.int _, .int _] dL_law_1402 lk_L_174 mb_X11_add in_X11_add se_X11_add rfl hC2 rfl rfl rfl (Nat.le_of_ble_eq_true rfl) (fit0 hd2 (by decide) hc) (fun zr2 zA2 zB2 zC2 hz2 => ?_)
  obtain ⟨rfl, hI2⟩ := hQ2 zr2 zA2 zB2 zC2 hz2
  show RW X G _ _ _ _ _ _ _ _ _ _ _ _ _ [.int v, .int v]
  exact r_icmpeq (tgt := 1517) dL_law_1405 (by decide) (fun _ => k _ _ _ hI2) (fun q => absurd rfl q)
theorem lc_undo (E : lwE X) (hX : x_Sc X G L xs) (hi : i + 6 ≤ L) (hL : L ≤ 3072) (hI : InvE MI ML MR) (hc : cells ≤ 600000 ∧ slots ≤ 7000000) (k : ∀ MI2 ML2 MR2, InvE MI2 ML2 MR2 → RW X G RL cL_law 7 room_1 0 SH MI2 ML2 MR2 cells slots 1517 [(4, .int (nI i)), (3, .ref 154), (2, .ref 124), (1, .ref 0), (0, .ref 1300)] []) : RW X G RL cL_law 7 room_1 0 SH MI ML MR cells slots 1410 [(4, .int (nI i)), (3, .ref 154), (2, .ref 124), (1, .ref 0), (0, .ref 1300)] [] := by
  obtain ⟨r, S, A, Gn, b, K, u, bi, bo, w, h⟩ := hI
  obtain ⟨d1, Q1, hd1, hC1, hQ⟩ := two_undo (X := X)  E.2.1 h
  refine r_aload_n 3 rfl dL_law_1410 ?_
  refine r_Vg [] dL_law_1411 lk_L_175 mb_X10_undo in_X10_undo se_X10_undo rfl hC1 rfl rfl rfl (Nat.le_of_ble_eq_true rfl) (fit0 hd1 (by decide) hc) (fun zr zA zB zC hz => ?_)
  obtain ⟨v, d2, Q2, rfl, hd2, hC2, hQ2⟩ := hQ zr zA zB zC hz
  show RW X G _ _ _ _ _ _ _ _ _ _ _ _ _ [.int v]
  refine r_aload_n 2 rfl dL_law_1414 ?_
  refine r_Vg [] dL_law_1415 lk_L_179 mb_X11_undo in_X11_undo se_X11_undo rfl hC2 rfl rfl rfl (Nat.le_of_ble_eq_true rfl) (fit0 hd2 (by decide) hc) (fun zr2 zA2 zB2 zC2 hz2 => ?_)
  obtain ⟨rfl, hI2⟩ := hQ2 zr2 zA2 zB2 zC2 hz2
  show RW X G _ _ _ _ _ _ _ _ _ _ _ _ _ [.int v, .int v]
  exact r_icmpeq (tgt := 1517) dL_law_1418 (by decide) (fun _ => k _ _ _ hI2) (fun q => absurd rfl q)
theorem lc_size (E : lwE X) (hX : x_Sc X G L xs) (hi : i + 6 ≤ L) (hL : L ≤ 3072) (hI : InvE MI ML MR) (hc : cells ≤ 600000 ∧ slots ≤ 7000000) (k : ∀ MI2 ML2 MR2, InvE MI2 ML2 MR2 → RW X G RL cL_law 7 room_1 0 SH MI2 ML2 MR2 cells slots 1517 [(4, .int (nI i)), (3, .ref 154), (2, .ref 124), (1, .ref 0), (0, .ref 1300)] []) : RW X G RL cL_law 7 room_1 0 SH MI ML MR cells slots 1479 [(4, .int (nI i)), (3, .ref 154), (2, .ref 124), (1, .ref 0), (0, .ref 1300)] [] := by
  obtain ⟨r, S, A, Gn, b, K, u, bi, bo, w, h⟩ := hI
  obtain ⟨d1, Q1, hd1, hC1, hQ⟩ := two_size (X := X) (x := (xs (nI i + 1).toNatClampNeg))  h
  refine r_aload_n 3 rfl dL_law_1479 ?_
  refine r_aload_n 4 rfl dL_law_1480 ?_
  refine r_iload 0 rfl dL_law_1481 ?_
  refine r_iconst (v := 1) rfl dL_law_1483 ?_
  refine r_iadd dL_law_1484 ?_
  refine r_scr hX dL_law_1485 (sc_in (k := 1) rfl (by omega) hL) ?_
  refine r_Vg [.int _] dL_law_1486 lk_L_189 mb_X10_size in_X10_size se_X10_size rfl hC1 rfl rfl rfl (Nat.le_of_ble_eq_true rfl) (fit0 hd1 (by decide) hc) (fun zr zA zB zC hz => ?_)
  obtain ⟨v, d2, Q2, rfl, hd2, hC2, hQ2⟩ := hQ zr zA zB zC hz
  show RW X G _ _ _ _ _ _ _ _ _ _ _ _ _ [.int v]
  refine r_aload_n 2 rfl dL_law_1489 ?_
  refine r_aload_n 4 rfl dL_law_1490 ?_
  refine r_iload 0 rfl dL_law_1491 ?_
  refine r_iconst (v := 1) rfl dL_law_1493 ?_
  refine r_iadd dL_law_1494 ?_
  refine r_scr hX dL_law_1495 (sc_in (k := 1) rfl (by omega) hL) ?_
  refine r_Vg [.int _] dL_law_1496 lk_L_192 mb_X11_size in_X11_size se_X11_size rfl hC2 rfl rfl rfl (Nat.le_of_ble_eq_true rfl) (fit0 hd2 (by decide) hc) (fun zr2 zA2 zB2 zC2 hz2 => ?_)
  obtain ⟨rfl, hI2⟩ := hQ2 zr2 zA2 zB2 zC2 hz2
  show RW X G _ _ _ _ _ _ _ _ _ _ _ _ _ [.int v, .int v]
  exact r_icmpeq (tgt := 1517) dL_law_1499 (by decide) (fun _ => k _ _ _ hI2) (fun q => absurd rfl q)
theorem lc_trouble (E : lwE X) (hX : x_Sc X G L xs) (hi : i + 6 ≤ L) (hL : L ≤ 3072) (hI : InvE MI ML MR) (hc : cells ≤ 600000 ∧ slots ≤ 7000000) (k : ∀ MI2 ML2 MR2, InvE MI2 ML2 MR2 → RW X G RL cL_law 7 room_1 0 SH MI2 ML2 MR2 cells slots 1517 [(4, .int (nI i)), (3, .ref 154), (2, .ref 124), (1, .ref 0), (0, .ref 1300)] []) : RW X G RL cL_law 7 room_1 0 SH MI ML MR cells slots 1504 [(4, .int (nI i)), (3, .ref 154), (2, .ref 124), (1, .ref 0), (0, .ref 1300)] [] := by
  obtain ⟨r, S, A, Gn, b, K, u, bi, bo, w, h⟩ := hI
  obtain ⟨d1, Q1, hd1, hC1, hQ⟩ := two_trouble (X := X)   h
  refine r_aload_n 3 rfl dL_law_1504 ?_
  refine r_Vg [] dL_law_1505 lk_L_193 mb_X10_trouble in_X10_trouble se_X10_trouble rfl hC1 rfl rfl rfl (Nat.le_of_ble_eq_true rfl) (fit0 hd1 (by decide) hc) (fun zr zA zB zC hz => ?_)
  obtain ⟨v, d2, Q2, rfl, hd2, hC2, hQ2⟩ := hQ zr zA zB zC hz
  show RW X G _ _ _ _ _ _ _ _ _ _ _ _ _ [.int v]
  refine r_aload_n 2 rfl dL_law_1508 ?_
  refine r_Vg [] dL_law_1509 lk_L_196 mb_X11_trouble in_X11_trouble se_X11_trouble rfl hC2 rfl rfl rfl (Nat.le_of_ble_eq_true rfl) (fit0 hd2 (by decide) hc) (fun zr2 zA2 zB2 zC2 hz2 => ?_)
  obtain ⟨rfl, hI2⟩ := hQ2 zr2 zA2 zB2 zC2 hz2
  show RW X G _ _ _ _ _ _ _ _ _ _ _ _ _ [.int v, .int v]
  exact r_icmpeq (tgt := 1517) dL_law_1512 (by decide) (fun _ => k _ _ _ hI2) (fun q => absurd rfl q)
end lawc
