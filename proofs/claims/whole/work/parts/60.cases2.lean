/-! the law, case by case: setFrost plant prune graft fell tree -/
section LC
variable {p : Program} {l : Launch} {e : Env} {s : State} {m : MethodId} {below : List Frame} {meth : Method} {c : Code} {H : Heap} {locs : List Loc} {cells slots : Nat} {Q : State → Prop}
variable {ls : Array Slot} {D : va_G} {cI cZ cQ cJ : ClassId} {b L : Nat} {xs : Nat → Int32} {dX dM : Nat → Nat} {w9 n : Nat} {σ κ μ : St} {g : Nat → Int64}
set_option maxHeartbeats 4000000 in
set_option maxRecDepth 100000 in
theorem lC_setFrost (G : lG p l s m meth c b L xs D cI cZ cQ cJ) (hn : 5 * n + 5 ≤ L) (h : Lv n σ μ) (hcc : cells + 1090 ≤ 601024) (hss : slots + 4905 ≤ 7293034) (hP : va_P D vwCl (lWx cI cZ cJ dX dM w9 σ κ μ g) H) (hD : va_D (lA s) (lWx cI cZ cJ dX dM w9 σ κ μ g)) (hS : va_S (lA s) s.heap H locs) (hl : lv_has ls 9 (lLs b (dX 0) (dM 0) w9 n)) (K : lK p l e s m below meth c D cI cZ cJ b dX dM w9 n (cells + 1090) (slots + 4905) Q) : W p l e room_1 s m #[Value.ref b] below meth c H locs cells slots Q (F0 m 204 ls []) := by
  obtain ⟨S, hfl, hr, hlocks, hX, hbl, hL, hK, hTE, hN, hME⟩ := id G
  have S0 := S
  obtain ⟨hx, hb, hml, hown, hts⟩ := S0
  have hA : ∀ q : Nat, s.heap.size ≤ q → lA s q := fun _ h => h
  have hby := Lv_b h (by omega)
  have b1 := lx_b xs n 1
  have b2 := lx_b xs n 2
  refine lv_aload_n hx hb dL_law_204 rfl (lv_at hl 3 rfl) ?_
  refine lArg hx hb hX hbl hS hL 1 hn (by decide) hl 0 4 rfl rfl dL_law_205 dL_law_206 dL_law_208 dL_law_209 dL_law_210 ?_
  refine lArg hx hb hX hbl hS hL 2 hn (by decide) hl 0 4 rfl rfl dL_law_211 dL_law_212 dL_law_214 dL_law_215 dL_law_216 ?_
  refine lv_aload_n hx hb dL_law_217 rfl (lv_at hl 1 rfl) ?_
  have hP : va_P D vwCl ((XW cI cZ dX σ κ ++ [(w9, LJ cJ g)]) ++ MW cI dM μ) H := hP
  have hD : va_D (lA s) ((XW cI cZ dX σ κ ++ [(w9, LJ cJ g)]) ++ MW cI dM μ) := hD
  refine g_call (mc := 1) (ms := 6) (vx_runSW (As := [.ref (dX 0), .int (iI (lx xs n 1)), .int (iI (lx xs n 2)), .ref w9]) (rest := []) S (kL_setFrost l hfl D cI cZ cJ dX σ κ w9 g (lx xs n 1) (lx xs n 2) h.1 b1.1 b1.2 b2.1 b2.2 H.size) (vx_cwSW 4 hts gL_law_L_setFrost rfl rfl rfl (by decide +kernel) ⟨Nat.le_of_ble_eq_true rfl, Nat.le_of_ble_eq_true rfl⟩) (g_preS (lEx_g _) hK [0, 1, 3] rfl hP hD (fun U hU hW => ⟨tEx_w hTE hD hS hA hU hW, nCa_m hW.alike hN⟩)) rfl rfl hl.1 rfl (lv_room (Nat.le_of_ble_eq_true rfl)) dL_law_218 ⟨lRc (by omega), lRs (by omega)⟩) hP hD hS hA (fun κ9 H locs hk hP hD hS => ?_)
  show W p l e room_1 s m #[Value.ref b] below meth c H locs (cells + 1) (slots + 6) Q (F0 m 221 ls [.int (iI (tSetFrost (lx xs n 1) (lx xs n 2)))])
  obtain ⟨hP, hD⟩ := g_swap hP hD
  refine lv_istore (lv' := (5, .int (iI (tSetFrost (lx xs n 1) (lx xs n 2)))) :: lLs b (dX 0) (dM 0) w9 n) hx hb dL_law_221 hl (by decide) rfl (fun ls hl => ?_)
  refine lv_aload_n hx hb dL_law_223 rfl (lv_at hl 3 rfl) ?_
  refine lArg hx hb hX hbl hS hL 1 hn (by decide) hl 1 5 rfl rfl dL_law_224 dL_law_225 dL_law_227 dL_law_228 dL_law_229 ?_
  refine lArg hx hb hX hbl hS hL 2 hn (by decide) hl 1 5 rfl rfl dL_law_230 dL_law_231 dL_law_233 dL_law_234 dL_law_235 ?_
  refine g_call (mc := 0) (ms := 0) (va_runV (As := [.int (iI (lx xs n 1)), .int (iI (lx xs n 2))]) (rest := []) S (kX2_setFrost l D cI cZ cQ dM μ (lx xs n 1) (lx xs n 2) b1.1 b1.2 b2.1 b2.2 H.size) (cwV 2 hts gL_law_X2_setFrost rfl rfl rfl (by decide +kernel) ⟨Nat.le_of_ble_eq_true rfl, Nat.le_of_ble_eq_true rfl⟩) (g_preV gEx_t hK [0, 1, 2] rfl hP hD (fun _ _ _ => trivial) (q0 := 0) (ci := 2) rfl rfl rfl) rfl rfl hl.1 rfl (lv_room (Nat.le_of_ble_eq_true rfl)) dL_law_236 ⟨lRc (by omega), lRs (by omega)⟩) hP hD hS hA (fun κ8 H locs hk8 hP hD hS => ?_)
  refine lv_istore (lv' := (6, .int (iI _)) :: (5, .int (iI (tSetFrost (lx xs n 1) (lx xs n 2)))) :: lLs b (dX 0) (dM 0) w9 n) hx hb dL_law_239 hl (by decide) rfl (fun ls hl => ?_)
  exact lTail (t := (tSetFrost (lx xs n 1) (lx xs n 2))) G hP hD hS hl (Lv_setFrost h (lx xs n 1) (lx xs n 2)) (mRes_6 rfl) (tR_setFrost (lx xs n 1) (lx xs n 2)) (hv_L (fun _ => eq_setFrost h (lx xs n 1) (lx xs n 2))) (by omega) (by omega) hcc hss K (by decide) dL_law_241 dL_law_242 dL_law_245 dL_law_247 dL_law_252 dL_law_254 dL_law_257 dL_law_258 dL_law_259 dL_law_260 dL_law_262 dL_law_263 dL_law_264 dL_law_269
set_option maxHeartbeats 4000000 in
set_option maxRecDepth 100000 in
theorem lC_plant (G : lG p l s m meth c b L xs D cI cZ cQ cJ) (hn : 5 * n + 5 ≤ L) (h : Lv n σ μ) (hcc : cells + 1090 ≤ 601024) (hss : slots + 4905 ≤ 7293034) (hP : va_P D vwCl (lWx cI cZ cJ dX dM w9 σ κ μ g) H) (hD : va_D (lA s) (lWx cI cZ cJ dX dM w9 σ κ μ g)) (hS : va_S (lA s) s.heap H locs) (hl : lv_has ls 9 (lLs b (dX 0) (dM 0) w9 n)) (K : lK p l e s m below meth c D cI cZ cJ b dX dM w9 n (cells + 1090) (slots + 4905) Q) : W p l e room_1 s m #[Value.ref b] below meth c H locs cells slots Q (F0 m 272 ls []) := by
  obtain ⟨S, hfl, hr, hlocks, hX, hbl, hL, hK, hTE, hN, hME⟩ := id G
  have S0 := S
  obtain ⟨hx, hb, hml, hown, hts⟩ := S0
  have hA : ∀ q : Nat, s.heap.size ≤ q → lA s q := fun _ h => h
  have hby := Lv_b h (by omega)
  have b1 := lx_b xs n 1
  have b2 := lx_b xs n 2
  have b3 := lx_b xs n 3
  have b4 := lx_b xs n 4
  refine lv_aload_n hx hb dL_law_272 rfl (lv_at hl 3 rfl) ?_
  refine lArg hx hb hX hbl hS hL 1 hn (by decide) hl 0 4 rfl rfl dL_law_273 dL_law_274 dL_law_276 dL_law_277 dL_law_278 ?_
  refine lArg hx hb hX hbl hS hL 2 hn (by decide) hl 0 4 rfl rfl dL_law_279 dL_law_280 dL_law_282 dL_law_283 dL_law_284 ?_
  refine lArg hx hb hX hbl hS hL 3 hn (by decide) hl 0 4 rfl rfl dL_law_285 dL_law_286 dL_law_288 dL_law_289 dL_law_290 ?_
  refine lArg hx hb hX hbl hS hL 4 hn (by decide) hl 0 4 rfl rfl dL_law_291 dL_law_292 dL_law_294 dL_law_295 dL_law_296 ?_
  refine lv_aload_n hx hb dL_law_297 rfl (lv_at hl 1 rfl) ?_
  have hP : va_P D vwCl ((XW cI cZ dX σ κ ++ [(w9, LJ cJ g)]) ++ MW cI dM μ) H := hP
  have hD : va_D (lA s) ((XW cI cZ dX σ κ ++ [(w9, LJ cJ g)]) ++ MW cI dM μ) := hD
  refine g_call (mc := 1) (ms := 6) (vx_runSW (As := [.ref (dX 0), .int (iI (lx xs n 1)), .int (iI (lx xs n 2)), .int (iI (lx xs n 3)), .int (iI (lx xs n 4)), .ref w9]) (rest := []) S (kL_plant l hfl D cI cZ cJ dX σ κ w9 g (lx xs n 1) (lx xs n 2) (lx xs n 3) (lx xs n 4) h.1 b1.1 b1.2 b2.1 b2.2 b3.1 b3.2 b4.1 b4.2 H.size) (vx_cwSW 6 hts gL_law_L_plant rfl rfl rfl (by decide +kernel) ⟨Nat.le_of_ble_eq_true rfl, Nat.le_of_ble_eq_true rfl⟩) (g_preS (lEx_g _) hK [0, 1, 3] rfl hP hD (fun U hU hW => ⟨tEx_w hTE hD hS hA hU hW, nCa_m hW.alike hN⟩)) rfl rfl hl.1 rfl (lv_room (Nat.le_of_ble_eq_true rfl)) dL_law_298 ⟨lRc (by omega), lRs (by omega)⟩) hP hD hS hA (fun κ9 H locs hk hP hD hS => ?_)
  show W p l e room_1 s m #[Value.ref b] below meth c H locs (cells + 1) (slots + 6) Q (F0 m 301 ls [.int (iI (tPlant (lx xs n 1) (lx xs n 2) (lx xs n 3) (lx xs n 4)))])
  obtain ⟨hP, hD⟩ := g_swap hP hD
  refine lv_istore (lv' := (5, .int (iI (tPlant (lx xs n 1) (lx xs n 2) (lx xs n 3) (lx xs n 4)))) :: lLs b (dX 0) (dM 0) w9 n) hx hb dL_law_301 hl (by decide) rfl (fun ls hl => ?_)
  refine lv_aload_n hx hb dL_law_303 rfl (lv_at hl 3 rfl) ?_
  refine lArg hx hb hX hbl hS hL 1 hn (by decide) hl 1 5 rfl rfl dL_law_304 dL_law_305 dL_law_307 dL_law_308 dL_law_309 ?_
  refine lArg hx hb hX hbl hS hL 2 hn (by decide) hl 1 5 rfl rfl dL_law_310 dL_law_311 dL_law_313 dL_law_314 dL_law_315 ?_
  refine lArg hx hb hX hbl hS hL 3 hn (by decide) hl 1 5 rfl rfl dL_law_316 dL_law_317 dL_law_319 dL_law_320 dL_law_321 ?_
  refine lArg hx hb hX hbl hS hL 4 hn (by decide) hl 1 5 rfl rfl dL_law_322 dL_law_323 dL_law_325 dL_law_326 dL_law_327 ?_
  refine g_call (mc := 2) (ms := 10) (va_runV (As := [.int (iI (lx xs n 1)), .int (iI (lx xs n 2)), .int (iI (lx xs n 3)), .int (iI (lx xs n 4))]) (rest := []) S (kX2_plant l D cI cZ cQ dM μ (lx xs n 1) (lx xs n 2) (lx xs n 3) (lx xs n 4) b1.1 b1.2 b2.1 b2.2 b3.1 b3.2 b4.1 b4.2 h.2.1 H.size) (cwV 4 hts gL_law_X2_plant rfl rfl rfl (by decide +kernel) ⟨Nat.le_of_ble_eq_true rfl, Nat.le_of_ble_eq_true rfl⟩) (g_preV (mEx_g _) hK [0, 1, 2] rfl hP hD (fun U hU hW => mEx_w hME hD hS hA hU hW) (q0 := 0) (ci := 2) rfl rfl rfl) rfl rfl hl.1 rfl (lv_room (Nat.le_of_ble_eq_true rfl)) dL_law_328 ⟨lRc (by omega), lRs (by omega)⟩) hP hD hS hA (fun κ8 H locs hk8 hP hD hS => ?_)
  refine lv_istore (lv' := (6, .int (iI _)) :: (5, .int (iI (tPlant (lx xs n 1) (lx xs n 2) (lx xs n 3) (lx xs n 4)))) :: lLs b (dX 0) (dM 0) w9 n) hx hb dL_law_331 hl (by decide) rfl (fun ls hl => ?_)
  exact lTail (t := (tPlant (lx xs n 1) (lx xs n 2) (lx xs n 3) (lx xs n 4))) G hP hD hS hl (Lv_plant h (lx xs n 1) (lx xs n 2) (lx xs n 3) (lx xs n 4)) (mRes_6 (mBo_60 _ _ _ _ _ _)) (tR_plant (lx xs n 1) (lx xs n 2) (lx xs n 3) (lx xs n 4)) (hv_L (eq_plant h (lx xs n 1) (lx xs n 2) (lx xs n 3) (lx xs n 4))) (by omega) (by omega) hcc hss K (by decide) dL_law_333 dL_law_334 dL_law_337 dL_law_339 dL_law_344 dL_law_346 dL_law_349 dL_law_350 dL_law_351 dL_law_352 dL_law_354 dL_law_355 dL_law_356 dL_law_361
set_option maxHeartbeats 4000000 in
set_option maxRecDepth 100000 in
theorem lC_prune (G : lG p l s m meth c b L xs D cI cZ cQ cJ) (hn : 5 * n + 5 ≤ L) (h : Lv n σ μ) (hcc : cells + 1090 ≤ 601024) (hss : slots + 4905 ≤ 7293034) (hP : va_P D vwCl (lWx cI cZ cJ dX dM w9 σ κ μ g) H) (hD : va_D (lA s) (lWx cI cZ cJ dX dM w9 σ κ μ g)) (hS : va_S (lA s) s.heap H locs) (hl : lv_has ls 9 (lLs b (dX 0) (dM 0) w9 n)) (K : lK p l e s m below meth c D cI cZ cJ b dX dM w9 n (cells + 1090) (slots + 4905) Q) : W p l e room_1 s m #[Value.ref b] below meth c H locs cells slots Q (F0 m 364 ls []) := by
  obtain ⟨S, hfl, hr, hlocks, hX, hbl, hL, hK, hTE, hN, hME⟩ := id G
  have S0 := S
  obtain ⟨hx, hb, hml, hown, hts⟩ := S0
  have hA : ∀ q : Nat, s.heap.size ≤ q → lA s q := fun _ h => h
  have hby := Lv_b h (by omega)
  have b1 := lx_b xs n 1
  have b2 := lx_b xs n 2
  have b3 := lx_b xs n 3
  refine lv_aload_n hx hb dL_law_364 rfl (lv_at hl 3 rfl) ?_
  refine lArg hx hb hX hbl hS hL 1 hn (by decide) hl 0 4 rfl rfl dL_law_365 dL_law_366 dL_law_368 dL_law_369 dL_law_370 ?_
  refine lArg hx hb hX hbl hS hL 2 hn (by decide) hl 0 4 rfl rfl dL_law_371 dL_law_372 dL_law_374 dL_law_375 dL_law_376 ?_
  refine lArg hx hb hX hbl hS hL 3 hn (by decide) hl 0 4 rfl rfl dL_law_377 dL_law_378 dL_law_380 dL_law_381 dL_law_382 ?_
  refine lv_aload_n hx hb dL_law_383 rfl (lv_at hl 1 rfl) ?_
  have hP : va_P D vwCl ((XW cI cZ dX σ κ ++ [(w9, LJ cJ g)]) ++ MW cI dM μ) H := hP
  have hD : va_D (lA s) ((XW cI cZ dX σ κ ++ [(w9, LJ cJ g)]) ++ MW cI dM μ) := hD
  refine g_call (mc := 1) (ms := 6) (vx_runSW (As := [.ref (dX 0), .int (iI (lx xs n 1)), .int (iI (lx xs n 2)), .int (iI (lx xs n 3)), .ref w9]) (rest := []) S (kL_prune l hfl D cI cZ cJ dX σ κ w9 g (lx xs n 1) (lx xs n 2) (lx xs n 3) h.1 b1.1 b1.2 b2.1 b2.2 b3.1 b3.2 H.size) (vx_cwSW 5 hts gL_law_L_prune rfl rfl rfl (by decide +kernel) ⟨Nat.le_of_ble_eq_true rfl, Nat.le_of_ble_eq_true rfl⟩) (g_preS (lEx_g _) hK [0, 1, 3] rfl hP hD (fun U hU hW => ⟨tEx_w hTE hD hS hA hU hW, nCa_m hW.alike hN⟩)) rfl rfl hl.1 rfl (lv_room (Nat.le_of_ble_eq_true rfl)) dL_law_384 ⟨lRc (by omega), lRs (by omega)⟩) hP hD hS hA (fun κ9 H locs hk hP hD hS => ?_)
  show W p l e room_1 s m #[Value.ref b] below meth c H locs (cells + 1) (slots + 6) Q (F0 m 387 ls [.int (iI (tPrune (lx xs n 1) (lx xs n 2) (lx xs n 3)))])
  obtain ⟨hP, hD⟩ := g_swap hP hD
  refine lv_istore (lv' := (5, .int (iI (tPrune (lx xs n 1) (lx xs n 2) (lx xs n 3)))) :: lLs b (dX 0) (dM 0) w9 n) hx hb dL_law_387 hl (by decide) rfl (fun ls hl => ?_)
  refine lv_aload_n hx hb dL_law_389 rfl (lv_at hl 3 rfl) ?_
  refine lArg hx hb hX hbl hS hL 1 hn (by decide) hl 1 5 rfl rfl dL_law_390 dL_law_391 dL_law_393 dL_law_394 dL_law_395 ?_
  refine lArg hx hb hX hbl hS hL 2 hn (by decide) hl 1 5 rfl rfl dL_law_396 dL_law_397 dL_law_399 dL_law_400 dL_law_401 ?_
  refine lArg hx hb hX hbl hS hL 3 hn (by decide) hl 1 5 rfl rfl dL_law_402 dL_law_403 dL_law_405 dL_law_406 dL_law_407 ?_
  refine g_call (mc := 2) (ms := 10) (va_runV (As := [.int (iI (lx xs n 1)), .int (iI (lx xs n 2)), .int (iI (lx xs n 3))]) (rest := []) S (kX2_prune l D cI cZ cQ dM μ (lx xs n 1) (lx xs n 2) (lx xs n 3) b1.1 b1.2 b2.1 b2.2 b3.1 b3.2 h.2.1 H.size) (cwV 3 hts gL_law_X2_prune rfl rfl rfl (by decide +kernel) ⟨Nat.le_of_ble_eq_true rfl, Nat.le_of_ble_eq_true rfl⟩) (g_preV (mEx_g _) hK [0, 1, 2] rfl hP hD (fun U hU hW => mEx_w hME hD hS hA hU hW) (q0 := 0) (ci := 2) rfl rfl rfl) rfl rfl hl.1 rfl (lv_room (Nat.le_of_ble_eq_true rfl)) dL_law_408 ⟨lRc (by omega), lRs (by omega)⟩) hP hD hS hA (fun κ8 H locs hk8 hP hD hS => ?_)
  refine lv_istore (lv' := (6, .int (iI _)) :: (5, .int (iI (tPrune (lx xs n 1) (lx xs n 2) (lx xs n 3)))) :: lLs b (dX 0) (dM 0) w9 n) hx hb dL_law_411 hl (by decide) rfl (fun ls hl => ?_)
  exact lTail (t := (tPrune (lx xs n 1) (lx xs n 2) (lx xs n 3))) G hP hD hS hl (Lv_prune h (lx xs n 1) (lx xs n 2) (lx xs n 3)) (mRes_6 (mBo_60 _ _ _ _ _ _)) (tR_prune (lx xs n 1) (lx xs n 2) (lx xs n 3)) (hv_L (eq_prune h (lx xs n 1) (lx xs n 2) (lx xs n 3))) (by omega) (by omega) hcc hss K (by decide) dL_law_413 dL_law_414 dL_law_417 dL_law_419 dL_law_424 dL_law_426 dL_law_429 dL_law_430 dL_law_431 dL_law_432 dL_law_434 dL_law_435 dL_law_436 dL_law_441
set_option maxHeartbeats 4000000 in
set_option maxRecDepth 100000 in
theorem lC_graft (G : lG p l s m meth c b L xs D cI cZ cQ cJ) (hn : 5 * n + 5 ≤ L) (h : Lv n σ μ) (hcc : cells + 1090 ≤ 601024) (hss : slots + 4905 ≤ 7293034) (hP : va_P D vwCl (lWx cI cZ cJ dX dM w9 σ κ μ g) H) (hD : va_D (lA s) (lWx cI cZ cJ dX dM w9 σ κ μ g)) (hS : va_S (lA s) s.heap H locs) (hl : lv_has ls 9 (lLs b (dX 0) (dM 0) w9 n)) (K : lK p l e s m below meth c D cI cZ cJ b dX dM w9 n (cells + 1090) (slots + 4905) Q) : W p l e room_1 s m #[Value.ref b] below meth c H locs cells slots Q (F0 m 444 ls []) := by
  obtain ⟨S, hfl, hr, hlocks, hX, hbl, hL, hK, hTE, hN, hME⟩ := id G
  have S0 := S
  obtain ⟨hx, hb, hml, hown, hts⟩ := S0
  have hA : ∀ q : Nat, s.heap.size ≤ q → lA s q := fun _ h => h
  have hby := Lv_b h (by omega)
  have b1 := lx_b xs n 1
  have b2 := lx_b xs n 2
  have b3 := lx_b xs n 3
  refine lv_aload_n hx hb dL_law_444 rfl (lv_at hl 3 rfl) ?_
  refine lArg hx hb hX hbl hS hL 1 hn (by decide) hl 0 4 rfl rfl dL_law_445 dL_law_446 dL_law_448 dL_law_449 dL_law_450 ?_
  refine lArg hx hb hX hbl hS hL 2 hn (by decide) hl 0 4 rfl rfl dL_law_451 dL_law_452 dL_law_454 dL_law_455 dL_law_456 ?_
  refine lArg hx hb hX hbl hS hL 3 hn (by decide) hl 0 4 rfl rfl dL_law_457 dL_law_458 dL_law_460 dL_law_461 dL_law_462 ?_
  refine lv_aload_n hx hb dL_law_463 rfl (lv_at hl 1 rfl) ?_
  have hP : va_P D vwCl ((XW cI cZ dX σ κ ++ [(w9, LJ cJ g)]) ++ MW cI dM μ) H := hP
  have hD : va_D (lA s) ((XW cI cZ dX σ κ ++ [(w9, LJ cJ g)]) ++ MW cI dM μ) := hD
  refine g_call (mc := 1) (ms := 6) (vx_runSW (As := [.ref (dX 0), .int (iI (lx xs n 1)), .int (iI (lx xs n 2)), .int (iI (lx xs n 3)), .ref w9]) (rest := []) S (kL_graft l hfl D cI cZ cJ dX σ κ w9 g (lx xs n 1) (lx xs n 2) (lx xs n 3) h.1 b1.1 b1.2 b2.1 b2.2 b3.1 b3.2 H.size) (vx_cwSW 5 hts gL_law_L_graft rfl rfl rfl (by decide +kernel) ⟨Nat.le_of_ble_eq_true rfl, Nat.le_of_ble_eq_true rfl⟩) (g_preS (lEx_g _) hK [0, 1, 3] rfl hP hD (fun U hU hW => ⟨tEx_w hTE hD hS hA hU hW, nCa_m hW.alike hN⟩)) rfl rfl hl.1 rfl (lv_room (Nat.le_of_ble_eq_true rfl)) dL_law_464 ⟨lRc (by omega), lRs (by omega)⟩) hP hD hS hA (fun κ9 H locs hk hP hD hS => ?_)
  show W p l e room_1 s m #[Value.ref b] below meth c H locs (cells + 1) (slots + 6) Q (F0 m 467 ls [.int (iI (tGraft (lx xs n 1) (lx xs n 2) (lx xs n 3)))])
  obtain ⟨hP, hD⟩ := g_swap hP hD
  refine lv_istore (lv' := (5, .int (iI (tGraft (lx xs n 1) (lx xs n 2) (lx xs n 3)))) :: lLs b (dX 0) (dM 0) w9 n) hx hb dL_law_467 hl (by decide) rfl (fun ls hl => ?_)
  refine lv_aload_n hx hb dL_law_469 rfl (lv_at hl 3 rfl) ?_
  refine lArg hx hb hX hbl hS hL 1 hn (by decide) hl 1 5 rfl rfl dL_law_470 dL_law_471 dL_law_473 dL_law_474 dL_law_475 ?_
  refine lArg hx hb hX hbl hS hL 2 hn (by decide) hl 1 5 rfl rfl dL_law_476 dL_law_477 dL_law_479 dL_law_480 dL_law_481 ?_
  refine lArg hx hb hX hbl hS hL 3 hn (by decide) hl 1 5 rfl rfl dL_law_482 dL_law_483 dL_law_485 dL_law_486 dL_law_487 ?_
  refine g_call (mc := 2) (ms := 10) (va_runV (As := [.int (iI (lx xs n 1)), .int (iI (lx xs n 2)), .int (iI (lx xs n 3))]) (rest := []) S (kX2_graft l D cI cZ cQ dM μ (lx xs n 1) (lx xs n 2) (lx xs n 3) b1.1 b1.2 b2.1 b2.2 b3.1 b3.2 h.2.1 H.size) (cwV 3 hts gL_law_X2_graft rfl rfl rfl (by decide +kernel) ⟨Nat.le_of_ble_eq_true rfl, Nat.le_of_ble_eq_true rfl⟩) (g_preV (mEx_g _) hK [0, 1, 2] rfl hP hD (fun U hU hW => mEx_w hME hD hS hA hU hW) (q0 := 0) (ci := 2) rfl rfl rfl) rfl rfl hl.1 rfl (lv_room (Nat.le_of_ble_eq_true rfl)) dL_law_488 ⟨lRc (by omega), lRs (by omega)⟩) hP hD hS hA (fun κ8 H locs hk8 hP hD hS => ?_)
  refine lv_istore (lv' := (6, .int (iI _)) :: (5, .int (iI (tGraft (lx xs n 1) (lx xs n 2) (lx xs n 3)))) :: lLs b (dX 0) (dM 0) w9 n) hx hb dL_law_491 hl (by decide) rfl (fun ls hl => ?_)
  exact lTail (t := (tGraft (lx xs n 1) (lx xs n 2) (lx xs n 3))) G hP hD hS hl (Lv_graft h (lx xs n 1) (lx xs n 2) (lx xs n 3)) (mRes_6 (mBo_60 _ _ _ _ _ _)) (tR_graft (lx xs n 1) (lx xs n 2) (lx xs n 3)) (hv_L (eq_graft h (lx xs n 1) (lx xs n 2) (lx xs n 3))) (by omega) (by omega) hcc hss K (by decide) dL_law_493 dL_law_494 dL_law_497 dL_law_499 dL_law_504 dL_law_506 dL_law_509 dL_law_510 dL_law_511 dL_law_512 dL_law_514 dL_law_515 dL_law_516 dL_law_521
set_option maxHeartbeats 4000000 in
set_option maxRecDepth 100000 in
theorem lC_fell (G : lG p l s m meth c b L xs D cI cZ cQ cJ) (hn : 5 * n + 5 ≤ L) (h : Lv n σ μ) (hcc : cells + 1090 ≤ 601024) (hss : slots + 4905 ≤ 7293034) (hP : va_P D vwCl (lWx cI cZ cJ dX dM w9 σ κ μ g) H) (hD : va_D (lA s) (lWx cI cZ cJ dX dM w9 σ κ μ g)) (hS : va_S (lA s) s.heap H locs) (hl : lv_has ls 9 (lLs b (dX 0) (dM 0) w9 n)) (K : lK p l e s m below meth c D cI cZ cJ b dX dM w9 n (cells + 1090) (slots + 4905) Q) : W p l e room_1 s m #[Value.ref b] below meth c H locs cells slots Q (F0 m 524 ls []) := by
  obtain ⟨S, hfl, hr, hlocks, hX, hbl, hL, hK, hTE, hN, hME⟩ := id G
  have S0 := S
  obtain ⟨hx, hb, hml, hown, hts⟩ := S0
  have hA : ∀ q : Nat, s.heap.size ≤ q → lA s q := fun _ h => h
  have hby := Lv_b h (by omega)
  have b1 := lx_b xs n 1
  have b2 := lx_b xs n 2
  refine lv_aload_n hx hb dL_law_524 rfl (lv_at hl 3 rfl) ?_
  refine lArg hx hb hX hbl hS hL 1 hn (by decide) hl 0 4 rfl rfl dL_law_525 dL_law_526 dL_law_528 dL_law_529 dL_law_530 ?_
  refine lArg hx hb hX hbl hS hL 2 hn (by decide) hl 0 4 rfl rfl dL_law_531 dL_law_532 dL_law_534 dL_law_535 dL_law_536 ?_
  refine lv_aload_n hx hb dL_law_537 rfl (lv_at hl 1 rfl) ?_
  have hP : va_P D vwCl ((XW cI cZ dX σ κ ++ [(w9, LJ cJ g)]) ++ MW cI dM μ) H := hP
  have hD : va_D (lA s) ((XW cI cZ dX σ κ ++ [(w9, LJ cJ g)]) ++ MW cI dM μ) := hD
  refine g_call (mc := 1) (ms := 6) (vx_runSW (As := [.ref (dX 0), .int (iI (lx xs n 1)), .int (iI (lx xs n 2)), .ref w9]) (rest := []) S (kL_fell l hfl D cI cZ cJ dX σ κ w9 g (lx xs n 1) (lx xs n 2) h.1 b1.1 b1.2 b2.1 b2.2 H.size) (vx_cwSW 4 hts gL_law_L_fell rfl rfl rfl (by decide +kernel) ⟨Nat.le_of_ble_eq_true rfl, Nat.le_of_ble_eq_true rfl⟩) (g_preS (lEx_g _) hK [0, 1, 3] rfl hP hD (fun U hU hW => ⟨tEx_w hTE hD hS hA hU hW, nCa_m hW.alike hN⟩)) rfl rfl hl.1 rfl (lv_room (Nat.le_of_ble_eq_true rfl)) dL_law_538 ⟨lRc (by omega), lRs (by omega)⟩) hP hD hS hA (fun κ9 H locs hk hP hD hS => ?_)
  show W p l e room_1 s m #[Value.ref b] below meth c H locs (cells + 1) (slots + 6) Q (F0 m 541 ls [.int (iI (tFell (lx xs n 1) (lx xs n 2)))])
  obtain ⟨hP, hD⟩ := g_swap hP hD
  refine lv_istore (lv' := (5, .int (iI (tFell (lx xs n 1) (lx xs n 2)))) :: lLs b (dX 0) (dM 0) w9 n) hx hb dL_law_541 hl (by decide) rfl (fun ls hl => ?_)
  refine lv_aload_n hx hb dL_law_543 rfl (lv_at hl 3 rfl) ?_
  refine lArg hx hb hX hbl hS hL 1 hn (by decide) hl 1 5 rfl rfl dL_law_544 dL_law_545 dL_law_547 dL_law_548 dL_law_549 ?_
  refine lArg hx hb hX hbl hS hL 2 hn (by decide) hl 1 5 rfl rfl dL_law_550 dL_law_551 dL_law_553 dL_law_554 dL_law_555 ?_
  refine g_call (mc := 2) (ms := 10) (va_runV (As := [.int (iI (lx xs n 1)), .int (iI (lx xs n 2))]) (rest := []) S (kX2_fell l D cI cZ cQ dM μ (lx xs n 1) (lx xs n 2) b1.1 b1.2 b2.1 b2.2 h.2.1 H.size) (cwV 2 hts gL_law_X2_fell rfl rfl rfl (by decide +kernel) ⟨Nat.le_of_ble_eq_true rfl, Nat.le_of_ble_eq_true rfl⟩) (g_preV (mEx_g _) hK [0, 1, 2] rfl hP hD (fun U hU hW => mEx_w hME hD hS hA hU hW) (q0 := 0) (ci := 2) rfl rfl rfl) rfl rfl hl.1 rfl (lv_room (Nat.le_of_ble_eq_true rfl)) dL_law_556 ⟨lRc (by omega), lRs (by omega)⟩) hP hD hS hA (fun κ8 H locs hk8 hP hD hS => ?_)
  refine lv_istore (lv' := (6, .int (iI _)) :: (5, .int (iI (tFell (lx xs n 1) (lx xs n 2)))) :: lLs b (dX 0) (dM 0) w9 n) hx hb dL_law_559 hl (by decide) rfl (fun ls hl => ?_)
  exact lTail (t := (tFell (lx xs n 1) (lx xs n 2))) G hP hD hS hl (Lv_fell h (lx xs n 1) (lx xs n 2)) (mRes_6 (mBo_60 _ _ _ _ _ _)) (tR_fell (lx xs n 1) (lx xs n 2)) (hv_L (eq_fell h (lx xs n 1) (lx xs n 2))) (by omega) (by omega) hcc hss K (by decide) dL_law_561 dL_law_562 dL_law_565 dL_law_567 dL_law_572 dL_law_574 dL_law_577 dL_law_578 dL_law_579 dL_law_580 dL_law_582 dL_law_583 dL_law_584 dL_law_589
set_option maxHeartbeats 4000000 in
set_option maxRecDepth 100000 in
theorem lC_tree (G : lG p l s m meth c b L xs D cI cZ cQ cJ) (hn : 5 * n + 5 ≤ L) (h : Lv n σ μ) (hcc : cells + 1090 ≤ 601024) (hss : slots + 4905 ≤ 7293034) (hP : va_P D vwCl (lWx cI cZ cJ dX dM w9 σ κ μ g) H) (hD : va_D (lA s) (lWx cI cZ cJ dX dM w9 σ κ μ g)) (hS : va_S (lA s) s.heap H locs) (hl : lv_has ls 9 (lLs b (dX 0) (dM 0) w9 n)) (K : lK p l e s m below meth c D cI cZ cJ b dX dM w9 n (cells + 1090) (slots + 4905) Q) : W p l e room_1 s m #[Value.ref b] below meth c H locs cells slots Q (F0 m 592 ls []) := by
  obtain ⟨S, hfl, hr, hlocks, hX, hbl, hL, hK, hTE, hN, hME⟩ := id G
  have S0 := S
  obtain ⟨hx, hb, hml, hown, hts⟩ := S0
  have hA : ∀ q : Nat, s.heap.size ≤ q → lA s q := fun _ h => h
  have hby := Lv_b h (by omega)
  have b1 := lx_b xs n 1
  have b2 := lx_b xs n 2
  have b3 := lx_b xs n 3
  refine lv_aload_n hx hb dL_law_592 rfl (lv_at hl 3 rfl) ?_
  refine lArg hx hb hX hbl hS hL 1 hn (by decide) hl 0 4 rfl rfl dL_law_593 dL_law_594 dL_law_596 dL_law_597 dL_law_598 ?_
  refine lArg hx hb hX hbl hS hL 2 hn (by decide) hl 0 4 rfl rfl dL_law_599 dL_law_600 dL_law_602 dL_law_603 dL_law_604 ?_
  refine lArg hx hb hX hbl hS hL 3 hn (by decide) hl 0 4 rfl rfl dL_law_605 dL_law_606 dL_law_608 dL_law_609 dL_law_610 ?_
  refine lv_aload_n hx hb dL_law_611 rfl (lv_at hl 1 rfl) ?_
  have hP : va_P D vwCl ((XW cI cZ dX σ κ ++ [(w9, LJ cJ g)]) ++ MW cI dM μ) H := hP
  have hD : va_D (lA s) ((XW cI cZ dX σ κ ++ [(w9, LJ cJ g)]) ++ MW cI dM μ) := hD
  refine g_call (mc := 1) (ms := 6) (vx_runSW (As := [.ref (dX 0), .int (iI (lx xs n 1)), .int (iI (lx xs n 2)), .int (iI (lx xs n 3)), .ref w9]) (rest := []) S (kL_tree l hfl D cI cZ cJ dX σ κ w9 g (lx xs n 1) (lx xs n 2) (lx xs n 3) h.1 b1.1 b1.2 b2.1 b2.2 b3.1 b3.2 H.size) (vx_cwSW 5 hts gL_law_L_tree rfl rfl rfl (by decide +kernel) ⟨Nat.le_of_ble_eq_true rfl, Nat.le_of_ble_eq_true rfl⟩) (g_preS (lEx_g _) hK [0, 1, 3] rfl hP hD (fun U hU hW => ⟨tEx_w hTE hD hS hA hU hW, nCa_m hW.alike hN⟩)) rfl rfl hl.1 rfl (lv_room (Nat.le_of_ble_eq_true rfl)) dL_law_612 ⟨lRc (by omega), lRs (by omega)⟩) hP hD hS hA (fun κ9 H locs hk hP hD hS => ?_)
  show W p l e room_1 s m #[Value.ref b] below meth c H locs (cells + 1) (slots + 6) Q (F0 m 615 ls [.int (iI (tTree (lx xs n 1) (lx xs n 2) (lx xs n 3)))])
  obtain ⟨hP, hD⟩ := g_swap hP hD
  refine lv_istore (lv' := (5, .int (iI (tTree (lx xs n 1) (lx xs n 2) (lx xs n 3)))) :: lLs b (dX 0) (dM 0) w9 n) hx hb dL_law_615 hl (by decide) rfl (fun ls hl => ?_)
  refine lv_aload_n hx hb dL_law_617 rfl (lv_at hl 3 rfl) ?_
  refine lArg hx hb hX hbl hS hL 1 hn (by decide) hl 1 5 rfl rfl dL_law_618 dL_law_619 dL_law_621 dL_law_622 dL_law_623 ?_
  refine lArg hx hb hX hbl hS hL 2 hn (by decide) hl 1 5 rfl rfl dL_law_624 dL_law_625 dL_law_627 dL_law_628 dL_law_629 ?_
  refine lArg hx hb hX hbl hS hL 3 hn (by decide) hl 1 5 rfl rfl dL_law_630 dL_law_631 dL_law_633 dL_law_634 dL_law_635 ?_
  refine g_call (mc := 0) (ms := 0) (va_runV (As := [.int (iI (lx xs n 1)), .int (iI (lx xs n 2)), .int (iI (lx xs n 3))]) (rest := []) S (kX2_tree l D cI cZ cQ dM μ (lx xs n 1) (lx xs n 2) (lx xs n 3) b1.1 b1.2 b2.1 b2.2 b3.1 b3.2 h.2.1 H.size) (cwV 3 hts gL_law_X2_tree rfl rfl rfl (by decide +kernel) ⟨Nat.le_of_ble_eq_true rfl, Nat.le_of_ble_eq_true rfl⟩) (g_preV gEx_t hK [0, 1, 2] rfl hP hD (fun _ _ _ => trivial) (q0 := 0) (ci := 2) rfl rfl rfl) rfl rfl hl.1 rfl (lv_room (Nat.le_of_ble_eq_true rfl)) dL_law_636 ⟨lRc (by omega), lRs (by omega)⟩) hP hD hS hA (fun κ8 H locs hk8 hP hD hS => ?_)
  refine lv_istore (lv' := (6, .int (iI _)) :: (5, .int (iI (tTree (lx xs n 1) (lx xs n 2) (lx xs n 3)))) :: lLs b (dX 0) (dM 0) w9 n) hx hb dL_law_639 hl (by decide) rfl (fun ls hl => ?_)
  exact lTail (t := (tTree (lx xs n 1) (lx xs n 2) (lx xs n 3))) G hP hD hS hl (by rw [pk_s]; exact Lv_ask h _) (mRes_6 rfl) (tR_tree (lx xs n 1) (lx xs n 2) (lx xs n 3)) (hv_L (eq_tree h (lx xs n 1) (lx xs n 2) (lx xs n 3))) (by omega) (by omega) hcc hss K (by decide) dL_law_641 dL_law_642 dL_law_645 dL_law_647 dL_law_652 dL_law_654 dL_law_657 dL_law_658 dL_law_659 dL_law_660 dL_law_662 dL_law_663 dL_law_664 dL_law_669
end LC
