/-! the law: its calls and its loop (printed by wip/whole/gen/law.py) -/
abbrev lsL (n : Nat) : List (Option MV) := [some (vR 2000), some (vR 0), some (vR 45), some (vI (n : Int))]
def Nx (l : Launch) (D : va_G) (ck : Nat → ClassId) (ad : Nat → Nat) (L : Nat) (xs : Nat → Int32) (n : Nat) : Prop := ∀ (w : Mem) (W : WA), PXW w W → PMW w W → Lo l D ck ad L xs 1136 (lsL n) [] w
section LAW
variable {l : Launch} {D : va_G} {ck : Nat → ClassId} {ad : Nat → Nat} {L : Nat} {xs : Nat → Int32} {n : Nat} {w : Mem} {W : WA}
theorem lc0 (hP : PXW w W) (hM : PMW w W) (hL : L ≤ 2560) (hn : n + 5 ≤ L) (hk : Nx l D ck ad L xs n) : Lo l D ck ad L xs 212 (lsL n) [] w := by
  refine lo_aload (x := 0) rfl rfl dL_law_212 rfl ?_
  refine lo_arg (j := 1) rfl rfl (by omega) hL dL_law_213 rfl dL_law_214 rfl dL_law_215 rfl dL_law_216 rfl dL_law_217 rfl ?_
  refine lo_callV (b := 0) (ci := 6) (as := [vR 0, vI (xs (n + 1)).toInt]) (As := [vI (xs (n + 1)).toInt]) (rest := []) (n := 1) dL_law_218 lk_L_13 rfl rfl rfl rfl rfl rfl ⟨Nat.le_of_ble_eq_true rfl, Nat.le_of_ble_eq_true rfl⟩ ⟨rfl, rfl⟩ (by simp [mval, Value.category]) (ex0 hP (rng_ti _)) rfl ?_
  intro r1 w1 ⟨v1, e1, hv1, h1, hf1⟩; subst e1
  show Lo l D ck ad L xs 221 (lsL n) [vI v1] w1
  have hM1 : PMW w1 W := PMW_q hM (fun c k _ => hf1 c k (by omega))
  refine lo_aload (x := 45) rfl rfl dL_law_221 rfl ?_
  refine lo_arg (j := 1) rfl rfl (by omega) hL dL_law_222 rfl dL_law_223 rfl dL_law_224 rfl dL_law_225 rfl dL_law_226 rfl ?_
  refine lo_callV (b := 45) (ci := 7) (as := [vR 45, vI (xs (n + 1)).toInt]) (As := [vI (xs (n + 1)).toInt]) (rest := [vI v1]) (n := 1) dL_law_227 lk_L_17 rfl rfl rfl rfl rfl rfl ⟨Nat.le_of_ble_eq_true rfl, Nat.le_of_ble_eq_true rfl⟩ ⟨rfl, rfl⟩ (by simp [mval, Value.category]) (em0 hM1 (rng_ti _)) rfl ?_
  intro r2 w2 ⟨v2, e2, hv2, h2, hf2⟩; subst e2
  show Lo l D ck ad L xs 230 (lsL n) [vI v2, vI v1] w2
  have hP2 := PXW_q h1 (fun c k _ => hf2 c k (by omega))
  exact lo_eqT dL_law_230 rfl (hv1.trans hv2.symm) (hk _ _ hP2 h2)
theorem lc1 (hP : PXW w W) (hM : PMW w W) (hL : L ≤ 2560) (hn : n + 5 ≤ L) (hk : Nx l D ck ad L xs n) : Lo l D ck ad L xs 235 (lsL n) [] w := by
  refine lo_aload (x := 0) rfl rfl dL_law_235 rfl ?_
  refine lo_arg (j := 1) rfl rfl (by omega) hL dL_law_236 rfl dL_law_237 rfl dL_law_238 rfl dL_law_239 rfl dL_law_240 rfl ?_
  refine lo_callV (b := 0) (ci := 6) (as := [vR 0, vI (xs (n + 1)).toInt]) (As := [vI (xs (n + 1)).toInt]) (rest := []) (n := 1) dL_law_241 lk_L_18 rfl rfl rfl rfl rfl rfl ⟨Nat.le_of_ble_eq_true rfl, Nat.le_of_ble_eq_true rfl⟩ ⟨rfl, rfl⟩ (by simp [mval, Value.category]) (ex1 hP (rng_ti _)) rfl ?_
  intro r1 w1 ⟨v1, e1, hv1, h1, hf1⟩; subst e1
  show Lo l D ck ad L xs 244 (lsL n) [vI v1] w1
  have hM1 : PMW w1 W := PMW_q hM (fun c k _ => hf1 c k (by omega))
  refine lo_aload (x := 45) rfl rfl dL_law_244 rfl ?_
  refine lo_arg (j := 1) rfl rfl (by omega) hL dL_law_245 rfl dL_law_246 rfl dL_law_247 rfl dL_law_248 rfl dL_law_249 rfl ?_
  refine lo_callV (b := 45) (ci := 7) (as := [vR 45, vI (xs (n + 1)).toInt]) (As := [vI (xs (n + 1)).toInt]) (rest := [vI v1]) (n := 1) dL_law_250 lk_L_21 rfl rfl rfl rfl rfl rfl ⟨Nat.le_of_ble_eq_true rfl, Nat.le_of_ble_eq_true rfl⟩ ⟨rfl, rfl⟩ (by simp [mval, Value.category]) (em1 hM1 (rng_ti _)) rfl ?_
  intro r2 w2 ⟨v2, e2, hv2, h2, hf2⟩; subst e2
  show Lo l D ck ad L xs 253 (lsL n) [vI v2, vI v1] w2
  have hP2 := PXW_q h1 (fun c k _ => hf2 c k (by omega))
  exact lo_eqT dL_law_253 rfl (hv1.trans hv2.symm) (hk _ _ hP2 h2)
theorem lc2 (hP : PXW w W) (hM : PMW w W) (hL : L ≤ 2560) (hn : n + 5 ≤ L) (hk : Nx l D ck ad L xs n) : Lo l D ck ad L xs 258 (lsL n) [] w := by
  refine lo_aload (x := 0) rfl rfl dL_law_258 rfl ?_
  refine lo_arg (j := 1) rfl rfl (by omega) hL dL_law_259 rfl dL_law_260 rfl dL_law_261 rfl dL_law_262 rfl dL_law_263 rfl ?_
  refine lo_arg (j := 2) rfl rfl (by omega) hL dL_law_264 rfl dL_law_265 rfl dL_law_266 rfl dL_law_267 rfl dL_law_268 rfl ?_
  refine lo_callV (b := 0) (ci := 6) (as := [vR 0, vI (xs (n + 1)).toInt, vI (xs (n + 2)).toInt]) (As := [vI (xs (n + 1)).toInt, vI (xs (n + 2)).toInt]) (rest := []) (n := 2) dL_law_269 lk_L_22 rfl rfl rfl rfl rfl rfl ⟨Nat.le_of_ble_eq_true rfl, Nat.le_of_ble_eq_true rfl⟩ ⟨rfl, rfl⟩ (by simp [mval, Value.category]) (ex2 hP (rng_ti _) (rng_ti _)) rfl ?_
  intro r1 w1 ⟨v1, e1, hv1, h1, hf1⟩; subst e1
  show Lo l D ck ad L xs 272 (lsL n) [vI v1] w1
  have hM1 : PMW w1 W := PMW_q hM (fun c k _ => hf1 c k (by omega))
  refine lo_aload (x := 45) rfl rfl dL_law_272 rfl ?_
  refine lo_arg (j := 1) rfl rfl (by omega) hL dL_law_273 rfl dL_law_274 rfl dL_law_275 rfl dL_law_276 rfl dL_law_277 rfl ?_
  refine lo_arg (j := 2) rfl rfl (by omega) hL dL_law_278 rfl dL_law_279 rfl dL_law_280 rfl dL_law_281 rfl dL_law_282 rfl ?_
  refine lo_callV (b := 45) (ci := 7) (as := [vR 45, vI (xs (n + 1)).toInt, vI (xs (n + 2)).toInt]) (As := [vI (xs (n + 1)).toInt, vI (xs (n + 2)).toInt]) (rest := [vI v1]) (n := 2) dL_law_283 lk_L_26 rfl rfl rfl rfl rfl rfl ⟨Nat.le_of_ble_eq_true rfl, Nat.le_of_ble_eq_true rfl⟩ ⟨rfl, rfl⟩ (by simp [mval, Value.category]) (em2 hM1 (rng_ti _) (rng_ti _)) rfl ?_
  intro r2 w2 ⟨v2, e2, hv2, h2, hf2⟩; subst e2
  show Lo l D ck ad L xs 286 (lsL n) [vI v2, vI v1] w2
  have hP2 := PXW_q h1 (fun c k _ => hf2 c k (by omega))
  exact lo_eqT dL_law_286 rfl (hv1.trans hv2.symm) (hk _ _ hP2 h2)
theorem lc3 (hP : PXW w W) (hM : PMW w W) (hL : L ≤ 2560) (hn : n + 5 ≤ L) (hk : Nx l D ck ad L xs n) : Lo l D ck ad L xs 291 (lsL n) [] w := by
  refine lo_aload (x := 0) rfl rfl dL_law_291 rfl ?_
  refine lo_arg (j := 1) rfl rfl (by omega) hL dL_law_292 rfl dL_law_293 rfl dL_law_294 rfl dL_law_295 rfl dL_law_296 rfl ?_
  refine lo_callV (b := 0) (ci := 6) (as := [vR 0, vI (xs (n + 1)).toInt]) (As := [vI (xs (n + 1)).toInt]) (rest := []) (n := 1) dL_law_297 lk_L_27 rfl rfl rfl rfl rfl rfl ⟨Nat.le_of_ble_eq_true rfl, Nat.le_of_ble_eq_true rfl⟩ ⟨rfl, rfl⟩ (by simp [mval, Value.category]) (ex3 hP (rng_ti _)) rfl ?_
  intro r1 w1 ⟨v1, e1, hv1, h1, hf1⟩; subst e1
  show Lo l D ck ad L xs 300 (lsL n) [vI v1] w1
  have hM1 : PMW w1 W := PMW_q hM (fun c k _ => hf1 c k (by omega))
  refine lo_aload (x := 45) rfl rfl dL_law_300 rfl ?_
  refine lo_arg (j := 1) rfl rfl (by omega) hL dL_law_301 rfl dL_law_302 rfl dL_law_303 rfl dL_law_304 rfl dL_law_305 rfl ?_
  refine lo_callV (b := 45) (ci := 7) (as := [vR 45, vI (xs (n + 1)).toInt]) (As := [vI (xs (n + 1)).toInt]) (rest := [vI v1]) (n := 1) dL_law_306 lk_L_30 rfl rfl rfl rfl rfl rfl ⟨Nat.le_of_ble_eq_true rfl, Nat.le_of_ble_eq_true rfl⟩ ⟨rfl, rfl⟩ (by simp [mval, Value.category]) (em3 hM1 (rng_ti _)) rfl ?_
  intro r2 w2 ⟨v2, e2, hv2, h2, hf2⟩; subst e2
  show Lo l D ck ad L xs 309 (lsL n) [vI v2, vI v1] w2
  have hP2 := PXW_q h1 (fun c k _ => hf2 c k (by omega))
  exact lo_eqT dL_law_309 rfl (hv1.trans hv2.symm) (hk _ _ hP2 h2)
theorem lc4 (hP : PXW w W) (hM : PMW w W) (hL : L ≤ 2560) (hn : n + 5 ≤ L) (hk : Nx l D ck ad L xs n) : Lo l D ck ad L xs 314 (lsL n) [] w := by
  refine lo_aload (x := 0) rfl rfl dL_law_314 rfl ?_
  refine lo_arg (j := 1) rfl rfl (by omega) hL dL_law_315 rfl dL_law_316 rfl dL_law_317 rfl dL_law_318 rfl dL_law_319 rfl ?_
  refine lo_arg (j := 2) rfl rfl (by omega) hL dL_law_320 rfl dL_law_321 rfl dL_law_322 rfl dL_law_323 rfl dL_law_324 rfl ?_
  refine lo_arg (j := 3) rfl rfl (by omega) hL dL_law_325 rfl dL_law_326 rfl dL_law_327 rfl dL_law_328 rfl dL_law_329 rfl ?_
  refine lo_callV (b := 0) (ci := 6) (as := [vR 0, vI (xs (n + 1)).toInt, vI (xs (n + 2)).toInt, vI (xs (n + 3)).toInt]) (As := [vI (xs (n + 1)).toInt, vI (xs (n + 2)).toInt, vI (xs (n + 3)).toInt]) (rest := []) (n := 3) dL_law_330 lk_L_31 rfl rfl rfl rfl rfl rfl ⟨Nat.le_of_ble_eq_true rfl, Nat.le_of_ble_eq_true rfl⟩ ⟨rfl, rfl⟩ (by simp [mval, Value.category]) (ex4 hP (rng_ti _) (rng_ti _) (rng_ti _)) rfl ?_
  intro r1 w1 ⟨v1, e1, hv1, h1, hf1⟩; subst e1
  show Lo l D ck ad L xs 333 (lsL n) [vI v1] w1
  have hM1 : PMW w1 W := PMW_q hM (fun c k _ => hf1 c k (by omega))
  refine lo_aload (x := 45) rfl rfl dL_law_333 rfl ?_
  refine lo_arg (j := 1) rfl rfl (by omega) hL dL_law_334 rfl dL_law_335 rfl dL_law_336 rfl dL_law_337 rfl dL_law_338 rfl ?_
  refine lo_arg (j := 2) rfl rfl (by omega) hL dL_law_339 rfl dL_law_340 rfl dL_law_341 rfl dL_law_342 rfl dL_law_343 rfl ?_
  refine lo_arg (j := 3) rfl rfl (by omega) hL dL_law_344 rfl dL_law_345 rfl dL_law_346 rfl dL_law_347 rfl dL_law_348 rfl ?_
  refine lo_callV (b := 45) (ci := 7) (as := [vR 45, vI (xs (n + 1)).toInt, vI (xs (n + 2)).toInt, vI (xs (n + 3)).toInt]) (As := [vI (xs (n + 1)).toInt, vI (xs (n + 2)).toInt, vI (xs (n + 3)).toInt]) (rest := [vI v1]) (n := 3) dL_law_349 lk_L_35 rfl rfl rfl rfl rfl rfl ⟨Nat.le_of_ble_eq_true rfl, Nat.le_of_ble_eq_true rfl⟩ ⟨rfl, rfl⟩ (by simp [mval, Value.category]) (em4 hM1 (rng_ti _) (rng_ti _) (rng_ti _)) rfl ?_
  intro r2 w2 ⟨v2, e2, hv2, h2, hf2⟩; subst e2
  show Lo l D ck ad L xs 352 (lsL n) [vI v2, vI v1] w2
  have hP2 := PXW_q h1 (fun c k _ => hf2 c k (by omega))
  exact lo_eqT dL_law_352 rfl (hv1.trans hv2.symm) (hk _ _ hP2 h2)
theorem lc5 (hP : PXW w W) (hM : PMW w W) (hL : L ≤ 2560) (hn : n + 5 ≤ L) (hk : Nx l D ck ad L xs n) : Lo l D ck ad L xs 357 (lsL n) [] w := by
  refine lo_aload (x := 0) rfl rfl dL_law_357 rfl ?_
  refine lo_callV (b := 0) (ci := 6) (as := [vR 0]) (As := []) (rest := []) (n := 0) dL_law_358 lk_L_36 rfl rfl rfl rfl rfl rfl ⟨Nat.le_of_ble_eq_true rfl, Nat.le_of_ble_eq_true rfl⟩ ⟨rfl, rfl⟩ (by simp [mval, Value.category]) (ex5 hP) rfl ?_
  intro r1 w1 ⟨v1, e1, hv1, h1, hf1⟩; subst e1
  show Lo l D ck ad L xs 361 (lsL n) [vI v1] w1
  have hM1 : PMW w1 W := PMW_q hM (fun c k _ => hf1 c k (by omega))
  refine lo_aload (x := 45) rfl rfl dL_law_361 rfl ?_
  refine lo_callV (b := 45) (ci := 7) (as := [vR 45]) (As := []) (rest := [vI v1]) (n := 0) dL_law_362 lk_L_40 rfl rfl rfl rfl rfl rfl ⟨Nat.le_of_ble_eq_true rfl, Nat.le_of_ble_eq_true rfl⟩ ⟨rfl, rfl⟩ (by simp [mval, Value.category]) (em5 hM1) rfl ?_
  intro r2 w2 ⟨v2, e2, hv2, h2, hf2⟩; subst e2
  show Lo l D ck ad L xs 365 (lsL n) [vI v2, vI v1] w2
  have hP2 := PXW_q h1 (fun c k _ => hf2 c k (by omega))
  exact lo_eqT dL_law_365 rfl (hv1.trans hv2.symm) (hk _ _ hP2 h2)
theorem lc6 (hP : PXW w W) (hM : PMW w W) (hL : L ≤ 2560) (hn : n + 5 ≤ L) (hk : Nx l D ck ad L xs n) : Lo l D ck ad L xs 370 (lsL n) [] w := by
  refine lo_aload (x := 0) rfl rfl dL_law_370 rfl ?_
  refine lo_callV (b := 0) (ci := 6) (as := [vR 0]) (As := []) (rest := []) (n := 0) dL_law_371 lk_L_41 rfl rfl rfl rfl rfl rfl ⟨Nat.le_of_ble_eq_true rfl, Nat.le_of_ble_eq_true rfl⟩ ⟨rfl, rfl⟩ (by simp [mval, Value.category]) (ex6 hP) rfl ?_
  intro r1 w1 ⟨v1, e1, hv1, h1, hf1⟩; subst e1
  show Lo l D ck ad L xs 374 (lsL n) [vI v1] w1
  have hM1 : PMW w1 W := PMW_q hM (fun c k _ => hf1 c k (by omega))
  refine lo_aload (x := 45) rfl rfl dL_law_374 rfl ?_
  refine lo_callV (b := 45) (ci := 7) (as := [vR 45]) (As := []) (rest := [vI v1]) (n := 0) dL_law_375 lk_L_44 rfl rfl rfl rfl rfl rfl ⟨Nat.le_of_ble_eq_true rfl, Nat.le_of_ble_eq_true rfl⟩ ⟨rfl, rfl⟩ (by simp [mval, Value.category]) (em6 hM1) rfl ?_
  intro r2 w2 ⟨v2, e2, hv2, h2, hf2⟩; subst e2
  show Lo l D ck ad L xs 378 (lsL n) [vI v2, vI v1] w2
  have hP2 := PXW_q h1 (fun c k _ => hf2 c k (by omega))
  exact lo_eqT dL_law_378 rfl (hv1.trans hv2.symm) (hk _ _ hP2 h2)
theorem lc7 (hP : PXW w W) (hM : PMW w W) (hL : L ≤ 2560) (hn : n + 5 ≤ L) (hk : Nx l D ck ad L xs n) : Lo l D ck ad L xs 383 (lsL n) [] w := by
  refine lo_aload (x := 0) rfl rfl dL_law_383 rfl ?_
  refine lo_arg (j := 1) rfl rfl (by omega) hL dL_law_384 rfl dL_law_385 rfl dL_law_386 rfl dL_law_387 rfl dL_law_388 rfl ?_
  refine lo_arg (j := 2) rfl rfl (by omega) hL dL_law_389 rfl dL_law_390 rfl dL_law_391 rfl dL_law_392 rfl dL_law_393 rfl ?_
  refine lo_callV (b := 0) (ci := 6) (as := [vR 0, vI (xs (n + 1)).toInt, vI (xs (n + 2)).toInt]) (As := [vI (xs (n + 1)).toInt, vI (xs (n + 2)).toInt]) (rest := []) (n := 2) dL_law_394 lk_L_45 rfl rfl rfl rfl rfl rfl ⟨Nat.le_of_ble_eq_true rfl, Nat.le_of_ble_eq_true rfl⟩ ⟨rfl, rfl⟩ (by simp [mval, Value.category]) (ex7 hP (rng_ti _) (rng_ti _)) rfl ?_
  intro r1 w1 ⟨v1, e1, hv1, h1, hf1⟩; subst e1
  show Lo l D ck ad L xs 397 (lsL n) [vI v1] w1
  have hM1 : PMW w1 W := PMW_q hM (fun c k _ => hf1 c k (by omega))
  refine lo_aload (x := 45) rfl rfl dL_law_397 rfl ?_
  refine lo_arg (j := 1) rfl rfl (by omega) hL dL_law_398 rfl dL_law_399 rfl dL_law_400 rfl dL_law_401 rfl dL_law_402 rfl ?_
  refine lo_arg (j := 2) rfl rfl (by omega) hL dL_law_403 rfl dL_law_404 rfl dL_law_405 rfl dL_law_406 rfl dL_law_407 rfl ?_
  refine lo_callV (b := 45) (ci := 7) (as := [vR 45, vI (xs (n + 1)).toInt, vI (xs (n + 2)).toInt]) (As := [vI (xs (n + 1)).toInt, vI (xs (n + 2)).toInt]) (rest := [vI v1]) (n := 2) dL_law_408 lk_L_48 rfl rfl rfl rfl rfl rfl ⟨Nat.le_of_ble_eq_true rfl, Nat.le_of_ble_eq_true rfl⟩ ⟨rfl, rfl⟩ (by simp [mval, Value.category]) (em7 hM1 (rng_ti _) (rng_ti _)) rfl ?_
  intro r2 w2 ⟨v2, e2, hv2, h2, hf2⟩; subst e2
  show Lo l D ck ad L xs 411 (lsL n) [vI v2, vI v1] w2
  have hP2 := PXW_q h1 (fun c k _ => hf2 c k (by omega))
  exact lo_eqT dL_law_411 rfl (hv1.trans hv2.symm) (hk _ _ hP2 h2)
theorem lc8 (hP : PXW w W) (hM : PMW w W) (hL : L ≤ 2560) (hn : n + 5 ≤ L) (hk : Nx l D ck ad L xs n) : Lo l D ck ad L xs 416 (lsL n) [] w := by
  refine lo_aload (x := 0) rfl rfl dL_law_416 rfl ?_
  refine lo_arg (j := 1) rfl rfl (by omega) hL dL_law_417 rfl dL_law_418 rfl dL_law_419 rfl dL_law_420 rfl dL_law_421 rfl ?_
  refine lo_arg (j := 2) rfl rfl (by omega) hL dL_law_422 rfl dL_law_423 rfl dL_law_424 rfl dL_law_425 rfl dL_law_426 rfl ?_
  refine lo_callV (b := 0) (ci := 6) (as := [vR 0, vI (xs (n + 1)).toInt, vI (xs (n + 2)).toInt]) (As := [vI (xs (n + 1)).toInt, vI (xs (n + 2)).toInt]) (rest := []) (n := 2) dL_law_427 lk_L_49 rfl rfl rfl rfl rfl rfl ⟨Nat.le_of_ble_eq_true rfl, Nat.le_of_ble_eq_true rfl⟩ ⟨rfl, rfl⟩ (by simp [mval, Value.category]) (ex8 hP (rng_ti _) (rng_ti _)) rfl ?_
  intro r1 w1 ⟨v1, e1, hv1, h1, hf1⟩; subst e1
  show Lo l D ck ad L xs 430 (lsL n) [vI v1] w1
  have hM1 : PMW w1 W := PMW_q hM (fun c k _ => hf1 c k (by omega))
  refine lo_aload (x := 45) rfl rfl dL_law_430 rfl ?_
  refine lo_arg (j := 1) rfl rfl (by omega) hL dL_law_431 rfl dL_law_432 rfl dL_law_433 rfl dL_law_434 rfl dL_law_435 rfl ?_
  refine lo_arg (j := 2) rfl rfl (by omega) hL dL_law_436 rfl dL_law_437 rfl dL_law_438 rfl dL_law_439 rfl dL_law_440 rfl ?_
  refine lo_callV (b := 45) (ci := 7) (as := [vR 45, vI (xs (n + 1)).toInt, vI (xs (n + 2)).toInt]) (As := [vI (xs (n + 1)).toInt, vI (xs (n + 2)).toInt]) (rest := [vI v1]) (n := 2) dL_law_441 lk_L_52 rfl rfl rfl rfl rfl rfl ⟨Nat.le_of_ble_eq_true rfl, Nat.le_of_ble_eq_true rfl⟩ ⟨rfl, rfl⟩ (by simp [mval, Value.category]) (em8 hM1 (rng_ti _) (rng_ti _)) rfl ?_
  intro r2 w2 ⟨v2, e2, hv2, h2, hf2⟩; subst e2
  show Lo l D ck ad L xs 444 (lsL n) [vI v2, vI v1] w2
  have hP2 := PXW_q h1 (fun c k _ => hf2 c k (by omega))
  exact lo_eqT dL_law_444 rfl (hv1.trans hv2.symm) (hk _ _ hP2 h2)
theorem lc9 (hP : PXW w W) (hM : PMW w W) (hL : L ≤ 2560) (hn : n + 5 ≤ L) (hk : Nx l D ck ad L xs n) : Lo l D ck ad L xs 449 (lsL n) [] w := by
  refine lo_aload (x := 0) rfl rfl dL_law_449 rfl ?_
  refine lo_arg (j := 1) rfl rfl (by omega) hL dL_law_450 rfl dL_law_451 rfl dL_law_452 rfl dL_law_453 rfl dL_law_454 rfl ?_
  refine lo_callV (b := 0) (ci := 6) (as := [vR 0, vI (xs (n + 1)).toInt]) (As := [vI (xs (n + 1)).toInt]) (rest := []) (n := 1) dL_law_455 lk_L_53 rfl rfl rfl rfl rfl rfl ⟨Nat.le_of_ble_eq_true rfl, Nat.le_of_ble_eq_true rfl⟩ ⟨rfl, rfl⟩ (by simp [mval, Value.category]) (ex9 hP (rng_ti _)) rfl ?_
  intro r1 w1 ⟨v1, e1, hv1, h1, hf1⟩; subst e1
  show Lo l D ck ad L xs 458 (lsL n) [vI v1] w1
  have hM1 : PMW w1 W := PMW_q hM (fun c k _ => hf1 c k (by omega))
  refine lo_aload (x := 45) rfl rfl dL_law_458 rfl ?_
  refine lo_arg (j := 1) rfl rfl (by omega) hL dL_law_459 rfl dL_law_460 rfl dL_law_461 rfl dL_law_462 rfl dL_law_463 rfl ?_
  refine lo_callV (b := 45) (ci := 7) (as := [vR 45, vI (xs (n + 1)).toInt]) (As := [vI (xs (n + 1)).toInt]) (rest := [vI v1]) (n := 1) dL_law_464 lk_L_56 rfl rfl rfl rfl rfl rfl ⟨Nat.le_of_ble_eq_true rfl, Nat.le_of_ble_eq_true rfl⟩ ⟨rfl, rfl⟩ (by simp [mval, Value.category]) (em9 hM1 (rng_ti _)) rfl ?_
  intro r2 w2 ⟨v2, e2, hv2, h2, hf2⟩; subst e2
  show Lo l D ck ad L xs 467 (lsL n) [vI v2, vI v1] w2
  have hP2 := PXW_q h1 (fun c k _ => hf2 c k (by omega))
  exact lo_eqT dL_law_467 rfl (hv1.trans hv2.symm) (hk _ _ hP2 h2)
theorem lc10 (hP : PXW w W) (hM : PMW w W) (hL : L ≤ 2560) (hn : n + 5 ≤ L) (hk : Nx l D ck ad L xs n) : Lo l D ck ad L xs 472 (lsL n) [] w := by
  refine lo_aload (x := 0) rfl rfl dL_law_472 rfl ?_
  refine lo_arg (j := 1) rfl rfl (by omega) hL dL_law_473 rfl dL_law_474 rfl dL_law_475 rfl dL_law_476 rfl dL_law_477 rfl ?_
  refine lo_callV (b := 0) (ci := 6) (as := [vR 0, vI (xs (n + 1)).toInt]) (As := [vI (xs (n + 1)).toInt]) (rest := []) (n := 1) dL_law_478 lk_L_57 rfl rfl rfl rfl rfl rfl ⟨Nat.le_of_ble_eq_true rfl, Nat.le_of_ble_eq_true rfl⟩ ⟨rfl, rfl⟩ (by simp [mval, Value.category]) (ex10 hP (rng_ti _)) rfl ?_
  intro r1 w1 ⟨v1, e1, hv1, h1, hf1⟩; subst e1
  show Lo l D ck ad L xs 481 (lsL n) [vI v1] w1
  have hM1 : PMW w1 W := PMW_q hM (fun c k _ => hf1 c k (by omega))
  refine lo_aload (x := 45) rfl rfl dL_law_481 rfl ?_
  refine lo_arg (j := 1) rfl rfl (by omega) hL dL_law_482 rfl dL_law_483 rfl dL_law_484 rfl dL_law_485 rfl dL_law_486 rfl ?_
  refine lo_callV (b := 45) (ci := 7) (as := [vR 45, vI (xs (n + 1)).toInt]) (As := [vI (xs (n + 1)).toInt]) (rest := [vI v1]) (n := 1) dL_law_487 lk_L_60 rfl rfl rfl rfl rfl rfl ⟨Nat.le_of_ble_eq_true rfl, Nat.le_of_ble_eq_true rfl⟩ ⟨rfl, rfl⟩ (by simp [mval, Value.category]) (em10 hM1 (rng_ti _)) rfl ?_
  intro r2 w2 ⟨v2, e2, hv2, h2, hf2⟩; subst e2
  show Lo l D ck ad L xs 490 (lsL n) [vI v2, vI v1] w2
  have hP2 := PXW_q h1 (fun c k _ => hf2 c k (by omega))
  exact lo_eqT dL_law_490 rfl (hv1.trans hv2.symm) (hk _ _ hP2 h2)
theorem lc11 (hP : PXW w W) (hM : PMW w W) (hL : L ≤ 2560) (hn : n + 5 ≤ L) (hk : Nx l D ck ad L xs n) : Lo l D ck ad L xs 495 (lsL n) [] w := by
  refine lo_aload (x := 0) rfl rfl dL_law_495 rfl ?_
  refine lo_callV (b := 0) (ci := 6) (as := [vR 0]) (As := []) (rest := []) (n := 0) dL_law_496 lk_L_61 rfl rfl rfl rfl rfl rfl ⟨Nat.le_of_ble_eq_true rfl, Nat.le_of_ble_eq_true rfl⟩ ⟨rfl, rfl⟩ (by simp [mval, Value.category]) (ex11 hP) rfl ?_
  intro r1 w1 ⟨v1, e1, hv1, h1, hf1⟩; subst e1
  show Lo l D ck ad L xs 499 (lsL n) [vI v1] w1
  have hM1 : PMW w1 W := PMW_q hM (fun c k _ => hf1 c k (by omega))
  refine lo_aload (x := 45) rfl rfl dL_law_499 rfl ?_
  refine lo_callV (b := 45) (ci := 7) (as := [vR 45]) (As := []) (rest := [vI v1]) (n := 0) dL_law_500 lk_L_64 rfl rfl rfl rfl rfl rfl ⟨Nat.le_of_ble_eq_true rfl, Nat.le_of_ble_eq_true rfl⟩ ⟨rfl, rfl⟩ (by simp [mval, Value.category]) (em11 hM1) rfl ?_
  intro r2 w2 ⟨v2, e2, hv2, h2, hf2⟩; subst e2
  show Lo l D ck ad L xs 503 (lsL n) [vI v2, vI v1] w2
  have hP2 := PXW_q h1 (fun c k _ => hf2 c k (by omega))
  exact lo_eqT dL_law_503 rfl (hv1.trans hv2.symm) (hk _ _ hP2 h2)
theorem lc12 (hP : PXW w W) (hM : PMW w W) (hL : L ≤ 2560) (hn : n + 5 ≤ L) (hk : Nx l D ck ad L xs n) : Lo l D ck ad L xs 508 (lsL n) [] w := by
  refine lo_aload (x := 0) rfl rfl dL_law_508 rfl ?_
  refine lo_arg (j := 1) rfl rfl (by omega) hL dL_law_509 rfl dL_law_510 rfl dL_law_511 rfl dL_law_512 rfl dL_law_513 rfl ?_
  refine lo_callV (b := 0) (ci := 6) (as := [vR 0, vI (xs (n + 1)).toInt]) (As := [vI (xs (n + 1)).toInt]) (rest := []) (n := 1) dL_law_514 lk_L_65 rfl rfl rfl rfl rfl rfl ⟨Nat.le_of_ble_eq_true rfl, Nat.le_of_ble_eq_true rfl⟩ ⟨rfl, rfl⟩ (by simp [mval, Value.category]) (ex12 hP (rng_ti _)) rfl ?_
  intro r1 w1 ⟨v1, e1, hv1, h1, hf1⟩; subst e1
  show Lo l D ck ad L xs 517 (lsL n) [vI v1] w1
  have hM1 : PMW w1 W := PMW_q hM (fun c k _ => hf1 c k (by omega))
  refine lo_aload (x := 45) rfl rfl dL_law_517 rfl ?_
  refine lo_arg (j := 1) rfl rfl (by omega) hL dL_law_518 rfl dL_law_519 rfl dL_law_520 rfl dL_law_521 rfl dL_law_522 rfl ?_
  refine lo_callV (b := 45) (ci := 7) (as := [vR 45, vI (xs (n + 1)).toInt]) (As := [vI (xs (n + 1)).toInt]) (rest := [vI v1]) (n := 1) dL_law_523 lk_L_68 rfl rfl rfl rfl rfl rfl ⟨Nat.le_of_ble_eq_true rfl, Nat.le_of_ble_eq_true rfl⟩ ⟨rfl, rfl⟩ (by simp [mval, Value.category]) (em12 hM1 (rng_ti _)) rfl ?_
  intro r2 w2 ⟨v2, e2, hv2, h2, hf2⟩; subst e2
  show Lo l D ck ad L xs 526 (lsL n) [vI v2, vI v1] w2
  have hP2 := PXW_q h1 (fun c k _ => hf2 c k (by omega))
  exact lo_eqT dL_law_526 rfl (hv1.trans hv2.symm) (hk _ _ hP2 h2)
theorem lc13 (hP : PXW w W) (hM : PMW w W) (hL : L ≤ 2560) (hn : n + 5 ≤ L) (hk : Nx l D ck ad L xs n) : Lo l D ck ad L xs 531 (lsL n) [] w := by
  refine lo_aload (x := 0) rfl rfl dL_law_531 rfl ?_
  refine lo_callV (b := 0) (ci := 6) (as := [vR 0]) (As := []) (rest := []) (n := 0) dL_law_532 lk_L_69 rfl rfl rfl rfl rfl rfl ⟨Nat.le_of_ble_eq_true rfl, Nat.le_of_ble_eq_true rfl⟩ ⟨rfl, rfl⟩ (by simp [mval, Value.category]) (ex13 hP) rfl ?_
  intro r1 w1 ⟨v1, e1, hv1, h1, hf1⟩; subst e1
  show Lo l D ck ad L xs 535 (lsL n) [vI v1] w1
  have hM1 : PMW w1 W := PMW_q hM (fun c k _ => hf1 c k (by omega))
  refine lo_aload (x := 45) rfl rfl dL_law_535 rfl ?_
  refine lo_callV (b := 45) (ci := 7) (as := [vR 45]) (As := []) (rest := [vI v1]) (n := 0) dL_law_536 lk_L_72 rfl rfl rfl rfl rfl rfl ⟨Nat.le_of_ble_eq_true rfl, Nat.le_of_ble_eq_true rfl⟩ ⟨rfl, rfl⟩ (by simp [mval, Value.category]) (em13 hM1) rfl ?_
  intro r2 w2 ⟨v2, e2, hv2, h2, hf2⟩; subst e2
  show Lo l D ck ad L xs 539 (lsL n) [vI v2, vI v1] w2
  have hP2 := PXW_q h1 (fun c k _ => hf2 c k (by omega))
  exact lo_eqT dL_law_539 rfl (hv1.trans hv2.symm) (hk _ _ hP2 h2)
theorem lc14 (hP : PXW w W) (hM : PMW w W) (hL : L ≤ 2560) (hn : n + 5 ≤ L) (hk : Nx l D ck ad L xs n) : Lo l D ck ad L xs 544 (lsL n) [] w := by
  refine lo_aload (x := 0) rfl rfl dL_law_544 rfl ?_
  refine lo_arg (j := 1) rfl rfl (by omega) hL dL_law_545 rfl dL_law_546 rfl dL_law_547 rfl dL_law_548 rfl dL_law_549 rfl ?_
  refine lo_callV (b := 0) (ci := 6) (as := [vR 0, vI (xs (n + 1)).toInt]) (As := [vI (xs (n + 1)).toInt]) (rest := []) (n := 1) dL_law_550 lk_L_73 rfl rfl rfl rfl rfl rfl ⟨Nat.le_of_ble_eq_true rfl, Nat.le_of_ble_eq_true rfl⟩ ⟨rfl, rfl⟩ (by simp [mval, Value.category]) (ex14 hP (rng_ti _)) rfl ?_
  intro r1 w1 ⟨v1, e1, hv1, h1, hf1⟩; subst e1
  show Lo l D ck ad L xs 553 (lsL n) [vI v1] w1
  have hM1 : PMW w1 W := PMW_q hM (fun c k _ => hf1 c k (by omega))
  refine lo_aload (x := 45) rfl rfl dL_law_553 rfl ?_
  refine lo_arg (j := 1) rfl rfl (by omega) hL dL_law_554 rfl dL_law_555 rfl dL_law_556 rfl dL_law_557 rfl dL_law_558 rfl ?_
  refine lo_callV (b := 45) (ci := 7) (as := [vR 45, vI (xs (n + 1)).toInt]) (As := [vI (xs (n + 1)).toInt]) (rest := [vI v1]) (n := 1) dL_law_559 lk_L_76 rfl rfl rfl rfl rfl rfl ⟨Nat.le_of_ble_eq_true rfl, Nat.le_of_ble_eq_true rfl⟩ ⟨rfl, rfl⟩ (by simp [mval, Value.category]) (em14 hM1 (rng_ti _)) rfl ?_
  intro r2 w2 ⟨v2, e2, hv2, h2, hf2⟩; subst e2
  show Lo l D ck ad L xs 562 (lsL n) [vI v2, vI v1] w2
  have hP2 := PXW_q h1 (fun c k _ => hf2 c k (by omega))
  exact lo_eqT dL_law_562 rfl (hv1.trans hv2.symm) (hk _ _ hP2 h2)
theorem lc15 (hP : PXW w W) (hM : PMW w W) (hL : L ≤ 2560) (hn : n + 5 ≤ L) (hk : Nx l D ck ad L xs n) : Lo l D ck ad L xs 567 (lsL n) [] w := by
  refine lo_aload (x := 0) rfl rfl dL_law_567 rfl ?_
  refine lo_callV (b := 0) (ci := 6) (as := [vR 0]) (As := []) (rest := []) (n := 0) dL_law_568 lk_L_77 rfl rfl rfl rfl rfl rfl ⟨Nat.le_of_ble_eq_true rfl, Nat.le_of_ble_eq_true rfl⟩ ⟨rfl, rfl⟩ (by simp [mval, Value.category]) (ex15 hP) rfl ?_
  intro r1 w1 ⟨v1, e1, hv1, h1, hf1⟩; subst e1
  show Lo l D ck ad L xs 571 (lsL n) [vI v1] w1
  have hM1 : PMW w1 W := PMW_q hM (fun c k _ => hf1 c k (by omega))
  refine lo_aload (x := 45) rfl rfl dL_law_571 rfl ?_
  refine lo_callV (b := 45) (ci := 7) (as := [vR 45]) (As := []) (rest := [vI v1]) (n := 0) dL_law_572 lk_L_80 rfl rfl rfl rfl rfl rfl ⟨Nat.le_of_ble_eq_true rfl, Nat.le_of_ble_eq_true rfl⟩ ⟨rfl, rfl⟩ (by simp [mval, Value.category]) (em15 hM1) rfl ?_
  intro r2 w2 ⟨v2, e2, hv2, h2, hf2⟩; subst e2
  show Lo l D ck ad L xs 575 (lsL n) [vI v2, vI v1] w2
  have hP2 := PXW_q h1 (fun c k _ => hf2 c k (by omega))
  exact lo_eqT dL_law_575 rfl (hv1.trans hv2.symm) (hk _ _ hP2 h2)
theorem lc16 (hP : PXW w W) (hM : PMW w W) (hL : L ≤ 2560) (hn : n + 5 ≤ L) (hk : Nx l D ck ad L xs n) : Lo l D ck ad L xs 580 (lsL n) [] w := by
  refine lo_aload (x := 0) rfl rfl dL_law_580 rfl ?_
  refine lo_callV (b := 0) (ci := 6) (as := [vR 0]) (As := []) (rest := []) (n := 0) dL_law_581 lk_L_81 rfl rfl rfl rfl rfl rfl ⟨Nat.le_of_ble_eq_true rfl, Nat.le_of_ble_eq_true rfl⟩ ⟨rfl, rfl⟩ (by simp [mval, Value.category]) (ex16 hP) rfl ?_
  intro r1 w1 ⟨v1, e1, hv1, h1, hf1⟩; subst e1
  show Lo l D ck ad L xs 584 (lsL n) [vI v1] w1
  have hM1 : PMW w1 W := PMW_q hM (fun c k _ => hf1 c k (by omega))
  refine lo_aload (x := 45) rfl rfl dL_law_584 rfl ?_
  refine lo_callV (b := 45) (ci := 7) (as := [vR 45]) (As := []) (rest := [vI v1]) (n := 0) dL_law_585 lk_L_84 rfl rfl rfl rfl rfl rfl ⟨Nat.le_of_ble_eq_true rfl, Nat.le_of_ble_eq_true rfl⟩ ⟨rfl, rfl⟩ (by simp [mval, Value.category]) (em16 hM1) rfl ?_
  intro r2 w2 ⟨v2, e2, hv2, h2, hf2⟩; subst e2
  show Lo l D ck ad L xs 588 (lsL n) [vI v2, vI v1] w2
  have hP2 := PXW_q h1 (fun c k _ => hf2 c k (by omega))
  exact lo_eqT dL_law_588 rfl (hv1.trans hv2.symm) (hk _ _ hP2 h2)
theorem lc17 (hP : PXW w W) (hM : PMW w W) (hL : L ≤ 2560) (hn : n + 5 ≤ L) (hk : Nx l D ck ad L xs n) : Lo l D ck ad L xs 593 (lsL n) [] w := by
  refine lo_aload (x := 0) rfl rfl dL_law_593 rfl ?_
  refine lo_callV (b := 0) (ci := 6) (as := [vR 0]) (As := []) (rest := []) (n := 0) dL_law_594 lk_L_85 rfl rfl rfl rfl rfl rfl ⟨Nat.le_of_ble_eq_true rfl, Nat.le_of_ble_eq_true rfl⟩ ⟨rfl, rfl⟩ (by simp [mval, Value.category]) (ex17 hP) rfl ?_
  intro r1 w1 ⟨v1, e1, hv1, h1, hf1⟩; subst e1
  show Lo l D ck ad L xs 597 (lsL n) [vI v1] w1
  have hM1 : PMW w1 W := PMW_q hM (fun c k _ => hf1 c k (by omega))
  refine lo_aload (x := 45) rfl rfl dL_law_597 rfl ?_
  refine lo_callV (b := 45) (ci := 7) (as := [vR 45]) (As := []) (rest := [vI v1]) (n := 0) dL_law_598 lk_L_88 rfl rfl rfl rfl rfl rfl ⟨Nat.le_of_ble_eq_true rfl, Nat.le_of_ble_eq_true rfl⟩ ⟨rfl, rfl⟩ (by simp [mval, Value.category]) (em17 hM1) rfl ?_
  intro r2 w2 ⟨v2, e2, hv2, h2, hf2⟩; subst e2
  show Lo l D ck ad L xs 601 (lsL n) [vI v2, vI v1] w2
  have hP2 := PXW_q h1 (fun c k _ => hf2 c k (by omega))
  exact lo_eqT dL_law_601 rfl (hv1.trans hv2.symm) (hk _ _ hP2 h2)
theorem lc18 (hP : PXW w W) (hM : PMW w W) (hL : L ≤ 2560) (hn : n + 5 ≤ L) (hk : Nx l D ck ad L xs n) : Lo l D ck ad L xs 606 (lsL n) [] w := by
  refine lo_aload (x := 0) rfl rfl dL_law_606 rfl ?_
  refine lo_arg (j := 1) rfl rfl (by omega) hL dL_law_607 rfl dL_law_608 rfl dL_law_609 rfl dL_law_610 rfl dL_law_611 rfl ?_
  refine lo_callV (b := 0) (ci := 6) (as := [vR 0, vI (xs (n + 1)).toInt]) (As := [vI (xs (n + 1)).toInt]) (rest := []) (n := 1) dL_law_612 lk_L_89 rfl rfl rfl rfl rfl rfl ⟨Nat.le_of_ble_eq_true rfl, Nat.le_of_ble_eq_true rfl⟩ ⟨rfl, rfl⟩ (by simp [mval, Value.category]) (ex18 hP (rng_ti _)) rfl ?_
  intro r1 w1 ⟨v1, e1, hv1, h1, hf1⟩; subst e1
  show Lo l D ck ad L xs 615 (lsL n) [vI v1] w1
  have hM1 : PMW w1 W := PMW_q hM (fun c k _ => hf1 c k (by omega))
  refine lo_aload (x := 45) rfl rfl dL_law_615 rfl ?_
  refine lo_arg (j := 1) rfl rfl (by omega) hL dL_law_616 rfl dL_law_617 rfl dL_law_618 rfl dL_law_619 rfl dL_law_620 rfl ?_
  refine lo_callV (b := 45) (ci := 7) (as := [vR 45, vI (xs (n + 1)).toInt]) (As := [vI (xs (n + 1)).toInt]) (rest := [vI v1]) (n := 1) dL_law_621 lk_L_92 rfl rfl rfl rfl rfl rfl ⟨Nat.le_of_ble_eq_true rfl, Nat.le_of_ble_eq_true rfl⟩ ⟨rfl, rfl⟩ (by simp [mval, Value.category]) (em18 hM1 (rng_ti _)) rfl ?_
  intro r2 w2 ⟨v2, e2, hv2, h2, hf2⟩; subst e2
  show Lo l D ck ad L xs 624 (lsL n) [vI v2, vI v1] w2
  have hP2 := PXW_q h1 (fun c k _ => hf2 c k (by omega))
  exact lo_eqT dL_law_624 rfl (hv1.trans hv2.symm) (hk _ _ hP2 h2)
theorem lc19 (hP : PXW w W) (hM : PMW w W) (hL : L ≤ 2560) (hn : n + 5 ≤ L) (hk : Nx l D ck ad L xs n) : Lo l D ck ad L xs 629 (lsL n) [] w := by
  refine lo_aload (x := 0) rfl rfl dL_law_629 rfl ?_
  refine lo_arg (j := 1) rfl rfl (by omega) hL dL_law_630 rfl dL_law_631 rfl dL_law_632 rfl dL_law_633 rfl dL_law_634 rfl ?_
  refine lo_callV (b := 0) (ci := 6) (as := [vR 0, vI (xs (n + 1)).toInt]) (As := [vI (xs (n + 1)).toInt]) (rest := []) (n := 1) dL_law_635 lk_L_93 rfl rfl rfl rfl rfl rfl ⟨Nat.le_of_ble_eq_true rfl, Nat.le_of_ble_eq_true rfl⟩ ⟨rfl, rfl⟩ (by simp [mval, Value.category]) (ex19 hP (rng_ti _)) rfl ?_
  intro r1 w1 ⟨v1, e1, hv1, h1, hf1⟩; subst e1
  show Lo l D ck ad L xs 638 (lsL n) [vI v1] w1
  have hM1 : PMW w1 W := PMW_q hM (fun c k _ => hf1 c k (by omega))
  refine lo_aload (x := 45) rfl rfl dL_law_638 rfl ?_
  refine lo_arg (j := 1) rfl rfl (by omega) hL dL_law_639 rfl dL_law_640 rfl dL_law_641 rfl dL_law_642 rfl dL_law_643 rfl ?_
  refine lo_callV (b := 45) (ci := 7) (as := [vR 45, vI (xs (n + 1)).toInt]) (As := [vI (xs (n + 1)).toInt]) (rest := [vI v1]) (n := 1) dL_law_644 lk_L_96 rfl rfl rfl rfl rfl rfl ⟨Nat.le_of_ble_eq_true rfl, Nat.le_of_ble_eq_true rfl⟩ ⟨rfl, rfl⟩ (by simp [mval, Value.category]) (em19 hM1 (rng_ti _)) rfl ?_
  intro r2 w2 ⟨v2, e2, hv2, h2, hf2⟩; subst e2
  show Lo l D ck ad L xs 647 (lsL n) [vI v2, vI v1] w2
  have hP2 := PXW_q h1 (fun c k _ => hf2 c k (by omega))
  exact lo_eqT dL_law_647 rfl (hv1.trans hv2.symm) (hk _ _ hP2 h2)
theorem lc20 (hP : PXW w W) (hM : PMW w W) (hL : L ≤ 2560) (hn : n + 5 ≤ L) (hk : Nx l D ck ad L xs n) : Lo l D ck ad L xs 652 (lsL n) [] w := by
  refine lo_aload (x := 0) rfl rfl dL_law_652 rfl ?_
  refine lo_arg (j := 1) rfl rfl (by omega) hL dL_law_653 rfl dL_law_654 rfl dL_law_655 rfl dL_law_656 rfl dL_law_657 rfl ?_
  refine lo_arg (j := 2) rfl rfl (by omega) hL dL_law_658 rfl dL_law_659 rfl dL_law_660 rfl dL_law_661 rfl dL_law_662 rfl ?_
  refine lo_arg (j := 3) rfl rfl (by omega) hL dL_law_663 rfl dL_law_664 rfl dL_law_665 rfl dL_law_666 rfl dL_law_667 rfl ?_
  refine lo_arg (j := 4) rfl rfl (by omega) hL dL_law_668 rfl dL_law_669 rfl dL_law_670 rfl dL_law_671 rfl dL_law_672 rfl ?_
  refine lo_callV (b := 0) (ci := 6) (as := [vR 0, vI (xs (n + 1)).toInt, vI (xs (n + 2)).toInt, vI (xs (n + 3)).toInt, vI (xs (n + 4)).toInt]) (As := [vI (xs (n + 1)).toInt, vI (xs (n + 2)).toInt, vI (xs (n + 3)).toInt, vI (xs (n + 4)).toInt]) (rest := []) (n := 4) dL_law_673 lk_L_97 rfl rfl rfl rfl rfl rfl ⟨Nat.le_of_ble_eq_true rfl, Nat.le_of_ble_eq_true rfl⟩ ⟨rfl, rfl⟩ (by simp [mval, Value.category]) (ex20 hP (rng_ti _) (rng_ti _) (rng_ti _) (rng_ti _)) rfl ?_
  intro r1 w1 ⟨v1, e1, hv1, h1, hf1⟩; subst e1
  show Lo l D ck ad L xs 676 (lsL n) [vI v1] w1
  have hM1 : PMW w1 W := PMW_q hM (fun c k _ => hf1 c k (by omega))
  refine lo_aload (x := 45) rfl rfl dL_law_676 rfl ?_
  refine lo_arg (j := 1) rfl rfl (by omega) hL dL_law_677 rfl dL_law_678 rfl dL_law_679 rfl dL_law_680 rfl dL_law_681 rfl ?_
  refine lo_arg (j := 2) rfl rfl (by omega) hL dL_law_682 rfl dL_law_683 rfl dL_law_684 rfl dL_law_685 rfl dL_law_686 rfl ?_
  refine lo_arg (j := 3) rfl rfl (by omega) hL dL_law_687 rfl dL_law_688 rfl dL_law_689 rfl dL_law_690 rfl dL_law_691 rfl ?_
  refine lo_arg (j := 4) rfl rfl (by omega) hL dL_law_692 rfl dL_law_693 rfl dL_law_694 rfl dL_law_695 rfl dL_law_696 rfl ?_
  refine lo_callV (b := 45) (ci := 7) (as := [vR 45, vI (xs (n + 1)).toInt, vI (xs (n + 2)).toInt, vI (xs (n + 3)).toInt, vI (xs (n + 4)).toInt]) (As := [vI (xs (n + 1)).toInt, vI (xs (n + 2)).toInt, vI (xs (n + 3)).toInt, vI (xs (n + 4)).toInt]) (rest := [vI v1]) (n := 4) dL_law_697 lk_L_101 rfl rfl rfl rfl rfl rfl ⟨Nat.le_of_ble_eq_true rfl, Nat.le_of_ble_eq_true rfl⟩ ⟨rfl, rfl⟩ (by simp [mval, Value.category]) (em20 hM1 (rng_ti _) (rng_ti _) (rng_ti _) (rng_ti _)) rfl ?_
  intro r2 w2 ⟨v2, e2, hv2, h2, hf2⟩; subst e2
  show Lo l D ck ad L xs 700 (lsL n) [vI v2, vI v1] w2
  have hP2 := PXW_q h1 (fun c k _ => hf2 c k (by omega))
  exact lo_eqT dL_law_700 rfl (hv1.trans hv2.symm) (hk _ _ hP2 h2)
theorem lc21 (hP : PXW w W) (hM : PMW w W) (hL : L ≤ 2560) (hn : n + 5 ≤ L) (hk : Nx l D ck ad L xs n) : Lo l D ck ad L xs 705 (lsL n) [] w := by
  refine lo_aload (x := 0) rfl rfl dL_law_705 rfl ?_
  refine lo_arg (j := 1) rfl rfl (by omega) hL dL_law_706 rfl dL_law_707 rfl dL_law_708 rfl dL_law_709 rfl dL_law_710 rfl ?_
  refine lo_callV (b := 0) (ci := 6) (as := [vR 0, vI (xs (n + 1)).toInt]) (As := [vI (xs (n + 1)).toInt]) (rest := []) (n := 1) dL_law_711 lk_L_102 rfl rfl rfl rfl rfl rfl ⟨Nat.le_of_ble_eq_true rfl, Nat.le_of_ble_eq_true rfl⟩ ⟨rfl, rfl⟩ (by simp [mval, Value.category]) (ex21 hP (rng_ti _)) rfl ?_
  intro r1 w1 ⟨v1, e1, hv1, h1, hf1⟩; subst e1
  show Lo l D ck ad L xs 714 (lsL n) [vI v1] w1
  have hM1 : PMW w1 W := PMW_q hM (fun c k _ => hf1 c k (by omega))
  refine lo_aload (x := 45) rfl rfl dL_law_714 rfl ?_
  refine lo_arg (j := 1) rfl rfl (by omega) hL dL_law_715 rfl dL_law_716 rfl dL_law_717 rfl dL_law_718 rfl dL_law_719 rfl ?_
  refine lo_callV (b := 45) (ci := 7) (as := [vR 45, vI (xs (n + 1)).toInt]) (As := [vI (xs (n + 1)).toInt]) (rest := [vI v1]) (n := 1) dL_law_720 lk_L_105 rfl rfl rfl rfl rfl rfl ⟨Nat.le_of_ble_eq_true rfl, Nat.le_of_ble_eq_true rfl⟩ ⟨rfl, rfl⟩ (by simp [mval, Value.category]) (em21 hM1 (rng_ti _)) rfl ?_
  intro r2 w2 ⟨v2, e2, hv2, h2, hf2⟩; subst e2
  show Lo l D ck ad L xs 723 (lsL n) [vI v2, vI v1] w2
  have hP2 := PXW_q h1 (fun c k _ => hf2 c k (by omega))
  exact lo_eqT dL_law_723 rfl (hv1.trans hv2.symm) (hk _ _ hP2 h2)
theorem lc22 (hP : PXW w W) (hM : PMW w W) (hL : L ≤ 2560) (hn : n + 5 ≤ L) (hk : Nx l D ck ad L xs n) : Lo l D ck ad L xs 728 (lsL n) [] w := by
  refine lo_aload (x := 0) rfl rfl dL_law_728 rfl ?_
  refine lo_arg (j := 1) rfl rfl (by omega) hL dL_law_729 rfl dL_law_730 rfl dL_law_731 rfl dL_law_732 rfl dL_law_733 rfl ?_
  refine lo_arg (j := 2) rfl rfl (by omega) hL dL_law_734 rfl dL_law_735 rfl dL_law_736 rfl dL_law_737 rfl dL_law_738 rfl ?_
  refine lo_callV (b := 0) (ci := 6) (as := [vR 0, vI (xs (n + 1)).toInt, vI (xs (n + 2)).toInt]) (As := [vI (xs (n + 1)).toInt, vI (xs (n + 2)).toInt]) (rest := []) (n := 2) dL_law_739 lk_L_106 rfl rfl rfl rfl rfl rfl ⟨Nat.le_of_ble_eq_true rfl, Nat.le_of_ble_eq_true rfl⟩ ⟨rfl, rfl⟩ (by simp [mval, Value.category]) (ex22 hP (rng_ti _) (rng_ti _)) rfl ?_
  intro r1 w1 ⟨v1, e1, hv1, h1, hf1⟩; subst e1
  show Lo l D ck ad L xs 742 (lsL n) [vI v1] w1
  have hM1 : PMW w1 W := PMW_q hM (fun c k _ => hf1 c k (by omega))
  refine lo_aload (x := 45) rfl rfl dL_law_742 rfl ?_
  refine lo_arg (j := 1) rfl rfl (by omega) hL dL_law_743 rfl dL_law_744 rfl dL_law_745 rfl dL_law_746 rfl dL_law_747 rfl ?_
  refine lo_arg (j := 2) rfl rfl (by omega) hL dL_law_748 rfl dL_law_749 rfl dL_law_750 rfl dL_law_751 rfl dL_law_752 rfl ?_
  refine lo_callV (b := 45) (ci := 7) (as := [vR 45, vI (xs (n + 1)).toInt, vI (xs (n + 2)).toInt]) (As := [vI (xs (n + 1)).toInt, vI (xs (n + 2)).toInt]) (rest := [vI v1]) (n := 2) dL_law_753 lk_L_109 rfl rfl rfl rfl rfl rfl ⟨Nat.le_of_ble_eq_true rfl, Nat.le_of_ble_eq_true rfl⟩ ⟨rfl, rfl⟩ (by simp [mval, Value.category]) (em22 hM1 (rng_ti _) (rng_ti _)) rfl ?_
  intro r2 w2 ⟨v2, e2, hv2, h2, hf2⟩; subst e2
  show Lo l D ck ad L xs 756 (lsL n) [vI v2, vI v1] w2
  have hP2 := PXW_q h1 (fun c k _ => hf2 c k (by omega))
  exact lo_eqT dL_law_756 rfl (hv1.trans hv2.symm) (hk _ _ hP2 h2)
theorem lc23 (hP : PXW w W) (hM : PMW w W) (hL : L ≤ 2560) (hn : n + 5 ≤ L) (hk : Nx l D ck ad L xs n) : Lo l D ck ad L xs 761 (lsL n) [] w := by
  refine lo_aload (x := 0) rfl rfl dL_law_761 rfl ?_
  refine lo_arg (j := 1) rfl rfl (by omega) hL dL_law_762 rfl dL_law_763 rfl dL_law_764 rfl dL_law_765 rfl dL_law_766 rfl ?_
  refine lo_arg (j := 2) rfl rfl (by omega) hL dL_law_767 rfl dL_law_768 rfl dL_law_769 rfl dL_law_770 rfl dL_law_771 rfl ?_
  refine lo_callV (b := 0) (ci := 6) (as := [vR 0, vI (xs (n + 1)).toInt, vI (xs (n + 2)).toInt]) (As := [vI (xs (n + 1)).toInt, vI (xs (n + 2)).toInt]) (rest := []) (n := 2) dL_law_772 lk_L_110 rfl rfl rfl rfl rfl rfl ⟨Nat.le_of_ble_eq_true rfl, Nat.le_of_ble_eq_true rfl⟩ ⟨rfl, rfl⟩ (by simp [mval, Value.category]) (ex23 hP (rng_ti _) (rng_ti _)) rfl ?_
  intro r1 w1 ⟨v1, e1, hv1, h1, hf1⟩; subst e1
  show Lo l D ck ad L xs 775 (lsL n) [vI v1] w1
  have hM1 : PMW w1 W := PMW_q hM (fun c k _ => hf1 c k (by omega))
  refine lo_aload (x := 45) rfl rfl dL_law_775 rfl ?_
  refine lo_arg (j := 1) rfl rfl (by omega) hL dL_law_776 rfl dL_law_777 rfl dL_law_778 rfl dL_law_779 rfl dL_law_780 rfl ?_
  refine lo_arg (j := 2) rfl rfl (by omega) hL dL_law_781 rfl dL_law_782 rfl dL_law_783 rfl dL_law_784 rfl dL_law_785 rfl ?_
  refine lo_callV (b := 45) (ci := 7) (as := [vR 45, vI (xs (n + 1)).toInt, vI (xs (n + 2)).toInt]) (As := [vI (xs (n + 1)).toInt, vI (xs (n + 2)).toInt]) (rest := [vI v1]) (n := 2) dL_law_786 lk_L_113 rfl rfl rfl rfl rfl rfl ⟨Nat.le_of_ble_eq_true rfl, Nat.le_of_ble_eq_true rfl⟩ ⟨rfl, rfl⟩ (by simp [mval, Value.category]) (em23 hM1 (rng_ti _) (rng_ti _)) rfl ?_
  intro r2 w2 ⟨v2, e2, hv2, h2, hf2⟩; subst e2
  show Lo l D ck ad L xs 789 (lsL n) [vI v2, vI v1] w2
  have hP2 := PXW_q h1 (fun c k _ => hf2 c k (by omega))
  exact lo_eqT dL_law_789 rfl (hv1.trans hv2.symm) (hk _ _ hP2 h2)
theorem lc24 (hP : PXW w W) (hM : PMW w W) (hL : L ≤ 2560) (hn : n + 5 ≤ L) (hk : Nx l D ck ad L xs n) : Lo l D ck ad L xs 794 (lsL n) [] w := by
  refine lo_aload (x := 0) rfl rfl dL_law_794 rfl ?_
  refine lo_callV (b := 0) (ci := 6) (as := [vR 0]) (As := []) (rest := []) (n := 0) dL_law_795 lk_L_114 rfl rfl rfl rfl rfl rfl ⟨Nat.le_of_ble_eq_true rfl, Nat.le_of_ble_eq_true rfl⟩ ⟨rfl, rfl⟩ (by simp [mval, Value.category]) (ex24 hP) rfl ?_
  intro r1 w1 ⟨v1, e1, hv1, h1, hf1⟩; subst e1
  show Lo l D ck ad L xs 798 (lsL n) [vI v1] w1
  have hM1 : PMW w1 W := PMW_q hM (fun c k _ => hf1 c k (by omega))
  refine lo_aload (x := 45) rfl rfl dL_law_798 rfl ?_
  refine lo_callV (b := 45) (ci := 7) (as := [vR 45]) (As := []) (rest := [vI v1]) (n := 0) dL_law_799 lk_L_117 rfl rfl rfl rfl rfl rfl ⟨Nat.le_of_ble_eq_true rfl, Nat.le_of_ble_eq_true rfl⟩ ⟨rfl, rfl⟩ (by simp [mval, Value.category]) (em24 hM1) rfl ?_
  intro r2 w2 ⟨v2, e2, hv2, h2, hf2⟩; subst e2
  show Lo l D ck ad L xs 802 (lsL n) [vI v2, vI v1] w2
  have hP2 := PXW_q h1 (fun c k _ => hf2 c k (by omega))
  exact lo_eqT dL_law_802 rfl (hv1.trans hv2.symm) (hk _ _ hP2 h2)
theorem lc25 (hP : PXW w W) (hM : PMW w W) (hL : L ≤ 2560) (hn : n + 5 ≤ L) (hk : Nx l D ck ad L xs n) : Lo l D ck ad L xs 807 (lsL n) [] w := by
  refine lo_aload (x := 0) rfl rfl dL_law_807 rfl ?_
  refine lo_callV (b := 0) (ci := 6) (as := [vR 0]) (As := []) (rest := []) (n := 0) dL_law_808 lk_L_118 rfl rfl rfl rfl rfl rfl ⟨Nat.le_of_ble_eq_true rfl, Nat.le_of_ble_eq_true rfl⟩ ⟨rfl, rfl⟩ (by simp [mval, Value.category]) (ex25 hP) rfl ?_
  intro r1 w1 ⟨v1, e1, hv1, h1, hf1⟩; subst e1
  show Lo l D ck ad L xs 811 (lsL n) [vI v1] w1
  have hM1 : PMW w1 W := PMW_q hM (fun c k _ => hf1 c k (by omega))
  refine lo_aload (x := 45) rfl rfl dL_law_811 rfl ?_
  refine lo_callV (b := 45) (ci := 7) (as := [vR 45]) (As := []) (rest := [vI v1]) (n := 0) dL_law_812 lk_L_121 rfl rfl rfl rfl rfl rfl ⟨Nat.le_of_ble_eq_true rfl, Nat.le_of_ble_eq_true rfl⟩ ⟨rfl, rfl⟩ (by simp [mval, Value.category]) (em25 hM1) rfl ?_
  intro r2 w2 ⟨v2, e2, hv2, h2, hf2⟩; subst e2
  show Lo l D ck ad L xs 815 (lsL n) [vI v2, vI v1] w2
  have hP2 := PXW_q h1 (fun c k _ => hf2 c k (by omega))
  exact lo_eqT dL_law_815 rfl (hv1.trans hv2.symm) (hk _ _ hP2 h2)
theorem lc26 (hP : PXW w W) (hM : PMW w W) (hL : L ≤ 2560) (hn : n + 5 ≤ L) (hk : Nx l D ck ad L xs n) : Lo l D ck ad L xs 820 (lsL n) [] w := by
  refine lo_aload (x := 0) rfl rfl dL_law_820 rfl ?_
  refine lo_arg (j := 1) rfl rfl (by omega) hL dL_law_821 rfl dL_law_822 rfl dL_law_823 rfl dL_law_824 rfl dL_law_825 rfl ?_
  refine lo_arg (j := 2) rfl rfl (by omega) hL dL_law_826 rfl dL_law_827 rfl dL_law_828 rfl dL_law_829 rfl dL_law_830 rfl ?_
  refine lo_callV (b := 0) (ci := 6) (as := [vR 0, vI (xs (n + 1)).toInt, vI (xs (n + 2)).toInt]) (As := [vI (xs (n + 1)).toInt, vI (xs (n + 2)).toInt]) (rest := []) (n := 2) dL_law_831 lk_L_122 rfl rfl rfl rfl rfl rfl ⟨Nat.le_of_ble_eq_true rfl, Nat.le_of_ble_eq_true rfl⟩ ⟨rfl, rfl⟩ (by simp [mval, Value.category]) (ex26 hP (rng_ti _) (rng_ti _)) rfl ?_
  intro r1 w1 ⟨v1, e1, hv1, h1, hf1⟩; subst e1
  show Lo l D ck ad L xs 834 (lsL n) [vI v1] w1
  have hM1 : PMW w1 W := PMW_q hM (fun c k _ => hf1 c k (by omega))
  refine lo_aload (x := 45) rfl rfl dL_law_834 rfl ?_
  refine lo_arg (j := 1) rfl rfl (by omega) hL dL_law_835 rfl dL_law_836 rfl dL_law_837 rfl dL_law_838 rfl dL_law_839 rfl ?_
  refine lo_arg (j := 2) rfl rfl (by omega) hL dL_law_840 rfl dL_law_841 rfl dL_law_842 rfl dL_law_843 rfl dL_law_844 rfl ?_
  refine lo_callV (b := 45) (ci := 7) (as := [vR 45, vI (xs (n + 1)).toInt, vI (xs (n + 2)).toInt]) (As := [vI (xs (n + 1)).toInt, vI (xs (n + 2)).toInt]) (rest := [vI v1]) (n := 2) dL_law_845 lk_L_125 rfl rfl rfl rfl rfl rfl ⟨Nat.le_of_ble_eq_true rfl, Nat.le_of_ble_eq_true rfl⟩ ⟨rfl, rfl⟩ (by simp [mval, Value.category]) (em26 hM1 (rng_ti _) (rng_ti _)) rfl ?_
  intro r2 w2 ⟨v2, e2, hv2, h2, hf2⟩; subst e2
  show Lo l D ck ad L xs 848 (lsL n) [vI v2, vI v1] w2
  have hP2 := PXW_q h1 (fun c k _ => hf2 c k (by omega))
  exact lo_eqT dL_law_848 rfl (hv1.trans hv2.symm) (hk _ _ hP2 h2)
theorem lc27 (hP : PXW w W) (hM : PMW w W) (hL : L ≤ 2560) (hn : n + 5 ≤ L) (hk : Nx l D ck ad L xs n) : Lo l D ck ad L xs 853 (lsL n) [] w := by
  refine lo_aload (x := 0) rfl rfl dL_law_853 rfl ?_
  refine lo_callV (b := 0) (ci := 6) (as := [vR 0]) (As := []) (rest := []) (n := 0) dL_law_854 lk_L_126 rfl rfl rfl rfl rfl rfl ⟨Nat.le_of_ble_eq_true rfl, Nat.le_of_ble_eq_true rfl⟩ ⟨rfl, rfl⟩ (by simp [mval, Value.category]) (ex27 hP) rfl ?_
  intro r1 w1 ⟨v1, e1, hv1, h1, hf1⟩; subst e1
  show Lo l D ck ad L xs 857 (lsL n) [vI v1] w1
  have hM1 : PMW w1 W := PMW_q hM (fun c k _ => hf1 c k (by omega))
  refine lo_aload (x := 45) rfl rfl dL_law_857 rfl ?_
  refine lo_callV (b := 45) (ci := 7) (as := [vR 45]) (As := []) (rest := [vI v1]) (n := 0) dL_law_858 lk_L_129 rfl rfl rfl rfl rfl rfl ⟨Nat.le_of_ble_eq_true rfl, Nat.le_of_ble_eq_true rfl⟩ ⟨rfl, rfl⟩ (by simp [mval, Value.category]) (em27 hM1) rfl ?_
  intro r2 w2 ⟨v2, e2, hv2, h2, hf2⟩; subst e2
  show Lo l D ck ad L xs 861 (lsL n) [vI v2, vI v1] w2
  have hP2 := PXW_q h1 (fun c k _ => hf2 c k (by omega))
  exact lo_eqT dL_law_861 rfl (hv1.trans hv2.symm) (hk _ _ hP2 h2)
theorem lc28 (hP : PXW w W) (hM : PMW w W) (hL : L ≤ 2560) (hn : n + 5 ≤ L) (hk : Nx l D ck ad L xs n) : Lo l D ck ad L xs 866 (lsL n) [] w := by
  refine lo_aload (x := 0) rfl rfl dL_law_866 rfl ?_
  refine lo_callV (b := 0) (ci := 6) (as := [vR 0]) (As := []) (rest := []) (n := 0) dL_law_867 lk_L_130 rfl rfl rfl rfl rfl rfl ⟨Nat.le_of_ble_eq_true rfl, Nat.le_of_ble_eq_true rfl⟩ ⟨rfl, rfl⟩ (by simp [mval, Value.category]) (ex28 hP) rfl ?_
  intro r1 w1 ⟨v1, e1, hv1, h1, hf1⟩; subst e1
  show Lo l D ck ad L xs 870 (lsL n) [vI v1] w1
  have hM1 : PMW w1 W := PMW_q hM (fun c k _ => hf1 c k (by omega))
  refine lo_aload (x := 45) rfl rfl dL_law_870 rfl ?_
  refine lo_callV (b := 45) (ci := 7) (as := [vR 45]) (As := []) (rest := [vI v1]) (n := 0) dL_law_871 lk_L_133 rfl rfl rfl rfl rfl rfl ⟨Nat.le_of_ble_eq_true rfl, Nat.le_of_ble_eq_true rfl⟩ ⟨rfl, rfl⟩ (by simp [mval, Value.category]) (em28 hM1) rfl ?_
  intro r2 w2 ⟨v2, e2, hv2, h2, hf2⟩; subst e2
  show Lo l D ck ad L xs 874 (lsL n) [vI v2, vI v1] w2
  have hP2 := PXW_q h1 (fun c k _ => hf2 c k (by omega))
  exact lo_eqT dL_law_874 rfl (hv1.trans hv2.symm) (hk _ _ hP2 h2)
theorem lc29 (hP : PXW w W) (hM : PMW w W) (hL : L ≤ 2560) (hn : n + 5 ≤ L) (hk : Nx l D ck ad L xs n) : Lo l D ck ad L xs 879 (lsL n) [] w := by
  refine lo_aload (x := 0) rfl rfl dL_law_879 rfl ?_
  refine lo_arg (j := 1) rfl rfl (by omega) hL dL_law_880 rfl dL_law_881 rfl dL_law_882 rfl dL_law_883 rfl dL_law_884 rfl ?_
  refine lo_arg (j := 2) rfl rfl (by omega) hL dL_law_885 rfl dL_law_886 rfl dL_law_887 rfl dL_law_888 rfl dL_law_889 rfl ?_
  refine lo_callV (b := 0) (ci := 6) (as := [vR 0, vI (xs (n + 1)).toInt, vI (xs (n + 2)).toInt]) (As := [vI (xs (n + 1)).toInt, vI (xs (n + 2)).toInt]) (rest := []) (n := 2) dL_law_890 lk_L_134 rfl rfl rfl rfl rfl rfl ⟨Nat.le_of_ble_eq_true rfl, Nat.le_of_ble_eq_true rfl⟩ ⟨rfl, rfl⟩ (by simp [mval, Value.category]) (ex29 hP (rng_ti _) (rng_ti _)) rfl ?_
  intro r1 w1 ⟨v1, e1, hv1, h1, hf1⟩; subst e1
  show Lo l D ck ad L xs 893 (lsL n) [vI v1] w1
  have hM1 : PMW w1 W := PMW_q hM (fun c k _ => hf1 c k (by omega))
  refine lo_aload (x := 45) rfl rfl dL_law_893 rfl ?_
  refine lo_arg (j := 1) rfl rfl (by omega) hL dL_law_894 rfl dL_law_895 rfl dL_law_896 rfl dL_law_897 rfl dL_law_898 rfl ?_
  refine lo_arg (j := 2) rfl rfl (by omega) hL dL_law_899 rfl dL_law_900 rfl dL_law_901 rfl dL_law_902 rfl dL_law_903 rfl ?_
  refine lo_callV (b := 45) (ci := 7) (as := [vR 45, vI (xs (n + 1)).toInt, vI (xs (n + 2)).toInt]) (As := [vI (xs (n + 1)).toInt, vI (xs (n + 2)).toInt]) (rest := [vI v1]) (n := 2) dL_law_904 lk_L_137 rfl rfl rfl rfl rfl rfl ⟨Nat.le_of_ble_eq_true rfl, Nat.le_of_ble_eq_true rfl⟩ ⟨rfl, rfl⟩ (by simp [mval, Value.category]) (em29 hM1 (rng_ti _) (rng_ti _)) rfl ?_
  intro r2 w2 ⟨v2, e2, hv2, h2, hf2⟩; subst e2
  show Lo l D ck ad L xs 907 (lsL n) [vI v2, vI v1] w2
  have hP2 := PXW_q h1 (fun c k _ => hf2 c k (by omega))
  exact lo_eqT dL_law_907 rfl (hv1.trans hv2.symm) (hk _ _ hP2 h2)
theorem lc30 (hP : PXW w W) (hM : PMW w W) (hL : L ≤ 2560) (hn : n + 5 ≤ L) (hk : Nx l D ck ad L xs n) : Lo l D ck ad L xs 912 (lsL n) [] w := by
  refine lo_aload (x := 0) rfl rfl dL_law_912 rfl ?_
  refine lo_callV (b := 0) (ci := 6) (as := [vR 0]) (As := []) (rest := []) (n := 0) dL_law_913 lk_L_138 rfl rfl rfl rfl rfl rfl ⟨Nat.le_of_ble_eq_true rfl, Nat.le_of_ble_eq_true rfl⟩ ⟨rfl, rfl⟩ (by simp [mval, Value.category]) (ex30 hP) rfl ?_
  intro r1 w1 ⟨v1, e1, hv1, h1, hf1⟩; subst e1
  show Lo l D ck ad L xs 916 (lsL n) [vI v1] w1
  have hM1 : PMW w1 W := PMW_q hM (fun c k _ => hf1 c k (by omega))
  refine lo_aload (x := 45) rfl rfl dL_law_916 rfl ?_
  refine lo_callV (b := 45) (ci := 7) (as := [vR 45]) (As := []) (rest := [vI v1]) (n := 0) dL_law_917 lk_L_141 rfl rfl rfl rfl rfl rfl ⟨Nat.le_of_ble_eq_true rfl, Nat.le_of_ble_eq_true rfl⟩ ⟨rfl, rfl⟩ (by simp [mval, Value.category]) (em30 hM1) rfl ?_
  intro r2 w2 ⟨v2, e2, hv2, h2, hf2⟩; subst e2
  show Lo l D ck ad L xs 920 (lsL n) [vI v2, vI v1] w2
  have hP2 := PXW_q h1 (fun c k _ => hf2 c k (by omega))
  exact lo_eqT dL_law_920 rfl (hv1.trans hv2.symm) (hk _ _ hP2 h2)
theorem lc31 (hP : PXW w W) (hM : PMW w W) (hL : L ≤ 2560) (hn : n + 5 ≤ L) (hk : Nx l D ck ad L xs n) : Lo l D ck ad L xs 925 (lsL n) [] w := by
  refine lo_aload (x := 0) rfl rfl dL_law_925 rfl ?_
  refine lo_arg (j := 1) rfl rfl (by omega) hL dL_law_926 rfl dL_law_927 rfl dL_law_928 rfl dL_law_929 rfl dL_law_930 rfl ?_
  refine lo_arg (j := 2) rfl rfl (by omega) hL dL_law_931 rfl dL_law_932 rfl dL_law_933 rfl dL_law_934 rfl dL_law_935 rfl ?_
  refine lo_callV (b := 0) (ci := 6) (as := [vR 0, vI (xs (n + 1)).toInt, vI (xs (n + 2)).toInt]) (As := [vI (xs (n + 1)).toInt, vI (xs (n + 2)).toInt]) (rest := []) (n := 2) dL_law_936 lk_L_142 rfl rfl rfl rfl rfl rfl ⟨Nat.le_of_ble_eq_true rfl, Nat.le_of_ble_eq_true rfl⟩ ⟨rfl, rfl⟩ (by simp [mval, Value.category]) (ex31 hP (rng_ti _) (rng_ti _)) rfl ?_
  intro r1 w1 ⟨v1, e1, hv1, h1, hf1⟩; subst e1
  show Lo l D ck ad L xs 939 (lsL n) [vI v1] w1
  have hM1 : PMW w1 W := PMW_q hM (fun c k _ => hf1 c k (by omega))
  refine lo_aload (x := 45) rfl rfl dL_law_939 rfl ?_
  refine lo_arg (j := 1) rfl rfl (by omega) hL dL_law_940 rfl dL_law_941 rfl dL_law_942 rfl dL_law_943 rfl dL_law_944 rfl ?_
  refine lo_arg (j := 2) rfl rfl (by omega) hL dL_law_945 rfl dL_law_946 rfl dL_law_947 rfl dL_law_948 rfl dL_law_949 rfl ?_
  refine lo_callV (b := 45) (ci := 7) (as := [vR 45, vI (xs (n + 1)).toInt, vI (xs (n + 2)).toInt]) (As := [vI (xs (n + 1)).toInt, vI (xs (n + 2)).toInt]) (rest := [vI v1]) (n := 2) dL_law_950 lk_L_145 rfl rfl rfl rfl rfl rfl ⟨Nat.le_of_ble_eq_true rfl, Nat.le_of_ble_eq_true rfl⟩ ⟨rfl, rfl⟩ (by simp [mval, Value.category]) (em31 hM1 (rng_ti _) (rng_ti _)) rfl ?_
  intro r2 w2 ⟨v2, e2, hv2, h2, hf2⟩; subst e2
  show Lo l D ck ad L xs 953 (lsL n) [vI v2, vI v1] w2
  have hP2 := PXW_q h1 (fun c k _ => hf2 c k (by omega))
  exact lo_eqT dL_law_953 rfl (hv1.trans hv2.symm) (hk _ _ hP2 h2)
theorem lc32 (hP : PXW w W) (hM : PMW w W) (hL : L ≤ 2560) (hn : n + 5 ≤ L) (hk : Nx l D ck ad L xs n) : Lo l D ck ad L xs 958 (lsL n) [] w := by
  refine lo_aload (x := 0) rfl rfl dL_law_958 rfl ?_
  refine lo_arg (j := 1) rfl rfl (by omega) hL dL_law_959 rfl dL_law_960 rfl dL_law_961 rfl dL_law_962 rfl dL_law_963 rfl ?_
  refine lo_arg (j := 2) rfl rfl (by omega) hL dL_law_964 rfl dL_law_965 rfl dL_law_966 rfl dL_law_967 rfl dL_law_968 rfl ?_
  refine lo_callV (b := 0) (ci := 6) (as := [vR 0, vI (xs (n + 1)).toInt, vI (xs (n + 2)).toInt]) (As := [vI (xs (n + 1)).toInt, vI (xs (n + 2)).toInt]) (rest := []) (n := 2) dL_law_969 lk_L_146 rfl rfl rfl rfl rfl rfl ⟨Nat.le_of_ble_eq_true rfl, Nat.le_of_ble_eq_true rfl⟩ ⟨rfl, rfl⟩ (by simp [mval, Value.category]) (ex32 hP (rng_ti _) (rng_ti _)) rfl ?_
  intro r1 w1 ⟨v1, e1, hv1, h1, hf1⟩; subst e1
  show Lo l D ck ad L xs 972 (lsL n) [vI v1] w1
  have hM1 : PMW w1 W := PMW_q hM (fun c k _ => hf1 c k (by omega))
  refine lo_aload (x := 45) rfl rfl dL_law_972 rfl ?_
  refine lo_arg (j := 1) rfl rfl (by omega) hL dL_law_973 rfl dL_law_974 rfl dL_law_975 rfl dL_law_976 rfl dL_law_977 rfl ?_
  refine lo_arg (j := 2) rfl rfl (by omega) hL dL_law_978 rfl dL_law_979 rfl dL_law_980 rfl dL_law_981 rfl dL_law_982 rfl ?_
  refine lo_callV (b := 45) (ci := 7) (as := [vR 45, vI (xs (n + 1)).toInt, vI (xs (n + 2)).toInt]) (As := [vI (xs (n + 1)).toInt, vI (xs (n + 2)).toInt]) (rest := [vI v1]) (n := 2) dL_law_983 lk_L_149 rfl rfl rfl rfl rfl rfl ⟨Nat.le_of_ble_eq_true rfl, Nat.le_of_ble_eq_true rfl⟩ ⟨rfl, rfl⟩ (by simp [mval, Value.category]) (em32 hM1 (rng_ti _) (rng_ti _)) rfl ?_
  intro r2 w2 ⟨v2, e2, hv2, h2, hf2⟩; subst e2
  show Lo l D ck ad L xs 986 (lsL n) [vI v2, vI v1] w2
  have hP2 := PXW_q h1 (fun c k _ => hf2 c k (by omega))
  exact lo_eqT dL_law_986 rfl (hv1.trans hv2.symm) (hk _ _ hP2 h2)
theorem lc33 (hP : PXW w W) (hM : PMW w W) (hL : L ≤ 2560) (hn : n + 5 ≤ L) (hk : Nx l D ck ad L xs n) : Lo l D ck ad L xs 991 (lsL n) [] w := by
  refine lo_aload (x := 0) rfl rfl dL_law_991 rfl ?_
  refine lo_arg (j := 1) rfl rfl (by omega) hL dL_law_992 rfl dL_law_993 rfl dL_law_994 rfl dL_law_995 rfl dL_law_996 rfl ?_
  refine lo_callV (b := 0) (ci := 6) (as := [vR 0, vI (xs (n + 1)).toInt]) (As := [vI (xs (n + 1)).toInt]) (rest := []) (n := 1) dL_law_997 lk_L_150 rfl rfl rfl rfl rfl rfl ⟨Nat.le_of_ble_eq_true rfl, Nat.le_of_ble_eq_true rfl⟩ ⟨rfl, rfl⟩ (by simp [mval, Value.category]) (ex33 hP (rng_ti _)) rfl ?_
  intro r1 w1 ⟨v1, e1, hv1, h1, hf1⟩; subst e1
  show Lo l D ck ad L xs 1000 (lsL n) [vI v1] w1
  have hM1 : PMW w1 W := PMW_q hM (fun c k _ => hf1 c k (by omega))
  refine lo_aload (x := 45) rfl rfl dL_law_1000 rfl ?_
  refine lo_arg (j := 1) rfl rfl (by omega) hL dL_law_1001 rfl dL_law_1002 rfl dL_law_1003 rfl dL_law_1004 rfl dL_law_1005 rfl ?_
  refine lo_callV (b := 45) (ci := 7) (as := [vR 45, vI (xs (n + 1)).toInt]) (As := [vI (xs (n + 1)).toInt]) (rest := [vI v1]) (n := 1) dL_law_1006 lk_L_153 rfl rfl rfl rfl rfl rfl ⟨Nat.le_of_ble_eq_true rfl, Nat.le_of_ble_eq_true rfl⟩ ⟨rfl, rfl⟩ (by simp [mval, Value.category]) (em33 hM1 (rng_ti _)) rfl ?_
  intro r2 w2 ⟨v2, e2, hv2, h2, hf2⟩; subst e2
  show Lo l D ck ad L xs 1009 (lsL n) [vI v2, vI v1] w2
  have hP2 := PXW_q h1 (fun c k _ => hf2 c k (by omega))
  exact lo_eqT dL_law_1009 rfl (hv1.trans hv2.symm) (hk _ _ hP2 h2)
theorem lc34 (hP : PXW w W) (hM : PMW w W) (hL : L ≤ 2560) (hn : n + 5 ≤ L) (hk : Nx l D ck ad L xs n) : Lo l D ck ad L xs 1014 (lsL n) [] w := by
  refine lo_aload (x := 0) rfl rfl dL_law_1014 rfl ?_
  refine lo_arg (j := 1) rfl rfl (by omega) hL dL_law_1015 rfl dL_law_1016 rfl dL_law_1017 rfl dL_law_1018 rfl dL_law_1019 rfl ?_
  refine lo_arg (j := 2) rfl rfl (by omega) hL dL_law_1020 rfl dL_law_1021 rfl dL_law_1022 rfl dL_law_1023 rfl dL_law_1024 rfl ?_
  refine lo_callV (b := 0) (ci := 6) (as := [vR 0, vI (xs (n + 1)).toInt, vI (xs (n + 2)).toInt]) (As := [vI (xs (n + 1)).toInt, vI (xs (n + 2)).toInt]) (rest := []) (n := 2) dL_law_1025 lk_L_154 rfl rfl rfl rfl rfl rfl ⟨Nat.le_of_ble_eq_true rfl, Nat.le_of_ble_eq_true rfl⟩ ⟨rfl, rfl⟩ (by simp [mval, Value.category]) (ex34 hP (rng_ti _) (rng_ti _)) rfl ?_
  intro r1 w1 ⟨v1, e1, hv1, h1, hf1⟩; subst e1
  show Lo l D ck ad L xs 1028 (lsL n) [vI v1] w1
  have hM1 : PMW w1 W := PMW_q hM (fun c k _ => hf1 c k (by omega))
  refine lo_aload (x := 45) rfl rfl dL_law_1028 rfl ?_
  refine lo_arg (j := 1) rfl rfl (by omega) hL dL_law_1029 rfl dL_law_1030 rfl dL_law_1031 rfl dL_law_1032 rfl dL_law_1033 rfl ?_
  refine lo_arg (j := 2) rfl rfl (by omega) hL dL_law_1034 rfl dL_law_1035 rfl dL_law_1036 rfl dL_law_1037 rfl dL_law_1038 rfl ?_
  refine lo_callV (b := 45) (ci := 7) (as := [vR 45, vI (xs (n + 1)).toInt, vI (xs (n + 2)).toInt]) (As := [vI (xs (n + 1)).toInt, vI (xs (n + 2)).toInt]) (rest := [vI v1]) (n := 2) dL_law_1039 lk_L_157 rfl rfl rfl rfl rfl rfl ⟨Nat.le_of_ble_eq_true rfl, Nat.le_of_ble_eq_true rfl⟩ ⟨rfl, rfl⟩ (by simp [mval, Value.category]) (em34 hM1 (rng_ti _) (rng_ti _)) rfl ?_
  intro r2 w2 ⟨v2, e2, hv2, h2, hf2⟩; subst e2
  show Lo l D ck ad L xs 1042 (lsL n) [vI v2, vI v1] w2
  have hP2 := PXW_q h1 (fun c k _ => hf2 c k (by omega))
  exact lo_eqT dL_law_1042 rfl (hv1.trans hv2.symm) (hk _ _ hP2 h2)
theorem lc35 (hP : PXW w W) (hM : PMW w W) (hL : L ≤ 2560) (hn : n + 5 ≤ L) (hk : Nx l D ck ad L xs n) : Lo l D ck ad L xs 1047 (lsL n) [] w := by
  refine lo_aload (x := 0) rfl rfl dL_law_1047 rfl ?_
  refine lo_arg (j := 1) rfl rfl (by omega) hL dL_law_1048 rfl dL_law_1049 rfl dL_law_1050 rfl dL_law_1051 rfl dL_law_1052 rfl ?_
  refine lo_callV (b := 0) (ci := 6) (as := [vR 0, vI (xs (n + 1)).toInt]) (As := [vI (xs (n + 1)).toInt]) (rest := []) (n := 1) dL_law_1053 lk_L_158 rfl rfl rfl rfl rfl rfl ⟨Nat.le_of_ble_eq_true rfl, Nat.le_of_ble_eq_true rfl⟩ ⟨rfl, rfl⟩ (by simp [mval, Value.category]) (ex35 hP (rng_ti _)) rfl ?_
  intro r1 w1 ⟨v1, e1, hv1, h1, hf1⟩; subst e1
  show Lo l D ck ad L xs 1056 (lsL n) [vI v1] w1
  have hM1 : PMW w1 W := PMW_q hM (fun c k _ => hf1 c k (by omega))
  refine lo_aload (x := 45) rfl rfl dL_law_1056 rfl ?_
  refine lo_arg (j := 1) rfl rfl (by omega) hL dL_law_1057 rfl dL_law_1058 rfl dL_law_1059 rfl dL_law_1060 rfl dL_law_1061 rfl ?_
  refine lo_callV (b := 45) (ci := 7) (as := [vR 45, vI (xs (n + 1)).toInt]) (As := [vI (xs (n + 1)).toInt]) (rest := [vI v1]) (n := 1) dL_law_1062 lk_L_161 rfl rfl rfl rfl rfl rfl ⟨Nat.le_of_ble_eq_true rfl, Nat.le_of_ble_eq_true rfl⟩ ⟨rfl, rfl⟩ (by simp [mval, Value.category]) (em35 hM1 (rng_ti _)) rfl ?_
  intro r2 w2 ⟨v2, e2, hv2, h2, hf2⟩; subst e2
  show Lo l D ck ad L xs 1065 (lsL n) [vI v2, vI v1] w2
  have hP2 := PXW_q h1 (fun c k _ => hf2 c k (by omega))
  exact lo_eqT dL_law_1065 rfl (hv1.trans hv2.symm) (hk _ _ hP2 h2)
theorem lc36 (hP : PXW w W) (hM : PMW w W) (hL : L ≤ 2560) (hn : n + 5 ≤ L) (hk : Nx l D ck ad L xs n) : Lo l D ck ad L xs 1070 (lsL n) [] w := by
  refine lo_aload (x := 0) rfl rfl dL_law_1070 rfl ?_
  refine lo_callV (b := 0) (ci := 6) (as := [vR 0]) (As := []) (rest := []) (n := 0) dL_law_1071 lk_L_162 rfl rfl rfl rfl rfl rfl ⟨Nat.le_of_ble_eq_true rfl, Nat.le_of_ble_eq_true rfl⟩ ⟨rfl, rfl⟩ (by simp [mval, Value.category]) (ex36 hP) rfl ?_
  intro r1 w1 ⟨v1, e1, hv1, h1, hf1⟩; subst e1
  show Lo l D ck ad L xs 1074 (lsL n) [vI v1] w1
  have hM1 : PMW w1 W := PMW_q hM (fun c k _ => hf1 c k (by omega))
  refine lo_aload (x := 45) rfl rfl dL_law_1074 rfl ?_
  refine lo_callV (b := 45) (ci := 7) (as := [vR 45]) (As := []) (rest := [vI v1]) (n := 0) dL_law_1075 lk_L_165 rfl rfl rfl rfl rfl rfl ⟨Nat.le_of_ble_eq_true rfl, Nat.le_of_ble_eq_true rfl⟩ ⟨rfl, rfl⟩ (by simp [mval, Value.category]) (em36 hM1) rfl ?_
  intro r2 w2 ⟨v2, e2, hv2, h2, hf2⟩; subst e2
  show Lo l D ck ad L xs 1078 (lsL n) [vI v2, vI v1] w2
  have hP2 := PXW_q h1 (fun c k _ => hf2 c k (by omega))
  exact lo_eqT dL_law_1078 rfl (hv1.trans hv2.symm) (hk _ _ hP2 h2)
theorem lc37 (hP : PXW w W) (hM : PMW w W) (hL : L ≤ 2560) (hn : n + 5 ≤ L) (hk : Nx l D ck ad L xs n) : Lo l D ck ad L xs 1083 (lsL n) [] w := by
  refine lo_aload (x := 0) rfl rfl dL_law_1083 rfl ?_
  refine lo_callV (b := 0) (ci := 6) (as := [vR 0]) (As := []) (rest := []) (n := 0) dL_law_1084 lk_L_166 rfl rfl rfl rfl rfl rfl ⟨Nat.le_of_ble_eq_true rfl, Nat.le_of_ble_eq_true rfl⟩ ⟨rfl, rfl⟩ (by simp [mval, Value.category]) (ex37 hP) rfl ?_
  intro r1 w1 ⟨v1, e1, hv1, h1, hf1⟩; subst e1
  show Lo l D ck ad L xs 1087 (lsL n) [vI v1] w1
  have hM1 : PMW w1 W := PMW_q hM (fun c k _ => hf1 c k (by omega))
  refine lo_aload (x := 45) rfl rfl dL_law_1087 rfl ?_
  refine lo_callV (b := 45) (ci := 7) (as := [vR 45]) (As := []) (rest := [vI v1]) (n := 0) dL_law_1088 lk_L_169 rfl rfl rfl rfl rfl rfl ⟨Nat.le_of_ble_eq_true rfl, Nat.le_of_ble_eq_true rfl⟩ ⟨rfl, rfl⟩ (by simp [mval, Value.category]) (em37 hM1) rfl ?_
  intro r2 w2 ⟨v2, e2, hv2, h2, hf2⟩; subst e2
  show Lo l D ck ad L xs 1091 (lsL n) [vI v2, vI v1] w2
  have hP2 := PXW_q h1 (fun c k _ => hf2 c k (by omega))
  exact lo_eqT dL_law_1091 rfl (hv1.trans hv2.symm) (hk _ _ hP2 h2)
theorem lc38 (hP : PXW w W) (hM : PMW w W) (hL : L ≤ 2560) (hn : n + 5 ≤ L) (hk : Nx l D ck ad L xs n) : Lo l D ck ad L xs 1096 (lsL n) [] w := by
  refine lo_aload (x := 0) rfl rfl dL_law_1096 rfl ?_
  refine lo_callV (b := 0) (ci := 6) (as := [vR 0]) (As := []) (rest := []) (n := 0) dL_law_1097 lk_L_170 rfl rfl rfl rfl rfl rfl ⟨Nat.le_of_ble_eq_true rfl, Nat.le_of_ble_eq_true rfl⟩ ⟨rfl, rfl⟩ (by simp [mval, Value.category]) (ex38 hP) rfl ?_
  intro r1 w1 ⟨v1, e1, hv1, h1, hf1⟩; subst e1
  show Lo l D ck ad L xs 1100 (lsL n) [vI v1] w1
  have hM1 : PMW w1 W := PMW_q hM (fun c k _ => hf1 c k (by omega))
  refine lo_aload (x := 45) rfl rfl dL_law_1100 rfl ?_
  refine lo_callV (b := 45) (ci := 7) (as := [vR 45]) (As := []) (rest := [vI v1]) (n := 0) dL_law_1101 lk_L_173 rfl rfl rfl rfl rfl rfl ⟨Nat.le_of_ble_eq_true rfl, Nat.le_of_ble_eq_true rfl⟩ ⟨rfl, rfl⟩ (by simp [mval, Value.category]) (em38 hM1) rfl ?_
  intro r2 w2 ⟨v2, e2, hv2, h2, hf2⟩; subst e2
  show Lo l D ck ad L xs 1104 (lsL n) [vI v2, vI v1] w2
  have hP2 := PXW_q h1 (fun c k _ => hf2 c k (by omega))
  exact lo_eqT dL_law_1104 rfl (hv1.trans hv2.symm) (hk _ _ hP2 h2)
theorem lc39 (hP : PXW w W) (hM : PMW w W) (hL : L ≤ 2560) (hn : n + 5 ≤ L) (hk : Nx l D ck ad L xs n) : Lo l D ck ad L xs 1109 (lsL n) [] w := by
  refine lo_aload (x := 0) rfl rfl dL_law_1109 rfl ?_
  refine lo_callV (b := 0) (ci := 6) (as := [vR 0]) (As := []) (rest := []) (n := 0) dL_law_1110 lk_L_174 rfl rfl rfl rfl rfl rfl ⟨Nat.le_of_ble_eq_true rfl, Nat.le_of_ble_eq_true rfl⟩ ⟨rfl, rfl⟩ (by simp [mval, Value.category]) (ex39 hP) rfl ?_
  intro r1 w1 ⟨v1, e1, hv1, h1, hf1⟩; subst e1
  show Lo l D ck ad L xs 1113 (lsL n) [vI v1] w1
  have hM1 : PMW w1 W := PMW_q hM (fun c k _ => hf1 c k (by omega))
  refine lo_aload (x := 45) rfl rfl dL_law_1113 rfl ?_
  refine lo_callV (b := 45) (ci := 7) (as := [vR 45]) (As := []) (rest := [vI v1]) (n := 0) dL_law_1114 lk_L_177 rfl rfl rfl rfl rfl rfl ⟨Nat.le_of_ble_eq_true rfl, Nat.le_of_ble_eq_true rfl⟩ ⟨rfl, rfl⟩ (by simp [mval, Value.category]) (em39 hM1) rfl ?_
  intro r2 w2 ⟨v2, e2, hv2, h2, hf2⟩; subst e2
  show Lo l D ck ad L xs 1117 (lsL n) [vI v2, vI v1] w2
  have hP2 := PXW_q h1 (fun c k _ => hf2 c k (by omega))
  exact lo_eqT dL_law_1117 rfl (hv1.trans hv2.symm) (hk _ _ hP2 h2)
theorem lc40 (hP : PXW w W) (hM : PMW w W) (hL : L ≤ 2560) (hn : n + 5 ≤ L) (hk : Nx l D ck ad L xs n) : Lo l D ck ad L xs 1122 (lsL n) [] w := by
  refine lo_aload (x := 0) rfl rfl dL_law_1122 rfl ?_
  refine lo_callV (b := 0) (ci := 6) (as := [vR 0]) (As := []) (rest := []) (n := 0) dL_law_1123 lk_L_178 rfl rfl rfl rfl rfl rfl ⟨Nat.le_of_ble_eq_true rfl, Nat.le_of_ble_eq_true rfl⟩ ⟨rfl, rfl⟩ (by simp [mval, Value.category]) (ex40 hP) rfl ?_
  intro r1 w1 ⟨v1, e1, hv1, h1, hf1⟩; subst e1
  show Lo l D ck ad L xs 1126 (lsL n) [vL v1] w1
  have hM1 : PMW w1 W := PMW_q hM (fun c k _ => hf1 c k (by omega))
  refine lo_aload (x := 45) rfl rfl dL_law_1126 rfl ?_
  refine lo_callV (b := 45) (ci := 7) (as := [vR 45]) (As := []) (rest := [vL v1]) (n := 0) dL_law_1127 lk_L_182 rfl rfl rfl rfl rfl rfl ⟨Nat.le_of_ble_eq_true rfl, Nat.le_of_ble_eq_true rfl⟩ ⟨rfl, rfl⟩ (by simp [mval, Value.category]) (em40 hM1) rfl ?_
  intro r2 w2 ⟨v2, e2, hv2, h2, hf2⟩; subst e2
  show Lo l D ck ad L xs 1130 (lsL n) [vL v2, vL v1] w2
  have hP2 := PXW_q h1 (fun c k _ => hf2 c k (by omega))
  exact lo_cmpT dL_law_1130 rfl dL_law_1131 rfl (hv1.trans hv2.symm) (hk _ _ hP2 h2)
set_option maxRecDepth 100000 in
theorem lsw (hP : PXW w W) (hM : PMW w W) (hL : L ≤ 2560) (hn : n + 5 ≤ L) (hk : Nx l D ck ad L xs n) (x : Int) : Lo l D ck ad L xs 32 (lsL n) [vI x] w := by
  refine lo_ts1 (t := 212) 0 dL_law_32 ⟨by decide, by decide⟩ rfl rfl (fun _ => lc0 hP hM hL hn hk) (fun z0 => ?_)
  refine lo_ts1 (t := 235) 1 dL_law_32 ⟨by decide, by decide⟩ rfl rfl (fun _ => lc1 hP hM hL hn hk) (fun z1 => ?_)
  refine lo_ts1 (t := 258) 2 dL_law_32 ⟨by decide, by decide⟩ rfl rfl (fun _ => lc2 hP hM hL hn hk) (fun z2 => ?_)
  refine lo_ts1 (t := 291) 3 dL_law_32 ⟨by decide, by decide⟩ rfl rfl (fun _ => lc3 hP hM hL hn hk) (fun z3 => ?_)
  refine lo_ts1 (t := 314) 4 dL_law_32 ⟨by decide, by decide⟩ rfl rfl (fun _ => lc4 hP hM hL hn hk) (fun z4 => ?_)
  refine lo_ts1 (t := 357) 5 dL_law_32 ⟨by decide, by decide⟩ rfl rfl (fun _ => lc5 hP hM hL hn hk) (fun z5 => ?_)
  refine lo_ts1 (t := 370) 6 dL_law_32 ⟨by decide, by decide⟩ rfl rfl (fun _ => lc6 hP hM hL hn hk) (fun z6 => ?_)
  refine lo_ts1 (t := 383) 7 dL_law_32 ⟨by decide, by decide⟩ rfl rfl (fun _ => lc7 hP hM hL hn hk) (fun z7 => ?_)
  refine lo_ts1 (t := 416) 8 dL_law_32 ⟨by decide, by decide⟩ rfl rfl (fun _ => lc8 hP hM hL hn hk) (fun z8 => ?_)
  refine lo_ts1 (t := 449) 9 dL_law_32 ⟨by decide, by decide⟩ rfl rfl (fun _ => lc9 hP hM hL hn hk) (fun z9 => ?_)
  refine lo_ts1 (t := 472) 10 dL_law_32 ⟨by decide, by decide⟩ rfl rfl (fun _ => lc10 hP hM hL hn hk) (fun z10 => ?_)
  refine lo_ts1 (t := 495) 11 dL_law_32 ⟨by decide, by decide⟩ rfl rfl (fun _ => lc11 hP hM hL hn hk) (fun z11 => ?_)
  refine lo_ts1 (t := 508) 12 dL_law_32 ⟨by decide, by decide⟩ rfl rfl (fun _ => lc12 hP hM hL hn hk) (fun z12 => ?_)
  refine lo_ts1 (t := 531) 13 dL_law_32 ⟨by decide, by decide⟩ rfl rfl (fun _ => lc13 hP hM hL hn hk) (fun z13 => ?_)
  refine lo_ts1 (t := 544) 14 dL_law_32 ⟨by decide, by decide⟩ rfl rfl (fun _ => lc14 hP hM hL hn hk) (fun z14 => ?_)
  refine lo_ts1 (t := 567) 15 dL_law_32 ⟨by decide, by decide⟩ rfl rfl (fun _ => lc15 hP hM hL hn hk) (fun z15 => ?_)
  refine lo_ts1 (t := 580) 16 dL_law_32 ⟨by decide, by decide⟩ rfl rfl (fun _ => lc16 hP hM hL hn hk) (fun z16 => ?_)
  refine lo_ts1 (t := 593) 17 dL_law_32 ⟨by decide, by decide⟩ rfl rfl (fun _ => lc17 hP hM hL hn hk) (fun z17 => ?_)
  refine lo_ts1 (t := 606) 18 dL_law_32 ⟨by decide, by decide⟩ rfl rfl (fun _ => lc18 hP hM hL hn hk) (fun z18 => ?_)
  refine lo_ts1 (t := 629) 19 dL_law_32 ⟨by decide, by decide⟩ rfl rfl (fun _ => lc19 hP hM hL hn hk) (fun z19 => ?_)
  refine lo_ts1 (t := 652) 20 dL_law_32 ⟨by decide, by decide⟩ rfl rfl (fun _ => lc20 hP hM hL hn hk) (fun z20 => ?_)
  refine lo_ts1 (t := 705) 21 dL_law_32 ⟨by decide, by decide⟩ rfl rfl (fun _ => lc21 hP hM hL hn hk) (fun z21 => ?_)
  refine lo_ts1 (t := 728) 22 dL_law_32 ⟨by decide, by decide⟩ rfl rfl (fun _ => lc22 hP hM hL hn hk) (fun z22 => ?_)
  refine lo_ts1 (t := 761) 23 dL_law_32 ⟨by decide, by decide⟩ rfl rfl (fun _ => lc23 hP hM hL hn hk) (fun z23 => ?_)
  refine lo_ts1 (t := 794) 24 dL_law_32 ⟨by decide, by decide⟩ rfl rfl (fun _ => lc24 hP hM hL hn hk) (fun z24 => ?_)
  refine lo_ts1 (t := 807) 25 dL_law_32 ⟨by decide, by decide⟩ rfl rfl (fun _ => lc25 hP hM hL hn hk) (fun z25 => ?_)
  refine lo_ts1 (t := 820) 26 dL_law_32 ⟨by decide, by decide⟩ rfl rfl (fun _ => lc26 hP hM hL hn hk) (fun z26 => ?_)
  refine lo_ts1 (t := 853) 27 dL_law_32 ⟨by decide, by decide⟩ rfl rfl (fun _ => lc27 hP hM hL hn hk) (fun z27 => ?_)
  refine lo_ts1 (t := 866) 28 dL_law_32 ⟨by decide, by decide⟩ rfl rfl (fun _ => lc28 hP hM hL hn hk) (fun z28 => ?_)
  refine lo_ts1 (t := 879) 29 dL_law_32 ⟨by decide, by decide⟩ rfl rfl (fun _ => lc29 hP hM hL hn hk) (fun z29 => ?_)
  refine lo_ts1 (t := 912) 30 dL_law_32 ⟨by decide, by decide⟩ rfl rfl (fun _ => lc30 hP hM hL hn hk) (fun z30 => ?_)
  refine lo_ts1 (t := 925) 31 dL_law_32 ⟨by decide, by decide⟩ rfl rfl (fun _ => lc31 hP hM hL hn hk) (fun z31 => ?_)
  refine lo_ts1 (t := 958) 32 dL_law_32 ⟨by decide, by decide⟩ rfl rfl (fun _ => lc32 hP hM hL hn hk) (fun z32 => ?_)
  refine lo_ts1 (t := 991) 33 dL_law_32 ⟨by decide, by decide⟩ rfl rfl (fun _ => lc33 hP hM hL hn hk) (fun z33 => ?_)
  refine lo_ts1 (t := 1014) 34 dL_law_32 ⟨by decide, by decide⟩ rfl rfl (fun _ => lc34 hP hM hL hn hk) (fun z34 => ?_)
  refine lo_ts1 (t := 1047) 35 dL_law_32 ⟨by decide, by decide⟩ rfl rfl (fun _ => lc35 hP hM hL hn hk) (fun z35 => ?_)
  refine lo_ts1 (t := 1070) 36 dL_law_32 ⟨by decide, by decide⟩ rfl rfl (fun _ => lc36 hP hM hL hn hk) (fun z36 => ?_)
  refine lo_ts1 (t := 1083) 37 dL_law_32 ⟨by decide, by decide⟩ rfl rfl (fun _ => lc37 hP hM hL hn hk) (fun z37 => ?_)
  refine lo_ts1 (t := 1096) 38 dL_law_32 ⟨by decide, by decide⟩ rfl rfl (fun _ => lc38 hP hM hL hn hk) (fun z38 => ?_)
  refine lo_ts1 (t := 1109) 39 dL_law_32 ⟨by decide, by decide⟩ rfl rfl (fun _ => lc39 hP hM hL hn hk) (fun z39 => ?_)
  refine lo_ts1 (t := 1122) 40 dL_law_32 ⟨by decide, by decide⟩ rfl rfl (fun _ => lc40 hP hM hL hn hk) (fun z40 => ?_)
  exact lo_tsOut (t := 1136) dL_law_32 (by omega) rfl (hk _ _ hP hM)
theorem llp (hL : L ≤ 2560) : ∀ (f n : Nat) (w : Mem) (W : WA), L + 5 - n ≤ f → n ≤ L → PXW w W → PMW w W → Lo l D ck ad L xs 18 (lsL n) [] w := by
  intro f
  induction f with
  | zero => intro n w W hf hn; omega
  | succ f ih =>
    intro n w W hf hn hP hM
    refine lo_iload rfl rfl dL_law_18 rfl ?_
    refine lo_aload rfl rfl dL_law_19 rfl ?_
    refine lo_slen dL_law_20 rfl ?_
    refine lo_iconst dL_law_21 rfl ?_
    refine lo_isub dL_law_22 rfl ?_
    refine lo_gt (t := 1142) dL_law_23 rfl rfl (fun _ => ?_) (fun hc => ?_)
    · refine lo_iconst dL_law_1142 rfl ?_
      exact lo_ret dL_law_1143
    · rw [wr_of (by omega) (by omega), wr_of (by omega) (by omega)] at hc
      have hn5 : n + 5 ≤ L := by omega
      refine lo_aload rfl rfl dL_law_26 rfl ?_
      refine lo_iload rfl rfl dL_law_27 rfl ?_
      refine lo_sld (j := n) (wr_of (by omega) (by omega)) (by omega) dL_law_28 rfl ?_
      refine lo_bipush rfl dL_law_29 rfl ?_
      refine lo_iand dL_law_31 rfl ?_
      refine lsw hP hM hL hn5 (fun w1 W1 hP1 hM1 => ?_) _
      refine lo_iinc (x := (n : Int)) (ls2 := lsL (n + 5)) rfl (by decide) rfl rfl dL_law_1136 rfl ?_
      refine lo_goto (q := 18) dL_law_1139 rfl ?_
      exact ih (n + 5) w1 W1 (by omega) (by omega) hP1 hM1
end LAW
