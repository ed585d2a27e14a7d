/-! the cases of the law (made by lcases.py) -/
section ZLc
variable {g : zG} {l : Launch} {p : Program} {e : Env} {s : State} {m : MethodId} {args : Array Value} {below : List Frame} {meth : Method} {c : Code} {R : Room} {Z : State → Prop} {kb : Nat} {σ : zS} {b L : Nat} {xs : Nat → Int32} {i : Nat}
theorem dc_self {x : UInt64} {op : CmpOp} (h : vf_n64 x) : Op.cmpValue (FP.dcmp x x) op = 0 := by
  have h1 : FP.dIsNaN x = false := by
    cases hx : FP.dIsNaN x with
    | false => rfl
    | true =>
      exfalso
      have h2 := (Jvm.FP.Core.isNaN_bits x).mp hx
      unfold vf_n64 at h
      rw [UInt64.le_iff_toNat_le, Jvm.FP.Core.mask_toNat] at h
      have h3 : x.toNat % 2 ^ 63 ≤ 9218868437227405312 := h
      omega
  rw [show FP.dcmp x x = some .eq from Jvm.FP.Core.dcmp_refl h1]
  rfl
theorem st_L_feed : Cond.static yL_feed ∈ zT := zT_in 563 (by decide +kernel) (by decide +kernel)
theorem st_L_truncate : Cond.static yL_truncate ∈ zT := zT_in 642 (by decide +kernel) (by decide +kernel)
theorem st_L_readText : Cond.static yL_readText ∈ zT := zT_in 666 (by decide +kernel) (by decide +kernel)
theorem st_L_runScript : Cond.static yL_runScript ∈ zT := zT_in 846 (by decide +kernel) (by decide +kernel)
theorem st_L_setting : Cond.static yL_setting ∈ zT := zT_in 1005 (by decide +kernel) (by decide +kernel)
theorem st_L_slat : Cond.static yL_slat ∈ zT := zT_in 1025 (by decide +kernel) (by decide +kernel)
theorem st_L_slatAt : Cond.static yL_slatAt ∈ zT := zT_in 1055 (by decide +kernel) (by decide +kernel)
theorem st_L_picture : Cond.static yL_picture ∈ zT := zT_in 1070 (by decide +kernel) (by decide +kernel)
theorem st_L_face : Cond.static yL_face ∈ zT := zT_in 1084 (by decide +kernel) (by decide +kernel)
theorem st_L_seen : Cond.static yL_seen ∈ zT := zT_in 1092 (by decide +kernel) (by decide +kernel)
theorem st_L_why : Cond.static yL_why ∈ zT := zT_in 1107 (by decide +kernel) (by decide +kernel)
theorem st_L_right : Cond.static yL_right ∈ zT := zT_in 1122 (by decide +kernel) (by decide +kernel)
theorem st_L_open : Cond.static yL_open ∈ zT := zT_in 1129 (by decide +kernel) (by decide +kernel)
theorem st_L_covered : Cond.static yL_covered ∈ zT := zT_in 1136 (by decide +kernel) (by decide +kernel)
theorem st_L_whole : Cond.static yL_whole ∈ zT := zT_in 1143 (by decide +kernel) (by decide +kernel)
theorem st_L_firstWrong : Cond.static yL_firstWrong ∈ zT := zT_in 1150 (by decide +kernel) (by decide +kernel)
theorem st_L_shownFrom : Cond.static yL_shownFrom ∈ zT := zT_in 1161 (by decide +kernel) (by decide +kernel)
theorem st_L_seam : Cond.static yL_seam ∈ zT := zT_in 1169 (by decide +kernel) (by decide +kernel)
theorem st_L_run : Cond.static yL_run ∈ zT := zT_in 1177 (by decide +kernel) (by decide +kernel)
theorem st_L_worstSlat : Cond.static yL_worstSlat ∈ zT := zT_in 1188 (by decide +kernel) (by decide +kernel)
theorem st_L_ghosts : Cond.static yL_ghosts ∈ zT := zT_in 1199 (by decide +kernel) (by decide +kernel)
theorem st_L_light : Cond.static yL_light ∈ zT := zT_in 1212 (by decide +kernel) (by decide +kernel)
theorem st_L_bestTurn : Cond.static yL_bestTurn ∈ zT := zT_in 1219 (by decide +kernel) (by decide +kernel)
theorem st_L_bestPull : Cond.static yL_bestPull ∈ zT := zT_in 1231 (by decide +kernel) (by decide +kernel)
theorem st_L_dabs : Cond.static yL_dabs ∈ zT := zT_in 1243 (by decide +kernel) (by decide +kernel)
theorem st_L_turnsNeeded : Cond.static yL_turnsNeeded ∈ zT := zT_in 1250 (by decide +kernel) (by decide +kernel)
theorem st_L_fairest : Cond.static yL_fairest ∈ zT := zT_in 1262 (by decide +kernel) (by decide +kernel)
theorem st_L_pull : Cond.static yL_pull ∈ zT := zT_in 1269 (by decide +kernel) (by decide +kernel)
theorem st_L_turn : Cond.static yL_turn ∈ zT := zT_in 1276 (by decide +kernel) (by decide +kernel)
theorem st_L_tie : Cond.static yL_tie ∈ zT := zT_in 1283 (by decide +kernel) (by decide +kernel)
theorem st_L_paint : Cond.static yL_paint ∈ zT := zT_in 1290 (by decide +kernel) (by decide +kernel)
theorem st_L_dab : Cond.static yL_dab ∈ zT := zT_in 1297 (by decide +kernel) (by decide +kernel)
theorem st_L_swap : Cond.static yL_swap ∈ zT := zT_in 1304 (by decide +kernel) (by decide +kernel)
theorem st_L_spot : Cond.static yL_spot ∈ zT := zT_in 1311 (by decide +kernel) (by decide +kernel)
theorem st_L_report : Cond.static yL_report ∈ zT := zT_in 1327 (by decide +kernel) (by decide +kernel)
theorem st_L_reportByte : Cond.static yL_reportByte ∈ zT := zT_in 1341 (by decide +kernel) (by decide +kernel)
theorem st_L_restore : Cond.static yL_restore ∈ zT := zT_in 1349 (by decide +kernel) (by decide +kernel)
theorem w_feed (C : LX g l p s m args meth c R b L xs) (hi : i + 6 ≤ L) (hJ : JI σ) (kn : ∀ υ, JI υ → LJ g l p e s m args below meth c R Z kb 3231 (lb g b i) [] υ) : LJ g l p e s m args below meth c R Z (kb + 2) 248 (lb g b i) [] σ := by
  refine l_aload_n C dL_law_248 rfl 1 rfl ?_
  refine l_arg C (i := i) (j := 1) 0 5 rfl rfl rfl (by omega) dL_law_249 dL_law_250 dL_law_252 dL_law_253 dL_law_254 ?_
  refine l_arg C (i := i) (j := 2) 0 5 rfl rfl rfl (by omega) dL_law_255 dL_law_256 dL_law_258 dL_law_259 dL_law_260 ?_
  refine l_arg C (i := i) (j := 3) 0 5 rfl rfl rfl (by omega) dL_law_261 dL_law_262 dL_law_264 dL_law_265 dL_law_266 ?_
  refine l_arg C (i := i) (j := 4) 0 5 rfl rfl rfl (by omega) dL_law_267 dL_law_268 dL_law_270 dL_law_271 dL_law_272 ?_
  refine l_arg C (i := i) (j := 5) 0 5 rfl rfl rfl (by omega) dL_law_273 dL_law_274 dL_law_276 dL_law_277 dL_law_278 ?_
  refine l_aload_n C dL_law_279 rfl 3 rfl ?_
  refine l_callSW C (N := M_L_feed) (n := 7) (j1 := 1) (j2 := kb) (av := [.ref (zad g 0), .int (xs (i + 1)), .int (xs (i + 2)), .int (xs (i + 3)), .int (xs (i + 4)), .int (xs (i + 5)), .ref (zad g 41)]) (rest := []) rfl (p_feed hJ) i_L_feed rfl st_L_feed q_L_143 (by decide) (by omega) (Nat.le_of_ble_eq_true rfl) dL_law_280 (fun _ _ h => h) (fun v τ hk => ?_)
  obtain ⟨k, rfl, hk⟩ := zQi_inl hk
  refine l_istore C (ls' := (6, .int k) :: lb g b i) dL_law_283 (by decide) rfl ?_
  refine l_aload_n C dL_law_285 rfl 3 rfl ?_
  refine l_arg C (i := i) (j := 1) 1 6 rfl rfl rfl (by omega) dL_law_286 dL_law_287 dL_law_289 dL_law_290 dL_law_291 ?_
  refine l_arg C (i := i) (j := 2) 1 6 rfl rfl rfl (by omega) dL_law_292 dL_law_293 dL_law_295 dL_law_296 dL_law_297 ?_
  refine l_arg C (i := i) (j := 3) 1 6 rfl rfl rfl (by omega) dL_law_298 dL_law_299 dL_law_301 dL_law_302 dL_law_303 ?_
  refine l_arg C (i := i) (j := 4) 1 6 rfl rfl rfl (by omega) dL_law_304 dL_law_305 dL_law_307 dL_law_308 dL_law_309 ?_
  refine l_arg C (i := i) (j := 5) 1 6 rfl rfl rfl (by omega) dL_law_310 dL_law_311 dL_law_313 dL_law_314 dL_law_315 ?_
  refine l_callV C (N := M_X7_feed) (n := 5) (j1 := 0) (j2 := kb) (av := [.int (xs (i + 1)), .int (xs (i + 2)), .int (xs (i + 3)), .int (xs (i + 4)), .int (xs (i + 5))]) (rest := []) (o := 24) rfl rfl (Nat.le_of_ble_eq_true rfl) rfl rfl hk i_X7_feed rfl n_X7_feed v_X7_feed q_L_148 (by decide) (by omega) (Nat.le_of_ble_eq_true rfl) dL_law_316 (fun _ _ h => h) (fun w υ hb => ?_)
  obtain ⟨x, rfl, hb⟩ := zQi_inl hb
  refine l_istore C (ls' := (7, .int x) :: (6, .int k) :: lb g b i) dL_law_319 (by decide) rfl ?_
  exact l_tail C hb dL_law_321 dL_law_322 dL_law_325 dL_law_327 dL_law_332 dL_law_334 dL_law_337 dL_law_338 dL_law_339 dL_law_340 dL_law_342 dL_law_343 dL_law_344 dL_law_349 (by decide) kn
theorem w_truncate (C : LX g l p s m args meth c R b L xs) (hi : i + 6 ≤ L) (hJ : JI σ) (kn : ∀ υ, JI υ → LJ g l p e s m args below meth c R Z kb 3231 (lb g b i) [] υ) : LJ g l p e s m args below meth c R Z (kb + 2) 352 (lb g b i) [] σ := by
  refine l_aload_n C dL_law_352 rfl 1 rfl ?_
  refine l_arg C (i := i) (j := 1) 0 5 rfl rfl rfl (by omega) dL_law_353 dL_law_354 dL_law_356 dL_law_357 dL_law_358 ?_
  refine l_aload_n C dL_law_359 rfl 3 rfl ?_
  refine l_callSW C (N := M_L_truncate) (n := 3) (j1 := 1) (j2 := kb) (av := [.ref (zad g 0), .int (xs (i + 1)), .ref (zad g 41)]) (rest := []) rfl (p_truncate hJ) i_L_truncate rfl st_L_truncate q_L_152 (by decide) (by omega) (Nat.le_of_ble_eq_true rfl) dL_law_360 (fun _ _ h => h) (fun v τ hk => ?_)
  obtain ⟨k, rfl, hk⟩ := zQi_inl hk
  refine l_istore C (ls' := (6, .int k) :: lb g b i) dL_law_363 (by decide) rfl ?_
  refine l_aload_n C dL_law_365 rfl 3 rfl ?_
  refine l_arg C (i := i) (j := 1) 1 6 rfl rfl rfl (by omega) dL_law_366 dL_law_367 dL_law_369 dL_law_370 dL_law_371 ?_
  refine l_callV C (N := M_X7_truncate) (n := 1) (j1 := 0) (j2 := kb) (av := [.int (xs (i + 1))]) (rest := []) (o := 24) rfl rfl (Nat.le_of_ble_eq_true rfl) rfl rfl hk i_X7_truncate rfl n_X7_truncate v_X7_truncate q_L_155 (by decide) (by omega) (Nat.le_of_ble_eq_true rfl) dL_law_372 (fun _ _ h => h) (fun w υ hb => ?_)
  obtain ⟨x, rfl, hb⟩ := zQi_inl hb
  refine l_istore C (ls' := (7, .int x) :: (6, .int k) :: lb g b i) dL_law_375 (by decide) rfl ?_
  exact l_tail C hb dL_law_377 dL_law_378 dL_law_381 dL_law_383 dL_law_388 dL_law_390 dL_law_393 dL_law_394 dL_law_395 dL_law_396 dL_law_398 dL_law_399 dL_law_400 dL_law_405 (by decide) kn
theorem w_readText (C : LX g l p s m args meth c R b L xs) (hi : i + 6 ≤ L) (hJ : JI σ) (kn : ∀ υ, JI υ → LJ g l p e s m args below meth c R Z kb 3231 (lb g b i) [] υ) : LJ g l p e s m args below meth c R Z (kb + 2) 408 (lb g b i) [] σ := by
  refine l_aload_n C dL_law_408 rfl 1 rfl ?_
  refine l_aload_n C dL_law_409 rfl 3 rfl ?_
  refine l_callSW C (N := M_L_readText) (n := 2) (j1 := 1) (j2 := kb) (av := [.ref (zad g 0), .ref (zad g 41)]) (rest := []) rfl (p_readText hJ) i_L_readText rfl st_L_readText q_L_156 (by decide) (by omega) (Nat.le_of_ble_eq_true rfl) dL_law_410 (fun _ _ h => h) (fun v τ hk => ?_)
  obtain ⟨k, rfl, hk⟩ := zQi_inl hk
  refine l_istore C (ls' := (6, .int k) :: lb g b i) dL_law_413 (by decide) rfl ?_
  refine l_aload_n C dL_law_415 rfl 3 rfl ?_
  refine l_callV C (N := M_X7_readText) (n := 0) (j1 := 0) (j2 := kb) (av := []) (rest := []) (o := 24) rfl rfl (Nat.le_of_ble_eq_true rfl) rfl rfl hk i_X7_readText rfl n_X7_readText v_X7_readText q_L_159 (by decide) (by omega) (Nat.le_of_ble_eq_true rfl) dL_law_416 (fun _ _ h => h) (fun w υ hb => ?_)
  obtain ⟨x, rfl, hb⟩ := zQi_inl hb
  refine l_istore C (ls' := (7, .int x) :: (6, .int k) :: lb g b i) dL_law_419 (by decide) rfl ?_
  exact l_tail C hb dL_law_421 dL_law_422 dL_law_425 dL_law_427 dL_law_432 dL_law_434 dL_law_437 dL_law_438 dL_law_439 dL_law_440 dL_law_442 dL_law_443 dL_law_444 dL_law_449 (by decide) kn
theorem w_runScript (C : LX g l p s m args meth c R b L xs) (hi : i + 6 ≤ L) (hJ : JI σ) (kn : ∀ υ, JI υ → LJ g l p e s m args below meth c R Z kb 3231 (lb g b i) [] υ) : LJ g l p e s m args below meth c R Z (kb + 2) 452 (lb g b i) [] σ := by
  refine l_aload_n C dL_law_452 rfl 1 rfl ?_
  refine l_aload_n C dL_law_453 rfl 3 rfl ?_
  refine l_callSW C (N := M_L_runScript) (n := 2) (j1 := 1) (j2 := kb) (av := [.ref (zad g 0), .ref (zad g 41)]) (rest := []) rfl (p_runScript hJ) i_L_runScript rfl st_L_runScript q_L_160 (by decide) (by omega) (Nat.le_of_ble_eq_true rfl) dL_law_454 (fun _ _ h => h) (fun v τ hk => ?_)
  obtain ⟨k, rfl, hk⟩ := zQi_inl hk
  refine l_istore C (ls' := (6, .int k) :: lb g b i) dL_law_457 (by decide) rfl ?_
  refine l_aload_n C dL_law_459 rfl 3 rfl ?_
  refine l_callV C (N := M_X7_runScript) (n := 0) (j1 := 0) (j2 := kb) (av := []) (rest := []) (o := 24) rfl rfl (Nat.le_of_ble_eq_true rfl) rfl rfl hk i_X7_runScript rfl n_X7_runScript v_X7_runScript q_L_162 (by decide) (by omega) (Nat.le_of_ble_eq_true rfl) dL_law_460 (fun _ _ h => h) (fun w υ hb => ?_)
  obtain ⟨x, rfl, hb⟩ := zQi_inl hb
  refine l_istore C (ls' := (7, .int x) :: (6, .int k) :: lb g b i) dL_law_463 (by decide) rfl ?_
  exact l_tail C hb dL_law_465 dL_law_466 dL_law_469 dL_law_471 dL_law_476 dL_law_478 dL_law_481 dL_law_482 dL_law_483 dL_law_484 dL_law_486 dL_law_487 dL_law_488 dL_law_493 (by decide) kn
theorem w_errorCode (C : LX g l p s m args meth c R b L xs) (hi : i + 6 ≤ L) (hJ : JI σ) (kn : ∀ υ, JI υ → LJ g l p e s m args below meth c R Z kb 3231 (lb g b i) [] υ) : LJ g l p e s m args below meth c R Z (kb + 2) 496 (lb g b i) [] σ := by
  refine l_aload_n C dL_law_496 rfl 1 rfl ?_
  refine l_callV C (N := M_X6_errorCode) (n := 0) (j1 := 0) (j2 := kb) (av := []) (rest := []) (o := 0) rfl rfl (Nat.le_of_ble_eq_true rfl) rfl rfl (p_errorCode hJ) i_X6_errorCode rfl n_X6_errorCode v_X6_errorCode q_L_163 (by decide) (by omega) (Nat.le_of_ble_eq_true rfl) dL_law_497 (fun _ _ h => h) (fun v τ hk => ?_)
  obtain ⟨v, rfl, hk⟩ := zQi_inl hk
  refine l_aload_n C dL_law_500 rfl 2 rfl ?_
  refine l_callV C (N := M_X7_errorCode) (n := 0) (j1 := 0) (j2 := kb) (av := []) (rest := [.int v]) (o := 24) rfl rfl (Nat.le_of_ble_eq_true rfl) rfl rfl hk i_X7_errorCode rfl n_X7_errorCode v_X7_errorCode q_L_166 (by decide) (by omega) (Nat.le_of_ble_eq_true rfl) dL_law_501 (fun _ _ h => h) (fun w υ hb => ?_)
  obtain ⟨x, rfl, hJ2, rfl⟩ := zQi_inl hb
  exact l_icmp_eq C (tgt := 3231) dL_law_504 (by decide) (fun _ => kn υ hJ2) (fun q => absurd rfl q)
theorem w_errorPosition (C : LX g l p s m args meth c R b L xs) (hi : i + 6 ≤ L) (hJ : JI σ) (kn : ∀ υ, JI υ → LJ g l p e s m args below meth c R Z kb 3231 (lb g b i) [] υ) : LJ g l p e s m args below meth c R Z (kb + 2) 509 (lb g b i) [] σ := by
  refine l_aload_n C dL_law_509 rfl 1 rfl ?_
  refine l_callV C (N := M_X6_errorPosition) (n := 0) (j1 := 0) (j2 := kb) (av := []) (rest := []) (o := 0) rfl rfl (Nat.le_of_ble_eq_true rfl) rfl rfl (p_errorPosition hJ) i_X6_errorPosition rfl n_X6_errorPosition v_X6_errorPosition q_L_167 (by decide) (by omega) (Nat.le_of_ble_eq_true rfl) dL_law_510 (fun _ _ h => h) (fun v τ hk => ?_)
  obtain ⟨v, rfl, hk⟩ := zQi_inl hk
  refine l_aload_n C dL_law_513 rfl 2 rfl ?_
  refine l_callV C (N := M_X7_errorPosition) (n := 0) (j1 := 0) (j2 := kb) (av := []) (rest := [.int v]) (o := 24) rfl rfl (Nat.le_of_ble_eq_true rfl) rfl rfl hk i_X7_errorPosition rfl n_X7_errorPosition v_X7_errorPosition q_L_170 (by decide) (by omega) (Nat.le_of_ble_eq_true rfl) dL_law_514 (fun _ _ h => h) (fun w υ hb => ?_)
  obtain ⟨x, rfl, hJ2, rfl⟩ := zQi_inl hb
  exact l_icmp_eq C (tgt := 3231) dL_law_517 (by decide) (fun _ => kn υ hJ2) (fun q => absurd rfl q)
theorem w_setting (C : LX g l p s m args meth c R b L xs) (hi : i + 6 ≤ L) (hJ : JI σ) (kn : ∀ υ, JI υ → LJ g l p e s m args below meth c R Z kb 3231 (lb g b i) [] υ) : LJ g l p e s m args below meth c R Z (kb + 2) 522 (lb g b i) [] σ := by
  refine l_aload_n C dL_law_522 rfl 1 rfl ?_
  refine l_arg C (i := i) (j := 1) 0 5 rfl rfl rfl (by omega) dL_law_523 dL_law_524 dL_law_526 dL_law_527 dL_law_528 ?_
  refine l_aload_n C dL_law_529 rfl 3 rfl ?_
  refine l_callSW C (N := M_L_setting) (n := 3) (j1 := 1) (j2 := kb) (av := [.ref (zad g 0), .int (xs (i + 1)), .ref (zad g 41)]) (rest := []) rfl (p_setting hJ) i_L_setting rfl st_L_setting q_L_171 (by decide) (by omega) (Nat.le_of_ble_eq_true rfl) dL_law_530 (fun _ _ h => h) (fun v τ hk => ?_)
  obtain ⟨k, rfl, hk⟩ := zQi_inl hk
  refine l_istore C (ls' := (6, .int k) :: lb g b i) dL_law_533 (by decide) rfl ?_
  refine l_aload_n C dL_law_535 rfl 3 rfl ?_
  refine l_arg C (i := i) (j := 1) 1 6 rfl rfl rfl (by omega) dL_law_536 dL_law_537 dL_law_539 dL_law_540 dL_law_541 ?_
  refine l_callV C (N := M_X7_setting) (n := 1) (j1 := 0) (j2 := kb) (av := [.int (xs (i + 1))]) (rest := []) (o := 24) rfl rfl (Nat.le_of_ble_eq_true rfl) rfl rfl hk i_X7_setting rfl n_X7_setting v_X7_setting q_L_173 (by decide) (by omega) (Nat.le_of_ble_eq_true rfl) dL_law_542 (fun _ _ h => h) (fun w υ hb => ?_)
  obtain ⟨x, rfl, hb⟩ := zQi_inl hb
  refine l_istore C (ls' := (7, .int x) :: (6, .int k) :: lb g b i) dL_law_545 (by decide) rfl ?_
  exact l_tail C hb dL_law_547 dL_law_548 dL_law_551 dL_law_553 dL_law_558 dL_law_560 dL_law_563 dL_law_564 dL_law_565 dL_law_566 dL_law_568 dL_law_569 dL_law_570 dL_law_575 (by decide) kn
theorem w_slat (C : LX g l p s m args meth c R b L xs) (hi : i + 6 ≤ L) (hJ : JI σ) (kn : ∀ υ, JI υ → LJ g l p e s m args below meth c R Z kb 3231 (lb g b i) [] υ) : LJ g l p e s m args below meth c R Z (kb + 2) 578 (lb g b i) [] σ := by
  refine l_aload_n C dL_law_578 rfl 1 rfl ?_
  refine l_arg C (i := i) (j := 1) 0 5 rfl rfl rfl (by omega) dL_law_579 dL_law_580 dL_law_582 dL_law_583 dL_law_584 ?_
  refine l_arg C (i := i) (j := 2) 0 5 rfl rfl rfl (by omega) dL_law_585 dL_law_586 dL_law_588 dL_law_589 dL_law_590 ?_
  refine l_aload_n C dL_law_591 rfl 3 rfl ?_
  refine l_callSW C (N := M_L_slat) (n := 4) (j1 := 2) (j2 := kb) (av := [.ref (zad g 0), .int (xs (i + 1)), .int (xs (i + 2)), .ref (zad g 41)]) (rest := []) rfl (p_slat hJ) i_L_slat rfl st_L_slat q_L_174 (by decide) (by omega) (Nat.le_of_ble_eq_true rfl) dL_law_592 (fun _ _ h => h) (fun v τ hk => ?_)
  obtain ⟨k, rfl, hk⟩ := zQi_inl hk
  refine l_istore C (ls' := (6, .int k) :: lb g b i) dL_law_595 (by decide) rfl ?_
  refine l_aload_n C dL_law_597 rfl 3 rfl ?_
  refine l_arg C (i := i) (j := 1) 1 6 rfl rfl rfl (by omega) dL_law_598 dL_law_599 dL_law_601 dL_law_602 dL_law_603 ?_
  refine l_arg C (i := i) (j := 2) 1 6 rfl rfl rfl (by omega) dL_law_604 dL_law_605 dL_law_607 dL_law_608 dL_law_609 ?_
  refine l_callV C (N := M_X7_slat) (n := 2) (j1 := 0) (j2 := kb) (av := [.int (xs (i + 1)), .int (xs (i + 2))]) (rest := []) (o := 24) rfl rfl (Nat.le_of_ble_eq_true rfl) rfl rfl hk i_X7_slat rfl n_X7_slat v_X7_slat q_L_177 (by decide) (by omega) (Nat.le_of_ble_eq_true rfl) dL_law_610 (fun _ _ h => h) (fun w υ hb => ?_)
  obtain ⟨x, rfl, hb⟩ := zQi_inl hb
  refine l_istore C (ls' := (7, .int x) :: (6, .int k) :: lb g b i) dL_law_613 (by decide) rfl ?_
  exact l_tail C hb dL_law_615 dL_law_616 dL_law_619 dL_law_621 dL_law_626 dL_law_628 dL_law_631 dL_law_632 dL_law_633 dL_law_634 dL_law_636 dL_law_637 dL_law_638 dL_law_643 (by decide) kn
theorem w_slatAt (C : LX g l p s m args meth c R b L xs) (hi : i + 6 ≤ L) (hJ : JI σ) (kn : ∀ υ, JI υ → LJ g l p e s m args below meth c R Z kb 3231 (lb g b i) [] υ) : LJ g l p e s m args below meth c R Z (kb + 2) 646 (lb g b i) [] σ := by
  refine l_aload_n C dL_law_646 rfl 1 rfl ?_
  refine l_arg C (i := i) (j := 1) 0 5 rfl rfl rfl (by omega) dL_law_647 dL_law_648 dL_law_650 dL_law_651 dL_law_652 ?_
  refine l_aload_n C dL_law_653 rfl 3 rfl ?_
  refine l_callSW C (N := M_L_slatAt) (n := 3) (j1 := 1) (j2 := kb) (av := [.ref (zad g 0), .int (xs (i + 1)), .ref (zad g 41)]) (rest := []) rfl (p_slatAt hJ) i_L_slatAt rfl st_L_slatAt q_L_178 (by decide) (by omega) (Nat.le_of_ble_eq_true rfl) dL_law_654 (fun _ _ h => h) (fun v τ hk => ?_)
  obtain ⟨k, rfl, hk⟩ := zQi_inl hk
  refine l_istore C (ls' := (6, .int k) :: lb g b i) dL_law_657 (by decide) rfl ?_
  refine l_aload_n C dL_law_659 rfl 3 rfl ?_
  refine l_arg C (i := i) (j := 1) 1 6 rfl rfl rfl (by omega) dL_law_660 dL_law_661 dL_law_663 dL_law_664 dL_law_665 ?_
  refine l_callV C (N := M_X7_slatAt) (n := 1) (j1 := 0) (j2 := kb) (av := [.int (xs (i + 1))]) (rest := []) (o := 24) rfl rfl (Nat.le_of_ble_eq_true rfl) rfl rfl hk i_X7_slatAt rfl n_X7_slatAt v_X7_slatAt q_L_180 (by decide) (by omega) (Nat.le_of_ble_eq_true rfl) dL_law_666 (fun _ _ h => h) (fun w υ hb => ?_)
  obtain ⟨x, rfl, hb⟩ := zQi_inl hb
  refine l_istore C (ls' := (7, .int x) :: (6, .int k) :: lb g b i) dL_law_669 (by decide) rfl ?_
  exact l_tail C hb dL_law_671 dL_law_672 dL_law_675 dL_law_677 dL_law_682 dL_law_684 dL_law_687 dL_law_688 dL_law_689 dL_law_690 dL_law_692 dL_law_693 dL_law_694 dL_law_699 (by decide) kn
theorem w_picture (C : LX g l p s m args meth c R b L xs) (hi : i + 6 ≤ L) (hJ : JI σ) (kn : ∀ υ, JI υ → LJ g l p e s m args below meth c R Z kb 3231 (lb g b i) [] υ) : LJ g l p e s m args below meth c R Z (kb + 2) 702 (lb g b i) [] σ := by
  refine l_aload_n C dL_law_702 rfl 1 rfl ?_
  refine l_arg C (i := i) (j := 1) 0 5 rfl rfl rfl (by omega) dL_law_703 dL_law_704 dL_law_706 dL_law_707 dL_law_708 ?_
  refine l_bool C dL_law_709 dL_law_712 dL_law_713 dL_law_716 ?_
  refine l_arg C (i := i) (j := 2) 0 5 rfl rfl rfl (by omega) dL_law_717 dL_law_718 dL_law_720 dL_law_721 dL_law_722 ?_
  refine l_arg C (i := i) (j := 3) 0 5 rfl rfl rfl (by omega) dL_law_723 dL_law_724 dL_law_726 dL_law_727 dL_law_728 ?_
  refine l_aload_n C dL_law_729 rfl 3 rfl ?_
  refine l_callSW C (N := M_L_picture) (n := 5) (j1 := 1) (j2 := kb) (av := [.ref (zad g 0), .int (iI (tb (xs (i + 1)))), .int (xs (i + 2)), .int (xs (i + 3)), .ref (zad g 41)]) (rest := []) rfl (p_picture hJ (tb_lt _)) i_L_picture rfl st_L_picture q_L_181 (by decide) (by omega) (Nat.le_of_ble_eq_true rfl) dL_law_730 (fun _ _ h => h) (fun v τ hk => ?_)
  obtain ⟨k, rfl, hk⟩ := zQi_inl hk
  refine l_istore C (ls' := (6, .int k) :: lb g b i) dL_law_733 (by decide) rfl ?_
  refine l_aload_n C dL_law_735 rfl 3 rfl ?_
  refine l_arg C (i := i) (j := 1) 1 6 rfl rfl rfl (by omega) dL_law_736 dL_law_737 dL_law_739 dL_law_740 dL_law_741 ?_
  refine l_bool C dL_law_742 dL_law_745 dL_law_746 dL_law_749 ?_
  refine l_arg C (i := i) (j := 2) 1 6 rfl rfl rfl (by omega) dL_law_750 dL_law_751 dL_law_753 dL_law_754 dL_law_755 ?_
  refine l_arg C (i := i) (j := 3) 1 6 rfl rfl rfl (by omega) dL_law_756 dL_law_757 dL_law_759 dL_law_760 dL_law_761 ?_
  refine l_callV C (N := M_X7_picture) (n := 3) (j1 := 0) (j2 := kb) (av := [.int (iI (tb (xs (i + 1)))), .int (xs (i + 2)), .int (xs (i + 3))]) (rest := []) (o := 24) rfl rfl (Nat.le_of_ble_eq_true rfl) rfl rfl hk i_X7_picture rfl n_X7_picture v_X7_picture q_L_184 (by decide) (by omega) (Nat.le_of_ble_eq_true rfl) dL_law_762 (fun _ _ h => h) (fun w υ hb => ?_)
  obtain ⟨x, rfl, hb⟩ := zQi_inl hb
  refine l_istore C (ls' := (7, .int x) :: (6, .int k) :: lb g b i) dL_law_765 (by decide) rfl ?_
  exact l_tail C hb dL_law_767 dL_law_768 dL_law_771 dL_law_773 dL_law_778 dL_law_780 dL_law_783 dL_law_784 dL_law_785 dL_law_786 dL_law_788 dL_law_789 dL_law_790 dL_law_795 (by decide) kn
theorem w_face (C : LX g l p s m args meth c R b L xs) (hi : i + 6 ≤ L) (hJ : JI σ) (kn : ∀ υ, JI υ → LJ g l p e s m args below meth c R Z kb 3231 (lb g b i) [] υ) : LJ g l p e s m args below meth c R Z (kb + 2) 798 (lb g b i) [] σ := by
  refine l_aload_n C dL_law_798 rfl 1 rfl ?_
  refine l_arg C (i := i) (j := 1) 0 5 rfl rfl rfl (by omega) dL_law_799 dL_law_800 dL_law_802 dL_law_803 dL_law_804 ?_
  refine l_arg C (i := i) (j := 2) 0 5 rfl rfl rfl (by omega) dL_law_805 dL_law_806 dL_law_808 dL_law_809 dL_law_810 ?_
  refine l_bool C dL_law_811 dL_law_814 dL_law_815 dL_law_818 ?_
  refine l_arg C (i := i) (j := 3) 0 5 rfl rfl rfl (by omega) dL_law_819 dL_law_820 dL_law_822 dL_law_823 dL_law_824 ?_
  refine l_arg C (i := i) (j := 4) 0 5 rfl rfl rfl (by omega) dL_law_825 dL_law_826 dL_law_828 dL_law_829 dL_law_830 ?_
  refine l_aload_n C dL_law_831 rfl 3 rfl ?_
  refine l_callSW C (N := M_L_face) (n := 6) (j1 := 1) (j2 := kb) (av := [.ref (zad g 0), .int (xs (i + 1)), .int (iI (tb (xs (i + 2)))), .int (xs (i + 3)), .int (xs (i + 4)), .ref (zad g 41)]) (rest := []) rfl (p_face hJ (tb_lt _)) i_L_face rfl st_L_face q_L_185 (by decide) (by omega) (Nat.le_of_ble_eq_true rfl) dL_law_832 (fun _ _ h => h) (fun v τ hk => ?_)
  obtain ⟨k, rfl, hk⟩ := zQi_inl hk
  refine l_istore C (ls' := (6, .int k) :: lb g b i) dL_law_835 (by decide) rfl ?_
  refine l_aload_n C dL_law_837 rfl 3 rfl ?_
  refine l_arg C (i := i) (j := 1) 1 6 rfl rfl rfl (by omega) dL_law_838 dL_law_839 dL_law_841 dL_law_842 dL_law_843 ?_
  refine l_arg C (i := i) (j := 2) 1 6 rfl rfl rfl (by omega) dL_law_844 dL_law_845 dL_law_847 dL_law_848 dL_law_849 ?_
  refine l_bool C dL_law_850 dL_law_853 dL_law_854 dL_law_857 ?_
  refine l_arg C (i := i) (j := 3) 1 6 rfl rfl rfl (by omega) dL_law_858 dL_law_859 dL_law_861 dL_law_862 dL_law_863 ?_
  refine l_arg C (i := i) (j := 4) 1 6 rfl rfl rfl (by omega) dL_law_864 dL_law_865 dL_law_867 dL_law_868 dL_law_869 ?_
  refine l_callV C (N := M_X7_face) (n := 4) (j1 := 0) (j2 := kb) (av := [.int (xs (i + 1)), .int (iI (tb (xs (i + 2)))), .int (xs (i + 3)), .int (xs (i + 4))]) (rest := []) (o := 24) rfl rfl (Nat.le_of_ble_eq_true rfl) rfl rfl hk i_X7_face rfl n_X7_face v_X7_face q_L_188 (by decide) (by omega) (Nat.le_of_ble_eq_true rfl) dL_law_870 (fun _ _ h => h) (fun w υ hb => ?_)
  obtain ⟨x, rfl, hb⟩ := zQi_inl hb
  refine l_istore C (ls' := (7, .int x) :: (6, .int k) :: lb g b i) dL_law_873 (by decide) rfl ?_
  exact l_tail C hb dL_law_875 dL_law_876 dL_law_879 dL_law_881 dL_law_886 dL_law_888 dL_law_891 dL_law_892 dL_law_893 dL_law_894 dL_law_896 dL_law_897 dL_law_898 dL_law_903 (by decide) kn
theorem w_common (C : LX g l p s m args meth c R b L xs) (hi : i + 6 ≤ L) (hJ : JI σ) (kn : ∀ υ, JI υ → LJ g l p e s m args below meth c R Z kb 3231 (lb g b i) [] υ) : LJ g l p e s m args below meth c R Z (kb + 2) 906 (lb g b i) [] σ := by
  refine l_aload_n C dL_law_906 rfl 1 rfl ?_
  refine l_callV C (N := M_X6_common) (n := 0) (j1 := 0) (j2 := kb) (av := []) (rest := []) (o := 0) rfl rfl (Nat.le_of_ble_eq_true rfl) rfl rfl (p_common hJ) i_X6_common rfl n_X6_common v_X6_common q_L_189 (by decide) (by omega) (Nat.le_of_ble_eq_true rfl) dL_law_907 (fun _ _ h => h) (fun v τ hk => ?_)
  obtain ⟨v, rfl, hk⟩ := zQi_inl hk
  refine l_aload_n C dL_law_910 rfl 2 rfl ?_
  refine l_callV C (N := M_X7_common) (n := 0) (j1 := 0) (j2 := kb) (av := []) (rest := [.int v]) (o := 24) rfl rfl (Nat.le_of_ble_eq_true rfl) rfl rfl hk i_X7_common rfl n_X7_common v_X7_common q_L_192 (by decide) (by omega) (Nat.le_of_ble_eq_true rfl) dL_law_911 (fun _ _ h => h) (fun w υ hb => ?_)
  obtain ⟨x, rfl, hJ2, rfl⟩ := zQi_inl hb
  exact l_icmp_eq C (tgt := 3231) dL_law_914 (by decide) (fun _ => kn υ hJ2) (fun q => absurd rfl q)
theorem w_seen (C : LX g l p s m args meth c R b L xs) (hi : i + 6 ≤ L) (hJ : JI σ) (kn : ∀ υ, JI υ → LJ g l p e s m args below meth c R Z kb 3231 (lb g b i) [] υ) : LJ g l p e s m args below meth c R Z (kb + 2) 919 (lb g b i) [] σ := by
  refine l_aload_n C dL_law_919 rfl 1 rfl ?_
  refine l_arg C (i := i) (j := 1) 0 5 rfl rfl rfl (by omega) dL_law_920 dL_law_921 dL_law_923 dL_law_924 dL_law_925 ?_
  refine l_arg C (i := i) (j := 2) 0 5 rfl rfl rfl (by omega) dL_law_926 dL_law_927 dL_law_929 dL_law_930 dL_law_931 ?_
  refine l_arg C (i := i) (j := 3) 0 5 rfl rfl rfl (by omega) dL_law_932 dL_law_933 dL_law_935 dL_law_936 dL_law_937 ?_
  refine l_aload_n C dL_law_938 rfl 3 rfl ?_
  refine l_callSW C (N := M_L_seen) (n := 5) (j1 := 1) (j2 := kb) (av := [.ref (zad g 0), .int (xs (i + 1)), .int (xs (i + 2)), .int (xs (i + 3)), .ref (zad g 41)]) (rest := []) rfl (p_seen hJ) i_L_seen rfl st_L_seen q_L_193 (by decide) (by omega) (Nat.le_of_ble_eq_true rfl) dL_law_939 (fun _ _ h => h) (fun v τ hk => ?_)
  obtain ⟨k, rfl, hk⟩ := zQi_inl hk
  refine l_istore C (ls' := (6, .int k) :: lb g b i) dL_law_942 (by decide) rfl ?_
  refine l_aload_n C dL_law_944 rfl 3 rfl ?_
  refine l_arg C (i := i) (j := 1) 1 6 rfl rfl rfl (by omega) dL_law_945 dL_law_946 dL_law_948 dL_law_949 dL_law_950 ?_
  refine l_arg C (i := i) (j := 2) 1 6 rfl rfl rfl (by omega) dL_law_951 dL_law_952 dL_law_954 dL_law_955 dL_law_956 ?_
  refine l_arg C (i := i) (j := 3) 1 6 rfl rfl rfl (by omega) dL_law_957 dL_law_958 dL_law_960 dL_law_961 dL_law_962 ?_
  refine l_callV C (N := M_X7_seen) (n := 3) (j1 := 0) (j2 := kb) (av := [.int (xs (i + 1)), .int (xs (i + 2)), .int (xs (i + 3))]) (rest := []) (o := 24) rfl rfl (Nat.le_of_ble_eq_true rfl) rfl rfl hk i_X7_seen rfl n_X7_seen v_X7_seen q_L_196 (by decide) (by omega) (Nat.le_of_ble_eq_true rfl) dL_law_963 (fun _ _ h => h) (fun w υ hb => ?_)
  obtain ⟨x, rfl, hb⟩ := zQi_inl hb
  refine l_istore C (ls' := (7, .int x) :: (6, .int k) :: lb g b i) dL_law_966 (by decide) rfl ?_
  exact l_tail C hb dL_law_968 dL_law_969 dL_law_972 dL_law_974 dL_law_979 dL_law_981 dL_law_984 dL_law_985 dL_law_986 dL_law_987 dL_law_989 dL_law_990 dL_law_991 dL_law_996 (by decide) kn
theorem w_why (C : LX g l p s m args meth c R b L xs) (hi : i + 6 ≤ L) (hJ : JI σ) (kn : ∀ υ, JI υ → LJ g l p e s m args below meth c R Z kb 3231 (lb g b i) [] υ) : LJ g l p e s m args below meth c R Z (kb + 2) 999 (lb g b i) [] σ := by
  refine l_aload_n C dL_law_999 rfl 1 rfl ?_
  refine l_arg C (i := i) (j := 1) 0 5 rfl rfl rfl (by omega) dL_law_1000 dL_law_1001 dL_law_1003 dL_law_1004 dL_law_1005 ?_
  refine l_arg C (i := i) (j := 2) 0 5 rfl rfl rfl (by omega) dL_law_1006 dL_law_1007 dL_law_1009 dL_law_1010 dL_law_1011 ?_
  refine l_bool C dL_law_1012 dL_law_1015 dL_law_1016 dL_law_1019 ?_
  refine l_arg C (i := i) (j := 3) 0 5 rfl rfl rfl (by omega) dL_law_1020 dL_law_1021 dL_law_1023 dL_law_1024 dL_law_1025 ?_
  refine l_arg C (i := i) (j := 4) 0 5 rfl rfl rfl (by omega) dL_law_1026 dL_law_1027 dL_law_1029 dL_law_1030 dL_law_1031 ?_
  refine l_aload_n C dL_law_1032 rfl 3 rfl ?_
  refine l_callSW C (N := M_L_why) (n := 6) (j1 := 1) (j2 := kb) (av := [.ref (zad g 0), .int (xs (i + 1)), .int (iI (tb (xs (i + 2)))), .int (xs (i + 3)), .int (xs (i + 4)), .ref (zad g 41)]) (rest := []) rfl (p_why hJ (tb_lt _)) i_L_why rfl st_L_why q_L_197 (by decide) (by omega) (Nat.le_of_ble_eq_true rfl) dL_law_1033 (fun _ _ h => h) (fun v τ hk => ?_)
  obtain ⟨k, rfl, hk⟩ := zQi_inl hk
  refine l_istore C (ls' := (6, .int k) :: lb g b i) dL_law_1036 (by decide) rfl ?_
  refine l_aload_n C dL_law_1038 rfl 3 rfl ?_
  refine l_arg C (i := i) (j := 1) 1 6 rfl rfl rfl (by omega) dL_law_1039 dL_law_1040 dL_law_1042 dL_law_1043 dL_law_1044 ?_
  refine l_arg C (i := i) (j := 2) 1 6 rfl rfl rfl (by omega) dL_law_1045 dL_law_1046 dL_law_1048 dL_law_1049 dL_law_1050 ?_
  refine l_bool C dL_law_1051 dL_law_1054 dL_law_1055 dL_law_1058 ?_
  refine l_arg C (i := i) (j := 3) 1 6 rfl rfl rfl (by omega) dL_law_1059 dL_law_1060 dL_law_1062 dL_law_1063 dL_law_1064 ?_
  refine l_arg C (i := i) (j := 4) 1 6 rfl rfl rfl (by omega) dL_law_1065 dL_law_1066 dL_law_1068 dL_law_1069 dL_law_1070 ?_
  refine l_callV C (N := M_X7_why) (n := 4) (j1 := 0) (j2 := kb) (av := [.int (xs (i + 1)), .int (iI (tb (xs (i + 2)))), .int (xs (i + 3)), .int (xs (i + 4))]) (rest := []) (o := 24) rfl rfl (Nat.le_of_ble_eq_true rfl) rfl rfl hk i_X7_why rfl n_X7_why v_X7_why q_L_199 (by decide) (by omega) (Nat.le_of_ble_eq_true rfl) dL_law_1071 (fun _ _ h => h) (fun w υ hb => ?_)
  obtain ⟨x, rfl, hb⟩ := zQi_inl hb
  refine l_istore C (ls' := (7, .int x) :: (6, .int k) :: lb g b i) dL_law_1074 (by decide) rfl ?_
  exact l_tail C hb dL_law_1076 dL_law_1077 dL_law_1080 dL_law_1082 dL_law_1087 dL_law_1089 dL_law_1092 dL_law_1093 dL_law_1094 dL_law_1095 dL_law_1097 dL_law_1098 dL_law_1099 dL_law_1104 (by decide) kn
theorem w_right (C : LX g l p s m args meth c R b L xs) (hi : i + 6 ≤ L) (hJ : JI σ) (kn : ∀ υ, JI υ → LJ g l p e s m args below meth c R Z kb 3231 (lb g b i) [] υ) : LJ g l p e s m args below meth c R Z (kb + 2) 1107 (lb g b i) [] σ := by
  refine l_aload_n C dL_law_1107 rfl 1 rfl ?_
  refine l_arg C (i := i) (j := 1) 0 5 rfl rfl rfl (by omega) dL_law_1108 dL_law_1109 dL_law_1111 dL_law_1112 dL_law_1113 ?_
  refine l_arg C (i := i) (j := 2) 0 5 rfl rfl rfl (by omega) dL_law_1114 dL_law_1115 dL_law_1117 dL_law_1118 dL_law_1119 ?_
  refine l_bool C dL_law_1120 dL_law_1123 dL_law_1124 dL_law_1127 ?_
  refine l_aload_n C dL_law_1128 rfl 3 rfl ?_
  refine l_callSW C (N := M_L_right) (n := 4) (j1 := 1) (j2 := kb) (av := [.ref (zad g 0), .int (xs (i + 1)), .int (iI (tb (xs (i + 2)))), .ref (zad g 41)]) (rest := []) rfl (p_right hJ (tb_lt _)) i_L_right rfl st_L_right q_L_200 (by decide) (by omega) (Nat.le_of_ble_eq_true rfl) dL_law_1129 (fun _ _ h => h) (fun v τ hk => ?_)
  obtain ⟨k, rfl, hk⟩ := zQi_inl hk
  refine l_istore C (ls' := (6, .int k) :: lb g b i) dL_law_1132 (by decide) rfl ?_
  refine l_aload_n C dL_law_1134 rfl 3 rfl ?_
  refine l_arg C (i := i) (j := 1) 1 6 rfl rfl rfl (by omega) dL_law_1135 dL_law_1136 dL_law_1138 dL_law_1139 dL_law_1140 ?_
  refine l_arg C (i := i) (j := 2) 1 6 rfl rfl rfl (by omega) dL_law_1141 dL_law_1142 dL_law_1144 dL_law_1145 dL_law_1146 ?_
  refine l_bool C dL_law_1147 dL_law_1150 dL_law_1151 dL_law_1154 ?_
  refine l_callV C (N := M_X7_right) (n := 2) (j1 := 0) (j2 := kb) (av := [.int (xs (i + 1)), .int (iI (tb (xs (i + 2))))]) (rest := []) (o := 24) rfl rfl (Nat.le_of_ble_eq_true rfl) rfl rfl hk i_X7_right rfl n_X7_right v_X7_right q_L_203 (by decide) (by omega) (Nat.le_of_ble_eq_true rfl) dL_law_1155 (fun _ _ h => h) (fun w υ hb => ?_)
  obtain ⟨x, rfl, hb⟩ := zQi_inl hb
  refine l_istore C (ls' := (7, .int x) :: (6, .int k) :: lb g b i) dL_law_1158 (by decide) rfl ?_
  exact l_tail C hb dL_law_1160 dL_law_1161 dL_law_1164 dL_law_1166 dL_law_1171 dL_law_1173 dL_law_1176 dL_law_1177 dL_law_1178 dL_law_1179 dL_law_1181 dL_law_1182 dL_law_1183 dL_law_1188 (by decide) kn
theorem w_open (C : LX g l p s m args meth c R b L xs) (hi : i + 6 ≤ L) (hJ : JI σ) (kn : ∀ υ, JI υ → LJ g l p e s m args below meth c R Z kb 3231 (lb g b i) [] υ) : LJ g l p e s m args below meth c R Z (kb + 2) 1191 (lb g b i) [] σ := by
  refine l_aload_n C dL_law_1191 rfl 1 rfl ?_
  refine l_arg C (i := i) (j := 1) 0 5 rfl rfl rfl (by omega) dL_law_1192 dL_law_1193 dL_law_1195 dL_law_1196 dL_law_1197 ?_
  refine l_aload_n C dL_law_1198 rfl 3 rfl ?_
  refine l_callSW C (N := M_L_open) (n := 3) (j1 := 1) (j2 := kb) (av := [.ref (zad g 0), .int (xs (i + 1)), .ref (zad g 41)]) (rest := []) rfl (p_open hJ) i_L_open rfl st_L_open q_L_204 (by decide) (by omega) (Nat.le_of_ble_eq_true rfl) dL_law_1199 (fun _ _ h => h) (fun v τ hk => ?_)
  obtain ⟨k, rfl, hk⟩ := zQi_inl hk
  refine l_istore C (ls' := (6, .int k) :: lb g b i) dL_law_1202 (by decide) rfl ?_
  refine l_aload_n C dL_law_1204 rfl 3 rfl ?_
  refine l_arg C (i := i) (j := 1) 1 6 rfl rfl rfl (by omega) dL_law_1205 dL_law_1206 dL_law_1208 dL_law_1209 dL_law_1210 ?_
  refine l_callV C (N := M_X7_open) (n := 1) (j1 := 0) (j2 := kb) (av := [.int (xs (i + 1))]) (rest := []) (o := 24) rfl rfl (Nat.le_of_ble_eq_true rfl) rfl rfl hk i_X7_open rfl n_X7_open v_X7_open q_L_206 (by decide) (by omega) (Nat.le_of_ble_eq_true rfl) dL_law_1211 (fun _ _ h => h) (fun w υ hb => ?_)
  obtain ⟨x, rfl, hb⟩ := zQi_inl hb
  refine l_istore C (ls' := (7, .int x) :: (6, .int k) :: lb g b i) dL_law_1214 (by decide) rfl ?_
  exact l_tail C hb dL_law_1216 dL_law_1217 dL_law_1220 dL_law_1222 dL_law_1227 dL_law_1229 dL_law_1232 dL_law_1233 dL_law_1234 dL_law_1235 dL_law_1237 dL_law_1238 dL_law_1239 dL_law_1244 (by decide) kn
theorem w_covered (C : LX g l p s m args meth c R b L xs) (hi : i + 6 ≤ L) (hJ : JI σ) (kn : ∀ υ, JI υ → LJ g l p e s m args below meth c R Z kb 3231 (lb g b i) [] υ) : LJ g l p e s m args below meth c R Z (kb + 2) 1247 (lb g b i) [] σ := by
  refine l_aload_n C dL_law_1247 rfl 1 rfl ?_
  refine l_arg C (i := i) (j := 1) 0 5 rfl rfl rfl (by omega) dL_law_1248 dL_law_1249 dL_law_1251 dL_law_1252 dL_law_1253 ?_
  refine l_aload_n C dL_law_1254 rfl 3 rfl ?_
  refine l_callSW C (N := M_L_covered) (n := 3) (j1 := 1) (j2 := kb) (av := [.ref (zad g 0), .int (xs (i + 1)), .ref (zad g 41)]) (rest := []) rfl (p_covered hJ) i_L_covered rfl st_L_covered q_L_207 (by decide) (by omega) (Nat.le_of_ble_eq_true rfl) dL_law_1255 (fun _ _ h => h) (fun v τ hk => ?_)
  obtain ⟨k, rfl, hk⟩ := zQi_inl hk
  refine l_istore C (ls' := (6, .int k) :: lb g b i) dL_law_1258 (by decide) rfl ?_
  refine l_aload_n C dL_law_1260 rfl 3 rfl ?_
  refine l_arg C (i := i) (j := 1) 1 6 rfl rfl rfl (by omega) dL_law_1261 dL_law_1262 dL_law_1264 dL_law_1265 dL_law_1266 ?_
  refine l_callV C (N := M_X7_covered) (n := 1) (j1 := 0) (j2 := kb) (av := [.int (xs (i + 1))]) (rest := []) (o := 24) rfl rfl (Nat.le_of_ble_eq_true rfl) rfl rfl hk i_X7_covered rfl n_X7_covered v_X7_covered q_L_209 (by decide) (by omega) (Nat.le_of_ble_eq_true rfl) dL_law_1267 (fun _ _ h => h) (fun w υ hb => ?_)
  obtain ⟨x, rfl, hb⟩ := zQi_inl hb
  refine l_istore C (ls' := (7, .int x) :: (6, .int k) :: lb g b i) dL_law_1270 (by decide) rfl ?_
  exact l_tail C hb dL_law_1272 dL_law_1273 dL_law_1276 dL_law_1278 dL_law_1283 dL_law_1285 dL_law_1288 dL_law_1289 dL_law_1290 dL_law_1291 dL_law_1293 dL_law_1294 dL_law_1295 dL_law_1300 (by decide) kn
theorem w_whole (C : LX g l p s m args meth c R b L xs) (hi : i + 6 ≤ L) (hJ : JI σ) (kn : ∀ υ, JI υ → LJ g l p e s m args below meth c R Z kb 3231 (lb g b i) [] υ) : LJ g l p e s m args below meth c R Z (kb + 2) 1303 (lb g b i) [] σ := by
  refine l_aload_n C dL_law_1303 rfl 1 rfl ?_
  refine l_arg C (i := i) (j := 1) 0 5 rfl rfl rfl (by omega) dL_law_1304 dL_law_1305 dL_law_1307 dL_law_1308 dL_law_1309 ?_
  refine l_aload_n C dL_law_1310 rfl 3 rfl ?_
  refine l_callSW C (N := M_L_whole) (n := 3) (j1 := 1) (j2 := kb) (av := [.ref (zad g 0), .int (xs (i + 1)), .ref (zad g 41)]) (rest := []) rfl (p_whole hJ) i_L_whole rfl st_L_whole q_L_210 (by decide) (by omega) (Nat.le_of_ble_eq_true rfl) dL_law_1311 (fun _ _ h => h) (fun v τ hk => ?_)
  obtain ⟨k, rfl, hk⟩ := zQi_inl hk
  refine l_istore C (ls' := (6, .int k) :: lb g b i) dL_law_1314 (by decide) rfl ?_
  refine l_aload_n C dL_law_1316 rfl 3 rfl ?_
  refine l_arg C (i := i) (j := 1) 1 6 rfl rfl rfl (by omega) dL_law_1317 dL_law_1318 dL_law_1320 dL_law_1321 dL_law_1322 ?_
  refine l_callV C (N := M_X7_whole) (n := 1) (j1 := 0) (j2 := kb) (av := [.int (xs (i + 1))]) (rest := []) (o := 24) rfl rfl (Nat.le_of_ble_eq_true rfl) rfl rfl hk i_X7_whole rfl n_X7_whole v_X7_whole q_L_212 (by decide) (by omega) (Nat.le_of_ble_eq_true rfl) dL_law_1323 (fun _ _ h => h) (fun w υ hb => ?_)
  obtain ⟨x, rfl, hb⟩ := zQi_inl hb
  refine l_istore C (ls' := (7, .int x) :: (6, .int k) :: lb g b i) dL_law_1326 (by decide) rfl ?_
  exact l_tail C hb dL_law_1328 dL_law_1329 dL_law_1332 dL_law_1334 dL_law_1339 dL_law_1341 dL_law_1344 dL_law_1345 dL_law_1346 dL_law_1347 dL_law_1349 dL_law_1350 dL_law_1351 dL_law_1356 (by decide) kn
theorem w_firstWrong (C : LX g l p s m args meth c R b L xs) (hi : i + 6 ≤ L) (hJ : JI σ) (kn : ∀ υ, JI υ → LJ g l p e s m args below meth c R Z kb 3231 (lb g b i) [] υ) : LJ g l p e s m args below meth c R Z (kb + 2) 1359 (lb g b i) [] σ := by
  refine l_aload_n C dL_law_1359 rfl 1 rfl ?_
  refine l_arg C (i := i) (j := 1) 0 5 rfl rfl rfl (by omega) dL_law_1360 dL_law_1361 dL_law_1363 dL_law_1364 dL_law_1365 ?_
  refine l_arg C (i := i) (j := 2) 0 5 rfl rfl rfl (by omega) dL_law_1366 dL_law_1367 dL_law_1369 dL_law_1370 dL_law_1371 ?_
  refine l_bool C dL_law_1372 dL_law_1375 dL_law_1376 dL_law_1379 ?_
  refine l_aload_n C dL_law_1380 rfl 3 rfl ?_
  refine l_callSW C (N := M_L_firstWrong) (n := 4) (j1 := 1) (j2 := kb) (av := [.ref (zad g 0), .int (xs (i + 1)), .int (iI (tb (xs (i + 2)))), .ref (zad g 41)]) (rest := []) rfl (p_firstWrong hJ (tb_lt _)) i_L_firstWrong rfl st_L_firstWrong q_L_213 (by decide) (by omega) (Nat.le_of_ble_eq_true rfl) dL_law_1381 (fun _ _ h => h) (fun v τ hk => ?_)
  obtain ⟨k, rfl, hk⟩ := zQi_inl hk
  refine l_istore C (ls' := (6, .int k) :: lb g b i) dL_law_1384 (by decide) rfl ?_
  refine l_aload_n C dL_law_1386 rfl 3 rfl ?_
  refine l_arg C (i := i) (j := 1) 1 6 rfl rfl rfl (by omega) dL_law_1387 dL_law_1388 dL_law_1390 dL_law_1391 dL_law_1392 ?_
  refine l_arg C (i := i) (j := 2) 1 6 rfl rfl rfl (by omega) dL_law_1393 dL_law_1394 dL_law_1396 dL_law_1397 dL_law_1398 ?_
  refine l_bool C dL_law_1399 dL_law_1402 dL_law_1403 dL_law_1406 ?_
  refine l_callV C (N := M_X7_firstWrong) (n := 2) (j1 := 0) (j2 := kb) (av := [.int (xs (i + 1)), .int (iI (tb (xs (i + 2))))]) (rest := []) (o := 24) rfl rfl (Nat.le_of_ble_eq_true rfl) rfl rfl hk i_X7_firstWrong rfl n_X7_firstWrong v_X7_firstWrong q_L_215 (by decide) (by omega) (Nat.le_of_ble_eq_true rfl) dL_law_1407 (fun _ _ h => h) (fun w υ hb => ?_)
  obtain ⟨x, rfl, hb⟩ := zQi_inl hb
  refine l_istore C (ls' := (7, .int x) :: (6, .int k) :: lb g b i) dL_law_1410 (by decide) rfl ?_
  exact l_tail C hb dL_law_1412 dL_law_1413 dL_law_1416 dL_law_1418 dL_law_1423 dL_law_1425 dL_law_1428 dL_law_1429 dL_law_1430 dL_law_1431 dL_law_1433 dL_law_1434 dL_law_1435 dL_law_1440 (by decide) kn
theorem w_shownFrom (C : LX g l p s m args meth c R b L xs) (hi : i + 6 ≤ L) (hJ : JI σ) (kn : ∀ υ, JI υ → LJ g l p e s m args below meth c R Z kb 3231 (lb g b i) [] υ) : LJ g l p e s m args below meth c R Z (kb + 2) 1443 (lb g b i) [] σ := by
  refine l_aload_n C dL_law_1443 rfl 1 rfl ?_
  refine l_arg C (i := i) (j := 1) 0 5 rfl rfl rfl (by omega) dL_law_1444 dL_law_1445 dL_law_1447 dL_law_1448 dL_law_1449 ?_
  refine l_aload_n C dL_law_1450 rfl 3 rfl ?_
  refine l_callSW C (N := M_L_shownFrom) (n := 3) (j1 := 1) (j2 := kb) (av := [.ref (zad g 0), .int (xs (i + 1)), .ref (zad g 41)]) (rest := []) rfl (p_shownFrom hJ) i_L_shownFrom rfl st_L_shownFrom q_L_216 (by decide) (by omega) (Nat.le_of_ble_eq_true rfl) dL_law_1451 (fun _ _ h => h) (fun v τ hk => ?_)
  obtain ⟨k, rfl, hk⟩ := zQi_inl hk
  refine l_istore C (ls' := (6, .int k) :: lb g b i) dL_law_1454 (by decide) rfl ?_
  refine l_aload_n C dL_law_1456 rfl 3 rfl ?_
  refine l_arg C (i := i) (j := 1) 1 6 rfl rfl rfl (by omega) dL_law_1457 dL_law_1458 dL_law_1460 dL_law_1461 dL_law_1462 ?_
  refine l_callV C (N := M_X7_shownFrom) (n := 1) (j1 := 0) (j2 := kb) (av := [.int (xs (i + 1))]) (rest := []) (o := 24) rfl rfl (Nat.le_of_ble_eq_true rfl) rfl rfl hk i_X7_shownFrom rfl n_X7_shownFrom v_X7_shownFrom q_L_218 (by decide) (by omega) (Nat.le_of_ble_eq_true rfl) dL_law_1463 (fun _ _ h => h) (fun w υ hb => ?_)
  obtain ⟨x, rfl, hb⟩ := zQi_inl hb
  refine l_istore C (ls' := (7, .int x) :: (6, .int k) :: lb g b i) dL_law_1466 (by decide) rfl ?_
  exact l_tail C hb dL_law_1468 dL_law_1469 dL_law_1472 dL_law_1474 dL_law_1479 dL_law_1481 dL_law_1484 dL_law_1485 dL_law_1486 dL_law_1487 dL_law_1489 dL_law_1490 dL_law_1491 dL_law_1496 (by decide) kn
theorem w_bestAngle (C : LX g l p s m args meth c R b L xs) (hi : i + 6 ≤ L) (hJ : JI σ) (kn : ∀ υ, JI υ → LJ g l p e s m args below meth c R Z kb 3231 (lb g b i) [] υ) : LJ g l p e s m args below meth c R Z (kb + 2) 1499 (lb g b i) [] σ := by
  refine l_aload_n C dL_law_1499 rfl 1 rfl ?_
  refine l_arg C (i := i) (j := 1) 0 5 rfl rfl rfl (by omega) dL_law_1500 dL_law_1501 dL_law_1503 dL_law_1504 dL_law_1505 ?_
  refine l_bool C dL_law_1506 dL_law_1509 dL_law_1510 dL_law_1513 ?_
  refine l_callV C (N := M_X6_bestAngle) (n := 1) (j1 := 0) (j2 := kb) (av := [.int (iI (tb (xs (i + 1))))]) (rest := []) (o := 0) rfl rfl (Nat.le_of_ble_eq_true rfl) rfl rfl (p_bestAngle hJ (tb_lt _)) i_X6_bestAngle rfl n_X6_bestAngle v_X6_bestAngle q_L_219 (by decide) (by omega) (Nat.le_of_ble_eq_true rfl) dL_law_1514 (fun _ _ h => h) (fun v τ hk => ?_)
  obtain ⟨v, rfl, hk⟩ := zQi_inl hk
  refine l_aload_n C dL_law_1517 rfl 2 rfl ?_
  refine l_arg C (i := i) (j := 1) 0 5 rfl rfl rfl (by omega) dL_law_1518 dL_law_1519 dL_law_1521 dL_law_1522 dL_law_1523 ?_
  refine l_bool C dL_law_1524 dL_law_1527 dL_law_1528 dL_law_1531 ?_
  refine l_callV C (N := M_X7_bestAngle) (n := 1) (j1 := 0) (j2 := kb) (av := [.int (iI (tb (xs (i + 1))))]) (rest := [.int v]) (o := 24) rfl rfl (Nat.le_of_ble_eq_true rfl) rfl rfl hk i_X7_bestAngle rfl n_X7_bestAngle v_X7_bestAngle q_L_223 (by decide) (by omega) (Nat.le_of_ble_eq_true rfl) dL_law_1532 (fun _ _ h => h) (fun w υ hb => ?_)
  obtain ⟨x, rfl, hJ2, rfl⟩ := zQi_inl hb
  exact l_icmp_eq C (tgt := 3231) dL_law_1535 (by decide) (fun _ => kn υ hJ2) (fun q => absurd rfl q)
theorem w_seam (C : LX g l p s m args meth c R b L xs) (hi : i + 6 ≤ L) (hJ : JI σ) (kn : ∀ υ, JI υ → LJ g l p e s m args below meth c R Z kb 3231 (lb g b i) [] υ) : LJ g l p e s m args below meth c R Z (kb + 2) 1540 (lb g b i) [] σ := by
  refine l_aload_n C dL_law_1540 rfl 1 rfl ?_
  refine l_arg C (i := i) (j := 1) 0 5 rfl rfl rfl (by omega) dL_law_1541 dL_law_1542 dL_law_1544 dL_law_1545 dL_law_1546 ?_
  refine l_aload_n C dL_law_1547 rfl 3 rfl ?_
  refine l_callSW C (N := M_L_seam) (n := 3) (j1 := 1) (j2 := kb) (av := [.ref (zad g 0), .int (xs (i + 1)), .ref (zad g 41)]) (rest := []) rfl (p_seam hJ) i_L_seam rfl st_L_seam q_L_224 (by decide) (by omega) (Nat.le_of_ble_eq_true rfl) dL_law_1548 (fun _ _ h => h) (fun v τ hk => ?_)
  obtain ⟨k, rfl, hk⟩ := zQi_inl hk
  refine l_istore C (ls' := (6, .int k) :: lb g b i) dL_law_1551 (by decide) rfl ?_
  refine l_aload_n C dL_law_1553 rfl 3 rfl ?_
  refine l_arg C (i := i) (j := 1) 1 6 rfl rfl rfl (by omega) dL_law_1554 dL_law_1555 dL_law_1557 dL_law_1558 dL_law_1559 ?_
  refine l_callV C (N := M_X7_seam) (n := 1) (j1 := 0) (j2 := kb) (av := [.int (xs (i + 1))]) (rest := []) (o := 24) rfl rfl (Nat.le_of_ble_eq_true rfl) rfl rfl hk i_X7_seam rfl n_X7_seam v_X7_seam q_L_226 (by decide) (by omega) (Nat.le_of_ble_eq_true rfl) dL_law_1560 (fun _ _ h => h) (fun w υ hb => ?_)
  obtain ⟨x, rfl, hb⟩ := zQi_inl hb
  refine l_istore C (ls' := (7, .int x) :: (6, .int k) :: lb g b i) dL_law_1563 (by decide) rfl ?_
  exact l_tail C hb dL_law_1565 dL_law_1566 dL_law_1569 dL_law_1571 dL_law_1576 dL_law_1578 dL_law_1581 dL_law_1582 dL_law_1583 dL_law_1584 dL_law_1586 dL_law_1587 dL_law_1588 dL_law_1593 (by decide) kn
theorem w_run (C : LX g l p s m args meth c R b L xs) (hi : i + 6 ≤ L) (hJ : JI σ) (kn : ∀ υ, JI υ → LJ g l p e s m args below meth c R Z kb 3231 (lb g b i) [] υ) : LJ g l p e s m args below meth c R Z (kb + 2) 1596 (lb g b i) [] σ := by
  refine l_aload_n C dL_law_1596 rfl 1 rfl ?_
  refine l_arg C (i := i) (j := 1) 0 5 rfl rfl rfl (by omega) dL_law_1597 dL_law_1598 dL_law_1600 dL_law_1601 dL_law_1602 ?_
  refine l_aload_n C dL_law_1603 rfl 3 rfl ?_
  refine l_callSW C (N := M_L_run) (n := 3) (j1 := 1) (j2 := kb) (av := [.ref (zad g 0), .int (xs (i + 1)), .ref (zad g 41)]) (rest := []) rfl (p_run hJ) i_L_run rfl st_L_run q_L_227 (by decide) (by omega) (Nat.le_of_ble_eq_true rfl) dL_law_1604 (fun _ _ h => h) (fun v τ hk => ?_)
  obtain ⟨k, rfl, hk⟩ := zQi_inl hk
  refine l_istore C (ls' := (6, .int k) :: lb g b i) dL_law_1607 (by decide) rfl ?_
  refine l_aload_n C dL_law_1609 rfl 3 rfl ?_
  refine l_arg C (i := i) (j := 1) 1 6 rfl rfl rfl (by omega) dL_law_1610 dL_law_1611 dL_law_1613 dL_law_1614 dL_law_1615 ?_
  refine l_callV C (N := M_X7_run) (n := 1) (j1 := 0) (j2 := kb) (av := [.int (xs (i + 1))]) (rest := []) (o := 24) rfl rfl (Nat.le_of_ble_eq_true rfl) rfl rfl hk i_X7_run rfl n_X7_run v_X7_run q_L_229 (by decide) (by omega) (Nat.le_of_ble_eq_true rfl) dL_law_1616 (fun _ _ h => h) (fun w υ hb => ?_)
  obtain ⟨x, rfl, hb⟩ := zQi_inl hb
  refine l_istore C (ls' := (7, .int x) :: (6, .int k) :: lb g b i) dL_law_1619 (by decide) rfl ?_
  exact l_tail C hb dL_law_1621 dL_law_1622 dL_law_1625 dL_law_1627 dL_law_1632 dL_law_1634 dL_law_1637 dL_law_1638 dL_law_1639 dL_law_1640 dL_law_1642 dL_law_1643 dL_law_1644 dL_law_1649 (by decide) kn
theorem w_worstSlat (C : LX g l p s m args meth c R b L xs) (hi : i + 6 ≤ L) (hJ : JI σ) (kn : ∀ υ, JI υ → LJ g l p e s m args below meth c R Z kb 3231 (lb g b i) [] υ) : LJ g l p e s m args below meth c R Z (kb + 2) 1652 (lb g b i) [] σ := by
  refine l_aload_n C dL_law_1652 rfl 1 rfl ?_
  refine l_arg C (i := i) (j := 1) 0 5 rfl rfl rfl (by omega) dL_law_1653 dL_law_1654 dL_law_1656 dL_law_1657 dL_law_1658 ?_
  refine l_arg C (i := i) (j := 2) 0 5 rfl rfl rfl (by omega) dL_law_1659 dL_law_1660 dL_law_1662 dL_law_1663 dL_law_1664 ?_
  refine l_bool C dL_law_1665 dL_law_1668 dL_law_1669 dL_law_1672 ?_
  refine l_aload_n C dL_law_1673 rfl 3 rfl ?_
  refine l_callSW C (N := M_L_worstSlat) (n := 4) (j1 := 1) (j2 := kb) (av := [.ref (zad g 0), .int (xs (i + 1)), .int (iI (tb (xs (i + 2)))), .ref (zad g 41)]) (rest := []) rfl (p_worstSlat hJ (tb_lt _)) i_L_worstSlat rfl st_L_worstSlat q_L_230 (by decide) (by omega) (Nat.le_of_ble_eq_true rfl) dL_law_1674 (fun _ _ h => h) (fun v τ hk => ?_)
  obtain ⟨k, rfl, hk⟩ := zQi_inl hk
  refine l_istore C (ls' := (6, .int k) :: lb g b i) dL_law_1677 (by decide) rfl ?_
  refine l_aload_n C dL_law_1679 rfl 3 rfl ?_
  refine l_arg C (i := i) (j := 1) 1 6 rfl rfl rfl (by omega) dL_law_1680 dL_law_1681 dL_law_1683 dL_law_1684 dL_law_1685 ?_
  refine l_arg C (i := i) (j := 2) 1 6 rfl rfl rfl (by omega) dL_law_1686 dL_law_1687 dL_law_1689 dL_law_1690 dL_law_1691 ?_
  refine l_bool C dL_law_1692 dL_law_1695 dL_law_1696 dL_law_1699 ?_
  refine l_callV C (N := M_X7_worstSlat) (n := 2) (j1 := 0) (j2 := kb) (av := [.int (xs (i + 1)), .int (iI (tb (xs (i + 2))))]) (rest := []) (o := 24) rfl rfl (Nat.le_of_ble_eq_true rfl) rfl rfl hk i_X7_worstSlat rfl n_X7_worstSlat v_X7_worstSlat q_L_232 (by decide) (by omega) (Nat.le_of_ble_eq_true rfl) dL_law_1700 (fun _ _ h => h) (fun w υ hb => ?_)
  obtain ⟨x, rfl, hb⟩ := zQi_inl hb
  refine l_istore C (ls' := (7, .int x) :: (6, .int k) :: lb g b i) dL_law_1703 (by decide) rfl ?_
  exact l_tail C hb dL_law_1705 dL_law_1706 dL_law_1709 dL_law_1711 dL_law_1716 dL_law_1718 dL_law_1721 dL_law_1722 dL_law_1723 dL_law_1724 dL_law_1726 dL_law_1727 dL_law_1728 dL_law_1733 (by decide) kn
theorem w_ghosts (C : LX g l p s m args meth c R b L xs) (hi : i + 6 ≤ L) (hJ : JI σ) (kn : ∀ υ, JI υ → LJ g l p e s m args below meth c R Z kb 3231 (lb g b i) [] υ) : LJ g l p e s m args below meth c R Z (kb + 2) 1736 (lb g b i) [] σ := by
  refine l_aload_n C dL_law_1736 rfl 1 rfl ?_
  refine l_arg C (i := i) (j := 1) 0 5 rfl rfl rfl (by omega) dL_law_1737 dL_law_1738 dL_law_1740 dL_law_1741 dL_law_1742 ?_
  refine l_arg C (i := i) (j := 2) 0 5 rfl rfl rfl (by omega) dL_law_1743 dL_law_1744 dL_law_1746 dL_law_1747 dL_law_1748 ?_
  refine l_bool C dL_law_1749 dL_law_1752 dL_law_1753 dL_law_1756 ?_
  refine l_aload_n C dL_law_1757 rfl 3 rfl ?_
  refine l_callSW C (N := M_L_ghosts) (n := 4) (j1 := 1) (j2 := kb) (av := [.ref (zad g 0), .int (xs (i + 1)), .int (iI (tb (xs (i + 2)))), .ref (zad g 41)]) (rest := []) rfl (p_ghosts hJ (tb_lt _)) i_L_ghosts rfl st_L_ghosts q_L_233 (by decide) (by omega) (Nat.le_of_ble_eq_true rfl) dL_law_1758 (fun _ _ h => h) (fun v τ hk => ?_)
  obtain ⟨k, rfl, hk⟩ := zQi_inl hk
  refine l_istore C (ls' := (6, .int k) :: lb g b i) dL_law_1761 (by decide) rfl ?_
  refine l_aload_n C dL_law_1763 rfl 3 rfl ?_
  refine l_arg C (i := i) (j := 1) 1 6 rfl rfl rfl (by omega) dL_law_1764 dL_law_1765 dL_law_1767 dL_law_1768 dL_law_1769 ?_
  refine l_arg C (i := i) (j := 2) 1 6 rfl rfl rfl (by omega) dL_law_1770 dL_law_1771 dL_law_1773 dL_law_1774 dL_law_1775 ?_
  refine l_bool C dL_law_1776 dL_law_1779 dL_law_1780 dL_law_1783 ?_
  refine l_callV C (N := M_X7_ghosts) (n := 2) (j1 := 0) (j2 := kb) (av := [.int (xs (i + 1)), .int (iI (tb (xs (i + 2))))]) (rest := []) (o := 24) rfl rfl (Nat.le_of_ble_eq_true rfl) rfl rfl hk i_X7_ghosts rfl n_X7_ghosts v_X7_ghosts q_L_235 (by decide) (by omega) (Nat.le_of_ble_eq_true rfl) dL_law_1784 (fun _ _ h => h) (fun w υ hb => ?_)
  obtain ⟨x, rfl, hb⟩ := zQi_inl hb
  refine l_istore C (ls' := (7, .int x) :: (6, .int k) :: lb g b i) dL_law_1787 (by decide) rfl ?_
  exact l_tail C hb dL_law_1789 dL_law_1790 dL_law_1793 dL_law_1795 dL_law_1800 dL_law_1802 dL_law_1805 dL_law_1806 dL_law_1807 dL_law_1808 dL_law_1810 dL_law_1811 dL_law_1812 dL_law_1817 (by decide) kn
theorem w_paintable (C : LX g l p s m args meth c R b L xs) (hi : i + 6 ≤ L) (hJ : JI σ) (kn : ∀ υ, JI υ → LJ g l p e s m args below meth c R Z kb 3231 (lb g b i) [] υ) : LJ g l p e s m args below meth c R Z (kb + 2) 1820 (lb g b i) [] σ := by
  refine l_aload_n C dL_law_1820 rfl 1 rfl ?_
  refine l_arg C (i := i) (j := 1) 0 5 rfl rfl rfl (by omega) dL_law_1821 dL_law_1822 dL_law_1824 dL_law_1825 dL_law_1826 ?_
  refine l_bool C dL_law_1827 dL_law_1830 dL_law_1831 dL_law_1834 ?_
  refine l_callV C (N := M_X6_paintable) (n := 1) (j1 := 0) (j2 := kb) (av := [.int (iI (tb (xs (i + 1))))]) (rest := []) (o := 0) rfl rfl (Nat.le_of_ble_eq_true rfl) rfl rfl (p_paintable hJ (tb_lt _)) i_X6_paintable rfl n_X6_paintable v_X6_paintable q_L_236 (by decide) (by omega) (Nat.le_of_ble_eq_true rfl) dL_law_1835 (fun _ _ h => h) (fun v τ hk => ?_)
  obtain ⟨v, rfl, hk⟩ := zQi_inl hk
  refine l_aload_n C dL_law_1838 rfl 2 rfl ?_
  refine l_arg C (i := i) (j := 1) 0 5 rfl rfl rfl (by omega) dL_law_1839 dL_law_1840 dL_law_1842 dL_law_1843 dL_law_1844 ?_
  refine l_bool C dL_law_1845 dL_law_1848 dL_law_1849 dL_law_1852 ?_
  refine l_callV C (N := M_X7_paintable) (n := 1) (j1 := 0) (j2 := kb) (av := [.int (iI (tb (xs (i + 1))))]) (rest := [.int v]) (o := 24) rfl rfl (Nat.le_of_ble_eq_true rfl) rfl rfl hk i_X7_paintable rfl n_X7_paintable v_X7_paintable q_L_239 (by decide) (by omega) (Nat.le_of_ble_eq_true rfl) dL_law_1853 (fun _ _ h => h) (fun w υ hb => ?_)
  obtain ⟨x, rfl, hJ2, rfl⟩ := zQi_inl hb
  exact l_icmp_eq C (tgt := 3231) dL_law_1856 (by decide) (fun _ => kn υ hJ2) (fun q => absurd rfl q)
theorem w_span (C : LX g l p s m args meth c R b L xs) (hi : i + 6 ≤ L) (hJ : JI σ) (kn : ∀ υ, JI υ → LJ g l p e s m args below meth c R Z kb 3231 (lb g b i) [] υ) : LJ g l p e s m args below meth c R Z (kb + 2) 1861 (lb g b i) [] σ := by
  refine l_aload_n C dL_law_1861 rfl 1 rfl ?_
  refine l_arg C (i := i) (j := 1) 0 5 rfl rfl rfl (by omega) dL_law_1862 dL_law_1863 dL_law_1865 dL_law_1866 dL_law_1867 ?_
  refine l_bool C dL_law_1868 dL_law_1871 dL_law_1872 dL_law_1875 ?_
  refine l_callV C (N := M_X6_span) (n := 1) (j1 := 0) (j2 := kb) (av := [.int (iI (tb (xs (i + 1))))]) (rest := []) (o := 0) rfl rfl (Nat.le_of_ble_eq_true rfl) rfl rfl (p_span hJ (tb_lt _)) i_X6_span rfl n_X6_span v_X6_span q_L_240 (by decide) (by omega) (Nat.le_of_ble_eq_true rfl) dL_law_1876 (fun _ _ h => h) (fun v τ hk => ?_)
  obtain ⟨v, rfl, hk⟩ := zQi_inl hk
  refine l_aload_n C dL_law_1879 rfl 2 rfl ?_
  refine l_arg C (i := i) (j := 1) 0 5 rfl rfl rfl (by omega) dL_law_1880 dL_law_1881 dL_law_1883 dL_law_1884 dL_law_1885 ?_
  refine l_bool C dL_law_1886 dL_law_1889 dL_law_1890 dL_law_1893 ?_
  refine l_callV C (N := M_X7_span) (n := 1) (j1 := 0) (j2 := kb) (av := [.int (iI (tb (xs (i + 1))))]) (rest := [.int v]) (o := 24) rfl rfl (Nat.le_of_ble_eq_true rfl) rfl rfl hk i_X7_span rfl n_X7_span v_X7_span q_L_243 (by decide) (by omega) (Nat.le_of_ble_eq_true rfl) dL_law_1894 (fun _ _ h => h) (fun w υ hb => ?_)
  obtain ⟨x, rfl, hJ2, rfl⟩ := zQi_inl hb
  exact l_icmp_eq C (tgt := 3231) dL_law_1897 (by decide) (fun _ => kn υ hJ2) (fun q => absurd rfl q)
theorem w_light (C : LX g l p s m args meth c R b L xs) (hi : i + 6 ≤ L) (hJ : JI σ) (kn : ∀ υ, JI υ → LJ g l p e s m args below meth c R Z kb 3231 (lb g b i) [] υ) : LJ g l p e s m args below meth c R Z (kb + 2) 1902 (lb g b i) [] σ := by
  refine l_aload_n C dL_law_1902 rfl 1 rfl ?_
  refine l_arg C (i := i) (j := 1) 0 5 rfl rfl rfl (by omega) dL_law_1903 dL_law_1904 dL_law_1906 dL_law_1907 dL_law_1908 ?_
  refine l_aload C dL_law_1909 4 rfl ?_
  refine l_callSW C (N := M_L_light) (n := 3) (j1 := 1) (j2 := kb) (av := [.ref (zad g 0), .int (xs (i + 1)), .ref (zad g 42)]) (rest := []) rfl (p_light hJ) i_L_light rfl st_L_light q_L_244 (by decide) (by omega) (Nat.le_of_ble_eq_true rfl) dL_law_1911 (fun _ _ h => h) (fun v τ hk => ?_)
  obtain ⟨k, rfl, hk⟩ := zQi_inl hk
  refine l_istore C (ls' := (6, .int k) :: lb g b i) dL_law_1914 (by decide) rfl ?_
  refine l_aload_n C dL_law_1916 rfl 3 rfl ?_
  refine l_arg C (i := i) (j := 1) 1 6 rfl rfl rfl (by omega) dL_law_1917 dL_law_1918 dL_law_1920 dL_law_1921 dL_law_1922 ?_
  refine l_callV C (N := M_X7_light) (n := 1) (j1 := 0) (j2 := kb) (av := [.int (xs (i + 1))]) (rest := []) (o := 24) rfl rfl (Nat.le_of_ble_eq_true rfl) rfl rfl hk i_X7_light rfl n_X7_light v_X7_light q_L_247 (by decide) (by omega) (Nat.le_of_ble_eq_true rfl) dL_law_1923 (fun _ _ h => h) (fun w υ hb => ?_)
  obtain ⟨x, rfl, hb⟩ := zQf_inl hb
  refine l_fstore C (ls' := (7, .float x) :: (6, .int k) :: lb g b i) dL_law_1926 (by decide) rfl ?_
  refine l_thr C (i := i) (q2 := 4) (q6 := 1) rfl rfl hb.2.1 dL_law_1928 dL_law_1929 dL_law_1932 dL_law_1934 ?_
  have fin : LJ g l p e s m args below meth c R Z kb 1977 ((7, .float x) :: (6, .int k) :: lb g b i) [] υ := l_goto C (tgt := 3231) dL_law_1977 (by decide) (l_ls [2, 3, 4, 5, 6, 7] rfl (kn υ hb.1))
  refine l_iload C dL_law_1939 1 rfl ?_
  refine l_if_ne C (tgt := 1977) dL_law_1941 (by decide) (fun _ => fin) (fun q => ?_)
  refine l_aload C dL_law_1944 6 rfl ?_
  refine l_iconst C dL_law_1946 (v := 0) rfl ?_
  refine l_dald C dL_law_1947 ?_
  refine l_fload C dL_law_1948 0 rfl ?_
  refine l_f2d C dL_law_1950 (hb.2.2 q).1 ?_
  refine l_dcmp C dL_law_1951 ?_
  rw [(hb.2.2 q).2]
  exact l_if_eq C (tgt := 1977) dL_law_1952 (by decide) (fun _ => fin) (fun q2 => absurd (dc_self (hb.2.2 q).1) q2)
theorem w_meanRight (C : LX g l p s m args meth c R b L xs) (hi : i + 6 ≤ L) (hJ : JI σ) (kn : ∀ υ, JI υ → LJ g l p e s m args below meth c R Z kb 3231 (lb g b i) [] υ) : LJ g l p e s m args below meth c R Z (kb + 2) 1980 (lb g b i) [] σ := by
  refine l_aload_n C dL_law_1980 rfl 1 rfl ?_
  refine l_arg C (i := i) (j := 1) 0 5 rfl rfl rfl (by omega) dL_law_1981 dL_law_1982 dL_law_1984 dL_law_1985 dL_law_1986 ?_
  refine l_bool C dL_law_1987 dL_law_1990 dL_law_1991 dL_law_1994 ?_
  refine l_callV C (N := M_X6_meanRight) (n := 1) (j1 := 0) (j2 := kb) (av := [.int (iI (tb (xs (i + 1))))]) (rest := []) (o := 0) rfl rfl (Nat.le_of_ble_eq_true rfl) rfl rfl (p_meanRight hJ (tb_lt _)) i_X6_meanRight rfl n_X6_meanRight v_X6_meanRight q_L_248 (by decide) (by omega) (Nat.le_of_ble_eq_true rfl) dL_law_1995 (fun _ _ h => h) (fun v τ hk => ?_)
  obtain ⟨v, rfl, hk⟩ := zQd_inl hk
  refine l_dstore C (ls' := (6, .double v) :: lb g b i) dL_law_1998 (by decide) rfl ?_
  refine l_aload_n C dL_law_2000 rfl 3 rfl ?_
  refine l_arg C (i := i) (j := 1) 1 6 rfl rfl rfl (by omega) dL_law_2001 dL_law_2002 dL_law_2004 dL_law_2005 dL_law_2006 ?_
  refine l_bool C dL_law_2007 dL_law_2010 dL_law_2011 dL_law_2014 ?_
  refine l_callV C (N := M_X7_meanRight) (n := 1) (j1 := 0) (j2 := kb) (av := [.int (iI (tb (xs (i + 1))))]) (rest := []) (o := 24) rfl rfl (Nat.le_of_ble_eq_true rfl) rfl rfl hk i_X7_meanRight rfl n_X7_meanRight v_X7_meanRight q_L_252 (by decide) (by omega) (Nat.le_of_ble_eq_true rfl) dL_law_2015 (fun _ _ h => h) (fun w υ hb => ?_)
  obtain ⟨x, rfl, hJ2, rfl, hn⟩ := zQd_inl hb
  refine l_dstore C (ls' := (8, .double v) :: (6, .double v) :: lb g b i) dL_law_2018 (by decide) rfl ?_
  refine l_dload C dL_law_2020 1 rfl ?_
  refine l_dload C dL_law_2022 0 rfl ?_
  refine l_dcmp C dL_law_2024 ?_
  refine l_if_eq C (tgt := 2046) dL_law_2025 (by decide) (fun _ => ?_) (fun q => absurd (dc_self hn) q)
  exact l_goto C (tgt := 3231) dL_law_2046 (by decide) (l_ls [2, 3, 4, 5, 6, 7] rfl (kn υ hJ2))
theorem w_lightest (C : LX g l p s m args meth c R b L xs) (hi : i + 6 ≤ L) (hJ : JI σ) (kn : ∀ υ, JI υ → LJ g l p e s m args below meth c R Z kb 3231 (lb g b i) [] υ) : LJ g l p e s m args below meth c R Z (kb + 2) 2049 (lb g b i) [] σ := by
  refine l_aload_n C dL_law_2049 rfl 1 rfl ?_
  refine l_callV C (N := M_X6_lightest) (n := 0) (j1 := 0) (j2 := kb) (av := []) (rest := []) (o := 0) rfl rfl (Nat.le_of_ble_eq_true rfl) rfl rfl (p_lightest hJ) i_X6_lightest rfl n_X6_lightest v_X6_lightest q_L_253 (by decide) (by omega) (Nat.le_of_ble_eq_true rfl) dL_law_2050 (fun _ _ h => h) (fun v τ hk => ?_)
  obtain ⟨v, rfl, hk⟩ := zQi_inl hk
  refine l_aload_n C dL_law_2053 rfl 2 rfl ?_
  refine l_callV C (N := M_X7_lightest) (n := 0) (j1 := 0) (j2 := kb) (av := []) (rest := [.int v]) (o := 24) rfl rfl (Nat.le_of_ble_eq_true rfl) rfl rfl hk i_X7_lightest rfl n_X7_lightest v_X7_lightest q_L_256 (by decide) (by omega) (Nat.le_of_ble_eq_true rfl) dL_law_2054 (fun _ _ h => h) (fun w υ hb => ?_)
  obtain ⟨x, rfl, hJ2, rfl⟩ := zQi_inl hb
  exact l_icmp_eq C (tgt := 3231) dL_law_2057 (by decide) (fun _ => kn υ hJ2) (fun q => absurd rfl q)
theorem w_bestTurn (C : LX g l p s m args meth c R b L xs) (hi : i + 6 ≤ L) (hJ : JI σ) (kn : ∀ υ, JI υ → LJ g l p e s m args below meth c R Z kb 3231 (lb g b i) [] υ) : LJ g l p e s m args below meth c R Z (kb + 2) 2062 (lb g b i) [] σ := by
  refine l_aload_n C dL_law_2062 rfl 1 rfl ?_
  refine l_arg C (i := i) (j := 1) 0 5 rfl rfl rfl (by omega) dL_law_2063 dL_law_2064 dL_law_2066 dL_law_2067 dL_law_2068 ?_
  refine l_arg C (i := i) (j := 2) 0 5 rfl rfl rfl (by omega) dL_law_2069 dL_law_2070 dL_law_2072 dL_law_2073 dL_law_2074 ?_
  refine l_arg C (i := i) (j := 3) 0 5 rfl rfl rfl (by omega) dL_law_2075 dL_law_2076 dL_law_2078 dL_law_2079 dL_law_2080 ?_
  refine l_bool C dL_law_2081 dL_law_2084 dL_law_2085 dL_law_2088 ?_
  refine l_aload_n C dL_law_2089 rfl 3 rfl ?_
  refine l_callSW C (N := M_L_bestTurn) (n := 5) (j1 := 1) (j2 := kb) (av := [.ref (zad g 0), .int (xs (i + 1)), .int (xs (i + 2)), .int (iI (tb (xs (i + 3)))), .ref (zad g 41)]) (rest := []) rfl (p_bestTurn hJ (tb_lt _)) i_L_bestTurn rfl st_L_bestTurn q_L_257 (by decide) (by omega) (Nat.le_of_ble_eq_true rfl) dL_law_2090 (fun _ _ h => h) (fun v τ hk => ?_)
  obtain ⟨k, rfl, hk⟩ := zQi_inl hk
  refine l_istore C (ls' := (6, .int k) :: lb g b i) dL_law_2093 (by decide) rfl ?_
  refine l_aload_n C dL_law_2095 rfl 3 rfl ?_
  refine l_arg C (i := i) (j := 1) 1 6 rfl rfl rfl (by omega) dL_law_2096 dL_law_2097 dL_law_2099 dL_law_2100 dL_law_2101 ?_
  refine l_arg C (i := i) (j := 2) 1 6 rfl rfl rfl (by omega) dL_law_2102 dL_law_2103 dL_law_2105 dL_law_2106 dL_law_2107 ?_
  refine l_arg C (i := i) (j := 3) 1 6 rfl rfl rfl (by omega) dL_law_2108 dL_law_2109 dL_law_2111 dL_law_2112 dL_law_2113 ?_
  refine l_bool C dL_law_2114 dL_law_2117 dL_law_2118 dL_law_2121 ?_
  refine l_callV C (N := M_X7_bestTurn) (n := 3) (j1 := 0) (j2 := kb) (av := [.int (xs (i + 1)), .int (xs (i + 2)), .int (iI (tb (xs (i + 3))))]) (rest := []) (o := 24) rfl rfl (Nat.le_of_ble_eq_true rfl) rfl rfl hk i_X7_bestTurn rfl n_X7_bestTurn v_X7_bestTurn q_L_260 (by decide) (by omega) (Nat.le_of_ble_eq_true rfl) dL_law_2122 (fun _ _ h => h) (fun w υ hb => ?_)
  obtain ⟨x, rfl, hb⟩ := zQi_inl hb
  refine l_istore C (ls' := (7, .int x) :: (6, .int k) :: lb g b i) dL_law_2125 (by decide) rfl ?_
  exact l_tail C hb dL_law_2127 dL_law_2128 dL_law_2131 dL_law_2133 dL_law_2138 dL_law_2140 dL_law_2143 dL_law_2144 dL_law_2145 dL_law_2146 dL_law_2148 dL_law_2149 dL_law_2150 dL_law_2155 (by decide) kn
theorem w_bestPull (C : LX g l p s m args meth c R b L xs) (hi : i + 6 ≤ L) (hJ : JI σ) (kn : ∀ υ, JI υ → LJ g l p e s m args below meth c R Z kb 3231 (lb g b i) [] υ) : LJ g l p e s m args below meth c R Z (kb + 2) 2158 (lb g b i) [] σ := by
  refine l_aload_n C dL_law_2158 rfl 1 rfl ?_
  refine l_arg C (i := i) (j := 1) 0 5 rfl rfl rfl (by omega) dL_law_2159 dL_law_2160 dL_law_2162 dL_law_2163 dL_law_2164 ?_
  refine l_arg C (i := i) (j := 2) 0 5 rfl rfl rfl (by omega) dL_law_2165 dL_law_2166 dL_law_2168 dL_law_2169 dL_law_2170 ?_
  refine l_bool C dL_law_2171 dL_law_2174 dL_law_2175 dL_law_2178 ?_
  refine l_aload_n C dL_law_2179 rfl 3 rfl ?_
  refine l_callSW C (N := M_L_bestPull) (n := 4) (j1 := 1) (j2 := kb) (av := [.ref (zad g 0), .int (xs (i + 1)), .int (iI (tb (xs (i + 2)))), .ref (zad g 41)]) (rest := []) rfl (p_bestPull hJ (tb_lt _)) i_L_bestPull rfl st_L_bestPull q_L_261 (by decide) (by omega) (Nat.le_of_ble_eq_true rfl) dL_law_2180 (fun _ _ h => h) (fun v τ hk => ?_)
  obtain ⟨k, rfl, hk⟩ := zQi_inl hk
  refine l_istore C (ls' := (6, .int k) :: lb g b i) dL_law_2183 (by decide) rfl ?_
  refine l_aload_n C dL_law_2185 rfl 3 rfl ?_
  refine l_arg C (i := i) (j := 1) 1 6 rfl rfl rfl (by omega) dL_law_2186 dL_law_2187 dL_law_2189 dL_law_2190 dL_law_2191 ?_
  refine l_arg C (i := i) (j := 2) 1 6 rfl rfl rfl (by omega) dL_law_2192 dL_law_2193 dL_law_2195 dL_law_2196 dL_law_2197 ?_
  refine l_bool C dL_law_2198 dL_law_2201 dL_law_2202 dL_law_2205 ?_
  refine l_callV C (N := M_X7_bestPull) (n := 2) (j1 := 0) (j2 := kb) (av := [.int (xs (i + 1)), .int (iI (tb (xs (i + 2))))]) (rest := []) (o := 24) rfl rfl (Nat.le_of_ble_eq_true rfl) rfl rfl hk i_X7_bestPull rfl n_X7_bestPull v_X7_bestPull q_L_263 (by decide) (by omega) (Nat.le_of_ble_eq_true rfl) dL_law_2206 (fun _ _ h => h) (fun w υ hb => ?_)
  obtain ⟨x, rfl, hb⟩ := zQi_inl hb
  refine l_istore C (ls' := (7, .int x) :: (6, .int k) :: lb g b i) dL_law_2209 (by decide) rfl ?_
  exact l_tail C hb dL_law_2211 dL_law_2212 dL_law_2215 dL_law_2217 dL_law_2222 dL_law_2224 dL_law_2227 dL_law_2228 dL_law_2229 dL_law_2230 dL_law_2232 dL_law_2233 dL_law_2234 dL_law_2239 (by decide) kn
theorem w_dabs (C : LX g l p s m args meth c R b L xs) (hi : i + 6 ≤ L) (hJ : JI σ) (kn : ∀ υ, JI υ → LJ g l p e s m args below meth c R Z kb 3231 (lb g b i) [] υ) : LJ g l p e s m args below meth c R Z (kb + 2) 2242 (lb g b i) [] σ := by
  refine l_aload_n C dL_law_2242 rfl 1 rfl ?_
  refine l_arg C (i := i) (j := 1) 0 5 rfl rfl rfl (by omega) dL_law_2243 dL_law_2244 dL_law_2246 dL_law_2247 dL_law_2248 ?_
  refine l_arg C (i := i) (j := 2) 0 5 rfl rfl rfl (by omega) dL_law_2249 dL_law_2250 dL_law_2252 dL_law_2253 dL_law_2254 ?_
  refine l_bool C dL_law_2255 dL_law_2258 dL_law_2259 dL_law_2262 ?_
  refine l_aload_n C dL_law_2263 rfl 3 rfl ?_
  refine l_callSW C (N := M_L_dabs) (n := 4) (j1 := 1) (j2 := kb) (av := [.ref (zad g 0), .int (xs (i + 1)), .int (iI (tb (xs (i + 2)))), .ref (zad g 41)]) (rest := []) rfl (p_dabs hJ (tb_lt _)) i_L_dabs rfl st_L_dabs q_L_264 (by decide) (by omega) (Nat.le_of_ble_eq_true rfl) dL_law_2264 (fun _ _ h => h) (fun v τ hk => ?_)
  obtain ⟨k, rfl, hk⟩ := zQi_inl hk
  refine l_istore C (ls' := (6, .int k) :: lb g b i) dL_law_2267 (by decide) rfl ?_
  refine l_aload_n C dL_law_2269 rfl 3 rfl ?_
  refine l_arg C (i := i) (j := 1) 1 6 rfl rfl rfl (by omega) dL_law_2270 dL_law_2271 dL_law_2273 dL_law_2274 dL_law_2275 ?_
  refine l_arg C (i := i) (j := 2) 1 6 rfl rfl rfl (by omega) dL_law_2276 dL_law_2277 dL_law_2279 dL_law_2280 dL_law_2281 ?_
  refine l_bool C dL_law_2282 dL_law_2285 dL_law_2286 dL_law_2289 ?_
  refine l_callV C (N := M_X7_dabs) (n := 2) (j1 := 0) (j2 := kb) (av := [.int (xs (i + 1)), .int (iI (tb (xs (i + 2))))]) (rest := []) (o := 24) rfl rfl (Nat.le_of_ble_eq_true rfl) rfl rfl hk i_X7_dabs rfl n_X7_dabs v_X7_dabs q_L_266 (by decide) (by omega) (Nat.le_of_ble_eq_true rfl) dL_law_2290 (fun _ _ h => h) (fun w υ hb => ?_)
  obtain ⟨x, rfl, hb⟩ := zQi_inl hb
  refine l_istore C (ls' := (7, .int x) :: (6, .int k) :: lb g b i) dL_law_2293 (by decide) rfl ?_
  exact l_tail C hb dL_law_2295 dL_law_2296 dL_law_2299 dL_law_2301 dL_law_2306 dL_law_2308 dL_law_2311 dL_law_2312 dL_law_2313 dL_law_2314 dL_law_2316 dL_law_2317 dL_law_2318 dL_law_2323 (by decide) kn
theorem w_turnsNeeded (C : LX g l p s m args meth c R b L xs) (hi : i + 6 ≤ L) (hJ : JI σ) (kn : ∀ υ, JI υ → LJ g l p e s m args below meth c R Z kb 3231 (lb g b i) [] υ) : LJ g l p e s m args below meth c R Z (kb + 2) 2326 (lb g b i) [] σ := by
  refine l_aload_n C dL_law_2326 rfl 1 rfl ?_
  refine l_arg C (i := i) (j := 1) 0 5 rfl rfl rfl (by omega) dL_law_2327 dL_law_2328 dL_law_2330 dL_law_2331 dL_law_2332 ?_
  refine l_arg C (i := i) (j := 2) 0 5 rfl rfl rfl (by omega) dL_law_2333 dL_law_2334 dL_law_2336 dL_law_2337 dL_law_2338 ?_
  refine l_bool C dL_law_2339 dL_law_2342 dL_law_2343 dL_law_2346 ?_
  refine l_aload_n C dL_law_2347 rfl 3 rfl ?_
  refine l_callSW C (N := M_L_turnsNeeded) (n := 4) (j1 := 1) (j2 := kb) (av := [.ref (zad g 0), .int (xs (i + 1)), .int (iI (tb (xs (i + 2)))), .ref (zad g 41)]) (rest := []) rfl (p_turnsNeeded hJ (tb_lt _)) i_L_turnsNeeded rfl st_L_turnsNeeded q_L_267 (by decide) (by omega) (Nat.le_of_ble_eq_true rfl) dL_law_2348 (fun _ _ h => h) (fun v τ hk => ?_)
  obtain ⟨k, rfl, hk⟩ := zQi_inl hk
  refine l_istore C (ls' := (6, .int k) :: lb g b i) dL_law_2351 (by decide) rfl ?_
  refine l_aload_n C dL_law_2353 rfl 3 rfl ?_
  refine l_arg C (i := i) (j := 1) 1 6 rfl rfl rfl (by omega) dL_law_2354 dL_law_2355 dL_law_2357 dL_law_2358 dL_law_2359 ?_
  refine l_arg C (i := i) (j := 2) 1 6 rfl rfl rfl (by omega) dL_law_2360 dL_law_2361 dL_law_2363 dL_law_2364 dL_law_2365 ?_
  refine l_bool C dL_law_2366 dL_law_2369 dL_law_2370 dL_law_2373 ?_
  refine l_callV C (N := M_X7_turnsNeeded) (n := 2) (j1 := 0) (j2 := kb) (av := [.int (xs (i + 1)), .int (iI (tb (xs (i + 2))))]) (rest := []) (o := 24) rfl rfl (Nat.le_of_ble_eq_true rfl) rfl rfl hk i_X7_turnsNeeded rfl n_X7_turnsNeeded v_X7_turnsNeeded q_L_269 (by decide) (by omega) (Nat.le_of_ble_eq_true rfl) dL_law_2374 (fun _ _ h => h) (fun w υ hb => ?_)
  obtain ⟨x, rfl, hb⟩ := zQi_inl hb
  refine l_istore C (ls' := (7, .int x) :: (6, .int k) :: lb g b i) dL_law_2377 (by decide) rfl ?_
  exact l_tail C hb dL_law_2379 dL_law_2380 dL_law_2383 dL_law_2385 dL_law_2390 dL_law_2392 dL_law_2395 dL_law_2396 dL_law_2397 dL_law_2398 dL_law_2400 dL_law_2401 dL_law_2402 dL_law_2407 (by decide) kn
theorem w_fairest (C : LX g l p s m args meth c R b L xs) (hi : i + 6 ≤ L) (hJ : JI σ) (kn : ∀ υ, JI υ → LJ g l p e s m args below meth c R Z kb 3231 (lb g b i) [] υ) : LJ g l p e s m args below meth c R Z (kb + 2) 2410 (lb g b i) [] σ := by
  refine l_aload_n C dL_law_2410 rfl 1 rfl ?_
  refine l_arg C (i := i) (j := 1) 0 5 rfl rfl rfl (by omega) dL_law_2411 dL_law_2412 dL_law_2414 dL_law_2415 dL_law_2416 ?_
  refine l_aload_n C dL_law_2417 rfl 3 rfl ?_
  refine l_callSW C (N := M_L_fairest) (n := 3) (j1 := 1) (j2 := kb) (av := [.ref (zad g 0), .int (xs (i + 1)), .ref (zad g 41)]) (rest := []) rfl (p_fairest hJ) i_L_fairest rfl st_L_fairest q_L_270 (by decide) (by omega) (Nat.le_of_ble_eq_true rfl) dL_law_2418 (fun _ _ h => h) (fun v τ hk => ?_)
  obtain ⟨k, rfl, hk⟩ := zQi_inl hk
  refine l_istore C (ls' := (6, .int k) :: lb g b i) dL_law_2421 (by decide) rfl ?_
  refine l_aload_n C dL_law_2423 rfl 3 rfl ?_
  refine l_arg C (i := i) (j := 1) 1 6 rfl rfl rfl (by omega) dL_law_2424 dL_law_2425 dL_law_2427 dL_law_2428 dL_law_2429 ?_
  refine l_callV C (N := M_X7_fairest) (n := 1) (j1 := 0) (j2 := kb) (av := [.int (xs (i + 1))]) (rest := []) (o := 24) rfl rfl (Nat.le_of_ble_eq_true rfl) rfl rfl hk i_X7_fairest rfl n_X7_fairest v_X7_fairest q_L_272 (by decide) (by omega) (Nat.le_of_ble_eq_true rfl) dL_law_2430 (fun _ _ h => h) (fun w υ hb => ?_)
  obtain ⟨x, rfl, hb⟩ := zQi_inl hb
  refine l_istore C (ls' := (7, .int x) :: (6, .int k) :: lb g b i) dL_law_2433 (by decide) rfl ?_
  exact l_tail C hb dL_law_2435 dL_law_2436 dL_law_2439 dL_law_2441 dL_law_2446 dL_law_2448 dL_law_2451 dL_law_2452 dL_law_2453 dL_law_2454 dL_law_2456 dL_law_2457 dL_law_2458 dL_law_2463 (by decide) kn
theorem w_pull (C : LX g l p s m args meth c R b L xs) (hi : i + 6 ≤ L) (hJ : JI σ) (kn : ∀ υ, JI υ → LJ g l p e s m args below meth c R Z kb 3231 (lb g b i) [] υ) : LJ g l p e s m args below meth c R Z (kb + 2) 2466 (lb g b i) [] σ := by
  refine l_aload_n C dL_law_2466 rfl 1 rfl ?_
  refine l_arg C (i := i) (j := 1) 0 5 rfl rfl rfl (by omega) dL_law_2467 dL_law_2468 dL_law_2470 dL_law_2471 dL_law_2472 ?_
  refine l_aload_n C dL_law_2473 rfl 3 rfl ?_
  refine l_callSW C (N := M_L_pull) (n := 3) (j1 := 1) (j2 := kb) (av := [.ref (zad g 0), .int (xs (i + 1)), .ref (zad g 41)]) (rest := []) rfl (p_pull hJ) i_L_pull rfl st_L_pull q_L_273 (by decide) (by omega) (Nat.le_of_ble_eq_true rfl) dL_law_2474 (fun _ _ h => h) (fun v τ hk => ?_)
  obtain ⟨k, rfl, hk⟩ := zQi_inl hk
  refine l_istore C (ls' := (6, .int k) :: lb g b i) dL_law_2477 (by decide) rfl ?_
  refine l_aload_n C dL_law_2479 rfl 3 rfl ?_
  refine l_arg C (i := i) (j := 1) 1 6 rfl rfl rfl (by omega) dL_law_2480 dL_law_2481 dL_law_2483 dL_law_2484 dL_law_2485 ?_
  refine l_callV C (N := M_X7_pull) (n := 1) (j1 := 0) (j2 := kb) (av := [.int (xs (i + 1))]) (rest := []) (o := 24) rfl rfl (Nat.le_of_ble_eq_true rfl) rfl rfl hk i_X7_pull rfl n_X7_pull v_X7_pull q_L_275 (by decide) (by omega) (Nat.le_of_ble_eq_true rfl) dL_law_2486 (fun _ _ h => h) (fun w υ hb => ?_)
  obtain ⟨x, rfl, hb⟩ := zQi_inl hb
  refine l_istore C (ls' := (7, .int x) :: (6, .int k) :: lb g b i) dL_law_2489 (by decide) rfl ?_
  exact l_tail C hb dL_law_2491 dL_law_2492 dL_law_2495 dL_law_2497 dL_law_2502 dL_law_2504 dL_law_2507 dL_law_2508 dL_law_2509 dL_law_2510 dL_law_2512 dL_law_2513 dL_law_2514 dL_law_2519 (by decide) kn
theorem w_turn (C : LX g l p s m args meth c R b L xs) (hi : i + 6 ≤ L) (hJ : JI σ) (kn : ∀ υ, JI υ → LJ g l p e s m args below meth c R Z kb 3231 (lb g b i) [] υ) : LJ g l p e s m args below meth c R Z (kb + 2) 2522 (lb g b i) [] σ := by
  refine l_aload_n C dL_law_2522 rfl 1 rfl ?_
  refine l_arg C (i := i) (j := 1) 0 5 rfl rfl rfl (by omega) dL_law_2523 dL_law_2524 dL_law_2526 dL_law_2527 dL_law_2528 ?_
  refine l_arg C (i := i) (j := 2) 0 5 rfl rfl rfl (by omega) dL_law_2529 dL_law_2530 dL_law_2532 dL_law_2533 dL_law_2534 ?_
  refine l_aload_n C dL_law_2535 rfl 3 rfl ?_
  refine l_callSW C (N := M_L_turn) (n := 4) (j1 := 1) (j2 := kb) (av := [.ref (zad g 0), .int (xs (i + 1)), .int (xs (i + 2)), .ref (zad g 41)]) (rest := []) rfl (p_turn hJ) i_L_turn rfl st_L_turn q_L_276 (by decide) (by omega) (Nat.le_of_ble_eq_true rfl) dL_law_2536 (fun _ _ h => h) (fun v τ hk => ?_)
  obtain ⟨k, rfl, hk⟩ := zQi_inl hk
  refine l_istore C (ls' := (6, .int k) :: lb g b i) dL_law_2539 (by decide) rfl ?_
  refine l_aload_n C dL_law_2541 rfl 3 rfl ?_
  refine l_arg C (i := i) (j := 1) 1 6 rfl rfl rfl (by omega) dL_law_2542 dL_law_2543 dL_law_2545 dL_law_2546 dL_law_2547 ?_
  refine l_arg C (i := i) (j := 2) 1 6 rfl rfl rfl (by omega) dL_law_2548 dL_law_2549 dL_law_2551 dL_law_2552 dL_law_2553 ?_
  refine l_callV C (N := M_X7_turn) (n := 2) (j1 := 0) (j2 := kb) (av := [.int (xs (i + 1)), .int (xs (i + 2))]) (rest := []) (o := 24) rfl rfl (Nat.le_of_ble_eq_true rfl) rfl rfl hk i_X7_turn rfl n_X7_turn v_X7_turn q_L_278 (by decide) (by omega) (Nat.le_of_ble_eq_true rfl) dL_law_2554 (fun _ _ h => h) (fun w υ hb => ?_)
  obtain ⟨x, rfl, hb⟩ := zQi_inl hb
  refine l_istore C (ls' := (7, .int x) :: (6, .int k) :: lb g b i) dL_law_2557 (by decide) rfl ?_
  exact l_tail C hb dL_law_2559 dL_law_2560 dL_law_2563 dL_law_2565 dL_law_2570 dL_law_2572 dL_law_2575 dL_law_2576 dL_law_2577 dL_law_2578 dL_law_2580 dL_law_2581 dL_law_2582 dL_law_2587 (by decide) kn
theorem w_tie (C : LX g l p s m args meth c R b L xs) (hi : i + 6 ≤ L) (hJ : JI σ) (kn : ∀ υ, JI υ → LJ g l p e s m args below meth c R Z kb 3231 (lb g b i) [] υ) : LJ g l p e s m args below meth c R Z (kb + 2) 2590 (lb g b i) [] σ := by
  refine l_aload_n C dL_law_2590 rfl 1 rfl ?_
  refine l_arg C (i := i) (j := 1) 0 5 rfl rfl rfl (by omega) dL_law_2591 dL_law_2592 dL_law_2594 dL_law_2595 dL_law_2596 ?_
  refine l_arg C (i := i) (j := 2) 0 5 rfl rfl rfl (by omega) dL_law_2597 dL_law_2598 dL_law_2600 dL_law_2601 dL_law_2602 ?_
  refine l_bool C dL_law_2603 dL_law_2606 dL_law_2607 dL_law_2610 ?_
  refine l_aload_n C dL_law_2611 rfl 3 rfl ?_
  refine l_callSW C (N := M_L_tie) (n := 4) (j1 := 1) (j2 := kb) (av := [.ref (zad g 0), .int (xs (i + 1)), .int (iI (tb (xs (i + 2)))), .ref (zad g 41)]) (rest := []) rfl (p_tie hJ (tb_lt _)) i_L_tie rfl st_L_tie q_L_279 (by decide) (by omega) (Nat.le_of_ble_eq_true rfl) dL_law_2612 (fun _ _ h => h) (fun v τ hk => ?_)
  obtain ⟨k, rfl, hk⟩ := zQi_inl hk
  refine l_istore C (ls' := (6, .int k) :: lb g b i) dL_law_2615 (by decide) rfl ?_
  refine l_aload_n C dL_law_2617 rfl 3 rfl ?_
  refine l_arg C (i := i) (j := 1) 1 6 rfl rfl rfl (by omega) dL_law_2618 dL_law_2619 dL_law_2621 dL_law_2622 dL_law_2623 ?_
  refine l_arg C (i := i) (j := 2) 1 6 rfl rfl rfl (by omega) dL_law_2624 dL_law_2625 dL_law_2627 dL_law_2628 dL_law_2629 ?_
  refine l_bool C dL_law_2630 dL_law_2633 dL_law_2634 dL_law_2637 ?_
  refine l_callV C (N := M_X7_tie) (n := 2) (j1 := 0) (j2 := kb) (av := [.int (xs (i + 1)), .int (iI (tb (xs (i + 2))))]) (rest := []) (o := 24) rfl rfl (Nat.le_of_ble_eq_true rfl) rfl rfl hk i_X7_tie rfl n_X7_tie v_X7_tie q_L_281 (by decide) (by omega) (Nat.le_of_ble_eq_true rfl) dL_law_2638 (fun _ _ h => h) (fun w υ hb => ?_)
  obtain ⟨x, rfl, hb⟩ := zQi_inl hb
  refine l_istore C (ls' := (7, .int x) :: (6, .int k) :: lb g b i) dL_law_2641 (by decide) rfl ?_
  refine l_thr C (i := i) (q2 := 4) (q6 := 1) rfl rfl hb.1.2.1 dL_law_2643 dL_law_2644 dL_law_2647 dL_law_2649 ?_
  have fin : LJ g l p e s m args below meth c R Z kb 2678 ((7, .int x) :: (6, .int k) :: lb g b i) [] υ := l_goto C (tgt := 3231) dL_law_2678 (by decide) (l_ls [2, 3, 4, 5, 6, 7] rfl (kn υ hb.1.1))
  refine l_iload C dL_law_2654 1 rfl ?_
  refine l_if_ne C (tgt := 2678) dL_law_2656 (by decide) (fun _ => fin) (fun q => ?_)
  refine l_aload_n C dL_law_2659 rfl 5 rfl ?_
  refine l_iconst C dL_law_2660 (v := 0) rfl ?_
  refine l_lald C dL_law_2661 ?_
  refine l_iload C dL_law_2662 0 rfl ?_
  have hq := hb.1.2.2 q
  refine l_if_eq C (tgt := 2671) dL_law_2664 (by decide) (fun e0 => ?_) (fun e0 => ?_)
  · refine l_lconst C (v := 0) dL_law_2671 rfl ?_
    exact l_lcmp C dL_law_2672 (l_if_eq C (tgt := 2678) dL_law_2673 (by decide) (fun _ => fin) (fun q2 => absurd ((lg_cmp_eq _ _).mpr (by rw [hq, e0]; decide)) q2))
  · refine l_lconst C (v := 1) dL_law_2667 rfl ?_
    refine l_goto C (tgt := 2672) dL_law_2668 (by decide) ?_
    exact l_lcmp C dL_law_2672 (l_if_eq C (tgt := 2678) dL_law_2673 (by decide) (fun _ => fin) (fun q2 => absurd ((lg_cmp_eq _ _).mpr (by rw [hq, hb.2.resolve_left e0]; decide)) q2))
theorem w_paint (C : LX g l p s m args meth c R b L xs) (hi : i + 6 ≤ L) (hJ : JI σ) (kn : ∀ υ, JI υ → LJ g l p e s m args below meth c R Z kb 3231 (lb g b i) [] υ) : LJ g l p e s m args below meth c R Z (kb + 2) 2681 (lb g b i) [] σ := by
  refine l_aload_n C dL_law_2681 rfl 1 rfl ?_
  refine l_arg C (i := i) (j := 1) 0 5 rfl rfl rfl (by omega) dL_law_2682 dL_law_2683 dL_law_2685 dL_law_2686 dL_law_2687 ?_
  refine l_arg C (i := i) (j := 2) 0 5 rfl rfl rfl (by omega) dL_law_2688 dL_law_2689 dL_law_2691 dL_law_2692 dL_law_2693 ?_
  refine l_bool C dL_law_2694 dL_law_2697 dL_law_2698 dL_law_2701 ?_
  refine l_aload_n C dL_law_2702 rfl 3 rfl ?_
  refine l_callSW C (N := M_L_paint) (n := 4) (j1 := 1) (j2 := kb) (av := [.ref (zad g 0), .int (xs (i + 1)), .int (iI (tb (xs (i + 2)))), .ref (zad g 41)]) (rest := []) rfl (p_paint hJ (tb_lt _)) i_L_paint rfl st_L_paint q_L_282 (by decide) (by omega) (Nat.le_of_ble_eq_true rfl) dL_law_2703 (fun _ _ h => h) (fun v τ hk => ?_)
  obtain ⟨k, rfl, hk⟩ := zQi_inl hk
  refine l_istore C (ls' := (6, .int k) :: lb g b i) dL_law_2706 (by decide) rfl ?_
  refine l_aload_n C dL_law_2708 rfl 3 rfl ?_
  refine l_arg C (i := i) (j := 1) 1 6 rfl rfl rfl (by omega) dL_law_2709 dL_law_2710 dL_law_2712 dL_law_2713 dL_law_2714 ?_
  refine l_arg C (i := i) (j := 2) 1 6 rfl rfl rfl (by omega) dL_law_2715 dL_law_2716 dL_law_2718 dL_law_2719 dL_law_2720 ?_
  refine l_bool C dL_law_2721 dL_law_2724 dL_law_2725 dL_law_2728 ?_
  refine l_callV C (N := M_X7_paint) (n := 2) (j1 := 0) (j2 := kb) (av := [.int (xs (i + 1)), .int (iI (tb (xs (i + 2))))]) (rest := []) (o := 24) rfl rfl (Nat.le_of_ble_eq_true rfl) rfl rfl hk i_X7_paint rfl n_X7_paint v_X7_paint q_L_284 (by decide) (by omega) (Nat.le_of_ble_eq_true rfl) dL_law_2729 (fun _ _ h => h) (fun w υ hb => ?_)
  obtain ⟨x, rfl, hb⟩ := zQi_inl hb
  refine l_istore C (ls' := (7, .int x) :: (6, .int k) :: lb g b i) dL_law_2732 (by decide) rfl ?_
  exact l_tail C hb dL_law_2734 dL_law_2735 dL_law_2738 dL_law_2740 dL_law_2745 dL_law_2747 dL_law_2750 dL_law_2751 dL_law_2752 dL_law_2753 dL_law_2755 dL_law_2756 dL_law_2757 dL_law_2762 (by decide) kn
theorem w_dab (C : LX g l p s m args meth c R b L xs) (hi : i + 6 ≤ L) (hJ : JI σ) (kn : ∀ υ, JI υ → LJ g l p e s m args below meth c R Z kb 3231 (lb g b i) [] υ) : LJ g l p e s m args below meth c R Z (kb + 2) 2765 (lb g b i) [] σ := by
  refine l_aload_n C dL_law_2765 rfl 1 rfl ?_
  refine l_arg C (i := i) (j := 1) 0 5 rfl rfl rfl (by omega) dL_law_2766 dL_law_2767 dL_law_2769 dL_law_2770 dL_law_2771 ?_
  refine l_arg C (i := i) (j := 2) 0 5 rfl rfl rfl (by omega) dL_law_2772 dL_law_2773 dL_law_2775 dL_law_2776 dL_law_2777 ?_
  refine l_bool C dL_law_2778 dL_law_2781 dL_law_2782 dL_law_2785 ?_
  refine l_arg C (i := i) (j := 3) 0 5 rfl rfl rfl (by omega) dL_law_2786 dL_law_2787 dL_law_2789 dL_law_2790 dL_law_2791 ?_
  refine l_arg C (i := i) (j := 4) 0 5 rfl rfl rfl (by omega) dL_law_2792 dL_law_2793 dL_law_2795 dL_law_2796 dL_law_2797 ?_
  refine l_arg C (i := i) (j := 5) 0 5 rfl rfl rfl (by omega) dL_law_2798 dL_law_2799 dL_law_2801 dL_law_2802 dL_law_2803 ?_
  refine l_aload_n C dL_law_2804 rfl 3 rfl ?_
  refine l_callSW C (N := M_L_dab) (n := 7) (j1 := 1) (j2 := kb) (av := [.ref (zad g 0), .int (xs (i + 1)), .int (iI (tb (xs (i + 2)))), .int (xs (i + 3)), .int (xs (i + 4)), .int (xs (i + 5)), .ref (zad g 41)]) (rest := []) rfl (p_dab hJ (tb_lt _)) i_L_dab rfl st_L_dab q_L_285 (by decide) (by omega) (Nat.le_of_ble_eq_true rfl) dL_law_2805 (fun _ _ h => h) (fun v τ hk => ?_)
  obtain ⟨k, rfl, hk⟩ := zQi_inl hk
  refine l_istore C (ls' := (6, .int k) :: lb g b i) dL_law_2808 (by decide) rfl ?_
  refine l_aload_n C dL_law_2810 rfl 3 rfl ?_
  refine l_arg C (i := i) (j := 1) 1 6 rfl rfl rfl (by omega) dL_law_2811 dL_law_2812 dL_law_2814 dL_law_2815 dL_law_2816 ?_
  refine l_arg C (i := i) (j := 2) 1 6 rfl rfl rfl (by omega) dL_law_2817 dL_law_2818 dL_law_2820 dL_law_2821 dL_law_2822 ?_
  refine l_bool C dL_law_2823 dL_law_2826 dL_law_2827 dL_law_2830 ?_
  refine l_arg C (i := i) (j := 3) 1 6 rfl rfl rfl (by omega) dL_law_2831 dL_law_2832 dL_law_2834 dL_law_2835 dL_law_2836 ?_
  refine l_arg C (i := i) (j := 4) 1 6 rfl rfl rfl (by omega) dL_law_2837 dL_law_2838 dL_law_2840 dL_law_2841 dL_law_2842 ?_
  refine l_arg C (i := i) (j := 5) 1 6 rfl rfl rfl (by omega) dL_law_2843 dL_law_2844 dL_law_2846 dL_law_2847 dL_law_2848 ?_
  refine l_callV C (N := M_X7_dab) (n := 5) (j1 := 0) (j2 := kb) (av := [.int (xs (i + 1)), .int (iI (tb (xs (i + 2)))), .int (xs (i + 3)), .int (xs (i + 4)), .int (xs (i + 5))]) (rest := []) (o := 24) rfl rfl (Nat.le_of_ble_eq_true rfl) rfl rfl hk i_X7_dab rfl n_X7_dab v_X7_dab q_L_288 (by decide) (by omega) (Nat.le_of_ble_eq_true rfl) dL_law_2849 (fun _ _ h => h) (fun w υ hb => ?_)
  obtain ⟨x, rfl, hb⟩ := zQi_inl hb
  refine l_istore C (ls' := (7, .int x) :: (6, .int k) :: lb g b i) dL_law_2852 (by decide) rfl ?_
  exact l_tail C hb dL_law_2854 dL_law_2855 dL_law_2858 dL_law_2860 dL_law_2865 dL_law_2867 dL_law_2870 dL_law_2871 dL_law_2872 dL_law_2873 dL_law_2875 dL_law_2876 dL_law_2877 dL_law_2882 (by decide) kn
theorem w_swap (C : LX g l p s m args meth c R b L xs) (hi : i + 6 ≤ L) (hJ : JI σ) (kn : ∀ υ, JI υ → LJ g l p e s m args below meth c R Z kb 3231 (lb g b i) [] υ) : LJ g l p e s m args below meth c R Z (kb + 2) 2885 (lb g b i) [] σ := by
  refine l_aload_n C dL_law_2885 rfl 1 rfl ?_
  refine l_arg C (i := i) (j := 1) 0 5 rfl rfl rfl (by omega) dL_law_2886 dL_law_2887 dL_law_2889 dL_law_2890 dL_law_2891 ?_
  refine l_aload_n C dL_law_2892 rfl 3 rfl ?_
  refine l_callSW C (N := M_L_swap) (n := 3) (j1 := 1) (j2 := kb) (av := [.ref (zad g 0), .int (xs (i + 1)), .ref (zad g 41)]) (rest := []) rfl (p_swap hJ) i_L_swap rfl st_L_swap q_L_289 (by decide) (by omega) (Nat.le_of_ble_eq_true rfl) dL_law_2893 (fun _ _ h => h) (fun v τ hk => ?_)
  obtain ⟨k, rfl, hk⟩ := zQi_inl hk
  refine l_istore C (ls' := (6, .int k) :: lb g b i) dL_law_2896 (by decide) rfl ?_
  refine l_aload_n C dL_law_2898 rfl 3 rfl ?_
  refine l_arg C (i := i) (j := 1) 1 6 rfl rfl rfl (by omega) dL_law_2899 dL_law_2900 dL_law_2902 dL_law_2903 dL_law_2904 ?_
  refine l_callV C (N := M_X7_swap) (n := 1) (j1 := 0) (j2 := kb) (av := [.int (xs (i + 1))]) (rest := []) (o := 24) rfl rfl (Nat.le_of_ble_eq_true rfl) rfl rfl hk i_X7_swap rfl n_X7_swap v_X7_swap q_L_291 (by decide) (by omega) (Nat.le_of_ble_eq_true rfl) dL_law_2905 (fun _ _ h => h) (fun w υ hb => ?_)
  obtain ⟨x, rfl, hb⟩ := zQi_inl hb
  refine l_istore C (ls' := (7, .int x) :: (6, .int k) :: lb g b i) dL_law_2908 (by decide) rfl ?_
  exact l_tail C hb dL_law_2910 dL_law_2911 dL_law_2914 dL_law_2916 dL_law_2921 dL_law_2923 dL_law_2926 dL_law_2927 dL_law_2928 dL_law_2929 dL_law_2931 dL_law_2932 dL_law_2933 dL_law_2938 (by decide) kn
theorem w_spot (C : LX g l p s m args meth c R b L xs) (hi : i + 6 ≤ L) (hJ : JI σ) (kn : ∀ υ, JI υ → LJ g l p e s m args below meth c R Z kb 3231 (lb g b i) [] υ) : LJ g l p e s m args below meth c R Z (kb + 2) 2941 (lb g b i) [] σ := by
  refine l_aload_n C dL_law_2941 rfl 1 rfl ?_
  refine l_arg C (i := i) (j := 1) 0 5 rfl rfl rfl (by omega) dL_law_2942 dL_law_2943 dL_law_2945 dL_law_2946 dL_law_2947 ?_
  refine l_bool C dL_law_2948 dL_law_2951 dL_law_2952 dL_law_2955 ?_
  refine l_arg C (i := i) (j := 2) 0 5 rfl rfl rfl (by omega) dL_law_2956 dL_law_2957 dL_law_2959 dL_law_2960 dL_law_2961 ?_
  refine l_arg C (i := i) (j := 3) 0 5 rfl rfl rfl (by omega) dL_law_2962 dL_law_2963 dL_law_2965 dL_law_2966 dL_law_2967 ?_
  refine l_arg C (i := i) (j := 4) 0 5 rfl rfl rfl (by omega) dL_law_2968 dL_law_2969 dL_law_2971 dL_law_2972 dL_law_2973 ?_
  refine l_aload_n C dL_law_2974 rfl 3 rfl ?_
  refine l_callSW C (N := M_L_spot) (n := 6) (j1 := 1) (j2 := kb) (av := [.ref (zad g 0), .int (iI (tb (xs (i + 1)))), .int (xs (i + 2)), .int (xs (i + 3)), .int (xs (i + 4)), .ref (zad g 41)]) (rest := []) rfl (p_spot hJ (tb_lt _)) i_L_spot rfl st_L_spot q_L_292 (by decide) (by omega) (Nat.le_of_ble_eq_true rfl) dL_law_2975 (fun _ _ h => h) (fun v τ hk => ?_)
  obtain ⟨k, rfl, hk⟩ := zQi_inl hk
  refine l_istore C (ls' := (6, .int k) :: lb g b i) dL_law_2978 (by decide) rfl ?_
  refine l_aload_n C dL_law_2980 rfl 3 rfl ?_
  refine l_arg C (i := i) (j := 1) 1 6 rfl rfl rfl (by omega) dL_law_2981 dL_law_2982 dL_law_2984 dL_law_2985 dL_law_2986 ?_
  refine l_bool C dL_law_2987 dL_law_2990 dL_law_2991 dL_law_2994 ?_
  refine l_arg C (i := i) (j := 2) 1 6 rfl rfl rfl (by omega) dL_law_2995 dL_law_2996 dL_law_2998 dL_law_2999 dL_law_3000 ?_
  refine l_arg C (i := i) (j := 3) 1 6 rfl rfl rfl (by omega) dL_law_3001 dL_law_3002 dL_law_3004 dL_law_3005 dL_law_3006 ?_
  refine l_arg C (i := i) (j := 4) 1 6 rfl rfl rfl (by omega) dL_law_3007 dL_law_3008 dL_law_3010 dL_law_3011 dL_law_3012 ?_
  refine l_callV C (N := M_X7_spot) (n := 4) (j1 := 0) (j2 := kb) (av := [.int (iI (tb (xs (i + 1)))), .int (xs (i + 2)), .int (xs (i + 3)), .int (xs (i + 4))]) (rest := []) (o := 24) rfl rfl (Nat.le_of_ble_eq_true rfl) rfl rfl hk i_X7_spot rfl n_X7_spot v_X7_spot q_L_295 (by decide) (by omega) (Nat.le_of_ble_eq_true rfl) dL_law_3013 (fun _ _ h => h) (fun w υ hb => ?_)
  obtain ⟨x, rfl, hb⟩ := zQi_inl hb
  refine l_istore C (ls' := (7, .int x) :: (6, .int k) :: lb g b i) dL_law_3016 (by decide) rfl ?_
  exact l_tail C hb dL_law_3018 dL_law_3019 dL_law_3022 dL_law_3024 dL_law_3029 dL_law_3031 dL_law_3034 dL_law_3035 dL_law_3036 dL_law_3037 dL_law_3039 dL_law_3040 dL_law_3041 dL_law_3046 (by decide) kn
theorem w_report (C : LX g l p s m args meth c R b L xs) (hi : i + 6 ≤ L) (hJ : JI σ) (kn : ∀ υ, JI υ → LJ g l p e s m args below meth c R Z kb 3231 (lb g b i) [] υ) : LJ g l p e s m args below meth c R Z (kb + 2) 3049 (lb g b i) [] σ := by
  refine l_aload_n C dL_law_3049 rfl 1 rfl ?_
  refine l_arg C (i := i) (j := 1) 0 5 rfl rfl rfl (by omega) dL_law_3050 dL_law_3051 dL_law_3053 dL_law_3054 dL_law_3055 ?_
  refine l_aload_n C dL_law_3056 rfl 3 rfl ?_
  refine l_callSW C (N := M_L_report) (n := 3) (j1 := 1) (j2 := kb) (av := [.ref (zad g 0), .int (xs (i + 1)), .ref (zad g 41)]) (rest := []) rfl (p_report hJ) i_L_report rfl st_L_report q_L_296 (by decide) (by omega) (Nat.le_of_ble_eq_true rfl) dL_law_3057 (fun _ _ h => h) (fun v τ hk => ?_)
  obtain ⟨k, rfl, hk⟩ := zQi_inl hk
  refine l_istore C (ls' := (6, .int k) :: lb g b i) dL_law_3060 (by decide) rfl ?_
  refine l_aload_n C dL_law_3062 rfl 3 rfl ?_
  refine l_arg C (i := i) (j := 1) 1 6 rfl rfl rfl (by omega) dL_law_3063 dL_law_3064 dL_law_3066 dL_law_3067 dL_law_3068 ?_
  refine l_callV C (N := M_X7_report) (n := 1) (j1 := 0) (j2 := kb) (av := [.int (xs (i + 1))]) (rest := []) (o := 24) rfl rfl (Nat.le_of_ble_eq_true rfl) rfl rfl hk i_X7_report rfl n_X7_report v_X7_report q_L_298 (by decide) (by omega) (Nat.le_of_ble_eq_true rfl) dL_law_3069 (fun _ _ h => h) (fun w υ hb => ?_)
  obtain ⟨x, rfl, hb⟩ := zQi_inl hb
  refine l_istore C (ls' := (7, .int x) :: (6, .int k) :: lb g b i) dL_law_3072 (by decide) rfl ?_
  exact l_tail C hb dL_law_3074 dL_law_3075 dL_law_3078 dL_law_3080 dL_law_3085 dL_law_3087 dL_law_3090 dL_law_3091 dL_law_3092 dL_law_3093 dL_law_3095 dL_law_3096 dL_law_3097 dL_law_3102 (by decide) kn
theorem w_reportByte (C : LX g l p s m args meth c R b L xs) (hi : i + 6 ≤ L) (hJ : JI σ) (kn : ∀ υ, JI υ → LJ g l p e s m args below meth c R Z kb 3231 (lb g b i) [] υ) : LJ g l p e s m args below meth c R Z (kb + 2) 3105 (lb g b i) [] σ := by
  refine l_aload_n C dL_law_3105 rfl 1 rfl ?_
  refine l_arg C (i := i) (j := 1) 0 5 rfl rfl rfl (by omega) dL_law_3106 dL_law_3107 dL_law_3109 dL_law_3110 dL_law_3111 ?_
  refine l_aload_n C dL_law_3112 rfl 3 rfl ?_
  refine l_callSW C (N := M_L_reportByte) (n := 3) (j1 := 1) (j2 := kb) (av := [.ref (zad g 0), .int (xs (i + 1)), .ref (zad g 41)]) (rest := []) rfl (p_reportByte hJ) i_L_reportByte rfl st_L_reportByte q_L_299 (by decide) (by omega) (Nat.le_of_ble_eq_true rfl) dL_law_3113 (fun _ _ h => h) (fun v τ hk => ?_)
  obtain ⟨k, rfl, hk⟩ := zQi_inl hk
  refine l_istore C (ls' := (6, .int k) :: lb g b i) dL_law_3116 (by decide) rfl ?_
  refine l_aload_n C dL_law_3118 rfl 3 rfl ?_
  refine l_arg C (i := i) (j := 1) 1 6 rfl rfl rfl (by omega) dL_law_3119 dL_law_3120 dL_law_3122 dL_law_3123 dL_law_3124 ?_
  refine l_callV C (N := M_X7_reportByte) (n := 1) (j1 := 0) (j2 := kb) (av := [.int (xs (i + 1))]) (rest := []) (o := 24) rfl rfl (Nat.le_of_ble_eq_true rfl) rfl rfl hk i_X7_reportByte rfl n_X7_reportByte v_X7_reportByte q_L_301 (by decide) (by omega) (Nat.le_of_ble_eq_true rfl) dL_law_3125 (fun _ _ h => h) (fun w υ hb => ?_)
  obtain ⟨x, rfl, hb⟩ := zQi_inl hb
  refine l_istore C (ls' := (7, .int x) :: (6, .int k) :: lb g b i) dL_law_3128 (by decide) rfl ?_
  exact l_tail C hb dL_law_3130 dL_law_3131 dL_law_3134 dL_law_3136 dL_law_3141 dL_law_3143 dL_law_3146 dL_law_3147 dL_law_3148 dL_law_3149 dL_law_3151 dL_law_3152 dL_law_3153 dL_law_3158 (by decide) kn
theorem w_undo (C : LX g l p s m args meth c R b L xs) (hi : i + 6 ≤ L) (hJ : JI σ) (kn : ∀ υ, JI υ → LJ g l p e s m args below meth c R Z kb 3231 (lb g b i) [] υ) : LJ g l p e s m args below meth c R Z (kb + 2) 3161 (lb g b i) [] σ := by
  refine l_aload_n C dL_law_3161 rfl 1 rfl ?_
  refine l_callV C (N := M_X6_undo) (n := 0) (j1 := 0) (j2 := kb) (av := []) (rest := []) (o := 0) rfl rfl (Nat.le_of_ble_eq_true rfl) rfl rfl (p_undo hJ) i_X6_undo rfl n_X6_undo v_X6_undo q_L_302 (by decide) (by omega) (Nat.le_of_ble_eq_true rfl) dL_law_3162 (fun _ _ h => h) (fun v τ hk => ?_)
  obtain ⟨v, rfl, hk⟩ := zQi_inl hk
  refine l_aload_n C dL_law_3165 rfl 2 rfl ?_
  refine l_callV C (N := M_X7_undo) (n := 0) (j1 := 0) (j2 := kb) (av := []) (rest := [.int v]) (o := 24) rfl rfl (Nat.le_of_ble_eq_true rfl) rfl rfl hk i_X7_undo rfl n_X7_undo v_X7_undo q_L_305 (by decide) (by omega) (Nat.le_of_ble_eq_true rfl) dL_law_3166 (fun _ _ h => h) (fun w υ hb => ?_)
  obtain ⟨x, rfl, hJ2, rfl⟩ := zQi_inl hb
  exact l_icmp_eq C (tgt := 3231) dL_law_3169 (by decide) (fun _ => kn υ hJ2) (fun q => absurd rfl q)
theorem w_save (C : LX g l p s m args meth c R b L xs) (hi : i + 6 ≤ L) (hJ : JI σ) (kn : ∀ υ, JI υ → LJ g l p e s m args below meth c R Z kb 3231 (lb g b i) [] υ) : LJ g l p e s m args below meth c R Z (kb + 2) 3174 (lb g b i) [] σ := by
  refine l_aload_n C dL_law_3174 rfl 1 rfl ?_
  refine l_callV C (N := M_X6_save) (n := 0) (j1 := 0) (j2 := kb) (av := []) (rest := []) (o := 0) rfl rfl (Nat.le_of_ble_eq_true rfl) rfl rfl (p_save hJ) i_X6_save rfl n_X6_save v_X6_save q_L_306 (by decide) (by omega) (Nat.le_of_ble_eq_true rfl) dL_law_3175 (fun _ _ h => h) (fun v τ hk => ?_)
  obtain ⟨v, rfl, hk⟩ := zQi_inl hk
  refine l_aload_n C dL_law_3178 rfl 2 rfl ?_
  refine l_callV C (N := M_X7_save) (n := 0) (j1 := 0) (j2 := kb) (av := []) (rest := [.int v]) (o := 24) rfl rfl (Nat.le_of_ble_eq_true rfl) rfl rfl hk i_X7_save rfl n_X7_save v_X7_save q_L_309 (by decide) (by omega) (Nat.le_of_ble_eq_true rfl) dL_law_3179 (fun _ _ h => h) (fun w υ hb => ?_)
  obtain ⟨x, rfl, hJ2, rfl⟩ := zQi_inl hb
  exact l_icmp_eq C (tgt := 3231) dL_law_3182 (by decide) (fun _ => kn υ hJ2) (fun q => absurd rfl q)
theorem w_restore (C : LX g l p s m args meth c R b L xs) (hi : i + 6 ≤ L) (hJ : JI σ) (kn : ∀ υ, JI υ → LJ g l p e s m args below meth c R Z kb 3231 (lb g b i) [] υ) : LJ g l p e s m args below meth c R Z (kb + 2) 3187 (lb g b i) [] σ := by
  refine l_aload_n C dL_law_3187 rfl 1 rfl ?_
  refine l_aload_n C dL_law_3188 rfl 3 rfl ?_
  refine l_callSW C (N := M_L_restore) (n := 2) (j1 := 1) (j2 := kb) (av := [.ref (zad g 0), .ref (zad g 41)]) (rest := []) rfl (p_restore hJ) i_L_restore rfl st_L_restore q_L_310 (by decide) (by omega) (Nat.le_of_ble_eq_true rfl) dL_law_3189 (fun _ _ h => h) (fun v τ hk => ?_)
  obtain ⟨k, rfl, hk⟩ := zQi_inl hk
  refine l_istore C (ls' := (6, .int k) :: lb g b i) dL_law_3192 (by decide) rfl ?_
  refine l_aload_n C dL_law_3194 rfl 3 rfl ?_
  refine l_callV C (N := M_X7_restore) (n := 0) (j1 := 0) (j2 := kb) (av := []) (rest := []) (o := 24) rfl rfl (Nat.le_of_ble_eq_true rfl) rfl rfl hk i_X7_restore rfl n_X7_restore v_X7_restore q_L_312 (by decide) (by omega) (Nat.le_of_ble_eq_true rfl) dL_law_3195 (fun _ _ h => h) (fun w υ hb => ?_)
  obtain ⟨x, rfl, hb⟩ := zQi_inl hb
  refine l_istore C (ls' := (7, .int x) :: (6, .int k) :: lb g b i) dL_law_3198 (by decide) rfl ?_
  exact l_tail C hb dL_law_3200 dL_law_3201 dL_law_3204 dL_law_3206 dL_law_3211 dL_law_3213 dL_law_3216 dL_law_3217 dL_law_3218 dL_law_3219 dL_law_3221 dL_law_3222 dL_law_3223 dL_law_3228 (by decide) kn
def tg : List Nat := [248, 352, 408, 452, 496, 509, 522, 578, 646, 702, 798, 906, 919, 999, 1107, 1191, 1247, 1303, 1359, 1443, 1499, 1540, 1596, 1652, 1736, 1820, 1861, 1902, 1980, 2049, 2062, 2158, 2242, 2326, 2410, 2466, 2522, 2590, 2681, 2765, 2885, 2941, 3049, 3105, 3161, 3174, 3187]
theorem w_all (C : LX g l p s m args meth c R b L xs) (hi : i + 6 ≤ L) (hJ : JI σ) (kn : ∀ υ, JI υ → LJ g l p e s m args below meth c R Z kb 3231 (lb g b i) [] υ) : ∀ n, n < 47 → LJ g l p e s m args below meth c R Z (kb + 2) (tg.getD n 0) (lb g b i) [] σ
  | 0, _ => w_feed C hi hJ kn
  | 1, _ => w_truncate C hi hJ kn
  | 2, _ => w_readText C hi hJ kn
  | 3, _ => w_runScript C hi hJ kn
  | 4, _ => w_errorCode C hi hJ kn
  | 5, _ => w_errorPosition C hi hJ kn
  | 6, _ => w_setting C hi hJ kn
  | 7, _ => w_slat C hi hJ kn
  | 8, _ => w_slatAt C hi hJ kn
  | 9, _ => w_picture C hi hJ kn
  | 10, _ => w_face C hi hJ kn
  | 11, _ => w_common C hi hJ kn
  | 12, _ => w_seen C hi hJ kn
  | 13, _ => w_why C hi hJ kn
  | 14, _ => w_right C hi hJ kn
  | 15, _ => w_open C hi hJ kn
  | 16, _ => w_covered C hi hJ kn
  | 17, _ => w_whole C hi hJ kn
  | 18, _ => w_firstWrong C hi hJ kn
  | 19, _ => w_shownFrom C hi hJ kn
  | 20, _ => w_bestAngle C hi hJ kn
  | 21, _ => w_seam C hi hJ kn
  | 22, _ => w_run C hi hJ kn
  | 23, _ => w_worstSlat C hi hJ kn
  | 24, _ => w_ghosts C hi hJ kn
  | 25, _ => w_paintable C hi hJ kn
  | 26, _ => w_span C hi hJ kn
  | 27, _ => w_light C hi hJ kn
  | 28, _ => w_meanRight C hi hJ kn
  | 29, _ => w_lightest C hi hJ kn
  | 30, _ => w_bestTurn C hi hJ kn
  | 31, _ => w_bestPull C hi hJ kn
  | 32, _ => w_dabs C hi hJ kn
  | 33, _ => w_turnsNeeded C hi hJ kn
  | 34, _ => w_fairest C hi hJ kn
  | 35, _ => w_pull C hi hJ kn
  | 36, _ => w_turn C hi hJ kn
  | 37, _ => w_tie C hi hJ kn
  | 38, _ => w_paint C hi hJ kn
  | 39, _ => w_dab C hi hJ kn
  | 40, _ => w_swap C hi hJ kn
  | 41, _ => w_spot C hi hJ kn
  | 42, _ => w_report C hi hJ kn
  | 43, _ => w_reportByte C hi hJ kn
  | 44, _ => w_undo C hi hJ kn
  | 45, _ => w_save C hi hJ kn
  | 46, _ => w_restore C hi hJ kn
  | n + 47, h => absurd h (by omega)
theorem tg_off : ∀ n, n < 47 → (#[203, 307, 363, 407, 451, 464, 477, 533, 601, 657, 753, 861, 874, 954, 1062, 1146, 1202, 1258, 1314, 1398, 1454, 1495, 1551, 1607, 1691, 1775, 1816, 1857, 1935, 2004, 2017, 2113, 2197, 2281, 2365, 2421, 2477, 2545, 2636, 2720, 2840, 2896, 3004, 3060, 3116, 3129, 3142] : Array Int)[n]? = some (((tg.getD n 0 : Nat) : Int) - 45) := by decide
end ZLc
