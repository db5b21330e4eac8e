/-! The law, case by case. (written by lawgen.py) -/
section LC
variable {x : vX} {σ : vW} {N i n m K k l : Nat} {q : Nat → Int32}
set_option maxHeartbeats 1000000 in
theorem L_feed (G : vG x RL cL_law 4 (some .boolean) 9) (S : sX x N q) (hi : i + 5 ≤ N) (hN : N ≤ 2560) (R : Rel σ σ n m K k l) (kk : ∀ (s : vW) (n m K k l : Nat), Rel s s n m K k l → V x 1597 [some (.ref 115), some (.ref 0), some (.ref 75), some (.int (nI i))] [] s) : V x 220 [some (.ref 115), some (.ref 0), some (.ref 75), some (.int (nI i))] [] σ := by
  refine v_aload_n (i := 1) G dL_law_220 rfl rfl ?_
  refine l_arg (j := 1) G S (by omega) hN (by decide) dL_law_221 dL_law_222 dL_law_223 dL_law_224 dL_law_225 ?_
  refine v_cV1 G (C_X5_feed R.2.2.2.1.1 R.2.2.2.1.2.1) (by decide) md_X5_feed in_X5_feed (rv_X5 rfl) ml_L_13 (Nat.le_of_ble_eq_true rfl) dL_law_226 ?_
  have hF : fP (feedW σ l (q (i + 1))) σ := (by repeat' (first | with_reducible (first | assumption | exact fP.rfl | apply fp_feedW | apply fP.ite) | omega))
  have R1 : Rel σ (feedW σ l (q (i + 1))) n m K k l := R.mid hF
  refine v_aload_n (i := 2) G dL_law_229 rfl rfl ?_
  refine l_arg (j := 1) G S (by omega) hN (by decide) dL_law_230 dL_law_231 dL_law_232 dL_law_233 dL_law_234 ?_
  refine v_cP1 G (Ctr.here (C_X6_feed R1.2.2.2.1.2.2.1 R1.2.2.2.1.2.1)) (by decide) md_X6_feed in_X6_feed (rv_X6 rfl) ml_L_17 (Nat.le_of_ble_eq_true rfl) dL_law_235 ?_
  rintro _ _ ⟨rfl, rfl⟩
  obtain ⟨he, w2, R2⟩ := feed_eq R1 (c := q (i + 1))
  refine v_icmp_eq (tgt := 1597) G dL_law_238 rfl (fun _ => kk _ _ _ _ _ _ (R2.after (by repeat' (first | with_reducible (first | assumption | exact fM.rfl | apply fm_mFeedW | apply fm_mText | apply fm_mBldV | apply fm_mPlnV | apply fm_mHgW | apply fm_mFlW | apply fm_mSeeV | apply fm_mBackW | apply fm_mShtW | apply fm_mLayW | apply fm_mReadW | apply fm_cpW | apply fM.set | apply fM.ite) | omega)) rfl)) (fun h => absurd ?_ h)
  exact he
set_option maxHeartbeats 1000000 in
theorem L_end (G : vG x RL cL_law 4 (some .boolean) 9) (S : sX x N q) (hi : i + 5 ≤ N) (hN : N ≤ 2560) (R : Rel σ σ n m K k l) (kk : ∀ (s : vW) (n m K k l : Nat), Rel s s n m K k l → V x 1597 [some (.ref 115), some (.ref 0), some (.ref 75), some (.int (nI i))] [] s) : V x 243 [some (.ref 115), some (.ref 0), some (.ref 75), some (.int (nI i))] [] σ := by
  refine v_aload_n (i := 1) G dL_law_243 rfl rfl ?_
  refine l_arg (j := 1) G S (by omega) hN (by decide) dL_law_244 dL_law_245 dL_law_246 dL_law_247 dL_law_248 ?_
  refine v_cV1 G C_X5_end (by decide) md_X5_end in_X5_end (rv_X5 rfl) ml_L_18 (Nat.le_of_ble_eq_true rfl) dL_law_249 ?_
  have hF : fP (endW σ (q (i + 1))) σ := (by repeat' (first | with_reducible (first | assumption | exact fP.rfl | apply fp_endW | apply fP.ite) | omega))
  have R1 : Rel σ (endW σ (q (i + 1))) n m K k l := R.mid hF
  refine v_aload_n (i := 2) G dL_law_252 rfl rfl ?_
  refine l_arg (j := 1) G S (by omega) hN (by decide) dL_law_253 dL_law_254 dL_law_255 dL_law_256 dL_law_257 ?_
  refine v_cP1 G (Ctr.here (C_X6_end R1.2.2.2.1.2.2.1 R1.2.2.2.1.2.1)) (by decide) md_X6_end in_X6_end (rv_X6 rfl) ml_L_21 (Nat.le_of_ble_eq_true rfl) dL_law_258 ?_
  rintro _ _ ⟨rfl, rfl⟩
  obtain ⟨he, w2, R2⟩ := end_eq R1 (c := q (i + 1))
  refine v_icmp_eq (tgt := 1597) G dL_law_261 rfl (fun _ => kk _ _ _ _ _ _ (R2.after (by repeat' (first | with_reducible (first | assumption | exact fM.rfl | apply fm_mFeedW | apply fm_mText | apply fm_mBldV | apply fm_mPlnV | apply fm_mHgW | apply fm_mFlW | apply fm_mSeeV | apply fm_mBackW | apply fm_mShtW | apply fm_mLayW | apply fm_mReadW | apply fm_cpW | apply fM.set | apply fM.ite) | omega)) rfl)) (fun h => absurd ?_ h)
  exact he
set_option maxHeartbeats 1000000 in
theorem L_text (G : vG x RL cL_law 4 (some .boolean) 9) (S : sX x N q) (hi : i + 5 ≤ N) (hN : N ≤ 2560) (R : Rel σ σ n m K k l) (kk : ∀ (s : vW) (n m K k l : Nat), Rel s s n m K k l → V x 1597 [some (.ref 115), some (.ref 0), some (.ref 75), some (.int (nI i))] [] s) : V x 266 [some (.ref 115), some (.ref 0), some (.ref 75), some (.int (nI i))] [] σ := by
  refine v_aload_n (i := 1) G dL_law_266 rfl rfl ?_
  refine v_cV0 G (C_X5_text R.2.2.2.1.1 R.2.2.2.1.2.1) (by decide) md_X5_text in_X5_text (rv_X5 rfl) ml_L_22 (Nat.le_of_ble_eq_true rfl) dL_law_267 ?_
  have hF : fP (ptW (raW σ)) σ := (by repeat' (first | with_reducible (first | assumption | exact fP.rfl | apply fp_ptW | apply fp_raW | apply fP.ite) | omega))
  have R1 : Rel σ (ptW (raW σ)) n m K k l := R.mid hF
  refine v_aload_n (i := 2) G dL_law_270 rfl rfl ?_
  refine v_cP0 G (Ctr.here (C_X6_text R1.2.2.2.1.2.2.1 R1.2.2.2.1.2.1 R1.2.2.2.2.2.2.2.1)) (by decide) md_X6_text in_X6_text (rv_X6 rfl) ml_L_26 (Nat.le_of_ble_eq_true rfl) dL_law_271 ?_
  rintro _ _ ⟨rfl, rfl⟩
  obtain ⟨he, n2, m2, K2, k2, l2, R2⟩ := text_eq R1
  refine v_icmp_eq (tgt := 1597) G dL_law_274 rfl (fun _ => kk _ _ _ _ _ _ (R2.after (by repeat' (first | with_reducible (first | assumption | exact fM.rfl | apply fm_mFeedW | apply fm_mText | apply fm_mBldV | apply fm_mPlnV | apply fm_mHgW | apply fm_mFlW | apply fm_mSeeV | apply fm_mBackW | apply fm_mShtW | apply fm_mLayW | apply fm_mReadW | apply fm_cpW | apply fM.set | apply fM.ite) | omega)) rfl)) (fun h => absurd ?_ h)
  exact he
set_option maxHeartbeats 1000000 in
theorem L_fault (G : vG x RL cL_law 4 (some .boolean) 9) (S : sX x N q) (hi : i + 5 ≤ N) (hN : N ≤ 2560) (R : Rel σ σ n m K k l) (kk : ∀ (s : vW) (n m K k l : Nat), Rel s s n m K k l → V x 1597 [some (.ref 115), some (.ref 0), some (.ref 75), some (.int (nI i))] [] s) : V x 279 [some (.ref 115), some (.ref 0), some (.ref 75), some (.int (nI i))] [] σ := by
  refine v_aload_n (i := 1) G dL_law_279 rfl rfl ?_
  refine v_cV0 G C_X5_fault (by decide) md_X5_fault in_X5_fault (rv_X5 rfl) ml_L_27 (Nat.le_of_ble_eq_true rfl) dL_law_280 ?_
  have R1 : Rel σ σ n m K k l := R
  refine v_aload_n (i := 2) G dL_law_283 rfl rfl ?_
  refine v_cP0 G (Ctr.here (C_X6_fault)) (by decide) md_X6_fault in_X6_fault (rv_X6 rfl) ml_L_30 (Nat.le_of_ble_eq_true rfl) dL_law_284 ?_
  rintro _ _ ⟨rfl, rfl⟩
  refine v_icmp_eq (tgt := 1597) G dL_law_287 rfl (fun _ => kk _ _ _ _ _ _ (R.ques aSame.rfl fP.rfl (scr_far (scr_refl _)))) (fun h => absurd ?_ h)
  exact R.2.2.2.2.2.1
set_option maxHeartbeats 1000000 in
theorem L_rule (G : vG x RL cL_law 4 (some .boolean) 9) (S : sX x N q) (hi : i + 5 ≤ N) (hN : N ≤ 2560) (R : Rel σ σ n m K k l) (kk : ∀ (s : vW) (n m K k l : Nat), Rel s s n m K k l → V x 1597 [some (.ref 115), some (.ref 0), some (.ref 75), some (.int (nI i))] [] s) : V x 292 [some (.ref 115), some (.ref 0), some (.ref 75), some (.int (nI i))] [] σ := by
  refine v_aload_n (i := 1) G dL_law_292 rfl rfl ?_
  refine l_arg (j := 1) G S (by omega) hN (by decide) dL_law_293 dL_law_294 dL_law_295 dL_law_296 dL_law_297 ?_
  refine v_cV1 G (C_X5_rule R.1.1.hn R.1.1.n5 R.1.1.hm R.1.1.m9) (by decide) md_X5_rule in_X5_rule (rv_X5 rfl) ml_L_31 (Nat.le_of_ble_eq_true rfl) dL_law_298 ?_
  have R1 : Rel σ σ n m K k l := R
  refine v_aload_n (i := 2) G dL_law_301 rfl rfl ?_
  refine l_arg (j := 1) G S (by omega) hN (by decide) dL_law_302 dL_law_303 dL_law_304 dL_law_305 dL_law_306 ?_
  refine v_cP1 G (Ctr.here (C_X6_rule R1.pOK)) (by decide) md_X6_rule in_X6_rule (rv_X6 rfl) ml_L_34 (Nat.le_of_ble_eq_true rfl) dL_law_307 ?_
  rintro _ _ ⟨rfl, f, rfl⟩
  refine v_icmp_eq (tgt := 1597) G dL_law_310 rfl (fun _ => kk _ _ _ _ _ _ (R.ques aSame.rfl fP.rfl (scr_far (scr_refl _)))) (fun h => absurd ?_ h)
  exact (by rw [R.1.2.2]; exact rule_eq R.1.1)
set_option maxHeartbeats 1000000 in
theorem L_one (G : vG x RL cL_law 4 (some .boolean) 9) (S : sX x N q) (hi : i + 5 ≤ N) (hN : N ≤ 2560) (R : Rel σ σ n m K k l) (kk : ∀ (s : vW) (n m K k l : Nat), Rel s s n m K k l → V x 1597 [some (.ref 115), some (.ref 0), some (.ref 75), some (.int (nI i))] [] s) : V x 315 [some (.ref 115), some (.ref 0), some (.ref 75), some (.int (nI i))] [] σ := by
  refine v_aload_n (i := 1) G dL_law_315 rfl rfl ?_
  refine l_arg (j := 1) G S (by omega) hN (by decide) dL_law_316 dL_law_317 dL_law_318 dL_law_319 dL_law_320 ?_
  refine l_arg (j := 2) G S (by omega) hN (by decide) dL_law_321 dL_law_322 dL_law_323 dL_law_324 dL_law_325 ?_
  refine v_cV2 G (C_X5_one R.1.1.hn R.1.1.n5 R.1.1.hm R.1.1.m9) (by decide) md_X5_one in_X5_one (rv_X5 rfl) ml_L_35 (Nat.le_of_ble_eq_true rfl) dL_law_326 ?_
  have R1 : Rel σ σ n m K k l := R
  refine v_aload_n (i := 2) G dL_law_329 rfl rfl ?_
  refine l_arg (j := 1) G S (by omega) hN (by decide) dL_law_330 dL_law_331 dL_law_332 dL_law_333 dL_law_334 ?_
  refine l_arg (j := 2) G S (by omega) hN (by decide) dL_law_335 dL_law_336 dL_law_337 dL_law_338 dL_law_339 ?_
  refine v_cP2 G (Ctr.here (C_X6_one R1.pOK)) (by decide) md_X6_one in_X6_one (rv_X6 rfl) ml_L_39 (Nat.le_of_ble_eq_true rfl) dL_law_340 ?_
  rintro _ _ ⟨rfl, f, rfl⟩
  refine v_icmp_eq (tgt := 1597) G dL_law_343 rfl (fun _ => kk _ _ _ _ _ _ (R.ques aSame.rfl fP.rfl (scr_far (scr_refl _)))) (fun h => absurd ?_ h)
  exact (by rw [R.1.2.2]; exact one_eq R.1.1)
set_option maxHeartbeats 1000000 in
theorem L_wall (G : vG x RL cL_law 4 (some .boolean) 9) (S : sX x N q) (hi : i + 5 ≤ N) (hN : N ≤ 2560) (R : Rel σ σ n m K k l) (kk : ∀ (s : vW) (n m K k l : Nat), Rel s s n m K k l → V x 1597 [some (.ref 115), some (.ref 0), some (.ref 75), some (.int (nI i))] [] s) : V x 348 [some (.ref 115), some (.ref 0), some (.ref 75), some (.int (nI i))] [] σ := by
  refine v_aload_n (i := 1) G dL_law_348 rfl rfl ?_
  refine l_arg (j := 1) G S (by omega) hN (by decide) dL_law_349 dL_law_350 dL_law_351 dL_law_352 dL_law_353 ?_
  refine l_arg (j := 2) G S (by omega) hN (by decide) dL_law_354 dL_law_355 dL_law_356 dL_law_357 dL_law_358 ?_
  refine v_cV2 G (C_X5_wall R.1.1.hn R.1.1.n5 R.1.1.hm R.1.1.m9) (by decide) md_X5_wall in_X5_wall (rv_X5 rfl) ml_L_40 (Nat.le_of_ble_eq_true rfl) dL_law_359 ?_
  have R1 : Rel σ σ n m K k l := R
  refine v_aload_n (i := 2) G dL_law_362 rfl rfl ?_
  refine l_arg (j := 1) G S (by omega) hN (by decide) dL_law_363 dL_law_364 dL_law_365 dL_law_366 dL_law_367 ?_
  refine l_arg (j := 2) G S (by omega) hN (by decide) dL_law_368 dL_law_369 dL_law_370 dL_law_371 dL_law_372 ?_
  refine v_cP2 G (Ctr.here (C_X6_wall R1.pOK)) (by decide) md_X6_wall in_X6_wall (rv_X6 rfl) ml_L_43 (Nat.le_of_ble_eq_true rfl) dL_law_373 ?_
  rintro _ _ ⟨rfl, rfl⟩
  refine v_icmp_eq (tgt := 1597) G dL_law_376 rfl (fun _ => kk _ _ _ _ _ _ (R.ques aSame.rfl fP.rfl (scr_far (scr_refl _)))) (fun h => absurd ?_ h)
  exact (by rw [R.1.2.2]; exact wall_eq R.1.1)
set_option maxHeartbeats 1000000 in
theorem L_room (G : vG x RL cL_law 4 (some .boolean) 9) (S : sX x N q) (hi : i + 5 ≤ N) (hN : N ≤ 2560) (R : Rel σ σ n m K k l) (kk : ∀ (s : vW) (n m K k l : Nat), Rel s s n m K k l → V x 1597 [some (.ref 115), some (.ref 0), some (.ref 75), some (.int (nI i))] [] s) : V x 381 [some (.ref 115), some (.ref 0), some (.ref 75), some (.int (nI i))] [] σ := by
  refine v_aload_n (i := 1) G dL_law_381 rfl rfl ?_
  refine l_arg (j := 1) G S (by omega) hN (by decide) dL_law_382 dL_law_383 dL_law_384 dL_law_385 dL_law_386 ?_
  refine l_arg (j := 2) G S (by omega) hN (by decide) dL_law_387 dL_law_388 dL_law_389 dL_law_390 dL_law_391 ?_
  refine v_cV2 G (C_X5_room R.1.1.hn R.1.1.n5 R.1.1.hm R.1.1.m9) (by decide) md_X5_room in_X5_room (rv_X5 rfl) ml_L_44 (Nat.le_of_ble_eq_true rfl) dL_law_392 ?_
  have R1 : Rel σ σ n m K k l := R
  refine v_aload_n (i := 2) G dL_law_395 rfl rfl ?_
  refine l_arg (j := 1) G S (by omega) hN (by decide) dL_law_396 dL_law_397 dL_law_398 dL_law_399 dL_law_400 ?_
  refine l_arg (j := 2) G S (by omega) hN (by decide) dL_law_401 dL_law_402 dL_law_403 dL_law_404 dL_law_405 ?_
  refine v_cP2 G (Ctr.here (C_X6_room R1.pOK)) (by decide) md_X6_room in_X6_room (rv_X6 rfl) ml_L_47 (Nat.le_of_ble_eq_true rfl) dL_law_406 ?_
  rintro _ _ ⟨rfl, f, rfl⟩
  refine v_icmp_eq (tgt := 1597) G dL_law_409 rfl (fun _ => kk _ _ _ _ _ _ (R.ques aSame.rfl fP.rfl (scr_far (scr_refl _)))) (fun h => absurd ?_ h)
  exact (by rw [R.1.2.2]; exact room_eq R.1.1)
set_option maxHeartbeats 1000000 in
theorem L_act (G : vG x RL cL_law 4 (some .boolean) 9) (S : sX x N q) (hi : i + 5 ≤ N) (hN : N ≤ 2560) (R : Rel σ σ n m K k l) (kk : ∀ (s : vW) (n m K k l : Nat), Rel s s n m K k l → V x 1597 [some (.ref 115), some (.ref 0), some (.ref 75), some (.int (nI i))] [] s) : V x 414 [some (.ref 115), some (.ref 0), some (.ref 75), some (.int (nI i))] [] σ := by
  refine v_aload_n (i := 1) G dL_law_414 rfl rfl ?_
  refine l_arg (j := 1) G S (by omega) hN (by decide) dL_law_415 dL_law_416 dL_law_417 dL_law_418 dL_law_419 ?_
  refine l_arg (j := 2) G S (by omega) hN (by decide) dL_law_420 dL_law_421 dL_law_422 dL_law_423 dL_law_424 ?_
  refine v_cV2 G (C_X5_act R.1.1.hK R.1.1.K6) (by decide) md_X5_act in_X5_act (rv_X5 rfl) ml_L_48 (Nat.le_of_ble_eq_true rfl) dL_law_425 ?_
  have R1 : Rel σ σ n m K k l := R
  refine v_aload_n (i := 2) G dL_law_428 rfl rfl ?_
  refine l_arg (j := 1) G S (by omega) hN (by decide) dL_law_429 dL_law_430 dL_law_431 dL_law_432 dL_law_433 ?_
  refine l_arg (j := 2) G S (by omega) hN (by decide) dL_law_434 dL_law_435 dL_law_436 dL_law_437 dL_law_438 ?_
  refine v_cP2 G (Ctr.here (C_X6_act R1.1.1.gK R1.1.1.K6)) (by decide) md_X6_act in_X6_act (rv_X6 rfl) ml_L_51 (Nat.le_of_ble_eq_true rfl) dL_law_439 ?_
  rintro _ _ ⟨rfl, rfl⟩
  refine v_icmp_eq (tgt := 1597) G dL_law_442 rfl (fun _ => kk _ _ _ _ _ _ (R.ques aSame.rfl fP.rfl (scr_far (scr_refl _)))) (fun h => absurd ?_ h)
  exact (act_eq R.1.1)
set_option maxHeartbeats 1000000 in
theorem L_alter (G : vG x RL cL_law 4 (some .boolean) 9) (S : sX x N q) (hi : i + 5 ≤ N) (hN : N ≤ 2560) (R : Rel σ σ n m K k l) (kk : ∀ (s : vW) (n m K k l : Nat), Rel s s n m K k l → V x 1597 [some (.ref 115), some (.ref 0), some (.ref 75), some (.int (nI i))] [] s) : V x 447 [some (.ref 115), some (.ref 0), some (.ref 75), some (.int (nI i))] [] σ := by
  refine v_aload_n (i := 1) G dL_law_447 rfl rfl ?_
  refine l_arg (j := 1) G S (by omega) hN (by decide) dL_law_448 dL_law_449 dL_law_450 dL_law_451 dL_law_452 ?_
  refine l_arg (j := 2) G S (by omega) hN (by decide) dL_law_453 dL_law_454 dL_law_455 dL_law_456 dL_law_457 ?_
  refine l_arg (j := 3) G S (by omega) hN (by decide) dL_law_458 dL_law_459 dL_law_460 dL_law_461 dL_law_462 ?_
  refine v_cV3 G C_X5_alter (by decide) md_X5_alter in_X5_alter (rv_X5 rfl) ml_L_52 (Nat.le_of_ble_eq_true rfl) dL_law_463 ?_
  have hF : fP (alterW σ (q (i + 1)) (q (i + 2)) (q (i + 3))) σ := (by repeat' (first | with_reducible (first | assumption | exact fP.rfl | apply fp_alterW | apply fP.ite) | omega))
  have R1 : Rel σ (alterW σ (q (i + 1)) (q (i + 2)) (q (i + 3))) n m K k l := R.mid hF
  refine v_aload_n (i := 2) G dL_law_466 rfl rfl ?_
  refine l_arg (j := 1) G S (by omega) hN (by decide) dL_law_467 dL_law_468 dL_law_469 dL_law_470 dL_law_471 ?_
  refine l_arg (j := 2) G S (by omega) hN (by decide) dL_law_472 dL_law_473 dL_law_474 dL_law_475 dL_law_476 ?_
  refine l_arg (j := 3) G S (by omega) hN (by decide) dL_law_477 dL_law_478 dL_law_479 dL_law_480 dL_law_481 ?_
  refine v_cP3 G (Ctr.here (C_X6_alter R1.1.2.1 R1.1.1.n5)) (by decide) md_X6_alter in_X6_alter (rv_X6 rfl) ml_L_56 (Nat.le_of_ble_eq_true rfl) dL_law_482 ?_
  rintro _ _ ⟨rfl, rfl⟩
  obtain ⟨he, R2⟩ := alter_eq R1 (p := q (i + 1)) (w := q (i + 2)) (v := q (i + 3))
  refine v_icmp_eq (tgt := 1597) G dL_law_485 rfl (fun _ => kk _ _ _ _ _ _ (R2.after (by repeat' (first | with_reducible (first | assumption | exact fM.rfl | apply fm_mFeedW | apply fm_mText | apply fm_mBldV | apply fm_mPlnV | apply fm_mHgW | apply fm_mFlW | apply fm_mSeeV | apply fm_mBackW | apply fm_mShtW | apply fm_mLayW | apply fm_mReadW | apply fm_cpW | apply fM.set | apply fM.ite) | omega)) rfl)) (fun h => absurd ?_ h)
  exact he
set_option maxHeartbeats 1000000 in
theorem L_price (G : vG x RL cL_law 4 (some .boolean) 9) (S : sX x N q) (hi : i + 5 ≤ N) (hN : N ≤ 2560) (R : Rel σ σ n m K k l) (kk : ∀ (s : vW) (n m K k l : Nat), Rel s s n m K k l → V x 1597 [some (.ref 115), some (.ref 0), some (.ref 75), some (.int (nI i))] [] s) : V x 490 [some (.ref 115), some (.ref 0), some (.ref 75), some (.int (nI i))] [] σ := by
  refine v_aload_n (i := 1) G dL_law_490 rfl rfl ?_
  refine l_arg (j := 1) G S (by omega) hN (by decide) dL_law_491 dL_law_492 dL_law_493 dL_law_494 dL_law_495 ?_
  refine l_arg (j := 2) G S (by omega) hN (by decide) dL_law_496 dL_law_497 dL_law_498 dL_law_499 dL_law_500 ?_
  refine v_cV2 G C_X5_price (by decide) md_X5_price in_X5_price (rv_X5 rfl) ml_L_57 (Nat.le_of_ble_eq_true rfl) dL_law_501 ?_
  have hF : fP (replW σ (21 + 8) 8 (q (i + 1)) (q (i + 2)) (nI 99)) σ := (by repeat' (first | with_reducible (first | assumption | exact fP.rfl | apply fp_replW | apply fP.ite) | omega))
  have R1 : Rel σ (replW σ (21 + 8) 8 (q (i + 1)) (q (i + 2)) (nI 99)) n m K k l := R.mid hF
  refine v_aload_n (i := 2) G dL_law_504 rfl rfl ?_
  refine l_arg (j := 1) G S (by omega) hN (by decide) dL_law_505 dL_law_506 dL_law_507 dL_law_508 dL_law_509 ?_
  refine l_arg (j := 2) G S (by omega) hN (by decide) dL_law_510 dL_law_511 dL_law_512 dL_law_513 dL_law_514 ?_
  refine v_cP2 G (Ctr.here (C_X6_price)) (by decide) md_X6_price in_X6_price (rv_X6 rfl) ml_L_60 (Nat.le_of_ble_eq_true rfl) dL_law_515 ?_
  rintro _ _ ⟨rfl, rfl⟩
  obtain ⟨he, R2⟩ := price_eq R1 (i := q (i + 1)) (v := q (i + 2))
  refine v_icmp_eq (tgt := 1597) G dL_law_518 rfl (fun _ => kk _ _ _ _ _ _ (R2.after (by repeat' (first | with_reducible (first | assumption | exact fM.rfl | apply fm_mFeedW | apply fm_mText | apply fm_mBldV | apply fm_mPlnV | apply fm_mHgW | apply fm_mFlW | apply fm_mSeeV | apply fm_mBackW | apply fm_mShtW | apply fm_mLayW | apply fm_mReadW | apply fm_cpW | apply fM.set | apply fM.ite) | omega)) rfl)) (fun h => absurd ?_ h)
  exact he
set_option maxHeartbeats 1000000 in
theorem L_build (G : vG x RL cL_law 4 (some .boolean) 9) (S : sX x N q) (hi : i + 5 ≤ N) (hN : N ≤ 2560) (R : Rel σ σ n m K k l) (kk : ∀ (s : vW) (n m K k l : Nat), Rel s s n m K k l → V x 1597 [some (.ref 115), some (.ref 0), some (.ref 75), some (.int (nI i))] [] s) : V x 523 [some (.ref 115), some (.ref 0), some (.ref 75), some (.int (nI i))] [] σ := by
  refine v_aload_n (i := 1) G dL_law_523 rfl rfl ?_
  refine l_arg (j := 1) G S (by omega) hN (by decide) dL_law_524 dL_law_525 dL_law_526 dL_law_527 dL_law_528 ?_
  refine l_arg (j := 2) G S (by omega) hN (by decide) dL_law_529 dL_law_530 dL_law_531 dL_law_532 dL_law_533 ?_
  refine v_cV2 G (C_X5_build R.1.1.hm R.1.1.m9) (by decide) md_X5_build in_X5_build (rv_X5 rfl) ml_L_61 (Nat.le_of_ble_eq_true rfl) dL_law_534 ?_
  have hF : fP (buildW σ m (q (i + 1)) (q (i + 2))) σ := (by repeat' (first | with_reducible (first | assumption | exact fP.rfl | apply fp_buildW | apply fP.ite) | omega))
  have R1 : Rel σ (buildW σ m (q (i + 1)) (q (i + 2))) n m K k l := R.mid hF
  refine v_aload_n (i := 2) G dL_law_537 rfl rfl ?_
  refine l_arg (j := 1) G S (by omega) hN (by decide) dL_law_538 dL_law_539 dL_law_540 dL_law_541 dL_law_542 ?_
  refine l_arg (j := 2) G S (by omega) hN (by decide) dL_law_543 dL_law_544 dL_law_545 dL_law_546 dL_law_547 ?_
  refine v_cP2 G (Ctr.here (C_X6_build R1.1.1.gm R1.1.1.m9)) (by decide) md_X6_build in_X6_build (rv_X6 rfl) ml_L_64 (Nat.le_of_ble_eq_true rfl) dL_law_548 ?_
  rintro _ _ ⟨rfl, rfl⟩
  obtain ⟨he, w2, R2⟩ := build_eq R1 (x := q (i + 1)) (y := q (i + 2))
  refine v_icmp_eq (tgt := 1597) G dL_law_551 rfl (fun _ => kk _ _ _ _ _ _ (R2.after (by repeat' (first | with_reducible (first | assumption | exact fM.rfl | apply fm_mFeedW | apply fm_mText | apply fm_mBldV | apply fm_mPlnV | apply fm_mHgW | apply fm_mFlW | apply fm_mSeeV | apply fm_mBackW | apply fm_mShtW | apply fm_mLayW | apply fm_mReadW | apply fm_cpW | apply fM.set | apply fM.ite) | omega)) rfl)) (fun h => absurd ?_ h)
  exact he
set_option maxHeartbeats 1000000 in
theorem L_plan (G : vG x RL cL_law 4 (some .boolean) 9) (S : sX x N q) (hi : i + 5 ≤ N) (hN : N ≤ 2560) (R : Rel σ σ n m K k l) (kk : ∀ (s : vW) (n m K k l : Nat), Rel s s n m K k l → V x 1597 [some (.ref 115), some (.ref 0), some (.ref 75), some (.int (nI i))] [] s) : V x 556 [some (.ref 115), some (.ref 0), some (.ref 75), some (.int (nI i))] [] σ := by
  refine v_aload_n (i := 1) G dL_law_556 rfl rfl ?_
  refine l_arg (j := 1) G S (by omega) hN (by decide) dL_law_557 dL_law_558 dL_law_559 dL_law_560 dL_law_561 ?_
  refine l_arg (j := 2) G S (by omega) hN (by decide) dL_law_562 dL_law_563 dL_law_564 dL_law_565 dL_law_566 ?_
  refine v_cV2 G (C_X5_plan R.1.1.hK R.1.1.K6) (by decide) md_X5_plan in_X5_plan (rv_X5 rfl) ml_L_65 (Nat.le_of_ble_eq_true rfl) dL_law_567 ?_
  have hF : fP (planW σ K (q (i + 1)) (q (i + 2))) σ := (by repeat' (first | with_reducible (first | assumption | exact fP.rfl | apply fp_planW | apply fP.ite) | omega))
  have R1 : Rel σ (planW σ K (q (i + 1)) (q (i + 2))) n m K k l := R.mid hF
  refine v_aload_n (i := 2) G dL_law_570 rfl rfl ?_
  refine l_arg (j := 1) G S (by omega) hN (by decide) dL_law_571 dL_law_572 dL_law_573 dL_law_574 dL_law_575 ?_
  refine l_arg (j := 2) G S (by omega) hN (by decide) dL_law_576 dL_law_577 dL_law_578 dL_law_579 dL_law_580 ?_
  refine v_cP2 G (Ctr.here (C_X6_plan R1.1.2.1 R1.1.1.n5 R1.1.1.gm R1.1.1.m9 R1.1.1.gK R1.1.1.K6)) (by decide) md_X6_plan in_X6_plan (rv_X6 rfl) ml_L_68 (Nat.le_of_ble_eq_true rfl) dL_law_581 ?_
  rintro _ _ ⟨rfl, rfl⟩
  obtain ⟨he, w2, R2⟩ := plan_eq R1 (x := q (i + 1)) (y := q (i + 2))
  refine v_icmp_eq (tgt := 1597) G dL_law_584 rfl (fun _ => kk _ _ _ _ _ _ (R2.after (by repeat' (first | with_reducible (first | assumption | exact fM.rfl | apply fm_mFeedW | apply fm_mText | apply fm_mBldV | apply fm_mPlnV | apply fm_mHgW | apply fm_mFlW | apply fm_mSeeV | apply fm_mBackW | apply fm_mShtW | apply fm_mLayW | apply fm_mReadW | apply fm_cpW | apply fM.set | apply fM.ite) | omega)) rfl)) (fun h => absurd ?_ h)
  exact he
set_option maxHeartbeats 1000000 in
theorem L_cut (G : vG x RL cL_law 4 (some .boolean) 9) (S : sX x N q) (hi : i + 5 ≤ N) (hN : N ≤ 2560) (R : Rel σ σ n m K k l) (kk : ∀ (s : vW) (n m K k l : Nat), Rel s s n m K k l → V x 1597 [some (.ref 115), some (.ref 0), some (.ref 75), some (.int (nI i))] [] s) : V x 589 [some (.ref 115), some (.ref 0), some (.ref 75), some (.int (nI i))] [] σ := by
  refine v_aload_n (i := 1) G dL_law_589 rfl rfl ?_
  refine l_arg (j := 1) G S (by omega) hN (by decide) dL_law_590 dL_law_591 dL_law_592 dL_law_593 dL_law_594 ?_
  refine v_cV1 G C_X5_cut (by decide) md_X5_cut in_X5_cut (rv_X5 rfl) ml_L_69 (Nat.le_of_ble_eq_true rfl) dL_law_595 ?_
  have hF : fP (cutW σ (q (i + 1))) σ := (by repeat' (first | with_reducible (first | assumption | exact fP.rfl | apply fp_cutW | apply fP.ite) | omega))
  have R1 : Rel σ (cutW σ (q (i + 1))) n m K k l := R.mid hF
  refine v_aload_n (i := 2) G dL_law_598 rfl rfl ?_
  refine l_arg (j := 1) G S (by omega) hN (by decide) dL_law_599 dL_law_600 dL_law_601 dL_law_602 dL_law_603 ?_
  refine v_cP1 G (Ctr.here (C_X6_cut R1.1.1.gK R1.1.1.K6)) (by decide) md_X6_cut in_X6_cut (rv_X6 rfl) ml_L_72 (Nat.le_of_ble_eq_true rfl) dL_law_604 ?_
  rintro _ _ ⟨rfl, rfl⟩
  obtain ⟨he, w2, R2⟩ := cut_eq R1 (x := q (i + 1))
  refine v_icmp_eq (tgt := 1597) G dL_law_607 rfl (fun _ => kk _ _ _ _ _ _ (R2.after (by repeat' (first | with_reducible (first | assumption | exact fM.rfl | apply fm_mFeedW | apply fm_mText | apply fm_mBldV | apply fm_mPlnV | apply fm_mHgW | apply fm_mFlW | apply fm_mSeeV | apply fm_mBackW | apply fm_mShtW | apply fm_mLayW | apply fm_mReadW | apply fm_cpW | apply fM.set | apply fM.ite) | omega)) rfl)) (fun h => absurd ?_ h)
  exact he
set_option maxHeartbeats 1000000 in
theorem L_hang (G : vG x RL cL_law 4 (some .boolean) 9) (S : sX x N q) (hi : i + 5 ≤ N) (hN : N ≤ 2560) (R : Rel σ σ n m K k l) (kk : ∀ (s : vW) (n m K k l : Nat), Rel s s n m K k l → V x 1597 [some (.ref 115), some (.ref 0), some (.ref 75), some (.int (nI i))] [] s) : V x 612 [some (.ref 115), some (.ref 0), some (.ref 75), some (.int (nI i))] [] σ := by
  refine v_aload_n (i := 1) G dL_law_612 rfl rfl ?_
  refine l_arg (j := 1) G S (by omega) hN (by decide) dL_law_613 dL_law_614 dL_law_615 dL_law_616 dL_law_617 ?_
  refine l_arg (j := 2) G S (by omega) hN (by decide) dL_law_618 dL_law_619 dL_law_620 dL_law_621 dL_law_622 ?_
  refine v_cV2 G (C_X5_hang R.1.1.hn R.1.1.n5 R.1.1.hm R.1.1.m9) (by decide) md_X5_hang in_X5_hang (rv_X5 rfl) ml_L_73 (Nat.le_of_ble_eq_true rfl) dL_law_623 ?_
  have hF : fP (hangV σ (q (i + 1)) (q (i + 2))) σ := (by repeat' (first | with_reducible (first | assumption | exact fP.rfl | apply fp_hangV | apply fP.ite) | omega))
  have R1 : Rel σ (hangV σ (q (i + 1)) (q (i + 2))) n m K k l := R.mid hF
  refine v_aload_n (i := 2) G dL_law_626 rfl rfl ?_
  refine l_arg (j := 1) G S (by omega) hN (by decide) dL_law_627 dL_law_628 dL_law_629 dL_law_630 dL_law_631 ?_
  refine l_arg (j := 2) G S (by omega) hN (by decide) dL_law_632 dL_law_633 dL_law_634 dL_law_635 dL_law_636 ?_
  refine v_cP2 G (Ctr.here (C_X6_hang R1.pOK)) (by decide) md_X6_hang in_X6_hang (rv_X6 rfl) ml_L_76 (Nat.le_of_ble_eq_true rfl) dL_law_637 ?_
  rintro _ _ ⟨rfl, f, rfl⟩
  obtain ⟨he, R2⟩ := hang_eq R1 (x := q (i + 1)) (y := q (i + 2))
  refine v_icmp_eq (tgt := 1597) G dL_law_640 rfl (fun _ => kk _ _ _ _ _ _ (R2.after (by repeat' (first | with_reducible (first | assumption | exact fM.rfl | apply fm_mFeedW | apply fm_mText | apply fm_mBldV | apply fm_mPlnV | apply fm_mHgW | apply fm_mFlW | apply fm_mSeeV | apply fm_mBackW | apply fm_mShtW | apply fm_mLayW | apply fm_mReadW | apply fm_cpW | apply fM.set | apply fM.ite) | omega)) rfl)) (fun h => absurd ?_ h)
  exact he
set_option maxHeartbeats 1000000 in
theorem L_fill (G : vG x RL cL_law 4 (some .boolean) 9) (S : sX x N q) (hi : i + 5 ≤ N) (hN : N ≤ 2560) (R : Rel σ σ n m K k l) (kk : ∀ (s : vW) (n m K k l : Nat), Rel s s n m K k l → V x 1597 [some (.ref 115), some (.ref 0), some (.ref 75), some (.int (nI i))] [] s) : V x 645 [some (.ref 115), some (.ref 0), some (.ref 75), some (.int (nI i))] [] σ := by
  refine v_aload_n (i := 1) G dL_law_645 rfl rfl ?_
  refine l_arg (j := 1) G S (by omega) hN (by decide) dL_law_646 dL_law_647 dL_law_648 dL_law_649 dL_law_650 ?_
  refine v_cV1 G C_X5_fill (by decide) md_X5_fill in_X5_fill (rv_X5 rfl) ml_L_77 (Nat.le_of_ble_eq_true rfl) dL_law_651 ?_
  have hF : fP (fillV σ (q (i + 1))) σ := (by repeat' (first | with_reducible (first | assumption | exact fP.rfl | apply fp_fillV | apply fP.ite) | omega))
  have R1 : Rel σ (fillV σ (q (i + 1))) n m K k l := R.mid hF
  refine v_aload_n (i := 2) G dL_law_654 rfl rfl ?_
  refine l_arg (j := 1) G S (by omega) hN (by decide) dL_law_655 dL_law_656 dL_law_657 dL_law_658 dL_law_659 ?_
  refine v_cP1 G (Ctr.here (C_X6_fill R1.1.2.1 R1.1.1.n5 R1.1.1.gm R1.1.1.m9)) (by decide) md_X6_fill in_X6_fill (rv_X6 rfl) ml_L_80 (Nat.le_of_ble_eq_true rfl) dL_law_660 ?_
  rintro _ _ ⟨rfl, rfl⟩
  obtain ⟨he, R2⟩ := fill_eq R1 (x := q (i + 1))
  refine v_icmp_eq (tgt := 1597) G dL_law_663 rfl (fun _ => kk _ _ _ _ _ _ (R2.after (by repeat' (first | with_reducible (first | assumption | exact fM.rfl | apply fm_mFeedW | apply fm_mText | apply fm_mBldV | apply fm_mPlnV | apply fm_mHgW | apply fm_mFlW | apply fm_mSeeV | apply fm_mBackW | apply fm_mShtW | apply fm_mLayW | apply fm_mReadW | apply fm_cpW | apply fM.set | apply fM.ite) | omega)) rfl)) (fun h => absurd ?_ h)
  exact he
set_option maxHeartbeats 1000000 in
theorem L_steps (G : vG x RL cL_law 4 (some .boolean) 9) (S : sX x N q) (hi : i + 5 ≤ N) (hN : N ≤ 2560) (R : Rel σ σ n m K k l) (kk : ∀ (s : vW) (n m K k l : Nat), Rel s s n m K k l → V x 1597 [some (.ref 115), some (.ref 0), some (.ref 75), some (.int (nI i))] [] s) : V x 668 [some (.ref 115), some (.ref 0), some (.ref 75), some (.int (nI i))] [] σ := by
  refine v_aload_n (i := 1) G dL_law_668 rfl rfl ?_
  refine l_arg (j := 1) G S (by omega) hN (by decide) dL_law_669 dL_law_670 dL_law_671 dL_law_672 dL_law_673 ?_
  refine l_arg (j := 2) G S (by omega) hN (by decide) dL_law_674 dL_law_675 dL_law_676 dL_law_677 dL_law_678 ?_
  refine v_cV2 G (C_X5_steps R.1.1.hn R.1.1.n5 R.1.1.hm R.1.1.m9) (by decide) md_X5_steps in_X5_steps (rv_X5 rfl) ml_L_81 (Nat.le_of_ble_eq_true rfl) dL_law_679 ?_
  have R1 : Rel σ σ n m K k l := R
  refine v_aload_n (i := 2) G dL_law_682 rfl rfl ?_
  refine l_arg (j := 1) G S (by omega) hN (by decide) dL_law_683 dL_law_684 dL_law_685 dL_law_686 dL_law_687 ?_
  refine l_arg (j := 2) G S (by omega) hN (by decide) dL_law_688 dL_law_689 dL_law_690 dL_law_691 dL_law_692 ?_
  refine v_cP2 G (Ctr.here (C_X6_steps R1.pOK)) (by decide) md_X6_steps in_X6_steps (rv_X6 rfl) ml_L_84 (Nat.le_of_ble_eq_true rfl) dL_law_693 ?_
  rintro _ _ ⟨rfl, f, rfl⟩
  refine v_icmp_eq (tgt := 1597) G dL_law_696 rfl (fun _ => kk _ _ _ _ _ _ (R.ques aSame.rfl fP.rfl (scr_far (scr_refl _)))) (fun h => absurd ?_ h)
  exact (by rw [R.1.2.2]; exact steps_eq R.1.1)
set_option maxHeartbeats 1000000 in
theorem L_way (G : vG x RL cL_law 4 (some .boolean) 9) (S : sX x N q) (hi : i + 5 ≤ N) (hN : N ≤ 2560) (R : Rel σ σ n m K k l) (kk : ∀ (s : vW) (n m K k l : Nat), Rel s s n m K k l → V x 1597 [some (.ref 115), some (.ref 0), some (.ref 75), some (.int (nI i))] [] s) : V x 701 [some (.ref 115), some (.ref 0), some (.ref 75), some (.int (nI i))] [] σ := by
  refine v_aload_n (i := 1) G dL_law_701 rfl rfl ?_
  refine l_arg (j := 1) G S (by omega) hN (by decide) dL_law_702 dL_law_703 dL_law_704 dL_law_705 dL_law_706 ?_
  refine l_arg (j := 2) G S (by omega) hN (by decide) dL_law_707 dL_law_708 dL_law_709 dL_law_710 dL_law_711 ?_
  refine l_arg (j := 3) G S (by omega) hN (by decide) dL_law_712 dL_law_713 dL_law_714 dL_law_715 dL_law_716 ?_
  refine v_cV3 G (C_X5_way R.1.1.hn R.1.1.n5 R.1.1.hm R.1.1.m9) (by decide) md_X5_way in_X5_way (rv_X5 rfl) ml_L_85 (Nat.le_of_ble_eq_true rfl) dL_law_717 ?_
  have R1 : Rel σ σ n m K k l := R
  refine v_aload_n (i := 2) G dL_law_720 rfl rfl ?_
  refine l_arg (j := 1) G S (by omega) hN (by decide) dL_law_721 dL_law_722 dL_law_723 dL_law_724 dL_law_725 ?_
  refine l_arg (j := 2) G S (by omega) hN (by decide) dL_law_726 dL_law_727 dL_law_728 dL_law_729 dL_law_730 ?_
  refine l_arg (j := 3) G S (by omega) hN (by decide) dL_law_731 dL_law_732 dL_law_733 dL_law_734 dL_law_735 ?_
  refine v_cP3 G (Ctr.here (C_X6_way R1.pOK)) (by decide) md_X6_way in_X6_way (rv_X6 rfl) ml_L_88 (Nat.le_of_ble_eq_true rfl) dL_law_736 ?_
  rintro _ _ ⟨rfl, f, rfl⟩
  refine v_icmp_eq (tgt := 1597) G dL_law_739 rfl (fun _ => kk _ _ _ _ _ _ (R.ques aSame.rfl fP.rfl (scr_far (scr_refl _)))) (fun h => absurd ?_ h)
  exact way_eq R
set_option maxHeartbeats 1000000 in
theorem L_meet (G : vG x RL cL_law 4 (some .boolean) 9) (S : sX x N q) (hi : i + 5 ≤ N) (hN : N ≤ 2560) (R : Rel σ σ n m K k l) (kk : ∀ (s : vW) (n m K k l : Nat), Rel s s n m K k l → V x 1597 [some (.ref 115), some (.ref 0), some (.ref 75), some (.int (nI i))] [] s) : V x 744 [some (.ref 115), some (.ref 0), some (.ref 75), some (.int (nI i))] [] σ := by
  refine v_aload_n (i := 1) G dL_law_744 rfl rfl ?_
  refine l_arg (j := 1) G S (by omega) hN (by decide) dL_law_745 dL_law_746 dL_law_747 dL_law_748 dL_law_749 ?_
  refine l_arg (j := 2) G S (by omega) hN (by decide) dL_law_750 dL_law_751 dL_law_752 dL_law_753 dL_law_754 ?_
  refine v_cV2 G (C_X5_meet R.1.1.hn R.1.1.n5 R.1.1.hm R.1.1.m9) (by decide) md_X5_meet in_X5_meet (rv_X5 rfl) ml_L_89 (Nat.le_of_ble_eq_true rfl) dL_law_755 ?_
  have R1 : Rel σ σ n m K k l := R
  refine v_aload_n (i := 2) G dL_law_758 rfl rfl ?_
  refine l_arg (j := 1) G S (by omega) hN (by decide) dL_law_759 dL_law_760 dL_law_761 dL_law_762 dL_law_763 ?_
  refine l_arg (j := 2) G S (by omega) hN (by decide) dL_law_764 dL_law_765 dL_law_766 dL_law_767 dL_law_768 ?_
  refine v_cP2 G (Ctr.here (C_X6_meet R1.pOK)) (by decide) md_X6_meet in_X6_meet (rv_X6 rfl) ml_L_92 (Nat.le_of_ble_eq_true rfl) dL_law_769 ?_
  rintro _ _ ⟨rfl, f, rfl⟩
  refine v_icmp_eq (tgt := 1597) G dL_law_772 rfl (fun _ => kk _ _ _ _ _ _ (R.ques aSame.rfl fP.rfl (scr_far (scr_refl _)))) (fun h => absurd ?_ h)
  exact (by rw [R.1.2.2]; exact meet_eq R.1.1)
set_option maxHeartbeats 1000000 in
theorem L_runs (G : vG x RL cL_law 4 (some .boolean) 9) (S : sX x N q) (hi : i + 5 ≤ N) (hN : N ≤ 2560) (R : Rel σ σ n m K k l) (kk : ∀ (s : vW) (n m K k l : Nat), Rel s s n m K k l → V x 1597 [some (.ref 115), some (.ref 0), some (.ref 75), some (.int (nI i))] [] s) : V x 777 [some (.ref 115), some (.ref 0), some (.ref 75), some (.int (nI i))] [] σ := by
  refine v_aload_n (i := 1) G dL_law_777 rfl rfl ?_
  refine l_arg (j := 1) G S (by omega) hN (by decide) dL_law_778 dL_law_779 dL_law_780 dL_law_781 dL_law_782 ?_
  refine v_cV1 G (C_X5_runs R.1.1.hn R.1.1.n5 R.1.1.hm R.1.1.m9 R.1.1.hK R.1.1.K6) (by decide) md_X5_runs in_X5_runs (rv_X5 rfl) ml_L_93 (Nat.le_of_ble_eq_true rfl) dL_law_783 ?_
  have hF : fP (if upToB (q (i + 1)) (nI 3) = true then trialP σ K (-4) else σ) σ := (by repeat' (first | with_reducible (first | assumption | exact fP.rfl | apply fp_trialP | apply fP.ite) | omega))
  have hA : aSame (if upToB (q (i + 1)) (nI 3) = true then trialP σ K (-4) else σ) σ := aSame.ite (aSame_bec _ _)
  have R1 : Rel (if upToB (q (i + 1)) (nI 3) = true then trialP σ K (-4) else σ) (if upToB (q (i + 1)) (nI 3) = true then trialP σ K (-4) else σ) n m K k l := R.ques hA hF (scr_refl _)
  refine v_aload_n (i := 2) G dL_law_786 rfl rfl ?_
  refine l_arg (j := 1) G S (by omega) hN (by decide) dL_law_787 dL_law_788 dL_law_789 dL_law_790 dL_law_791 ?_
  refine v_cP1 G (Ctr.here (C_X6_runs R1.pOK R1.plOK)) (by decide) md_X6_runs in_X6_runs (rv_X6 rfl) ml_L_96 (Nat.le_of_ble_eq_true rfl) dL_law_792 ?_
  rintro _ t ⟨rfl, ht⟩
  refine v_icmp_eq (tgt := 1597) G dL_law_795 rfl (fun _ => kk _ _ _ _ _ _ (R.ques hA hF ht)) (fun h => absurd ?_ h)
  exact runs_eq (R.mid hF)
set_option maxHeartbeats 1000000 in
theorem L_ahead (G : vG x RL cL_law 4 (some .boolean) 9) (S : sX x N q) (hi : i + 5 ≤ N) (hN : N ≤ 2560) (R : Rel σ σ n m K k l) (kk : ∀ (s : vW) (n m K k l : Nat), Rel s s n m K k l → V x 1597 [some (.ref 115), some (.ref 0), some (.ref 75), some (.int (nI i))] [] s) : V x 800 [some (.ref 115), some (.ref 0), some (.ref 75), some (.int (nI i))] [] σ := by
  refine v_aload_n (i := 1) G dL_law_800 rfl rfl ?_
  refine l_arg (j := 1) G S (by omega) hN (by decide) dL_law_801 dL_law_802 dL_law_803 dL_law_804 dL_law_805 ?_
  refine v_cV1 G (C_X5_ahead R.1.1.hn R.1.1.n5 R.1.1.hm R.1.1.m9 R.1.1.hK R.1.1.K6) (by decide) md_X5_ahead in_X5_ahead (rv_X5 rfl) ml_L_97 (Nat.le_of_ble_eq_true rfl) dL_law_806 ?_
  have hF : fP (if oneB (σ 21 10) (q (i + 1)) = true then trialP σ K (-4) else σ) σ := (by repeat' (first | with_reducible (first | assumption | exact fP.rfl | apply fp_trialP | apply fP.ite) | omega))
  have hA : aSame (if oneB (σ 21 10) (q (i + 1)) = true then trialP σ K (-4) else σ) σ := aSame.ite (aSame_bec _ _)
  have R1 : Rel (if oneB (σ 21 10) (q (i + 1)) = true then trialP σ K (-4) else σ) (if oneB (σ 21 10) (q (i + 1)) = true then trialP σ K (-4) else σ) n m K k l := R.ques hA hF (scr_refl _)
  refine v_aload_n (i := 2) G dL_law_809 rfl rfl ?_
  refine l_arg (j := 1) G S (by omega) hN (by decide) dL_law_810 dL_law_811 dL_law_812 dL_law_813 dL_law_814 ?_
  refine v_cP1 G (Ctr.here (C_X6_ahead R1.pOK R1.plOK)) (by decide) md_X6_ahead in_X6_ahead (rv_X6 rfl) ml_L_100 (Nat.le_of_ble_eq_true rfl) dL_law_815 ?_
  rintro _ t ⟨rfl, ht⟩
  refine v_icmp_eq (tgt := 1597) G dL_law_818 rfl (fun _ => kk _ _ _ _ _ _ (R.ques hA hF ht)) (fun h => absurd ?_ h)
  exact ahead_eq (R.mid hF)
set_option maxHeartbeats 1000000 in
theorem L_best (G : vG x RL cL_law 4 (some .boolean) 9) (S : sX x N q) (hi : i + 5 ≤ N) (hN : N ≤ 2560) (R : Rel σ σ n m K k l) (kk : ∀ (s : vW) (n m K k l : Nat), Rel s s n m K k l → V x 1597 [some (.ref 115), some (.ref 0), some (.ref 75), some (.int (nI i))] [] s) : V x 823 [some (.ref 115), some (.ref 0), some (.ref 75), some (.int (nI i))] [] σ := by
  refine v_aload_n (i := 1) G dL_law_823 rfl rfl ?_
  refine l_arg (j := 1) G S (by omega) hN (by decide) dL_law_824 dL_law_825 dL_law_826 dL_law_827 dL_law_828 ?_
  refine l_arg (j := 2) G S (by omega) hN (by decide) dL_law_829 dL_law_830 dL_law_831 dL_law_832 dL_law_833 ?_
  refine l_arg (j := 3) G S (by omega) hN (by decide) dL_law_834 dL_law_835 dL_law_836 dL_law_837 dL_law_838 ?_
  refine v_cV3 G (C_X5_best R.1.1.hn R.1.1.n5 R.1.1.hm R.1.1.m9) (by decide) md_X5_best in_X5_best (rv_X5 rfl) ml_L_101 (Nat.le_of_ble_eq_true rfl) dL_law_839 ?_
  have R1 : Rel σ σ n m K k l := R
  refine v_aload_n (i := 2) G dL_law_842 rfl rfl ?_
  refine l_arg (j := 1) G S (by omega) hN (by decide) dL_law_843 dL_law_844 dL_law_845 dL_law_846 dL_law_847 ?_
  refine l_arg (j := 2) G S (by omega) hN (by decide) dL_law_848 dL_law_849 dL_law_850 dL_law_851 dL_law_852 ?_
  refine l_arg (j := 3) G S (by omega) hN (by decide) dL_law_853 dL_law_854 dL_law_855 dL_law_856 dL_law_857 ?_
  refine v_cP3 G (Ctr.here (C_X6_best R1.pOK)) (by decide) md_X6_best in_X6_best (rv_X6 rfl) ml_L_104 (Nat.le_of_ble_eq_true rfl) dL_law_858 ?_
  rintro _ t ⟨rfl, ht⟩
  refine v_icmp_eq (tgt := 1597) G dL_law_861 rfl (fun _ => kk _ _ _ _ _ _ (R.ques aSame.rfl fP.rfl ht)) (fun h => absurd ?_ h)
  exact best_eq R
set_option maxHeartbeats 1000000 in
theorem L_friend (G : vG x RL cL_law 4 (some .boolean) 9) (S : sX x N q) (hi : i + 5 ≤ N) (hN : N ≤ 2560) (R : Rel σ σ n m K k l) (kk : ∀ (s : vW) (n m K k l : Nat), Rel s s n m K k l → V x 1597 [some (.ref 115), some (.ref 0), some (.ref 75), some (.int (nI i))] [] s) : V x 866 [some (.ref 115), some (.ref 0), some (.ref 75), some (.int (nI i))] [] σ := by
  refine v_aload_n (i := 1) G dL_law_866 rfl rfl ?_
  refine l_arg (j := 1) G S (by omega) hN (by decide) dL_law_867 dL_law_868 dL_law_869 dL_law_870 dL_law_871 ?_
  refine l_arg (j := 2) G S (by omega) hN (by decide) dL_law_872 dL_law_873 dL_law_874 dL_law_875 dL_law_876 ?_
  refine l_arg (j := 3) G S (by omega) hN (by decide) dL_law_877 dL_law_878 dL_law_879 dL_law_880 dL_law_881 ?_
  refine v_cV3 G (C_X5_friend R.1.1.hn R.1.1.n5 R.1.1.hm R.1.1.m9) (by decide) md_X5_friend in_X5_friend (rv_X5 rfl) ml_L_105 (Nat.le_of_ble_eq_true rfl) dL_law_882 ?_
  have R1 : Rel σ σ n m K k l := R
  refine v_aload_n (i := 2) G dL_law_885 rfl rfl ?_
  refine l_arg (j := 1) G S (by omega) hN (by decide) dL_law_886 dL_law_887 dL_law_888 dL_law_889 dL_law_890 ?_
  refine l_arg (j := 2) G S (by omega) hN (by decide) dL_law_891 dL_law_892 dL_law_893 dL_law_894 dL_law_895 ?_
  refine l_arg (j := 3) G S (by omega) hN (by decide) dL_law_896 dL_law_897 dL_law_898 dL_law_899 dL_law_900 ?_
  refine v_cP3 G (Ctr.here (C_X6_friend R1.pOK)) (by decide) md_X6_friend in_X6_friend (rv_X6 rfl) ml_L_108 (Nat.le_of_ble_eq_true rfl) dL_law_901 ?_
  rintro _ t ⟨rfl, ht⟩
  refine v_icmp_eq (tgt := 1597) G dL_law_904 rfl (fun _ => kk _ _ _ _ _ _ (R.ques aSame.rfl fP.rfl ht)) (fun h => absurd ?_ h)
  exact friend_eq R
set_option maxHeartbeats 1000000 in
theorem L_gain (G : vG x RL cL_law 4 (some .boolean) 9) (S : sX x N q) (hi : i + 5 ≤ N) (hN : N ≤ 2560) (R : Rel σ σ n m K k l) (kk : ∀ (s : vW) (n m K k l : Nat), Rel s s n m K k l → V x 1597 [some (.ref 115), some (.ref 0), some (.ref 75), some (.int (nI i))] [] s) : V x 909 [some (.ref 115), some (.ref 0), some (.ref 75), some (.int (nI i))] [] σ := by
  refine v_aload_n (i := 1) G dL_law_909 rfl rfl ?_
  refine l_arg (j := 1) G S (by omega) hN (by decide) dL_law_910 dL_law_911 dL_law_912 dL_law_913 dL_law_914 ?_
  refine l_arg (j := 2) G S (by omega) hN (by decide) dL_law_915 dL_law_916 dL_law_917 dL_law_918 dL_law_919 ?_
  refine v_cV2 G (C_X5_gain R.1.1.hn R.1.1.n5 R.1.1.hm R.1.1.m9) (by decide) md_X5_gain in_X5_gain (rv_X5 rfl) ml_L_109 (Nat.le_of_ble_eq_true rfl) dL_law_920 ?_
  have R1 : Rel σ σ n m K k l := R
  refine v_aload_n (i := 2) G dL_law_923 rfl rfl ?_
  refine l_arg (j := 1) G S (by omega) hN (by decide) dL_law_924 dL_law_925 dL_law_926 dL_law_927 dL_law_928 ?_
  refine l_arg (j := 2) G S (by omega) hN (by decide) dL_law_929 dL_law_930 dL_law_931 dL_law_932 dL_law_933 ?_
  refine v_cP2 G (Ctr.here (C_X6_gain R1.pOK)) (by decide) md_X6_gain in_X6_gain (rv_X6 rfl) ml_L_112 (Nat.le_of_ble_eq_true rfl) dL_law_934 ?_
  rintro _ t ⟨rfl, ht⟩
  refine v_icmp_eq (tgt := 1597) G dL_law_937 rfl (fun _ => kk _ _ _ _ _ _ (R.ques aSame.rfl fP.rfl ht)) (fun h => absurd ?_ h)
  exact gain_eq2 R
set_option maxHeartbeats 1000000 in
theorem L_shut (G : vG x RL cL_law 4 (some .boolean) 9) (S : sX x N q) (hi : i + 5 ≤ N) (hN : N ≤ 2560) (R : Rel σ σ n m K k l) (kk : ∀ (s : vW) (n m K k l : Nat), Rel s s n m K k l → V x 1597 [some (.ref 115), some (.ref 0), some (.ref 75), some (.int (nI i))] [] s) : V x 942 [some (.ref 115), some (.ref 0), some (.ref 75), some (.int (nI i))] [] σ := by
  refine v_aload_n (i := 1) G dL_law_942 rfl rfl ?_
  refine l_arg (j := 1) G S (by omega) hN (by decide) dL_law_943 dL_law_944 dL_law_945 dL_law_946 dL_law_947 ?_
  refine l_arg (j := 2) G S (by omega) hN (by decide) dL_law_948 dL_law_949 dL_law_950 dL_law_951 dL_law_952 ?_
  refine l_arg (j := 3) G S (by omega) hN (by decide) dL_law_953 dL_law_954 dL_law_955 dL_law_956 dL_law_957 ?_
  refine v_cV3 G (C_X5_shut R.1.1.hn R.1.1.n5 R.1.1.hm R.1.1.m9) (by decide) md_X5_shut in_X5_shut (rv_X5 rfl) ml_L_113 (Nat.le_of_ble_eq_true rfl) dL_law_958 ?_
  have R1 : Rel σ σ n m K k l := R
  refine v_aload_n (i := 2) G dL_law_961 rfl rfl ?_
  refine l_arg (j := 1) G S (by omega) hN (by decide) dL_law_962 dL_law_963 dL_law_964 dL_law_965 dL_law_966 ?_
  refine l_arg (j := 2) G S (by omega) hN (by decide) dL_law_967 dL_law_968 dL_law_969 dL_law_970 dL_law_971 ?_
  refine l_arg (j := 3) G S (by omega) hN (by decide) dL_law_972 dL_law_973 dL_law_974 dL_law_975 dL_law_976 ?_
  refine v_cP3 G (Ctr.here (C_X6_shut R1.pOK)) (by decide) md_X6_shut in_X6_shut (rv_X6 rfl) ml_L_116 (Nat.le_of_ble_eq_true rfl) dL_law_977 ?_
  rintro _ t ⟨rfl, ht⟩
  refine v_icmp_eq (tgt := 1597) G dL_law_980 rfl (fun _ => kk _ _ _ _ _ _ (R.ques aSame.rfl fP.rfl ht)) (fun h => absurd ?_ h)
  exact shut_eq R
set_option maxHeartbeats 1000000 in
theorem L_leave (G : vG x RL cL_law 4 (some .boolean) 9) (S : sX x N q) (hi : i + 5 ≤ N) (hN : N ≤ 2560) (R : Rel σ σ n m K k l) (kk : ∀ (s : vW) (n m K k l : Nat), Rel s s n m K k l → V x 1597 [some (.ref 115), some (.ref 0), some (.ref 75), some (.int (nI i))] [] s) : V x 985 [some (.ref 115), some (.ref 0), some (.ref 75), some (.int (nI i))] [] σ := by
  refine v_aload_n (i := 1) G dL_law_985 rfl rfl ?_
  refine l_arg (j := 1) G S (by omega) hN (by decide) dL_law_986 dL_law_987 dL_law_988 dL_law_989 dL_law_990 ?_
  refine v_cV1 G (C_X5_leave R.1.1.hn R.1.1.n5 R.1.1.hm R.1.1.m9 R.1.1.hK R.1.1.K6) (by decide) md_X5_leave in_X5_leave (rv_X5 rfl) ml_L_117 (Nat.le_of_ble_eq_true rfl) dL_law_991 ?_
  have hF : fP (if upToB (q (i + 1)) (nI 1) = true then lvW σ K K else σ) σ := (by repeat' (first | with_reducible (first | assumption | exact fP.rfl | apply fp_lvW | apply fP.ite) | omega))
  have hA : aSame (if upToB (q (i + 1)) (nI 1) = true then lvW σ K K else σ) σ := aSame.ite aSame_lvW
  have R1 : Rel (if upToB (q (i + 1)) (nI 1) = true then lvW σ K K else σ) (if upToB (q (i + 1)) (nI 1) = true then lvW σ K K else σ) n m K k l := R.ques hA hF (scr_refl _)
  refine v_aload_n (i := 2) G dL_law_994 rfl rfl ?_
  refine l_arg (j := 1) G S (by omega) hN (by decide) dL_law_995 dL_law_996 dL_law_997 dL_law_998 dL_law_999 ?_
  refine v_cP1 G (Ctr.here (C_X6_leave R1.pOK R1.plOK)) (by decide) md_X6_leave in_X6_leave (rv_X6 rfl) ml_L_120 (Nat.le_of_ble_eq_true rfl) dL_law_1000 ?_
  rintro _ t ⟨rfl, ht⟩
  refine v_icmp_eq (tgt := 1597) G dL_law_1003 rfl (fun _ => kk _ _ _ _ _ _ (R.ques hA hF ht)) (fun h => absurd ?_ h)
  exact leave_eq (R.mid hF)
set_option maxHeartbeats 1000000 in
theorem L_kindly (G : vG x RL cL_law 4 (some .boolean) 9) (S : sX x N q) (hi : i + 5 ≤ N) (hN : N ≤ 2560) (R : Rel σ σ n m K k l) (kk : ∀ (s : vW) (n m K k l : Nat), Rel s s n m K k l → V x 1597 [some (.ref 115), some (.ref 0), some (.ref 75), some (.int (nI i))] [] s) : V x 1008 [some (.ref 115), some (.ref 0), some (.ref 75), some (.int (nI i))] [] σ := by
  refine v_aload_n (i := 1) G dL_law_1008 rfl rfl ?_
  refine l_arg (j := 1) G S (by omega) hN (by decide) dL_law_1009 dL_law_1010 dL_law_1011 dL_law_1012 dL_law_1013 ?_
  refine l_arg (j := 2) G S (by omega) hN (by decide) dL_law_1014 dL_law_1015 dL_law_1016 dL_law_1017 dL_law_1018 ?_
  refine v_cV2 G (C_X5_kindly R.1.1.hn R.1.1.n5 R.1.1.hm R.1.1.m9) (by decide) md_X5_kindly in_X5_kindly (rv_X5 rfl) ml_L_121 (Nat.le_of_ble_eq_true rfl) dL_law_1019 ?_
  have hF : fP (if p1Ok σ (q (i + 1)) (q (i + 2)) = true then kdW σ (q (i + 1)).toNatClampNeg 4 else σ) σ := (by repeat' (first | with_reducible (first | assumption | exact fP.rfl | apply fp_kdW | apply fP.ite) | omega))
  have hA : aSame (if p1Ok σ (q (i + 1)) (q (i + 2)) = true then kdW σ (q (i + 1)).toNatClampNeg 4 else σ) σ := aSame.ite aSame_kdW
  have R1 : Rel (if p1Ok σ (q (i + 1)) (q (i + 2)) = true then kdW σ (q (i + 1)).toNatClampNeg 4 else σ) (if p1Ok σ (q (i + 1)) (q (i + 2)) = true then kdW σ (q (i + 1)).toNatClampNeg 4 else σ) n m K k l := R.ques hA hF (scr_refl _)
  refine v_aload_n (i := 2) G dL_law_1022 rfl rfl ?_
  refine l_arg (j := 1) G S (by omega) hN (by decide) dL_law_1023 dL_law_1024 dL_law_1025 dL_law_1026 dL_law_1027 ?_
  refine l_arg (j := 2) G S (by omega) hN (by decide) dL_law_1028 dL_law_1029 dL_law_1030 dL_law_1031 dL_law_1032 ?_
  refine v_cP2 G (Ctr.here (C_X6_kindly R1.pOK)) (by decide) md_X6_kindly in_X6_kindly (rv_X6 rfl) ml_L_124 (Nat.le_of_ble_eq_true rfl) dL_law_1033 ?_
  rintro _ t ⟨rfl, ht⟩
  refine v_icmp_eq (tgt := 1597) G dL_law_1036 rfl (fun _ => kk _ _ _ _ _ _ (R.ques hA hF ht)) (fun h => absurd ?_ h)
  exact kindly_eq (R.mid hF)
set_option maxHeartbeats 1000000 in
theorem L_dear (G : vG x RL cL_law 4 (some .boolean) 9) (S : sX x N q) (hi : i + 5 ≤ N) (hN : N ≤ 2560) (R : Rel σ σ n m K k l) (kk : ∀ (s : vW) (n m K k l : Nat), Rel s s n m K k l → V x 1597 [some (.ref 115), some (.ref 0), some (.ref 75), some (.int (nI i))] [] s) : V x 1041 [some (.ref 115), some (.ref 0), some (.ref 75), some (.int (nI i))] [] σ := by
  refine v_aload_n (i := 1) G dL_law_1041 rfl rfl ?_
  refine l_arg (j := 1) G S (by omega) hN (by decide) dL_law_1042 dL_law_1043 dL_law_1044 dL_law_1045 dL_law_1046 ?_
  refine l_arg (j := 2) G S (by omega) hN (by decide) dL_law_1047 dL_law_1048 dL_law_1049 dL_law_1050 dL_law_1051 ?_
  refine v_cV2 G (C_X5_dear R.1.1.hn R.1.1.n5 R.1.1.hm R.1.1.m9) (by decide) md_X5_dear in_X5_dear (rv_X5 rfl) ml_L_125 (Nat.le_of_ble_eq_true rfl) dL_law_1052 ?_
  have R1 : Rel σ σ n m K k l := R
  refine v_aload_n (i := 2) G dL_law_1055 rfl rfl ?_
  refine l_arg (j := 1) G S (by omega) hN (by decide) dL_law_1056 dL_law_1057 dL_law_1058 dL_law_1059 dL_law_1060 ?_
  refine l_arg (j := 2) G S (by omega) hN (by decide) dL_law_1061 dL_law_1062 dL_law_1063 dL_law_1064 dL_law_1065 ?_
  refine v_cP2 G (Ctr.here (C_X6_dear R1.pOK)) (by decide) md_X6_dear in_X6_dear (rv_X6 rfl) ml_L_128 (Nat.le_of_ble_eq_true rfl) dL_law_1066 ?_
  rintro _ t ⟨rfl, ht⟩
  refine v_icmp_eq (tgt := 1597) G dL_law_1069 rfl (fun _ => kk _ _ _ _ _ _ (R.ques aSame.rfl fP.rfl ht)) (fun h => absurd ?_ h)
  exact dear_eq R
set_option maxHeartbeats 1000000 in
theorem L_luck (G : vG x RL cL_law 4 (some .boolean) 9) (S : sX x N q) (hi : i + 5 ≤ N) (hN : N ≤ 2560) (R : Rel σ σ n m K k l) (kk : ∀ (s : vW) (n m K k l : Nat), Rel s s n m K k l → V x 1597 [some (.ref 115), some (.ref 0), some (.ref 75), some (.int (nI i))] [] s) : V x 1074 [some (.ref 115), some (.ref 0), some (.ref 75), some (.int (nI i))] [] σ := by
  refine v_aload_n (i := 1) G dL_law_1074 rfl rfl ?_
  refine l_arg (j := 1) G S (by omega) hN (by decide) dL_law_1075 dL_law_1076 dL_law_1077 dL_law_1078 dL_law_1079 ?_
  refine l_arg (j := 2) G S (by omega) hN (by decide) dL_law_1080 dL_law_1081 dL_law_1082 dL_law_1083 dL_law_1084 ?_
  refine l_arg (j := 3) G S (by omega) hN (by decide) dL_law_1085 dL_law_1086 dL_law_1087 dL_law_1088 dL_law_1089 ?_
  refine l_arg (j := 4) G S (by omega) hN (by decide) dL_law_1090 dL_law_1091 dL_law_1092 dL_law_1093 dL_law_1094 ?_
  refine v_cV4 G (C_X5_luck R.1.1.hn R.1.1.n5 R.1.1.hm R.1.1.m9) (by decide) md_X5_luck in_X5_luck (rv_X5 rfl) ml_L_129 (Nat.le_of_ble_eq_true rfl) dL_law_1095 ?_
  have R1 : Rel σ σ n m K k l := R
  refine v_aload_n (i := 2) G dL_law_1098 rfl rfl ?_
  refine l_arg (j := 1) G S (by omega) hN (by decide) dL_law_1099 dL_law_1100 dL_law_1101 dL_law_1102 dL_law_1103 ?_
  refine l_arg (j := 2) G S (by omega) hN (by decide) dL_law_1104 dL_law_1105 dL_law_1106 dL_law_1107 dL_law_1108 ?_
  refine l_arg (j := 3) G S (by omega) hN (by decide) dL_law_1109 dL_law_1110 dL_law_1111 dL_law_1112 dL_law_1113 ?_
  refine l_arg (j := 4) G S (by omega) hN (by decide) dL_law_1114 dL_law_1115 dL_law_1116 dL_law_1117 dL_law_1118 ?_
  refine v_cP4 G (Ctr.here (C_X6_luck R1.pOK R1.1.2.2)) (by decide) md_X6_luck in_X6_luck (rv_X6 rfl) ml_L_133 (Nat.le_of_ble_eq_true rfl) dL_law_1119 ?_
  rintro _ _ ⟨rfl, f, rfl⟩
  refine v_lcmp G dL_law_1122 ?_
  refine v_if_eq (tgt := 1597) G dL_law_1123 rfl (fun _ => kk _ _ _ _ _ _ (R.ques aSame.rfl fP.rfl (scr_far (scr_refl _)))) (fun h => absurd ?_ h)
  exact (congrArg (fun z => lg_cmp z _) (luck_eq R)).trans (lgc_self _)
set_option maxHeartbeats 1000000 in
theorem L_mean (G : vG x RL cL_law 4 (some .boolean) 9) (S : sX x N q) (hi : i + 5 ≤ N) (hN : N ≤ 2560) (R : Rel σ σ n m K k l) (kk : ∀ (s : vW) (n m K k l : Nat), Rel s s n m K k l → V x 1597 [some (.ref 115), some (.ref 0), some (.ref 75), some (.int (nI i))] [] s) : V x 1128 [some (.ref 115), some (.ref 0), some (.ref 75), some (.int (nI i))] [] σ := by
  refine v_aload_n (i := 1) G dL_law_1128 rfl rfl ?_
  refine l_arg (j := 1) G S (by omega) hN (by decide) dL_law_1129 dL_law_1130 dL_law_1131 dL_law_1132 dL_law_1133 ?_
  refine l_arg (j := 2) G S (by omega) hN (by decide) dL_law_1134 dL_law_1135 dL_law_1136 dL_law_1137 dL_law_1138 ?_
  refine l_arg (j := 3) G S (by omega) hN (by decide) dL_law_1139 dL_law_1140 dL_law_1141 dL_law_1142 dL_law_1143 ?_
  refine v_cV3 G (C_X5_mean R.1.1.hn R.1.1.n5 R.1.1.hm R.1.1.m9) (by decide) md_X5_mean in_X5_mean (rv_X5 rfl) ml_L_134 (Nat.le_of_ble_eq_true rfl) dL_law_1144 ?_
  have R1 : Rel σ σ n m K k l := R
  refine v_aload_n (i := 2) G dL_law_1147 rfl rfl ?_
  refine l_arg (j := 1) G S (by omega) hN (by decide) dL_law_1148 dL_law_1149 dL_law_1150 dL_law_1151 dL_law_1152 ?_
  refine l_arg (j := 2) G S (by omega) hN (by decide) dL_law_1153 dL_law_1154 dL_law_1155 dL_law_1156 dL_law_1157 ?_
  refine l_arg (j := 3) G S (by omega) hN (by decide) dL_law_1158 dL_law_1159 dL_law_1160 dL_law_1161 dL_law_1162 ?_
  refine v_cP3 G (Ctr.here (C_X6_mean R1.pOK R1.1.2.2)) (by decide) md_X6_mean in_X6_mean (rv_X6 rfl) ml_L_138 (Nat.le_of_ble_eq_true rfl) dL_law_1163 ?_
  rintro _ _ ⟨rfl, f, rfl⟩
  refine v_lcmp G dL_law_1166 ?_
  refine v_if_eq (tgt := 1597) G dL_law_1167 rfl (fun _ => kk _ _ _ _ _ _ (R.ques aSame.rfl fP.rfl (scr_far (scr_refl _)))) (fun h => absurd ?_ h)
  exact (congrArg (fun z => lg_cmp z _) (mean_eq R)).trans (lgc_self _)
set_option maxHeartbeats 1000000 in
theorem L_see (G : vG x RL cL_law 4 (some .boolean) 9) (S : sX x N q) (hi : i + 5 ≤ N) (hN : N ≤ 2560) (R : Rel σ σ n m K k l) (kk : ∀ (s : vW) (n m K k l : Nat), Rel s s n m K k l → V x 1597 [some (.ref 115), some (.ref 0), some (.ref 75), some (.int (nI i))] [] s) : V x 1172 [some (.ref 115), some (.ref 0), some (.ref 75), some (.int (nI i))] [] σ := by
  refine v_aload_n (i := 1) G dL_law_1172 rfl rfl ?_
  refine l_arg (j := 1) G S (by omega) hN (by decide) dL_law_1173 dL_law_1174 dL_law_1175 dL_law_1176 dL_law_1177 ?_
  refine l_arg (j := 2) G S (by omega) hN (by decide) dL_law_1178 dL_law_1179 dL_law_1180 dL_law_1181 dL_law_1182 ?_
  refine l_arg (j := 3) G S (by omega) hN (by decide) dL_law_1183 dL_law_1184 dL_law_1185 dL_law_1186 dL_law_1187 ?_
  refine l_bool G dL_law_1188 dL_law_1191 dL_law_1192 dL_law_1195 ?_
  refine v_cV3 G (C_X5_see R.2.1.1 R.2.1.2.1 (bI_01 _)) (by decide) md_X5_see in_X5_see (rv_X5 rfl) ml_L_139 (Nat.le_of_ble_eq_true rfl) dL_law_1196 ?_
  have hF : fP (seeW σ k (q (i + 1)) (q (i + 2)) (bI (!(q (i + 3) == 0)))) σ := (by repeat' (first | with_reducible (first | assumption | exact fP.rfl | apply fp_seeW | apply fP.ite) | omega))
  have R1 : Rel σ (seeW σ k (q (i + 1)) (q (i + 2)) (bI (!(q (i + 3) == 0)))) n m K k l := R.mid hF
  refine v_aload_n (i := 2) G dL_law_1199 rfl rfl ?_
  refine l_arg (j := 1) G S (by omega) hN (by decide) dL_law_1200 dL_law_1201 dL_law_1202 dL_law_1203 dL_law_1204 ?_
  refine l_arg (j := 2) G S (by omega) hN (by decide) dL_law_1205 dL_law_1206 dL_law_1207 dL_law_1208 dL_law_1209 ?_
  refine l_arg (j := 3) G S (by omega) hN (by decide) dL_law_1210 dL_law_1211 dL_law_1212 dL_law_1213 dL_law_1214 ?_
  refine l_bool G dL_law_1215 dL_law_1218 dL_law_1219 dL_law_1222 ?_
  refine v_cP3 G (Ctr.here (C_X6_see R1.1.2.1 R1.1.1.n5 R1.2.1.2.2.1 R1.2.1.2.1)) (by decide) md_X6_see in_X6_see (rv_X6 rfl) ml_L_143 (Nat.le_of_ble_eq_true rfl) dL_law_1223 ?_
  rintro _ _ ⟨rfl, rfl⟩
  obtain ⟨he, w2, R2⟩ := see_eq R1 (p := q (i + 1)) (r := q (i + 2)) (z := !(q (i + 3) == 0))
  refine v_icmp_eq (tgt := 1597) G dL_law_1226 rfl (fun _ => kk _ _ _ _ _ _ (R2.after (by repeat' (first | with_reducible (first | assumption | exact fM.rfl | apply fm_mFeedW | apply fm_mText | apply fm_mBldV | apply fm_mPlnV | apply fm_mHgW | apply fm_mFlW | apply fm_mSeeV | apply fm_mBackW | apply fm_mShtW | apply fm_mLayW | apply fm_mReadW | apply fm_cpW | apply fM.set | apply fM.ite) | omega)) rfl)) (fun h => absurd ?_ h)
  exact he
set_option maxHeartbeats 1000000 in
theorem L_forget (G : vG x RL cL_law 4 (some .boolean) 9) (S : sX x N q) (hi : i + 5 ≤ N) (hN : N ≤ 2560) (R : Rel σ σ n m K k l) (kk : ∀ (s : vW) (n m K k l : Nat), Rel s s n m K k l → V x 1597 [some (.ref 115), some (.ref 0), some (.ref 75), some (.int (nI i))] [] s) : V x 1231 [some (.ref 115), some (.ref 0), some (.ref 75), some (.int (nI i))] [] σ := by
  refine v_aload_n (i := 1) G dL_law_1231 rfl rfl ?_
  refine l_arg (j := 1) G S (by omega) hN (by decide) dL_law_1232 dL_law_1233 dL_law_1234 dL_law_1235 dL_law_1236 ?_
  refine v_cV1 G C_X5_forget (by decide) md_X5_forget in_X5_forget (rv_X5 rfl) ml_L_144 (Nat.le_of_ble_eq_true rfl) dL_law_1237 ?_
  have hF : fP (forgW σ (q (i + 1))) σ := (by repeat' (first | with_reducible (first | assumption | exact fP.rfl | apply fp_forgW | apply fP.ite) | omega))
  have R1 : Rel σ (forgW σ (q (i + 1))) n m K k l := R.mid hF
  refine v_aload_n (i := 2) G dL_law_1240 rfl rfl ?_
  refine l_arg (j := 1) G S (by omega) hN (by decide) dL_law_1241 dL_law_1242 dL_law_1243 dL_law_1244 dL_law_1245 ?_
  refine v_cP1 G (Ctr.here (C_X6_forget R1.2.1.2.2.1 R1.2.1.2.1)) (by decide) md_X6_forget in_X6_forget (rv_X6 rfl) ml_L_147 (Nat.le_of_ble_eq_true rfl) dL_law_1246 ?_
  rintro _ _ ⟨rfl, rfl⟩
  obtain ⟨he, w2, R2⟩ := forget_eq R1 (c := q (i + 1))
  refine v_icmp_eq (tgt := 1597) G dL_law_1249 rfl (fun _ => kk _ _ _ _ _ _ (R2.after (by repeat' (first | with_reducible (first | assumption | exact fM.rfl | apply fm_mFeedW | apply fm_mText | apply fm_mBldV | apply fm_mPlnV | apply fm_mHgW | apply fm_mFlW | apply fm_mSeeV | apply fm_mBackW | apply fm_mShtW | apply fm_mLayW | apply fm_mReadW | apply fm_cpW | apply fM.set | apply fM.ite) | omega)) rfl)) (fun h => absurd ?_ h)
  exact he
set_option maxHeartbeats 1000000 in
theorem L_kinds (G : vG x RL cL_law 4 (some .boolean) 9) (S : sX x N q) (hi : i + 5 ≤ N) (hN : N ≤ 2560) (R : Rel σ σ n m K k l) (kk : ∀ (s : vW) (n m K k l : Nat), Rel s s n m K k l → V x 1597 [some (.ref 115), some (.ref 0), some (.ref 75), some (.int (nI i))] [] s) : V x 1254 [some (.ref 115), some (.ref 0), some (.ref 75), some (.int (nI i))] [] σ := by
  refine v_aload_n (i := 1) G dL_law_1254 rfl rfl ?_
  refine l_arg (j := 1) G S (by omega) hN (by decide) dL_law_1255 dL_law_1256 dL_law_1257 dL_law_1258 dL_law_1259 ?_
  refine v_cV1 G (C_X5_kinds R.1.1.hn R.1.1.n5 R.1.1.hm R.1.1.m9 R.2.1.1 R.2.1.2.1 R.who) (by decide) md_X5_kinds in_X5_kinds (rv_X5 rfl) ml_L_148 (Nat.le_of_ble_eq_true rfl) dL_law_1260 ?_
  have hF : fP (if oneB (σ 21 10) (q (i + 1)) = true then kdW σ (q (i + 1)).toNatClampNeg 4 else σ) σ := (by repeat' (first | with_reducible (first | assumption | exact fP.rfl | apply fp_kdW | apply fP.ite) | omega))
  have hA : aSame (if oneB (σ 21 10) (q (i + 1)) = true then kdW σ (q (i + 1)).toNatClampNeg 4 else σ) σ := aSame.ite aSame_kdW
  have R1 : Rel (if oneB (σ 21 10) (q (i + 1)) = true then kdW σ (q (i + 1)).toNatClampNeg 4 else σ) (if oneB (σ 21 10) (q (i + 1)) = true then kdW σ (q (i + 1)).toNatClampNeg 4 else σ) n m K k l := R.ques hA hF (scr_refl _)
  refine v_aload_n (i := 2) G dL_law_1263 rfl rfl ?_
  refine l_arg (j := 1) G S (by omega) hN (by decide) dL_law_1264 dL_law_1265 dL_law_1266 dL_law_1267 dL_law_1268 ?_
  refine v_cP1 G (Ctr.here (C_X6_kinds R1.pOK R1.seOK)) (by decide) md_X6_kinds in_X6_kinds (rv_X6 rfl) ml_L_151 (Nat.le_of_ble_eq_true rfl) dL_law_1269 ?_
  rintro _ t ⟨rfl, ht⟩
  refine v_icmp_eq (tgt := 1597) G dL_law_1272 rfl (fun _ => kk _ _ _ _ _ _ (R.ques hA hF ht)) (fun h => absurd ?_ h)
  exact kinds_eq (R.mid hF)
set_option maxHeartbeats 1000000 in
theorem L_walls (G : vG x RL cL_law 4 (some .boolean) 9) (S : sX x N q) (hi : i + 5 ≤ N) (hN : N ≤ 2560) (R : Rel σ σ n m K k l) (kk : ∀ (s : vW) (n m K k l : Nat), Rel s s n m K k l → V x 1597 [some (.ref 115), some (.ref 0), some (.ref 75), some (.int (nI i))] [] s) : V x 1277 [some (.ref 115), some (.ref 0), some (.ref 75), some (.int (nI i))] [] σ := by
  refine v_aload_n (i := 1) G dL_law_1277 rfl rfl ?_
  refine l_arg (j := 1) G S (by omega) hN (by decide) dL_law_1278 dL_law_1279 dL_law_1280 dL_law_1281 dL_law_1282 ?_
  refine v_cV1 G (C_X5_walls R.1.1.hn R.1.1.n5 R.1.1.hm R.1.1.m9 R.2.1.1 R.2.1.2.1 R.who) (by decide) md_X5_walls in_X5_walls (rv_X5 rfl) ml_L_152 (Nat.le_of_ble_eq_true rfl) dL_law_1283 ?_
  have hF : fP (if oneB (σ 21 10) (q (i + 1)) = true then mvs σ (q (i + 1)).toNatClampNeg m else σ) σ := (by repeat' (first | with_reducible (first | assumption | exact fP.rfl | apply fp_mvs | apply fP.ite) | omega))
  have hA : aSame (if oneB (σ 21 10) (q (i + 1)) = true then mvs σ (q (i + 1)).toNatClampNeg m else σ) σ := aSame.ite aSame_mvs
  have R1 : Rel (if oneB (σ 21 10) (q (i + 1)) = true then mvs σ (q (i + 1)).toNatClampNeg m else σ) (if oneB (σ 21 10) (q (i + 1)) = true then mvs σ (q (i + 1)).toNatClampNeg m else σ) n m K k l := R.ques hA hF (scr_refl _)
  refine v_aload_n (i := 2) G dL_law_1286 rfl rfl ?_
  refine l_arg (j := 1) G S (by omega) hN (by decide) dL_law_1287 dL_law_1288 dL_law_1289 dL_law_1290 dL_law_1291 ?_
  refine v_cP1 G (Ctr.here (C_X6_walls R1.pOK R1.seOK)) (by decide) md_X6_walls in_X6_walls (rv_X6 rfl) ml_L_155 (Nat.le_of_ble_eq_true rfl) dL_law_1292 ?_
  rintro _ t ⟨rfl, ht⟩
  refine v_icmp_eq (tgt := 1597) G dL_law_1295 rfl (fun _ => kk _ _ _ _ _ _ (R.ques hA hF ht)) (fun h => absurd ?_ h)
  exact walls_eq (R.mid hF)
set_option maxHeartbeats 1000000 in
theorem L_ask (G : vG x RL cL_law 4 (some .boolean) 9) (S : sX x N q) (hi : i + 5 ≤ N) (hN : N ≤ 2560) (R : Rel σ σ n m K k l) (kk : ∀ (s : vW) (n m K k l : Nat), Rel s s n m K k l → V x 1597 [some (.ref 115), some (.ref 0), some (.ref 75), some (.int (nI i))] [] s) : V x 1300 [some (.ref 115), some (.ref 0), some (.ref 75), some (.int (nI i))] [] σ := by
  refine v_aload_n (i := 1) G dL_law_1300 rfl rfl ?_
  refine l_arg (j := 1) G S (by omega) hN (by decide) dL_law_1301 dL_law_1302 dL_law_1303 dL_law_1304 dL_law_1305 ?_
  refine l_arg (j := 2) G S (by omega) hN (by decide) dL_law_1306 dL_law_1307 dL_law_1308 dL_law_1309 dL_law_1310 ?_
  refine v_cV2 G (C_X5_ask R.1.1.hn R.1.1.n5 R.1.1.hm R.1.1.m9 R.2.1.1 R.2.1.2.1 R.who) (by decide) md_X5_ask in_X5_ask (rv_X5 rfl) ml_L_156 (Nat.le_of_ble_eq_true rfl) dL_law_1311 ?_
  have hF : fP (if p1Ok σ (q (i + 1)) (q (i + 2)) = true then askW σ m k (q (i + 1)).toNatClampNeg n else σ) σ := (by repeat' (first | with_reducible (first | assumption | exact fP.rfl | apply fp_askW | apply fP.ite) | omega))
  have hA : aSame (if p1Ok σ (q (i + 1)) (q (i + 2)) = true then askW σ m k (q (i + 1)).toNatClampNeg n else σ) σ := aSame.ite aSame_ask
  have R1 : Rel (if p1Ok σ (q (i + 1)) (q (i + 2)) = true then askW σ m k (q (i + 1)).toNatClampNeg n else σ) (if p1Ok σ (q (i + 1)) (q (i + 2)) = true then askW σ m k (q (i + 1)).toNatClampNeg n else σ) n m K k l := R.ques hA hF (scr_refl _)
  refine v_aload_n (i := 2) G dL_law_1314 rfl rfl ?_
  refine l_arg (j := 1) G S (by omega) hN (by decide) dL_law_1315 dL_law_1316 dL_law_1317 dL_law_1318 dL_law_1319 ?_
  refine l_arg (j := 2) G S (by omega) hN (by decide) dL_law_1320 dL_law_1321 dL_law_1322 dL_law_1323 dL_law_1324 ?_
  refine v_cP2 G (Ctr.here (C_X6_ask R1.pOK R1.seOK)) (by decide) md_X6_ask in_X6_ask (rv_X6 rfl) ml_L_159 (Nat.le_of_ble_eq_true rfl) dL_law_1325 ?_
  rintro _ t ⟨rfl, ht⟩
  refine v_icmp_eq (tgt := 1597) G dL_law_1328 rfl (fun _ => kk _ _ _ _ _ _ (R.ques hA hF ht)) (fun h => absurd ?_ h)
  exact ask_eq (R.mid hF)
set_option maxHeartbeats 1000000 in
theorem L_drift (G : vG x RL cL_law 4 (some .boolean) 9) (S : sX x N q) (hi : i + 5 ≤ N) (hN : N ≤ 2560) (R : Rel σ σ n m K k l) (kk : ∀ (s : vW) (n m K k l : Nat), Rel s s n m K k l → V x 1597 [some (.ref 115), some (.ref 0), some (.ref 75), some (.int (nI i))] [] s) : V x 1333 [some (.ref 115), some (.ref 0), some (.ref 75), some (.int (nI i))] [] σ := by
  refine v_aload_n (i := 1) G dL_law_1333 rfl rfl ?_
  refine l_arg (j := 1) G S (by omega) hN (by decide) dL_law_1334 dL_law_1335 dL_law_1336 dL_law_1337 dL_law_1338 ?_
  refine l_arg (j := 2) G S (by omega) hN (by decide) dL_law_1339 dL_law_1340 dL_law_1341 dL_law_1342 dL_law_1343 ?_
  refine l_arg (j := 3) G S (by omega) hN (by decide) dL_law_1344 dL_law_1345 dL_law_1346 dL_law_1347 dL_law_1348 ?_
  refine v_cV3 G (C_X5_drift R.1.1.hn R.1.1.n5 R.1.1.hm R.1.1.m9) (by decide) md_X5_drift in_X5_drift (rv_X5 rfl) ml_L_160 (Nat.le_of_ble_eq_true rfl) dL_law_1349 ?_
  have hF : fP (driftW σ n m (q (i + 1)) (q (i + 2)) (q (i + 3))) σ := (by repeat' (first | with_reducible (first | assumption | exact fP.rfl | apply fp_driftW | apply fP.ite) | omega))
  have hA : aSame (driftW σ n m (q (i + 1)) (q (i + 2)) (q (i + 3))) σ := aSame_drift
  have R1 : Rel (driftW σ n m (q (i + 1)) (q (i + 2)) (q (i + 3))) (driftW σ n m (q (i + 1)) (q (i + 2)) (q (i + 3))) n m K k l := R.ques hA hF (scr_refl _)
  refine v_aload_n (i := 2) G dL_law_1352 rfl rfl ?_
  refine l_arg (j := 1) G S (by omega) hN (by decide) dL_law_1353 dL_law_1354 dL_law_1355 dL_law_1356 dL_law_1357 ?_
  refine l_arg (j := 2) G S (by omega) hN (by decide) dL_law_1358 dL_law_1359 dL_law_1360 dL_law_1361 dL_law_1362 ?_
  refine l_arg (j := 3) G S (by omega) hN (by decide) dL_law_1363 dL_law_1364 dL_law_1365 dL_law_1366 dL_law_1367 ?_
  refine v_cP3 G (Ctr.here (C_X6_drift R1.pOK)) (by decide) md_X6_drift in_X6_drift (rv_X6 rfl) ml_L_163 (Nat.le_of_ble_eq_true rfl) dL_law_1368 ?_
  rintro _ t ⟨rfl, ht⟩
  refine v_icmp_eq (tgt := 1597) G dL_law_1371 rfl (fun _ => kk _ _ _ _ _ _ (R.ques hA hF ht)) (fun h => absurd ?_ h)
  exact drift_eq (R.mid hF)
set_option maxHeartbeats 1000000 in
theorem L_keep (G : vG x RL cL_law 4 (some .boolean) 9) (S : sX x N q) (hi : i + 5 ≤ N) (hN : N ≤ 2560) (R : Rel σ σ n m K k l) (kk : ∀ (s : vW) (n m K k l : Nat), Rel s s n m K k l → V x 1597 [some (.ref 115), some (.ref 0), some (.ref 75), some (.int (nI i))] [] s) : V x 1376 [some (.ref 115), some (.ref 0), some (.ref 75), some (.int (nI i))] [] σ := by
  refine v_aload_n (i := 1) G dL_law_1376 rfl rfl ?_
  refine l_arg (j := 1) G S (by omega) hN (by decide) dL_law_1377 dL_law_1378 dL_law_1379 dL_law_1380 dL_law_1381 ?_
  refine v_cV1 G C_X5_keep (by decide) md_X5_keep in_X5_keep (rv_X5 rfl) ml_L_164 (Nat.le_of_ble_eq_true rfl) dL_law_1382 ?_
  have hF : fP (keepW σ (q (i + 1))) σ := (by repeat' (first | with_reducible (first | assumption | exact fP.rfl | apply fp_keepW | apply fP.ite) | omega))
  have R1 : Rel σ (keepW σ (q (i + 1))) n m K k l := R.mid hF
  refine v_aload_n (i := 2) G dL_law_1385 rfl rfl ?_
  refine l_arg (j := 1) G S (by omega) hN (by decide) dL_law_1386 dL_law_1387 dL_law_1388 dL_law_1389 dL_law_1390 ?_
  refine v_cP1 G (Ctr.here (C_X6_keep (fun j hj => (R1.2.2.1 j hj).2.imp id And.left))) (by decide) md_X6_keep in_X6_keep (rv_X6 rfl) ml_L_167 (Nat.le_of_ble_eq_true rfl) dL_law_1391 ?_
  rintro _ _ ⟨rfl, rfl⟩
  obtain ⟨he, R2⟩ := keep_eq R1 (c := q (i + 1))
  refine v_icmp_eq (tgt := 1597) G dL_law_1394 rfl (fun _ => kk _ _ _ _ _ _ (R2.after (by repeat' (first | with_reducible (first | assumption | exact fM.rfl | apply fm_mFeedW | apply fm_mText | apply fm_mBldV | apply fm_mPlnV | apply fm_mHgW | apply fm_mFlW | apply fm_mSeeV | apply fm_mBackW | apply fm_mShtW | apply fm_mLayW | apply fm_mReadW | apply fm_cpW | apply fM.set | apply fM.ite) | omega)) rfl)) (fun h => absurd ?_ h)
  exact he
set_option maxHeartbeats 1000000 in
theorem L_back (G : vG x RL cL_law 4 (some .boolean) 9) (S : sX x N q) (hi : i + 5 ≤ N) (hN : N ≤ 2560) (R : Rel σ σ n m K k l) (kk : ∀ (s : vW) (n m K k l : Nat), Rel s s n m K k l → V x 1597 [some (.ref 115), some (.ref 0), some (.ref 75), some (.int (nI i))] [] s) : V x 1399 [some (.ref 115), some (.ref 0), some (.ref 75), some (.int (nI i))] [] σ := by
  obtain ⟨mi, hmi, he, m2, K2, R2⟩ := back_eq (R.mid (a := backW σ (q (i + 1))) (by repeat' (first | with_reducible (first | assumption | exact fP.rfl | apply fp_backW | apply fP.ite) | omega))) (c := q (i + 1))
  refine v_aload_n (i := 1) G dL_law_1399 rfl rfl ?_
  refine l_arg (j := 1) G S (by omega) hN (by decide) dL_law_1400 dL_law_1401 dL_law_1402 dL_law_1403 dL_law_1404 ?_
  refine v_cV1 G (C_X5_back hmi) (by decide) md_X5_back in_X5_back (rv_X5 rfl) ml_L_168 (Nat.le_of_ble_eq_true rfl) dL_law_1405 ?_
  have hF : fP (backW σ (q (i + 1))) σ := (by repeat' (first | with_reducible (first | assumption | exact fP.rfl | apply fp_backW | apply fP.ite) | omega))
  have R1 : Rel σ (backW σ (q (i + 1))) n m K k l := R.mid hF
  refine v_aload_n (i := 2) G dL_law_1408 rfl rfl ?_
  refine l_arg (j := 1) G S (by omega) hN (by decide) dL_law_1409 dL_law_1410 dL_law_1411 dL_law_1412 dL_law_1413 ?_
  refine v_cP1 G (Ctr.here (C_X6_back R1.1.2.1 R1.1.1.n5)) (by decide) md_X6_back in_X6_back (rv_X6 rfl) ml_L_171 (Nat.le_of_ble_eq_true rfl) dL_law_1414 ?_
  rintro _ _ ⟨rfl, rfl⟩
  refine v_icmp_eq (tgt := 1597) G dL_law_1417 rfl (fun _ => kk _ _ _ _ _ _ (R2.after (by repeat' (first | with_reducible (first | assumption | exact fM.rfl | apply fm_mFeedW | apply fm_mText | apply fm_mBldV | apply fm_mPlnV | apply fm_mHgW | apply fm_mFlW | apply fm_mSeeV | apply fm_mBackW | apply fm_mShtW | apply fm_mLayW | apply fm_mReadW | apply fm_cpW | apply fM.set | apply fM.ite) | omega)) rfl)) (fun h => absurd ?_ h)
  exact he
set_option maxHeartbeats 1000000 in
theorem L_sheet (G : vG x RL cL_law 4 (some .boolean) 9) (S : sX x N q) (hi : i + 5 ≤ N) (hN : N ≤ 2560) (R : Rel σ σ n m K k l) (kk : ∀ (s : vW) (n m K k l : Nat), Rel s s n m K k l → V x 1597 [some (.ref 115), some (.ref 0), some (.ref 75), some (.int (nI i))] [] s) : V x 1422 [some (.ref 115), some (.ref 0), some (.ref 75), some (.int (nI i))] [] σ := by
  refine v_aload_n (i := 1) G dL_law_1422 rfl rfl ?_
  refine l_arg (j := 1) G S (by omega) hN (by decide) dL_law_1423 dL_law_1424 dL_law_1425 dL_law_1426 dL_law_1427 ?_
  refine l_arg (j := 2) G S (by omega) hN (by decide) dL_law_1428 dL_law_1429 dL_law_1430 dL_law_1431 dL_law_1432 ?_
  refine l_arg (j := 3) G S (by omega) hN (by decide) dL_law_1433 dL_law_1434 dL_law_1435 dL_law_1436 dL_law_1437 ?_
  refine v_cV3 G C_X5_sheet (by decide) md_X5_sheet in_X5_sheet (rv_X5 rfl) ml_L_172 (Nat.le_of_ble_eq_true rfl) dL_law_1438 ?_
  have hF : fP (sheetW σ (q (i + 1)) (q (i + 2)) (q (i + 3))) σ := (by repeat' (first | with_reducible (first | assumption | exact fP.rfl | apply fp_sheetW | apply fP.ite) | omega))
  have R1 : Rel σ (sheetW σ (q (i + 1)) (q (i + 2)) (q (i + 3))) n m K k l := R.mid hF
  refine v_aload_n (i := 2) G dL_law_1441 rfl rfl ?_
  refine l_arg (j := 1) G S (by omega) hN (by decide) dL_law_1442 dL_law_1443 dL_law_1444 dL_law_1445 dL_law_1446 ?_
  refine l_arg (j := 2) G S (by omega) hN (by decide) dL_law_1447 dL_law_1448 dL_law_1449 dL_law_1450 dL_law_1451 ?_
  refine l_arg (j := 3) G S (by omega) hN (by decide) dL_law_1452 dL_law_1453 dL_law_1454 dL_law_1455 dL_law_1456 ?_
  refine v_cP3 G (Ctr.here (C_X6_sheet)) (by decide) md_X6_sheet in_X6_sheet (rv_X6 rfl) ml_L_175 (Nat.le_of_ble_eq_true rfl) dL_law_1457 ?_
  rintro _ _ ⟨rfl, rfl⟩
  obtain ⟨he, R2⟩ := sheet_eq R1 (x := q (i + 1)) (y := q (i + 2)) (z := q (i + 3))
  refine v_icmp_eq (tgt := 1597) G dL_law_1460 rfl (fun _ => kk _ _ _ _ _ _ (R2.after (by repeat' (first | with_reducible (first | assumption | exact fM.rfl | apply fm_mFeedW | apply fm_mText | apply fm_mBldV | apply fm_mPlnV | apply fm_mHgW | apply fm_mFlW | apply fm_mSeeV | apply fm_mBackW | apply fm_mShtW | apply fm_mLayW | apply fm_mReadW | apply fm_cpW | apply fM.set | apply fM.ite) | omega)) rfl)) (fun h => absurd ?_ h)
  exact he
set_option maxHeartbeats 1000000 in
theorem L_lay (G : vG x RL cL_law 4 (some .boolean) 9) (S : sX x N q) (hi : i + 5 ≤ N) (hN : N ≤ 2560) (R : Rel σ σ n m K k l) (kk : ∀ (s : vW) (n m K k l : Nat), Rel s s n m K k l → V x 1597 [some (.ref 115), some (.ref 0), some (.ref 75), some (.int (nI i))] [] s) : V x 1465 [some (.ref 115), some (.ref 0), some (.ref 75), some (.int (nI i))] [] σ := by
  refine v_aload_n (i := 1) G dL_law_1465 rfl rfl ?_
  refine l_arg (j := 1) G S (by omega) hN (by decide) dL_law_1466 dL_law_1467 dL_law_1468 dL_law_1469 dL_law_1470 ?_
  refine l_arg (j := 2) G S (by omega) hN (by decide) dL_law_1471 dL_law_1472 dL_law_1473 dL_law_1474 dL_law_1475 ?_
  refine l_arg (j := 3) G S (by omega) hN (by decide) dL_law_1476 dL_law_1477 dL_law_1478 dL_law_1479 dL_law_1480 ?_
  refine v_cV3 G C_X5_lay (by decide) md_X5_lay in_X5_lay (rv_X5 rfl) ml_L_176 (Nat.le_of_ble_eq_true rfl) dL_law_1481 ?_
  have hF : fP (layW σ (q (i + 1)) (q (i + 2)) (q (i + 3))) σ := (by repeat' (first | with_reducible (first | assumption | exact fP.rfl | apply fp_layW | apply fP.ite) | omega))
  have R1 : Rel σ (layW σ (q (i + 1)) (q (i + 2)) (q (i + 3))) n m K k l := R.mid hF
  obtain ⟨e, he40, hlane⟩ := R1.lane (q (i + 1))
  refine v_aload_n (i := 2) G dL_law_1484 rfl rfl ?_
  refine l_arg (j := 1) G S (by omega) hN (by decide) dL_law_1485 dL_law_1486 dL_law_1487 dL_law_1488 dL_law_1489 ?_
  refine l_arg (j := 2) G S (by omega) hN (by decide) dL_law_1490 dL_law_1491 dL_law_1492 dL_law_1493 dL_law_1494 ?_
  refine l_arg (j := 3) G S (by omega) hN (by decide) dL_law_1495 dL_law_1496 dL_law_1497 dL_law_1498 dL_law_1499 ?_
  refine v_cP3 G (Ctr.here (C_X6_lay hlane he40)) (by decide) md_X6_lay in_X6_lay (rv_X6 rfl) ml_L_179 (Nat.le_of_ble_eq_true rfl) dL_law_1500 ?_
  rintro _ _ ⟨rfl, rfl⟩
  obtain ⟨he, R2⟩ := lay_eq R1 (x := q (i + 1)) (y := q (i + 2)) (v := q (i + 3)) hlane he40
  refine v_icmp_eq (tgt := 1597) G dL_law_1503 rfl (fun _ => kk _ _ _ _ _ _ (R2.after (by repeat' (first | with_reducible (first | assumption | exact fM.rfl | apply fm_mFeedW | apply fm_mText | apply fm_mBldV | apply fm_mPlnV | apply fm_mHgW | apply fm_mFlW | apply fm_mSeeV | apply fm_mBackW | apply fm_mShtW | apply fm_mLayW | apply fm_mReadW | apply fm_cpW | apply fM.set | apply fM.ite) | omega)) rfl)) (fun h => absurd ?_ h)
  exact he
set_option maxHeartbeats 1000000 in
theorem L_read (G : vG x RL cL_law 4 (some .boolean) 9) (S : sX x N q) (hi : i + 5 ≤ N) (hN : N ≤ 2560) (R : Rel σ σ n m K k l) (kk : ∀ (s : vW) (n m K k l : Nat), Rel s s n m K k l → V x 1597 [some (.ref 115), some (.ref 0), some (.ref 75), some (.int (nI i))] [] s) : V x 1508 [some (.ref 115), some (.ref 0), some (.ref 75), some (.int (nI i))] [] σ := by
  refine v_aload_n (i := 1) G dL_law_1508 rfl rfl ?_
  refine l_arg (j := 1) G S (by omega) hN (by decide) dL_law_1509 dL_law_1510 dL_law_1511 dL_law_1512 dL_law_1513 ?_
  refine l_arg (j := 2) G S (by omega) hN (by decide) dL_law_1514 dL_law_1515 dL_law_1516 dL_law_1517 dL_law_1518 ?_
  refine l_arg (j := 3) G S (by omega) hN (by decide) dL_law_1519 dL_law_1520 dL_law_1521 dL_law_1522 dL_law_1523 ?_
  refine l_arg (j := 4) G S (by omega) hN (by decide) dL_law_1524 dL_law_1525 dL_law_1526 dL_law_1527 dL_law_1528 ?_
  refine v_cV4 G C_X5_read (by decide) md_X5_read in_X5_read (rv_X5 rfl) ml_L_180 (Nat.le_of_ble_eq_true rfl) dL_law_1529 ?_
  have hF : fP (readW σ (q (i + 1)) (q (i + 2)) (q (i + 3)) (q (i + 4))) σ := (by repeat' (first | with_reducible (first | assumption | exact fP.rfl | apply fp_readW | apply fP.ite) | omega))
  have R1 : Rel σ (readW σ (q (i + 1)) (q (i + 2)) (q (i + 3)) (q (i + 4))) n m K k l := R.mid hF
  refine v_aload_n (i := 2) G dL_law_1532 rfl rfl ?_
  refine l_arg (j := 1) G S (by omega) hN (by decide) dL_law_1533 dL_law_1534 dL_law_1535 dL_law_1536 dL_law_1537 ?_
  refine l_arg (j := 2) G S (by omega) hN (by decide) dL_law_1538 dL_law_1539 dL_law_1540 dL_law_1541 dL_law_1542 ?_
  refine l_arg (j := 3) G S (by omega) hN (by decide) dL_law_1543 dL_law_1544 dL_law_1545 dL_law_1546 dL_law_1547 ?_
  refine l_arg (j := 4) G S (by omega) hN (by decide) dL_law_1548 dL_law_1549 dL_law_1550 dL_law_1551 dL_law_1552 ?_
  refine v_cP4 G (Ctr.here (C_X6_read R1.pOK R1.2.2.2.2.1.2)) (by decide) md_X6_read in_X6_read (rv_X6 rfl) ml_L_184 (Nat.le_of_ble_eq_true rfl) dL_law_1553 ?_
  rintro _ _ ⟨rfl, f, rfl⟩
  obtain ⟨he, R2⟩ := read_eq R1 (x := q (i + 1)) (v := q (i + 2)) (f := q (i + 3)) (c := q (i + 4))
  refine v_icmp_eq (tgt := 1597) G dL_law_1556 rfl (fun _ => kk _ _ _ _ _ _ (R2.after (by repeat' (first | with_reducible (first | assumption | exact fM.rfl | apply fm_mFeedW | apply fm_mText | apply fm_mBldV | apply fm_mPlnV | apply fm_mHgW | apply fm_mFlW | apply fm_mSeeV | apply fm_mBackW | apply fm_mShtW | apply fm_mLayW | apply fm_mReadW | apply fm_cpW | apply fM.set | apply fM.ite) | omega)) rfl)) (fun h => absurd ?_ h)
  exact he
set_option maxHeartbeats 1000000 in
theorem L_torn (G : vG x RL cL_law 4 (some .boolean) 9) (S : sX x N q) (hi : i + 5 ≤ N) (hN : N ≤ 2560) (R : Rel σ σ n m K k l) (kk : ∀ (s : vW) (n m K k l : Nat), Rel s s n m K k l → V x 1597 [some (.ref 115), some (.ref 0), some (.ref 75), some (.int (nI i))] [] s) : V x 1561 [some (.ref 115), some (.ref 0), some (.ref 75), some (.int (nI i))] [] σ := by
  refine v_aload_n (i := 1) G dL_law_1561 rfl rfl ?_
  refine v_cV0 G C_X5_torn (by decide) md_X5_torn in_X5_torn (rv_X5 rfl) ml_L_185 (Nat.le_of_ble_eq_true rfl) dL_law_1562 ?_
  have R1 : Rel σ σ n m K k l := R
  refine v_aload_n (i := 2) G dL_law_1565 rfl rfl ?_
  refine v_cP0 G (Ctr.here (C_X6_torn)) (by decide) md_X6_torn in_X6_torn (rv_X6 rfl) ml_L_188 (Nat.le_of_ble_eq_true rfl) dL_law_1566 ?_
  rintro _ _ ⟨rfl, rfl⟩
  refine v_icmp_eq (tgt := 1597) G dL_law_1569 rfl (fun _ => kk _ _ _ _ _ _ (R.ques aSame.rfl fP.rfl (scr_far (scr_refl _)))) (fun h => absurd ?_ h)
  exact R.2.2.2.2.2.2.1
set_option maxHeartbeats 1000000 in
theorem L_count (G : vG x RL cL_law 4 (some .boolean) 9) (S : sX x N q) (hi : i + 5 ≤ N) (hN : N ≤ 2560) (R : Rel σ σ n m K k l) (kk : ∀ (s : vW) (n m K k l : Nat), Rel s s n m K k l → V x 1597 [some (.ref 115), some (.ref 0), some (.ref 75), some (.int (nI i))] [] s) : V x 1574 [some (.ref 115), some (.ref 0), some (.ref 75), some (.int (nI i))] [] σ := by
  refine v_aload_n (i := 1) G dL_law_1574 rfl rfl ?_
  refine l_arg (j := 1) G S (by omega) hN (by decide) dL_law_1575 dL_law_1576 dL_law_1577 dL_law_1578 dL_law_1579 ?_
  refine v_cV1 G (C_X5_count R.1.1.hn R.1.1.n5) (by decide) md_X5_count in_X5_count (rv_X5 rfl) ml_L_189 (Nat.le_of_ble_eq_true rfl) dL_law_1580 ?_
  have R1 : Rel σ σ n m K k l := R
  refine v_aload_n (i := 2) G dL_law_1583 rfl rfl ?_
  refine l_arg (j := 1) G S (by omega) hN (by decide) dL_law_1584 dL_law_1585 dL_law_1586 dL_law_1587 dL_law_1588 ?_
  refine v_cP1 G (Ctr.here (C_X6_count R1.1.2.1 R1.1.1.n5)) (by decide) md_X6_count in_X6_count (rv_X6 rfl) ml_L_192 (Nat.le_of_ble_eq_true rfl) dL_law_1589 ?_
  rintro _ _ ⟨rfl, rfl⟩
  refine v_icmp_eq (tgt := 1597) G dL_law_1592 rfl (fun _ => kk _ _ _ _ _ _ (R.ques aSame.rfl fP.rfl (scr_far (scr_refl _)))) (fun h => absurd ?_ h)
  exact count_eq R
end LC
