section LWD
variable {p : Program} {l : Launch} {e : Env} {s : State} {m : MethodId} {below : List Frame} {meth : Method} {c : Code} {bq L : Nat} {xs : Nat → Int32} {X1 X2 : WX} {G1 : Geo} {M1 M2 : Mem} {H : Heap} {locs : List Loc} {cells slots : Nat} {la : Array Slot} {pc i : Nat} {st : List Value} {QF : State → Prop} {σ : St}
theorem law_c0 (C0 : lw_At p s m meth c bq L xs) (hS : LSt s X1 X2 G1 M1 M2 H locs) (hl : LH la bq i X1 X2) (hC : SC σ G1 M1) (hM : SM σ M2) (hI : SI σ) (hi : i + 6 ≤ L) (hL : L ≤ 3072) (hc : cells + 6 ≤ 600000) (hs : slots + 1509 ≤ 7302250) (hg : G1.1 + 6 < 1000000) (KK : LK p l e s m below meth c bq X1 X2 G1.1 cells slots la QF) : W p l e room_1 s m #[Value.ref bq] below meth c H locs cells slots QF (F0 m 292 la []) := by
  have hx := C0.1
  have hb := C0.2.1
  have hsh : Sh G1 0 (0, 8) := hC.1.s (by decide) rfl
  refine lv_aload_n hx hb d_La_292 rfl (lv_at hl 2 rfl) ?_
  refine L_arg C0 hS hl 1 (by omega) hL d_La_293 d_La_294 d_La_295 rfl d_La_296 d_La_297 ?_
  refine L_arg C0 hS hl 2 (by omega) hL d_La_298 d_La_299 d_La_300 rfl d_La_301 d_La_302 ?_
  refine L_cls C0 hS (As := [.int (xs (i + 1)), .int (xs (i + 2))]) (rest := []) (b' := 0) (bs' := 0) (cT_person hC hI (xs (i + 1)) (xs (i + 2))) d_La_303 ml_La_13 cb_TP_person cv_TP_person rfl hsh rfl ⟨by decide, by decide⟩ rfl (Nat.le_of_ble_eq_true rfl) rfl (Nat.le_of_ble_eq_true rfl) hl.1 ⟨by omega, by omega⟩ (fun v G' M' H' locs' hq hS2 => ?_)
  obtain ⟨rfl, r, rfl, rfl, hC2⟩ := hq
  refine lv_aload_n hx hb d_La_306 rfl (lv_at hl 1 rfl) ?_
  refine L_arg C0 hS2 hl 1 (by omega) hL d_La_307 d_La_308 d_La_309 rfl d_La_310 d_La_311 ?_
  refine L_arg C0 hS2 hl 2 (by omega) hL d_La_312 d_La_313 d_La_314 rfl d_La_315 d_La_316 ?_
  refine L_mod C0 hS2 hM.R (As := [.int (xs (i + 1)), .int (xs (i + 2))]) (rest := [.int (ans_person σ.cr ((xs (i + 1))) ((xs (i + 2))))]) (mT_person hM hI (xs (i + 1)) (xs (i + 2))) (qI (fun _ _ z => z.2.R)) d_La_317 ml_La_17 cb_TM_person cv_TM_person rfl rfl ⟨by decide, by decide⟩ rfl (Nat.le_of_ble_eq_true rfl) rfl rfl (Nat.le_of_ble_eq_true rfl) hl.1 ⟨by omega, by omega⟩ (fun v M' H' locs' hq hS3 => ?_)
  obtain ⟨-, r, rfl, rfl, hM2⟩ := hq
  refine lv_icmp_eq hx hb d_La_320 (tgt := 2005) rfl (fun _ => ?_) (fun z => absurd rfl z)
  exact KK _ _ _ _ _ _ _ _ (by omega) (by omega) (by omega) hS3 hC2 hM2 (iT_person hI (xs (i + 1)) (xs (i + 2)))
theorem law_c1 (C0 : lw_At p s m meth c bq L xs) (hS : LSt s X1 X2 G1 M1 M2 H locs) (hl : LH la bq i X1 X2) (hC : SC σ G1 M1) (hM : SM σ M2) (hI : SI σ) (hi : i + 6 ≤ L) (hL : L ≤ 3072) (hc : cells + 6 ≤ 600000) (hs : slots + 1509 ≤ 7302250) (hg : G1.1 + 6 < 1000000) (KK : LK p l e s m below meth c bq X1 X2 G1.1 cells slots la QF) : W p l e room_1 s m #[Value.ref bq] below meth c H locs cells slots QF (F0 m 325 la []) := by
  have hx := C0.1
  have hb := C0.2.1
  have hsh : Sh G1 0 (0, 8) := hC.1.s (by decide) rfl
  refine lv_aload_n hx hb d_La_325 rfl (lv_at hl 2 rfl) ?_
  refine L_arg C0 hS hl 1 (by omega) hL d_La_326 d_La_327 d_La_328 rfl d_La_329 d_La_330 ?_
  refine L_arg C0 hS hl 2 (by omega) hL d_La_331 d_La_332 d_La_333 rfl d_La_334 d_La_335 ?_
  refine L_cls C0 hS (As := [.int (xs (i + 1)), .int (xs (i + 2))]) (rest := []) (b' := 0) (bs' := 0) (cT_hear hC hI (xs (i + 1)) (xs (i + 2))) d_La_336 ml_La_18 cb_TP_hear cv_TP_hear rfl hsh rfl ⟨by decide, by decide⟩ rfl (Nat.le_of_ble_eq_true rfl) rfl (Nat.le_of_ble_eq_true rfl) hl.1 ⟨by omega, by omega⟩ (fun v G' M' H' locs' hq hS2 => ?_)
  obtain ⟨rfl, r, rfl, rfl, hC2⟩ := hq
  refine lv_aload_n hx hb d_La_339 rfl (lv_at hl 1 rfl) ?_
  refine L_arg C0 hS2 hl 1 (by omega) hL d_La_340 d_La_341 d_La_342 rfl d_La_343 d_La_344 ?_
  refine L_arg C0 hS2 hl 2 (by omega) hL d_La_345 d_La_346 d_La_347 rfl d_La_348 d_La_349 ?_
  refine L_mod C0 hS2 hM.R (As := [.int (xs (i + 1)), .int (xs (i + 2))]) (rest := [.int (ans_hear σ.cr ((xs (i + 1))) ((xs (i + 2))))]) (mT_hear hM hI (xs (i + 1)) (xs (i + 2))) (qI (fun _ _ z => z.2.R)) d_La_350 ml_La_22 cb_TM_hear cv_TM_hear rfl rfl ⟨by decide, by decide⟩ rfl (Nat.le_of_ble_eq_true rfl) rfl rfl (Nat.le_of_ble_eq_true rfl) hl.1 ⟨by omega, by omega⟩ (fun v M' H' locs' hq hS3 => ?_)
  obtain ⟨-, r, rfl, rfl, hM2⟩ := hq
  refine lv_icmp_eq hx hb d_La_353 (tgt := 2005) rfl (fun _ => ?_) (fun z => absurd rfl z)
  exact KK _ _ _ _ _ _ _ _ (by omega) (by omega) (by omega) hS3 hC2 hM2 (iT_hear hI (xs (i + 1)) (xs (i + 2)))
theorem law_c2 (C0 : lw_At p s m meth c bq L xs) (hS : LSt s X1 X2 G1 M1 M2 H locs) (hl : LH la bq i X1 X2) (hC : SC σ G1 M1) (hM : SM σ M2) (hI : SI σ) (hi : i + 6 ≤ L) (hL : L ≤ 3072) (hc : cells + 6 ≤ 600000) (hs : slots + 1509 ≤ 7302250) (hg : G1.1 + 6 < 1000000) (KK : LK p l e s m below meth c bq X1 X2 G1.1 cells slots la QF) : W p l e room_1 s m #[Value.ref bq] below meth c H locs cells slots QF (F0 m 358 la []) := by
  have hx := C0.1
  have hb := C0.2.1
  have hsh : Sh G1 0 (0, 8) := hC.1.s (by decide) rfl
  refine lv_aload_n hx hb d_La_358 rfl (lv_at hl 2 rfl) ?_
  refine L_arg C0 hS hl 1 (by omega) hL d_La_359 d_La_360 d_La_361 rfl d_La_362 d_La_363 ?_
  refine L_arg C0 hS hl 2 (by omega) hL d_La_364 d_La_365 d_La_366 rfl d_La_367 d_La_368 ?_
  refine L_arg C0 hS hl 3 (by omega) hL d_La_369 d_La_370 d_La_371 rfl d_La_372 d_La_373 ?_
  refine L_arg C0 hS hl 4 (by omega) hL d_La_374 d_La_375 d_La_376 rfl d_La_377 d_La_378 ?_
  refine L_arg C0 hS hl 5 (by omega) hL d_La_379 d_La_380 d_La_381 rfl d_La_382 d_La_383 ?_
  refine L_cls C0 hS (As := [.int (xs (i + 1)), .int (xs (i + 2)), .int (xs (i + 3)), .int (xs (i + 4)), .int (xs (i + 5))]) (rest := []) (b' := 0) (bs' := 0) (cT_feed hC hI (xs (i + 1)) (xs (i + 2)) (xs (i + 3)) (xs (i + 4)) (xs (i + 5))) d_La_384 ml_La_23 cb_TP_feed cv_TP_feed rfl hsh rfl ⟨by decide, by decide⟩ rfl (Nat.le_of_ble_eq_true rfl) rfl (Nat.le_of_ble_eq_true rfl) hl.1 ⟨by omega, by omega⟩ (fun v G' M' H' locs' hq hS2 => ?_)
  obtain ⟨rfl, r, rfl, rfl, hC2⟩ := hq
  refine lv_aload_n hx hb d_La_387 rfl (lv_at hl 1 rfl) ?_
  refine L_arg C0 hS2 hl 1 (by omega) hL d_La_388 d_La_389 d_La_390 rfl d_La_391 d_La_392 ?_
  refine L_arg C0 hS2 hl 2 (by omega) hL d_La_393 d_La_394 d_La_395 rfl d_La_396 d_La_397 ?_
  refine L_arg C0 hS2 hl 3 (by omega) hL d_La_398 d_La_399 d_La_400 rfl d_La_401 d_La_402 ?_
  refine L_arg C0 hS2 hl 4 (by omega) hL d_La_403 d_La_404 d_La_405 rfl d_La_406 d_La_407 ?_
  refine L_arg C0 hS2 hl 5 (by omega) hL d_La_408 d_La_409 d_La_410 rfl d_La_411 d_La_412 ?_
  refine L_mod C0 hS2 hM.R (As := [.int (xs (i + 1)), .int (xs (i + 2)), .int (xs (i + 3)), .int (xs (i + 4)), .int (xs (i + 5))]) (rest := [.int (ans_feed σ.tape)]) (mT_feed hM hI (xs (i + 1)) (xs (i + 2)) (xs (i + 3)) (xs (i + 4)) (xs (i + 5))) (qI (fun _ _ z => z.2.R)) d_La_413 ml_La_27 cb_TM_feed cv_TM_feed rfl rfl ⟨by decide, by decide⟩ rfl (Nat.le_of_ble_eq_true rfl) rfl rfl (Nat.le_of_ble_eq_true rfl) hl.1 ⟨by omega, by omega⟩ (fun v M' H' locs' hq hS3 => ?_)
  obtain ⟨-, r, rfl, rfl, hM2⟩ := hq
  refine lv_icmp_eq hx hb d_La_416 (tgt := 2005) rfl (fun _ => ?_) (fun z => absurd rfl z)
  exact KK _ _ _ _ _ _ _ _ (by omega) (by omega) (by omega) hS3 hC2 hM2 (iT_feed hI (xs (i + 1)) (xs (i + 2)) (xs (i + 3)) (xs (i + 4)) (xs (i + 5)))
theorem law_c3 (C0 : lw_At p s m meth c bq L xs) (hS : LSt s X1 X2 G1 M1 M2 H locs) (hl : LH la bq i X1 X2) (hC : SC σ G1 M1) (hM : SM σ M2) (hI : SI σ) (hi : i + 6 ≤ L) (hL : L ≤ 3072) (hc : cells + 6 ≤ 600000) (hs : slots + 1509 ≤ 7302250) (hg : G1.1 + 6 < 1000000) (KK : LK p l e s m below meth c bq X1 X2 G1.1 cells slots la QF) : W p l e room_1 s m #[Value.ref bq] below meth c H locs cells slots QF (F0 m 421 la []) := by
  have hx := C0.1
  have hb := C0.2.1
  have hsh : Sh G1 0 (0, 8) := hC.1.s (by decide) rfl
  refine lv_aload_n hx hb d_La_421 rfl (lv_at hl 2 rfl) ?_
  refine L_arg C0 hS hl 1 (by omega) hL d_La_422 d_La_423 d_La_424 rfl d_La_425 d_La_426 ?_
  refine L_cls C0 hS (As := [.int (xs (i + 1))]) (rest := []) (b' := 0) (bs' := 0) (cT_end hC hI (xs (i + 1))) d_La_427 ml_La_28 cb_TP_end cv_TP_end rfl hsh rfl ⟨by decide, by decide⟩ rfl (Nat.le_of_ble_eq_true rfl) rfl (Nat.le_of_ble_eq_true rfl) hl.1 ⟨by omega, by omega⟩ (fun v G' M' H' locs' hq hS2 => ?_)
  obtain ⟨rfl, r, rfl, rfl, hC2⟩ := hq
  refine lv_aload_n hx hb d_La_430 rfl (lv_at hl 1 rfl) ?_
  refine L_arg C0 hS2 hl 1 (by omega) hL d_La_431 d_La_432 d_La_433 rfl d_La_434 d_La_435 ?_
  refine L_mod C0 hS2 hM.R (As := [.int (xs (i + 1))]) (rest := [.int (ans_end σ.tape ((xs (i + 1))))]) (mT_end hM hI (xs (i + 1))) (qI (fun _ _ z => z.2.R)) d_La_436 ml_La_32 cb_TM_end cv_TM_end rfl rfl ⟨by decide, by decide⟩ rfl (Nat.le_of_ble_eq_true rfl) rfl rfl (Nat.le_of_ble_eq_true rfl) hl.1 ⟨by omega, by omega⟩ (fun v M' H' locs' hq hS3 => ?_)
  obtain ⟨-, r, rfl, rfl, hM2⟩ := hq
  refine lv_icmp_eq hx hb d_La_439 (tgt := 2005) rfl (fun _ => ?_) (fun z => absurd rfl z)
  exact KK _ _ _ _ _ _ _ _ (by omega) (by omega) (by omega) hS3 hC2 hM2 (iT_end hI (xs (i + 1)))
theorem law_c4 (C0 : lw_At p s m meth c bq L xs) (hS : LSt s X1 X2 G1 M1 M2 H locs) (hl : LH la bq i X1 X2) (hC : SC σ G1 M1) (hM : SM σ M2) (hI : SI σ) (hi : i + 6 ≤ L) (hL : L ≤ 3072) (hc : cells + 6 ≤ 600000) (hs : slots + 1509 ≤ 7302250) (hg : G1.1 + 6 < 1000000) (KK : LK p l e s m below meth c bq X1 X2 G1.1 cells slots la QF) : W p l e room_1 s m #[Value.ref bq] below meth c H locs cells slots QF (F0 m 444 la []) := by
  have hx := C0.1
  have hb := C0.2.1
  have hsh : Sh G1 0 (0, 8) := hC.1.s (by decide) rfl
  refine lv_aload_n hx hb d_La_444 rfl (lv_at hl 2 rfl) ?_
  refine L_cls C0 hS (As := []) (rest := []) (b' := 6) (bs' := 1509) (cT_text hC hI hg) d_La_445 ml_La_33 cb_TP_text cv_TP_text rfl hsh rfl ⟨by decide, by decide⟩ rfl (Nat.le_of_ble_eq_true rfl) rfl (Nat.le_of_ble_eq_true rfl) hl.1 ⟨by omega, by omega⟩ (fun v G' M' H' locs' hq hS2 => ?_)
  obtain ⟨rfl, hg6, hC2⟩ := hq
  refine lv_aload_n hx hb d_La_448 rfl (lv_at hl 1 rfl) ?_
  refine L_mod C0 hS2 hM.R (As := []) (rest := [.int (ans_text σ.cr σ.tape)]) (mT_text hM hI ) (qI (fun _ _ z => z.2.R)) d_La_449 ml_La_37 cb_TM_text cv_TM_text rfl rfl ⟨by decide, by decide⟩ rfl (Nat.le_of_ble_eq_true rfl) rfl rfl (Nat.le_of_ble_eq_true rfl) hl.1 ⟨by omega, by omega⟩ (fun v M' H' locs' hq hS3 => ?_)
  obtain ⟨-, r, rfl, rfl, hM2⟩ := hq
  refine lv_icmp_eq hx hb d_La_452 (tgt := 2005) rfl (fun _ => ?_) (fun z => absurd rfl z)
  exact KK _ _ _ _ _ _ _ _ (by omega) (by omega) (by omega) hS3 hC2 hM2 (iT_text hI)
theorem law_c5 (C0 : lw_At p s m meth c bq L xs) (hS : LSt s X1 X2 G1 M1 M2 H locs) (hl : LH la bq i X1 X2) (hC : SC σ G1 M1) (hM : SM σ M2) (hI : SI σ) (hi : i + 6 ≤ L) (hL : L ≤ 3072) (hc : cells + 6 ≤ 600000) (hs : slots + 1509 ≤ 7302250) (hg : G1.1 + 6 < 1000000) (KK : LK p l e s m below meth c bq X1 X2 G1.1 cells slots la QF) : W p l e room_1 s m #[Value.ref bq] below meth c H locs cells slots QF (F0 m 457 la []) := by
  have hx := C0.1
  have hb := C0.2.1
  have hsh : Sh G1 0 (0, 8) := hC.1.s (by decide) rfl
  refine lv_aload_n hx hb d_La_457 rfl (lv_at hl 2 rfl) ?_
  refine L_arg C0 hS hl 1 (by omega) hL d_La_458 d_La_459 d_La_460 rfl d_La_461 d_La_462 ?_
  refine L_cls C0 hS (As := [.int (xs (i + 1))]) (rest := []) (b' := 0) (bs' := 0) (cT_fault hC hI (xs (i + 1))) d_La_463 ml_La_38 cb_TP_fault cv_TP_fault rfl hsh rfl ⟨by decide, by decide⟩ rfl (Nat.le_of_ble_eq_true rfl) rfl (Nat.le_of_ble_eq_true rfl) hl.1 ⟨by omega, by omega⟩ (fun v G' M' H' locs' hq hS2 => ?_)
  obtain ⟨rfl, r, rfl, rfl, hC2⟩ := hq
  refine lv_aload_n hx hb d_La_466 rfl (lv_at hl 1 rfl) ?_
  refine L_arg C0 hS2 hl 1 (by omega) hL d_La_467 d_La_468 d_La_469 rfl d_La_470 d_La_471 ?_
  refine L_mod C0 hS2 hM.R (As := [.int (xs (i + 1))]) (rest := [.int (ans_fault σ.fault σ.place ((xs (i + 1))))]) (mT_fault hM hI (xs (i + 1))) (qI (fun _ _ z => z.2.R)) d_La_472 ml_La_41 cb_TM_fault cv_TM_fault rfl rfl ⟨by decide, by decide⟩ rfl (Nat.le_of_ble_eq_true rfl) rfl rfl (Nat.le_of_ble_eq_true rfl) hl.1 ⟨by omega, by omega⟩ (fun v M' H' locs' hq hS3 => ?_)
  obtain ⟨-, r, rfl, rfl, hM2⟩ := hq
  refine lv_icmp_eq hx hb d_La_475 (tgt := 2005) rfl (fun _ => ?_) (fun z => absurd rfl z)
  exact KK _ _ _ _ _ _ _ _ (by omega) (by omega) (by omega) hS3 hC2 hM2 (hI)
theorem law_c6 (C0 : lw_At p s m meth c bq L xs) (hS : LSt s X1 X2 G1 M1 M2 H locs) (hl : LH la bq i X1 X2) (hC : SC σ G1 M1) (hM : SM σ M2) (hI : SI σ) (hi : i + 6 ≤ L) (hL : L ≤ 3072) (hc : cells + 6 ≤ 600000) (hs : slots + 1509 ≤ 7302250) (hg : G1.1 + 6 < 1000000) (KK : LK p l e s m below meth c bq X1 X2 G1.1 cells slots la QF) : W p l e room_1 s m #[Value.ref bq] below meth c H locs cells slots QF (F0 m 480 la []) := by
  have hx := C0.1
  have hb := C0.2.1
  have hsh : Sh G1 0 (0, 8) := hC.1.s (by decide) rfl
  refine lv_aload_n hx hb d_La_480 rfl (lv_at hl 2 rfl) ?_
  refine L_arg C0 hS hl 1 (by omega) hL d_La_481 d_La_482 d_La_483 rfl d_La_484 d_La_485 ?_
  refine L_cls C0 hS (As := [.int (xs (i + 1))]) (rest := []) (b' := 0) (bs' := 0) (cT_by hC hI (xs (i + 1))) d_La_486 ml_La_42 cb_TP_by cv_TP_by rfl hsh rfl ⟨by decide, by decide⟩ rfl (Nat.le_of_ble_eq_true rfl) rfl (Nat.le_of_ble_eq_true rfl) hl.1 ⟨by omega, by omega⟩ (fun v G' M' H' locs' hq hS2 => ?_)
  obtain ⟨rfl, r, rfl, rfl, hC2⟩ := hq
  refine lv_aload_n hx hb d_La_489 rfl (lv_at hl 1 rfl) ?_
  refine L_arg C0 hS2 hl 1 (by omega) hL d_La_490 d_La_491 d_La_492 rfl d_La_493 d_La_494 ?_
  refine L_mod C0 hS2 hM.R (As := [.int (xs (i + 1))]) (rest := [.int (ans_by σ.cr ((xs (i + 1))))]) (mT_by hM hI (xs (i + 1))) (qI (fun _ _ z => z.2.R)) d_La_495 ml_La_46 cb_TM_by cv_TM_by rfl rfl ⟨by decide, by decide⟩ rfl (Nat.le_of_ble_eq_true rfl) rfl rfl (Nat.le_of_ble_eq_true rfl) hl.1 ⟨by omega, by omega⟩ (fun v M' H' locs' hq hS3 => ?_)
  obtain ⟨-, r, rfl, rfl, hM2⟩ := hq
  refine lv_icmp_eq hx hb d_La_498 (tgt := 2005) rfl (fun _ => ?_) (fun z => absurd rfl z)
  exact KK _ _ _ _ _ _ _ _ (by omega) (by omega) (by omega) hS3 hC2 hM2 (iT_by hI (xs (i + 1)))
theorem law_c7 (C0 : lw_At p s m meth c bq L xs) (hS : LSt s X1 X2 G1 M1 M2 H locs) (hl : LH la bq i X1 X2) (hC : SC σ G1 M1) (hM : SM σ M2) (hI : SI σ) (hi : i + 6 ≤ L) (hL : L ≤ 3072) (hc : cells + 6 ≤ 600000) (hs : slots + 1509 ≤ 7302250) (hg : G1.1 + 6 < 1000000) (KK : LK p l e s m below meth c bq X1 X2 G1.1 cells slots la QF) : W p l e room_1 s m #[Value.ref bq] below meth c H locs cells slots QF (F0 m 503 la []) := by
  have hx := C0.1
  have hb := C0.2.1
  have hsh : Sh G1 0 (0, 8) := hC.1.s (by decide) rfl
  refine lv_aload_n hx hb d_La_503 rfl (lv_at hl 2 rfl) ?_
  refine L_arg C0 hS hl 1 (by omega) hL d_La_504 d_La_505 d_La_506 rfl d_La_507 d_La_508 ?_
  refine L_cls C0 hS (As := [.int (xs (i + 1))]) (rest := []) (b' := 0) (bs' := 0) (cT_tell hC hI (xs (i + 1))) d_La_509 ml_La_47 cb_TP_tell cv_TP_tell rfl hsh rfl ⟨by decide, by decide⟩ rfl (Nat.le_of_ble_eq_true rfl) rfl (Nat.le_of_ble_eq_true rfl) hl.1 ⟨by omega, by omega⟩ (fun v G' M' H' locs' hq hS2 => ?_)
  obtain ⟨rfl, r, rfl, rfl, hC2⟩ := hq
  refine lv_aload_n hx hb d_La_512 rfl (lv_at hl 1 rfl) ?_
  refine L_arg C0 hS2 hl 1 (by omega) hL d_La_513 d_La_514 d_La_515 rfl d_La_516 d_La_517 ?_
  refine L_mod C0 hS2 hM.R (As := [.int (xs (i + 1))]) (rest := [.int (ans_tell σ.cr ((xs (i + 1))))]) (mT_tell hM hI (xs (i + 1))) (qI (fun _ _ z => z.2.R)) d_La_518 ml_La_50 cb_TM_tell cv_TM_tell rfl rfl ⟨by decide, by decide⟩ rfl (Nat.le_of_ble_eq_true rfl) rfl rfl (Nat.le_of_ble_eq_true rfl) hl.1 ⟨by omega, by omega⟩ (fun v M' H' locs' hq hS3 => ?_)
  obtain ⟨-, r, rfl, rfl, hM2⟩ := hq
  refine lv_icmp_eq hx hb d_La_521 (tgt := 2005) rfl (fun _ => ?_) (fun z => absurd rfl z)
  exact KK _ _ _ _ _ _ _ _ (by omega) (by omega) (by omega) hS3 hC2 hM2 (iT_tell hI (xs (i + 1)))
theorem law_c8 (C0 : lw_At p s m meth c bq L xs) (hS : LSt s X1 X2 G1 M1 M2 H locs) (hl : LH la bq i X1 X2) (hC : SC σ G1 M1) (hM : SM σ M2) (hI : SI σ) (hi : i + 6 ≤ L) (hL : L ≤ 3072) (hc : cells + 6 ≤ 600000) (hs : slots + 1509 ≤ 7302250) (hg : G1.1 + 6 < 1000000) (KK : LK p l e s m below meth c bq X1 X2 G1.1 cells slots la QF) : W p l e room_1 s m #[Value.ref bq] below meth c H locs cells slots QF (F0 m 526 la []) := by
  have hx := C0.1
  have hb := C0.2.1
  have hsh : Sh G1 0 (0, 8) := hC.1.s (by decide) rfl
  refine lv_aload_n hx hb d_La_526 rfl (lv_at hl 2 rfl) ?_
  refine L_arg C0 hS hl 1 (by omega) hL d_La_527 d_La_528 d_La_529 rfl d_La_530 d_La_531 ?_
  refine L_arg C0 hS hl 2 (by omega) hL d_La_532 d_La_533 d_La_534 rfl d_La_535 d_La_536 ?_
  refine L_cls C0 hS (As := [.int (xs (i + 1)), .int (xs (i + 2))]) (rest := []) (b' := 0) (bs' := 0) (cT_nudge hC hI (xs (i + 1)) (xs (i + 2))) d_La_537 ml_La_51 cb_TP_nudge cv_TP_nudge rfl hsh rfl ⟨by decide, by decide⟩ rfl (Nat.le_of_ble_eq_true rfl) rfl (Nat.le_of_ble_eq_true rfl) hl.1 ⟨by omega, by omega⟩ (fun v G' M' H' locs' hq hS2 => ?_)
  obtain ⟨rfl, r, rfl, rfl, hC2⟩ := hq
  refine lv_aload_n hx hb d_La_540 rfl (lv_at hl 1 rfl) ?_
  refine L_arg C0 hS2 hl 1 (by omega) hL d_La_541 d_La_542 d_La_543 rfl d_La_544 d_La_545 ?_
  refine L_arg C0 hS2 hl 2 (by omega) hL d_La_546 d_La_547 d_La_548 rfl d_La_549 d_La_550 ?_
  refine L_mod C0 hS2 hM.R (As := [.int (xs (i + 1)), .int (xs (i + 2))]) (rest := [.int (pI (nudP σ.cr ((xs (i + 1))) ((xs (i + 2)))))]) (mT_nudge hM hI (xs (i + 1)) (xs (i + 2))) (qI (fun _ _ z => z.2.R)) d_La_551 ml_La_54 cb_TM_nudge cv_TM_nudge rfl rfl ⟨by decide, by decide⟩ rfl (Nat.le_of_ble_eq_true rfl) rfl rfl (Nat.le_of_ble_eq_true rfl) hl.1 ⟨by omega, by omega⟩ (fun v M' H' locs' hq hS3 => ?_)
  obtain ⟨-, r, rfl, rfl, hM2⟩ := hq
  refine lv_icmp_eq hx hb d_La_554 (tgt := 2005) rfl (fun _ => ?_) (fun z => absurd rfl z)
  exact KK _ _ _ _ _ _ _ _ (by omega) (by omega) (by omega) hS3 hC2 hM2 (iT_nudge hI (xs (i + 1)) (xs (i + 2)))
theorem law_c9 (C0 : lw_At p s m meth c bq L xs) (hS : LSt s X1 X2 G1 M1 M2 H locs) (hl : LH la bq i X1 X2) (hC : SC σ G1 M1) (hM : SM σ M2) (hI : SI σ) (hi : i + 6 ≤ L) (hL : L ≤ 3072) (hc : cells + 6 ≤ 600000) (hs : slots + 1509 ≤ 7302250) (hg : G1.1 + 6 < 1000000) (KK : LK p l e s m below meth c bq X1 X2 G1.1 cells slots la QF) : W p l e room_1 s m #[Value.ref bq] below meth c H locs cells slots QF (F0 m 559 la []) := by
  have hx := C0.1
  have hb := C0.2.1
  have hsh : Sh G1 0 (0, 8) := hC.1.s (by decide) rfl
  refine lv_aload_n hx hb d_La_559 rfl (lv_at hl 2 rfl) ?_
  refine L_arg C0 hS hl 1 (by omega) hL d_La_560 d_La_561 d_La_562 rfl d_La_563 d_La_564 ?_
  refine L_cls C0 hS (As := [.int (xs (i + 1))]) (rest := []) (b' := 0) (bs' := 0) (cT_day hC hI (xs (i + 1))) d_La_565 ml_La_55 cb_TP_day cv_TP_day rfl hsh rfl ⟨by decide, by decide⟩ rfl (Nat.le_of_ble_eq_true rfl) rfl (Nat.le_of_ble_eq_true rfl) hl.1 ⟨by omega, by omega⟩ (fun v G' M' H' locs' hq hS2 => ?_)
  obtain ⟨rfl, r, rfl, rfl, hC2⟩ := hq
  refine lv_aload_n hx hb d_La_568 rfl (lv_at hl 1 rfl) ?_
  refine L_arg C0 hS2 hl 1 (by omega) hL d_La_569 d_La_570 d_La_571 rfl d_La_572 d_La_573 ?_
  refine L_mod C0 hS2 hM.R (As := [.int (xs (i + 1))]) (rest := [.int (ans_day σ.cr ((xs (i + 1))))]) (mT_day hM hI (xs (i + 1))) (qI (fun _ _ z => z.2.R)) d_La_574 ml_La_58 cb_TM_day cv_TM_day rfl rfl ⟨by decide, by decide⟩ rfl (Nat.le_of_ble_eq_true rfl) rfl rfl (Nat.le_of_ble_eq_true rfl) hl.1 ⟨by omega, by omega⟩ (fun v M' H' locs' hq hS3 => ?_)
  obtain ⟨-, r, rfl, rfl, hM2⟩ := hq
  refine lv_icmp_eq hx hb d_La_577 (tgt := 2005) rfl (fun _ => ?_) (fun z => absurd rfl z)
  exact KK _ _ _ _ _ _ _ _ (by omega) (by omega) (by omega) hS3 hC2 hM2 (iT_day hI (xs (i + 1)))
theorem law_c10 (C0 : lw_At p s m meth c bq L xs) (hS : LSt s X1 X2 G1 M1 M2 H locs) (hl : LH la bq i X1 X2) (hC : SC σ G1 M1) (hM : SM σ M2) (hI : SI σ) (hi : i + 6 ≤ L) (hL : L ≤ 3072) (hc : cells + 6 ≤ 600000) (hs : slots + 1509 ≤ 7302250) (hg : G1.1 + 6 < 1000000) (KK : LK p l e s m below meth c bq X1 X2 G1.1 cells slots la QF) : W p l e room_1 s m #[Value.ref bq] below meth c H locs cells slots QF (F0 m 582 la []) := by
  have hx := C0.1
  have hb := C0.2.1
  have hsh : Sh G1 0 (0, 8) := hC.1.s (by decide) rfl
  refine lv_aload_n hx hb d_La_582 rfl (lv_at hl 2 rfl) ?_
  refine L_arg C0 hS hl 1 (by omega) hL d_La_583 d_La_584 d_La_585 rfl d_La_586 d_La_587 ?_
  refine L_cls C0 hS (As := [.int (xs (i + 1))]) (rest := []) (b' := 0) (bs' := 0) (cT_played hC hI (xs (i + 1))) d_La_588 ml_La_59 cb_TP_played cv_TP_played rfl hsh rfl ⟨by decide, by decide⟩ rfl (Nat.le_of_ble_eq_true rfl) rfl (Nat.le_of_ble_eq_true rfl) hl.1 ⟨by omega, by omega⟩ (fun v G' M' H' locs' hq hS2 => ?_)
  obtain ⟨rfl, r, rfl, rfl, hC2⟩ := hq
  refine lv_aload_n hx hb d_La_591 rfl (lv_at hl 1 rfl) ?_
  refine L_arg C0 hS2 hl 1 (by omega) hL d_La_592 d_La_593 d_La_594 rfl d_La_595 d_La_596 ?_
  refine L_mod C0 hS2 hM.R (As := [.int (xs (i + 1))]) (rest := [.int (ans_played σ.cr ((xs (i + 1))))]) (mT_played hM hI (xs (i + 1))) (qI (fun _ _ z => z.2.R)) d_La_597 ml_La_62 cb_TM_played cv_TM_played rfl rfl ⟨by decide, by decide⟩ rfl (Nat.le_of_ble_eq_true rfl) rfl rfl (Nat.le_of_ble_eq_true rfl) hl.1 ⟨by omega, by omega⟩ (fun v M' H' locs' hq hS3 => ?_)
  obtain ⟨-, r, rfl, rfl, hM2⟩ := hq
  refine lv_icmp_eq hx hb d_La_600 (tgt := 2005) rfl (fun _ => ?_) (fun z => absurd rfl z)
  exact KK _ _ _ _ _ _ _ _ (by omega) (by omega) (by omega) hS3 hC2 hM2 (iT_played hI (xs (i + 1)))
theorem law_c11 (C0 : lw_At p s m meth c bq L xs) (hS : LSt s X1 X2 G1 M1 M2 H locs) (hl : LH la bq i X1 X2) (hC : SC σ G1 M1) (hM : SM σ M2) (hI : SI σ) (hi : i + 6 ≤ L) (hL : L ≤ 3072) (hc : cells + 6 ≤ 600000) (hs : slots + 1509 ≤ 7302250) (hg : G1.1 + 6 < 1000000) (KK : LK p l e s m below meth c bq X1 X2 G1.1 cells slots la QF) : W p l e room_1 s m #[Value.ref bq] below meth c H locs cells slots QF (F0 m 605 la []) := by
  have hx := C0.1
  have hb := C0.2.1
  have hsh : Sh G1 0 (0, 8) := hC.1.s (by decide) rfl
  refine lv_aload_n hx hb d_La_605 rfl (lv_at hl 2 rfl) ?_
  refine L_arg C0 hS hl 1 (by omega) hL d_La_606 d_La_607 d_La_608 rfl d_La_609 d_La_610 ?_
  refine L_arg C0 hS hl 2 (by omega) hL d_La_611 d_La_612 d_La_613 rfl d_La_614 d_La_615 ?_
  refine L_cls C0 hS (As := [.int (xs (i + 1)), .int (xs (i + 2))]) (rest := []) (b' := 0) (bs' := 0) (cT_years hC hI (xs (i + 1)) (xs (i + 2))) d_La_616 ml_La_63 cb_TP_years cv_TP_years rfl hsh rfl ⟨by decide, by decide⟩ rfl (Nat.le_of_ble_eq_true rfl) rfl (Nat.le_of_ble_eq_true rfl) hl.1 ⟨by omega, by omega⟩ (fun v G' M' H' locs' hq hS2 => ?_)
  obtain ⟨rfl, r, rfl, rfl, hC2⟩ := hq
  refine lv_aload_n hx hb d_La_619 rfl (lv_at hl 1 rfl) ?_
  refine L_arg C0 hS2 hl 1 (by omega) hL d_La_620 d_La_621 d_La_622 rfl d_La_623 d_La_624 ?_
  refine L_arg C0 hS2 hl 2 (by omega) hL d_La_625 d_La_626 d_La_627 rfl d_La_628 d_La_629 ?_
  refine L_mod C0 hS2 hM.R (As := [.int (xs (i + 1)), .int (xs (i + 2))]) (rest := [.int (ans_years σ.cr ((xs (i + 1))) ((xs (i + 2))))]) (mT_years hM hI (xs (i + 1)) (xs (i + 2))) (qI (fun _ _ z => z.2.R)) d_La_630 ml_La_66 cb_TM_years cv_TM_years rfl rfl ⟨by decide, by decide⟩ rfl (Nat.le_of_ble_eq_true rfl) rfl rfl (Nat.le_of_ble_eq_true rfl) hl.1 ⟨by omega, by omega⟩ (fun v M' H' locs' hq hS3 => ?_)
  obtain ⟨-, r, rfl, rfl, hM2⟩ := hq
  refine lv_icmp_eq hx hb d_La_633 (tgt := 2005) rfl (fun _ => ?_) (fun z => absurd rfl z)
  exact KK _ _ _ _ _ _ _ _ (by omega) (by omega) (by omega) hS3 hC2 hM2 (iT_years hI (xs (i + 1)) (xs (i + 2)))
theorem law_c12 (C0 : lw_At p s m meth c bq L xs) (hS : LSt s X1 X2 G1 M1 M2 H locs) (hl : LH la bq i X1 X2) (hC : SC σ G1 M1) (hM : SM σ M2) (hI : SI σ) (hi : i + 6 ≤ L) (hL : L ≤ 3072) (hc : cells + 6 ≤ 600000) (hs : slots + 1509 ≤ 7302250) (hg : G1.1 + 6 < 1000000) (KK : LK p l e s m below meth c bq X1 X2 G1.1 cells slots la QF) : W p l e room_1 s m #[Value.ref bq] below meth c H locs cells slots QF (F0 m 638 la []) := by
  have hx := C0.1
  have hb := C0.2.1
  have hsh : Sh G1 0 (0, 8) := hC.1.s (by decide) rfl
  refine lv_aload_n hx hb d_La_638 rfl (lv_at hl 2 rfl) ?_
  refine L_cls C0 hS (As := []) (rest := []) (b' := 0) (bs' := 0) (cT_undo hC hI ) d_La_639 ml_La_67 cb_TP_undo cv_TP_undo rfl hsh rfl ⟨by decide, by decide⟩ rfl (Nat.le_of_ble_eq_true rfl) rfl (Nat.le_of_ble_eq_true rfl) hl.1 ⟨by omega, by omega⟩ (fun v G' M' H' locs' hq hS2 => ?_)
  obtain ⟨rfl, r, rfl, rfl, hC2⟩ := hq
  refine lv_aload_n hx hb d_La_642 rfl (lv_at hl 1 rfl) ?_
  refine L_mod C0 hS2 hM.R (As := []) (rest := [.int (ans_undo σ.cr)]) (mT_undo hM hI ) (qI (fun _ _ z => z.2.R)) d_La_643 ml_La_70 cb_TM_undo cv_TM_undo rfl rfl ⟨by decide, by decide⟩ rfl (Nat.le_of_ble_eq_true rfl) rfl rfl (Nat.le_of_ble_eq_true rfl) hl.1 ⟨by omega, by omega⟩ (fun v M' H' locs' hq hS3 => ?_)
  obtain ⟨-, r, rfl, rfl, hM2⟩ := hq
  refine lv_icmp_eq hx hb d_La_646 (tgt := 2005) rfl (fun _ => ?_) (fun z => absurd rfl z)
  exact KK _ _ _ _ _ _ _ _ (by omega) (by omega) (by omega) hS3 hC2 hM2 (iT_undo hI )
theorem law_c13 (C0 : lw_At p s m meth c bq L xs) (hS : LSt s X1 X2 G1 M1 M2 H locs) (hl : LH la bq i X1 X2) (hC : SC σ G1 M1) (hM : SM σ M2) (hI : SI σ) (hi : i + 6 ≤ L) (hL : L ≤ 3072) (hc : cells + 6 ≤ 600000) (hs : slots + 1509 ≤ 7302250) (hg : G1.1 + 6 < 1000000) (KK : LK p l e s m below meth c bq X1 X2 G1.1 cells slots la QF) : W p l e room_1 s m #[Value.ref bq] below meth c H locs cells slots QF (F0 m 651 la []) := by
  have hx := C0.1
  have hb := C0.2.1
  have hsh : Sh G1 0 (0, 8) := hC.1.s (by decide) rfl
  refine lv_aload_n hx hb d_La_651 rfl (lv_at hl 2 rfl) ?_
  refine L_arg C0 hS hl 1 (by omega) hL d_La_652 d_La_653 d_La_654 rfl d_La_655 d_La_656 ?_
  refine L_arg C0 hS hl 2 (by omega) hL d_La_657 d_La_658 d_La_659 rfl d_La_660 d_La_661 ?_
  refine L_cls C0 hS (As := [.int (xs (i + 1)), .int (xs (i + 2))]) (rest := []) (b' := 0) (bs' := 0) (cT_of hC hI (xs (i + 1)) (xs (i + 2))) d_La_662 ml_La_71 cb_TP_of cv_TP_of rfl hsh rfl ⟨by decide, by decide⟩ rfl (Nat.le_of_ble_eq_true rfl) rfl (Nat.le_of_ble_eq_true rfl) hl.1 ⟨by omega, by omega⟩ (fun v G' M' H' locs' hq hS2 => ?_)
  obtain ⟨rfl, r, rfl, rfl, hC2⟩ := hq
  refine lv_aload_n hx hb d_La_665 rfl (lv_at hl 1 rfl) ?_
  refine L_arg C0 hS2 hl 1 (by omega) hL d_La_666 d_La_667 d_La_668 rfl d_La_669 d_La_670 ?_
  refine L_arg C0 hS2 hl 2 (by omega) hL d_La_671 d_La_672 d_La_673 rfl d_La_674 d_La_675 ?_
  refine L_mod C0 hS2 hM.R (As := [.int (xs (i + 1)), .int (xs (i + 2))]) (rest := [.int (ans_of σ.cr ((xs (i + 1))) ((xs (i + 2))))]) (mT_of hM hI (xs (i + 1)) (xs (i + 2))) (qI (fun _ _ z => z.2.R)) d_La_676 ml_La_74 cb_TM_of cv_TM_of rfl rfl ⟨by decide, by decide⟩ rfl (Nat.le_of_ble_eq_true rfl) rfl rfl (Nat.le_of_ble_eq_true rfl) hl.1 ⟨by omega, by omega⟩ (fun v M' H' locs' hq hS3 => ?_)
  obtain ⟨-, r, rfl, rfl, hM2⟩ := hq
  refine lv_icmp_eq hx hb d_La_679 (tgt := 2005) rfl (fun _ => ?_) (fun z => absurd rfl z)
  exact KK _ _ _ _ _ _ _ _ (by omega) (by omega) (by omega) hS3 hC2 hM2 (hI)
theorem law_c14 (C0 : lw_At p s m meth c bq L xs) (hS : LSt s X1 X2 G1 M1 M2 H locs) (hl : LH la bq i X1 X2) (hC : SC σ G1 M1) (hM : SM σ M2) (hI : SI σ) (hi : i + 6 ≤ L) (hL : L ≤ 3072) (hc : cells + 6 ≤ 600000) (hs : slots + 1509 ≤ 7302250) (hg : G1.1 + 6 < 1000000) (KK : LK p l e s m below meth c bq X1 X2 G1.1 cells slots la QF) : W p l e room_1 s m #[Value.ref bq] below meth c H locs cells slots QF (F0 m 684 la []) := by
  have hx := C0.1
  have hb := C0.2.1
  have hsh : Sh G1 0 (0, 8) := hC.1.s (by decide) rfl
  refine lv_aload_n hx hb d_La_684 rfl (lv_at hl 2 rfl) ?_
  refine L_arg C0 hS hl 1 (by omega) hL d_La_685 d_La_686 d_La_687 rfl d_La_688 d_La_689 ?_
  refine L_arg C0 hS hl 2 (by omega) hL d_La_690 d_La_691 d_La_692 rfl d_La_693 d_La_694 ?_
  refine L_cls C0 hS (As := [.int (xs (i + 1)), .int (xs (i + 2))]) (rest := []) (b' := 0) (bs' := 0) (cT_says hC hI (xs (i + 1)) (xs (i + 2))) d_La_695 ml_La_75 cb_TP_says cv_TP_says rfl hsh rfl ⟨by decide, by decide⟩ rfl (Nat.le_of_ble_eq_true rfl) rfl (Nat.le_of_ble_eq_true rfl) hl.1 ⟨by omega, by omega⟩ (fun v G' M' H' locs' hq hS2 => ?_)
  obtain ⟨rfl, r, rfl, rfl, hC2⟩ := hq
  refine lv_aload_n hx hb d_La_698 rfl (lv_at hl 1 rfl) ?_
  refine L_arg C0 hS2 hl 1 (by omega) hL d_La_699 d_La_700 d_La_701 rfl d_La_702 d_La_703 ?_
  refine L_arg C0 hS2 hl 2 (by omega) hL d_La_704 d_La_705 d_La_706 rfl d_La_707 d_La_708 ?_
  refine L_mod C0 hS2 hM.R (As := [.int (xs (i + 1)), .int (xs (i + 2))]) (rest := [.int (ans_says σ.cr ((xs (i + 1))) ((xs (i + 2))))]) (mT_says hM hI (xs (i + 1)) (xs (i + 2))) (qI (fun _ _ z => z.2.R)) d_La_709 ml_La_78 cb_TM_says cv_TM_says rfl rfl ⟨by decide, by decide⟩ rfl (Nat.le_of_ble_eq_true rfl) rfl rfl (Nat.le_of_ble_eq_true rfl) hl.1 ⟨by omega, by omega⟩ (fun v M' H' locs' hq hS3 => ?_)
  obtain ⟨-, r, rfl, rfl, hM2⟩ := hq
  refine lv_icmp_eq hx hb d_La_712 (tgt := 2005) rfl (fun _ => ?_) (fun z => absurd rfl z)
  exact KK _ _ _ _ _ _ _ _ (by omega) (by omega) (by omega) hS3 hC2 hM2 (hI)
theorem law_c15 (C0 : lw_At p s m meth c bq L xs) (hS : LSt s X1 X2 G1 M1 M2 H locs) (hl : LH la bq i X1 X2) (hC : SC σ G1 M1) (hM : SM σ M2) (hI : SI σ) (hi : i + 6 ≤ L) (hL : L ≤ 3072) (hc : cells + 6 ≤ 600000) (hs : slots + 1509 ≤ 7302250) (hg : G1.1 + 6 < 1000000) (KK : LK p l e s m below meth c bq X1 X2 G1.1 cells slots la QF) : W p l e room_1 s m #[Value.ref bq] below meth c H locs cells slots QF (F0 m 717 la []) := by
  have hx := C0.1
  have hb := C0.2.1
  have hsh : Sh G1 0 (0, 8) := hC.1.s (by decide) rfl
  refine lv_aload_n hx hb d_La_717 rfl (lv_at hl 2 rfl) ?_
  refine L_arg C0 hS hl 1 (by omega) hL d_La_718 d_La_719 d_La_720 rfl d_La_721 d_La_722 ?_
  refine L_cls C0 hS (As := [.int (xs (i + 1))]) (rest := []) (b' := 0) (bs' := 0) (cT_is hC hI (xs (i + 1))) d_La_723 ml_La_79 cb_TP_is cv_TP_is rfl hsh rfl ⟨by decide, by decide⟩ rfl (Nat.le_of_ble_eq_true rfl) rfl (Nat.le_of_ble_eq_true rfl) hl.1 ⟨by omega, by omega⟩ (fun v G' M' H' locs' hq hS2 => ?_)
  obtain ⟨rfl, r, rfl, rfl, hC2⟩ := hq
  refine lv_aload_n hx hb d_La_726 rfl (lv_at hl 1 rfl) ?_
  refine L_arg C0 hS2 hl 1 (by omega) hL d_La_727 d_La_728 d_La_729 rfl d_La_730 d_La_731 ?_
  refine L_mod C0 hS2 hM.R (As := [.int (xs (i + 1))]) (rest := [.int (ans_is σ.cr ((xs (i + 1))))]) (mT_is hM hI (xs (i + 1))) (qI (fun _ _ z => z.2.R)) d_La_732 ml_La_82 cb_TM_is cv_TM_is rfl rfl ⟨by decide, by decide⟩ rfl (Nat.le_of_ble_eq_true rfl) rfl rfl (Nat.le_of_ble_eq_true rfl) hl.1 ⟨by omega, by omega⟩ (fun v M' H' locs' hq hS3 => ?_)
  obtain ⟨-, r, rfl, rfl, hM2⟩ := hq
  refine lv_icmp_eq hx hb d_La_735 (tgt := 2005) rfl (fun _ => ?_) (fun z => absurd rfl z)
  exact KK _ _ _ _ _ _ _ _ (by omega) (by omega) (by omega) hS3 hC2 hM2 (hI)
theorem law_c16 (C0 : lw_At p s m meth c bq L xs) (hS : LSt s X1 X2 G1 M1 M2 H locs) (hl : LH la bq i X1 X2) (hC : SC σ G1 M1) (hM : SM σ M2) (hI : SI σ) (hi : i + 6 ≤ L) (hL : L ≤ 3072) (hc : cells + 6 ≤ 600000) (hs : slots + 1509 ≤ 7302250) (hg : G1.1 + 6 < 1000000) (KK : LK p l e s m below meth c bq X1 X2 G1.1 cells slots la QF) : W p l e room_1 s m #[Value.ref bq] below meth c H locs cells slots QF (F0 m 740 la []) := by
  have hx := C0.1
  have hb := C0.2.1
  have hsh : Sh G1 0 (0, 8) := hC.1.s (by decide) rfl
  refine lv_aload_n hx hb d_La_740 rfl (lv_at hl 2 rfl) ?_
  refine L_arg C0 hS hl 1 (by omega) hL d_La_741 d_La_742 d_La_743 rfl d_La_744 d_La_745 ?_
  refine L_arg C0 hS hl 2 (by omega) hL d_La_746 d_La_747 d_La_748 rfl d_La_749 d_La_750 ?_
  refine L_cls C0 hS (As := [.int (xs (i + 1)), .int (xs (i + 2))]) (rest := []) (b' := 0) (bs' := 0) (cT_book hC hI (xs (i + 1)) (xs (i + 2))) d_La_751 ml_La_83 cb_TP_book cv_TP_book rfl hsh rfl ⟨by decide, by decide⟩ rfl (Nat.le_of_ble_eq_true rfl) rfl (Nat.le_of_ble_eq_true rfl) hl.1 ⟨by omega, by omega⟩ (fun v G' M' H' locs' hq hS2 => ?_)
  obtain ⟨rfl, r, rfl, rfl, hC2⟩ := hq
  refine lv_aload_n hx hb d_La_754 rfl (lv_at hl 1 rfl) ?_
  refine L_arg C0 hS2 hl 1 (by omega) hL d_La_755 d_La_756 d_La_757 rfl d_La_758 d_La_759 ?_
  refine L_arg C0 hS2 hl 2 (by omega) hL d_La_760 d_La_761 d_La_762 rfl d_La_763 d_La_764 ?_
  refine L_mod C0 hS2 hM.R (As := [.int (xs (i + 1)), .int (xs (i + 2))]) (rest := [.int (ans_book σ.cr ((xs (i + 1))) ((xs (i + 2))))]) (mT_book hM hI (xs (i + 1)) (xs (i + 2))) (qI (fun _ _ z => z.2.R)) d_La_765 ml_La_86 cb_TM_book cv_TM_book rfl rfl ⟨by decide, by decide⟩ rfl (Nat.le_of_ble_eq_true rfl) rfl rfl (Nat.le_of_ble_eq_true rfl) hl.1 ⟨by omega, by omega⟩ (fun v M' H' locs' hq hS3 => ?_)
  obtain ⟨-, r, rfl, rfl, hM2⟩ := hq
  refine lv_icmp_eq hx hb d_La_768 (tgt := 2005) rfl (fun _ => ?_) (fun z => absurd rfl z)
  exact KK _ _ _ _ _ _ _ _ (by omega) (by omega) (by omega) hS3 hC2 hM2 (hI)
theorem law_c17 (C0 : lw_At p s m meth c bq L xs) (hS : LSt s X1 X2 G1 M1 M2 H locs) (hl : LH la bq i X1 X2) (hC : SC σ G1 M1) (hM : SM σ M2) (hI : SI σ) (hi : i + 6 ≤ L) (hL : L ≤ 3072) (hc : cells + 6 ≤ 600000) (hs : slots + 1509 ≤ 7302250) (hg : G1.1 + 6 < 1000000) (KK : LK p l e s m below meth c bq X1 X2 G1.1 cells slots la QF) : W p l e room_1 s m #[Value.ref bq] below meth c H locs cells slots QF (F0 m 773 la []) := by
  have hx := C0.1
  have hb := C0.2.1
  have hsh : Sh G1 0 (0, 8) := hC.1.s (by decide) rfl
  refine lv_aload_n hx hb d_La_773 rfl (lv_at hl 2 rfl) ?_
  refine L_arg C0 hS hl 1 (by omega) hL d_La_774 d_La_775 d_La_776 rfl d_La_777 d_La_778 ?_
  refine L_arg C0 hS hl 2 (by omega) hL d_La_779 d_La_780 d_La_781 rfl d_La_782 d_La_783 ?_
  refine L_cls C0 hS (As := [.int (xs (i + 1)), .int (xs (i + 2))]) (rest := []) (b' := 0) (bs' := 0) (cT_foretold hC hI (xs (i + 1)) (xs (i + 2))) d_La_784 ml_La_87 cb_TP_foretold cv_TP_foretold rfl hsh rfl ⟨by decide, by decide⟩ rfl (Nat.le_of_ble_eq_true rfl) rfl (Nat.le_of_ble_eq_true rfl) hl.1 ⟨by omega, by omega⟩ (fun v G' M' H' locs' hq hS2 => ?_)
  obtain ⟨rfl, r, rfl, rfl, hC2⟩ := hq
  refine lv_aload_n hx hb d_La_787 rfl (lv_at hl 1 rfl) ?_
  refine L_arg C0 hS2 hl 1 (by omega) hL d_La_788 d_La_789 d_La_790 rfl d_La_791 d_La_792 ?_
  refine L_arg C0 hS2 hl 2 (by omega) hL d_La_793 d_La_794 d_La_795 rfl d_La_796 d_La_797 ?_
  refine L_mod C0 hS2 hM.R (As := [.int (xs (i + 1)), .int (xs (i + 2))]) (rest := [.int (ans_foretold σ.cr ((xs (i + 1))) ((xs (i + 2))))]) (mT_foretold hM hI (xs (i + 1)) (xs (i + 2))) (qI (fun _ _ z => z.2.R)) d_La_798 ml_La_90 cb_TM_foretold cv_TM_foretold rfl rfl ⟨by decide, by decide⟩ rfl (Nat.le_of_ble_eq_true rfl) rfl rfl (Nat.le_of_ble_eq_true rfl) hl.1 ⟨by omega, by omega⟩ (fun v M' H' locs' hq hS3 => ?_)
  obtain ⟨-, r, rfl, rfl, hM2⟩ := hq
  refine lv_icmp_eq hx hb d_La_801 (tgt := 2005) rfl (fun _ => ?_) (fun z => absurd rfl z)
  exact KK _ _ _ _ _ _ _ _ (by omega) (by omega) (by omega) hS3 hC2 hM2 (iT_foretold hI (xs (i + 1)) (xs (i + 2)))
theorem law_c18 (C0 : lw_At p s m meth c bq L xs) (hS : LSt s X1 X2 G1 M1 M2 H locs) (hl : LH la bq i X1 X2) (hC : SC σ G1 M1) (hM : SM σ M2) (hI : SI σ) (hi : i + 6 ≤ L) (hL : L ≤ 3072) (hc : cells + 6 ≤ 600000) (hs : slots + 1509 ≤ 7302250) (hg : G1.1 + 6 < 1000000) (KK : LK p l e s m below meth c bq X1 X2 G1.1 cells slots la QF) : W p l e room_1 s m #[Value.ref bq] below meth c H locs cells slots QF (F0 m 806 la []) := by
  have hx := C0.1
  have hb := C0.2.1
  have hsh : Sh G1 0 (0, 8) := hC.1.s (by decide) rfl
  refine lv_aload_n hx hb d_La_806 rfl (lv_at hl 2 rfl) ?_
  refine L_arg C0 hS hl 1 (by omega) hL d_La_807 d_La_808 d_La_809 rfl d_La_810 d_La_811 ?_
  refine L_cls C0 hS (As := [.int (xs (i + 1))]) (rest := []) (b' := 0) (bs' := 0) (cT_comes hC hI (xs (i + 1))) d_La_812 ml_La_91 cb_TP_comes cv_TP_comes rfl hsh rfl ⟨by decide, by decide⟩ rfl (Nat.le_of_ble_eq_true rfl) rfl (Nat.le_of_ble_eq_true rfl) hl.1 ⟨by omega, by omega⟩ (fun v G' M' H' locs' hq hS2 => ?_)
  obtain ⟨rfl, r, rfl, rfl, hC2⟩ := hq
  refine lv_aload_n hx hb d_La_815 rfl (lv_at hl 1 rfl) ?_
  refine L_arg C0 hS2 hl 1 (by omega) hL d_La_816 d_La_817 d_La_818 rfl d_La_819 d_La_820 ?_
  refine L_mod C0 hS2 hM.R (As := [.int (xs (i + 1))]) (rest := [.int (ans_comes σ.cr ((xs (i + 1))))]) (mT_comes hM hI (xs (i + 1))) (qI (fun _ _ z => z.2.R)) d_La_821 ml_La_94 cb_TM_comes cv_TM_comes rfl rfl ⟨by decide, by decide⟩ rfl (Nat.le_of_ble_eq_true rfl) rfl rfl (Nat.le_of_ble_eq_true rfl) hl.1 ⟨by omega, by omega⟩ (fun v M' H' locs' hq hS3 => ?_)
  obtain ⟨-, r, rfl, rfl, hM2⟩ := hq
  refine lv_icmp_eq hx hb d_La_824 (tgt := 2005) rfl (fun _ => ?_) (fun z => absurd rfl z)
  exact KK _ _ _ _ _ _ _ _ (by omega) (by omega) (by omega) hS3 hC2 hM2 (hI)
theorem law_c19 (C0 : lw_At p s m meth c bq L xs) (hS : LSt s X1 X2 G1 M1 M2 H locs) (hl : LH la bq i X1 X2) (hC : SC σ G1 M1) (hM : SM σ M2) (hI : SI σ) (hi : i + 6 ≤ L) (hL : L ≤ 3072) (hc : cells + 6 ≤ 600000) (hs : slots + 1509 ≤ 7302250) (hg : G1.1 + 6 < 1000000) (KK : LK p l e s m below meth c bq X1 X2 G1.1 cells slots la QF) : W p l e room_1 s m #[Value.ref bq] below meth c H locs cells slots QF (F0 m 829 la []) := by
  have hx := C0.1
  have hb := C0.2.1
  have hsh : Sh G1 0 (0, 8) := hC.1.s (by decide) rfl
  refine lv_aload_n hx hb d_La_829 rfl (lv_at hl 2 rfl) ?_
  refine L_cls C0 hS (As := []) (rest := []) (b' := 0) (bs' := 0) (cT_trues hC hI ) d_La_830 ml_La_95 cb_TP_trues cv_TP_trues rfl hsh rfl ⟨by decide, by decide⟩ rfl (Nat.le_of_ble_eq_true rfl) rfl (Nat.le_of_ble_eq_true rfl) hl.1 ⟨by omega, by omega⟩ (fun v G' M' H' locs' hq hS2 => ?_)
  obtain ⟨rfl, r, rfl, rfl, hC2⟩ := hq
  refine lv_aload_n hx hb d_La_833 rfl (lv_at hl 1 rfl) ?_
  refine L_mod C0 hS2 hM.R (As := []) (rest := [.int (ans_trues σ.cr)]) (mT_trues hM hI ) (qI (fun _ _ z => z.2.R)) d_La_834 ml_La_98 cb_TM_trues cv_TM_trues rfl rfl ⟨by decide, by decide⟩ rfl (Nat.le_of_ble_eq_true rfl) rfl rfl (Nat.le_of_ble_eq_true rfl) hl.1 ⟨by omega, by omega⟩ (fun v M' H' locs' hq hS3 => ?_)
  obtain ⟨-, r, rfl, rfl, hM2⟩ := hq
  refine lv_icmp_eq hx hb d_La_837 (tgt := 2005) rfl (fun _ => ?_) (fun z => absurd rfl z)
  exact KK _ _ _ _ _ _ _ _ (by omega) (by omega) (by omega) hS3 hC2 hM2 (hI)
theorem law_c20 (C0 : lw_At p s m meth c bq L xs) (hS : LSt s X1 X2 G1 M1 M2 H locs) (hl : LH la bq i X1 X2) (hC : SC σ G1 M1) (hM : SM σ M2) (hI : SI σ) (hi : i + 6 ≤ L) (hL : L ≤ 3072) (hc : cells + 6 ≤ 600000) (hs : slots + 1509 ≤ 7302250) (hg : G1.1 + 6 < 1000000) (KK : LK p l e s m below meth c bq X1 X2 G1.1 cells slots la QF) : W p l e room_1 s m #[Value.ref bq] below meth c H locs cells slots QF (F0 m 842 la []) := by
  have hx := C0.1
  have hb := C0.2.1
  have hsh : Sh G1 0 (0, 8) := hC.1.s (by decide) rfl
  refine lv_aload_n hx hb d_La_842 rfl (lv_at hl 2 rfl) ?_
  refine L_cls C0 hS (As := []) (rest := []) (b' := 0) (bs' := 0) (cT_firm hC hI ) d_La_843 ml_La_99 cb_TP_firm cv_TP_firm rfl hsh rfl ⟨by decide, by decide⟩ rfl (Nat.le_of_ble_eq_true rfl) rfl (Nat.le_of_ble_eq_true rfl) hl.1 ⟨by omega, by omega⟩ (fun v G' M' H' locs' hq hS2 => ?_)
  obtain ⟨rfl, r, rfl, rfl, hC2⟩ := hq
  refine lv_aload_n hx hb d_La_846 rfl (lv_at hl 1 rfl) ?_
  refine L_mod C0 hS2 hM.R (As := []) (rest := [.int (ans_firm σ.cr)]) (mT_firm hM hI ) (qI (fun _ _ z => z.2.R)) d_La_847 ml_La_102 cb_TM_firm cv_TM_firm rfl rfl ⟨by decide, by decide⟩ rfl (Nat.le_of_ble_eq_true rfl) rfl rfl (Nat.le_of_ble_eq_true rfl) hl.1 ⟨by omega, by omega⟩ (fun v M' H' locs' hq hS3 => ?_)
  obtain ⟨-, r, rfl, rfl, hM2⟩ := hq
  refine lv_icmp_eq hx hb d_La_850 (tgt := 2005) rfl (fun _ => ?_) (fun z => absurd rfl z)
  exact KK _ _ _ _ _ _ _ _ (by omega) (by omega) (by omega) hS3 hC2 hM2 (hI)
end LWD
