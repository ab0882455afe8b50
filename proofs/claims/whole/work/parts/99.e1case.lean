/-! ===== the law's cases ===== -/
theorem mdL_append : yL_append.cls ≠ "java/lang/invoke/MethodHandle" ∧ yL_append.cls ≠ "java/lang/invoke/VarHandle" ∧ (parseMethodDescriptor yL_append.desc).map (fun d => d.parameters.length) = some 7 := by decide +kernel
set_option maxHeartbeats 4000000 in
set_option maxRecDepth 100000 in
theorem lc_304 {G : GC} {E : Ctx} {w : Lay} {kc ks hm f u b L i : Nat} {xs : Nat → Int32} {σ : Mem} (C : Cx G E cL_law RL 9 room_1) (hX : LawX G E b L xs) (hi : i + 7 ≤ L) (hL : L ≤ 3584) (hW : LAY w) (hR : REL hm σ f u) (hb9 : hm ≤ 800000) (hkc : kc ≤ 10000) (hks : ks ≤ 100000) (hk : ∀ τ f2 u2, REL (hm + 960) τ f2 u2 → J G E w (kc + 7) (ks + 42) 3399 [some (.ref b), some (.ref (w.2.1 12 0)), some (.ref (w.2.1 13 0)), some (.ref (w.2.1 13 9)), some (.int (nI i)), none, none, none, none] [] τ) : J G E w kc ks 304 [some (.ref b), some (.ref (w.2.1 12 0)), some (.ref (w.2.1 13 0)), some (.ref (w.2.1 13 9)), some (.int (nI i)), none, none, none, none] [] σ := by
  obtain ⟨t, T, hXc, hXm⟩ := hR.2.2.2.1
  refine J_aload_n C dL_law_304 rfl rfl ?_
  refine J_arg1 C hX (k := 1) rfl rfl (by omega) hL dL_law_305 dL_law_306 dL_law_308 (by decide) dL_law_309 dL_law_310 ?_
  refine J_arg1 C hX (k := 2) rfl rfl (by omega) hL dL_law_311 dL_law_312 dL_law_314 (by decide) dL_law_315 dL_law_316 ?_
  refine J_arg1 C hX (k := 3) rfl rfl (by omega) hL dL_law_317 dL_law_318 dL_law_320 (by decide) dL_law_321 dL_law_322 ?_
  refine J_arg1 C hX (k := 4) rfl rfl (by omega) hL dL_law_323 dL_law_324 dL_law_326 (by decide) dL_law_327 dL_law_328 ?_
  refine J_arg1 C hX (k := 5) rfl rfl (by omega) hL dL_law_329 dL_law_330 dL_law_332 (by decide) dL_law_333 dL_law_334 ?_
  refine J_aload_n C dL_law_335 rfl rfl ?_
  refine J_invSX (rm := rmL_append) C rfl (As := [.ref (w.2.1 12 0), .int (xs (i + 1)), .int (xs (i + 2)), .int (xs (i + 3)), .int (xs (i + 4)), .int (xs (i + 5)), .ref (w.2.1 13 9)]) rfl (goodSX q3_44 q3_45 q1_0 q3_46) mdL_append rfl rfl ⟨by decide +kernel, by decide +kernel⟩ rfl ⟨by show kc + 1 ≤ 601024; omega, by show ks + 6 ≤ 7293033; omega⟩ (Nat.le_of_ble_eq_true rfl) dL_law_336 ?_
  refine pc_append hW hR hb9 hXc hXm (fun τ hτ => ?_)
  dsimp only [Option.toList_some, Option.toList_none, List.cons_append, List.nil_append]
  refine J_istore C dL_law_339 (Nat.le_of_ble_eq_true rfl) rfl ?_
  dsimp only [List.set]
  refine J_aload_n C dL_law_341 rfl rfl ?_
  refine J_arg1 C hX (k := 1) rfl rfl (by omega) hL dL_law_342 dL_law_343 dL_law_345 (by decide) dL_law_346 dL_law_347 ?_
  refine J_arg1 C hX (k := 2) rfl rfl (by omega) hL dL_law_348 dL_law_349 dL_law_351 (by decide) dL_law_352 dL_law_353 ?_
  refine J_arg1 C hX (k := 3) rfl rfl (by omega) hL dL_law_354 dL_law_355 dL_law_357 (by decide) dL_law_358 dL_law_359 ?_
  refine J_arg1 C hX (k := 4) rfl rfl (by omega) hL dL_law_360 dL_law_361 dL_law_363 (by decide) dL_law_364 dL_law_365 ?_
  refine J_arg1 C hX (k := 5) rfl rfl (by omega) hL dL_law_366 dL_law_367 dL_law_369 (by decide) dL_law_370 dL_law_371 ?_
  refine iL_167 C hW.2.1 rfl ⟨by decide +kernel, by decide +kernel⟩ ⟨by show kc + 1 + 0 ≤ 601024; omega, by show ks + 6 + 0 ≤ 7293033; omega⟩ (Nat.le_of_ble_eq_true rfl) dL_law_372 ?_
  refine pr_append hW hR hb9 hXc hXm hτ (fun bb τ2 hP => ?_)
  dsimp only [Option.toList_some, Option.toList_none, List.cons_append, List.nil_append]
  refine J_widen (k := kc + 7) (n := ks + 42) (by omega) (by omega) ?_
  exact tail_I C hW.2.1 rfl rfl hP ⟨by decide +kernel, by decide +kernel⟩ ⟨by show kc + 7 + 0 ≤ 601024; omega, by show ks + 42 + 0 ≤ 7293033; omega⟩ dL_law_375 dL_law_377 dL_law_378 dL_law_381 dL_law_383 dL_law_388 dL_law_390 dL_law_393 dL_law_394 dL_law_395 dL_law_396 dL_law_398 dL_law_399 dL_law_400 dL_law_405 rfl (fun _ _ => hk _ _ _)
theorem mdL_truncate : yL_truncate.cls ≠ "java/lang/invoke/MethodHandle" ∧ yL_truncate.cls ≠ "java/lang/invoke/VarHandle" ∧ (parseMethodDescriptor yL_truncate.desc).map (fun d => d.parameters.length) = some 3 := by decide +kernel
set_option maxHeartbeats 4000000 in
set_option maxRecDepth 100000 in
theorem lc_408 {G : GC} {E : Ctx} {w : Lay} {kc ks hm f u b L i : Nat} {xs : Nat → Int32} {σ : Mem} (C : Cx G E cL_law RL 9 room_1) (hX : LawX G E b L xs) (hi : i + 7 ≤ L) (hL : L ≤ 3584) (hW : LAY w) (hR : REL hm σ f u) (hb9 : hm ≤ 800000) (hkc : kc ≤ 10000) (hks : ks ≤ 100000) (hk : ∀ τ f2 u2, REL (hm + 960) τ f2 u2 → J G E w (kc + 7) (ks + 42) 3399 [some (.ref b), some (.ref (w.2.1 12 0)), some (.ref (w.2.1 13 0)), some (.ref (w.2.1 13 9)), some (.int (nI i)), none, none, none, none] [] τ) : J G E w kc ks 408 [some (.ref b), some (.ref (w.2.1 12 0)), some (.ref (w.2.1 13 0)), some (.ref (w.2.1 13 9)), some (.int (nI i)), none, none, none, none] [] σ := by
  obtain ⟨t, T, hXc, hXm⟩ := hR.2.2.2.1
  refine J_aload_n C dL_law_408 rfl rfl ?_
  refine J_arg1 C hX (k := 1) rfl rfl (by omega) hL dL_law_409 dL_law_410 dL_law_412 (by decide) dL_law_413 dL_law_414 ?_
  refine J_aload_n C dL_law_415 rfl rfl ?_
  refine J_invSX (rm := rmL_truncate) C rfl (As := [.ref (w.2.1 12 0), .int (xs (i + 1)), .ref (w.2.1 13 9)]) rfl (goodSX q3_129 q3_130 q1_0 q3_131) mdL_truncate rfl rfl ⟨by decide +kernel, by decide +kernel⟩ rfl ⟨by show kc + 1 ≤ 601024; omega, by show ks + 6 ≤ 7293033; omega⟩ (Nat.le_of_ble_eq_true rfl) dL_law_416 ?_
  refine pc_truncate hW hR hb9 hXc hXm (fun τ hτ => ?_)
  dsimp only [Option.toList_some, Option.toList_none, List.cons_append, List.nil_append]
  refine J_istore C dL_law_419 (Nat.le_of_ble_eq_true rfl) rfl ?_
  dsimp only [List.set]
  refine J_aload_n C dL_law_421 rfl rfl ?_
  refine J_arg1 C hX (k := 1) rfl rfl (by omega) hL dL_law_422 dL_law_423 dL_law_425 (by decide) dL_law_426 dL_law_427 ?_
  refine iL_174 C hW.2.1 rfl ⟨by decide +kernel, by decide +kernel⟩ ⟨by show kc + 1 + 0 ≤ 601024; omega, by show ks + 6 + 0 ≤ 7293033; omega⟩ (Nat.le_of_ble_eq_true rfl) dL_law_428 ?_
  refine pr_truncate hW hR hb9 hXc hXm hτ (fun bb τ2 hP => ?_)
  dsimp only [Option.toList_some, Option.toList_none, List.cons_append, List.nil_append]
  refine J_widen (k := kc + 7) (n := ks + 42) (by omega) (by omega) ?_
  exact tail_I C hW.2.1 rfl rfl hP ⟨by decide +kernel, by decide +kernel⟩ ⟨by show kc + 7 + 0 ≤ 601024; omega, by show ks + 42 + 0 ≤ 7293033; omega⟩ dL_law_431 dL_law_433 dL_law_434 dL_law_437 dL_law_439 dL_law_444 dL_law_446 dL_law_449 dL_law_450 dL_law_451 dL_law_452 dL_law_454 dL_law_455 dL_law_456 dL_law_461 rfl (fun _ _ => hk _ _ _)
set_option maxHeartbeats 4000000 in
set_option maxRecDepth 100000 in
theorem lc_464 {G : GC} {E : Ctx} {w : Lay} {kc ks hm f u b L i : Nat} {xs : Nat → Int32} {σ : Mem} (C : Cx G E cL_law RL 9 room_1) (hX : LawX G E b L xs) (hi : i + 7 ≤ L) (hL : L ≤ 3584) (hW : LAY w) (hR : REL hm σ f u) (hb9 : hm ≤ 800000) (hkc : kc ≤ 10000) (hks : ks ≤ 100000) (hk : ∀ τ f2 u2, REL (hm + 960) τ f2 u2 → J G E w (kc + 7) (ks + 42) 3399 [some (.ref b), some (.ref (w.2.1 12 0)), some (.ref (w.2.1 13 0)), some (.ref (w.2.1 13 9)), some (.int (nI i)), none, none, none, none] [] τ) : J G E w kc ks 464 [some (.ref b), some (.ref (w.2.1 12 0)), some (.ref (w.2.1 13 0)), some (.ref (w.2.1 13 9)), some (.int (nI i)), none, none, none, none] [] σ := by
  refine J_aload_n C dL_law_464 rfl rfl ?_
  refine iL_175 C hW.1 rfl ⟨by decide +kernel, by decide +kernel⟩ ⟨by show kc + 0 ≤ 601024; omega, by show ks + 0 ≤ 7293033; omega⟩ (Nat.le_of_ble_eq_true rfl) dL_law_465 ?_
  refine c_X9_errorCode hW.1 ?_
  dsimp only [Option.toList_some, Option.toList_none, List.cons_append, List.nil_append]
  refine J_aload_n C dL_law_468 rfl rfl ?_
  refine iL_178 C hW.2.1 rfl ⟨by decide +kernel, by decide +kernel⟩ ⟨by show kc + 0 + 0 ≤ 601024; omega, by show ks + 0 + 0 ≤ 7293033; omega⟩ (Nat.le_of_ble_eq_true rfl) dL_law_469 ?_
  refine c_X10_errorCode hW.2.1 ?_
  dsimp only [Option.toList_some, Option.toList_none, List.cons_append, List.nil_append]
  rw [hR.2.2.2.2.1.1]
  refine J_widen (k := kc + 7) (n := ks + 42) (by omega) (by omega) ?_
  exact J_icmp_eq C (tgt := 3399) dL_law_472 rfl (fun _ => hk _ _ _ (REL_thr hR (by omega))) (fun h => absurd rfl h)
set_option maxHeartbeats 4000000 in
set_option maxRecDepth 100000 in
theorem lc_477 {G : GC} {E : Ctx} {w : Lay} {kc ks hm f u b L i : Nat} {xs : Nat → Int32} {σ : Mem} (C : Cx G E cL_law RL 9 room_1) (hX : LawX G E b L xs) (hi : i + 7 ≤ L) (hL : L ≤ 3584) (hW : LAY w) (hR : REL hm σ f u) (hb9 : hm ≤ 800000) (hkc : kc ≤ 10000) (hks : ks ≤ 100000) (hk : ∀ τ f2 u2, REL (hm + 960) τ f2 u2 → J G E w (kc + 7) (ks + 42) 3399 [some (.ref b), some (.ref (w.2.1 12 0)), some (.ref (w.2.1 13 0)), some (.ref (w.2.1 13 9)), some (.int (nI i)), none, none, none, none] [] τ) : J G E w kc ks 477 [some (.ref b), some (.ref (w.2.1 12 0)), some (.ref (w.2.1 13 0)), some (.ref (w.2.1 13 9)), some (.int (nI i)), none, none, none, none] [] σ := by
  refine J_aload_n C dL_law_477 rfl rfl ?_
  refine iL_179 C hW.1 rfl ⟨by decide +kernel, by decide +kernel⟩ ⟨by show kc + 0 ≤ 601024; omega, by show ks + 0 ≤ 7293033; omega⟩ (Nat.le_of_ble_eq_true rfl) dL_law_478 ?_
  refine c_X9_errorPosition hW.1 ?_
  dsimp only [Option.toList_some, Option.toList_none, List.cons_append, List.nil_append]
  refine J_aload_n C dL_law_481 rfl rfl ?_
  refine iL_182 C hW.2.1 rfl ⟨by decide +kernel, by decide +kernel⟩ ⟨by show kc + 0 + 0 ≤ 601024; omega, by show ks + 0 + 0 ≤ 7293033; omega⟩ (Nat.le_of_ble_eq_true rfl) dL_law_482 ?_
  refine c_X10_errorPosition hW.2.1 ?_
  dsimp only [Option.toList_some, Option.toList_none, List.cons_append, List.nil_append]
  rw [hR.2.2.2.2.1.2]
  refine J_widen (k := kc + 7) (n := ks + 42) (by omega) (by omega) ?_
  exact J_icmp_eq C (tgt := 3399) dL_law_485 rfl (fun _ => hk _ _ _ (REL_thr hR (by omega))) (fun h => absurd rfl h)
theorem mdL_loadSetup : yL_loadSetup.cls ≠ "java/lang/invoke/MethodHandle" ∧ yL_loadSetup.cls ≠ "java/lang/invoke/VarHandle" ∧ (parseMethodDescriptor yL_loadSetup.desc).map (fun d => d.parameters.length) = some 2 := by decide +kernel
set_option maxHeartbeats 4000000 in
set_option maxRecDepth 100000 in
theorem lc_490 {G : GC} {E : Ctx} {w : Lay} {kc ks hm f u b L i : Nat} {xs : Nat → Int32} {σ : Mem} (C : Cx G E cL_law RL 9 room_1) (hX : LawX G E b L xs) (hi : i + 7 ≤ L) (hL : L ≤ 3584) (hW : LAY w) (hR : REL hm σ f u) (hb9 : hm ≤ 800000) (hkc : kc ≤ 10000) (hks : ks ≤ 100000) (hk : ∀ τ f2 u2, REL (hm + 960) τ f2 u2 → J G E w (kc + 7) (ks + 42) 3399 [some (.ref b), some (.ref (w.2.1 12 0)), some (.ref (w.2.1 13 0)), some (.ref (w.2.1 13 9)), some (.int (nI i)), none, none, none, none] [] τ) : J G E w kc ks 490 [some (.ref b), some (.ref (w.2.1 12 0)), some (.ref (w.2.1 13 0)), some (.ref (w.2.1 13 9)), some (.int (nI i)), none, none, none, none] [] σ := by
  obtain ⟨t, T, hXc, hXm⟩ := hR.2.2.2.1
  refine J_aload_n C dL_law_490 rfl rfl ?_
  refine J_aload_n C dL_law_491 rfl rfl ?_
  refine J_invSX (rm := rmL_loadSetup) C rfl (As := [.ref (w.2.1 12 0), .ref (w.2.1 13 9)]) rfl (goodSX q3_156 q3_157 q1_0 q3_158) mdL_loadSetup rfl rfl ⟨by decide +kernel, by decide +kernel⟩ rfl ⟨by show kc + 1 ≤ 601024; omega, by show ks + 6 ≤ 7293033; omega⟩ (Nat.le_of_ble_eq_true rfl) dL_law_492 ?_
  refine pc_loadSetup hW hR hb9 hXc hXm (fun τ hτ => ?_)
  dsimp only [Option.toList_some, Option.toList_none, List.cons_append, List.nil_append]
  refine J_istore C dL_law_495 (Nat.le_of_ble_eq_true rfl) rfl ?_
  dsimp only [List.set]
  refine J_aload_n C dL_law_497 rfl rfl ?_
  refine iL_186 C hW.2.1 rfl ⟨by decide +kernel, by decide +kernel⟩ ⟨by show kc + 1 + 0 ≤ 601024; omega, by show ks + 6 + 0 ≤ 7293033; omega⟩ (Nat.le_of_ble_eq_true rfl) dL_law_498 ?_
  refine pr_loadSetup hW hR hb9 hXc hXm hτ (fun bb τ2 hP => ?_)
  dsimp only [Option.toList_some, Option.toList_none, List.cons_append, List.nil_append]
  refine J_widen (k := kc + 7) (n := ks + 42) (by omega) (by omega) ?_
  exact tail_I C hW.2.1 rfl rfl hP ⟨by decide +kernel, by decide +kernel⟩ ⟨by show kc + 7 + 0 ≤ 601024; omega, by show ks + 42 + 0 ≤ 7293033; omega⟩ dL_law_501 dL_law_503 dL_law_504 dL_law_507 dL_law_509 dL_law_514 dL_law_516 dL_law_519 dL_law_520 dL_law_521 dL_law_522 dL_law_524 dL_law_525 dL_law_526 dL_law_531 rfl (fun _ _ => hk _ _ _)
theorem mdL_runScript : yL_runScript.cls ≠ "java/lang/invoke/MethodHandle" ∧ yL_runScript.cls ≠ "java/lang/invoke/VarHandle" ∧ (parseMethodDescriptor yL_runScript.desc).map (fun d => d.parameters.length) = some 2 := by decide +kernel
set_option maxHeartbeats 4000000 in
set_option maxRecDepth 100000 in
theorem lc_534 {G : GC} {E : Ctx} {w : Lay} {kc ks hm f u b L i : Nat} {xs : Nat → Int32} {σ : Mem} (C : Cx G E cL_law RL 9 room_1) (hX : LawX G E b L xs) (hi : i + 7 ≤ L) (hL : L ≤ 3584) (hW : LAY w) (hR : REL hm σ f u) (hb9 : hm ≤ 800000) (hkc : kc ≤ 10000) (hks : ks ≤ 100000) (hk : ∀ τ f2 u2, REL (hm + 960) τ f2 u2 → J G E w (kc + 7) (ks + 42) 3399 [some (.ref b), some (.ref (w.2.1 12 0)), some (.ref (w.2.1 13 0)), some (.ref (w.2.1 13 9)), some (.int (nI i)), none, none, none, none] [] τ) : J G E w kc ks 534 [some (.ref b), some (.ref (w.2.1 12 0)), some (.ref (w.2.1 13 0)), some (.ref (w.2.1 13 9)), some (.int (nI i)), none, none, none, none] [] σ := by
  obtain ⟨t, T, hXc, hXm⟩ := hR.2.2.2.1
  refine J_aload_n C dL_law_534 rfl rfl ?_
  refine J_aload_n C dL_law_535 rfl rfl ?_
  refine J_invSX (rm := rmL_runScript) C rfl (As := [.ref (w.2.1 12 0), .ref (w.2.1 13 9)]) rfl (goodSX q4_93 q4_94 q1_0 q4_95) mdL_runScript rfl rfl ⟨by decide +kernel, by decide +kernel⟩ rfl ⟨by show kc + 1 ≤ 601024; omega, by show ks + 6 ≤ 7293033; omega⟩ (Nat.le_of_ble_eq_true rfl) dL_law_536 ?_
  refine pc_runScript hW hR hb9 hXc hXm (fun τ hτ => ?_)
  dsimp only [Option.toList_some, Option.toList_none, List.cons_append, List.nil_append]
  refine J_istore C dL_law_539 (Nat.le_of_ble_eq_true rfl) rfl ?_
  dsimp only [List.set]
  refine J_aload_n C dL_law_541 rfl rfl ?_
  refine iL_189 C hW.2.1 rfl ⟨by decide +kernel, by decide +kernel⟩ ⟨by show kc + 1 + 0 ≤ 601024; omega, by show ks + 6 + 0 ≤ 7293033; omega⟩ (Nat.le_of_ble_eq_true rfl) dL_law_542 ?_
  refine pr_runScript hW hR hb9 hXc hXm hτ (fun bb τ2 hP => ?_)
  dsimp only [Option.toList_some, Option.toList_none, List.cons_append, List.nil_append]
  refine J_widen (k := kc + 7) (n := ks + 42) (by omega) (by omega) ?_
  exact tail_I C hW.2.1 rfl rfl hP ⟨by decide +kernel, by decide +kernel⟩ ⟨by show kc + 7 + 0 ≤ 601024; omega, by show ks + 42 + 0 ≤ 7293033; omega⟩ dL_law_545 dL_law_547 dL_law_548 dL_law_551 dL_law_553 dL_law_558 dL_law_560 dL_law_563 dL_law_564 dL_law_565 dL_law_566 dL_law_568 dL_law_569 dL_law_570 dL_law_575 rfl (fun _ _ => hk _ _ _)
theorem mdL_addKite : yL_addKite.cls ≠ "java/lang/invoke/MethodHandle" ∧ yL_addKite.cls ≠ "java/lang/invoke/VarHandle" ∧ (parseMethodDescriptor yL_addKite.desc).map (fun d => d.parameters.length) = some 8 := by decide +kernel
set_option maxHeartbeats 4000000 in
set_option maxRecDepth 100000 in
theorem lc_578 {G : GC} {E : Ctx} {w : Lay} {kc ks hm f u b L i : Nat} {xs : Nat → Int32} {σ : Mem} (C : Cx G E cL_law RL 9 room_1) (hX : LawX G E b L xs) (hi : i + 7 ≤ L) (hL : L ≤ 3584) (hW : LAY w) (hR : REL hm σ f u) (hb9 : hm ≤ 800000) (hkc : kc ≤ 10000) (hks : ks ≤ 100000) (hk : ∀ τ f2 u2, REL (hm + 960) τ f2 u2 → J G E w (kc + 7) (ks + 42) 3399 [some (.ref b), some (.ref (w.2.1 12 0)), some (.ref (w.2.1 13 0)), some (.ref (w.2.1 13 9)), some (.int (nI i)), none, none, none, none] [] τ) : J G E w kc ks 578 [some (.ref b), some (.ref (w.2.1 12 0)), some (.ref (w.2.1 13 0)), some (.ref (w.2.1 13 9)), some (.int (nI i)), none, none, none, none] [] σ := by
  refine J_aload_n C dL_law_578 rfl rfl ?_
  refine J_arg1 C hX (k := 1) rfl rfl (by omega) hL dL_law_579 dL_law_580 dL_law_582 (by decide) dL_law_583 dL_law_584 ?_
  refine J_arg1 C hX (k := 2) rfl rfl (by omega) hL dL_law_585 dL_law_586 dL_law_588 (by decide) dL_law_589 dL_law_590 ?_
  refine J_arg1 C hX (k := 3) rfl rfl (by omega) hL dL_law_591 dL_law_592 dL_law_594 (by decide) dL_law_595 dL_law_596 ?_
  refine J_arg1 C hX (k := 4) rfl rfl (by omega) hL dL_law_597 dL_law_598 dL_law_600 (by decide) dL_law_601 dL_law_602 ?_
  refine J_arg1 C hX (k := 5) rfl rfl (by omega) hL dL_law_603 dL_law_604 dL_law_606 (by decide) dL_law_607 dL_law_608 ?_
  refine J_arg2 C hX (k := 6) rfl rfl (by omega) hL dL_law_609 dL_law_610 dL_law_612 (by decide) dL_law_614 dL_law_615 ?_
  refine J_aload_n C dL_law_616 rfl rfl ?_
  refine J_invSX (rm := rmL_addKite) C rfl (As := [.ref (w.2.1 12 0), .int (xs (i + 1)), .int (xs (i + 2)), .int (xs (i + 3)), .int (xs (i + 4)), .int (xs (i + 5)), .int (xs (i + 6)), .ref (w.2.1 13 9)]) rfl (goodSX q5_23 q5_24 q1_0 q5_25) mdL_addKite rfl rfl ⟨by decide +kernel, by decide +kernel⟩ rfl ⟨by show kc + 7 ≤ 601024; omega, by show ks + 42 ≤ 7293033; omega⟩ (Nat.le_of_ble_eq_true rfl) dL_law_617 ?_
  refine pc_addKite hW hR hb9 (fun τ hτ => ?_)
  dsimp only [Option.toList_some, Option.toList_none, List.cons_append, List.nil_append]
  refine J_istore C dL_law_620 (Nat.le_of_ble_eq_true rfl) rfl ?_
  dsimp only [List.set]
  refine J_aload_n C dL_law_622 rfl rfl ?_
  refine J_arg1 C hX (k := 1) rfl rfl (by omega) hL dL_law_623 dL_law_624 dL_law_626 (by decide) dL_law_627 dL_law_628 ?_
  refine J_arg1 C hX (k := 2) rfl rfl (by omega) hL dL_law_629 dL_law_630 dL_law_632 (by decide) dL_law_633 dL_law_634 ?_
  refine J_arg1 C hX (k := 3) rfl rfl (by omega) hL dL_law_635 dL_law_636 dL_law_638 (by decide) dL_law_639 dL_law_640 ?_
  refine J_arg1 C hX (k := 4) rfl rfl (by omega) hL dL_law_641 dL_law_642 dL_law_644 (by decide) dL_law_645 dL_law_646 ?_
  refine J_arg1 C hX (k := 5) rfl rfl (by omega) hL dL_law_647 dL_law_648 dL_law_650 (by decide) dL_law_651 dL_law_652 ?_
  refine J_arg2 C hX (k := 6) rfl rfl (by omega) hL dL_law_653 dL_law_654 dL_law_656 (by decide) dL_law_658 dL_law_659 ?_
  refine iL_193 C hW.2.1 rfl ⟨by decide +kernel, by decide +kernel⟩ ⟨by show kc + 7 + 0 ≤ 601024; omega, by show ks + 42 + 0 ≤ 7293033; omega⟩ (Nat.le_of_ble_eq_true rfl) dL_law_660 ?_
  refine pr_addKite hW hR hb9 hτ (fun bb τ2 hP => ?_)
  dsimp only [Option.toList_some, Option.toList_none, List.cons_append, List.nil_append]
  refine J_widen (k := kc + 7) (n := ks + 42) (by omega) (by omega) ?_
  exact tail_I C hW.2.1 rfl rfl hP ⟨by decide +kernel, by decide +kernel⟩ ⟨by show kc + 7 + 0 ≤ 601024; omega, by show ks + 42 + 0 ≤ 7293033; omega⟩ dL_law_663 dL_law_665 dL_law_666 dL_law_669 dL_law_671 dL_law_676 dL_law_678 dL_law_681 dL_law_682 dL_law_683 dL_law_684 dL_law_686 dL_law_687 dL_law_688 dL_law_693 rfl (fun _ _ => hk _ _ _)
theorem mdL_launch : yL_launch.cls ≠ "java/lang/invoke/MethodHandle" ∧ yL_launch.cls ≠ "java/lang/invoke/VarHandle" ∧ (parseMethodDescriptor yL_launch.desc).map (fun d => d.parameters.length) = some 3 := by decide +kernel
set_option maxHeartbeats 4000000 in
set_option maxRecDepth 100000 in
theorem lc_696 {G : GC} {E : Ctx} {w : Lay} {kc ks hm f u b L i : Nat} {xs : Nat → Int32} {σ : Mem} (C : Cx G E cL_law RL 9 room_1) (hX : LawX G E b L xs) (hi : i + 7 ≤ L) (hL : L ≤ 3584) (hW : LAY w) (hR : REL hm σ f u) (hb9 : hm ≤ 800000) (hkc : kc ≤ 10000) (hks : ks ≤ 100000) (hk : ∀ τ f2 u2, REL (hm + 960) τ f2 u2 → J G E w (kc + 7) (ks + 42) 3399 [some (.ref b), some (.ref (w.2.1 12 0)), some (.ref (w.2.1 13 0)), some (.ref (w.2.1 13 9)), some (.int (nI i)), none, none, none, none] [] τ) : J G E w kc ks 696 [some (.ref b), some (.ref (w.2.1 12 0)), some (.ref (w.2.1 13 0)), some (.ref (w.2.1 13 9)), some (.int (nI i)), none, none, none, none] [] σ := by
  refine J_aload_n C dL_law_696 rfl rfl ?_
  refine J_arg1 C hX (k := 1) rfl rfl (by omega) hL dL_law_697 dL_law_698 dL_law_700 (by decide) dL_law_701 dL_law_702 ?_
  refine J_aload_n C dL_law_703 rfl rfl ?_
  refine J_invSX (rm := rmL_launch) C rfl (As := [.ref (w.2.1 12 0), .int (xs (i + 1)), .ref (w.2.1 13 9)]) rfl (goodSX q5_52 q5_53 q1_0 q5_54) mdL_launch rfl rfl ⟨by decide +kernel, by decide +kernel⟩ rfl ⟨by show kc + 2 ≤ 601024; omega, by show ks + 12 ≤ 7293033; omega⟩ (Nat.le_of_ble_eq_true rfl) dL_law_704 ?_
  refine pc_launch hW hR hb9 (fun τ hτ => ?_)
  dsimp only [Option.toList_some, Option.toList_none, List.cons_append, List.nil_append]
  refine J_istore C dL_law_707 (Nat.le_of_ble_eq_true rfl) rfl ?_
  dsimp only [List.set]
  refine J_aload_n C dL_law_709 rfl rfl ?_
  refine J_arg1 C hX (k := 1) rfl rfl (by omega) hL dL_law_710 dL_law_711 dL_law_713 (by decide) dL_law_714 dL_law_715 ?_
  refine iL_196 C hW.2.1 rfl ⟨by decide +kernel, by decide +kernel⟩ ⟨by show kc + 2 + 0 ≤ 601024; omega, by show ks + 12 + 0 ≤ 7293033; omega⟩ (Nat.le_of_ble_eq_true rfl) dL_law_716 ?_
  refine pr_launch hW hR hb9 hτ (fun bb τ2 hP => ?_)
  dsimp only [Option.toList_some, Option.toList_none, List.cons_append, List.nil_append]
  refine J_widen (k := kc + 7) (n := ks + 42) (by omega) (by omega) ?_
  exact tail_I C hW.2.1 rfl rfl hP ⟨by decide +kernel, by decide +kernel⟩ ⟨by show kc + 7 + 0 ≤ 601024; omega, by show ks + 42 + 0 ≤ 7293033; omega⟩ dL_law_719 dL_law_721 dL_law_722 dL_law_725 dL_law_727 dL_law_732 dL_law_734 dL_law_737 dL_law_738 dL_law_739 dL_law_740 dL_law_742 dL_law_743 dL_law_744 dL_law_749 rfl (fun _ _ => hk _ _ _)
theorem mdL_land : yL_land.cls ≠ "java/lang/invoke/MethodHandle" ∧ yL_land.cls ≠ "java/lang/invoke/VarHandle" ∧ (parseMethodDescriptor yL_land.desc).map (fun d => d.parameters.length) = some 3 := by decide +kernel
set_option maxHeartbeats 4000000 in
set_option maxRecDepth 100000 in
theorem lc_752 {G : GC} {E : Ctx} {w : Lay} {kc ks hm f u b L i : Nat} {xs : Nat → Int32} {σ : Mem} (C : Cx G E cL_law RL 9 room_1) (hX : LawX G E b L xs) (hi : i + 7 ≤ L) (hL : L ≤ 3584) (hW : LAY w) (hR : REL hm σ f u) (hb9 : hm ≤ 800000) (hkc : kc ≤ 10000) (hks : ks ≤ 100000) (hk : ∀ τ f2 u2, REL (hm + 960) τ f2 u2 → J G E w (kc + 7) (ks + 42) 3399 [some (.ref b), some (.ref (w.2.1 12 0)), some (.ref (w.2.1 13 0)), some (.ref (w.2.1 13 9)), some (.int (nI i)), none, none, none, none] [] τ) : J G E w kc ks 752 [some (.ref b), some (.ref (w.2.1 12 0)), some (.ref (w.2.1 13 0)), some (.ref (w.2.1 13 9)), some (.int (nI i)), none, none, none, none] [] σ := by
  refine J_aload_n C dL_law_752 rfl rfl ?_
  refine J_arg1 C hX (k := 1) rfl rfl (by omega) hL dL_law_753 dL_law_754 dL_law_756 (by decide) dL_law_757 dL_law_758 ?_
  refine J_aload_n C dL_law_759 rfl rfl ?_
  refine J_invSX (rm := rmL_land) C rfl (As := [.ref (w.2.1 12 0), .int (xs (i + 1)), .ref (w.2.1 13 9)]) rfl (goodSX q5_66 q5_67 q1_0 q5_68) mdL_land rfl rfl ⟨by decide +kernel, by decide +kernel⟩ rfl ⟨by show kc + 2 ≤ 601024; omega, by show ks + 12 ≤ 7293033; omega⟩ (Nat.le_of_ble_eq_true rfl) dL_law_760 ?_
  refine pc_land hW hR hb9 (fun τ hτ => ?_)
  dsimp only [Option.toList_some, Option.toList_none, List.cons_append, List.nil_append]
  refine J_istore C dL_law_763 (Nat.le_of_ble_eq_true rfl) rfl ?_
  dsimp only [List.set]
  refine J_aload_n C dL_law_765 rfl rfl ?_
  refine J_arg1 C hX (k := 1) rfl rfl (by omega) hL dL_law_766 dL_law_767 dL_law_769 (by decide) dL_law_770 dL_law_771 ?_
  refine iL_199 C hW.2.1 rfl ⟨by decide +kernel, by decide +kernel⟩ ⟨by show kc + 2 + 0 ≤ 601024; omega, by show ks + 12 + 0 ≤ 7293033; omega⟩ (Nat.le_of_ble_eq_true rfl) dL_law_772 ?_
  refine pr_land hW hR hb9 hτ (fun bb τ2 hP => ?_)
  dsimp only [Option.toList_some, Option.toList_none, List.cons_append, List.nil_append]
  refine J_widen (k := kc + 7) (n := ks + 42) (by omega) (by omega) ?_
  exact tail_I C hW.2.1 rfl rfl hP ⟨by decide +kernel, by decide +kernel⟩ ⟨by show kc + 7 + 0 ≤ 601024; omega, by show ks + 42 + 0 ≤ 7293033; omega⟩ dL_law_775 dL_law_777 dL_law_778 dL_law_781 dL_law_783 dL_law_788 dL_law_790 dL_law_793 dL_law_794 dL_law_795 dL_law_796 dL_law_798 dL_law_799 dL_law_800 dL_law_805 rfl (fun _ _ => hk _ _ _)
theorem mdL_passHours : yL_passHours.cls ≠ "java/lang/invoke/MethodHandle" ∧ yL_passHours.cls ≠ "java/lang/invoke/VarHandle" ∧ (parseMethodDescriptor yL_passHours.desc).map (fun d => d.parameters.length) = some 3 := by decide +kernel
set_option maxHeartbeats 4000000 in
set_option maxRecDepth 100000 in
theorem lc_808 {G : GC} {E : Ctx} {w : Lay} {kc ks hm f u b L i : Nat} {xs : Nat → Int32} {σ : Mem} (C : Cx G E cL_law RL 9 room_1) (hX : LawX G E b L xs) (hi : i + 7 ≤ L) (hL : L ≤ 3584) (hW : LAY w) (hR : REL hm σ f u) (hb9 : hm ≤ 800000) (hkc : kc ≤ 10000) (hks : ks ≤ 100000) (hk : ∀ τ f2 u2, REL (hm + 960) τ f2 u2 → J G E w (kc + 7) (ks + 42) 3399 [some (.ref b), some (.ref (w.2.1 12 0)), some (.ref (w.2.1 13 0)), some (.ref (w.2.1 13 9)), some (.int (nI i)), none, none, none, none] [] τ) : J G E w kc ks 808 [some (.ref b), some (.ref (w.2.1 12 0)), some (.ref (w.2.1 13 0)), some (.ref (w.2.1 13 9)), some (.int (nI i)), none, none, none, none] [] σ := by
  refine J_aload_n C dL_law_808 rfl rfl ?_
  refine J_arg1 C hX (k := 1) rfl rfl (by omega) hL dL_law_809 dL_law_810 dL_law_812 (by decide) dL_law_813 dL_law_814 ?_
  refine J_aload_n C dL_law_815 rfl rfl ?_
  refine J_invSX (rm := rmL_passHours) C rfl (As := [.ref (w.2.1 12 0), .int (xs (i + 1)), .ref (w.2.1 13 9)]) rfl (goodSX q5_78 q5_79 q1_0 q5_80) mdL_passHours rfl rfl ⟨by decide +kernel, by decide +kernel⟩ rfl ⟨by show kc + 1 ≤ 601024; omega, by show ks + 6 ≤ 7293033; omega⟩ (Nat.le_of_ble_eq_true rfl) dL_law_816 ?_
  refine pc_passHours hW hR hb9 (fun τ hτ => ?_)
  dsimp only [Option.toList_some, Option.toList_none, List.cons_append, List.nil_append]
  refine J_istore C dL_law_819 (Nat.le_of_ble_eq_true rfl) rfl ?_
  dsimp only [List.set]
  refine J_aload_n C dL_law_821 rfl rfl ?_
  refine J_arg1 C hX (k := 1) rfl rfl (by omega) hL dL_law_822 dL_law_823 dL_law_825 (by decide) dL_law_826 dL_law_827 ?_
  refine iL_202 C hW.2.1 rfl ⟨by decide +kernel, by decide +kernel⟩ ⟨by show kc + 1 + 0 ≤ 601024; omega, by show ks + 6 + 0 ≤ 7293033; omega⟩ (Nat.le_of_ble_eq_true rfl) dL_law_828 ?_
  refine pr_passHours hW hR hb9 hτ (fun bb τ2 hP => ?_)
  dsimp only [Option.toList_some, Option.toList_none, List.cons_append, List.nil_append]
  refine J_widen (k := kc + 7) (n := ks + 42) (by omega) (by omega) ?_
  exact tail_I C hW.2.1 rfl rfl hP ⟨by decide +kernel, by decide +kernel⟩ ⟨by show kc + 7 + 0 ≤ 601024; omega, by show ks + 42 + 0 ≤ 7293033; omega⟩ dL_law_831 dL_law_833 dL_law_834 dL_law_837 dL_law_839 dL_law_844 dL_law_846 dL_law_849 dL_law_850 dL_law_851 dL_law_852 dL_law_854 dL_law_855 dL_law_856 dL_law_861 rfl (fun _ _ => hk _ _ _)
theorem mdL_permit : yL_permit.cls ≠ "java/lang/invoke/MethodHandle" ∧ yL_permit.cls ≠ "java/lang/invoke/VarHandle" ∧ (parseMethodDescriptor yL_permit.desc).map (fun d => d.parameters.length) = some 5 := by decide +kernel
set_option maxHeartbeats 4000000 in
set_option maxRecDepth 100000 in
theorem lc_864 {G : GC} {E : Ctx} {w : Lay} {kc ks hm f u b L i : Nat} {xs : Nat → Int32} {σ : Mem} (C : Cx G E cL_law RL 9 room_1) (hX : LawX G E b L xs) (hi : i + 7 ≤ L) (hL : L ≤ 3584) (hW : LAY w) (hR : REL hm σ f u) (hb9 : hm ≤ 800000) (hkc : kc ≤ 10000) (hks : ks ≤ 100000) (hk : ∀ τ f2 u2, REL (hm + 960) τ f2 u2 → J G E w (kc + 7) (ks + 42) 3399 [some (.ref b), some (.ref (w.2.1 12 0)), some (.ref (w.2.1 13 0)), some (.ref (w.2.1 13 9)), some (.int (nI i)), none, none, none, none] [] τ) : J G E w kc ks 864 [some (.ref b), some (.ref (w.2.1 12 0)), some (.ref (w.2.1 13 0)), some (.ref (w.2.1 13 9)), some (.int (nI i)), none, none, none, none] [] σ := by
  refine J_aload_n C dL_law_864 rfl rfl ?_
  refine J_arg1 C hX (k := 1) rfl rfl (by omega) hL dL_law_865 dL_law_866 dL_law_868 (by decide) dL_law_869 dL_law_870 ?_
  refine J_arg1 C hX (k := 2) rfl rfl (by omega) hL dL_law_871 dL_law_872 dL_law_874 (by decide) dL_law_875 dL_law_876 ?_
  refine J_arg1 C hX (k := 3) rfl rfl (by omega) hL dL_law_877 dL_law_878 dL_law_880 (by decide) dL_law_881 dL_law_882 ?_
  refine J_aload_n C dL_law_883 rfl rfl ?_
  refine J_invSX (rm := rmL_permit) C rfl (As := [.ref (w.2.1 12 0), .int (xs (i + 1)), .int (xs (i + 2)), .int (xs (i + 3)), .ref (w.2.1 13 9)]) rfl (goodSX q5_85 q5_86 q1_0 q5_87) mdL_permit rfl rfl ⟨by decide +kernel, by decide +kernel⟩ rfl ⟨by show kc + 4 ≤ 601024; omega, by show ks + 24 ≤ 7293033; omega⟩ (Nat.le_of_ble_eq_true rfl) dL_law_884 ?_
  refine pc_permit hW hR hb9 (fun τ hτ => ?_)
  dsimp only [Option.toList_some, Option.toList_none, List.cons_append, List.nil_append]
  refine J_istore C dL_law_887 (Nat.le_of_ble_eq_true rfl) rfl ?_
  dsimp only [List.set]
  refine J_aload_n C dL_law_889 rfl rfl ?_
  refine J_arg1 C hX (k := 1) rfl rfl (by omega) hL dL_law_890 dL_law_891 dL_law_893 (by decide) dL_law_894 dL_law_895 ?_
  refine J_arg1 C hX (k := 2) rfl rfl (by omega) hL dL_law_896 dL_law_897 dL_law_899 (by decide) dL_law_900 dL_law_901 ?_
  refine J_arg1 C hX (k := 3) rfl rfl (by omega) hL dL_law_902 dL_law_903 dL_law_905 (by decide) dL_law_906 dL_law_907 ?_
  refine iL_206 C hW.2.1 rfl ⟨by decide +kernel, by decide +kernel⟩ ⟨by show kc + 4 + 0 ≤ 601024; omega, by show ks + 24 + 0 ≤ 7293033; omega⟩ (Nat.le_of_ble_eq_true rfl) dL_law_908 ?_
  refine pr_permit hW hR hb9 hτ (fun bb τ2 hP => ?_)
  dsimp only [Option.toList_some, Option.toList_none, List.cons_append, List.nil_append]
  refine J_widen (k := kc + 7) (n := ks + 42) (by omega) (by omega) ?_
  exact tail_I C hW.2.1 rfl rfl hP ⟨by decide +kernel, by decide +kernel⟩ ⟨by show kc + 7 + 0 ≤ 601024; omega, by show ks + 42 + 0 ≤ 7293033; omega⟩ dL_law_911 dL_law_913 dL_law_914 dL_law_917 dL_law_919 dL_law_924 dL_law_926 dL_law_929 dL_law_930 dL_law_931 dL_law_932 dL_law_934 dL_law_935 dL_law_936 dL_law_941 rfl (fun _ _ => hk _ _ _)
theorem mdL_cancelPermits : yL_cancelPermits.cls ≠ "java/lang/invoke/MethodHandle" ∧ yL_cancelPermits.cls ≠ "java/lang/invoke/VarHandle" ∧ (parseMethodDescriptor yL_cancelPermits.desc).map (fun d => d.parameters.length) = some 3 := by decide +kernel
set_option maxHeartbeats 4000000 in
set_option maxRecDepth 100000 in
theorem lc_944 {G : GC} {E : Ctx} {w : Lay} {kc ks hm f u b L i : Nat} {xs : Nat → Int32} {σ : Mem} (C : Cx G E cL_law RL 9 room_1) (hX : LawX G E b L xs) (hi : i + 7 ≤ L) (hL : L ≤ 3584) (hW : LAY w) (hR : REL hm σ f u) (hb9 : hm ≤ 800000) (hkc : kc ≤ 10000) (hks : ks ≤ 100000) (hk : ∀ τ f2 u2, REL (hm + 960) τ f2 u2 → J G E w (kc + 7) (ks + 42) 3399 [some (.ref b), some (.ref (w.2.1 12 0)), some (.ref (w.2.1 13 0)), some (.ref (w.2.1 13 9)), some (.int (nI i)), none, none, none, none] [] τ) : J G E w kc ks 944 [some (.ref b), some (.ref (w.2.1 12 0)), some (.ref (w.2.1 13 0)), some (.ref (w.2.1 13 9)), some (.int (nI i)), none, none, none, none] [] σ := by
  refine J_aload_n C dL_law_944 rfl rfl ?_
  refine J_arg1 C hX (k := 1) rfl rfl (by omega) hL dL_law_945 dL_law_946 dL_law_948 (by decide) dL_law_949 dL_law_950 ?_
  refine J_aload_n C dL_law_951 rfl rfl ?_
  refine J_invSX (rm := rmL_cancelPermits) C rfl (As := [.ref (w.2.1 12 0), .int (xs (i + 1)), .ref (w.2.1 13 9)]) rfl (goodSX q5_102 q5_103 q1_0 q5_104) mdL_cancelPermits rfl rfl ⟨by decide +kernel, by decide +kernel⟩ rfl ⟨by show kc + 1 ≤ 601024; omega, by show ks + 6 ≤ 7293033; omega⟩ (Nat.le_of_ble_eq_true rfl) dL_law_952 ?_
  refine pc_cancelPermits hW hR hb9 (fun τ hτ => ?_)
  dsimp only [Option.toList_some, Option.toList_none, List.cons_append, List.nil_append]
  refine J_istore C dL_law_955 (Nat.le_of_ble_eq_true rfl) rfl ?_
  dsimp only [List.set]
  refine J_aload_n C dL_law_957 rfl rfl ?_
  refine J_arg1 C hX (k := 1) rfl rfl (by omega) hL dL_law_958 dL_law_959 dL_law_961 (by decide) dL_law_962 dL_law_963 ?_
  refine iL_209 C hW.2.1 rfl ⟨by decide +kernel, by decide +kernel⟩ ⟨by show kc + 1 + 0 ≤ 601024; omega, by show ks + 6 + 0 ≤ 7293033; omega⟩ (Nat.le_of_ble_eq_true rfl) dL_law_964 ?_
  refine pr_cancelPermits hW hR hb9 hτ (fun bb τ2 hP => ?_)
  dsimp only [Option.toList_some, Option.toList_none, List.cons_append, List.nil_append]
  refine J_widen (k := kc + 7) (n := ks + 42) (by omega) (by omega) ?_
  exact tail_I C hW.2.1 rfl rfl hP ⟨by decide +kernel, by decide +kernel⟩ ⟨by show kc + 7 + 0 ≤ 601024; omega, by show ks + 42 + 0 ≤ 7293033; omega⟩ dL_law_967 dL_law_969 dL_law_970 dL_law_973 dL_law_975 dL_law_980 dL_law_982 dL_law_985 dL_law_986 dL_law_987 dL_law_988 dL_law_990 dL_law_991 dL_law_992 dL_law_997 rfl (fun _ _ => hk _ _ _)
theorem mdL_tieKnots : yL_tieKnots.cls ≠ "java/lang/invoke/MethodHandle" ∧ yL_tieKnots.cls ≠ "java/lang/invoke/VarHandle" ∧ (parseMethodDescriptor yL_tieKnots.desc).map (fun d => d.parameters.length) = some 4 := by decide +kernel
set_option maxHeartbeats 4000000 in
set_option maxRecDepth 100000 in
theorem lc_1000 {G : GC} {E : Ctx} {w : Lay} {kc ks hm f u b L i : Nat} {xs : Nat → Int32} {σ : Mem} (C : Cx G E cL_law RL 9 room_1) (hX : LawX G E b L xs) (hi : i + 7 ≤ L) (hL : L ≤ 3584) (hW : LAY w) (hR : REL hm σ f u) (hb9 : hm ≤ 800000) (hkc : kc ≤ 10000) (hks : ks ≤ 100000) (hk : ∀ τ f2 u2, REL (hm + 960) τ f2 u2 → J G E w (kc + 7) (ks + 42) 3399 [some (.ref b), some (.ref (w.2.1 12 0)), some (.ref (w.2.1 13 0)), some (.ref (w.2.1 13 9)), some (.int (nI i)), none, none, none, none] [] τ) : J G E w kc ks 1000 [some (.ref b), some (.ref (w.2.1 12 0)), some (.ref (w.2.1 13 0)), some (.ref (w.2.1 13 9)), some (.int (nI i)), none, none, none, none] [] σ := by
  refine J_aload_n C dL_law_1000 rfl rfl ?_
  refine J_arg1 C hX (k := 1) rfl rfl (by omega) hL dL_law_1001 dL_law_1002 dL_law_1004 (by decide) dL_law_1005 dL_law_1006 ?_
  refine J_arg1 C hX (k := 2) rfl rfl (by omega) hL dL_law_1007 dL_law_1008 dL_law_1010 (by decide) dL_law_1011 dL_law_1012 ?_
  refine J_aload_n C dL_law_1013 rfl rfl ?_
  refine J_invSX (rm := rmL_tieKnots) C rfl (As := [.ref (w.2.1 12 0), .int (xs (i + 1)), .int (xs (i + 2)), .ref (w.2.1 13 9)]) rfl (goodSX q5_109 q5_110 q1_0 q5_111) mdL_tieKnots rfl rfl ⟨by decide +kernel, by decide +kernel⟩ rfl ⟨by show kc + 3 ≤ 601024; omega, by show ks + 18 ≤ 7293033; omega⟩ (Nat.le_of_ble_eq_true rfl) dL_law_1014 ?_
  refine pc_tieKnots hW hR hb9 (fun τ hτ => ?_)
  dsimp only [Option.toList_some, Option.toList_none, List.cons_append, List.nil_append]
  refine J_istore C dL_law_1017 (Nat.le_of_ble_eq_true rfl) rfl ?_
  dsimp only [List.set]
  refine J_aload_n C dL_law_1019 rfl rfl ?_
  refine J_arg1 C hX (k := 1) rfl rfl (by omega) hL dL_law_1020 dL_law_1021 dL_law_1023 (by decide) dL_law_1024 dL_law_1025 ?_
  refine J_arg1 C hX (k := 2) rfl rfl (by omega) hL dL_law_1026 dL_law_1027 dL_law_1029 (by decide) dL_law_1030 dL_law_1031 ?_
  refine iL_213 C hW.2.1 rfl ⟨by decide +kernel, by decide +kernel⟩ ⟨by show kc + 3 + 0 ≤ 601024; omega, by show ks + 18 + 0 ≤ 7293033; omega⟩ (Nat.le_of_ble_eq_true rfl) dL_law_1032 ?_
  refine pr_tieKnots hW hR hb9 hτ (fun bb τ2 hP => ?_)
  dsimp only [Option.toList_some, Option.toList_none, List.cons_append, List.nil_append]
  refine J_widen (k := kc + 7) (n := ks + 42) (by omega) (by omega) ?_
  exact tail_I C hW.2.1 rfl rfl hP ⟨by decide +kernel, by decide +kernel⟩ ⟨by show kc + 7 + 0 ≤ 601024; omega, by show ks + 42 + 0 ≤ 7293033; omega⟩ dL_law_1035 dL_law_1037 dL_law_1038 dL_law_1041 dL_law_1043 dL_law_1048 dL_law_1050 dL_law_1053 dL_law_1054 dL_law_1055 dL_law_1056 dL_law_1058 dL_law_1059 dL_law_1060 dL_law_1065 rfl (fun _ _ => hk _ _ _)
theorem mdL_repair : yL_repair.cls ≠ "java/lang/invoke/MethodHandle" ∧ yL_repair.cls ≠ "java/lang/invoke/VarHandle" ∧ (parseMethodDescriptor yL_repair.desc).map (fun d => d.parameters.length) = some 3 := by decide +kernel
set_option maxHeartbeats 4000000 in
set_option maxRecDepth 100000 in
theorem lc_1068 {G : GC} {E : Ctx} {w : Lay} {kc ks hm f u b L i : Nat} {xs : Nat → Int32} {σ : Mem} (C : Cx G E cL_law RL 9 room_1) (hX : LawX G E b L xs) (hi : i + 7 ≤ L) (hL : L ≤ 3584) (hW : LAY w) (hR : REL hm σ f u) (hb9 : hm ≤ 800000) (hkc : kc ≤ 10000) (hks : ks ≤ 100000) (hk : ∀ τ f2 u2, REL (hm + 960) τ f2 u2 → J G E w (kc + 7) (ks + 42) 3399 [some (.ref b), some (.ref (w.2.1 12 0)), some (.ref (w.2.1 13 0)), some (.ref (w.2.1 13 9)), some (.int (nI i)), none, none, none, none] [] τ) : J G E w kc ks 1068 [some (.ref b), some (.ref (w.2.1 12 0)), some (.ref (w.2.1 13 0)), some (.ref (w.2.1 13 9)), some (.int (nI i)), none, none, none, none] [] σ := by
  refine J_aload_n C dL_law_1068 rfl rfl ?_
  refine J_arg1 C hX (k := 1) rfl rfl (by omega) hL dL_law_1069 dL_law_1070 dL_law_1072 (by decide) dL_law_1073 dL_law_1074 ?_
  refine J_aload_n C dL_law_1075 rfl rfl ?_
  refine J_invSX (rm := rmL_repair) C rfl (As := [.ref (w.2.1 12 0), .int (xs (i + 1)), .ref (w.2.1 13 9)]) rfl (goodSX q5_116 q5_117 q1_0 q5_118) mdL_repair rfl rfl ⟨by decide +kernel, by decide +kernel⟩ rfl ⟨by show kc + 2 ≤ 601024; omega, by show ks + 12 ≤ 7293033; omega⟩ (Nat.le_of_ble_eq_true rfl) dL_law_1076 ?_
  refine pc_repair hW hR hb9 (fun τ hτ => ?_)
  dsimp only [Option.toList_some, Option.toList_none, List.cons_append, List.nil_append]
  refine J_istore C dL_law_1079 (Nat.le_of_ble_eq_true rfl) rfl ?_
  dsimp only [List.set]
  refine J_aload_n C dL_law_1081 rfl rfl ?_
  refine J_arg1 C hX (k := 1) rfl rfl (by omega) hL dL_law_1082 dL_law_1083 dL_law_1085 (by decide) dL_law_1086 dL_law_1087 ?_
  refine iL_216 C hW.2.1 rfl ⟨by decide +kernel, by decide +kernel⟩ ⟨by show kc + 2 + 0 ≤ 601024; omega, by show ks + 12 + 0 ≤ 7293033; omega⟩ (Nat.le_of_ble_eq_true rfl) dL_law_1088 ?_
  refine pr_repair hW hR hb9 hτ (fun bb τ2 hP => ?_)
  dsimp only [Option.toList_some, Option.toList_none, List.cons_append, List.nil_append]
  refine J_widen (k := kc + 7) (n := ks + 42) (by omega) (by omega) ?_
  exact tail_I C hW.2.1 rfl rfl hP ⟨by decide +kernel, by decide +kernel⟩ ⟨by show kc + 7 + 0 ≤ 601024; omega, by show ks + 42 + 0 ≤ 7293033; omega⟩ dL_law_1091 dL_law_1093 dL_law_1094 dL_law_1097 dL_law_1099 dL_law_1104 dL_law_1106 dL_law_1109 dL_law_1110 dL_law_1111 dL_law_1112 dL_law_1114 dL_law_1115 dL_law_1116 dL_law_1121 rfl (fun _ _ => hk _ _ _)
theorem mdL_fund : yL_fund.cls ≠ "java/lang/invoke/MethodHandle" ∧ yL_fund.cls ≠ "java/lang/invoke/VarHandle" ∧ (parseMethodDescriptor yL_fund.desc).map (fun d => d.parameters.length) = some 4 := by decide +kernel
set_option maxHeartbeats 4000000 in
set_option maxRecDepth 100000 in
theorem lc_1124 {G : GC} {E : Ctx} {w : Lay} {kc ks hm f u b L i : Nat} {xs : Nat → Int32} {σ : Mem} (C : Cx G E cL_law RL 9 room_1) (hX : LawX G E b L xs) (hi : i + 7 ≤ L) (hL : L ≤ 3584) (hW : LAY w) (hR : REL hm σ f u) (hb9 : hm ≤ 800000) (hkc : kc ≤ 10000) (hks : ks ≤ 100000) (hk : ∀ τ f2 u2, REL (hm + 960) τ f2 u2 → J G E w (kc + 7) (ks + 42) 3399 [some (.ref b), some (.ref (w.2.1 12 0)), some (.ref (w.2.1 13 0)), some (.ref (w.2.1 13 9)), some (.int (nI i)), none, none, none, none] [] τ) : J G E w kc ks 1124 [some (.ref b), some (.ref (w.2.1 12 0)), some (.ref (w.2.1 13 0)), some (.ref (w.2.1 13 9)), some (.int (nI i)), none, none, none, none] [] σ := by
  refine J_aload_n C dL_law_1124 rfl rfl ?_
  refine J_arg1 C hX (k := 1) rfl rfl (by omega) hL dL_law_1125 dL_law_1126 dL_law_1128 (by decide) dL_law_1129 dL_law_1130 ?_
  refine J_arg1 C hX (k := 2) rfl rfl (by omega) hL dL_law_1131 dL_law_1132 dL_law_1134 (by decide) dL_law_1135 dL_law_1136 ?_
  refine J_aload_n C dL_law_1137 rfl rfl ?_
  refine J_invSX (rm := rmL_fund) C rfl (As := [.ref (w.2.1 12 0), .int (xs (i + 1)), .int (xs (i + 2)), .ref (w.2.1 13 9)]) rfl (goodSX q5_125 q5_126 q1_0 q5_127) mdL_fund rfl rfl ⟨by decide +kernel, by decide +kernel⟩ rfl ⟨by show kc + 2 ≤ 601024; omega, by show ks + 12 ≤ 7293033; omega⟩ (Nat.le_of_ble_eq_true rfl) dL_law_1138 ?_
  refine pc_fund hW hR hb9 (fun τ hτ => ?_)
  dsimp only [Option.toList_some, Option.toList_none, List.cons_append, List.nil_append]
  refine J_istore C dL_law_1141 (Nat.le_of_ble_eq_true rfl) rfl ?_
  dsimp only [List.set]
  refine J_aload_n C dL_law_1143 rfl rfl ?_
  refine J_arg1 C hX (k := 1) rfl rfl (by omega) hL dL_law_1144 dL_law_1145 dL_law_1147 (by decide) dL_law_1148 dL_law_1149 ?_
  refine J_arg1 C hX (k := 2) rfl rfl (by omega) hL dL_law_1150 dL_law_1151 dL_law_1153 (by decide) dL_law_1154 dL_law_1155 ?_
  refine iL_219 C hW.2.1 rfl ⟨by decide +kernel, by decide +kernel⟩ ⟨by show kc + 2 + 0 ≤ 601024; omega, by show ks + 12 + 0 ≤ 7293033; omega⟩ (Nat.le_of_ble_eq_true rfl) dL_law_1156 ?_
  refine pr_fund hW hR hb9 hτ (fun bb τ2 hP => ?_)
  dsimp only [Option.toList_some, Option.toList_none, List.cons_append, List.nil_append]
  refine J_widen (k := kc + 7) (n := ks + 42) (by omega) (by omega) ?_
  exact tail_I C hW.2.1 rfl rfl hP ⟨by decide +kernel, by decide +kernel⟩ ⟨by show kc + 7 + 0 ≤ 601024; omega, by show ks + 42 + 0 ≤ 7293033; omega⟩ dL_law_1159 dL_law_1161 dL_law_1162 dL_law_1165 dL_law_1167 dL_law_1172 dL_law_1174 dL_law_1177 dL_law_1178 dL_law_1179 dL_law_1180 dL_law_1182 dL_law_1183 dL_law_1184 dL_law_1189 rfl (fun _ _ => hk _ _ _)
theorem mdL_undo : yL_undo.cls ≠ "java/lang/invoke/MethodHandle" ∧ yL_undo.cls ≠ "java/lang/invoke/VarHandle" ∧ (parseMethodDescriptor yL_undo.desc).map (fun d => d.parameters.length) = some 2 := by decide +kernel
set_option maxHeartbeats 4000000 in
set_option maxRecDepth 100000 in
theorem lc_1192 {G : GC} {E : Ctx} {w : Lay} {kc ks hm f u b L i : Nat} {xs : Nat → Int32} {σ : Mem} (C : Cx G E cL_law RL 9 room_1) (hX : LawX G E b L xs) (hi : i + 7 ≤ L) (hL : L ≤ 3584) (hW : LAY w) (hR : REL hm σ f u) (hb9 : hm ≤ 800000) (hkc : kc ≤ 10000) (hks : ks ≤ 100000) (hk : ∀ τ f2 u2, REL (hm + 960) τ f2 u2 → J G E w (kc + 7) (ks + 42) 3399 [some (.ref b), some (.ref (w.2.1 12 0)), some (.ref (w.2.1 13 0)), some (.ref (w.2.1 13 9)), some (.int (nI i)), none, none, none, none] [] τ) : J G E w kc ks 1192 [some (.ref b), some (.ref (w.2.1 12 0)), some (.ref (w.2.1 13 0)), some (.ref (w.2.1 13 9)), some (.int (nI i)), none, none, none, none] [] σ := by
  refine J_aload_n C dL_law_1192 rfl rfl ?_
  refine J_aload_n C dL_law_1193 rfl rfl ?_
  refine J_invSX (rm := rmL_undo) C rfl (As := [.ref (w.2.1 12 0), .ref (w.2.1 13 9)]) rfl (goodSX q5_132 q5_133 q1_0 q5_134) mdL_undo rfl rfl ⟨by decide +kernel, by decide +kernel⟩ rfl ⟨by show kc + 1 ≤ 601024; omega, by show ks + 6 ≤ 7293033; omega⟩ (Nat.le_of_ble_eq_true rfl) dL_law_1194 ?_
  refine pc_undo hW hR hb9 (fun τ hτ => ?_)
  dsimp only [Option.toList_some, Option.toList_none, List.cons_append, List.nil_append]
  refine J_istore C dL_law_1197 (Nat.le_of_ble_eq_true rfl) rfl ?_
  dsimp only [List.set]
  refine J_aload_n C dL_law_1199 rfl rfl ?_
  refine iL_222 C hW.2.1 rfl ⟨by decide +kernel, by decide +kernel⟩ ⟨by show kc + 1 + 0 ≤ 601024; omega, by show ks + 6 + 0 ≤ 7293033; omega⟩ (Nat.le_of_ble_eq_true rfl) dL_law_1200 ?_
  refine pr_undo hW hR hb9 hτ (fun bb τ2 hP => ?_)
  dsimp only [Option.toList_some, Option.toList_none, List.cons_append, List.nil_append]
  refine J_widen (k := kc + 7) (n := ks + 42) (by omega) (by omega) ?_
  exact tail_I C hW.2.1 rfl rfl hP ⟨by decide +kernel, by decide +kernel⟩ ⟨by show kc + 7 + 0 ≤ 601024; omega, by show ks + 42 + 0 ≤ 7293033; omega⟩ dL_law_1203 dL_law_1205 dL_law_1206 dL_law_1209 dL_law_1211 dL_law_1216 dL_law_1218 dL_law_1221 dL_law_1222 dL_law_1223 dL_law_1224 dL_law_1226 dL_law_1227 dL_law_1228 dL_law_1233 rfl (fun _ _ => hk _ _ _)
theorem mdL_saveSnapshot : yL_saveSnapshot.cls ≠ "java/lang/invoke/MethodHandle" ∧ yL_saveSnapshot.cls ≠ "java/lang/invoke/VarHandle" ∧ (parseMethodDescriptor yL_saveSnapshot.desc).map (fun d => d.parameters.length) = some 2 := by decide +kernel
set_option maxHeartbeats 4000000 in
set_option maxRecDepth 100000 in
theorem lc_1236 {G : GC} {E : Ctx} {w : Lay} {kc ks hm f u b L i : Nat} {xs : Nat → Int32} {σ : Mem} (C : Cx G E cL_law RL 9 room_1) (hX : LawX G E b L xs) (hi : i + 7 ≤ L) (hL : L ≤ 3584) (hW : LAY w) (hR : REL hm σ f u) (hb9 : hm ≤ 800000) (hkc : kc ≤ 10000) (hks : ks ≤ 100000) (hk : ∀ τ f2 u2, REL (hm + 960) τ f2 u2 → J G E w (kc + 7) (ks + 42) 3399 [some (.ref b), some (.ref (w.2.1 12 0)), some (.ref (w.2.1 13 0)), some (.ref (w.2.1 13 9)), some (.int (nI i)), none, none, none, none] [] τ) : J G E w kc ks 1236 [some (.ref b), some (.ref (w.2.1 12 0)), some (.ref (w.2.1 13 0)), some (.ref (w.2.1 13 9)), some (.int (nI i)), none, none, none, none] [] σ := by
  refine J_aload_n C dL_law_1236 rfl rfl ?_
  refine J_arg1 C hX (k := 1) rfl rfl (by omega) hL dL_law_1237 dL_law_1238 dL_law_1240 (by decide) dL_law_1241 dL_law_1242 ?_
  refine J_invSX (rm := rmL_saveSnapshot) C rfl (As := [.ref (w.2.1 12 0), .int (xs (i + 1))]) rfl (goodSX q5_160 q5_161 q1_0 q5_162) mdL_saveSnapshot rfl rfl ⟨by decide +kernel, by decide +kernel⟩ rfl ⟨by show kc + 1 ≤ 601024; omega, by show ks + 6 ≤ 7293033; omega⟩ (Nat.le_of_ble_eq_true rfl) dL_law_1243 ?_
  refine pc_saveSnapshot hW hR hb9 (fun τ hτ => ?_)
  dsimp only [Option.toList_some, Option.toList_none, List.cons_append, List.nil_append]
  refine J_istore C dL_law_1246 (Nat.le_of_ble_eq_true rfl) rfl ?_
  dsimp only [List.set]
  refine J_aload_n C dL_law_1248 rfl rfl ?_
  refine J_arg1 C hX (k := 1) rfl rfl (by omega) hL dL_law_1249 dL_law_1250 dL_law_1252 (by decide) dL_law_1253 dL_law_1254 ?_
  refine iL_226 C hW.2.1 rfl ⟨by decide +kernel, by decide +kernel⟩ ⟨by show kc + 1 + 0 ≤ 601024; omega, by show ks + 6 + 0 ≤ 7293033; omega⟩ (Nat.le_of_ble_eq_true rfl) dL_law_1255 ?_
  refine pr_saveSnapshot hW hR hb9 hτ (fun τ2 hP => ?_)
  dsimp only [Option.toList_some, Option.toList_none, List.cons_append, List.nil_append]
  obtain ⟨p1, f2, u2, p4⟩ := hP
  have hle : (aSS (xs (i + 1))).1 ≤ 3 := by
    rcases hτ with h | h
    · omega
    · exact h.1.2
  refine J_widen (k := kc + 7) (n := ks + 42) (by omega) (by omega) ?_
  refine J_aload_n C dL_law_1258 rfl rfl ?_
  refine iL_168 C hW.2.1 rfl ⟨by decide +kernel, by decide +kernel⟩ ⟨by show kc + 7 + 0 ≤ 601024; omega, by show ks + 42 + 0 ≤ 7293033; omega⟩ (Nat.le_of_ble_eq_true rfl) dL_law_1259 ?_
  refine c_X10_thrown hW.2.1 ?_
  dsimp only [Option.toList_some, Option.toList_none, List.cons_append, List.nil_append]
  refine J_iload C dL_law_1262 rfl ?_
  rw [p1]
  refine J_icmp_eq_n C (by omega) (by omega) (tgt := 1269) dL_law_1264 rfl (fun _ => ?_) (fun h => absurd rfl h)
  refine J_goto (tgt := 3399) C dL_law_1269 rfl ?_
  exact J_less (ls' := [some (.ref b), some (.ref (w.2.1 12 0)), some (.ref (w.2.1 13 0)), some (.ref (w.2.1 13 9)), some (.int (nI i)), none, none, none, none]) ⟨Or.inr rfl, Or.inr rfl, Or.inr rfl, Or.inr rfl, Or.inr rfl, Or.inl rfl, Or.inl rfl, Or.inl rfl, Or.inl rfl, trivial⟩ (hk _ _ _ p4)
theorem mdL_restoreSnapshot : yL_restoreSnapshot.cls ≠ "java/lang/invoke/MethodHandle" ∧ yL_restoreSnapshot.cls ≠ "java/lang/invoke/VarHandle" ∧ (parseMethodDescriptor yL_restoreSnapshot.desc).map (fun d => d.parameters.length) = some 3 := by decide +kernel
set_option maxHeartbeats 4000000 in
set_option maxRecDepth 100000 in
theorem lc_1272 {G : GC} {E : Ctx} {w : Lay} {kc ks hm f u b L i : Nat} {xs : Nat → Int32} {σ : Mem} (C : Cx G E cL_law RL 9 room_1) (hX : LawX G E b L xs) (hi : i + 7 ≤ L) (hL : L ≤ 3584) (hW : LAY w) (hR : REL hm σ f u) (hb9 : hm ≤ 800000) (hkc : kc ≤ 10000) (hks : ks ≤ 100000) (hk : ∀ τ f2 u2, REL (hm + 960) τ f2 u2 → J G E w (kc + 7) (ks + 42) 3399 [some (.ref b), some (.ref (w.2.1 12 0)), some (.ref (w.2.1 13 0)), some (.ref (w.2.1 13 9)), some (.int (nI i)), none, none, none, none] [] τ) : J G E w kc ks 1272 [some (.ref b), some (.ref (w.2.1 12 0)), some (.ref (w.2.1 13 0)), some (.ref (w.2.1 13 9)), some (.int (nI i)), none, none, none, none] [] σ := by
  refine J_aload_n C dL_law_1272 rfl rfl ?_
  refine J_arg1 C hX (k := 1) rfl rfl (by omega) hL dL_law_1273 dL_law_1274 dL_law_1276 (by decide) dL_law_1277 dL_law_1278 ?_
  refine J_aload_n C dL_law_1279 rfl rfl ?_
  refine J_invSX (rm := rmL_restoreSnapshot) C rfl (As := [.ref (w.2.1 12 0), .int (xs (i + 1)), .ref (w.2.1 13 9)]) rfl (goodSX q5_167 q5_168 q1_0 q5_169) mdL_restoreSnapshot rfl rfl ⟨by decide +kernel, by decide +kernel⟩ rfl ⟨by show kc + 2 ≤ 601024; omega, by show ks + 12 ≤ 7293033; omega⟩ (Nat.le_of_ble_eq_true rfl) dL_law_1280 ?_
  refine pc_restoreSnapshot hW hR hb9 (fun τ hτ => ?_)
  dsimp only [Option.toList_some, Option.toList_none, List.cons_append, List.nil_append]
  refine J_istore C dL_law_1283 (Nat.le_of_ble_eq_true rfl) rfl ?_
  dsimp only [List.set]
  refine J_aload_n C dL_law_1285 rfl rfl ?_
  refine J_arg1 C hX (k := 1) rfl rfl (by omega) hL dL_law_1286 dL_law_1287 dL_law_1289 (by decide) dL_law_1290 dL_law_1291 ?_
  refine iL_229 C hW.2.1 rfl ⟨by decide +kernel, by decide +kernel⟩ ⟨by show kc + 2 + 0 ≤ 601024; omega, by show ks + 12 + 0 ≤ 7293033; omega⟩ (Nat.le_of_ble_eq_true rfl) dL_law_1292 ?_
  refine pr_restoreSnapshot hW hR hb9 hτ (fun bb τ2 hP => ?_)
  dsimp only [Option.toList_some, Option.toList_none, List.cons_append, List.nil_append]
  refine J_widen (k := kc + 7) (n := ks + 42) (by omega) (by omega) ?_
  exact tail_I C hW.2.1 rfl rfl hP ⟨by decide +kernel, by decide +kernel⟩ ⟨by show kc + 7 + 0 ≤ 601024; omega, by show ks + 42 + 0 ≤ 7293033; omega⟩ dL_law_1295 dL_law_1297 dL_law_1298 dL_law_1301 dL_law_1303 dL_law_1308 dL_law_1310 dL_law_1313 dL_law_1314 dL_law_1315 dL_law_1316 dL_law_1318 dL_law_1319 dL_law_1320 dL_law_1325 rfl (fun _ _ => hk _ _ _)
set_option maxHeartbeats 4000000 in
set_option maxRecDepth 100000 in
theorem lc_1328 {G : GC} {E : Ctx} {w : Lay} {kc ks hm f u b L i : Nat} {xs : Nat → Int32} {σ : Mem} (C : Cx G E cL_law RL 9 room_1) (hX : LawX G E b L xs) (hi : i + 7 ≤ L) (hL : L ≤ 3584) (hW : LAY w) (hR : REL hm σ f u) (hb9 : hm ≤ 800000) (hkc : kc ≤ 10000) (hks : ks ≤ 100000) (hk : ∀ τ f2 u2, REL (hm + 960) τ f2 u2 → J G E w (kc + 7) (ks + 42) 3399 [some (.ref b), some (.ref (w.2.1 12 0)), some (.ref (w.2.1 13 0)), some (.ref (w.2.1 13 9)), some (.int (nI i)), none, none, none, none] [] τ) : J G E w kc ks 1328 [some (.ref b), some (.ref (w.2.1 12 0)), some (.ref (w.2.1 13 0)), some (.ref (w.2.1 13 9)), some (.int (nI i)), none, none, none, none] [] σ := by
  refine J_aload_n C dL_law_1328 rfl rfl ?_
  refine iL_230 C hW.1 rfl ⟨by decide +kernel, by decide +kernel⟩ ⟨by show kc + 0 ≤ 601024; omega, by show ks + 0 ≤ 7293033; omega⟩ (Nat.le_of_ble_eq_true rfl) dL_law_1329 ?_
  refine c_X9_hour hW.1 (hW.2.2.1 0 (by decide)) hR.1.2.1 hR.1.1 ?_
  dsimp only [Option.toList_some, Option.toList_none, List.cons_append, List.nil_append]
  refine J_aload_n C dL_law_1332 rfl rfl ?_
  refine iL_233 C hW.2.1 rfl ⟨by decide +kernel, by decide +kernel⟩ ⟨by show kc + 0 + 0 ≤ 601024; omega, by show ks + 0 + 0 ≤ 7293033; omega⟩ (Nat.le_of_ble_eq_true rfl) dL_law_1333 ?_
  refine c_X10_hour hW.2.1 ?_
  dsimp only [Option.toList_some, Option.toList_none, List.cons_append, List.nil_append]
  refine J_widen (k := kc + 7) (n := ks + 42) (by omega) (by omega) ?_
  exact J_icmp_eq C (tgt := 3399) dL_law_1336 rfl (fun _ => hk _ _ _ (REL_thr hR (by omega))) (fun h => absurd rfl h)
set_option maxHeartbeats 4000000 in
set_option maxRecDepth 100000 in
theorem lc_1341 {G : GC} {E : Ctx} {w : Lay} {kc ks hm f u b L i : Nat} {xs : Nat → Int32} {σ : Mem} (C : Cx G E cL_law RL 9 room_1) (hX : LawX G E b L xs) (hi : i + 7 ≤ L) (hL : L ≤ 3584) (hW : LAY w) (hR : REL hm σ f u) (hb9 : hm ≤ 800000) (hkc : kc ≤ 10000) (hks : ks ≤ 100000) (hk : ∀ τ f2 u2, REL (hm + 960) τ f2 u2 → J G E w (kc + 7) (ks + 42) 3399 [some (.ref b), some (.ref (w.2.1 12 0)), some (.ref (w.2.1 13 0)), some (.ref (w.2.1 13 9)), some (.int (nI i)), none, none, none, none] [] τ) : J G E w kc ks 1341 [some (.ref b), some (.ref (w.2.1 12 0)), some (.ref (w.2.1 13 0)), some (.ref (w.2.1 13 9)), some (.int (nI i)), none, none, none, none] [] σ := by
  refine J_aload_n C dL_law_1341 rfl rfl ?_
  refine iL_234 C hW.1 rfl ⟨by decide +kernel, by decide +kernel⟩ ⟨by show kc + 0 ≤ 601024; omega, by show ks + 0 ≤ 7293033; omega⟩ (Nat.le_of_ble_eq_true rfl) dL_law_1342 ?_
  refine c_X9_width hW.1 (hW.2.2.1 0 (by decide)) hR.1.2.1 hR.1.1 ?_
  dsimp only [Option.toList_some, Option.toList_none, List.cons_append, List.nil_append]
  refine J_aload_n C dL_law_1345 rfl rfl ?_
  refine iL_237 C hW.2.1 rfl ⟨by decide +kernel, by decide +kernel⟩ ⟨by show kc + 0 + 0 ≤ 601024; omega, by show ks + 0 + 0 ≤ 7293033; omega⟩ (Nat.le_of_ble_eq_true rfl) dL_law_1346 ?_
  refine c_X10_width hW.2.1 ?_
  dsimp only [Option.toList_some, Option.toList_none, List.cons_append, List.nil_append]
  refine J_widen (k := kc + 7) (n := ks + 42) (by omega) (by omega) ?_
  exact J_icmp_eq C (tgt := 3399) dL_law_1349 rfl (fun _ => hk _ _ _ (REL_thr hR (by omega))) (fun h => absurd rfl h)
set_option maxHeartbeats 4000000 in
set_option maxRecDepth 100000 in
theorem lc_1354 {G : GC} {E : Ctx} {w : Lay} {kc ks hm f u b L i : Nat} {xs : Nat → Int32} {σ : Mem} (C : Cx G E cL_law RL 9 room_1) (hX : LawX G E b L xs) (hi : i + 7 ≤ L) (hL : L ≤ 3584) (hW : LAY w) (hR : REL hm σ f u) (hb9 : hm ≤ 800000) (hkc : kc ≤ 10000) (hks : ks ≤ 100000) (hk : ∀ τ f2 u2, REL (hm + 960) τ f2 u2 → J G E w (kc + 7) (ks + 42) 3399 [some (.ref b), some (.ref (w.2.1 12 0)), some (.ref (w.2.1 13 0)), some (.ref (w.2.1 13 9)), some (.int (nI i)), none, none, none, none] [] τ) : J G E w kc ks 1354 [some (.ref b), some (.ref (w.2.1 12 0)), some (.ref (w.2.1 13 0)), some (.ref (w.2.1 13 9)), some (.int (nI i)), none, none, none, none] [] σ := by
  refine J_aload_n C dL_law_1354 rfl rfl ?_
  refine iL_238 C hW.1 rfl ⟨by decide +kernel, by decide +kernel⟩ ⟨by show kc + 0 ≤ 601024; omega, by show ks + 0 ≤ 7293033; omega⟩ (Nat.le_of_ble_eq_true rfl) dL_law_1355 ?_
  refine c_X9_height hW.1 (hW.2.2.1 0 (by decide)) hR.1.2.1 hR.1.1 ?_
  dsimp only [Option.toList_some, Option.toList_none, List.cons_append, List.nil_append]
  refine J_aload_n C dL_law_1358 rfl rfl ?_
  refine iL_241 C hW.2.1 rfl ⟨by decide +kernel, by decide +kernel⟩ ⟨by show kc + 0 + 0 ≤ 601024; omega, by show ks + 0 + 0 ≤ 7293033; omega⟩ (Nat.le_of_ble_eq_true rfl) dL_law_1359 ?_
  refine c_X10_height hW.2.1 ?_
  dsimp only [Option.toList_some, Option.toList_none, List.cons_append, List.nil_append]
  refine J_widen (k := kc + 7) (n := ks + 42) (by omega) (by omega) ?_
  exact J_icmp_eq C (tgt := 3399) dL_law_1362 rfl (fun _ => hk _ _ _ (REL_thr hR (by omega))) (fun h => absurd rfl h)
set_option maxHeartbeats 4000000 in
set_option maxRecDepth 100000 in
theorem lc_1367 {G : GC} {E : Ctx} {w : Lay} {kc ks hm f u b L i : Nat} {xs : Nat → Int32} {σ : Mem} (C : Cx G E cL_law RL 9 room_1) (hX : LawX G E b L xs) (hi : i + 7 ≤ L) (hL : L ≤ 3584) (hW : LAY w) (hR : REL hm σ f u) (hb9 : hm ≤ 800000) (hkc : kc ≤ 10000) (hks : ks ≤ 100000) (hk : ∀ τ f2 u2, REL (hm + 960) τ f2 u2 → J G E w (kc + 7) (ks + 42) 3399 [some (.ref b), some (.ref (w.2.1 12 0)), some (.ref (w.2.1 13 0)), some (.ref (w.2.1 13 9)), some (.int (nI i)), none, none, none, none] [] τ) : J G E w kc ks 1367 [some (.ref b), some (.ref (w.2.1 12 0)), some (.ref (w.2.1 13 0)), some (.ref (w.2.1 13 9)), some (.int (nI i)), none, none, none, none] [] σ := by
  refine J_aload_n C dL_law_1367 rfl rfl ?_
  refine iL_242 C hW.1 rfl ⟨by decide +kernel, by decide +kernel⟩ ⟨by show kc + 0 ≤ 601024; omega, by show ks + 0 ≤ 7293033; omega⟩ (Nat.le_of_ble_eq_true rfl) dL_law_1368 ?_
  refine c_X9_fee hW.1 (hW.2.2.1 0 (by decide)) hR.1.2.1 hR.1.1 ?_
  dsimp only [Option.toList_some, Option.toList_none, List.cons_append, List.nil_append]
  refine J_aload_n C dL_law_1371 rfl rfl ?_
  refine iL_245 C hW.2.1 rfl ⟨by decide +kernel, by decide +kernel⟩ ⟨by show kc + 0 + 0 ≤ 601024; omega, by show ks + 0 + 0 ≤ 7293033; omega⟩ (Nat.le_of_ble_eq_true rfl) dL_law_1372 ?_
  refine c_X10_fee hW.2.1 ?_
  dsimp only [Option.toList_some, Option.toList_none, List.cons_append, List.nil_append]
  refine J_widen (k := kc + 7) (n := ks + 42) (by omega) (by omega) ?_
  exact J_icmp_eq C (tgt := 3399) dL_law_1375 rfl (fun _ => hk _ _ _ (REL_thr hR (by omega))) (fun h => absurd rfl h)
set_option maxHeartbeats 4000000 in
set_option maxRecDepth 100000 in
theorem lc_1380 {G : GC} {E : Ctx} {w : Lay} {kc ks hm f u b L i : Nat} {xs : Nat → Int32} {σ : Mem} (C : Cx G E cL_law RL 9 room_1) (hX : LawX G E b L xs) (hi : i + 7 ≤ L) (hL : L ≤ 3584) (hW : LAY w) (hR : REL hm σ f u) (hb9 : hm ≤ 800000) (hkc : kc ≤ 10000) (hks : ks ≤ 100000) (hk : ∀ τ f2 u2, REL (hm + 960) τ f2 u2 → J G E w (kc + 7) (ks + 42) 3399 [some (.ref b), some (.ref (w.2.1 12 0)), some (.ref (w.2.1 13 0)), some (.ref (w.2.1 13 9)), some (.int (nI i)), none, none, none, none] [] τ) : J G E w kc ks 1380 [some (.ref b), some (.ref (w.2.1 12 0)), some (.ref (w.2.1 13 0)), some (.ref (w.2.1 13 9)), some (.int (nI i)), none, none, none, none] [] σ := by
  refine J_aload_n C dL_law_1380 rfl rfl ?_
  refine iL_246 C hW.1 rfl ⟨by decide +kernel, by decide +kernel⟩ ⟨by show kc + 0 ≤ 601024; omega, by show ks + 0 ≤ 7293033; omega⟩ (Nat.le_of_ble_eq_true rfl) dL_law_1381 ?_
  refine c_X9_fine hW.1 (hW.2.2.1 0 (by decide)) hR.1.2.1 hR.1.1 ?_
  dsimp only [Option.toList_some, Option.toList_none, List.cons_append, List.nil_append]
  refine J_aload_n C dL_law_1384 rfl rfl ?_
  refine iL_249 C hW.2.1 rfl ⟨by decide +kernel, by decide +kernel⟩ ⟨by show kc + 0 + 0 ≤ 601024; omega, by show ks + 0 + 0 ≤ 7293033; omega⟩ (Nat.le_of_ble_eq_true rfl) dL_law_1385 ?_
  refine c_X10_fine hW.2.1 ?_
  dsimp only [Option.toList_some, Option.toList_none, List.cons_append, List.nil_append]
  refine J_widen (k := kc + 7) (n := ks + 42) (by omega) (by omega) ?_
  exact J_icmp_eq C (tgt := 3399) dL_law_1388 rfl (fun _ => hk _ _ _ (REL_thr hR (by omega))) (fun h => absurd rfl h)
set_option maxHeartbeats 4000000 in
set_option maxRecDepth 100000 in
theorem lc_1393 {G : GC} {E : Ctx} {w : Lay} {kc ks hm f u b L i : Nat} {xs : Nat → Int32} {σ : Mem} (C : Cx G E cL_law RL 9 room_1) (hX : LawX G E b L xs) (hi : i + 7 ≤ L) (hL : L ≤ 3584) (hW : LAY w) (hR : REL hm σ f u) (hb9 : hm ≤ 800000) (hkc : kc ≤ 10000) (hks : ks ≤ 100000) (hk : ∀ τ f2 u2, REL (hm + 960) τ f2 u2 → J G E w (kc + 7) (ks + 42) 3399 [some (.ref b), some (.ref (w.2.1 12 0)), some (.ref (w.2.1 13 0)), some (.ref (w.2.1 13 9)), some (.int (nI i)), none, none, none, none] [] τ) : J G E w kc ks 1393 [some (.ref b), some (.ref (w.2.1 12 0)), some (.ref (w.2.1 13 0)), some (.ref (w.2.1 13 9)), some (.int (nI i)), none, none, none, none] [] σ := by
  refine J_aload_n C dL_law_1393 rfl rfl ?_
  refine iL_250 C hW.1 rfl ⟨by decide +kernel, by decide +kernel⟩ ⟨by show kc + 0 ≤ 601024; omega, by show ks + 0 ≤ 7293033; omega⟩ (Nat.le_of_ble_eq_true rfl) dL_law_1394 ?_
  refine c_X9_zoneCount hW.1 (hW.2.2.1 0 (by decide)) hR.1.2.1 hR.1.1 ?_
  dsimp only [Option.toList_some, Option.toList_none, List.cons_append, List.nil_append]
  refine J_aload_n C dL_law_1397 rfl rfl ?_
  refine iL_253 C hW.2.1 rfl ⟨by decide +kernel, by decide +kernel⟩ ⟨by show kc + 0 + 0 ≤ 601024; omega, by show ks + 0 + 0 ≤ 7293033; omega⟩ (Nat.le_of_ble_eq_true rfl) dL_law_1398 ?_
  refine c_X10_zoneCount hW.2.1 ?_
  dsimp only [Option.toList_some, Option.toList_none, List.cons_append, List.nil_append]
  refine J_widen (k := kc + 7) (n := ks + 42) (by omega) (by omega) ?_
  exact J_icmp_eq C (tgt := 3399) dL_law_1401 rfl (fun _ => hk _ _ _ (REL_thr hR (by omega))) (fun h => absurd rfl h)
theorem mdL_windDirection : yL_windDirection.cls ≠ "java/lang/invoke/MethodHandle" ∧ yL_windDirection.cls ≠ "java/lang/invoke/VarHandle" ∧ (parseMethodDescriptor yL_windDirection.desc).map (fun d => d.parameters.length) = some 4 := by decide +kernel
set_option maxHeartbeats 4000000 in
set_option maxRecDepth 100000 in
theorem lc_1406 {G : GC} {E : Ctx} {w : Lay} {kc ks hm f u b L i : Nat} {xs : Nat → Int32} {σ : Mem} (C : Cx G E cL_law RL 9 room_1) (hX : LawX G E b L xs) (hi : i + 7 ≤ L) (hL : L ≤ 3584) (hW : LAY w) (hR : REL hm σ f u) (hb9 : hm ≤ 800000) (hkc : kc ≤ 10000) (hks : ks ≤ 100000) (hk : ∀ τ f2 u2, REL (hm + 960) τ f2 u2 → J G E w (kc + 7) (ks + 42) 3399 [some (.ref b), some (.ref (w.2.1 12 0)), some (.ref (w.2.1 13 0)), some (.ref (w.2.1 13 9)), some (.int (nI i)), none, none, none, none] [] τ) : J G E w kc ks 1406 [some (.ref b), some (.ref (w.2.1 12 0)), some (.ref (w.2.1 13 0)), some (.ref (w.2.1 13 9)), some (.int (nI i)), none, none, none, none] [] σ := by
  refine J_aload_n C dL_law_1406 rfl rfl ?_
  refine J_arg1 C hX (k := 1) rfl rfl (by omega) hL dL_law_1407 dL_law_1408 dL_law_1410 (by decide) dL_law_1411 dL_law_1412 ?_
  refine J_arg1 C hX (k := 2) rfl rfl (by omega) hL dL_law_1413 dL_law_1414 dL_law_1416 (by decide) dL_law_1417 dL_law_1418 ?_
  refine J_aload_n C dL_law_1419 rfl rfl ?_
  refine J_invSX (rm := rmL_windDirection) C rfl (As := [.ref (w.2.1 12 0), .int (xs (i + 1)), .int (xs (i + 2)), .ref (w.2.1 13 9)]) rfl (goodSX q5_175 q5_176 q1_0 q5_177) mdL_windDirection rfl rfl ⟨by decide +kernel, by decide +kernel⟩ rfl ⟨by show kc + 2 ≤ 601024; omega, by show ks + 12 ≤ 7293033; omega⟩ (Nat.le_of_ble_eq_true rfl) dL_law_1420 ?_
  refine pc_windDirection hW hR hb9 (fun τ hτ => ?_)
  dsimp only [Option.toList_some, Option.toList_none, List.cons_append, List.nil_append]
  refine J_istore C dL_law_1423 (Nat.le_of_ble_eq_true rfl) rfl ?_
  dsimp only [List.set]
  refine J_aload_n C dL_law_1425 rfl rfl ?_
  refine J_arg1 C hX (k := 1) rfl rfl (by omega) hL dL_law_1426 dL_law_1427 dL_law_1429 (by decide) dL_law_1430 dL_law_1431 ?_
  refine J_arg1 C hX (k := 2) rfl rfl (by omega) hL dL_law_1432 dL_law_1433 dL_law_1435 (by decide) dL_law_1436 dL_law_1437 ?_
  refine iL_256 C hW.2.1 rfl ⟨by decide +kernel, by decide +kernel⟩ ⟨by show kc + 2 + 0 ≤ 601024; omega, by show ks + 12 + 0 ≤ 7293033; omega⟩ (Nat.le_of_ble_eq_true rfl) dL_law_1438 ?_
  refine pr_windDirection hW hR hb9 hτ (fun bb τ2 hP => ?_)
  dsimp only [Option.toList_some, Option.toList_none, List.cons_append, List.nil_append]
  refine J_widen (k := kc + 7) (n := ks + 42) (by omega) (by omega) ?_
  exact tail_I C hW.2.1 rfl rfl hP ⟨by decide +kernel, by decide +kernel⟩ ⟨by show kc + 7 + 0 ≤ 601024; omega, by show ks + 42 + 0 ≤ 7293033; omega⟩ dL_law_1441 dL_law_1443 dL_law_1444 dL_law_1447 dL_law_1449 dL_law_1454 dL_law_1456 dL_law_1459 dL_law_1460 dL_law_1461 dL_law_1462 dL_law_1464 dL_law_1465 dL_law_1466 dL_law_1471 rfl (fun _ _ => hk _ _ _)
theorem mdL_windForce : yL_windForce.cls ≠ "java/lang/invoke/MethodHandle" ∧ yL_windForce.cls ≠ "java/lang/invoke/VarHandle" ∧ (parseMethodDescriptor yL_windForce.desc).map (fun d => d.parameters.length) = some 4 := by decide +kernel
set_option maxHeartbeats 4000000 in
set_option maxRecDepth 100000 in
theorem lc_1474 {G : GC} {E : Ctx} {w : Lay} {kc ks hm f u b L i : Nat} {xs : Nat → Int32} {σ : Mem} (C : Cx G E cL_law RL 9 room_1) (hX : LawX G E b L xs) (hi : i + 7 ≤ L) (hL : L ≤ 3584) (hW : LAY w) (hR : REL hm σ f u) (hb9 : hm ≤ 800000) (hkc : kc ≤ 10000) (hks : ks ≤ 100000) (hk : ∀ τ f2 u2, REL (hm + 960) τ f2 u2 → J G E w (kc + 7) (ks + 42) 3399 [some (.ref b), some (.ref (w.2.1 12 0)), some (.ref (w.2.1 13 0)), some (.ref (w.2.1 13 9)), some (.int (nI i)), none, none, none, none] [] τ) : J G E w kc ks 1474 [some (.ref b), some (.ref (w.2.1 12 0)), some (.ref (w.2.1 13 0)), some (.ref (w.2.1 13 9)), some (.int (nI i)), none, none, none, none] [] σ := by
  refine J_aload_n C dL_law_1474 rfl rfl ?_
  refine J_arg1 C hX (k := 1) rfl rfl (by omega) hL dL_law_1475 dL_law_1476 dL_law_1478 (by decide) dL_law_1479 dL_law_1480 ?_
  refine J_arg1 C hX (k := 2) rfl rfl (by omega) hL dL_law_1481 dL_law_1482 dL_law_1484 (by decide) dL_law_1485 dL_law_1486 ?_
  refine J_aload_n C dL_law_1487 rfl rfl ?_
  refine J_invSX (rm := rmL_windForce) C rfl (As := [.ref (w.2.1 12 0), .int (xs (i + 1)), .int (xs (i + 2)), .ref (w.2.1 13 9)]) rfl (goodSX q5_188 q5_189 q1_0 q5_190) mdL_windForce rfl rfl ⟨by decide +kernel, by decide +kernel⟩ rfl ⟨by show kc + 2 ≤ 601024; omega, by show ks + 12 ≤ 7293033; omega⟩ (Nat.le_of_ble_eq_true rfl) dL_law_1488 ?_
  refine pc_windForce hW hR hb9 (fun τ hτ => ?_)
  dsimp only [Option.toList_some, Option.toList_none, List.cons_append, List.nil_append]
  refine J_istore C dL_law_1491 (Nat.le_of_ble_eq_true rfl) rfl ?_
  dsimp only [List.set]
  refine J_aload_n C dL_law_1493 rfl rfl ?_
  refine J_arg1 C hX (k := 1) rfl rfl (by omega) hL dL_law_1494 dL_law_1495 dL_law_1497 (by decide) dL_law_1498 dL_law_1499 ?_
  refine J_arg1 C hX (k := 2) rfl rfl (by omega) hL dL_law_1500 dL_law_1501 dL_law_1503 (by decide) dL_law_1504 dL_law_1505 ?_
  refine iL_259 C hW.2.1 rfl ⟨by decide +kernel, by decide +kernel⟩ ⟨by show kc + 2 + 0 ≤ 601024; omega, by show ks + 12 + 0 ≤ 7293033; omega⟩ (Nat.le_of_ble_eq_true rfl) dL_law_1506 ?_
  refine pr_windForce hW hR hb9 hτ (fun bb τ2 hP => ?_)
  dsimp only [Option.toList_some, Option.toList_none, List.cons_append, List.nil_append]
  refine J_widen (k := kc + 7) (n := ks + 42) (by omega) (by omega) ?_
  exact tail_I C hW.2.1 rfl rfl hP ⟨by decide +kernel, by decide +kernel⟩ ⟨by show kc + 7 + 0 ≤ 601024; omega, by show ks + 42 + 0 ≤ 7293033; omega⟩ dL_law_1509 dL_law_1511 dL_law_1512 dL_law_1515 dL_law_1517 dL_law_1522 dL_law_1524 dL_law_1527 dL_law_1528 dL_law_1529 dL_law_1530 dL_law_1532 dL_law_1533 dL_law_1534 dL_law_1539 rfl (fun _ _ => hk _ _ _)
set_option maxHeartbeats 4000000 in
set_option maxRecDepth 100000 in
theorem lc_1542 {G : GC} {E : Ctx} {w : Lay} {kc ks hm f u b L i : Nat} {xs : Nat → Int32} {σ : Mem} (C : Cx G E cL_law RL 9 room_1) (hX : LawX G E b L xs) (hi : i + 7 ≤ L) (hL : L ≤ 3584) (hW : LAY w) (hR : REL hm σ f u) (hb9 : hm ≤ 800000) (hkc : kc ≤ 10000) (hks : ks ≤ 100000) (hk : ∀ τ f2 u2, REL (hm + 960) τ f2 u2 → J G E w (kc + 7) (ks + 42) 3399 [some (.ref b), some (.ref (w.2.1 12 0)), some (.ref (w.2.1 13 0)), some (.ref (w.2.1 13 9)), some (.int (nI i)), none, none, none, none] [] τ) : J G E w kc ks 1542 [some (.ref b), some (.ref (w.2.1 12 0)), some (.ref (w.2.1 13 0)), some (.ref (w.2.1 13 9)), some (.int (nI i)), none, none, none, none] [] σ := by
  refine J_aload_n C dL_law_1542 rfl rfl ?_
  refine iL_260 C hW.1 rfl ⟨by decide +kernel, by decide +kernel⟩ ⟨by show kc + 0 ≤ 601024; omega, by show ks + 0 ≤ 7293033; omega⟩ (Nat.le_of_ble_eq_true rfl) dL_law_1543 ?_
  refine c_X9_colourCount hW.1 (hW.2.2.1 0 (by decide)) hR.1.2.1 hR.1.1 ?_
  dsimp only [Option.toList_some, Option.toList_none, List.cons_append, List.nil_append]
  refine J_aload_n C dL_law_1546 rfl rfl ?_
  refine iL_263 C hW.2.1 rfl ⟨by decide +kernel, by decide +kernel⟩ ⟨by show kc + 0 + 0 ≤ 601024; omega, by show ks + 0 + 0 ≤ 7293033; omega⟩ (Nat.le_of_ble_eq_true rfl) dL_law_1547 ?_
  refine c_X10_colourCount hW.2.1 ?_
  dsimp only [Option.toList_some, Option.toList_none, List.cons_append, List.nil_append]
  refine J_widen (k := kc + 7) (n := ks + 42) (by omega) (by omega) ?_
  exact J_icmp_eq C (tgt := 3399) dL_law_1550 rfl (fun _ => hk _ _ _ (REL_thr hR (by omega))) (fun h => absurd rfl h)
theorem mdL_quota : yL_quota.cls ≠ "java/lang/invoke/MethodHandle" ∧ yL_quota.cls ≠ "java/lang/invoke/VarHandle" ∧ (parseMethodDescriptor yL_quota.desc).map (fun d => d.parameters.length) = some 3 := by decide +kernel
set_option maxHeartbeats 4000000 in
set_option maxRecDepth 100000 in
theorem lc_1555 {G : GC} {E : Ctx} {w : Lay} {kc ks hm f u b L i : Nat} {xs : Nat → Int32} {σ : Mem} (C : Cx G E cL_law RL 9 room_1) (hX : LawX G E b L xs) (hi : i + 7 ≤ L) (hL : L ≤ 3584) (hW : LAY w) (hR : REL hm σ f u) (hb9 : hm ≤ 800000) (hkc : kc ≤ 10000) (hks : ks ≤ 100000) (hk : ∀ τ f2 u2, REL (hm + 960) τ f2 u2 → J G E w (kc + 7) (ks + 42) 3399 [some (.ref b), some (.ref (w.2.1 12 0)), some (.ref (w.2.1 13 0)), some (.ref (w.2.1 13 9)), some (.int (nI i)), none, none, none, none] [] τ) : J G E w kc ks 1555 [some (.ref b), some (.ref (w.2.1 12 0)), some (.ref (w.2.1 13 0)), some (.ref (w.2.1 13 9)), some (.int (nI i)), none, none, none, none] [] σ := by
  refine J_aload_n C dL_law_1555 rfl rfl ?_
  refine J_arg1 C hX (k := 1) rfl rfl (by omega) hL dL_law_1556 dL_law_1557 dL_law_1559 (by decide) dL_law_1560 dL_law_1561 ?_
  refine J_aload_n C dL_law_1562 rfl rfl ?_
  refine J_invSX (rm := rmL_quota) C rfl (As := [.ref (w.2.1 12 0), .int (xs (i + 1)), .ref (w.2.1 13 9)]) rfl (goodSX q5_195 q5_196 q1_0 q5_197) mdL_quota rfl rfl ⟨by decide +kernel, by decide +kernel⟩ rfl ⟨by show kc + 1 ≤ 601024; omega, by show ks + 6 ≤ 7293033; omega⟩ (Nat.le_of_ble_eq_true rfl) dL_law_1563 ?_
  refine pc_quota hW hR hb9 (fun τ hτ => ?_)
  dsimp only [Option.toList_some, Option.toList_none, List.cons_append, List.nil_append]
  refine J_istore C dL_law_1566 (Nat.le_of_ble_eq_true rfl) rfl ?_
  dsimp only [List.set]
  refine J_aload_n C dL_law_1568 rfl rfl ?_
  refine J_arg1 C hX (k := 1) rfl rfl (by omega) hL dL_law_1569 dL_law_1570 dL_law_1572 (by decide) dL_law_1573 dL_law_1574 ?_
  refine iL_266 C hW.2.1 rfl ⟨by decide +kernel, by decide +kernel⟩ ⟨by show kc + 1 + 0 ≤ 601024; omega, by show ks + 6 + 0 ≤ 7293033; omega⟩ (Nat.le_of_ble_eq_true rfl) dL_law_1575 ?_
  refine pr_quota hW hR hb9 hτ (fun bb τ2 hP => ?_)
  dsimp only [Option.toList_some, Option.toList_none, List.cons_append, List.nil_append]
  refine J_widen (k := kc + 7) (n := ks + 42) (by omega) (by omega) ?_
  exact tail_I C hW.2.1 rfl rfl hP ⟨by decide +kernel, by decide +kernel⟩ ⟨by show kc + 7 + 0 ≤ 601024; omega, by show ks + 42 + 0 ≤ 7293033; omega⟩ dL_law_1578 dL_law_1580 dL_law_1581 dL_law_1584 dL_law_1586 dL_law_1591 dL_law_1593 dL_law_1596 dL_law_1597 dL_law_1598 dL_law_1599 dL_law_1601 dL_law_1602 dL_law_1603 dL_law_1608 rfl (fun _ _ => hk _ _ _)
theorem mdL_quotaUsed : yL_quotaUsed.cls ≠ "java/lang/invoke/MethodHandle" ∧ yL_quotaUsed.cls ≠ "java/lang/invoke/VarHandle" ∧ (parseMethodDescriptor yL_quotaUsed.desc).map (fun d => d.parameters.length) = some 4 := by decide +kernel
set_option maxHeartbeats 4000000 in
set_option maxRecDepth 100000 in
theorem lc_1611 {G : GC} {E : Ctx} {w : Lay} {kc ks hm f u b L i : Nat} {xs : Nat → Int32} {σ : Mem} (C : Cx G E cL_law RL 9 room_1) (hX : LawX G E b L xs) (hi : i + 7 ≤ L) (hL : L ≤ 3584) (hW : LAY w) (hR : REL hm σ f u) (hb9 : hm ≤ 800000) (hkc : kc ≤ 10000) (hks : ks ≤ 100000) (hk : ∀ τ f2 u2, REL (hm + 960) τ f2 u2 → J G E w (kc + 7) (ks + 42) 3399 [some (.ref b), some (.ref (w.2.1 12 0)), some (.ref (w.2.1 13 0)), some (.ref (w.2.1 13 9)), some (.int (nI i)), none, none, none, none] [] τ) : J G E w kc ks 1611 [some (.ref b), some (.ref (w.2.1 12 0)), some (.ref (w.2.1 13 0)), some (.ref (w.2.1 13 9)), some (.int (nI i)), none, none, none, none] [] σ := by
  refine J_aload_n C dL_law_1611 rfl rfl ?_
  refine J_arg1 C hX (k := 1) rfl rfl (by omega) hL dL_law_1612 dL_law_1613 dL_law_1615 (by decide) dL_law_1616 dL_law_1617 ?_
  refine J_arg1 C hX (k := 2) rfl rfl (by omega) hL dL_law_1618 dL_law_1619 dL_law_1621 (by decide) dL_law_1622 dL_law_1623 ?_
  refine J_aload_n C dL_law_1624 rfl rfl ?_
  refine J_invSX (rm := rmL_quotaUsed) C rfl (As := [.ref (w.2.1 12 0), .int (xs (i + 1)), .int (xs (i + 2)), .ref (w.2.1 13 9)]) rfl (goodSX q5_202 q5_203 q1_0 q5_204) mdL_quotaUsed rfl rfl ⟨by decide +kernel, by decide +kernel⟩ rfl ⟨by show kc + 2 ≤ 601024; omega, by show ks + 12 ≤ 7293033; omega⟩ (Nat.le_of_ble_eq_true rfl) dL_law_1625 ?_
  refine pc_quotaUsed hW hR hb9 (fun τ hτ => ?_)
  dsimp only [Option.toList_some, Option.toList_none, List.cons_append, List.nil_append]
  refine J_istore C dL_law_1628 (Nat.le_of_ble_eq_true rfl) rfl ?_
  dsimp only [List.set]
  refine J_aload_n C dL_law_1630 rfl rfl ?_
  refine J_arg1 C hX (k := 1) rfl rfl (by omega) hL dL_law_1631 dL_law_1632 dL_law_1634 (by decide) dL_law_1635 dL_law_1636 ?_
  refine J_arg1 C hX (k := 2) rfl rfl (by omega) hL dL_law_1637 dL_law_1638 dL_law_1640 (by decide) dL_law_1641 dL_law_1642 ?_
  refine iL_269 C hW.2.1 rfl ⟨by decide +kernel, by decide +kernel⟩ ⟨by show kc + 2 + 0 ≤ 601024; omega, by show ks + 12 + 0 ≤ 7293033; omega⟩ (Nat.le_of_ble_eq_true rfl) dL_law_1643 ?_
  refine pr_quotaUsed hW hR hb9 hτ (fun bb τ2 hP => ?_)
  dsimp only [Option.toList_some, Option.toList_none, List.cons_append, List.nil_append]
  refine J_widen (k := kc + 7) (n := ks + 42) (by omega) (by omega) ?_
  exact tail_I C hW.2.1 rfl rfl hP ⟨by decide +kernel, by decide +kernel⟩ ⟨by show kc + 7 + 0 ≤ 601024; omega, by show ks + 42 + 0 ≤ 7293033; omega⟩ dL_law_1646 dL_law_1648 dL_law_1649 dL_law_1652 dL_law_1654 dL_law_1659 dL_law_1661 dL_law_1664 dL_law_1665 dL_law_1666 dL_law_1667 dL_law_1669 dL_law_1670 dL_law_1671 dL_law_1676 rfl (fun _ _ => hk _ _ _)
set_option maxHeartbeats 4000000 in
set_option maxRecDepth 100000 in
theorem lc_1679 {G : GC} {E : Ctx} {w : Lay} {kc ks hm f u b L i : Nat} {xs : Nat → Int32} {σ : Mem} (C : Cx G E cL_law RL 9 room_1) (hX : LawX G E b L xs) (hi : i + 7 ≤ L) (hL : L ≤ 3584) (hW : LAY w) (hR : REL hm σ f u) (hb9 : hm ≤ 800000) (hkc : kc ≤ 10000) (hks : ks ≤ 100000) (hk : ∀ τ f2 u2, REL (hm + 960) τ f2 u2 → J G E w (kc + 7) (ks + 42) 3399 [some (.ref b), some (.ref (w.2.1 12 0)), some (.ref (w.2.1 13 0)), some (.ref (w.2.1 13 9)), some (.int (nI i)), none, none, none, none] [] τ) : J G E w kc ks 1679 [some (.ref b), some (.ref (w.2.1 12 0)), some (.ref (w.2.1 13 0)), some (.ref (w.2.1 13 9)), some (.int (nI i)), none, none, none, none] [] σ := by
  refine J_aload_n C dL_law_1679 rfl rfl ?_
  refine iL_270 C hW.1 rfl ⟨by decide +kernel, by decide +kernel⟩ ⟨by show kc + 0 ≤ 601024; omega, by show ks + 0 ≤ 7293033; omega⟩ (Nat.le_of_ble_eq_true rfl) dL_law_1680 ?_
  refine c_X9_kiteCount hW.1 (hW.2.2.1 0 (by decide)) hR.1.2.1 hR.1.1 ?_
  dsimp only [Option.toList_some, Option.toList_none, List.cons_append, List.nil_append]
  refine J_aload_n C dL_law_1683 rfl rfl ?_
  refine iL_273 C hW.2.1 rfl ⟨by decide +kernel, by decide +kernel⟩ ⟨by show kc + 0 + 0 ≤ 601024; omega, by show ks + 0 + 0 ≤ 7293033; omega⟩ (Nat.le_of_ble_eq_true rfl) dL_law_1684 ?_
  refine c_X10_kiteCount hW.2.1 ?_
  dsimp only [Option.toList_some, Option.toList_none, List.cons_append, List.nil_append]
  refine J_widen (k := kc + 7) (n := ks + 42) (by omega) (by omega) ?_
  exact J_icmp_eq C (tgt := 3399) dL_law_1687 rfl (fun _ => hk _ _ _ (REL_thr hR (by omega))) (fun h => absurd rfl h)
theorem mdL_anchorX : yL_anchorX.cls ≠ "java/lang/invoke/MethodHandle" ∧ yL_anchorX.cls ≠ "java/lang/invoke/VarHandle" ∧ (parseMethodDescriptor yL_anchorX.desc).map (fun d => d.parameters.length) = some 3 := by decide +kernel
set_option maxHeartbeats 4000000 in
set_option maxRecDepth 100000 in
theorem lc_1692 {G : GC} {E : Ctx} {w : Lay} {kc ks hm f u b L i : Nat} {xs : Nat → Int32} {σ : Mem} (C : Cx G E cL_law RL 9 room_1) (hX : LawX G E b L xs) (hi : i + 7 ≤ L) (hL : L ≤ 3584) (hW : LAY w) (hR : REL hm σ f u) (hb9 : hm ≤ 800000) (hkc : kc ≤ 10000) (hks : ks ≤ 100000) (hk : ∀ τ f2 u2, REL (hm + 960) τ f2 u2 → J G E w (kc + 7) (ks + 42) 3399 [some (.ref b), some (.ref (w.2.1 12 0)), some (.ref (w.2.1 13 0)), some (.ref (w.2.1 13 9)), some (.int (nI i)), none, none, none, none] [] τ) : J G E w kc ks 1692 [some (.ref b), some (.ref (w.2.1 12 0)), some (.ref (w.2.1 13 0)), some (.ref (w.2.1 13 9)), some (.int (nI i)), none, none, none, none] [] σ := by
  refine J_aload_n C dL_law_1692 rfl rfl ?_
  refine J_arg1 C hX (k := 1) rfl rfl (by omega) hL dL_law_1693 dL_law_1694 dL_law_1696 (by decide) dL_law_1697 dL_law_1698 ?_
  refine J_aload_n C dL_law_1699 rfl rfl ?_
  refine J_invSX (rm := rmL_anchorX) C rfl (As := [.ref (w.2.1 12 0), .int (xs (i + 1)), .ref (w.2.1 13 9)]) rfl (goodSX q5_210 q5_211 q1_0 q5_212) mdL_anchorX rfl rfl ⟨by decide +kernel, by decide +kernel⟩ rfl ⟨by show kc + 1 ≤ 601024; omega, by show ks + 6 ≤ 7293033; omega⟩ (Nat.le_of_ble_eq_true rfl) dL_law_1700 ?_
  refine pc_anchorX hW hR hb9 (fun τ hτ => ?_)
  dsimp only [Option.toList_some, Option.toList_none, List.cons_append, List.nil_append]
  refine J_istore C dL_law_1703 (Nat.le_of_ble_eq_true rfl) rfl ?_
  dsimp only [List.set]
  refine J_aload_n C dL_law_1705 rfl rfl ?_
  refine J_arg1 C hX (k := 1) rfl rfl (by omega) hL dL_law_1706 dL_law_1707 dL_law_1709 (by decide) dL_law_1710 dL_law_1711 ?_
  refine iL_276 C hW.2.1 rfl ⟨by decide +kernel, by decide +kernel⟩ ⟨by show kc + 1 + 0 ≤ 601024; omega, by show ks + 6 + 0 ≤ 7293033; omega⟩ (Nat.le_of_ble_eq_true rfl) dL_law_1712 ?_
  refine pr_anchorX hW hR hb9 hτ (fun bb τ2 hP => ?_)
  dsimp only [Option.toList_some, Option.toList_none, List.cons_append, List.nil_append]
  refine J_widen (k := kc + 7) (n := ks + 42) (by omega) (by omega) ?_
  exact tail_I C hW.2.1 rfl rfl hP ⟨by decide +kernel, by decide +kernel⟩ ⟨by show kc + 7 + 0 ≤ 601024; omega, by show ks + 42 + 0 ≤ 7293033; omega⟩ dL_law_1715 dL_law_1717 dL_law_1718 dL_law_1721 dL_law_1723 dL_law_1728 dL_law_1730 dL_law_1733 dL_law_1734 dL_law_1735 dL_law_1736 dL_law_1738 dL_law_1739 dL_law_1740 dL_law_1745 rfl (fun _ _ => hk _ _ _)
theorem mdL_anchorY : yL_anchorY.cls ≠ "java/lang/invoke/MethodHandle" ∧ yL_anchorY.cls ≠ "java/lang/invoke/VarHandle" ∧ (parseMethodDescriptor yL_anchorY.desc).map (fun d => d.parameters.length) = some 3 := by decide +kernel
set_option maxHeartbeats 4000000 in
set_option maxRecDepth 100000 in
theorem lc_1748 {G : GC} {E : Ctx} {w : Lay} {kc ks hm f u b L i : Nat} {xs : Nat → Int32} {σ : Mem} (C : Cx G E cL_law RL 9 room_1) (hX : LawX G E b L xs) (hi : i + 7 ≤ L) (hL : L ≤ 3584) (hW : LAY w) (hR : REL hm σ f u) (hb9 : hm ≤ 800000) (hkc : kc ≤ 10000) (hks : ks ≤ 100000) (hk : ∀ τ f2 u2, REL (hm + 960) τ f2 u2 → J G E w (kc + 7) (ks + 42) 3399 [some (.ref b), some (.ref (w.2.1 12 0)), some (.ref (w.2.1 13 0)), some (.ref (w.2.1 13 9)), some (.int (nI i)), none, none, none, none] [] τ) : J G E w kc ks 1748 [some (.ref b), some (.ref (w.2.1 12 0)), some (.ref (w.2.1 13 0)), some (.ref (w.2.1 13 9)), some (.int (nI i)), none, none, none, none] [] σ := by
  refine J_aload_n C dL_law_1748 rfl rfl ?_
  refine J_arg1 C hX (k := 1) rfl rfl (by omega) hL dL_law_1749 dL_law_1750 dL_law_1752 (by decide) dL_law_1753 dL_law_1754 ?_
  refine J_aload_n C dL_law_1755 rfl rfl ?_
  refine J_invSX (rm := rmL_anchorY) C rfl (As := [.ref (w.2.1 12 0), .int (xs (i + 1)), .ref (w.2.1 13 9)]) rfl (goodSX q5_217 q5_218 q1_0 q5_219) mdL_anchorY rfl rfl ⟨by decide +kernel, by decide +kernel⟩ rfl ⟨by show kc + 1 ≤ 601024; omega, by show ks + 6 ≤ 7293033; omega⟩ (Nat.le_of_ble_eq_true rfl) dL_law_1756 ?_
  refine pc_anchorY hW hR hb9 (fun τ hτ => ?_)
  dsimp only [Option.toList_some, Option.toList_none, List.cons_append, List.nil_append]
  refine J_istore C dL_law_1759 (Nat.le_of_ble_eq_true rfl) rfl ?_
  dsimp only [List.set]
  refine J_aload_n C dL_law_1761 rfl rfl ?_
  refine J_arg1 C hX (k := 1) rfl rfl (by omega) hL dL_law_1762 dL_law_1763 dL_law_1765 (by decide) dL_law_1766 dL_law_1767 ?_
  refine iL_279 C hW.2.1 rfl ⟨by decide +kernel, by decide +kernel⟩ ⟨by show kc + 1 + 0 ≤ 601024; omega, by show ks + 6 + 0 ≤ 7293033; omega⟩ (Nat.le_of_ble_eq_true rfl) dL_law_1768 ?_
  refine pr_anchorY hW hR hb9 hτ (fun bb τ2 hP => ?_)
  dsimp only [Option.toList_some, Option.toList_none, List.cons_append, List.nil_append]
  refine J_widen (k := kc + 7) (n := ks + 42) (by omega) (by omega) ?_
  exact tail_I C hW.2.1 rfl rfl hP ⟨by decide +kernel, by decide +kernel⟩ ⟨by show kc + 7 + 0 ≤ 601024; omega, by show ks + 42 + 0 ≤ 7293033; omega⟩ dL_law_1771 dL_law_1773 dL_law_1774 dL_law_1777 dL_law_1779 dL_law_1784 dL_law_1786 dL_law_1789 dL_law_1790 dL_law_1791 dL_law_1792 dL_law_1794 dL_law_1795 dL_law_1796 dL_law_1801 rfl (fun _ _ => hk _ _ _)
theorem mdL_stringLength : yL_stringLength.cls ≠ "java/lang/invoke/MethodHandle" ∧ yL_stringLength.cls ≠ "java/lang/invoke/VarHandle" ∧ (parseMethodDescriptor yL_stringLength.desc).map (fun d => d.parameters.length) = some 3 := by decide +kernel
set_option maxHeartbeats 4000000 in
set_option maxRecDepth 100000 in
theorem lc_1804 {G : GC} {E : Ctx} {w : Lay} {kc ks hm f u b L i : Nat} {xs : Nat → Int32} {σ : Mem} (C : Cx G E cL_law RL 9 room_1) (hX : LawX G E b L xs) (hi : i + 7 ≤ L) (hL : L ≤ 3584) (hW : LAY w) (hR : REL hm σ f u) (hb9 : hm ≤ 800000) (hkc : kc ≤ 10000) (hks : ks ≤ 100000) (hk : ∀ τ f2 u2, REL (hm + 960) τ f2 u2 → J G E w (kc + 7) (ks + 42) 3399 [some (.ref b), some (.ref (w.2.1 12 0)), some (.ref (w.2.1 13 0)), some (.ref (w.2.1 13 9)), some (.int (nI i)), none, none, none, none] [] τ) : J G E w kc ks 1804 [some (.ref b), some (.ref (w.2.1 12 0)), some (.ref (w.2.1 13 0)), some (.ref (w.2.1 13 9)), some (.int (nI i)), none, none, none, none] [] σ := by
  refine J_aload_n C dL_law_1804 rfl rfl ?_
  refine J_arg1 C hX (k := 1) rfl rfl (by omega) hL dL_law_1805 dL_law_1806 dL_law_1808 (by decide) dL_law_1809 dL_law_1810 ?_
  refine J_aload_n C dL_law_1811 rfl rfl ?_
  refine J_invSX (rm := rmL_stringLength) C rfl (As := [.ref (w.2.1 12 0), .int (xs (i + 1)), .ref (w.2.1 13 9)]) rfl (goodSX q5_224 q5_225 q1_0 q5_226) mdL_stringLength rfl rfl ⟨by decide +kernel, by decide +kernel⟩ rfl ⟨by show kc + 1 ≤ 601024; omega, by show ks + 6 ≤ 7293033; omega⟩ (Nat.le_of_ble_eq_true rfl) dL_law_1812 ?_
  refine pc_stringLength hW hR hb9 (fun τ hτ => ?_)
  dsimp only [Option.toList_some, Option.toList_none, List.cons_append, List.nil_append]
  refine J_istore C dL_law_1815 (Nat.le_of_ble_eq_true rfl) rfl ?_
  dsimp only [List.set]
  refine J_aload_n C dL_law_1817 rfl rfl ?_
  refine J_arg1 C hX (k := 1) rfl rfl (by omega) hL dL_law_1818 dL_law_1819 dL_law_1821 (by decide) dL_law_1822 dL_law_1823 ?_
  refine iL_282 C hW.2.1 rfl ⟨by decide +kernel, by decide +kernel⟩ ⟨by show kc + 1 + 0 ≤ 601024; omega, by show ks + 6 + 0 ≤ 7293033; omega⟩ (Nat.le_of_ble_eq_true rfl) dL_law_1824 ?_
  refine pr_stringLength hW hR hb9 hτ (fun bb τ2 hP => ?_)
  dsimp only [Option.toList_some, Option.toList_none, List.cons_append, List.nil_append]
  refine J_widen (k := kc + 7) (n := ks + 42) (by omega) (by omega) ?_
  exact tail_I C hW.2.1 rfl rfl hP ⟨by decide +kernel, by decide +kernel⟩ ⟨by show kc + 7 + 0 ≤ 601024; omega, by show ks + 42 + 0 ≤ 7293033; omega⟩ dL_law_1827 dL_law_1829 dL_law_1830 dL_law_1833 dL_law_1835 dL_law_1840 dL_law_1842 dL_law_1845 dL_law_1846 dL_law_1847 dL_law_1848 dL_law_1850 dL_law_1851 dL_law_1852 dL_law_1857 rfl (fun _ _ => hk _ _ _)
theorem mdL_colourOf : yL_colourOf.cls ≠ "java/lang/invoke/MethodHandle" ∧ yL_colourOf.cls ≠ "java/lang/invoke/VarHandle" ∧ (parseMethodDescriptor yL_colourOf.desc).map (fun d => d.parameters.length) = some 3 := by decide +kernel
set_option maxHeartbeats 4000000 in
set_option maxRecDepth 100000 in
theorem lc_1860 {G : GC} {E : Ctx} {w : Lay} {kc ks hm f u b L i : Nat} {xs : Nat → Int32} {σ : Mem} (C : Cx G E cL_law RL 9 room_1) (hX : LawX G E b L xs) (hi : i + 7 ≤ L) (hL : L ≤ 3584) (hW : LAY w) (hR : REL hm σ f u) (hb9 : hm ≤ 800000) (hkc : kc ≤ 10000) (hks : ks ≤ 100000) (hk : ∀ τ f2 u2, REL (hm + 960) τ f2 u2 → J G E w (kc + 7) (ks + 42) 3399 [some (.ref b), some (.ref (w.2.1 12 0)), some (.ref (w.2.1 13 0)), some (.ref (w.2.1 13 9)), some (.int (nI i)), none, none, none, none] [] τ) : J G E w kc ks 1860 [some (.ref b), some (.ref (w.2.1 12 0)), some (.ref (w.2.1 13 0)), some (.ref (w.2.1 13 9)), some (.int (nI i)), none, none, none, none] [] σ := by
  refine J_aload_n C dL_law_1860 rfl rfl ?_
  refine J_arg1 C hX (k := 1) rfl rfl (by omega) hL dL_law_1861 dL_law_1862 dL_law_1864 (by decide) dL_law_1865 dL_law_1866 ?_
  refine J_aload_n C dL_law_1867 rfl rfl ?_
  refine J_invSX (rm := rmL_colourOf) C rfl (As := [.ref (w.2.1 12 0), .int (xs (i + 1)), .ref (w.2.1 13 9)]) rfl (goodSX q5_231 q5_232 q1_0 q5_233) mdL_colourOf rfl rfl ⟨by decide +kernel, by decide +kernel⟩ rfl ⟨by show kc + 1 ≤ 601024; omega, by show ks + 6 ≤ 7293033; omega⟩ (Nat.le_of_ble_eq_true rfl) dL_law_1868 ?_
  refine pc_colourOf hW hR hb9 (fun τ hτ => ?_)
  dsimp only [Option.toList_some, Option.toList_none, List.cons_append, List.nil_append]
  refine J_istore C dL_law_1871 (Nat.le_of_ble_eq_true rfl) rfl ?_
  dsimp only [List.set]
  refine J_aload_n C dL_law_1873 rfl rfl ?_
  refine J_arg1 C hX (k := 1) rfl rfl (by omega) hL dL_law_1874 dL_law_1875 dL_law_1877 (by decide) dL_law_1878 dL_law_1879 ?_
  refine iL_285 C hW.2.1 rfl ⟨by decide +kernel, by decide +kernel⟩ ⟨by show kc + 1 + 0 ≤ 601024; omega, by show ks + 6 + 0 ≤ 7293033; omega⟩ (Nat.le_of_ble_eq_true rfl) dL_law_1880 ?_
  refine pr_colourOf hW hR hb9 hτ (fun bb τ2 hP => ?_)
  dsimp only [Option.toList_some, Option.toList_none, List.cons_append, List.nil_append]
  refine J_widen (k := kc + 7) (n := ks + 42) (by omega) (by omega) ?_
  exact tail_I C hW.2.1 rfl rfl hP ⟨by decide +kernel, by decide +kernel⟩ ⟨by show kc + 7 + 0 ≤ 601024; omega, by show ks + 42 + 0 ≤ 7293033; omega⟩ dL_law_1883 dL_law_1885 dL_law_1886 dL_law_1889 dL_law_1891 dL_law_1896 dL_law_1898 dL_law_1901 dL_law_1902 dL_law_1903 dL_law_1904 dL_law_1906 dL_law_1907 dL_law_1908 dL_law_1913 rfl (fun _ _ => hk _ _ _)
theorem mdL_knots : yL_knots.cls ≠ "java/lang/invoke/MethodHandle" ∧ yL_knots.cls ≠ "java/lang/invoke/VarHandle" ∧ (parseMethodDescriptor yL_knots.desc).map (fun d => d.parameters.length) = some 3 := by decide +kernel
set_option maxHeartbeats 4000000 in
set_option maxRecDepth 100000 in
theorem lc_1916 {G : GC} {E : Ctx} {w : Lay} {kc ks hm f u b L i : Nat} {xs : Nat → Int32} {σ : Mem} (C : Cx G E cL_law RL 9 room_1) (hX : LawX G E b L xs) (hi : i + 7 ≤ L) (hL : L ≤ 3584) (hW : LAY w) (hR : REL hm σ f u) (hb9 : hm ≤ 800000) (hkc : kc ≤ 10000) (hks : ks ≤ 100000) (hk : ∀ τ f2 u2, REL (hm + 960) τ f2 u2 → J G E w (kc + 7) (ks + 42) 3399 [some (.ref b), some (.ref (w.2.1 12 0)), some (.ref (w.2.1 13 0)), some (.ref (w.2.1 13 9)), some (.int (nI i)), none, none, none, none] [] τ) : J G E w kc ks 1916 [some (.ref b), some (.ref (w.2.1 12 0)), some (.ref (w.2.1 13 0)), some (.ref (w.2.1 13 9)), some (.int (nI i)), none, none, none, none] [] σ := by
  refine J_aload_n C dL_law_1916 rfl rfl ?_
  refine J_arg1 C hX (k := 1) rfl rfl (by omega) hL dL_law_1917 dL_law_1918 dL_law_1920 (by decide) dL_law_1921 dL_law_1922 ?_
  refine J_aload_n C dL_law_1923 rfl rfl ?_
  refine J_invSX (rm := rmL_knots) C rfl (As := [.ref (w.2.1 12 0), .int (xs (i + 1)), .ref (w.2.1 13 9)]) rfl (goodSX q5_238 q5_239 q1_0 q6_0) mdL_knots rfl rfl ⟨by decide +kernel, by decide +kernel⟩ rfl ⟨by show kc + 1 ≤ 601024; omega, by show ks + 6 ≤ 7293033; omega⟩ (Nat.le_of_ble_eq_true rfl) dL_law_1924 ?_
  refine pc_knots hW hR hb9 (fun τ hτ => ?_)
  dsimp only [Option.toList_some, Option.toList_none, List.cons_append, List.nil_append]
  refine J_istore C dL_law_1927 (Nat.le_of_ble_eq_true rfl) rfl ?_
  dsimp only [List.set]
  refine J_aload_n C dL_law_1929 rfl rfl ?_
  refine J_arg1 C hX (k := 1) rfl rfl (by omega) hL dL_law_1930 dL_law_1931 dL_law_1933 (by decide) dL_law_1934 dL_law_1935 ?_
  refine iL_288 C hW.2.1 rfl ⟨by decide +kernel, by decide +kernel⟩ ⟨by show kc + 1 + 0 ≤ 601024; omega, by show ks + 6 + 0 ≤ 7293033; omega⟩ (Nat.le_of_ble_eq_true rfl) dL_law_1936 ?_
  refine pr_knots hW hR hb9 hτ (fun bb τ2 hP => ?_)
  dsimp only [Option.toList_some, Option.toList_none, List.cons_append, List.nil_append]
  refine J_widen (k := kc + 7) (n := ks + 42) (by omega) (by omega) ?_
  exact tail_I C hW.2.1 rfl rfl hP ⟨by decide +kernel, by decide +kernel⟩ ⟨by show kc + 7 + 0 ≤ 601024; omega, by show ks + 42 + 0 ≤ 7293033; omega⟩ dL_law_1939 dL_law_1941 dL_law_1942 dL_law_1945 dL_law_1947 dL_law_1952 dL_law_1954 dL_law_1957 dL_law_1958 dL_law_1959 dL_law_1960 dL_law_1962 dL_law_1963 dL_law_1964 dL_law_1969 rfl (fun _ _ => hk _ _ _)
theorem mdL_purse : yL_purse.cls ≠ "java/lang/invoke/MethodHandle" ∧ yL_purse.cls ≠ "java/lang/invoke/VarHandle" ∧ (parseMethodDescriptor yL_purse.desc).map (fun d => d.parameters.length) = some 3 := by decide +kernel
set_option maxHeartbeats 4000000 in
set_option maxRecDepth 100000 in
theorem lc_1972 {G : GC} {E : Ctx} {w : Lay} {kc ks hm f u b L i : Nat} {xs : Nat → Int32} {σ : Mem} (C : Cx G E cL_law RL 9 room_1) (hX : LawX G E b L xs) (hi : i + 7 ≤ L) (hL : L ≤ 3584) (hW : LAY w) (hR : REL hm σ f u) (hb9 : hm ≤ 800000) (hkc : kc ≤ 10000) (hks : ks ≤ 100000) (hk : ∀ τ f2 u2, REL (hm + 960) τ f2 u2 → J G E w (kc + 7) (ks + 42) 3399 [some (.ref b), some (.ref (w.2.1 12 0)), some (.ref (w.2.1 13 0)), some (.ref (w.2.1 13 9)), some (.int (nI i)), none, none, none, none] [] τ) : J G E w kc ks 1972 [some (.ref b), some (.ref (w.2.1 12 0)), some (.ref (w.2.1 13 0)), some (.ref (w.2.1 13 9)), some (.int (nI i)), none, none, none, none] [] σ := by
  refine J_aload_n C dL_law_1972 rfl rfl ?_
  refine J_arg1 C hX (k := 1) rfl rfl (by omega) hL dL_law_1973 dL_law_1974 dL_law_1976 (by decide) dL_law_1977 dL_law_1978 ?_
  refine J_aload_n C dL_law_1979 rfl rfl ?_
  refine J_invSX (rm := rmL_purse) C rfl (As := [.ref (w.2.1 12 0), .int (xs (i + 1)), .ref (w.2.1 13 9)]) rfl (goodSX q6_5 q6_6 q1_0 q6_7) mdL_purse rfl rfl ⟨by decide +kernel, by decide +kernel⟩ rfl ⟨by show kc + 1 ≤ 601024; omega, by show ks + 6 ≤ 7293033; omega⟩ (Nat.le_of_ble_eq_true rfl) dL_law_1980 ?_
  refine pc_purse hW hR hb9 (fun τ hτ => ?_)
  dsimp only [Option.toList_some, Option.toList_none, List.cons_append, List.nil_append]
  refine J_istore C dL_law_1983 (Nat.le_of_ble_eq_true rfl) rfl ?_
  dsimp only [List.set]
  refine J_aload_n C dL_law_1985 rfl rfl ?_
  refine J_arg1 C hX (k := 1) rfl rfl (by omega) hL dL_law_1986 dL_law_1987 dL_law_1989 (by decide) dL_law_1990 dL_law_1991 ?_
  refine iL_291 C hW.2.1 rfl ⟨by decide +kernel, by decide +kernel⟩ ⟨by show kc + 1 + 0 ≤ 601024; omega, by show ks + 6 + 0 ≤ 7293033; omega⟩ (Nat.le_of_ble_eq_true rfl) dL_law_1992 ?_
  refine pr_purse hW hR hb9 hτ (fun bb τ2 hP => ?_)
  dsimp only [Option.toList_some, Option.toList_none, List.cons_append, List.nil_append]
  refine J_widen (k := kc + 7) (n := ks + 42) (by omega) (by omega) ?_
  exact tail_I C hW.2.1 rfl rfl hP ⟨by decide +kernel, by decide +kernel⟩ ⟨by show kc + 7 + 0 ≤ 601024; omega, by show ks + 42 + 0 ≤ 7293033; omega⟩ dL_law_1995 dL_law_1997 dL_law_1998 dL_law_2001 dL_law_2003 dL_law_2008 dL_law_2010 dL_law_2013 dL_law_2014 dL_law_2015 dL_law_2016 dL_law_2018 dL_law_2019 dL_law_2020 dL_law_2025 rfl (fun _ _ => hk _ _ _)
theorem mdL_stateOf : yL_stateOf.cls ≠ "java/lang/invoke/MethodHandle" ∧ yL_stateOf.cls ≠ "java/lang/invoke/VarHandle" ∧ (parseMethodDescriptor yL_stateOf.desc).map (fun d => d.parameters.length) = some 3 := by decide +kernel
set_option maxHeartbeats 4000000 in
set_option maxRecDepth 100000 in
theorem lc_2028 {G : GC} {E : Ctx} {w : Lay} {kc ks hm f u b L i : Nat} {xs : Nat → Int32} {σ : Mem} (C : Cx G E cL_law RL 9 room_1) (hX : LawX G E b L xs) (hi : i + 7 ≤ L) (hL : L ≤ 3584) (hW : LAY w) (hR : REL hm σ f u) (hb9 : hm ≤ 800000) (hkc : kc ≤ 10000) (hks : ks ≤ 100000) (hk : ∀ τ f2 u2, REL (hm + 960) τ f2 u2 → J G E w (kc + 7) (ks + 42) 3399 [some (.ref b), some (.ref (w.2.1 12 0)), some (.ref (w.2.1 13 0)), some (.ref (w.2.1 13 9)), some (.int (nI i)), none, none, none, none] [] τ) : J G E w kc ks 2028 [some (.ref b), some (.ref (w.2.1 12 0)), some (.ref (w.2.1 13 0)), some (.ref (w.2.1 13 9)), some (.int (nI i)), none, none, none, none] [] σ := by
  refine J_aload_n C dL_law_2028 rfl rfl ?_
  refine J_arg1 C hX (k := 1) rfl rfl (by omega) hL dL_law_2029 dL_law_2030 dL_law_2032 (by decide) dL_law_2033 dL_law_2034 ?_
  refine J_aload_n C dL_law_2035 rfl rfl ?_
  refine J_invSX (rm := rmL_stateOf) C rfl (As := [.ref (w.2.1 12 0), .int (xs (i + 1)), .ref (w.2.1 13 9)]) rfl (goodSX q6_12 q6_13 q1_0 q6_14) mdL_stateOf rfl rfl ⟨by decide +kernel, by decide +kernel⟩ rfl ⟨by show kc + 1 ≤ 601024; omega, by show ks + 6 ≤ 7293033; omega⟩ (Nat.le_of_ble_eq_true rfl) dL_law_2036 ?_
  refine pc_stateOf hW hR hb9 (fun τ hτ => ?_)
  dsimp only [Option.toList_some, Option.toList_none, List.cons_append, List.nil_append]
  refine J_istore C dL_law_2039 (Nat.le_of_ble_eq_true rfl) rfl ?_
  dsimp only [List.set]
  refine J_aload_n C dL_law_2041 rfl rfl ?_
  refine J_arg1 C hX (k := 1) rfl rfl (by omega) hL dL_law_2042 dL_law_2043 dL_law_2045 (by decide) dL_law_2046 dL_law_2047 ?_
  refine iL_294 C hW.2.1 rfl ⟨by decide +kernel, by decide +kernel⟩ ⟨by show kc + 1 + 0 ≤ 601024; omega, by show ks + 6 + 0 ≤ 7293033; omega⟩ (Nat.le_of_ble_eq_true rfl) dL_law_2048 ?_
  refine pr_stateOf hW hR hb9 hτ (fun bb τ2 hP => ?_)
  dsimp only [Option.toList_some, Option.toList_none, List.cons_append, List.nil_append]
  refine J_widen (k := kc + 7) (n := ks + 42) (by omega) (by omega) ?_
  exact tail_I C hW.2.1 rfl rfl hP ⟨by decide +kernel, by decide +kernel⟩ ⟨by show kc + 7 + 0 ≤ 601024; omega, by show ks + 42 + 0 ≤ 7293033; omega⟩ dL_law_2051 dL_law_2053 dL_law_2054 dL_law_2057 dL_law_2059 dL_law_2064 dL_law_2066 dL_law_2069 dL_law_2070 dL_law_2071 dL_law_2072 dL_law_2074 dL_law_2075 dL_law_2076 dL_law_2081 rfl (fun _ _ => hk _ _ _)
theorem mdL_zoneOf : yL_zoneOf.cls ≠ "java/lang/invoke/MethodHandle" ∧ yL_zoneOf.cls ≠ "java/lang/invoke/VarHandle" ∧ (parseMethodDescriptor yL_zoneOf.desc).map (fun d => d.parameters.length) = some 3 := by decide +kernel
set_option maxHeartbeats 4000000 in
set_option maxRecDepth 100000 in
theorem lc_2084 {G : GC} {E : Ctx} {w : Lay} {kc ks hm f u b L i : Nat} {xs : Nat → Int32} {σ : Mem} (C : Cx G E cL_law RL 9 room_1) (hX : LawX G E b L xs) (hi : i + 7 ≤ L) (hL : L ≤ 3584) (hW : LAY w) (hR : REL hm σ f u) (hb9 : hm ≤ 800000) (hkc : kc ≤ 10000) (hks : ks ≤ 100000) (hk : ∀ τ f2 u2, REL (hm + 960) τ f2 u2 → J G E w (kc + 7) (ks + 42) 3399 [some (.ref b), some (.ref (w.2.1 12 0)), some (.ref (w.2.1 13 0)), some (.ref (w.2.1 13 9)), some (.int (nI i)), none, none, none, none] [] τ) : J G E w kc ks 2084 [some (.ref b), some (.ref (w.2.1 12 0)), some (.ref (w.2.1 13 0)), some (.ref (w.2.1 13 9)), some (.int (nI i)), none, none, none, none] [] σ := by
  refine J_aload_n C dL_law_2084 rfl rfl ?_
  refine J_arg1 C hX (k := 1) rfl rfl (by omega) hL dL_law_2085 dL_law_2086 dL_law_2088 (by decide) dL_law_2089 dL_law_2090 ?_
  refine J_aload_n C dL_law_2091 rfl rfl ?_
  refine J_invSX (rm := rmL_zoneOf) C rfl (As := [.ref (w.2.1 12 0), .int (xs (i + 1)), .ref (w.2.1 13 9)]) rfl (goodSX q6_19 q6_20 q1_0 q6_21) mdL_zoneOf rfl rfl ⟨by decide +kernel, by decide +kernel⟩ rfl ⟨by show kc + 1 ≤ 601024; omega, by show ks + 6 ≤ 7293033; omega⟩ (Nat.le_of_ble_eq_true rfl) dL_law_2092 ?_
  refine pc_zoneOf hW hR hb9 (fun τ hτ => ?_)
  dsimp only [Option.toList_some, Option.toList_none, List.cons_append, List.nil_append]
  refine J_istore C dL_law_2095 (Nat.le_of_ble_eq_true rfl) rfl ?_
  dsimp only [List.set]
  refine J_aload_n C dL_law_2097 rfl rfl ?_
  refine J_arg1 C hX (k := 1) rfl rfl (by omega) hL dL_law_2098 dL_law_2099 dL_law_2101 (by decide) dL_law_2102 dL_law_2103 ?_
  refine iL_297 C hW.2.1 rfl ⟨by decide +kernel, by decide +kernel⟩ ⟨by show kc + 1 + 0 ≤ 601024; omega, by show ks + 6 + 0 ≤ 7293033; omega⟩ (Nat.le_of_ble_eq_true rfl) dL_law_2104 ?_
  refine pr_zoneOf hW hR hb9 hτ (fun bb τ2 hP => ?_)
  dsimp only [Option.toList_some, Option.toList_none, List.cons_append, List.nil_append]
  refine J_widen (k := kc + 7) (n := ks + 42) (by omega) (by omega) ?_
  exact tail_I C hW.2.1 rfl rfl hP ⟨by decide +kernel, by decide +kernel⟩ ⟨by show kc + 7 + 0 ≤ 601024; omega, by show ks + 42 + 0 ≤ 7293033; omega⟩ dL_law_2107 dL_law_2109 dL_law_2110 dL_law_2113 dL_law_2115 dL_law_2120 dL_law_2122 dL_law_2125 dL_law_2126 dL_law_2127 dL_law_2128 dL_law_2130 dL_law_2131 dL_law_2132 dL_law_2137 rfl (fun _ _ => hk _ _ _)
theorem mdL_tangles : yL_tangles.cls ≠ "java/lang/invoke/MethodHandle" ∧ yL_tangles.cls ≠ "java/lang/invoke/VarHandle" ∧ (parseMethodDescriptor yL_tangles.desc).map (fun d => d.parameters.length) = some 3 := by decide +kernel
set_option maxHeartbeats 4000000 in
set_option maxRecDepth 100000 in
theorem lc_2140 {G : GC} {E : Ctx} {w : Lay} {kc ks hm f u b L i : Nat} {xs : Nat → Int32} {σ : Mem} (C : Cx G E cL_law RL 9 room_1) (hX : LawX G E b L xs) (hi : i + 7 ≤ L) (hL : L ≤ 3584) (hW : LAY w) (hR : REL hm σ f u) (hb9 : hm ≤ 800000) (hkc : kc ≤ 10000) (hks : ks ≤ 100000) (hk : ∀ τ f2 u2, REL (hm + 960) τ f2 u2 → J G E w (kc + 7) (ks + 42) 3399 [some (.ref b), some (.ref (w.2.1 12 0)), some (.ref (w.2.1 13 0)), some (.ref (w.2.1 13 9)), some (.int (nI i)), none, none, none, none] [] τ) : J G E w kc ks 2140 [some (.ref b), some (.ref (w.2.1 12 0)), some (.ref (w.2.1 13 0)), some (.ref (w.2.1 13 9)), some (.int (nI i)), none, none, none, none] [] σ := by
  refine J_aload_n C dL_law_2140 rfl rfl ?_
  refine J_arg1 C hX (k := 1) rfl rfl (by omega) hL dL_law_2141 dL_law_2142 dL_law_2144 (by decide) dL_law_2145 dL_law_2146 ?_
  refine J_aload_n C dL_law_2147 rfl rfl ?_
  refine J_invSX (rm := rmL_tangles) C rfl (As := [.ref (w.2.1 12 0), .int (xs (i + 1)), .ref (w.2.1 13 9)]) rfl (goodSX q6_26 q6_27 q1_0 q6_28) mdL_tangles rfl rfl ⟨by decide +kernel, by decide +kernel⟩ rfl ⟨by show kc + 1 ≤ 601024; omega, by show ks + 6 ≤ 7293033; omega⟩ (Nat.le_of_ble_eq_true rfl) dL_law_2148 ?_
  refine pc_tangles hW hR hb9 (fun τ hτ => ?_)
  dsimp only [Option.toList_some, Option.toList_none, List.cons_append, List.nil_append]
  refine J_istore C dL_law_2151 (Nat.le_of_ble_eq_true rfl) rfl ?_
  dsimp only [List.set]
  refine J_aload_n C dL_law_2153 rfl rfl ?_
  refine J_arg1 C hX (k := 1) rfl rfl (by omega) hL dL_law_2154 dL_law_2155 dL_law_2157 (by decide) dL_law_2158 dL_law_2159 ?_
  refine iL_300 C hW.2.1 rfl ⟨by decide +kernel, by decide +kernel⟩ ⟨by show kc + 1 + 0 ≤ 601024; omega, by show ks + 6 + 0 ≤ 7293033; omega⟩ (Nat.le_of_ble_eq_true rfl) dL_law_2160 ?_
  refine pr_tangles hW hR hb9 hτ (fun bb τ2 hP => ?_)
  dsimp only [Option.toList_some, Option.toList_none, List.cons_append, List.nil_append]
  refine J_widen (k := kc + 7) (n := ks + 42) (by omega) (by omega) ?_
  exact tail_I C hW.2.1 rfl rfl hP ⟨by decide +kernel, by decide +kernel⟩ ⟨by show kc + 7 + 0 ≤ 601024; omega, by show ks + 42 + 0 ≤ 7293033; omega⟩ dL_law_2163 dL_law_2165 dL_law_2166 dL_law_2169 dL_law_2171 dL_law_2176 dL_law_2178 dL_law_2181 dL_law_2182 dL_law_2183 dL_law_2184 dL_law_2186 dL_law_2187 dL_law_2188 dL_law_2193 rfl (fun _ _ => hk _ _ _)
theorem mdL_reach : yL_reach.cls ≠ "java/lang/invoke/MethodHandle" ∧ yL_reach.cls ≠ "java/lang/invoke/VarHandle" ∧ (parseMethodDescriptor yL_reach.desc).map (fun d => d.parameters.length) = some 4 := by decide +kernel
set_option maxHeartbeats 4000000 in
set_option maxRecDepth 100000 in
theorem lc_2196 {G : GC} {E : Ctx} {w : Lay} {kc ks hm f u b L i : Nat} {xs : Nat → Int32} {σ : Mem} (C : Cx G E cL_law RL 9 room_1) (hX : LawX G E b L xs) (hi : i + 7 ≤ L) (hL : L ≤ 3584) (hW : LAY w) (hR : REL hm σ f u) (hb9 : hm ≤ 800000) (hkc : kc ≤ 10000) (hks : ks ≤ 100000) (hk : ∀ τ f2 u2, REL (hm + 960) τ f2 u2 → J G E w (kc + 7) (ks + 42) 3399 [some (.ref b), some (.ref (w.2.1 12 0)), some (.ref (w.2.1 13 0)), some (.ref (w.2.1 13 9)), some (.int (nI i)), none, none, none, none] [] τ) : J G E w kc ks 2196 [some (.ref b), some (.ref (w.2.1 12 0)), some (.ref (w.2.1 13 0)), some (.ref (w.2.1 13 9)), some (.int (nI i)), none, none, none, none] [] σ := by
  refine J_aload_n C dL_law_2196 rfl rfl ?_
  refine J_arg1 C hX (k := 1) rfl rfl (by omega) hL dL_law_2197 dL_law_2198 dL_law_2200 (by decide) dL_law_2201 dL_law_2202 ?_
  refine J_arg1 C hX (k := 2) rfl rfl (by omega) hL dL_law_2203 dL_law_2204 dL_law_2206 (by decide) dL_law_2207 dL_law_2208 ?_
  refine J_aload_n C dL_law_2209 rfl rfl ?_
  refine J_invSX (rm := rmL_reach) C rfl (As := [.ref (w.2.1 12 0), .int (xs (i + 1)), .int (xs (i + 2)), .ref (w.2.1 13 9)]) rfl (goodSX q6_33 q6_34 q1_0 q6_35) mdL_reach rfl rfl ⟨by decide +kernel, by decide +kernel⟩ rfl ⟨by show kc + 2 ≤ 601024; omega, by show ks + 12 ≤ 7293033; omega⟩ (Nat.le_of_ble_eq_true rfl) dL_law_2210 ?_
  refine pc_reach hW hR hb9 (fun τ hτ => ?_)
  dsimp only [Option.toList_some, Option.toList_none, List.cons_append, List.nil_append]
  refine J_istore C dL_law_2213 (Nat.le_of_ble_eq_true rfl) rfl ?_
  dsimp only [List.set]
  refine J_aload_n C dL_law_2215 rfl rfl ?_
  refine J_arg1 C hX (k := 1) rfl rfl (by omega) hL dL_law_2216 dL_law_2217 dL_law_2219 (by decide) dL_law_2220 dL_law_2221 ?_
  refine J_arg1 C hX (k := 2) rfl rfl (by omega) hL dL_law_2222 dL_law_2223 dL_law_2225 (by decide) dL_law_2226 dL_law_2227 ?_
  refine iL_303 C hW.2.1 rfl ⟨by decide +kernel, by decide +kernel⟩ ⟨by show kc + 2 + 0 ≤ 601024; omega, by show ks + 12 + 0 ≤ 7293033; omega⟩ (Nat.le_of_ble_eq_true rfl) dL_law_2228 ?_
  refine pr_reach hW hR hb9 hτ (fun bb τ2 hP => ?_)
  dsimp only [Option.toList_some, Option.toList_none, List.cons_append, List.nil_append]
  refine J_widen (k := kc + 7) (n := ks + 42) (by omega) (by omega) ?_
  exact tail_I C hW.2.1 rfl rfl hP ⟨by decide +kernel, by decide +kernel⟩ ⟨by show kc + 7 + 0 ≤ 601024; omega, by show ks + 42 + 0 ≤ 7293033; omega⟩ dL_law_2231 dL_law_2233 dL_law_2234 dL_law_2237 dL_law_2239 dL_law_2244 dL_law_2246 dL_law_2249 dL_law_2250 dL_law_2251 dL_law_2252 dL_law_2254 dL_law_2255 dL_law_2256 dL_law_2261 rfl (fun _ _ => hk _ _ _)
theorem mdL_endX : yL_endX.cls ≠ "java/lang/invoke/MethodHandle" ∧ yL_endX.cls ≠ "java/lang/invoke/VarHandle" ∧ (parseMethodDescriptor yL_endX.desc).map (fun d => d.parameters.length) = some 4 := by decide +kernel
set_option maxHeartbeats 4000000 in
set_option maxRecDepth 100000 in
theorem lc_2264 {G : GC} {E : Ctx} {w : Lay} {kc ks hm f u b L i : Nat} {xs : Nat → Int32} {σ : Mem} (C : Cx G E cL_law RL 9 room_1) (hX : LawX G E b L xs) (hi : i + 7 ≤ L) (hL : L ≤ 3584) (hW : LAY w) (hR : REL hm σ f u) (hb9 : hm ≤ 800000) (hkc : kc ≤ 10000) (hks : ks ≤ 100000) (hk : ∀ τ f2 u2, REL (hm + 960) τ f2 u2 → J G E w (kc + 7) (ks + 42) 3399 [some (.ref b), some (.ref (w.2.1 12 0)), some (.ref (w.2.1 13 0)), some (.ref (w.2.1 13 9)), some (.int (nI i)), none, none, none, none] [] τ) : J G E w kc ks 2264 [some (.ref b), some (.ref (w.2.1 12 0)), some (.ref (w.2.1 13 0)), some (.ref (w.2.1 13 9)), some (.int (nI i)), none, none, none, none] [] σ := by
  refine J_aload_n C dL_law_2264 rfl rfl ?_
  refine J_arg1 C hX (k := 1) rfl rfl (by omega) hL dL_law_2265 dL_law_2266 dL_law_2268 (by decide) dL_law_2269 dL_law_2270 ?_
  refine J_arg1 C hX (k := 2) rfl rfl (by omega) hL dL_law_2271 dL_law_2272 dL_law_2274 (by decide) dL_law_2275 dL_law_2276 ?_
  refine J_aload_n C dL_law_2277 rfl rfl ?_
  refine J_invSX (rm := rmL_endX) C rfl (As := [.ref (w.2.1 12 0), .int (xs (i + 1)), .int (xs (i + 2)), .ref (w.2.1 13 9)]) rfl (goodSX q6_40 q6_41 q1_0 q6_42) mdL_endX rfl rfl ⟨by decide +kernel, by decide +kernel⟩ rfl ⟨by show kc + 2 ≤ 601024; omega, by show ks + 12 ≤ 7293033; omega⟩ (Nat.le_of_ble_eq_true rfl) dL_law_2278 ?_
  refine pc_endX hW hR hb9 (fun τ hτ => ?_)
  dsimp only [Option.toList_some, Option.toList_none, List.cons_append, List.nil_append]
  refine J_istore C dL_law_2281 (Nat.le_of_ble_eq_true rfl) rfl ?_
  dsimp only [List.set]
  refine J_aload_n C dL_law_2283 rfl rfl ?_
  refine J_arg1 C hX (k := 1) rfl rfl (by omega) hL dL_law_2284 dL_law_2285 dL_law_2287 (by decide) dL_law_2288 dL_law_2289 ?_
  refine J_arg1 C hX (k := 2) rfl rfl (by omega) hL dL_law_2290 dL_law_2291 dL_law_2293 (by decide) dL_law_2294 dL_law_2295 ?_
  refine iL_306 C hW.2.1 rfl ⟨by decide +kernel, by decide +kernel⟩ ⟨by show kc + 2 + 0 ≤ 601024; omega, by show ks + 12 + 0 ≤ 7293033; omega⟩ (Nat.le_of_ble_eq_true rfl) dL_law_2296 ?_
  refine pr_endX hW hR hb9 hτ (fun bb τ2 hP => ?_)
  dsimp only [Option.toList_some, Option.toList_none, List.cons_append, List.nil_append]
  refine J_widen (k := kc + 7) (n := ks + 42) (by omega) (by omega) ?_
  exact tail_I C hW.2.1 rfl rfl hP ⟨by decide +kernel, by decide +kernel⟩ ⟨by show kc + 7 + 0 ≤ 601024; omega, by show ks + 42 + 0 ≤ 7293033; omega⟩ dL_law_2299 dL_law_2301 dL_law_2302 dL_law_2305 dL_law_2307 dL_law_2312 dL_law_2314 dL_law_2317 dL_law_2318 dL_law_2319 dL_law_2320 dL_law_2322 dL_law_2323 dL_law_2324 dL_law_2329 rfl (fun _ _ => hk _ _ _)
theorem mdL_endY : yL_endY.cls ≠ "java/lang/invoke/MethodHandle" ∧ yL_endY.cls ≠ "java/lang/invoke/VarHandle" ∧ (parseMethodDescriptor yL_endY.desc).map (fun d => d.parameters.length) = some 4 := by decide +kernel
set_option maxHeartbeats 4000000 in
set_option maxRecDepth 100000 in
theorem lc_2332 {G : GC} {E : Ctx} {w : Lay} {kc ks hm f u b L i : Nat} {xs : Nat → Int32} {σ : Mem} (C : Cx G E cL_law RL 9 room_1) (hX : LawX G E b L xs) (hi : i + 7 ≤ L) (hL : L ≤ 3584) (hW : LAY w) (hR : REL hm σ f u) (hb9 : hm ≤ 800000) (hkc : kc ≤ 10000) (hks : ks ≤ 100000) (hk : ∀ τ f2 u2, REL (hm + 960) τ f2 u2 → J G E w (kc + 7) (ks + 42) 3399 [some (.ref b), some (.ref (w.2.1 12 0)), some (.ref (w.2.1 13 0)), some (.ref (w.2.1 13 9)), some (.int (nI i)), none, none, none, none] [] τ) : J G E w kc ks 2332 [some (.ref b), some (.ref (w.2.1 12 0)), some (.ref (w.2.1 13 0)), some (.ref (w.2.1 13 9)), some (.int (nI i)), none, none, none, none] [] σ := by
  refine J_aload_n C dL_law_2332 rfl rfl ?_
  refine J_arg1 C hX (k := 1) rfl rfl (by omega) hL dL_law_2333 dL_law_2334 dL_law_2336 (by decide) dL_law_2337 dL_law_2338 ?_
  refine J_arg1 C hX (k := 2) rfl rfl (by omega) hL dL_law_2339 dL_law_2340 dL_law_2342 (by decide) dL_law_2343 dL_law_2344 ?_
  refine J_aload_n C dL_law_2345 rfl rfl ?_
  refine J_invSX (rm := rmL_endY) C rfl (As := [.ref (w.2.1 12 0), .int (xs (i + 1)), .int (xs (i + 2)), .ref (w.2.1 13 9)]) rfl (goodSX q6_49 q6_50 q1_0 q6_51) mdL_endY rfl rfl ⟨by decide +kernel, by decide +kernel⟩ rfl ⟨by show kc + 2 ≤ 601024; omega, by show ks + 12 ≤ 7293033; omega⟩ (Nat.le_of_ble_eq_true rfl) dL_law_2346 ?_
  refine pc_endY hW hR hb9 (fun τ hτ => ?_)
  dsimp only [Option.toList_some, Option.toList_none, List.cons_append, List.nil_append]
  refine J_istore C dL_law_2349 (Nat.le_of_ble_eq_true rfl) rfl ?_
  dsimp only [List.set]
  refine J_aload_n C dL_law_2351 rfl rfl ?_
  refine J_arg1 C hX (k := 1) rfl rfl (by omega) hL dL_law_2352 dL_law_2353 dL_law_2355 (by decide) dL_law_2356 dL_law_2357 ?_
  refine J_arg1 C hX (k := 2) rfl rfl (by omega) hL dL_law_2358 dL_law_2359 dL_law_2361 (by decide) dL_law_2362 dL_law_2363 ?_
  refine iL_309 C hW.2.1 rfl ⟨by decide +kernel, by decide +kernel⟩ ⟨by show kc + 2 + 0 ≤ 601024; omega, by show ks + 12 + 0 ≤ 7293033; omega⟩ (Nat.le_of_ble_eq_true rfl) dL_law_2364 ?_
  refine pr_endY hW hR hb9 hτ (fun bb τ2 hP => ?_)
  dsimp only [Option.toList_some, Option.toList_none, List.cons_append, List.nil_append]
  refine J_widen (k := kc + 7) (n := ks + 42) (by omega) (by omega) ?_
  exact tail_I C hW.2.1 rfl rfl hP ⟨by decide +kernel, by decide +kernel⟩ ⟨by show kc + 7 + 0 ≤ 601024; omega, by show ks + 42 + 0 ≤ 7293033; omega⟩ dL_law_2367 dL_law_2369 dL_law_2370 dL_law_2373 dL_law_2375 dL_law_2380 dL_law_2382 dL_law_2385 dL_law_2386 dL_law_2387 dL_law_2388 dL_law_2390 dL_law_2391 dL_law_2392 dL_law_2397 rfl (fun _ _ => hk _ _ _)
theorem mdL_canFly : yL_canFly.cls ≠ "java/lang/invoke/MethodHandle" ∧ yL_canFly.cls ≠ "java/lang/invoke/VarHandle" ∧ (parseMethodDescriptor yL_canFly.desc).map (fun d => d.parameters.length) = some 4 := by decide +kernel
set_option maxHeartbeats 4000000 in
set_option maxRecDepth 100000 in
theorem lc_2400 {G : GC} {E : Ctx} {w : Lay} {kc ks hm f u b L i : Nat} {xs : Nat → Int32} {σ : Mem} (C : Cx G E cL_law RL 9 room_1) (hX : LawX G E b L xs) (hi : i + 7 ≤ L) (hL : L ≤ 3584) (hW : LAY w) (hR : REL hm σ f u) (hb9 : hm ≤ 800000) (hkc : kc ≤ 10000) (hks : ks ≤ 100000) (hk : ∀ τ f2 u2, REL (hm + 960) τ f2 u2 → J G E w (kc + 7) (ks + 42) 3399 [some (.ref b), some (.ref (w.2.1 12 0)), some (.ref (w.2.1 13 0)), some (.ref (w.2.1 13 9)), some (.int (nI i)), none, none, none, none] [] τ) : J G E w kc ks 2400 [some (.ref b), some (.ref (w.2.1 12 0)), some (.ref (w.2.1 13 0)), some (.ref (w.2.1 13 9)), some (.int (nI i)), none, none, none, none] [] σ := by
  refine J_aload_n C dL_law_2400 rfl rfl ?_
  refine J_arg1 C hX (k := 1) rfl rfl (by omega) hL dL_law_2401 dL_law_2402 dL_law_2404 (by decide) dL_law_2405 dL_law_2406 ?_
  refine J_arg1 C hX (k := 2) rfl rfl (by omega) hL dL_law_2407 dL_law_2408 dL_law_2410 (by decide) dL_law_2411 dL_law_2412 ?_
  refine J_aload_n C dL_law_2413 rfl rfl ?_
  refine J_invSX (rm := rmL_canFly) C rfl (As := [.ref (w.2.1 12 0), .int (xs (i + 1)), .int (xs (i + 2)), .ref (w.2.1 13 9)]) rfl (goodSX q6_57 q6_58 q1_0 q6_59) mdL_canFly rfl rfl ⟨by decide +kernel, by decide +kernel⟩ rfl ⟨by show kc + 2 ≤ 601024; omega, by show ks + 12 ≤ 7293033; omega⟩ (Nat.le_of_ble_eq_true rfl) dL_law_2414 ?_
  refine pc_canFly hW hR hb9 (fun τ hτ => ?_)
  dsimp only [Option.toList_some, Option.toList_none, List.cons_append, List.nil_append]
  refine J_istore C dL_law_2417 (Nat.le_of_ble_eq_true rfl) rfl ?_
  dsimp only [List.set]
  refine J_aload_n C dL_law_2419 rfl rfl ?_
  refine J_arg1 C hX (k := 1) rfl rfl (by omega) hL dL_law_2420 dL_law_2421 dL_law_2423 (by decide) dL_law_2424 dL_law_2425 ?_
  refine J_arg1 C hX (k := 2) rfl rfl (by omega) hL dL_law_2426 dL_law_2427 dL_law_2429 (by decide) dL_law_2430 dL_law_2431 ?_
  refine iL_312 C hW.2.1 rfl ⟨by decide +kernel, by decide +kernel⟩ ⟨by show kc + 2 + 0 ≤ 601024; omega, by show ks + 12 + 0 ≤ 7293033; omega⟩ (Nat.le_of_ble_eq_true rfl) dL_law_2432 ?_
  refine pr_canFly hW hR hb9 hτ (fun bb τ2 hP => ?_)
  dsimp only [Option.toList_some, Option.toList_none, List.cons_append, List.nil_append]
  refine J_widen (k := kc + 7) (n := ks + 42) (by omega) (by omega) ?_
  exact tail_B C hW.2.1 rfl rfl hP (by unfold aCF; exact chk_b (chk_b (ct_b _))) ⟨by decide +kernel, by decide +kernel⟩ ⟨by show kc + 7 + 0 ≤ 601024; omega, by show ks + 42 + 0 ≤ 7293033; omega⟩ dL_law_2435 dL_law_2437 dL_law_2438 dL_law_2441 dL_law_2443 dL_law_2448 dL_law_2450 dL_law_2453 dL_law_2454 dL_law_2455 dL_law_2456 dL_law_2458 dL_law_2461 dL_law_2462 dL_law_2465 dL_law_2466 dL_law_2467 dL_law_2472 rfl (fun _ _ => hk _ _ _)
theorem mdL_doCross : yL_doCross.cls ≠ "java/lang/invoke/MethodHandle" ∧ yL_doCross.cls ≠ "java/lang/invoke/VarHandle" ∧ (parseMethodDescriptor yL_doCross.desc).map (fun d => d.parameters.length) = some 5 := by decide +kernel
set_option maxHeartbeats 4000000 in
set_option maxRecDepth 100000 in
theorem lc_2475 {G : GC} {E : Ctx} {w : Lay} {kc ks hm f u b L i : Nat} {xs : Nat → Int32} {σ : Mem} (C : Cx G E cL_law RL 9 room_1) (hX : LawX G E b L xs) (hi : i + 7 ≤ L) (hL : L ≤ 3584) (hW : LAY w) (hR : REL hm σ f u) (hb9 : hm ≤ 800000) (hkc : kc ≤ 10000) (hks : ks ≤ 100000) (hk : ∀ τ f2 u2, REL (hm + 960) τ f2 u2 → J G E w (kc + 7) (ks + 42) 3399 [some (.ref b), some (.ref (w.2.1 12 0)), some (.ref (w.2.1 13 0)), some (.ref (w.2.1 13 9)), some (.int (nI i)), none, none, none, none] [] τ) : J G E w kc ks 2475 [some (.ref b), some (.ref (w.2.1 12 0)), some (.ref (w.2.1 13 0)), some (.ref (w.2.1 13 9)), some (.int (nI i)), none, none, none, none] [] σ := by
  refine J_aload_n C dL_law_2475 rfl rfl ?_
  refine J_arg1 C hX (k := 1) rfl rfl (by omega) hL dL_law_2476 dL_law_2477 dL_law_2479 (by decide) dL_law_2480 dL_law_2481 ?_
  refine J_arg1 C hX (k := 2) rfl rfl (by omega) hL dL_law_2482 dL_law_2483 dL_law_2485 (by decide) dL_law_2486 dL_law_2487 ?_
  refine J_arg1 C hX (k := 3) rfl rfl (by omega) hL dL_law_2488 dL_law_2489 dL_law_2491 (by decide) dL_law_2492 dL_law_2493 ?_
  refine J_aload_n C dL_law_2494 rfl rfl ?_
  refine J_invSX (rm := rmL_doCross) C rfl (As := [.ref (w.2.1 12 0), .int (xs (i + 1)), .int (xs (i + 2)), .int (xs (i + 3)), .ref (w.2.1 13 9)]) rfl (goodSX q6_65 q6_66 q1_0 q6_67) mdL_doCross rfl rfl ⟨by decide +kernel, by decide +kernel⟩ rfl ⟨by show kc + 4 ≤ 601024; omega, by show ks + 24 ≤ 7293033; omega⟩ (Nat.le_of_ble_eq_true rfl) dL_law_2495 ?_
  refine pc_doCross hW hR hb9 (fun τ hτ => ?_)
  dsimp only [Option.toList_some, Option.toList_none, List.cons_append, List.nil_append]
  refine J_istore C dL_law_2498 (Nat.le_of_ble_eq_true rfl) rfl ?_
  dsimp only [List.set]
  refine J_aload_n C dL_law_2500 rfl rfl ?_
  refine J_arg1 C hX (k := 1) rfl rfl (by omega) hL dL_law_2501 dL_law_2502 dL_law_2504 (by decide) dL_law_2505 dL_law_2506 ?_
  refine J_arg1 C hX (k := 2) rfl rfl (by omega) hL dL_law_2507 dL_law_2508 dL_law_2510 (by decide) dL_law_2511 dL_law_2512 ?_
  refine J_arg1 C hX (k := 3) rfl rfl (by omega) hL dL_law_2513 dL_law_2514 dL_law_2516 (by decide) dL_law_2517 dL_law_2518 ?_
  refine iL_315 C hW.2.1 rfl ⟨by decide +kernel, by decide +kernel⟩ ⟨by show kc + 4 + 0 ≤ 601024; omega, by show ks + 24 + 0 ≤ 7293033; omega⟩ (Nat.le_of_ble_eq_true rfl) dL_law_2519 ?_
  refine pr_doCross hW hR hb9 hτ (fun bb τ2 hP => ?_)
  dsimp only [Option.toList_some, Option.toList_none, List.cons_append, List.nil_append]
  refine J_widen (k := kc + 7) (n := ks + 42) (by omega) (by omega) ?_
  exact tail_B C hW.2.1 rfl rfl hP (by unfold aDC; exact chk_b (chk_b (chk_b (chk_b (ct_b _))))) ⟨by decide +kernel, by decide +kernel⟩ ⟨by show kc + 7 + 0 ≤ 601024; omega, by show ks + 42 + 0 ≤ 7293033; omega⟩ dL_law_2522 dL_law_2524 dL_law_2525 dL_law_2528 dL_law_2530 dL_law_2535 dL_law_2537 dL_law_2540 dL_law_2541 dL_law_2542 dL_law_2543 dL_law_2545 dL_law_2548 dL_law_2549 dL_law_2552 dL_law_2553 dL_law_2554 dL_law_2559 rfl (fun _ _ => hk _ _ _)
set_option maxHeartbeats 4000000 in
set_option maxRecDepth 100000 in
theorem lc_2562 {G : GC} {E : Ctx} {w : Lay} {kc ks hm f u b L i : Nat} {xs : Nat → Int32} {σ : Mem} (C : Cx G E cL_law RL 9 room_1) (hX : LawX G E b L xs) (hi : i + 7 ≤ L) (hL : L ≤ 3584) (hW : LAY w) (hR : REL hm σ f u) (hb9 : hm ≤ 800000) (hkc : kc ≤ 10000) (hks : ks ≤ 100000) (hk : ∀ τ f2 u2, REL (hm + 960) τ f2 u2 → J G E w (kc + 7) (ks + 42) 3399 [some (.ref b), some (.ref (w.2.1 12 0)), some (.ref (w.2.1 13 0)), some (.ref (w.2.1 13 9)), some (.int (nI i)), none, none, none, none] [] τ) : J G E w kc ks 2562 [some (.ref b), some (.ref (w.2.1 12 0)), some (.ref (w.2.1 13 0)), some (.ref (w.2.1 13 9)), some (.int (nI i)), none, none, none, none] [] σ := by
  refine J_aload_n C dL_law_2562 rfl rfl ?_
  refine iL_316 C hW.1 rfl ⟨by decide +kernel, by decide +kernel⟩ ⟨by show kc + 0 ≤ 601024; omega, by show ks + 0 ≤ 7293033; omega⟩ (Nat.le_of_ble_eq_true rfl) dL_law_2563 ?_
  refine c_X9_permitCount hW.1 (hW.2.2.1 0 (by decide)) hR.1.2.1 hR.1.1 ?_
  dsimp only [Option.toList_some, Option.toList_none, List.cons_append, List.nil_append]
  refine J_aload_n C dL_law_2566 rfl rfl ?_
  refine iL_319 C hW.2.1 rfl ⟨by decide +kernel, by decide +kernel⟩ ⟨by show kc + 0 + 0 ≤ 601024; omega, by show ks + 0 + 0 ≤ 7293033; omega⟩ (Nat.le_of_ble_eq_true rfl) dL_law_2567 ?_
  refine c_X10_permitCount hW.2.1 ?_
  dsimp only [Option.toList_some, Option.toList_none, List.cons_append, List.nil_append]
  refine J_widen (k := kc + 7) (n := ks + 42) (by omega) (by omega) ?_
  exact J_icmp_eq C (tgt := 3399) dL_law_2570 rfl (fun _ => hk _ _ _ (REL_thr hR (by omega))) (fun h => absurd rfl h)
theorem mdL_permitKite : yL_permitKite.cls ≠ "java/lang/invoke/MethodHandle" ∧ yL_permitKite.cls ≠ "java/lang/invoke/VarHandle" ∧ (parseMethodDescriptor yL_permitKite.desc).map (fun d => d.parameters.length) = some 3 := by decide +kernel
set_option maxHeartbeats 4000000 in
set_option maxRecDepth 100000 in
theorem lc_2575 {G : GC} {E : Ctx} {w : Lay} {kc ks hm f u b L i : Nat} {xs : Nat → Int32} {σ : Mem} (C : Cx G E cL_law RL 9 room_1) (hX : LawX G E b L xs) (hi : i + 7 ≤ L) (hL : L ≤ 3584) (hW : LAY w) (hR : REL hm σ f u) (hb9 : hm ≤ 800000) (hkc : kc ≤ 10000) (hks : ks ≤ 100000) (hk : ∀ τ f2 u2, REL (hm + 960) τ f2 u2 → J G E w (kc + 7) (ks + 42) 3399 [some (.ref b), some (.ref (w.2.1 12 0)), some (.ref (w.2.1 13 0)), some (.ref (w.2.1 13 9)), some (.int (nI i)), none, none, none, none] [] τ) : J G E w kc ks 2575 [some (.ref b), some (.ref (w.2.1 12 0)), some (.ref (w.2.1 13 0)), some (.ref (w.2.1 13 9)), some (.int (nI i)), none, none, none, none] [] σ := by
  refine J_aload_n C dL_law_2575 rfl rfl ?_
  refine J_arg1 C hX (k := 1) rfl rfl (by omega) hL dL_law_2576 dL_law_2577 dL_law_2579 (by decide) dL_law_2580 dL_law_2581 ?_
  refine J_aload_n C dL_law_2582 rfl rfl ?_
  refine J_invSX (rm := rmL_permitKite) C rfl (As := [.ref (w.2.1 12 0), .int (xs (i + 1)), .ref (w.2.1 13 9)]) rfl (goodSX q6_77 q6_78 q1_0 q6_79) mdL_permitKite rfl rfl ⟨by decide +kernel, by decide +kernel⟩ rfl ⟨by show kc + 1 ≤ 601024; omega, by show ks + 6 ≤ 7293033; omega⟩ (Nat.le_of_ble_eq_true rfl) dL_law_2583 ?_
  refine pc_permitKite hW hR hb9 (fun τ hτ => ?_)
  dsimp only [Option.toList_some, Option.toList_none, List.cons_append, List.nil_append]
  refine J_istore C dL_law_2586 (Nat.le_of_ble_eq_true rfl) rfl ?_
  dsimp only [List.set]
  refine J_aload_n C dL_law_2588 rfl rfl ?_
  refine J_arg1 C hX (k := 1) rfl rfl (by omega) hL dL_law_2589 dL_law_2590 dL_law_2592 (by decide) dL_law_2593 dL_law_2594 ?_
  refine iL_322 C hW.2.1 rfl ⟨by decide +kernel, by decide +kernel⟩ ⟨by show kc + 1 + 0 ≤ 601024; omega, by show ks + 6 + 0 ≤ 7293033; omega⟩ (Nat.le_of_ble_eq_true rfl) dL_law_2595 ?_
  refine pr_permitKite hW hR hb9 hτ (fun bb τ2 hP => ?_)
  dsimp only [Option.toList_some, Option.toList_none, List.cons_append, List.nil_append]
  refine J_widen (k := kc + 7) (n := ks + 42) (by omega) (by omega) ?_
  exact tail_I C hW.2.1 rfl rfl hP ⟨by decide +kernel, by decide +kernel⟩ ⟨by show kc + 7 + 0 ≤ 601024; omega, by show ks + 42 + 0 ≤ 7293033; omega⟩ dL_law_2598 dL_law_2600 dL_law_2601 dL_law_2604 dL_law_2606 dL_law_2611 dL_law_2613 dL_law_2616 dL_law_2617 dL_law_2618 dL_law_2619 dL_law_2621 dL_law_2622 dL_law_2623 dL_law_2628 rfl (fun _ _ => hk _ _ _)
theorem mdL_permitStart : yL_permitStart.cls ≠ "java/lang/invoke/MethodHandle" ∧ yL_permitStart.cls ≠ "java/lang/invoke/VarHandle" ∧ (parseMethodDescriptor yL_permitStart.desc).map (fun d => d.parameters.length) = some 3 := by decide +kernel
set_option maxHeartbeats 4000000 in
set_option maxRecDepth 100000 in
theorem lc_2631 {G : GC} {E : Ctx} {w : Lay} {kc ks hm f u b L i : Nat} {xs : Nat → Int32} {σ : Mem} (C : Cx G E cL_law RL 9 room_1) (hX : LawX G E b L xs) (hi : i + 7 ≤ L) (hL : L ≤ 3584) (hW : LAY w) (hR : REL hm σ f u) (hb9 : hm ≤ 800000) (hkc : kc ≤ 10000) (hks : ks ≤ 100000) (hk : ∀ τ f2 u2, REL (hm + 960) τ f2 u2 → J G E w (kc + 7) (ks + 42) 3399 [some (.ref b), some (.ref (w.2.1 12 0)), some (.ref (w.2.1 13 0)), some (.ref (w.2.1 13 9)), some (.int (nI i)), none, none, none, none] [] τ) : J G E w kc ks 2631 [some (.ref b), some (.ref (w.2.1 12 0)), some (.ref (w.2.1 13 0)), some (.ref (w.2.1 13 9)), some (.int (nI i)), none, none, none, none] [] σ := by
  refine J_aload_n C dL_law_2631 rfl rfl ?_
  refine J_arg1 C hX (k := 1) rfl rfl (by omega) hL dL_law_2632 dL_law_2633 dL_law_2635 (by decide) dL_law_2636 dL_law_2637 ?_
  refine J_aload_n C dL_law_2638 rfl rfl ?_
  refine J_invSX (rm := rmL_permitStart) C rfl (As := [.ref (w.2.1 12 0), .int (xs (i + 1)), .ref (w.2.1 13 9)]) rfl (goodSX q6_89 q6_90 q1_0 q6_91) mdL_permitStart rfl rfl ⟨by decide +kernel, by decide +kernel⟩ rfl ⟨by show kc + 1 ≤ 601024; omega, by show ks + 6 ≤ 7293033; omega⟩ (Nat.le_of_ble_eq_true rfl) dL_law_2639 ?_
  refine pc_permitStart hW hR hb9 (fun τ hτ => ?_)
  dsimp only [Option.toList_some, Option.toList_none, List.cons_append, List.nil_append]
  refine J_istore C dL_law_2642 (Nat.le_of_ble_eq_true rfl) rfl ?_
  dsimp only [List.set]
  refine J_aload_n C dL_law_2644 rfl rfl ?_
  refine J_arg1 C hX (k := 1) rfl rfl (by omega) hL dL_law_2645 dL_law_2646 dL_law_2648 (by decide) dL_law_2649 dL_law_2650 ?_
  refine iL_325 C hW.2.1 rfl ⟨by decide +kernel, by decide +kernel⟩ ⟨by show kc + 1 + 0 ≤ 601024; omega, by show ks + 6 + 0 ≤ 7293033; omega⟩ (Nat.le_of_ble_eq_true rfl) dL_law_2651 ?_
  refine pr_permitStart hW hR hb9 hτ (fun bb τ2 hP => ?_)
  dsimp only [Option.toList_some, Option.toList_none, List.cons_append, List.nil_append]
  refine J_widen (k := kc + 7) (n := ks + 42) (by omega) (by omega) ?_
  exact tail_I C hW.2.1 rfl rfl hP ⟨by decide +kernel, by decide +kernel⟩ ⟨by show kc + 7 + 0 ≤ 601024; omega, by show ks + 42 + 0 ≤ 7293033; omega⟩ dL_law_2654 dL_law_2656 dL_law_2657 dL_law_2660 dL_law_2662 dL_law_2667 dL_law_2669 dL_law_2672 dL_law_2673 dL_law_2674 dL_law_2675 dL_law_2677 dL_law_2678 dL_law_2679 dL_law_2684 rfl (fun _ _ => hk _ _ _)
theorem mdL_permitDuration : yL_permitDuration.cls ≠ "java/lang/invoke/MethodHandle" ∧ yL_permitDuration.cls ≠ "java/lang/invoke/VarHandle" ∧ (parseMethodDescriptor yL_permitDuration.desc).map (fun d => d.parameters.length) = some 3 := by decide +kernel
set_option maxHeartbeats 4000000 in
set_option maxRecDepth 100000 in
theorem lc_2687 {G : GC} {E : Ctx} {w : Lay} {kc ks hm f u b L i : Nat} {xs : Nat → Int32} {σ : Mem} (C : Cx G E cL_law RL 9 room_1) (hX : LawX G E b L xs) (hi : i + 7 ≤ L) (hL : L ≤ 3584) (hW : LAY w) (hR : REL hm σ f u) (hb9 : hm ≤ 800000) (hkc : kc ≤ 10000) (hks : ks ≤ 100000) (hk : ∀ τ f2 u2, REL (hm + 960) τ f2 u2 → J G E w (kc + 7) (ks + 42) 3399 [some (.ref b), some (.ref (w.2.1 12 0)), some (.ref (w.2.1 13 0)), some (.ref (w.2.1 13 9)), some (.int (nI i)), none, none, none, none] [] τ) : J G E w kc ks 2687 [some (.ref b), some (.ref (w.2.1 12 0)), some (.ref (w.2.1 13 0)), some (.ref (w.2.1 13 9)), some (.int (nI i)), none, none, none, none] [] σ := by
  refine J_aload_n C dL_law_2687 rfl rfl ?_
  refine J_arg1 C hX (k := 1) rfl rfl (by omega) hL dL_law_2688 dL_law_2689 dL_law_2691 (by decide) dL_law_2692 dL_law_2693 ?_
  refine J_aload_n C dL_law_2694 rfl rfl ?_
  refine J_invSX (rm := rmL_permitDuration) C rfl (As := [.ref (w.2.1 12 0), .int (xs (i + 1)), .ref (w.2.1 13 9)]) rfl (goodSX q6_96 q6_97 q1_0 q6_98) mdL_permitDuration rfl rfl ⟨by decide +kernel, by decide +kernel⟩ rfl ⟨by show kc + 1 ≤ 601024; omega, by show ks + 6 ≤ 7293033; omega⟩ (Nat.le_of_ble_eq_true rfl) dL_law_2695 ?_
  refine pc_permitDuration hW hR hb9 (fun τ hτ => ?_)
  dsimp only [Option.toList_some, Option.toList_none, List.cons_append, List.nil_append]
  refine J_istore C dL_law_2698 (Nat.le_of_ble_eq_true rfl) rfl ?_
  dsimp only [List.set]
  refine J_aload_n C dL_law_2700 rfl rfl ?_
  refine J_arg1 C hX (k := 1) rfl rfl (by omega) hL dL_law_2701 dL_law_2702 dL_law_2704 (by decide) dL_law_2705 dL_law_2706 ?_
  refine iL_328 C hW.2.1 rfl ⟨by decide +kernel, by decide +kernel⟩ ⟨by show kc + 1 + 0 ≤ 601024; omega, by show ks + 6 + 0 ≤ 7293033; omega⟩ (Nat.le_of_ble_eq_true rfl) dL_law_2707 ?_
  refine pr_permitDuration hW hR hb9 hτ (fun bb τ2 hP => ?_)
  dsimp only [Option.toList_some, Option.toList_none, List.cons_append, List.nil_append]
  refine J_widen (k := kc + 7) (n := ks + 42) (by omega) (by omega) ?_
  exact tail_I C hW.2.1 rfl rfl hP ⟨by decide +kernel, by decide +kernel⟩ ⟨by show kc + 7 + 0 ≤ 601024; omega, by show ks + 42 + 0 ≤ 7293033; omega⟩ dL_law_2710 dL_law_2712 dL_law_2713 dL_law_2716 dL_law_2718 dL_law_2723 dL_law_2725 dL_law_2728 dL_law_2729 dL_law_2730 dL_law_2731 dL_law_2733 dL_law_2734 dL_law_2735 dL_law_2740 rfl (fun _ _ => hk _ _ _)
theorem mdL_hasPermit : yL_hasPermit.cls ≠ "java/lang/invoke/MethodHandle" ∧ yL_hasPermit.cls ≠ "java/lang/invoke/VarHandle" ∧ (parseMethodDescriptor yL_hasPermit.desc).map (fun d => d.parameters.length) = some 4 := by decide +kernel
set_option maxHeartbeats 4000000 in
set_option maxRecDepth 100000 in
theorem lc_2743 {G : GC} {E : Ctx} {w : Lay} {kc ks hm f u b L i : Nat} {xs : Nat → Int32} {σ : Mem} (C : Cx G E cL_law RL 9 room_1) (hX : LawX G E b L xs) (hi : i + 7 ≤ L) (hL : L ≤ 3584) (hW : LAY w) (hR : REL hm σ f u) (hb9 : hm ≤ 800000) (hkc : kc ≤ 10000) (hks : ks ≤ 100000) (hk : ∀ τ f2 u2, REL (hm + 960) τ f2 u2 → J G E w (kc + 7) (ks + 42) 3399 [some (.ref b), some (.ref (w.2.1 12 0)), some (.ref (w.2.1 13 0)), some (.ref (w.2.1 13 9)), some (.int (nI i)), none, none, none, none] [] τ) : J G E w kc ks 2743 [some (.ref b), some (.ref (w.2.1 12 0)), some (.ref (w.2.1 13 0)), some (.ref (w.2.1 13 9)), some (.int (nI i)), none, none, none, none] [] σ := by
  refine J_aload_n C dL_law_2743 rfl rfl ?_
  refine J_arg1 C hX (k := 1) rfl rfl (by omega) hL dL_law_2744 dL_law_2745 dL_law_2747 (by decide) dL_law_2748 dL_law_2749 ?_
  refine J_arg1 C hX (k := 2) rfl rfl (by omega) hL dL_law_2750 dL_law_2751 dL_law_2753 (by decide) dL_law_2754 dL_law_2755 ?_
  refine J_aload_n C dL_law_2756 rfl rfl ?_
  refine J_invSX (rm := rmL_hasPermit) C rfl (As := [.ref (w.2.1 12 0), .int (xs (i + 1)), .int (xs (i + 2)), .ref (w.2.1 13 9)]) rfl (goodSX q6_103 q6_104 q1_0 q6_105) mdL_hasPermit rfl rfl ⟨by decide +kernel, by decide +kernel⟩ rfl ⟨by show kc + 2 ≤ 601024; omega, by show ks + 12 ≤ 7293033; omega⟩ (Nat.le_of_ble_eq_true rfl) dL_law_2757 ?_
  refine pc_hasPermit hW hR hb9 (fun τ hτ => ?_)
  dsimp only [Option.toList_some, Option.toList_none, List.cons_append, List.nil_append]
  refine J_istore C dL_law_2760 (Nat.le_of_ble_eq_true rfl) rfl ?_
  dsimp only [List.set]
  refine J_aload_n C dL_law_2762 rfl rfl ?_
  refine J_arg1 C hX (k := 1) rfl rfl (by omega) hL dL_law_2763 dL_law_2764 dL_law_2766 (by decide) dL_law_2767 dL_law_2768 ?_
  refine J_arg1 C hX (k := 2) rfl rfl (by omega) hL dL_law_2769 dL_law_2770 dL_law_2772 (by decide) dL_law_2773 dL_law_2774 ?_
  refine iL_331 C hW.2.1 rfl ⟨by decide +kernel, by decide +kernel⟩ ⟨by show kc + 2 + 0 ≤ 601024; omega, by show ks + 12 + 0 ≤ 7293033; omega⟩ (Nat.le_of_ble_eq_true rfl) dL_law_2775 ?_
  refine pr_hasPermit hW hR hb9 hτ (fun bb τ2 hP => ?_)
  dsimp only [Option.toList_some, Option.toList_none, List.cons_append, List.nil_append]
  refine J_widen (k := kc + 7) (n := ks + 42) (by omega) (by omega) ?_
  exact tail_B C hW.2.1 rfl rfl hP (by unfold aHP; exact chk_b (chk_b (ct_b _))) ⟨by decide +kernel, by decide +kernel⟩ ⟨by show kc + 7 + 0 ≤ 601024; omega, by show ks + 42 + 0 ≤ 7293033; omega⟩ dL_law_2778 dL_law_2780 dL_law_2781 dL_law_2784 dL_law_2786 dL_law_2791 dL_law_2793 dL_law_2796 dL_law_2797 dL_law_2798 dL_law_2799 dL_law_2801 dL_law_2804 dL_law_2805 dL_law_2808 dL_law_2809 dL_law_2810 dL_law_2815 rfl (fun _ _ => hk _ _ _)
theorem mdL_whyNotPermit : yL_whyNotPermit.cls ≠ "java/lang/invoke/MethodHandle" ∧ yL_whyNotPermit.cls ≠ "java/lang/invoke/VarHandle" ∧ (parseMethodDescriptor yL_whyNotPermit.desc).map (fun d => d.parameters.length) = some 5 := by decide +kernel
set_option maxHeartbeats 4000000 in
set_option maxRecDepth 100000 in
theorem lc_2818 {G : GC} {E : Ctx} {w : Lay} {kc ks hm f u b L i : Nat} {xs : Nat → Int32} {σ : Mem} (C : Cx G E cL_law RL 9 room_1) (hX : LawX G E b L xs) (hi : i + 7 ≤ L) (hL : L ≤ 3584) (hW : LAY w) (hR : REL hm σ f u) (hb9 : hm ≤ 800000) (hkc : kc ≤ 10000) (hks : ks ≤ 100000) (hk : ∀ τ f2 u2, REL (hm + 960) τ f2 u2 → J G E w (kc + 7) (ks + 42) 3399 [some (.ref b), some (.ref (w.2.1 12 0)), some (.ref (w.2.1 13 0)), some (.ref (w.2.1 13 9)), some (.int (nI i)), none, none, none, none] [] τ) : J G E w kc ks 2818 [some (.ref b), some (.ref (w.2.1 12 0)), some (.ref (w.2.1 13 0)), some (.ref (w.2.1 13 9)), some (.int (nI i)), none, none, none, none] [] σ := by
  refine J_aload_n C dL_law_2818 rfl rfl ?_
  refine J_arg1 C hX (k := 1) rfl rfl (by omega) hL dL_law_2819 dL_law_2820 dL_law_2822 (by decide) dL_law_2823 dL_law_2824 ?_
  refine J_arg1 C hX (k := 2) rfl rfl (by omega) hL dL_law_2825 dL_law_2826 dL_law_2828 (by decide) dL_law_2829 dL_law_2830 ?_
  refine J_arg1 C hX (k := 3) rfl rfl (by omega) hL dL_law_2831 dL_law_2832 dL_law_2834 (by decide) dL_law_2835 dL_law_2836 ?_
  refine J_aload_n C dL_law_2837 rfl rfl ?_
  refine J_invSX (rm := rmL_whyNotPermit) C rfl (As := [.ref (w.2.1 12 0), .int (xs (i + 1)), .int (xs (i + 2)), .int (xs (i + 3)), .ref (w.2.1 13 9)]) rfl (goodSX q6_111 q6_112 q1_0 q6_113) mdL_whyNotPermit rfl rfl ⟨by decide +kernel, by decide +kernel⟩ rfl ⟨by show kc + 3 ≤ 601024; omega, by show ks + 18 ≤ 7293033; omega⟩ (Nat.le_of_ble_eq_true rfl) dL_law_2838 ?_
  refine pc_whyNotPermit hW hR hb9 (fun τ hτ => ?_)
  dsimp only [Option.toList_some, Option.toList_none, List.cons_append, List.nil_append]
  refine J_istore C dL_law_2841 (Nat.le_of_ble_eq_true rfl) rfl ?_
  dsimp only [List.set]
  refine J_aload_n C dL_law_2843 rfl rfl ?_
  refine J_arg1 C hX (k := 1) rfl rfl (by omega) hL dL_law_2844 dL_law_2845 dL_law_2847 (by decide) dL_law_2848 dL_law_2849 ?_
  refine J_arg1 C hX (k := 2) rfl rfl (by omega) hL dL_law_2850 dL_law_2851 dL_law_2853 (by decide) dL_law_2854 dL_law_2855 ?_
  refine J_arg1 C hX (k := 3) rfl rfl (by omega) hL dL_law_2856 dL_law_2857 dL_law_2859 (by decide) dL_law_2860 dL_law_2861 ?_
  refine iL_334 C hW.2.1 rfl ⟨by decide +kernel, by decide +kernel⟩ ⟨by show kc + 3 + 0 ≤ 601024; omega, by show ks + 18 + 0 ≤ 7293033; omega⟩ (Nat.le_of_ble_eq_true rfl) dL_law_2862 ?_
  refine pr_whyNotPermit hW hR hb9 hτ (fun bb τ2 hP => ?_)
  dsimp only [Option.toList_some, Option.toList_none, List.cons_append, List.nil_append]
  refine J_widen (k := kc + 7) (n := ks + 42) (by omega) (by omega) ?_
  exact tail_I C hW.2.1 rfl rfl hP ⟨by decide +kernel, by decide +kernel⟩ ⟨by show kc + 7 + 0 ≤ 601024; omega, by show ks + 42 + 0 ≤ 7293033; omega⟩ dL_law_2865 dL_law_2867 dL_law_2868 dL_law_2871 dL_law_2873 dL_law_2878 dL_law_2880 dL_law_2883 dL_law_2884 dL_law_2885 dL_law_2886 dL_law_2888 dL_law_2889 dL_law_2890 dL_law_2895 rfl (fun _ _ => hk _ _ _)
theorem mdL_kiteInTheWay : yL_kiteInTheWay.cls ≠ "java/lang/invoke/MethodHandle" ∧ yL_kiteInTheWay.cls ≠ "java/lang/invoke/VarHandle" ∧ (parseMethodDescriptor yL_kiteInTheWay.desc).map (fun d => d.parameters.length) = some 5 := by decide +kernel
set_option maxHeartbeats 4000000 in
set_option maxRecDepth 100000 in
theorem lc_2898 {G : GC} {E : Ctx} {w : Lay} {kc ks hm f u b L i : Nat} {xs : Nat → Int32} {σ : Mem} (C : Cx G E cL_law RL 9 room_1) (hX : LawX G E b L xs) (hi : i + 7 ≤ L) (hL : L ≤ 3584) (hW : LAY w) (hR : REL hm σ f u) (hb9 : hm ≤ 800000) (hkc : kc ≤ 10000) (hks : ks ≤ 100000) (hk : ∀ τ f2 u2, REL (hm + 960) τ f2 u2 → J G E w (kc + 7) (ks + 42) 3399 [some (.ref b), some (.ref (w.2.1 12 0)), some (.ref (w.2.1 13 0)), some (.ref (w.2.1 13 9)), some (.int (nI i)), none, none, none, none] [] τ) : J G E w kc ks 2898 [some (.ref b), some (.ref (w.2.1 12 0)), some (.ref (w.2.1 13 0)), some (.ref (w.2.1 13 9)), some (.int (nI i)), none, none, none, none] [] σ := by
  refine J_aload_n C dL_law_2898 rfl rfl ?_
  refine J_arg1 C hX (k := 1) rfl rfl (by omega) hL dL_law_2899 dL_law_2900 dL_law_2902 (by decide) dL_law_2903 dL_law_2904 ?_
  refine J_arg1 C hX (k := 2) rfl rfl (by omega) hL dL_law_2905 dL_law_2906 dL_law_2908 (by decide) dL_law_2909 dL_law_2910 ?_
  refine J_arg1 C hX (k := 3) rfl rfl (by omega) hL dL_law_2911 dL_law_2912 dL_law_2914 (by decide) dL_law_2915 dL_law_2916 ?_
  refine J_aload_n C dL_law_2917 rfl rfl ?_
  refine J_invSX (rm := rmL_kiteInTheWay) C rfl (As := [.ref (w.2.1 12 0), .int (xs (i + 1)), .int (xs (i + 2)), .int (xs (i + 3)), .ref (w.2.1 13 9)]) rfl (goodSX q6_118 q6_119 q1_0 q6_120) mdL_kiteInTheWay rfl rfl ⟨by decide +kernel, by decide +kernel⟩ rfl ⟨by show kc + 3 ≤ 601024; omega, by show ks + 18 ≤ 7293033; omega⟩ (Nat.le_of_ble_eq_true rfl) dL_law_2918 ?_
  refine pc_kiteInTheWay hW hR hb9 (fun τ hτ => ?_)
  dsimp only [Option.toList_some, Option.toList_none, List.cons_append, List.nil_append]
  refine J_istore C dL_law_2921 (Nat.le_of_ble_eq_true rfl) rfl ?_
  dsimp only [List.set]
  refine J_aload_n C dL_law_2923 rfl rfl ?_
  refine J_arg1 C hX (k := 1) rfl rfl (by omega) hL dL_law_2924 dL_law_2925 dL_law_2927 (by decide) dL_law_2928 dL_law_2929 ?_
  refine J_arg1 C hX (k := 2) rfl rfl (by omega) hL dL_law_2930 dL_law_2931 dL_law_2933 (by decide) dL_law_2934 dL_law_2935 ?_
  refine J_arg1 C hX (k := 3) rfl rfl (by omega) hL dL_law_2936 dL_law_2937 dL_law_2939 (by decide) dL_law_2940 dL_law_2941 ?_
  refine iL_337 C hW.2.1 rfl ⟨by decide +kernel, by decide +kernel⟩ ⟨by show kc + 3 + 0 ≤ 601024; omega, by show ks + 18 + 0 ≤ 7293033; omega⟩ (Nat.le_of_ble_eq_true rfl) dL_law_2942 ?_
  refine pr_kiteInTheWay hW hR hb9 hτ (fun bb τ2 hP => ?_)
  dsimp only [Option.toList_some, Option.toList_none, List.cons_append, List.nil_append]
  refine J_widen (k := kc + 7) (n := ks + 42) (by omega) (by omega) ?_
  exact tail_I C hW.2.1 rfl rfl hP ⟨by decide +kernel, by decide +kernel⟩ ⟨by show kc + 7 + 0 ≤ 601024; omega, by show ks + 42 + 0 ≤ 7293033; omega⟩ dL_law_2945 dL_law_2947 dL_law_2948 dL_law_2951 dL_law_2953 dL_law_2958 dL_law_2960 dL_law_2963 dL_law_2964 dL_law_2965 dL_law_2966 dL_law_2968 dL_law_2969 dL_law_2970 dL_law_2975 rfl (fun _ _ => hk _ _ _)
theorem mdL_earliestStart : yL_earliestStart.cls ≠ "java/lang/invoke/MethodHandle" ∧ yL_earliestStart.cls ≠ "java/lang/invoke/VarHandle" ∧ (parseMethodDescriptor yL_earliestStart.desc).map (fun d => d.parameters.length) = some 4 := by decide +kernel
set_option maxHeartbeats 4000000 in
set_option maxRecDepth 100000 in
theorem lc_2978 {G : GC} {E : Ctx} {w : Lay} {kc ks hm f u b L i : Nat} {xs : Nat → Int32} {σ : Mem} (C : Cx G E cL_law RL 9 room_1) (hX : LawX G E b L xs) (hi : i + 7 ≤ L) (hL : L ≤ 3584) (hW : LAY w) (hR : REL hm σ f u) (hb9 : hm ≤ 800000) (hkc : kc ≤ 10000) (hks : ks ≤ 100000) (hk : ∀ τ f2 u2, REL (hm + 960) τ f2 u2 → J G E w (kc + 7) (ks + 42) 3399 [some (.ref b), some (.ref (w.2.1 12 0)), some (.ref (w.2.1 13 0)), some (.ref (w.2.1 13 9)), some (.int (nI i)), none, none, none, none] [] τ) : J G E w kc ks 2978 [some (.ref b), some (.ref (w.2.1 12 0)), some (.ref (w.2.1 13 0)), some (.ref (w.2.1 13 9)), some (.int (nI i)), none, none, none, none] [] σ := by
  refine J_aload_n C dL_law_2978 rfl rfl ?_
  refine J_arg1 C hX (k := 1) rfl rfl (by omega) hL dL_law_2979 dL_law_2980 dL_law_2982 (by decide) dL_law_2983 dL_law_2984 ?_
  refine J_arg1 C hX (k := 2) rfl rfl (by omega) hL dL_law_2985 dL_law_2986 dL_law_2988 (by decide) dL_law_2989 dL_law_2990 ?_
  refine J_aload_n C dL_law_2991 rfl rfl ?_
  refine J_invSX (rm := rmL_earliestStart) C rfl (As := [.ref (w.2.1 12 0), .int (xs (i + 1)), .int (xs (i + 2)), .ref (w.2.1 13 9)]) rfl (goodSX q6_126 q6_127 q1_0 q6_128) mdL_earliestStart rfl rfl ⟨by decide +kernel, by decide +kernel⟩ rfl ⟨by show kc + 2 ≤ 601024; omega, by show ks + 12 ≤ 7293033; omega⟩ (Nat.le_of_ble_eq_true rfl) dL_law_2992 ?_
  refine pc_earliestStart hW hR hb9 (fun τ hτ => ?_)
  dsimp only [Option.toList_some, Option.toList_none, List.cons_append, List.nil_append]
  refine J_istore C dL_law_2995 (Nat.le_of_ble_eq_true rfl) rfl ?_
  dsimp only [List.set]
  refine J_aload_n C dL_law_2997 rfl rfl ?_
  refine J_arg1 C hX (k := 1) rfl rfl (by omega) hL dL_law_2998 dL_law_2999 dL_law_3001 (by decide) dL_law_3002 dL_law_3003 ?_
  refine J_arg1 C hX (k := 2) rfl rfl (by omega) hL dL_law_3004 dL_law_3005 dL_law_3007 (by decide) dL_law_3008 dL_law_3009 ?_
  refine iL_340 C hW.2.1 rfl ⟨by decide +kernel, by decide +kernel⟩ ⟨by show kc + 2 + 0 ≤ 601024; omega, by show ks + 12 + 0 ≤ 7293033; omega⟩ (Nat.le_of_ble_eq_true rfl) dL_law_3010 ?_
  refine pr_earliestStart hW hR hb9 hτ (fun bb τ2 hP => ?_)
  dsimp only [Option.toList_some, Option.toList_none, List.cons_append, List.nil_append]
  refine J_widen (k := kc + 7) (n := ks + 42) (by omega) (by omega) ?_
  exact tail_I C hW.2.1 rfl rfl hP ⟨by decide +kernel, by decide +kernel⟩ ⟨by show kc + 7 + 0 ≤ 601024; omega, by show ks + 42 + 0 ≤ 7293033; omega⟩ dL_law_3013 dL_law_3015 dL_law_3016 dL_law_3019 dL_law_3021 dL_law_3026 dL_law_3028 dL_law_3031 dL_law_3032 dL_law_3033 dL_law_3034 dL_law_3036 dL_law_3037 dL_law_3038 dL_law_3043 rfl (fun _ _ => hk _ _ _)
theorem mdL_bestKnots : yL_bestKnots.cls ≠ "java/lang/invoke/MethodHandle" ∧ yL_bestKnots.cls ≠ "java/lang/invoke/VarHandle" ∧ (parseMethodDescriptor yL_bestKnots.desc).map (fun d => d.parameters.length) = some 4 := by decide +kernel
set_option maxHeartbeats 4000000 in
set_option maxRecDepth 100000 in
theorem lc_3046 {G : GC} {E : Ctx} {w : Lay} {kc ks hm f u b L i : Nat} {xs : Nat → Int32} {σ : Mem} (C : Cx G E cL_law RL 9 room_1) (hX : LawX G E b L xs) (hi : i + 7 ≤ L) (hL : L ≤ 3584) (hW : LAY w) (hR : REL hm σ f u) (hb9 : hm ≤ 800000) (hkc : kc ≤ 10000) (hks : ks ≤ 100000) (hk : ∀ τ f2 u2, REL (hm + 960) τ f2 u2 → J G E w (kc + 7) (ks + 42) 3399 [some (.ref b), some (.ref (w.2.1 12 0)), some (.ref (w.2.1 13 0)), some (.ref (w.2.1 13 9)), some (.int (nI i)), none, none, none, none] [] τ) : J G E w kc ks 3046 [some (.ref b), some (.ref (w.2.1 12 0)), some (.ref (w.2.1 13 0)), some (.ref (w.2.1 13 9)), some (.int (nI i)), none, none, none, none] [] σ := by
  refine J_aload_n C dL_law_3046 rfl rfl ?_
  refine J_arg1 C hX (k := 1) rfl rfl (by omega) hL dL_law_3047 dL_law_3048 dL_law_3050 (by decide) dL_law_3051 dL_law_3052 ?_
  refine J_arg1 C hX (k := 2) rfl rfl (by omega) hL dL_law_3053 dL_law_3054 dL_law_3056 (by decide) dL_law_3057 dL_law_3058 ?_
  refine J_aload_n C dL_law_3059 rfl rfl ?_
  refine J_invSX (rm := rmL_bestKnots) C rfl (As := [.ref (w.2.1 12 0), .int (xs (i + 1)), .int (xs (i + 2)), .ref (w.2.1 13 9)]) rfl (goodSX q6_133 q6_134 q1_0 q6_135) mdL_bestKnots rfl rfl ⟨by decide +kernel, by decide +kernel⟩ rfl ⟨by show kc + 2 ≤ 601024; omega, by show ks + 12 ≤ 7293033; omega⟩ (Nat.le_of_ble_eq_true rfl) dL_law_3060 ?_
  refine pc_bestKnots hW hR hb9 (fun τ hτ => ?_)
  dsimp only [Option.toList_some, Option.toList_none, List.cons_append, List.nil_append]
  refine J_istore C dL_law_3063 (Nat.le_of_ble_eq_true rfl) rfl ?_
  dsimp only [List.set]
  refine J_aload_n C dL_law_3065 rfl rfl ?_
  refine J_arg1 C hX (k := 1) rfl rfl (by omega) hL dL_law_3066 dL_law_3067 dL_law_3069 (by decide) dL_law_3070 dL_law_3071 ?_
  refine J_arg1 C hX (k := 2) rfl rfl (by omega) hL dL_law_3072 dL_law_3073 dL_law_3075 (by decide) dL_law_3076 dL_law_3077 ?_
  refine iL_343 C hW.2.1 rfl ⟨by decide +kernel, by decide +kernel⟩ ⟨by show kc + 2 + 0 ≤ 601024; omega, by show ks + 12 + 0 ≤ 7293033; omega⟩ (Nat.le_of_ble_eq_true rfl) dL_law_3078 ?_
  refine pr_bestKnots hW hR hb9 hτ (fun bb τ2 hP => ?_)
  dsimp only [Option.toList_some, Option.toList_none, List.cons_append, List.nil_append]
  refine J_widen (k := kc + 7) (n := ks + 42) (by omega) (by omega) ?_
  exact tail_I C hW.2.1 rfl rfl hP ⟨by decide +kernel, by decide +kernel⟩ ⟨by show kc + 7 + 0 ≤ 601024; omega, by show ks + 42 + 0 ≤ 7293033; omega⟩ dL_law_3081 dL_law_3083 dL_law_3084 dL_law_3087 dL_law_3089 dL_law_3094 dL_law_3096 dL_law_3099 dL_law_3100 dL_law_3101 dL_law_3102 dL_law_3104 dL_law_3105 dL_law_3106 dL_law_3111 rfl (fun _ _ => hk _ _ _)
theorem mdL_guiltyKite : yL_guiltyKite.cls ≠ "java/lang/invoke/MethodHandle" ∧ yL_guiltyKite.cls ≠ "java/lang/invoke/VarHandle" ∧ (parseMethodDescriptor yL_guiltyKite.desc).map (fun d => d.parameters.length) = some 4 := by decide +kernel
set_option maxHeartbeats 4000000 in
set_option maxRecDepth 100000 in
theorem lc_3114 {G : GC} {E : Ctx} {w : Lay} {kc ks hm f u b L i : Nat} {xs : Nat → Int32} {σ : Mem} (C : Cx G E cL_law RL 9 room_1) (hX : LawX G E b L xs) (hi : i + 7 ≤ L) (hL : L ≤ 3584) (hW : LAY w) (hR : REL hm σ f u) (hb9 : hm ≤ 800000) (hkc : kc ≤ 10000) (hks : ks ≤ 100000) (hk : ∀ τ f2 u2, REL (hm + 960) τ f2 u2 → J G E w (kc + 7) (ks + 42) 3399 [some (.ref b), some (.ref (w.2.1 12 0)), some (.ref (w.2.1 13 0)), some (.ref (w.2.1 13 9)), some (.int (nI i)), none, none, none, none] [] τ) : J G E w kc ks 3114 [some (.ref b), some (.ref (w.2.1 12 0)), some (.ref (w.2.1 13 0)), some (.ref (w.2.1 13 9)), some (.int (nI i)), none, none, none, none] [] σ := by
  refine J_aload_n C dL_law_3114 rfl rfl ?_
  refine J_arg1 C hX (k := 1) rfl rfl (by omega) hL dL_law_3115 dL_law_3116 dL_law_3118 (by decide) dL_law_3119 dL_law_3120 ?_
  refine J_arg1 C hX (k := 2) rfl rfl (by omega) hL dL_law_3121 dL_law_3122 dL_law_3124 (by decide) dL_law_3125 dL_law_3126 ?_
  refine J_aload_n C dL_law_3127 rfl rfl ?_
  refine J_invSX (rm := rmL_guiltyKite) C rfl (As := [.ref (w.2.1 12 0), .int (xs (i + 1)), .int (xs (i + 2)), .ref (w.2.1 13 9)]) rfl (goodSX q6_142 q6_143 q1_0 q6_144) mdL_guiltyKite rfl rfl ⟨by decide +kernel, by decide +kernel⟩ rfl ⟨by show kc + 5 ≤ 601024; omega, by show ks + 30 ≤ 7293033; omega⟩ (Nat.le_of_ble_eq_true rfl) dL_law_3128 ?_
  refine pc_guiltyKite hW hR hb9 (fun τ hτ => ?_)
  dsimp only [Option.toList_some, Option.toList_none, List.cons_append, List.nil_append]
  refine J_istore C dL_law_3131 (Nat.le_of_ble_eq_true rfl) rfl ?_
  dsimp only [List.set]
  refine J_aload_n C dL_law_3133 rfl rfl ?_
  refine J_arg1 C hX (k := 1) rfl rfl (by omega) hL dL_law_3134 dL_law_3135 dL_law_3137 (by decide) dL_law_3138 dL_law_3139 ?_
  refine J_arg1 C hX (k := 2) rfl rfl (by omega) hL dL_law_3140 dL_law_3141 dL_law_3143 (by decide) dL_law_3144 dL_law_3145 ?_
  refine iL_346 C hW.2.1 rfl ⟨by decide +kernel, by decide +kernel⟩ ⟨by show kc + 5 + 0 ≤ 601024; omega, by show ks + 30 + 0 ≤ 7293033; omega⟩ (Nat.le_of_ble_eq_true rfl) dL_law_3146 ?_
  refine pr_guiltyKite hW hR hb9 hτ (fun bb τ2 hP => ?_)
  dsimp only [Option.toList_some, Option.toList_none, List.cons_append, List.nil_append]
  refine J_widen (k := kc + 7) (n := ks + 42) (by omega) (by omega) ?_
  exact tail_I C hW.2.1 rfl rfl hP ⟨by decide +kernel, by decide +kernel⟩ ⟨by show kc + 7 + 0 ≤ 601024; omega, by show ks + 42 + 0 ≤ 7293033; omega⟩ dL_law_3149 dL_law_3151 dL_law_3152 dL_law_3155 dL_law_3157 dL_law_3162 dL_law_3164 dL_law_3167 dL_law_3168 dL_law_3169 dL_law_3170 dL_law_3172 dL_law_3173 dL_law_3174 dL_law_3179 rfl (fun _ _ => hk _ _ _)
theorem mdL_verdictsIn : yL_verdictsIn.cls ≠ "java/lang/invoke/MethodHandle" ∧ yL_verdictsIn.cls ≠ "java/lang/invoke/VarHandle" ∧ (parseMethodDescriptor yL_verdictsIn.desc).map (fun d => d.parameters.length) = some 3 := by decide +kernel
set_option maxHeartbeats 4000000 in
set_option maxRecDepth 100000 in
theorem lc_3182 {G : GC} {E : Ctx} {w : Lay} {kc ks hm f u b L i : Nat} {xs : Nat → Int32} {σ : Mem} (C : Cx G E cL_law RL 9 room_1) (hX : LawX G E b L xs) (hi : i + 7 ≤ L) (hL : L ≤ 3584) (hW : LAY w) (hR : REL hm σ f u) (hb9 : hm ≤ 800000) (hkc : kc ≤ 10000) (hks : ks ≤ 100000) (hk : ∀ τ f2 u2, REL (hm + 960) τ f2 u2 → J G E w (kc + 7) (ks + 42) 3399 [some (.ref b), some (.ref (w.2.1 12 0)), some (.ref (w.2.1 13 0)), some (.ref (w.2.1 13 9)), some (.int (nI i)), none, none, none, none] [] τ) : J G E w kc ks 3182 [some (.ref b), some (.ref (w.2.1 12 0)), some (.ref (w.2.1 13 0)), some (.ref (w.2.1 13 9)), some (.int (nI i)), none, none, none, none] [] σ := by
  refine J_aload_n C dL_law_3182 rfl rfl ?_
  refine J_arg1 C hX (k := 1) rfl rfl (by omega) hL dL_law_3183 dL_law_3184 dL_law_3186 (by decide) dL_law_3187 dL_law_3188 ?_
  refine J_aload_n C dL_law_3189 rfl rfl ?_
  refine J_invSX (rm := rmL_verdictsIn) C rfl (As := [.ref (w.2.1 12 0), .int (xs (i + 1)), .ref (w.2.1 13 9)]) rfl (goodSX q6_150 q6_151 q1_0 q6_152) mdL_verdictsIn rfl rfl ⟨by decide +kernel, by decide +kernel⟩ rfl ⟨by show kc + 1 ≤ 601024; omega, by show ks + 6 ≤ 7293033; omega⟩ (Nat.le_of_ble_eq_true rfl) dL_law_3190 ?_
  refine pc_verdictsIn hW hR hb9 (fun τ hτ => ?_)
  dsimp only [Option.toList_some, Option.toList_none, List.cons_append, List.nil_append]
  refine J_istore C dL_law_3193 (Nat.le_of_ble_eq_true rfl) rfl ?_
  dsimp only [List.set]
  refine J_aload_n C dL_law_3195 rfl rfl ?_
  refine J_arg1 C hX (k := 1) rfl rfl (by omega) hL dL_law_3196 dL_law_3197 dL_law_3199 (by decide) dL_law_3200 dL_law_3201 ?_
  refine iL_349 C hW.2.1 rfl ⟨by decide +kernel, by decide +kernel⟩ ⟨by show kc + 1 + 0 ≤ 601024; omega, by show ks + 6 + 0 ≤ 7293033; omega⟩ (Nat.le_of_ble_eq_true rfl) dL_law_3202 ?_
  refine pr_verdictsIn hW hR hb9 hτ (fun bb τ2 hP => ?_)
  dsimp only [Option.toList_some, Option.toList_none, List.cons_append, List.nil_append]
  refine J_widen (k := kc + 7) (n := ks + 42) (by omega) (by omega) ?_
  exact tail_I C hW.2.1 rfl rfl hP ⟨by decide +kernel, by decide +kernel⟩ ⟨by show kc + 7 + 0 ≤ 601024; omega, by show ks + 42 + 0 ≤ 7293033; omega⟩ dL_law_3205 dL_law_3207 dL_law_3208 dL_law_3211 dL_law_3213 dL_law_3218 dL_law_3220 dL_law_3223 dL_law_3224 dL_law_3225 dL_law_3226 dL_law_3228 dL_law_3229 dL_law_3230 dL_law_3235 rfl (fun _ _ => hk _ _ _)
set_option maxHeartbeats 4000000 in
set_option maxRecDepth 100000 in
theorem lc_3238 {G : GC} {E : Ctx} {w : Lay} {kc ks hm f u b L i : Nat} {xs : Nat → Int32} {σ : Mem} (C : Cx G E cL_law RL 9 room_1) (hX : LawX G E b L xs) (hi : i + 7 ≤ L) (hL : L ≤ 3584) (hW : LAY w) (hR : REL hm σ f u) (hb9 : hm ≤ 800000) (hkc : kc ≤ 10000) (hks : ks ≤ 100000) (hk : ∀ τ f2 u2, REL (hm + 960) τ f2 u2 → J G E w (kc + 7) (ks + 42) 3399 [some (.ref b), some (.ref (w.2.1 12 0)), some (.ref (w.2.1 13 0)), some (.ref (w.2.1 13 9)), some (.int (nI i)), none, none, none, none] [] τ) : J G E w kc ks 3238 [some (.ref b), some (.ref (w.2.1 12 0)), some (.ref (w.2.1 13 0)), some (.ref (w.2.1 13 9)), some (.int (nI i)), none, none, none, none] [] σ := by
  refine J_aload_n C dL_law_3238 rfl rfl ?_
  refine iL_350 C hW.1 rfl ⟨by decide +kernel, by decide +kernel⟩ ⟨by show kc + 0 ≤ 601024; omega, by show ks + 0 ≤ 7293033; omega⟩ (Nat.le_of_ble_eq_true rfl) dL_law_3239 ?_
  refine c_X9_officeCoins hW.1 (hW.2.2.1 0 (by decide)) hR.1.2.1 hR.1.1 ?_
  dsimp only [Option.toList_some, Option.toList_none, List.cons_append, List.nil_append]
  refine J_aload_n C dL_law_3242 rfl rfl ?_
  refine iL_353 C hW.2.1 rfl ⟨by decide +kernel, by decide +kernel⟩ ⟨by show kc + 0 + 0 ≤ 601024; omega, by show ks + 0 + 0 ≤ 7293033; omega⟩ (Nat.le_of_ble_eq_true rfl) dL_law_3243 ?_
  refine c_X10_officeCoins hW.2.1 ?_
  dsimp only [Option.toList_some, Option.toList_none, List.cons_append, List.nil_append]
  refine J_widen (k := kc + 7) (n := ks + 42) (by omega) (by omega) ?_
  exact J_icmp_eq C (tgt := 3399) dL_law_3246 rfl (fun _ => hk _ _ _ (REL_thr hR (by omega))) (fun h => absurd rfl h)
set_option maxHeartbeats 4000000 in
set_option maxRecDepth 100000 in
theorem lc_3251 {G : GC} {E : Ctx} {w : Lay} {kc ks hm f u b L i : Nat} {xs : Nat → Int32} {σ : Mem} (C : Cx G E cL_law RL 9 room_1) (hX : LawX G E b L xs) (hi : i + 7 ≤ L) (hL : L ≤ 3584) (hW : LAY w) (hR : REL hm σ f u) (hb9 : hm ≤ 800000) (hkc : kc ≤ 10000) (hks : ks ≤ 100000) (hk : ∀ τ f2 u2, REL (hm + 960) τ f2 u2 → J G E w (kc + 7) (ks + 42) 3399 [some (.ref b), some (.ref (w.2.1 12 0)), some (.ref (w.2.1 13 0)), some (.ref (w.2.1 13 9)), some (.int (nI i)), none, none, none, none] [] τ) : J G E w kc ks 3251 [some (.ref b), some (.ref (w.2.1 12 0)), some (.ref (w.2.1 13 0)), some (.ref (w.2.1 13 9)), some (.int (nI i)), none, none, none, none] [] σ := by
  refine J_aload_n C dL_law_3251 rfl rfl ?_
  refine iL_354 C hW.1 rfl ⟨by decide +kernel, by decide +kernel⟩ ⟨by show kc + 0 ≤ 601024; omega, by show ks + 0 ≤ 7293033; omega⟩ (Nat.le_of_ble_eq_true rfl) dL_law_3252 ?_
  refine c_X9_coinError hW.1 (hW.2.2.1 0 (by decide)) hR.1.2.1 hR.1.1 ?_
  dsimp only [Option.toList_some, Option.toList_none, List.cons_append, List.nil_append]
  refine J_aload_n C dL_law_3255 rfl rfl ?_
  refine iL_357 C hW.2.1 rfl ⟨by decide +kernel, by decide +kernel⟩ ⟨by show kc + 0 + 0 ≤ 601024; omega, by show ks + 0 + 0 ≤ 7293033; omega⟩ (Nat.le_of_ble_eq_true rfl) dL_law_3256 ?_
  refine c_X10_coinError hW.2.1 (hm := hm) hR.1.1 ?_
  dsimp only [Option.toList_some, Option.toList_none, List.cons_append, List.nil_append]
  refine J_widen (k := kc + 7) (n := ks + 42) (by omega) (by omega) ?_
  exact J_icmp_eq C (tgt := 3399) dL_law_3259 rfl (fun _ => hk _ _ _ (REL_thr hR (by omega))) (fun h => absurd rfl h)
set_option maxHeartbeats 4000000 in
set_option maxRecDepth 100000 in
theorem lc_3264 {G : GC} {E : Ctx} {w : Lay} {kc ks hm f u b L i : Nat} {xs : Nat → Int32} {σ : Mem} (C : Cx G E cL_law RL 9 room_1) (hX : LawX G E b L xs) (hi : i + 7 ≤ L) (hL : L ≤ 3584) (hW : LAY w) (hR : REL hm σ f u) (hb9 : hm ≤ 800000) (hkc : kc ≤ 10000) (hks : ks ≤ 100000) (hk : ∀ τ f2 u2, REL (hm + 960) τ f2 u2 → J G E w (kc + 7) (ks + 42) 3399 [some (.ref b), some (.ref (w.2.1 12 0)), some (.ref (w.2.1 13 0)), some (.ref (w.2.1 13 9)), some (.int (nI i)), none, none, none, none] [] τ) : J G E w kc ks 3264 [some (.ref b), some (.ref (w.2.1 12 0)), some (.ref (w.2.1 13 0)), some (.ref (w.2.1 13 9)), some (.int (nI i)), none, none, none, none] [] σ := by
  refine J_aload_n C dL_law_3264 rfl rfl ?_
  refine iL_358 C hW.1 rfl ⟨by decide +kernel, by decide +kernel⟩ ⟨by show kc + 0 ≤ 601024; omega, by show ks + 0 ≤ 7293033; omega⟩ (Nat.le_of_ble_eq_true rfl) dL_law_3265 ?_
  refine c_X9_permittedCrossings hW.1 (hW.2.2.1 0 (by decide)) hR.1.2.1 hR.1.1 (by have q := (r_HOUR hR.1.1).2; omega) ?_
  dsimp only [Option.toList_some, Option.toList_none, List.cons_append, List.nil_append]
  refine J_aload_n C dL_law_3268 rfl rfl ?_
  refine iL_361 C hW.2.1 rfl ⟨by decide +kernel, by decide +kernel⟩ ⟨by show kc + 0 + 0 ≤ 601024; omega, by show ks + 0 + 0 ≤ 7293033; omega⟩ (Nat.le_of_ble_eq_true rfl) dL_law_3269 ?_
  refine c_X10_permittedCrossings hW.2.1 (hm := hm) hR.1.1 (by omega) ?_
  dsimp only [Option.toList_some, Option.toList_none, List.cons_append, List.nil_append]
  refine J_widen (k := kc + 7) (n := ks + 42) (by omega) (by omega) ?_
  exact J_icmp_eq C (tgt := 3399) dL_law_3272 rfl (fun _ => hk _ _ _ (REL_thr hR (by omega))) (fun h => absurd rfl h)
set_option maxHeartbeats 4000000 in
set_option maxRecDepth 100000 in
theorem lc_3277 {G : GC} {E : Ctx} {w : Lay} {kc ks hm f u b L i : Nat} {xs : Nat → Int32} {σ : Mem} (C : Cx G E cL_law RL 9 room_1) (hX : LawX G E b L xs) (hi : i + 7 ≤ L) (hL : L ≤ 3584) (hW : LAY w) (hR : REL hm σ f u) (hb9 : hm ≤ 800000) (hkc : kc ≤ 10000) (hks : ks ≤ 100000) (hk : ∀ τ f2 u2, REL (hm + 960) τ f2 u2 → J G E w (kc + 7) (ks + 42) 3399 [some (.ref b), some (.ref (w.2.1 12 0)), some (.ref (w.2.1 13 0)), some (.ref (w.2.1 13 9)), some (.int (nI i)), none, none, none, none] [] τ) : J G E w kc ks 3277 [some (.ref b), some (.ref (w.2.1 12 0)), some (.ref (w.2.1 13 0)), some (.ref (w.2.1 13 9)), some (.int (nI i)), none, none, none, none] [] σ := by
  refine J_aload_n C dL_law_3277 rfl rfl ?_
  refine iL_362 C hW.1 rfl ⟨by decide +kernel, by decide +kernel⟩ ⟨by show kc + 0 ≤ 601024; omega, by show ks + 0 ≤ 7293033; omega⟩ (Nat.le_of_ble_eq_true rfl) dL_law_3278 ?_
  refine c_X9_meanReach hW.1 (hW.2.2.1 0 (by decide)) hR.1.2.1 hR.1.1 (by have q := (r_HOUR hR.1.1).2; omega) ?_
  dsimp only [Option.toList_some, Option.toList_none, List.cons_append, List.nil_append]
  refine J_dstore C dL_law_3281 (Nat.le_of_ble_eq_true rfl) rfl ?_
  dsimp only [List.set]
  refine J_aload_n C dL_law_3283 rfl rfl ?_
  refine iL_366 C hW.2.1 rfl ⟨by decide +kernel, by decide +kernel⟩ ⟨by show kc + 0 + 0 ≤ 601024; omega, by show ks + 0 + 0 ≤ 7293033; omega⟩ (Nat.le_of_ble_eq_true rfl) dL_law_3284 ?_
  refine c_X10_meanReach hW.2.1 (hm := hm) hR.1.1 (by omega) ?_
  dsimp only [Option.toList_some, Option.toList_none, List.cons_append, List.nil_append]
  refine J_widen (k := kc + 7) (n := ks + 42) (by omega) (by omega) ?_
  refine J_dstore C dL_law_3287 (Nat.le_of_ble_eq_true rfl) rfl ?_
  dsimp only [List.set]
  exact tail_D C dL_law_3289 dL_law_3291 dL_law_3293 dL_law_3294 dL_law_3297 dL_law_3299 dL_law_3301 dL_law_3302 dL_law_3305 dL_law_3307 dL_law_3309 dL_law_3310 dL_law_3315 rfl (hk _ _ _ (REL_thr hR (by omega)))
set_option maxHeartbeats 4000000 in
set_option maxRecDepth 100000 in
theorem lc_3318 {G : GC} {E : Ctx} {w : Lay} {kc ks hm f u b L i : Nat} {xs : Nat → Int32} {σ : Mem} (C : Cx G E cL_law RL 9 room_1) (hX : LawX G E b L xs) (hi : i + 7 ≤ L) (hL : L ≤ 3584) (hW : LAY w) (hR : REL hm σ f u) (hb9 : hm ≤ 800000) (hkc : kc ≤ 10000) (hks : ks ≤ 100000) (hk : ∀ τ f2 u2, REL (hm + 960) τ f2 u2 → J G E w (kc + 7) (ks + 42) 3399 [some (.ref b), some (.ref (w.2.1 12 0)), some (.ref (w.2.1 13 0)), some (.ref (w.2.1 13 9)), some (.int (nI i)), none, none, none, none] [] τ) : J G E w kc ks 3318 [some (.ref b), some (.ref (w.2.1 12 0)), some (.ref (w.2.1 13 0)), some (.ref (w.2.1 13 9)), some (.int (nI i)), none, none, none, none] [] σ := by
  refine J_aload_n C dL_law_3318 rfl rfl ?_
  refine iL_367 C hW.1 rfl ⟨by decide +kernel, by decide +kernel⟩ ⟨by show kc + 0 ≤ 601024; omega, by show ks + 0 ≤ 7293033; omega⟩ (Nat.le_of_ble_eq_true rfl) dL_law_3319 ?_
  refine c_X9_tangledShare hW.1 (hW.2.2.1 0 (by decide)) hR.1.2.1 hR.1.1 ?_
  dsimp only [Option.toList_some, Option.toList_none, List.cons_append, List.nil_append]
  refine J_f2d C dL_law_3322 (tsV_ok hR.1.1) ?_
  refine J_dstore C dL_law_3323 (Nat.le_of_ble_eq_true rfl) rfl ?_
  dsimp only [List.set]
  refine J_aload_n C dL_law_3325 rfl rfl ?_
  refine iL_371 C hW.2.1 rfl ⟨by decide +kernel, by decide +kernel⟩ ⟨by show kc + 0 + 0 ≤ 601024; omega, by show ks + 0 + 0 ≤ 7293033; omega⟩ (Nat.le_of_ble_eq_true rfl) dL_law_3326 ?_
  refine c_X10_tangledShare hW.2.1 (hm := hm) hR.1.1 ?_
  dsimp only [Option.toList_some, Option.toList_none, List.cons_append, List.nil_append]
  refine J_widen (k := kc + 7) (n := ks + 42) (by omega) (by omega) ?_
  refine J_f2d C dL_law_3329 (tsV_ok hR.1.1) ?_
  refine J_dstore C dL_law_3330 (Nat.le_of_ble_eq_true rfl) rfl ?_
  dsimp only [List.set]
  exact tail_D C dL_law_3332 dL_law_3334 dL_law_3336 dL_law_3337 dL_law_3340 dL_law_3342 dL_law_3344 dL_law_3345 dL_law_3348 dL_law_3350 dL_law_3352 dL_law_3353 dL_law_3358 rfl (hk _ _ _ (REL_thr hR (by omega)))
set_option maxHeartbeats 4000000 in
set_option maxRecDepth 100000 in
theorem lc_3361 {G : GC} {E : Ctx} {w : Lay} {kc ks hm f u b L i : Nat} {xs : Nat → Int32} {σ : Mem} (C : Cx G E cL_law RL 9 room_1) (hX : LawX G E b L xs) (hi : i + 7 ≤ L) (hL : L ≤ 3584) (hW : LAY w) (hR : REL hm σ f u) (hb9 : hm ≤ 800000) (hkc : kc ≤ 10000) (hks : ks ≤ 100000) (hk : ∀ τ f2 u2, REL (hm + 960) τ f2 u2 → J G E w (kc + 7) (ks + 42) 3399 [some (.ref b), some (.ref (w.2.1 12 0)), some (.ref (w.2.1 13 0)), some (.ref (w.2.1 13 9)), some (.int (nI i)), none, none, none, none] [] τ) : J G E w kc ks 3361 [some (.ref b), some (.ref (w.2.1 12 0)), some (.ref (w.2.1 13 0)), some (.ref (w.2.1 13 9)), some (.int (nI i)), none, none, none, none] [] σ := by
  refine J_aload_n C dL_law_3361 rfl rfl ?_
  refine iL_372 C hW.1 rfl ⟨by decide +kernel, by decide +kernel⟩ ⟨by show kc + 0 ≤ 601024; omega, by show ks + 0 ≤ 7293033; omega⟩ (Nat.le_of_ble_eq_true rfl) dL_law_3362 ?_
  refine c_X9_writePermits hW.1 (hW.2.2.1 0 (by decide)) hR.1.2.1 hR.1.1 ?_
  dsimp only [Option.toList_some, Option.toList_none, List.cons_append, List.nil_append]
  refine J_aload_n C dL_law_3365 rfl rfl ?_
  refine iL_375 C hW.2.1 rfl ⟨by decide +kernel, by decide +kernel⟩ ⟨by show kc + 0 + 0 ≤ 601024; omega, by show ks + 0 + 0 ≤ 7293033; omega⟩ (Nat.le_of_ble_eq_true rfl) dL_law_3366 ?_
  have e1 : ∀ S, rd (setC σ S) 13 1 = rd σ 13 1 := fun S => funext fun j => setC_fr (by omega)
  have e5 : ∀ S, rd (setC σ S) 13 5 = rd σ 13 5 := fun S => funext fun j => setC_fr (by omega)
  refine c_X10_writePermits hW.2.1 (hm := hm) (by rw [e1]; exact hR.1.1) ?_
  rw [e1, e5]
  obtain ⟨g1, g2⟩ := REL_wp hR
  rw [g1]
  dsimp only [Option.toList_some, Option.toList_none, List.cons_append, List.nil_append]
  refine J_widen (k := kc + 7) (n := ks + 42) (by omega) (by omega) ?_
  exact J_icmp_eq C (tgt := 3399) dL_law_3369 rfl (fun _ => hk _ _ _ g2) (fun h => absurd rfl h)
set_option maxHeartbeats 4000000 in
set_option maxRecDepth 100000 in
theorem lc_3374 {G : GC} {E : Ctx} {w : Lay} {kc ks hm f u b L i : Nat} {xs : Nat → Int32} {σ : Mem} (C : Cx G E cL_law RL 9 room_1) (hX : LawX G E b L xs) (hi : i + 7 ≤ L) (hL : L ≤ 3584) (hW : LAY w) (hR : REL hm σ f u) (hb9 : hm ≤ 800000) (hkc : kc ≤ 10000) (hks : ks ≤ 100000) (hk : ∀ τ f2 u2, REL (hm + 960) τ f2 u2 → J G E w (kc + 7) (ks + 42) 3399 [some (.ref b), some (.ref (w.2.1 12 0)), some (.ref (w.2.1 13 0)), some (.ref (w.2.1 13 9)), some (.int (nI i)), none, none, none, none] [] τ) : J G E w kc ks 3374 [some (.ref b), some (.ref (w.2.1 12 0)), some (.ref (w.2.1 13 0)), some (.ref (w.2.1 13 9)), some (.int (nI i)), none, none, none, none] [] σ := by
  obtain ⟨O, ho1, ho2, ho3, ho4⟩ := hR.2.2.2.2.2
  refine J_aload_n C dL_law_3374 rfl rfl ?_
  refine J_arg1 C hX (k := 1) rfl rfl (by omega) hL dL_law_3375 dL_law_3376 dL_law_3378 (by decide) dL_law_3379 dL_law_3380 ?_
  refine iL_376 C hW.1 rfl ⟨by decide +kernel, by decide +kernel⟩ ⟨by show kc + 0 ≤ 601024; omega, by show ks + 0 ≤ 7293033; omega⟩ (Nat.le_of_ble_eq_true rfl) dL_law_3381 ?_
  refine c_X9_outputByte hW.1 ho2 ho1 ?_
  dsimp only [Option.toList_some, Option.toList_none, List.cons_append, List.nil_append]
  refine J_aload_n C dL_law_3384 rfl rfl ?_
  refine J_arg1 C hX (k := 1) rfl rfl (by omega) hL dL_law_3385 dL_law_3386 dL_law_3388 (by decide) dL_law_3389 dL_law_3390 ?_
  refine iL_379 C hW.2.1 rfl ⟨by decide +kernel, by decide +kernel⟩ ⟨by show kc + 0 + 0 ≤ 601024; omega, by show ks + 0 + 0 ≤ 7293033; omega⟩ (Nat.le_of_ble_eq_true rfl) dL_law_3391 ?_
  refine c_X10_outputByte hW.2.1 ho3 (by omega) ?_
  rw [aOB_eq ho4 (by omega)]
  dsimp only [Option.toList_some, Option.toList_none, List.cons_append, List.nil_append]
  refine J_widen (k := kc + 7) (n := ks + 42) (by omega) (by omega) ?_
  exact J_icmp_eq C (tgt := 3399) dL_law_3394 rfl (fun _ => hk _ _ _ (REL_thr hR (by omega))) (fun h => absurd rfl h)
