/-! ===== the law's loop ===== -/
set_option maxHeartbeats 4000000 in
set_option maxRecDepth 100000 in
theorem law_loop {G : GC} {E : Ctx} {w : Lay} {b L : Nat} {xs : Nat → Int32} (C : Cx G E cL_law RL 9 room_1) (hX : LawX G E b L xs) (hL : L ≤ 3584) (hW : LAY w) (hend : ∀ (kc ks : Nat) (σ : Mem) (ls : List (Option Value)), ls.length = 9 → kc ≤ 601024 → ks ≤ 7293033 → J G E w kc ks 3405 ls [] σ) : ∀ (dd n kc ks f u : Nat) (σ : Mem), L - 7 * n < dd → 7 * n ≤ L → REL (960 * n) σ f u → kc ≤ 300 + 7 * n → ks ≤ 11000 + 42 * n → J G E w kc ks 23 [some (.ref b), some (.ref (w.2.1 12 0)), some (.ref (w.2.1 13 0)), some (.ref (w.2.1 13 9)), some (.int (nI (7 * n))), none, none, none, none] [] σ := by
  intro dd
  induction dd with
  | zero =>
    intro n kc ks f u σ h
    exact absurd h (Nat.not_lt_zero _)
  | succ dd ih =>
    intro n kc ks f u σ hdd hn hR hkc hks
    refine J_iload C dL_law_23 rfl ?_
    refine J_aload_n C dL_law_25 rfl rfl ?_
    refine J_slen C hX dL_law_26 ?_
    refine J_bipush (v := nI 7) C dL_law_27 (by decide) ?_
    refine J_isub_z C (a := (L : Int)) (b := 7) (nI_iI L) rfl dL_law_29 ?_
    refine J_icmp_gt_z C (a := ((7 * n : Nat) : Int)) (b := (L : Int) - 7) (nI_iI (7 * n)) rfl (by omega) (by omega) (tgt := 3405) dL_law_30 (by decide) (fun _ => hend _ _ _ _ rfl (by omega) (by omega)) (fun hle => ?_)
    have hi : 7 * n + 7 ≤ L := by omega
    refine J_aload_n C dL_law_33 rfl rfl ?_
    refine J_iload C dL_law_34 rfl ?_
    refine J_sld C hX rfl (k := 7 * n) (by omega) hL dL_law_36 ?_
    refine J_bipush (v := nI 63) C dL_law_37 (by decide) ?_
    refine J_iand C dL_law_39 ?_
    obtain ⟨c, hc, ec⟩ := and63 (xs (7 * n))
    rw [ec]
    have hk : ∀ τ f2 u2, REL (960 * n + 960) τ f2 u2 → J G E w (kc + 7) (ks + 42) 3399 [some (.ref b), some (.ref (w.2.1 12 0)), some (.ref (w.2.1 13 0)), some (.ref (w.2.1 13 9)), some (.int (nI (7 * n))), none, none, none, none] [] τ := fun τ f2 u2 h => by
      refine J_iinc_n (m := 7) C (by decide) dL_law_3399 rfl (Nat.le_of_ble_eq_true rfl) rfl ?_
      dsimp only [List.set]
      refine J_goto (tgt := 23) C dL_law_3402 (by decide) ?_
      have e : 7 * n + 7 = 7 * (n + 1) := by omega
      rw [e]
      exact ih (n + 1) _ _ _ _ _ (by omega) (by omega) (by rw [show 960 * (n + 1) = 960 * n + 960 by omega]; exact h) (by omega) (by omega)
    by_cases e0 : c = 0
    · subst e0
      exact J_tableIn C (off := 264) (tgt := 304) dL_law_40 (by decide) (by decide) rfl rfl (lc_304 C hX hi hL hW hR (by omega) (by omega) (by omega) hk)
    by_cases e1 : c = 1
    · subst e1
      exact J_tableIn C (off := 368) (tgt := 408) dL_law_40 (by decide) (by decide) rfl rfl (lc_408 C hX hi hL hW hR (by omega) (by omega) (by omega) hk)
    by_cases e2 : c = 2
    · subst e2
      exact J_tableIn C (off := 424) (tgt := 464) dL_law_40 (by decide) (by decide) rfl rfl (lc_464 C hX hi hL hW hR (by omega) (by omega) (by omega) hk)
    by_cases e3 : c = 3
    · subst e3
      exact J_tableIn C (off := 437) (tgt := 477) dL_law_40 (by decide) (by decide) rfl rfl (lc_477 C hX hi hL hW hR (by omega) (by omega) (by omega) hk)
    by_cases e4 : c = 4
    · subst e4
      exact J_tableIn C (off := 450) (tgt := 490) dL_law_40 (by decide) (by decide) rfl rfl (lc_490 C hX hi hL hW hR (by omega) (by omega) (by omega) hk)
    by_cases e5 : c = 5
    · subst e5
      exact J_tableIn C (off := 494) (tgt := 534) dL_law_40 (by decide) (by decide) rfl rfl (lc_534 C hX hi hL hW hR (by omega) (by omega) (by omega) hk)
    by_cases e6 : c = 6
    · subst e6
      exact J_tableIn C (off := 538) (tgt := 578) dL_law_40 (by decide) (by decide) rfl rfl (lc_578 C hX hi hL hW hR (by omega) (by omega) (by omega) hk)
    by_cases e7 : c = 7
    · subst e7
      exact J_tableIn C (off := 656) (tgt := 696) dL_law_40 (by decide) (by decide) rfl rfl (lc_696 C hX hi hL hW hR (by omega) (by omega) (by omega) hk)
    by_cases e8 : c = 8
    · subst e8
      exact J_tableIn C (off := 712) (tgt := 752) dL_law_40 (by decide) (by decide) rfl rfl (lc_752 C hX hi hL hW hR (by omega) (by omega) (by omega) hk)
    by_cases e9 : c = 9
    · subst e9
      exact J_tableIn C (off := 768) (tgt := 808) dL_law_40 (by decide) (by decide) rfl rfl (lc_808 C hX hi hL hW hR (by omega) (by omega) (by omega) hk)
    by_cases e10 : c = 10
    · subst e10
      exact J_tableIn C (off := 824) (tgt := 864) dL_law_40 (by decide) (by decide) rfl rfl (lc_864 C hX hi hL hW hR (by omega) (by omega) (by omega) hk)
    by_cases e11 : c = 11
    · subst e11
      exact J_tableIn C (off := 904) (tgt := 944) dL_law_40 (by decide) (by decide) rfl rfl (lc_944 C hX hi hL hW hR (by omega) (by omega) (by omega) hk)
    by_cases e12 : c = 12
    · subst e12
      exact J_tableIn C (off := 960) (tgt := 1000) dL_law_40 (by decide) (by decide) rfl rfl (lc_1000 C hX hi hL hW hR (by omega) (by omega) (by omega) hk)
    by_cases e13 : c = 13
    · subst e13
      exact J_tableIn C (off := 1028) (tgt := 1068) dL_law_40 (by decide) (by decide) rfl rfl (lc_1068 C hX hi hL hW hR (by omega) (by omega) (by omega) hk)
    by_cases e14 : c = 14
    · subst e14
      exact J_tableIn C (off := 1084) (tgt := 1124) dL_law_40 (by decide) (by decide) rfl rfl (lc_1124 C hX hi hL hW hR (by omega) (by omega) (by omega) hk)
    by_cases e15 : c = 15
    · subst e15
      exact J_tableIn C (off := 1152) (tgt := 1192) dL_law_40 (by decide) (by decide) rfl rfl (lc_1192 C hX hi hL hW hR (by omega) (by omega) (by omega) hk)
    by_cases e16 : c = 16
    · subst e16
      exact J_tableIn C (off := 1196) (tgt := 1236) dL_law_40 (by decide) (by decide) rfl rfl (lc_1236 C hX hi hL hW hR (by omega) (by omega) (by omega) hk)
    by_cases e17 : c = 17
    · subst e17
      exact J_tableIn C (off := 1232) (tgt := 1272) dL_law_40 (by decide) (by decide) rfl rfl (lc_1272 C hX hi hL hW hR (by omega) (by omega) (by omega) hk)
    by_cases e18 : c = 18
    · subst e18
      exact J_tableIn C (off := 1288) (tgt := 1328) dL_law_40 (by decide) (by decide) rfl rfl (lc_1328 C hX hi hL hW hR (by omega) (by omega) (by omega) hk)
    by_cases e19 : c = 19
    · subst e19
      exact J_tableIn C (off := 1301) (tgt := 1341) dL_law_40 (by decide) (by decide) rfl rfl (lc_1341 C hX hi hL hW hR (by omega) (by omega) (by omega) hk)
    by_cases e20 : c = 20
    · subst e20
      exact J_tableIn C (off := 1314) (tgt := 1354) dL_law_40 (by decide) (by decide) rfl rfl (lc_1354 C hX hi hL hW hR (by omega) (by omega) (by omega) hk)
    by_cases e21 : c = 21
    · subst e21
      exact J_tableIn C (off := 1327) (tgt := 1367) dL_law_40 (by decide) (by decide) rfl rfl (lc_1367 C hX hi hL hW hR (by omega) (by omega) (by omega) hk)
    by_cases e22 : c = 22
    · subst e22
      exact J_tableIn C (off := 1340) (tgt := 1380) dL_law_40 (by decide) (by decide) rfl rfl (lc_1380 C hX hi hL hW hR (by omega) (by omega) (by omega) hk)
    by_cases e23 : c = 23
    · subst e23
      exact J_tableIn C (off := 1353) (tgt := 1393) dL_law_40 (by decide) (by decide) rfl rfl (lc_1393 C hX hi hL hW hR (by omega) (by omega) (by omega) hk)
    by_cases e24 : c = 24
    · subst e24
      exact J_tableIn C (off := 1366) (tgt := 1406) dL_law_40 (by decide) (by decide) rfl rfl (lc_1406 C hX hi hL hW hR (by omega) (by omega) (by omega) hk)
    by_cases e25 : c = 25
    · subst e25
      exact J_tableIn C (off := 1434) (tgt := 1474) dL_law_40 (by decide) (by decide) rfl rfl (lc_1474 C hX hi hL hW hR (by omega) (by omega) (by omega) hk)
    by_cases e26 : c = 26
    · subst e26
      exact J_tableIn C (off := 1502) (tgt := 1542) dL_law_40 (by decide) (by decide) rfl rfl (lc_1542 C hX hi hL hW hR (by omega) (by omega) (by omega) hk)
    by_cases e27 : c = 27
    · subst e27
      exact J_tableIn C (off := 1515) (tgt := 1555) dL_law_40 (by decide) (by decide) rfl rfl (lc_1555 C hX hi hL hW hR (by omega) (by omega) (by omega) hk)
    by_cases e28 : c = 28
    · subst e28
      exact J_tableIn C (off := 1571) (tgt := 1611) dL_law_40 (by decide) (by decide) rfl rfl (lc_1611 C hX hi hL hW hR (by omega) (by omega) (by omega) hk)
    by_cases e29 : c = 29
    · subst e29
      exact J_tableIn C (off := 1639) (tgt := 1679) dL_law_40 (by decide) (by decide) rfl rfl (lc_1679 C hX hi hL hW hR (by omega) (by omega) (by omega) hk)
    by_cases e30 : c = 30
    · subst e30
      exact J_tableIn C (off := 1652) (tgt := 1692) dL_law_40 (by decide) (by decide) rfl rfl (lc_1692 C hX hi hL hW hR (by omega) (by omega) (by omega) hk)
    by_cases e31 : c = 31
    · subst e31
      exact J_tableIn C (off := 1708) (tgt := 1748) dL_law_40 (by decide) (by decide) rfl rfl (lc_1748 C hX hi hL hW hR (by omega) (by omega) (by omega) hk)
    by_cases e32 : c = 32
    · subst e32
      exact J_tableIn C (off := 1764) (tgt := 1804) dL_law_40 (by decide) (by decide) rfl rfl (lc_1804 C hX hi hL hW hR (by omega) (by omega) (by omega) hk)
    by_cases e33 : c = 33
    · subst e33
      exact J_tableIn C (off := 1820) (tgt := 1860) dL_law_40 (by decide) (by decide) rfl rfl (lc_1860 C hX hi hL hW hR (by omega) (by omega) (by omega) hk)
    by_cases e34 : c = 34
    · subst e34
      exact J_tableIn C (off := 1876) (tgt := 1916) dL_law_40 (by decide) (by decide) rfl rfl (lc_1916 C hX hi hL hW hR (by omega) (by omega) (by omega) hk)
    by_cases e35 : c = 35
    · subst e35
      exact J_tableIn C (off := 1932) (tgt := 1972) dL_law_40 (by decide) (by decide) rfl rfl (lc_1972 C hX hi hL hW hR (by omega) (by omega) (by omega) hk)
    by_cases e36 : c = 36
    · subst e36
      exact J_tableIn C (off := 1988) (tgt := 2028) dL_law_40 (by decide) (by decide) rfl rfl (lc_2028 C hX hi hL hW hR (by omega) (by omega) (by omega) hk)
    by_cases e37 : c = 37
    · subst e37
      exact J_tableIn C (off := 2044) (tgt := 2084) dL_law_40 (by decide) (by decide) rfl rfl (lc_2084 C hX hi hL hW hR (by omega) (by omega) (by omega) hk)
    by_cases e38 : c = 38
    · subst e38
      exact J_tableIn C (off := 2100) (tgt := 2140) dL_law_40 (by decide) (by decide) rfl rfl (lc_2140 C hX hi hL hW hR (by omega) (by omega) (by omega) hk)
    by_cases e39 : c = 39
    · subst e39
      exact J_tableIn C (off := 2156) (tgt := 2196) dL_law_40 (by decide) (by decide) rfl rfl (lc_2196 C hX hi hL hW hR (by omega) (by omega) (by omega) hk)
    by_cases e40 : c = 40
    · subst e40
      exact J_tableIn C (off := 2224) (tgt := 2264) dL_law_40 (by decide) (by decide) rfl rfl (lc_2264 C hX hi hL hW hR (by omega) (by omega) (by omega) hk)
    by_cases e41 : c = 41
    · subst e41
      exact J_tableIn C (off := 2292) (tgt := 2332) dL_law_40 (by decide) (by decide) rfl rfl (lc_2332 C hX hi hL hW hR (by omega) (by omega) (by omega) hk)
    by_cases e42 : c = 42
    · subst e42
      exact J_tableIn C (off := 2360) (tgt := 2400) dL_law_40 (by decide) (by decide) rfl rfl (lc_2400 C hX hi hL hW hR (by omega) (by omega) (by omega) hk)
    by_cases e43 : c = 43
    · subst e43
      exact J_tableIn C (off := 2435) (tgt := 2475) dL_law_40 (by decide) (by decide) rfl rfl (lc_2475 C hX hi hL hW hR (by omega) (by omega) (by omega) hk)
    by_cases e44 : c = 44
    · subst e44
      exact J_tableIn C (off := 2522) (tgt := 2562) dL_law_40 (by decide) (by decide) rfl rfl (lc_2562 C hX hi hL hW hR (by omega) (by omega) (by omega) hk)
    by_cases e45 : c = 45
    · subst e45
      exact J_tableIn C (off := 2535) (tgt := 2575) dL_law_40 (by decide) (by decide) rfl rfl (lc_2575 C hX hi hL hW hR (by omega) (by omega) (by omega) hk)
    by_cases e46 : c = 46
    · subst e46
      exact J_tableIn C (off := 2591) (tgt := 2631) dL_law_40 (by decide) (by decide) rfl rfl (lc_2631 C hX hi hL hW hR (by omega) (by omega) (by omega) hk)
    by_cases e47 : c = 47
    · subst e47
      exact J_tableIn C (off := 2647) (tgt := 2687) dL_law_40 (by decide) (by decide) rfl rfl (lc_2687 C hX hi hL hW hR (by omega) (by omega) (by omega) hk)
    by_cases e48 : c = 48
    · subst e48
      exact J_tableIn C (off := 2703) (tgt := 2743) dL_law_40 (by decide) (by decide) rfl rfl (lc_2743 C hX hi hL hW hR (by omega) (by omega) (by omega) hk)
    by_cases e49 : c = 49
    · subst e49
      exact J_tableIn C (off := 2778) (tgt := 2818) dL_law_40 (by decide) (by decide) rfl rfl (lc_2818 C hX hi hL hW hR (by omega) (by omega) (by omega) hk)
    by_cases e50 : c = 50
    · subst e50
      exact J_tableIn C (off := 2858) (tgt := 2898) dL_law_40 (by decide) (by decide) rfl rfl (lc_2898 C hX hi hL hW hR (by omega) (by omega) (by omega) hk)
    by_cases e51 : c = 51
    · subst e51
      exact J_tableIn C (off := 2938) (tgt := 2978) dL_law_40 (by decide) (by decide) rfl rfl (lc_2978 C hX hi hL hW hR (by omega) (by omega) (by omega) hk)
    by_cases e52 : c = 52
    · subst e52
      exact J_tableIn C (off := 3006) (tgt := 3046) dL_law_40 (by decide) (by decide) rfl rfl (lc_3046 C hX hi hL hW hR (by omega) (by omega) (by omega) hk)
    by_cases e53 : c = 53
    · subst e53
      exact J_tableIn C (off := 3074) (tgt := 3114) dL_law_40 (by decide) (by decide) rfl rfl (lc_3114 C hX hi hL hW hR (by omega) (by omega) (by omega) hk)
    by_cases e54 : c = 54
    · subst e54
      exact J_tableIn C (off := 3142) (tgt := 3182) dL_law_40 (by decide) (by decide) rfl rfl (lc_3182 C hX hi hL hW hR (by omega) (by omega) (by omega) hk)
    by_cases e55 : c = 55
    · subst e55
      exact J_tableIn C (off := 3198) (tgt := 3238) dL_law_40 (by decide) (by decide) rfl rfl (lc_3238 C hX hi hL hW hR (by omega) (by omega) (by omega) hk)
    by_cases e56 : c = 56
    · subst e56
      exact J_tableIn C (off := 3211) (tgt := 3251) dL_law_40 (by decide) (by decide) rfl rfl (lc_3251 C hX hi hL hW hR (by omega) (by omega) (by omega) hk)
    by_cases e57 : c = 57
    · subst e57
      exact J_tableIn C (off := 3224) (tgt := 3264) dL_law_40 (by decide) (by decide) rfl rfl (lc_3264 C hX hi hL hW hR (by omega) (by omega) (by omega) hk)
    by_cases e58 : c = 58
    · subst e58
      exact J_tableIn C (off := 3237) (tgt := 3277) dL_law_40 (by decide) (by decide) rfl rfl (lc_3277 C hX hi hL hW hR (by omega) (by omega) (by omega) hk)
    by_cases e59 : c = 59
    · subst e59
      exact J_tableIn C (off := 3278) (tgt := 3318) dL_law_40 (by decide) (by decide) rfl rfl (lc_3318 C hX hi hL hW hR (by omega) (by omega) (by omega) hk)
    by_cases e60 : c = 60
    · subst e60
      exact J_tableIn C (off := 3321) (tgt := 3361) dL_law_40 (by decide) (by decide) rfl rfl (lc_3361 C hX hi hL hW hR (by omega) (by omega) (by omega) hk)
    by_cases e61 : c = 61
    · subst e61
      exact J_tableIn C (off := 3334) (tgt := 3374) dL_law_40 (by decide) (by decide) rfl rfl (lc_3374 C hX hi hL hW hR (by omega) (by omega) (by omega) hk)
    refine J_tableOut C (tgt := 3399) dL_law_40 ?_ rfl (J_widen (k := kc + 7) (n := ks + 42) (by omega) (by omega) (hk _ _ _ (REL_le hR (by omega))))
    rcases (show c = 62 ∨ c = 63 by omega) with rfl | rfl
    · exact Or.inr (by decide)
    · exact Or.inr (by decide)
set_option maxHeartbeats 4000000 in
set_option maxRecDepth 100000 in
theorem law_head {G : GC} {E : Ctx} {b L : Nat} {xs : Nat → Int32} (C : Cx G E cL_law RL 9 room_1) (hAO : AOf E) (hX : LawX G E b L xs) (hL : L ≤ 3584) (hend : ∀ (w : Lay) (kc ks : Nat) (σ : Mem) (ls : List (Option Value)), ls.length = 9 → kc ≤ 601024 → ks ≤ 7293033 → J G E w kc ks 3405 ls [] σ) : J G E ([], fun _ _ => 0, fun _ _ _ => none) 0 0 0 [some (.ref b), none, none, none, none, none, none, none, none] [] Z0 := by
  refine J_newO C (o := 12) (c := 0) (w := ([], fun _ _ => 0, fun _ _ _ => none)) List.not_mem_nil rfl rfl inA9 tyX9_ok q1_25 q1_26 q1_1 (fun j => rfl) (fun j => rfl) rfl (by decide) ⟨by decide +kernel, by decide +kernel⟩ dL_law_0 (fun w1 hX1 => ?_)
  have hm1 : (12, 0) ∈ w1.1 := (hX1.1 _ _).mpr (Or.inr ⟨rfl, rfl⟩)
  refine J_dup C dL_law_3 rfl ?_
  refine J_invI (y := yX9_init) (rm := rnX9_init) C hAO rfl q1_29 q1_28 q1_1 q1_27 rfl ⟨mdnX9_init.1, mdnX9_init.2.1, mdnX9_init.2.2⟩ rfl rfl ⟨by decide +kernel, by decide +kernel⟩ ⟨by decide +kernel, by decide +kernel⟩ (Nat.le_of_ble_eq_true rfl) dL_law_4 ?_
  refine c_X9_init hm1 (fun x y h g => ((hX1.1 _ _).mp g).elim (fun g => absurd g List.not_mem_nil) (fun q => by first | omega | (dsimp only at q; omega))) (fun x y j h => hX1.2.2 _ _ _ (fun q => by first | omega | (dsimp only at q; omega))) (fun w2 hX2 hK2 hO2 => ?_)
  dsimp only [Option.toList_none, List.nil_append]
  rw [← hX2.2.1 _ _ hm1]
  refine J_astore_n C dL_law_7 rfl (Nat.le_of_ble_eq_true rfl) rfl ?_
  dsimp only [List.set]
  have hA2 := XT_mono (S' := fun x y => (x < 12 ∧ y ≤ 21) ∨ (x = 12 ∧ y ≤ 13)) (R' := fun x y i => (x < 12 ∧ y ≤ 21) ∨ (x = 12 ∧ y ≤ 13)) (XT_tr hX1 hX2) (fun x y => by first | omega | (dsimp only; omega)) (fun x y i => by first | omega | (dsimp only; omega))
  show J G E w2 _ _ _ _ _ mO0
  refine J_newO C (o := 13) (c := 0) (fun g => ((hA2.1 _ _).mp g).elim (fun g => absurd g List.not_mem_nil) (fun q => by first | omega | (dsimp only at q; omega))) rfl rfl inA10 tyX10_ok q6_157 q6_158 q1_10 (fun j => hA2.2.2 _ _ _ (fun q => by first | omega | (dsimp only at q; omega))) (fun j => rd_mO013 0 j) rfl (by decide) ⟨by decide +kernel, by decide +kernel⟩ dL_law_8 (fun w3 hX3 => ?_)
  have hm3 : (13, 0) ∈ w3.1 := (hX3.1 _ _).mpr (Or.inr ⟨rfl, rfl⟩)
  have hA3 := XT_mono (S' := fun x y => (x < 12 ∧ y ≤ 21) ∨ (x = 12 ∧ y ≤ 13) ∨ (x = 13 ∧ y = 0)) (R' := fun x y i => (x < 12 ∧ y ≤ 21) ∨ (x = 12 ∧ y ≤ 13)) (XT_tr hA2 hX3) (fun x y => by first | omega | (dsimp only; omega)) (fun x y i => by first | omega | (dsimp only; omega))
  refine J_dup C dL_law_11 rfl ?_
  refine J_invI (y := yX10_init) (rm := rnX10_init) C hAO rfl q6_161 q6_160 q1_10 q6_159 rfl ⟨mdnX10_init.1, mdnX10_init.2.1, mdnX10_init.2.2⟩ rfl rfl ⟨by decide +kernel, by decide +kernel⟩ ⟨by decide +kernel, by decide +kernel⟩ (Nat.le_of_ble_eq_true rfl) dL_law_12 ?_
  refine c_X10_init hm3 (fun y h1 h2 g => ((hA3.1 _ _).mp g).elim (fun g => absurd g List.not_mem_nil) (fun q => by first | omega | (dsimp only at q; omega))) (fun y j h1 h2 => hA3.2.2 _ _ _ (fun q => by first | omega | (dsimp only at q; omega))) (fun w4 hX4 hM4 => ?_)
  dsimp only [Option.toList_none, List.nil_append]
  rw [← hX4.2.1 _ _ hm3]
  refine J_astore_n C dL_law_15 rfl (Nat.le_of_ble_eq_true rfl) rfl ?_
  dsimp only [List.set]
  have hA4 := XT_mono (S' := fun x y => (x < 12 ∧ y ≤ 21) ∨ (x = 12 ∧ y ≤ 13) ∨ (x = 13 ∧ y ≤ 8)) (R' := fun x y i => (x < 12 ∧ y ≤ 21) ∨ (x = 12 ∧ y ≤ 13) ∨ (x = 13 ∧ y = 0)) (XT_tr hA3 hX4) (fun x y => by first | omega | (dsimp only; omega)) (fun x y i => by first | omega | (dsimp only; omega))
  refine J_iconst (v := nI 1) C dL_law_16 (by decide) ?_
  refine J_newA_long C (o := 13) (c := 9) (n := 1) (fun g => ((hA4.1 _ _).mp g).elim (fun g => absurd g List.not_mem_nil) (fun q => by first | omega | (dsimp only at q; omega))) rfl rfl (by decide) (fun j => rfl) ⟨by decide +kernel, by decide +kernel⟩ dL_law_17 (fun w5 hX5 => ?_)
  refine J_astore_n C dL_law_19 rfl (Nat.le_of_ble_eq_true rfl) rfl ?_
  dsimp only [List.set]
  refine J_iconst (v := nI 0) C dL_law_20 (by decide) ?_
  refine J_istore C dL_law_21 (Nat.le_of_ble_eq_true rfl) rfl ?_
  dsimp only [List.set]
  have hB := XT_mono (S' := fun x y => x = 13 ∧ y ≤ 9) (R' := fun x y i => x = 13) (XT_tr (XT_tr hX3 hX4) hX5) (fun x y => by first | omega | (dsimp only; omega)) (fun x y i => by first | omega | (dsimp only; omega))
  have hK5 : LK w5 := LK_keep hK2 hO2 hB (fun y i => (fun q => by first | omega | (dsimp only at q; omega)))
  have hO5 : ∀ o, o < 12 → LO w5 o := fun o ho => LO_keep (hO2 o ho) hB (fun y i => (fun q => by first | omega | (dsimp only at q; omega)))
  have hM5 : LM w5 := by
    refine ⟨fun c hc => (hB.1 _ _).mpr (Or.inr ⟨rfl, by omega⟩), fun j t e => ?_⟩
    rw [hX5.2.2 _ _ _ (Nat.not_lt_zero _), hM4.2 j t e, hX5.2.1 _ _ (hM4.1 t (tgM_lt e))]
  have hN5 : ∀ r ∈ w5.1, r.1 = 13 → r.2 < 10 := by
    rintro ⟨x, y⟩ hr hx
    have hx : x = 13 := hx
    show y < 10
    rcases (hB.1 _ _).mp hr with g | g
    · rcases (hA2.1 _ _).mp g with g | g
      · exact absurd g List.not_mem_nil
      · omega
    · omega
  rw [← hB.2.1 12 0 (hK2.1 0 (by decide)), ← hX5.2.1 13 0 (hM4.1 0 (by decide))]
  exact law_loop C hX hL ⟨hK5, hM5, hO5, hN5⟩ (hend w5) (L + 1) 0 _ _ 0 0 _ (by omega) (by omega) REL_start (by decide +kernel) (by decide +kernel)
