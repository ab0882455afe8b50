theorem J_ldc_w {G : GC} {E : Ctx} {cc : ByteArray} {own : String} {nL : Nat} {R0 : Room} {w : Lay} {kc ks pc : Nat} {ls : List (Option Value)} {st : List Value} {σ : Mem} (C : Cx G E cc own nL R0) {idx : Nat} {v : Int32} (hd : decode cc pc = .ok (.ldc_w idx, 3)) (hc : Cond.constant own idx v ∈ ALLW) (h : J G E w kc ks (pc + 3) ls (.int v :: st) σ) : J G E w kc ks pc ls st σ := by
  obtain ⟨p, e, R, s, m, args, below, meth, c, Q⟩ := E
  intro H locs la h1 h2 h3 h4
  exact lv_ldcw C.1 C.2.1 C.2.2.2.1 (C.2.2.2.2.1 _ hc) hd (h H locs la h1 h2 h3 h4)
set_option maxHeartbeats 4000000 in
set_option maxRecDepth 100000 in
theorem c_X9_requireBetween {G : GC} {w : Lay} {σ : Mem} {Q : Lay → Option Value → Mem → Prop} {Qx : Lay → String → Mem → Prop} {x : Int32} {a b : Nat} (ha : a < 2 ^ 31) (hb : b < 2 ^ 31) (ht : okN a b x → Q w none σ) (hx : ¬ okN a b x → Qx w "java/lang/IllegalArgumentException" σ) : MX9_requireBetween G w σ [.int x, .int (nI a), .int (nI b)] Q Qx := by
  refine mt_start (by decide) rfl (Nat.le_of_ble_eq_true rfl) (fun E hC hR hN => ?_)
  show J G E w 0 0 0 [some (.int x), some (.int (nI a)), some (.int (nI b))] [] σ
  have hx0 := toInt_rng x
  refine J_iload_n hC dX9_requireBetween_0 rfl rfl ?_
  refine J_iload_n hC dX9_requireBetween_1 rfl rfl ?_
  refine J_icmp_lt_z hC (Int32_iI x) (nI_iI _) (by omega) (by omega) (tgt := 10) dX9_requireBetween_2 rfl (fun b1 => ?_) (fun b1 => ?_)
  · exact thSW_IAE hC hR hN rfl (k := 0) rfl dX9_requireBetween_10 dX9_requireBetween_13 dX9_requireBetween_14 dX9_requireBetween_17 dX9_requireBetween_20 (by decide) (by decide) (by decide) (by decide) (by decide) (by decide) (hx (fun g => by have g2 := (okN_iff (by omega)).mp g; omega))
  · refine J_iload_n hC dX9_requireBetween_5 rfl rfl ?_
    refine J_iload_n hC dX9_requireBetween_6 rfl rfl ?_
    refine J_icmp_le_z hC (Int32_iI x) (nI_iI _) (by omega) (by omega) (tgt := 21) dX9_requireBetween_7 rfl (fun b2 => ?_) (fun b2 => ?_)
    · refine J_return hC hR dX9_requireBetween_21 (by decide) (by decide) ?_
      exact ht ((okN_iff (by omega)).mpr ⟨by omega, by omega⟩)
    · exact thSW_IAE hC hR hN rfl (k := 0) rfl dX9_requireBetween_10 dX9_requireBetween_13 dX9_requireBetween_14 dX9_requireBetween_17 dX9_requireBetween_20 (by decide) (by decide) (by decide) (by decide) (by decide) (by decide) (hx (fun g => by have g2 := (okN_iff (by omega)).mp g; omega))
set_option maxHeartbeats 4000000 in
set_option maxRecDepth 100000 in
theorem c_X9_requireHour {G : GC} {w : Lay} {σ : Mem} {Q : Lay → Option Value → Mem → Prop} {Qx : Lay → String → Mem → Prop} {x : Int32} (ht : okN 0 999999 x → Q w none σ) (hx : ¬ okN 0 999999 x → Qx w "java/lang/IllegalArgumentException" σ) : MX9_requireHour G w σ [.int x] Q Qx := by
  refine mt_start (by decide) rfl (Nat.le_of_ble_eq_true rfl) (fun E hC hR hN => ?_)
  show J G E w 0 0 0 [some (.int x)] [] σ
  have hx0 := toInt_rng x
  refine J_iload_n hC dX9_requireHour_0 rfl rfl ?_
  refine J_if_lt_z hC (Int32_iI x) (by omega) (tgt := 11) dX9_requireHour_1 rfl (fun b1 => ?_) (fun b1 => ?_)
  · exact thSW_IAE hC hR hN rfl (k := 2) rfl dX9_requireHour_11 dX9_requireHour_14 dX9_requireHour_15 dX9_requireHour_18 dX9_requireHour_21 (by decide) (by decide) (by decide) (by decide) (by decide) (by decide) (hx (fun g => by have g2 := (okN_iff (by omega)).mp g; omega))
  · refine J_iload_n hC dX9_requireHour_4 rfl rfl ?_
    refine J_ldc_w (v := nI 999999) hC dX9_requireHour_5 q5_99 ?_
    refine J_icmp_le_z hC (Int32_iI x) (nI_iI _) (by omega) (by omega) (tgt := 22) dX9_requireHour_8 rfl (fun b2 => ?_) (fun b2 => ?_)
    · refine J_return hC hR dX9_requireHour_22 (by decide) (by decide) ?_
      exact ht ((okN_iff (by omega)).mpr ⟨by omega, by omega⟩)
    · exact thSW_IAE hC hR hN rfl (k := 2) rfl dX9_requireHour_11 dX9_requireHour_14 dX9_requireHour_15 dX9_requireHour_18 dX9_requireHour_21 (by decide) (by decide) (by decide) (by decide) (by decide) (by decide) (hx (fun g => by have g2 := (okN_iff (by omega)).mp g; omega))
set_option maxHeartbeats 4000000 in
set_option maxRecDepth 100000 in
theorem c_X9_requireDifferent {G : GC} {w : Lay} {σ : Mem} {Q : Lay → Option Value → Mem → Prop} {Qx : Lay → String → Mem → Prop} {x y : Int32} (ht : x ≠ y → Q w none σ) (hx : ¬ x ≠ y → Qx w "java/lang/IllegalArgumentException" σ) : MX9_requireDifferent G w σ [.int x, .int y] Q Qx := by
  refine mt_start (by decide) rfl (Nat.le_of_ble_eq_true rfl) (fun E hC hR hN => ?_)
  show J G E w 0 0 0 [some (.int x), some (.int y)] [] σ
  refine J_iload_n hC dX9_requireDifferent_0 rfl rfl ?_
  refine J_iload_n hC dX9_requireDifferent_1 rfl rfl ?_
  refine J_icmp_ne hC (tgt := 16) dX9_requireDifferent_2 rfl (fun b1 => ?_) (fun b1 => ?_)
  · refine J_return hC hR dX9_requireDifferent_16 (by decide) (by decide) ?_
    exact ht b1
  · exact thSW_IAE hC hR hN rfl (k := 9) rfl dX9_requireDifferent_5 dX9_requireDifferent_8 dX9_requireDifferent_9 dX9_requireDifferent_12 dX9_requireDifferent_15 (by decide) (by decide) (by decide) (by decide) (by decide) (by decide) (hx (fun g => g b1))
set_option maxHeartbeats 4000000 in
set_option maxRecDepth 100000 in
theorem c_X9_requireKite {G : GC} {w : Lay} {σ : Mem} {Q : Lay → Option Value → Mem → Prop} {Qx : Lay → String → Mem → Prop} (hK : LK w) (hL0 : LO w 0) {A : Rw} {hm : Nat} (hO : OAt σ 0 A) (hI : RowOK hm A) {x : Int32} (ht : okK A x → Q w none σ) (hx : ¬ okK A x → Qx w "java/lang/IndexOutOfBoundsException" σ) : MX9_requireKite G w σ [.ref (w.2.1 12 0), .int x] Q Qx := by
  refine mt_start (by decide) rfl (Nat.le_of_ble_eq_true rfl) (fun E hC hR hN => ?_)
  show J G E w 0 0 0 [some (.ref (w.2.1 12 0)), some (.int x)] [] σ
  refine J_aload_n hC dX9_requireKite_0 rfl rfl ?_
  refine gX9_13 hC hK dX9_requireKite_1 ?_
  refine J_iload_n hC dX9_requireKite_4 rfl rfl ?_
  refine iX9_171 hC hL0 rfl ⟨by decide, by decide⟩ ⟨by decide, by decide⟩ (Nat.le_of_ble_eq_true rfl) dX9_requireKite_5 ?_
  refine c_X4_hasKite hL0 hO hI (fun b1 => ?_) (fun b1 => ?_)
  · dsimp only [Option.toList_some, Option.toList_none, List.cons_append, List.nil_append]
    refine J_if_ne_n hC (by decide) (tgt := 22) dX9_requireKite_8 rfl (fun _ => ?_) (fun hf => absurd hf (by omega))
    refine J_return hC hR dX9_requireKite_22 (by decide) (by decide) ?_
    exact ht b1
  · dsimp only [Option.toList_some, Option.toList_none, List.cons_append, List.nil_append]
    refine J_if_ne_n hC (by decide) (tgt := 22) dX9_requireKite_8 rfl (fun hf => absurd hf (by omega)) (fun _ => ?_)
    exact thSW_IOE hC hR hN rfl (k := 1) rfl dX9_requireKite_11 dX9_requireKite_14 dX9_requireKite_15 dX9_requireKite_18 dX9_requireKite_21 (by decide) (by decide) (by decide) (by decide) (by decide) (by decide) (hx b1)
set_option maxHeartbeats 4000000 in
set_option maxRecDepth 100000 in
theorem c_X9_requireState {G : GC} {w : Lay} {σ : Mem} {Q : Lay → Option Value → Mem → Prop} {Qx : Lay → String → Mem → Prop} (hK : LK w) (hL0 : LO w 0) {A : Rw} {hm : Nat} (hO : OAt σ 0 A) (hI : RowOK hm A) {k s : Nat} (hk : k < nv A 6) (hs : s < 2 ^ 31) (ht : A (70 + 9 * k + 6) = nI s → Q w none σ) (hx : ¬ A (70 + 9 * k + 6) = nI s → Qx w "java/lang/IllegalStateException" σ) : MX9_requireState G w σ [.ref (w.2.1 12 0), .int (nI k), .int (nI s)] Q Qx := by
  refine mt_start (by decide) rfl (Nat.le_of_ble_eq_true rfl) (fun E hC hR hN => ?_)
  show J G E w 0 0 0 [some (.ref (w.2.1 12 0)), some (.int (nI k)), some (.int (nI s))] [] σ
  have h1 := r_NK hI
  have h2 := r_KS hI hk
  refine J_aload_n hC dX9_requireState_0 rfl rfl ?_
  refine gX9_13 hC hK dX9_requireState_1 ?_
  refine gX9_141 hC hL0 dX9_requireState_4 ?_
  refine gX9_177 hC hL0 dX9_requireState_7 ?_
  refine J_iload_n hC dX9_requireState_10 rfl rfl ?_
  refine J_iaload hC (hL0.2.1 14 (by decide)) (kd_o hL0.1) rfl (by omega) (by decide) dX9_requireState_11 ?_
  refine J_top (o_S hO hI hk) ?_
  refine J_iload_n hC dX9_requireState_12 rfl rfl ?_
  refine J_icmp_eq_n hC (by omega) (by omega) (tgt := 27) dX9_requireState_13 rfl (fun b1 => ?_) (fun b1 => ?_)
  · refine J_return hC hR dX9_requireState_27 (by decide) (by decide) ?_
    exact ht (by rw [h2.1, b1])
  · exact thSW_ISE hC hR hN rfl (k := 4) rfl dX9_requireState_16 dX9_requireState_19 dX9_requireState_20 dX9_requireState_23 dX9_requireState_26 (by decide) (by decide) (by decide) (by decide) (by decide) (by decide) (hx (fun g => b1 (nv_of g hs)))
set_option maxHeartbeats 4000000 in
set_option maxRecDepth 100000 in
theorem c_X9_requireColour {G : GC} {w : Lay} {σ : Mem} {Q : Lay → Option Value → Mem → Prop} {Qx : Lay → String → Mem → Prop} (hK : LK w) (hL0 : LO w 0) {A : Rw} {hm : Nat} (hO : OAt σ 0 A) (hI : RowOK hm A) {x : Int32} (ht : okC A x → Q w none σ) (hx : ¬ okC A x → Qx w "java/lang/IndexOutOfBoundsException" σ) : MX9_requireColour G w σ [.ref (w.2.1 12 0), .int x] Q Qx := by
  refine mt_start (by decide) rfl (Nat.le_of_ble_eq_true rfl) (fun E hC hR hN => ?_)
  show J G E w 0 0 0 [some (.ref (w.2.1 12 0)), some (.int x)] [] σ
  have hx0 := toInt_rng x
  have h1 := r_NC hI
  refine J_iload_n hC dX9_requireColour_0 rfl rfl ?_
  refine J_if_lt_z hC (Int32_iI x) (by omega) (tgt := 18) dX9_requireColour_1 rfl (fun b1 => ?_) (fun b1 => ?_)
  · exact thSW_IOE hC hR hN rfl (k := 6) rfl dX9_requireColour_18 dX9_requireColour_21 dX9_requireColour_22 dX9_requireColour_25 dX9_requireColour_28 (by decide) (by decide) (by decide) (by decide) (by decide) (by decide) (hx (fun ⟨j, hj, hj2⟩ => by subst hj; have hj3 := tI_n (n := j) (by omega); omega))
  · refine J_iload_n hC dX9_requireColour_4 rfl rfl ?_
    refine J_aload_n hC dX9_requireColour_5 rfl rfl ?_
    refine gX9_13 hC hK dX9_requireColour_6 ?_
    refine gX9_59 hC hL0 dX9_requireColour_9 ?_
    refine gX9_293 hC hL0 dX9_requireColour_12 ?_
    refine J_top (o_NC hO hI) ?_
    refine J_icmp_lt_z hC (Int32_iI x) (nI_iI _) (by omega) (by omega) (tgt := 29) dX9_requireColour_15 rfl (fun b2 => ?_) (fun b2 => ?_)
    · refine J_return hC hR dX9_requireColour_29 (by decide) (by decide) ?_
      obtain ⟨j, hj1, hj2⟩ := nI_of (x := x) (by rw [Int32.lt_iff_toInt_lt]; show ¬ x.toInt < 0; omega)
      subst hj2
      rw [tI_n hj1] at b2
      exact ht ⟨j, rfl, by omega⟩
    · exact thSW_IOE hC hR hN rfl (k := 6) rfl dX9_requireColour_18 dX9_requireColour_21 dX9_requireColour_22 dX9_requireColour_25 dX9_requireColour_28 (by decide) (by decide) (by decide) (by decide) (by decide) (by decide) (hx (fun ⟨j, hj, hj2⟩ => by subst hj; have hj3 := tI_n (n := j) (by omega); omega))
set_option maxHeartbeats 4000000 in
set_option maxRecDepth 100000 in
theorem c_X9_requirePermit {G : GC} {w : Lay} {σ : Mem} {Q : Lay → Option Value → Mem → Prop} {Qx : Lay → String → Mem → Prop} (hK : LK w) (hL0 : LO w 0) {A : Rw} {hm : Nat} (hO : OAt σ 0 A) (hI : RowOK hm A) {x : Int32} (ht : okP A x → Q w none σ) (hx : ¬ okP A x → Qx w "java/lang/IndexOutOfBoundsException" σ) : MX9_requirePermit G w σ [.ref (w.2.1 12 0), .int x] Q Qx := by
  refine mt_start (by decide) rfl (Nat.le_of_ble_eq_true rfl) (fun E hC hR hN => ?_)
  show J G E w 0 0 0 [some (.ref (w.2.1 12 0)), some (.int x)] [] σ
  have hx0 := toInt_rng x
  have h1 := r_NP hI
  refine J_iload_n hC dX9_requirePermit_0 rfl rfl ?_
  refine J_if_lt_z hC (Int32_iI x) (by omega) (tgt := 18) dX9_requirePermit_1 rfl (fun b1 => ?_) (fun b1 => ?_)
  · exact thSW_IOE hC hR hN rfl (k := 8) rfl dX9_requirePermit_18 dX9_requirePermit_21 dX9_requirePermit_22 dX9_requirePermit_25 dX9_requirePermit_28 (by decide) (by decide) (by decide) (by decide) (by decide) (by decide) (hx (fun ⟨j, hj, hj2⟩ => by subst hj; have hj3 := tI_n (n := j) (by omega); omega))
  · refine J_iload_n hC dX9_requirePermit_4 rfl rfl ?_
    refine J_aload_n hC dX9_requirePermit_5 rfl rfl ?_
    refine gX9_13 hC hK dX9_requirePermit_6 ?_
    refine gX9_206 hC hL0 dX9_requirePermit_9 ?_
    refine gX9_252 hC hL0 dX9_requirePermit_12 ?_
    refine J_top (o_NP hO hI) ?_
    refine J_icmp_lt_z hC (Int32_iI x) (nI_iI _) (by omega) (by omega) (tgt := 29) dX9_requirePermit_15 rfl (fun b2 => ?_) (fun b2 => ?_)
    · refine J_return hC hR dX9_requirePermit_29 (by decide) (by decide) ?_
      obtain ⟨j, hj1, hj2⟩ := nI_of (x := x) (by rw [Int32.lt_iff_toInt_lt]; show ¬ x.toInt < 0; omega)
      subst hj2
      rw [tI_n hj1] at b2
      exact ht ⟨j, rfl, by omega⟩
    · exact thSW_IOE hC hR hN rfl (k := 8) rfl dX9_requirePermit_18 dX9_requirePermit_21 dX9_requirePermit_22 dX9_requirePermit_25 dX9_requirePermit_28 (by decide) (by decide) (by decide) (by decide) (by decide) (by decide) (hx (fun ⟨j, hj, hj2⟩ => by subst hj; have hj3 := tI_n (n := j) (by omega); omega))
set_option maxHeartbeats 4000000 in
set_option maxRecDepth 100000 in
theorem c_X9_requirePermitArguments {G : GC} {w : Lay} {σ : Mem} {Q : Lay → Option Value → Mem → Prop} {Qx : Lay → String → Mem → Prop} (hK : LK w) (hL0 : LO w 0) {A : Rw} {hm : Nat} (hO : OAt σ 0 A) (hI : RowOK hm A) {k s d : Int32} (ht : okK A k → okN 0 999999 s → okN 1 24 d → Q w none σ) (hx1 : ¬ okK A k → Qx w "java/lang/IndexOutOfBoundsException" σ) (hx2 : okK A k → ¬ okN 0 999999 s → Qx w "java/lang/IllegalArgumentException" σ) (hx3 : okK A k → okN 0 999999 s → ¬ okN 1 24 d → Qx w "java/lang/IllegalArgumentException" σ) : MX9_requirePermitArguments G w σ [.ref (w.2.1 12 0), .int k, .int s, .int d] Q Qx := by
  refine mt_start (by decide) rfl (Nat.le_of_ble_eq_true rfl) (fun E hC hR hN => ?_)
  show J G E w 0 0 0 [some (.ref (w.2.1 12 0)), some (.int k), some (.int s), some (.int d)] [] σ
  refine J_aload_n hC dX9_requirePermitArguments_0 rfl rfl ?_
  refine J_iload_n hC dX9_requirePermitArguments_1 rfl rfl ?_
  refine iX9_229 hC hK rfl ⟨by decide, by decide⟩ ⟨by decide, by decide⟩ (Nat.le_of_ble_eq_true rfl) dX9_requirePermitArguments_2 ?_
  refine c_X9_requireKite hK hL0 hO hI (fun r1 => ?_) (fun r1 => JX_out hC hR hN (by decide) (by decide) (hx1 r1))
  dsimp only [Option.toList_some, Option.toList_none, List.cons_append, List.nil_append]
  refine J_iload_n hC dX9_requirePermitArguments_5 rfl rfl ?_
  refine iX9_281 hC rfl ⟨by decide, by decide⟩ ⟨by decide, by decide⟩ (Nat.le_of_ble_eq_true rfl) dX9_requirePermitArguments_6 ?_
  refine c_X9_requireHour  (fun r2 => ?_) (fun r2 => JX_out hC hR hN (by decide) (by decide) (hx2 r1 r2))
  dsimp only [Option.toList_some, Option.toList_none, List.cons_append, List.nil_append]
  refine J_iload_n hC dX9_requirePermitArguments_9 rfl rfl ?_
  refine J_iconst (v := nI 1) hC dX9_requirePermitArguments_10 (by decide) ?_
  refine J_bipush (v := nI 24) hC dX9_requirePermitArguments_11 (by decide) ?_
  refine iX9_110 hC rfl ⟨by decide, by decide⟩ ⟨by decide, by decide⟩ (Nat.le_of_ble_eq_true rfl) dX9_requirePermitArguments_13 ?_
  refine c_X9_requireBetween (by omega) (by omega) (fun r3 => ?_) (fun r3 => JX_out hC hR hN (by decide) (by decide) (hx3 r1 r2 r3))
  dsimp only [Option.toList_some, Option.toList_none, List.cons_append, List.nil_append]
  refine J_return hC hR dX9_requirePermitArguments_16 (by decide) (by decide) ?_
  exact ht r1 r2 r3
