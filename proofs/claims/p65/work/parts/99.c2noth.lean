/-! ===== p65: the questions of the law throw nothing, at arguments that are there ===== -/
set_option maxHeartbeats 4000000 in
set_option maxRecDepth 100000 in
theorem c0_X9_requireKite {G : GC} {w : Lay} {σ : Mem} {Q : Lay → Option Value → Mem → Prop} {Qx : Lay → String → Mem → Prop} (hK : LK w) (hL0 : LO w 0) {A : Rw} {hm : Nat} (hO : OAt σ 0 A) (hI : RowOK hm A) {x : Int32} (ht : okK A x → Q w none σ) (hx : ¬ okK A x → False) : M0X9_requireKite G w σ [.ref (w.2.1 12 0), .int x] Q Qx := by
  refine mt_start (by decide) rfl (Nat.le_of_ble_eq_true rfl) (fun E hC hR hN => ?_)
  show J G E w 0 0 0 [some (.ref (w.2.1 12 0)), some (.int x)] [] σ
  refine J_aload_n hC dX9_requireKite_0 rfl rfl ?_
  refine gX9_13 hC hK dX9_requireKite_1 ?_
  refine J_iload_n hC dX9_requireKite_4 rfl rfl ?_
  refine iX9_171 hC hL0 rfl ⟨by decide, by decide⟩ ⟨by decide, by decide⟩ (Nat.le_of_ble_eq_true rfl) dX9_requireKite_5 ?_
  refine c_X4_hasKite hL0 hO hI (fun b1 => ?_) (fun b1 => ?_)
  · dsimp only [Option.toList_some, Option.toList_none, List.cons_append, List.nil_append]
    refine J_if_ne_n hC (by decide) (tgt := 22) dX9_requireKite_8 rfl (fun _ => ?_) (fun hf => absurd hf (by omega))
    refine J_return hC hR dX9_requireKite_22 (by decide) (by decide) ?_
    exact ht b1
  · dsimp only [Option.toList_some, Option.toList_none, List.cons_append, List.nil_append]
    refine J_if_ne_n hC (by decide) (tgt := 22) dX9_requireKite_8 rfl (fun hf => absurd hf (by omega)) (fun _ => ?_)
    exact False.elim (hx b1)
set_option maxHeartbeats 4000000 in
set_option maxRecDepth 100000 in
theorem c0_X9_requireHour {G : GC} {w : Lay} {σ : Mem} {Q : Lay → Option Value → Mem → Prop} {Qx : Lay → String → Mem → Prop} {x : Int32} (ht : okN 0 999999 x → Q w none σ) (hx : ¬ okN 0 999999 x → False) : M0X9_requireHour G w σ [.int x] Q Qx := by
  refine mt_start (by decide) rfl (Nat.le_of_ble_eq_true rfl) (fun E hC hR hN => ?_)
  show J G E w 0 0 0 [some (.int x)] [] σ
  have hx0 := toInt_rng x
  refine J_iload_n hC dX9_requireHour_0 rfl rfl ?_
  refine J_if_lt_z hC (Int32_iI x) (by omega) (tgt := 11) dX9_requireHour_1 rfl (fun b1 => ?_) (fun b1 => ?_)
  · exact False.elim (hx (fun g => by have g2 := (okN_iff (by omega)).mp g; omega))
  · refine J_iload_n hC dX9_requireHour_4 rfl rfl ?_
    refine J_ldc_w (v := nI 999999) hC dX9_requireHour_5 q5_99 ?_
    refine J_icmp_le_z hC (Int32_iI x) (nI_iI _) (by omega) (by omega) (tgt := 22) dX9_requireHour_8 rfl (fun b2 => ?_) (fun b2 => ?_)
    · refine J_return hC hR dX9_requireHour_22 (by decide) (by decide) ?_
      exact ht ((okN_iff (by omega)).mpr ⟨by omega, by omega⟩)
    · exact False.elim (hx (fun g => by have g2 := (okN_iff (by omega)).mp g; omega))
set_option maxHeartbeats 4000000 in
set_option maxRecDepth 100000 in
theorem c0_X9_requireDifferent {G : GC} {w : Lay} {σ : Mem} {Q : Lay → Option Value → Mem → Prop} {Qx : Lay → String → Mem → Prop} {x y : Int32} (ht : x ≠ y → Q w none σ) (hx : ¬ x ≠ y → False) : M0X9_requireDifferent G w σ [.int x, .int y] Q Qx := by
  refine mt_start (by decide) rfl (Nat.le_of_ble_eq_true rfl) (fun E hC hR hN => ?_)
  show J G E w 0 0 0 [some (.int x), some (.int y)] [] σ
  refine J_iload_n hC dX9_requireDifferent_0 rfl rfl ?_
  refine J_iload_n hC dX9_requireDifferent_1 rfl rfl ?_
  refine J_icmp_ne hC (tgt := 16) dX9_requireDifferent_2 rfl (fun b1 => ?_) (fun b1 => ?_)
  · refine J_return hC hR dX9_requireDifferent_16 (by decide) (by decide) ?_
    exact ht b1
  · exact False.elim (hx (fun g => g b1))
set_option maxHeartbeats 4000000 in
set_option maxRecDepth 100000 in
theorem c0_X9_requireColour {G : GC} {w : Lay} {σ : Mem} {Q : Lay → Option Value → Mem → Prop} {Qx : Lay → String → Mem → Prop} (hK : LK w) (hL0 : LO w 0) {A : Rw} {hm : Nat} (hO : OAt σ 0 A) (hI : RowOK hm A) {x : Int32} (ht : okC A x → Q w none σ) (hx : ¬ okC A x → False) : M0X9_requireColour G w σ [.ref (w.2.1 12 0), .int x] Q Qx := by
  refine mt_start (by decide) rfl (Nat.le_of_ble_eq_true rfl) (fun E hC hR hN => ?_)
  show J G E w 0 0 0 [some (.ref (w.2.1 12 0)), some (.int x)] [] σ
  have hx0 := toInt_rng x
  have h1 := r_NC hI
  refine J_iload_n hC dX9_requireColour_0 rfl rfl ?_
  refine J_if_lt_z hC (Int32_iI x) (by omega) (tgt := 18) dX9_requireColour_1 rfl (fun b1 => ?_) (fun b1 => ?_)
  · exact False.elim (hx (fun ⟨j, hj, hj2⟩ => by subst hj; have hj3 := tI_n (n := j) (by omega); omega))
  · refine J_iload_n hC dX9_requireColour_4 rfl rfl ?_
    refine J_aload_n hC dX9_requireColour_5 rfl rfl ?_
    refine gX9_13 hC hK dX9_requireColour_6 ?_
    refine gX9_59 hC hL0 dX9_requireColour_9 ?_
    refine gX9_293 hC hL0 dX9_requireColour_12 ?_
    refine J_top (o_NC hO hI) ?_
    refine J_icmp_lt_z hC (Int32_iI x) (nI_iI _) (by omega) (by omega) (tgt := 29) dX9_requireColour_15 rfl (fun b2 => ?_) (fun b2 => ?_)
    · refine J_return hC hR dX9_requireColour_29 (by decide) (by decide) ?_
      obtain ⟨j, hj1, hj2⟩ := nI_of (x := x) (by rw [Int32.lt_iff_toInt_lt]; show ¬ x.toInt < 0; omega)
      subst hj2
      rw [tI_n hj1] at b2
      exact ht ⟨j, rfl, by omega⟩
    · exact False.elim (hx (fun ⟨j, hj, hj2⟩ => by subst hj; have hj3 := tI_n (n := j) (by omega); omega))
set_option maxHeartbeats 4000000 in
set_option maxRecDepth 100000 in
theorem c0_X9_requirePermit {G : GC} {w : Lay} {σ : Mem} {Q : Lay → Option Value → Mem → Prop} {Qx : Lay → String → Mem → Prop} (hK : LK w) (hL0 : LO w 0) {A : Rw} {hm : Nat} (hO : OAt σ 0 A) (hI : RowOK hm A) {x : Int32} (ht : okP A x → Q w none σ) (hx : ¬ okP A x → False) : M0X9_requirePermit G w σ [.ref (w.2.1 12 0), .int x] Q Qx := by
  refine mt_start (by decide) rfl (Nat.le_of_ble_eq_true rfl) (fun E hC hR hN => ?_)
  show J G E w 0 0 0 [some (.ref (w.2.1 12 0)), some (.int x)] [] σ
  have hx0 := toInt_rng x
  have h1 := r_NP hI
  refine J_iload_n hC dX9_requirePermit_0 rfl rfl ?_
  refine J_if_lt_z hC (Int32_iI x) (by omega) (tgt := 18) dX9_requirePermit_1 rfl (fun b1 => ?_) (fun b1 => ?_)
  · exact False.elim (hx (fun ⟨j, hj, hj2⟩ => by subst hj; have hj3 := tI_n (n := j) (by omega); omega))
  · refine J_iload_n hC dX9_requirePermit_4 rfl rfl ?_
    refine J_aload_n hC dX9_requirePermit_5 rfl rfl ?_
    refine gX9_13 hC hK dX9_requirePermit_6 ?_
    refine gX9_206 hC hL0 dX9_requirePermit_9 ?_
    refine gX9_252 hC hL0 dX9_requirePermit_12 ?_
    refine J_top (o_NP hO hI) ?_
    refine J_icmp_lt_z hC (Int32_iI x) (nI_iI _) (by omega) (by omega) (tgt := 29) dX9_requirePermit_15 rfl (fun b2 => ?_) (fun b2 => ?_)
    · refine J_return hC hR dX9_requirePermit_29 (by decide) (by decide) ?_
      obtain ⟨j, hj1, hj2⟩ := nI_of (x := x) (by rw [Int32.lt_iff_toInt_lt]; show ¬ x.toInt < 0; omega)
      subst hj2
      rw [tI_n hj1] at b2
      exact ht ⟨j, rfl, by omega⟩
    · exact False.elim (hx (fun ⟨j, hj, hj2⟩ => by subst hj; have hj3 := tI_n (n := j) (by omega); omega))
set_option maxHeartbeats 4000000 in
set_option maxRecDepth 100000 in
theorem c0_X9_permitKite {G : GC} {w : Lay} {σ : Mem} {Q : Lay → Option Value → Mem → Prop} {Qx : Lay → String → Mem → Prop} (hK : LK w) (hL0 : LO w 0) {A : Rw} {hm : Nat} (hO : OAt σ 0 A) (hI : RowOK hm A) {p : Int32} (hq : (aPf 0 A p).1 = 0 → Q w (some (.int (aPf 0 A p).2)) σ) (hx1 : (aPf 0 A p).1 = 1 → False) : M0X9_permitKite G w σ [.ref (w.2.1 12 0), .int p] Q Qx := by
  refine mt_start (by decide) rfl (Nat.le_of_ble_eq_true rfl) (fun E hC hR hN => ?_)
  show J G E w 0 0 0 [some (.ref (w.2.1 12 0)), some (.int p)] [] σ
  have h4 := r_NP hI
  refine J_aload_n hC dX9_permitKite_0 rfl rfl ?_
  refine J_iload_n hC dX9_permitKite_1 rfl rfl ?_
  refine i0X9_339 hC hK rfl ⟨by decide, by decide⟩ ⟨by decide, by decide⟩ (Nat.le_of_ble_eq_true rfl) dX9_permitKite_2 ?_
  refine c0_X9_requirePermit hK hL0 hO hI (fun rk => ?_) (fun rk => (hx1 (by unfold aPf; rw [chk_f rk])))
  dsimp only [Option.toList_some, Option.toList_none, List.cons_append, List.nil_append]
  obtain ⟨p, rfl, hp⟩ := rk
  refine J_aload_n hC dX9_permitKite_5 rfl rfl ?_
  refine gX9_13 hC hK dX9_permitKite_6 ?_
  refine gX9_206 hC hL0 dX9_permitKite_9 ?_
  refine gX9_342 hC hL0 dX9_permitKite_12 ?_
  refine J_iload_n hC dX9_permitKite_15 rfl rfl ?_
  refine J_iaload hC (hL0.2.1 18 (by decide)) (kd_o hL0.1) rfl (by omega) (by decide) dX9_permitKite_16 ?_
  refine J_top ((hO.2.2.2.2.2.2.2 p hp).1) ?_
  refine J_ireturn hC hR dX9_permitKite_17 (by decide) (by decide) ?_
  have e : aPf 0 A (nI p) = (0, A (214 + 3 * p + 0)) := by
    unfold aPf
    rw [chk_t ⟨p, rfl, hp⟩, cl_n (by omega)]
  rw [e] at hq
  exact hq rfl
set_option maxHeartbeats 4000000 in
set_option maxRecDepth 100000 in
theorem c0_X9_permitStart {G : GC} {w : Lay} {σ : Mem} {Q : Lay → Option Value → Mem → Prop} {Qx : Lay → String → Mem → Prop} (hK : LK w) (hL0 : LO w 0) {A : Rw} {hm : Nat} (hO : OAt σ 0 A) (hI : RowOK hm A) {p : Int32} (hq : (aPf 1 A p).1 = 0 → Q w (some (.int (aPf 1 A p).2)) σ) (hx1 : (aPf 1 A p).1 = 1 → False) : M0X9_permitStart G w σ [.ref (w.2.1 12 0), .int p] Q Qx := by
  refine mt_start (by decide) rfl (Nat.le_of_ble_eq_true rfl) (fun E hC hR hN => ?_)
  show J G E w 0 0 0 [some (.ref (w.2.1 12 0)), some (.int p)] [] σ
  have h4 := r_NP hI
  refine J_aload_n hC dX9_permitStart_0 rfl rfl ?_
  refine J_iload_n hC dX9_permitStart_1 rfl rfl ?_
  refine i0X9_339 hC hK rfl ⟨by decide, by decide⟩ ⟨by decide, by decide⟩ (Nat.le_of_ble_eq_true rfl) dX9_permitStart_2 ?_
  refine c0_X9_requirePermit hK hL0 hO hI (fun rk => ?_) (fun rk => (hx1 (by unfold aPf; rw [chk_f rk])))
  dsimp only [Option.toList_some, Option.toList_none, List.cons_append, List.nil_append]
  obtain ⟨p, rfl, hp⟩ := rk
  refine J_aload_n hC dX9_permitStart_5 rfl rfl ?_
  refine gX9_13 hC hK dX9_permitStart_6 ?_
  refine gX9_206 hC hL0 dX9_permitStart_9 ?_
  refine gX9_345 hC hL0 dX9_permitStart_12 ?_
  refine J_iload_n hC dX9_permitStart_15 rfl rfl ?_
  refine J_iaload hC (hL0.2.1 19 (by decide)) (kd_o hL0.1) rfl (by omega) (by decide) dX9_permitStart_16 ?_
  refine J_top ((hO.2.2.2.2.2.2.2 p hp).2.1) ?_
  refine J_ireturn hC hR dX9_permitStart_17 (by decide) (by decide) ?_
  have e : aPf 1 A (nI p) = (0, A (214 + 3 * p + 1)) := by
    unfold aPf
    rw [chk_t ⟨p, rfl, hp⟩, cl_n (by omega)]
  rw [e] at hq
  exact hq rfl
set_option maxHeartbeats 4000000 in
set_option maxRecDepth 100000 in
theorem c0_X9_permitDuration {G : GC} {w : Lay} {σ : Mem} {Q : Lay → Option Value → Mem → Prop} {Qx : Lay → String → Mem → Prop} (hK : LK w) (hL0 : LO w 0) {A : Rw} {hm : Nat} (hO : OAt σ 0 A) (hI : RowOK hm A) {p : Int32} (hq : (aPf 2 A p).1 = 0 → Q w (some (.int (aPf 2 A p).2)) σ) (hx1 : (aPf 2 A p).1 = 1 → False) : M0X9_permitDuration G w σ [.ref (w.2.1 12 0), .int p] Q Qx := by
  refine mt_start (by decide) rfl (Nat.le_of_ble_eq_true rfl) (fun E hC hR hN => ?_)
  show J G E w 0 0 0 [some (.ref (w.2.1 12 0)), some (.int p)] [] σ
  have h4 := r_NP hI
  refine J_aload_n hC dX9_permitDuration_0 rfl rfl ?_
  refine J_iload_n hC dX9_permitDuration_1 rfl rfl ?_
  refine i0X9_339 hC hK rfl ⟨by decide, by decide⟩ ⟨by decide, by decide⟩ (Nat.le_of_ble_eq_true rfl) dX9_permitDuration_2 ?_
  refine c0_X9_requirePermit hK hL0 hO hI (fun rk => ?_) (fun rk => (hx1 (by unfold aPf; rw [chk_f rk])))
  dsimp only [Option.toList_some, Option.toList_none, List.cons_append, List.nil_append]
  obtain ⟨p, rfl, hp⟩ := rk
  refine J_aload_n hC dX9_permitDuration_5 rfl rfl ?_
  refine gX9_13 hC hK dX9_permitDuration_6 ?_
  refine gX9_206 hC hL0 dX9_permitDuration_9 ?_
  refine gX9_348 hC hL0 dX9_permitDuration_12 ?_
  refine J_iload_n hC dX9_permitDuration_15 rfl rfl ?_
  refine J_iaload hC (hL0.2.1 20 (by decide)) (kd_o hL0.1) rfl (by omega) (by decide) dX9_permitDuration_16 ?_
  refine J_top ((hO.2.2.2.2.2.2.2 p hp).2.2) ?_
  refine J_ireturn hC hR dX9_permitDuration_17 (by decide) (by decide) ?_
  have e : aPf 2 A (nI p) = (0, A (214 + 3 * p + 2)) := by
    unfold aPf
    rw [chk_t ⟨p, rfl, hp⟩, cl_n (by omega)]
  rw [e] at hq
  exact hq rfl
set_option maxHeartbeats 4000000 in
set_option maxRecDepth 100000 in
theorem c0_X9_hasPermit {G : GC} {w : Lay} {σ : Mem} {Q : Lay → Option Value → Mem → Prop} {Qx : Lay → String → Mem → Prop} (hK : LK w) (hL0 : LO w 0) {A : Rw} {hm : Nat} (hO : OAt σ 0 A) (hI : RowOK hm A) {k h : Int32} (hq : (aHP A k h).1 = 0 → Q w (some (.int (aHP A k h).2)) σ) (hx1 : (aHP A k h).1 = 1 → False) (hx2 : (aHP A k h).1 = 2 → False) : M0X9_hasPermit G w σ [.ref (w.2.1 12 0), .int k, .int h] Q Qx := by
  refine mt_start (by decide) rfl (Nat.le_of_ble_eq_true rfl) (fun E hC hR hN => ?_)
  show J G E w 0 0 0 [some (.ref (w.2.1 12 0)), some (.int k), some (.int h)] [] σ
  have h4 := r_NK hI
  refine J_aload_n hC dX9_hasPermit_0 rfl rfl ?_
  refine J_iload_n hC dX9_hasPermit_1 rfl rfl ?_
  refine i0X9_229 hC hK rfl ⟨by decide, by decide⟩ ⟨by decide, by decide⟩ (Nat.le_of_ble_eq_true rfl) dX9_hasPermit_2 ?_
  refine c0_X9_requireKite hK hL0 hO hI (fun rk => ?_) (fun rk => (hx1 (by unfold aHP; rw [chk_f rk])))
  dsimp only [Option.toList_some, Option.toList_none, List.cons_append, List.nil_append]
  obtain ⟨k, rfl, hk⟩ := rk
  refine J_iload_n hC dX9_hasPermit_5 rfl rfl ?_
  refine i0X9_281 hC rfl ⟨by decide, by decide⟩ ⟨by decide, by decide⟩ (Nat.le_of_ble_eq_true rfl) dX9_hasPermit_6 ?_
  refine c0_X9_requireHour  (fun rh => ?_) (fun rh => (hx2 (by unfold aHP; rw [chk_t ⟨k, rfl, hk⟩, chk_f rh])))
  dsimp only [Option.toList_some, Option.toList_none, List.cons_append, List.nil_append]
  obtain ⟨h, rfl, hh⟩ := rh
  refine J_aload_n hC dX9_hasPermit_9 rfl rfl ?_
  refine gX9_13 hC hK dX9_hasPermit_10 ?_
  refine gX9_206 hC hL0 dX9_hasPermit_13 ?_
  refine J_iload_n hC dX9_hasPermit_16 rfl rfl ?_
  refine J_iload_n hC dX9_hasPermit_17 rfl rfl ?_
  refine J_iload_n hC dX9_hasPermit_18 rfl rfl ?_
  refine J_iconst (v := nI 1) hC dX9_hasPermit_19 (by decide) ?_
  refine J_iadd_n hC dX9_hasPermit_20 ?_
  refine iX9_351 hC hL0 rfl ⟨by decide, by decide⟩ ⟨by decide, by decide⟩ (Nat.le_of_ble_eq_true rfl) dX9_hasPermit_21 ?_
  refine c_X6_coverAny hL0 hO hI (by omega) (by omega) (by omega) (fun b1 => ?_) (fun b1 => ?_)
  · dsimp only [Option.toList_some, Option.toList_none, List.cons_append, List.nil_append]
    have f1 : permN A k h := by
      obtain ⟨p, p1, p2, p3, p4⟩ := b1
      exact ⟨p, p1, p2, by unfold covN; omega⟩
    refine J_zreturn hC hR dX9_hasPermit_24 (by decide) (by decide) (by decide) ?_
    have e : aHP A (nI k) (nI h) = (0, nI (ct (permN A k h))) := by
      unfold aHP
      rw [chk_t ⟨k, rfl, hk⟩, chk_t ⟨h, rfl, hh⟩, cl_n (by omega), cl_n (by omega)]
    rw [e] at hq
    have hq9 := hq rfl
    dsimp only at hq9
    rw [ct_t f1] at hq9
    exact hq9
  · dsimp only [Option.toList_some, Option.toList_none, List.cons_append, List.nil_append]
    have f1 : ¬ permN A k h := fun ⟨p, p1, p2, p3⟩ => b1 ⟨p, p1, p2, by unfold covN at p3; omega, by unfold covN at p3; omega⟩
    refine J_zreturn hC hR dX9_hasPermit_24 (by decide) (by decide) (by decide) ?_
    have e : aHP A (nI k) (nI h) = (0, nI (ct (permN A k h))) := by
      unfold aHP
      rw [chk_t ⟨k, rfl, hk⟩, chk_t ⟨h, rfl, hh⟩, cl_n (by omega), cl_n (by omega)]
    rw [e] at hq
    have hq9 := hq rfl
    dsimp only at hq9
    rw [ct_f f1] at hq9
    exact hq9
set_option maxHeartbeats 4000000 in
set_option maxRecDepth 100000 in
theorem c0_X9_canFly {G : GC} {w : Lay} {σ : Mem} {Q : Lay → Option Value → Mem → Prop} {Qx : Lay → String → Mem → Prop} (hK : LK w) (hL0 : LO w 0) {A : Rw} {hm : Nat} (hO : OAt σ 0 A) (hI : RowOK hm A) {k h : Int32} (hq : (aCF A k h).1 = 0 → Q w (some (.int (aCF A k h).2)) σ) (hx1 : (aCF A k h).1 = 1 → False) (hx2 : (aCF A k h).1 = 2 → False) : M0X9_canFly G w σ [.ref (w.2.1 12 0), .int k, .int h] Q Qx := by
  refine mt_start (by decide) rfl (Nat.le_of_ble_eq_true rfl) (fun E hC hR hN => ?_)
  show J G E w 0 0 0 [some (.ref (w.2.1 12 0)), some (.int k), some (.int h)] [] σ
  have h4 := r_NK hI
  refine J_aload_n hC dX9_canFly_0 rfl rfl ?_
  refine J_iload_n hC dX9_canFly_1 rfl rfl ?_
  refine i0X9_229 hC hK rfl ⟨by decide, by decide⟩ ⟨by decide, by decide⟩ (Nat.le_of_ble_eq_true rfl) dX9_canFly_2 ?_
  refine c0_X9_requireKite hK hL0 hO hI (fun rk => ?_) (fun rk => (hx1 (by unfold aCF; rw [chk_f rk])))
  dsimp only [Option.toList_some, Option.toList_none, List.cons_append, List.nil_append]
  obtain ⟨k, rfl, hk⟩ := rk
  refine J_iload_n hC dX9_canFly_5 rfl rfl ?_
  refine i0X9_281 hC rfl ⟨by decide, by decide⟩ ⟨by decide, by decide⟩ (Nat.le_of_ble_eq_true rfl) dX9_canFly_6 ?_
  refine c0_X9_requireHour  (fun rh => ?_) (fun rh => (hx2 (by unfold aCF; rw [chk_t ⟨k, rfl, hk⟩, chk_f rh])))
  dsimp only [Option.toList_some, Option.toList_none, List.cons_append, List.nil_append]
  obtain ⟨h, rfl, hh⟩ := rh
  refine J_aload_n hC dX9_canFly_9 rfl rfl ?_
  refine gX9_13 hC hK dX9_canFly_10 ?_
  refine J_iload_n hC dX9_canFly_13 rfl rfl ?_
  refine J_iload_n hC dX9_canFly_14 rfl rfl ?_
  refine iX9_328 hC hL0 rfl ⟨by decide, by decide⟩ ⟨by decide, by decide⟩ (Nat.le_of_ble_eq_true rfl) dX9_canFly_15 ?_
  refine c_X4_fliesAt hL0 hO hI hk (by omega) (fun b1 => ?_) (fun b1 => ?_)
  · dsimp only [Option.toList_some, Option.toList_none, List.cons_append, List.nil_append]
    refine J_zreturn hC hR dX9_canFly_18 (by decide) (by decide) (by decide) ?_
    have e : aCF A (nI k) (nI h) = (0, nI (ct (fliesN A k h))) := by
      unfold aCF
      rw [chk_t ⟨k, rfl, hk⟩, chk_t ⟨h, rfl, hh⟩, cl_n (by omega), cl_n (by omega)]
    rw [e] at hq
    have hq9 := hq rfl
    dsimp only at hq9
    rw [ct_t b1] at hq9
    exact hq9
  · dsimp only [Option.toList_some, Option.toList_none, List.cons_append, List.nil_append]
    refine J_zreturn hC hR dX9_canFly_18 (by decide) (by decide) (by decide) ?_
    have e : aCF A (nI k) (nI h) = (0, nI (ct (fliesN A k h))) := by
      unfold aCF
      rw [chk_t ⟨k, rfl, hk⟩, chk_t ⟨h, rfl, hh⟩, cl_n (by omega), cl_n (by omega)]
    rw [e] at hq
    have hq9 := hq rfl
    dsimp only at hq9
    rw [ct_f b1] at hq9
    exact hq9
set_option maxHeartbeats 4000000 in
set_option maxRecDepth 100000 in
theorem c0_X9_colourOf {G : GC} {w : Lay} {σ : Mem} {Q : Lay → Option Value → Mem → Prop} {Qx : Lay → String → Mem → Prop} (hK : LK w) (hL0 : LO w 0) {A : Rw} {hm : Nat} (hO : OAt σ 0 A) (hI : RowOK hm A) {k : Int32} (hq : (aOf 3 A k).1 = 0 → Q w (some (.int (aOf 3 A k).2)) σ) (hx1 : (aOf 3 A k).1 = 1 → False) : M0X9_colourOf G w σ [.ref (w.2.1 12 0), .int k] Q Qx := by
  refine mt_start (by decide) rfl (Nat.le_of_ble_eq_true rfl) (fun E hC hR hN => ?_)
  show J G E w 0 0 0 [some (.ref (w.2.1 12 0)), some (.int k)] [] σ
  have h4 := r_NK hI
  refine J_aload_n hC dX9_colourOf_0 rfl rfl ?_
  refine J_iload_n hC dX9_colourOf_1 rfl rfl ?_
  refine i0X9_229 hC hK rfl ⟨by decide, by decide⟩ ⟨by decide, by decide⟩ (Nat.le_of_ble_eq_true rfl) dX9_colourOf_2 ?_
  refine c0_X9_requireKite hK hL0 hO hI (fun rk => ?_) (fun rk => (hx1 (by unfold aOf; rw [chk_f rk])))
  dsimp only [Option.toList_some, Option.toList_none, List.cons_append, List.nil_append]
  obtain ⟨k, rfl, hk⟩ := rk
  refine J_aload_n hC dX9_colourOf_5 rfl rfl ?_
  refine gX9_13 hC hK dX9_colourOf_6 ?_
  refine gX9_141 hC hL0 dX9_colourOf_9 ?_
  refine gX9_310 hC hL0 dX9_colourOf_12 ?_
  refine J_iload_n hC dX9_colourOf_15 rfl rfl ?_
  refine J_iaload hC (hL0.2.1 11 (by decide)) (kd_o hL0.1) rfl (by omega) (by decide) dX9_colourOf_16 ?_
  refine J_top ((hO.2.2.2.2.2.1 k hk).2.2.2.2.1) ?_
  refine J_ireturn hC hR dX9_colourOf_17 (by decide) (by decide) ?_
  have e : aOf 3 A (nI k) = (0, A (70 + 9 * k + 3)) := by
    unfold aOf
    rw [chk_t ⟨k, rfl, hk⟩, cl_n (by omega)]
  rw [e] at hq
  exact hq rfl
set_option maxHeartbeats 4000000 in
set_option maxRecDepth 100000 in
theorem c0_X9_quotaUsed {G : GC} {w : Lay} {σ : Mem} {Q : Lay → Option Value → Mem → Prop} {Qx : Lay → String → Mem → Prop} (hK : LK w) (hL0 : LO w 0) {A : Rw} {hm : Nat} (hO : OAt σ 0 A) (hI : RowOK hm A) {c h : Int32} (hq : (aQU A c h).1 = 0 → Q w (some (.int (aQU A c h).2)) σ) (hx1 : (aQU A c h).1 = 1 → False) (hx2 : (aQU A c h).1 = 2 → False) : M0X9_quotaUsed G w σ [.ref (w.2.1 12 0), .int c, .int h] Q Qx := by
  refine mt_start (by decide) rfl (Nat.le_of_ble_eq_true rfl) (fun E hC hR hN => ?_)
  show J G E w 0 0 0 [some (.ref (w.2.1 12 0)), some (.int c), some (.int h)] [] σ
  have h4 := r_NC hI
  refine J_aload_n hC dX9_quotaUsed_0 rfl rfl ?_
  refine J_iload_n hC dX9_quotaUsed_1 rfl rfl ?_
  refine i0X9_224 hC hK rfl ⟨by decide, by decide⟩ ⟨by decide, by decide⟩ (Nat.le_of_ble_eq_true rfl) dX9_quotaUsed_2 ?_
  refine c0_X9_requireColour hK hL0 hO hI (fun rc => ?_) (fun rc => (hx1 (by unfold aQU; rw [chk_f rc])))
  dsimp only [Option.toList_some, Option.toList_none, List.cons_append, List.nil_append]
  obtain ⟨c, rfl, hc⟩ := rc
  refine J_iload_n hC dX9_quotaUsed_5 rfl rfl ?_
  refine i0X9_281 hC rfl ⟨by decide, by decide⟩ ⟨by decide, by decide⟩ (Nat.le_of_ble_eq_true rfl) dX9_quotaUsed_6 ?_
  refine c0_X9_requireHour  (fun rh => ?_) (fun rh => (hx2 (by unfold aQU; rw [chk_t ⟨c, rfl, hc⟩, chk_f rh])))
  dsimp only [Option.toList_some, Option.toList_none, List.cons_append, List.nil_append]
  obtain ⟨h, rfl, hh⟩ := rh
  refine J_aload_n hC dX9_quotaUsed_9 rfl rfl ?_
  refine gX9_13 hC hK dX9_quotaUsed_10 ?_
  refine J_iload_n hC dX9_quotaUsed_13 rfl rfl ?_
  refine J_iload_n hC dX9_quotaUsed_14 rfl rfl ?_
  refine iX9_299 hC hL0 rfl ⟨by decide, by decide⟩ ⟨by decide, by decide⟩ (Nat.le_of_ble_eq_true rfl) dX9_quotaUsed_15 ?_
  refine c_X4_countCovering hL0 hO hI (by omega) (by omega) ?_
  dsimp only [Option.toList_some, Option.toList_none, List.cons_append, List.nil_append]
  refine J_ireturn hC hR dX9_quotaUsed_18 (by decide) (by decide) ?_
  have e : aQU A (nI c) (nI h) = (0, nI (usedN A c h)) := by
    unfold aQU
    rw [chk_t ⟨c, rfl, hc⟩, chk_t ⟨h, rfl, hh⟩, cl_n (by omega), cl_n (by omega)]
  rw [e] at hq
  exact hq rfl
set_option maxHeartbeats 4000000 in
set_option maxRecDepth 100000 in
theorem c0_X9_quota {G : GC} {w : Lay} {σ : Mem} {Q : Lay → Option Value → Mem → Prop} {Qx : Lay → String → Mem → Prop} (hK : LK w) (hL0 : LO w 0) {A : Rw} {hm : Nat} (hO : OAt σ 0 A) (hI : RowOK hm A) {c : Int32} (hq : (aQ A c).1 = 0 → Q w (some (.int (aQ A c).2)) σ) (hx1 : (aQ A c).1 = 1 → False) : M0X9_quota G w σ [.ref (w.2.1 12 0), .int c] Q Qx := by
  refine mt_start (by decide) rfl (Nat.le_of_ble_eq_true rfl) (fun E hC hR hN => ?_)
  show J G E w 0 0 0 [some (.ref (w.2.1 12 0)), some (.int c)] [] σ
  have h4 := r_NC hI
  refine J_aload_n hC dX9_quota_0 rfl rfl ?_
  refine J_iload_n hC dX9_quota_1 rfl rfl ?_
  refine i0X9_224 hC hK rfl ⟨by decide, by decide⟩ ⟨by decide, by decide⟩ (Nat.le_of_ble_eq_true rfl) dX9_quota_2 ?_
  refine c0_X9_requireColour hK hL0 hO hI (fun rc => ?_) (fun rc => (hx1 (by unfold aQ; rw [chk_f rc])))
  dsimp only [Option.toList_some, Option.toList_none, List.cons_append, List.nil_append]
  obtain ⟨c, rfl, hc⟩ := rc
  refine J_aload_n hC dX9_quota_5 rfl rfl ?_
  refine gX9_13 hC hK dX9_quota_6 ?_
  refine gX9_59 hC hL0 dX9_quota_9 ?_
  refine gX9_296 hC hL0 dX9_quota_12 ?_
  refine J_iload_n hC dX9_quota_15 rfl rfl ?_
  refine J_iaload hC (hL0.2.1 5 (by decide)) (kd_o hL0.1) rfl (by omega) (by decide) dX9_quota_16 ?_
  refine J_top (hO.2.2.2.1 c hc) ?_
  refine J_ireturn hC hR dX9_quota_17 (by decide) (by decide) ?_
  have e : aQ A (nI c) = (0, A (64 + c)) := by
    unfold aQ
    rw [chk_t ⟨c, rfl, hc⟩, cl_n (by omega)]
  rw [e] at hq
  exact hq rfl
set_option maxHeartbeats 4000000 in
set_option maxRecDepth 100000 in
theorem c0_X9_doCross {G : GC} {w : Lay} {σ : Mem} {Q : Lay → Option Value → Mem → Prop} {Qx : Lay → String → Mem → Prop} (hK : LK w) (hL0 : LO w 0) {A : Rw} {hm : Nat} (hO : OAt σ 0 A) (hI : RowOK hm A) {k i h : Int32} (hq : (aDC A k i h).1 = 0 → Q w (some (.int (aDC A k i h).2)) σ) (hx1 : (aDC A k i h).1 = 1 → False) (hx2 : (aDC A k i h).1 = 2 → False) : M0X9_doCross G w σ [.ref (w.2.1 12 0), .int k, .int i, .int h] Q Qx := by
  refine mt_start (by decide) rfl (Nat.le_of_ble_eq_true rfl) (fun E hC hR hN => ?_)
  show J G E w 0 0 0 [some (.ref (w.2.1 12 0)), some (.int k), some (.int i), some (.int h)] [] σ
  have h4 := r_NK hI
  refine J_aload_n hC dX9_doCross_0 rfl rfl ?_
  refine J_iload_n hC dX9_doCross_1 rfl rfl ?_
  refine i0X9_229 hC hK rfl ⟨by decide, by decide⟩ ⟨by decide, by decide⟩ (Nat.le_of_ble_eq_true rfl) dX9_doCross_2 ?_
  refine c0_X9_requireKite hK hL0 hO hI (fun rk => ?_) (fun rk => (hx1 (by unfold aDC; rw [chk_f rk])))
  dsimp only [Option.toList_some, Option.toList_none, List.cons_append, List.nil_append]
  obtain ⟨k, rfl, hk⟩ := rk
  refine J_aload_n hC dX9_doCross_5 rfl rfl ?_
  refine J_iload_n hC dX9_doCross_6 rfl rfl ?_
  refine i0X9_229 hC hK rfl ⟨by decide, by decide⟩ ⟨by decide, by decide⟩ (Nat.le_of_ble_eq_true rfl) dX9_doCross_7 ?_
  refine c0_X9_requireKite hK hL0 hO hI (fun ri => ?_) (fun ri => (hx1 (by unfold aDC; rw [chk_t ⟨k, rfl, hk⟩, chk_f ri])))
  dsimp only [Option.toList_some, Option.toList_none, List.cons_append, List.nil_append]
  obtain ⟨i, rfl, hi⟩ := ri
  refine J_iload_n hC dX9_doCross_10 rfl rfl ?_
  refine J_iload_n hC dX9_doCross_11 rfl rfl ?_
  refine i0X9_332 hC rfl ⟨by decide, by decide⟩ ⟨by decide, by decide⟩ (Nat.le_of_ble_eq_true rfl) dX9_doCross_12 ?_
  refine c0_X9_requireDifferent  (fun rki => ?_) (fun rki => (hx2 (by unfold aDC; rw [chk_t ⟨k, rfl, hk⟩, chk_t ⟨i, rfl, hi⟩, chk_f rki])))
  dsimp only [Option.toList_some, Option.toList_none, List.cons_append, List.nil_append]
  refine J_iload_n hC dX9_doCross_15 rfl rfl ?_
  refine i0X9_281 hC rfl ⟨by decide, by decide⟩ ⟨by decide, by decide⟩ (Nat.le_of_ble_eq_true rfl) dX9_doCross_16 ?_
  refine c0_X9_requireHour  (fun rh => ?_) (fun rh => (hx2 (by unfold aDC; rw [chk_t ⟨k, rfl, hk⟩, chk_t ⟨i, rfl, hi⟩, chk_t rki, chk_f rh])))
  dsimp only [Option.toList_some, Option.toList_none, List.cons_append, List.nil_append]
  obtain ⟨h, rfl, hh⟩ := rh
  refine J_aload_n hC dX9_doCross_19 rfl rfl ?_
  refine gX9_13 hC hK dX9_doCross_20 ?_
  refine J_iload_n hC dX9_doCross_23 rfl rfl ?_
  refine J_iload_n hC dX9_doCross_24 rfl rfl ?_
  refine J_iload_n hC dX9_doCross_25 rfl rfl ?_
  refine iX9_335 hC hL0 rfl ⟨by decide, by decide⟩ ⟨by decide, by decide⟩ (Nat.le_of_ble_eq_true rfl) dX9_doCross_26 ?_
  refine c_X4_stringsCross hL0 hO hI hk hi (by omega) (fun b1 => ?_) (fun b1 => ?_)
  · dsimp only [Option.toList_some, Option.toList_none, List.cons_append, List.nil_append]
    refine J_zreturn hC hR dX9_doCross_29 (by decide) (by decide) (by decide) ?_
    have e : aDC A (nI k) (nI i) (nI h) = (0, nI (ct (crossN A k i h))) := by
      unfold aDC
      rw [chk_t ⟨k, rfl, hk⟩, chk_t ⟨i, rfl, hi⟩, chk_t rki, chk_t ⟨h, rfl, hh⟩, cl_n (by omega), cl_n (by omega), cl_n (by omega)]
    rw [e] at hq
    have hq9 := hq rfl
    dsimp only at hq9
    rw [ct_t b1] at hq9
    exact hq9
  · dsimp only [Option.toList_some, Option.toList_none, List.cons_append, List.nil_append]
    refine J_zreturn hC hR dX9_doCross_29 (by decide) (by decide) (by decide) ?_
    have e : aDC A (nI k) (nI i) (nI h) = (0, nI (ct (crossN A k i h))) := by
      unfold aDC
      rw [chk_t ⟨k, rfl, hk⟩, chk_t ⟨i, rfl, hi⟩, chk_t rki, chk_t ⟨h, rfl, hh⟩, cl_n (by omega), cl_n (by omega), cl_n (by omega)]
    rw [e] at hq
    have hq9 := hq rfl
    dsimp only at hq9
    rw [ct_f b1] at hq9
    exact hq9
set_option maxHeartbeats 4000000 in
set_option maxRecDepth 100000 in
theorem c0_X9_purse {G : GC} {w : Lay} {σ : Mem} {Q : Lay → Option Value → Mem → Prop} {Qx : Lay → String → Mem → Prop} (hK : LK w) (hL0 : LO w 0) {A : Rw} {hm : Nat} (hO : OAt σ 0 A) (hI : RowOK hm A) {k : Int32} (hq : (aOf 5 A k).1 = 0 → Q w (some (.int (aOf 5 A k).2)) σ) (hx1 : (aOf 5 A k).1 = 1 → False) : M0X9_purse G w σ [.ref (w.2.1 12 0), .int k] Q Qx := by
  refine mt_start (by decide) rfl (Nat.le_of_ble_eq_true rfl) (fun E hC hR hN => ?_)
  show J G E w 0 0 0 [some (.ref (w.2.1 12 0)), some (.int k)] [] σ
  have h4 := r_NK hI
  refine J_aload_n hC dX9_purse_0 rfl rfl ?_
  refine J_iload_n hC dX9_purse_1 rfl rfl ?_
  refine i0X9_229 hC hK rfl ⟨by decide, by decide⟩ ⟨by decide, by decide⟩ (Nat.le_of_ble_eq_true rfl) dX9_purse_2 ?_
  refine c0_X9_requireKite hK hL0 hO hI (fun rk => ?_) (fun rk => (hx1 (by unfold aOf; rw [chk_f rk])))
  dsimp only [Option.toList_some, Option.toList_none, List.cons_append, List.nil_append]
  obtain ⟨k, rfl, hk⟩ := rk
  refine J_aload_n hC dX9_purse_5 rfl rfl ?_
  refine gX9_13 hC hK dX9_purse_6 ?_
  refine gX9_141 hC hL0 dX9_purse_9 ?_
  refine gX9_261 hC hL0 dX9_purse_12 ?_
  refine J_iload_n hC dX9_purse_15 rfl rfl ?_
  refine J_iaload hC (hL0.2.1 13 (by decide)) (kd_o hL0.1) rfl (by omega) (by decide) dX9_purse_16 ?_
  refine J_top ((hO.2.2.2.2.2.1 k hk).2.2.2.2.2.2.1) ?_
  refine J_ireturn hC hR dX9_purse_17 (by decide) (by decide) ?_
  have e : aOf 5 A (nI k) = (0, A (70 + 9 * k + 5)) := by
    unfold aOf
    rw [chk_t ⟨k, rfl, hk⟩, cl_n (by omega)]
  rw [e] at hq
  exact hq rfl
set_option maxHeartbeats 4000000 in
set_option maxRecDepth 100000 in
theorem c0_X9_stateOf {G : GC} {w : Lay} {σ : Mem} {Q : Lay → Option Value → Mem → Prop} {Qx : Lay → String → Mem → Prop} (hK : LK w) (hL0 : LO w 0) {A : Rw} {hm : Nat} (hO : OAt σ 0 A) (hI : RowOK hm A) {k : Int32} (hq : (aOf 6 A k).1 = 0 → Q w (some (.int (aOf 6 A k).2)) σ) (hx1 : (aOf 6 A k).1 = 1 → False) : M0X9_stateOf G w σ [.ref (w.2.1 12 0), .int k] Q Qx := by
  refine mt_start (by decide) rfl (Nat.le_of_ble_eq_true rfl) (fun E hC hR hN => ?_)
  show J G E w 0 0 0 [some (.ref (w.2.1 12 0)), some (.int k)] [] σ
  have h4 := r_NK hI
  refine J_aload_n hC dX9_stateOf_0 rfl rfl ?_
  refine J_iload_n hC dX9_stateOf_1 rfl rfl ?_
  refine i0X9_229 hC hK rfl ⟨by decide, by decide⟩ ⟨by decide, by decide⟩ (Nat.le_of_ble_eq_true rfl) dX9_stateOf_2 ?_
  refine c0_X9_requireKite hK hL0 hO hI (fun rk => ?_) (fun rk => (hx1 (by unfold aOf; rw [chk_f rk])))
  dsimp only [Option.toList_some, Option.toList_none, List.cons_append, List.nil_append]
  obtain ⟨k, rfl, hk⟩ := rk
  refine J_aload_n hC dX9_stateOf_5 rfl rfl ?_
  refine gX9_13 hC hK dX9_stateOf_6 ?_
  refine gX9_141 hC hL0 dX9_stateOf_9 ?_
  refine gX9_177 hC hL0 dX9_stateOf_12 ?_
  refine J_iload_n hC dX9_stateOf_15 rfl rfl ?_
  refine J_iaload hC (hL0.2.1 14 (by decide)) (kd_o hL0.1) rfl (by omega) (by decide) dX9_stateOf_16 ?_
  refine J_top ((hO.2.2.2.2.2.1 k hk).2.2.2.2.2.2.2.1) ?_
  refine J_ireturn hC hR dX9_stateOf_17 (by decide) (by decide) ?_
  have e : aOf 6 A (nI k) = (0, A (70 + 9 * k + 6)) := by
    unfold aOf
    rw [chk_t ⟨k, rfl, hk⟩, cl_n (by omega)]
  rw [e] at hq
  exact hq rfl
set_option maxHeartbeats 4000000 in
set_option maxRecDepth 100000 in
theorem c0_X9_tangles {G : GC} {w : Lay} {σ : Mem} {Q : Lay → Option Value → Mem → Prop} {Qx : Lay → String → Mem → Prop} (hK : LK w) (hL0 : LO w 0) {A : Rw} {hm : Nat} (hO : OAt σ 0 A) (hI : RowOK hm A) {k : Int32} (hq : (aOf 7 A k).1 = 0 → Q w (some (.int (aOf 7 A k).2)) σ) (hx1 : (aOf 7 A k).1 = 1 → False) : M0X9_tangles G w σ [.ref (w.2.1 12 0), .int k] Q Qx := by
  refine mt_start (by decide) rfl (Nat.le_of_ble_eq_true rfl) (fun E hC hR hN => ?_)
  show J G E w 0 0 0 [some (.ref (w.2.1 12 0)), some (.int k)] [] σ
  have h4 := r_NK hI
  refine J_aload_n hC dX9_tangles_0 rfl rfl ?_
  refine J_iload_n hC dX9_tangles_1 rfl rfl ?_
  refine i0X9_229 hC hK rfl ⟨by decide, by decide⟩ ⟨by decide, by decide⟩ (Nat.le_of_ble_eq_true rfl) dX9_tangles_2 ?_
  refine c0_X9_requireKite hK hL0 hO hI (fun rk => ?_) (fun rk => (hx1 (by unfold aOf; rw [chk_f rk])))
  dsimp only [Option.toList_some, Option.toList_none, List.cons_append, List.nil_append]
  obtain ⟨k, rfl, hk⟩ := rk
  refine J_aload_n hC dX9_tangles_5 rfl rfl ?_
  refine gX9_13 hC hK dX9_tangles_6 ?_
  refine gX9_141 hC hL0 dX9_tangles_9 ?_
  refine gX9_316 hC hL0 dX9_tangles_12 ?_
  refine J_iload_n hC dX9_tangles_15 rfl rfl ?_
  refine J_iaload hC (hL0.2.1 16 (by decide)) (kd_o hL0.1) rfl (by omega) (by decide) dX9_tangles_16 ?_
  refine J_top (o_T hO hk) ?_
  refine J_ireturn hC hR dX9_tangles_17 (by decide) (by decide) ?_
  have e : aOf 7 A (nI k) = (0, A (70 + 9 * k + 7)) := by
    unfold aOf
    rw [chk_t ⟨k, rfl, hk⟩, cl_n (by omega)]
  rw [e] at hq
  exact hq rfl
set_option maxHeartbeats 4000000 in
set_option maxRecDepth 100000 in
theorem c0_X9_knots {G : GC} {w : Lay} {σ : Mem} {Q : Lay → Option Value → Mem → Prop} {Qx : Lay → String → Mem → Prop} (hK : LK w) (hL0 : LO w 0) {A : Rw} {hm : Nat} (hO : OAt σ 0 A) (hI : RowOK hm A) {k : Int32} (hq : (aOf 4 A k).1 = 0 → Q w (some (.int (aOf 4 A k).2)) σ) (hx1 : (aOf 4 A k).1 = 1 → False) : M0X9_knots G w σ [.ref (w.2.1 12 0), .int k] Q Qx := by
  refine mt_start (by decide) rfl (Nat.le_of_ble_eq_true rfl) (fun E hC hR hN => ?_)
  show J G E w 0 0 0 [some (.ref (w.2.1 12 0)), some (.int k)] [] σ
  have h4 := r_NK hI
  refine J_aload_n hC dX9_knots_0 rfl rfl ?_
  refine J_iload_n hC dX9_knots_1 rfl rfl ?_
  refine i0X9_229 hC hK rfl ⟨by decide, by decide⟩ ⟨by decide, by decide⟩ (Nat.le_of_ble_eq_true rfl) dX9_knots_2 ?_
  refine c0_X9_requireKite hK hL0 hO hI (fun rk => ?_) (fun rk => (hx1 (by unfold aOf; rw [chk_f rk])))
  dsimp only [Option.toList_some, Option.toList_none, List.cons_append, List.nil_append]
  obtain ⟨k, rfl, hk⟩ := rk
  refine J_aload_n hC dX9_knots_5 rfl rfl ?_
  refine gX9_13 hC hK dX9_knots_6 ?_
  refine gX9_141 hC hL0 dX9_knots_9 ?_
  refine gX9_253 hC hL0 dX9_knots_12 ?_
  refine J_iload_n hC dX9_knots_15 rfl rfl ?_
  refine J_iaload hC (hL0.2.1 12 (by decide)) (kd_o hL0.1) rfl (by omega) (by decide) dX9_knots_16 ?_
  refine J_top ((hO.2.2.2.2.2.1 k hk).2.2.2.2.2.1) ?_
  refine J_ireturn hC hR dX9_knots_17 (by decide) (by decide) ?_
  have e : aOf 4 A (nI k) = (0, A (70 + 9 * k + 4)) := by
    unfold aOf
    rw [chk_t ⟨k, rfl, hk⟩, cl_n (by omega)]
  rw [e] at hq
  exact hq rfl
set_option maxHeartbeats 4000000 in
set_option maxRecDepth 100000 in
theorem c0_X9_reach {G : GC} {w : Lay} {σ : Mem} {Q : Lay → Option Value → Mem → Prop} {Qx : Lay → String → Mem → Prop} (hK : LK w) (hL0 : LO w 0) {A : Rw} {hm : Nat} (hO : OAt σ 0 A) (hI : RowOK hm A) {k h : Int32} (hq : (aRe A k h).1 = 0 → Q w (some (.int (aRe A k h).2)) σ) (hx1 : (aRe A k h).1 = 1 → False) (hx2 : (aRe A k h).1 = 2 → False) : M0X9_reach G w σ [.ref (w.2.1 12 0), .int k, .int h] Q Qx := by
  refine mt_start (by decide) rfl (Nat.le_of_ble_eq_true rfl) (fun E hC hR hN => ?_)
  show J G E w 0 0 0 [some (.ref (w.2.1 12 0)), some (.int k), some (.int h)] [] σ
  have h4 := r_NK hI
  refine J_aload_n hC dX9_reach_0 rfl rfl ?_
  refine J_iload_n hC dX9_reach_1 rfl rfl ?_
  refine i0X9_229 hC hK rfl ⟨by decide, by decide⟩ ⟨by decide, by decide⟩ (Nat.le_of_ble_eq_true rfl) dX9_reach_2 ?_
  refine c0_X9_requireKite hK hL0 hO hI (fun rk => ?_) (fun rk => (hx1 (by unfold aRe; rw [chk_f rk])))
  dsimp only [Option.toList_some, Option.toList_none, List.cons_append, List.nil_append]
  obtain ⟨k, rfl, hk⟩ := rk
  refine J_iload_n hC dX9_reach_5 rfl rfl ?_
  refine i0X9_281 hC rfl ⟨by decide, by decide⟩ ⟨by decide, by decide⟩ (Nat.le_of_ble_eq_true rfl) dX9_reach_6 ?_
  refine c0_X9_requireHour  (fun rh => ?_) (fun rh => (hx2 (by unfold aRe; rw [chk_t ⟨k, rfl, hk⟩, chk_f rh])))
  dsimp only [Option.toList_some, Option.toList_none, List.cons_append, List.nil_append]
  obtain ⟨h, rfl, hh⟩ := rh
  refine J_aload_n hC dX9_reach_9 rfl rfl ?_
  refine gX9_13 hC hK dX9_reach_10 ?_
  refine J_iload_n hC dX9_reach_13 rfl rfl ?_
  refine J_iload_n hC dX9_reach_14 rfl rfl ?_
  refine iX9_237 hC hL0 rfl ⟨by decide, by decide⟩ ⟨by decide, by decide⟩ (Nat.le_of_ble_eq_true rfl) dX9_reach_15 ?_
  refine c_X4_reachAt hL0 hO hI hk (by omega) ?_
  dsimp only [Option.toList_some, Option.toList_none, List.cons_append, List.nil_append]
  refine J_ireturn hC hR dX9_reach_18 (by decide) (by decide) ?_
  have e : aRe A (nI k) (nI h) = (0, nI (reachN A k h)) := by
    unfold aRe
    rw [chk_t ⟨k, rfl, hk⟩, chk_t ⟨h, rfl, hh⟩, cl_n (by omega), cl_n (by omega)]
  rw [e] at hq
  exact hq rfl
theorem c1_X9_permitKite {G : GC} {w : Lay} {σ : Mem} {Q : Lay → Option Value → Mem → Prop} {Qx : Lay → String → Mem → Prop} (hK : LK w) (hL0 : LO w 0) {A : Rw} {hm : Nat} (hO : OAt σ 0 A) (hI : RowOK hm A) {p : Nat} (hp : p < nv A 11) (hq : Q w (some (.int (nI (nv A (214 + 3 * p))))) σ) : M0X9_permitKite G w σ [.ref (w.2.1 12 0), .int (nI p)] Q Qx := by
  have h6 := r_NK hI
  have h11 := r_NP hI
  have h5 := r_NC hI
  have e : aPf 0 A (nI p) = (0, nI (nv A (214 + 3 * p))) := by
    unfold aPf
    rw [chk_t ⟨p, rfl, hp⟩, cl_n (by omega)]
    exact congrArg (Prod.mk 0) (r_PK hI hp).1

  exact c0_X9_permitKite hK hL0 hO hI (fun _ => by rw [e]; exact hq) (fun h => by rw [e] at h; cases h)
theorem c1_X9_permitStart {G : GC} {w : Lay} {σ : Mem} {Q : Lay → Option Value → Mem → Prop} {Qx : Lay → String → Mem → Prop} (hK : LK w) (hL0 : LO w 0) {A : Rw} {hm : Nat} (hO : OAt σ 0 A) (hI : RowOK hm A) {p : Nat} (hp : p < nv A 11) (hq : Q w (some (.int (nI (nv A (214 + 3 * p + 1))))) σ) : M0X9_permitStart G w σ [.ref (w.2.1 12 0), .int (nI p)] Q Qx := by
  have h6 := r_NK hI
  have h11 := r_NP hI
  have h5 := r_NC hI
  have e : aPf 1 A (nI p) = (0, nI (nv A (214 + 3 * p + 1))) := by
    unfold aPf
    rw [chk_t ⟨p, rfl, hp⟩, cl_n (by omega)]
    exact congrArg (Prod.mk 0) (r_PS hI hp).1

  exact c0_X9_permitStart hK hL0 hO hI (fun _ => by rw [e]; exact hq) (fun h => by rw [e] at h; cases h)
theorem c1_X9_permitDuration {G : GC} {w : Lay} {σ : Mem} {Q : Lay → Option Value → Mem → Prop} {Qx : Lay → String → Mem → Prop} (hK : LK w) (hL0 : LO w 0) {A : Rw} {hm : Nat} (hO : OAt σ 0 A) (hI : RowOK hm A) {p : Nat} (hp : p < nv A 11) (hq : Q w (some (.int (nI (nv A (214 + 3 * p + 2))))) σ) : M0X9_permitDuration G w σ [.ref (w.2.1 12 0), .int (nI p)] Q Qx := by
  have h6 := r_NK hI
  have h11 := r_NP hI
  have h5 := r_NC hI
  have e : aPf 2 A (nI p) = (0, nI (nv A (214 + 3 * p + 2))) := by
    unfold aPf
    rw [chk_t ⟨p, rfl, hp⟩, cl_n (by omega)]
    exact congrArg (Prod.mk 0) (r_PD hI hp).1

  exact c0_X9_permitDuration hK hL0 hO hI (fun _ => by rw [e]; exact hq) (fun h => by rw [e] at h; cases h)
theorem c1_X9_colourOf {G : GC} {w : Lay} {σ : Mem} {Q : Lay → Option Value → Mem → Prop} {Qx : Lay → String → Mem → Prop} (hK : LK w) (hL0 : LO w 0) {A : Rw} {hm : Nat} (hO : OAt σ 0 A) (hI : RowOK hm A) {k : Nat} (hk : k < nv A 6) (hq : Q w (some (.int (nI (nv A (70 + 9 * k + 3))))) σ) : M0X9_colourOf G w σ [.ref (w.2.1 12 0), .int (nI k)] Q Qx := by
  have h6 := r_NK hI
  have h11 := r_NP hI
  have h5 := r_NC hI
  have e : aOf 3 A (nI k) = (0, nI (nv A (70 + 9 * k + 3))) := by
    unfold aOf
    rw [chk_t ⟨k, rfl, hk⟩, cl_n (by omega)]
    exact congrArg (Prod.mk 0) (r_KC hI hk).1

  exact c0_X9_colourOf hK hL0 hO hI (fun _ => by rw [e]; exact hq) (fun h => by rw [e] at h; cases h)
theorem c1_X9_knots {G : GC} {w : Lay} {σ : Mem} {Q : Lay → Option Value → Mem → Prop} {Qx : Lay → String → Mem → Prop} (hK : LK w) (hL0 : LO w 0) {A : Rw} {hm : Nat} (hO : OAt σ 0 A) (hI : RowOK hm A) {k : Nat} (hk : k < nv A 6) (hq : Q w (some (.int (nI (nv A (70 + 9 * k + 4))))) σ) : M0X9_knots G w σ [.ref (w.2.1 12 0), .int (nI k)] Q Qx := by
  have h6 := r_NK hI
  have h11 := r_NP hI
  have h5 := r_NC hI
  have e : aOf 4 A (nI k) = (0, nI (nv A (70 + 9 * k + 4))) := by
    unfold aOf
    rw [chk_t ⟨k, rfl, hk⟩, cl_n (by omega)]
    exact congrArg (Prod.mk 0) (r_KN hI hk).1

  exact c0_X9_knots hK hL0 hO hI (fun _ => by rw [e]; exact hq) (fun h => by rw [e] at h; cases h)
theorem c1_X9_stateOf {G : GC} {w : Lay} {σ : Mem} {Q : Lay → Option Value → Mem → Prop} {Qx : Lay → String → Mem → Prop} (hK : LK w) (hL0 : LO w 0) {A : Rw} {hm : Nat} (hO : OAt σ 0 A) (hI : RowOK hm A) {k : Nat} (hk : k < nv A 6) (hq : Q w (some (.int (nI (nv A (70 + 9 * k + 6))))) σ) : M0X9_stateOf G w σ [.ref (w.2.1 12 0), .int (nI k)] Q Qx := by
  have h6 := r_NK hI
  have h11 := r_NP hI
  have h5 := r_NC hI
  have e : aOf 6 A (nI k) = (0, nI (nv A (70 + 9 * k + 6))) := by
    unfold aOf
    rw [chk_t ⟨k, rfl, hk⟩, cl_n (by omega)]
    exact congrArg (Prod.mk 0) (r_KS hI hk).1

  exact c0_X9_stateOf hK hL0 hO hI (fun _ => by rw [e]; exact hq) (fun h => by rw [e] at h; cases h)
theorem c1_X9_purse {G : GC} {w : Lay} {σ : Mem} {Q : Lay → Option Value → Mem → Prop} {Qx : Lay → String → Mem → Prop} (hK : LK w) (hL0 : LO w 0) {A : Rw} {hm : Nat} (hO : OAt σ 0 A) (hI : RowOK hm A) {k : Nat} (hk : k < nv A 6) (hq : Q w (some (.int (A (70 + 9 * k + 5)))) σ) : M0X9_purse G w σ [.ref (w.2.1 12 0), .int (nI k)] Q Qx := by
  have h6 := r_NK hI
  have h11 := r_NP hI
  have h5 := r_NC hI
  have e : aOf 5 A (nI k) = (0, A (70 + 9 * k + 5)) := by
    unfold aOf
    rw [chk_t ⟨k, rfl, hk⟩, cl_n (by omega)]
  exact c0_X9_purse hK hL0 hO hI (fun _ => by rw [e]; exact hq) (fun h => by rw [e] at h; cases h)
theorem c1_X9_tangles {G : GC} {w : Lay} {σ : Mem} {Q : Lay → Option Value → Mem → Prop} {Qx : Lay → String → Mem → Prop} (hK : LK w) (hL0 : LO w 0) {A : Rw} {hm : Nat} (hO : OAt σ 0 A) (hI : RowOK hm A) {k : Nat} (hk : k < nv A 6) (hq : Q w (some (.int (A (70 + 9 * k + 7)))) σ) : M0X9_tangles G w σ [.ref (w.2.1 12 0), .int (nI k)] Q Qx := by
  have h6 := r_NK hI
  have h11 := r_NP hI
  have h5 := r_NC hI
  have e : aOf 7 A (nI k) = (0, A (70 + 9 * k + 7)) := by
    unfold aOf
    rw [chk_t ⟨k, rfl, hk⟩, cl_n (by omega)]
  exact c0_X9_tangles hK hL0 hO hI (fun _ => by rw [e]; exact hq) (fun h => by rw [e] at h; cases h)
theorem c1_X9_quota {G : GC} {w : Lay} {σ : Mem} {Q : Lay → Option Value → Mem → Prop} {Qx : Lay → String → Mem → Prop} (hK : LK w) (hL0 : LO w 0) {A : Rw} {hm : Nat} (hO : OAt σ 0 A) (hI : RowOK hm A) {c : Nat} (hc : c < nv A 5) (hq : Q w (some (.int (nI (nv A (64 + c))))) σ) : M0X9_quota G w σ [.ref (w.2.1 12 0), .int (nI c)] Q Qx := by
  have h6 := r_NK hI
  have h11 := r_NP hI
  have h5 := r_NC hI
  have e : aQ A (nI c) = (0, nI (nv A (64 + c))) := by
    unfold aQ
    rw [chk_t ⟨c, rfl, hc⟩, cl_n (by omega)]
    exact congrArg (Prod.mk 0) (r_Q hI hc).1

  exact c0_X9_quota hK hL0 hO hI (fun _ => by rw [e]; exact hq) (fun h => by rw [e] at h; cases h)
theorem c1_X9_quotaUsed {G : GC} {w : Lay} {σ : Mem} {Q : Lay → Option Value → Mem → Prop} {Qx : Lay → String → Mem → Prop} (hK : LK w) (hL0 : LO w 0) {A : Rw} {hm : Nat} (hO : OAt σ 0 A) (hI : RowOK hm A) {c h : Nat} (hc : c < nv A 5) (hh : h ≤ 999999) (hq : Q w (some (.int (nI (usedN A c h)))) σ) : M0X9_quotaUsed G w σ [.ref (w.2.1 12 0), .int (nI c), .int (nI h)] Q Qx := by
  have h6 := r_NK hI
  have h11 := r_NP hI
  have h5 := r_NC hI
  have e : aQU A (nI c) (nI h) = (0, nI (usedN A c h)) := by
    unfold aQU
    rw [chk_t ⟨c, rfl, hc⟩, chk_t ⟨h, rfl, Nat.zero_le _, hh⟩, cl_n (by omega), cl_n (by omega)]
  exact c0_X9_quotaUsed hK hL0 hO hI (fun _ => by rw [e]; exact hq) (fun h => by rw [e] at h; cases h) (fun h => by rw [e] at h; cases h)
theorem c1_X9_hasPermit {G : GC} {w : Lay} {σ : Mem} {Q : Lay → Option Value → Mem → Prop} {Qx : Lay → String → Mem → Prop} (hK : LK w) (hL0 : LO w 0) {A : Rw} {hm : Nat} (hO : OAt σ 0 A) (hI : RowOK hm A) {k h : Nat} (hk : k < nv A 6) (hh : h ≤ 999999) (hq : Q w (some (.int (nI (ct (permN A k h))))) σ) : M0X9_hasPermit G w σ [.ref (w.2.1 12 0), .int (nI k), .int (nI h)] Q Qx := by
  have h6 := r_NK hI
  have h11 := r_NP hI
  have h5 := r_NC hI
  have e : aHP A (nI k) (nI h) = (0, nI (ct (permN A k h))) := by
    unfold aHP
    rw [chk_t ⟨k, rfl, hk⟩, chk_t ⟨h, rfl, Nat.zero_le _, hh⟩, cl_n (by omega), cl_n (by omega)]
  exact c0_X9_hasPermit hK hL0 hO hI (fun _ => by rw [e]; exact hq) (fun h => by rw [e] at h; cases h) (fun h => by rw [e] at h; cases h)
theorem c1_X9_canFly {G : GC} {w : Lay} {σ : Mem} {Q : Lay → Option Value → Mem → Prop} {Qx : Lay → String → Mem → Prop} (hK : LK w) (hL0 : LO w 0) {A : Rw} {hm : Nat} (hO : OAt σ 0 A) (hI : RowOK hm A) {k h : Nat} (hk : k < nv A 6) (hh : h ≤ 999999) (hq : Q w (some (.int (nI (ct (fliesN A k h))))) σ) : M0X9_canFly G w σ [.ref (w.2.1 12 0), .int (nI k), .int (nI h)] Q Qx := by
  have h6 := r_NK hI
  have h11 := r_NP hI
  have h5 := r_NC hI
  have e : aCF A (nI k) (nI h) = (0, nI (ct (fliesN A k h))) := by
    unfold aCF
    rw [chk_t ⟨k, rfl, hk⟩, chk_t ⟨h, rfl, Nat.zero_le _, hh⟩, cl_n (by omega), cl_n (by omega)]
  exact c0_X9_canFly hK hL0 hO hI (fun _ => by rw [e]; exact hq) (fun h => by rw [e] at h; cases h) (fun h => by rw [e] at h; cases h)
theorem c1_X9_reach {G : GC} {w : Lay} {σ : Mem} {Q : Lay → Option Value → Mem → Prop} {Qx : Lay → String → Mem → Prop} (hK : LK w) (hL0 : LO w 0) {A : Rw} {hm : Nat} (hO : OAt σ 0 A) (hI : RowOK hm A) {k h : Nat} (hk : k < nv A 6) (hh : h ≤ 999999) (hq : Q w (some (.int (nI (reachN A k h)))) σ) : M0X9_reach G w σ [.ref (w.2.1 12 0), .int (nI k), .int (nI h)] Q Qx := by
  have h6 := r_NK hI
  have h11 := r_NP hI
  have h5 := r_NC hI
  have e : aRe A (nI k) (nI h) = (0, nI (reachN A k h)) := by
    unfold aRe
    rw [chk_t ⟨k, rfl, hk⟩, chk_t ⟨h, rfl, Nat.zero_le _, hh⟩, cl_n (by omega), cl_n (by omega)]
  exact c0_X9_reach hK hL0 hO hI (fun _ => by rw [e]; exact hq) (fun h => by rw [e] at h; cases h) (fun h => by rw [e] at h; cases h)
theorem c1_X9_doCross {G : GC} {w : Lay} {σ : Mem} {Q : Lay → Option Value → Mem → Prop} {Qx : Lay → String → Mem → Prop} (hK : LK w) (hL0 : LO w 0) {A : Rw} {hm : Nat} (hO : OAt σ 0 A) (hI : RowOK hm A) {k i h : Nat} (hk : k < nv A 6) (hi : i < nv A 6) (hki : k ≠ i) (hh : h ≤ 999999) (hq : Q w (some (.int (nI (ct (crossN A k i h))))) σ) : M0X9_doCross G w σ [.ref (w.2.1 12 0), .int (nI k), .int (nI i), .int (nI h)] Q Qx := by
  have h6 := r_NK hI
  have h11 := r_NP hI
  have h5 := r_NC hI
  have e : aDC A (nI k) (nI i) (nI h) = (0, nI (ct (crossN A k i h))) := by
    unfold aDC
    rw [chk_t ⟨k, rfl, hk⟩, chk_t ⟨i, rfl, hi⟩, chk_t (fun q => hki ((nI_eq (by omega) (by omega)).mp q)), chk_t ⟨h, rfl, Nat.zero_le _, hh⟩, cl_n (by omega), cl_n (by omega), cl_n (by omega)]
  exact c0_X9_doCross hK hL0 hO hI (fun _ => by rw [e]; exact hq) (fun h => by rw [e] at h; cases h) (fun h => by rw [e] at h; cases h)
