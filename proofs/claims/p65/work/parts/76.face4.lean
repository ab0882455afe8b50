theorem c_rem {G : GC} {w : Lay} {σ : Mem} {Q : Lay → Option Value → Mem → Prop} {Qx : Lay → String → Mem → Prop} {px u : Nat} (hK : LK w) (hL0 : LO w 0) (hLp : LO w (2 + px)) (hpx : px < 8) (hu : u ≤ 8) (hn : rd σ 12 1 2 = nI px) (hc : rd σ 12 1 1 = nI u) (hq : ∀ τ, Hst σ τ px u → Q w none τ) : MX2_remember G w σ [.ref (w.2.1 12 1), .ref (w.2.1 0 0)] Q Qx :=
  c_X2_remember hK hL0 hLp hpx hu (by omega) hn hc (fun σ1 h => hq _ (hst_of h hpx))
set_option maxHeartbeats 4000000 in
set_option maxRecDepth 100000 in
theorem c_X9_launch {G : GC} {w : Lay} {σ : Mem} {Q : Lay → Option Value → Mem → Prop} {Qx : Lay → String → Mem → Prop} (hK : LK w) (hL0 : LO w 0) {A : Rw} {hm : Nat} (hO : OAt σ 0 A) (hI : RowOK hm A) {px u : Nat} (hLp : LO w (2 + px)) (hpx : px < 8) (hu : u ≤ 8) (hn9 : rd σ 12 1 2 = nI px) (hc9 : rd σ 12 1 1 = nI u) (hh : nv A 7 < 2 ^ 31) {k : Int32} (hq : (aLa A k).1 = 0 → ∀ σ', ChR σ σ' px u (launchA A (cl k)) → Q w (some (.int (aLa A k).2)) σ') (hx1 : (aLa A k).1 = 1 → Qx w "java/lang/IndexOutOfBoundsException" σ) (hx2 : (aLa A k).1 = 2 → Qx w "java/lang/IllegalStateException" σ) : MX9_launch G w σ [.ref (w.2.1 12 0), .int k] Q Qx := by
  refine mt_start (by decide) rfl (Nat.le_of_ble_eq_true rfl) (fun E hC hR hN => ?_)
  show J G E w 0 0 0 [some (.ref (w.2.1 12 0)), some (.int k)] [] σ
  have h4 := r_NK hI
  refine J_aload_n hC dX9_launch_0 rfl rfl ?_
  refine J_iload_n hC dX9_launch_1 rfl rfl ?_
  refine iX9_229 hC hK rfl ⟨by decide, by decide⟩ ⟨by decide, by decide⟩ (Nat.le_of_ble_eq_true rfl) dX9_launch_2 ?_
  refine c_X9_requireKite hK hL0 hO hI (fun rk => ?_) (fun rk => JX_out hC hR hN (by decide) (by decide) (hx1 (by unfold aLa; rw [chk_f rk])))
  dsimp only [Option.toList_some, Option.toList_none, List.cons_append, List.nil_append]
  obtain ⟨k, rfl, hk⟩ := rk
  refine J_aload_n hC dX9_launch_5 rfl rfl ?_
  refine gX9_13 hC hK dX9_launch_6 ?_
  refine J_iload_n hC dX9_launch_9 rfl rfl ?_
  refine iX9_174 hC hL0 rfl ⟨by decide, by decide⟩ ⟨by decide, by decide⟩ (Nat.le_of_ble_eq_true rfl) dX9_launch_10 ?_
  refine c_X4_isLaunchable hL0 hO hI hk hh (fun b1 => ?_) (fun b1 => ?_)
  · dsimp only [Option.toList_some, Option.toList_none, List.cons_append, List.nil_append]
    refine J_if_ne_n hC (by decide) (tgt := 26) dX9_launch_13 rfl (fun _ => ?_) (fun hf => absurd hf (by omega))
    refine J_aload_n hC dX9_launch_26 rfl rfl ?_
    refine gX9_26 hC hK dX9_launch_27 ?_
    refine J_aload_n hC dX9_launch_30 rfl rfl ?_
    refine gX9_13 hC hK dX9_launch_31 ?_
    refine iX9_134 hC hK rfl ⟨by decide, by decide⟩ ⟨by decide, by decide⟩ (Nat.le_of_ble_eq_true rfl) dX9_launch_34 ?_
    refine c_rem hK hL0 hLp hpx hu hn9 hc9 (fun τ hH => ?_)
    dsimp only [Option.toList_some, Option.toList_none, List.cons_append, List.nil_append]
    have hOτ := Hst_O hH hO
    refine J_aload_n hC dX9_launch_37 rfl rfl ?_
    refine gX9_13 hC hK dX9_launch_38 ?_
    refine J_iload_n hC dX9_launch_41 rfl rfl ?_
    refine iX9_193 hC hL0 rfl ⟨by decide, by decide⟩ ⟨by decide, by decide⟩ (Nat.le_of_ble_eq_true rfl) dX9_launch_42 ?_
    refine c_X4_sendUp hL0 hOτ hI hk (fun σ2 hO2 hF2 => ?_)
    dsimp only [Option.toList_some, Option.toList_none, List.cons_append, List.nil_append]
    have hI2 := RowOK_launch hI (k := k) (by omega)
    have e7 : nv (launchA A k) 7 = nv A 7 := by unfold launchA; rw [nv_n (by omega), nv_n (by omega), nv_n (by omega)]
    have e6 : nv (launchA A k) 6 = nv A 6 := by unfold launchA; rw [nv_n (by omega), nv_n (by omega), nv_n (by omega)]
    refine J_aload_n hC dX9_launch_45 rfl rfl ?_
    refine gX9_13 hC hK dX9_launch_46 ?_
    refine J_iload_n hC dX9_launch_49 rfl rfl ?_
    refine J_aload_n hC dX9_launch_50 rfl rfl ?_
    refine gX9_13 hC hK dX9_launch_51 ?_
    refine gX9_234 hC hL0 dX9_launch_54 ?_
    refine J_top ((o_HOUR hO2 hI2).trans (by rw [e7])) ?_
    refine iX9_237 hC hL0 rfl ⟨by decide, by decide⟩ ⟨by decide, by decide⟩ (Nat.le_of_ble_eq_true rfl) dX9_launch_57 ?_
    refine c_X4_reachAt hL0 hO2 hI2 (by omega) hh ?_
    dsimp only [Option.toList_some, Option.toList_none, List.cons_append, List.nil_append]
    rw [geo_reachN hI (geo_launch A k) hk]
    refine J_ireturn hC hR dX9_launch_60 (by decide) (by decide) ?_
    have e : aLa A (nI k) = (0, nI (reachN A k (nv A 7))) := by
      unfold aLa
      rw [chk_t ⟨k, rfl, hk⟩, cl_n (by omega), chk_t b1]
    rw [e] at hq
    have z := hq rfl
    clear hq
    try rw [cl_n (by omega)] at z
    exact z _ ⟨τ, hH, hF2, hO2⟩
  · dsimp only [Option.toList_some, Option.toList_none, List.cons_append, List.nil_append]
    refine J_if_ne_n hC (by decide) (tgt := 26) dX9_launch_13 rfl (fun hf => absurd hf (by omega)) (fun _ => ?_)
    exact thS_ISE hC hR hN rfl (k := 3) rfl dX9_launch_16 dX9_launch_19 dX9_launch_20 dX9_launch_22 dX9_launch_25 (by decide) (by decide) (by decide) (by decide) (by decide) (by decide) (hx2 (by unfold aLa; rw [chk_t ⟨k, rfl, hk⟩, cl_n (by omega), chk_f b1]))
set_option maxHeartbeats 4000000 in
set_option maxRecDepth 100000 in
theorem c_X9_land {G : GC} {w : Lay} {σ : Mem} {Q : Lay → Option Value → Mem → Prop} {Qx : Lay → String → Mem → Prop} (hK : LK w) (hL0 : LO w 0) {A : Rw} {hm : Nat} (hO : OAt σ 0 A) (hI : RowOK hm A) {px u : Nat} (hLp : LO w (2 + px)) (hpx : px < 8) (hu : u ≤ 8) (hn9 : rd σ 12 1 2 = nI px) (hc9 : rd σ 12 1 1 = nI u) {k : Int32} (hq : (aLd A k).1 = 0 → ∀ σ', ChR σ σ' px u (stateA A (cl k) 0) → Q w (some (.int (aLd A k).2)) σ') (hx1 : (aLd A k).1 = 1 → Qx w "java/lang/IndexOutOfBoundsException" σ) (hx2 : (aLd A k).1 = 2 → Qx w "java/lang/IllegalStateException" σ) : MX9_land G w σ [.ref (w.2.1 12 0), .int k] Q Qx := by
  refine mt_start (by decide) rfl (Nat.le_of_ble_eq_true rfl) (fun E hC hR hN => ?_)
  show J G E w 0 0 0 [some (.ref (w.2.1 12 0)), some (.int k)] [] σ
  have h4 := r_NK hI
  refine J_aload_n hC dX9_land_0 rfl rfl ?_
  refine J_iload_n hC dX9_land_1 rfl rfl ?_
  refine iX9_229 hC hK rfl ⟨by decide, by decide⟩ ⟨by decide, by decide⟩ (Nat.le_of_ble_eq_true rfl) dX9_land_2 ?_
  refine c_X9_requireKite hK hL0 hO hI (fun rk => ?_) (fun rk => JX_out hC hR hN (by decide) (by decide) (hx1 (by unfold aLd; rw [chk_f rk])))
  dsimp only [Option.toList_some, Option.toList_none, List.cons_append, List.nil_append]
  obtain ⟨k, rfl, hk⟩ := rk
  refine J_aload_n hC dX9_land_5 rfl rfl ?_
  refine J_iload_n hC dX9_land_6 rfl rfl ?_
  refine J_iconst (v := nI 1) hC dX9_land_7 (by decide) ?_
  refine iX9_241 hC hK rfl ⟨by decide, by decide⟩ ⟨by decide, by decide⟩ (Nat.le_of_ble_eq_true rfl) dX9_land_8 ?_
  refine c_X9_requireState hK hL0 hO hI hk (by decide) (fun rs1 => ?_) (fun rs1 => JX_out hC hR hN (by decide) (by decide) (hx2 (by unfold aLd; rw [chk_t ⟨k, rfl, hk⟩, cl_n (by omega), chk_f rs1])))
  dsimp only [Option.toList_some, Option.toList_none, List.cons_append, List.nil_append]
  refine J_aload_n hC dX9_land_11 rfl rfl ?_
  refine gX9_26 hC hK dX9_land_12 ?_
  refine J_aload_n hC dX9_land_15 rfl rfl ?_
  refine gX9_13 hC hK dX9_land_16 ?_
  refine iX9_134 hC hK rfl ⟨by decide, by decide⟩ ⟨by decide, by decide⟩ (Nat.le_of_ble_eq_true rfl) dX9_land_19 ?_
  refine c_rem hK hL0 hLp hpx hu hn9 hc9 (fun τ hH => ?_)
  dsimp only [Option.toList_some, Option.toList_none, List.cons_append, List.nil_append]
  have hOτ := Hst_O hH hO
  refine J_aload_n hC dX9_land_22 rfl rfl ?_
  refine gX9_13 hC hK dX9_land_23 ?_
  refine J_iload_n hC dX9_land_26 rfl rfl ?_
  refine iX9_196 hC hL0 rfl ⟨by decide, by decide⟩ ⟨by decide, by decide⟩ (Nat.le_of_ble_eq_true rfl) dX9_land_27 ?_
  refine c_X4_bringDown hL0 hOτ hI hk (fun σ2 hO2 hF2 => ?_)
  dsimp only [Option.toList_some, Option.toList_none, List.cons_append, List.nil_append]
  refine J_aload_n hC dX9_land_30 rfl rfl ?_
  refine gX9_13 hC hK dX9_land_31 ?_
  refine gX9_141 hC hL0 dX9_land_34 ?_
  refine J_iconst (v := nI 1) hC dX9_land_37 (by decide) ?_
  refine iX9_244 hC hL0 rfl ⟨by decide, by decide⟩ ⟨by decide, by decide⟩ (Nat.le_of_ble_eq_true rfl) dX9_land_38 ?_
  refine c_X1_countInState hL0 hO2 (RowOK_state hI (by omega) (by omega)) (by decide) ?_
  dsimp only [Option.toList_some, Option.toList_none, List.cons_append, List.nil_append]
  refine J_ireturn hC hR dX9_land_41 (by decide) (by decide) ?_
  have e : aLd A (nI k) = (0, nI (stN (stateA A k 0) 1)) := by
    unfold aLd
    rw [chk_t ⟨k, rfl, hk⟩, cl_n (by omega), chk_t rs1]
  rw [e] at hq
  have z := hq rfl
  clear hq
  try rw [cl_n (by omega)] at z
  exact z _ ⟨τ, hH, hF2, hO2⟩
set_option maxHeartbeats 4000000 in
set_option maxRecDepth 100000 in
theorem c_X9_passHours {G : GC} {w : Lay} {σ : Mem} {Q : Lay → Option Value → Mem → Prop} {Qx : Lay → String → Mem → Prop} (hK : LK w) (hL0 : LO w 0) {A : Rw} {hm : Nat} (hO : OAt σ 0 A) (hI : RowOK hm A) {px u : Nat} (hLp : LO w (2 + px)) (hpx : px < 8) (hu : u ≤ 8) (hn9 : rd σ 12 1 2 = nI px) (hc9 : rd σ 12 1 1 = nI u) {K : Rw} (hz : ∀ k, k < 16 → rd σ 0 21 k = 0) (hb : hm ≤ 999000) {h : Int32} (hq : (aPH A K h).1 = 0 → ∀ σ', ChR σ σ' px u ((passed (cl h) (A, K, 0)).1) → Q w (some (.int (aPH A K h).2)) σ') (hx1 : (aPH A K h).1 = 1 → Qx w "java/lang/IllegalArgumentException" σ) : MX9_passHours G w σ [.ref (w.2.1 12 0), .int h] Q Qx := by
  refine mt_start (by decide) rfl (Nat.le_of_ble_eq_true rfl) (fun E hC hR hN => ?_)
  show J G E w 0 0 0 [some (.ref (w.2.1 12 0)), some (.int h)] [] σ
  refine J_iload_n hC dX9_passHours_0 rfl rfl ?_
  refine J_iconst (v := nI 1) hC dX9_passHours_1 (by decide) ?_
  refine J_bipush (v := nI 48) hC dX9_passHours_2 (by decide) ?_
  refine iX9_110 hC rfl ⟨by decide, by decide⟩ ⟨by decide, by decide⟩ (Nat.le_of_ble_eq_true rfl) dX9_passHours_4 ?_
  refine c_X9_requireBetween (by omega) (by omega) (fun rh => ?_) (fun rh => JX_out hC hR hN (by decide) (by decide) (hx1 (by unfold aPH; rw [chk_f rh])))
  dsimp only [Option.toList_some, Option.toList_none, List.cons_append, List.nil_append]
  obtain ⟨h, rfl, hh⟩ := rh
  refine J_aload_n hC dX9_passHours_7 rfl rfl ?_
  refine gX9_26 hC hK dX9_passHours_8 ?_
  refine J_aload_n hC dX9_passHours_11 rfl rfl ?_
  refine gX9_13 hC hK dX9_passHours_12 ?_
  refine iX9_134 hC hK rfl ⟨by decide, by decide⟩ ⟨by decide, by decide⟩ (Nat.le_of_ble_eq_true rfl) dX9_passHours_15 ?_
  refine c_rem hK hL0 hLp hpx hu hn9 hc9 (fun τ hH => ?_)
  dsimp only [Option.toList_some, Option.toList_none, List.cons_append, List.nil_append]
  have hOτ := Hst_O hH hO
  refine J_aload_n hC dX9_passHours_18 rfl rfl ?_
  refine gX9_13 hC hK dX9_passHours_19 ?_
  refine J_iload_n hC dX9_passHours_22 rfl rfl ?_
  refine iX9_199 hC hL0 rfl ⟨by decide, by decide⟩ ⟨by decide, by decide⟩ (Nat.le_of_ble_eq_true rfl) dX9_passHours_23 ?_
  refine c_X4_letHoursPass hL0 hOτ hI (by rw [Hst_21 hH]; exact hz) (by omega) (fun σ2 hO2 hF2 => ?_)
  dsimp only [Option.toList_some, Option.toList_none, List.cons_append, List.nil_append]
  rw [(passed_K A (rd τ 0 21) K 0 h).1] at hO2
  rw [(passed_K A (rd τ 0 21) K 0 h).2]
  refine J_ireturn hC hR dX9_passHours_26 (by decide) (by decide) ?_
  have e : aPH A K (nI h) = (0, nI (passed h (A, K, 0)).2.2) := by
    unfold aPH
    rw [chk_t ⟨h, rfl, hh⟩, cl_n (by omega)]
  rw [e] at hq
  have z := hq rfl
  clear hq
  try rw [cl_n (by omega)] at z
  exact z _ ⟨τ, hH, hF2, hO2⟩
set_option maxHeartbeats 4000000 in
set_option maxRecDepth 100000 in
theorem c_X9_permit {G : GC} {w : Lay} {σ : Mem} {Q : Lay → Option Value → Mem → Prop} {Qx : Lay → String → Mem → Prop} (hK : LK w) (hL0 : LO w 0) {A : Rw} {hm : Nat} (hO : OAt σ 0 A) (hI : RowOK hm A) {px u : Nat} (hLp : LO w (2 + px)) (hpx : px < 8) (hu : u ≤ 8) (hn9 : rd σ 12 1 2 = nI px) (hc9 : rd σ 12 1 1 = nI u) (hh : nv A 7 < 2 ^ 31) {k s d : Int32} (hq : (aPe A k s d).1 = 0 → ∀ σ', ChR σ σ' px u (grantA A (cl k) (cl s) (cl d)) → Q w (some (.int (aPe A k s d).2)) σ') (hx1 : (aPe A k s d).1 = 1 → Qx w "java/lang/IndexOutOfBoundsException" σ) (hx2 : (aPe A k s d).1 = 2 → Qx w "java/lang/IllegalArgumentException" σ) (hx3 : (aPe A k s d).1 = 3 → Qx w "java/lang/IllegalStateException" σ) : MX9_permit G w σ [.ref (w.2.1 12 0), .int k, .int s, .int d] Q Qx := by
  refine mt_start (by decide) rfl (Nat.le_of_ble_eq_true rfl) (fun E hC hR hN => ?_)
  show J G E w 0 0 0 [some (.ref (w.2.1 12 0)), some (.int k), some (.int s), some (.int d)] [] σ
  have h4 := r_NK hI
  refine J_aload_n hC dX9_permit_0 rfl rfl ?_
  refine J_iload_n hC dX9_permit_1 rfl rfl ?_
  refine J_iload_n hC dX9_permit_2 rfl rfl ?_
  refine J_iload_n hC dX9_permit_3 rfl rfl ?_
  refine iX9_247 hC hK rfl ⟨by decide, by decide⟩ ⟨by decide, by decide⟩ (Nat.le_of_ble_eq_true rfl) dX9_permit_4 ?_
  refine c_X9_requirePermitArguments hK hL0 hO hI (fun rk rs rd => ?_) (fun rk => JX_out hC hR hN (by decide) (by decide) (hx1 (by unfold aPe; rw [chk_f rk]))) (fun q1 q2 => JX_out hC hR hN (by decide) (by decide) (hx2 (by unfold aPe; rw [chk_t q1, chk_f q2]))) (fun q1 q2 q3 => JX_out hC hR hN (by decide) (by decide) (hx2 (by unfold aPe; rw [chk_t q1, chk_t q2, chk_f q3])))
  dsimp only [Option.toList_some, Option.toList_none, List.cons_append, List.nil_append]
  obtain ⟨k, rfl, hk⟩ := rk
  obtain ⟨s, rfl, hs⟩ := rs
  obtain ⟨d, rfl, hd⟩ := rd
  refine J_aload_n hC dX9_permit_7 rfl rfl ?_
  refine gX9_13 hC hK dX9_permit_8 ?_
  refine J_iload_n hC dX9_permit_11 rfl rfl ?_
  refine J_iload_n hC dX9_permit_12 rfl rfl ?_
  refine J_iload_n hC dX9_permit_13 rfl rfl ?_
  refine iX9_186 hC hL0 rfl ⟨by decide, by decide⟩ ⟨by decide, by decide⟩ (Nat.le_of_ble_eq_true rfl) dX9_permit_14 ?_
  refine c_X4_refusalReason hL0 hO hI hk (by omega) hd hh ?_
  dsimp only [Option.toList_some, Option.toList_none, List.cons_append, List.nil_append]
  have hr7 := refuse_le A k s d
  refine J_if_eq_n hC (by omega) (tgt := 30) dX9_permit_17 rfl (fun b1 => ?_) (fun b1 => ?_)
  · refine J_aload_n hC dX9_permit_30 rfl rfl ?_
    refine gX9_26 hC hK dX9_permit_31 ?_
    refine J_aload_n hC dX9_permit_34 rfl rfl ?_
    refine gX9_13 hC hK dX9_permit_35 ?_
    refine iX9_134 hC hK rfl ⟨by decide, by decide⟩ ⟨by decide, by decide⟩ (Nat.le_of_ble_eq_true rfl) dX9_permit_38 ?_
    refine c_rem hK hL0 hLp hpx hu hn9 hc9 (fun τ hH => ?_)
    dsimp only [Option.toList_some, Option.toList_none, List.cons_append, List.nil_append]
    have hOτ := Hst_O hH hO
    refine J_aload_n hC dX9_permit_41 rfl rfl ?_
    refine gX9_13 hC hK dX9_permit_42 ?_
    refine J_iload_n hC dX9_permit_45 rfl rfl ?_
    refine J_iload_n hC dX9_permit_46 rfl rfl ?_
    refine J_iload_n hC dX9_permit_47 rfl rfl ?_
    refine iX9_203 hC hL0 rfl ⟨by decide, by decide⟩ ⟨by decide, by decide⟩ (Nat.le_of_ble_eq_true rfl) dX9_permit_48 ?_
    refine c_X4_grant hL0 hOτ hI hk (refuse_np hI b1) (fun σ2 hO2 hF2 => ?_)
    dsimp only [Option.toList_some, Option.toList_none, List.cons_append, List.nil_append]
    have hnp := refuse_np hI b1
    have hI2 := RowOK_grant hI hk hs.2 hd hnp
    have e11 : nv (grantA A k s d) 11 = nv A 11 + 1 := by
      unfold grantA
      rw [nv_n (by omega), nv_n (by omega), nv_n (by omega), nv_n (by omega), nv_n (by omega), nv_s (by omega)]
    refine J_aload_n hC dX9_permit_51 rfl rfl ?_
    refine gX9_13 hC hK dX9_permit_52 ?_
    refine gX9_206 hC hL0 dX9_permit_55 ?_
    refine gX9_252 hC hL0 dX9_permit_58 ?_
    refine J_top ((o_NP hO2 hI2).trans (by rw [e11])) ?_
    refine J_ireturn hC hR dX9_permit_61 (by decide) (by decide) ?_
    have e : aPe A (nI k) (nI s) (nI d) = (0, nI (nv A 11 + 1)) := by
      unfold aPe
      rw [chk_t ⟨k, rfl, hk⟩, chk_t ⟨s, rfl, hs⟩, chk_t ⟨d, rfl, hd⟩, cl_n (by omega), cl_n (by omega), cl_n (by omega), chk_t b1]
    rw [e] at hq
    have z := hq rfl
    clear hq
    try rw [cl_n (by omega)] at z
    try rw [cl_n (by omega)] at z
    try rw [cl_n (by omega)] at z
    exact z _ ⟨τ, hH, hF2, hO2⟩
  · exact thS_ISE hC hR hN rfl (k := 10) rfl dX9_permit_20 dX9_permit_23 dX9_permit_24 dX9_permit_26 dX9_permit_29 (by decide) (by decide) (by decide) (by decide) (by decide) (by decide) (hx3 (by unfold aPe; rw [chk_t ⟨k, rfl, hk⟩, chk_t ⟨s, rfl, hs⟩, chk_t ⟨d, rfl, hd⟩, cl_n (by omega), cl_n (by omega), cl_n (by omega), chk_f b1]))
set_option maxHeartbeats 4000000 in
set_option maxRecDepth 100000 in
theorem c_X9_tieKnots {G : GC} {w : Lay} {σ : Mem} {Q : Lay → Option Value → Mem → Prop} {Qx : Lay → String → Mem → Prop} (hK : LK w) (hL0 : LO w 0) {A : Rw} {hm : Nat} (hO : OAt σ 0 A) (hI : RowOK hm A) {px u : Nat} (hLp : LO w (2 + px)) (hpx : px < 8) (hu : u ≤ 8) (hn9 : rd σ 12 1 2 = nI px) (hc9 : rd σ 12 1 1 = nI u) {k v : Int32} (hq : (aTi A k v).1 = 0 → ∀ σ', ChR σ σ' px u (tieA A (cl k) (cl v)) → Q w (some (.int (aTi A k v).2)) σ') (hx1 : (aTi A k v).1 = 1 → Qx w "java/lang/IndexOutOfBoundsException" σ) (hx2 : (aTi A k v).1 = 2 → Qx w "java/lang/IllegalArgumentException" σ) (hx3 : (aTi A k v).1 = 3 → Qx w "java/lang/IllegalStateException" σ) : MX9_tieKnots G w σ [.ref (w.2.1 12 0), .int k, .int v] Q Qx := by
  refine mt_start (by decide) rfl (Nat.le_of_ble_eq_true rfl) (fun E hC hR hN => ?_)
  show J G E w 0 0 0 [some (.ref (w.2.1 12 0)), some (.int k), some (.int v), none] [] σ
  have h4 := r_NK hI
  refine J_aload_n hC dX9_tieKnots_0 rfl rfl ?_
  refine J_iload_n hC dX9_tieKnots_1 rfl rfl ?_
  refine iX9_229 hC hK rfl ⟨by decide, by decide⟩ ⟨by decide, by decide⟩ (Nat.le_of_ble_eq_true rfl) dX9_tieKnots_2 ?_
  refine c_X9_requireKite hK hL0 hO hI (fun rk => ?_) (fun rk => JX_out hC hR hN (by decide) (by decide) (hx1 (by unfold aTi; rw [chk_f rk])))
  dsimp only [Option.toList_some, Option.toList_none, List.cons_append, List.nil_append]
  obtain ⟨k, rfl, hk⟩ := rk
  refine J_iload_n hC dX9_tieKnots_5 rfl rfl ?_
  refine J_iconst (v := nI 0) hC dX9_tieKnots_6 (by decide) ?_
  refine J_bipush (v := nI 9) hC dX9_tieKnots_7 (by decide) ?_
  refine iX9_110 hC rfl ⟨by decide, by decide⟩ ⟨by decide, by decide⟩ (Nat.le_of_ble_eq_true rfl) dX9_tieKnots_9 ?_
  refine c_X9_requireBetween (by omega) (by omega) (fun rv => ?_) (fun rv => JX_out hC hR hN (by decide) (by decide) (hx2 (by unfold aTi; rw [chk_t ⟨k, rfl, hk⟩, chk_f rv])))
  dsimp only [Option.toList_some, Option.toList_none, List.cons_append, List.nil_append]
  obtain ⟨v, rfl, hv⟩ := rv
  refine J_aload_n hC dX9_tieKnots_12 rfl rfl ?_
  refine J_iload_n hC dX9_tieKnots_13 rfl rfl ?_
  refine J_iconst (v := nI 0) hC dX9_tieKnots_14 (by decide) ?_
  refine iX9_241 hC hK rfl ⟨by decide, by decide⟩ ⟨by decide, by decide⟩ (Nat.le_of_ble_eq_true rfl) dX9_tieKnots_15 ?_
  refine c_X9_requireState hK hL0 hO hI hk (by decide) (fun rs1 => ?_) (fun rs1 => JX_out hC hR hN (by decide) (by decide) (hx3 (by unfold aTi; rw [chk_t ⟨k, rfl, hk⟩, chk_t ⟨v, rfl, hv⟩, cl_n (by omega), chk_f rs1])))
  dsimp only [Option.toList_some, Option.toList_none, List.cons_append, List.nil_append]
  refine J_aload_n hC dX9_tieKnots_18 rfl rfl ?_
  refine gX9_26 hC hK dX9_tieKnots_19 ?_
  refine J_aload_n hC dX9_tieKnots_22 rfl rfl ?_
  refine gX9_13 hC hK dX9_tieKnots_23 ?_
  refine iX9_134 hC hK rfl ⟨by decide, by decide⟩ ⟨by decide, by decide⟩ (Nat.le_of_ble_eq_true rfl) dX9_tieKnots_26 ?_
  refine c_rem hK hL0 hLp hpx hu hn9 hc9 (fun τ hH => ?_)
  dsimp only [Option.toList_some, Option.toList_none, List.cons_append, List.nil_append]
  have hOτ := Hst_O hH hO
  refine J_aload_n hC dX9_tieKnots_29 rfl rfl ?_
  refine gX9_13 hC hK dX9_tieKnots_30 ?_
  refine gX9_141 hC hL0 dX9_tieKnots_33 ?_
  refine gX9_253 hC hL0 dX9_tieKnots_36 ?_
  refine J_iload_n hC dX9_tieKnots_39 rfl rfl ?_
  refine J_iaload hC (hL0.2.1 12 (by decide)) (kd_o hL0.1) rfl (by omega) (by decide) dX9_tieKnots_40 ?_
  refine J_top (o_N hOτ hI hk) ?_
  refine J_istore_n hC dX9_tieKnots_41 rfl (Nat.le_of_ble_eq_true rfl) rfl ?_
  dsimp only [List.set]
  refine J_aload_n hC dX9_tieKnots_42 rfl rfl ?_
  refine gX9_13 hC hK dX9_tieKnots_43 ?_
  refine J_iload_n hC dX9_tieKnots_46 rfl rfl ?_
  refine J_iload_n hC dX9_tieKnots_47 rfl rfl ?_
  refine iX9_215 hC hL0 rfl ⟨by decide, by decide⟩ ⟨by decide, by decide⟩ (Nat.le_of_ble_eq_true rfl) dX9_tieKnots_48 ?_
  refine c_X4_retie hL0 hOτ hI hk hv.2 (fun σ2 hO2 hF2 => ?_)
  dsimp only [Option.toList_some, Option.toList_none, List.cons_append, List.nil_append]
  refine J_iload_n hC dX9_tieKnots_51 rfl rfl ?_
  refine J_ireturn hC hR dX9_tieKnots_52 (by decide) (by decide) ?_
  have e : aTi A (nI k) (nI v) = (0, nI (nv A (70 + 9 * k + 4))) := by
    unfold aTi
    rw [chk_t ⟨k, rfl, hk⟩, chk_t ⟨v, rfl, hv⟩, cl_n (by omega), chk_t rs1]
  rw [e] at hq
  have z := hq rfl
  clear hq
  try rw [cl_n (by omega)] at z
  try rw [cl_n (by omega)] at z
  exact z _ ⟨τ, hH, hF2, hO2⟩
set_option maxHeartbeats 4000000 in
set_option maxRecDepth 100000 in
theorem c_X9_repair {G : GC} {w : Lay} {σ : Mem} {Q : Lay → Option Value → Mem → Prop} {Qx : Lay → String → Mem → Prop} (hK : LK w) (hL0 : LO w 0) {A : Rw} {hm : Nat} (hO : OAt σ 0 A) (hI : RowOK hm A) {px u : Nat} (hLp : LO w (2 + px)) (hpx : px < 8) (hu : u ≤ 8) (hn9 : rd σ 12 1 2 = nI px) (hc9 : rd σ 12 1 1 = nI u) {k : Int32} (hq : (aRp A k).1 = 0 → ∀ σ', ChR σ σ' px u (repA A (cl k)) → Q w (some (.int (aRp A k).2)) σ') (hx1 : (aRp A k).1 = 1 → Qx w "java/lang/IndexOutOfBoundsException" σ) (hx2 : (aRp A k).1 = 2 → Qx w "java/lang/IllegalStateException" σ) : MX9_repair G w σ [.ref (w.2.1 12 0), .int k] Q Qx := by
  refine mt_start (by decide) rfl (Nat.le_of_ble_eq_true rfl) (fun E hC hR hN => ?_)
  show J G E w 0 0 0 [some (.ref (w.2.1 12 0)), some (.int k)] [] σ
  have h4 := r_NK hI
  refine J_aload_n hC dX9_repair_0 rfl rfl ?_
  refine J_iload_n hC dX9_repair_1 rfl rfl ?_
  refine iX9_229 hC hK rfl ⟨by decide, by decide⟩ ⟨by decide, by decide⟩ (Nat.le_of_ble_eq_true rfl) dX9_repair_2 ?_
  refine c_X9_requireKite hK hL0 hO hI (fun rk => ?_) (fun rk => JX_out hC hR hN (by decide) (by decide) (hx1 (by unfold aRp; rw [chk_f rk])))
  dsimp only [Option.toList_some, Option.toList_none, List.cons_append, List.nil_append]
  obtain ⟨k, rfl, hk⟩ := rk
  refine J_aload_n hC dX9_repair_5 rfl rfl ?_
  refine gX9_13 hC hK dX9_repair_6 ?_
  refine J_iload_n hC dX9_repair_9 rfl rfl ?_
  refine iX9_190 hC hL0 rfl ⟨by decide, by decide⟩ ⟨by decide, by decide⟩ (Nat.le_of_ble_eq_true rfl) dX9_repair_10 ?_
  refine c_X4_isRepairable hL0 hO hI hk (fun b1 => ?_) (fun b1 => ?_)
  · dsimp only [Option.toList_some, Option.toList_none, List.cons_append, List.nil_append]
    refine J_if_ne_n hC (by decide) (tgt := 27) dX9_repair_13 rfl (fun _ => ?_) (fun hf => absurd hf (by omega))
    refine J_aload_n hC dX9_repair_27 rfl rfl ?_
    refine gX9_26 hC hK dX9_repair_28 ?_
    refine J_aload_n hC dX9_repair_31 rfl rfl ?_
    refine gX9_13 hC hK dX9_repair_32 ?_
    refine iX9_134 hC hK rfl ⟨by decide, by decide⟩ ⟨by decide, by decide⟩ (Nat.le_of_ble_eq_true rfl) dX9_repair_35 ?_
    refine c_rem hK hL0 hLp hpx hu hn9 hc9 (fun τ hH => ?_)
    dsimp only [Option.toList_some, Option.toList_none, List.cons_append, List.nil_append]
    have hOτ := Hst_O hH hO
    refine J_aload_n hC dX9_repair_38 rfl rfl ?_
    refine gX9_13 hC hK dX9_repair_39 ?_
    refine J_iload_n hC dX9_repair_42 rfl rfl ?_
    refine iX9_218 hC hL0 rfl ⟨by decide, by decide⟩ ⟨by decide, by decide⟩ (Nat.le_of_ble_eq_true rfl) dX9_repair_43 ?_
    refine c_X4_mend hL0 hOτ hI hk (fun σ2 hO2 hF2 => ?_)
    dsimp only [Option.toList_some, Option.toList_none, List.cons_append, List.nil_append]
    have e6 : nv (repA A k) 6 = nv A 6 := by unfold repA; rw [nv_n (by omega), nv_n (by omega), nv_n (by omega)]
    have e4 : nv (repA A k) (70 + 9 * k + 4) = nv A (70 + 9 * k + 4) := by unfold repA; rw [nv_n (by omega), nv_n (by omega), nv_n (by omega)]
    refine J_aload_n hC dX9_repair_46 rfl rfl ?_
    refine gX9_13 hC hK dX9_repair_47 ?_
    refine J_iload_n hC dX9_repair_50 rfl rfl ?_
    refine iX9_258 hC hL0 rfl ⟨by decide, by decide⟩ ⟨by decide, by decide⟩ (Nat.le_of_ble_eq_true rfl) dX9_repair_51 ?_
    refine c_X4_repairPrice hL0 hO2 (RowOK_rep hI (by omega)) (by omega) ?_
    dsimp only [Option.toList_some, Option.toList_none, List.cons_append, List.nil_append]
    rw [e4]
    refine J_ireturn hC hR dX9_repair_54 (by decide) (by decide) ?_
    have e : aRp A (nI k) = (0, nI (2 * nv A (70 + 9 * k + 4))) := by
      unfold aRp
      rw [chk_t ⟨k, rfl, hk⟩, cl_n (by omega), chk_t b1]
    rw [e] at hq
    have z := hq rfl
    clear hq
    try rw [cl_n (by omega)] at z
    exact z _ ⟨τ, hH, hF2, hO2⟩
  · dsimp only [Option.toList_some, Option.toList_none, List.cons_append, List.nil_append]
    refine J_if_ne_n hC (by decide) (tgt := 27) dX9_repair_13 rfl (fun hf => absurd hf (by omega)) (fun _ => ?_)
    exact thSW_ISE hC hR hN rfl (k := 5) rfl dX9_repair_16 dX9_repair_19 dX9_repair_20 dX9_repair_23 dX9_repair_26 (by decide) (by decide) (by decide) (by decide) (by decide) (by decide) (hx2 (by unfold aRp; rw [chk_t ⟨k, rfl, hk⟩, cl_n (by omega), chk_f b1]))
set_option maxHeartbeats 4000000 in
set_option maxRecDepth 100000 in
theorem c_X9_fund {G : GC} {w : Lay} {σ : Mem} {Q : Lay → Option Value → Mem → Prop} {Qx : Lay → String → Mem → Prop} (hK : LK w) (hL0 : LO w 0) {A : Rw} {hm : Nat} (hO : OAt σ 0 A) (hI : RowOK hm A) {px u : Nat} (hLp : LO w (2 + px)) (hpx : px < 8) (hu : u ≤ 8) (hn9 : rd σ 12 1 2 = nI px) (hc9 : rd σ 12 1 1 = nI u) {k c : Int32} (hq : (aFu A k c).1 = 0 → ∀ σ', ChR σ σ' px u (fundA A (cl k) c) → Q w (some (.int (aFu A k c).2)) σ') (hx1 : (aFu A k c).1 = 1 → Qx w "java/lang/IndexOutOfBoundsException" σ) (hx2 : (aFu A k c).1 = 2 → Qx w "java/lang/IllegalArgumentException" σ) : MX9_fund G w σ [.ref (w.2.1 12 0), .int k, .int c] Q Qx := by
  refine mt_start (by decide) rfl (Nat.le_of_ble_eq_true rfl) (fun E hC hR hN => ?_)
  show J G E w 0 0 0 [some (.ref (w.2.1 12 0)), some (.int k), some (.int c)] [] σ
  have h4 := r_NK hI
  refine J_aload_n hC dX9_fund_0 rfl rfl ?_
  refine J_iload_n hC dX9_fund_1 rfl rfl ?_
  refine iX9_229 hC hK rfl ⟨by decide, by decide⟩ ⟨by decide, by decide⟩ (Nat.le_of_ble_eq_true rfl) dX9_fund_2 ?_
  refine c_X9_requireKite hK hL0 hO hI (fun rk => ?_) (fun rk => JX_out hC hR hN (by decide) (by decide) (hx1 (by unfold aFu; rw [chk_f rk])))
  dsimp only [Option.toList_some, Option.toList_none, List.cons_append, List.nil_append]
  obtain ⟨k, rfl, hk⟩ := rk
  refine J_iload_n hC dX9_fund_5 rfl rfl ?_
  refine J_iconst (v := nI 1) hC dX9_fund_6 (by decide) ?_
  refine J_sipush (v := nI 999) hC dX9_fund_7 (by decide) ?_
  refine iX9_110 hC rfl ⟨by decide, by decide⟩ ⟨by decide, by decide⟩ (Nat.le_of_ble_eq_true rfl) dX9_fund_10 ?_
  refine c_X9_requireBetween (by omega) (by omega) (fun rc => ?_) (fun rc => JX_out hC hR hN (by decide) (by decide) (hx2 (by unfold aFu; rw [chk_t ⟨k, rfl, hk⟩, chk_f rc])))
  dsimp only [Option.toList_some, Option.toList_none, List.cons_append, List.nil_append]
  obtain ⟨c, rfl, hc⟩ := rc
  refine J_aload_n hC dX9_fund_13 rfl rfl ?_
  refine gX9_26 hC hK dX9_fund_14 ?_
  refine J_aload_n hC dX9_fund_17 rfl rfl ?_
  refine gX9_13 hC hK dX9_fund_18 ?_
  refine iX9_134 hC hK rfl ⟨by decide, by decide⟩ ⟨by decide, by decide⟩ (Nat.le_of_ble_eq_true rfl) dX9_fund_21 ?_
  refine c_rem hK hL0 hLp hpx hu hn9 hc9 (fun τ hH => ?_)
  dsimp only [Option.toList_some, Option.toList_none, List.cons_append, List.nil_append]
  have hOτ := Hst_O hH hO
  refine J_aload_n hC dX9_fund_24 rfl rfl ?_
  refine gX9_13 hC hK dX9_fund_25 ?_
  refine J_iload_n hC dX9_fund_28 rfl rfl ?_
  refine J_iload_n hC dX9_fund_29 rfl rfl ?_
  refine iX9_221 hC hL0 rfl ⟨by decide, by decide⟩ ⟨by decide, by decide⟩ (Nat.le_of_ble_eq_true rfl) dX9_fund_30 ?_
  refine c_X4_putCoins hL0 hOτ hI hk (by omega) (fun σ2 hO2 hF2 => ?_)
  dsimp only [Option.toList_some, Option.toList_none, List.cons_append, List.nil_append]
  have e6 : nv (fundA A k (nI c)) 6 = nv A 6 := by unfold fundA; rw [nv_n (by omega), nv_n (by omega)]
  have e5 : fundA A k (nI c) (70 + 9 * k + 5) = A (70 + 9 * k + 5) + fundV A k (nI c) := by unfold fundA; rw [upd_n (by omega), upd_s]
  refine J_aload_n hC dX9_fund_33 rfl rfl ?_
  refine gX9_13 hC hK dX9_fund_34 ?_
  refine gX9_141 hC hL0 dX9_fund_37 ?_
  refine gX9_261 hC hL0 dX9_fund_40 ?_
  refine J_iload_n hC dX9_fund_43 rfl rfl ?_
  refine J_iaload hC (hL0.2.1 13 (by decide)) (kd_o hL0.1) rfl (by omega) (by decide) dX9_fund_44 ?_
  refine J_top ((o_P hO2 (by omega)).trans e5) ?_
  refine J_ireturn hC hR dX9_fund_45 (by decide) (by decide) ?_
  have e : aFu A (nI k) (nI c) = (0, A (70 + 9 * k + 5) + fundV A k (nI c)) := by
    unfold aFu
    rw [chk_t ⟨k, rfl, hk⟩, chk_t ⟨c, rfl, hc⟩, cl_n (by omega)]
  rw [e] at hq
  have z := hq rfl
  clear hq
  try rw [cl_n (by omega)] at z
  try rw [cl_n (by omega)] at z
  exact z _ ⟨τ, hH, hF2, hO2⟩
set_option maxHeartbeats 4000000 in
set_option maxRecDepth 100000 in
theorem c_X9_addKite {G : GC} {w : Lay} {σ : Mem} {Q : Lay → Option Value → Mem → Prop} {Qx : Lay → String → Mem → Prop} (hK : LK w) (hL0 : LO w 0) {A : Rw} {hm : Nat} (hO : OAt σ 0 A) (hI : RowOK hm A) {px u : Nat} (hLp : LO w (2 + px)) (hpx : px < 8) (hu : u ≤ 8) (hn9 : rd σ 12 1 2 = nI px) (hc9 : rd σ 12 1 1 = nI u) {x y l c v p : Int32} (hq : (aAK A x y l c v p).1 = 0 → ∀ σ', ChR σ σ' px u (kiteA A x y l c v p) → Q w (some (.int (aAK A x y l c v p).2)) σ') (hx1 : (aAK A x y l c v p).1 = 1 → Qx w "java/lang/IndexOutOfBoundsException" σ) (hx2 : (aAK A x y l c v p).1 = 2 → Qx w "java/lang/IllegalArgumentException" σ) (hx3 : (aAK A x y l c v p).1 = 3 → Qx w "java/lang/IllegalStateException" σ) : MX9_addKite G w σ [.ref (w.2.1 12 0), .int x, .int y, .int l, .int c, .int v, .int p] Q Qx := by
  refine mt_start (by decide) rfl (Nat.le_of_ble_eq_true rfl) (fun E hC hR hN => ?_)
  show J G E w 0 0 0 [some (.ref (w.2.1 12 0)), some (.int x), some (.int y), some (.int l), some (.int c), some (.int v), some (.int p)] [] σ
  have h4 := r_NK hI
  have w0 := r_W hI
  have w1 := r_H hI
  have w2 := r_NZ hI
  refine J_aload_n hC dX9_addKite_0 rfl rfl ?_
  refine J_iload hC dX9_addKite_1 rfl ?_
  refine iX9_224 hC hK rfl ⟨by decide, by decide⟩ ⟨by decide, by decide⟩ (Nat.le_of_ble_eq_true rfl) dX9_addKite_3 ?_
  refine c_X9_requireColour hK hL0 hO hI (fun rc => ?_) (fun rc => JX_out hC hR hN (by decide) (by decide) (hx1 (by unfold aAK; rw [chk_f rc])))
  dsimp only [Option.toList_some, Option.toList_none, List.cons_append, List.nil_append]
  obtain ⟨c, rfl, hc⟩ := rc
  refine J_iload_n hC dX9_addKite_6 rfl rfl ?_
  refine J_iconst (v := nI 0) hC dX9_addKite_7 (by decide) ?_
  refine J_aload_n hC dX9_addKite_8 rfl rfl ?_
  refine gX9_13 hC hK dX9_addKite_9 ?_
  refine gX9_59 hC hL0 dX9_addKite_12 ?_
  refine gX9_63 hC hL0 dX9_addKite_15 ?_
  refine J_top (o_W hO hI) ?_
  refine J_iconst (v := nI 1) hC dX9_addKite_18 (by decide) ?_
  refine J_isub_n hC (by omega) dX9_addKite_19 ?_
  refine iX9_110 hC rfl ⟨by decide, by decide⟩ ⟨by decide, by decide⟩ (Nat.le_of_ble_eq_true rfl) dX9_addKite_20 ?_
  refine c_X9_requireBetween (by omega) (by omega) (fun rx => ?_) (fun rx => JX_out hC hR hN (by decide) (by decide) (hx2 (by unfold aAK; rw [chk_t ⟨c, rfl, hc⟩, chk_f rx])))
  dsimp only [Option.toList_some, Option.toList_none, List.cons_append, List.nil_append]
  obtain ⟨x, rfl, hx⟩ := rx
  refine J_iload_n hC dX9_addKite_23 rfl rfl ?_
  refine J_iconst (v := nI 0) hC dX9_addKite_24 (by decide) ?_
  refine J_aload_n hC dX9_addKite_25 rfl rfl ?_
  refine gX9_13 hC hK dX9_addKite_26 ?_
  refine gX9_59 hC hL0 dX9_addKite_29 ?_
  refine gX9_69 hC hL0 dX9_addKite_32 ?_
  refine J_top (o_H hO hI) ?_
  refine J_iconst (v := nI 1) hC dX9_addKite_35 (by decide) ?_
  refine J_isub_n hC (by omega) dX9_addKite_36 ?_
  refine iX9_110 hC rfl ⟨by decide, by decide⟩ ⟨by decide, by decide⟩ (Nat.le_of_ble_eq_true rfl) dX9_addKite_37 ?_
  refine c_X9_requireBetween (by omega) (by omega) (fun ry => ?_) (fun ry => JX_out hC hR hN (by decide) (by decide) (hx2 (by unfold aAK; rw [chk_t ⟨c, rfl, hc⟩, chk_t ⟨x, rfl, hx⟩, chk_f ry])))
  dsimp only [Option.toList_some, Option.toList_none, List.cons_append, List.nil_append]
  obtain ⟨y, rfl, hy⟩ := ry
  refine J_iload_n hC dX9_addKite_40 rfl rfl ?_
  refine J_iconst (v := nI 1) hC dX9_addKite_41 (by decide) ?_
  refine J_bipush (v := nI 60) hC dX9_addKite_42 (by decide) ?_
  refine iX9_110 hC rfl ⟨by decide, by decide⟩ ⟨by decide, by decide⟩ (Nat.le_of_ble_eq_true rfl) dX9_addKite_44 ?_
  refine c_X9_requireBetween (by omega) (by omega) (fun rl => ?_) (fun rl => JX_out hC hR hN (by decide) (by decide) (hx2 (by unfold aAK; rw [chk_t ⟨c, rfl, hc⟩, chk_t ⟨x, rfl, hx⟩, chk_t ⟨y, rfl, hy⟩, chk_f rl])))
  dsimp only [Option.toList_some, Option.toList_none, List.cons_append, List.nil_append]
  obtain ⟨l, rfl, hl⟩ := rl
  refine J_iload hC dX9_addKite_47 rfl ?_
  refine J_iconst (v := nI 0) hC dX9_addKite_49 (by decide) ?_
  refine J_bipush (v := nI 9) hC dX9_addKite_50 (by decide) ?_
  refine iX9_110 hC rfl ⟨by decide, by decide⟩ ⟨by decide, by decide⟩ (Nat.le_of_ble_eq_true rfl) dX9_addKite_52 ?_
  refine c_X9_requireBetween (by omega) (by omega) (fun rv => ?_) (fun rv => JX_out hC hR hN (by decide) (by decide) (hx2 (by unfold aAK; rw [chk_t ⟨c, rfl, hc⟩, chk_t ⟨x, rfl, hx⟩, chk_t ⟨y, rfl, hy⟩, chk_t ⟨l, rfl, hl⟩, chk_f rv])))
  dsimp only [Option.toList_some, Option.toList_none, List.cons_append, List.nil_append]
  obtain ⟨v, rfl, hv⟩ := rv
  refine J_iload hC dX9_addKite_55 rfl ?_
  refine J_iconst (v := nI 0) hC dX9_addKite_57 (by decide) ?_
  refine J_sipush (v := nI 999) hC dX9_addKite_58 (by decide) ?_
  refine iX9_110 hC rfl ⟨by decide, by decide⟩ ⟨by decide, by decide⟩ (Nat.le_of_ble_eq_true rfl) dX9_addKite_61 ?_
  refine c_X9_requireBetween (by omega) (by omega) (fun rp => ?_) (fun rp => JX_out hC hR hN (by decide) (by decide) (hx2 (by unfold aAK; rw [chk_t ⟨c, rfl, hc⟩, chk_t ⟨x, rfl, hx⟩, chk_t ⟨y, rfl, hy⟩, chk_t ⟨l, rfl, hl⟩, chk_t ⟨v, rfl, hv⟩, chk_f rp])))
  dsimp only [Option.toList_some, Option.toList_none, List.cons_append, List.nil_append]
  obtain ⟨p, rfl, hp⟩ := rp
  refine J_aload_n hC dX9_addKite_64 rfl rfl ?_
  refine gX9_13 hC hK dX9_addKite_65 ?_
  refine gX9_141 hC hL0 dX9_addKite_68 ?_
  refine gX9_145 hC hL0 dX9_addKite_71 ?_
  refine J_top (o_NK hO hI) ?_
  refine J_bipush (v := nI 16) hC dX9_addKite_74 (by decide) ?_
  refine J_icmp_lt_n hC (by omega) (by decide) (tgt := 89) dX9_addKite_76 rfl (fun b1 => ?_) (fun b1 => ?_)
  · refine J_aload_n hC dX9_addKite_89 rfl rfl ?_
    refine gX9_26 hC hK dX9_addKite_90 ?_
    refine J_aload_n hC dX9_addKite_93 rfl rfl ?_
    refine gX9_13 hC hK dX9_addKite_94 ?_
    refine iX9_134 hC hK rfl ⟨by decide, by decide⟩ ⟨by decide, by decide⟩ (Nat.le_of_ble_eq_true rfl) dX9_addKite_97 ?_
    refine c_rem hK hL0 hLp hpx hu hn9 hc9 (fun τ hH => ?_)
    dsimp only [Option.toList_some, Option.toList_none, List.cons_append, List.nil_append]
    have hOτ := Hst_O hH hO
    refine J_aload_n hC dX9_addKite_100 rfl rfl ?_
    refine gX9_13 hC hK dX9_addKite_101 ?_
    refine J_iload_n hC dX9_addKite_104 rfl rfl ?_
    refine J_iload_n hC dX9_addKite_105 rfl rfl ?_
    refine J_iload_n hC dX9_addKite_106 rfl rfl ?_
    refine J_iload hC dX9_addKite_107 rfl ?_
    refine J_iload hC dX9_addKite_109 rfl ?_
    refine J_iload hC dX9_addKite_111 rfl ?_
    refine iX9_89 hC hL0 rfl ⟨by decide, by decide⟩ ⟨by decide, by decide⟩ (Nat.le_of_ble_eq_true rfl) dX9_addKite_113 ?_
    refine c_X4_enterKite hL0 ((o_NK hOτ hI)) (by omega) (o_W hOτ hI) (o_NZ hOτ hI) (by omega) (by omega) (by omega) ?_
    dsimp only [Option.toList_some, Option.toList_none, List.cons_append, List.nil_append]
    refine J_ireturn hC hR dX9_addKite_116 (by decide) (by decide) ?_
    have b1 : nv A 6 ≠ 16 := by omega
    have e : aAK A (nI x) (nI y) (nI l) (nI c) (nI v) (nI p) = (0, nI (nv A 6)) := by
      unfold aAK
      rw [chk_t ⟨c, rfl, hc⟩, chk_t ⟨x, rfl, hx⟩, chk_t ⟨y, rfl, hy⟩, chk_t ⟨l, rfl, hl⟩, chk_t ⟨v, rfl, hv⟩, chk_t ⟨p, rfl, hp⟩, chk_t b1]
    rw [e] at hq
    have z := hq rfl
    clear hq
    try rw [cl_n (by omega)] at z
    try rw [cl_n (by omega)] at z
    try rw [cl_n (by omega)] at z
    try rw [cl_n (by omega)] at z
    try rw [cl_n (by omega)] at z
    try rw [cl_n (by omega)] at z
    exact z _ ⟨τ, hH, FrO_en, (OAt_en hOτ (Bd_of hI) (by omega) (by omega))⟩
  · exact thS_ISE hC hR hN rfl (k := 7) rfl dX9_addKite_79 dX9_addKite_82 dX9_addKite_83 dX9_addKite_85 dX9_addKite_88 (by decide) (by decide) (by decide) (by decide) (by decide) (by decide) (hx3 (by unfold aAK; rw [chk_t ⟨c, rfl, hc⟩, chk_t ⟨x, rfl, hx⟩, chk_t ⟨y, rfl, hy⟩, chk_t ⟨l, rfl, hl⟩, chk_t ⟨v, rfl, hv⟩, chk_t ⟨p, rfl, hp⟩, chk_f (by omega)]))
theorem tgK_3 {x : Nat} (h : x < 2) : tgK 3 x = some (10 + x, 0) := by
  unfold tgK
  rw [if_neg (by decide), if_neg (by decide), if_neg (by decide), if_pos rfl, if_pos h]
