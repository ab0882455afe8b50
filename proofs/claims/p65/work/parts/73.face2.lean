set_option maxHeartbeats 4000000 in
set_option maxRecDepth 100000 in
theorem c_X9_hour {G : GC} {w : Lay} {σ : Mem} {Q : Lay → Option Value → Mem → Prop} {Qx : Lay → String → Mem → Prop} (hK : LK w) (hL0 : LO w 0) {A : Rw} {hm : Nat} (hO : OAt σ 0 A) (hI : RowOK hm A)  (hq : Q w (some (.int (A 7))) σ) : MX9_hour G w σ [.ref (w.2.1 12 0)] Q Qx := by
  refine mt_start (by decide) rfl (Nat.le_of_ble_eq_true rfl) (fun E hC hR hN => ?_)
  show J G E w 0 0 0 [some (.ref (w.2.1 12 0))] [] σ
  refine J_aload_n hC dX9_hour_0 rfl rfl ?_
  refine gX9_13 hC hK dX9_hour_1 ?_
  refine gX9_234 hC hL0 dX9_hour_4 ?_
  refine J_top (hO.1.1) ?_
  refine J_ireturn hC hR dX9_hour_7 (by decide) (by decide) ?_
  exact hq
set_option maxHeartbeats 4000000 in
set_option maxRecDepth 100000 in
theorem c_X9_fee {G : GC} {w : Lay} {σ : Mem} {Q : Lay → Option Value → Mem → Prop} {Qx : Lay → String → Mem → Prop} (hK : LK w) (hL0 : LO w 0) {A : Rw} {hm : Nat} (hO : OAt σ 0 A) (hI : RowOK hm A)  (hq : Q w (some (.int (A 2))) σ) : MX9_fee G w σ [.ref (w.2.1 12 0)] Q Qx := by
  refine mt_start (by decide) rfl (Nat.le_of_ble_eq_true rfl) (fun E hC hR hN => ?_)
  show J G E w 0 0 0 [some (.ref (w.2.1 12 0))] [] σ
  refine J_aload_n hC dX9_fee_0 rfl rfl ?_
  refine gX9_13 hC hK dX9_fee_1 ?_
  refine gX9_59 hC hL0 dX9_fee_4 ?_
  refine gX9_72 hC hL0 dX9_fee_7 ?_
  refine J_top (hO.2.1.2.2.1) ?_
  refine J_ireturn hC hR dX9_fee_10 (by decide) (by decide) ?_
  exact hq
set_option maxHeartbeats 4000000 in
set_option maxRecDepth 100000 in
theorem c_X9_kiteCount {G : GC} {w : Lay} {σ : Mem} {Q : Lay → Option Value → Mem → Prop} {Qx : Lay → String → Mem → Prop} (hK : LK w) (hL0 : LO w 0) {A : Rw} {hm : Nat} (hO : OAt σ 0 A) (hI : RowOK hm A)  (hq : Q w (some (.int (A 6))) σ) : MX9_kiteCount G w σ [.ref (w.2.1 12 0)] Q Qx := by
  refine mt_start (by decide) rfl (Nat.le_of_ble_eq_true rfl) (fun E hC hR hN => ?_)
  show J G E w 0 0 0 [some (.ref (w.2.1 12 0))] [] σ
  refine J_aload_n hC dX9_kiteCount_0 rfl rfl ?_
  refine gX9_13 hC hK dX9_kiteCount_1 ?_
  refine gX9_141 hC hL0 dX9_kiteCount_4 ?_
  refine gX9_145 hC hL0 dX9_kiteCount_7 ?_
  refine J_top (hO.2.2.2.2.1.1) ?_
  refine J_ireturn hC hR dX9_kiteCount_10 (by decide) (by decide) ?_
  exact hq
set_option maxHeartbeats 4000000 in
set_option maxRecDepth 100000 in
theorem c_X9_permitCount {G : GC} {w : Lay} {σ : Mem} {Q : Lay → Option Value → Mem → Prop} {Qx : Lay → String → Mem → Prop} (hK : LK w) (hL0 : LO w 0) {A : Rw} {hm : Nat} (hO : OAt σ 0 A) (hI : RowOK hm A)  (hq : Q w (some (.int (A 11))) σ) : MX9_permitCount G w σ [.ref (w.2.1 12 0)] Q Qx := by
  refine mt_start (by decide) rfl (Nat.le_of_ble_eq_true rfl) (fun E hC hR hN => ?_)
  show J G E w 0 0 0 [some (.ref (w.2.1 12 0))] [] σ
  refine J_aload_n hC dX9_permitCount_0 rfl rfl ?_
  refine gX9_13 hC hK dX9_permitCount_1 ?_
  refine gX9_206 hC hL0 dX9_permitCount_4 ?_
  refine gX9_252 hC hL0 dX9_permitCount_7 ?_
  refine J_top (hO.2.2.2.2.2.2.1) ?_
  refine J_ireturn hC hR dX9_permitCount_10 (by decide) (by decide) ?_
  exact hq
set_option maxHeartbeats 4000000 in
set_option maxRecDepth 100000 in
theorem c_X9_officeCoins {G : GC} {w : Lay} {σ : Mem} {Q : Lay → Option Value → Mem → Prop} {Qx : Lay → String → Mem → Prop} (hK : LK w) (hL0 : LO w 0) {A : Rw} {hm : Nat} (hO : OAt σ 0 A) (hI : RowOK hm A)  (hq : Q w (some (.int (A 9))) σ) : MX9_officeCoins G w σ [.ref (w.2.1 12 0)] Q Qx := by
  refine mt_start (by decide) rfl (Nat.le_of_ble_eq_true rfl) (fun E hC hR hN => ?_)
  show J G E w 0 0 0 [some (.ref (w.2.1 12 0))] [] σ
  refine J_aload_n hC dX9_officeCoins_0 rfl rfl ?_
  refine gX9_13 hC hK dX9_officeCoins_1 ?_
  refine gX9_366 hC hL0 dX9_officeCoins_4 ?_
  refine J_top (hO.1.2.1) ?_
  refine J_ireturn hC hR dX9_officeCoins_7 (by decide) (by decide) ?_
  exact hq
theorem i32_sub_comm (a b c : Int32) : a - b - c = a - c - b := by rw [i32_sub, i32_sub, Int32.add_comm]
set_option maxHeartbeats 4000000 in
set_option maxRecDepth 100000 in
theorem c_X9_coinError {G : GC} {w : Lay} {σ : Mem} {Q : Lay → Option Value → Mem → Prop} {Qx : Lay → String → Mem → Prop} (hK : LK w) (hL0 : LO w 0) {A : Rw} {hm : Nat} (hO : OAt σ 0 A) (hI : RowOK hm A)  (hq : Q w (some (.int (coinE A))) σ) : MX9_coinError G w σ [.ref (w.2.1 12 0)] Q Qx := by
  refine mt_start (by decide) rfl (Nat.le_of_ble_eq_true rfl) (fun E hC hR hN => ?_)
  show J G E w 0 0 0 [some (.ref (w.2.1 12 0))] [] σ
  refine J_aload_n hC dX9_coinError_0 rfl rfl ?_
  refine gX9_13 hC hK dX9_coinError_1 ?_
  refine gX9_369 hC hL0 dX9_coinError_4 ?_
  refine J_top hO.1.2.2 ?_
  refine J_aload_n hC dX9_coinError_7 rfl rfl ?_
  refine gX9_13 hC hK dX9_coinError_8 ?_
  refine gX9_141 hC hL0 dX9_coinError_11 ?_
  refine iX9_372 hC hL0 rfl ⟨by decide, by decide⟩ ⟨by decide, by decide⟩ (Nat.le_of_ble_eq_true rfl) dX9_coinError_14 ?_
  refine c_X1_pursesTogether hL0 hO hI ?_
  dsimp only [Option.toList_some, Option.toList_none, List.cons_append, List.nil_append]
  refine J_isub hC dX9_coinError_17 ?_
  refine J_aload_n hC dX9_coinError_18 rfl rfl ?_
  refine gX9_13 hC hK dX9_coinError_19 ?_
  refine gX9_366 hC hL0 dX9_coinError_22 ?_
  refine J_top hO.1.2.1 ?_
  refine J_isub hC dX9_coinError_25 ?_
  refine J_ireturn hC hR dX9_coinError_26 (by decide) (by decide) ?_
  unfold coinE at hq
  rw [i32_sub_comm] at hq
  exact hq
set_option maxHeartbeats 4000000 in
set_option maxRecDepth 100000 in
theorem c_X9_permittedCrossings {G : GC} {w : Lay} {σ : Mem} {Q : Lay → Option Value → Mem → Prop} {Qx : Lay → String → Mem → Prop} (hK : LK w) (hL0 : LO w 0) {A : Rw} {hm : Nat} (hO : OAt σ 0 A) (hI : RowOK hm A) (hh : nv A 7 < 2 ^ 29) (hq : Q w (some (.int (nI (pcr A)))) σ) : MX9_permittedCrossings G w σ [.ref (w.2.1 12 0)] Q Qx := by
  refine mt_start (by decide) rfl (Nat.le_of_ble_eq_true rfl) (fun E hC hR hN => ?_)
  show J G E w 0 0 0 [some (.ref (w.2.1 12 0))] [] σ
  refine J_aload_n hC dX9_permittedCrossings_0 rfl rfl ?_
  refine gX9_13 hC hK dX9_permittedCrossings_1 ?_
  refine iX9_376 hC hL0 rfl ⟨by decide, by decide⟩ ⟨by decide, by decide⟩ (Nat.le_of_ble_eq_true rfl) dX9_permittedCrossings_4 ?_
  refine c_X4_countPermittedCrossings hL0 hO hI (by omega) ?_
  dsimp only [Option.toList_some, Option.toList_none, List.cons_append, List.nil_append]
  refine J_ireturn hC hR dX9_permittedCrossings_7 (by decide) (by decide) ?_
  exact hq
set_option maxHeartbeats 4000000 in
set_option maxRecDepth 100000 in
theorem c_X9_quota {G : GC} {w : Lay} {σ : Mem} {Q : Lay → Option Value → Mem → Prop} {Qx : Lay → String → Mem → Prop} (hK : LK w) (hL0 : LO w 0) {A : Rw} {hm : Nat} (hO : OAt σ 0 A) (hI : RowOK hm A) {c : Int32} (hq : (aQ A c).1 = 0 → Q w (some (.int (aQ A c).2)) σ) (hx1 : (aQ A c).1 = 1 → Qx w "java/lang/IndexOutOfBoundsException" σ) : MX9_quota G w σ [.ref (w.2.1 12 0), .int c] Q Qx := by
  refine mt_start (by decide) rfl (Nat.le_of_ble_eq_true rfl) (fun E hC hR hN => ?_)
  show J G E w 0 0 0 [some (.ref (w.2.1 12 0)), some (.int c)] [] σ
  have h4 := r_NC hI
  refine J_aload_n hC dX9_quota_0 rfl rfl ?_
  refine J_iload_n hC dX9_quota_1 rfl rfl ?_
  refine iX9_224 hC hK rfl ⟨by decide, by decide⟩ ⟨by decide, by decide⟩ (Nat.le_of_ble_eq_true rfl) dX9_quota_2 ?_
  refine c_X9_requireColour hK hL0 hO hI (fun rc => ?_) (fun rc => JX_out hC hR hN (by decide) (by decide) (hx1 (by unfold aQ; rw [chk_f rc])))
  dsimp only [Option.toList_some, Option.toList_none, List.cons_append, List.nil_append]
  obtain ⟨c, rfl, hc⟩ := rc
  refine J_aload_n hC dX9_quota_5 rfl rfl ?_
  refine gX9_13 hC hK dX9_quota_6 ?_
  refine gX9_59 hC hL0 dX9_quota_9 ?_
  refine gX9_296 hC hL0 dX9_quota_12 ?_
  refine J_iload_n hC dX9_quota_15 rfl rfl ?_
  refine J_iaload hC (hL0.2.1 5 (by decide)) (kd_o hL0.1) rfl (by omega) (by decide) dX9_quota_16 ?_
  refine J_top (hO.2.2.2.1 c hc) ?_
  refine J_ireturn hC hR dX9_quota_17 (by decide) (by decide) ?_
  have e : aQ A (nI c) = (0, A (64 + c)) := by
    unfold aQ
    rw [chk_t ⟨c, rfl, hc⟩, cl_n (by omega)]
  rw [e] at hq
  exact hq rfl
set_option maxHeartbeats 4000000 in
set_option maxRecDepth 100000 in
theorem c_X9_quotaUsed {G : GC} {w : Lay} {σ : Mem} {Q : Lay → Option Value → Mem → Prop} {Qx : Lay → String → Mem → Prop} (hK : LK w) (hL0 : LO w 0) {A : Rw} {hm : Nat} (hO : OAt σ 0 A) (hI : RowOK hm A) {c h : Int32} (hq : (aQU A c h).1 = 0 → Q w (some (.int (aQU A c h).2)) σ) (hx1 : (aQU A c h).1 = 1 → Qx w "java/lang/IndexOutOfBoundsException" σ) (hx2 : (aQU A c h).1 = 2 → Qx w "java/lang/IllegalArgumentException" σ) : MX9_quotaUsed G w σ [.ref (w.2.1 12 0), .int c, .int h] Q Qx := by
  refine mt_start (by decide) rfl (Nat.le_of_ble_eq_true rfl) (fun E hC hR hN => ?_)
  show J G E w 0 0 0 [some (.ref (w.2.1 12 0)), some (.int c), some (.int h)] [] σ
  have h4 := r_NC hI
  refine J_aload_n hC dX9_quotaUsed_0 rfl rfl ?_
  refine J_iload_n hC dX9_quotaUsed_1 rfl rfl ?_
  refine iX9_224 hC hK rfl ⟨by decide, by decide⟩ ⟨by decide, by decide⟩ (Nat.le_of_ble_eq_true rfl) dX9_quotaUsed_2 ?_
  refine c_X9_requireColour hK hL0 hO hI (fun rc => ?_) (fun rc => JX_out hC hR hN (by decide) (by decide) (hx1 (by unfold aQU; rw [chk_f rc])))
  dsimp only [Option.toList_some, Option.toList_none, List.cons_append, List.nil_append]
  obtain ⟨c, rfl, hc⟩ := rc
  refine J_iload_n hC dX9_quotaUsed_5 rfl rfl ?_
  refine iX9_281 hC rfl ⟨by decide, by decide⟩ ⟨by decide, by decide⟩ (Nat.le_of_ble_eq_true rfl) dX9_quotaUsed_6 ?_
  refine c_X9_requireHour  (fun rh => ?_) (fun rh => JX_out hC hR hN (by decide) (by decide) (hx2 (by unfold aQU; rw [chk_t ⟨c, rfl, hc⟩, chk_f rh])))
  dsimp only [Option.toList_some, Option.toList_none, List.cons_append, List.nil_append]
  obtain ⟨h, rfl, hh⟩ := rh
  refine J_aload_n hC dX9_quotaUsed_9 rfl rfl ?_
  refine gX9_13 hC hK dX9_quotaUsed_10 ?_
  refine J_iload_n hC dX9_quotaUsed_13 rfl rfl ?_
  refine J_iload_n hC dX9_quotaUsed_14 rfl rfl ?_
  refine iX9_299 hC hL0 rfl ⟨by decide, by decide⟩ ⟨by decide, by decide⟩ (Nat.le_of_ble_eq_true rfl) dX9_quotaUsed_15 ?_
  refine c_X4_countCovering hL0 hO hI (by omega) (by omega) ?_
  dsimp only [Option.toList_some, Option.toList_none, List.cons_append, List.nil_append]
  refine J_ireturn hC hR dX9_quotaUsed_18 (by decide) (by decide) ?_
  have e : aQU A (nI c) (nI h) = (0, nI (usedN A c h)) := by
    unfold aQU
    rw [chk_t ⟨c, rfl, hc⟩, chk_t ⟨h, rfl, hh⟩, cl_n (by omega), cl_n (by omega)]
  rw [e] at hq
  exact hq rfl
set_option maxHeartbeats 4000000 in
set_option maxRecDepth 100000 in
theorem c_X9_colourOf {G : GC} {w : Lay} {σ : Mem} {Q : Lay → Option Value → Mem → Prop} {Qx : Lay → String → Mem → Prop} (hK : LK w) (hL0 : LO w 0) {A : Rw} {hm : Nat} (hO : OAt σ 0 A) (hI : RowOK hm A) {k : Int32} (hq : (aOf 3 A k).1 = 0 → Q w (some (.int (aOf 3 A k).2)) σ) (hx1 : (aOf 3 A k).1 = 1 → Qx w "java/lang/IndexOutOfBoundsException" σ) : MX9_colourOf G w σ [.ref (w.2.1 12 0), .int k] Q Qx := by
  refine mt_start (by decide) rfl (Nat.le_of_ble_eq_true rfl) (fun E hC hR hN => ?_)
  show J G E w 0 0 0 [some (.ref (w.2.1 12 0)), some (.int k)] [] σ
  have h4 := r_NK hI
  refine J_aload_n hC dX9_colourOf_0 rfl rfl ?_
  refine J_iload_n hC dX9_colourOf_1 rfl rfl ?_
  refine iX9_229 hC hK rfl ⟨by decide, by decide⟩ ⟨by decide, by decide⟩ (Nat.le_of_ble_eq_true rfl) dX9_colourOf_2 ?_
  refine c_X9_requireKite hK hL0 hO hI (fun rk => ?_) (fun rk => JX_out hC hR hN (by decide) (by decide) (hx1 (by unfold aOf; rw [chk_f rk])))
  dsimp only [Option.toList_some, Option.toList_none, List.cons_append, List.nil_append]
  obtain ⟨k, rfl, hk⟩ := rk
  refine J_aload_n hC dX9_colourOf_5 rfl rfl ?_
  refine gX9_13 hC hK dX9_colourOf_6 ?_
  refine gX9_141 hC hL0 dX9_colourOf_9 ?_
  refine gX9_310 hC hL0 dX9_colourOf_12 ?_
  refine J_iload_n hC dX9_colourOf_15 rfl rfl ?_
  refine J_iaload hC (hL0.2.1 11 (by decide)) (kd_o hL0.1) rfl (by omega) (by decide) dX9_colourOf_16 ?_
  refine J_top ((hO.2.2.2.2.2.1 k hk).2.2.2.2.1) ?_
  refine J_ireturn hC hR dX9_colourOf_17 (by decide) (by decide) ?_
  have e : aOf 3 A (nI k) = (0, A (70 + 9 * k + 3)) := by
    unfold aOf
    rw [chk_t ⟨k, rfl, hk⟩, cl_n (by omega)]
  rw [e] at hq
  exact hq rfl
set_option maxHeartbeats 4000000 in
set_option maxRecDepth 100000 in
theorem c_X9_knots {G : GC} {w : Lay} {σ : Mem} {Q : Lay → Option Value → Mem → Prop} {Qx : Lay → String → Mem → Prop} (hK : LK w) (hL0 : LO w 0) {A : Rw} {hm : Nat} (hO : OAt σ 0 A) (hI : RowOK hm A) {k : Int32} (hq : (aOf 4 A k).1 = 0 → Q w (some (.int (aOf 4 A k).2)) σ) (hx1 : (aOf 4 A k).1 = 1 → Qx w "java/lang/IndexOutOfBoundsException" σ) : MX9_knots G w σ [.ref (w.2.1 12 0), .int k] Q Qx := by
  refine mt_start (by decide) rfl (Nat.le_of_ble_eq_true rfl) (fun E hC hR hN => ?_)
  show J G E w 0 0 0 [some (.ref (w.2.1 12 0)), some (.int k)] [] σ
  have h4 := r_NK hI
  refine J_aload_n hC dX9_knots_0 rfl rfl ?_
  refine J_iload_n hC dX9_knots_1 rfl rfl ?_
  refine iX9_229 hC hK rfl ⟨by decide, by decide⟩ ⟨by decide, by decide⟩ (Nat.le_of_ble_eq_true rfl) dX9_knots_2 ?_
  refine c_X9_requireKite hK hL0 hO hI (fun rk => ?_) (fun rk => JX_out hC hR hN (by decide) (by decide) (hx1 (by unfold aOf; rw [chk_f rk])))
  dsimp only [Option.toList_some, Option.toList_none, List.cons_append, List.nil_append]
  obtain ⟨k, rfl, hk⟩ := rk
  refine J_aload_n hC dX9_knots_5 rfl rfl ?_
  refine gX9_13 hC hK dX9_knots_6 ?_
  refine gX9_141 hC hL0 dX9_knots_9 ?_
  refine gX9_253 hC hL0 dX9_knots_12 ?_
  refine J_iload_n hC dX9_knots_15 rfl rfl ?_
  refine J_iaload hC (hL0.2.1 12 (by decide)) (kd_o hL0.1) rfl (by omega) (by decide) dX9_knots_16 ?_
  refine J_top ((hO.2.2.2.2.2.1 k hk).2.2.2.2.2.1) ?_
  refine J_ireturn hC hR dX9_knots_17 (by decide) (by decide) ?_
  have e : aOf 4 A (nI k) = (0, A (70 + 9 * k + 4)) := by
    unfold aOf
    rw [chk_t ⟨k, rfl, hk⟩, cl_n (by omega)]
  rw [e] at hq
  exact hq rfl
set_option maxHeartbeats 4000000 in
set_option maxRecDepth 100000 in
theorem c_X9_purse {G : GC} {w : Lay} {σ : Mem} {Q : Lay → Option Value → Mem → Prop} {Qx : Lay → String → Mem → Prop} (hK : LK w) (hL0 : LO w 0) {A : Rw} {hm : Nat} (hO : OAt σ 0 A) (hI : RowOK hm A) {k : Int32} (hq : (aOf 5 A k).1 = 0 → Q w (some (.int (aOf 5 A k).2)) σ) (hx1 : (aOf 5 A k).1 = 1 → Qx w "java/lang/IndexOutOfBoundsException" σ) : MX9_purse G w σ [.ref (w.2.1 12 0), .int k] Q Qx := by
  refine mt_start (by decide) rfl (Nat.le_of_ble_eq_true rfl) (fun E hC hR hN => ?_)
  show J G E w 0 0 0 [some (.ref (w.2.1 12 0)), some (.int k)] [] σ
  have h4 := r_NK hI
  refine J_aload_n hC dX9_purse_0 rfl rfl ?_
  refine J_iload_n hC dX9_purse_1 rfl rfl ?_
  refine iX9_229 hC hK rfl ⟨by decide, by decide⟩ ⟨by decide, by decide⟩ (Nat.le_of_ble_eq_true rfl) dX9_purse_2 ?_
  refine c_X9_requireKite hK hL0 hO hI (fun rk => ?_) (fun rk => JX_out hC hR hN (by decide) (by decide) (hx1 (by unfold aOf; rw [chk_f rk])))
  dsimp only [Option.toList_some, Option.toList_none, List.cons_append, List.nil_append]
  obtain ⟨k, rfl, hk⟩ := rk
  refine J_aload_n hC dX9_purse_5 rfl rfl ?_
  refine gX9_13 hC hK dX9_purse_6 ?_
  refine gX9_141 hC hL0 dX9_purse_9 ?_
  refine gX9_261 hC hL0 dX9_purse_12 ?_
  refine J_iload_n hC dX9_purse_15 rfl rfl ?_
  refine J_iaload hC (hL0.2.1 13 (by decide)) (kd_o hL0.1) rfl (by omega) (by decide) dX9_purse_16 ?_
  refine J_top ((hO.2.2.2.2.2.1 k hk).2.2.2.2.2.2.1) ?_
  refine J_ireturn hC hR dX9_purse_17 (by decide) (by decide) ?_
  have e : aOf 5 A (nI k) = (0, A (70 + 9 * k + 5)) := by
    unfold aOf
    rw [chk_t ⟨k, rfl, hk⟩, cl_n (by omega)]
  rw [e] at hq
  exact hq rfl
set_option maxHeartbeats 4000000 in
set_option maxRecDepth 100000 in
theorem c_X9_stateOf {G : GC} {w : Lay} {σ : Mem} {Q : Lay → Option Value → Mem → Prop} {Qx : Lay → String → Mem → Prop} (hK : LK w) (hL0 : LO w 0) {A : Rw} {hm : Nat} (hO : OAt σ 0 A) (hI : RowOK hm A) {k : Int32} (hq : (aOf 6 A k).1 = 0 → Q w (some (.int (aOf 6 A k).2)) σ) (hx1 : (aOf 6 A k).1 = 1 → Qx w "java/lang/IndexOutOfBoundsException" σ) : MX9_stateOf G w σ [.ref (w.2.1 12 0), .int k] Q Qx := by
  refine mt_start (by decide) rfl (Nat.le_of_ble_eq_true rfl) (fun E hC hR hN => ?_)
  show J G E w 0 0 0 [some (.ref (w.2.1 12 0)), some (.int k)] [] σ
  have h4 := r_NK hI
  refine J_aload_n hC dX9_stateOf_0 rfl rfl ?_
  refine J_iload_n hC dX9_stateOf_1 rfl rfl ?_
  refine iX9_229 hC hK rfl ⟨by decide, by decide⟩ ⟨by decide, by decide⟩ (Nat.le_of_ble_eq_true rfl) dX9_stateOf_2 ?_
  refine c_X9_requireKite hK hL0 hO hI (fun rk => ?_) (fun rk => JX_out hC hR hN (by decide) (by decide) (hx1 (by unfold aOf; rw [chk_f rk])))
  dsimp only [Option.toList_some, Option.toList_none, List.cons_append, List.nil_append]
  obtain ⟨k, rfl, hk⟩ := rk
  refine J_aload_n hC dX9_stateOf_5 rfl rfl ?_
  refine gX9_13 hC hK dX9_stateOf_6 ?_
  refine gX9_141 hC hL0 dX9_stateOf_9 ?_
  refine gX9_177 hC hL0 dX9_stateOf_12 ?_
  refine J_iload_n hC dX9_stateOf_15 rfl rfl ?_
  refine J_iaload hC (hL0.2.1 14 (by decide)) (kd_o hL0.1) rfl (by omega) (by decide) dX9_stateOf_16 ?_
  refine J_top ((hO.2.2.2.2.2.1 k hk).2.2.2.2.2.2.2.1) ?_
  refine J_ireturn hC hR dX9_stateOf_17 (by decide) (by decide) ?_
  have e : aOf 6 A (nI k) = (0, A (70 + 9 * k + 6)) := by
    unfold aOf
    rw [chk_t ⟨k, rfl, hk⟩, cl_n (by omega)]
  rw [e] at hq
  exact hq rfl
set_option maxHeartbeats 4000000 in
set_option maxRecDepth 100000 in
theorem c_X9_tangles {G : GC} {w : Lay} {σ : Mem} {Q : Lay → Option Value → Mem → Prop} {Qx : Lay → String → Mem → Prop} (hK : LK w) (hL0 : LO w 0) {A : Rw} {hm : Nat} (hO : OAt σ 0 A) (hI : RowOK hm A) {k : Int32} (hq : (aOf 7 A k).1 = 0 → Q w (some (.int (aOf 7 A k).2)) σ) (hx1 : (aOf 7 A k).1 = 1 → Qx w "java/lang/IndexOutOfBoundsException" σ) : MX9_tangles G w σ [.ref (w.2.1 12 0), .int k] Q Qx := by
  refine mt_start (by decide) rfl (Nat.le_of_ble_eq_true rfl) (fun E hC hR hN => ?_)
  show J G E w 0 0 0 [some (.ref (w.2.1 12 0)), some (.int k)] [] σ
  have h4 := r_NK hI
  refine J_aload_n hC dX9_tangles_0 rfl rfl ?_
  refine J_iload_n hC dX9_tangles_1 rfl rfl ?_
  refine iX9_229 hC hK rfl ⟨by decide, by decide⟩ ⟨by decide, by decide⟩ (Nat.le_of_ble_eq_true rfl) dX9_tangles_2 ?_
  refine c_X9_requireKite hK hL0 hO hI (fun rk => ?_) (fun rk => JX_out hC hR hN (by decide) (by decide) (hx1 (by unfold aOf; rw [chk_f rk])))
  dsimp only [Option.toList_some, Option.toList_none, List.cons_append, List.nil_append]
  obtain ⟨k, rfl, hk⟩ := rk
  refine J_aload_n hC dX9_tangles_5 rfl rfl ?_
  refine gX9_13 hC hK dX9_tangles_6 ?_
  refine gX9_141 hC hL0 dX9_tangles_9 ?_
  refine gX9_316 hC hL0 dX9_tangles_12 ?_
  refine J_iload_n hC dX9_tangles_15 rfl rfl ?_
  refine J_iaload hC (hL0.2.1 16 (by decide)) (kd_o hL0.1) rfl (by omega) (by decide) dX9_tangles_16 ?_
  refine J_top (o_T hO hk) ?_
  refine J_ireturn hC hR dX9_tangles_17 (by decide) (by decide) ?_
  have e : aOf 7 A (nI k) = (0, A (70 + 9 * k + 7)) := by
    unfold aOf
    rw [chk_t ⟨k, rfl, hk⟩, cl_n (by omega)]
  rw [e] at hq
  exact hq rfl
set_option maxHeartbeats 4000000 in
set_option maxRecDepth 100000 in
theorem c_X9_reach {G : GC} {w : Lay} {σ : Mem} {Q : Lay → Option Value → Mem → Prop} {Qx : Lay → String → Mem → Prop} (hK : LK w) (hL0 : LO w 0) {A : Rw} {hm : Nat} (hO : OAt σ 0 A) (hI : RowOK hm A) {k h : Int32} (hq : (aRe A k h).1 = 0 → Q w (some (.int (aRe A k h).2)) σ) (hx1 : (aRe A k h).1 = 1 → Qx w "java/lang/IndexOutOfBoundsException" σ) (hx2 : (aRe A k h).1 = 2 → Qx w "java/lang/IllegalArgumentException" σ) : MX9_reach G w σ [.ref (w.2.1 12 0), .int k, .int h] Q Qx := by
  refine mt_start (by decide) rfl (Nat.le_of_ble_eq_true rfl) (fun E hC hR hN => ?_)
  show J G E w 0 0 0 [some (.ref (w.2.1 12 0)), some (.int k), some (.int h)] [] σ
  have h4 := r_NK hI
  refine J_aload_n hC dX9_reach_0 rfl rfl ?_
  refine J_iload_n hC dX9_reach_1 rfl rfl ?_
  refine iX9_229 hC hK rfl ⟨by decide, by decide⟩ ⟨by decide, by decide⟩ (Nat.le_of_ble_eq_true rfl) dX9_reach_2 ?_
  refine c_X9_requireKite hK hL0 hO hI (fun rk => ?_) (fun rk => JX_out hC hR hN (by decide) (by decide) (hx1 (by unfold aRe; rw [chk_f rk])))
  dsimp only [Option.toList_some, Option.toList_none, List.cons_append, List.nil_append]
  obtain ⟨k, rfl, hk⟩ := rk
  refine J_iload_n hC dX9_reach_5 rfl rfl ?_
  refine iX9_281 hC rfl ⟨by decide, by decide⟩ ⟨by decide, by decide⟩ (Nat.le_of_ble_eq_true rfl) dX9_reach_6 ?_
  refine c_X9_requireHour  (fun rh => ?_) (fun rh => JX_out hC hR hN (by decide) (by decide) (hx2 (by unfold aRe; rw [chk_t ⟨k, rfl, hk⟩, chk_f rh])))
  dsimp only [Option.toList_some, Option.toList_none, List.cons_append, List.nil_append]
  obtain ⟨h, rfl, hh⟩ := rh
  refine J_aload_n hC dX9_reach_9 rfl rfl ?_
  refine gX9_13 hC hK dX9_reach_10 ?_
  refine J_iload_n hC dX9_reach_13 rfl rfl ?_
  refine J_iload_n hC dX9_reach_14 rfl rfl ?_
  refine iX9_237 hC hL0 rfl ⟨by decide, by decide⟩ ⟨by decide, by decide⟩ (Nat.le_of_ble_eq_true rfl) dX9_reach_15 ?_
  refine c_X4_reachAt hL0 hO hI hk (by omega) ?_
  dsimp only [Option.toList_some, Option.toList_none, List.cons_append, List.nil_append]
  refine J_ireturn hC hR dX9_reach_18 (by decide) (by decide) ?_
  have e : aRe A (nI k) (nI h) = (0, nI (reachN A k h)) := by
    unfold aRe
    rw [chk_t ⟨k, rfl, hk⟩, chk_t ⟨h, rfl, hh⟩, cl_n (by omega), cl_n (by omega)]
  rw [e] at hq
  exact hq rfl
set_option maxHeartbeats 4000000 in
set_option maxRecDepth 100000 in
theorem c_X9_canFly {G : GC} {w : Lay} {σ : Mem} {Q : Lay → Option Value → Mem → Prop} {Qx : Lay → String → Mem → Prop} (hK : LK w) (hL0 : LO w 0) {A : Rw} {hm : Nat} (hO : OAt σ 0 A) (hI : RowOK hm A) {k h : Int32} (hq : (aCF A k h).1 = 0 → Q w (some (.int (aCF A k h).2)) σ) (hx1 : (aCF A k h).1 = 1 → Qx w "java/lang/IndexOutOfBoundsException" σ) (hx2 : (aCF A k h).1 = 2 → Qx w "java/lang/IllegalArgumentException" σ) : MX9_canFly G w σ [.ref (w.2.1 12 0), .int k, .int h] Q Qx := by
  refine mt_start (by decide) rfl (Nat.le_of_ble_eq_true rfl) (fun E hC hR hN => ?_)
  show J G E w 0 0 0 [some (.ref (w.2.1 12 0)), some (.int k), some (.int h)] [] σ
  have h4 := r_NK hI
  refine J_aload_n hC dX9_canFly_0 rfl rfl ?_
  refine J_iload_n hC dX9_canFly_1 rfl rfl ?_
  refine iX9_229 hC hK rfl ⟨by decide, by decide⟩ ⟨by decide, by decide⟩ (Nat.le_of_ble_eq_true rfl) dX9_canFly_2 ?_
  refine c_X9_requireKite hK hL0 hO hI (fun rk => ?_) (fun rk => JX_out hC hR hN (by decide) (by decide) (hx1 (by unfold aCF; rw [chk_f rk])))
  dsimp only [Option.toList_some, Option.toList_none, List.cons_append, List.nil_append]
  obtain ⟨k, rfl, hk⟩ := rk
  refine J_iload_n hC dX9_canFly_5 rfl rfl ?_
  refine iX9_281 hC rfl ⟨by decide, by decide⟩ ⟨by decide, by decide⟩ (Nat.le_of_ble_eq_true rfl) dX9_canFly_6 ?_
  refine c_X9_requireHour  (fun rh => ?_) (fun rh => JX_out hC hR hN (by decide) (by decide) (hx2 (by unfold aCF; rw [chk_t ⟨k, rfl, hk⟩, chk_f rh])))
  dsimp only [Option.toList_some, Option.toList_none, List.cons_append, List.nil_append]
  obtain ⟨h, rfl, hh⟩ := rh
  refine J_aload_n hC dX9_canFly_9 rfl rfl ?_
  refine gX9_13 hC hK dX9_canFly_10 ?_
  refine J_iload_n hC dX9_canFly_13 rfl rfl ?_
  refine J_iload_n hC dX9_canFly_14 rfl rfl ?_
  refine iX9_328 hC hL0 rfl ⟨by decide, by decide⟩ ⟨by decide, by decide⟩ (Nat.le_of_ble_eq_true rfl) dX9_canFly_15 ?_
  refine c_X4_fliesAt hL0 hO hI hk (by omega) (fun b1 => ?_) (fun b1 => ?_)
  · dsimp only [Option.toList_some, Option.toList_none, List.cons_append, List.nil_append]
    refine J_zreturn hC hR dX9_canFly_18 (by decide) (by decide) (by decide) ?_
    have e : aCF A (nI k) (nI h) = (0, nI (ct (fliesN A k h))) := by
      unfold aCF
      rw [chk_t ⟨k, rfl, hk⟩, chk_t ⟨h, rfl, hh⟩, cl_n (by omega), cl_n (by omega)]
    rw [e] at hq
    have hq9 := hq rfl
    dsimp only at hq9
    rw [ct_t b1] at hq9
    exact hq9
  · dsimp only [Option.toList_some, Option.toList_none, List.cons_append, List.nil_append]
    refine J_zreturn hC hR dX9_canFly_18 (by decide) (by decide) (by decide) ?_
    have e : aCF A (nI k) (nI h) = (0, nI (ct (fliesN A k h))) := by
      unfold aCF
      rw [chk_t ⟨k, rfl, hk⟩, chk_t ⟨h, rfl, hh⟩, cl_n (by omega), cl_n (by omega)]
    rw [e] at hq
    have hq9 := hq rfl
    dsimp only at hq9
    rw [ct_f b1] at hq9
    exact hq9
set_option maxHeartbeats 4000000 in
set_option maxRecDepth 100000 in
theorem c_X9_doCross {G : GC} {w : Lay} {σ : Mem} {Q : Lay → Option Value → Mem → Prop} {Qx : Lay → String → Mem → Prop} (hK : LK w) (hL0 : LO w 0) {A : Rw} {hm : Nat} (hO : OAt σ 0 A) (hI : RowOK hm A) {k i h : Int32} (hq : (aDC A k i h).1 = 0 → Q w (some (.int (aDC A k i h).2)) σ) (hx1 : (aDC A k i h).1 = 1 → Qx w "java/lang/IndexOutOfBoundsException" σ) (hx2 : (aDC A k i h).1 = 2 → Qx w "java/lang/IllegalArgumentException" σ) : MX9_doCross G w σ [.ref (w.2.1 12 0), .int k, .int i, .int h] Q Qx := by
  refine mt_start (by decide) rfl (Nat.le_of_ble_eq_true rfl) (fun E hC hR hN => ?_)
  show J G E w 0 0 0 [some (.ref (w.2.1 12 0)), some (.int k), some (.int i), some (.int h)] [] σ
  have h4 := r_NK hI
  refine J_aload_n hC dX9_doCross_0 rfl rfl ?_
  refine J_iload_n hC dX9_doCross_1 rfl rfl ?_
  refine iX9_229 hC hK rfl ⟨by decide, by decide⟩ ⟨by decide, by decide⟩ (Nat.le_of_ble_eq_true rfl) dX9_doCross_2 ?_
  refine c_X9_requireKite hK hL0 hO hI (fun rk => ?_) (fun rk => JX_out hC hR hN (by decide) (by decide) (hx1 (by unfold aDC; rw [chk_f rk])))
  dsimp only [Option.toList_some, Option.toList_none, List.cons_append, List.nil_append]
  obtain ⟨k, rfl, hk⟩ := rk
  refine J_aload_n hC dX9_doCross_5 rfl rfl ?_
  refine J_iload_n hC dX9_doCross_6 rfl rfl ?_
  refine iX9_229 hC hK rfl ⟨by decide, by decide⟩ ⟨by decide, by decide⟩ (Nat.le_of_ble_eq_true rfl) dX9_doCross_7 ?_
  refine c_X9_requireKite hK hL0 hO hI (fun ri => ?_) (fun ri => JX_out hC hR hN (by decide) (by decide) (hx1 (by unfold aDC; rw [chk_t ⟨k, rfl, hk⟩, chk_f ri])))
  dsimp only [Option.toList_some, Option.toList_none, List.cons_append, List.nil_append]
  obtain ⟨i, rfl, hi⟩ := ri
  refine J_iload_n hC dX9_doCross_10 rfl rfl ?_
  refine J_iload_n hC dX9_doCross_11 rfl rfl ?_
  refine iX9_332 hC rfl ⟨by decide, by decide⟩ ⟨by decide, by decide⟩ (Nat.le_of_ble_eq_true rfl) dX9_doCross_12 ?_
  refine c_X9_requireDifferent  (fun rki => ?_) (fun rki => JX_out hC hR hN (by decide) (by decide) (hx2 (by unfold aDC; rw [chk_t ⟨k, rfl, hk⟩, chk_t ⟨i, rfl, hi⟩, chk_f rki])))
  dsimp only [Option.toList_some, Option.toList_none, List.cons_append, List.nil_append]
  refine J_iload_n hC dX9_doCross_15 rfl rfl ?_
  refine iX9_281 hC rfl ⟨by decide, by decide⟩ ⟨by decide, by decide⟩ (Nat.le_of_ble_eq_true rfl) dX9_doCross_16 ?_
  refine c_X9_requireHour  (fun rh => ?_) (fun rh => JX_out hC hR hN (by decide) (by decide) (hx2 (by unfold aDC; rw [chk_t ⟨k, rfl, hk⟩, chk_t ⟨i, rfl, hi⟩, chk_t rki, chk_f rh])))
  dsimp only [Option.toList_some, Option.toList_none, List.cons_append, List.nil_append]
  obtain ⟨h, rfl, hh⟩ := rh
  refine J_aload_n hC dX9_doCross_19 rfl rfl ?_
  refine gX9_13 hC hK dX9_doCross_20 ?_
  refine J_iload_n hC dX9_doCross_23 rfl rfl ?_
  refine J_iload_n hC dX9_doCross_24 rfl rfl ?_
  refine J_iload_n hC dX9_doCross_25 rfl rfl ?_
  refine iX9_335 hC hL0 rfl ⟨by decide, by decide⟩ ⟨by decide, by decide⟩ (Nat.le_of_ble_eq_true rfl) dX9_doCross_26 ?_
  refine c_X4_stringsCross hL0 hO hI hk hi (by omega) (fun b1 => ?_) (fun b1 => ?_)
  · dsimp only [Option.toList_some, Option.toList_none, List.cons_append, List.nil_append]
    refine J_zreturn hC hR dX9_doCross_29 (by decide) (by decide) (by decide) ?_
    have e : aDC A (nI k) (nI i) (nI h) = (0, nI (ct (crossN A k i h))) := by
      unfold aDC
      rw [chk_t ⟨k, rfl, hk⟩, chk_t ⟨i, rfl, hi⟩, chk_t rki, chk_t ⟨h, rfl, hh⟩, cl_n (by omega), cl_n (by omega), cl_n (by omega)]
    rw [e] at hq
    have hq9 := hq rfl
    dsimp only at hq9
    rw [ct_t b1] at hq9
    exact hq9
  · dsimp only [Option.toList_some, Option.toList_none, List.cons_append, List.nil_append]
    refine J_zreturn hC hR dX9_doCross_29 (by decide) (by decide) (by decide) ?_
    have e : aDC A (nI k) (nI i) (nI h) = (0, nI (ct (crossN A k i h))) := by
      unfold aDC
      rw [chk_t ⟨k, rfl, hk⟩, chk_t ⟨i, rfl, hi⟩, chk_t rki, chk_t ⟨h, rfl, hh⟩, cl_n (by omega), cl_n (by omega), cl_n (by omega)]
    rw [e] at hq
    have hq9 := hq rfl
    dsimp only at hq9
    rw [ct_f b1] at hq9
    exact hq9
set_option maxHeartbeats 4000000 in
set_option maxRecDepth 100000 in
theorem c_X9_permitKite {G : GC} {w : Lay} {σ : Mem} {Q : Lay → Option Value → Mem → Prop} {Qx : Lay → String → Mem → Prop} (hK : LK w) (hL0 : LO w 0) {A : Rw} {hm : Nat} (hO : OAt σ 0 A) (hI : RowOK hm A) {p : Int32} (hq : (aPf 0 A p).1 = 0 → Q w (some (.int (aPf 0 A p).2)) σ) (hx1 : (aPf 0 A p).1 = 1 → Qx w "java/lang/IndexOutOfBoundsException" σ) : MX9_permitKite G w σ [.ref (w.2.1 12 0), .int p] Q Qx := by
  refine mt_start (by decide) rfl (Nat.le_of_ble_eq_true rfl) (fun E hC hR hN => ?_)
  show J G E w 0 0 0 [some (.ref (w.2.1 12 0)), some (.int p)] [] σ
  have h4 := r_NP hI
  refine J_aload_n hC dX9_permitKite_0 rfl rfl ?_
  refine J_iload_n hC dX9_permitKite_1 rfl rfl ?_
  refine iX9_339 hC hK rfl ⟨by decide, by decide⟩ ⟨by decide, by decide⟩ (Nat.le_of_ble_eq_true rfl) dX9_permitKite_2 ?_
  refine c_X9_requirePermit hK hL0 hO hI (fun rk => ?_) (fun rk => JX_out hC hR hN (by decide) (by decide) (hx1 (by unfold aPf; rw [chk_f rk])))
  dsimp only [Option.toList_some, Option.toList_none, List.cons_append, List.nil_append]
  obtain ⟨p, rfl, hp⟩ := rk
  refine J_aload_n hC dX9_permitKite_5 rfl rfl ?_
  refine gX9_13 hC hK dX9_permitKite_6 ?_
  refine gX9_206 hC hL0 dX9_permitKite_9 ?_
  refine gX9_342 hC hL0 dX9_permitKite_12 ?_
  refine J_iload_n hC dX9_permitKite_15 rfl rfl ?_
  refine J_iaload hC (hL0.2.1 18 (by decide)) (kd_o hL0.1) rfl (by omega) (by decide) dX9_permitKite_16 ?_
  refine J_top ((hO.2.2.2.2.2.2.2 p hp).1) ?_
  refine J_ireturn hC hR dX9_permitKite_17 (by decide) (by decide) ?_
  have e : aPf 0 A (nI p) = (0, A (214 + 3 * p + 0)) := by
    unfold aPf
    rw [chk_t ⟨p, rfl, hp⟩, cl_n (by omega)]
  rw [e] at hq
  exact hq rfl
set_option maxHeartbeats 4000000 in
set_option maxRecDepth 100000 in
theorem c_X9_permitStart {G : GC} {w : Lay} {σ : Mem} {Q : Lay → Option Value → Mem → Prop} {Qx : Lay → String → Mem → Prop} (hK : LK w) (hL0 : LO w 0) {A : Rw} {hm : Nat} (hO : OAt σ 0 A) (hI : RowOK hm A) {p : Int32} (hq : (aPf 1 A p).1 = 0 → Q w (some (.int (aPf 1 A p).2)) σ) (hx1 : (aPf 1 A p).1 = 1 → Qx w "java/lang/IndexOutOfBoundsException" σ) : MX9_permitStart G w σ [.ref (w.2.1 12 0), .int p] Q Qx := by
  refine mt_start (by decide) rfl (Nat.le_of_ble_eq_true rfl) (fun E hC hR hN => ?_)
  show J G E w 0 0 0 [some (.ref (w.2.1 12 0)), some (.int p)] [] σ
  have h4 := r_NP hI
  refine J_aload_n hC dX9_permitStart_0 rfl rfl ?_
  refine J_iload_n hC dX9_permitStart_1 rfl rfl ?_
  refine iX9_339 hC hK rfl ⟨by decide, by decide⟩ ⟨by decide, by decide⟩ (Nat.le_of_ble_eq_true rfl) dX9_permitStart_2 ?_
  refine c_X9_requirePermit hK hL0 hO hI (fun rk => ?_) (fun rk => JX_out hC hR hN (by decide) (by decide) (hx1 (by unfold aPf; rw [chk_f rk])))
  dsimp only [Option.toList_some, Option.toList_none, List.cons_append, List.nil_append]
  obtain ⟨p, rfl, hp⟩ := rk
  refine J_aload_n hC dX9_permitStart_5 rfl rfl ?_
  refine gX9_13 hC hK dX9_permitStart_6 ?_
  refine gX9_206 hC hL0 dX9_permitStart_9 ?_
  refine gX9_345 hC hL0 dX9_permitStart_12 ?_
  refine J_iload_n hC dX9_permitStart_15 rfl rfl ?_
  refine J_iaload hC (hL0.2.1 19 (by decide)) (kd_o hL0.1) rfl (by omega) (by decide) dX9_permitStart_16 ?_
  refine J_top ((hO.2.2.2.2.2.2.2 p hp).2.1) ?_
  refine J_ireturn hC hR dX9_permitStart_17 (by decide) (by decide) ?_
  have e : aPf 1 A (nI p) = (0, A (214 + 3 * p + 1)) := by
    unfold aPf
    rw [chk_t ⟨p, rfl, hp⟩, cl_n (by omega)]
  rw [e] at hq
  exact hq rfl
set_option maxHeartbeats 4000000 in
set_option maxRecDepth 100000 in
theorem c_X9_permitDuration {G : GC} {w : Lay} {σ : Mem} {Q : Lay → Option Value → Mem → Prop} {Qx : Lay → String → Mem → Prop} (hK : LK w) (hL0 : LO w 0) {A : Rw} {hm : Nat} (hO : OAt σ 0 A) (hI : RowOK hm A) {p : Int32} (hq : (aPf 2 A p).1 = 0 → Q w (some (.int (aPf 2 A p).2)) σ) (hx1 : (aPf 2 A p).1 = 1 → Qx w "java/lang/IndexOutOfBoundsException" σ) : MX9_permitDuration G w σ [.ref (w.2.1 12 0), .int p] Q Qx := by
  refine mt_start (by decide) rfl (Nat.le_of_ble_eq_true rfl) (fun E hC hR hN => ?_)
  show J G E w 0 0 0 [some (.ref (w.2.1 12 0)), some (.int p)] [] σ
  have h4 := r_NP hI
  refine J_aload_n hC dX9_permitDuration_0 rfl rfl ?_
  refine J_iload_n hC dX9_permitDuration_1 rfl rfl ?_
  refine iX9_339 hC hK rfl ⟨by decide, by decide⟩ ⟨by decide, by decide⟩ (Nat.le_of_ble_eq_true rfl) dX9_permitDuration_2 ?_
  refine c_X9_requirePermit hK hL0 hO hI (fun rk => ?_) (fun rk => JX_out hC hR hN (by decide) (by decide) (hx1 (by unfold aPf; rw [chk_f rk])))
  dsimp only [Option.toList_some, Option.toList_none, List.cons_append, List.nil_append]
  obtain ⟨p, rfl, hp⟩ := rk
  refine J_aload_n hC dX9_permitDuration_5 rfl rfl ?_
  refine gX9_13 hC hK dX9_permitDuration_6 ?_
  refine gX9_206 hC hL0 dX9_permitDuration_9 ?_
  refine gX9_348 hC hL0 dX9_permitDuration_12 ?_
  refine J_iload_n hC dX9_permitDuration_15 rfl rfl ?_
  refine J_iaload hC (hL0.2.1 20 (by decide)) (kd_o hL0.1) rfl (by omega) (by decide) dX9_permitDuration_16 ?_
  refine J_top ((hO.2.2.2.2.2.2.2 p hp).2.2) ?_
  refine J_ireturn hC hR dX9_permitDuration_17 (by decide) (by decide) ?_
  have e : aPf 2 A (nI p) = (0, A (214 + 3 * p + 2)) := by
    unfold aPf
    rw [chk_t ⟨p, rfl, hp⟩, cl_n (by omega)]
  rw [e] at hq
  exact hq rfl
set_option maxHeartbeats 4000000 in
set_option maxRecDepth 100000 in
theorem c_X9_hasPermit {G : GC} {w : Lay} {σ : Mem} {Q : Lay → Option Value → Mem → Prop} {Qx : Lay → String → Mem → Prop} (hK : LK w) (hL0 : LO w 0) {A : Rw} {hm : Nat} (hO : OAt σ 0 A) (hI : RowOK hm A) {k h : Int32} (hq : (aHP A k h).1 = 0 → Q w (some (.int (aHP A k h).2)) σ) (hx1 : (aHP A k h).1 = 1 → Qx w "java/lang/IndexOutOfBoundsException" σ) (hx2 : (aHP A k h).1 = 2 → Qx w "java/lang/IllegalArgumentException" σ) : MX9_hasPermit G w σ [.ref (w.2.1 12 0), .int k, .int h] Q Qx := by
  refine mt_start (by decide) rfl (Nat.le_of_ble_eq_true rfl) (fun E hC hR hN => ?_)
  show J G E w 0 0 0 [some (.ref (w.2.1 12 0)), some (.int k), some (.int h)] [] σ
  have h4 := r_NK hI
  refine J_aload_n hC dX9_hasPermit_0 rfl rfl ?_
  refine J_iload_n hC dX9_hasPermit_1 rfl rfl ?_
  refine iX9_229 hC hK rfl ⟨by decide, by decide⟩ ⟨by decide, by decide⟩ (Nat.le_of_ble_eq_true rfl) dX9_hasPermit_2 ?_
  refine c_X9_requireKite hK hL0 hO hI (fun rk => ?_) (fun rk => JX_out hC hR hN (by decide) (by decide) (hx1 (by unfold aHP; rw [chk_f rk])))
  dsimp only [Option.toList_some, Option.toList_none, List.cons_append, List.nil_append]
  obtain ⟨k, rfl, hk⟩ := rk
  refine J_iload_n hC dX9_hasPermit_5 rfl rfl ?_
  refine iX9_281 hC rfl ⟨by decide, by decide⟩ ⟨by decide, by decide⟩ (Nat.le_of_ble_eq_true rfl) dX9_hasPermit_6 ?_
  refine c_X9_requireHour  (fun rh => ?_) (fun rh => JX_out hC hR hN (by decide) (by decide) (hx2 (by unfold aHP; rw [chk_t ⟨k, rfl, hk⟩, chk_f rh])))
  dsimp only [Option.toList_some, Option.toList_none, List.cons_append, List.nil_append]
  obtain ⟨h, rfl, hh⟩ := rh
  refine J_aload_n hC dX9_hasPermit_9 rfl rfl ?_
  refine gX9_13 hC hK dX9_hasPermit_10 ?_
  refine gX9_206 hC hL0 dX9_hasPermit_13 ?_
  refine J_iload_n hC dX9_hasPermit_16 rfl rfl ?_
  refine J_iload_n hC dX9_hasPermit_17 rfl rfl ?_
  refine J_iload_n hC dX9_hasPermit_18 rfl rfl ?_
  refine J_iconst (v := nI 1) hC dX9_hasPermit_19 (by decide) ?_
  refine J_iadd_n hC dX9_hasPermit_20 ?_
  refine iX9_351 hC hL0 rfl ⟨by decide, by decide⟩ ⟨by decide, by decide⟩ (Nat.le_of_ble_eq_true rfl) dX9_hasPermit_21 ?_
  refine c_X6_coverAny hL0 hO hI (by omega) (by omega) (by omega) (fun b1 => ?_) (fun b1 => ?_)
  · dsimp only [Option.toList_some, Option.toList_none, List.cons_append, List.nil_append]
    have f1 : permN A k h := by
      obtain ⟨p, p1, p2, p3, p4⟩ := b1
      exact ⟨p, p1, p2, by unfold covN; omega⟩
    refine J_zreturn hC hR dX9_hasPermit_24 (by decide) (by decide) (by decide) ?_
    have e : aHP A (nI k) (nI h) = (0, nI (ct (permN A k h))) := by
      unfold aHP
      rw [chk_t ⟨k, rfl, hk⟩, chk_t ⟨h, rfl, hh⟩, cl_n (by omega), cl_n (by omega)]
    rw [e] at hq
    have hq9 := hq rfl
    dsimp only at hq9
    rw [ct_t f1] at hq9
    exact hq9
  · dsimp only [Option.toList_some, Option.toList_none, List.cons_append, List.nil_append]
    have f1 : ¬ permN A k h := fun ⟨p, p1, p2, p3⟩ => b1 ⟨p, p1, p2, by unfold covN at p3; omega, by unfold covN at p3; omega⟩
    refine J_zreturn hC hR dX9_hasPermit_24 (by decide) (by decide) (by decide) ?_
    have e : aHP A (nI k) (nI h) = (0, nI (ct (permN A k h))) := by
      unfold aHP
      rw [chk_t ⟨k, rfl, hk⟩, chk_t ⟨h, rfl, hh⟩, cl_n (by omega), cl_n (by omega)]
    rw [e] at hq
    have hq9 := hq rfl
    dsimp only at hq9
    rw [ct_f f1] at hq9
    exact hq9
set_option maxHeartbeats 4000000 in
set_option maxRecDepth 100000 in
theorem c_X9_whyNotPermit {G : GC} {w : Lay} {σ : Mem} {Q : Lay → Option Value → Mem → Prop} {Qx : Lay → String → Mem → Prop} (hK : LK w) (hL0 : LO w 0) {A : Rw} {hm : Nat} (hO : OAt σ 0 A) (hI : RowOK hm A) (hh : nv A 7 < 2 ^ 31) {k s d : Int32} (hq : (aWN A k s d).1 = 0 → Q w (some (.int (aWN A k s d).2)) σ) (hx1 : (aWN A k s d).1 = 1 → Qx w "java/lang/IndexOutOfBoundsException" σ) (hx2 : (aWN A k s d).1 = 2 → Qx w "java/lang/IllegalArgumentException" σ) : MX9_whyNotPermit G w σ [.ref (w.2.1 12 0), .int k, .int s, .int d] Q Qx := by
  refine mt_start (by decide) rfl (Nat.le_of_ble_eq_true rfl) (fun E hC hR hN => ?_)
  show J G E w 0 0 0 [some (.ref (w.2.1 12 0)), some (.int k), some (.int s), some (.int d)] [] σ
  have h4 := r_NK hI
  refine J_aload_n hC dX9_whyNotPermit_0 rfl rfl ?_
  refine J_iload_n hC dX9_whyNotPermit_1 rfl rfl ?_
  refine J_iload_n hC dX9_whyNotPermit_2 rfl rfl ?_
  refine J_iload_n hC dX9_whyNotPermit_3 rfl rfl ?_
  refine iX9_247 hC hK rfl ⟨by decide, by decide⟩ ⟨by decide, by decide⟩ (Nat.le_of_ble_eq_true rfl) dX9_whyNotPermit_4 ?_
  refine c_X9_requirePermitArguments hK hL0 hO hI (fun rk rs rd => ?_) (fun rk => JX_out hC hR hN (by decide) (by decide) (hx1 (by unfold aWN; rw [chk_f rk]))) (fun q1 q2 => JX_out hC hR hN (by decide) (by decide) (hx2 (by unfold aWN; rw [chk_t q1, chk_f q2]))) (fun q1 q2 q3 => JX_out hC hR hN (by decide) (by decide) (hx2 (by unfold aWN; rw [chk_t q1, chk_t q2, chk_f q3])))
  dsimp only [Option.toList_some, Option.toList_none, List.cons_append, List.nil_append]
  obtain ⟨k, rfl, hk⟩ := rk
  obtain ⟨s, rfl, hs⟩ := rs
  obtain ⟨d, rfl, hd⟩ := rd
  refine J_aload_n hC dX9_whyNotPermit_7 rfl rfl ?_
  refine gX9_13 hC hK dX9_whyNotPermit_8 ?_
  refine J_iload_n hC dX9_whyNotPermit_11 rfl rfl ?_
  refine J_iload_n hC dX9_whyNotPermit_12 rfl rfl ?_
  refine J_iload_n hC dX9_whyNotPermit_13 rfl rfl ?_
  refine iX9_186 hC hL0 rfl ⟨by decide, by decide⟩ ⟨by decide, by decide⟩ (Nat.le_of_ble_eq_true rfl) dX9_whyNotPermit_14 ?_
  refine c_X4_refusalReason hL0 hO hI hk (by omega) hd hh ?_
  dsimp only [Option.toList_some, Option.toList_none, List.cons_append, List.nil_append]
  refine J_ireturn hC hR dX9_whyNotPermit_17 (by decide) (by decide) ?_
  have e : aWN A (nI k) (nI s) (nI d) = (0, nI (refuse A k s d)) := by
    unfold aWN
    rw [chk_t ⟨k, rfl, hk⟩, chk_t ⟨s, rfl, hs⟩, chk_t ⟨d, rfl, hd⟩, cl_n (by omega), cl_n (by omega), cl_n (by omega)]
  rw [e] at hq
  exact hq rfl
set_option maxHeartbeats 4000000 in
set_option maxRecDepth 100000 in
theorem c_X9_kiteInTheWay {G : GC} {w : Lay} {σ : Mem} {Q : Lay → Option Value → Mem → Prop} {Qx : Lay → String → Mem → Prop} (hK : LK w) (hL0 : LO w 0) {A : Rw} {hm : Nat} (hO : OAt σ 0 A) (hI : RowOK hm A) {k s d : Int32} (hq : (aKW A k s d).1 = 0 → Q w (some (.int (aKW A k s d).2)) σ) (hx1 : (aKW A k s d).1 = 1 → Qx w "java/lang/IndexOutOfBoundsException" σ) (hx2 : (aKW A k s d).1 = 2 → Qx w "java/lang/IllegalArgumentException" σ) : MX9_kiteInTheWay G w σ [.ref (w.2.1 12 0), .int k, .int s, .int d] Q Qx := by
  refine mt_start (by decide) rfl (Nat.le_of_ble_eq_true rfl) (fun E hC hR hN => ?_)
  show J G E w 0 0 0 [some (.ref (w.2.1 12 0)), some (.int k), some (.int s), some (.int d)] [] σ
  have h4 := r_NK hI
  refine J_aload_n hC dX9_kiteInTheWay_0 rfl rfl ?_
  refine J_iload_n hC dX9_kiteInTheWay_1 rfl rfl ?_
  refine J_iload_n hC dX9_kiteInTheWay_2 rfl rfl ?_
  refine J_iload_n hC dX9_kiteInTheWay_3 rfl rfl ?_
  refine iX9_247 hC hK rfl ⟨by decide, by decide⟩ ⟨by decide, by decide⟩ (Nat.le_of_ble_eq_true rfl) dX9_kiteInTheWay_4 ?_
  refine c_X9_requirePermitArguments hK hL0 hO hI (fun rk rs rd => ?_) (fun rk => JX_out hC hR hN (by decide) (by decide) (hx1 (by unfold aKW; rw [chk_f rk]))) (fun q1 q2 => JX_out hC hR hN (by decide) (by decide) (hx2 (by unfold aKW; rw [chk_t q1, chk_f q2]))) (fun q1 q2 q3 => JX_out hC hR hN (by decide) (by decide) (hx2 (by unfold aKW; rw [chk_t q1, chk_t q2, chk_f q3])))
  dsimp only [Option.toList_some, Option.toList_none, List.cons_append, List.nil_append]
  obtain ⟨k, rfl, hk⟩ := rk
  obtain ⟨s, rfl, hs⟩ := rs
  obtain ⟨d, rfl, hd⟩ := rd
  refine J_aload_n hC dX9_kiteInTheWay_7 rfl rfl ?_
  refine gX9_13 hC hK dX9_kiteInTheWay_8 ?_
  refine J_iload_n hC dX9_kiteInTheWay_11 rfl rfl ?_
  refine J_iload_n hC dX9_kiteInTheWay_12 rfl rfl ?_
  refine J_iload_n hC dX9_kiteInTheWay_13 rfl rfl ?_
  refine J_iload_n hC dX9_kiteInTheWay_14 rfl rfl ?_
  refine J_iadd_n hC dX9_kiteInTheWay_15 ?_
  refine iX9_354 hC hL0 rfl ⟨by decide, by decide⟩ ⟨by decide, by decide⟩ (Nat.le_of_ble_eq_true rfl) dX9_kiteInTheWay_16 ?_
  refine c_X4_firstCrossedKite hL0 hO hI hk (by omega) (by omega) ?_
  dsimp only [Option.toList_some, Option.toList_none, List.cons_append, List.nil_append]
  rw [fc_inWay hI]
  refine J_ireturn hC hR dX9_kiteInTheWay_19 (by decide) (by decide) ?_
  have e : aKW A (nI k) (nI s) (nI d) = (0, iI (inWay A k s d)) := by
    unfold aKW
    rw [chk_t ⟨k, rfl, hk⟩, chk_t ⟨s, rfl, hs⟩, chk_t ⟨d, rfl, hd⟩, cl_n (by omega), cl_n (by omega), cl_n (by omega)]
  rw [e] at hq
  exact hq rfl
