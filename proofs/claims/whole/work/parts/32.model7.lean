set_option maxHeartbeats 4000000 in
set_option maxRecDepth 100000 in
theorem c_X10_windDirection {G : GC} {w : Lay} {σ : Mem} {Q : Lay → Option Value → Mem → Prop} {Qx : Lay → String → Mem → Prop} {hm : Nat} (hM : LM w) (hI : RowOK hm (rd σ 13 1))  {z h : Int32} (hq : Q w (some (.int (aWD (rd σ 13 1) z h).2)) (thr σ (aWD (rd σ 13 1) z h).1)) : MX10_windDirection G w σ [.ref (w.2.1 13 0), .int z, .int h] Q Qx := by
  refine mt_start (by decide) rfl (Nat.le_of_ble_eq_true rfl) (fun E hC hR hN => ?_)
  show J G E w 0 0 0 [some (.ref (w.2.1 13 0)), some (.int z), some (.int h)] [] σ
  refine J_aload_n hC dX10_windDirection_0 rfl rfl ?_
  refine J_iconst (v := nI 0) hC dX10_windDirection_1 (by decide) ?_
  refine pX10_62 hC hM dX10_windDirection_2 ?_
  obtain ⟨τ, hτ, hA⟩ : ∃ τ, thr σ 0 = τ ∧ rd σ 13 1 = rd τ 13 1 := ⟨_, rfl, rd_thr1.symm⟩
  have h9 : ∀ c, thr τ c = thr σ c := fun c => by rw [← hτ]; exact thr_thr
  rw [hA] at hI hq
  show J G E w 0 0 5 _ _ (thr σ 0)
  rw [hτ]
  refine J_aload_n hC dX10_windDirection_5 rfl rfl ?_
  refine J_iload_n hC dX10_windDirection_6 rfl rfl ?_
  refine iX10_338 hC hM rfl ⟨by decide, by decide⟩ ⟨by decide, by decide⟩ (Nat.le_of_ble_eq_true rfl) dX10_windDirection_7 ?_
  refine k_isZ hM hI (fun hz => ?_) (fun hz => ?_)
  · dsimp only [Option.toList_some, Option.toList_none, List.cons_append, List.nil_append]
    have gz := hz
    obtain ⟨kz, rfl, bz⟩ := gz
    have ez := r_NZ hI
    refine J_if_ne_n hC (by decide) (tgt := 19) dX10_windDirection_10 rfl (fun _ => ?_) (fun hf => absurd hf (by omega))
    refine J_iload_n hC dX10_windDirection_19 rfl rfl ?_
    refine iX10_335 hC rfl ⟨by decide, by decide⟩ ⟨by decide, by decide⟩ (Nat.le_of_ble_eq_true rfl) dX10_windDirection_20 ?_
    refine k_isHour  (fun hh => ?_) (fun hh => ?_)
    · dsimp only [Option.toList_some, Option.toList_none, List.cons_append, List.nil_append]
      have gh := hh
      obtain ⟨kh, rfl, ah, bh⟩ := gh
      have ch : kh < 2 ^ 31 := by omega
      refine J_if_eq_n hC (by decide) (tgt := 35) dX10_windDirection_23 rfl (fun hf => absurd hf (by omega)) (fun _ => ?_)
      refine J_aload_n hC dX10_windDirection_26 rfl rfl ?_
      refine J_iload_n hC dX10_windDirection_27 rfl rfl ?_
      refine J_iload_n hC dX10_windDirection_28 rfl rfl ?_
      refine iX10_97 hC hM rfl ⟨by decide, by decide⟩ ⟨by decide, by decide⟩ (Nat.le_of_ble_eq_true rfl) dX10_windDirection_29 ?_
      refine c_X10_direction hM hI bz ch ?_
      dsimp only [Option.toList_some, Option.toList_none, List.cons_append, List.nil_append]
      refine J_goto (tgt := 40) hC dX10_windDirection_32 rfl ?_
      refine J_ireturn hC hR dX10_windDirection_40 (by decide) (by decide) ?_
      unfold aWD at hq
      rw [cl_n (k := kz) (by omega), cl_n (k := kh) (by omega)] at hq
      rw [chk_t hz, chk_t hh] at hq
      dsimp only at hq
      rw [hτ] at hq
      exact hq
    · dsimp only [Option.toList_some, Option.toList_none, List.cons_append, List.nil_append]
      refine J_if_eq_n hC (by decide) (tgt := 35) dX10_windDirection_23 rfl (fun _ => ?_) (fun hf => absurd hf (by omega))
      refine J_aload_n hC dX10_windDirection_35 rfl rfl ?_
      refine J_iconst (v := nI 2) hC dX10_windDirection_36 (by decide) ?_
      refine iX10_308 hC hM rfl ⟨by decide, by decide⟩ ⟨by decide, by decide⟩ (Nat.le_of_ble_eq_true rfl) dX10_windDirection_37 ?_
      refine c_X10_fail hM ?_
      dsimp only [Option.toList_some, Option.toList_none, List.cons_append, List.nil_append]
      refine J_ireturn hC hR dX10_windDirection_40 (by decide) (by decide) ?_
      unfold aWD at hq
      rw [cl_n (k := kz) (by omega)] at hq
      rw [chk_t hz, chk_f hh] at hq
      dsimp only at hq
      rw [← h9] at hq
      exact hq
  · dsimp only [Option.toList_some, Option.toList_none, List.cons_append, List.nil_append]
    refine J_if_ne_n hC (by decide) (tgt := 19) dX10_windDirection_10 rfl (fun hf => absurd hf (by omega)) (fun _ => ?_)
    refine J_aload_n hC dX10_windDirection_13 rfl rfl ?_
    refine J_iconst (v := nI 1) hC dX10_windDirection_14 (by decide) ?_
    refine iX10_308 hC hM rfl ⟨by decide, by decide⟩ ⟨by decide, by decide⟩ (Nat.le_of_ble_eq_true rfl) dX10_windDirection_15 ?_
    refine c_X10_fail hM ?_
    dsimp only [Option.toList_some, Option.toList_none, List.cons_append, List.nil_append]
    refine J_ireturn hC hR dX10_windDirection_18 (by decide) (by decide) ?_
    unfold aWD at hq
    rw [chk_f hz] at hq
    dsimp only at hq
    rw [← h9] at hq
    exact hq
set_option maxHeartbeats 4000000 in
set_option maxRecDepth 100000 in
theorem c_X10_windForce {G : GC} {w : Lay} {σ : Mem} {Q : Lay → Option Value → Mem → Prop} {Qx : Lay → String → Mem → Prop} {hm : Nat} (hM : LM w) (hI : RowOK hm (rd σ 13 1))  {z h : Int32} (hq : Q w (some (.int (aWF (rd σ 13 1) z h).2)) (thr σ (aWF (rd σ 13 1) z h).1)) : MX10_windForce G w σ [.ref (w.2.1 13 0), .int z, .int h] Q Qx := by
  refine mt_start (by decide) rfl (Nat.le_of_ble_eq_true rfl) (fun E hC hR hN => ?_)
  show J G E w 0 0 0 [some (.ref (w.2.1 13 0)), some (.int z), some (.int h)] [] σ
  refine J_aload_n hC dX10_windForce_0 rfl rfl ?_
  refine J_iconst (v := nI 0) hC dX10_windForce_1 (by decide) ?_
  refine pX10_62 hC hM dX10_windForce_2 ?_
  obtain ⟨τ, hτ, hA⟩ : ∃ τ, thr σ 0 = τ ∧ rd σ 13 1 = rd τ 13 1 := ⟨_, rfl, rd_thr1.symm⟩
  have h9 : ∀ c, thr τ c = thr σ c := fun c => by rw [← hτ]; exact thr_thr
  rw [hA] at hI hq
  show J G E w 0 0 5 _ _ (thr σ 0)
  rw [hτ]
  refine J_aload_n hC dX10_windForce_5 rfl rfl ?_
  refine J_iload_n hC dX10_windForce_6 rfl rfl ?_
  refine iX10_338 hC hM rfl ⟨by decide, by decide⟩ ⟨by decide, by decide⟩ (Nat.le_of_ble_eq_true rfl) dX10_windForce_7 ?_
  refine k_isZ hM hI (fun hz => ?_) (fun hz => ?_)
  · dsimp only [Option.toList_some, Option.toList_none, List.cons_append, List.nil_append]
    have gz := hz
    obtain ⟨kz, rfl, bz⟩ := gz
    have ez := r_NZ hI
    refine J_if_ne_n hC (by decide) (tgt := 19) dX10_windForce_10 rfl (fun _ => ?_) (fun hf => absurd hf (by omega))
    refine J_iload_n hC dX10_windForce_19 rfl rfl ?_
    refine iX10_335 hC rfl ⟨by decide, by decide⟩ ⟨by decide, by decide⟩ (Nat.le_of_ble_eq_true rfl) dX10_windForce_20 ?_
    refine k_isHour  (fun hh => ?_) (fun hh => ?_)
    · dsimp only [Option.toList_some, Option.toList_none, List.cons_append, List.nil_append]
      have gh := hh
      obtain ⟨kh, rfl, ah, bh⟩ := gh
      have ch : kh < 2 ^ 31 := by omega
      refine J_if_eq_n hC (by decide) (tgt := 35) dX10_windForce_23 rfl (fun hf => absurd hf (by omega)) (fun _ => ?_)
      refine J_aload_n hC dX10_windForce_26 rfl rfl ?_
      refine J_iload_n hC dX10_windForce_27 rfl rfl ?_
      refine J_iload_n hC dX10_windForce_28 rfl rfl ?_
      refine iX10_87 hC hM rfl ⟨by decide, by decide⟩ ⟨by decide, by decide⟩ (Nat.le_of_ble_eq_true rfl) dX10_windForce_29 ?_
      refine c_X10_force hM hI bz ch ?_
      dsimp only [Option.toList_some, Option.toList_none, List.cons_append, List.nil_append]
      refine J_goto (tgt := 40) hC dX10_windForce_32 rfl ?_
      refine J_ireturn hC hR dX10_windForce_40 (by decide) (by decide) ?_
      unfold aWF at hq
      rw [cl_n (k := kz) (by omega), cl_n (k := kh) (by omega)] at hq
      rw [chk_t hz, chk_t hh] at hq
      dsimp only at hq
      rw [hτ] at hq
      exact hq
    · dsimp only [Option.toList_some, Option.toList_none, List.cons_append, List.nil_append]
      refine J_if_eq_n hC (by decide) (tgt := 35) dX10_windForce_23 rfl (fun _ => ?_) (fun hf => absurd hf (by omega))
      refine J_aload_n hC dX10_windForce_35 rfl rfl ?_
      refine J_iconst (v := nI 2) hC dX10_windForce_36 (by decide) ?_
      refine iX10_308 hC hM rfl ⟨by decide, by decide⟩ ⟨by decide, by decide⟩ (Nat.le_of_ble_eq_true rfl) dX10_windForce_37 ?_
      refine c_X10_fail hM ?_
      dsimp only [Option.toList_some, Option.toList_none, List.cons_append, List.nil_append]
      refine J_ireturn hC hR dX10_windForce_40 (by decide) (by decide) ?_
      unfold aWF at hq
      rw [cl_n (k := kz) (by omega)] at hq
      rw [chk_t hz, chk_f hh] at hq
      dsimp only at hq
      rw [← h9] at hq
      exact hq
  · dsimp only [Option.toList_some, Option.toList_none, List.cons_append, List.nil_append]
    refine J_if_ne_n hC (by decide) (tgt := 19) dX10_windForce_10 rfl (fun hf => absurd hf (by omega)) (fun _ => ?_)
    refine J_aload_n hC dX10_windForce_13 rfl rfl ?_
    refine J_iconst (v := nI 1) hC dX10_windForce_14 (by decide) ?_
    refine iX10_308 hC hM rfl ⟨by decide, by decide⟩ ⟨by decide, by decide⟩ (Nat.le_of_ble_eq_true rfl) dX10_windForce_15 ?_
    refine c_X10_fail hM ?_
    dsimp only [Option.toList_some, Option.toList_none, List.cons_append, List.nil_append]
    refine J_ireturn hC hR dX10_windForce_18 (by decide) (by decide) ?_
    unfold aWF at hq
    rw [chk_f hz] at hq
    dsimp only at hq
    rw [← h9] at hq
    exact hq
set_option maxHeartbeats 4000000 in
set_option maxRecDepth 100000 in
theorem c_X10_quota {G : GC} {w : Lay} {σ : Mem} {Q : Lay → Option Value → Mem → Prop} {Qx : Lay → String → Mem → Prop} {hm : Nat} (hM : LM w) (hI : RowOK hm (rd σ 13 1))  {c : Int32} (hq : Q w (some (.int (aQ (rd σ 13 1) c).2)) (thr σ (aQ (rd σ 13 1) c).1)) : MX10_quota G w σ [.ref (w.2.1 13 0), .int c] Q Qx := by
  refine mt_start (by decide) rfl (Nat.le_of_ble_eq_true rfl) (fun E hC hR hN => ?_)
  show J G E w 0 0 0 [some (.ref (w.2.1 13 0)), some (.int c)] [] σ
  refine J_aload_n hC dX10_quota_0 rfl rfl ?_
  refine J_iconst (v := nI 0) hC dX10_quota_1 (by decide) ?_
  refine pX10_62 hC hM dX10_quota_2 ?_
  obtain ⟨τ, hτ, hA⟩ : ∃ τ, thr σ 0 = τ ∧ rd σ 13 1 = rd τ 13 1 := ⟨_, rfl, rd_thr1.symm⟩
  have h9 : ∀ c, thr τ c = thr σ c := fun c => by rw [← hτ]; exact thr_thr
  rw [hA] at hI hq
  show J G E w 0 0 5 _ _ (thr σ 0)
  rw [hτ]
  refine J_aload_n hC dX10_quota_5 rfl rfl ?_
  refine J_iload_n hC dX10_quota_6 rfl rfl ?_
  refine iX10_332 hC hM rfl ⟨by decide, by decide⟩ ⟨by decide, by decide⟩ (Nat.le_of_ble_eq_true rfl) dX10_quota_7 ?_
  refine k_isC hM hI (fun hc => ?_) (fun hc => ?_)
  · dsimp only [Option.toList_some, Option.toList_none, List.cons_append, List.nil_append]
    have gc := hc
    obtain ⟨kc, rfl, bc⟩ := gc
    have ec := r_NC hI
    refine J_if_eq_n hC (by decide) (tgt := 25) dX10_quota_10 rfl (fun hf => absurd hf (by omega)) (fun _ => ?_)
    refine J_aload_n hC dX10_quota_13 rfl rfl ?_
    refine gX10_7 hC hM dX10_quota_14 ?_
    refine J_bipush (v := nI 64) hC dX10_quota_17 (by decide) ?_
    refine J_iload_n hC dX10_quota_19 rfl rfl ?_
    refine J_iadd_n hC dX10_quota_20 ?_
    refine J_iaload hC (hM.1 1 (by decide)) rfl rfl (by omega) (by decide) dX10_quota_21 ?_
    refine J_goto (tgt := 30) hC dX10_quota_22 rfl ?_
    refine J_ireturn hC hR dX10_quota_30 (by decide) (by decide) ?_
    unfold aQ at hq
    rw [cl_n (k := kc) (by omega)] at hq
    rw [chk_t hc] at hq
    dsimp only at hq
    rw [hτ] at hq
    exact hq
  · dsimp only [Option.toList_some, Option.toList_none, List.cons_append, List.nil_append]
    refine J_if_eq_n hC (by decide) (tgt := 25) dX10_quota_10 rfl (fun _ => ?_) (fun hf => absurd hf (by omega))
    refine J_aload_n hC dX10_quota_25 rfl rfl ?_
    refine J_iconst (v := nI 1) hC dX10_quota_26 (by decide) ?_
    refine iX10_308 hC hM rfl ⟨by decide, by decide⟩ ⟨by decide, by decide⟩ (Nat.le_of_ble_eq_true rfl) dX10_quota_27 ?_
    refine c_X10_fail hM ?_
    dsimp only [Option.toList_some, Option.toList_none, List.cons_append, List.nil_append]
    refine J_ireturn hC hR dX10_quota_30 (by decide) (by decide) ?_
    unfold aQ at hq
    rw [chk_f hc] at hq
    dsimp only at hq
    rw [← h9] at hq
    exact hq
set_option maxHeartbeats 4000000 in
set_option maxRecDepth 100000 in
theorem c_X10_quotaUsed {G : GC} {w : Lay} {σ : Mem} {Q : Lay → Option Value → Mem → Prop} {Qx : Lay → String → Mem → Prop} {hm : Nat} (hM : LM w) (hI : RowOK hm (rd σ 13 1))  {c h : Int32} (hq : Q w (some (.int (aQU (rd σ 13 1) c h).2)) (thr σ (aQU (rd σ 13 1) c h).1)) : MX10_quotaUsed G w σ [.ref (w.2.1 13 0), .int c, .int h] Q Qx := by
  refine mt_start (by decide) rfl (Nat.le_of_ble_eq_true rfl) (fun E hC hR hN => ?_)
  show J G E w 0 0 0 [some (.ref (w.2.1 13 0)), some (.int c), some (.int h)] [] σ
  refine J_aload_n hC dX10_quotaUsed_0 rfl rfl ?_
  refine J_iconst (v := nI 0) hC dX10_quotaUsed_1 (by decide) ?_
  refine pX10_62 hC hM dX10_quotaUsed_2 ?_
  obtain ⟨τ, hτ, hA⟩ : ∃ τ, thr σ 0 = τ ∧ rd σ 13 1 = rd τ 13 1 := ⟨_, rfl, rd_thr1.symm⟩
  have h9 : ∀ c, thr τ c = thr σ c := fun c => by rw [← hτ]; exact thr_thr
  rw [hA] at hI hq
  show J G E w 0 0 5 _ _ (thr σ 0)
  rw [hτ]
  refine J_aload_n hC dX10_quotaUsed_5 rfl rfl ?_
  refine J_iload_n hC dX10_quotaUsed_6 rfl rfl ?_
  refine iX10_332 hC hM rfl ⟨by decide, by decide⟩ ⟨by decide, by decide⟩ (Nat.le_of_ble_eq_true rfl) dX10_quotaUsed_7 ?_
  refine k_isC hM hI (fun hc => ?_) (fun hc => ?_)
  · dsimp only [Option.toList_some, Option.toList_none, List.cons_append, List.nil_append]
    have gc := hc
    obtain ⟨kc, rfl, bc⟩ := gc
    have ec := r_NC hI
    refine J_if_ne_n hC (by decide) (tgt := 19) dX10_quotaUsed_10 rfl (fun _ => ?_) (fun hf => absurd hf (by omega))
    refine J_iload_n hC dX10_quotaUsed_19 rfl rfl ?_
    refine iX10_335 hC rfl ⟨by decide, by decide⟩ ⟨by decide, by decide⟩ (Nat.le_of_ble_eq_true rfl) dX10_quotaUsed_20 ?_
    refine k_isHour  (fun hh => ?_) (fun hh => ?_)
    · dsimp only [Option.toList_some, Option.toList_none, List.cons_append, List.nil_append]
      have gh := hh
      obtain ⟨kh, rfl, ah, bh⟩ := gh
      have ch : kh < 2 ^ 31 := by omega
      refine J_if_eq_n hC (by decide) (tgt := 35) dX10_quotaUsed_23 rfl (fun hf => absurd hf (by omega)) (fun _ => ?_)
      refine J_aload_n hC dX10_quotaUsed_26 rfl rfl ?_
      refine J_iload_n hC dX10_quotaUsed_27 rfl rfl ?_
      refine J_iload_n hC dX10_quotaUsed_28 rfl rfl ?_
      refine iX10_147 hC hM rfl ⟨by decide, by decide⟩ ⟨by decide, by decide⟩ (Nat.le_of_ble_eq_true rfl) dX10_quotaUsed_29 ?_
      refine c_X10_used hM hI (by omega) ch ?_
      dsimp only [Option.toList_some, Option.toList_none, List.cons_append, List.nil_append]
      refine J_goto (tgt := 40) hC dX10_quotaUsed_32 rfl ?_
      refine J_ireturn hC hR dX10_quotaUsed_40 (by decide) (by decide) ?_
      unfold aQU at hq
      rw [cl_n (k := kc) (by omega), cl_n (k := kh) (by omega)] at hq
      rw [chk_t hc, chk_t hh] at hq
      dsimp only at hq
      rw [hτ] at hq
      exact hq
    · dsimp only [Option.toList_some, Option.toList_none, List.cons_append, List.nil_append]
      refine J_if_eq_n hC (by decide) (tgt := 35) dX10_quotaUsed_23 rfl (fun _ => ?_) (fun hf => absurd hf (by omega))
      refine J_aload_n hC dX10_quotaUsed_35 rfl rfl ?_
      refine J_iconst (v := nI 2) hC dX10_quotaUsed_36 (by decide) ?_
      refine iX10_308 hC hM rfl ⟨by decide, by decide⟩ ⟨by decide, by decide⟩ (Nat.le_of_ble_eq_true rfl) dX10_quotaUsed_37 ?_
      refine c_X10_fail hM ?_
      dsimp only [Option.toList_some, Option.toList_none, List.cons_append, List.nil_append]
      refine J_ireturn hC hR dX10_quotaUsed_40 (by decide) (by decide) ?_
      unfold aQU at hq
      rw [cl_n (k := kc) (by omega)] at hq
      rw [chk_t hc, chk_f hh] at hq
      dsimp only at hq
      rw [← h9] at hq
      exact hq
  · dsimp only [Option.toList_some, Option.toList_none, List.cons_append, List.nil_append]
    refine J_if_ne_n hC (by decide) (tgt := 19) dX10_quotaUsed_10 rfl (fun hf => absurd hf (by omega)) (fun _ => ?_)
    refine J_aload_n hC dX10_quotaUsed_13 rfl rfl ?_
    refine J_iconst (v := nI 1) hC dX10_quotaUsed_14 (by decide) ?_
    refine iX10_308 hC hM rfl ⟨by decide, by decide⟩ ⟨by decide, by decide⟩ (Nat.le_of_ble_eq_true rfl) dX10_quotaUsed_15 ?_
    refine c_X10_fail hM ?_
    dsimp only [Option.toList_some, Option.toList_none, List.cons_append, List.nil_append]
    refine J_ireturn hC hR dX10_quotaUsed_18 (by decide) (by decide) ?_
    unfold aQU at hq
    rw [chk_f hc] at hq
    dsimp only at hq
    rw [← h9] at hq
    exact hq
set_option maxHeartbeats 4000000 in
set_option maxRecDepth 100000 in
theorem c_X10_anchorX {G : GC} {w : Lay} {σ : Mem} {Q : Lay → Option Value → Mem → Prop} {Qx : Lay → String → Mem → Prop} {hm : Nat} (hM : LM w) (hI : RowOK hm (rd σ 13 1))  {k : Int32} (hq : Q w (some (.int ((aOf 0) (rd σ 13 1) k).2)) (thr σ ((aOf 0) (rd σ 13 1) k).1)) : MX10_anchorX G w σ [.ref (w.2.1 13 0), .int k] Q Qx := by
  refine mt_start (by decide) rfl (Nat.le_of_ble_eq_true rfl) (fun E hC hR hN => ?_)
  show J G E w 0 0 0 [some (.ref (w.2.1 13 0)), some (.int k)] [] σ
  refine J_aload_n hC dX10_anchorX_0 rfl rfl ?_
  refine J_iconst (v := nI 0) hC dX10_anchorX_1 (by decide) ?_
  refine pX10_62 hC hM dX10_anchorX_2 ?_
  obtain ⟨τ, hτ, hA⟩ : ∃ τ, thr σ 0 = τ ∧ rd σ 13 1 = rd τ 13 1 := ⟨_, rfl, rd_thr1.symm⟩
  have h9 : ∀ c, thr τ c = thr σ c := fun c => by rw [← hτ]; exact thr_thr
  rw [hA] at hI hq
  show J G E w 0 0 5 _ _ (thr σ 0)
  rw [hτ]
  refine J_aload_n hC dX10_anchorX_5 rfl rfl ?_
  refine J_iload_n hC dX10_anchorX_6 rfl rfl ?_
  refine iX10_278 hC hM rfl ⟨by decide, by decide⟩ ⟨by decide, by decide⟩ (Nat.le_of_ble_eq_true rfl) dX10_anchorX_7 ?_
  refine k_isK hM hI (fun hk => ?_) (fun hk => ?_)
  · dsimp only [Option.toList_some, Option.toList_none, List.cons_append, List.nil_append]
    have gk := hk
    obtain ⟨kk, rfl, bk⟩ := gk
    have ek := r_NK hI
    refine J_if_eq_n hC (by decide) (tgt := 22) dX10_anchorX_10 rfl (fun hf => absurd hf (by omega)) (fun _ => ?_)
    refine J_aload_n hC dX10_anchorX_13 rfl rfl ?_
    refine J_iload_n hC dX10_anchorX_14 rfl rfl ?_
    refine J_iconst (v := nI 0) hC dX10_anchorX_15 (by decide) ?_
    refine iX10_79 hC hM rfl ⟨by decide, by decide⟩ ⟨by decide, by decide⟩ (Nat.le_of_ble_eq_true rfl) dX10_anchorX_16 ?_
    refine c_X10_of hM (by omega) ?_
    dsimp only [Option.toList_some, Option.toList_none, List.cons_append, List.nil_append]
    refine J_goto (tgt := 27) hC dX10_anchorX_19 rfl ?_
    refine J_ireturn hC hR dX10_anchorX_27 (by decide) (by decide) ?_
    unfold aOf at hq
    rw [cl_n (k := kk) (by omega)] at hq
    rw [chk_t hk] at hq
    dsimp only at hq
    rw [hτ] at hq
    exact hq
  · dsimp only [Option.toList_some, Option.toList_none, List.cons_append, List.nil_append]
    refine J_if_eq_n hC (by decide) (tgt := 22) dX10_anchorX_10 rfl (fun _ => ?_) (fun hf => absurd hf (by omega))
    refine J_aload_n hC dX10_anchorX_22 rfl rfl ?_
    refine J_iconst (v := nI 1) hC dX10_anchorX_23 (by decide) ?_
    refine iX10_308 hC hM rfl ⟨by decide, by decide⟩ ⟨by decide, by decide⟩ (Nat.le_of_ble_eq_true rfl) dX10_anchorX_24 ?_
    refine c_X10_fail hM ?_
    dsimp only [Option.toList_some, Option.toList_none, List.cons_append, List.nil_append]
    refine J_ireturn hC hR dX10_anchorX_27 (by decide) (by decide) ?_
    unfold aOf at hq
    rw [chk_f hk] at hq
    dsimp only at hq
    rw [← h9] at hq
    exact hq
set_option maxHeartbeats 4000000 in
set_option maxRecDepth 100000 in
theorem c_X10_anchorY {G : GC} {w : Lay} {σ : Mem} {Q : Lay → Option Value → Mem → Prop} {Qx : Lay → String → Mem → Prop} {hm : Nat} (hM : LM w) (hI : RowOK hm (rd σ 13 1))  {k : Int32} (hq : Q w (some (.int ((aOf 1) (rd σ 13 1) k).2)) (thr σ ((aOf 1) (rd σ 13 1) k).1)) : MX10_anchorY G w σ [.ref (w.2.1 13 0), .int k] Q Qx := by
  refine mt_start (by decide) rfl (Nat.le_of_ble_eq_true rfl) (fun E hC hR hN => ?_)
  show J G E w 0 0 0 [some (.ref (w.2.1 13 0)), some (.int k)] [] σ
  refine J_aload_n hC dX10_anchorY_0 rfl rfl ?_
  refine J_iconst (v := nI 0) hC dX10_anchorY_1 (by decide) ?_
  refine pX10_62 hC hM dX10_anchorY_2 ?_
  obtain ⟨τ, hτ, hA⟩ : ∃ τ, thr σ 0 = τ ∧ rd σ 13 1 = rd τ 13 1 := ⟨_, rfl, rd_thr1.symm⟩
  have h9 : ∀ c, thr τ c = thr σ c := fun c => by rw [← hτ]; exact thr_thr
  rw [hA] at hI hq
  show J G E w 0 0 5 _ _ (thr σ 0)
  rw [hτ]
  refine J_aload_n hC dX10_anchorY_5 rfl rfl ?_
  refine J_iload_n hC dX10_anchorY_6 rfl rfl ?_
  refine iX10_278 hC hM rfl ⟨by decide, by decide⟩ ⟨by decide, by decide⟩ (Nat.le_of_ble_eq_true rfl) dX10_anchorY_7 ?_
  refine k_isK hM hI (fun hk => ?_) (fun hk => ?_)
  · dsimp only [Option.toList_some, Option.toList_none, List.cons_append, List.nil_append]
    have gk := hk
    obtain ⟨kk, rfl, bk⟩ := gk
    have ek := r_NK hI
    refine J_if_eq_n hC (by decide) (tgt := 22) dX10_anchorY_10 rfl (fun hf => absurd hf (by omega)) (fun _ => ?_)
    refine J_aload_n hC dX10_anchorY_13 rfl rfl ?_
    refine J_iload_n hC dX10_anchorY_14 rfl rfl ?_
    refine J_iconst (v := nI 1) hC dX10_anchorY_15 (by decide) ?_
    refine iX10_79 hC hM rfl ⟨by decide, by decide⟩ ⟨by decide, by decide⟩ (Nat.le_of_ble_eq_true rfl) dX10_anchorY_16 ?_
    refine c_X10_of hM (by omega) ?_
    dsimp only [Option.toList_some, Option.toList_none, List.cons_append, List.nil_append]
    refine J_goto (tgt := 27) hC dX10_anchorY_19 rfl ?_
    refine J_ireturn hC hR dX10_anchorY_27 (by decide) (by decide) ?_
    unfold aOf at hq
    rw [cl_n (k := kk) (by omega)] at hq
    rw [chk_t hk] at hq
    dsimp only at hq
    rw [hτ] at hq
    exact hq
  · dsimp only [Option.toList_some, Option.toList_none, List.cons_append, List.nil_append]
    refine J_if_eq_n hC (by decide) (tgt := 22) dX10_anchorY_10 rfl (fun _ => ?_) (fun hf => absurd hf (by omega))
    refine J_aload_n hC dX10_anchorY_22 rfl rfl ?_
    refine J_iconst (v := nI 1) hC dX10_anchorY_23 (by decide) ?_
    refine iX10_308 hC hM rfl ⟨by decide, by decide⟩ ⟨by decide, by decide⟩ (Nat.le_of_ble_eq_true rfl) dX10_anchorY_24 ?_
    refine c_X10_fail hM ?_
    dsimp only [Option.toList_some, Option.toList_none, List.cons_append, List.nil_append]
    refine J_ireturn hC hR dX10_anchorY_27 (by decide) (by decide) ?_
    unfold aOf at hq
    rw [chk_f hk] at hq
    dsimp only at hq
    rw [← h9] at hq
    exact hq
set_option maxHeartbeats 4000000 in
set_option maxRecDepth 100000 in
theorem c_X10_stringLength {G : GC} {w : Lay} {σ : Mem} {Q : Lay → Option Value → Mem → Prop} {Qx : Lay → String → Mem → Prop} {hm : Nat} (hM : LM w) (hI : RowOK hm (rd σ 13 1))  {k : Int32} (hq : Q w (some (.int ((aOf 2) (rd σ 13 1) k).2)) (thr σ ((aOf 2) (rd σ 13 1) k).1)) : MX10_stringLength G w σ [.ref (w.2.1 13 0), .int k] Q Qx := by
  refine mt_start (by decide) rfl (Nat.le_of_ble_eq_true rfl) (fun E hC hR hN => ?_)
  show J G E w 0 0 0 [some (.ref (w.2.1 13 0)), some (.int k)] [] σ
  refine J_aload_n hC dX10_stringLength_0 rfl rfl ?_
  refine J_iconst (v := nI 0) hC dX10_stringLength_1 (by decide) ?_
  refine pX10_62 hC hM dX10_stringLength_2 ?_
  obtain ⟨τ, hτ, hA⟩ : ∃ τ, thr σ 0 = τ ∧ rd σ 13 1 = rd τ 13 1 := ⟨_, rfl, rd_thr1.symm⟩
  have h9 : ∀ c, thr τ c = thr σ c := fun c => by rw [← hτ]; exact thr_thr
  rw [hA] at hI hq
  show J G E w 0 0 5 _ _ (thr σ 0)
  rw [hτ]
  refine J_aload_n hC dX10_stringLength_5 rfl rfl ?_
  refine J_iload_n hC dX10_stringLength_6 rfl rfl ?_
  refine iX10_278 hC hM rfl ⟨by decide, by decide⟩ ⟨by decide, by decide⟩ (Nat.le_of_ble_eq_true rfl) dX10_stringLength_7 ?_
  refine k_isK hM hI (fun hk => ?_) (fun hk => ?_)
  · dsimp only [Option.toList_some, Option.toList_none, List.cons_append, List.nil_append]
    have gk := hk
    obtain ⟨kk, rfl, bk⟩ := gk
    have ek := r_NK hI
    refine J_if_eq_n hC (by decide) (tgt := 22) dX10_stringLength_10 rfl (fun hf => absurd hf (by omega)) (fun _ => ?_)
    refine J_aload_n hC dX10_stringLength_13 rfl rfl ?_
    refine J_iload_n hC dX10_stringLength_14 rfl rfl ?_
    refine J_iconst (v := nI 2) hC dX10_stringLength_15 (by decide) ?_
    refine iX10_79 hC hM rfl ⟨by decide, by decide⟩ ⟨by decide, by decide⟩ (Nat.le_of_ble_eq_true rfl) dX10_stringLength_16 ?_
    refine c_X10_of hM (by omega) ?_
    dsimp only [Option.toList_some, Option.toList_none, List.cons_append, List.nil_append]
    refine J_goto (tgt := 27) hC dX10_stringLength_19 rfl ?_
    refine J_ireturn hC hR dX10_stringLength_27 (by decide) (by decide) ?_
    unfold aOf at hq
    rw [cl_n (k := kk) (by omega)] at hq
    rw [chk_t hk] at hq
    dsimp only at hq
    rw [hτ] at hq
    exact hq
  · dsimp only [Option.toList_some, Option.toList_none, List.cons_append, List.nil_append]
    refine J_if_eq_n hC (by decide) (tgt := 22) dX10_stringLength_10 rfl (fun _ => ?_) (fun hf => absurd hf (by omega))
    refine J_aload_n hC dX10_stringLength_22 rfl rfl ?_
    refine J_iconst (v := nI 1) hC dX10_stringLength_23 (by decide) ?_
    refine iX10_308 hC hM rfl ⟨by decide, by decide⟩ ⟨by decide, by decide⟩ (Nat.le_of_ble_eq_true rfl) dX10_stringLength_24 ?_
    refine c_X10_fail hM ?_
    dsimp only [Option.toList_some, Option.toList_none, List.cons_append, List.nil_append]
    refine J_ireturn hC hR dX10_stringLength_27 (by decide) (by decide) ?_
    unfold aOf at hq
    rw [chk_f hk] at hq
    dsimp only at hq
    rw [← h9] at hq
    exact hq
set_option maxHeartbeats 4000000 in
set_option maxRecDepth 100000 in
theorem c_X10_colourOf {G : GC} {w : Lay} {σ : Mem} {Q : Lay → Option Value → Mem → Prop} {Qx : Lay → String → Mem → Prop} {hm : Nat} (hM : LM w) (hI : RowOK hm (rd σ 13 1))  {k : Int32} (hq : Q w (some (.int ((aOf 3) (rd σ 13 1) k).2)) (thr σ ((aOf 3) (rd σ 13 1) k).1)) : MX10_colourOf G w σ [.ref (w.2.1 13 0), .int k] Q Qx := by
  refine mt_start (by decide) rfl (Nat.le_of_ble_eq_true rfl) (fun E hC hR hN => ?_)
  show J G E w 0 0 0 [some (.ref (w.2.1 13 0)), some (.int k)] [] σ
  refine J_aload_n hC dX10_colourOf_0 rfl rfl ?_
  refine J_iconst (v := nI 0) hC dX10_colourOf_1 (by decide) ?_
  refine pX10_62 hC hM dX10_colourOf_2 ?_
  obtain ⟨τ, hτ, hA⟩ : ∃ τ, thr σ 0 = τ ∧ rd σ 13 1 = rd τ 13 1 := ⟨_, rfl, rd_thr1.symm⟩
  have h9 : ∀ c, thr τ c = thr σ c := fun c => by rw [← hτ]; exact thr_thr
  rw [hA] at hI hq
  show J G E w 0 0 5 _ _ (thr σ 0)
  rw [hτ]
  refine J_aload_n hC dX10_colourOf_5 rfl rfl ?_
  refine J_iload_n hC dX10_colourOf_6 rfl rfl ?_
  refine iX10_278 hC hM rfl ⟨by decide, by decide⟩ ⟨by decide, by decide⟩ (Nat.le_of_ble_eq_true rfl) dX10_colourOf_7 ?_
  refine k_isK hM hI (fun hk => ?_) (fun hk => ?_)
  · dsimp only [Option.toList_some, Option.toList_none, List.cons_append, List.nil_append]
    have gk := hk
    obtain ⟨kk, rfl, bk⟩ := gk
    have ek := r_NK hI
    refine J_if_eq_n hC (by decide) (tgt := 22) dX10_colourOf_10 rfl (fun hf => absurd hf (by omega)) (fun _ => ?_)
    refine J_aload_n hC dX10_colourOf_13 rfl rfl ?_
    refine J_iload_n hC dX10_colourOf_14 rfl rfl ?_
    refine J_iconst (v := nI 3) hC dX10_colourOf_15 (by decide) ?_
    refine iX10_79 hC hM rfl ⟨by decide, by decide⟩ ⟨by decide, by decide⟩ (Nat.le_of_ble_eq_true rfl) dX10_colourOf_16 ?_
    refine c_X10_of hM (by omega) ?_
    dsimp only [Option.toList_some, Option.toList_none, List.cons_append, List.nil_append]
    refine J_goto (tgt := 27) hC dX10_colourOf_19 rfl ?_
    refine J_ireturn hC hR dX10_colourOf_27 (by decide) (by decide) ?_
    unfold aOf at hq
    rw [cl_n (k := kk) (by omega)] at hq
    rw [chk_t hk] at hq
    dsimp only at hq
    rw [hτ] at hq
    exact hq
  · dsimp only [Option.toList_some, Option.toList_none, List.cons_append, List.nil_append]
    refine J_if_eq_n hC (by decide) (tgt := 22) dX10_colourOf_10 rfl (fun _ => ?_) (fun hf => absurd hf (by omega))
    refine J_aload_n hC dX10_colourOf_22 rfl rfl ?_
    refine J_iconst (v := nI 1) hC dX10_colourOf_23 (by decide) ?_
    refine iX10_308 hC hM rfl ⟨by decide, by decide⟩ ⟨by decide, by decide⟩ (Nat.le_of_ble_eq_true rfl) dX10_colourOf_24 ?_
    refine c_X10_fail hM ?_
    dsimp only [Option.toList_some, Option.toList_none, List.cons_append, List.nil_append]
    refine J_ireturn hC hR dX10_colourOf_27 (by decide) (by decide) ?_
    unfold aOf at hq
    rw [chk_f hk] at hq
    dsimp only at hq
    rw [← h9] at hq
    exact hq
set_option maxHeartbeats 4000000 in
set_option maxRecDepth 100000 in
theorem c_X10_knots {G : GC} {w : Lay} {σ : Mem} {Q : Lay → Option Value → Mem → Prop} {Qx : Lay → String → Mem → Prop} {hm : Nat} (hM : LM w) (hI : RowOK hm (rd σ 13 1))  {k : Int32} (hq : Q w (some (.int ((aOf 4) (rd σ 13 1) k).2)) (thr σ ((aOf 4) (rd σ 13 1) k).1)) : MX10_knots G w σ [.ref (w.2.1 13 0), .int k] Q Qx := by
  refine mt_start (by decide) rfl (Nat.le_of_ble_eq_true rfl) (fun E hC hR hN => ?_)
  show J G E w 0 0 0 [some (.ref (w.2.1 13 0)), some (.int k)] [] σ
  refine J_aload_n hC dX10_knots_0 rfl rfl ?_
  refine J_iconst (v := nI 0) hC dX10_knots_1 (by decide) ?_
  refine pX10_62 hC hM dX10_knots_2 ?_
  obtain ⟨τ, hτ, hA⟩ : ∃ τ, thr σ 0 = τ ∧ rd σ 13 1 = rd τ 13 1 := ⟨_, rfl, rd_thr1.symm⟩
  have h9 : ∀ c, thr τ c = thr σ c := fun c => by rw [← hτ]; exact thr_thr
  rw [hA] at hI hq
  show J G E w 0 0 5 _ _ (thr σ 0)
  rw [hτ]
  refine J_aload_n hC dX10_knots_5 rfl rfl ?_
  refine J_iload_n hC dX10_knots_6 rfl rfl ?_
  refine iX10_278 hC hM rfl ⟨by decide, by decide⟩ ⟨by decide, by decide⟩ (Nat.le_of_ble_eq_true rfl) dX10_knots_7 ?_
  refine k_isK hM hI (fun hk => ?_) (fun hk => ?_)
  · dsimp only [Option.toList_some, Option.toList_none, List.cons_append, List.nil_append]
    have gk := hk
    obtain ⟨kk, rfl, bk⟩ := gk
    have ek := r_NK hI
    refine J_if_eq_n hC (by decide) (tgt := 22) dX10_knots_10 rfl (fun hf => absurd hf (by omega)) (fun _ => ?_)
    refine J_aload_n hC dX10_knots_13 rfl rfl ?_
    refine J_iload_n hC dX10_knots_14 rfl rfl ?_
    refine J_iconst (v := nI 4) hC dX10_knots_15 (by decide) ?_
    refine iX10_79 hC hM rfl ⟨by decide, by decide⟩ ⟨by decide, by decide⟩ (Nat.le_of_ble_eq_true rfl) dX10_knots_16 ?_
    refine c_X10_of hM (by omega) ?_
    dsimp only [Option.toList_some, Option.toList_none, List.cons_append, List.nil_append]
    refine J_goto (tgt := 27) hC dX10_knots_19 rfl ?_
    refine J_ireturn hC hR dX10_knots_27 (by decide) (by decide) ?_
    unfold aOf at hq
    rw [cl_n (k := kk) (by omega)] at hq
    rw [chk_t hk] at hq
    dsimp only at hq
    rw [hτ] at hq
    exact hq
  · dsimp only [Option.toList_some, Option.toList_none, List.cons_append, List.nil_append]
    refine J_if_eq_n hC (by decide) (tgt := 22) dX10_knots_10 rfl (fun _ => ?_) (fun hf => absurd hf (by omega))
    refine J_aload_n hC dX10_knots_22 rfl rfl ?_
    refine J_iconst (v := nI 1) hC dX10_knots_23 (by decide) ?_
    refine iX10_308 hC hM rfl ⟨by decide, by decide⟩ ⟨by decide, by decide⟩ (Nat.le_of_ble_eq_true rfl) dX10_knots_24 ?_
    refine c_X10_fail hM ?_
    dsimp only [Option.toList_some, Option.toList_none, List.cons_append, List.nil_append]
    refine J_ireturn hC hR dX10_knots_27 (by decide) (by decide) ?_
    unfold aOf at hq
    rw [chk_f hk] at hq
    dsimp only at hq
    rw [← h9] at hq
    exact hq
set_option maxHeartbeats 4000000 in
set_option maxRecDepth 100000 in
theorem c_X10_purse {G : GC} {w : Lay} {σ : Mem} {Q : Lay → Option Value → Mem → Prop} {Qx : Lay → String → Mem → Prop} {hm : Nat} (hM : LM w) (hI : RowOK hm (rd σ 13 1))  {k : Int32} (hq : Q w (some (.int ((aOf 5) (rd σ 13 1) k).2)) (thr σ ((aOf 5) (rd σ 13 1) k).1)) : MX10_purse G w σ [.ref (w.2.1 13 0), .int k] Q Qx := by
  refine mt_start (by decide) rfl (Nat.le_of_ble_eq_true rfl) (fun E hC hR hN => ?_)
  show J G E w 0 0 0 [some (.ref (w.2.1 13 0)), some (.int k)] [] σ
  refine J_aload_n hC dX10_purse_0 rfl rfl ?_
  refine J_iconst (v := nI 0) hC dX10_purse_1 (by decide) ?_
  refine pX10_62 hC hM dX10_purse_2 ?_
  obtain ⟨τ, hτ, hA⟩ : ∃ τ, thr σ 0 = τ ∧ rd σ 13 1 = rd τ 13 1 := ⟨_, rfl, rd_thr1.symm⟩
  have h9 : ∀ c, thr τ c = thr σ c := fun c => by rw [← hτ]; exact thr_thr
  rw [hA] at hI hq
  show J G E w 0 0 5 _ _ (thr σ 0)
  rw [hτ]
  refine J_aload_n hC dX10_purse_5 rfl rfl ?_
  refine J_iload_n hC dX10_purse_6 rfl rfl ?_
  refine iX10_278 hC hM rfl ⟨by decide, by decide⟩ ⟨by decide, by decide⟩ (Nat.le_of_ble_eq_true rfl) dX10_purse_7 ?_
  refine k_isK hM hI (fun hk => ?_) (fun hk => ?_)
  · dsimp only [Option.toList_some, Option.toList_none, List.cons_append, List.nil_append]
    have gk := hk
    obtain ⟨kk, rfl, bk⟩ := gk
    have ek := r_NK hI
    refine J_if_eq_n hC (by decide) (tgt := 22) dX10_purse_10 rfl (fun hf => absurd hf (by omega)) (fun _ => ?_)
    refine J_aload_n hC dX10_purse_13 rfl rfl ?_
    refine J_iload_n hC dX10_purse_14 rfl rfl ?_
    refine J_iconst (v := nI 5) hC dX10_purse_15 (by decide) ?_
    refine iX10_79 hC hM rfl ⟨by decide, by decide⟩ ⟨by decide, by decide⟩ (Nat.le_of_ble_eq_true rfl) dX10_purse_16 ?_
    refine c_X10_of hM (by omega) ?_
    dsimp only [Option.toList_some, Option.toList_none, List.cons_append, List.nil_append]
    refine J_goto (tgt := 27) hC dX10_purse_19 rfl ?_
    refine J_ireturn hC hR dX10_purse_27 (by decide) (by decide) ?_
    unfold aOf at hq
    rw [cl_n (k := kk) (by omega)] at hq
    rw [chk_t hk] at hq
    dsimp only at hq
    rw [hτ] at hq
    exact hq
  · dsimp only [Option.toList_some, Option.toList_none, List.cons_append, List.nil_append]
    refine J_if_eq_n hC (by decide) (tgt := 22) dX10_purse_10 rfl (fun _ => ?_) (fun hf => absurd hf (by omega))
    refine J_aload_n hC dX10_purse_22 rfl rfl ?_
    refine J_iconst (v := nI 1) hC dX10_purse_23 (by decide) ?_
    refine iX10_308 hC hM rfl ⟨by decide, by decide⟩ ⟨by decide, by decide⟩ (Nat.le_of_ble_eq_true rfl) dX10_purse_24 ?_
    refine c_X10_fail hM ?_
    dsimp only [Option.toList_some, Option.toList_none, List.cons_append, List.nil_append]
    refine J_ireturn hC hR dX10_purse_27 (by decide) (by decide) ?_
    unfold aOf at hq
    rw [chk_f hk] at hq
    dsimp only at hq
    rw [← h9] at hq
    exact hq
set_option maxHeartbeats 4000000 in
set_option maxRecDepth 100000 in
theorem c_X10_stateOf {G : GC} {w : Lay} {σ : Mem} {Q : Lay → Option Value → Mem → Prop} {Qx : Lay → String → Mem → Prop} {hm : Nat} (hM : LM w) (hI : RowOK hm (rd σ 13 1))  {k : Int32} (hq : Q w (some (.int ((aOf 6) (rd σ 13 1) k).2)) (thr σ ((aOf 6) (rd σ 13 1) k).1)) : MX10_stateOf G w σ [.ref (w.2.1 13 0), .int k] Q Qx := by
  refine mt_start (by decide) rfl (Nat.le_of_ble_eq_true rfl) (fun E hC hR hN => ?_)
  show J G E w 0 0 0 [some (.ref (w.2.1 13 0)), some (.int k)] [] σ
  refine J_aload_n hC dX10_stateOf_0 rfl rfl ?_
  refine J_iconst (v := nI 0) hC dX10_stateOf_1 (by decide) ?_
  refine pX10_62 hC hM dX10_stateOf_2 ?_
  obtain ⟨τ, hτ, hA⟩ : ∃ τ, thr σ 0 = τ ∧ rd σ 13 1 = rd τ 13 1 := ⟨_, rfl, rd_thr1.symm⟩
  have h9 : ∀ c, thr τ c = thr σ c := fun c => by rw [← hτ]; exact thr_thr
  rw [hA] at hI hq
  show J G E w 0 0 5 _ _ (thr σ 0)
  rw [hτ]
  refine J_aload_n hC dX10_stateOf_5 rfl rfl ?_
  refine J_iload_n hC dX10_stateOf_6 rfl rfl ?_
  refine iX10_278 hC hM rfl ⟨by decide, by decide⟩ ⟨by decide, by decide⟩ (Nat.le_of_ble_eq_true rfl) dX10_stateOf_7 ?_
  refine k_isK hM hI (fun hk => ?_) (fun hk => ?_)
  · dsimp only [Option.toList_some, Option.toList_none, List.cons_append, List.nil_append]
    have gk := hk
    obtain ⟨kk, rfl, bk⟩ := gk
    have ek := r_NK hI
    refine J_if_eq_n hC (by decide) (tgt := 23) dX10_stateOf_10 rfl (fun hf => absurd hf (by omega)) (fun _ => ?_)
    refine J_aload_n hC dX10_stateOf_13 rfl rfl ?_
    refine J_iload_n hC dX10_stateOf_14 rfl rfl ?_
    refine J_bipush (v := nI 6) hC dX10_stateOf_15 (by decide) ?_
    refine iX10_79 hC hM rfl ⟨by decide, by decide⟩ ⟨by decide, by decide⟩ (Nat.le_of_ble_eq_true rfl) dX10_stateOf_17 ?_
    refine c_X10_of hM (by omega) ?_
    dsimp only [Option.toList_some, Option.toList_none, List.cons_append, List.nil_append]
    refine J_goto (tgt := 28) hC dX10_stateOf_20 rfl ?_
    refine J_ireturn hC hR dX10_stateOf_28 (by decide) (by decide) ?_
    unfold aOf at hq
    rw [cl_n (k := kk) (by omega)] at hq
    rw [chk_t hk] at hq
    dsimp only at hq
    rw [hτ] at hq
    exact hq
  · dsimp only [Option.toList_some, Option.toList_none, List.cons_append, List.nil_append]
    refine J_if_eq_n hC (by decide) (tgt := 23) dX10_stateOf_10 rfl (fun _ => ?_) (fun hf => absurd hf (by omega))
    refine J_aload_n hC dX10_stateOf_23 rfl rfl ?_
    refine J_iconst (v := nI 1) hC dX10_stateOf_24 (by decide) ?_
    refine iX10_308 hC hM rfl ⟨by decide, by decide⟩ ⟨by decide, by decide⟩ (Nat.le_of_ble_eq_true rfl) dX10_stateOf_25 ?_
    refine c_X10_fail hM ?_
    dsimp only [Option.toList_some, Option.toList_none, List.cons_append, List.nil_append]
    refine J_ireturn hC hR dX10_stateOf_28 (by decide) (by decide) ?_
    unfold aOf at hq
    rw [chk_f hk] at hq
    dsimp only at hq
    rw [← h9] at hq
    exact hq
set_option maxHeartbeats 4000000 in
set_option maxRecDepth 100000 in
theorem c_X10_tangles {G : GC} {w : Lay} {σ : Mem} {Q : Lay → Option Value → Mem → Prop} {Qx : Lay → String → Mem → Prop} {hm : Nat} (hM : LM w) (hI : RowOK hm (rd σ 13 1))  {k : Int32} (hq : Q w (some (.int ((aOf 7) (rd σ 13 1) k).2)) (thr σ ((aOf 7) (rd σ 13 1) k).1)) : MX10_tangles G w σ [.ref (w.2.1 13 0), .int k] Q Qx := by
  refine mt_start (by decide) rfl (Nat.le_of_ble_eq_true rfl) (fun E hC hR hN => ?_)
  show J G E w 0 0 0 [some (.ref (w.2.1 13 0)), some (.int k)] [] σ
  refine J_aload_n hC dX10_tangles_0 rfl rfl ?_
  refine J_iconst (v := nI 0) hC dX10_tangles_1 (by decide) ?_
  refine pX10_62 hC hM dX10_tangles_2 ?_
  obtain ⟨τ, hτ, hA⟩ : ∃ τ, thr σ 0 = τ ∧ rd σ 13 1 = rd τ 13 1 := ⟨_, rfl, rd_thr1.symm⟩
  have h9 : ∀ c, thr τ c = thr σ c := fun c => by rw [← hτ]; exact thr_thr
  rw [hA] at hI hq
  show J G E w 0 0 5 _ _ (thr σ 0)
  rw [hτ]
  refine J_aload_n hC dX10_tangles_5 rfl rfl ?_
  refine J_iload_n hC dX10_tangles_6 rfl rfl ?_
  refine iX10_278 hC hM rfl ⟨by decide, by decide⟩ ⟨by decide, by decide⟩ (Nat.le_of_ble_eq_true rfl) dX10_tangles_7 ?_
  refine k_isK hM hI (fun hk => ?_) (fun hk => ?_)
  · dsimp only [Option.toList_some, Option.toList_none, List.cons_append, List.nil_append]
    have gk := hk
    obtain ⟨kk, rfl, bk⟩ := gk
    have ek := r_NK hI
    refine J_if_eq_n hC (by decide) (tgt := 23) dX10_tangles_10 rfl (fun hf => absurd hf (by omega)) (fun _ => ?_)
    refine J_aload_n hC dX10_tangles_13 rfl rfl ?_
    refine J_iload_n hC dX10_tangles_14 rfl rfl ?_
    refine J_bipush (v := nI 7) hC dX10_tangles_15 (by decide) ?_
    refine iX10_79 hC hM rfl ⟨by decide, by decide⟩ ⟨by decide, by decide⟩ (Nat.le_of_ble_eq_true rfl) dX10_tangles_17 ?_
    refine c_X10_of hM (by omega) ?_
    dsimp only [Option.toList_some, Option.toList_none, List.cons_append, List.nil_append]
    refine J_goto (tgt := 28) hC dX10_tangles_20 rfl ?_
    refine J_ireturn hC hR dX10_tangles_28 (by decide) (by decide) ?_
    unfold aOf at hq
    rw [cl_n (k := kk) (by omega)] at hq
    rw [chk_t hk] at hq
    dsimp only at hq
    rw [hτ] at hq
    exact hq
  · dsimp only [Option.toList_some, Option.toList_none, List.cons_append, List.nil_append]
    refine J_if_eq_n hC (by decide) (tgt := 23) dX10_tangles_10 rfl (fun _ => ?_) (fun hf => absurd hf (by omega))
    refine J_aload_n hC dX10_tangles_23 rfl rfl ?_
    refine J_iconst (v := nI 1) hC dX10_tangles_24 (by decide) ?_
    refine iX10_308 hC hM rfl ⟨by decide, by decide⟩ ⟨by decide, by decide⟩ (Nat.le_of_ble_eq_true rfl) dX10_tangles_25 ?_
    refine c_X10_fail hM ?_
    dsimp only [Option.toList_some, Option.toList_none, List.cons_append, List.nil_append]
    refine J_ireturn hC hR dX10_tangles_28 (by decide) (by decide) ?_
    unfold aOf at hq
    rw [chk_f hk] at hq
    dsimp only at hq
    rw [← h9] at hq
    exact hq
set_option maxHeartbeats 4000000 in
set_option maxRecDepth 100000 in
theorem c_X10_zoneOf {G : GC} {w : Lay} {σ : Mem} {Q : Lay → Option Value → Mem → Prop} {Qx : Lay → String → Mem → Prop} {hm : Nat} (hM : LM w) (hI : RowOK hm (rd σ 13 1))  {k : Int32} (hq : Q w (some (.int (aZO (rd σ 13 1) k).2)) (thr σ (aZO (rd σ 13 1) k).1)) : MX10_zoneOf G w σ [.ref (w.2.1 13 0), .int k] Q Qx := by
  refine mt_start (by decide) rfl (Nat.le_of_ble_eq_true rfl) (fun E hC hR hN => ?_)
  show J G E w 0 0 0 [some (.ref (w.2.1 13 0)), some (.int k)] [] σ
  refine J_aload_n hC dX10_zoneOf_0 rfl rfl ?_
  refine J_iconst (v := nI 0) hC dX10_zoneOf_1 (by decide) ?_
  refine pX10_62 hC hM dX10_zoneOf_2 ?_
  obtain ⟨τ, hτ, hA⟩ : ∃ τ, thr σ 0 = τ ∧ rd σ 13 1 = rd τ 13 1 := ⟨_, rfl, rd_thr1.symm⟩
  have h9 : ∀ c, thr τ c = thr σ c := fun c => by rw [← hτ]; exact thr_thr
  rw [hA] at hI hq
  show J G E w 0 0 5 _ _ (thr σ 0)
  rw [hτ]
  refine J_aload_n hC dX10_zoneOf_5 rfl rfl ?_
  refine J_iload_n hC dX10_zoneOf_6 rfl rfl ?_
  refine iX10_278 hC hM rfl ⟨by decide, by decide⟩ ⟨by decide, by decide⟩ (Nat.le_of_ble_eq_true rfl) dX10_zoneOf_7 ?_
  refine k_isK hM hI (fun hk => ?_) (fun hk => ?_)
  · dsimp only [Option.toList_some, Option.toList_none, List.cons_append, List.nil_append]
    have gk := hk
    obtain ⟨kk, rfl, bk⟩ := gk
    have ek := r_NK hI
    refine J_if_eq_n hC (by decide) (tgt := 21) dX10_zoneOf_10 rfl (fun hf => absurd hf (by omega)) (fun _ => ?_)
    refine J_aload_n hC dX10_zoneOf_13 rfl rfl ?_
    refine J_iload_n hC dX10_zoneOf_14 rfl rfl ?_
    refine iX10_83 hC hM rfl ⟨by decide, by decide⟩ ⟨by decide, by decide⟩ (Nat.le_of_ble_eq_true rfl) dX10_zoneOf_15 ?_
    refine c_X10_zoneAt hM hI bk ?_
    dsimp only [Option.toList_some, Option.toList_none, List.cons_append, List.nil_append]
    refine J_goto (tgt := 26) hC dX10_zoneOf_18 rfl ?_
    refine J_ireturn hC hR dX10_zoneOf_26 (by decide) (by decide) ?_
    unfold aZO at hq
    rw [cl_n (k := kk) (by omega)] at hq
    rw [chk_t hk] at hq
    dsimp only at hq
    rw [hτ] at hq
    exact hq
  · dsimp only [Option.toList_some, Option.toList_none, List.cons_append, List.nil_append]
    refine J_if_eq_n hC (by decide) (tgt := 21) dX10_zoneOf_10 rfl (fun _ => ?_) (fun hf => absurd hf (by omega))
    refine J_aload_n hC dX10_zoneOf_21 rfl rfl ?_
    refine J_iconst (v := nI 1) hC dX10_zoneOf_22 (by decide) ?_
    refine iX10_308 hC hM rfl ⟨by decide, by decide⟩ ⟨by decide, by decide⟩ (Nat.le_of_ble_eq_true rfl) dX10_zoneOf_23 ?_
    refine c_X10_fail hM ?_
    dsimp only [Option.toList_some, Option.toList_none, List.cons_append, List.nil_append]
    refine J_ireturn hC hR dX10_zoneOf_26 (by decide) (by decide) ?_
    unfold aZO at hq
    rw [chk_f hk] at hq
    dsimp only at hq
    rw [← h9] at hq
    exact hq
set_option maxHeartbeats 4000000 in
set_option maxRecDepth 100000 in
theorem c_X10_permitKite {G : GC} {w : Lay} {σ : Mem} {Q : Lay → Option Value → Mem → Prop} {Qx : Lay → String → Mem → Prop} {hm : Nat} (hM : LM w) (hI : RowOK hm (rd σ 13 1))  {p : Int32} (hq : Q w (some (.int ((aPf 0) (rd σ 13 1) p).2)) (thr σ ((aPf 0) (rd σ 13 1) p).1)) : MX10_permitKite G w σ [.ref (w.2.1 13 0), .int p] Q Qx := by
  refine mt_start (by decide) rfl (Nat.le_of_ble_eq_true rfl) (fun E hC hR hN => ?_)
  show J G E w 0 0 0 [some (.ref (w.2.1 13 0)), some (.int p)] [] σ
  refine J_aload_n hC dX10_permitKite_0 rfl rfl ?_
  refine J_iconst (v := nI 0) hC dX10_permitKite_1 (by decide) ?_
  refine pX10_62 hC hM dX10_permitKite_2 ?_
  obtain ⟨τ, hτ, hA⟩ : ∃ τ, thr σ 0 = τ ∧ rd σ 13 1 = rd τ 13 1 := ⟨_, rfl, rd_thr1.symm⟩
  have h9 : ∀ c, thr τ c = thr σ c := fun c => by rw [← hτ]; exact thr_thr
  rw [hA] at hI hq
  show J G E w 0 0 5 _ _ (thr σ 0)
  rw [hτ]
  refine J_aload_n hC dX10_permitKite_5 rfl rfl ?_
  refine J_iload_n hC dX10_permitKite_6 rfl rfl ?_
  refine iX10_347 hC hM rfl ⟨by decide, by decide⟩ ⟨by decide, by decide⟩ (Nat.le_of_ble_eq_true rfl) dX10_permitKite_7 ?_
  refine k_isP hM hI (fun hp => ?_) (fun hp => ?_)
  · dsimp only [Option.toList_some, Option.toList_none, List.cons_append, List.nil_append]
    have gp := hp
    obtain ⟨kp, rfl, bp⟩ := gp
    have ep := r_NP hI
    refine J_if_eq_n hC (by decide) (tgt := 28) dX10_permitKite_10 rfl (fun hf => absurd hf (by omega)) (fun _ => ?_)
    refine J_aload_n hC dX10_permitKite_13 rfl rfl ?_
    refine gX10_7 hC hM dX10_permitKite_14 ?_
    refine J_sipush (v := nI 214) hC dX10_permitKite_17 (by decide) ?_
    refine J_iconst (v := nI 3) hC dX10_permitKite_20 (by decide) ?_
    refine J_iload_n hC dX10_permitKite_21 rfl rfl ?_
    refine J_imul_n hC dX10_permitKite_22 ?_
    refine J_iadd_n hC dX10_permitKite_23 ?_
    refine J_iaload hC (hM.1 1 (by decide)) rfl rfl (by omega) (by decide) dX10_permitKite_24 ?_
    refine J_goto (tgt := 33) hC dX10_permitKite_25 rfl ?_
    refine J_ireturn hC hR dX10_permitKite_33 (by decide) (by decide) ?_
    unfold aPf at hq
    rw [cl_n (k := kp) (by omega)] at hq
    rw [chk_t hp] at hq
    dsimp only at hq
    rw [hτ] at hq
    exact hq
  · dsimp only [Option.toList_some, Option.toList_none, List.cons_append, List.nil_append]
    refine J_if_eq_n hC (by decide) (tgt := 28) dX10_permitKite_10 rfl (fun _ => ?_) (fun hf => absurd hf (by omega))
    refine J_aload_n hC dX10_permitKite_28 rfl rfl ?_
    refine J_iconst (v := nI 1) hC dX10_permitKite_29 (by decide) ?_
    refine iX10_308 hC hM rfl ⟨by decide, by decide⟩ ⟨by decide, by decide⟩ (Nat.le_of_ble_eq_true rfl) dX10_permitKite_30 ?_
    refine c_X10_fail hM ?_
    dsimp only [Option.toList_some, Option.toList_none, List.cons_append, List.nil_append]
    refine J_ireturn hC hR dX10_permitKite_33 (by decide) (by decide) ?_
    unfold aPf at hq
    rw [chk_f hp] at hq
    dsimp only at hq
    rw [← h9] at hq
    exact hq
set_option maxHeartbeats 4000000 in
set_option maxRecDepth 100000 in
theorem c_X10_permitStart {G : GC} {w : Lay} {σ : Mem} {Q : Lay → Option Value → Mem → Prop} {Qx : Lay → String → Mem → Prop} {hm : Nat} (hM : LM w) (hI : RowOK hm (rd σ 13 1))  {p : Int32} (hq : Q w (some (.int ((aPf 1) (rd σ 13 1) p).2)) (thr σ ((aPf 1) (rd σ 13 1) p).1)) : MX10_permitStart G w σ [.ref (w.2.1 13 0), .int p] Q Qx := by
  refine mt_start (by decide) rfl (Nat.le_of_ble_eq_true rfl) (fun E hC hR hN => ?_)
  show J G E w 0 0 0 [some (.ref (w.2.1 13 0)), some (.int p)] [] σ
  refine J_aload_n hC dX10_permitStart_0 rfl rfl ?_
  refine J_iconst (v := nI 0) hC dX10_permitStart_1 (by decide) ?_
  refine pX10_62 hC hM dX10_permitStart_2 ?_
  obtain ⟨τ, hτ, hA⟩ : ∃ τ, thr σ 0 = τ ∧ rd σ 13 1 = rd τ 13 1 := ⟨_, rfl, rd_thr1.symm⟩
  have h9 : ∀ c, thr τ c = thr σ c := fun c => by rw [← hτ]; exact thr_thr
  rw [hA] at hI hq
  show J G E w 0 0 5 _ _ (thr σ 0)
  rw [hτ]
  refine J_aload_n hC dX10_permitStart_5 rfl rfl ?_
  refine J_iload_n hC dX10_permitStart_6 rfl rfl ?_
  refine iX10_347 hC hM rfl ⟨by decide, by decide⟩ ⟨by decide, by decide⟩ (Nat.le_of_ble_eq_true rfl) dX10_permitStart_7 ?_
  refine k_isP hM hI (fun hp => ?_) (fun hp => ?_)
  · dsimp only [Option.toList_some, Option.toList_none, List.cons_append, List.nil_append]
    have gp := hp
    obtain ⟨kp, rfl, bp⟩ := gp
    have ep := r_NP hI
    refine J_if_eq_n hC (by decide) (tgt := 30) dX10_permitStart_10 rfl (fun hf => absurd hf (by omega)) (fun _ => ?_)
    refine J_aload_n hC dX10_permitStart_13 rfl rfl ?_
    refine gX10_7 hC hM dX10_permitStart_14 ?_
    refine J_sipush (v := nI 214) hC dX10_permitStart_17 (by decide) ?_
    refine J_iconst (v := nI 3) hC dX10_permitStart_20 (by decide) ?_
    refine J_iload_n hC dX10_permitStart_21 rfl rfl ?_
    refine J_imul_n hC dX10_permitStart_22 ?_
    refine J_iadd_n hC dX10_permitStart_23 ?_
    refine J_iconst (v := nI 1) hC dX10_permitStart_24 (by decide) ?_
    refine J_iadd_n hC dX10_permitStart_25 ?_
    refine J_iaload hC (hM.1 1 (by decide)) rfl rfl (by omega) (by decide) dX10_permitStart_26 ?_
    refine J_goto (tgt := 35) hC dX10_permitStart_27 rfl ?_
    refine J_ireturn hC hR dX10_permitStart_35 (by decide) (by decide) ?_
    unfold aPf at hq
    rw [cl_n (k := kp) (by omega)] at hq
    rw [chk_t hp] at hq
    dsimp only at hq
    rw [hτ] at hq
    exact hq
  · dsimp only [Option.toList_some, Option.toList_none, List.cons_append, List.nil_append]
    refine J_if_eq_n hC (by decide) (tgt := 30) dX10_permitStart_10 rfl (fun _ => ?_) (fun hf => absurd hf (by omega))
    refine J_aload_n hC dX10_permitStart_30 rfl rfl ?_
    refine J_iconst (v := nI 1) hC dX10_permitStart_31 (by decide) ?_
    refine iX10_308 hC hM rfl ⟨by decide, by decide⟩ ⟨by decide, by decide⟩ (Nat.le_of_ble_eq_true rfl) dX10_permitStart_32 ?_
    refine c_X10_fail hM ?_
    dsimp only [Option.toList_some, Option.toList_none, List.cons_append, List.nil_append]
    refine J_ireturn hC hR dX10_permitStart_35 (by decide) (by decide) ?_
    unfold aPf at hq
    rw [chk_f hp] at hq
    dsimp only at hq
    rw [← h9] at hq
    exact hq
set_option maxHeartbeats 4000000 in
set_option maxRecDepth 100000 in
theorem c_X10_permitDuration {G : GC} {w : Lay} {σ : Mem} {Q : Lay → Option Value → Mem → Prop} {Qx : Lay → String → Mem → Prop} {hm : Nat} (hM : LM w) (hI : RowOK hm (rd σ 13 1))  {p : Int32} (hq : Q w (some (.int ((aPf 2) (rd σ 13 1) p).2)) (thr σ ((aPf 2) (rd σ 13 1) p).1)) : MX10_permitDuration G w σ [.ref (w.2.1 13 0), .int p] Q Qx := by
  refine mt_start (by decide) rfl (Nat.le_of_ble_eq_true rfl) (fun E hC hR hN => ?_)
  show J G E w 0 0 0 [some (.ref (w.2.1 13 0)), some (.int p)] [] σ
  refine J_aload_n hC dX10_permitDuration_0 rfl rfl ?_
  refine J_iconst (v := nI 0) hC dX10_permitDuration_1 (by decide) ?_
  refine pX10_62 hC hM dX10_permitDuration_2 ?_
  obtain ⟨τ, hτ, hA⟩ : ∃ τ, thr σ 0 = τ ∧ rd σ 13 1 = rd τ 13 1 := ⟨_, rfl, rd_thr1.symm⟩
  have h9 : ∀ c, thr τ c = thr σ c := fun c => by rw [← hτ]; exact thr_thr
  rw [hA] at hI hq
  show J G E w 0 0 5 _ _ (thr σ 0)
  rw [hτ]
  refine J_aload_n hC dX10_permitDuration_5 rfl rfl ?_
  refine J_iload_n hC dX10_permitDuration_6 rfl rfl ?_
  refine iX10_347 hC hM rfl ⟨by decide, by decide⟩ ⟨by decide, by decide⟩ (Nat.le_of_ble_eq_true rfl) dX10_permitDuration_7 ?_
  refine k_isP hM hI (fun hp => ?_) (fun hp => ?_)
  · dsimp only [Option.toList_some, Option.toList_none, List.cons_append, List.nil_append]
    have gp := hp
    obtain ⟨kp, rfl, bp⟩ := gp
    have ep := r_NP hI
    refine J_if_eq_n hC (by decide) (tgt := 30) dX10_permitDuration_10 rfl (fun hf => absurd hf (by omega)) (fun _ => ?_)
    refine J_aload_n hC dX10_permitDuration_13 rfl rfl ?_
    refine gX10_7 hC hM dX10_permitDuration_14 ?_
    refine J_sipush (v := nI 214) hC dX10_permitDuration_17 (by decide) ?_
    refine J_iconst (v := nI 3) hC dX10_permitDuration_20 (by decide) ?_
    refine J_iload_n hC dX10_permitDuration_21 rfl rfl ?_
    refine J_imul_n hC dX10_permitDuration_22 ?_
    refine J_iadd_n hC dX10_permitDuration_23 ?_
    refine J_iconst (v := nI 2) hC dX10_permitDuration_24 (by decide) ?_
    refine J_iadd_n hC dX10_permitDuration_25 ?_
    refine J_iaload hC (hM.1 1 (by decide)) rfl rfl (by omega) (by decide) dX10_permitDuration_26 ?_
    refine J_goto (tgt := 35) hC dX10_permitDuration_27 rfl ?_
    refine J_ireturn hC hR dX10_permitDuration_35 (by decide) (by decide) ?_
    unfold aPf at hq
    rw [cl_n (k := kp) (by omega)] at hq
    rw [chk_t hp] at hq
    dsimp only at hq
    rw [hτ] at hq
    exact hq
  · dsimp only [Option.toList_some, Option.toList_none, List.cons_append, List.nil_append]
    refine J_if_eq_n hC (by decide) (tgt := 30) dX10_permitDuration_10 rfl (fun _ => ?_) (fun hf => absurd hf (by omega))
    refine J_aload_n hC dX10_permitDuration_30 rfl rfl ?_
    refine J_iconst (v := nI 1) hC dX10_permitDuration_31 (by decide) ?_
    refine iX10_308 hC hM rfl ⟨by decide, by decide⟩ ⟨by decide, by decide⟩ (Nat.le_of_ble_eq_true rfl) dX10_permitDuration_32 ?_
    refine c_X10_fail hM ?_
    dsimp only [Option.toList_some, Option.toList_none, List.cons_append, List.nil_append]
    refine J_ireturn hC hR dX10_permitDuration_35 (by decide) (by decide) ?_
    unfold aPf at hq
    rw [chk_f hp] at hq
    dsimp only at hq
    rw [← h9] at hq
    exact hq
set_option maxHeartbeats 4000000 in
set_option maxRecDepth 100000 in
theorem c_X10_whyNotPermit {G : GC} {w : Lay} {σ : Mem} {Q : Lay → Option Value → Mem → Prop} {Qx : Lay → String → Mem → Prop} {hm : Nat} (hM : LM w) (hI : RowOK hm (rd σ 13 1)) (hb9 : hm ≤ 900000) {k s d : Int32} (hq : Q w (some (.int (aWN (rd σ 13 1) k s d).2)) (thr σ (aWN (rd σ 13 1) k s d).1)) : MX10_whyNotPermit G w σ [.ref (w.2.1 13 0), .int k, .int s, .int d] Q Qx := by
  refine mt_start (by decide) rfl (Nat.le_of_ble_eq_true rfl) (fun E hC hR hN => ?_)
  show J G E w 0 0 0 [some (.ref (w.2.1 13 0)), some (.int k), some (.int s), some (.int d)] [] σ
  refine J_aload_n hC dX10_whyNotPermit_0 rfl rfl ?_
  refine J_iconst (v := nI 0) hC dX10_whyNotPermit_1 (by decide) ?_
  refine pX10_62 hC hM dX10_whyNotPermit_2 ?_
  obtain ⟨τ, hτ, hA⟩ : ∃ τ, thr σ 0 = τ ∧ rd σ 13 1 = rd τ 13 1 := ⟨_, rfl, rd_thr1.symm⟩
  have h9 : ∀ c, thr τ c = thr σ c := fun c => by rw [← hτ]; exact thr_thr
  rw [hA] at hI hq
  show J G E w 0 0 5 _ _ (thr σ 0)
  rw [hτ]
  refine J_aload_n hC dX10_whyNotPermit_5 rfl rfl ?_
  refine J_iload_n hC dX10_whyNotPermit_6 rfl rfl ?_
  refine iX10_278 hC hM rfl ⟨by decide, by decide⟩ ⟨by decide, by decide⟩ (Nat.le_of_ble_eq_true rfl) dX10_whyNotPermit_7 ?_
  refine k_isK hM hI (fun hk => ?_) (fun hk => ?_)
  · dsimp only [Option.toList_some, Option.toList_none, List.cons_append, List.nil_append]
    have gk := hk
    obtain ⟨kk, rfl, bk⟩ := gk
    have ek := r_NK hI
    refine J_if_ne_n hC (by decide) (tgt := 19) dX10_whyNotPermit_10 rfl (fun _ => ?_) (fun hf => absurd hf (by omega))
    refine J_iload_n hC dX10_whyNotPermit_19 rfl rfl ?_
    refine iX10_335 hC rfl ⟨by decide, by decide⟩ ⟨by decide, by decide⟩ (Nat.le_of_ble_eq_true rfl) dX10_whyNotPermit_20 ?_
    refine k_isHour  (fun hs => ?_) (fun hs => ?_)
    · dsimp only [Option.toList_some, Option.toList_none, List.cons_append, List.nil_append]
      have gs := hs
      obtain ⟨ks, rfl, as, bs⟩ := gs
      have cs : ks < 2 ^ 31 := by omega
      refine J_if_eq_n hC (by decide) (tgt := 46) dX10_whyNotPermit_23 rfl (fun hf => absurd hf (by omega)) (fun _ => ?_)
      refine J_iload_n hC dX10_whyNotPermit_26 rfl rfl ?_
      refine J_iconst (v := nI 1) hC dX10_whyNotPermit_27 (by decide) ?_
      refine J_bipush (v := nI 24) hC dX10_whyNotPermit_28 (by decide) ?_
      refine iX10_75 hC rfl ⟨by decide, by decide⟩ ⟨by decide, by decide⟩ (Nat.le_of_ble_eq_true rfl) dX10_whyNotPermit_30 ?_
      refine k_in (by decide) (by decide) (fun hd => ?_) (fun hd => ?_)
      · dsimp only [Option.toList_some, Option.toList_none, List.cons_append, List.nil_append]
        have gd := hd
        obtain ⟨kd, rfl, ad, bd⟩ := gd
        have cd : kd < 2 ^ 31 := by omega
        refine J_if_eq_n hC (by decide) (tgt := 46) dX10_whyNotPermit_33 rfl (fun hf => absurd hf (by omega)) (fun _ => ?_)
        refine J_aload_n hC dX10_whyNotPermit_36 rfl rfl ?_
        refine J_iload_n hC dX10_whyNotPermit_37 rfl rfl ?_
        refine J_iload_n hC dX10_whyNotPermit_38 rfl rfl ?_
        refine J_iload_n hC dX10_whyNotPermit_39 rfl rfl ?_
        refine iX10_290 hC hM rfl ⟨by decide, by decide⟩ ⟨by decide, by decide⟩ (Nat.le_of_ble_eq_true rfl) dX10_whyNotPermit_40 ?_
        refine c_X10_refusal hM hI bk (by omega) (by omega) (by have := (r_HOUR hI).2; omega) ?_
        dsimp only [Option.toList_some, Option.toList_none, List.cons_append, List.nil_append]
        refine J_goto (tgt := 51) hC dX10_whyNotPermit_43 rfl ?_
        refine J_ireturn hC hR dX10_whyNotPermit_51 (by decide) (by decide) ?_
        unfold aWN at hq
        rw [cl_n (k := kk) (by omega), cl_n (k := ks) (by omega), cl_n (k := kd) (by omega)] at hq
        rw [chk_t hk, chk_t hs, chk_t hd] at hq
        dsimp only at hq
        rw [hτ] at hq
        exact hq
      · dsimp only [Option.toList_some, Option.toList_none, List.cons_append, List.nil_append]
        refine J_if_eq_n hC (by decide) (tgt := 46) dX10_whyNotPermit_33 rfl (fun _ => ?_) (fun hf => absurd hf (by omega))
        refine J_aload_n hC dX10_whyNotPermit_46 rfl rfl ?_
        refine J_iconst (v := nI 2) hC dX10_whyNotPermit_47 (by decide) ?_
        refine iX10_308 hC hM rfl ⟨by decide, by decide⟩ ⟨by decide, by decide⟩ (Nat.le_of_ble_eq_true rfl) dX10_whyNotPermit_48 ?_
        refine c_X10_fail hM ?_
        dsimp only [Option.toList_some, Option.toList_none, List.cons_append, List.nil_append]
        refine J_ireturn hC hR dX10_whyNotPermit_51 (by decide) (by decide) ?_
        unfold aWN at hq
        rw [cl_n (k := kk) (by omega), cl_n (k := ks) (by omega)] at hq
        rw [chk_t hk, chk_t hs, chk_f hd] at hq
        dsimp only at hq
        rw [← h9] at hq
        exact hq
    · dsimp only [Option.toList_some, Option.toList_none, List.cons_append, List.nil_append]
      refine J_if_eq_n hC (by decide) (tgt := 46) dX10_whyNotPermit_23 rfl (fun _ => ?_) (fun hf => absurd hf (by omega))
      refine J_aload_n hC dX10_whyNotPermit_46 rfl rfl ?_
      refine J_iconst (v := nI 2) hC dX10_whyNotPermit_47 (by decide) ?_
      refine iX10_308 hC hM rfl ⟨by decide, by decide⟩ ⟨by decide, by decide⟩ (Nat.le_of_ble_eq_true rfl) dX10_whyNotPermit_48 ?_
      refine c_X10_fail hM ?_
      dsimp only [Option.toList_some, Option.toList_none, List.cons_append, List.nil_append]
      refine J_ireturn hC hR dX10_whyNotPermit_51 (by decide) (by decide) ?_
      unfold aWN at hq
      rw [cl_n (k := kk) (by omega)] at hq
      rw [chk_t hk, chk_f hs] at hq
      dsimp only at hq
      rw [← h9] at hq
      exact hq
  · dsimp only [Option.toList_some, Option.toList_none, List.cons_append, List.nil_append]
    refine J_if_ne_n hC (by decide) (tgt := 19) dX10_whyNotPermit_10 rfl (fun hf => absurd hf (by omega)) (fun _ => ?_)
    refine J_aload_n hC dX10_whyNotPermit_13 rfl rfl ?_
    refine J_iconst (v := nI 1) hC dX10_whyNotPermit_14 (by decide) ?_
    refine iX10_308 hC hM rfl ⟨by decide, by decide⟩ ⟨by decide, by decide⟩ (Nat.le_of_ble_eq_true rfl) dX10_whyNotPermit_15 ?_
    refine c_X10_fail hM ?_
    dsimp only [Option.toList_some, Option.toList_none, List.cons_append, List.nil_append]
    refine J_ireturn hC hR dX10_whyNotPermit_18 (by decide) (by decide) ?_
    unfold aWN at hq
    rw [chk_f hk] at hq
    dsimp only at hq
    rw [← h9] at hq
    exact hq
set_option maxHeartbeats 4000000 in
set_option maxRecDepth 100000 in
theorem c_X10_kiteInTheWay {G : GC} {w : Lay} {σ : Mem} {Q : Lay → Option Value → Mem → Prop} {Qx : Lay → String → Mem → Prop} {hm : Nat} (hM : LM w) (hI : RowOK hm (rd σ 13 1))  {k s d : Int32} (hq : Q w (some (.int (aKW (rd σ 13 1) k s d).2)) (thr σ (aKW (rd σ 13 1) k s d).1)) : MX10_kiteInTheWay G w σ [.ref (w.2.1 13 0), .int k, .int s, .int d] Q Qx := by
  refine mt_start (by decide) rfl (Nat.le_of_ble_eq_true rfl) (fun E hC hR hN => ?_)
  show J G E w 0 0 0 [some (.ref (w.2.1 13 0)), some (.int k), some (.int s), some (.int d)] [] σ
  refine J_aload_n hC dX10_kiteInTheWay_0 rfl rfl ?_
  refine J_iconst (v := nI 0) hC dX10_kiteInTheWay_1 (by decide) ?_
  refine pX10_62 hC hM dX10_kiteInTheWay_2 ?_
  obtain ⟨τ, hτ, hA⟩ : ∃ τ, thr σ 0 = τ ∧ rd σ 13 1 = rd τ 13 1 := ⟨_, rfl, rd_thr1.symm⟩
  have h9 : ∀ c, thr τ c = thr σ c := fun c => by rw [← hτ]; exact thr_thr
  rw [hA] at hI hq
  show J G E w 0 0 5 _ _ (thr σ 0)
  rw [hτ]
  refine J_aload_n hC dX10_kiteInTheWay_5 rfl rfl ?_
  refine J_iload_n hC dX10_kiteInTheWay_6 rfl rfl ?_
  refine iX10_278 hC hM rfl ⟨by decide, by decide⟩ ⟨by decide, by decide⟩ (Nat.le_of_ble_eq_true rfl) dX10_kiteInTheWay_7 ?_
  refine k_isK hM hI (fun hk => ?_) (fun hk => ?_)
  · dsimp only [Option.toList_some, Option.toList_none, List.cons_append, List.nil_append]
    have gk := hk
    obtain ⟨kk, rfl, bk⟩ := gk
    have ek := r_NK hI
    refine J_if_ne_n hC (by decide) (tgt := 19) dX10_kiteInTheWay_10 rfl (fun _ => ?_) (fun hf => absurd hf (by omega))
    refine J_iload_n hC dX10_kiteInTheWay_19 rfl rfl ?_
    refine iX10_335 hC rfl ⟨by decide, by decide⟩ ⟨by decide, by decide⟩ (Nat.le_of_ble_eq_true rfl) dX10_kiteInTheWay_20 ?_
    refine k_isHour  (fun hs => ?_) (fun hs => ?_)
    · dsimp only [Option.toList_some, Option.toList_none, List.cons_append, List.nil_append]
      have gs := hs
      obtain ⟨ks, rfl, as, bs⟩ := gs
      have cs : ks < 2 ^ 31 := by omega
      refine J_if_eq_n hC (by decide) (tgt := 46) dX10_kiteInTheWay_23 rfl (fun hf => absurd hf (by omega)) (fun _ => ?_)
      refine J_iload_n hC dX10_kiteInTheWay_26 rfl rfl ?_
      refine J_iconst (v := nI 1) hC dX10_kiteInTheWay_27 (by decide) ?_
      refine J_bipush (v := nI 24) hC dX10_kiteInTheWay_28 (by decide) ?_
      refine iX10_75 hC rfl ⟨by decide, by decide⟩ ⟨by decide, by decide⟩ (Nat.le_of_ble_eq_true rfl) dX10_kiteInTheWay_30 ?_
      refine k_in (by decide) (by decide) (fun hd => ?_) (fun hd => ?_)
      · dsimp only [Option.toList_some, Option.toList_none, List.cons_append, List.nil_append]
        have gd := hd
        obtain ⟨kd, rfl, ad, bd⟩ := gd
        have cd : kd < 2 ^ 31 := by omega
        refine J_if_eq_n hC (by decide) (tgt := 46) dX10_kiteInTheWay_33 rfl (fun hf => absurd hf (by omega)) (fun _ => ?_)
        refine J_aload_n hC dX10_kiteInTheWay_36 rfl rfl ?_
        refine J_iload_n hC dX10_kiteInTheWay_37 rfl rfl ?_
        refine J_iload_n hC dX10_kiteInTheWay_38 rfl rfl ?_
        refine J_iload_n hC dX10_kiteInTheWay_39 rfl rfl ?_
        refine iX10_153 hC hM rfl ⟨by decide, by decide⟩ ⟨by decide, by decide⟩ (Nat.le_of_ble_eq_true rfl) dX10_kiteInTheWay_40 ?_
        refine c_X10_inTheWay hM hI bk (by omega) (by omega) ?_
        dsimp only [Option.toList_some, Option.toList_none, List.cons_append, List.nil_append]
        refine J_goto (tgt := 51) hC dX10_kiteInTheWay_43 rfl ?_
        refine J_ireturn hC hR dX10_kiteInTheWay_51 (by decide) (by decide) ?_
        unfold aKW at hq
        rw [cl_n (k := kk) (by omega), cl_n (k := ks) (by omega), cl_n (k := kd) (by omega)] at hq
        rw [chk_t hk, chk_t hs, chk_t hd] at hq
        dsimp only at hq
        rw [hτ] at hq
        exact hq
      · dsimp only [Option.toList_some, Option.toList_none, List.cons_append, List.nil_append]
        refine J_if_eq_n hC (by decide) (tgt := 46) dX10_kiteInTheWay_33 rfl (fun _ => ?_) (fun hf => absurd hf (by omega))
        refine J_aload_n hC dX10_kiteInTheWay_46 rfl rfl ?_
        refine J_iconst (v := nI 2) hC dX10_kiteInTheWay_47 (by decide) ?_
        refine iX10_308 hC hM rfl ⟨by decide, by decide⟩ ⟨by decide, by decide⟩ (Nat.le_of_ble_eq_true rfl) dX10_kiteInTheWay_48 ?_
        refine c_X10_fail hM ?_
        dsimp only [Option.toList_some, Option.toList_none, List.cons_append, List.nil_append]
        refine J_ireturn hC hR dX10_kiteInTheWay_51 (by decide) (by decide) ?_
        unfold aKW at hq
        rw [cl_n (k := kk) (by omega), cl_n (k := ks) (by omega)] at hq
        rw [chk_t hk, chk_t hs, chk_f hd] at hq
        dsimp only at hq
        rw [← h9] at hq
        exact hq
    · dsimp only [Option.toList_some, Option.toList_none, List.cons_append, List.nil_append]
      refine J_if_eq_n hC (by decide) (tgt := 46) dX10_kiteInTheWay_23 rfl (fun _ => ?_) (fun hf => absurd hf (by omega))
      refine J_aload_n hC dX10_kiteInTheWay_46 rfl rfl ?_
      refine J_iconst (v := nI 2) hC dX10_kiteInTheWay_47 (by decide) ?_
      refine iX10_308 hC hM rfl ⟨by decide, by decide⟩ ⟨by decide, by decide⟩ (Nat.le_of_ble_eq_true rfl) dX10_kiteInTheWay_48 ?_
      refine c_X10_fail hM ?_
      dsimp only [Option.toList_some, Option.toList_none, List.cons_append, List.nil_append]
      refine J_ireturn hC hR dX10_kiteInTheWay_51 (by decide) (by decide) ?_
      unfold aKW at hq
      rw [cl_n (k := kk) (by omega)] at hq
      rw [chk_t hk, chk_f hs] at hq
      dsimp only at hq
      rw [← h9] at hq
      exact hq
  · dsimp only [Option.toList_some, Option.toList_none, List.cons_append, List.nil_append]
    refine J_if_ne_n hC (by decide) (tgt := 19) dX10_kiteInTheWay_10 rfl (fun hf => absurd hf (by omega)) (fun _ => ?_)
    refine J_aload_n hC dX10_kiteInTheWay_13 rfl rfl ?_
    refine J_iconst (v := nI 1) hC dX10_kiteInTheWay_14 (by decide) ?_
    refine iX10_308 hC hM rfl ⟨by decide, by decide⟩ ⟨by decide, by decide⟩ (Nat.le_of_ble_eq_true rfl) dX10_kiteInTheWay_15 ?_
    refine c_X10_fail hM ?_
    dsimp only [Option.toList_some, Option.toList_none, List.cons_append, List.nil_append]
    refine J_ireturn hC hR dX10_kiteInTheWay_18 (by decide) (by decide) ?_
    unfold aKW at hq
    rw [chk_f hk] at hq
    dsimp only at hq
    rw [← h9] at hq
    exact hq
set_option maxHeartbeats 4000000 in
set_option maxRecDepth 100000 in
theorem c_X10_reach {G : GC} {w : Lay} {σ : Mem} {Q : Lay → Option Value → Mem → Prop} {Qx : Lay → String → Mem → Prop} {hm : Nat} (hM : LM w) (hI : RowOK hm (rd σ 13 1))  {k h : Int32} (hq : Q w (some (.int (aRe (rd σ 13 1) k h).2)) (thr σ (aRe (rd σ 13 1) k h).1)) : MX10_reach G w σ [.ref (w.2.1 13 0), .int k, .int h] Q Qx := by
  refine mt_start (by decide) rfl (Nat.le_of_ble_eq_true rfl) (fun E hC hR hN => ?_)
  show J G E w 0 0 0 [some (.ref (w.2.1 13 0)), some (.int k), some (.int h)] [] σ
  refine J_aload_n hC dX10_reach_0 rfl rfl ?_
  refine J_iload_n hC dX10_reach_1 rfl rfl ?_
  refine J_iload_n hC dX10_reach_2 rfl rfl ?_
  refine iX10_341 hC hM rfl ⟨by decide, by decide⟩ ⟨by decide, by decide⟩ (Nat.le_of_ble_eq_true rfl) dX10_reach_3 ?_
  refine c_X10_asks hM hI (fun ha => ?_) (fun ha => ?_)
  · dsimp only [Option.toList_some, Option.toList_none, List.cons_append, List.nil_append]
    obtain ⟨hk, hh⟩ := ha
    obtain ⟨τ, hτ, hA⟩ : ∃ τ, thr σ 0 = τ ∧ rd σ 13 1 = rd τ 13 1 := ⟨_, rfl, rd_thr1.symm⟩
    have h9 : ∀ c, thr τ c = thr σ c := fun c => by rw [← hτ]; exact thr_thr
    rw [hA] at hI hq
    rw [hA] at hk
    rw [hτ]
    have gk := hk
    obtain ⟨kk, rfl, bk⟩ := gk
    have ek := r_NK hI
    have gh := hh
    obtain ⟨kh, rfl, ah, bh⟩ := gh
    have ch : kh < 2 ^ 31 := by omega
    refine J_if_eq_n hC (by decide) (tgt := 18) dX10_reach_6 rfl (fun hf => absurd hf (by omega)) (fun _ => ?_)
    refine J_aload_n hC dX10_reach_9 rfl rfl ?_
    refine J_iload_n hC dX10_reach_10 rfl rfl ?_
    refine J_iload_n hC dX10_reach_11 rfl rfl ?_
    refine iX10_106 hC hM rfl ⟨by decide, by decide⟩ ⟨by decide, by decide⟩ (Nat.le_of_ble_eq_true rfl) dX10_reach_12 ?_
    refine c_X10_reachOf hM hI bk ch ?_
    dsimp only [Option.toList_some, Option.toList_none, List.cons_append, List.nil_append]
    refine J_goto (tgt := 19) hC dX10_reach_15 rfl ?_
    refine J_ireturn hC hR dX10_reach_19 (by decide) (by decide) ?_
    first
    | omega
    | skip
    unfold aRe at hq
    rw [chk_t hk, chk_t hh, cl_n (k := kk) (by omega), cl_n (k := kh) (by omega)] at hq
    dsimp only at hq
    rw [hτ] at hq
    exact hq
  · dsimp only [Option.toList_some, Option.toList_none, List.cons_append, List.nil_append]
    intro hc hv
    refine J_if_eq_n hC (by decide) (tgt := 18) dX10_reach_6 rfl (fun _ => ?_) (fun hf => absurd hf (by omega))
    refine J_iconst (v := nI 0) hC dX10_reach_18 (by decide) ?_
    refine J_ireturn hC hR dX10_reach_19 (by decide) (by decide) ?_
    unfold aRe at hq
    first
    | (rw [hv] at hq; exact hq)
    | omega
set_option maxHeartbeats 4000000 in
set_option maxRecDepth 100000 in
theorem c_X10_endX {G : GC} {w : Lay} {σ : Mem} {Q : Lay → Option Value → Mem → Prop} {Qx : Lay → String → Mem → Prop} {hm : Nat} (hM : LM w) (hI : RowOK hm (rd σ 13 1))  {k h : Int32} (hq : Q w (some (.int (aEX (rd σ 13 1) k h).2)) (thr σ (aEX (rd σ 13 1) k h).1)) : MX10_endX G w σ [.ref (w.2.1 13 0), .int k, .int h] Q Qx := by
  refine mt_start (by decide) rfl (Nat.le_of_ble_eq_true rfl) (fun E hC hR hN => ?_)
  show J G E w 0 0 0 [some (.ref (w.2.1 13 0)), some (.int k), some (.int h)] [] σ
  refine J_aload_n hC dX10_endX_0 rfl rfl ?_
  refine J_iload_n hC dX10_endX_1 rfl rfl ?_
  refine J_iload_n hC dX10_endX_2 rfl rfl ?_
  refine iX10_341 hC hM rfl ⟨by decide, by decide⟩ ⟨by decide, by decide⟩ (Nat.le_of_ble_eq_true rfl) dX10_endX_3 ?_
  refine c_X10_asks hM hI (fun ha => ?_) (fun ha => ?_)
  · dsimp only [Option.toList_some, Option.toList_none, List.cons_append, List.nil_append]
    obtain ⟨hk, hh⟩ := ha
    obtain ⟨τ, hτ, hA⟩ : ∃ τ, thr σ 0 = τ ∧ rd σ 13 1 = rd τ 13 1 := ⟨_, rfl, rd_thr1.symm⟩
    have h9 : ∀ c, thr τ c = thr σ c := fun c => by rw [← hτ]; exact thr_thr
    rw [hA] at hI hq
    rw [hA] at hk
    rw [hτ]
    have gk := hk
    obtain ⟨kk, rfl, bk⟩ := gk
    have ek := r_NK hI
    have gh := hh
    obtain ⟨kh, rfl, ah, bh⟩ := gh
    have ch : kh < 2 ^ 31 := by omega
    refine J_if_eq_n hC (by decide) (tgt := 18) dX10_endX_6 rfl (fun hf => absurd hf (by omega)) (fun _ => ?_)
    refine J_aload_n hC dX10_endX_9 rfl rfl ?_
    refine J_iload_n hC dX10_endX_10 rfl rfl ?_
    refine J_iload_n hC dX10_endX_11 rfl rfl ?_
    refine iX10_121 hC hM rfl ⟨by decide, by decide⟩ ⟨by decide, by decide⟩ (Nat.le_of_ble_eq_true rfl) dX10_endX_12 ?_
    refine c_X10_xEnd hM hI bk ch ?_
    dsimp only [Option.toList_some, Option.toList_none, List.cons_append, List.nil_append]
    refine J_goto (tgt := 19) hC dX10_endX_15 rfl ?_
    refine J_ireturn hC hR dX10_endX_19 (by decide) (by decide) ?_
    first
    | omega
    | skip
    unfold aEX at hq
    rw [chk_t hk, chk_t hh, cl_n (k := kk) (by omega), cl_n (k := kh) (by omega)] at hq
    dsimp only at hq
    rw [hτ] at hq
    exact hq
  · dsimp only [Option.toList_some, Option.toList_none, List.cons_append, List.nil_append]
    intro hc hv
    refine J_if_eq_n hC (by decide) (tgt := 18) dX10_endX_6 rfl (fun _ => ?_) (fun hf => absurd hf (by omega))
    refine J_iconst (v := nI 0) hC dX10_endX_18 (by decide) ?_
    refine J_ireturn hC hR dX10_endX_19 (by decide) (by decide) ?_
    unfold aEX at hq
    first
    | (rw [hv] at hq; exact hq)
    | omega
set_option maxHeartbeats 4000000 in
set_option maxRecDepth 100000 in
theorem c_X10_endY {G : GC} {w : Lay} {σ : Mem} {Q : Lay → Option Value → Mem → Prop} {Qx : Lay → String → Mem → Prop} {hm : Nat} (hM : LM w) (hI : RowOK hm (rd σ 13 1))  {k h : Int32} (hq : Q w (some (.int (aEY (rd σ 13 1) k h).2)) (thr σ (aEY (rd σ 13 1) k h).1)) : MX10_endY G w σ [.ref (w.2.1 13 0), .int k, .int h] Q Qx := by
  refine mt_start (by decide) rfl (Nat.le_of_ble_eq_true rfl) (fun E hC hR hN => ?_)
  show J G E w 0 0 0 [some (.ref (w.2.1 13 0)), some (.int k), some (.int h)] [] σ
  refine J_aload_n hC dX10_endY_0 rfl rfl ?_
  refine J_iload_n hC dX10_endY_1 rfl rfl ?_
  refine J_iload_n hC dX10_endY_2 rfl rfl ?_
  refine iX10_341 hC hM rfl ⟨by decide, by decide⟩ ⟨by decide, by decide⟩ (Nat.le_of_ble_eq_true rfl) dX10_endY_3 ?_
  refine c_X10_asks hM hI (fun ha => ?_) (fun ha => ?_)
  · dsimp only [Option.toList_some, Option.toList_none, List.cons_append, List.nil_append]
    obtain ⟨hk, hh⟩ := ha
    obtain ⟨τ, hτ, hA⟩ : ∃ τ, thr σ 0 = τ ∧ rd σ 13 1 = rd τ 13 1 := ⟨_, rfl, rd_thr1.symm⟩
    have h9 : ∀ c, thr τ c = thr σ c := fun c => by rw [← hτ]; exact thr_thr
    rw [hA] at hI hq
    rw [hA] at hk
    rw [hτ]
    have gk := hk
    obtain ⟨kk, rfl, bk⟩ := gk
    have ek := r_NK hI
    have gh := hh
    obtain ⟨kh, rfl, ah, bh⟩ := gh
    have ch : kh < 2 ^ 31 := by omega
    refine J_if_eq_n hC (by decide) (tgt := 18) dX10_endY_6 rfl (fun hf => absurd hf (by omega)) (fun _ => ?_)
    refine J_aload_n hC dX10_endY_9 rfl rfl ?_
    refine J_iload_n hC dX10_endY_10 rfl rfl ?_
    refine J_iload_n hC dX10_endY_11 rfl rfl ?_
    refine iX10_124 hC hM rfl ⟨by decide, by decide⟩ ⟨by decide, by decide⟩ (Nat.le_of_ble_eq_true rfl) dX10_endY_12 ?_
    refine c_X10_yEnd hM hI bk ch ?_
    dsimp only [Option.toList_some, Option.toList_none, List.cons_append, List.nil_append]
    refine J_goto (tgt := 19) hC dX10_endY_15 rfl ?_
    refine J_ireturn hC hR dX10_endY_19 (by decide) (by decide) ?_
    first
    | omega
    | skip
    unfold aEY at hq
    rw [chk_t hk, chk_t hh, cl_n (k := kk) (by omega), cl_n (k := kh) (by omega)] at hq
    dsimp only at hq
    rw [hτ] at hq
    exact hq
  · dsimp only [Option.toList_some, Option.toList_none, List.cons_append, List.nil_append]
    intro hc hv
    refine J_if_eq_n hC (by decide) (tgt := 18) dX10_endY_6 rfl (fun _ => ?_) (fun hf => absurd hf (by omega))
    refine J_iconst (v := nI 0) hC dX10_endY_18 (by decide) ?_
    refine J_ireturn hC hR dX10_endY_19 (by decide) (by decide) ?_
    unfold aEY at hq
    first
    | (rw [hv] at hq; exact hq)
    | omega
set_option maxHeartbeats 4000000 in
set_option maxRecDepth 100000 in
theorem c_X10_canFly {G : GC} {w : Lay} {σ : Mem} {Q : Lay → Option Value → Mem → Prop} {Qx : Lay → String → Mem → Prop} {hm : Nat} (hM : LM w) (hI : RowOK hm (rd σ 13 1))  {k h : Int32} (hq : Q w (some (.int (aCF (rd σ 13 1) k h).2)) (thr σ (aCF (rd σ 13 1) k h).1)) : MX10_canFly G w σ [.ref (w.2.1 13 0), .int k, .int h] Q Qx := by
  refine mt_start (by decide) rfl (Nat.le_of_ble_eq_true rfl) (fun E hC hR hN => ?_)
  show J G E w 0 0 0 [some (.ref (w.2.1 13 0)), some (.int k), some (.int h)] [] σ
  refine J_aload_n hC dX10_canFly_0 rfl rfl ?_
  refine J_iload_n hC dX10_canFly_1 rfl rfl ?_
  refine J_iload_n hC dX10_canFly_2 rfl rfl ?_
  refine iX10_341 hC hM rfl ⟨by decide, by decide⟩ ⟨by decide, by decide⟩ (Nat.le_of_ble_eq_true rfl) dX10_canFly_3 ?_
  refine c_X10_asks hM hI (fun ha => ?_) (fun ha => ?_)
  · dsimp only [Option.toList_some, Option.toList_none, List.cons_append, List.nil_append]
    obtain ⟨hk, hh⟩ := ha
    obtain ⟨τ, hτ, hA⟩ : ∃ τ, thr σ 0 = τ ∧ rd σ 13 1 = rd τ 13 1 := ⟨_, rfl, rd_thr1.symm⟩
    have h9 : ∀ c, thr τ c = thr σ c := fun c => by rw [← hτ]; exact thr_thr
    rw [hA] at hI hq
    rw [hA] at hk
    rw [hτ]
    have gk := hk
    obtain ⟨kk, rfl, bk⟩ := gk
    have ek := r_NK hI
    have gh := hh
    obtain ⟨kh, rfl, ah, bh⟩ := gh
    have ch : kh < 2 ^ 31 := by omega
    refine J_if_eq_n hC (by decide) (tgt := 22) dX10_canFly_6 rfl (fun hf => absurd hf (by omega)) (fun _ => ?_)
    refine J_aload_n hC dX10_canFly_9 rfl rfl ?_
    refine J_iload_n hC dX10_canFly_10 rfl rfl ?_
    refine J_iload_n hC dX10_canFly_11 rfl rfl ?_
    refine iX10_150 hC hM rfl ⟨by decide, by decide⟩ ⟨by decide, by decide⟩ (Nat.le_of_ble_eq_true rfl) dX10_canFly_12 ?_
    refine c_X10_flies hM hI bk ch (fun hy => ?_) (fun hy => ?_)
    · dsimp only [Option.toList_some, Option.toList_none, List.cons_append, List.nil_append]
      refine J_if_eq_n hC (by decide) (tgt := 22) dX10_canFly_15 rfl (fun hf => absurd hf (by omega)) (fun _ => ?_)
      refine J_iconst (v := nI 1) hC dX10_canFly_18 (by decide) ?_
      refine J_goto (tgt := 23) hC dX10_canFly_19 rfl ?_
      refine J_zreturn hC hR dX10_canFly_23 (by decide) (by decide) (by decide) ?_
      first
      | omega
      | skip
      unfold aCF at hq
      rw [chk_t hk, chk_t hh, cl_n (k := kk) (by omega), cl_n (k := kh) (by omega)] at hq
      dsimp only at hq
      rw [hτ] at hq
      rw [ct_t hy] at hq
      exact hq
    · dsimp only [Option.toList_some, Option.toList_none, List.cons_append, List.nil_append]
      refine J_if_eq_n hC (by decide) (tgt := 22) dX10_canFly_15 rfl (fun _ => ?_) (fun hf => absurd hf (by omega))
      refine J_iconst (v := nI 0) hC dX10_canFly_22 (by decide) ?_
      refine J_zreturn hC hR dX10_canFly_23 (by decide) (by decide) (by decide) ?_
      first
      | omega
      | skip
      unfold aCF at hq
      rw [chk_t hk, chk_t hh, cl_n (k := kk) (by omega), cl_n (k := kh) (by omega)] at hq
      dsimp only at hq
      rw [hτ] at hq
      rw [ct_f hy] at hq
      exact hq
  · dsimp only [Option.toList_some, Option.toList_none, List.cons_append, List.nil_append]
    intro hc hv
    refine J_if_eq_n hC (by decide) (tgt := 22) dX10_canFly_6 rfl (fun _ => ?_) (fun hf => absurd hf (by omega))
    refine J_iconst (v := nI 0) hC dX10_canFly_22 (by decide) ?_
    refine J_zreturn hC hR dX10_canFly_23 (by decide) (by decide) (by decide) ?_
    unfold aCF at hq
    first
    | (rw [hv] at hq; exact hq)
    | omega
set_option maxHeartbeats 4000000 in
set_option maxRecDepth 100000 in
theorem c_X10_hasPermit {G : GC} {w : Lay} {σ : Mem} {Q : Lay → Option Value → Mem → Prop} {Qx : Lay → String → Mem → Prop} {hm : Nat} (hM : LM w) (hI : RowOK hm (rd σ 13 1))  {k h : Int32} (hq : Q w (some (.int (aHP (rd σ 13 1) k h).2)) (thr σ (aHP (rd σ 13 1) k h).1)) : MX10_hasPermit G w σ [.ref (w.2.1 13 0), .int k, .int h] Q Qx := by
  refine mt_start (by decide) rfl (Nat.le_of_ble_eq_true rfl) (fun E hC hR hN => ?_)
  show J G E w 0 0 0 [some (.ref (w.2.1 13 0)), some (.int k), some (.int h)] [] σ
  refine J_aload_n hC dX10_hasPermit_0 rfl rfl ?_
  refine J_iload_n hC dX10_hasPermit_1 rfl rfl ?_
  refine J_iload_n hC dX10_hasPermit_2 rfl rfl ?_
  refine iX10_341 hC hM rfl ⟨by decide, by decide⟩ ⟨by decide, by decide⟩ (Nat.le_of_ble_eq_true rfl) dX10_hasPermit_3 ?_
  refine c_X10_asks hM hI (fun ha => ?_) (fun ha => ?_)
  · dsimp only [Option.toList_some, Option.toList_none, List.cons_append, List.nil_append]
    obtain ⟨hk, hh⟩ := ha
    obtain ⟨τ, hτ, hA⟩ : ∃ τ, thr σ 0 = τ ∧ rd σ 13 1 = rd τ 13 1 := ⟨_, rfl, rd_thr1.symm⟩
    have h9 : ∀ c, thr τ c = thr σ c := fun c => by rw [← hτ]; exact thr_thr
    rw [hA] at hI hq
    rw [hA] at hk
    rw [hτ]
    have gk := hk
    obtain ⟨kk, rfl, bk⟩ := gk
    have ek := r_NK hI
    have gh := hh
    obtain ⟨kh, rfl, ah, bh⟩ := gh
    have ch : kh < 2 ^ 31 := by omega
    refine J_if_eq_n hC (by decide) (tgt := 22) dX10_hasPermit_6 rfl (fun hf => absurd hf (by omega)) (fun _ => ?_)
    refine J_aload_n hC dX10_hasPermit_9 rfl rfl ?_
    refine J_iload_n hC dX10_hasPermit_10 rfl rfl ?_
    refine J_iload_n hC dX10_hasPermit_11 rfl rfl ?_
    refine iX10_138 hC hM rfl ⟨by decide, by decide⟩ ⟨by decide, by decide⟩ (Nat.le_of_ble_eq_true rfl) dX10_hasPermit_12 ?_
    refine c_X10_permitted hM hI (by omega) ch (fun hy => ?_) (fun hy => ?_)
    · dsimp only [Option.toList_some, Option.toList_none, List.cons_append, List.nil_append]
      refine J_if_eq_n hC (by decide) (tgt := 22) dX10_hasPermit_15 rfl (fun hf => absurd hf (by omega)) (fun _ => ?_)
      refine J_iconst (v := nI 1) hC dX10_hasPermit_18 (by decide) ?_
      refine J_goto (tgt := 23) hC dX10_hasPermit_19 rfl ?_
      refine J_zreturn hC hR dX10_hasPermit_23 (by decide) (by decide) (by decide) ?_
      first
      | omega
      | skip
      unfold aHP at hq
      rw [chk_t hk, chk_t hh, cl_n (k := kk) (by omega), cl_n (k := kh) (by omega)] at hq
      dsimp only at hq
      rw [hτ] at hq
      rw [ct_t hy] at hq
      exact hq
    · dsimp only [Option.toList_some, Option.toList_none, List.cons_append, List.nil_append]
      refine J_if_eq_n hC (by decide) (tgt := 22) dX10_hasPermit_15 rfl (fun _ => ?_) (fun hf => absurd hf (by omega))
      refine J_iconst (v := nI 0) hC dX10_hasPermit_22 (by decide) ?_
      refine J_zreturn hC hR dX10_hasPermit_23 (by decide) (by decide) (by decide) ?_
      first
      | omega
      | skip
      unfold aHP at hq
      rw [chk_t hk, chk_t hh, cl_n (k := kk) (by omega), cl_n (k := kh) (by omega)] at hq
      dsimp only at hq
      rw [hτ] at hq
      rw [ct_f hy] at hq
      exact hq
  · dsimp only [Option.toList_some, Option.toList_none, List.cons_append, List.nil_append]
    intro hc hv
    refine J_if_eq_n hC (by decide) (tgt := 22) dX10_hasPermit_6 rfl (fun _ => ?_) (fun hf => absurd hf (by omega))
    refine J_iconst (v := nI 0) hC dX10_hasPermit_22 (by decide) ?_
    refine J_zreturn hC hR dX10_hasPermit_23 (by decide) (by decide) (by decide) ?_
    unfold aHP at hq
    first
    | (rw [hv] at hq; exact hq)
    | omega
set_option maxHeartbeats 4000000 in
set_option maxRecDepth 100000 in
theorem c_X10_doCross {G : GC} {w : Lay} {σ : Mem} {Q : Lay → Option Value → Mem → Prop} {Qx : Lay → String → Mem → Prop} {hm : Nat} (hM : LM w) (hI : RowOK hm (rd σ 13 1))  {k i h : Int32} (hq : Q w (some (.int (aDC (rd σ 13 1) k i h).2)) (thr σ (aDC (rd σ 13 1) k i h).1)) : MX10_doCross G w σ [.ref (w.2.1 13 0), .int k, .int i, .int h] Q Qx := by
  refine mt_start (by decide) rfl (Nat.le_of_ble_eq_true rfl) (fun E hC hR hN => ?_)
  show J G E w 0 0 0 [some (.ref (w.2.1 13 0)), some (.int k), some (.int i), some (.int h)] [] σ
  refine J_aload_n hC dX10_doCross_0 rfl rfl ?_
  refine J_iconst (v := nI 0) hC dX10_doCross_1 (by decide) ?_
  refine pX10_62 hC hM dX10_doCross_2 ?_
  obtain ⟨τ, hτ, hA⟩ : ∃ τ, thr σ 0 = τ ∧ rd σ 13 1 = rd τ 13 1 := ⟨_, rfl, rd_thr1.symm⟩
  have h9 : ∀ c, thr τ c = thr σ c := fun c => by rw [← hτ]; exact thr_thr
  rw [hA] at hI hq
  show J G E w 0 0 5 _ _ (thr σ 0)
  rw [hτ]
  refine J_aload_n hC dX10_doCross_5 rfl rfl ?_
  refine J_iload_n hC dX10_doCross_6 rfl rfl ?_
  refine iX10_278 hC hM rfl ⟨by decide, by decide⟩ ⟨by decide, by decide⟩ (Nat.le_of_ble_eq_true rfl) dX10_doCross_7 ?_
  refine k_isK hM hI (fun hk => ?_) (fun hk => ?_)
  · dsimp only [Option.toList_some, Option.toList_none, List.cons_append, List.nil_append]
    have gk := hk
    obtain ⟨kk, rfl, bk⟩ := gk
    have ek := r_NK hI
    refine J_if_eq_n hC (by decide) (tgt := 21) dX10_doCross_10 rfl (fun hf => absurd hf (by omega)) (fun _ => ?_)
    refine J_aload_n hC dX10_doCross_13 rfl rfl ?_
    refine J_iload_n hC dX10_doCross_14 rfl rfl ?_
    refine iX10_278 hC hM rfl ⟨by decide, by decide⟩ ⟨by decide, by decide⟩ (Nat.le_of_ble_eq_true rfl) dX10_doCross_15 ?_
    refine k_isK hM hI (fun hi => ?_) (fun hi => ?_)
    · dsimp only [Option.toList_some, Option.toList_none, List.cons_append, List.nil_append]
      have gi := hi
      obtain ⟨ki, rfl, bi⟩ := gi
      have ei := r_NK hI
      refine J_if_ne_n hC (by decide) (tgt := 27) dX10_doCross_18 rfl (fun _ => ?_) (fun hf => absurd hf (by omega))
      refine J_iload_n hC dX10_doCross_27 rfl rfl ?_
      refine J_iload_n hC dX10_doCross_28 rfl rfl ?_
      refine J_icmp_eq_n hC (by omega) (by omega) (tgt := 39) dX10_doCross_29 rfl (fun hne => ?_) (fun hne => ?_)
      · have hn : ¬ (nI kk ≠ nI ki) := fun q => q (by rw [hne])
        refine J_aload_n hC dX10_doCross_39 rfl rfl ?_
        refine J_iconst (v := nI 2) hC dX10_doCross_40 (by decide) ?_
        refine iX10_344 hC hM rfl ⟨by decide, by decide⟩ ⟨by decide, by decide⟩ (Nat.le_of_ble_eq_true rfl) dX10_doCross_41 ?_
        refine c_X10_not hM ?_
        dsimp only [Option.toList_some, Option.toList_none, List.cons_append, List.nil_append]
        refine J_zreturn hC hR dX10_doCross_44 (by decide) (by decide) (by decide) ?_
        unfold aDC at hq
        rw [cl_n (k := kk) (by omega), cl_n (k := ki) (by omega)] at hq
        rw [chk_t hk, chk_t hi, chk_f hn] at hq
        dsimp only at hq
        rw [← h9] at hq
        exact hq
      · have hn : nI kk ≠ nI ki := fun q => hne (by have q2 := congrArg cl q; rw [cl_n (by omega), cl_n (by omega)] at q2; exact q2)
        refine J_iload_n hC dX10_doCross_32 rfl rfl ?_
        refine iX10_335 hC rfl ⟨by decide, by decide⟩ ⟨by decide, by decide⟩ (Nat.le_of_ble_eq_true rfl) dX10_doCross_33 ?_
        refine k_isHour  (fun hh => ?_) (fun hh => ?_)
        · dsimp only [Option.toList_some, Option.toList_none, List.cons_append, List.nil_append]
          have gh := hh
          obtain ⟨kh, rfl, ah, bh⟩ := gh
          have ch : kh < 2 ^ 31 := by omega
          refine J_if_ne_n hC (by decide) (tgt := 45) dX10_doCross_36 rfl (fun _ => ?_) (fun hf => absurd hf (by omega))
          refine J_aload_n hC dX10_doCross_45 rfl rfl ?_
          refine J_iload_n hC dX10_doCross_46 rfl rfl ?_
          refine J_iload_n hC dX10_doCross_47 rfl rfl ?_
          refine J_iload_n hC dX10_doCross_48 rfl rfl ?_
          refine iX10_141 hC hM rfl ⟨by decide, by decide⟩ ⟨by decide, by decide⟩ (Nat.le_of_ble_eq_true rfl) dX10_doCross_49 ?_
          refine c_X10_cross hM hI bk bi ch (fun hy => ?_) (fun hy => ?_)
          · dsimp only [Option.toList_some, Option.toList_none, List.cons_append, List.nil_append]
            refine J_zreturn hC hR dX10_doCross_52 (by decide) (by decide) (by decide) ?_
            unfold aDC at hq
            rw [cl_n (k := kk) (by omega), cl_n (k := ki) (by omega), cl_n (k := kh) (by omega)] at hq
            rw [chk_t hk, chk_t hi, chk_t hn, chk_t hh] at hq
            dsimp only at hq
            rw [hτ] at hq
            rw [ct_t hy] at hq
            exact hq
          · dsimp only [Option.toList_some, Option.toList_none, List.cons_append, List.nil_append]
            refine J_zreturn hC hR dX10_doCross_52 (by decide) (by decide) (by decide) ?_
            unfold aDC at hq
            rw [cl_n (k := kk) (by omega), cl_n (k := ki) (by omega), cl_n (k := kh) (by omega)] at hq
            rw [chk_t hk, chk_t hi, chk_t hn, chk_t hh] at hq
            dsimp only at hq
            rw [hτ] at hq
            rw [ct_f hy] at hq
            exact hq
        · dsimp only [Option.toList_some, Option.toList_none, List.cons_append, List.nil_append]
          refine J_if_ne_n hC (by decide) (tgt := 45) dX10_doCross_36 rfl (fun hf => absurd hf (by omega)) (fun _ => ?_)
          refine J_aload_n hC dX10_doCross_39 rfl rfl ?_
          refine J_iconst (v := nI 2) hC dX10_doCross_40 (by decide) ?_
          refine iX10_344 hC hM rfl ⟨by decide, by decide⟩ ⟨by decide, by decide⟩ (Nat.le_of_ble_eq_true rfl) dX10_doCross_41 ?_
          refine c_X10_not hM ?_
          dsimp only [Option.toList_some, Option.toList_none, List.cons_append, List.nil_append]
          refine J_zreturn hC hR dX10_doCross_44 (by decide) (by decide) (by decide) ?_
          unfold aDC at hq
          rw [cl_n (k := kk) (by omega), cl_n (k := ki) (by omega)] at hq
          rw [chk_t hk, chk_t hi, chk_t hn, chk_f hh] at hq
          dsimp only at hq
          rw [← h9] at hq
          exact hq
    · dsimp only [Option.toList_some, Option.toList_none, List.cons_append, List.nil_append]
      refine J_if_ne_n hC (by decide) (tgt := 27) dX10_doCross_18 rfl (fun hf => absurd hf (by omega)) (fun _ => ?_)
      refine J_aload_n hC dX10_doCross_21 rfl rfl ?_
      refine J_iconst (v := nI 1) hC dX10_doCross_22 (by decide) ?_
      refine iX10_344 hC hM rfl ⟨by decide, by decide⟩ ⟨by decide, by decide⟩ (Nat.le_of_ble_eq_true rfl) dX10_doCross_23 ?_
      refine c_X10_not hM ?_
      dsimp only [Option.toList_some, Option.toList_none, List.cons_append, List.nil_append]
      refine J_zreturn hC hR dX10_doCross_26 (by decide) (by decide) (by decide) ?_
      unfold aDC at hq
      rw [cl_n (k := kk) (by omega)] at hq
      rw [chk_t hk, chk_f hi] at hq
      dsimp only at hq
      rw [← h9] at hq
      exact hq
  · dsimp only [Option.toList_some, Option.toList_none, List.cons_append, List.nil_append]
    refine J_if_eq_n hC (by decide) (tgt := 21) dX10_doCross_10 rfl (fun _ => ?_) (fun hf => absurd hf (by omega))
    refine J_aload_n hC dX10_doCross_21 rfl rfl ?_
    refine J_iconst (v := nI 1) hC dX10_doCross_22 (by decide) ?_
    refine iX10_344 hC hM rfl ⟨by decide, by decide⟩ ⟨by decide, by decide⟩ (Nat.le_of_ble_eq_true rfl) dX10_doCross_23 ?_
    refine c_X10_not hM ?_
    dsimp only [Option.toList_some, Option.toList_none, List.cons_append, List.nil_append]
    refine J_zreturn hC hR dX10_doCross_26 (by decide) (by decide) (by decide) ?_
    unfold aDC at hq
    rw [chk_f hk] at hq
    dsimp only at hq
    rw [← h9] at hq
    exact hq
set_option maxHeartbeats 4000000 in
set_option maxRecDepth 100000 in
theorem c_X10_guiltyKite {G : GC} {w : Lay} {σ : Mem} {Q : Lay → Option Value → Mem → Prop} {Qx : Lay → String → Mem → Prop} {hm : Nat} (hM : LM w) (hI : RowOK hm (rd σ 13 1)) (hb9 : hm ≤ 900000) {k i : Int32} (hq : Q w (some (.int (aGK (rd σ 13 1) k i).2)) (thr σ (aGK (rd σ 13 1) k i).1)) : MX10_guiltyKite G w σ [.ref (w.2.1 13 0), .int k, .int i] Q Qx := by
  refine mt_start (by decide) rfl (Nat.le_of_ble_eq_true rfl) (fun E hC hR hN => ?_)
  show J G E w 0 0 0 [some (.ref (w.2.1 13 0)), some (.int k), some (.int i)] [] σ
  refine J_aload_n hC dX10_guiltyKite_0 rfl rfl ?_
  refine J_iconst (v := nI 0) hC dX10_guiltyKite_1 (by decide) ?_
  refine pX10_62 hC hM dX10_guiltyKite_2 ?_
  obtain ⟨τ, hτ, hA⟩ : ∃ τ, thr σ 0 = τ ∧ rd σ 13 1 = rd τ 13 1 := ⟨_, rfl, rd_thr1.symm⟩
  have h9 : ∀ c, thr τ c = thr σ c := fun c => by rw [← hτ]; exact thr_thr
  rw [hA] at hI hq
  show J G E w 0 0 5 _ _ (thr σ 0)
  rw [hτ]
  refine J_aload_n hC dX10_guiltyKite_5 rfl rfl ?_
  refine J_iload_n hC dX10_guiltyKite_6 rfl rfl ?_
  refine iX10_278 hC hM rfl ⟨by decide, by decide⟩ ⟨by decide, by decide⟩ (Nat.le_of_ble_eq_true rfl) dX10_guiltyKite_7 ?_
  refine k_isK hM hI (fun hk => ?_) (fun hk => ?_)
  · dsimp only [Option.toList_some, Option.toList_none, List.cons_append, List.nil_append]
    have gk := hk
    obtain ⟨kk, rfl, bk⟩ := gk
    have ek := r_NK hI
    refine J_if_eq_n hC (by decide) (tgt := 21) dX10_guiltyKite_10 rfl (fun hf => absurd hf (by omega)) (fun _ => ?_)
    refine J_aload_n hC dX10_guiltyKite_13 rfl rfl ?_
    refine J_iload_n hC dX10_guiltyKite_14 rfl rfl ?_
    refine iX10_278 hC hM rfl ⟨by decide, by decide⟩ ⟨by decide, by decide⟩ (Nat.le_of_ble_eq_true rfl) dX10_guiltyKite_15 ?_
    refine k_isK hM hI (fun hi => ?_) (fun hi => ?_)
    · dsimp only [Option.toList_some, Option.toList_none, List.cons_append, List.nil_append]
      have gi := hi
      obtain ⟨ki, rfl, bi⟩ := gi
      have ei := r_NK hI
      refine J_if_ne_n hC (by decide) (tgt := 27) dX10_guiltyKite_18 rfl (fun _ => ?_) (fun hf => absurd hf (by omega))
      refine J_iload_n hC dX10_guiltyKite_27 rfl rfl ?_
      refine J_iload_n hC dX10_guiltyKite_28 rfl rfl ?_
      refine J_icmp_ne_n hC (by omega) (by omega) (tgt := 38) dX10_guiltyKite_29 rfl (fun hne => ?_) (fun hne => ?_)
      · have hn : nI kk ≠ nI ki := fun q => hne (by have q2 := congrArg cl q; rw [cl_n (by omega), cl_n (by omega)] at q2; exact q2)
        refine J_aload_n hC dX10_guiltyKite_38 rfl rfl ?_
        refine J_iload_n hC dX10_guiltyKite_39 rfl rfl ?_
        refine J_bipush (v := nI 6) hC dX10_guiltyKite_40 (by decide) ?_
        refine iX10_79 hC hM rfl ⟨by decide, by decide⟩ ⟨by decide, by decide⟩ (Nat.le_of_ble_eq_true rfl) dX10_guiltyKite_42 ?_
        refine c_X10_of hM (by omega) ?_
        dsimp only [Option.toList_some, Option.toList_none, List.cons_append, List.nil_append]
        have j1 := (r_KS hI bk).2
        refine J_top (r_KS hI bk).1 ?_
        refine J_iconst (v := nI 1) hC dX10_guiltyKite_45 (by decide) ?_
        refine J_icmp_ne_n hC (by omega) (by decide) (tgt := 69) dX10_guiltyKite_46 rfl (fun s1 => ?_) (fun s1 => ?_)
        · have gs1 : ¬ (rd τ 13 1) (70 + 9 * kk + 6) = nI 1 := fun q => s1 (nv_of q (by decide))
          refine J_aload_n hC dX10_guiltyKite_69 rfl rfl ?_
          refine J_iconst (v := nI 3) hC dX10_guiltyKite_70 (by decide) ?_
          refine iX10_308 hC hM rfl ⟨by decide, by decide⟩ ⟨by decide, by decide⟩ (Nat.le_of_ble_eq_true rfl) dX10_guiltyKite_71 ?_
          refine c_X10_fail hM ?_
          dsimp only [Option.toList_some, Option.toList_none, List.cons_append, List.nil_append]
          refine J_ireturn hC hR dX10_guiltyKite_74 (by decide) (by decide) ?_
          unfold aGK at hq
          rw [cl_n (k := kk) (by omega), cl_n (k := ki) (by omega)] at hq
          rw [chk_t hk, chk_t hi, chk_t hn, chk_f gs1] at hq
          dsimp only at hq
          rw [← h9] at hq
          exact hq
        · have gs1 : (rd τ 13 1) (70 + 9 * kk + 6) = nI 1 := by rw [(r_KS hI bk).1, s1]
          refine J_aload_n hC dX10_guiltyKite_49 rfl rfl ?_
          refine J_iload_n hC dX10_guiltyKite_50 rfl rfl ?_
          refine J_bipush (v := nI 6) hC dX10_guiltyKite_51 (by decide) ?_
          refine iX10_79 hC hM rfl ⟨by decide, by decide⟩ ⟨by decide, by decide⟩ (Nat.le_of_ble_eq_true rfl) dX10_guiltyKite_53 ?_
          refine c_X10_of hM (by omega) ?_
          dsimp only [Option.toList_some, Option.toList_none, List.cons_append, List.nil_append]
          have j2 := (r_KS hI bi).2
          refine J_top (r_KS hI bi).1 ?_
          refine J_iconst (v := nI 1) hC dX10_guiltyKite_56 (by decide) ?_
          refine J_icmp_ne_n hC (by omega) (by decide) (tgt := 69) dX10_guiltyKite_57 rfl (fun s2 => ?_) (fun s2 => ?_)
          · have gs2 : ¬ (rd τ 13 1) (70 + 9 * ki + 6) = nI 1 := fun q => s2 (nv_of q (by decide))
            refine J_aload_n hC dX10_guiltyKite_69 rfl rfl ?_
            refine J_iconst (v := nI 3) hC dX10_guiltyKite_70 (by decide) ?_
            refine iX10_308 hC hM rfl ⟨by decide, by decide⟩ ⟨by decide, by decide⟩ (Nat.le_of_ble_eq_true rfl) dX10_guiltyKite_71 ?_
            refine c_X10_fail hM ?_
            dsimp only [Option.toList_some, Option.toList_none, List.cons_append, List.nil_append]
            refine J_ireturn hC hR dX10_guiltyKite_74 (by decide) (by decide) ?_
            unfold aGK at hq
            rw [cl_n (k := kk) (by omega), cl_n (k := ki) (by omega)] at hq
            rw [chk_t hk, chk_t hi, chk_t hn, chk_t gs1, chk_f gs2] at hq
            dsimp only at hq
            rw [← h9] at hq
            exact hq
          · have gs2 : (rd τ 13 1) (70 + 9 * ki + 6) = nI 1 := by rw [(r_KS hI bi).1, s2]
            refine J_aload_n hC dX10_guiltyKite_60 rfl rfl ?_
            refine J_iload_n hC dX10_guiltyKite_61 rfl rfl ?_
            refine J_iload_n hC dX10_guiltyKite_62 rfl rfl ?_
            refine iX10_162 hC hM rfl ⟨by decide, by decide⟩ ⟨by decide, by decide⟩ (Nat.le_of_ble_eq_true rfl) dX10_guiltyKite_63 ?_
            refine c_X10_guilty hM hI bk bi (by have := (r_HOUR hI).2; omega) ?_
            dsimp only [Option.toList_some, Option.toList_none, List.cons_append, List.nil_append]
            refine J_goto (tgt := 74) hC dX10_guiltyKite_66 rfl ?_
            refine J_ireturn hC hR dX10_guiltyKite_74 (by decide) (by decide) ?_
            unfold aGK at hq
            rw [cl_n (k := kk) (by omega), cl_n (k := ki) (by omega)] at hq
            rw [chk_t hk, chk_t hi, chk_t hn, chk_t gs1, chk_t gs2] at hq
            dsimp only at hq
            rw [hτ] at hq
            exact hq
      · have hn : ¬ (nI kk ≠ nI ki) := fun q => q (by rw [hne])
        refine J_aload_n hC dX10_guiltyKite_32 rfl rfl ?_
        refine J_iconst (v := nI 2) hC dX10_guiltyKite_33 (by decide) ?_
        refine iX10_308 hC hM rfl ⟨by decide, by decide⟩ ⟨by decide, by decide⟩ (Nat.le_of_ble_eq_true rfl) dX10_guiltyKite_34 ?_
        refine c_X10_fail hM ?_
        dsimp only [Option.toList_some, Option.toList_none, List.cons_append, List.nil_append]
        refine J_ireturn hC hR dX10_guiltyKite_37 (by decide) (by decide) ?_
        unfold aGK at hq
        rw [cl_n (k := kk) (by omega), cl_n (k := ki) (by omega)] at hq
        rw [chk_t hk, chk_t hi, chk_f hn] at hq
        dsimp only at hq
        rw [← h9] at hq
        exact hq
    · dsimp only [Option.toList_some, Option.toList_none, List.cons_append, List.nil_append]
      refine J_if_ne_n hC (by decide) (tgt := 27) dX10_guiltyKite_18 rfl (fun hf => absurd hf (by omega)) (fun _ => ?_)
      refine J_aload_n hC dX10_guiltyKite_21 rfl rfl ?_
      refine J_iconst (v := nI 1) hC dX10_guiltyKite_22 (by decide) ?_
      refine iX10_308 hC hM rfl ⟨by decide, by decide⟩ ⟨by decide, by decide⟩ (Nat.le_of_ble_eq_true rfl) dX10_guiltyKite_23 ?_
      refine c_X10_fail hM ?_
      dsimp only [Option.toList_some, Option.toList_none, List.cons_append, List.nil_append]
      refine J_ireturn hC hR dX10_guiltyKite_26 (by decide) (by decide) ?_
      unfold aGK at hq
      rw [cl_n (k := kk) (by omega)] at hq
      rw [chk_t hk, chk_f hi] at hq
      dsimp only at hq
      rw [← h9] at hq
      exact hq
  · dsimp only [Option.toList_some, Option.toList_none, List.cons_append, List.nil_append]
    refine J_if_eq_n hC (by decide) (tgt := 21) dX10_guiltyKite_10 rfl (fun _ => ?_) (fun hf => absurd hf (by omega))
    refine J_aload_n hC dX10_guiltyKite_21 rfl rfl ?_
    refine J_iconst (v := nI 1) hC dX10_guiltyKite_22 (by decide) ?_
    refine iX10_308 hC hM rfl ⟨by decide, by decide⟩ ⟨by decide, by decide⟩ (Nat.le_of_ble_eq_true rfl) dX10_guiltyKite_23 ?_
    refine c_X10_fail hM ?_
    dsimp only [Option.toList_some, Option.toList_none, List.cons_append, List.nil_append]
    refine J_ireturn hC hR dX10_guiltyKite_26 (by decide) (by decide) ?_
    unfold aGK at hq
    rw [chk_f hk] at hq
    dsimp only at hq
    rw [← h9] at hq
    exact hq
