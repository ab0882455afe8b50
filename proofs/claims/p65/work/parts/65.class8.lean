set_option maxHeartbeats 4000000 in
set_option maxRecDepth 100000 in
theorem c_X6_move {G : GC} {w : Lay} {σ : Mem} {Q : Lay → Option Value → Mem → Prop} {Qx : Lay → String → Mem → Prop} {o p m : Nat} (hw : LO w o) (hp : p < 30) (hm : m < 30) (hq : Q w none (mvM σ o p m)) : MX6_move G w σ [.ref (w.2.1 o 17), .int (nI p), .int (nI m)] Q Qx := by
  refine mt_start (by decide) rfl (Nat.le_of_ble_eq_true rfl) (fun E hC hR hN => ?_)
  show J G E w 0 0 0 [some (.ref (w.2.1 o 17)), some (.int (nI p)), some (.int (nI m))] [] σ
  refine J_aload_n hC dX6_move_0 rfl rfl ?_
  refine gX6_9 hC hw dX6_move_1 ?_
  refine J_iload_n hC dX6_move_4 rfl rfl ?_
  refine J_aload_n hC dX6_move_5 rfl rfl ?_
  refine gX6_9 hC hw dX6_move_6 ?_
  refine J_iload_n hC dX6_move_9 rfl rfl ?_
  refine J_iaload hC (hw.2.1 18 (by decide)) (kd_o hw.1) rfl (by omega) (by decide) dX6_move_10 ?_
  refine J_iastore hC (hw.2.1 18 (by decide)) (kd_o hw.1) rfl (by omega) (by decide) dX6_move_11 ?_
  refine J_aload_n hC dX6_move_12 rfl rfl ?_
  refine gX6_15 hC hw dX6_move_13 ?_
  refine J_iload_n hC dX6_move_16 rfl rfl ?_
  refine J_aload_n hC dX6_move_17 rfl rfl ?_
  refine gX6_15 hC hw dX6_move_18 ?_
  refine J_iload_n hC dX6_move_21 rfl rfl ?_
  refine J_iaload hC (hw.2.1 19 (by decide)) (kd_o hw.1) rfl (by omega) (by decide) dX6_move_22 ?_
  refine J_top (rd_wr_c (by decide)) ?_
  refine J_iastore hC (hw.2.1 19 (by decide)) (kd_o hw.1) rfl (by omega) (by decide) dX6_move_23 ?_
  refine J_aload_n hC dX6_move_24 rfl rfl ?_
  refine gX6_18 hC hw dX6_move_25 ?_
  refine J_iload_n hC dX6_move_28 rfl rfl ?_
  refine J_aload_n hC dX6_move_29 rfl rfl ?_
  refine gX6_18 hC hw dX6_move_30 ?_
  refine J_iload_n hC dX6_move_33 rfl rfl ?_
  refine J_iaload hC (hw.2.1 20 (by decide)) (kd_o hw.1) rfl (by omega) (by decide) dX6_move_34 ?_
  refine J_top ((rd_wr_c (by decide)).trans (rd_wr_c (by decide))) ?_
  refine J_iastore hC (hw.2.1 20 (by decide)) (kd_o hw.1) rfl (by omega) (by decide) dX6_move_35 ?_
  refine J_return hC hR dX6_move_36 (by decide) (by decide) ?_
  exact hq
set_option maxHeartbeats 4000000 in
set_option maxRecDepth 100000 in
theorem c_X6_endOf2 {G : GC} {w : Lay} {σ : Mem} {Q : Lay → Option Value → Mem → Prop} {Qx : Lay → String → Mem → Prop} {o p a b : Nat} (hw : LO w o) (hp : p < 30) (hS : rd σ o 19 p = nI a) (hD : rd σ o 20 p = nI b) (hq : Q w (some (.int (nI (a + b)))) σ) : MX6_endOf G w σ [.ref (w.2.1 o 17), .int (nI p)] Q Qx := by
  refine mt_start (by decide) rfl (Nat.le_of_ble_eq_true rfl) (fun E hC hR hN => ?_)
  show J G E w 0 0 0 [some (.ref (w.2.1 o 17)), some (.int (nI p))] [] σ
  refine J_aload_n hC dX6_endOf_0 rfl rfl ?_
  refine gX6_15 hC hw dX6_endOf_1 ?_
  refine J_iload_n hC dX6_endOf_4 rfl rfl ?_
  refine J_iaload hC (hw.2.1 19 (by decide)) (kd_o hw.1) rfl (by omega) (by decide) dX6_endOf_5 ?_
  refine J_top hS ?_
  refine J_aload_n hC dX6_endOf_6 rfl rfl ?_
  refine gX6_18 hC hw dX6_endOf_7 ?_
  refine J_iload_n hC dX6_endOf_10 rfl rfl ?_
  refine J_iaload hC (hw.2.1 20 (by decide)) (kd_o hw.1) rfl (by omega) (by decide) dX6_endOf_11 ?_
  refine J_top hD ?_
  refine J_iadd_n hC dX6_endOf_12 ?_
  refine J_ireturn hC hR dX6_endOf_13 (by decide) (by decide) ?_
  exact hq
set_option maxHeartbeats 4000000 in
set_option maxRecDepth 100000 in
theorem c_X6_removeOf {G : GC} {w : Lay} {σ : Mem} {Q : Lay → Option Value → Mem → Prop} {Qx : Lay → String → Mem → Prop} {o hm : Nat} {A : Rw} (hw : LO w o) (hO : OAt σ o A) (hI : RowOK hm A) {k : Nat} (hk0 : k < 2 ^ 31) (hq : ∀ σ', OAt σ' o ((cancelR A k).1) → FrO o σ σ' → Q w (some (.int (nI (cancelR A k).2))) σ') : MX6_removeOf G w σ [.ref (w.2.1 o 17), .int (nI k)] Q Qx := by
  refine mt_start (by decide) rfl (Nat.le_of_ble_eq_true rfl) (fun E hC hR hN => ?_)
  show J G E w 0 0 0 [some (.ref (w.2.1 o 17)), some (.int (nI k)), none, none] [] σ
  have h1 := r_NP hI
  have h2 := r_NK hI
  have lp : ∀ (dd : Nat) (p m : Nat) (B : Rw) (σ1 : Mem), nv A 11 - p < dd → (PI σ1 o B p m (nv A 11)) → (RowOK hm B) → (FrP o σ σ1) → (∀ j, j < 214 → j ≠ 11 → B j = A j) → (rmF (fun a _ _ => a = nI k) dd B m (p - m) = rmF (fun a _ _ => a = nI k) 40 A 0 0) →  J G E w 0 0 4 [some (.ref (w.2.1 o 17)), some (.int (nI k)), some (.int (nI m)), some (.int (nI p))] [] σ1 := by
    intro dd
    induction dd with
    | zero =>
      intro p m B σ1 hdd
      exact absurd hdd (Nat.not_lt_zero _)
    | succ dd ih =>
      intro p m B σ1 hdd hP hB hF he hRm
      have q1 := hP.1
      have q2 := hP.2.1
      have q3 := hP.2.2.1
      have q4 := r_NP hB
      have q5 := r_NK hB
      refine J_iload_n hC dX6_removeOf_4 rfl rfl ?_
      refine J_aload_n hC dX6_removeOf_5 rfl rfl ?_
      refine gX6_21 hC hw dX6_removeOf_6 ?_
      refine J_top ((congrFun (hF.1 o 17 (by omega)) 0).trans (o_NP hO hI)) ?_
      refine J_icmp_ge_n hC (by omega) (by omega) (tgt := 37) dX6_removeOf_9 rfl (fun bp => ?_) (fun bp => ?_)
      · refine J_aload_n hC dX6_removeOf_37 rfl rfl ?_
        refine gX6_21 hC hw dX6_removeOf_38 ?_
        refine J_top ((congrFun (hF.1 o 17 (by omega)) 0).trans (o_NP hO hI)) ?_
        refine J_iload_n hC dX6_removeOf_41 rfl rfl ?_
        refine J_isub_n hC (by omega) dX6_removeOf_42 ?_
        refine J_istore_n hC dX6_removeOf_43 rfl (Nat.le_of_ble_eq_true rfl) rfl ?_
        dsimp only [List.set]
        refine J_aload_n hC dX6_removeOf_44 rfl rfl ?_
        refine J_iload_n hC dX6_removeOf_45 rfl rfl ?_
        refine pX6_21 hC hw dX6_removeOf_46 ?_
        refine J_iload_n hC dX6_removeOf_49 rfl rfl ?_
        refine J_ireturn hC hR dX6_removeOf_50 (by decide) (by decide) ?_
        have e : p = nv A 11 := by omega
        subst e
        rw [rmF_done (show ¬ m < nv B 11 by omega)] at hRm
        have z := hq (wr σ1 o 17 0 (nI m)) (by unfold cancelR; rw [← hRm]; exact PI_end hO hI hB he hF hP) (FrO_wr (FrP_O hF) (by decide))
        unfold cancelR at z
        rw [← hRm] at z
        exact z
      · have pk := r_PK hB (p := m) (by omega)
        have pat := PI_at hP bp
        refine J_aload_n hC dX6_removeOf_12 rfl rfl ?_
        refine gX6_9 hC hw dX6_removeOf_13 ?_
        refine J_iload_n hC dX6_removeOf_16 rfl rfl ?_
        refine J_iaload hC (hw.2.1 18 (by decide)) (kd_o hw.1) rfl (by omega) (by decide) dX6_removeOf_17 ?_
        refine J_top (pat.1.trans pk.1) ?_
        refine J_iload_n hC dX6_removeOf_18 rfl rfl ?_
        refine J_icmp_eq_n hC (by omega) (by omega) (tgt := 31) dX6_removeOf_19 rfl (fun b1 => ?_) (fun b1 => ?_)
        · rw [rmF_t (show m < nv B 11 by omega) (show B (214 + 3 * m) = nI k by rw [pk.1, b1])] at hRm
          refine J_iinc_n (m := 1) hC (by decide) dX6_removeOf_31 rfl (Nat.le_of_ble_eq_true rfl) rfl ?_
          dsimp only [List.set]
          refine J_goto (tgt := 4) hC dX6_removeOf_34 rfl ?_
          first
          | exact ih (p + 1) (m + 1) B (mvM σ1 o p m) (by omega) (PI_keep hP bp) hB (FrP_mv hF) he (by rw [show p + 1 - (m + 1) = p - m by omega]; exact hRm)
          | exact ih (p + 1) m (removeA B m) σ1 (by omega) (PI_drop hP bp (by omega)) (RowOK_remove hB (by omega)) hF (fun j h1 h2 => (removeA_lo h1 h2).trans (he j h1 h2)) (by rw [show p + 1 - m = p - m + 1 by omega]; exact hRm)
        · rw [rmF_f (show m < nv B 11 by omega) (show ¬ B (214 + 3 * m) = nI k from fun q => b1 (nv_of q hk0))] at hRm
          refine J_aload_n hC dX6_removeOf_22 rfl rfl ?_
          refine J_iload_n hC dX6_removeOf_23 rfl rfl ?_
          refine J_iload_n hC dX6_removeOf_24 rfl rfl ?_
          refine iX6_35 hC hw rfl ⟨by decide, by decide⟩ ⟨by decide, by decide⟩ (Nat.le_of_ble_eq_true rfl) dX6_removeOf_25 ?_
          refine c_X6_move hw (by omega) (by omega) ?_
          dsimp only [Option.toList_some, Option.toList_none, List.cons_append, List.nil_append]
          refine J_iinc_n (m := 1) hC (by decide) dX6_removeOf_28 rfl (Nat.le_of_ble_eq_true rfl) rfl ?_
          dsimp only [List.set]
          refine J_iinc_n (m := 1) hC (by decide) dX6_removeOf_31 rfl (Nat.le_of_ble_eq_true rfl) rfl ?_
          dsimp only [List.set]
          refine J_goto (tgt := 4) hC dX6_removeOf_34 rfl ?_
          first
          | exact ih (p + 1) (m + 1) B (mvM σ1 o p m) (by omega) (PI_keep hP bp) hB (FrP_mv hF) he (by rw [show p + 1 - (m + 1) = p - m by omega]; exact hRm)
          | exact ih (p + 1) m (removeA B m) σ1 (by omega) (PI_drop hP bp (by omega)) (RowOK_remove hB (by omega)) hF (fun j h1 h2 => (removeA_lo h1 h2).trans (he j h1 h2)) (by rw [show p + 1 - m = p - m + 1 by omega]; exact hRm)
  refine J_iconst (v := nI 0) hC dX6_removeOf_0 (by decide) ?_
  refine J_istore_n hC dX6_removeOf_1 rfl (Nat.le_of_ble_eq_true rfl) rfl ?_
  dsimp only [List.set]
  refine J_iconst (v := nI 0) hC dX6_removeOf_2 (by decide) ?_
  refine J_istore_n hC dX6_removeOf_3 rfl (Nat.le_of_ble_eq_true rfl) rfl ?_
  dsimp only [List.set]
  exact lp 40 0 0 A σ (by omega) (PI_0 hO) hI FrP_refl (fun _ _ _ => rfl) rfl
set_option maxHeartbeats 4000000 in
set_option maxRecDepth 100000 in
theorem c_X6_removeEnded {G : GC} {w : Lay} {σ : Mem} {Q : Lay → Option Value → Mem → Prop} {Qx : Lay → String → Mem → Prop} {o hm : Nat} {A : Rw} (hw : LO w o) (hO : OAt σ o A) (hI : RowOK hm A) {t : Nat} (ht0 : t < 2 ^ 30) (hq : ∀ σ', OAt σ' o ((rmF (fun _ s d => ¬ (nI t < s + d)) 40 A 0 0).1) → FrO o σ σ' → Q w none σ') : MX6_removeEnded G w σ [.ref (w.2.1 o 17), .int (nI t)] Q Qx := by
  refine mt_start (by decide) rfl (Nat.le_of_ble_eq_true rfl) (fun E hC hR hN => ?_)
  show J G E w 0 0 0 [some (.ref (w.2.1 o 17)), some (.int (nI t)), none, none] [] σ
  have h1 := r_NP hI
  have lp : ∀ (dd : Nat) (p m : Nat) (B : Rw) (σ1 : Mem), nv A 11 - p < dd → (PI σ1 o B p m (nv A 11)) → (RowOK hm B) → (FrP o σ σ1) → (∀ j, j < 214 → j ≠ 11 → B j = A j) → (rmF (fun _ s d => ¬ (nI t < s + d)) dd B m (p - m) = rmF (fun _ s d => ¬ (nI t < s + d)) 40 A 0 0) →  J G E w 0 0 4 [some (.ref (w.2.1 o 17)), some (.int (nI t)), some (.int (nI m)), some (.int (nI p))] [] σ1 := by
    intro dd
    induction dd with
    | zero =>
      intro p m B σ1 hdd
      exact absurd hdd (Nat.not_lt_zero _)
    | succ dd ih =>
      intro p m B σ1 hdd hP hB hF he hRm
      have q1 := hP.1
      have q2 := hP.2.1
      have q3 := hP.2.2.1
      have q4 := r_NP hB
      have q5 := r_NK hB
      refine J_iload_n hC dX6_removeEnded_4 rfl rfl ?_
      refine J_aload_n hC dX6_removeEnded_5 rfl rfl ?_
      refine gX6_21 hC hw dX6_removeEnded_6 ?_
      refine J_top ((congrFun (hF.1 o 17 (by omega)) 0).trans (o_NP hO hI)) ?_
      refine J_icmp_ge_n hC (by omega) (by omega) (tgt := 36) dX6_removeEnded_9 rfl (fun bp => ?_) (fun bp => ?_)
      · refine J_aload_n hC dX6_removeEnded_36 rfl rfl ?_
        refine J_iload_n hC dX6_removeEnded_37 rfl rfl ?_
        refine pX6_21 hC hw dX6_removeEnded_38 ?_
        refine J_return hC hR dX6_removeEnded_41 (by decide) (by decide) ?_
        have e : p = nv A 11 := by omega
        subst e
        rw [rmF_done (show ¬ m < nv B 11 by omega)] at hRm
        exact hq (wr σ1 o 17 0 (nI m)) (by rw [← hRm]; exact PI_end hO hI hB he hF hP) (FrO_wr (FrP_O hF) (by decide))
      · have ps := r_PS hB (p := m) (by omega)
        have pd := r_PD hB (p := m) (by omega)
        have pat := PI_at hP bp
        refine J_aload_n hC dX6_removeEnded_12 rfl rfl ?_
        refine J_iload_n hC dX6_removeEnded_13 rfl rfl ?_
        refine iX6_31 hC hw rfl ⟨by decide, by decide⟩ ⟨by decide, by decide⟩ (Nat.le_of_ble_eq_true rfl) dX6_removeEnded_14 ?_
        refine c_X6_endOf2 hw (by omega) (pat.2.1.trans ps.1) (pat.2.2.trans pd.1) ?_
        dsimp only [Option.toList_some, Option.toList_none, List.cons_append, List.nil_append]
        refine J_iload_n hC dX6_removeEnded_17 rfl rfl ?_
        refine J_icmp_le_n hC (by omega) (by omega) (tgt := 30) dX6_removeEnded_18 rfl (fun b1 => ?_) (fun b1 => ?_)
        · rw [rmF_t (show m < nv B 11 by omega) (show ¬ (nI t < B (214 + 3 * m + 1) + B (214 + 3 * m + 2)) from by rw [ps.1, pd.1, nI_add, nI_ltI (by omega) (by omega)]; omega)] at hRm
          refine J_iinc_n (m := 1) hC (by decide) dX6_removeEnded_30 rfl (Nat.le_of_ble_eq_true rfl) rfl ?_
          dsimp only [List.set]
          refine J_goto (tgt := 4) hC dX6_removeEnded_33 rfl ?_
          first
          | exact ih (p + 1) (m + 1) B (mvM σ1 o p m) (by omega) (PI_keep hP bp) hB (FrP_mv hF) he (by rw [show p + 1 - (m + 1) = p - m by omega]; exact hRm)
          | exact ih (p + 1) m (removeA B m) σ1 (by omega) (PI_drop hP bp (by omega)) (RowOK_remove hB (by omega)) hF (fun j h1 h2 => (removeA_lo h1 h2).trans (he j h1 h2)) (by rw [show p + 1 - m = p - m + 1 by omega]; exact hRm)
        · rw [rmF_f (show m < nv B 11 by omega) (show ¬ ¬ (nI t < B (214 + 3 * m + 1) + B (214 + 3 * m + 2)) from by rw [ps.1, pd.1, nI_add, nI_ltI (by omega) (by omega)]; omega)] at hRm
          refine J_aload_n hC dX6_removeEnded_21 rfl rfl ?_
          refine J_iload_n hC dX6_removeEnded_22 rfl rfl ?_
          refine J_iload_n hC dX6_removeEnded_23 rfl rfl ?_
          refine iX6_35 hC hw rfl ⟨by decide, by decide⟩ ⟨by decide, by decide⟩ (Nat.le_of_ble_eq_true rfl) dX6_removeEnded_24 ?_
          refine c_X6_move hw (by omega) (by omega) ?_
          dsimp only [Option.toList_some, Option.toList_none, List.cons_append, List.nil_append]
          refine J_iinc_n (m := 1) hC (by decide) dX6_removeEnded_27 rfl (Nat.le_of_ble_eq_true rfl) rfl ?_
          dsimp only [List.set]
          refine J_iinc_n (m := 1) hC (by decide) dX6_removeEnded_30 rfl (Nat.le_of_ble_eq_true rfl) rfl ?_
          dsimp only [List.set]
          refine J_goto (tgt := 4) hC dX6_removeEnded_33 rfl ?_
          first
          | exact ih (p + 1) (m + 1) B (mvM σ1 o p m) (by omega) (PI_keep hP bp) hB (FrP_mv hF) he (by rw [show p + 1 - (m + 1) = p - m by omega]; exact hRm)
          | exact ih (p + 1) m (removeA B m) σ1 (by omega) (PI_drop hP bp (by omega)) (RowOK_remove hB (by omega)) hF (fun j h1 h2 => (removeA_lo h1 h2).trans (he j h1 h2)) (by rw [show p + 1 - m = p - m + 1 by omega]; exact hRm)
  refine J_iconst (v := nI 0) hC dX6_removeEnded_0 (by decide) ?_
  refine J_istore_n hC dX6_removeEnded_1 rfl (Nat.le_of_ble_eq_true rfl) rfl ?_
  dsimp only [List.set]
  refine J_iconst (v := nI 0) hC dX6_removeEnded_2 (by decide) ?_
  refine J_istore_n hC dX6_removeEnded_3 rfl (Nat.le_of_ble_eq_true rfl) rfl ?_
  dsimp only [List.set]
  exact lp 40 0 0 A σ (by omega) (PI_0 hO) hI FrP_refl (fun _ _ _ => rfl) rfl
set_option maxHeartbeats 4000000 in
set_option maxRecDepth 100000 in
theorem c_X6_add {G : GC} {w : Lay} {σ : Mem} {Q : Lay → Option Value → Mem → Prop} {Qx : Lay → String → Mem → Prop} {o hm : Nat} {A : Rw} (hw : LO w o) (hO : OAt σ o A) (hI : RowOK hm A) {k s d : Nat} (hp : nv A 11 < 30) (hq : ∀ σ', OAt σ' o (addA A k s d) → FrO o σ σ' → Q w none σ') : MX6_add G w σ [.ref (w.2.1 o 17), .int (nI k), .int (nI s), .int (nI d)] Q Qx := by
  refine mt_start (by decide) rfl (Nat.le_of_ble_eq_true rfl) (fun E hC hR hN => ?_)
  show J G E w 0 0 0 [some (.ref (w.2.1 o 17)), some (.int (nI k)), some (.int (nI s)), some (.int (nI d))] [] σ
  refine J_aload_n hC dX6_add_0 rfl rfl ?_
  refine gX6_21 hC hw dX6_add_1 ?_
  refine J_top (o_NP hO hI) ?_
  refine J_bipush (v := nI 30) hC dX6_add_4 (by decide) ?_
  refine J_icmp_ge_n hC (by omega) (by decide) (tgt := 49) dX6_add_6 rfl (fun hb0 => ?_) (fun hb0 => ?_)
  · exact absurd hb0 (by omega)
  · refine J_aload_n hC dX6_add_9 rfl rfl ?_
    refine gX6_9 hC hw dX6_add_10 ?_
    refine J_aload_n hC dX6_add_13 rfl rfl ?_
    refine gX6_21 hC hw dX6_add_14 ?_
    refine J_top (o_NP hO hI) ?_
    refine J_iload_n hC dX6_add_17 rfl rfl ?_
    refine J_iastore hC (hw.2.1 18 (by decide)) (kd_o hw.1) rfl (by omega) (by decide) dX6_add_18 ?_
    refine J_aload_n hC dX6_add_19 rfl rfl ?_
    refine gX6_15 hC hw dX6_add_20 ?_
    refine J_aload_n hC dX6_add_23 rfl rfl ?_
    refine gX6_21 hC hw dX6_add_24 ?_
    refine J_top ((rd_wr_c (by decide)).trans ((o_NP hO hI))) ?_
    refine J_iload_n hC dX6_add_27 rfl rfl ?_
    refine J_iastore hC (hw.2.1 19 (by decide)) (kd_o hw.1) rfl (by omega) (by decide) dX6_add_28 ?_
    refine J_aload_n hC dX6_add_29 rfl rfl ?_
    refine gX6_18 hC hw dX6_add_30 ?_
    refine J_aload_n hC dX6_add_33 rfl rfl ?_
    refine gX6_21 hC hw dX6_add_34 ?_
    refine J_top ((rd_wr_c (by decide)).trans ((rd_wr_c (by decide)).trans ((o_NP hO hI)))) ?_
    refine J_iload_n hC dX6_add_37 rfl rfl ?_
    refine J_iastore hC (hw.2.1 20 (by decide)) (kd_o hw.1) rfl (by omega) (by decide) dX6_add_38 ?_
    refine J_aload_n hC dX6_add_39 rfl rfl ?_
    refine J_dup hC dX6_add_40 rfl ?_
    refine gX6_21 hC hw dX6_add_41 ?_
    refine J_top ((rd_wr_c (by decide)).trans ((rd_wr_c (by decide)).trans ((rd_wr_c (by decide)).trans ((o_NP hO hI))))) ?_
    refine J_iconst (v := nI 1) hC dX6_add_44 (by decide) ?_
    refine J_iadd_n hC dX6_add_45 ?_
    refine pX6_21 hC hw dX6_add_46 ?_
    refine J_return hC hR dX6_add_49 (by decide) (by decide) ?_
    exact hq _ (OAt_add hO hI hp) (FrO_wr (FrO_wr (FrO_wr (FrO_wr FrO_refl (by decide)) (by decide)) (by decide)) (by decide))
set_option maxHeartbeats 4000000 in
set_option maxRecDepth 100000 in
theorem c_X4_payOffice {G : GC} {w : Lay} {σ : Mem} {Q : Lay → Option Value → Mem → Prop} {Qx : Lay → String → Mem → Prop} {o hm : Nat} {A : Rw} (hw : LO w o) (hO : OAt σ o A) (hI : RowOK hm A) {k : Nat} {c : Int32} (hk : k < nv A 6) (hq : ∀ σ', OAt σ' o (payA A k c) → FrO o σ σ' → Q w none σ') : MX4_payOffice G w σ [.ref (w.2.1 o 0), .int (nI k), .int c] Q Qx := by
  refine mt_start (by decide) rfl (Nat.le_of_ble_eq_true rfl) (fun E hC hR hN => ?_)
  show J G E w 0 0 0 [some (.ref (w.2.1 o 0)), some (.int (nI k)), some (.int c)] [] σ
  have h1 := r_NK hI
  refine J_aload_n hC dX4_payOffice_0 rfl rfl ?_
  refine gX4_21 hC hw dX4_payOffice_1 ?_
  refine gX4_92 hC hw dX4_payOffice_4 ?_
  refine J_iload_n hC dX4_payOffice_7 rfl rfl ?_
  refine J_dup2 hC dX4_payOffice_8 rfl rfl ?_
  refine J_iaload hC (hw.2.1 13 (by decide)) (kd_o hw.1) rfl (by omega) (by decide) dX4_payOffice_9 ?_
  refine J_top (o_P hO hk) ?_
  refine J_iload_n hC dX4_payOffice_10 rfl rfl ?_
  refine J_isub hC dX4_payOffice_11 ?_
  refine J_iastore hC (hw.2.1 13 (by decide)) (kd_o hw.1) rfl (by omega) (by decide) dX4_payOffice_12 ?_
  refine J_aload_n hC dX4_payOffice_13 rfl rfl ?_
  refine J_dup hC dX4_payOffice_14 rfl ?_
  refine gX4_50 hC hw dX4_payOffice_15 ?_
  refine J_top ((rd_wr_c (by decide)).trans hO.1.2.1) ?_
  refine J_iload_n hC dX4_payOffice_18 rfl rfl ?_
  refine J_iadd hC dX4_payOffice_19 ?_
  refine pX4_50 hC hw dX4_payOffice_20 ?_
  refine J_return hC hR dX4_payOffice_23 (by decide) (by decide) ?_
  have z := OAt_n (c := 0) (k := 4) (r := 9) (v := A 9 + c) (OAt_k (c := 13) (r := 5) (v := A (70 + 9 * k + 5) - c) hO hI (by omega) (by omega)) (RowOK_updq hI (quiet_kite (k := k) (by omega) (by omega))) (by omega)
  exact hq _ z (FrO_wr (FrO_wr FrO_refl (by decide)) (by decide))
set_option maxHeartbeats 4000000 in
set_option maxRecDepth 100000 in
theorem c_X4_grant {G : GC} {w : Lay} {σ : Mem} {Q : Lay → Option Value → Mem → Prop} {Qx : Lay → String → Mem → Prop} {o hm : Nat} {A : Rw} (hw : LO w o) (hO : OAt σ o A) (hI : RowOK hm A) {k s d : Nat} (hk : k < nv A 6) (hp : nv A 11 < 30) (hq : ∀ σ', OAt σ' o (grantA A k s d) → FrO o σ σ' → Q w none σ') : MX4_grant G w σ [.ref (w.2.1 o 0), .int (nI k), .int (nI s), .int (nI d)] Q Qx := by
  refine mt_start (by decide) rfl (Nat.le_of_ble_eq_true rfl) (fun E hC hR hN => ?_)
  show J G E w 0 0 0 [some (.ref (w.2.1 o 0)), some (.int (nI k)), some (.int (nI s)), some (.int (nI d))] [] σ
  have h1 := r_NK hI
  have h2 := r_NP hI
  have hPq := RowOK_updq (RowOK_updq (x := A (70 + 9 * k + 5) - nI (nv A 2 * d)) hI (quiet_kite (k := k) (r := 5) (by omega) (by omega))) (x := A 9 + nI (nv A 2 * d)) q9
  refine J_aload_n hC dX4_grant_0 rfl rfl ?_
  refine J_iload_n hC dX4_grant_1 rfl rfl ?_
  refine J_aload_n hC dX4_grant_2 rfl rfl ?_
  refine gX4_12 hC hw dX4_grant_3 ?_
  refine gX4_178 hC hw dX4_grant_6 ?_
  refine J_top (o_FEE hO hI) ?_
  refine J_iload_n hC dX4_grant_9 rfl rfl ?_
  refine J_imul_n hC dX4_grant_10 ?_
  refine iX4_203 hC hw rfl ⟨by decide, by decide⟩ ⟨by decide, by decide⟩ (Nat.le_of_ble_eq_true rfl) dX4_grant_11 ?_
  refine c_X4_payOffice hw hO hI hk (fun σ1 hO1 hF1 => ?_)
  dsimp only [Option.toList_some, Option.toList_none, List.cons_append, List.nil_append]
  refine J_aload_n hC dX4_grant_14 rfl rfl ?_
  refine gX4_28 hC hw dX4_grant_15 ?_
  refine J_iload_n hC dX4_grant_18 rfl rfl ?_
  refine J_iload_n hC dX4_grant_19 rfl rfl ?_
  refine J_iload_n hC dX4_grant_20 rfl rfl ?_
  refine iX4_207 hC hw rfl ⟨by decide, by decide⟩ ⟨by decide, by decide⟩ (Nat.le_of_ble_eq_true rfl) dX4_grant_21 ?_
  refine c_X6_add hw hO1 hPq (by unfold payA; rw [nv_n (by omega), nv_n (by omega)]; exact hp) (fun σ2 hO2 hF2 => ?_)
  dsimp only [Option.toList_some, Option.toList_none, List.cons_append, List.nil_append]
  refine J_return hC hR dX4_grant_24 (by decide) (by decide) ?_
  rw [grant_eq (by omega)] at hO2
  exact hq _ hO2 (FrO_trans hF1 hF2)
set_option maxHeartbeats 4000000 in
set_option maxRecDepth 100000 in
theorem c_X4_sendUp {G : GC} {w : Lay} {σ : Mem} {Q : Lay → Option Value → Mem → Prop} {Qx : Lay → String → Mem → Prop} {o hm : Nat} {A : Rw} (hw : LO w o) (hO : OAt σ o A) (hI : RowOK hm A) {k : Nat} (hk : k < nv A 6) (hq : ∀ σ', OAt σ' o (launchA A k) → FrO o σ σ' → Q w none σ') : MX4_sendUp G w σ [.ref (w.2.1 o 0), .int (nI k)] Q Qx := by
  refine mt_start (by decide) rfl (Nat.le_of_ble_eq_true rfl) (fun E hC hR hN => ?_)
  show J G E w 0 0 0 [some (.ref (w.2.1 o 0)), some (.int (nI k))] [] σ
  have h1 := r_NK hI
  refine J_aload_n hC dX4_sendUp_0 rfl rfl ?_
  refine gX4_21 hC hw dX4_sendUp_1 ?_
  refine gX4_95 hC hw dX4_sendUp_4 ?_
  refine J_iload_n hC dX4_sendUp_7 rfl rfl ?_
  refine J_iconst (v := nI 1) hC dX4_sendUp_8 (by decide) ?_
  refine J_iastore hC (hw.2.1 14 (by decide)) (kd_o hw.1) rfl (by omega) (by decide) dX4_sendUp_9 ?_
  refine J_aload_n hC dX4_sendUp_10 rfl rfl ?_
  refine gX4_21 hC hw dX4_sendUp_11 ?_
  refine J_dup hC dX4_sendUp_14 rfl ?_
  refine gX4_65 hC hw dX4_sendUp_15 ?_
  refine J_top ((rd_wr_c (by decide)).trans hO.2.2.2.2.1.2) ?_
  refine J_iconst (v := nI 1) hC dX4_sendUp_18 (by decide) ?_
  refine J_iadd hC dX4_sendUp_19 ?_
  refine pX4_65 hC hw dX4_sendUp_20 ?_
  refine J_aload_n hC dX4_sendUp_23 rfl rfl ?_
  refine gX4_21 hC hw dX4_sendUp_24 ?_
  refine gX4_98 hC hw dX4_sendUp_27 ?_
  refine J_iload_n hC dX4_sendUp_30 rfl rfl ?_
  refine J_aload_n hC dX4_sendUp_31 rfl rfl ?_
  refine gX4_21 hC hw dX4_sendUp_32 ?_
  refine gX4_65 hC hw dX4_sendUp_35 ?_
  refine J_top rd_wr_s ?_
  refine J_iastore hC (hw.2.1 15 (by decide)) (kd_o hw.1) rfl (by omega) (by decide) dX4_sendUp_38 ?_
  refine J_return hC hR dX4_sendUp_39 (by decide) (by decide) ?_
  have z1 := OAt_k (c := 14) (r := 6) (v := nI 1) hO hI (by omega) (show k < 16 by omega)
  have i1 := RowOK_kite (r := 6) (v := 1) hI (show k < 16 by omega) (by omega)
  have z2 := OAt_n (c := 6) (k := 1) (r := 8) (v := A 8 + nI 1) z1 i1 (by omega)
  have z3 := OAt_k (c := 15) (r := 8) (v := A 8 + nI 1) z2 (RowOK_updq i1 q8) (by omega) (show k < 16 by omega)
  exact hq _ z3 (FrO_wr (FrO_wr (FrO_wr FrO_refl (by decide)) (by decide)) (by decide))
set_option maxHeartbeats 4000000 in
set_option maxRecDepth 100000 in
theorem c_X4_bringDown {G : GC} {w : Lay} {σ : Mem} {Q : Lay → Option Value → Mem → Prop} {Qx : Lay → String → Mem → Prop} {o hm : Nat} {A : Rw} (hw : LO w o) (hO : OAt σ o A) (hI : RowOK hm A) {k : Nat} (hk : k < nv A 6) (hq : ∀ σ', OAt σ' o (stateA A k 0) → FrO o σ σ' → Q w none σ') : MX4_bringDown G w σ [.ref (w.2.1 o 0), .int (nI k)] Q Qx := by
  refine mt_start (by decide) rfl (Nat.le_of_ble_eq_true rfl) (fun E hC hR hN => ?_)
  show J G E w 0 0 0 [some (.ref (w.2.1 o 0)), some (.int (nI k))] [] σ
  have h1 := r_NK hI
  refine J_aload_n hC dX4_bringDown_0 rfl rfl ?_
  refine gX4_21 hC hw dX4_bringDown_1 ?_
  refine gX4_95 hC hw dX4_bringDown_4 ?_
  refine J_iload_n hC dX4_bringDown_7 rfl rfl ?_
  refine J_iconst (v := nI 0) hC dX4_bringDown_8 (by decide) ?_
  refine J_iastore hC (hw.2.1 14 (by decide)) (kd_o hw.1) rfl (by omega) (by decide) dX4_bringDown_9 ?_
  refine J_return hC hR dX4_bringDown_10 (by decide) (by decide) ?_
  exact hq _ (OAt_k (c := 14) (r := 6) (v := nI 0) hO hI (by omega) (show k < 16 by omega)) (FrO_wr FrO_refl (by decide))
set_option maxHeartbeats 4000000 in
set_option maxRecDepth 100000 in
theorem c_X4_retie {G : GC} {w : Lay} {σ : Mem} {Q : Lay → Option Value → Mem → Prop} {Qx : Lay → String → Mem → Prop} {o hm : Nat} {A : Rw} (hw : LO w o) (hO : OAt σ o A) (hI : RowOK hm A) {k v : Nat} (hk : k < nv A 6) (hv : v ≤ 9) (hq : ∀ σ', OAt σ' o (tieA A k v) → FrO o σ σ' → Q w none σ') : MX4_retie G w σ [.ref (w.2.1 o 0), .int (nI k), .int (nI v)] Q Qx := by
  refine mt_start (by decide) rfl (Nat.le_of_ble_eq_true rfl) (fun E hC hR hN => ?_)
  show J G E w 0 0 0 [some (.ref (w.2.1 o 0)), some (.int (nI k)), some (.int (nI v))] [] σ
  have h1 := r_NK hI
  have z1 := OAt_k (c := 12) (r := 4) (v := nI v) hO hI (by omega) (show k < 16 by omega)
  have i1 := RowOK_kite (r := 4) (v := v) hI (show k < 16 by omega) (by omega)
  refine J_aload_n hC dX4_retie_0 rfl rfl ?_
  refine gX4_21 hC hw dX4_retie_1 ?_
  refine gX4_89 hC hw dX4_retie_4 ?_
  refine J_iload_n hC dX4_retie_7 rfl rfl ?_
  refine J_iload_n hC dX4_retie_8 rfl rfl ?_
  refine J_iastore hC (hw.2.1 12 (by decide)) (kd_o hw.1) rfl (by omega) (by decide) dX4_retie_9 ?_
  refine J_aload_n hC dX4_retie_10 rfl rfl ?_
  refine gX4_28 hC hw dX4_retie_11 ?_
  refine J_iload_n hC dX4_retie_14 rfl rfl ?_
  refine iX4_237 hC hw rfl ⟨by decide, by decide⟩ ⟨by decide, by decide⟩ (Nat.le_of_ble_eq_true rfl) dX4_retie_15 ?_
  refine c_X6_removeOf hw z1 i1 (by omega) (fun σ1 hO1 hF1 => ?_)
  dsimp only [Option.toList_some, Option.toList_none, List.cons_append, List.nil_append]
  refine J_pop hC dX4_retie_18 rfl ?_
  refine J_return hC hR dX4_retie_19 (by decide) (by decide) ?_
  rw [cancel_upd (by omega) (by omega)] at hO1
  exact hq _ hO1 (FrO_trans (FrO_wr FrO_refl (by decide)) hF1)
set_option maxHeartbeats 4000000 in
set_option maxRecDepth 100000 in
theorem c_X4_mend {G : GC} {w : Lay} {σ : Mem} {Q : Lay → Option Value → Mem → Prop} {Qx : Lay → String → Mem → Prop} {o hm : Nat} {A : Rw} (hw : LO w o) (hO : OAt σ o A) (hI : RowOK hm A) {k : Nat} (hk : k < nv A 6) (hq : ∀ σ', OAt σ' o (repA A k) → FrO o σ σ' → Q w none σ') : MX4_mend G w σ [.ref (w.2.1 o 0), .int (nI k)] Q Qx := by
  refine mt_start (by decide) rfl (Nat.le_of_ble_eq_true rfl) (fun E hC hR hN => ?_)
  show J G E w 0 0 0 [some (.ref (w.2.1 o 0)), some (.int (nI k))] [] σ
  have h1 := r_NK hI
  have hPq := RowOK_updq (RowOK_updq (x := A (70 + 9 * k + 5) - nI (2 * nv A (70 + 9 * k + 4))) hI (quiet_kite (k := k) (r := 5) (by omega) (by omega))) (x := A 9 + nI (2 * nv A (70 + 9 * k + 4))) q9
  refine J_aload_n hC dX4_mend_0 rfl rfl ?_
  refine J_iload_n hC dX4_mend_1 rfl rfl ?_
  refine J_aload_n hC dX4_mend_2 rfl rfl ?_
  refine J_iload_n hC dX4_mend_3 rfl rfl ?_
  refine iX4_240 hC hw rfl ⟨by decide, by decide⟩ ⟨by decide, by decide⟩ (Nat.le_of_ble_eq_true rfl) dX4_mend_4 ?_
  refine c_X4_repairPrice hw hO hI hk ?_
  dsimp only [Option.toList_some, Option.toList_none, List.cons_append, List.nil_append]
  refine iX4_203 hC hw rfl ⟨by decide, by decide⟩ ⟨by decide, by decide⟩ (Nat.le_of_ble_eq_true rfl) dX4_mend_7 ?_
  refine c_X4_payOffice hw hO hI hk (fun σ1 hO1 hF1 => ?_)
  dsimp only [Option.toList_some, Option.toList_none, List.cons_append, List.nil_append]
  refine J_aload_n hC dX4_mend_10 rfl rfl ?_
  refine gX4_21 hC hw dX4_mend_11 ?_
  refine gX4_95 hC hw dX4_mend_14 ?_
  refine J_iload_n hC dX4_mend_17 rfl rfl ?_
  refine J_iconst (v := nI 0) hC dX4_mend_18 (by decide) ?_
  refine J_iastore hC (hw.2.1 14 (by decide)) (kd_o hw.1) rfl (by omega) (by decide) dX4_mend_19 ?_
  refine J_return hC hR dX4_mend_20 (by decide) (by decide) ?_
  exact hq _ (OAt_k (c := 14) (r := 6) (v := nI 0) hO1 hPq (by omega) (show k < 16 by omega)) (FrO_wr hF1 (by decide))
theorem fundV_eq (A : Rw) (k : Nat) {c : Nat} (hc : c < 2 ^ 31) : imin (nI c) (imax (nI 0) (nI 99999 - A (70 + 9 * k + 5))) = fundV A k (nI c) := by
  unfold fundV
  generalize nI 99999 - A (70 + 9 * k + 5) = r
  have hc2 := nI_toInt hc
  by_cases h : r < 0
  · rw [if_pos h, show imax (nI 0) r = nI 0 from (imax_alt _ _).1 h]
    by_cases h2 : nI c < nI 0
    · rw [Int32.lt_iff_toInt_lt] at h2
      have e0 : (nI 0).toInt = 0 := rfl
      omega
    · exact (imin_alt _ _).2 h2
  · rw [if_neg h]
    have e0 : (nI 0).toInt = 0 := rfl
    have e1 : (0 : Int32).toInt = 0 := rfl
    have hm : imax (nI 0) r = r := by
      by_cases h2 : r < nI 0
      · rw [Int32.lt_iff_toInt_lt] at h h2
        omega
      · apply Int32.toInt_inj.mp
        unfold imax
        by_cases h3 : nI 0 < r
        · rw [if_pos h3]
        · rw [if_neg h3]
          rw [Int32.lt_iff_toInt_lt] at h h2 h3
          omega
    rw [hm]
    apply Int32.toInt_inj.mp
    unfold imin
    by_cases h3 : r < nI c
    · rw [if_pos h3, if_neg (fun q => by rw [Int32.lt_iff_toInt_lt] at h3 q; omega)]
    · by_cases h4 : nI c < r
      · rw [if_neg h3, if_pos h4]
      · rw [if_neg h3, if_neg h4]
        rw [Int32.lt_iff_toInt_lt] at h3 h4
        omega
set_option maxHeartbeats 4000000 in
set_option maxRecDepth 100000 in
theorem c_X4_putCoins {G : GC} {w : Lay} {σ : Mem} {Q : Lay → Option Value → Mem → Prop} {Qx : Lay → String → Mem → Prop} {o hm : Nat} {A : Rw} (hw : LO w o) (hO : OAt σ o A) (hI : RowOK hm A) {k c : Nat} (hk : k < nv A 6) (hc : c < 2 ^ 31) (hq : ∀ σ', OAt σ' o (fundA A k (nI c)) → FrO o σ σ' → Q w none σ') : MX4_putCoins G w σ [.ref (w.2.1 o 0), .int (nI k), .int (nI c)] Q Qx := by
  refine mt_start (by decide) rfl (Nat.le_of_ble_eq_true rfl) (fun E hC hR hN => ?_)
  show J G E w 0 0 0 [some (.ref (w.2.1 o 0)), some (.int (nI k)), some (.int (nI c)), none, none] [] σ
  have h1 := r_NK hI
  refine J_iconst (v := nI 0) hC dX4_putCoins_0 (by decide) ?_
  refine J_ldc (v := nI 99999) hC dX4_putCoins_1 q5_22 ?_
  refine J_aload_n hC dX4_putCoins_3 rfl rfl ?_
  refine gX4_21 hC hw dX4_putCoins_4 ?_
  refine gX4_92 hC hw dX4_putCoins_7 ?_
  refine J_iload_n hC dX4_putCoins_10 rfl rfl ?_
  refine J_iaload hC (hw.2.1 13 (by decide)) (kd_o hw.1) rfl (by omega) (by decide) dX4_putCoins_11 ?_
  refine J_top (o_P hO hk) ?_
  refine J_isub hC dX4_putCoins_12 ?_
  refine J_max hC rfl q2_192 (by decide) (Nat.le_of_ble_eq_true rfl) (by decide) (by decide) dX4_putCoins_13 ?_
  refine J_istore_n hC dX4_putCoins_16 rfl (Nat.le_of_ble_eq_true rfl) rfl ?_
  dsimp only [List.set]
  refine J_iload_n hC dX4_putCoins_17 rfl rfl ?_
  refine J_iload_n hC dX4_putCoins_18 rfl rfl ?_
  refine J_min hC rfl q2_203 (by decide) (Nat.le_of_ble_eq_true rfl) (by decide) (by decide) dX4_putCoins_19 ?_
  rw [fundV_eq A k hc]
  refine J_istore hC dX4_putCoins_22 (Nat.le_of_ble_eq_true rfl) rfl ?_
  dsimp only [List.set]
  refine J_aload_n hC dX4_putCoins_24 rfl rfl ?_
  refine gX4_21 hC hw dX4_putCoins_25 ?_
  refine gX4_92 hC hw dX4_putCoins_28 ?_
  refine J_iload_n hC dX4_putCoins_31 rfl rfl ?_
  refine J_dup2 hC dX4_putCoins_32 rfl rfl ?_
  refine J_iaload hC (hw.2.1 13 (by decide)) (kd_o hw.1) rfl (by omega) (by decide) dX4_putCoins_33 ?_
  refine J_top (o_P hO hk) ?_
  refine J_iload hC dX4_putCoins_34 rfl ?_
  refine J_iadd hC dX4_putCoins_36 ?_
  refine J_iastore hC (hw.2.1 13 (by decide)) (kd_o hw.1) rfl (by omega) (by decide) dX4_putCoins_37 ?_
  refine J_aload_n hC dX4_putCoins_38 rfl rfl ?_
  refine J_dup hC dX4_putCoins_39 rfl ?_
  refine gX4_53 hC hw dX4_putCoins_40 ?_
  refine J_top ((rd_wr_c (by decide)).trans hO.1.2.2) ?_
  refine J_iload hC dX4_putCoins_43 rfl ?_
  refine J_iadd hC dX4_putCoins_45 ?_
  refine pX4_53 hC hw dX4_putCoins_46 ?_
  refine J_return hC hR dX4_putCoins_49 (by decide) (by decide) ?_
  have z := OAt_n (c := 0) (k := 5) (r := 10) (v := A 10 + fundV A k (nI c)) (OAt_k (c := 13) (r := 5) (v := A (70 + 9 * k + 5) + fundV A k (nI c)) hO hI (by omega) (show k < 16 by omega)) (RowOK_updq hI (quiet_kite (k := k) (by omega) (by omega))) (by omega)
  exact hq _ z (FrO_wr (FrO_wr FrO_refl (by decide)) (by decide))
