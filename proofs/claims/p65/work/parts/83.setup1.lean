set_option maxHeartbeats 4000000 in
set_option maxRecDepth 100000 in
theorem c_X0_openZone {G : GC} {w : Lay} {σ : Mem} {Q : Lay → Option Value → Mem → Prop} {Qx : Lay → String → Mem → Prop} {o nz : Nat} (hw : LO w o) (hz : rd σ o 1 4 = nI nz) (hz4 : nz ≤ 4) (hq : ∀ σ', (nz < 4 ∧ σ' = wr (wr σ o 2 nz (nI 0)) o 1 4 (nI (nz + 1))) ∨ (nz = 4 ∧ σ' = σ) → Q w none σ') : MX0_openZone G w σ [.ref (w.2.1 o 1)] Q Qx := by
  refine mt_start (by decide) rfl (Nat.le_of_ble_eq_true rfl) (fun E hC hR hN => ?_)
  show J G E w 0 0 0 [some (.ref (w.2.1 o 1))] [] σ
  refine J_aload_n hC dX0_openZone_0 rfl rfl ?_
  refine gX0_37 hC hw dX0_openZone_1 ?_
  refine J_top hz ?_
  refine J_iconst (v := nI 4) hC dX0_openZone_4 (by decide) ?_
  refine J_icmp_ge_n hC (by omega) (by decide) (tgt := 28) dX0_openZone_5 rfl (fun b1 => ?_) (fun b1 => ?_)
  · refine J_return hC hR dX0_openZone_28 (by decide) (by decide) ?_
    exact hq _ (Or.inr ⟨by omega, rfl⟩)
  · refine J_aload_n hC dX0_openZone_8 rfl rfl ?_
    refine gX0_9 hC hw dX0_openZone_9 ?_
    refine J_aload_n hC dX0_openZone_12 rfl rfl ?_
    refine gX0_37 hC hw dX0_openZone_13 ?_
    refine J_top hz ?_
    refine J_iconst (v := nI 0) hC dX0_openZone_16 (by decide) ?_
    refine J_iastore hC (hw.2.1 2 (by decide)) (kd_o hw.1) rfl (by omega) (by decide) dX0_openZone_17 ?_
    refine J_aload_n hC dX0_openZone_18 rfl rfl ?_
    refine J_dup hC dX0_openZone_19 rfl ?_
    refine gX0_37 hC hw dX0_openZone_20 ?_
    refine J_top ((rd_wr_c (by decide)).trans hz) ?_
    refine J_iconst (v := nI 1) hC dX0_openZone_23 (by decide) ?_
    refine J_iadd_n hC dX0_openZone_24 ?_
    refine pX0_37 hC hw dX0_openZone_25 ?_
    refine J_return hC hR dX0_openZone_28 (by decide) (by decide) ?_
    exact hq _ (Or.inl ⟨by omega, rfl⟩)
set_option maxHeartbeats 4000000 in
set_option maxRecDepth 100000 in
theorem c_X0_addColour {G : GC} {w : Lay} {σ : Mem} {Q : Lay → Option Value → Mem → Prop} {Qx : Lay → String → Mem → Prop} {o nc : Nat} {v : Int32} (hw : LO w o) (hz : rd σ o 1 8 = nI nc) (hz4 : nc ≤ 6) (hq : ∀ σ', (nc < 6 ∧ σ' = acM σ o nc v) ∨ (nc = 6 ∧ σ' = σ) → Q w none σ') : MX0_addColour G w σ [.ref (w.2.1 o 1), .int v] Q Qx := by
  refine mt_start (by decide) rfl (Nat.le_of_ble_eq_true rfl) (fun E hC hR hN => ?_)
  show J G E w 0 0 0 [some (.ref (w.2.1 o 1)), some (.int v)] [] σ
  refine J_aload_n hC dX0_addColour_0 rfl rfl ?_
  refine gX0_46 hC hw dX0_addColour_1 ?_
  refine J_top hz ?_
  refine J_bipush (v := nI 6) hC dX0_addColour_4 (by decide) ?_
  refine J_icmp_ge_n hC (by omega) (by decide) (tgt := 29) dX0_addColour_6 rfl (fun b1 => ?_) (fun b1 => ?_)
  · refine J_return hC hR dX0_addColour_29 (by decide) (by decide) ?_
    exact hq _ (Or.inr ⟨by omega, rfl⟩)
  · refine J_aload_n hC dX0_addColour_9 rfl rfl ?_
    refine gX0_21 hC hw dX0_addColour_10 ?_
    refine J_aload_n hC dX0_addColour_13 rfl rfl ?_
    refine gX0_46 hC hw dX0_addColour_14 ?_
    refine J_top hz ?_
    refine J_iload_n hC dX0_addColour_17 rfl rfl ?_
    refine J_iastore hC (hw.2.1 5 (by decide)) (kd_o hw.1) rfl (by omega) (by decide) dX0_addColour_18 ?_
    refine J_aload_n hC dX0_addColour_19 rfl rfl ?_
    refine J_dup hC dX0_addColour_20 rfl ?_
    refine gX0_46 hC hw dX0_addColour_21 ?_
    refine J_top ((rd_wr_c (by decide)).trans hz) ?_
    refine J_iconst (v := nI 1) hC dX0_addColour_24 (by decide) ?_
    refine J_iadd_n hC dX0_addColour_25 ?_
    refine pX0_46 hC hw dX0_addColour_26 ?_
    refine J_return hC hR dX0_addColour_29 (by decide) (by decide) ?_
    exact hq _ (Or.inl ⟨by omega, rfl⟩)
set_option maxHeartbeats 4000000 in
set_option maxRecDepth 100000 in
theorem c_X0_addWind {G : GC} {w : Lay} {σ : Mem} {Q : Lay → Option Value → Mem → Prop} {Qx : Lay → String → Mem → Prop} {o nz : Nat} {d f : Int32} (hw : LO w o) (hz : rd σ o 1 4 = nI nz) (hz4 : nz ≤ 4) (hc : ∀ z, z < nz → ∃ m, rd σ o 2 z = nI m ∧ m ≤ 6) (hq : ∀ σ', (∃ z m, nz = z + 1 ∧ rd σ o 2 z = nI m ∧ m < 6 ∧ σ' = awM σ o z m d f) ∨ ((nz = 0 ∧ σ' = σ) ∨ ∃ z, nz = z + 1 ∧ rd σ o 2 z = nI 6 ∧ σ' = σ) → Q w none σ') : MX0_addWind G w σ [.ref (w.2.1 o 1), .int d, .int f] Q Qx := by
  refine mt_start (by decide) rfl (Nat.le_of_ble_eq_true rfl) (fun E hC hR hN => ?_)
  show J G E w 0 0 0 [some (.ref (w.2.1 o 1)), some (.int d), some (.int f), none, none] [] σ
  cases nz with
  | zero =>
    refine J_aload_n hC dX0_addWind_0 rfl rfl ?_
    refine gX0_37 hC hw dX0_addWind_1 ?_
    refine J_top hz ?_
    refine J_iconst (v := nI 1) hC dX0_addWind_4 (by decide) ?_
    refine J_isub_z hC (nI_iI _) (nI_iI _) dX0_addWind_5 ?_
    refine J_istore_n hC dX0_addWind_6 rfl (Nat.le_of_ble_eq_true rfl) rfl ?_
    dsimp only [List.set]
    refine J_iload_n hC dX0_addWind_7 rfl rfl ?_
    refine J_if_lt_z hC rfl (by omega) (tgt := 61) dX0_addWind_8 rfl (fun b1 => ?_) (fun b1 => ?_)
    · refine J_return hC hR dX0_addWind_61 (by decide) (by decide) ?_
      exact hq _ (Or.inr (Or.inl ⟨rfl, rfl⟩))
    · exact absurd b1 (by decide)
  | succ z =>
    obtain ⟨m, hm, hm6⟩ := hc z (Nat.lt_succ_self z)
    refine J_aload_n hC dX0_addWind_0 rfl rfl ?_
    refine gX0_37 hC hw dX0_addWind_1 ?_
    refine J_top hz ?_
    refine J_iconst (v := nI 1) hC dX0_addWind_4 (by decide) ?_
    refine J_isub_n hC (by omega) dX0_addWind_5 ?_
    rw [show z + 1 - 1 = z from rfl]
    refine J_istore_n hC dX0_addWind_6 rfl (Nat.le_of_ble_eq_true rfl) rfl ?_
    dsimp only [List.set]
    refine J_iload_n hC dX0_addWind_7 rfl rfl ?_
    refine J_if_lt_n hC (by omega) (tgt := 61) dX0_addWind_8 rfl (fun b1 => ?_) (fun b1 => ?_)
    · exact absurd b1 (by omega)
    · refine J_aload_n hC dX0_addWind_11 rfl rfl ?_
      refine gX0_9 hC hw dX0_addWind_12 ?_
      refine J_iload_n hC dX0_addWind_15 rfl rfl ?_
      refine J_iaload hC (hw.2.1 2 (by decide)) (kd_o hw.1) rfl (by omega) (by decide) dX0_addWind_16 ?_
      refine J_top hm ?_
      refine J_bipush (v := nI 6) hC dX0_addWind_17 (by decide) ?_
      refine J_icmp_ge_n hC (by omega) (by decide) (tgt := 61) dX0_addWind_19 rfl (fun b2 => ?_) (fun b2 => ?_)
      · refine J_return hC hR dX0_addWind_61 (by decide) (by decide) ?_
        exact hq _ (Or.inr (Or.inr ⟨z, rfl, by rw [hm, show m = 6 by omega], rfl⟩))
      · refine J_iload_n hC dX0_addWind_22 rfl rfl ?_
        refine J_bipush (v := nI 6) hC dX0_addWind_23 (by decide) ?_
        refine J_imul_n hC dX0_addWind_25 ?_
        refine J_aload_n hC dX0_addWind_26 rfl rfl ?_
        refine gX0_9 hC hw dX0_addWind_27 ?_
        refine J_iload_n hC dX0_addWind_30 rfl rfl ?_
        refine J_iaload hC (hw.2.1 2 (by decide)) (kd_o hw.1) rfl (by omega) (by decide) dX0_addWind_31 ?_
        refine J_top hm ?_
        refine J_iadd_n hC dX0_addWind_32 ?_
        refine J_istore hC dX0_addWind_33 (Nat.le_of_ble_eq_true rfl) rfl ?_
        dsimp only [List.set]
        refine J_aload_n hC dX0_addWind_35 rfl rfl ?_
        refine gX0_15 hC hw dX0_addWind_36 ?_
        refine J_iload hC dX0_addWind_39 rfl ?_
        refine J_iload_n hC dX0_addWind_41 rfl rfl ?_
        refine J_iastore hC (hw.2.1 3 (by decide)) (kd_o hw.1) rfl (by omega) (by decide) dX0_addWind_42 ?_
        refine J_aload_n hC dX0_addWind_43 rfl rfl ?_
        refine gX0_18 hC hw dX0_addWind_44 ?_
        refine J_iload hC dX0_addWind_47 rfl ?_
        refine J_iload_n hC dX0_addWind_49 rfl rfl ?_
        refine J_iastore hC (hw.2.1 4 (by decide)) (kd_o hw.1) rfl (by omega) (by decide) dX0_addWind_50 ?_
        refine J_aload_n hC dX0_addWind_51 rfl rfl ?_
        refine gX0_9 hC hw dX0_addWind_52 ?_
        refine J_iload_n hC dX0_addWind_55 rfl rfl ?_
        refine J_dup2 hC dX0_addWind_56 rfl rfl ?_
        refine J_iaload hC (hw.2.1 2 (by decide)) (kd_o hw.1) rfl (by omega) (by decide) dX0_addWind_57 ?_
        refine J_top ((rd_wr_c (by decide)).trans ((rd_wr_c (by decide)).trans hm)) ?_
        refine J_iconst (v := nI 1) hC dX0_addWind_58 (by decide) ?_
        refine J_iadd_n hC dX0_addWind_59 ?_
        refine J_iastore hC (hw.2.1 2 (by decide)) (kd_o hw.1) rfl (by omega) (by decide) dX0_addWind_60 ?_
        refine J_return hC hR dX0_addWind_61 (by decide) (by decide) ?_
        exact hq _ (Or.inl ⟨z, m, rfl, hm, by omega, rfl⟩)
