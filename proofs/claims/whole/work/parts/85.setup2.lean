set_option maxHeartbeats 4000000 in
set_option maxRecDepth 100000 in
theorem c_X8_readWinds {G : GC} {w : Lay} {σ : Mem} {Q : Lay → Option Value → Mem → Prop} {Qx : Lay → String → Mem → Prop} {o nz : Nat} (hw : LO w o) (hK : LK w) {t : Nat → Nat} {L : Nat} (hX : TXc σ t L) {X : BX} (hSS : SS σ o t L X) (hXn : ∀ A a, X = .inr (A, a) → Zin nz 0 A) (hq : ∀ σ', FrD (fun c _ => c = 2 ∨ c = 3 ∨ c = 4) o σ σ' → SS σ' o t L (bnd X (fun r => pWindsC t L 8 r.1 r.2 0)) → (∀ A a, bnd X (fun r => pWindsC t L 8 r.1 r.2 0) = .inr (A, a) → ∃ m, 1 ≤ m ∧ Zin nz m A) → Q w none σ') : MX8_readWinds G w σ [.ref (w.2.1 o 1), .ref (w.2.1 12 5)] Q Qx := by
  refine mt_start (by decide) rfl (Nat.le_of_ble_eq_true rfl) (fun E hC hR hN => ?_)
  show J G E w 0 0 0 [some (.ref (w.2.1 o 1)), some (.ref (w.2.1 12 5)), none, none, none] [] σ
  generalize hXF : bnd X (fun r => pWindsC t L 8 r.1 r.2 0) = XF at hq
  have lp : ∀ (dd : Nat) (m : Nat) (Y : BX) (σ1 : Mem), 6 - m < dd → (m ≤ 6) → (FrD (fun c _ => c = 2 ∨ c = 3 ∨ c = 4) o σ σ1) → (SS σ1 o t L Y) → (∀ A a, Y = .inr (A, a) → Zin nz m A) → (bnd Y (fun r => pWindsC t L (8 - m) r.1 r.2 m) = XF) →  J G E w 0 0 2 [some (.ref (w.2.1 o 1)), some (.ref (w.2.1 12 5)), some (.int (nI m)), none, none] [] σ1 := by
    intro dd
    induction dd with
    | zero =>
      intro m Y σ1 hdd
      exact absurd hdd (Nat.not_lt_zero _)
    | succ dd ih =>
      intro m Y σ1 hdd hm hF1 hS1 hZ hY
      have hX1 := FrD_TX hw.1 hF1 hX
      have j49 : (m = 6 ∨ (m ≠ 0 ∧ ¬ atN t L (sOf Y))) →  J G E w 0 0 49 [some (.ref (w.2.1 o 1)), some (.ref (w.2.1 12 5)), some (.int (nI m)), none, none] [] σ1 := by
        intro  h49
        refine J_aload_n hC dX8_readWinds_49 rfl rfl ?_
        refine iX8_85 hC hK rfl ⟨by decide, by decide⟩ ⟨by decide, by decide⟩ (Nat.le_of_ble_eq_true rfl) dX8_readWinds_50 ?_
        refine c_X3_isAtNumber hK hX1 hS1.2.1 (fun b5 => ?_) (fun b5 => ?_)
        · dsimp only [Option.toList_some, Option.toList_none, List.cons_append, List.nil_append]
          obtain ⟨a, ha, hk⟩ := b5
          obtain ⟨A, hYA⟩ := sOf_inr ha
          subst hYA
          have hv9 := numT_le t L (skip t L a)
          have e9 := (wind_end hm h49).1 A a rfl hk
          rw [hY] at e9
          refine J_if_eq_n hC (by decide) (tgt := 74) dX8_readWinds_53 rfl (fun hf => absurd hf (by omega)) (fun _ => ?_)
          refine J_aload_n hC dX8_readWinds_56 rfl rfl ?_
          refine J_aload_n hC dX8_readWinds_57 rfl rfl ?_
          refine gX8_93 hC hK dX8_readWinds_58 ?_
          refine J_top (show rd σ1 12 5 7 = nI (numT t L (skip t L a)) from hS1.2.1.2.2.2.2.2.2 hk) ?_
          refine J_bipush (v := nI 7) hC dX8_readWinds_61 (by decide) ?_
          refine J_icmp_le_n hC (by omega) (by decide) (tgt := 70) dX8_readWinds_63 rfl (fun b6 => ?_) (fun b6 => ?_)
          · refine J_iconst (v := nI 3) hC dX8_readWinds_70 (by decide) ?_
            refine iX8_81 hC hK rfl ⟨by decide, by decide⟩ ⟨by decide, by decide⟩ (Nat.le_of_ble_eq_true rfl) dX8_readWinds_71 ?_
            refine c_X3_fail hK hX1 hS1.2.1 (by decide) (by decide) (fun σ2 hF2 hS2 => ?_)
            dsimp only [Option.toList_some, Option.toList_none, List.cons_append, List.nil_append]
            refine J_return hC hR dX8_readWinds_74 (by decide) (by decide) ?_
            rw [if_neg (by omega)] at e9
            exact hq σ2 (FrD_trans hF1 (FrI_D hF2)) ⟨SfE_fr (FrI_o hF2 hw.1) hS1.1, by rw [e9]; exact hS2, fun A a e => by rw [e9] at e; cases e⟩ (fun A a e => by rw [e9] at e; cases e)
          · refine J_iconst (v := nI 2) hC dX8_readWinds_66 (by decide) ?_
            refine J_goto (tgt := 71) hC dX8_readWinds_67 rfl ?_
            refine iX8_81 hC hK rfl ⟨by decide, by decide⟩ ⟨by decide, by decide⟩ (Nat.le_of_ble_eq_true rfl) dX8_readWinds_71 ?_
            refine c_X3_fail hK hX1 hS1.2.1 (by decide) (by decide) (fun σ2 hF2 hS2 => ?_)
            dsimp only [Option.toList_some, Option.toList_none, List.cons_append, List.nil_append]
            refine J_return hC hR dX8_readWinds_74 (by decide) (by decide) ?_
            rw [if_pos (by omega)] at e9
            exact hq σ2 (FrD_trans hF1 (FrI_D hF2)) ⟨SfE_fr (FrI_o hF2 hw.1) hS1.1, by rw [e9]; exact hS2, fun A a e => by rw [e9] at e; cases e⟩ (fun A a e => by rw [e9] at e; cases e)
        · dsimp only [Option.toList_some, Option.toList_none, List.cons_append, List.nil_append]
          refine J_if_eq_n hC (by decide) (tgt := 74) dX8_readWinds_53 rfl (fun _ => ?_) (fun hf => absurd hf (by omega))
          refine J_return hC hR dX8_readWinds_74 (by decide) (by decide) ?_
          have e9 := (wind_end hm h49).2 b5
          rw [hY] at e9
          exact hq σ1 hF1 (by rw [e9]; exact hS1) (fun A a e => ⟨m, by omega, hZ A a (by rw [← e9]; exact e)⟩)
      have j19 : (m = 0 ∨ atN t L (sOf Y)) → (m < 6) →  J G E w 0 0 19 [some (.ref (w.2.1 o 1)), some (.ref (w.2.1 12 5)), some (.int (nI m)), none, none] [] σ1 := by
        intro  h19 b1
        refine J_aload_n hC dX8_readWinds_19 rfl rfl ?_
        refine J_iconst (v := nI 0) hC dX8_readWinds_20 (by decide) ?_
        refine J_bipush (v := nI 7) hC dX8_readWinds_21 (by decide) ?_
        refine iX8_47 hC hK rfl ⟨by decide, by decide⟩ ⟨by decide, by decide⟩ (Nat.le_of_ble_eq_true rfl) dX8_readWinds_23 ?_
        refine c_X3_takeNumber hK hX1 hS1.2.1 (by decide) (by decide) (fun σ2 hF2 hS2 => ?_)
        dsimp only [Option.toList_some, Option.toList_none, List.cons_append, List.nil_append]
        have hX2 := FrI_TX hF2 hX1
        refine J_istore_n hC dX8_readWinds_26 rfl (Nat.le_of_ble_eq_true rfl) rfl ?_
        dsimp only [List.set]
        refine J_aload_n hC dX8_readWinds_27 rfl rfl ?_
        refine J_iconst (v := nI 0) hC dX8_readWinds_28 (by decide) ?_
        refine J_bipush (v := nI 9) hC dX8_readWinds_29 (by decide) ?_
        refine iX8_47 hC hK rfl ⟨by decide, by decide⟩ ⟨by decide, by decide⟩ (Nat.le_of_ble_eq_true rfl) dX8_readWinds_31 ?_
        refine c_X3_takeNumber hK hX2 hS2 (by decide) (by decide) (fun σ3 hF3 hS3 => ?_)
        dsimp only [Option.toList_some, Option.toList_none, List.cons_append, List.nil_append]
        have hX3 := FrI_TX hF3 hX2
        obtain ⟨nz9, nc9, nk9, hsf⟩ := hS1.1
        have g3 := FrI_o (FrI_trans hF2 hF3) hw.1
        have hsf3 := Sf_fr g3 hsf
        refine J_istore hC dX8_readWinds_34 (Nat.le_of_ble_eq_true rfl) rfl ?_
        dsimp only [List.set]
        refine J_aload_n hC dX8_readWinds_36 rfl rfl ?_
        refine J_iload_n hC dX8_readWinds_37 rfl rfl ?_
        refine J_iload hC dX8_readWinds_38 rfl ?_
        refine iX8_89 hC hw rfl ⟨by decide, by decide⟩ ⟨by decide, by decide⟩ (Nat.le_of_ble_eq_true rfl) dX8_readWinds_40 ?_
        refine c_X0_addWind hw hsf3.1 hsf3.2.1 hsf3.2.2.1 (fun σ4 h4 => ?_)
        dsimp only [Option.toList_some, Option.toList_none, List.cons_append, List.nil_append]
        refine J_iinc_n (m := 1) hC (by decide) dX8_readWinds_43 rfl (Nat.le_of_ble_eq_true rfl) rfl ?_
        dsimp only [List.set]
        refine J_goto (tgt := 2) hC dX8_readWinds_46 rfl ?_
        have ws := wind_step (t := t) (L := L) (Y := Y) b1 h19
        have wf := wind_sf hsf3 h4
        refine J_less (ls' := [some (.ref (w.2.1 o 1)), some (.ref (w.2.1 12 5)), some (.int (nI (m + 1))), none, none]) ⟨Or.inr rfl, Or.inr rfl, Or.inr rfl, Or.inl rfl, Or.inl rfl, trivial⟩ ?_
        refine ih (m + 1) (windY t L Y) σ4 (by omega) (by omega) (FrD_trans hF1 (FrD_trans (FrI_D (FrI_trans hF2 hF3)) wf.2)) ⟨wf.1, by rw [ws.1]; exact StC_D (D := fun _ _ => True) (o := o) (WR_12 hw.1 h4) hS3, fun B b hB => ?_⟩ (fun B b hB => ?_) (ws.2.2.trans hY)
        · obtain ⟨A, a, hYA, hBe⟩ := ws.2.1 B b hB
          subst hYA
          rw [hBe]
          exact wind_mem (OAt_fr (o := 0) g3 (hS1.2.2 A a rfl)) (hZ A a rfl) b1 hsf3 h4
        · obtain ⟨A, a, hYA, hBe⟩ := ws.2.1 B b hB
          rw [hBe]
          exact Zin_wind (hZ A a hYA) b1 (vNum_rng (by decide) _).2 (vNum_rng (by decide) _).2
      refine J_iload_n hC dX8_readWinds_2 rfl rfl ?_
      refine J_bipush (v := nI 6) hC dX8_readWinds_3 (by decide) ?_
      refine J_icmp_ge_n hC (by omega) (by decide) (tgt := 49) dX8_readWinds_5 rfl (fun b1 => ?_) (fun b1 => ?_)
      · exact j49 (Or.inl (by omega))
      · refine J_iload_n hC dX8_readWinds_8 rfl rfl ?_
        refine J_if_eq_n hC (by omega) (tgt := 19) dX8_readWinds_9 rfl (fun b2 => ?_) (fun b2 => ?_)
        · exact j19 (Or.inl b2) b1
        · refine J_aload_n hC dX8_readWinds_12 rfl rfl ?_
          refine iX8_85 hC hK rfl ⟨by decide, by decide⟩ ⟨by decide, by decide⟩ (Nat.le_of_ble_eq_true rfl) dX8_readWinds_13 ?_
          refine c_X3_isAtNumber hK hX1 hS1.2.1 (fun b3 => ?_) (fun b3 => ?_)
          · dsimp only [Option.toList_some, Option.toList_none, List.cons_append, List.nil_append]
            refine J_if_eq_n hC (by decide) (tgt := 49) dX8_readWinds_16 rfl (fun hf => absurd hf (by omega)) (fun _ => ?_)
            exact j19 (Or.inr b3) b1
          · dsimp only [Option.toList_some, Option.toList_none, List.cons_append, List.nil_append]
            refine J_if_eq_n hC (by decide) (tgt := 49) dX8_readWinds_16 rfl (fun _ => ?_) (fun hf => absurd hf (by omega))
            exact j49 (Or.inr ⟨b2, b3⟩)
  refine J_iconst (v := nI 0) hC dX8_readWinds_0 (by decide) ?_
  refine J_istore_n hC dX8_readWinds_1 rfl (Nat.le_of_ble_eq_true rfl) rfl ?_
  dsimp only [List.set]
  exact lp 7 0 X σ (by omega) (by omega) FrD_refl hSS hXn hXF
theorem eX_inr {t : Nat → Nat} {L : Nat} {Y : BX} {A : Rw} {a : Nat} (h : eX t L Y = .inr (A, a)) : ∃ b, Y = .inr (A, b) := by
  cases Y with
  | inl e => cases h
  | inr r =>
    obtain ⟨A0, b⟩ := r
    change bnd (pEnd t L b) (fun c => (.inr (A0, c) : BX)) = .inr (A, a) at h
    cases h1 : pEnd t L b with
    | inl e => rw [h1] at h; cases h
    | inr c =>
      rw [h1] at h
      have e : A0 = A := congrArg Prod.fst (Sum.inr.inj h)
      exact ⟨b, by rw [e]⟩
set_option maxHeartbeats 4000000 in
set_option maxRecDepth 100000 in
theorem c_X8_readZones {G : GC} {w : Lay} {σ : Mem} {Q : Lay → Option Value → Mem → Prop} {Qx : Lay → String → Mem → Prop} {o : Nat} (hw : LO w o) (hK : LK w) {t : Nat → Nat} {L : Nat} (hX : TXc σ t L) {X : BX} (hSS : SS σ o t L X) (hXn : ∀ A a, X = .inr (A, a) → Pst 0 0 0 A) (hq : ∀ σ', FrD (fun c j => (c = 2 ∨ c = 3 ∨ c = 4) ∨ (c = 1 ∧ j = 4)) o σ σ' → SS σ' o t L (zF t L 0 X) → (∀ A a, zF t L 0 X = .inr (A, a) → ∃ z, 1 ≤ z ∧ Pst z 0 0 A) → Q w none σ') : MX8_readZones G w σ [.ref (w.2.1 o 1), .ref (w.2.1 12 5)] Q Qx := by
  refine mt_start (by decide) rfl (Nat.le_of_ble_eq_true rfl) (fun E hC hR hN => ?_)
  show J G E w 0 0 0 [some (.ref (w.2.1 o 1)), some (.ref (w.2.1 12 5)), none] [] σ
  generalize hXF : zF t L 0 X = XF at hq
  have lp : ∀ (dd : Nat) (z : Nat) (Y : BX) (σ1 : Mem), 4 - z < dd → (z ≤ 4) → (FrD (fun c j => (c = 2 ∨ c = 3 ∨ c = 4) ∨ (c = 1 ∧ j = 4)) o σ σ1) → (SS σ1 o t L Y) → (∀ A a, Y = .inr (A, a) → Pst z 0 0 A) → (zF t L z Y = XF) →  J G E w 0 0 2 [some (.ref (w.2.1 o 1)), some (.ref (w.2.1 12 5)), some (.int (nI z))] [] σ1 := by
    intro dd
    induction dd with
    | zero =>
      intro z Y σ1 hdd
      exact absurd hdd (Nat.not_lt_zero _)
    | succ dd ih =>
      intro z Y σ1 hdd hz hF1 hS1 hZ hY
      have hX1 := FrD_TX hw.1 hF1 hX
      have hY4 : ∀ A a, Y = .inr (A, a) → nv A 4 = z := fun A a e => nv_of (hZ A a e).2.1.1 (by omega)
      have j45 : (z = 4 ∨ (z ≠ 0 ∧ ¬ atW wZONE t L (sOf Y))) →  J G E w 0 0 45 [some (.ref (w.2.1 o 1)), some (.ref (w.2.1 12 5)), some (.int (nI z))] [] σ1 := by
        intro  h45
        refine J_aload_n hC dX8_readZones_45 rfl rfl ?_
        refine J_ldcS hC (k := 3) rfl dX8_readZones_46 ?_
        refine iX8_71 hC hK rfl ⟨by decide, by decide⟩ ⟨by decide, by decide⟩ (Nat.le_of_ble_eq_true rfl) dX8_readZones_48 ?_
        refine c_X3_isAtWord hK hX1 hS1.2.1 (by decide) (fun b5 => ?_) (fun b5 => ?_)
        · dsimp only [Option.toList_some, Option.toList_none, List.cons_append, List.nil_append]
          rw [sW_3] at b5
          obtain ⟨a, ha, e9⟩ := (zone_end hz hY4 h45).1 b5
          rw [hY] at e9
          refine J_if_eq_n hC (by decide) (tgt := 59) dX8_readZones_51 rfl (fun hf => absurd hf (by omega)) (fun _ => ?_)
          refine J_aload_n hC dX8_readZones_54 rfl rfl ?_
          refine J_iconst (v := nI 3) hC dX8_readZones_55 (by decide) ?_
          refine iX8_81 hC hK rfl ⟨by decide, by decide⟩ ⟨by decide, by decide⟩ (Nat.le_of_ble_eq_true rfl) dX8_readZones_56 ?_
          refine c_X3_fail hK hX1 hS1.2.1 (by decide) (by decide) (fun σ2 hF2 hS2 => ?_)
          dsimp only [Option.toList_some, Option.toList_none, List.cons_append, List.nil_append]
          rw [ha] at hS2
          refine J_return hC hR dX8_readZones_59 (by decide) (by decide) ?_
          exact hq σ2 (FrD_trans hF1 (FrI_D hF2)) ⟨SfE_fr (FrI_o hF2 hw.1) hS1.1, by rw [e9]; exact hS2, fun A a e => by rw [e9] at e; cases e⟩ (fun A a e => by rw [e9] at e; cases e)
        · dsimp only [Option.toList_some, Option.toList_none, List.cons_append, List.nil_append]
          rw [sW_3] at b5
          have e9 := (zone_end hz hY4 h45).2 b5
          rw [hY] at e9
          refine J_if_eq_n hC (by decide) (tgt := 59) dX8_readZones_51 rfl (fun _ => ?_) (fun hf => absurd hf (by omega))
          refine J_return hC hR dX8_readZones_59 (by decide) (by decide) ?_
          exact hq σ1 hF1 (by rw [e9]; exact hS1) (fun A a e => ⟨z, by omega, hZ A a (by rw [← e9]; exact e)⟩)
      have j20 : (z = 0 ∨ atW wZONE t L (sOf Y)) → (z < 4) →  J G E w 0 0 20 [some (.ref (w.2.1 o 1)), some (.ref (w.2.1 12 5)), some (.int (nI z))] [] σ1 := by
        intro  h20 b1
        refine J_aload_n hC dX8_readZones_20 rfl rfl ?_
        refine J_ldcS hC (k := 3) rfl dX8_readZones_21 ?_
        refine iX8_43 hC hK rfl ⟨by decide, by decide⟩ ⟨by decide, by decide⟩ (Nat.le_of_ble_eq_true rfl) dX8_readZones_23 ?_
        refine c_X3_takeWord hK hX1 hS1.2.1 (by decide) (fun σ2 hF2 hS2 => ?_)
        dsimp only [Option.toList_some, Option.toList_none, List.cons_append, List.nil_append]
        rw [sW_3, ← sOf_zX] at hS2
        have hX2 := FrI_TX hF2 hX1
        obtain ⟨nz9, nc9, nk9, hsf⟩ := hS1.1
        have g2 := FrI_o hF2 hw.1
        have hsf2 := Sf_fr g2 hsf
        refine J_aload_n hC dX8_readZones_26 rfl rfl ?_
        refine iX8_75 hC hw rfl ⟨by decide, by decide⟩ ⟨by decide, by decide⟩ (Nat.le_of_ble_eq_true rfl) dX8_readZones_27 ?_
        refine c_X0_openZone hw hsf2.1 hsf2.2.1 (fun σ3 h3 => ?_)
        dsimp only [Option.toList_some, Option.toList_none, List.cons_append, List.nil_append]
        have zf := zone_sf hsf2 h3
        have hX3 := TXc_12 (ZR_12 hw.1 h3) hX2
        have hXY : ∀ A a, zX t L Y = .inr (A, a) → ∃ A0 a0, Y = .inr (A0, a0) ∧ A = zoneA A0 := by
          intro A a e
          cases Y with
          | inl e2 => cases e
          | inr r =>
            obtain ⟨A0, a0⟩ := r
            by_cases hw9 : wordT wZONE t L (skip t L a0)
            · have e5 : zX t L (.inr (A0, a0)) = .inr (zoneA A0, endT t L (skip t L a0)) := if_pos hw9
              rw [e5] at e
              exact ⟨A0, a0, rfl, (congrArg Prod.fst (Sum.inr.inj e)).symm⟩
            · have e5 : zX t L (.inr (A0, a0)) = .inl (1, skip t L a0) := if_neg hw9
              rw [e5] at e
              cases e
        have hS3 : SS σ3 o t L (zX t L Y) := ⟨zf.1, StC_D (D := fun _ _ => True) (o := o) (ZR_12 hw.1 h3) hS2, fun A a e => by
          obtain ⟨A0, a0, hY0, rfl⟩ := hXY A a e
          exact zone_mem (OAt_fr (o := 0) g2 (hS1.2.2 A0 a0 hY0)) (hZ A0 a0 hY0) b1 hsf2 h3⟩
        have hZ3 : ∀ A a, zX t L Y = .inr (A, a) → Zin z 0 A := fun A a e => by
          obtain ⟨A0, a0, hY0, rfl⟩ := hXY A a e
          exact Zin_zone (hZ A0 a0 hY0) b1
        refine J_aload_n hC dX8_readZones_30 rfl rfl ?_
        refine J_aload_n hC dX8_readZones_31 rfl rfl ?_
        refine iX8_78 hC rfl ⟨by decide, by decide⟩ ⟨by decide, by decide⟩ (Nat.le_of_ble_eq_true rfl) dX8_readZones_32 ?_
        refine c_X8_readWinds hw hK hX3 hS3 hZ3 (fun σ4 hF4 hS4 hZ4 => ?_)
        dsimp only [Option.toList_some, Option.toList_none, List.cons_append, List.nil_append]
        have hX4 := FrD_TX hw.1 hF4 hX3
        refine J_aload_n hC dX8_readZones_35 rfl rfl ?_
        refine iX8_66 hC hK rfl ⟨by decide, by decide⟩ ⟨by decide, by decide⟩ (Nat.le_of_ble_eq_true rfl) dX8_readZones_36 ?_
        refine c_X3_takeSemicolon hK hX4 hS4.2.1 (fun σ5 hF5 hS5 => ?_)
        dsimp only [Option.toList_some, Option.toList_none, List.cons_append, List.nil_append]
        rw [← sOf_eX] at hS5
        have g5 := FrI_o hF5 hw.1
        refine J_iinc_n (m := 1) hC (by decide) dX8_readZones_39 rfl (Nat.le_of_ble_eq_true rfl) rfl ?_
        dsimp only [List.set]
        refine J_goto (tgt := 2) hC dX8_readZones_42 rfl ?_
        have hE : ∀ A a, eX t L (bnd (zX t L Y) (fun r => pWindsC t L 8 r.1 r.2 0)) = .inr (A, a) → ∃ b, bnd (zX t L Y) (fun r => pWindsC t L 8 r.1 r.2 0) = .inr (A, b) := fun A a e => eX_inr e
        refine ih (z + 1) (eX t L (bnd (zX t L Y) (fun r => pWindsC t L 8 r.1 r.2 0))) σ5 (by omega) (by omega) (FrD_trans hF1 (FrD_trans (FrI_D hF2) (FrD_trans (FrD_mono zf.2 (fun c j q => by omega)) (FrD_trans (FrD_mono hF4 (fun c j q => Or.inl q)) (FrI_D hF5))))) ⟨SfE_fr g5 hS4.1, hS5, fun A a e => ?_⟩ (fun A a e => ?_) ((zone_step b1 hY4 h20).trans hY)
        · obtain ⟨b, e2⟩ := hE A a e
          exact OAt_fr (o := 0) g5 (hS4.2.2 A b e2)
        · obtain ⟨b, e2⟩ := hE A a e
          obtain ⟨m9, h1, h2⟩ := hZ4 A b e2
          exact Pst_zin h2 h1
      refine J_iload_n hC dX8_readZones_2 rfl rfl ?_
      refine J_iconst (v := nI 4) hC dX8_readZones_3 (by decide) ?_
      refine J_icmp_ge_n hC (by omega) (by decide) (tgt := 45) dX8_readZones_4 rfl (fun b1 => ?_) (fun b1 => ?_)
      · exact j45 (Or.inl (by omega))
      · refine J_iload_n hC dX8_readZones_7 rfl rfl ?_
        refine J_if_eq_n hC (by omega) (tgt := 20) dX8_readZones_8 rfl (fun b2 => ?_) (fun b2 => ?_)
        · exact j20 (Or.inl b2) b1
        · refine J_aload_n hC dX8_readZones_11 rfl rfl ?_
          refine J_ldcS hC (k := 3) rfl dX8_readZones_12 ?_
          refine iX8_71 hC hK rfl ⟨by decide, by decide⟩ ⟨by decide, by decide⟩ (Nat.le_of_ble_eq_true rfl) dX8_readZones_14 ?_
          refine c_X3_isAtWord hK hX1 hS1.2.1 (by decide) (fun b3 => ?_) (fun b3 => ?_)
          · dsimp only [Option.toList_some, Option.toList_none, List.cons_append, List.nil_append]
            rw [sW_3] at b3
            refine J_if_eq_n hC (by decide) (tgt := 45) dX8_readZones_17 rfl (fun hf => absurd hf (by omega)) (fun _ => ?_)
            exact j20 (Or.inr b3) b1
          · dsimp only [Option.toList_some, Option.toList_none, List.cons_append, List.nil_append]
            rw [sW_3] at b3
            refine J_if_eq_n hC (by decide) (tgt := 45) dX8_readZones_17 rfl (fun _ => ?_) (fun hf => absurd hf (by omega))
            exact j45 (Or.inr ⟨b2, b3⟩)
  refine J_iconst (v := nI 0) hC dX8_readZones_0 (by decide) ?_
  refine J_istore_n hC dX8_readZones_1 rfl (Nat.le_of_ble_eq_true rfl) rfl ?_
  dsimp only [List.set]
  exact lp 5 0 X σ (by omega) (by omega) FrD_refl hSS hXn hXF
set_option maxHeartbeats 4000000 in
set_option maxRecDepth 100000 in
theorem c_X8_readColours {G : GC} {w : Lay} {σ : Mem} {Q : Lay → Option Value → Mem → Prop} {Qx : Lay → String → Mem → Prop} {o : Nat} (hw : LO w o) (hK : LK w) {t : Nat → Nat} {L : Nat} (hX : TXc σ t L) {X : BX} (hSS : SS σ o t L X) (hXn : ∀ A a, X = .inr (A, a) → ∃ zz, 1 ≤ zz ∧ Pst zz 0 0 A) (hq : ∀ σ', FrD (fun c j => c = 5 ∨ (c = 1 ∧ j = 8)) o σ σ' → SS σ' o t L (cF t L 0 X) → (∀ A a, cF t L 0 X = .inr (A, a) → ∃ z, 1 ≤ z ∧ ∃ zz, 1 ≤ zz ∧ Pst zz z 0 A) → Q w none σ') : MX8_readColours G w σ [.ref (w.2.1 o 1), .ref (w.2.1 12 5)] Q Qx := by
  refine mt_start (by decide) rfl (Nat.le_of_ble_eq_true rfl) (fun E hC hR hN => ?_)
  show J G E w 0 0 0 [some (.ref (w.2.1 o 1)), some (.ref (w.2.1 12 5)), none] [] σ
  generalize hXF : cF t L 0 X = XF at hq
  have lp : ∀ (dd : Nat) (z : Nat) (Y : BX) (σ1 : Mem), 6 - z < dd → (z ≤ 6) → (FrD (fun c j => c = 5 ∨ (c = 1 ∧ j = 8)) o σ σ1) → (SS σ1 o t L Y) → (∀ A a, Y = .inr (A, a) → ∃ zz, 1 ≤ zz ∧ Pst zz z 0 A) → (cF t L z Y = XF) →  J G E w 0 0 2 [some (.ref (w.2.1 o 1)), some (.ref (w.2.1 12 5)), some (.int (nI z))] [] σ1 := by
    intro dd
    induction dd with
    | zero =>
      intro z Y σ1 hdd
      exact absurd hdd (Nat.not_lt_zero _)
    | succ dd ih =>
      intro z Y σ1 hdd hz hF1 hS1 hZ hY
      have hX1 := FrD_TX hw.1 hF1 hX
      have hY4 : ∀ A a, Y = .inr (A, a) → nv A 5 = z := fun A a e => by
        obtain ⟨zz, _, hP0⟩ := hZ A a e
        exact nv_of hP0.2.2.2.1.1 (by omega)
      have j48 : (z = 6 ∨ (z ≠ 0 ∧ ¬ atW wCOLOUR t L (sOf Y))) →  J G E w 0 0 48 [some (.ref (w.2.1 o 1)), some (.ref (w.2.1 12 5)), some (.int (nI z))] [] σ1 := by
        intro  h45
        refine J_aload_n hC dX8_readColours_48 rfl rfl ?_
        refine J_ldcS hC (k := 4) rfl dX8_readColours_49 ?_
        refine iX8_71 hC hK rfl ⟨by decide, by decide⟩ ⟨by decide, by decide⟩ (Nat.le_of_ble_eq_true rfl) dX8_readColours_51 ?_
        refine c_X3_isAtWord hK hX1 hS1.2.1 (by decide) (fun b5 => ?_) (fun b5 => ?_)
        · dsimp only [Option.toList_some, Option.toList_none, List.cons_append, List.nil_append]
          rw [sW_4] at b5
          obtain ⟨a, ha, e9⟩ := (colour_end hz hY4 h45).1 b5
          rw [hY] at e9
          refine J_if_eq_n hC (by decide) (tgt := 62) dX8_readColours_54 rfl (fun hf => absurd hf (by omega)) (fun _ => ?_)
          refine J_aload_n hC dX8_readColours_57 rfl rfl ?_
          refine J_iconst (v := nI 3) hC dX8_readColours_58 (by decide) ?_
          refine iX8_81 hC hK rfl ⟨by decide, by decide⟩ ⟨by decide, by decide⟩ (Nat.le_of_ble_eq_true rfl) dX8_readColours_59 ?_
          refine c_X3_fail hK hX1 hS1.2.1 (by decide) (by decide) (fun σ2 hF2 hS2 => ?_)
          dsimp only [Option.toList_some, Option.toList_none, List.cons_append, List.nil_append]
          rw [ha] at hS2
          refine J_return hC hR dX8_readColours_62 (by decide) (by decide) ?_
          exact hq σ2 (FrD_trans hF1 (FrI_D hF2)) ⟨SfE_fr (FrI_o hF2 hw.1) hS1.1, by rw [e9]; exact hS2, fun A a e => by rw [e9] at e; cases e⟩ (fun A a e => by rw [e9] at e; cases e)
        · dsimp only [Option.toList_some, Option.toList_none, List.cons_append, List.nil_append]
          rw [sW_4] at b5
          have e9 := (colour_end hz hY4 h45).2 b5
          rw [hY] at e9
          refine J_if_eq_n hC (by decide) (tgt := 62) dX8_readColours_54 rfl (fun _ => ?_) (fun hf => absurd hf (by omega))
          refine J_return hC hR dX8_readColours_62 (by decide) (by decide) ?_
          exact hq σ1 hF1 (by rw [e9]; exact hS1) (fun A a e => ⟨z, by omega, hZ A a (by rw [← e9]; exact e)⟩)
      have j21 : (z = 0 ∨ atW wCOLOUR t L (sOf Y)) → (z < 6) →  J G E w 0 0 21 [some (.ref (w.2.1 o 1)), some (.ref (w.2.1 12 5)), some (.int (nI z))] [] σ1 := by
        intro  h20 b1
        refine J_aload_n hC dX8_readColours_21 rfl rfl ?_
        refine J_ldcS hC (k := 4) rfl dX8_readColours_22 ?_
        refine iX8_43 hC hK rfl ⟨by decide, by decide⟩ ⟨by decide, by decide⟩ (Nat.le_of_ble_eq_true rfl) dX8_readColours_24 ?_
        refine c_X3_takeWord hK hX1 hS1.2.1 (by decide) (fun σ2 hF2 hS2 => ?_)
        dsimp only [Option.toList_some, Option.toList_none, List.cons_append, List.nil_append]
        rw [sW_4] at hS2
        have hX2 := FrI_TX hF2 hX1
        refine J_aload_n hC dX8_readColours_27 rfl rfl ?_
        refine J_aload_n hC dX8_readColours_28 rfl rfl ?_
        refine J_iconst (v := nI 0) hC dX8_readColours_29 (by decide) ?_
        refine J_bipush (v := nI 9) hC dX8_readColours_30 (by decide) ?_
        refine iX8_47 hC hK rfl ⟨by decide, by decide⟩ ⟨by decide, by decide⟩ (Nat.le_of_ble_eq_true rfl) dX8_readColours_32 ?_
        refine c_X3_takeNumber hK hX2 hS2 (by decide) (by decide) (fun σ3 hF3 hS3 => ?_)
        dsimp only [Option.toList_some, Option.toList_none, List.cons_append, List.nil_append]
        have hX3 := FrI_TX hF3 hX2
        obtain ⟨nz9, nc9, nk9, hsf⟩ := hS1.1
        have g3 := FrI_o (FrI_trans hF2 hF3) hw.1
        have hsf3 := Sf_fr g3 hsf
        refine iX8_98 hC hw rfl ⟨by decide, by decide⟩ ⟨by decide, by decide⟩ (Nat.le_of_ble_eq_true rfl) dX8_readColours_35 ?_
        refine c_X0_addColour hw hsf3.2.2.2.1 hsf3.2.2.2.2.1 (fun σ4 h4 => ?_)
        dsimp only [Option.toList_some, Option.toList_none, List.cons_append, List.nil_append]
        have cf := colour_sf hsf3 h4
        have hX4 := TXc_12 (CR_12 hw.1 h4) hX3
        have sc := sOf_cX (t := t) (L := L) Y
        have hS4 := StC_D (D := fun _ _ => True) (o := o) (CR_12 hw.1 h4) hS3
        rw [← sc.1] at hS4
        refine J_aload_n hC dX8_readColours_38 rfl rfl ?_
        refine iX8_66 hC hK rfl ⟨by decide, by decide⟩ ⟨by decide, by decide⟩ (Nat.le_of_ble_eq_true rfl) dX8_readColours_39 ?_
        refine c_X3_takeSemicolon hK hX4 hS4 (fun σ5 hF5 hS5 => ?_)
        dsimp only [Option.toList_some, Option.toList_none, List.cons_append, List.nil_append]
        rw [← sOf_eX] at hS5
        have g5 := FrI_o hF5 hw.1
        refine J_iinc_n (m := 1) hC (by decide) dX8_readColours_42 rfl (Nat.le_of_ble_eq_true rfl) rfl ?_
        dsimp only [List.set]
        refine J_goto (tgt := 2) hC dX8_readColours_45 rfl ?_
        refine ih (z + 1) (eX t L (cX t L Y)) σ5 (by omega) (by omega) (FrD_trans hF1 (FrD_trans (FrI_D (FrI_trans hF2 hF3)) (FrD_trans cf.2 (FrI_D hF5)))) ⟨SfE_fr g5 cf.1, hS5, fun A a e => ?_⟩ (fun A a e => ?_) ((colour_step b1 hY4 h20).trans hY)
        · obtain ⟨b, e2⟩ := eX_inr e
          obtain ⟨A0, a0, hY0, rfl⟩ := sc.2 A b e2
          obtain ⟨zz, hz1, hP0⟩ := hZ A0 a0 hY0
          exact OAt_fr (o := 0) g5 (colour_mem (OAt_fr (o := 0) g3 (hS1.2.2 A0 a0 hY0)) hP0 b1 hsf3 h4)
        · obtain ⟨b, e2⟩ := eX_inr e
          obtain ⟨A0, a0, hY0, rfl⟩ := sc.2 A b e2
          obtain ⟨zz, hz1, hP0⟩ := hZ A0 a0 hY0
          exact ⟨zz, hz1, Pst_colour hP0 b1 (vNum_rng (by decide) _).2⟩
      refine J_iload_n hC dX8_readColours_2 rfl rfl ?_
      refine J_bipush (v := nI 6) hC dX8_readColours_3 (by decide) ?_
      refine J_icmp_ge_n hC (by omega) (by decide) (tgt := 48) dX8_readColours_5 rfl (fun b1 => ?_) (fun b1 => ?_)
      · exact j48 (Or.inl (by omega))
      · refine J_iload_n hC dX8_readColours_8 rfl rfl ?_
        refine J_if_eq_n hC (by omega) (tgt := 21) dX8_readColours_9 rfl (fun b2 => ?_) (fun b2 => ?_)
        · exact j21 (Or.inl b2) b1
        · refine J_aload_n hC dX8_readColours_12 rfl rfl ?_
          refine J_ldcS hC (k := 4) rfl dX8_readColours_13 ?_
          refine iX8_71 hC hK rfl ⟨by decide, by decide⟩ ⟨by decide, by decide⟩ (Nat.le_of_ble_eq_true rfl) dX8_readColours_15 ?_
          refine c_X3_isAtWord hK hX1 hS1.2.1 (by decide) (fun b3 => ?_) (fun b3 => ?_)
          · dsimp only [Option.toList_some, Option.toList_none, List.cons_append, List.nil_append]
            rw [sW_4] at b3
            refine J_if_eq_n hC (by decide) (tgt := 48) dX8_readColours_18 rfl (fun hf => absurd hf (by omega)) (fun _ => ?_)
            exact j21 (Or.inr b3) b1
          · dsimp only [Option.toList_some, Option.toList_none, List.cons_append, List.nil_append]
            rw [sW_4] at b3
            refine J_if_eq_n hC (by decide) (tgt := 48) dX8_readColours_18 rfl (fun _ => ?_) (fun hf => absurd hf (by omega))
            exact j48 (Or.inr ⟨b2, b3⟩)
  refine J_iconst (v := nI 0) hC dX8_readColours_0 (by decide) ?_
  refine J_istore_n hC dX8_readColours_1 rfl (Nat.le_of_ble_eq_true rfl) rfl ?_
  dsimp only [List.set]
  exact lp 7 0 X σ (by omega) (by omega) FrD_refl hSS hXn hXF
