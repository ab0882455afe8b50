set_option maxHeartbeats 4000000 in
set_option maxRecDepth 100000 in
theorem c_X8_readKites {G : GC} {w : Lay} {σ : Mem} {Q : Lay → Option Value → Mem → Prop} {Qx : Lay → String → Mem → Prop} {o : Nat} (hw : LO w o) (hK : LK w) {t : Nat → Nat} {L : Nat} (hX : TXc σ t L) {X : BX} (hSS : SS σ o t L X) (hXn : ∀ A a, X = .inr (A, a) → ∃ zz cc, 1 ≤ zz ∧ 1 ≤ cc ∧ Pst zz cc 0 A) (hq : ∀ σ', FrD DKt o σ σ' → SS σ' o t L (kF t L 0 X) → (∀ A a, kF t L 0 X = .inr (A, a) → ∃ zz cc kk, 1 ≤ zz ∧ 1 ≤ cc ∧ Pst zz cc kk A) → Q w none σ') : MX8_readKites G w σ [.ref (w.2.1 o 0), .ref (w.2.1 12 5)] Q Qx := by
  refine mt_start (by decide) rfl (Nat.le_of_ble_eq_true rfl) (fun E hC hR hN => ?_)
  show J G E w 0 0 0 [some (.ref (w.2.1 o 0)), some (.ref (w.2.1 12 5)), none, none, none, none, none, none, none] [] σ
  generalize hXF : kF t L 0 X = XF at hq
  have lp : ∀ (dd : Nat) (k : Nat) (Y : BX) (σ1 : Mem), 16 - k < dd → (k ≤ 16) → (FrD DKt o σ σ1) → (SS σ1 o t L Y) → (∀ A a, Y = .inr (A, a) → ∃ zz cc, 1 ≤ zz ∧ 1 ≤ cc ∧ Pst zz cc k A) → (kF t L k Y = XF) →  J G E w 0 0 2 [some (.ref (w.2.1 o 0)), some (.ref (w.2.1 12 5)), some (.int (nI k)), none, none, none, none, none, none] [] σ1 := by
    intro dd
    induction dd with
    | zero =>
      intro k Y σ1 hdd
      exact absurd hdd (Nat.not_lt_zero _)
    | succ dd ih =>
      intro k Y σ1 hdd hk hF1 hS1 hZ hY
      have hX1 := FrD_TX hw.1 hF1 hX
      have hY6 : ∀ A a, Y = .inr (A, a) → nv A 6 = k := fun A a e => by
        obtain ⟨zz, cc, _, _, hP0⟩ := hZ A a e
        exact nv_of hP0.2.2.2.2.2.1.1 (by omega)
      have j124 : (k = 16 ∨ ¬ atW wKITE t L (sOf Y)) →  J G E w 0 0 124 [some (.ref (w.2.1 o 0)), some (.ref (w.2.1 12 5)), some (.int (nI k)), none, none, none, none, none, none] [] σ1 := by
        intro  h45
        refine J_aload_n hC dX8_readKites_124 rfl rfl ?_
        refine J_ldcS hC (k := 5) rfl dX8_readKites_125 ?_
        refine iX8_71 hC hK rfl ⟨by decide, by decide⟩ ⟨by decide, by decide⟩ (Nat.le_of_ble_eq_true rfl) dX8_readKites_127 ?_
        refine c_X3_isAtWord hK hX1 hS1.2.1 (by decide) (fun b5 => ?_) (fun b5 => ?_)
        · dsimp only [Option.toList_some, Option.toList_none, List.cons_append, List.nil_append]
          rw [sW_5] at b5
          obtain ⟨a, ha, e9⟩ := (kite_end hk hY6 h45).1 b5
          rw [hY] at e9
          refine J_if_eq_n hC (by decide) (tgt := 138) dX8_readKites_130 rfl (fun hf => absurd hf (by omega)) (fun _ => ?_)
          refine J_aload_n hC dX8_readKites_133 rfl rfl ?_
          refine J_iconst (v := nI 3) hC dX8_readKites_134 (by decide) ?_
          refine iX8_81 hC hK rfl ⟨by decide, by decide⟩ ⟨by decide, by decide⟩ (Nat.le_of_ble_eq_true rfl) dX8_readKites_135 ?_
          refine c_X3_fail hK hX1 hS1.2.1 (by decide) (by decide) (fun σ2 hF2 hS2 => ?_)
          dsimp only [Option.toList_some, Option.toList_none, List.cons_append, List.nil_append]
          rw [ha] at hS2
          refine J_return hC hR dX8_readKites_138 (by decide) (by decide) ?_
          exact hq σ2 (FrD_trans hF1 (FrI_D hF2)) ⟨SfE_fr (FrI_o hF2 hw.1) hS1.1, by rw [e9]; exact hS2, fun A a e => by rw [e9] at e; cases e⟩ (fun A a e => by rw [e9] at e; cases e)
        · dsimp only [Option.toList_some, Option.toList_none, List.cons_append, List.nil_append]
          rw [sW_5] at b5
          have e9 := (kite_end hk hY6 h45).2 b5
          rw [hY] at e9
          refine J_if_eq_n hC (by decide) (tgt := 138) dX8_readKites_130 rfl (fun _ => ?_) (fun hf => absurd hf (by omega))
          refine J_return hC hR dX8_readKites_138 (by decide) (by decide) ?_
          exact hq σ1 hF1 (by rw [e9]; exact hS1) (fun A a e => by
            obtain ⟨zz, cc, h1, h2, h3⟩ := hZ A a (by rw [← e9]; exact e)
            exact ⟨zz, cc, k, h1, h2, h3⟩)
      have j17 : (atW wKITE t L (sOf Y)) → (k < 16) →  J G E w 0 0 17 [some (.ref (w.2.1 o 0)), some (.ref (w.2.1 12 5)), some (.int (nI k)), none, none, none, none, none, none] [] σ1 := by
        intro  h20 b1
        obtain ⟨a, ha, hwd⟩ := h20
        obtain ⟨A, hYA⟩ := sOf_inr ha
        subst hYA
        obtain ⟨zz, cc, hz1, hc1, hP⟩ := hZ A a rfl
        have hOA := hS1.2.2 A a rfl
        have e4 : nv A 4 = zz := nv_of hP.2.1.1 (by have := hP.2.1.2; omega)
        have e5 : nv A 5 = cc := nv_of hP.2.2.2.1.1 (by have := hP.2.2.2.1.2; omega)
        have e6 : nv A 6 = k := nv_of hP.2.2.2.2.2.1.1 (by omega)
        have hw0 := hP.1.1
        have hw1 := hP.1.2.1
        have hz4 := hP.2.1.2
        have hc6 := hP.2.2.2.1.2
        have w0 := hw0.2
        have w1 := hw1.2
        refine J_aload_n hC dX8_readKites_17 rfl rfl ?_
        refine J_ldcS hC (k := 5) rfl dX8_readKites_18 ?_
        refine iX8_43 hC hK rfl ⟨by decide, by decide⟩ ⟨by decide, by decide⟩ (Nat.le_of_ble_eq_true rfl) dX8_readKites_20 ?_
        refine c_X3_takeWord hK hX1 hS1.2.1 (by decide) (fun σ2 hF2 hS2 => ?_)
        dsimp only [Option.toList_some, Option.toList_none, List.cons_append, List.nil_append]
        rw [sW_5, show sWord wKITE t L (sOf (.inr (A, a))) = .inr (endT t L (skip t L a)) from if_pos hwd] at hS2
        have hX2 := FrI_TX hF2 hX1
        have g2 := FrI_o hF2 hw.1
        have hO2 := OAt_fr (o := 0) g2 hOA
        refine J_aload_n hC dX8_readKites_23 rfl rfl ?_
        refine J_iconst (v := nI 0) hC dX8_readKites_24 (by decide) ?_
        refine J_aload_n hC dX8_readKites_25 rfl rfl ?_
        refine gX8_19 hC hw dX8_readKites_26 ?_
        refine gX8_51 hC hw dX8_readKites_29 ?_
        refine J_top (hO2.2.1.1.trans hw0.1) ?_
        refine J_iconst (v := nI 1) hC dX8_readKites_32 (by decide) ?_
        refine J_isub_n hC (by omega) dX8_readKites_33 ?_
        refine iX8_47 hC hK rfl ⟨by decide, by decide⟩ ⟨by decide, by decide⟩ (Nat.le_of_ble_eq_true rfl) dX8_readKites_34 ?_
        refine c_X3_takeNumber hK hX2 hS2 (by omega) (by omega) (fun σ3 hF3 hS3 => ?_)
        dsimp only [Option.toList_some, Option.toList_none, List.cons_append, List.nil_append]
        have hX3 := FrI_TX hF3 hX2
        have g3 := FrI_o hF3 hw.1
        have hO3 := OAt_fr (o := 0) g3 hO2
        refine J_istore_n hC dX8_readKites_37 rfl (Nat.le_of_ble_eq_true rfl) rfl ?_
        dsimp only [List.set]
        refine J_aload_n hC dX8_readKites_38 rfl rfl ?_
        refine J_iconst (v := nI 0) hC dX8_readKites_39 (by decide) ?_
        refine J_aload_n hC dX8_readKites_40 rfl rfl ?_
        refine gX8_19 hC hw dX8_readKites_41 ?_
        refine gX8_57 hC hw dX8_readKites_44 ?_
        refine J_top (hO3.2.1.2.1.trans hw1.1) ?_
        refine J_iconst (v := nI 1) hC dX8_readKites_47 (by decide) ?_
        refine J_isub_n hC (by omega) dX8_readKites_48 ?_
        refine iX8_47 hC hK rfl ⟨by decide, by decide⟩ ⟨by decide, by decide⟩ (Nat.le_of_ble_eq_true rfl) dX8_readKites_49 ?_
        refine c_X3_takeNumber hK hX3 hS3 (by omega) (by omega) (fun σ4 hF4 hS4 => ?_)
        dsimp only [Option.toList_some, Option.toList_none, List.cons_append, List.nil_append]
        have hX4 := FrI_TX hF4 hX3
        have g4 := FrI_o hF4 hw.1
        have hO4 := OAt_fr (o := 0) g4 hO3
        refine J_istore hC dX8_readKites_52 (Nat.le_of_ble_eq_true rfl) rfl ?_
        dsimp only [List.set]
        refine J_aload_n hC dX8_readKites_54 rfl rfl ?_
        refine J_iconst (v := nI 1) hC dX8_readKites_55 (by decide) ?_
        refine J_bipush (v := nI 60) hC dX8_readKites_56 (by decide) ?_
        refine iX8_47 hC hK rfl ⟨by decide, by decide⟩ ⟨by decide, by decide⟩ (Nat.le_of_ble_eq_true rfl) dX8_readKites_58 ?_
        refine c_X3_takeNumber hK hX4 hS4 (by omega) (by omega) (fun σ5 hF5 hS5 => ?_)
        dsimp only [Option.toList_some, Option.toList_none, List.cons_append, List.nil_append]
        have hX5 := FrI_TX hF5 hX4
        have g5 := FrI_o hF5 hw.1
        have hO5 := OAt_fr (o := 0) g5 hO4
        refine J_istore hC dX8_readKites_61 (Nat.le_of_ble_eq_true rfl) rfl ?_
        dsimp only [List.set]
        refine J_aload_n hC dX8_readKites_63 rfl rfl ?_
        refine J_iconst (v := nI 0) hC dX8_readKites_64 (by decide) ?_
        refine J_aload_n hC dX8_readKites_65 rfl rfl ?_
        refine gX8_19 hC hw dX8_readKites_66 ?_
        refine gX8_103 hC hw dX8_readKites_69 ?_
        refine J_top (show rd σ5 o 1 8 = nI (nv A 5) from hO5.2.1.2.2.2.2.2.trans (by rw [e5]; exact hP.2.2.2.1.1)) ?_
        refine J_iconst (v := nI 1) hC dX8_readKites_72 (by decide) ?_
        refine J_isub_n hC (by omega) dX8_readKites_73 ?_
        refine iX8_47 hC hK rfl ⟨by decide, by decide⟩ ⟨by decide, by decide⟩ (Nat.le_of_ble_eq_true rfl) dX8_readKites_74 ?_
        refine c_X3_takeNumber hK hX5 hS5 (by omega) (by omega) (fun σ6 hF6 hS6 => ?_)
        dsimp only [Option.toList_some, Option.toList_none, List.cons_append, List.nil_append]
        have hX6 := FrI_TX hF6 hX5
        have g6 := FrI_o hF6 hw.1
        have hO6 := OAt_fr (o := 0) g6 hO5
        refine J_istore hC dX8_readKites_77 (Nat.le_of_ble_eq_true rfl) rfl ?_
        dsimp only [List.set]
        refine J_aload_n hC dX8_readKites_79 rfl rfl ?_
        refine J_iconst (v := nI 0) hC dX8_readKites_80 (by decide) ?_
        refine J_bipush (v := nI 9) hC dX8_readKites_81 (by decide) ?_
        refine iX8_47 hC hK rfl ⟨by decide, by decide⟩ ⟨by decide, by decide⟩ (Nat.le_of_ble_eq_true rfl) dX8_readKites_83 ?_
        refine c_X3_takeNumber hK hX6 hS6 (by omega) (by omega) (fun σ7 hF7 hS7 => ?_)
        dsimp only [Option.toList_some, Option.toList_none, List.cons_append, List.nil_append]
        have hX7 := FrI_TX hF7 hX6
        have g7 := FrI_o hF7 hw.1
        have hO7 := OAt_fr (o := 0) g7 hO6
        refine J_istore hC dX8_readKites_86 (Nat.le_of_ble_eq_true rfl) rfl ?_
        dsimp only [List.set]
        refine J_aload_n hC dX8_readKites_88 rfl rfl ?_
        refine J_iconst (v := nI 0) hC dX8_readKites_89 (by decide) ?_
        refine J_sipush (v := nI 999) hC dX8_readKites_90 (by decide) ?_
        refine iX8_47 hC hK rfl ⟨by decide, by decide⟩ ⟨by decide, by decide⟩ (Nat.le_of_ble_eq_true rfl) dX8_readKites_93 ?_
        refine c_X3_takeNumber hK hX7 hS7 (by omega) (by omega) (fun σ8 hF8 hS8 => ?_)
        dsimp only [Option.toList_some, Option.toList_none, List.cons_append, List.nil_append]
        have hX8 := FrI_TX hF8 hX7
        have g8 := FrI_o hF8 hw.1
        have hO8 := OAt_fr (o := 0) g8 hO7
        refine J_istore hC dX8_readKites_96 (Nat.le_of_ble_eq_true rfl) rfl ?_
        dsimp only [List.set]
        refine J_aload_n hC dX8_readKites_98 rfl rfl ?_
        refine iX8_66 hC hK rfl ⟨by decide, by decide⟩ ⟨by decide, by decide⟩ (Nat.le_of_ble_eq_true rfl) dX8_readKites_99 ?_
        refine c_X3_takeSemicolon hK hX8 hS8 (fun σ9 hF9 hS9 => ?_)
        dsimp only [Option.toList_some, Option.toList_none, List.cons_append, List.nil_append]
        have hX9 := FrI_TX hF9 hX8
        have g9 := FrI_o hF9 hw.1
        have hO9 := OAt_fr (o := 0) g9 hO8
        obtain ⟨nz9, nc9, nk9, hsf⟩ := hS1.1
        have hsf9 := Sf_fr (fun c => (g9 c).trans ((g8 c).trans ((g7 c).trans ((g6 c).trans ((g5 c).trans ((g4 c).trans ((g3 c).trans (g2 c)))))))) hsf
        have ek9 : nk9 = k := nI_inj (hsf9.2.2.2.2.2.1.symm.trans (hO9.2.2.2.2.1.1.trans hP.2.2.2.2.2.1.1)) (by have := hsf9.2.2.2.2.2.2; omega) (by omega)
        subst ek9
        have r0 := (vNum_rng (t := t) (L := L) (Nat.zero_le (nv A 0 - 1)) (.inr (endT t L (skip t L a)))).2
        refine J_aload_n hC dX8_readKites_102 rfl rfl ?_
        refine J_iload_n hC dX8_readKites_103 rfl rfl ?_
        refine J_iload hC dX8_readKites_104 rfl ?_
        refine J_iload hC dX8_readKites_106 rfl ?_
        refine J_iload hC dX8_readKites_108 rfl ?_
        refine J_iload hC dX8_readKites_110 rfl ?_
        refine J_iload hC dX8_readKites_112 rfl ?_
        refine iX8_106 hC hw rfl ⟨by decide, by decide⟩ ⟨by decide, by decide⟩ (Nat.le_of_ble_eq_true rfl) dX8_readKites_114 ?_
        refine c_X4_enterKite hw hsf9.2.2.2.2.2.1 b1 (hO9.2.1.1.trans hw0.1) (show rd σ9 o 1 4 = nI (nv A 4) from hO9.2.1.2.2.2.2.1.trans (by rw [e4]; exact hP.2.1.1)) (by omega) (by omega) (by omega) ?_
        dsimp only [Option.toList_some, Option.toList_none, List.cons_append, List.nil_append]
        refine J_pop hC dX8_readKites_117 rfl ?_
        refine J_iinc_n (m := 1) hC (by decide) dX8_readKites_118 rfl (Nat.le_of_ble_eq_true rfl) rfl ?_
        dsimp only [List.set]
        refine J_goto (tgt := 2) hC dX8_readKites_121 rfl ?_
        have kt := kite_text (t := t) (L := L) (b := endT t L (skip t L a)) (A := A) rfl rfl rfl
        refine J_less (ls' := [some (.ref (w.2.1 o 0)), some (.ref (w.2.1 12 5)), some (.int (nI (nk9 + 1))), none, none, none, none, none, none]) ⟨Or.inr rfl, Or.inr rfl, Or.inr rfl, Or.inl rfl, Or.inl rfl, Or.inl rfl, Or.inl rfl, Or.inl rfl, Or.inl rfl, trivial⟩ ?_
        refine ih (nk9 + 1) (pKite t L A (endT t L (skip t L a))) _ (by omega) (by omega) (FrD_trans hF1 (FrD_trans (FrI_D (FrI_trans hF2 (FrI_trans hF3 (FrI_trans hF4 (FrI_trans hF5 (FrI_trans hF6 (FrI_trans hF7 (FrI_trans hF8 hF9)))))))) en_D)) ⟨en_sf hsf9 b1, StC_D (D := fun _ _ => True) (o := o) (en_12 hw.1) (by rw [kt.1]; exact hS9), fun B b e => ?_⟩ (fun B b e => ?_) ((kite_step b1 e6 hwd).trans hY)
        · rw [kt.2 B b e, ← e6]
          exact OAt_en hO9 (Bd_Pst hP) (by omega) (by omega)
        · refine ⟨zz, cc, hz1, hc1, ?_⟩
          rw [kt.2 B b e]
          exact Pst_kite hP b1 r0 (vNum_rng (Nat.zero_le _) _).2 (vNum_rng (by decide) _) (by rw [← e5]; exact (vNum_rng (Nat.zero_le _) _).2) (vNum_rng (by decide) _).2
      refine J_iload_n hC dX8_readKites_2 rfl rfl ?_
      refine J_bipush (v := nI 16) hC dX8_readKites_3 (by decide) ?_
      refine J_icmp_ge_n hC (by omega) (by decide) (tgt := 124) dX8_readKites_5 rfl (fun b1 => ?_) (fun b1 => ?_)
      · exact j124 (Or.inl (by omega))
      · refine J_aload_n hC dX8_readKites_8 rfl rfl ?_
        refine J_ldcS hC (k := 5) rfl dX8_readKites_9 ?_
        refine iX8_71 hC hK rfl ⟨by decide, by decide⟩ ⟨by decide, by decide⟩ (Nat.le_of_ble_eq_true rfl) dX8_readKites_11 ?_
        refine c_X3_isAtWord hK hX1 hS1.2.1 (by decide) (fun b3 => ?_) (fun b3 => ?_)
        · dsimp only [Option.toList_some, Option.toList_none, List.cons_append, List.nil_append]
          rw [sW_5] at b3
          refine J_if_eq_n hC (by decide) (tgt := 124) dX8_readKites_14 rfl (fun hf => absurd hf (by omega)) (fun _ => ?_)
          exact j17 b3 b1
        · dsimp only [Option.toList_some, Option.toList_none, List.cons_append, List.nil_append]
          rw [sW_5] at b3
          refine J_if_eq_n hC (by decide) (tgt := 124) dX8_readKites_14 rfl (fun _ => ?_) (fun hf => absurd hf (by omega))
          exact j124 (Or.inr b3)
  refine J_iconst (v := nI 0) hC dX8_readKites_0 (by decide) ?_
  refine J_istore_n hC dX8_readKites_1 rfl (Nat.le_of_ble_eq_true rfl) rfl ?_
  dsimp only [List.set]
  exact lp 17 0 X σ (by omega) (by omega) FrD_refl hSS hXn hXF
set_option maxHeartbeats 4000000 in
set_option maxRecDepth 100000 in
theorem c_X8_readInto {G : GC} {w : Lay} {σ : Mem} {Q : Lay → Option Value → Mem → Prop} {Qx : Lay → String → Mem → Prop} {o : Nat} (hw : LO w o) (hK : LK w) {t : Nat → Nat} {L : Nat} (hX : TXc σ t L) {A0 : Rw} (hA0 : ∀ j, j < 304 → A0 j = nI 0) (hq : ∀ σ', FrD DO o σ σ' → (∀ e, pSetup t L A0 = .inl e → rd σ' 12 5 2 = nI e.1 ∧ rd σ' 12 5 3 = nI e.2 ∧ 1 ≤ e.1 ∧ e.1 ≤ 3 ∧ e.2 ≤ 500) → (∀ B, pSetup t L A0 = .inr B → rd σ' 12 5 2 = nI 0 ∧ rd σ' 12 5 3 = -1 ∧ OAt σ' o B ∧ RowOK 0 B) → Q w none σ') : MX8_readInto G w σ [.ref (w.2.1 o 0), .ref (w.2.1 12 5)] Q Qx := by
  refine mt_start (by decide) rfl (Nat.le_of_ble_eq_true rfl) (fun E hC hR hN => ?_)
  show J G E w 0 0 0 [some (.ref (w.2.1 o 0)), some (.ref (w.2.1 12 5))] [] σ
  refine J_aload_n hC dX8_readInto_0 rfl rfl ?_
  refine iX8_9 hC hw rfl ⟨by decide, by decide⟩ ⟨by decide, by decide⟩ (Nat.le_of_ble_eq_true rfl) dX8_readInto_1 ?_
  refine c_X4_clear hw ?_
  dsimp only [Option.toList_some, Option.toList_none, List.cons_append, List.nil_append]
  have hc12 : ∀ c j, rd (clrO σ o) 12 c j = rd σ 12 c j := fun c j => by
    have ho := hw.1
    unfold clrO
    repeat rw [rd_wr_o (by omega)]
  have hX0 := TXc_12 hc12 hX
  refine J_aload_n hC dX8_readInto_4 rfl rfl ?_
  refine iX8_14 hC hK rfl ⟨by decide, by decide⟩ ⟨by decide, by decide⟩ (Nat.le_of_ble_eq_true rfl) dX8_readInto_5 ?_
  refine c_X3_beginReading hK hX0 (fun σ2 hF2 hS2 => ?_)
  dsimp only [Option.toList_some, Option.toList_none, List.cons_append, List.nil_append]
  have hX2 := FrI_TX hF2 hX0
  have g2 := FrI_o hF2 hw.1
  refine J_aload_n hC dX8_readInto_8 rfl rfl ?_
  refine gX8_19 hC hw dX8_readInto_9 ?_
  refine J_aload_n hC dX8_readInto_12 rfl rfl ?_
  refine iX8_23 hC rfl ⟨by decide, by decide⟩ ⟨by decide, by decide⟩ (Nat.le_of_ble_eq_true rfl) dX8_readInto_13 ?_
  refine c_X8_readField hw hK hX2 hS2 (fun σ3 hF3 hS3 v0 v1 v2 v3 => ?_)
  dsimp only [Option.toList_some, Option.toList_none, List.cons_append, List.nil_append]
  have fs := field_step (t := t) (L := L) (a := 0) (A := A0)
  have hX3 := FrD_TX hw.1 hF3 hX2
  rw [← fs.1] at hS3
  have z3 : ∀ c j v, rd (clrO σ o) o c j = v → ¬ (c = 1 ∧ j < 4) → rd σ3 o c j = v := fun c j v e q => (hF3.1 o c j (by have := hw.1; omega) (fun g => q g.2)).trans ((congrFun (g2 c) j).trans e)
  have y14 := z3 1 4 (nI 0) (by unfold clrO; (repeat rw [rd_wr_c (by decide)]); rw [rd_wr_j (by decide), rd_wr_s]) (by omega)
  have y18 := z3 1 8 (nI 0) (by unfold clrO; (repeat rw [rd_wr_c (by decide)]); rw [rd_wr_s]) (by omega)
  have y60 := z3 6 0 (nI 0) (by unfold clrO; (repeat rw [rd_wr_c (by decide)]); rw [rd_wr_j (by decide), rd_wr_s]) (by omega)
  have y61 := z3 6 1 (nI 0) (by unfold clrO; (repeat rw [rd_wr_c (by decide)]); rw [rd_wr_s]) (by omega)
  have y17 := z3 17 0 (nI 0) (by unfold clrO; (repeat rw [rd_wr_c (by decide)]); rw [rd_wr_s]) (by omega)
  have y03 := z3 0 3 (nI 0) (by unfold clrO; rw [rd_wr_j (by decide), rd_wr_j (by decide), rd_wr_s]) (by omega)
  have y04 := z3 0 4 (nI 0) (by unfold clrO; rw [rd_wr_j (by decide), rd_wr_s]) (by omega)
  have y05 := z3 0 5 (nI 0) (by unfold clrO; rw [rd_wr_s]) (by omega)
  have hSS3 : SS σ3 o t L (pField t L A0 0) := ⟨⟨0, 0, 0, y14, by omega, fun z hz => absurd hz (Nat.not_lt_zero z), y18, by omega, y60, by omega⟩, hS3, fun A a e => by
    rw [fs.2 A a e]
    exact OAt_field hA0 y03 y04 y05 v0 v1 v2 v3 y14 y18 y60 y61 y17⟩
  have hP3 : ∀ A a, pField t L A0 0 = .inr (A, a) → Pst 0 0 0 A := fun A a e => by
    rw [fs.2 A a e]
    exact Pst_field hA0 (vNum_rng (by decide) _) (vNum_rng (by decide) _) (vNum_rng (by decide) _).2 (vNum_rng (by decide) _).2
  refine J_aload_n hC dX8_readInto_16 rfl rfl ?_
  refine gX8_19 hC hw dX8_readInto_17 ?_
  refine J_aload_n hC dX8_readInto_20 rfl rfl ?_
  refine iX8_29 hC rfl ⟨by decide, by decide⟩ ⟨by decide, by decide⟩ (Nat.le_of_ble_eq_true rfl) dX8_readInto_21 ?_
  refine c_X8_readZones hw hK hX3 hSS3 hP3 (fun σ4 hF4 hSS4 hP4 => ?_)
  dsimp only [Option.toList_some, Option.toList_none, List.cons_append, List.nil_append]
  have hX4 := FrD_TX hw.1 hF4 hX3
  refine J_aload_n hC dX8_readInto_24 rfl rfl ?_
  refine gX8_19 hC hw dX8_readInto_25 ?_
  refine J_aload_n hC dX8_readInto_28 rfl rfl ?_
  refine iX8_32 hC rfl ⟨by decide, by decide⟩ ⟨by decide, by decide⟩ (Nat.le_of_ble_eq_true rfl) dX8_readInto_29 ?_
  refine c_X8_readColours hw hK hX4 hSS4 hP4 (fun σ5 hF5 hSS5 hP5 => ?_)
  dsimp only [Option.toList_some, Option.toList_none, List.cons_append, List.nil_append]
  have hX5 := FrD_TX hw.1 hF5 hX4
  refine J_aload_n hC dX8_readInto_32 rfl rfl ?_
  refine J_aload_n hC dX8_readInto_33 rfl rfl ?_
  refine iX8_35 hC rfl ⟨by decide, by decide⟩ ⟨by decide, by decide⟩ (Nat.le_of_ble_eq_true rfl) dX8_readInto_34 ?_
  refine c_X8_readKites hw hK hX5 hSS5 (fun A a e => by obtain ⟨z, h1, zz, h2, h3⟩ := hP5 A a e; exact ⟨zz, z, h2, h1, h3⟩) (fun σ6 hF6 hSS6 hP6 => ?_)
  dsimp only [Option.toList_some, Option.toList_none, List.cons_append, List.nil_append]
  have hX6 := FrD_TX hw.1 hF6 hX5
  have eq9 := setup_eq (t := t) (L := L) (A := A0)
  generalize kF t L 0 (cF t L 0 (zF t L 0 (pField t L A0 0))) = XF at hSS6 hP6 eq9
  refine J_aload_n hC dX8_readInto_37 rfl rfl ?_
  refine iX8_39 hC hK rfl ⟨by decide, by decide⟩ ⟨by decide, by decide⟩ (Nat.le_of_ble_eq_true rfl) dX8_readInto_38 ?_
  refine c_X3_takeEnd hK hX6 hSS6.2.1 (fun σ7 hF7 hS7 => ?_)
  dsimp only [Option.toList_some, Option.toList_none, List.cons_append, List.nil_append]
  have g7 := FrI_o hF7 hw.1
  refine J_return hC hR dX8_readInto_41 (by decide) (by decide) ?_
  have hD0 : FrD DO o σ (clrO σ o) := FrD_wr (FrD_wr (FrD_wr (FrD_wr (FrD_wr (FrD_wr (FrD_wr (FrD_wr FrD_refl (by unfold DO; decide)) (by unfold DO; decide)) (by unfold DO; decide)) (by unfold DO; decide)) (by unfold DO; decide)) (by unfold DO; decide)) (by unfold DO; decide)) (by unfold DO; decide)
  refine hq σ7 (FrD_trans hD0 (FrD_trans (FrI_D hF2) (FrD_trans (FrD_mono hF3 (fun c j q => by unfold DO; omega)) (FrD_trans (FrD_mono hF4 (fun c j q => by unfold DO; omega)) (FrD_trans (FrD_mono hF5 (fun c j q => by unfold DO; omega)) (FrD_trans (FrD_mono hF6 (fun c j q => by unfold DKt at q; unfold DO; omega)) (FrI_D hF7))))))) (fun e he => ?_) (fun B hB => ?_)
  · rw [eq9] at he
    cases XF with
    | inl e2 =>
      have e3 : e2 = e := Sum.inl.inj he
      subst e3
      exact hS7
    | inr r =>
      obtain ⟨A, a⟩ := r
      by_cases hk : kdT t L (skip t L a) = 0
      · have h8 : bnd (Sum.inr (A, a) : BX) (fun r => if kdT t L (skip t L r.2) = 0 then (.inr r.1 : Flt ⊕ Rw) else .inl (1, skip t L r.2)) = .inr A := if_pos hk
        rw [h8] at he
        cases he
      · have h8 : bnd (Sum.inr (A, a) : BX) (fun r => if kdT t L (skip t L r.2) = 0 then (.inr r.1 : Flt ⊕ Rw) else .inl (1, skip t L r.2)) = .inl (1, skip t L a) := if_neg hk
        rw [h8] at he
        have e3 := Sum.inl.inj he
        subst e3
        have h9 : sTail t L (sOf (.inr (A, a))) = .inl (1, skip t L a) := if_neg hk
        rw [h9] at hS7
        exact hS7
  · rw [eq9] at hB
    cases XF with
    | inl e2 => cases hB
    | inr r =>
      obtain ⟨A, a⟩ := r
      by_cases hk : kdT t L (skip t L a) = 0
      · have h8 : bnd (Sum.inr (A, a) : BX) (fun r => if kdT t L (skip t L r.2) = 0 then (.inr r.1 : Flt ⊕ Rw) else .inl (1, skip t L r.2)) = .inr A := if_pos hk
        rw [h8] at hB
        have e3 := Sum.inr.inj hB
        subst e3
        have h9 : sTail t L (sOf (.inr (A, a))) = .inr a := if_pos hk
        rw [h9] at hS7
        obtain ⟨zz, cc, kk, h1, h2, h3⟩ := hP6 A a rfl
        exact ⟨hS7.2.1, hS7.2.2.1, OAt_fr (o := 0) g7 (hSS6.2.2 A a rfl), Pst_RowOK h3 h1 h2 (by decide)⟩
      · have h8 : bnd (Sum.inr (A, a) : BX) (fun r => if kdT t L (skip t L r.2) = 0 then (.inr r.1 : Flt ⊕ Rw) else .inl (1, skip t L r.2)) = .inl (1, skip t L a) := if_neg hk
        rw [h8] at hB
        cases hB
