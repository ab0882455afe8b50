noncomputable def verbS (t : Nat → Nat) (L : Nat) (s : Flt ⊕ Nat) : Nat := match s with
  | .inl _ => 0
  | .inr a => verbT t L (skip t L a)
set_option maxHeartbeats 4000000 in
set_option maxRecDepth 100000 in
theorem c_X7_commandAt {G : GC} {w : Lay} {σ : Mem} {Q : Lay → Option Value → Mem → Prop} {Qx : Lay → String → Mem → Prop} (hK : LK w) {t : Nat → Nat} {L : Nat} (hX : TXc σ t L) {s : Flt ⊕ Nat} (hS : StC σ t L s)  (hq : Q w (some (.int (nI (verbS t L s)))) σ) : MX7_commandAt G w σ [.ref (w.2.1 12 5)] Q Qx := by
  refine mt_start (by decide) rfl (Nat.le_of_ble_eq_true rfl) (fun E hC hR hN => ?_)
  show J G E w 0 0 0 [some (.ref (w.2.1 12 5))] [] σ
  cases s with
  | inl e =>
    refine J_aload_n hC dX7_commandAt_0 rfl rfl ?_
    refine J_ldcS hC (k := 7) rfl dX7_commandAt_1 ?_
    refine iX7_62 hC hK rfl ⟨by decide, by decide⟩ ⟨by decide, by decide⟩ (Nat.le_of_ble_eq_true rfl) dX7_commandAt_3 ?_
    refine c_X3_isAtWord hK hX hS (by decide) (fun b7 => ?_) (fun b7 => ?_)
    · obtain ⟨b, h, _⟩ := b7; cases h
    · dsimp only [Option.toList_some, Option.toList_none, List.cons_append, List.nil_append]
      refine J_if_eq_n hC (by decide) (tgt := 11) dX7_commandAt_6 rfl (fun _ => ?_) (fun hf => absurd hf (by omega))
      refine J_aload_n hC dX7_commandAt_11 rfl rfl ?_
      refine J_ldcS hC (k := 8) rfl dX7_commandAt_12 ?_
      refine iX7_62 hC hK rfl ⟨by decide, by decide⟩ ⟨by decide, by decide⟩ (Nat.le_of_ble_eq_true rfl) dX7_commandAt_14 ?_
      refine c_X3_isAtWord hK hX hS (by decide) (fun b8 => ?_) (fun b8 => ?_)
      · obtain ⟨b, h, _⟩ := b8; cases h
      · dsimp only [Option.toList_some, Option.toList_none, List.cons_append, List.nil_append]
        refine J_if_eq_n hC (by decide) (tgt := 22) dX7_commandAt_17 rfl (fun _ => ?_) (fun hf => absurd hf (by omega))
        refine J_aload_n hC dX7_commandAt_22 rfl rfl ?_
        refine J_ldcS hC (k := 9) rfl dX7_commandAt_23 ?_
        refine iX7_62 hC hK rfl ⟨by decide, by decide⟩ ⟨by decide, by decide⟩ (Nat.le_of_ble_eq_true rfl) dX7_commandAt_25 ?_
        refine c_X3_isAtWord hK hX hS (by decide) (fun b9 => ?_) (fun b9 => ?_)
        · obtain ⟨b, h, _⟩ := b9; cases h
        · dsimp only [Option.toList_some, Option.toList_none, List.cons_append, List.nil_append]
          refine J_if_eq_n hC (by decide) (tgt := 33) dX7_commandAt_28 rfl (fun _ => ?_) (fun hf => absurd hf (by omega))
          refine J_aload_n hC dX7_commandAt_33 rfl rfl ?_
          refine J_ldcS hC (k := 10) rfl dX7_commandAt_34 ?_
          refine iX7_62 hC hK rfl ⟨by decide, by decide⟩ ⟨by decide, by decide⟩ (Nat.le_of_ble_eq_true rfl) dX7_commandAt_36 ?_
          refine c_X3_isAtWord hK hX hS (by decide) (fun b10 => ?_) (fun b10 => ?_)
          · obtain ⟨b, h, _⟩ := b10; cases h
          · dsimp only [Option.toList_some, Option.toList_none, List.cons_append, List.nil_append]
            refine J_if_eq_n hC (by decide) (tgt := 44) dX7_commandAt_39 rfl (fun _ => ?_) (fun hf => absurd hf (by omega))
            refine J_aload_n hC dX7_commandAt_44 rfl rfl ?_
            refine J_ldcS hC (k := 11) rfl dX7_commandAt_45 ?_
            refine iX7_62 hC hK rfl ⟨by decide, by decide⟩ ⟨by decide, by decide⟩ (Nat.le_of_ble_eq_true rfl) dX7_commandAt_47 ?_
            refine c_X3_isAtWord hK hX hS (by decide) (fun b11 => ?_) (fun b11 => ?_)
            · obtain ⟨b, h, _⟩ := b11; cases h
            · dsimp only [Option.toList_some, Option.toList_none, List.cons_append, List.nil_append]
              refine J_if_eq_n hC (by decide) (tgt := 55) dX7_commandAt_50 rfl (fun _ => ?_) (fun hf => absurd hf (by omega))
              refine J_aload_n hC dX7_commandAt_55 rfl rfl ?_
              refine J_ldcS hC (k := 12) rfl dX7_commandAt_56 ?_
              refine iX7_62 hC hK rfl ⟨by decide, by decide⟩ ⟨by decide, by decide⟩ (Nat.le_of_ble_eq_true rfl) dX7_commandAt_58 ?_
              refine c_X3_isAtWord hK hX hS (by decide) (fun b12 => ?_) (fun b12 => ?_)
              · obtain ⟨b, h, _⟩ := b12; cases h
              · dsimp only [Option.toList_some, Option.toList_none, List.cons_append, List.nil_append]
                refine J_if_eq_n hC (by decide) (tgt := 67) dX7_commandAt_61 rfl (fun _ => ?_) (fun hf => absurd hf (by omega))
                refine J_aload_n hC dX7_commandAt_67 rfl rfl ?_
                refine J_ldcS hC (k := 13) rfl dX7_commandAt_68 ?_
                refine iX7_62 hC hK rfl ⟨by decide, by decide⟩ ⟨by decide, by decide⟩ (Nat.le_of_ble_eq_true rfl) dX7_commandAt_70 ?_
                refine c_X3_isAtWord hK hX hS (by decide) (fun b13 => ?_) (fun b13 => ?_)
                · obtain ⟨b, h, _⟩ := b13; cases h
                · dsimp only [Option.toList_some, Option.toList_none, List.cons_append, List.nil_append]
                  refine J_if_eq_n hC (by decide) (tgt := 79) dX7_commandAt_73 rfl (fun _ => ?_) (fun hf => absurd hf (by omega))
                  refine J_aload_n hC dX7_commandAt_79 rfl rfl ?_
                  refine J_ldcS hC (k := 14) rfl dX7_commandAt_80 ?_
                  refine iX7_62 hC hK rfl ⟨by decide, by decide⟩ ⟨by decide, by decide⟩ (Nat.le_of_ble_eq_true rfl) dX7_commandAt_82 ?_
                  refine c_X3_isAtWord hK hX hS (by decide) (fun b14 => ?_) (fun b14 => ?_)
                  · obtain ⟨b, h, _⟩ := b14; cases h
                  · dsimp only [Option.toList_some, Option.toList_none, List.cons_append, List.nil_append]
                    refine J_if_eq_n hC (by decide) (tgt := 93) dX7_commandAt_85 rfl (fun _ => ?_) (fun hf => absurd hf (by omega))
                    refine J_iconst (v := nI 0) hC dX7_commandAt_93 (by decide) ?_
                    refine J_ireturn hC hR dX7_commandAt_94 (by decide) (by decide) ?_
                    exact hq
  | inr a =>
    refine J_aload_n hC dX7_commandAt_0 rfl rfl ?_
    refine J_ldcS hC (k := 7) rfl dX7_commandAt_1 ?_
    refine iX7_62 hC hK rfl ⟨by decide, by decide⟩ ⟨by decide, by decide⟩ (Nat.le_of_ble_eq_true rfl) dX7_commandAt_3 ?_
    refine c_X3_isAtWord hK hX hS (by decide) (fun b7 => ?_) (fun b7 => ?_)
    · dsimp only [Option.toList_some, Option.toList_none, List.cons_append, List.nil_append]
      have c7 : wordT wLAUNCH t L (skip t L a) := by
        obtain ⟨b, h, h2⟩ := b7
        rw [sW_7] at h2
        cases h
        exact h2
      refine J_if_eq_n hC (by decide) (tgt := 11) dX7_commandAt_6 rfl (fun hf => absurd hf (by omega)) (fun _ => ?_)
      refine J_iconst (v := nI 1) hC dX7_commandAt_9 (by decide) ?_
      refine J_ireturn hC hR dX7_commandAt_10 (by decide) (by decide) ?_
      have e : verbS t L (.inr a) = 1 := by
        show verbT t L (skip t L a) = 1
        unfold verbT
        rw [if_pos c7]
      rw [e] at hq
      exact hq
    · dsimp only [Option.toList_some, Option.toList_none, List.cons_append, List.nil_append]
      have c7 : ¬ wordT wLAUNCH t L (skip t L a) := fun q => b7 ⟨a, rfl, by rw [sW_7]; exact q⟩
      refine J_if_eq_n hC (by decide) (tgt := 11) dX7_commandAt_6 rfl (fun _ => ?_) (fun hf => absurd hf (by omega))
      refine J_aload_n hC dX7_commandAt_11 rfl rfl ?_
      refine J_ldcS hC (k := 8) rfl dX7_commandAt_12 ?_
      refine iX7_62 hC hK rfl ⟨by decide, by decide⟩ ⟨by decide, by decide⟩ (Nat.le_of_ble_eq_true rfl) dX7_commandAt_14 ?_
      refine c_X3_isAtWord hK hX hS (by decide) (fun b8 => ?_) (fun b8 => ?_)
      · dsimp only [Option.toList_some, Option.toList_none, List.cons_append, List.nil_append]
        have c8 : wordT wLAND t L (skip t L a) := by
          obtain ⟨b, h, h2⟩ := b8
          rw [sW_8] at h2
          cases h
          exact h2
        refine J_if_eq_n hC (by decide) (tgt := 22) dX7_commandAt_17 rfl (fun hf => absurd hf (by omega)) (fun _ => ?_)
        refine J_iconst (v := nI 2) hC dX7_commandAt_20 (by decide) ?_
        refine J_ireturn hC hR dX7_commandAt_21 (by decide) (by decide) ?_
        have e : verbS t L (.inr a) = 2 := by
          show verbT t L (skip t L a) = 2
          unfold verbT
          rw [if_neg c7, if_pos c8]
        rw [e] at hq
        exact hq
      · dsimp only [Option.toList_some, Option.toList_none, List.cons_append, List.nil_append]
        have c8 : ¬ wordT wLAND t L (skip t L a) := fun q => b8 ⟨a, rfl, by rw [sW_8]; exact q⟩
        refine J_if_eq_n hC (by decide) (tgt := 22) dX7_commandAt_17 rfl (fun _ => ?_) (fun hf => absurd hf (by omega))
        refine J_aload_n hC dX7_commandAt_22 rfl rfl ?_
        refine J_ldcS hC (k := 9) rfl dX7_commandAt_23 ?_
        refine iX7_62 hC hK rfl ⟨by decide, by decide⟩ ⟨by decide, by decide⟩ (Nat.le_of_ble_eq_true rfl) dX7_commandAt_25 ?_
        refine c_X3_isAtWord hK hX hS (by decide) (fun b9 => ?_) (fun b9 => ?_)
        · dsimp only [Option.toList_some, Option.toList_none, List.cons_append, List.nil_append]
          have c9 : wordT wHOURS t L (skip t L a) := by
            obtain ⟨b, h, h2⟩ := b9
            rw [sW_9] at h2
            cases h
            exact h2
          refine J_if_eq_n hC (by decide) (tgt := 33) dX7_commandAt_28 rfl (fun hf => absurd hf (by omega)) (fun _ => ?_)
          refine J_iconst (v := nI 3) hC dX7_commandAt_31 (by decide) ?_
          refine J_ireturn hC hR dX7_commandAt_32 (by decide) (by decide) ?_
          have e : verbS t L (.inr a) = 3 := by
            show verbT t L (skip t L a) = 3
            unfold verbT
            rw [if_neg c7, if_neg c8, if_pos c9]
          rw [e] at hq
          exact hq
        · dsimp only [Option.toList_some, Option.toList_none, List.cons_append, List.nil_append]
          have c9 : ¬ wordT wHOURS t L (skip t L a) := fun q => b9 ⟨a, rfl, by rw [sW_9]; exact q⟩
          refine J_if_eq_n hC (by decide) (tgt := 33) dX7_commandAt_28 rfl (fun _ => ?_) (fun hf => absurd hf (by omega))
          refine J_aload_n hC dX7_commandAt_33 rfl rfl ?_
          refine J_ldcS hC (k := 10) rfl dX7_commandAt_34 ?_
          refine iX7_62 hC hK rfl ⟨by decide, by decide⟩ ⟨by decide, by decide⟩ (Nat.le_of_ble_eq_true rfl) dX7_commandAt_36 ?_
          refine c_X3_isAtWord hK hX hS (by decide) (fun b10 => ?_) (fun b10 => ?_)
          · dsimp only [Option.toList_some, Option.toList_none, List.cons_append, List.nil_append]
            have c10 : wordT wPERMIT t L (skip t L a) := by
              obtain ⟨b, h, h2⟩ := b10
              rw [sW_10] at h2
              cases h
              exact h2
            refine J_if_eq_n hC (by decide) (tgt := 44) dX7_commandAt_39 rfl (fun hf => absurd hf (by omega)) (fun _ => ?_)
            refine J_iconst (v := nI 4) hC dX7_commandAt_42 (by decide) ?_
            refine J_ireturn hC hR dX7_commandAt_43 (by decide) (by decide) ?_
            have e : verbS t L (.inr a) = 4 := by
              show verbT t L (skip t L a) = 4
              unfold verbT
              rw [if_neg c7, if_neg c8, if_neg c9, if_pos c10]
            rw [e] at hq
            exact hq
          · dsimp only [Option.toList_some, Option.toList_none, List.cons_append, List.nil_append]
            have c10 : ¬ wordT wPERMIT t L (skip t L a) := fun q => b10 ⟨a, rfl, by rw [sW_10]; exact q⟩
            refine J_if_eq_n hC (by decide) (tgt := 44) dX7_commandAt_39 rfl (fun _ => ?_) (fun hf => absurd hf (by omega))
            refine J_aload_n hC dX7_commandAt_44 rfl rfl ?_
            refine J_ldcS hC (k := 11) rfl dX7_commandAt_45 ?_
            refine iX7_62 hC hK rfl ⟨by decide, by decide⟩ ⟨by decide, by decide⟩ (Nat.le_of_ble_eq_true rfl) dX7_commandAt_47 ?_
            refine c_X3_isAtWord hK hX hS (by decide) (fun b11 => ?_) (fun b11 => ?_)
            · dsimp only [Option.toList_some, Option.toList_none, List.cons_append, List.nil_append]
              have c11 : wordT wCANCEL t L (skip t L a) := by
                obtain ⟨b, h, h2⟩ := b11
                rw [sW_11] at h2
                cases h
                exact h2
              refine J_if_eq_n hC (by decide) (tgt := 55) dX7_commandAt_50 rfl (fun hf => absurd hf (by omega)) (fun _ => ?_)
              refine J_iconst (v := nI 5) hC dX7_commandAt_53 (by decide) ?_
              refine J_ireturn hC hR dX7_commandAt_54 (by decide) (by decide) ?_
              have e : verbS t L (.inr a) = 5 := by
                show verbT t L (skip t L a) = 5
                unfold verbT
                rw [if_neg c7, if_neg c8, if_neg c9, if_neg c10, if_pos c11]
              rw [e] at hq
              exact hq
            · dsimp only [Option.toList_some, Option.toList_none, List.cons_append, List.nil_append]
              have c11 : ¬ wordT wCANCEL t L (skip t L a) := fun q => b11 ⟨a, rfl, by rw [sW_11]; exact q⟩
              refine J_if_eq_n hC (by decide) (tgt := 55) dX7_commandAt_50 rfl (fun _ => ?_) (fun hf => absurd hf (by omega))
              refine J_aload_n hC dX7_commandAt_55 rfl rfl ?_
              refine J_ldcS hC (k := 12) rfl dX7_commandAt_56 ?_
              refine iX7_62 hC hK rfl ⟨by decide, by decide⟩ ⟨by decide, by decide⟩ (Nat.le_of_ble_eq_true rfl) dX7_commandAt_58 ?_
              refine c_X3_isAtWord hK hX hS (by decide) (fun b12 => ?_) (fun b12 => ?_)
              · dsimp only [Option.toList_some, Option.toList_none, List.cons_append, List.nil_append]
                have c12 : wordT wTIE t L (skip t L a) := by
                  obtain ⟨b, h, h2⟩ := b12
                  rw [sW_12] at h2
                  cases h
                  exact h2
                refine J_if_eq_n hC (by decide) (tgt := 67) dX7_commandAt_61 rfl (fun hf => absurd hf (by omega)) (fun _ => ?_)
                refine J_bipush (v := nI 6) hC dX7_commandAt_64 (by decide) ?_
                refine J_ireturn hC hR dX7_commandAt_66 (by decide) (by decide) ?_
                have e : verbS t L (.inr a) = 6 := by
                  show verbT t L (skip t L a) = 6
                  unfold verbT
                  rw [if_neg c7, if_neg c8, if_neg c9, if_neg c10, if_neg c11, if_pos c12]
                rw [e] at hq
                exact hq
              · dsimp only [Option.toList_some, Option.toList_none, List.cons_append, List.nil_append]
                have c12 : ¬ wordT wTIE t L (skip t L a) := fun q => b12 ⟨a, rfl, by rw [sW_12]; exact q⟩
                refine J_if_eq_n hC (by decide) (tgt := 67) dX7_commandAt_61 rfl (fun _ => ?_) (fun hf => absurd hf (by omega))
                refine J_aload_n hC dX7_commandAt_67 rfl rfl ?_
                refine J_ldcS hC (k := 13) rfl dX7_commandAt_68 ?_
                refine iX7_62 hC hK rfl ⟨by decide, by decide⟩ ⟨by decide, by decide⟩ (Nat.le_of_ble_eq_true rfl) dX7_commandAt_70 ?_
                refine c_X3_isAtWord hK hX hS (by decide) (fun b13 => ?_) (fun b13 => ?_)
                · dsimp only [Option.toList_some, Option.toList_none, List.cons_append, List.nil_append]
                  have c13 : wordT wREPAIR t L (skip t L a) := by
                    obtain ⟨b, h, h2⟩ := b13
                    rw [sW_13] at h2
                    cases h
                    exact h2
                  refine J_if_eq_n hC (by decide) (tgt := 79) dX7_commandAt_73 rfl (fun hf => absurd hf (by omega)) (fun _ => ?_)
                  refine J_bipush (v := nI 7) hC dX7_commandAt_76 (by decide) ?_
                  refine J_ireturn hC hR dX7_commandAt_78 (by decide) (by decide) ?_
                  have e : verbS t L (.inr a) = 7 := by
                    show verbT t L (skip t L a) = 7
                    unfold verbT
                    rw [if_neg c7, if_neg c8, if_neg c9, if_neg c10, if_neg c11, if_neg c12, if_pos c13]
                  rw [e] at hq
                  exact hq
                · dsimp only [Option.toList_some, Option.toList_none, List.cons_append, List.nil_append]
                  have c13 : ¬ wordT wREPAIR t L (skip t L a) := fun q => b13 ⟨a, rfl, by rw [sW_13]; exact q⟩
                  refine J_if_eq_n hC (by decide) (tgt := 79) dX7_commandAt_73 rfl (fun _ => ?_) (fun hf => absurd hf (by omega))
                  refine J_aload_n hC dX7_commandAt_79 rfl rfl ?_
                  refine J_ldcS hC (k := 14) rfl dX7_commandAt_80 ?_
                  refine iX7_62 hC hK rfl ⟨by decide, by decide⟩ ⟨by decide, by decide⟩ (Nat.le_of_ble_eq_true rfl) dX7_commandAt_82 ?_
                  refine c_X3_isAtWord hK hX hS (by decide) (fun b14 => ?_) (fun b14 => ?_)
                  · dsimp only [Option.toList_some, Option.toList_none, List.cons_append, List.nil_append]
                    have c14 : wordT wPAY t L (skip t L a) := by
                      obtain ⟨b, h, h2⟩ := b14
                      rw [sW_14] at h2
                      cases h
                      exact h2
                    refine J_if_eq_n hC (by decide) (tgt := 93) dX7_commandAt_85 rfl (fun hf => absurd hf (by omega)) (fun _ => ?_)
                    refine J_bipush (v := nI 8) hC dX7_commandAt_88 (by decide) ?_
                    refine J_goto (tgt := 94) hC dX7_commandAt_90 rfl ?_
                    refine J_ireturn hC hR dX7_commandAt_94 (by decide) (by decide) ?_
                    have e : verbS t L (.inr a) = 8 := by
                      show verbT t L (skip t L a) = 8
                      unfold verbT
                      rw [if_neg c7, if_neg c8, if_neg c9, if_neg c10, if_neg c11, if_neg c12, if_neg c13, if_pos c14]
                    rw [e] at hq
                    exact hq
                  · dsimp only [Option.toList_some, Option.toList_none, List.cons_append, List.nil_append]
                    have c14 : ¬ wordT wPAY t L (skip t L a) := fun q => b14 ⟨a, rfl, by rw [sW_14]; exact q⟩
                    refine J_if_eq_n hC (by decide) (tgt := 93) dX7_commandAt_85 rfl (fun _ => ?_) (fun hf => absurd hf (by omega))
                    refine J_iconst (v := nI 0) hC dX7_commandAt_93 (by decide) ?_
                    refine J_ireturn hC hR dX7_commandAt_94 (by decide) (by decide) ?_
                    have e : verbS t L (.inr a) = 0 := by
                      show verbT t L (skip t L a) = 0
                      unfold verbT
                      rw [if_neg c7, if_neg c8, if_neg c9, if_neg c10, if_neg c11, if_neg c12, if_neg c13, if_neg c14]
                    rw [e] at hq
                    exact hq
set_option maxHeartbeats 4000000 in
set_option maxRecDepth 100000 in
theorem c_X7_readCommand {G : GC} {w : Lay} {σ : Mem} {Q : Lay → Option Value → Mem → Prop} {Qx : Lay → String → Mem → Prop} (hK : LK w) {t : Nat → Nat} {L : Nat} (hX : TXc σ t L) {a k : Nat} (hS : StC σ t L (.inr a)) (hc : rd σ 12 7 0 = nI k) (hk20 : k < 20) (hq : ∀ σ', FrC k σ σ' → StC σ' t L (sC (cmdV t L a)) → (∀ c b, cmdV t L a = .inr (c, b) → CMk σ' k c) → Q w none σ') : MX7_readCommand G w σ [.ref (w.2.1 12 7), .ref (w.2.1 12 5)] Q Qx := by
  refine mt_start (by decide) rfl (Nat.le_of_ble_eq_true rfl) (fun E hC hR hN => ?_)
  show J G E w 0 0 0 [some (.ref (w.2.1 12 7)), some (.ref (w.2.1 12 5)), none] [] σ
  generalize hv : verbT t L (skip t L a) = v
  have hv8 := verbT_le t L (skip t L a)
  rw [hv] at hv8
  refine J_aload_n hC dX7_readCommand_0 rfl rfl ?_
  refine iX7_41 hC rfl ⟨by decide, by decide⟩ ⟨by decide, by decide⟩ (Nat.le_of_ble_eq_true rfl) dX7_readCommand_1 ?_
  refine c_X7_commandAt hK hX hS ?_
  dsimp only [Option.toList_some, Option.toList_none, List.cons_append, List.nil_append]
  rw [show verbS t L (.inr a) = v from hv]
  refine J_istore_n hC dX7_readCommand_4 rfl (Nat.le_of_ble_eq_true rfl) rfl ?_
  dsimp only [List.set]
  refine J_iload_n hC dX7_readCommand_5 rfl rfl ?_
  refine J_if_ne_n hC (by omega) (tgt := 15) dX7_readCommand_6 rfl (fun b0 => ?_) (fun b0 => ?_)
  · refine J_aload_n hC dX7_readCommand_15 rfl rfl ?_
    refine iX7_49 hC hK rfl ⟨by decide, by decide⟩ ⟨by decide, by decide⟩ (Nat.le_of_ble_eq_true rfl) dX7_readCommand_16 ?_
    refine c_X3_readToken hK hX hS.2.2.2.2.2.1 (skip_500 hX.2.2 hS.1).2.2 (fun σ1 hF1 hC1 => ?_)
    dsimp only [Option.toList_some, Option.toList_none, List.cons_append, List.nil_append]
    have hXc := FrI_TX (FrT_I hF1) hX
    have hSd := StC_next hX hS hF1 hC1
    have hFc := FrI_C (k := k) (FrT_I hF1)
    have hcc := (hF1.1 12 7 0 (by omega)).trans hc
    refine J_aload_n hC dX7_readCommand_19 rfl rfl ?_
    refine gX7_9 hC hK dX7_readCommand_20 ?_
    refine J_aload_n hC dX7_readCommand_23 rfl rfl ?_
    refine gX7_29 hC hK dX7_readCommand_24 ?_
    refine J_top hcc ?_
    refine J_iload_n hC dX7_readCommand_27 rfl rfl ?_
    refine J_iastore hC (hK.1 8 (by decide)) rfl rfl (by omega) (by decide) dX7_readCommand_28 ?_
    refine J_aload_n hC dX7_readCommand_29 rfl rfl ?_
    refine gX7_15 hC hK dX7_readCommand_30 ?_
    refine J_aload_n hC dX7_readCommand_33 rfl rfl ?_
    refine gX7_29 hC hK dX7_readCommand_34 ?_
    refine J_top ((rd_wr_c (by decide)).trans hcc) ?_
    refine J_iload_n hC dX7_readCommand_37 rfl rfl ?_
    refine J_iconst (v := nI 3) hC dX7_readCommand_38 (by decide) ?_
    refine J_icmp_ne_n hC (by omega) (by decide) (tgt := 52) dX7_readCommand_39 rfl (fun b3 => ?_) (fun b3 => ?_)
    · refine J_aload_n hC dX7_readCommand_52 rfl rfl ?_
      refine J_iconst (v := nI 0) hC dX7_readCommand_53 (by decide) ?_
      refine J_bipush (v := nI 15) hC dX7_readCommand_54 (by decide) ?_
      refine iX7_52 hC hK rfl ⟨by decide, by decide⟩ ⟨by decide, by decide⟩ (Nat.le_of_ble_eq_true rfl) dX7_readCommand_56 ?_
      refine c_X3_takeNumber hK (TXc_wr (by decide) hXc) (StC_wr (by decide) hSd) (by decide) (by decide) (fun σ2 hF2 hS2 => ?_)
      dsimp only [Option.toList_some, Option.toList_none, List.cons_append, List.nil_append]
      have hSd := hS2
      have hXc := FrI_TX hF2 (TXc_wr (by decide) hXc)
      have hFc := FrC_trans (FrC_wr hFc (by decide)) (FrI_C hF2)
      have hcc := (hF2.1 12 7 0 (by omega)).trans ((rd_wr_c (by decide)).trans hcc)
      have h8 := (hF2.1 12 8 k (by omega)).trans rd_wr_s
      refine J_iastore hC (hK.1 9 (by decide)) rfl rfl (by omega) (by decide) dX7_readCommand_59 ?_
      refine J_iload_n hC dX7_readCommand_60 rfl rfl ?_
      refine J_iconst (v := nI 4) hC dX7_readCommand_61 (by decide) ?_
      refine J_icmp_ne_n hC (by omega) (by decide) (tgt := 100) dX7_readCommand_62 rfl (fun b4 => ?_) (fun b4 => ?_)
      · refine J_iload_n hC dX7_readCommand_100 rfl rfl ?_
        refine J_bipush (v := nI 6) hC dX7_readCommand_101 (by decide) ?_
        refine J_icmp_ne_n hC (by omega) (by decide) (tgt := 125) dX7_readCommand_103 rfl (fun b6 => ?_) (fun b6 => ?_)
        · refine J_iload_n hC dX7_readCommand_125 rfl rfl ?_
          refine J_bipush (v := nI 8) hC dX7_readCommand_126 (by decide) ?_
          refine J_icmp_ne_n hC (by omega) (by decide) (tgt := 148) dX7_readCommand_128 rfl (fun b8 => ?_) (fun b8 => ?_)
          · refine J_aload_n hC dX7_readCommand_148 rfl rfl ?_
            refine iX7_57 hC hK rfl ⟨by decide, by decide⟩ ⟨by decide, by decide⟩ (Nat.le_of_ble_eq_true rfl) dX7_readCommand_149 ?_
            refine c_X3_takeSemicolon hK (TXc_wr (by decide) hXc) (StC_wr (by decide) hSd) (fun σ5 hF5 hS5 => ?_)
            dsimp only [Option.toList_some, Option.toList_none, List.cons_append, List.nil_append]
            refine J_return hC hR dX7_readCommand_152 (by decide) (by decide) ?_
            have lem := cmdV_o hv b0 b3 b4 b6 b8
            exact hq σ5 (FrC_trans (FrC_wr hFc (by decide)) (FrI_C hF5)) (by rw [lem.1]; exact hS5) (fun c b h => by
              rw [lem.2 c b h]
              exact ⟨(hF5.1 12 8 k (by omega)).trans ((rd_wr_c (by decide)).trans h8), (hF5.1 12 9 k (by omega)).trans rd_wr_s, fun q => absurd (show needY v from q) (by unfold needY; omega), fun q => absurd (show v = 4 from q) (by omega)⟩)
          · refine J_aload_n hC dX7_readCommand_131 rfl rfl ?_
            refine gX7_18 hC hK dX7_readCommand_132 ?_
            refine J_aload_n hC dX7_readCommand_135 rfl rfl ?_
            refine gX7_29 hC hK dX7_readCommand_136 ?_
            refine J_top ((rd_wr_c (by decide)).trans hcc) ?_
            refine J_aload_n hC dX7_readCommand_139 rfl rfl ?_
            refine J_iconst (v := nI 1) hC dX7_readCommand_140 (by decide) ?_
            refine J_sipush (v := nI 999) hC dX7_readCommand_141 (by decide) ?_
            refine iX7_52 hC hK rfl ⟨by decide, by decide⟩ ⟨by decide, by decide⟩ (Nat.le_of_ble_eq_true rfl) dX7_readCommand_144 ?_
            refine c_X3_takeNumber hK (TXc_wr (by decide) hXc) (StC_wr (by decide) hSd) (by decide) (by decide) (fun σ3 hF3 hS3 => ?_)
            dsimp only [Option.toList_some, Option.toList_none, List.cons_append, List.nil_append]
            have hSd := hS3
            have hXc := FrI_TX hF3 (TXc_wr (by decide) hXc)
            have hFc := FrC_trans (FrC_wr hFc (by decide)) (FrI_C hF3)
            have hcc := (hF3.1 12 7 0 (by omega)).trans ((rd_wr_c (by decide)).trans hcc)
            have h8 := (hF3.1 12 8 k (by omega)).trans ((rd_wr_c (by decide)).trans h8)
            have h9 := (hF3.1 12 9 k (by omega)).trans rd_wr_s
            refine J_iastore hC (hK.1 10 (by decide)) rfl rfl (by omega) (by decide) dX7_readCommand_147 ?_
            refine J_aload_n hC dX7_readCommand_148 rfl rfl ?_
            refine iX7_57 hC hK rfl ⟨by decide, by decide⟩ ⟨by decide, by decide⟩ (Nat.le_of_ble_eq_true rfl) dX7_readCommand_149 ?_
            refine c_X3_takeSemicolon hK (TXc_wr (by decide) hXc) (StC_wr (by decide) hSd) (fun σ5 hF5 hS5 => ?_)
            dsimp only [Option.toList_some, Option.toList_none, List.cons_append, List.nil_append]
            refine J_return hC hR dX7_readCommand_152 (by decide) (by decide) ?_
            have lem := cmdV_8 (hv.trans b8)
            exact hq σ5 (FrC_trans (FrC_wr hFc (by decide)) (FrI_C hF5)) (by rw [lem.1]; exact hS5) (fun c b h => by
              rw [lem.2 c b h]
              exact ⟨(hF5.1 12 8 k (by omega)).trans ((rd_wr_c (by decide)).trans (h8.trans (by rw [b8]))), (hF5.1 12 9 k (by omega)).trans ((rd_wr_c (by decide)).trans h9), fun _ => (hF5.1 12 10 k (by omega)).trans rd_wr_s, fun q => absurd (show 8 = 4 from q) (by omega)⟩)
        · refine J_aload_n hC dX7_readCommand_106 rfl rfl ?_
          refine gX7_18 hC hK dX7_readCommand_107 ?_
          refine J_aload_n hC dX7_readCommand_110 rfl rfl ?_
          refine gX7_29 hC hK dX7_readCommand_111 ?_
          refine J_top ((rd_wr_c (by decide)).trans hcc) ?_
          refine J_aload_n hC dX7_readCommand_114 rfl rfl ?_
          refine J_iconst (v := nI 0) hC dX7_readCommand_115 (by decide) ?_
          refine J_bipush (v := nI 9) hC dX7_readCommand_116 (by decide) ?_
          refine iX7_52 hC hK rfl ⟨by decide, by decide⟩ ⟨by decide, by decide⟩ (Nat.le_of_ble_eq_true rfl) dX7_readCommand_118 ?_
          refine c_X3_takeNumber hK (TXc_wr (by decide) hXc) (StC_wr (by decide) hSd) (by decide) (by decide) (fun σ3 hF3 hS3 => ?_)
          dsimp only [Option.toList_some, Option.toList_none, List.cons_append, List.nil_append]
          have hSd := hS3
          have hXc := FrI_TX hF3 (TXc_wr (by decide) hXc)
          have hFc := FrC_trans (FrC_wr hFc (by decide)) (FrI_C hF3)
          have hcc := (hF3.1 12 7 0 (by omega)).trans ((rd_wr_c (by decide)).trans hcc)
          have h8 := (hF3.1 12 8 k (by omega)).trans ((rd_wr_c (by decide)).trans h8)
          have h9 := (hF3.1 12 9 k (by omega)).trans rd_wr_s
          refine J_iastore hC (hK.1 10 (by decide)) rfl rfl (by omega) (by decide) dX7_readCommand_121 ?_
          refine J_goto (tgt := 148) hC dX7_readCommand_122 rfl ?_
          refine J_aload_n hC dX7_readCommand_148 rfl rfl ?_
          refine iX7_57 hC hK rfl ⟨by decide, by decide⟩ ⟨by decide, by decide⟩ (Nat.le_of_ble_eq_true rfl) dX7_readCommand_149 ?_
          refine c_X3_takeSemicolon hK (TXc_wr (by decide) hXc) (StC_wr (by decide) hSd) (fun σ5 hF5 hS5 => ?_)
          dsimp only [Option.toList_some, Option.toList_none, List.cons_append, List.nil_append]
          refine J_return hC hR dX7_readCommand_152 (by decide) (by decide) ?_
          have lem := cmdV_6 (hv.trans b6)
          exact hq σ5 (FrC_trans (FrC_wr hFc (by decide)) (FrI_C hF5)) (by rw [lem.1]; exact hS5) (fun c b h => by
            rw [lem.2 c b h]
            exact ⟨(hF5.1 12 8 k (by omega)).trans ((rd_wr_c (by decide)).trans (h8.trans (by rw [b6]))), (hF5.1 12 9 k (by omega)).trans ((rd_wr_c (by decide)).trans h9), fun _ => (hF5.1 12 10 k (by omega)).trans rd_wr_s, fun q => absurd (show 6 = 4 from q) (by omega)⟩)
      · refine J_aload_n hC dX7_readCommand_65 rfl rfl ?_
        refine gX7_18 hC hK dX7_readCommand_66 ?_
        refine J_aload_n hC dX7_readCommand_69 rfl rfl ?_
        refine gX7_29 hC hK dX7_readCommand_70 ?_
        refine J_top ((rd_wr_c (by decide)).trans hcc) ?_
        refine J_aload_n hC dX7_readCommand_73 rfl rfl ?_
        refine J_iconst (v := nI 0) hC dX7_readCommand_74 (by decide) ?_
        refine J_ldc (v := nI 999999) hC dX7_readCommand_75 q4_125 ?_
        refine iX7_52 hC hK rfl ⟨by decide, by decide⟩ ⟨by decide, by decide⟩ (Nat.le_of_ble_eq_true rfl) dX7_readCommand_77 ?_
        refine c_X3_takeNumber hK (TXc_wr (by decide) hXc) (StC_wr (by decide) hSd) (by decide) (by decide) (fun σ3 hF3 hS3 => ?_)
        dsimp only [Option.toList_some, Option.toList_none, List.cons_append, List.nil_append]
        have hSd := hS3
        have hXc := FrI_TX hF3 (TXc_wr (by decide) hXc)
        have hFc := FrC_trans (FrC_wr hFc (by decide)) (FrI_C hF3)
        have hcc := (hF3.1 12 7 0 (by omega)).trans ((rd_wr_c (by decide)).trans hcc)
        have h8 := (hF3.1 12 8 k (by omega)).trans ((rd_wr_c (by decide)).trans h8)
        have h9 := (hF3.1 12 9 k (by omega)).trans rd_wr_s
        refine J_iastore hC (hK.1 10 (by decide)) rfl rfl (by omega) (by decide) dX7_readCommand_80 ?_
        refine J_aload_n hC dX7_readCommand_81 rfl rfl ?_
        refine gX7_21 hC hK dX7_readCommand_82 ?_
        refine J_aload_n hC dX7_readCommand_85 rfl rfl ?_
        refine gX7_29 hC hK dX7_readCommand_86 ?_
        refine J_top ((rd_wr_c (by decide)).trans hcc) ?_
        refine J_aload_n hC dX7_readCommand_89 rfl rfl ?_
        refine J_iconst (v := nI 1) hC dX7_readCommand_90 (by decide) ?_
        refine J_bipush (v := nI 24) hC dX7_readCommand_91 (by decide) ?_
        refine iX7_52 hC hK rfl ⟨by decide, by decide⟩ ⟨by decide, by decide⟩ (Nat.le_of_ble_eq_true rfl) dX7_readCommand_93 ?_
        refine c_X3_takeNumber hK (TXc_wr (by decide) hXc) (StC_wr (by decide) hSd) (by decide) (by decide) (fun σ4 hF4 hS4 => ?_)
        dsimp only [Option.toList_some, Option.toList_none, List.cons_append, List.nil_append]
        have hSd := hS4
        have hXc := FrI_TX hF4 (TXc_wr (by decide) hXc)
        have hFc := FrC_trans (FrC_wr hFc (by decide)) (FrI_C hF4)
        have hcc := (hF4.1 12 7 0 (by omega)).trans ((rd_wr_c (by decide)).trans hcc)
        have h8 := (hF4.1 12 8 k (by omega)).trans ((rd_wr_c (by decide)).trans h8)
        have h9 := (hF4.1 12 9 k (by omega)).trans ((rd_wr_c (by decide)).trans h9)
        have h10 := (hF4.1 12 10 k (by omega)).trans rd_wr_s
        refine J_iastore hC (hK.1 11 (by decide)) rfl rfl (by omega) (by decide) dX7_readCommand_96 ?_
        refine J_goto (tgt := 148) hC dX7_readCommand_97 rfl ?_
        refine J_aload_n hC dX7_readCommand_148 rfl rfl ?_
        refine iX7_57 hC hK rfl ⟨by decide, by decide⟩ ⟨by decide, by decide⟩ (Nat.le_of_ble_eq_true rfl) dX7_readCommand_149 ?_
        refine c_X3_takeSemicolon hK (TXc_wr (by decide) hXc) (StC_wr (by decide) hSd) (fun σ5 hF5 hS5 => ?_)
        dsimp only [Option.toList_some, Option.toList_none, List.cons_append, List.nil_append]
        refine J_return hC hR dX7_readCommand_152 (by decide) (by decide) ?_
        have lem := cmdV_4 (hv.trans b4)
        exact hq σ5 (FrC_trans (FrC_wr hFc (by decide)) (FrI_C hF5)) (by rw [lem.1]; exact hS5) (fun c b h => by
          rw [lem.2 c b h]
          exact ⟨(hF5.1 12 8 k (by omega)).trans ((rd_wr_c (by decide)).trans (h8.trans (by rw [b4]))), (hF5.1 12 9 k (by omega)).trans ((rd_wr_c (by decide)).trans h9), fun _ => (hF5.1 12 10 k (by omega)).trans ((rd_wr_c (by decide)).trans h10), fun _ => (hF5.1 12 11 k (by omega)).trans rd_wr_s⟩)
    · refine J_aload_n hC dX7_readCommand_42 rfl rfl ?_
      refine J_iconst (v := nI 1) hC dX7_readCommand_43 (by decide) ?_
      refine J_bipush (v := nI 48) hC dX7_readCommand_44 (by decide) ?_
      refine iX7_52 hC hK rfl ⟨by decide, by decide⟩ ⟨by decide, by decide⟩ (Nat.le_of_ble_eq_true rfl) dX7_readCommand_46 ?_
      refine c_X3_takeNumber hK (TXc_wr (by decide) hXc) (StC_wr (by decide) hSd) (by decide) (by decide) (fun σ2 hF2 hS2 => ?_)
      dsimp only [Option.toList_some, Option.toList_none, List.cons_append, List.nil_append]
      have hSd := hS2
      have hXc := FrI_TX hF2 (TXc_wr (by decide) hXc)
      have hFc := FrC_trans (FrC_wr hFc (by decide)) (FrI_C hF2)
      have hcc := (hF2.1 12 7 0 (by omega)).trans ((rd_wr_c (by decide)).trans hcc)
      have h8 := (hF2.1 12 8 k (by omega)).trans rd_wr_s
      refine J_goto (tgt := 59) hC dX7_readCommand_49 rfl ?_
      refine J_iastore hC (hK.1 9 (by decide)) rfl rfl (by omega) (by decide) dX7_readCommand_59 ?_
      refine J_iload_n hC dX7_readCommand_60 rfl rfl ?_
      refine J_iconst (v := nI 4) hC dX7_readCommand_61 (by decide) ?_
      refine J_icmp_ne_n hC (by omega) (by decide) (tgt := 100) dX7_readCommand_62 rfl (fun b4 => ?_) (fun b4 => ?_)
      · refine J_iload_n hC dX7_readCommand_100 rfl rfl ?_
        refine J_bipush (v := nI 6) hC dX7_readCommand_101 (by decide) ?_
        refine J_icmp_ne_n hC (by omega) (by decide) (tgt := 125) dX7_readCommand_103 rfl (fun b6 => ?_) (fun b6 => ?_)
        · refine J_iload_n hC dX7_readCommand_125 rfl rfl ?_
          refine J_bipush (v := nI 8) hC dX7_readCommand_126 (by decide) ?_
          refine J_icmp_ne_n hC (by omega) (by decide) (tgt := 148) dX7_readCommand_128 rfl (fun b8 => ?_) (fun b8 => ?_)
          · refine J_aload_n hC dX7_readCommand_148 rfl rfl ?_
            refine iX7_57 hC hK rfl ⟨by decide, by decide⟩ ⟨by decide, by decide⟩ (Nat.le_of_ble_eq_true rfl) dX7_readCommand_149 ?_
            refine c_X3_takeSemicolon hK (TXc_wr (by decide) hXc) (StC_wr (by decide) hSd) (fun σ5 hF5 hS5 => ?_)
            dsimp only [Option.toList_some, Option.toList_none, List.cons_append, List.nil_append]
            refine J_return hC hR dX7_readCommand_152 (by decide) (by decide) ?_
            have lem := cmdV_3 (hv.trans b3)
            exact hq σ5 (FrC_trans (FrC_wr hFc (by decide)) (FrI_C hF5)) (by rw [lem.1]; exact hS5) (fun c b h => by
              rw [lem.2 c b h]
              exact ⟨(hF5.1 12 8 k (by omega)).trans ((rd_wr_c (by decide)).trans (h8.trans (by rw [b3]))), (hF5.1 12 9 k (by omega)).trans rd_wr_s, fun q => absurd (show needY 3 from q) (by unfold needY; omega), fun q => absurd (show 3 = 4 from q) (by omega)⟩)
          · refine J_aload_n hC dX7_readCommand_131 rfl rfl ?_
            refine gX7_18 hC hK dX7_readCommand_132 ?_
            refine J_aload_n hC dX7_readCommand_135 rfl rfl ?_
            refine gX7_29 hC hK dX7_readCommand_136 ?_
            refine J_top ((rd_wr_c (by decide)).trans hcc) ?_
            refine J_aload_n hC dX7_readCommand_139 rfl rfl ?_
            refine J_iconst (v := nI 1) hC dX7_readCommand_140 (by decide) ?_
            refine J_sipush (v := nI 999) hC dX7_readCommand_141 (by decide) ?_
            refine iX7_52 hC hK rfl ⟨by decide, by decide⟩ ⟨by decide, by decide⟩ (Nat.le_of_ble_eq_true rfl) dX7_readCommand_144 ?_
            refine c_X3_takeNumber hK (TXc_wr (by decide) hXc) (StC_wr (by decide) hSd) (by decide) (by decide) (fun σ3 hF3 hS3 => ?_)
            dsimp only [Option.toList_some, Option.toList_none, List.cons_append, List.nil_append]
            have hSd := hS3
            have hXc := FrI_TX hF3 (TXc_wr (by decide) hXc)
            have hFc := FrC_trans (FrC_wr hFc (by decide)) (FrI_C hF3)
            have hcc := (hF3.1 12 7 0 (by omega)).trans ((rd_wr_c (by decide)).trans hcc)
            have h8 := (hF3.1 12 8 k (by omega)).trans ((rd_wr_c (by decide)).trans h8)
            have h9 := (hF3.1 12 9 k (by omega)).trans rd_wr_s
            refine J_iastore hC (hK.1 10 (by decide)) rfl rfl (by omega) (by decide) dX7_readCommand_147 ?_
            refine J_aload_n hC dX7_readCommand_148 rfl rfl ?_
            refine iX7_57 hC hK rfl ⟨by decide, by decide⟩ ⟨by decide, by decide⟩ (Nat.le_of_ble_eq_true rfl) dX7_readCommand_149 ?_
            refine c_X3_takeSemicolon hK (TXc_wr (by decide) hXc) (StC_wr (by decide) hSd) (fun σ5 hF5 hS5 => ?_)
            dsimp only [Option.toList_some, Option.toList_none, List.cons_append, List.nil_append]
            refine J_return hC hR dX7_readCommand_152 (by decide) (by decide) ?_
            omega
        · refine J_aload_n hC dX7_readCommand_106 rfl rfl ?_
          refine gX7_18 hC hK dX7_readCommand_107 ?_
          refine J_aload_n hC dX7_readCommand_110 rfl rfl ?_
          refine gX7_29 hC hK dX7_readCommand_111 ?_
          refine J_top ((rd_wr_c (by decide)).trans hcc) ?_
          refine J_aload_n hC dX7_readCommand_114 rfl rfl ?_
          refine J_iconst (v := nI 0) hC dX7_readCommand_115 (by decide) ?_
          refine J_bipush (v := nI 9) hC dX7_readCommand_116 (by decide) ?_
          refine iX7_52 hC hK rfl ⟨by decide, by decide⟩ ⟨by decide, by decide⟩ (Nat.le_of_ble_eq_true rfl) dX7_readCommand_118 ?_
          refine c_X3_takeNumber hK (TXc_wr (by decide) hXc) (StC_wr (by decide) hSd) (by decide) (by decide) (fun σ3 hF3 hS3 => ?_)
          dsimp only [Option.toList_some, Option.toList_none, List.cons_append, List.nil_append]
          have hSd := hS3
          have hXc := FrI_TX hF3 (TXc_wr (by decide) hXc)
          have hFc := FrC_trans (FrC_wr hFc (by decide)) (FrI_C hF3)
          have hcc := (hF3.1 12 7 0 (by omega)).trans ((rd_wr_c (by decide)).trans hcc)
          have h8 := (hF3.1 12 8 k (by omega)).trans ((rd_wr_c (by decide)).trans h8)
          have h9 := (hF3.1 12 9 k (by omega)).trans rd_wr_s
          refine J_iastore hC (hK.1 10 (by decide)) rfl rfl (by omega) (by decide) dX7_readCommand_121 ?_
          refine J_goto (tgt := 148) hC dX7_readCommand_122 rfl ?_
          refine J_aload_n hC dX7_readCommand_148 rfl rfl ?_
          refine iX7_57 hC hK rfl ⟨by decide, by decide⟩ ⟨by decide, by decide⟩ (Nat.le_of_ble_eq_true rfl) dX7_readCommand_149 ?_
          refine c_X3_takeSemicolon hK (TXc_wr (by decide) hXc) (StC_wr (by decide) hSd) (fun σ5 hF5 hS5 => ?_)
          dsimp only [Option.toList_some, Option.toList_none, List.cons_append, List.nil_append]
          refine J_return hC hR dX7_readCommand_152 (by decide) (by decide) ?_
          omega
      · refine J_aload_n hC dX7_readCommand_65 rfl rfl ?_
        refine gX7_18 hC hK dX7_readCommand_66 ?_
        refine J_aload_n hC dX7_readCommand_69 rfl rfl ?_
        refine gX7_29 hC hK dX7_readCommand_70 ?_
        refine J_top ((rd_wr_c (by decide)).trans hcc) ?_
        refine J_aload_n hC dX7_readCommand_73 rfl rfl ?_
        refine J_iconst (v := nI 0) hC dX7_readCommand_74 (by decide) ?_
        refine J_ldc (v := nI 999999) hC dX7_readCommand_75 q4_125 ?_
        refine iX7_52 hC hK rfl ⟨by decide, by decide⟩ ⟨by decide, by decide⟩ (Nat.le_of_ble_eq_true rfl) dX7_readCommand_77 ?_
        refine c_X3_takeNumber hK (TXc_wr (by decide) hXc) (StC_wr (by decide) hSd) (by decide) (by decide) (fun σ3 hF3 hS3 => ?_)
        dsimp only [Option.toList_some, Option.toList_none, List.cons_append, List.nil_append]
        have hSd := hS3
        have hXc := FrI_TX hF3 (TXc_wr (by decide) hXc)
        have hFc := FrC_trans (FrC_wr hFc (by decide)) (FrI_C hF3)
        have hcc := (hF3.1 12 7 0 (by omega)).trans ((rd_wr_c (by decide)).trans hcc)
        have h8 := (hF3.1 12 8 k (by omega)).trans ((rd_wr_c (by decide)).trans h8)
        have h9 := (hF3.1 12 9 k (by omega)).trans rd_wr_s
        refine J_iastore hC (hK.1 10 (by decide)) rfl rfl (by omega) (by decide) dX7_readCommand_80 ?_
        refine J_aload_n hC dX7_readCommand_81 rfl rfl ?_
        refine gX7_21 hC hK dX7_readCommand_82 ?_
        refine J_aload_n hC dX7_readCommand_85 rfl rfl ?_
        refine gX7_29 hC hK dX7_readCommand_86 ?_
        refine J_top ((rd_wr_c (by decide)).trans hcc) ?_
        refine J_aload_n hC dX7_readCommand_89 rfl rfl ?_
        refine J_iconst (v := nI 1) hC dX7_readCommand_90 (by decide) ?_
        refine J_bipush (v := nI 24) hC dX7_readCommand_91 (by decide) ?_
        refine iX7_52 hC hK rfl ⟨by decide, by decide⟩ ⟨by decide, by decide⟩ (Nat.le_of_ble_eq_true rfl) dX7_readCommand_93 ?_
        refine c_X3_takeNumber hK (TXc_wr (by decide) hXc) (StC_wr (by decide) hSd) (by decide) (by decide) (fun σ4 hF4 hS4 => ?_)
        dsimp only [Option.toList_some, Option.toList_none, List.cons_append, List.nil_append]
        have hSd := hS4
        have hXc := FrI_TX hF4 (TXc_wr (by decide) hXc)
        have hFc := FrC_trans (FrC_wr hFc (by decide)) (FrI_C hF4)
        have hcc := (hF4.1 12 7 0 (by omega)).trans ((rd_wr_c (by decide)).trans hcc)
        have h8 := (hF4.1 12 8 k (by omega)).trans ((rd_wr_c (by decide)).trans h8)
        have h9 := (hF4.1 12 9 k (by omega)).trans ((rd_wr_c (by decide)).trans h9)
        have h10 := (hF4.1 12 10 k (by omega)).trans rd_wr_s
        refine J_iastore hC (hK.1 11 (by decide)) rfl rfl (by omega) (by decide) dX7_readCommand_96 ?_
        refine J_goto (tgt := 148) hC dX7_readCommand_97 rfl ?_
        refine J_aload_n hC dX7_readCommand_148 rfl rfl ?_
        refine iX7_57 hC hK rfl ⟨by decide, by decide⟩ ⟨by decide, by decide⟩ (Nat.le_of_ble_eq_true rfl) dX7_readCommand_149 ?_
        refine c_X3_takeSemicolon hK (TXc_wr (by decide) hXc) (StC_wr (by decide) hSd) (fun σ5 hF5 hS5 => ?_)
        dsimp only [Option.toList_some, Option.toList_none, List.cons_append, List.nil_append]
        refine J_return hC hR dX7_readCommand_152 (by decide) (by decide) ?_
        omega
  · refine J_aload_n hC dX7_readCommand_9 rfl rfl ?_
    refine J_iconst (v := nI 1) hC dX7_readCommand_10 (by decide) ?_
    refine iX7_45 hC hK rfl ⟨by decide, by decide⟩ ⟨by decide, by decide⟩ (Nat.le_of_ble_eq_true rfl) dX7_readCommand_11 ?_
    refine c_X3_fail hK hX hS (by decide) (by decide) (fun σ1 hF1 hS1 => ?_)
    dsimp only [Option.toList_some, Option.toList_none, List.cons_append, List.nil_append]
    refine J_return hC hR dX7_readCommand_14 (by decide) (by decide) ?_
    have e : cmdV t L a = .inl (1, skip t L a) := if_pos (hv.trans b0)
    exact hq σ1 (FrI_C hF1) (by rw [e]; exact hS1) (fun c b h => by rw [e] at h; cases h)
/-- the reader and the script change -/
def FrR (σ σ' : Mem) : Prop := (∀ a c j, ¬ (a = 12 ∧ c = 5 ∧ 2 ≤ j) → ¬ (a = 12 ∧ 7 ≤ c ∧ c ≤ 11) → rd σ' a c j = rd σ a c j) ∧ ∀ j, rdL σ' j = rdL σ j
theorem FrR_refl {σ : Mem} : FrR σ σ := ⟨fun _ _ _ _ _ => rfl, fun _ => rfl⟩
theorem FrR_trans {a b c : Mem} (h1 : FrR a b) (h2 : FrR b c) : FrR a c := ⟨fun o d j q q2 => (h2.1 o d j q q2).trans (h1.1 o d j q q2), fun j => (h2.2 j).trans (h1.2 j)⟩
theorem FrI_R {σ σ' : Mem} (h : FrI σ σ') : FrR σ σ' := ⟨fun a c j q _ => h.1 a c j q, h.2⟩
theorem FrC_R {k : Nat} {σ σ' : Mem} (h : FrC k σ σ') : FrR σ σ' := ⟨fun a c j q q2 => h.1 a c j q (by omega), h.2⟩
theorem FrR_wr {σ σ' : Mem} {j : Nat} {v : Int32} (h : FrR σ σ') : FrR σ (wr σ' 12 7 j v) := ⟨fun a c i q q2 => by
  rw [rd_wr, if_neg (fun g => q2 ⟨g.1, by omega, by omega⟩)]
  exact h.1 a c i q q2, fun i => h.2 i⟩
theorem FrR_TX {σ σ' : Mem} {t : Nat → Nat} {L : Nat} (h : FrR σ σ') (hX : TXc σ t L) : TXc σ' t L := ⟨fun j hj => ⟨(hX.1 j hj).1, (h.1 12 6 j (by omega) (by omega)).trans (hX.1 j hj).2⟩, (h.1 12 5 1 (by omega) (by omega)).trans hX.2.1, hX.2.2⟩
theorem sC_inr {Y : Flt ⊕ ((Nat → Cmd) × Nat)} {a : Nat} (h : sC Y = .inr a) : ∃ C, Y = .inr (C, a) := by
  cases Y with
  | inl e => cases h
  | inr r =>
    obtain ⟨C, b⟩ := r
    have e : b = a := Sum.inr.inj h
    exact ⟨C, by rw [e]⟩
theorem not_atE {t : Nat → Nat} {L : Nat} {Y : Flt ⊕ ((Nat → Cmd) × Nat)} (h : ¬ atE t L (sC Y)) : ∃ C a, Y = .inr (C, a) ∧ ¬ kdT t L (skip t L a) = 0 := by
  cases Y with
  | inl e => exact absurd (Or.inl ⟨e, rfl⟩) h
  | inr r => exact ⟨r.1, r.2, rfl, fun q => h (Or.inr ⟨r.2, rfl, q⟩)⟩
theorem CMc_fr {σ σ' : Mem} {C : Nat → Cmd} {k : Nat} (h : ∀ c, 8 ≤ c → c ≤ 11 → ∀ i, rd σ' 12 c i = rd σ 12 c i) (hC : CMc σ C k) : CMc σ' C k := fun i hi => by
  have g := hC i hi
  rw [h 8 (by decide) (by decide), h 9 (by decide) (by decide), h 10 (by decide) (by decide), h 11 (by decide) (by decide)]
  exact g
set_option maxHeartbeats 4000000 in
set_option maxRecDepth 100000 in
theorem c_X7_readFrom {G : GC} {w : Lay} {σ : Mem} {Q : Lay → Option Value → Mem → Prop} {Qx : Lay → String → Mem → Prop} (hK : LK w) {t : Nat → Nat} {L : Nat} (hX : TXc σ t L)  (hq : ∀ σ', FrR σ σ' → (∀ e, pScript t L 21 (fun _ => (0, 0, 0, 0)) 0 0 = .inl e → rd σ' 12 5 2 = nI e.1 ∧ rd σ' 12 5 3 = nI e.2 ∧ 1 ≤ e.1 ∧ e.1 ≤ 3 ∧ e.2 ≤ 500) → (∀ C n, pScript t L 21 (fun _ => (0, 0, 0, 0)) 0 0 = .inr (C, n) → rd σ' 12 5 2 = nI 0 ∧ rd σ' 12 5 3 = -1 ∧ CMc σ' C n ∧ rd σ' 12 7 0 = nI n ∧ n ≤ 20) → Q w none σ') : MX7_readFrom G w σ [.ref (w.2.1 12 7), .ref (w.2.1 12 5)] Q Qx := by
  refine mt_start (by decide) rfl (Nat.le_of_ble_eq_true rfl) (fun E hC hR hN => ?_)
  show J G E w 0 0 0 [some (.ref (w.2.1 12 7)), some (.ref (w.2.1 12 5))] [] σ
  generalize hXF : pScript t L 21 (fun _ => (0, 0, 0, 0)) 0 0 = XF at hq
  have lp : ∀ (dd : Nat) (k : Nat) (Y : Flt ⊕ ((Nat → Cmd) × Nat)) (σ1 : Mem), 20 - k < dd → (k ≤ 20) → (FrR σ σ1) → (rd σ1 12 7 0 = nI k) → (StC σ1 t L (sC Y)) → (∀ C a, Y = .inr (C, a) → CMc σ1 C k) → (sF t L k Y = XF) →  J G E w 0 0 9 [some (.ref (w.2.1 12 7)), some (.ref (w.2.1 12 5))] [] σ1 := by
    intro dd
    induction dd with
    | zero =>
      intro k Y σ1 hdd
      exact absurd hdd (Nat.not_lt_zero _)
    | succ dd ih =>
      intro k Y σ1 hdd hk hF1 hc1 hS1 hM hY
      have hX1 := FrR_TX hF1 hX
      have j43 : (k = 20 ∨ atE t L (sC Y)) →  J G E w 0 0 43 [some (.ref (w.2.1 12 7)), some (.ref (w.2.1 12 5))] [] σ1 := by
        intro  h43
        refine J_aload_n hC dX7_readFrom_43 rfl rfl ?_
        refine iX7_33 hC hK rfl ⟨by decide, by decide⟩ ⟨by decide, by decide⟩ (Nat.le_of_ble_eq_true rfl) dX7_readFrom_44 ?_
        refine c_X3_isAtEnd hK hX1 hS1 (fun b5 => ?_) (fun b5 => ?_)
        · dsimp only [Option.toList_some, Option.toList_none, List.cons_append, List.nil_append]
          refine J_if_ne_n hC (by decide) (tgt := 66) dX7_readFrom_47 rfl (fun _ => ?_) (fun hf => absurd hf (by omega))
          refine J_return hC hR dX7_readFrom_66 (by decide) (by decide) ?_
          refine hq σ1 hF1 (fun e he => ?_) (fun C n he => ?_)
          · cases Y with
            | inl e2 =>
              have e3 : (.inl e2 : Flt ⊕ ((Nat → Cmd) × Nat)) = .inl e := hY.trans he
              cases e3
              exact hS1
            | inr r =>
              obtain ⟨C, a⟩ := r
              have hk0 : kdT t L (skip t L a) = 0 := by
                rcases b5 with ⟨e2, h⟩ | ⟨b, h, h2⟩
                · cases h
                · cases h; exact h2
              have e3 : pScript t L (21 - k) C k a = XF := hY
              rw [pS_0 (by omega) hk0, he] at e3
              cases e3
          · cases Y with
            | inl e2 =>
              have e3 : (.inl e2 : Flt ⊕ ((Nat → Cmd) × Nat)) = .inr (C, n) := hY.trans he
              cases e3
            | inr r =>
              obtain ⟨C2, a⟩ := r
              have hk0 : kdT t L (skip t L a) = 0 := by
                rcases b5 with ⟨e2, h⟩ | ⟨b, h, h2⟩
                · cases h
                · cases h; exact h2
              have e3 : pScript t L (21 - k) C2 k a = XF := hY
              rw [pS_0 (by omega) hk0, he] at e3
              cases e3
              exact ⟨hS1.2.1, hS1.2.2.1, hM C a rfl, hc1, hk⟩
        · dsimp only [Option.toList_some, Option.toList_none, List.cons_append, List.nil_append]
          have k20 : k = 20 := by
            rcases h43 with h | h
            · exact h
            · exact absurd h b5
          obtain ⟨C, a, hYC, hk0⟩ := not_atE b5
          subst hYC
          have hv8 := verbT_le t L (skip t L a)
          change pScript t L (21 - k) C k a = XF at hY
          refine J_if_ne_n hC (by decide) (tgt := 66) dX7_readFrom_47 rfl (fun hf => absurd hf (by omega)) (fun _ => ?_)
          refine J_aload_n hC dX7_readFrom_50 rfl rfl ?_
          refine J_aload_n hC dX7_readFrom_51 rfl rfl ?_
          refine iX7_41 hC rfl ⟨by decide, by decide⟩ ⟨by decide, by decide⟩ (Nat.le_of_ble_eq_true rfl) dX7_readFrom_52 ?_
          refine c_X7_commandAt hK hX1 hS1 ?_
          dsimp only [Option.toList_some, Option.toList_none, List.cons_append, List.nil_append]
          rw [show verbS t L (sC (.inr (C, a))) = verbT t L (skip t L a) from rfl]
          refine J_if_ne_n hC (by omega) (tgt := 62) dX7_readFrom_55 rfl (fun b6 => ?_) (fun b6 => ?_)
          · refine J_iconst (v := nI 3) hC dX7_readFrom_62 (by decide) ?_
            refine iX7_45 hC hK rfl ⟨by decide, by decide⟩ ⟨by decide, by decide⟩ (Nat.le_of_ble_eq_true rfl) dX7_readFrom_63 ?_
            refine c_X3_fail hK hX1 hS1 (by decide) (by decide) (fun σ2 hF2 hS2 => ?_)
            dsimp only [Option.toList_some, Option.toList_none, List.cons_append, List.nil_append]
            refine J_return hC hR dX7_readFrom_66 (by decide) (by decide) ?_
            rw [pS_20 (by omega) hk0 b6 k20] at hY
            refine hq σ2 (FrR_trans hF1 (FrI_R hF2)) (fun e he => ?_) (fun C n he => ?_)
            · have e3 := Sum.inl.inj (hY.trans he)
              subst e3
              exact hS2
            · have e3 := hY.trans he
              cases e3
          · refine J_iconst (v := nI 1) hC dX7_readFrom_58 (by decide) ?_
            refine J_goto (tgt := 63) hC dX7_readFrom_59 rfl ?_
            refine iX7_45 hC hK rfl ⟨by decide, by decide⟩ ⟨by decide, by decide⟩ (Nat.le_of_ble_eq_true rfl) dX7_readFrom_63 ?_
            refine c_X3_fail hK hX1 hS1 (by decide) (by decide) (fun σ2 hF2 hS2 => ?_)
            dsimp only [Option.toList_some, Option.toList_none, List.cons_append, List.nil_append]
            refine J_return hC hR dX7_readFrom_66 (by decide) (by decide) ?_
            rw [pS_v (by omega) hk0 b6] at hY
            refine hq σ2 (FrR_trans hF1 (FrI_R hF2)) (fun e he => ?_) (fun C n he => ?_)
            · have e3 := Sum.inl.inj (hY.trans he)
              subst e3
              exact hS2
            · have e3 := hY.trans he
              cases e3
      refine J_aload_n hC dX7_readFrom_9 rfl rfl ?_
      refine gX7_29 hC hK dX7_readFrom_10 ?_
      refine J_top hc1 ?_
      refine J_bipush (v := nI 20) hC dX7_readFrom_13 (by decide) ?_
      refine J_icmp_ge_n hC (by omega) (by decide) (tgt := 43) dX7_readFrom_15 rfl (fun b1 => ?_) (fun b1 => ?_)
      · exact j43 (Or.inl (by omega))
      · refine J_aload_n hC dX7_readFrom_18 rfl rfl ?_
        refine iX7_33 hC hK rfl ⟨by decide, by decide⟩ ⟨by decide, by decide⟩ (Nat.le_of_ble_eq_true rfl) dX7_readFrom_19 ?_
        refine c_X3_isAtEnd hK hX1 hS1 (fun b2 => ?_) (fun b2 => ?_)
        · dsimp only [Option.toList_some, Option.toList_none, List.cons_append, List.nil_append]
          refine J_if_ne_n hC (by decide) (tgt := 43) dX7_readFrom_22 rfl (fun _ => ?_) (fun hf => absurd hf (by omega))
          exact j43 (Or.inr b2)
        · dsimp only [Option.toList_some, Option.toList_none, List.cons_append, List.nil_append]
          obtain ⟨C, a, hYC, hk0⟩ := not_atE b2
          subst hYC
          refine J_if_ne_n hC (by decide) (tgt := 43) dX7_readFrom_22 rfl (fun hf => absurd hf (by omega)) (fun _ => ?_)
          refine J_aload_n hC dX7_readFrom_25 rfl rfl ?_
          refine J_aload_n hC dX7_readFrom_26 rfl rfl ?_
          refine iX7_37 hC hK rfl ⟨by decide, by decide⟩ ⟨by decide, by decide⟩ (Nat.le_of_ble_eq_true rfl) dX7_readFrom_27 ?_
          refine c_X7_readCommand hK hX1 hS1 hc1 b1 (fun σ2 hF2 hS2 hM2 => ?_)
          dsimp only [Option.toList_some, Option.toList_none, List.cons_append, List.nil_append]
          have hc2 := (hF2.1 12 7 0 (by omega) (by omega)).trans hc1
          refine J_aload_n hC dX7_readFrom_30 rfl rfl ?_
          refine J_dup hC dX7_readFrom_31 rfl ?_
          refine gX7_29 hC hK dX7_readFrom_32 ?_
          refine J_top hc2 ?_
          refine J_iconst (v := nI 1) hC dX7_readFrom_35 (by decide) ?_
          refine J_iadd_n hC dX7_readFrom_36 ?_
          refine pX7_29 hC hK dX7_readFrom_37 ?_
          refine J_goto (tgt := 9) hC dX7_readFrom_40 rfl ?_
          refine ih (k + 1) (yC t L k C a) _ (by omega) (by omega) (FrR_wr (FrR_trans hF1 (FrC_R hF2))) rd_wr_s (by rw [yC_s]; exact StC_wr (by decide) hS2) (fun C2 b e => ?_) ((script_step b1 hk0).trans hY)
          exact CMc_fr (fun c h8 h11 i => rd_wr_c (by omega)) (CMc_step (hM C a rfl) hF2 hM2 e)
  refine J_aload_n hC dX7_readFrom_0 rfl rfl ?_
  refine iX7_24 hC hK rfl ⟨by decide, by decide⟩ ⟨by decide, by decide⟩ (Nat.le_of_ble_eq_true rfl) dX7_readFrom_1 ?_
  refine c_X3_beginReading hK hX (fun σ2 hF2 hS2 => ?_)
  dsimp only [Option.toList_some, Option.toList_none, List.cons_append, List.nil_append]
  refine J_aload_n hC dX7_readFrom_4 rfl rfl ?_
  refine J_iconst (v := nI 0) hC dX7_readFrom_5 (by decide) ?_
  refine pX7_29 hC hK dX7_readFrom_6 ?_
  exact lp 21 0 (.inr ((fun _ => (0, 0, 0, 0)), 0)) _ (by omega) (by omega) (FrR_wr (FrI_R hF2)) rd_wr_s (StC_wr (by decide) hS2) (fun C a _ i hi => absurd hi (Nat.not_lt_zero i)) hXF
