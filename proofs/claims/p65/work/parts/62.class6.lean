theorem cover_perm {hm : Nat} {A : Rw} (hI : RowOK hm A) {k s d : Nat} : (∃ p, p < nv A 11 ∧ nv A (214 + 3 * p) = k ∧ nv A (214 + 3 * p + 1) < s + d ∧ s < nv A (214 + 3 * p + 1) + nv A (214 + 3 * p + 2)) ↔ (0 < d ∧ ∃ h, s ≤ h ∧ h < s + d ∧ permN A k h) ∨ (d = 0 ∧ ∃ p, p < nv A 11 ∧ nv A (214 + 3 * p) = k ∧ nv A (214 + 3 * p + 1) < s ∧ s < nv A (214 + 3 * p + 1) + nv A (214 + 3 * p + 2)) := by
  constructor
  · rintro ⟨p, h1, h2, h3, h4⟩
    have h5 := (r_PD hI h1).2.1
    by_cases hd : d = 0
    · exact Or.inr ⟨hd, p, h1, h2, by omega, h4⟩
    · exact Or.inl ⟨by omega, max s (nv A (214 + 3 * p + 1)), by omega, by omega, p, h1, h2, by unfold covN; omega⟩
  · rintro (⟨h0, h, h1, h2, p, h3, h4, h5⟩ | ⟨h0, p, h1, h2, h3, h4⟩)
    · unfold covN at h5
      exact ⟨p, h3, h4, by omega, by omega⟩
    · exact ⟨p, h1, h2, by omega, h4⟩
set_option maxHeartbeats 4000000 in
set_option maxRecDepth 100000 in
theorem c_X4_refusalReason {G : GC} {w : Lay} {σ : Mem} {Q : Lay → Option Value → Mem → Prop} {Qx : Lay → String → Mem → Prop} {o hm : Nat} {A : Rw} (hw : LO w o) (hO : OAt σ o A) (hI : RowOK hm A) {k s d : Nat} (hk : k < nv A 6) (hs0 : s ≤ 1000000) (hd0 : 1 ≤ d ∧ d ≤ 24) (hh : nv A 7 < 2 ^ 31) (hq : Q w (some (.int (nI (refuse A k s d)))) σ) : MX4_refusalReason G w σ [.ref (w.2.1 o 0), .int (nI k), .int (nI s), .int (nI d)] Q Qx := by
  refine mt_start (by decide) rfl (Nat.le_of_ble_eq_true rfl) (fun E hC hR hN => ?_)
  show J G E w 0 0 0 [some (.ref (w.2.1 o 0)), some (.int (nI k)), some (.int (nI s)), some (.int (nI d)), none] [] σ
  have h1 := r_NP hI
  have h2 := r_NK hI
  have kc := (r_KC hI hk).2
  have hw6 := inWay_rng hI k s d
  refine J_iload_n hC dX4_refusalReason_0 rfl rfl ?_
  refine J_iload_n hC dX4_refusalReason_1 rfl rfl ?_
  refine J_iadd_n hC dX4_refusalReason_2 ?_
  refine J_istore hC dX4_refusalReason_3 (Nat.le_of_ble_eq_true rfl) rfl ?_
  dsimp only [List.set]
  refine J_iload_n hC dX4_refusalReason_5 rfl rfl ?_
  refine J_aload_n hC dX4_refusalReason_6 rfl rfl ?_
  refine gX4_46 hC hw dX4_refusalReason_7 ?_
  refine J_top (o_HOUR hO hI) ?_
  refine J_icmp_ge_n hC (by omega) (by omega) (tgt := 15) dX4_refusalReason_10 rfl (fun b1 => ?_) (fun b1 => ?_)
  · refine J_aload_n hC dX4_refusalReason_15 rfl rfl ?_
    refine gX4_28 hC hw dX4_refusalReason_16 ?_
    refine gX4_68 hC hw dX4_refusalReason_19 ?_
    refine J_top (o_NP hO hI) ?_
    refine J_bipush (v := nI 30) hC dX4_refusalReason_22 (by decide) ?_
    refine J_icmp_lt_n hC (by omega) (by decide) (tgt := 29) dX4_refusalReason_24 rfl (fun b2 => ?_) (fun b2 => ?_)
    · refine J_aload_n hC dX4_refusalReason_29 rfl rfl ?_
      refine gX4_28 hC hw dX4_refusalReason_30 ?_
      refine J_iload_n hC dX4_refusalReason_33 rfl rfl ?_
      refine J_iload_n hC dX4_refusalReason_34 rfl rfl ?_
      refine J_iload hC dX4_refusalReason_35 rfl ?_
      refine iX4_166 hC hw rfl ⟨by decide, by decide⟩ ⟨by decide, by decide⟩ (Nat.le_of_ble_eq_true rfl) dX4_refusalReason_37 ?_
      refine c_X6_coverAny hw hO hI (by omega) (by omega) (by omega) (fun b3 => ?_) (fun b3 => ?_)
      · dsimp only [Option.toList_some, Option.toList_none, List.cons_append, List.nil_append]
        have f3 : ∃ h, s ≤ h ∧ h < s + d ∧ permN A k h := by
          rcases (cover_perm hI).mp b3 with z | z
          · exact z.2
          · omega
        refine J_if_eq_n hC (by decide) (tgt := 45) dX4_refusalReason_40 rfl (fun hf => absurd hf (by omega)) (fun _ => ?_)
        refine J_iconst (v := nI 3) hC dX4_refusalReason_43 (by decide) ?_
        refine J_ireturn hC hR dX4_refusalReason_44 (by decide) (by decide) ?_
        unfold refuse at hq
        rw [if_neg (show ¬ s < nv A 7 by omega), if_neg (show ¬ nv A 11 = 30 by omega), if_pos f3] at hq
        exact hq
      · dsimp only [Option.toList_some, Option.toList_none, List.cons_append, List.nil_append]
        have f3 : ¬ ∃ h, s ≤ h ∧ h < s + d ∧ permN A k h := fun z => b3 ((cover_perm hI).mpr (Or.inl ⟨by omega, z⟩))
        refine J_if_eq_n hC (by decide) (tgt := 45) dX4_refusalReason_40 rfl (fun _ => ?_) (fun hf => absurd hf (by omega))
        refine J_aload_n hC dX4_refusalReason_45 rfl rfl ?_
        refine J_aload_n hC dX4_refusalReason_46 rfl rfl ?_
        refine gX4_21 hC hw dX4_refusalReason_47 ?_
        refine gX4_86 hC hw dX4_refusalReason_50 ?_
        refine J_iload_n hC dX4_refusalReason_53 rfl rfl ?_
        refine J_iaload hC (hw.2.1 11 (by decide)) (kd_o hw.1) rfl (by omega) (by decide) dX4_refusalReason_54 ?_
        refine J_top (o_C hO hI hk) ?_
        refine J_iload_n hC dX4_refusalReason_55 rfl rfl ?_
        refine J_iload hC dX4_refusalReason_56 rfl ?_
        refine iX4_169 hC hw rfl ⟨by decide, by decide⟩ ⟨by decide, by decide⟩ (Nat.le_of_ble_eq_true rfl) dX4_refusalReason_58 ?_
        refine c_X4_isQuotaUsedUp hw hO hI kc (by omega) (by omega) (fun b4 => ?_) (fun b4 => ?_)
        · dsimp only [Option.toList_some, Option.toList_none, List.cons_append, List.nil_append]
          refine J_if_eq_n hC (by decide) (tgt := 66) dX4_refusalReason_61 rfl (fun hf => absurd hf (by omega)) (fun _ => ?_)
          refine J_iconst (v := nI 4) hC dX4_refusalReason_64 (by decide) ?_
          refine J_ireturn hC hR dX4_refusalReason_65 (by decide) (by decide) ?_
          unfold refuse at hq
          rw [if_neg (show ¬ s < nv A 7 by omega), if_neg (show ¬ nv A 11 = 30 by omega), if_neg f3, if_pos b4] at hq
          exact hq
        · dsimp only [Option.toList_some, Option.toList_none, List.cons_append, List.nil_append]
          refine J_if_eq_n hC (by decide) (tgt := 66) dX4_refusalReason_61 rfl (fun _ => ?_) (fun hf => absurd hf (by omega))
          refine J_aload_n hC dX4_refusalReason_66 rfl rfl ?_
          refine J_iload_n hC dX4_refusalReason_67 rfl rfl ?_
          refine J_iload_n hC dX4_refusalReason_68 rfl rfl ?_
          refine J_iload hC dX4_refusalReason_69 rfl ?_
          refine iX4_172 hC hw rfl ⟨by decide, by decide⟩ ⟨by decide, by decide⟩ (Nat.le_of_ble_eq_true rfl) dX4_refusalReason_71 ?_
          refine c_X4_fliesAllHours hw hO hI hk (by omega) (by omega) (fun b5 => ?_) (fun b5 => ?_)
          · dsimp only [Option.toList_some, Option.toList_none, List.cons_append, List.nil_append]
            have f5 : ¬ ∃ h, s ≤ h ∧ h < s + d ∧ ¬ fliesN A k h := fun ⟨h, z1, z2, z3⟩ => z3 (b5 h z1 z2)
            refine J_if_ne_n hC (by decide) (tgt := 79) dX4_refusalReason_74 rfl (fun _ => ?_) (fun hf => absurd hf (by omega))
            refine J_aload_n hC dX4_refusalReason_79 rfl rfl ?_
            refine J_iload_n hC dX4_refusalReason_80 rfl rfl ?_
            refine J_iload_n hC dX4_refusalReason_81 rfl rfl ?_
            refine J_iload hC dX4_refusalReason_82 rfl ?_
            refine iX4_175 hC hw rfl ⟨by decide, by decide⟩ ⟨by decide, by decide⟩ (Nat.le_of_ble_eq_true rfl) dX4_refusalReason_84 ?_
            refine c_X4_firstCrossedKite hw hO hI hk (by omega) (by omega) ?_
            dsimp only [Option.toList_some, Option.toList_none, List.cons_append, List.nil_append]
            rw [fc_inWay hI]
            refine J_iconst (v := -1) hC dX4_refusalReason_87 (by decide) ?_
            refine J_icmp_eq_z hC rfl iI_m1.symm (by omega) (by omega) (tgt := 94) dX4_refusalReason_88 rfl (fun b6 => ?_) (fun b6 => ?_)
            · refine J_aload_n hC dX4_refusalReason_94 rfl rfl ?_
              refine gX4_21 hC hw dX4_refusalReason_95 ?_
              refine gX4_92 hC hw dX4_refusalReason_98 ?_
              refine J_iload_n hC dX4_refusalReason_101 rfl rfl ?_
              refine J_iaload hC (hw.2.1 13 (by decide)) (kd_o hw.1) rfl (by omega) (by decide) dX4_refusalReason_102 ?_
              refine J_top (o_P hO hk) ?_
              refine J_aload_n hC dX4_refusalReason_103 rfl rfl ?_
              refine gX4_12 hC hw dX4_refusalReason_104 ?_
              refine gX4_178 hC hw dX4_refusalReason_107 ?_
              refine J_top (o_FEE hO hI) ?_
              refine J_iload_n hC dX4_refusalReason_110 rfl rfl ?_
              refine J_imul_n hC dX4_refusalReason_111 ?_
              refine J_icmp_ge hC (tgt := 120) dX4_refusalReason_112 rfl (fun b7 => ?_) (fun b7 => ?_)
              · refine J_iconst (v := nI 0) hC dX4_refusalReason_120 (by decide) ?_
                refine J_ireturn hC hR dX4_refusalReason_121 (by decide) (by decide) ?_
                unfold refuse at hq
                rw [if_neg (show ¬ s < nv A 7 by omega), if_neg (show ¬ nv A 11 = 30 by omega), if_neg f3, if_neg b4, if_neg f5, if_neg (show ¬ 0 ≤ inWay A k s d by omega), if_neg (show ¬ A (70 + 9 * k + 5) < nI (nv A 2 * d) by rw [Int32.lt_iff_toInt_lt]; rw [Int32.le_iff_toInt_le] at b7; omega)] at hq
                exact hq
              · refine J_bipush (v := nI 7) hC dX4_refusalReason_115 (by decide) ?_
                refine J_goto (tgt := 121) hC dX4_refusalReason_117 rfl ?_
                refine J_ireturn hC hR dX4_refusalReason_121 (by decide) (by decide) ?_
                unfold refuse at hq
                rw [if_neg (show ¬ s < nv A 7 by omega), if_neg (show ¬ nv A 11 = 30 by omega), if_neg f3, if_neg b4, if_neg f5, if_neg (show ¬ 0 ≤ inWay A k s d by omega), if_pos (show A (70 + 9 * k + 5) < nI (nv A 2 * d) by rw [Int32.lt_iff_toInt_lt]; rw [Int32.le_iff_toInt_le] at b7; omega)] at hq
                exact hq
            · refine J_bipush (v := nI 6) hC dX4_refusalReason_91 (by decide) ?_
              refine J_ireturn hC hR dX4_refusalReason_93 (by decide) (by decide) ?_
              unfold refuse at hq
              rw [if_neg (show ¬ s < nv A 7 by omega), if_neg (show ¬ nv A 11 = 30 by omega), if_neg f3, if_neg b4, if_neg f5, if_pos (show 0 ≤ inWay A k s d by omega)] at hq
              exact hq
          · dsimp only [Option.toList_some, Option.toList_none, List.cons_append, List.nil_append]
            have f5 : ∃ h, s ≤ h ∧ h < s + d ∧ ¬ fliesN A k h := by
              apply Classical.byContradiction
              intro z
              exact b5 (fun h z1 z2 => Classical.byContradiction (fun z3 => z ⟨h, z1, z2, z3⟩))
            refine J_if_ne_n hC (by decide) (tgt := 79) dX4_refusalReason_74 rfl (fun hf => absurd hf (by omega)) (fun _ => ?_)
            refine J_iconst (v := nI 5) hC dX4_refusalReason_77 (by decide) ?_
            refine J_ireturn hC hR dX4_refusalReason_78 (by decide) (by decide) ?_
            unfold refuse at hq
            rw [if_neg (show ¬ s < nv A 7 by omega), if_neg (show ¬ nv A 11 = 30 by omega), if_neg f3, if_neg b4, if_pos f5] at hq
            exact hq
    · refine J_iconst (v := nI 2) hC dX4_refusalReason_27 (by decide) ?_
      refine J_ireturn hC hR dX4_refusalReason_28 (by decide) (by decide) ?_
      unfold refuse at hq
      rw [if_neg (show ¬ s < nv A 7 by omega), if_pos (show nv A 11 = 30 by omega)] at hq
      exact hq
  · refine J_iconst (v := nI 1) hC dX4_refusalReason_13 (by decide) ?_
    refine J_ireturn hC hR dX4_refusalReason_14 (by decide) (by decide) ?_
    unfold refuse at hq
    rw [if_pos (show s < nv A 7 by omega)] at hq
    exact hq
