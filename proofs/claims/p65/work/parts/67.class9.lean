set_option maxHeartbeats 4000000 in
set_option maxRecDepth 100000 in
theorem c_X4_groundBecalmedKites {G : GC} {w : Lay} {σ : Mem} {Q : Lay → Option Value → Mem → Prop} {Qx : Lay → String → Mem → Prop} {o hm : Nat} {A : Rw} (hw : LO w o) (hO : OAt σ o A) (hI : RowOK hm A) (hh : nv A 7 < 2 ^ 30) (hq : ∀ σ', OAt σ' o (grA A (nv A 7) (nv A 6)) → FrO o σ σ' → Q w none σ') : MX4_groundBecalmedKites G w σ [.ref (w.2.1 o 0)] Q Qx := by
  refine mt_start (by decide) rfl (Nat.le_of_ble_eq_true rfl) (fun E hC hR hN => ?_)
  show J G E w 0 0 0 [some (.ref (w.2.1 o 0)), none] [] σ
  have h1 := r_NK hI
  have lp : ∀ (dd : Nat) (k : Nat) (σ1 : Mem), nv A 6 - k < dd → (k ≤ nv A 6) → (OAt σ1 o (grA A (nv A 7) k)) → (FrO o σ σ1) →  J G E w 0 0 2 [some (.ref (w.2.1 o 0)), some (.int (nI k))] [] σ1 := by
    intro dd
    induction dd with
    | zero =>
      intro k σ1 hdd
      exact absurd hdd (Nat.not_lt_zero _)
    | succ dd ih =>
      intro k σ1 hdd hk hO1 hF1
      refine J_iload_n hC dX4_groundBecalmedKites_2 rfl rfl ?_
      refine J_aload_n hC dX4_groundBecalmedKites_3 rfl rfl ?_
      refine gX4_21 hC hw dX4_groundBecalmedKites_4 ?_
      refine gX4_62 hC hw dX4_groundBecalmedKites_7 ?_
      refine J_top ((o_NK hO1 (RowOK_gr hI (by omega))).trans (by rw [nv_congr (grA_lo (by omega))])) ?_
      refine J_icmp_ge_n hC (by omega) (by omega) (tgt := 54) dX4_groundBecalmedKites_10 rfl (fun bk => ?_) (fun bk => ?_)
      · refine J_return hC hR dX4_groundBecalmedKites_54 (by decide) (by decide) ?_
        have e : k = nv A 6 := by omega
        subst e
        exact hq _ hO1 hF1
      · have g0 := RowOK_gr (H := nv A 7) (m := k) hI (by omega)
        have n6 : nv (grA A (nv A 7) k) 6 = nv A 6 := nv_congr (grA_lo (by omega))
        have ks := r_KS g0 (k := k) (by omega)
        have es : nv (grA A (nv A 7) k) (70 + 9 * k + 6) = nv A (70 + 9 * k + 6) := nv_congr (grA_lo (by omega))
        refine J_aload_n hC dX4_groundBecalmedKites_13 rfl rfl ?_
        refine gX4_21 hC hw dX4_groundBecalmedKites_14 ?_
        refine gX4_95 hC hw dX4_groundBecalmedKites_17 ?_
        refine J_iload_n hC dX4_groundBecalmedKites_20 rfl rfl ?_
        refine J_iaload hC (hw.2.1 14 (by decide)) (kd_o hw.1) rfl (by omega) (by decide) dX4_groundBecalmedKites_21 ?_
        refine J_top (o_S hO1 g0 (by omega)) ?_
        refine J_iconst (v := nI 1) hC dX4_groundBecalmedKites_22 (by decide) ?_
        refine J_icmp_ne_n hC (by omega) (by decide) (tgt := 48) dX4_groundBecalmedKites_23 rfl (fun b1 => ?_) (fun b1 => ?_)
        · rw [es] at b1
          have hz := grA_skip (A := A) (H := nv A 7) (m := k) (fun q => b1 q.1)
          refine J_iinc_n (m := 1) hC (by decide) dX4_groundBecalmedKites_48 rfl (Nat.le_of_ble_eq_true rfl) rfl ?_
          dsimp only [List.set]
          refine J_goto (tgt := 2) hC dX4_groundBecalmedKites_51 rfl ?_
          first
          | exact ih (k + 1) _ (by omega) (by omega) z (FrO_wr hF1 (by decide))
          | exact ih (k + 1) σ1 (by omega) (by omega) (by rw [hz]; exact hO1) hF1
        · rw [es] at b1
          refine J_aload_n hC dX4_groundBecalmedKites_26 rfl rfl ?_
          refine J_iload_n hC dX4_groundBecalmedKites_27 rfl rfl ?_
          refine J_aload_n hC dX4_groundBecalmedKites_28 rfl rfl ?_
          refine gX4_46 hC hw dX4_groundBecalmedKites_29 ?_
          refine J_top ((o_HOUR hO1 g0).trans (by rw [nv_congr (grA_lo (by omega))])) ?_
          refine iX4_187 hC hw rfl ⟨by decide, by decide⟩ ⟨by decide, by decide⟩ (Nat.le_of_ble_eq_true rfl) dX4_groundBecalmedKites_32 ?_
          refine c_X4_fliesAt hw hO1 g0 (by omega) (by omega) (fun b2 => ?_) (fun b2 => ?_)
          · dsimp only [Option.toList_some, Option.toList_none, List.cons_append, List.nil_append]
            rw [geo_fliesN hI (geo_gr _ _ _) bk] at b2
            have hz := grA_skip (A := A) (H := nv A 7) (m := k) (fun q => q.2 b2)
            refine J_if_ne_n hC (by decide) (tgt := 48) dX4_groundBecalmedKites_35 rfl (fun _ => ?_) (fun hf => absurd hf (by omega))
            refine J_iinc_n (m := 1) hC (by decide) dX4_groundBecalmedKites_48 rfl (Nat.le_of_ble_eq_true rfl) rfl ?_
            dsimp only [List.set]
            refine J_goto (tgt := 2) hC dX4_groundBecalmedKites_51 rfl ?_
            first
            | exact ih (k + 1) _ (by omega) (by omega) z (FrO_wr hF1 (by decide))
            | exact ih (k + 1) σ1 (by omega) (by omega) (by rw [hz]; exact hO1) hF1
          · dsimp only [Option.toList_some, Option.toList_none, List.cons_append, List.nil_append]
            rw [geo_fliesN hI (geo_gr _ _ _) bk] at b2
            refine J_if_ne_n hC (by decide) (tgt := 48) dX4_groundBecalmedKites_35 rfl (fun hf => absurd hf (by omega)) (fun _ => ?_)
            refine J_aload_n hC dX4_groundBecalmedKites_38 rfl rfl ?_
            refine gX4_21 hC hw dX4_groundBecalmedKites_39 ?_
            refine gX4_95 hC hw dX4_groundBecalmedKites_42 ?_
            refine J_iload_n hC dX4_groundBecalmedKites_45 rfl rfl ?_
            refine J_iconst (v := nI 0) hC dX4_groundBecalmedKites_46 (by decide) ?_
            refine J_iastore hC (hw.2.1 14 (by decide)) (kd_o hw.1) rfl (by omega) (by decide) dX4_groundBecalmedKites_47 ?_
            have z := OAt_k (c := 14) (r := 6) (v := nI 0) hO1 g0 (by omega) (show k < 16 by omega)
            rw [grA_hit b1 b2] at z
            refine J_iinc_n (m := 1) hC (by decide) dX4_groundBecalmedKites_48 rfl (Nat.le_of_ble_eq_true rfl) rfl ?_
            dsimp only [List.set]
            refine J_goto (tgt := 2) hC dX4_groundBecalmedKites_51 rfl ?_
            first
            | exact ih (k + 1) _ (by omega) (by omega) z (FrO_wr hF1 (by decide))
            | exact ih (k + 1) σ1 (by omega) (by omega) (by rw [hz]; exact hO1) hF1
  refine J_iconst (v := nI 0) hC dX4_groundBecalmedKites_0 (by decide) ?_
  refine J_istore_n hC dX4_groundBecalmedKites_1 rfl (Nat.le_of_ble_eq_true rfl) rfl ?_
  dsimp only [List.set]
  exact lp 17 0 σ (by omega) (by omega) (by rw [grA_0]; exact hO) FrO_refl
set_option maxHeartbeats 4000000 in
set_option maxRecDepth 100000 in
theorem c_X4_giveVerdict {G : GC} {w : Lay} {σ : Mem} {Q : Lay → Option Value → Mem → Prop} {Qx : Lay → String → Mem → Prop} {o hm : Nat} {A : Rw} (hw : LO w o) (hO : OAt σ o A) (hI : RowOK hm A) {k i : Nat} (hki : k < i) (hi : i < nv A 6) (hh : nv A 7 < 2 ^ 30) (hq : ∀ σ', OAt σ' o (verdA A k i) → rd σ' o 21 = upd (upd (rd σ o 21) k (nI 1)) i (nI 1) → FrX o σ σ' → Q w none σ') : MX4_giveVerdict G w σ [.ref (w.2.1 o 0), .int (nI k), .int (nI i)] Q Qx := by
  refine mt_start (by decide) rfl (Nat.le_of_ble_eq_true rfl) (fun E hC hR hN => ?_)
  show J G E w 0 0 0 [some (.ref (w.2.1 o 0)), some (.int (nI k)), some (.int (nI i)), none, none, none] [] σ
  have h1 := r_NK hI
  have hg0 := guiltN_or A k i
  have hg : guiltN A k i < nv A 6 := by omega
  refine J_aload_n hC dX4_giveVerdict_0 rfl rfl ?_
  refine J_iload_n hC dX4_giveVerdict_1 rfl rfl ?_
  refine J_iload_n hC dX4_giveVerdict_2 rfl rfl ?_
  refine iX4_231 hC hw rfl ⟨by decide, by decide⟩ ⟨by decide, by decide⟩ (Nat.le_of_ble_eq_true rfl) dX4_giveVerdict_3 ?_
  refine c_X4_guiltyOf hw hO hI (by omega) (by omega) hh ?_
  dsimp only [Option.toList_some, Option.toList_none, List.cons_append, List.nil_append]
  refine J_istore_n hC dX4_giveVerdict_6 rfl (Nat.le_of_ble_eq_true rfl) rfl ?_
  dsimp only [List.set]
  refine J_iload_n hC dX4_giveVerdict_7 rfl rfl ?_
  refine J_iload_n hC dX4_giveVerdict_8 rfl rfl ?_
  refine J_icmp_ne_n hC (by omega) (by omega) (tgt := 16) dX4_giveVerdict_9 rfl (fun b1 => ?_) (fun b1 => ?_)
  · refine J_iload_n hC dX4_giveVerdict_16 rfl rfl ?_
    refine J_istore hC dX4_giveVerdict_17 (Nat.le_of_ble_eq_true rfl) rfl ?_
    dsimp only [List.set]
    refine J_aload_n hC dX4_giveVerdict_19 rfl rfl ?_
    refine gX4_12 hC hw dX4_giveVerdict_20 ?_
    refine gX4_234 hC hw dX4_giveVerdict_23 ?_
    refine J_top hO.2.1.2.2.2.1 ?_
    refine J_aload_n hC dX4_giveVerdict_26 rfl rfl ?_
    refine gX4_21 hC hw dX4_giveVerdict_27 ?_
    refine gX4_92 hC hw dX4_giveVerdict_30 ?_
    refine J_iload_n hC dX4_giveVerdict_33 rfl rfl ?_
    refine J_iaload hC (hw.2.1 13 (by decide)) (kd_o hw.1) rfl (by omega) (by decide) dX4_giveVerdict_34 ?_
    refine J_top (o_P hO hg) ?_
    refine J_min hC rfl q2_203 (by decide) (Nat.le_of_ble_eq_true rfl) (by decide) (by decide) dX4_giveVerdict_35 ?_
    refine J_istore hC dX4_giveVerdict_38 (Nat.le_of_ble_eq_true rfl) rfl ?_
    dsimp only [List.set]
    refine J_aload_n hC dX4_giveVerdict_40 rfl rfl ?_
    refine gX4_21 hC hw dX4_giveVerdict_41 ?_
    refine gX4_92 hC hw dX4_giveVerdict_44 ?_
    refine J_iload_n hC dX4_giveVerdict_47 rfl rfl ?_
    refine J_dup2 hC dX4_giveVerdict_48 rfl rfl ?_
    refine J_iaload hC (hw.2.1 13 (by decide)) (kd_o hw.1) rfl (by omega) (by decide) dX4_giveVerdict_49 ?_
    refine J_top (o_P hO hg) ?_
    refine J_iload hC dX4_giveVerdict_50 rfl ?_
    refine J_isub hC dX4_giveVerdict_52 ?_
    refine J_iastore hC (hw.2.1 13 (by decide)) (kd_o hw.1) rfl (by omega) (by decide) dX4_giveVerdict_53 ?_
    refine J_aload_n hC dX4_giveVerdict_54 rfl rfl ?_
    refine gX4_21 hC hw dX4_giveVerdict_55 ?_
    refine gX4_92 hC hw dX4_giveVerdict_58 ?_
    refine J_iload hC dX4_giveVerdict_61 rfl ?_
    refine J_dup2 hC dX4_giveVerdict_63 rfl rfl ?_
    refine J_iaload hC (hw.2.1 13 (by decide)) (kd_o hw.1) rfl (by omega) (by decide) dX4_giveVerdict_64 ?_
    refine J_top ((rd_wr_j (by omega)).trans (o_P hO (by omega))) ?_
    refine J_iload hC dX4_giveVerdict_65 rfl ?_
    refine J_iadd hC dX4_giveVerdict_67 ?_
    refine J_iastore hC (hw.2.1 13 (by decide)) (kd_o hw.1) rfl (by omega) (by decide) dX4_giveVerdict_68 ?_
    refine J_aload_n hC dX4_giveVerdict_69 rfl rfl ?_
    refine gX4_21 hC hw dX4_giveVerdict_70 ?_
    refine gX4_101 hC hw dX4_giveVerdict_73 ?_
    refine J_iload_n hC dX4_giveVerdict_76 rfl rfl ?_
    refine J_dup2 hC dX4_giveVerdict_77 rfl rfl ?_
    refine J_iaload hC (hw.2.1 16 (by decide)) (kd_o hw.1) rfl (by omega) (by decide) dX4_giveVerdict_78 ?_
    refine J_top (((rd_wr_c (by decide)).trans (rd_wr_c (by decide))).trans (o_T hO (by omega))) ?_
    refine J_iconst (v := nI 1) hC dX4_giveVerdict_79 (by decide) ?_
    refine J_iadd hC dX4_giveVerdict_80 ?_
    refine J_iastore hC (hw.2.1 16 (by decide)) (kd_o hw.1) rfl (by omega) (by decide) dX4_giveVerdict_81 ?_
    refine J_aload_n hC dX4_giveVerdict_82 rfl rfl ?_
    refine gX4_21 hC hw dX4_giveVerdict_83 ?_
    refine gX4_101 hC hw dX4_giveVerdict_86 ?_
    refine J_iload_n hC dX4_giveVerdict_89 rfl rfl ?_
    refine J_dup2 hC dX4_giveVerdict_90 rfl rfl ?_
    refine J_iaload hC (hw.2.1 16 (by decide)) (kd_o hw.1) rfl (by omega) (by decide) dX4_giveVerdict_91 ?_
    refine J_top ((rd_wr_j (by omega)).trans (((rd_wr_c (by decide)).trans (rd_wr_c (by decide))).trans (o_T hO (by omega)))) ?_
    refine J_iconst (v := nI 1) hC dX4_giveVerdict_92 (by decide) ?_
    refine J_iadd hC dX4_giveVerdict_93 ?_
    refine J_iastore hC (hw.2.1 16 (by decide)) (kd_o hw.1) rfl (by omega) (by decide) dX4_giveVerdict_94 ?_
    refine J_aload_n hC dX4_giveVerdict_95 rfl rfl ?_
    refine gX4_32 hC hw dX4_giveVerdict_96 ?_
    refine J_iload_n hC dX4_giveVerdict_99 rfl rfl ?_
    refine J_iconst (v := nI 1) hC dX4_giveVerdict_100 (by decide) ?_
    refine J_zastore hC (hw.2.1 21 (by decide)) (kd_o hw.1) rfl (by omega) (by decide) (by decide) dX4_giveVerdict_101 ?_
    refine J_aload_n hC dX4_giveVerdict_102 rfl rfl ?_
    refine gX4_32 hC hw dX4_giveVerdict_103 ?_
    refine J_iload_n hC dX4_giveVerdict_106 rfl rfl ?_
    refine J_iconst (v := nI 1) hC dX4_giveVerdict_107 (by decide) ?_
    refine J_zastore hC (hw.2.1 21 (by decide)) (kd_o hw.1) rfl (by omega) (by decide) (by decide) dX4_giveVerdict_108 ?_
    refine J_return hC hR dX4_giveVerdict_109 (by decide) (by decide) ?_
    have i0 := RowOK_updq (x := A (70 + 9 * guiltN A k i + 5) - imin (A 3) (A (70 + 9 * guiltN A k i + 5))) hI (quiet_kite (k := guiltN A k i) (r := 5) (by omega) (by omega))
    have z1 := OAt_k (c := 13) (r := 5) (v := A (70 + 9 * guiltN A k i + 5) - imin (A 3) (A (70 + 9 * guiltN A k i + 5))) hO hI (by omega) (show guiltN A k i < 16 by omega)
    have i1 := RowOK_updq (x := A (70 + 9 * k + 5) + imin (A 3) (A (70 + 9 * guiltN A k i + 5))) i0 (quiet_kite (k := k) (r := 5) (by omega) (by omega))
    have z2 := OAt_k (c := 13) (r := 5) (v := A (70 + 9 * k + 5) + imin (A 3) (A (70 + 9 * guiltN A k i + 5))) z1 i0 (by omega) (show k < 16 by omega)
    have i2 := RowOK_updq (x := A (70 + 9 * k + 7) + nI 1) i1 (quiet_kite (k := k) (r := 7) (by omega) (by omega))
    have z3 := OAt_k (c := 16) (r := 7) (v := A (70 + 9 * k + 7) + nI 1) z2 i1 (by omega) (show k < 16 by omega)
    have i3 := RowOK_updq (x := A (70 + 9 * i + 7) + nI 1) i2 (quiet_kite (k := i) (r := 7) (by omega) (by omega))
    have z4 := OAt_k (c := 16) (r := 7) (v := A (70 + 9 * i + 7) + nI 1) z3 i2 (by omega) (show i < 16 by omega)
    rw [← verdA_eq (e := k) (by rw [if_neg b1])] at z4 i3
    refine hq _ (OAt_21 (OAt_21 z4 i3) i3) ?_ (FrX_wr (FrX_wr (FrX_wr (FrX_wr (FrX_wr (FrX_wr FrX_refl))))))
    rw [rd_wr_upd, rd_wr_upd, rd_wr_cell (by omega), rd_wr_cell (by omega), rd_wr_cell (by omega), rd_wr_cell (by omega)]
  · refine J_iload_n hC dX4_giveVerdict_12 rfl rfl ?_
    refine J_goto (tgt := 17) hC dX4_giveVerdict_13 rfl ?_
    refine J_istore hC dX4_giveVerdict_17 (Nat.le_of_ble_eq_true rfl) rfl ?_
    dsimp only [List.set]
    refine J_aload_n hC dX4_giveVerdict_19 rfl rfl ?_
    refine gX4_12 hC hw dX4_giveVerdict_20 ?_
    refine gX4_234 hC hw dX4_giveVerdict_23 ?_
    refine J_top hO.2.1.2.2.2.1 ?_
    refine J_aload_n hC dX4_giveVerdict_26 rfl rfl ?_
    refine gX4_21 hC hw dX4_giveVerdict_27 ?_
    refine gX4_92 hC hw dX4_giveVerdict_30 ?_
    refine J_iload_n hC dX4_giveVerdict_33 rfl rfl ?_
    refine J_iaload hC (hw.2.1 13 (by decide)) (kd_o hw.1) rfl (by omega) (by decide) dX4_giveVerdict_34 ?_
    refine J_top (o_P hO hg) ?_
    refine J_min hC rfl q2_203 (by decide) (Nat.le_of_ble_eq_true rfl) (by decide) (by decide) dX4_giveVerdict_35 ?_
    refine J_istore hC dX4_giveVerdict_38 (Nat.le_of_ble_eq_true rfl) rfl ?_
    dsimp only [List.set]
    refine J_aload_n hC dX4_giveVerdict_40 rfl rfl ?_
    refine gX4_21 hC hw dX4_giveVerdict_41 ?_
    refine gX4_92 hC hw dX4_giveVerdict_44 ?_
    refine J_iload_n hC dX4_giveVerdict_47 rfl rfl ?_
    refine J_dup2 hC dX4_giveVerdict_48 rfl rfl ?_
    refine J_iaload hC (hw.2.1 13 (by decide)) (kd_o hw.1) rfl (by omega) (by decide) dX4_giveVerdict_49 ?_
    refine J_top (o_P hO hg) ?_
    refine J_iload hC dX4_giveVerdict_50 rfl ?_
    refine J_isub hC dX4_giveVerdict_52 ?_
    refine J_iastore hC (hw.2.1 13 (by decide)) (kd_o hw.1) rfl (by omega) (by decide) dX4_giveVerdict_53 ?_
    refine J_aload_n hC dX4_giveVerdict_54 rfl rfl ?_
    refine gX4_21 hC hw dX4_giveVerdict_55 ?_
    refine gX4_92 hC hw dX4_giveVerdict_58 ?_
    refine J_iload hC dX4_giveVerdict_61 rfl ?_
    refine J_dup2 hC dX4_giveVerdict_63 rfl rfl ?_
    refine J_iaload hC (hw.2.1 13 (by decide)) (kd_o hw.1) rfl (by omega) (by decide) dX4_giveVerdict_64 ?_
    refine J_top ((rd_wr_j (by omega)).trans (o_P hO (by omega))) ?_
    refine J_iload hC dX4_giveVerdict_65 rfl ?_
    refine J_iadd hC dX4_giveVerdict_67 ?_
    refine J_iastore hC (hw.2.1 13 (by decide)) (kd_o hw.1) rfl (by omega) (by decide) dX4_giveVerdict_68 ?_
    refine J_aload_n hC dX4_giveVerdict_69 rfl rfl ?_
    refine gX4_21 hC hw dX4_giveVerdict_70 ?_
    refine gX4_101 hC hw dX4_giveVerdict_73 ?_
    refine J_iload_n hC dX4_giveVerdict_76 rfl rfl ?_
    refine J_dup2 hC dX4_giveVerdict_77 rfl rfl ?_
    refine J_iaload hC (hw.2.1 16 (by decide)) (kd_o hw.1) rfl (by omega) (by decide) dX4_giveVerdict_78 ?_
    refine J_top (((rd_wr_c (by decide)).trans (rd_wr_c (by decide))).trans (o_T hO (by omega))) ?_
    refine J_iconst (v := nI 1) hC dX4_giveVerdict_79 (by decide) ?_
    refine J_iadd hC dX4_giveVerdict_80 ?_
    refine J_iastore hC (hw.2.1 16 (by decide)) (kd_o hw.1) rfl (by omega) (by decide) dX4_giveVerdict_81 ?_
    refine J_aload_n hC dX4_giveVerdict_82 rfl rfl ?_
    refine gX4_21 hC hw dX4_giveVerdict_83 ?_
    refine gX4_101 hC hw dX4_giveVerdict_86 ?_
    refine J_iload_n hC dX4_giveVerdict_89 rfl rfl ?_
    refine J_dup2 hC dX4_giveVerdict_90 rfl rfl ?_
    refine J_iaload hC (hw.2.1 16 (by decide)) (kd_o hw.1) rfl (by omega) (by decide) dX4_giveVerdict_91 ?_
    refine J_top ((rd_wr_j (by omega)).trans (((rd_wr_c (by decide)).trans (rd_wr_c (by decide))).trans (o_T hO (by omega)))) ?_
    refine J_iconst (v := nI 1) hC dX4_giveVerdict_92 (by decide) ?_
    refine J_iadd hC dX4_giveVerdict_93 ?_
    refine J_iastore hC (hw.2.1 16 (by decide)) (kd_o hw.1) rfl (by omega) (by decide) dX4_giveVerdict_94 ?_
    refine J_aload_n hC dX4_giveVerdict_95 rfl rfl ?_
    refine gX4_32 hC hw dX4_giveVerdict_96 ?_
    refine J_iload_n hC dX4_giveVerdict_99 rfl rfl ?_
    refine J_iconst (v := nI 1) hC dX4_giveVerdict_100 (by decide) ?_
    refine J_zastore hC (hw.2.1 21 (by decide)) (kd_o hw.1) rfl (by omega) (by decide) (by decide) dX4_giveVerdict_101 ?_
    refine J_aload_n hC dX4_giveVerdict_102 rfl rfl ?_
    refine gX4_32 hC hw dX4_giveVerdict_103 ?_
    refine J_iload_n hC dX4_giveVerdict_106 rfl rfl ?_
    refine J_iconst (v := nI 1) hC dX4_giveVerdict_107 (by decide) ?_
    refine J_zastore hC (hw.2.1 21 (by decide)) (kd_o hw.1) rfl (by omega) (by decide) (by decide) dX4_giveVerdict_108 ?_
    refine J_return hC hR dX4_giveVerdict_109 (by decide) (by decide) ?_
    have i0 := RowOK_updq (x := A (70 + 9 * guiltN A k i + 5) - imin (A 3) (A (70 + 9 * guiltN A k i + 5))) hI (quiet_kite (k := guiltN A k i) (r := 5) (by omega) (by omega))
    have z1 := OAt_k (c := 13) (r := 5) (v := A (70 + 9 * guiltN A k i + 5) - imin (A 3) (A (70 + 9 * guiltN A k i + 5))) hO hI (by omega) (show guiltN A k i < 16 by omega)
    have i1 := RowOK_updq (x := A (70 + 9 * i + 5) + imin (A 3) (A (70 + 9 * guiltN A k i + 5))) i0 (quiet_kite (k := i) (r := 5) (by omega) (by omega))
    have z2 := OAt_k (c := 13) (r := 5) (v := A (70 + 9 * i + 5) + imin (A 3) (A (70 + 9 * guiltN A k i + 5))) z1 i0 (by omega) (show i < 16 by omega)
    have i2 := RowOK_updq (x := A (70 + 9 * k + 7) + nI 1) i1 (quiet_kite (k := k) (r := 7) (by omega) (by omega))
    have z3 := OAt_k (c := 16) (r := 7) (v := A (70 + 9 * k + 7) + nI 1) z2 i1 (by omega) (show k < 16 by omega)
    have i3 := RowOK_updq (x := A (70 + 9 * i + 7) + nI 1) i2 (quiet_kite (k := i) (r := 7) (by omega) (by omega))
    have z4 := OAt_k (c := 16) (r := 7) (v := A (70 + 9 * i + 7) + nI 1) z3 i2 (by omega) (show i < 16 by omega)
    rw [← verdA_eq (e := i) (by rw [if_pos b1])] at z4 i3
    refine hq _ (OAt_21 (OAt_21 z4 i3) i3) ?_ (FrX_wr (FrX_wr (FrX_wr (FrX_wr (FrX_wr (FrX_wr FrX_refl))))))
    rw [rd_wr_upd, rd_wr_upd, rd_wr_cell (by omega), rd_wr_cell (by omega), rd_wr_cell (by omega), rd_wr_cell (by omega)]
set_option maxHeartbeats 4000000 in
set_option maxRecDepth 100000 in
theorem c_X4_judgeCrossings {G : GC} {w : Lay} {σ : Mem} {Q : Lay → Option Value → Mem → Prop} {Qx : Lay → String → Mem → Prop} {o hm : Nat} {A : Rw} (hw : LO w o) (hO : OAt σ o A) (hI : RowOK hm A) (hh : nv A 7 < 2 ^ 30) (hq : ∀ σ', OAt σ' o (jrun (nv A 6) (nv A 7) 1000 0 1 (A, rd σ o 21, 0)).1 → rd σ' o 21 = (jrun (nv A 6) (nv A 7) 1000 0 1 (A, rd σ o 21, 0)).2.1 → FrX o σ σ' → Q w (some (.int (nI (jrun (nv A 6) (nv A 7) 1000 0 1 (A, rd σ o 21, 0)).2.2))) σ') : MX4_judgeCrossings G w σ [.ref (w.2.1 o 0)] Q Qx := by
  refine mt_start (by decide) rfl (Nat.le_of_ble_eq_true rfl) (fun E hC hR hN => ?_)
  show J G E w 0 0 0 [some (.ref (w.2.1 o 0)), none, none, none, none] [] σ
  have h1 := r_NK hI
  have lp : ∀ (dd : Nat) (k i : Nat) (S : JS) (σ1 : Mem), (16 - k) * 20 + (nv A 6 + 1 - i) < dd → (k < nv A 6) → (k + 1 ≤ i) → (i ≤ nv A 6) → (OAt σ1 o S.1) → (judI hm A S) → (rd σ1 o 21 = S.2.1) → (FrX o σ σ1) → (jrun (nv A 6) (nv A 7) dd k i S = jrun (nv A 6) (nv A 7) 1000 0 1 (A, rd σ o 21, 0)) →  J G E w 0 0 19 [some (.ref (w.2.1 o 0)), some (.int (nI S.2.2)), some (.int (nI k)), some (.int (nI i)), none] [] σ1 := by
    intro dd
    induction dd with
    | zero =>
      intro k i S σ1 hdd
      exact absurd hdd (Nat.not_lt_zero _)
    | succ dd ih =>
      intro k i S σ1 hdd hk0 hki hi0 hO1 hS hK1 hX1 hF
      have nS6 : nv S.1 6 = nv A 6 := nv_congr (hS.2 6 (by omega))
      have nS7 : nv S.1 7 = nv A 7 := nv_congr (hS.2 7 (by omega))
      refine J_iload_n hC dX4_judgeCrossings_19 rfl rfl ?_
      refine J_aload_n hC dX4_judgeCrossings_20 rfl rfl ?_
      refine gX4_21 hC hw dX4_judgeCrossings_21 ?_
      refine gX4_62 hC hw dX4_judgeCrossings_24 ?_
      refine J_top ((o_NK hO1 hS.1).trans (by rw [nS6])) ?_
      refine J_icmp_ge_n hC (by omega) (by omega) (tgt := 96) dX4_judgeCrossings_27 rfl (fun hb => ?_) (fun hb => ?_)
      · rw [jrun_next hk0 (by omega)] at hF
        refine J_iinc_n (m := 1) hC (by decide) dX4_judgeCrossings_96 rfl (Nat.le_of_ble_eq_true rfl) rfl ?_
        dsimp only [List.set]
        refine J_goto (tgt := 4) hC dX4_judgeCrossings_99 rfl ?_
        refine J_iload_n hC dX4_judgeCrossings_4 rfl rfl ?_
        refine J_aload_n hC dX4_judgeCrossings_5 rfl rfl ?_
        refine gX4_21 hC hw dX4_judgeCrossings_6 ?_
        refine gX4_62 hC hw dX4_judgeCrossings_9 ?_
        refine J_top ((o_NK hO1 hS.1).trans (by rw [nS6])) ?_
        refine J_icmp_ge_n hC (by omega) (by omega) (tgt := 102) dX4_judgeCrossings_12 rfl (fun hk1 => ?_) (fun hk1 => ?_)
        · rw [jrun_done (by omega)] at hF
          refine J_iload_n hC dX4_judgeCrossings_102 rfl rfl ?_
          refine J_ireturn hC hR dX4_judgeCrossings_103 (by decide) (by decide) ?_
          subst hF
          exact hq _ hO1 hK1 hX1
        · refine J_iload_n hC dX4_judgeCrossings_15 rfl rfl ?_
          refine J_iconst (v := nI 1) hC dX4_judgeCrossings_16 (by decide) ?_
          refine J_iadd_n hC dX4_judgeCrossings_17 ?_
          refine J_istore_n hC dX4_judgeCrossings_18 rfl (Nat.le_of_ble_eq_true rfl) rfl ?_
          dsimp only [List.set]
          first
          | (refine J_less (ls' := [some (.ref (w.2.1 o 0)), some (.int (nI S.2.2)), some (.int (nI (k + 1))), some (.int (nI (k + 2))), none]) ⟨Or.inr rfl, Or.inr rfl, Or.inr rfl, Or.inr rfl, Or.inl rfl, trivial⟩ ?_
             exact ih (k + 1) (k + 2) S σ1 (by omega) (by omega) (by omega) (by omega) hO1 hS hK1 hX1 hF)
          | (refine J_less (ls' := [some (.ref (w.2.1 o 0)), some (.int (nI (S.2.2 + 1))), some (.int (nI k)), some (.int (nI (i + 1))), none]) ⟨Or.inr rfl, Or.inr rfl, Or.inr rfl, Or.inr rfl, Or.inl rfl, trivial⟩ ?_
             exact ih k (i + 1) (verdA S.1 k i, upd (upd S.2.1 k (nI 1)) i (nI 1), S.2.2 + 1) σ2 (by omega) hk0 (by omega) (by omega) hO2 hS9 (by rw [hK2, hK1]) (FrX_trans hX1 hF2) hF)
          | (refine J_less (ls' := [some (.ref (w.2.1 o 0)), some (.int (nI S.2.2)), some (.int (nI k)), some (.int (nI (i + 1))), none]) ⟨Or.inr rfl, Or.inr rfl, Or.inr rfl, Or.inr rfl, Or.inl rfl, trivial⟩ ?_
             exact ih k (i + 1) S σ1 (by omega) hk0 (by omega) (by omega) hO1 hS hK1 hX1 hF)
      · have g1 := r_KS hS.1 (k := k) (by omega)
        have g2 := r_KS hS.1 (k := i) (by omega)
        refine J_aload_n hC dX4_judgeCrossings_30 rfl rfl ?_
        refine gX4_21 hC hw dX4_judgeCrossings_31 ?_
        refine gX4_95 hC hw dX4_judgeCrossings_34 ?_
        refine J_iload_n hC dX4_judgeCrossings_37 rfl rfl ?_
        refine J_iaload hC (hw.2.1 14 (by decide)) (kd_o hw.1) rfl (by omega) (by decide) dX4_judgeCrossings_38 ?_
        refine J_top (o_S hO1 hS.1 (by omega)) ?_
        refine J_iconst (v := nI 1) hC dX4_judgeCrossings_39 (by decide) ?_
        refine J_icmp_ne_n hC (by omega) (by decide) (tgt := 60) dX4_judgeCrossings_40 rfl (fun c1 => ?_) (fun c1 => ?_)
        · rw [jrun_step hk0 hb, jstep_skip (fun q => c1 q.1)] at hF
          refine J_iconst (v := nI 0) hC dX4_judgeCrossings_60 (by decide) ?_
          refine J_istore hC dX4_judgeCrossings_61 (Nat.le_of_ble_eq_true rfl) rfl ?_
          dsimp only [List.set]
          refine J_iload hC dX4_judgeCrossings_63 rfl ?_
          refine J_if_eq_n hC (by decide) (tgt := 90) dX4_judgeCrossings_65 rfl (fun _ => ?_) (fun hf => absurd hf (by omega))
          refine J_iinc_n (m := 1) hC (by decide) dX4_judgeCrossings_90 rfl (Nat.le_of_ble_eq_true rfl) rfl ?_
          dsimp only [List.set]
          refine J_goto (tgt := 19) hC dX4_judgeCrossings_93 rfl ?_
          first
          | (refine J_less (ls' := [some (.ref (w.2.1 o 0)), some (.int (nI S.2.2)), some (.int (nI (k + 1))), some (.int (nI (k + 2))), none]) ⟨Or.inr rfl, Or.inr rfl, Or.inr rfl, Or.inr rfl, Or.inl rfl, trivial⟩ ?_
             exact ih (k + 1) (k + 2) S σ1 (by omega) (by omega) (by omega) (by omega) hO1 hS hK1 hX1 hF)
          | (refine J_less (ls' := [some (.ref (w.2.1 o 0)), some (.int (nI (S.2.2 + 1))), some (.int (nI k)), some (.int (nI (i + 1))), none]) ⟨Or.inr rfl, Or.inr rfl, Or.inr rfl, Or.inr rfl, Or.inl rfl, trivial⟩ ?_
             exact ih k (i + 1) (verdA S.1 k i, upd (upd S.2.1 k (nI 1)) i (nI 1), S.2.2 + 1) σ2 (by omega) hk0 (by omega) (by omega) hO2 hS9 (by rw [hK2, hK1]) (FrX_trans hX1 hF2) hF)
          | (refine J_less (ls' := [some (.ref (w.2.1 o 0)), some (.int (nI S.2.2)), some (.int (nI k)), some (.int (nI (i + 1))), none]) ⟨Or.inr rfl, Or.inr rfl, Or.inr rfl, Or.inr rfl, Or.inl rfl, trivial⟩ ?_
             exact ih k (i + 1) S σ1 (by omega) hk0 (by omega) (by omega) hO1 hS hK1 hX1 hF)
        · refine J_aload_n hC dX4_judgeCrossings_43 rfl rfl ?_
          refine gX4_21 hC hw dX4_judgeCrossings_44 ?_
          refine gX4_95 hC hw dX4_judgeCrossings_47 ?_
          refine J_iload_n hC dX4_judgeCrossings_50 rfl rfl ?_
          refine J_iaload hC (hw.2.1 14 (by decide)) (kd_o hw.1) rfl (by omega) (by decide) dX4_judgeCrossings_51 ?_
          refine J_top (o_S hO1 hS.1 (by omega)) ?_
          refine J_iconst (v := nI 1) hC dX4_judgeCrossings_52 (by decide) ?_
          refine J_icmp_ne_n hC (by omega) (by decide) (tgt := 60) dX4_judgeCrossings_53 rfl (fun c2 => ?_) (fun c2 => ?_)
          · rw [jrun_step hk0 hb, jstep_skip (fun q => c2 q.2.1)] at hF
            refine J_iconst (v := nI 0) hC dX4_judgeCrossings_60 (by decide) ?_
            refine J_istore hC dX4_judgeCrossings_61 (Nat.le_of_ble_eq_true rfl) rfl ?_
            dsimp only [List.set]
            refine J_iload hC dX4_judgeCrossings_63 rfl ?_
            refine J_if_eq_n hC (by decide) (tgt := 90) dX4_judgeCrossings_65 rfl (fun _ => ?_) (fun hf => absurd hf (by omega))
            refine J_iinc_n (m := 1) hC (by decide) dX4_judgeCrossings_90 rfl (Nat.le_of_ble_eq_true rfl) rfl ?_
            dsimp only [List.set]
            refine J_goto (tgt := 19) hC dX4_judgeCrossings_93 rfl ?_
            first
            | (refine J_less (ls' := [some (.ref (w.2.1 o 0)), some (.int (nI S.2.2)), some (.int (nI (k + 1))), some (.int (nI (k + 2))), none]) ⟨Or.inr rfl, Or.inr rfl, Or.inr rfl, Or.inr rfl, Or.inl rfl, trivial⟩ ?_
               exact ih (k + 1) (k + 2) S σ1 (by omega) (by omega) (by omega) (by omega) hO1 hS hK1 hX1 hF)
            | (refine J_less (ls' := [some (.ref (w.2.1 o 0)), some (.int (nI (S.2.2 + 1))), some (.int (nI k)), some (.int (nI (i + 1))), none]) ⟨Or.inr rfl, Or.inr rfl, Or.inr rfl, Or.inr rfl, Or.inl rfl, trivial⟩ ?_
               exact ih k (i + 1) (verdA S.1 k i, upd (upd S.2.1 k (nI 1)) i (nI 1), S.2.2 + 1) σ2 (by omega) hk0 (by omega) (by omega) hO2 hS9 (by rw [hK2, hK1]) (FrX_trans hX1 hF2) hF)
            | (refine J_less (ls' := [some (.ref (w.2.1 o 0)), some (.int (nI S.2.2)), some (.int (nI k)), some (.int (nI (i + 1))), none]) ⟨Or.inr rfl, Or.inr rfl, Or.inr rfl, Or.inr rfl, Or.inl rfl, trivial⟩ ?_
               exact ih k (i + 1) S σ1 (by omega) hk0 (by omega) (by omega) hO1 hS hK1 hX1 hF)
          · refine J_iconst (v := nI 1) hC dX4_judgeCrossings_56 (by decide) ?_
            refine J_goto (tgt := 61) hC dX4_judgeCrossings_57 rfl ?_
            refine J_istore hC dX4_judgeCrossings_61 (Nat.le_of_ble_eq_true rfl) rfl ?_
            dsimp only [List.set]
            refine J_iload hC dX4_judgeCrossings_63 rfl ?_
            refine J_if_eq_n hC (by decide) (tgt := 90) dX4_judgeCrossings_65 rfl (fun hf => absurd hf (by omega)) (fun _ => ?_)
            refine J_aload_n hC dX4_judgeCrossings_68 rfl rfl ?_
            refine J_iload_n hC dX4_judgeCrossings_69 rfl rfl ?_
            refine J_iload_n hC dX4_judgeCrossings_70 rfl rfl ?_
            refine J_aload_n hC dX4_judgeCrossings_71 rfl rfl ?_
            refine gX4_46 hC hw dX4_judgeCrossings_72 ?_
            refine J_top ((o_HOUR hO1 hS.1).trans (by rw [nS7])) ?_
            refine iX4_200 hC hw rfl ⟨by decide, by decide⟩ ⟨by decide, by decide⟩ (Nat.le_of_ble_eq_true rfl) dX4_judgeCrossings_75 ?_
            refine c_X4_stringsCross hw hO1 hS.1 (by omega) (by omega) (by omega) (fun c3 => ?_) (fun c3 => ?_)
            · dsimp only [Option.toList_some, Option.toList_none, List.cons_append, List.nil_append]
              have hS9 := judI_step (H := nv A 7) (k := k) (i := i) (by omega) (by omega) hS
              rw [jrun_step hk0 hb, jstep_hit ⟨c1, c2, c3⟩] at hF
              rw [jstep_hit ⟨c1, c2, c3⟩] at hS9
              refine J_if_eq_n hC (by decide) (tgt := 90) dX4_judgeCrossings_78 rfl (fun hf => absurd hf (by omega)) (fun _ => ?_)
              refine J_aload_n hC dX4_judgeCrossings_81 rfl rfl ?_
              refine J_iload_n hC dX4_judgeCrossings_82 rfl rfl ?_
              refine J_iload_n hC dX4_judgeCrossings_83 rfl rfl ?_
              refine iX4_228 hC hw rfl ⟨by decide, by decide⟩ ⟨by decide, by decide⟩ (Nat.le_of_ble_eq_true rfl) dX4_judgeCrossings_84 ?_
              refine c_X4_giveVerdict hw hO1 hS.1 (by omega) (by omega) (by omega) (fun σ2 hO2 hK2 hF2 => ?_)
              dsimp only [Option.toList_some, Option.toList_none, List.cons_append, List.nil_append]
              refine J_iinc_n (m := 1) hC (by decide) dX4_judgeCrossings_87 rfl (Nat.le_of_ble_eq_true rfl) rfl ?_
              dsimp only [List.set]
              refine J_iinc_n (m := 1) hC (by decide) dX4_judgeCrossings_90 rfl (Nat.le_of_ble_eq_true rfl) rfl ?_
              dsimp only [List.set]
              refine J_goto (tgt := 19) hC dX4_judgeCrossings_93 rfl ?_
              first
              | (refine J_less (ls' := [some (.ref (w.2.1 o 0)), some (.int (nI S.2.2)), some (.int (nI (k + 1))), some (.int (nI (k + 2))), none]) ⟨Or.inr rfl, Or.inr rfl, Or.inr rfl, Or.inr rfl, Or.inl rfl, trivial⟩ ?_
                 exact ih (k + 1) (k + 2) S σ1 (by omega) (by omega) (by omega) (by omega) hO1 hS hK1 hX1 hF)
              | (refine J_less (ls' := [some (.ref (w.2.1 o 0)), some (.int (nI (S.2.2 + 1))), some (.int (nI k)), some (.int (nI (i + 1))), none]) ⟨Or.inr rfl, Or.inr rfl, Or.inr rfl, Or.inr rfl, Or.inl rfl, trivial⟩ ?_
                 exact ih k (i + 1) (verdA S.1 k i, upd (upd S.2.1 k (nI 1)) i (nI 1), S.2.2 + 1) σ2 (by omega) hk0 (by omega) (by omega) hO2 hS9 (by rw [hK2, hK1]) (FrX_trans hX1 hF2) hF)
              | (refine J_less (ls' := [some (.ref (w.2.1 o 0)), some (.int (nI S.2.2)), some (.int (nI k)), some (.int (nI (i + 1))), none]) ⟨Or.inr rfl, Or.inr rfl, Or.inr rfl, Or.inr rfl, Or.inl rfl, trivial⟩ ?_
                 exact ih k (i + 1) S σ1 (by omega) hk0 (by omega) (by omega) hO1 hS hK1 hX1 hF)
            · dsimp only [Option.toList_some, Option.toList_none, List.cons_append, List.nil_append]
              rw [jrun_step hk0 hb, jstep_skip (fun q => c3 q.2.2)] at hF
              refine J_if_eq_n hC (by decide) (tgt := 90) dX4_judgeCrossings_78 rfl (fun _ => ?_) (fun hf => absurd hf (by omega))
              refine J_iinc_n (m := 1) hC (by decide) dX4_judgeCrossings_90 rfl (Nat.le_of_ble_eq_true rfl) rfl ?_
              dsimp only [List.set]
              refine J_goto (tgt := 19) hC dX4_judgeCrossings_93 rfl ?_
              first
              | (refine J_less (ls' := [some (.ref (w.2.1 o 0)), some (.int (nI S.2.2)), some (.int (nI (k + 1))), some (.int (nI (k + 2))), none]) ⟨Or.inr rfl, Or.inr rfl, Or.inr rfl, Or.inr rfl, Or.inl rfl, trivial⟩ ?_
                 exact ih (k + 1) (k + 2) S σ1 (by omega) (by omega) (by omega) (by omega) hO1 hS hK1 hX1 hF)
              | (refine J_less (ls' := [some (.ref (w.2.1 o 0)), some (.int (nI (S.2.2 + 1))), some (.int (nI k)), some (.int (nI (i + 1))), none]) ⟨Or.inr rfl, Or.inr rfl, Or.inr rfl, Or.inr rfl, Or.inl rfl, trivial⟩ ?_
                 exact ih k (i + 1) (verdA S.1 k i, upd (upd S.2.1 k (nI 1)) i (nI 1), S.2.2 + 1) σ2 (by omega) hk0 (by omega) (by omega) hO2 hS9 (by rw [hK2, hK1]) (FrX_trans hX1 hF2) hF)
              | (refine J_less (ls' := [some (.ref (w.2.1 o 0)), some (.int (nI S.2.2)), some (.int (nI k)), some (.int (nI (i + 1))), none]) ⟨Or.inr rfl, Or.inr rfl, Or.inr rfl, Or.inr rfl, Or.inl rfl, trivial⟩ ?_
                 exact ih k (i + 1) S σ1 (by omega) hk0 (by omega) (by omega) hO1 hS hK1 hX1 hF)
  refine J_iconst (v := nI 0) hC dX4_judgeCrossings_0 (by decide) ?_
  refine J_istore_n hC dX4_judgeCrossings_1 rfl (Nat.le_of_ble_eq_true rfl) rfl ?_
  dsimp only [List.set]
  refine J_iconst (v := nI 0) hC dX4_judgeCrossings_2 (by decide) ?_
  refine J_istore_n hC dX4_judgeCrossings_3 rfl (Nat.le_of_ble_eq_true rfl) rfl ?_
  dsimp only [List.set]
  refine J_iload_n hC dX4_judgeCrossings_4 rfl rfl ?_
  refine J_aload_n hC dX4_judgeCrossings_5 rfl rfl ?_
  refine gX4_21 hC hw dX4_judgeCrossings_6 ?_
  refine gX4_62 hC hw dX4_judgeCrossings_9 ?_
  refine J_top (o_NK hO hI) ?_
  refine J_icmp_ge_n hC (by decide) (by omega) (tgt := 102) dX4_judgeCrossings_12 rfl (fun hk1 => ?_) (fun hk1 => ?_)
  · refine J_iload_n hC dX4_judgeCrossings_102 rfl rfl ?_
    refine J_ireturn hC hR dX4_judgeCrossings_103 (by decide) (by decide) ?_
    rw [jrun_done (S := (A, rd σ o 21, 0)) (by omega)] at hq
    exact hq _ hO rfl FrX_refl
  · refine J_iload_n hC dX4_judgeCrossings_15 rfl rfl ?_
    refine J_iconst (v := nI 1) hC dX4_judgeCrossings_16 (by decide) ?_
    refine J_iadd_n hC dX4_judgeCrossings_17 ?_
    refine J_istore_n hC dX4_judgeCrossings_18 rfl (Nat.le_of_ble_eq_true rfl) rfl ?_
    dsimp only [List.set]
    exact lp 1000 0 1 (A, rd σ o 21, 0) σ (by omega) (by omega) (by omega) (by omega) hO ⟨hI, fun _ _ => rfl⟩ rfl FrX_refl rfl
set_option maxHeartbeats 4000000 in
set_option maxRecDepth 100000 in
theorem c_X4_tangleCaughtKites {G : GC} {w : Lay} {σ : Mem} {Q : Lay → Option Value → Mem → Prop} {Qx : Lay → String → Mem → Prop} {o hm : Nat} {A : Rw} (hw : LO w o) (hO : OAt σ o A) (hI : RowOK hm A)  (hq : ∀ σ', OAt σ' o (tgA A (rd σ o 21) (nv A 6)) → (∀ j, rd σ' o 21 j = if j < nv A 6 then 0 else rd σ o 21 j) → FrX o σ σ' → Q w none σ') : MX4_tangleCaughtKites G w σ [.ref (w.2.1 o 0)] Q Qx := by
  refine mt_start (by decide) rfl (Nat.le_of_ble_eq_true rfl) (fun E hC hR hN => ?_)
  show J G E w 0 0 0 [some (.ref (w.2.1 o 0)), none] [] σ
  have h1 := r_NK hI
  have lp : ∀ (dd : Nat) (k : Nat) (σ1 : Mem), nv A 6 - k < dd → (k ≤ nv A 6) → (OAt σ1 o (tgA A (rd σ o 21) k)) → (∀ j, rd σ1 o 21 j = if j < k then 0 else rd σ o 21 j) → (FrX o σ σ1) →  J G E w 0 0 2 [some (.ref (w.2.1 o 0)), some (.int (nI k))] [] σ1 := by
    intro dd
    induction dd with
    | zero =>
      intro k σ1 hdd
      exact absurd hdd (Nat.not_lt_zero _)
    | succ dd ih =>
      intro k σ1 hdd hk hO1 hK1 hX1
      refine J_iload_n hC dX4_tangleCaughtKites_2 rfl rfl ?_
      refine J_aload_n hC dX4_tangleCaughtKites_3 rfl rfl ?_
      refine gX4_21 hC hw dX4_tangleCaughtKites_4 ?_
      refine gX4_62 hC hw dX4_tangleCaughtKites_7 ?_
      refine J_top ((o_NK hO1 (RowOK_tg hI (by omega))).trans (by rw [nv_congr (tgA_lo (by omega))])) ?_
      refine J_icmp_ge_n hC (by omega) (by omega) (tgt := 45) dX4_tangleCaughtKites_10 rfl (fun bk => ?_) (fun bk => ?_)
      · refine J_return hC hR dX4_tangleCaughtKites_45 (by decide) (by decide) ?_
        have e : k = nv A 6 := by omega
        subst e
        exact hq _ hO1 hK1 hX1
      · have g0 := RowOK_tg (K := rd σ o 21) (m := k) hI (by omega)
        refine J_aload_n hC dX4_tangleCaughtKites_13 rfl rfl ?_
        refine gX4_32 hC hw dX4_tangleCaughtKites_14 ?_
        refine J_iload_n hC dX4_tangleCaughtKites_17 rfl rfl ?_
        refine J_zaload hC (hw.2.1 21 (by decide)) (kd_o hw.1) rfl (by omega) (by decide) dX4_tangleCaughtKites_18 ?_
        refine J_top ((hK1 k).trans (if_neg (by omega))) ?_
        refine J_if_eq hC (tgt := 39) dX4_tangleCaughtKites_19 rfl (fun c1 => ?_) (fun c1 => ?_)
        · refine J_iinc_n (m := 1) hC (by decide) dX4_tangleCaughtKites_39 rfl (Nat.le_of_ble_eq_true rfl) rfl ?_
          dsimp only [List.set]
          refine J_goto (tgt := 2) hC dX4_tangleCaughtKites_42 rfl ?_
          first
          | exact ih (k + 1) _ (by omega) (by omega) z (fun j => by
              rw [rd_wr]
              by_cases e : j = k
              · rw [if_pos ⟨rfl, rfl, e⟩, if_pos (by omega)]; rfl
              · rw [if_neg (fun q => e q.2.2), rd_wr_c (by decide), hK1 j]
                by_cases e2 : j < k
                · rw [if_pos e2, if_pos (by omega)]
                · rw [if_neg e2, if_neg (by omega)]) (FrX_wr (FrX_wr hX1))
          | exact ih (k + 1) σ1 (by omega) (by omega) (by rw [tgA_skip c1]; exact hO1) (fun j => by
              rw [hK1 j]
              by_cases e : j = k
              · subst e; rw [if_neg (by omega), if_pos (by omega), c1]
              · by_cases e2 : j < k
                · rw [if_pos e2, if_pos (by omega)]
                · rw [if_neg e2, if_neg (by omega)]) hX1
        · refine J_aload_n hC dX4_tangleCaughtKites_22 rfl rfl ?_
          refine gX4_21 hC hw dX4_tangleCaughtKites_23 ?_
          refine gX4_95 hC hw dX4_tangleCaughtKites_26 ?_
          refine J_iload_n hC dX4_tangleCaughtKites_29 rfl rfl ?_
          refine J_iconst (v := nI 2) hC dX4_tangleCaughtKites_30 (by decide) ?_
          refine J_iastore hC (hw.2.1 14 (by decide)) (kd_o hw.1) rfl (by omega) (by decide) dX4_tangleCaughtKites_31 ?_
          refine J_aload_n hC dX4_tangleCaughtKites_32 rfl rfl ?_
          refine gX4_32 hC hw dX4_tangleCaughtKites_33 ?_
          refine J_iload_n hC dX4_tangleCaughtKites_36 rfl rfl ?_
          refine J_iconst (v := nI 0) hC dX4_tangleCaughtKites_37 (by decide) ?_
          refine J_zastore hC (hw.2.1 21 (by decide)) (kd_o hw.1) rfl (by omega) (by decide) (by decide) dX4_tangleCaughtKites_38 ?_
          have z := OAt_21 (k := k) (v := nI 0) (OAt_k (c := 14) (r := 6) (v := nI 2) hO1 g0 (by omega) (show k < 16 by omega)) (RowOK_kite (r := 6) (v := 2) g0 (show k < 16 by omega) (by omega))
          rw [tgA_hit c1] at z
          refine J_iinc_n (m := 1) hC (by decide) dX4_tangleCaughtKites_39 rfl (Nat.le_of_ble_eq_true rfl) rfl ?_
          dsimp only [List.set]
          refine J_goto (tgt := 2) hC dX4_tangleCaughtKites_42 rfl ?_
          first
          | exact ih (k + 1) _ (by omega) (by omega) z (fun j => by
              rw [rd_wr]
              by_cases e : j = k
              · rw [if_pos ⟨rfl, rfl, e⟩, if_pos (by omega)]; rfl
              · rw [if_neg (fun q => e q.2.2), rd_wr_c (by decide), hK1 j]
                by_cases e2 : j < k
                · rw [if_pos e2, if_pos (by omega)]
                · rw [if_neg e2, if_neg (by omega)]) (FrX_wr (FrX_wr hX1))
          | exact ih (k + 1) σ1 (by omega) (by omega) (by rw [tgA_skip c1]; exact hO1) (fun j => by
              rw [hK1 j]
              by_cases e : j = k
              · subst e; rw [if_neg (by omega), if_pos (by omega), c1]
              · by_cases e2 : j < k
                · rw [if_pos e2, if_pos (by omega)]
                · rw [if_neg e2, if_neg (by omega)]) hX1
  refine J_iconst (v := nI 0) hC dX4_tangleCaughtKites_0 (by decide) ?_
  refine J_istore_n hC dX4_tangleCaughtKites_1 rfl (Nat.le_of_ble_eq_true rfl) rfl ?_
  dsimp only [List.set]
  exact lp 17 0 σ (by omega) (by omega) (by rw [tgA_0]; exact hO) (fun j => (if_neg (Nat.not_lt_zero j)).symm) FrX_refl
set_option maxHeartbeats 4000000 in
set_option maxRecDepth 100000 in
theorem c_X4_letHoursPass {G : GC} {w : Lay} {σ : Mem} {Q : Lay → Option Value → Mem → Prop} {Qx : Lay → String → Mem → Prop} {o hm : Nat} {A : Rw} (hw : LO w o) (hO : OAt σ o A) (hI : RowOK hm A) {h : Nat} (hz : ∀ k, k < 16 → rd σ o 21 k = 0) (hb : hm + h < 2 ^ 29) (hq : ∀ σ', OAt σ' o (passed h (A, rd σ o 21, 0)).1 → FrO o σ σ' → Q w (some (.int (nI (passed h (A, rd σ o 21, 0)).2.2))) σ') : MX4_letHoursPass G w σ [.ref (w.2.1 o 0), .int (nI h)] Q Qx := by
  refine mt_start (by decide) rfl (Nat.le_of_ble_eq_true rfl) (fun E hC hR hN => ?_)
  show J G E w 0 0 0 [some (.ref (w.2.1 o 0)), some (.int (nI h)), none, none] [] σ
  have lp : ∀ (dd : Nat) (t : Nat) (σ1 : Mem), h - t < dd → (t ≤ h) → (OAt σ1 o (passed t (A, rd σ o 21, 0)).1) → (FrO o σ σ1) → (RowOK (hm + t) (passed t (A, rd σ o 21, 0)).1) →  J G E w 0 0 4 [some (.ref (w.2.1 o 0)), some (.int (nI h)), some (.int (nI (passed t (A, rd σ o 21, 0)).2.2)), some (.int (nI t))] [] σ1 := by
    intro dd
    induction dd with
    | zero =>
      intro t σ1 hdd
      exact absurd hdd (Nat.not_lt_zero _)
    | succ dd ih =>
      intro t σ1 hdd ht hO1 hF1 hB
      have hu := r_HOUR hB
      refine J_iload_n hC dX4_letHoursPass_4 rfl rfl ?_
      refine J_iload_n hC dX4_letHoursPass_5 rfl rfl ?_
      refine J_icmp_ge_n hC (by omega) (by omega) (tgt := 51) dX4_letHoursPass_6 rfl (fun bt => ?_) (fun bt => ?_)
      · refine J_iload_n hC dX4_letHoursPass_51 rfl rfl ?_
        refine J_ireturn hC hR dX4_letHoursPass_52 (by decide) (by decide) ?_
        have e : t = h := by omega
        subst e
        exact hq _ hO1 hF1
      · refine J_aload_n hC dX4_letHoursPass_9 rfl rfl ?_
        refine J_dup hC dX4_letHoursPass_10 rfl ?_
        refine gX4_46 hC hw dX4_letHoursPass_11 ?_
        refine J_top (o_HOUR hO1 hB) ?_
        refine J_iconst (v := nI 1) hC dX4_letHoursPass_14 (by decide) ?_
        refine J_iadd_n hC dX4_letHoursPass_15 ?_
        refine pX4_46 hC hw dX4_letHoursPass_16 ?_
        have zO := OAt_n (c := 0) (k := 3) (r := 7) (v := nI (nv (passed t (A, rd σ o 21, 0)).1 7 + 1)) hO1 hB (by omega)
        have zI := RowOK_hour (hm' := hm + t + 1) (v := nv (passed t (A, rd σ o 21, 0)).1 7 + 1) hB (by omega) (by omega)
        have zE := endR_ok hB (by omega)
        refine J_aload_n hC dX4_letHoursPass_19 rfl rfl ?_
        refine gX4_28 hC hw dX4_letHoursPass_20 ?_
        refine J_aload_n hC dX4_letHoursPass_23 rfl rfl ?_
        refine gX4_46 hC hw dX4_letHoursPass_24 ?_
        refine J_top rd_wr_s ?_
        refine iX4_214 hC hw rfl ⟨by decide, by decide⟩ ⟨by decide, by decide⟩ (Nat.le_of_ble_eq_true rfl) dX4_letHoursPass_27 ?_
        refine c_X6_removeEnded hw zO zI (by omega) (fun σ2 hO2 hF2 => ?_)
        dsimp only [Option.toList_some, Option.toList_none, List.cons_append, List.nil_append]
        change OAt σ2 o (endR (passed t (A, rd σ o 21, 0)).1).1 at hO2
        have e7 : nv (endR (passed t (A, rd σ o 21, 0)).1).1 7 = nv (passed t (A, rd σ o 21, 0)).1 7 + 1 := nv_of endR_7 (by omega)
        refine J_aload_n hC dX4_letHoursPass_30 rfl rfl ?_
        refine iX4_218 hC hw rfl ⟨by decide, by decide⟩ ⟨by decide, by decide⟩ (Nat.le_of_ble_eq_true rfl) dX4_letHoursPass_31 ?_
        refine c_X4_groundBecalmedKites hw hO2 zE (by omega) (fun σ3 hO3 hF3 => ?_)
        dsimp only [Option.toList_some, Option.toList_none, List.cons_append, List.nil_append]
        have f3 := FrO_trans hF1 (FrO_trans (FrO_wr FrO_refl (by decide)) (FrO_trans hF2 hF3))
        have z3 := f3.2.2 hz
        have g3 := RowOK_gr (H := nv (endR (passed t (A, rd σ o 21, 0)).1).1 7) (m := nv (endR (passed t (A, rd σ o 21, 0)).1).1 6) zE (r_NK zE).2
        have e73 := nv_congr (B := grA (endR (passed t (A, rd σ o 21, 0)).1).1 (nv (endR (passed t (A, rd σ o 21, 0)).1).1 7) (nv (endR (passed t (A, rd σ o 21, 0)).1).1 6)) (A := (endR (passed t (A, rd σ o 21, 0)).1).1) (j := 7) (grA_lo (by omega))
        have ej := jud_eq hB (by omega) z3
        refine J_iload_n hC dX4_letHoursPass_34 rfl rfl ?_
        refine J_aload_n hC dX4_letHoursPass_35 rfl rfl ?_
        refine iX4_221 hC hw rfl ⟨by decide, by decide⟩ ⟨by decide, by decide⟩ (Nat.le_of_ble_eq_true rfl) dX4_letHoursPass_36 ?_
        refine c_X4_judgeCrossings hw hO3 g3 (by omega) (fun σ4 hO4 hK4 hX4 => ?_)
        dsimp only [Option.toList_some, Option.toList_none, List.cons_append, List.nil_append]
        rw [ej] at hO4 hK4 ⊢
        have hj := judR_I (K := rd σ3 o 21) hB (by omega)
        have e64 : nv (judR (passed t (A, rd σ o 21, 0)).1 (rd σ3 o 21)).1 6 = nv (passed t (A, rd σ o 21, 0)).1 6 := nv_congr ((hj.2 6 (by omega)).trans ((grA_lo (by omega)).trans (endR_lo (by omega) (by omega) (by omega))))
        refine J_iadd_n hC dX4_letHoursPass_39 ?_
        refine J_istore_n hC dX4_letHoursPass_40 rfl (Nat.le_of_ble_eq_true rfl) rfl ?_
        dsimp only [List.set]
        refine J_aload_n hC dX4_letHoursPass_41 rfl rfl ?_
        refine iX4_225 hC hw rfl ⟨by decide, by decide⟩ ⟨by decide, by decide⟩ (Nat.le_of_ble_eq_true rfl) dX4_letHoursPass_42 ?_
        refine c_X4_tangleCaughtKites hw hO4 hj.1 (fun σ5 hO5 hK5 hX5 => ?_)
        dsimp only [Option.toList_some, Option.toList_none, List.cons_append, List.nil_append]
        rw [e64, hK4] at hO5
        rw [e64, hK4] at hK5
        have f5 := FrX_trans hX4 hX5
        have f5b : FrO o σ σ5 := ⟨fun a c h => (f5.1 a c h).trans (f3.1 a c h), fun j => (f5.2 j).trans (f3.2.1 j), fun _ k hk => by
          rw [hK5 k]
          by_cases g : k < nv (passed t (A, rd σ o 21, 0)).1 6
          · rw [if_pos g]
          · rw [if_neg g]
            exact judR_hi hB (by omega) (z3 k hk)⟩
        have pk := passR_K (passed t (A, rd σ o 21, 0)).1 (rd σ3 o 21) (passed t (A, rd σ o 21, 0)).2.1
        refine J_iinc_n (m := 1) hC (by decide) dX4_letHoursPass_45 rfl (Nat.le_of_ble_eq_true rfl) rfl ?_
        dsimp only [List.set]
        refine J_goto (tgt := 4) hC dX4_letHoursPass_48 rfl ?_
        have e1 : (passed (t + 1) (A, rd σ o 21, 0)).1 = (passR (passed t (A, rd σ o 21, 0)).1 (rd σ3 o 21)).1 := pk.1.symm
        have e2 : (passed (t + 1) (A, rd σ o 21, 0)).2.2 = (passed t (A, rd σ o 21, 0)).2.2 + (judR (passed t (A, rd σ o 21, 0)).1 (rd σ3 o 21)).2.2 := congrArg ((passed t (A, rd σ o 21, 0)).2.2 + ·) pk.2.symm
        have hB2 := passR_ok (K := rd σ3 o 21) hB (by omega)
        rw [← e2]
        exact ih (t + 1) σ5 (by omega) (by omega) (by rw [e1]; exact hO5) f5b (by rw [e1]; exact hB2)
  refine J_iconst (v := nI 0) hC dX4_letHoursPass_0 (by decide) ?_
  refine J_istore_n hC dX4_letHoursPass_1 rfl (Nat.le_of_ble_eq_true rfl) rfl ?_
  dsimp only [List.set]
  refine J_iconst (v := nI 0) hC dX4_letHoursPass_2 (by decide) ?_
  refine J_istore_n hC dX4_letHoursPass_3 rfl (Nat.le_of_ble_eq_true rfl) rfl ?_
  dsimp only [List.set]
  exact lp (h + 1) 0 σ (by omega) (by omega) hO FrO_refl hI
set_option maxHeartbeats 4000000 in
set_option maxRecDepth 100000 in
theorem c_X4_countPermittedCrossings {G : GC} {w : Lay} {σ : Mem} {Q : Lay → Option Value → Mem → Prop} {Qx : Lay → String → Mem → Prop} {o hm : Nat} {A : Rw} (hw : LO w o) (hO : OAt σ o A) (hI : RowOK hm A) (hh : nv A 7 < 2 ^ 29) (hq : Q w (some (.int (nI (pcr A)))) σ) : MX4_countPermittedCrossings G w σ [.ref (w.2.1 o 0)] Q Qx := by
  refine mt_start (by decide) rfl (Nat.le_of_ble_eq_true rfl) (fun E hC hR hN => ?_)
  show J G E w 0 0 0 [some (.ref (w.2.1 o 0)), none, none, none, none, none] [] σ
  have h1 := r_NP hI
  have h2 := r_NK hI
  have inn : ∀ p, (bp : p < nv A 11) → (hout : J G E w 0 0 4 [some (.ref (w.2.1 o 0)), some (.int (nI (sumN (fun k => sumN (fun j => crs A k (k + 1 + j)) (nv A 11 - (k + 1))) (p + 1)))), some (.int (nI (p + 1))), none, none, none] [] σ) → J G E w 0 0 48 [some (.ref (w.2.1 o 0)), some (.int (nI (sumN (fun k => sumN (fun j => crs A k (k + 1 + j)) (nv A 11 - (k + 1))) p))), some (.int (nI p)), some (.int (nI (nv A (214 + 3 * p)))), some (.int (nI (max (nv A 7) (nv A (214 + 3 * p + 1))))), some (.int (nI (p + 1)))] [] σ := by
    intro p bp hout
    have lq : ∀ (dd : Nat) (j : Nat), nv A 11 - (p + 1) - j < dd → (j ≤ nv A 11 - (p + 1)) →  J G E w 0 0 48 [some (.ref (w.2.1 o 0)), some (.int (nI (sumN (fun k => sumN (fun j => crs A k (k + 1 + j)) (nv A 11 - (k + 1))) p + sumN (fun j => crs A p (p + 1 + j)) j))), some (.int (nI p)), some (.int (nI (nv A (214 + 3 * p)))), some (.int (nI (max (nv A 7) (nv A (214 + 3 * p + 1))))), some (.int (nI (p + 1 + j)))] [] σ := by
      intro dd
      induction dd with
      | zero =>
        intro j hdd
        exact absurd hdd (Nat.not_lt_zero _)
      | succ dd ih =>
        intro j hdd hj
        have qs := r_PS hI bp
        have qd := r_PD hI bp
        refine J_iload hC dX4_countPermittedCrossings_48 rfl ?_
        refine J_aload_n hC dX4_countPermittedCrossings_50 rfl rfl ?_
        refine gX4_28 hC hw dX4_countPermittedCrossings_51 ?_
        refine gX4_68 hC hw dX4_countPermittedCrossings_54 ?_
        refine J_top (o_NP hO hI) ?_
        refine J_icmp_ge_n hC (by omega) (by omega) (tgt := 100) dX4_countPermittedCrossings_57 rfl (fun bj => ?_) (fun bj => ?_)
        · refine J_iinc_n (m := 1) hC (by decide) dX4_countPermittedCrossings_100 rfl (Nat.le_of_ble_eq_true rfl) rfl ?_
          dsimp only [List.set]
          refine J_goto (tgt := 4) hC dX4_countPermittedCrossings_103 rfl ?_
          have e : j = nv A 11 - (p + 1) := by omega
          subst e
          refine J_less (ls' := [some (.ref (w.2.1 o 0)), some (.int (nI (sumN (fun k => sumN (fun j => crs A k (k + 1 + j)) (nv A 11 - (k + 1))) (p + 1)))), some (.int (nI (p + 1))), none, none, none]) ⟨Or.inr rfl, Or.inr rfl, Or.inr rfl, Or.inl rfl, Or.inl rfl, Or.inl rfl, trivial⟩ ?_
          exact hout
        · have pk1 := (r_PK hI (p := p) (by omega)).2
          have pk2 := (r_PK hI (p := p + 1 + j) (by omega)).2
          refine J_aload_n hC dX4_countPermittedCrossings_60 rfl rfl ?_
          refine gX4_28 hC hw dX4_countPermittedCrossings_61 ?_
          refine gX4_160 hC hw dX4_countPermittedCrossings_64 ?_
          refine J_iload hC dX4_countPermittedCrossings_67 rfl ?_
          refine J_iaload hC (hw.2.1 18 (by decide)) (kd_o hw.1) rfl (by omega) (by decide) dX4_countPermittedCrossings_69 ?_
          refine J_top (o_PK hO hI (by omega)) ?_
          refine J_iload_n hC dX4_countPermittedCrossings_70 rfl rfl ?_
          refine J_icmp_eq_n hC (by omega) (by omega) (tgt := 94) dX4_countPermittedCrossings_71 rfl (fun b1 => ?_) (fun b1 => ?_)
          · rw [show sumN (fun k => sumN (fun j => crs A k (k + 1 + j)) (nv A 11 - (k + 1))) p + sumN (fun j => crs A p (p + 1 + j)) j = sumN (fun k => sumN (fun j => crs A k (k + 1 + j)) (nv A 11 - (k + 1))) p + sumN (fun j => crs A p (p + 1 + j)) (j + 1) from by rw [sumN_s (f := (fun j => crs A p (p + 1 + j))) (n := j)]; have ez : crs A p (p + 1 + j) = 0 := crs_eq b1.symm; omega]
            refine J_iinc_n (m := 1) hC (by decide) dX4_countPermittedCrossings_94 rfl (Nat.le_of_ble_eq_true rfl) rfl ?_
            dsimp only [List.set]
            refine J_goto (tgt := 48) hC dX4_countPermittedCrossings_97 rfl ?_
            exact ih (j + 1) (by omega) (by omega)
          · refine J_iload_n hC dX4_countPermittedCrossings_74 rfl rfl ?_
            refine J_aload_n hC dX4_countPermittedCrossings_75 rfl rfl ?_
            refine J_iload_n hC dX4_countPermittedCrossings_76 rfl rfl ?_
            refine J_iload hC dX4_countPermittedCrossings_77 rfl ?_
            refine J_iload hC dX4_countPermittedCrossings_79 rfl ?_
            refine J_aload_n hC dX4_countPermittedCrossings_81 rfl rfl ?_
            refine gX4_28 hC hw dX4_countPermittedCrossings_82 ?_
            refine J_iload_n hC dX4_countPermittedCrossings_85 rfl rfl ?_
            refine iX4_194 hC hw rfl ⟨by decide, by decide⟩ ⟨by decide, by decide⟩ (Nat.le_of_ble_eq_true rfl) dX4_countPermittedCrossings_86 ?_
            refine c_X6_endOf hw hO hI (by omega) ?_
            dsimp only [Option.toList_some, Option.toList_none, List.cons_append, List.nil_append]
            refine iX4_190 hC hw rfl ⟨by decide, by decide⟩ ⟨by decide, by decide⟩ (Nat.le_of_ble_eq_true rfl) dX4_countPermittedCrossings_89 ?_
            refine c_X4_countCrossings hw hO hI (r_PK hI (p := p) (by omega)).2 (by omega) (by omega) (by omega) ?_
            dsimp only [Option.toList_some, Option.toList_none, List.cons_append, List.nil_append]
            have ec : crs A p (p + 1 + j) = _ := crs_cc (fun q => b1 q.symm)
            unfold crsB crsE at ec
            rw [← ec]
            refine J_iadd_n hC dX4_countPermittedCrossings_92 ?_
            rw [show sumN (fun k => sumN (fun j => crs A k (k + 1 + j)) (nv A 11 - (k + 1))) p + sumN (fun j => crs A p (p + 1 + j)) j + crs A p (p + 1 + j) = sumN (fun k => sumN (fun j => crs A k (k + 1 + j)) (nv A 11 - (k + 1))) p + sumN (fun j => crs A p (p + 1 + j)) (j + 1) from by rw [sumN_s (f := (fun j => crs A p (p + 1 + j))) (n := j)]; omega]
            refine J_istore_n hC dX4_countPermittedCrossings_93 rfl (Nat.le_of_ble_eq_true rfl) rfl ?_
            dsimp only [List.set]
            refine J_iinc_n (m := 1) hC (by decide) dX4_countPermittedCrossings_94 rfl (Nat.le_of_ble_eq_true rfl) rfl ?_
            dsimp only [List.set]
            refine J_goto (tgt := 48) hC dX4_countPermittedCrossings_97 rfl ?_
            exact ih (j + 1) (by omega) (by omega)
    exact lq 40 0 (by omega) (by omega)
  have lp : ∀ (dd : Nat) (p : Nat), nv A 11 - p < dd → (p ≤ nv A 11) →  J G E w 0 0 4 [some (.ref (w.2.1 o 0)), some (.int (nI (sumN (fun k => sumN (fun j => crs A k (k + 1 + j)) (nv A 11 - (k + 1))) p))), some (.int (nI p)), none, none, none] [] σ := by
    intro dd
    induction dd with
    | zero =>
      intro p hdd
      exact absurd hdd (Nat.not_lt_zero _)
    | succ dd ih =>
      intro p hdd hp
      refine J_iload_n hC dX4_countPermittedCrossings_4 rfl rfl ?_
      refine J_aload_n hC dX4_countPermittedCrossings_5 rfl rfl ?_
      refine gX4_28 hC hw dX4_countPermittedCrossings_6 ?_
      refine gX4_68 hC hw dX4_countPermittedCrossings_9 ?_
      refine J_top (o_NP hO hI) ?_
      refine J_icmp_ge_n hC (by omega) (by omega) (tgt := 106) dX4_countPermittedCrossings_12 rfl (fun bp => ?_) (fun bp => ?_)
      · refine J_iload_n hC dX4_countPermittedCrossings_106 rfl rfl ?_
        refine J_ireturn hC hR dX4_countPermittedCrossings_107 (by decide) (by decide) ?_
        have e : p = nv A 11 := by omega
        subst e
        exact hq
      · refine J_aload_n hC dX4_countPermittedCrossings_15 rfl rfl ?_
        refine gX4_28 hC hw dX4_countPermittedCrossings_16 ?_
        refine gX4_160 hC hw dX4_countPermittedCrossings_19 ?_
        refine J_iload_n hC dX4_countPermittedCrossings_22 rfl rfl ?_
        refine J_iaload hC (hw.2.1 18 (by decide)) (kd_o hw.1) rfl (by omega) (by decide) dX4_countPermittedCrossings_23 ?_
        refine J_top (o_PK hO hI bp) ?_
        refine J_istore_n hC dX4_countPermittedCrossings_24 rfl (Nat.le_of_ble_eq_true rfl) rfl ?_
        dsimp only [List.set]
        refine J_aload_n hC dX4_countPermittedCrossings_25 rfl rfl ?_
        refine gX4_46 hC hw dX4_countPermittedCrossings_26 ?_
        refine J_top (o_HOUR hO hI) ?_
        refine J_aload_n hC dX4_countPermittedCrossings_29 rfl rfl ?_
        refine gX4_28 hC hw dX4_countPermittedCrossings_30 ?_
        refine gX4_197 hC hw dX4_countPermittedCrossings_33 ?_
        refine J_iload_n hC dX4_countPermittedCrossings_36 rfl rfl ?_
        refine J_iaload hC (hw.2.1 19 (by decide)) (kd_o hw.1) rfl (by omega) (by decide) dX4_countPermittedCrossings_37 ?_
        refine J_top (o_PS hO hI bp) ?_
        refine J_max hC rfl q2_192 (by decide) (Nat.le_of_ble_eq_true rfl) (by decide) (by decide) dX4_countPermittedCrossings_38 ?_
        have qs := r_PS hI bp
        rw [imax_n (by omega) (by omega)]
        refine J_istore hC dX4_countPermittedCrossings_41 (Nat.le_of_ble_eq_true rfl) rfl ?_
        dsimp only [List.set]
        refine J_iload_n hC dX4_countPermittedCrossings_43 rfl rfl ?_
        refine J_iconst (v := nI 1) hC dX4_countPermittedCrossings_44 (by decide) ?_
        refine J_iadd_n hC dX4_countPermittedCrossings_45 ?_
        refine J_istore hC dX4_countPermittedCrossings_46 (Nat.le_of_ble_eq_true rfl) rfl ?_
        dsimp only [List.set]
        refine inn p bp ?_
        exact ih (p + 1) (by omega) (by omega)
  refine J_iconst (v := nI 0) hC dX4_countPermittedCrossings_0 (by decide) ?_
  refine J_istore_n hC dX4_countPermittedCrossings_1 rfl (Nat.le_of_ble_eq_true rfl) rfl ?_
  dsimp only [List.set]
  refine J_iconst (v := nI 0) hC dX4_countPermittedCrossings_2 (by decide) ?_
  refine J_istore_n hC dX4_countPermittedCrossings_3 rfl (Nat.le_of_ble_eq_true rfl) rfl ?_
  dsimp only [List.set]
  exact lp 40 0 (by omega) (by omega)
