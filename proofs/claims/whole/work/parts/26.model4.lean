set_option maxHeartbeats 4000000 in
set_option maxRecDepth 100000 in
theorem c_X10_granted {G : GC} {w : Lay} {σ : Mem} {Q : Lay → Option Value → Mem → Prop} {Qx : Lay → String → Mem → Prop} {hm : Nat} (hM : LM w) (hI : RowOK hm (rd σ 13 1)) {k s d : Nat} (hk : k < nv (rd σ 13 1) 6) (hp : nv (rd σ 13 1) 11 < 30) (hq : Q w (some (.int (nI (nv (rd σ 13 1) 11 + 1)))) (setA σ (grantA (rd σ 13 1) k s d))) : MX10_granted G w σ [.ref (w.2.1 13 0), .int (nI k), .int (nI s), .int (nI d)] Q Qx := by
  refine mt_start (by decide) rfl (Nat.le_of_ble_eq_true rfl) (fun E hC hR hN => ?_)
  show J G E w 0 0 0 [some (.ref (w.2.1 13 0)), some (.int (nI k)), some (.int (nI s)), some (.int (nI d)), none] [] σ
  have h1 := r_NK hI
  have h2 := r_NP hI
  refine J_sipush (v := nI 214) hC dX10_granted_0 (by decide) ?_
  refine J_iconst (v := nI 3) hC dX10_granted_3 (by decide) ?_
  refine J_aload_n hC dX10_granted_4 rfl rfl ?_
  refine gX10_7 hC hM dX10_granted_5 ?_
  refine J_bipush (v := nI 11) hC dX10_granted_8 (by decide) ?_
  refine J_dup2 hC dX10_granted_10 rfl rfl ?_
  refine J_iaload hC (hM.1 1 (by decide)) rfl rfl (by omega) (by decide) dX10_granted_11 ?_
  refine J_top h2.1 ?_
  refine J_dup_x2 hC dX10_granted_12 rfl rfl rfl ?_
  refine J_iconst (v := nI 1) hC dX10_granted_13 (by decide) ?_
  refine J_iadd_n hC dX10_granted_14 ?_
  refine J_iastore hC (hM.1 1 (by decide)) rfl rfl (by omega) (by decide) dX10_granted_15 ?_
  rw [wr_setA1]
  refine J_imul_n hC dX10_granted_16 ?_
  refine J_iadd_n hC dX10_granted_17 ?_
  refine J_istore hC dX10_granted_18 (Nat.le_of_ble_eq_true rfl) rfl ?_
  dsimp only [List.set]
  refine J_aload_n hC dX10_granted_20 rfl rfl ?_
  refine gX10_7 hC hM dX10_granted_21 ?_
  refine J_iload hC dX10_granted_24 rfl ?_
  refine J_iload_n hC dX10_granted_26 rfl rfl ?_
  refine J_iastore hC (hM.1 1 (by decide)) rfl rfl (by omega) (by decide) dX10_granted_27 ?_
  rw [wr_setA2]
  refine J_aload_n hC dX10_granted_28 rfl rfl ?_
  refine gX10_7 hC hM dX10_granted_29 ?_
  refine J_iload hC dX10_granted_32 rfl ?_
  refine J_iconst (v := nI 1) hC dX10_granted_34 (by decide) ?_
  refine J_iadd_n hC dX10_granted_35 ?_
  refine J_iload_n hC dX10_granted_36 rfl rfl ?_
  refine J_iastore hC (hM.1 1 (by decide)) rfl rfl (by omega) (by decide) dX10_granted_37 ?_
  rw [wr_setA2]
  refine J_aload_n hC dX10_granted_38 rfl rfl ?_
  refine gX10_7 hC hM dX10_granted_39 ?_
  refine J_iload hC dX10_granted_42 rfl ?_
  refine J_iconst (v := nI 2) hC dX10_granted_44 (by decide) ?_
  refine J_iadd_n hC dX10_granted_45 ?_
  refine J_iload_n hC dX10_granted_46 rfl rfl ?_
  refine J_iastore hC (hM.1 1 (by decide)) rfl rfl (by omega) (by decide) dX10_granted_47 ?_
  rw [wr_setA2]
  refine J_aload_n hC dX10_granted_48 rfl rfl ?_
  refine gX10_7 hC hM dX10_granted_49 ?_
  refine J_bipush (v := nI 70) hC dX10_granted_52 (by decide) ?_
  refine J_bipush (v := nI 9) hC dX10_granted_54 (by decide) ?_
  refine J_iload_n hC dX10_granted_56 rfl rfl ?_
  refine J_imul_n hC dX10_granted_57 ?_
  refine J_iadd_n hC dX10_granted_58 ?_
  refine J_iconst (v := nI 5) hC dX10_granted_59 (by decide) ?_
  refine J_iadd_n hC dX10_granted_60 ?_
  refine J_dup2 hC dX10_granted_61 rfl rfl ?_
  refine J_iaload hC (hM.1 1 (by decide)) rfl rfl (by omega) (by decide) dX10_granted_62 ?_
  refine J_top (show _ = rd σ 13 1 (70 + 9 * k + 5) from by rw [rd_setA, upd_n (by omega), upd_n (by omega), upd_n (by omega), upd_n (by omega)]) ?_
  refine J_aload_n hC dX10_granted_63 rfl rfl ?_
  refine gX10_7 hC hM dX10_granted_64 ?_
  refine J_iconst (v := nI 2) hC dX10_granted_67 (by decide) ?_
  refine J_iaload hC (hM.1 1 (by decide)) rfl rfl (by omega) (by decide) dX10_granted_68 ?_
  refine J_top (show _ = nI (nv (rd σ 13 1) 2) from by rw [rd_setA, upd_n (by omega), upd_n (by omega), upd_n (by omega), upd_n (by omega)]; exact (r_FEE hI).1) ?_
  refine J_iload_n hC dX10_granted_69 rfl rfl ?_
  refine J_imul_n hC dX10_granted_70 ?_
  refine J_isub hC dX10_granted_71 ?_
  refine J_iastore hC (hM.1 1 (by decide)) rfl rfl (by omega) (by decide) dX10_granted_72 ?_
  rw [wr_setA2]
  refine J_aload_n hC dX10_granted_73 rfl rfl ?_
  refine gX10_7 hC hM dX10_granted_74 ?_
  refine J_bipush (v := nI 9) hC dX10_granted_77 (by decide) ?_
  refine J_dup2 hC dX10_granted_79 rfl rfl ?_
  refine J_iaload hC (hM.1 1 (by decide)) rfl rfl (by omega) (by decide) dX10_granted_80 ?_
  refine J_top (show _ = rd σ 13 1 9 from by rw [rd_setA, upd_n (by omega), upd_n (by omega), upd_n (by omega), upd_n (by omega), upd_n (by omega)]) ?_
  refine J_aload_n hC dX10_granted_81 rfl rfl ?_
  refine gX10_7 hC hM dX10_granted_82 ?_
  refine J_iconst (v := nI 2) hC dX10_granted_85 (by decide) ?_
  refine J_iaload hC (hM.1 1 (by decide)) rfl rfl (by omega) (by decide) dX10_granted_86 ?_
  refine J_top (show _ = nI (nv (rd σ 13 1) 2) from by rw [rd_setA, upd_n (by omega), upd_n (by omega), upd_n (by omega), upd_n (by omega), upd_n (by omega)]; exact (r_FEE hI).1) ?_
  refine J_iload_n hC dX10_granted_87 rfl rfl ?_
  refine J_imul_n hC dX10_granted_88 ?_
  refine J_iadd hC dX10_granted_89 ?_
  refine J_iastore hC (hM.1 1 (by decide)) rfl rfl (by omega) (by decide) dX10_granted_90 ?_
  rw [wr_setA2]
  refine J_aload_n hC dX10_granted_91 rfl rfl ?_
  refine gX10_7 hC hM dX10_granted_92 ?_
  refine J_bipush (v := nI 11) hC dX10_granted_95 (by decide) ?_
  refine J_iaload hC (hM.1 1 (by decide)) rfl rfl (by omega) (by decide) dX10_granted_97 ?_
  refine J_top (show _ = nI (nv (rd σ 13 1) 11 + 1) from by rw [rd_setA, upd_n (by omega), upd_n (by omega), upd_n (by omega), upd_n (by omega), upd_n (by omega), upd_s]) ?_
  refine J_ireturn hC hR dX10_granted_98 (by decide) (by decide) ?_
  exact hq
set_option maxHeartbeats 4000000 in
set_option maxRecDepth 100000 in
theorem c_X10_remove {G : GC} {w : Lay} {σ : Mem} {Q : Lay → Option Value → Mem → Prop} {Qx : Lay → String → Mem → Prop} {hm : Nat} (hM : LM w) (hI : RowOK hm (rd σ 13 1)) {p : Nat} (hp : p < nv (rd σ 13 1) 11) (hq : Q w none (setA σ (removeA (rd σ 13 1) p))) : MX10_remove G w σ [.ref (w.2.1 13 0), .int (nI p)] Q Qx := by
  refine mt_start (by decide) rfl (Nat.le_of_ble_eq_true rfl) (fun E hC hR hN => ?_)
  show J G E w 0 0 0 [some (.ref (w.2.1 13 0)), some (.int (nI p)), none] [] σ
  have h2 := r_NP hI
  have lp : ∀ (dd : Nat) (j : Nat), 214 + 3 * (nv (rd σ 13 1) 11 - 1) - j < dd → (214 + 3 * p ≤ j) → (j ≤ 214 + 3 * (nv (rd σ 13 1) 11 - 1)) →  J G E w 0 0 19 [some (.ref (w.2.1 13 0)), some (.int (nI p)), some (.int (nI j))] [] (setA σ (remS (rd σ 13 1) p j)) := by
    intro dd
    induction dd with
    | zero =>
      intro j hdd
      exact absurd hdd (Nat.not_lt_zero _)
    | succ dd ih =>
      intro j hdd h1 h3
      refine J_iload_n hC dX10_remove_19 rfl rfl ?_
      refine J_sipush (v := nI 214) hC dX10_remove_20 (by decide) ?_
      refine J_iconst (v := nI 3) hC dX10_remove_23 (by decide) ?_
      refine J_aload_n hC dX10_remove_24 rfl rfl ?_
      refine gX10_7 hC hM dX10_remove_25 ?_
      refine J_bipush (v := nI 11) hC dX10_remove_28 (by decide) ?_
      refine J_iaload hC (hM.1 1 (by decide)) rfl rfl (by omega) (by decide) dX10_remove_30 ?_
      refine J_top (show _ = nI (nv (rd σ 13 1) 11 - 1) from by rw [rd_setA]; exact if_pos rfl) ?_
      refine J_imul_n hC dX10_remove_31 ?_
      refine J_iadd_n hC dX10_remove_32 ?_
      refine J_icmp_ge_n hC (by omega) (by omega) (tgt := 56) dX10_remove_33 rfl (fun hb => ?_) (fun hb => ?_)
      · refine J_return hC hR dX10_remove_56 (by decide) (by decide) ?_
        have e : j = 214 + 3 * (nv (rd σ 13 1) 11 - 1) := by omega
        subst e
        exact hq
      · refine J_aload_n hC dX10_remove_36 rfl rfl ?_
        refine gX10_7 hC hM dX10_remove_37 ?_
        refine J_iload_n hC dX10_remove_40 rfl rfl ?_
        refine J_aload_n hC dX10_remove_41 rfl rfl ?_
        refine gX10_7 hC hM dX10_remove_42 ?_
        refine J_iload_n hC dX10_remove_45 rfl rfl ?_
        refine J_iconst (v := nI 3) hC dX10_remove_46 (by decide) ?_
        refine J_iadd_n hC dX10_remove_47 ?_
        refine J_iaload hC (hM.1 1 (by decide)) rfl rfl (by omega) (by decide) dX10_remove_48 ?_
        refine J_top (show _ = rd σ 13 1 (j + 3) from by rw [rd_setA]; exact remS_hi (by omega) (by omega)) ?_
        refine J_iastore hC (hM.1 1 (by decide)) rfl rfl (by omega) (by decide) dX10_remove_49 ?_
        rw [wr_setA2, remS_s h1]
        refine J_iinc_n (m := 1) hC (by decide) dX10_remove_50 rfl (Nat.le_of_ble_eq_true rfl) rfl ?_
        dsimp only [List.set]
        refine J_goto (tgt := 19) hC dX10_remove_53 rfl ?_
        exact ih (j + 1) (by omega) (by omega) (by omega)
  refine J_aload_n hC dX10_remove_0 rfl rfl ?_
  refine gX10_7 hC hM dX10_remove_1 ?_
  refine J_bipush (v := nI 11) hC dX10_remove_4 (by decide) ?_
  refine J_dup2 hC dX10_remove_6 rfl rfl ?_
  refine J_iaload hC (hM.1 1 (by decide)) rfl rfl (by omega) (by decide) dX10_remove_7 ?_
  refine J_top h2.1 ?_
  refine J_iconst (v := nI 1) hC dX10_remove_8 (by decide) ?_
  refine J_isub_n hC (by omega) dX10_remove_9 ?_
  refine J_iastore hC (hM.1 1 (by decide)) rfl rfl (by omega) (by decide) dX10_remove_10 ?_
  rw [wr_setA1, remS_0 _ p]
  refine J_sipush (v := nI 214) hC dX10_remove_11 (by decide) ?_
  refine J_iconst (v := nI 3) hC dX10_remove_14 (by decide) ?_
  refine J_iload_n hC dX10_remove_15 rfl rfl ?_
  refine J_imul_n hC dX10_remove_16 ?_
  refine J_iadd_n hC dX10_remove_17 ?_
  refine J_istore_n hC dX10_remove_18 rfl (Nat.le_of_ble_eq_true rfl) rfl ?_
  dsimp only [List.set]
  exact lp 400 (214 + 3 * p) (by omega) (by omega) (by omega)
set_option maxHeartbeats 4000000 in
set_option maxRecDepth 100000 in
theorem c_X10_cancelled {G : GC} {w : Lay} {σ : Mem} {Q : Lay → Option Value → Mem → Prop} {Qx : Lay → String → Mem → Prop} {hm : Nat} (hM : LM w) (hI : RowOK hm (rd σ 13 1)) {k : Nat} (hk0 : k < 2 ^ 31) (hq : Q w (some (.int (nI (cancelR (rd σ 13 1) k).2))) (setA σ (cancelR (rd σ 13 1) k).1)) : MX10_cancelled G w σ [.ref (w.2.1 13 0), .int (nI k)] Q Qx := by
  refine mt_start (by decide) rfl (Nat.le_of_ble_eq_true rfl) (fun E hC hR hN => ?_)
  show J G E w 0 0 0 [some (.ref (w.2.1 13 0)), some (.int (nI k)), none, none] [] σ
  have h2 := r_NP hI
  have lp : ∀ (dd : Nat) (A : Nat → Int32) (i m : Nat), nv A 11 - i < dd → (i ≤ nv A 11) → (RowOK hm A) → (rmF (fun a _ _ => a = nI k) dd A i m = cancelR (rd σ 13 1) k) →  J G E w 0 0 4 [some (.ref (w.2.1 13 0)), some (.int (nI k)), some (.int (nI m)), some (.int (nI i))] [] (setA σ A) := by
    intro dd
    induction dd with
    | zero =>
      intro A i m hdd
      exact absurd hdd (Nat.not_lt_zero _)
    | succ dd ih =>
      intro A i m hdd hi hA hF
      unfold rmF at hF
      have h3 := r_NP hA
      refine J_iload_n hC dX10_cancelled_4 rfl rfl ?_
      refine J_aload_n hC dX10_cancelled_5 rfl rfl ?_
      refine gX10_7 hC hM dX10_cancelled_6 ?_
      refine J_bipush (v := nI 11) hC dX10_cancelled_9 (by decide) ?_
      refine J_iaload hC (hM.1 1 (by decide)) rfl rfl (by omega) (by decide) dX10_cancelled_11 ?_
      refine J_top (show _ = nI (nv A 11) from by rw [rd_setA]; exact (r_NP hA).1) ?_
      refine J_icmp_ge_n hC (by omega) (by omega) (tgt := 48) dX10_cancelled_12 rfl (fun hb => ?_) (fun hb => ?_)
      · rw [if_neg (by omega)] at hF
        refine J_iload_n hC dX10_cancelled_48 rfl rfl ?_
        refine J_ireturn hC hR dX10_cancelled_49 (by decide) (by decide) ?_
        rw [← hF] at hq
        exact hq
      · rw [if_pos hb] at hF
        refine J_aload_n hC dX10_cancelled_15 rfl rfl ?_
        refine gX10_7 hC hM dX10_cancelled_16 ?_
        refine J_sipush (v := nI 214) hC dX10_cancelled_19 (by decide) ?_
        refine J_iconst (v := nI 3) hC dX10_cancelled_22 (by decide) ?_
        refine J_iload_n hC dX10_cancelled_23 rfl rfl ?_
        refine J_imul_n hC dX10_cancelled_24 ?_
        refine J_iadd_n hC dX10_cancelled_25 ?_
        refine J_iaload hC (hM.1 1 (by decide)) rfl rfl (by omega) (by decide) dX10_cancelled_26 ?_
        refine J_top (show _ = A (214 + 3 * i) from by rw [rd_setA]) ?_
        refine J_iload_n hC dX10_cancelled_27 rfl rfl ?_
        refine J_icmp_ne hC (tgt := 42) dX10_cancelled_28 rfl (fun hk => ?_) (fun hk => ?_)
        · rw [if_neg hk] at hF
          refine J_iinc_n (m := 1) hC (by decide) dX10_cancelled_42 rfl (Nat.le_of_ble_eq_true rfl) rfl ?_
          dsimp only [List.set]
          refine J_goto (tgt := 4) hC dX10_cancelled_45 rfl ?_
          first
          | exact ih (removeA A i) i (m + 1) (by rw [nv_remove h3.2]; omega) (by rw [nv_remove h3.2]; omega) (RowOK_remove hA hb) hF
          | exact ih A (i + 1) m (by omega) (by omega) hA hF
        · rw [if_pos hk] at hF
          refine J_aload_n hC dX10_cancelled_31 rfl rfl ?_
          refine J_iload_n hC dX10_cancelled_32 rfl rfl ?_
          refine iX10_156 hC hM rfl ⟨by decide, by decide⟩ ⟨by decide, by decide⟩ (Nat.le_of_ble_eq_true rfl) dX10_cancelled_33 ?_
          refine c_X10_remove hM (by rw [rd_setA]; exact hA) (by rw [rd_setA]; exact hb) ?_
          dsimp only [Option.toList_some, Option.toList_none, List.cons_append, List.nil_append]
          rw [rd_setA, setA_setA]
          refine J_iinc_n (m := 1) hC (by decide) dX10_cancelled_36 rfl (Nat.le_of_ble_eq_true rfl) rfl ?_
          dsimp only [List.set]
          refine J_goto (tgt := 4) hC dX10_cancelled_39 rfl ?_
          first
          | exact ih (removeA A i) i (m + 1) (by rw [nv_remove h3.2]; omega) (by rw [nv_remove h3.2]; omega) (RowOK_remove hA hb) hF
          | exact ih A (i + 1) m (by omega) (by omega) hA hF
  refine J_iconst (v := nI 0) hC dX10_cancelled_0 (by decide) ?_
  refine J_istore_n hC dX10_cancelled_1 rfl (Nat.le_of_ble_eq_true rfl) rfl ?_
  dsimp only [List.set]
  refine J_iconst (v := nI 0) hC dX10_cancelled_2 (by decide) ?_
  refine J_istore_n hC dX10_cancelled_3 rfl (Nat.le_of_ble_eq_true rfl) rfl ?_
  dsimp only [List.set]
  exact J_cong (lp 40 (rd σ 13 1) 0 0 (by omega) (by omega) hI rfl) (h4 := setA_id.symm)
set_option maxHeartbeats 4000000 in
set_option maxRecDepth 100000 in
theorem c_X10_launched {G : GC} {w : Lay} {σ : Mem} {Q : Lay → Option Value → Mem → Prop} {Qx : Lay → String → Mem → Prop} {hm : Nat} (hM : LM w) (hI : RowOK hm (rd σ 13 1)) {k : Nat} (hk : k < nv (rd σ 13 1) 6) (hh : nv (rd σ 13 1) 7 < 2 ^ 31) (hq : Q w (some (.int (nI (reachN (rd σ 13 1) k (nv (rd σ 13 1) 7))))) (setA σ (launchA (rd σ 13 1) k))) : MX10_launched G w σ [.ref (w.2.1 13 0), .int (nI k)] Q Qx := by
  refine mt_start (by decide) rfl (Nat.le_of_ble_eq_true rfl) (fun E hC hR hN => ?_)
  show J G E w 0 0 0 [some (.ref (w.2.1 13 0)), some (.int (nI k))] [] σ
  have h1 := r_NK hI
  have h2 := r_HOUR hI
  refine J_aload_n hC dX10_launched_0 rfl rfl ?_
  refine gX10_7 hC hM dX10_launched_1 ?_
  refine J_bipush (v := nI 70) hC dX10_launched_4 (by decide) ?_
  refine J_bipush (v := nI 9) hC dX10_launched_6 (by decide) ?_
  refine J_iload_n hC dX10_launched_8 rfl rfl ?_
  refine J_imul_n hC dX10_launched_9 ?_
  refine J_iadd_n hC dX10_launched_10 ?_
  refine J_bipush (v := nI 6) hC dX10_launched_11 (by decide) ?_
  refine J_iadd_n hC dX10_launched_13 ?_
  refine J_iconst (v := nI 1) hC dX10_launched_14 (by decide) ?_
  refine J_iastore hC (hM.1 1 (by decide)) rfl rfl (by omega) (by decide) dX10_launched_15 ?_
  rw [wr_setA1]
  refine J_aload_n hC dX10_launched_16 rfl rfl ?_
  refine gX10_7 hC hM dX10_launched_17 ?_
  refine J_bipush (v := nI 70) hC dX10_launched_20 (by decide) ?_
  refine J_bipush (v := nI 9) hC dX10_launched_22 (by decide) ?_
  refine J_iload_n hC dX10_launched_24 rfl rfl ?_
  refine J_imul_n hC dX10_launched_25 ?_
  refine J_iadd_n hC dX10_launched_26 ?_
  refine J_bipush (v := nI 8) hC dX10_launched_27 (by decide) ?_
  refine J_iadd_n hC dX10_launched_29 ?_
  refine J_aload_n hC dX10_launched_30 rfl rfl ?_
  refine gX10_7 hC hM dX10_launched_31 ?_
  refine J_bipush (v := nI 8) hC dX10_launched_34 (by decide) ?_
  refine J_dup2 hC dX10_launched_36 rfl rfl ?_
  refine J_iaload hC (hM.1 1 (by decide)) rfl rfl (by omega) (by decide) dX10_launched_37 ?_
  refine J_top (show _ = rd σ 13 1 8 from by rw [rd_setA, upd_n (by omega)]) ?_
  refine J_iconst (v := nI 1) hC dX10_launched_38 (by decide) ?_
  refine J_iadd hC dX10_launched_39 ?_
  refine J_dup_x2 hC dX10_launched_40 rfl rfl rfl ?_
  refine J_iastore hC (hM.1 1 (by decide)) rfl rfl (by omega) (by decide) dX10_launched_41 ?_
  rw [wr_setA2]
  refine J_iastore hC (hM.1 1 (by decide)) rfl rfl (by omega) (by decide) dX10_launched_42 ?_
  rw [wr_setA2]
  refine J_aload_n hC dX10_launched_43 rfl rfl ?_
  refine J_iload_n hC dX10_launched_44 rfl rfl ?_
  refine J_aload_n hC dX10_launched_45 rfl rfl ?_
  refine gX10_7 hC hM dX10_launched_46 ?_
  refine J_bipush (v := nI 7) hC dX10_launched_49 (by decide) ?_
  refine J_iaload hC (hM.1 1 (by decide)) rfl rfl (by omega) (by decide) dX10_launched_51 ?_
  show J _ _ _ _ _ _ _ _ (setA σ (launchA (rd σ 13 1) k))
  refine J_top (show _ = nI (nv (rd σ 13 1) 7) from by rw [rd_setA, upd_n (by omega), upd_n (by omega), upd_n (by omega)]; exact h2.1) ?_
  refine iX10_106 hC hM rfl ⟨by decide, by decide⟩ ⟨by decide, by decide⟩ (Nat.le_of_ble_eq_true rfl) dX10_launched_52 ?_
  refine c_X10_reachOf hM (by rw [rd_setA]; exact RowOK_launch hI (by omega)) (by rw [rd_setA]; show k < nv (launchA (rd σ 13 1) k) 6; rw [nv_congr (geo_launch (rd σ 13 1) k 6 (by omega))]; exact hk) hh ?_
  dsimp only [Option.toList_some, Option.toList_none, List.cons_append, List.nil_append]
  refine J_ireturn hC hR dX10_launched_55 (by decide) (by decide) ?_
  rw [rd_setA, geo_reachN hI (geo_launch (rd σ 13 1) k) hk]
  exact hq
set_option maxHeartbeats 4000000 in
set_option maxRecDepth 100000 in
theorem c_X10_landed {G : GC} {w : Lay} {σ : Mem} {Q : Lay → Option Value → Mem → Prop} {Qx : Lay → String → Mem → Prop} {hm : Nat} (hM : LM w) (hI : RowOK hm (rd σ 13 1)) {k : Nat} (hk : k < nv (rd σ 13 1) 6) (hq : Q w (some (.int (nI (stN (stateA (rd σ 13 1) k 0) 1)))) (setA σ (stateA (rd σ 13 1) k 0))) : MX10_landed G w σ [.ref (w.2.1 13 0), .int (nI k)] Q Qx := by
  refine mt_start (by decide) rfl (Nat.le_of_ble_eq_true rfl) (fun E hC hR hN => ?_)
  show J G E w 0 0 0 [some (.ref (w.2.1 13 0)), some (.int (nI k))] [] σ
  have h1 := r_NK hI
  refine J_aload_n hC dX10_landed_0 rfl rfl ?_
  refine gX10_7 hC hM dX10_landed_1 ?_
  refine J_bipush (v := nI 70) hC dX10_landed_4 (by decide) ?_
  refine J_bipush (v := nI 9) hC dX10_landed_6 (by decide) ?_
  refine J_iload_n hC dX10_landed_8 rfl rfl ?_
  refine J_imul_n hC dX10_landed_9 ?_
  refine J_iadd_n hC dX10_landed_10 ?_
  refine J_bipush (v := nI 6) hC dX10_landed_11 (by decide) ?_
  refine J_iadd_n hC dX10_landed_13 ?_
  refine J_iconst (v := nI 0) hC dX10_landed_14 (by decide) ?_
  refine J_iastore hC (hM.1 1 (by decide)) rfl rfl (by omega) (by decide) dX10_landed_15 ?_
  rw [wr_setA1]
  show J _ _ _ _ _ _ _ _ (setA σ (stateA (rd σ 13 1) k 0))
  refine J_aload_n hC dX10_landed_16 rfl rfl ?_
  refine J_iconst (v := nI 1) hC dX10_landed_17 (by decide) ?_
  refine iX10_159 hC hM rfl ⟨by decide, by decide⟩ ⟨by decide, by decide⟩ (Nat.le_of_ble_eq_true rfl) dX10_landed_18 ?_
  refine c_X10_count hM (by rw [rd_setA]; exact RowOK_state hI (by omega) (by omega)) (by omega) ?_
  dsimp only [Option.toList_some, Option.toList_none, List.cons_append, List.nil_append]
  refine J_ireturn hC hR dX10_landed_21 (by decide) (by decide) ?_
  rw [rd_setA]
  exact hq
set_option maxHeartbeats 4000000 in
set_option maxRecDepth 100000 in
theorem c_X10_verdict {G : GC} {w : Lay} {σ : Mem} {Q : Lay → Option Value → Mem → Prop} {Qx : Lay → String → Mem → Prop} {hm : Nat} (hM : LM w) (hI : RowOK hm (rd σ 13 1)) {k i : Nat} (hk : k < nv (rd σ 13 1) 6) (hi : i < nv (rd σ 13 1) 6) (hne : k ≠ i) (hh : nv (rd σ 13 1) 7 < 2 ^ 31) (hq : Q w none (wr (wr (setA σ (verdA (rd σ 13 1) k i)) 13 8 k (nI 1)) 13 8 i (nI 1))) : MX10_verdict G w σ [.ref (w.2.1 13 0), .int (nI k), .int (nI i)] Q Qx := by
  refine mt_start (by decide) rfl (Nat.le_of_ble_eq_true rfl) (fun E hC hR hN => ?_)
  show J G E w 0 0 0 [some (.ref (w.2.1 13 0)), some (.int (nI k)), some (.int (nI i)), none, none, none] [] σ
  have h1 := r_NK hI
  have h2 := guiltN_or (rd σ 13 1) k i
  have j17 : ∀ (e : Nat), (e = if guiltN (rd σ 13 1) k i = k then i else k) → (e < 16) → (e ≠ guiltN (rd σ 13 1) k i) → (guiltN (rd σ 13 1) k i < 16) →  J G E w 0 0 17 [some (.ref (w.2.1 13 0)), some (.int (nI k)), some (.int (nI i)), some (.int (nI (guiltN (rd σ 13 1) k i))), none, none] [.int (nI e)] σ := by
    intro e he he1 he2 hg1
    refine J_istore hC dX10_verdict_17 (Nat.le_of_ble_eq_true rfl) rfl ?_
    dsimp only [List.set]
    refine J_aload_n hC dX10_verdict_19 rfl rfl ?_
    refine gX10_7 hC hM dX10_verdict_20 ?_
    refine J_iconst (v := nI 3) hC dX10_verdict_23 (by decide) ?_
    refine J_iaload hC (hM.1 1 (by decide)) rfl rfl (by omega) (by decide) dX10_verdict_24 ?_
    refine J_aload_n hC dX10_verdict_25 rfl rfl ?_
    refine J_iload_n hC dX10_verdict_26 rfl rfl ?_
    refine J_iconst (v := nI 5) hC dX10_verdict_27 (by decide) ?_
    refine iX10_79 hC hM rfl ⟨by decide, by decide⟩ ⟨by decide, by decide⟩ (Nat.le_of_ble_eq_true rfl) dX10_verdict_28 ?_
    refine c_X10_of hM (by omega) ?_
    dsimp only [Option.toList_some, Option.toList_none, List.cons_append, List.nil_append]
    refine iX10_90 hC rfl ⟨by decide, by decide⟩ ⟨by decide, by decide⟩ (Nat.le_of_ble_eq_true rfl) dX10_verdict_31 ?_
    refine c_X10_less  ?_
    dsimp only [Option.toList_some, Option.toList_none, List.cons_append, List.nil_append]
    refine J_istore hC dX10_verdict_34 (Nat.le_of_ble_eq_true rfl) rfl ?_
    dsimp only [List.set]
    refine J_aload_n hC dX10_verdict_36 rfl rfl ?_
    refine gX10_7 hC hM dX10_verdict_37 ?_
    refine J_bipush (v := nI 70) hC dX10_verdict_40 (by decide) ?_
    refine J_bipush (v := nI 9) hC dX10_verdict_42 (by decide) ?_
    refine J_iload_n hC dX10_verdict_44 rfl rfl ?_
    refine J_imul_n hC dX10_verdict_45 ?_
    refine J_iadd_n hC dX10_verdict_46 ?_
    refine J_iconst (v := nI 5) hC dX10_verdict_47 (by decide) ?_
    refine J_iadd_n hC dX10_verdict_48 ?_
    refine J_dup2 hC dX10_verdict_49 rfl rfl ?_
    refine J_iaload hC (hM.1 1 (by decide)) rfl rfl (by omega) (by decide) dX10_verdict_50 ?_
    refine J_iload hC dX10_verdict_51 rfl ?_
    refine J_isub hC dX10_verdict_53 ?_
    refine J_iastore hC (hM.1 1 (by decide)) rfl rfl (by omega) (by decide) dX10_verdict_54 ?_
    rw [wr_setA1]
    refine J_aload_n hC dX10_verdict_55 rfl rfl ?_
    refine gX10_7 hC hM dX10_verdict_56 ?_
    refine J_bipush (v := nI 70) hC dX10_verdict_59 (by decide) ?_
    refine J_bipush (v := nI 9) hC dX10_verdict_61 (by decide) ?_
    refine J_iload hC dX10_verdict_63 rfl ?_
    refine J_imul_n hC dX10_verdict_65 ?_
    refine J_iadd_n hC dX10_verdict_66 ?_
    refine J_iconst (v := nI 5) hC dX10_verdict_67 (by decide) ?_
    refine J_iadd_n hC dX10_verdict_68 ?_
    refine J_dup2 hC dX10_verdict_69 rfl rfl ?_
    refine J_iaload hC (hM.1 1 (by decide)) rfl rfl (by omega) (by decide) dX10_verdict_70 ?_
    refine J_top (show _ = rd σ 13 1 (70 + 9 * e + 5) from by rw [rd_setA, upd_n (by omega)]) ?_
    refine J_iload hC dX10_verdict_71 rfl ?_
    refine J_iadd hC dX10_verdict_73 ?_
    refine J_iastore hC (hM.1 1 (by decide)) rfl rfl (by omega) (by decide) dX10_verdict_74 ?_
    rw [wr_setA2]
    refine J_aload_n hC dX10_verdict_75 rfl rfl ?_
    refine gX10_7 hC hM dX10_verdict_76 ?_
    refine J_bipush (v := nI 70) hC dX10_verdict_79 (by decide) ?_
    refine J_bipush (v := nI 9) hC dX10_verdict_81 (by decide) ?_
    refine J_iload_n hC dX10_verdict_83 rfl rfl ?_
    refine J_imul_n hC dX10_verdict_84 ?_
    refine J_iadd_n hC dX10_verdict_85 ?_
    refine J_bipush (v := nI 7) hC dX10_verdict_86 (by decide) ?_
    refine J_iadd_n hC dX10_verdict_88 ?_
    refine J_dup2 hC dX10_verdict_89 rfl rfl ?_
    refine J_iaload hC (hM.1 1 (by decide)) rfl rfl (by omega) (by decide) dX10_verdict_90 ?_
    refine J_top (show _ = rd σ 13 1 (70 + 9 * k + 7) from by rw [rd_setA, upd_n (by omega), upd_n (by omega)]) ?_
    refine J_iconst (v := nI 1) hC dX10_verdict_91 (by decide) ?_
    refine J_iadd hC dX10_verdict_92 ?_
    refine J_iastore hC (hM.1 1 (by decide)) rfl rfl (by omega) (by decide) dX10_verdict_93 ?_
    rw [wr_setA2]
    refine J_aload_n hC dX10_verdict_94 rfl rfl ?_
    refine gX10_7 hC hM dX10_verdict_95 ?_
    refine J_bipush (v := nI 70) hC dX10_verdict_98 (by decide) ?_
    refine J_bipush (v := nI 9) hC dX10_verdict_100 (by decide) ?_
    refine J_iload_n hC dX10_verdict_102 rfl rfl ?_
    refine J_imul_n hC dX10_verdict_103 ?_
    refine J_iadd_n hC dX10_verdict_104 ?_
    refine J_bipush (v := nI 7) hC dX10_verdict_105 (by decide) ?_
    refine J_iadd_n hC dX10_verdict_107 ?_
    refine J_dup2 hC dX10_verdict_108 rfl rfl ?_
    refine J_iaload hC (hM.1 1 (by decide)) rfl rfl (by omega) (by decide) dX10_verdict_109 ?_
    refine J_top (show _ = rd σ 13 1 (70 + 9 * i + 7) from by rw [rd_setA, upd_n (by omega), upd_n (by omega), upd_n (by omega)]) ?_
    refine J_iconst (v := nI 1) hC dX10_verdict_110 (by decide) ?_
    refine J_iadd hC dX10_verdict_111 ?_
    refine J_iastore hC (hM.1 1 (by decide)) rfl rfl (by omega) (by decide) dX10_verdict_112 ?_
    rw [wr_setA2]
    refine J_aload_n hC dX10_verdict_113 rfl rfl ?_
    refine gX10_37 hC hM dX10_verdict_114 ?_
    refine J_iload_n hC dX10_verdict_117 rfl rfl ?_
    refine J_iconst (v := nI 1) hC dX10_verdict_118 (by decide) ?_
    refine J_zastore hC (hM.1 8 (by decide)) rfl rfl (by omega) (by decide) (by decide) dX10_verdict_119 ?_
    refine J_aload_n hC dX10_verdict_120 rfl rfl ?_
    refine gX10_37 hC hM dX10_verdict_121 ?_
    refine J_iload_n hC dX10_verdict_124 rfl rfl ?_
    refine J_iconst (v := nI 1) hC dX10_verdict_125 (by decide) ?_
    refine J_zastore hC (hM.1 8 (by decide)) rfl rfl (by omega) (by decide) (by decide) dX10_verdict_126 ?_
    refine J_return hC hR dX10_verdict_127 (by decide) (by decide) ?_
    subst he
    exact hq
  refine J_aload_n hC dX10_verdict_0 rfl rfl ?_
  refine J_iload_n hC dX10_verdict_1 rfl rfl ?_
  refine J_iload_n hC dX10_verdict_2 rfl rfl ?_
  refine iX10_162 hC hM rfl ⟨by decide, by decide⟩ ⟨by decide, by decide⟩ (Nat.le_of_ble_eq_true rfl) dX10_verdict_3 ?_
  refine c_X10_guilty hM hI hk hi hh ?_
  dsimp only [Option.toList_some, Option.toList_none, List.cons_append, List.nil_append]
  refine J_istore_n hC dX10_verdict_6 rfl (Nat.le_of_ble_eq_true rfl) rfl ?_
  dsimp only [List.set]
  refine J_iload_n hC dX10_verdict_7 rfl rfl ?_
  refine J_iload_n hC dX10_verdict_8 rfl rfl ?_
  refine J_icmp_ne_n hC (by omega) (by omega) (tgt := 16) dX10_verdict_9 rfl (fun hg => ?_) (fun hg => ?_)
  · refine J_iload_n hC dX10_verdict_16 rfl rfl ?_
    first
    | exact j17 k (if_neg hg).symm (by omega) (by omega) (by omega)
    | exact j17 i (if_pos hg).symm (by omega) (by omega) (by omega)
  · refine J_iload_n hC dX10_verdict_12 rfl rfl ?_
    refine J_goto (tgt := 17) hC dX10_verdict_13 rfl ?_
    first
    | exact j17 k (if_neg hg).symm (by omega) (by omega) (by omega)
    | exact j17 i (if_pos hg).symm (by omega) (by omega) (by omega)
set_option maxHeartbeats 4000000 in
set_option maxRecDepth 100000 in
theorem c_X10_tied {G : GC} {w : Lay} {σ : Mem} {Q : Lay → Option Value → Mem → Prop} {Qx : Lay → String → Mem → Prop} {hm : Nat} (hM : LM w) (hI : RowOK hm (rd σ 13 1)) {k v : Nat} (hk : k < nv (rd σ 13 1) 6) (hq : Q w (some (.int (nI (nv (rd σ 13 1) (70 + 9 * k + 4))))) (setA σ (tieA (rd σ 13 1) k v))) : MX10_tied G w σ [.ref (w.2.1 13 0), .int (nI k), .int (nI v)] Q Qx := by
  refine mt_start (by decide) rfl (Nat.le_of_ble_eq_true rfl) (fun E hC hR hN => ?_)
  show J G E w 0 0 0 [some (.ref (w.2.1 13 0)), some (.int (nI k)), some (.int (nI v)), none] [] σ
  have h1 := r_NK hI
  refine J_aload_n hC dX10_tied_0 rfl rfl ?_
  refine J_iload_n hC dX10_tied_1 rfl rfl ?_
  refine J_iconst (v := nI 4) hC dX10_tied_2 (by decide) ?_
  refine iX10_79 hC hM rfl ⟨by decide, by decide⟩ ⟨by decide, by decide⟩ (Nat.le_of_ble_eq_true rfl) dX10_tied_3 ?_
  refine c_X10_of hM (by omega) ?_
  dsimp only [Option.toList_some, Option.toList_none, List.cons_append, List.nil_append]
  refine J_top (r_KN hI hk).1 ?_
  refine J_istore_n hC dX10_tied_6 rfl (Nat.le_of_ble_eq_true rfl) rfl ?_
  dsimp only [List.set]
  refine J_aload_n hC dX10_tied_7 rfl rfl ?_
  refine J_iload_n hC dX10_tied_8 rfl rfl ?_
  refine iX10_172 hC hM rfl ⟨by decide, by decide⟩ ⟨by decide, by decide⟩ (Nat.le_of_ble_eq_true rfl) dX10_tied_9 ?_
  refine c_X10_cancelled hM hI (by omega) ?_
  dsimp only [Option.toList_some, Option.toList_none, List.cons_append, List.nil_append]
  refine J_pop hC dX10_tied_12 rfl ?_
  refine J_aload_n hC dX10_tied_13 rfl rfl ?_
  refine gX10_7 hC hM dX10_tied_14 ?_
  refine J_bipush (v := nI 70) hC dX10_tied_17 (by decide) ?_
  refine J_bipush (v := nI 9) hC dX10_tied_19 (by decide) ?_
  refine J_iload_n hC dX10_tied_21 rfl rfl ?_
  refine J_imul_n hC dX10_tied_22 ?_
  refine J_iadd_n hC dX10_tied_23 ?_
  refine J_iconst (v := nI 4) hC dX10_tied_24 (by decide) ?_
  refine J_iadd_n hC dX10_tied_25 ?_
  refine J_iload_n hC dX10_tied_26 rfl rfl ?_
  
  refine J_iastore hC (hM.1 1 (by decide)) rfl rfl (by omega) (by decide) dX10_tied_27 ?_
  refine J_iload_n hC dX10_tied_28 rfl rfl ?_
  refine J_ireturn hC hR dX10_tied_29 (by decide) (by decide) ?_
  rw [wr_setA2]
  exact hq
set_option maxHeartbeats 4000000 in
set_option maxRecDepth 100000 in
theorem c_X10_repaired {G : GC} {w : Lay} {σ : Mem} {Q : Lay → Option Value → Mem → Prop} {Qx : Lay → String → Mem → Prop} {hm : Nat} (hM : LM w) (hI : RowOK hm (rd σ 13 1)) {k : Nat} (hk : k < nv (rd σ 13 1) 6) (hq : Q w (some (.int (nI (2 * nv (rd σ 13 1) (70 + 9 * k + 4))))) (setA σ (repA (rd σ 13 1) k))) : MX10_repaired G w σ [.ref (w.2.1 13 0), .int (nI k)] Q Qx := by
  refine mt_start (by decide) rfl (Nat.le_of_ble_eq_true rfl) (fun E hC hR hN => ?_)
  show J G E w 0 0 0 [some (.ref (w.2.1 13 0)), some (.int (nI k)), none] [] σ
  have h1 := r_NK hI
  refine J_iconst (v := nI 2) hC dX10_repaired_0 (by decide) ?_
  refine J_aload_n hC dX10_repaired_1 rfl rfl ?_
  refine J_iload_n hC dX10_repaired_2 rfl rfl ?_
  refine J_iconst (v := nI 4) hC dX10_repaired_3 (by decide) ?_
  refine iX10_79 hC hM rfl ⟨by decide, by decide⟩ ⟨by decide, by decide⟩ (Nat.le_of_ble_eq_true rfl) dX10_repaired_4 ?_
  refine c_X10_of hM (by omega) ?_
  dsimp only [Option.toList_some, Option.toList_none, List.cons_append, List.nil_append]
  refine J_top (r_KN hI hk).1 ?_
  refine J_imul_n hC dX10_repaired_7 ?_
  refine J_istore_n hC dX10_repaired_8 rfl (Nat.le_of_ble_eq_true rfl) rfl ?_
  dsimp only [List.set]
  refine J_aload_n hC dX10_repaired_9 rfl rfl ?_
  refine gX10_7 hC hM dX10_repaired_10 ?_
  refine J_bipush (v := nI 70) hC dX10_repaired_13 (by decide) ?_
  refine J_bipush (v := nI 9) hC dX10_repaired_15 (by decide) ?_
  refine J_iload_n hC dX10_repaired_17 rfl rfl ?_
  refine J_imul_n hC dX10_repaired_18 ?_
  refine J_iadd_n hC dX10_repaired_19 ?_
  refine J_iconst (v := nI 5) hC dX10_repaired_20 (by decide) ?_
  refine J_iadd_n hC dX10_repaired_21 ?_
  refine J_dup2 hC dX10_repaired_22 rfl rfl ?_
  refine J_iaload hC (hM.1 1 (by decide)) rfl rfl (by omega) (by decide) dX10_repaired_23 ?_
  refine J_iload_n hC dX10_repaired_24 rfl rfl ?_
  refine J_isub hC dX10_repaired_25 ?_
  refine J_iastore hC (hM.1 1 (by decide)) rfl rfl (by omega) (by decide) dX10_repaired_26 ?_
  rw [wr_setA1]
  refine J_aload_n hC dX10_repaired_27 rfl rfl ?_
  refine gX10_7 hC hM dX10_repaired_28 ?_
  refine J_bipush (v := nI 9) hC dX10_repaired_31 (by decide) ?_
  refine J_dup2 hC dX10_repaired_33 rfl rfl ?_
  refine J_iaload hC (hM.1 1 (by decide)) rfl rfl (by omega) (by decide) dX10_repaired_34 ?_
  refine J_top (show _ = rd σ 13 1 9 from by rw [rd_setA, upd_n (by omega)]) ?_
  refine J_iload_n hC dX10_repaired_35 rfl rfl ?_
  refine J_iadd hC dX10_repaired_36 ?_
  refine J_iastore hC (hM.1 1 (by decide)) rfl rfl (by omega) (by decide) dX10_repaired_37 ?_
  rw [wr_setA2]
  refine J_aload_n hC dX10_repaired_38 rfl rfl ?_
  refine gX10_7 hC hM dX10_repaired_39 ?_
  refine J_bipush (v := nI 70) hC dX10_repaired_42 (by decide) ?_
  refine J_bipush (v := nI 9) hC dX10_repaired_44 (by decide) ?_
  refine J_iload_n hC dX10_repaired_46 rfl rfl ?_
  refine J_imul_n hC dX10_repaired_47 ?_
  refine J_iadd_n hC dX10_repaired_48 ?_
  refine J_bipush (v := nI 6) hC dX10_repaired_49 (by decide) ?_
  refine J_iadd_n hC dX10_repaired_51 ?_
  refine J_iconst (v := nI 0) hC dX10_repaired_52 (by decide) ?_
  refine J_iastore hC (hM.1 1 (by decide)) rfl rfl (by omega) (by decide) dX10_repaired_53 ?_
  rw [wr_setA2]
  refine J_iload_n hC dX10_repaired_54 rfl rfl ?_
  refine J_ireturn hC hR dX10_repaired_55 (by decide) (by decide) ?_
  exact hq
set_option maxHeartbeats 4000000 in
set_option maxRecDepth 100000 in
theorem c_X10_funded {G : GC} {w : Lay} {σ : Mem} {Q : Lay → Option Value → Mem → Prop} {Qx : Lay → String → Mem → Prop} {hm : Nat} (hM : LM w) (hI : RowOK hm (rd σ 13 1)) {k : Nat} {c : Int32} (hk : k < nv (rd σ 13 1) 6) (hq : Q w (some (.int ((rd σ 13 1) (70 + 9 * k + 5) + fundV (rd σ 13 1) k c))) (setA σ (fundA (rd σ 13 1) k c))) : MX10_funded G w σ [.ref (w.2.1 13 0), .int (nI k), .int c] Q Qx := by
  refine mt_start (by decide) rfl (Nat.le_of_ble_eq_true rfl) (fun E hC hR hN => ?_)
  show J G E w 0 0 0 [some (.ref (w.2.1 13 0)), some (.int (nI k)), some (.int c), none, none] [] σ
  have h1 := r_NK hI
  have j23 :  J G E w 0 0 23 [some (.ref (w.2.1 13 0)), some (.int (nI k)), some (.int c), some (.int (nI 99999 - (rd σ 13 1) (70 + 9 * k + 5))), none] [.int (fundV (rd σ 13 1) k c)] σ := by
    refine J_istore hC dX10_funded_23 (Nat.le_of_ble_eq_true rfl) rfl ?_
    dsimp only [List.set]
    refine J_aload_n hC dX10_funded_25 rfl rfl ?_
    refine gX10_7 hC hM dX10_funded_26 ?_
    refine J_bipush (v := nI 70) hC dX10_funded_29 (by decide) ?_
    refine J_bipush (v := nI 9) hC dX10_funded_31 (by decide) ?_
    refine J_iload_n hC dX10_funded_33 rfl rfl ?_
    refine J_imul_n hC dX10_funded_34 ?_
    refine J_iadd_n hC dX10_funded_35 ?_
    refine J_iconst (v := nI 5) hC dX10_funded_36 (by decide) ?_
    refine J_iadd_n hC dX10_funded_37 ?_
    refine J_dup2 hC dX10_funded_38 rfl rfl ?_
    refine J_iaload hC (hM.1 1 (by decide)) rfl rfl (by omega) (by decide) dX10_funded_39 ?_
    refine J_iload hC dX10_funded_40 rfl ?_
    refine J_iadd hC dX10_funded_42 ?_
    refine J_iastore hC (hM.1 1 (by decide)) rfl rfl (by omega) (by decide) dX10_funded_43 ?_
    rw [wr_setA1]
    refine J_aload_n hC dX10_funded_44 rfl rfl ?_
    refine gX10_7 hC hM dX10_funded_45 ?_
    refine J_bipush (v := nI 10) hC dX10_funded_48 (by decide) ?_
    refine J_dup2 hC dX10_funded_50 rfl rfl ?_
    refine J_iaload hC (hM.1 1 (by decide)) rfl rfl (by omega) (by decide) dX10_funded_51 ?_
    refine J_top (show _ = rd σ 13 1 10 from by rw [rd_setA, upd_n (by omega)]) ?_
    refine J_iload hC dX10_funded_52 rfl ?_
    refine J_iadd hC dX10_funded_54 ?_
    refine J_iastore hC (hM.1 1 (by decide)) rfl rfl (by omega) (by decide) dX10_funded_55 ?_
    rw [wr_setA2]
    show J _ _ _ _ _ _ _ _ (setA σ (fundA (rd σ 13 1) k c))
    refine J_aload_n hC dX10_funded_56 rfl rfl ?_
    refine J_iload_n hC dX10_funded_57 rfl rfl ?_
    refine J_iconst (v := nI 5) hC dX10_funded_58 (by decide) ?_
    refine iX10_79 hC hM rfl ⟨by decide, by decide⟩ ⟨by decide, by decide⟩ (Nat.le_of_ble_eq_true rfl) dX10_funded_59 ?_
    refine c_X10_of hM (by omega) ?_
    dsimp only [Option.toList_some, Option.toList_none, List.cons_append, List.nil_append]
    refine J_ireturn hC hR dX10_funded_62 (by decide) (by decide) ?_
    rw [rd_setA]
    have e : fundA (rd σ 13 1) k c (70 + 9 * k + 5) = (rd σ 13 1) (70 + 9 * k + 5) + fundV (rd σ 13 1) k c := by
      unfold fundA
      rw [upd_n (by omega), upd_s]
    rw [e]
    exact hq
  refine J_ldc (v := nI 99999) hC dX10_funded_0 q8_68 ?_
  refine J_aload_n hC dX10_funded_2 rfl rfl ?_
  refine J_iload_n hC dX10_funded_3 rfl rfl ?_
  refine J_iconst (v := nI 5) hC dX10_funded_4 (by decide) ?_
  refine iX10_79 hC hM rfl ⟨by decide, by decide⟩ ⟨by decide, by decide⟩ (Nat.le_of_ble_eq_true rfl) dX10_funded_5 ?_
  refine c_X10_of hM (by omega) ?_
  dsimp only [Option.toList_some, Option.toList_none, List.cons_append, List.nil_append]
  refine J_isub hC dX10_funded_8 ?_
  refine J_istore_n hC dX10_funded_9 rfl (Nat.le_of_ble_eq_true rfl) rfl ?_
  dsimp only [List.set]
  refine J_iload_n hC dX10_funded_10 rfl rfl ?_
  refine J_if_ge hC (tgt := 18) dX10_funded_11 rfl (fun hb => ?_) (fun hb => ?_)
  · refine J_iload_n hC dX10_funded_18 rfl rfl ?_
    refine J_iload_n hC dX10_funded_19 rfl rfl ?_
    refine iX10_90 hC rfl ⟨by decide, by decide⟩ ⟨by decide, by decide⟩ (Nat.le_of_ble_eq_true rfl) dX10_funded_20 ?_
    refine c_X10_less  ?_
    dsimp only [Option.toList_some, Option.toList_none, List.cons_append, List.nil_append]
    first
    | exact J_cong j23 (h3 := by unfold fundV; rw [if_neg (by rw [Int32.lt_iff_toInt_lt]; rw [Int32.le_iff_toInt_le] at hb; omega)])
    | exact J_cong j23 (h3 := by unfold fundV; rw [if_pos (by rw [Int32.lt_iff_toInt_lt]; rw [Int32.le_iff_toInt_le] at hb; omega)]; rfl)
  · refine J_iconst (v := nI 0) hC dX10_funded_14 (by decide) ?_
    refine J_goto (tgt := 23) hC dX10_funded_15 rfl ?_
    first
    | exact J_cong j23 (h3 := by unfold fundV; rw [if_neg (by rw [Int32.lt_iff_toInt_lt]; rw [Int32.le_iff_toInt_le] at hb; omega)])
    | exact J_cong j23 (h3 := by unfold fundV; rw [if_pos (by rw [Int32.lt_iff_toInt_lt]; rw [Int32.le_iff_toInt_le] at hb; omega)]; rfl)
