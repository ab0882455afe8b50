set_option maxHeartbeats 4000000 in
set_option maxRecDepth 100000 in
theorem c_X4_rangesMeet {G : GC} {w : Lay} {σ : Mem} {Q : Lay → Option Value → Mem → Prop} {Qx : Lay → String → Mem → Prop} {a b c d : Int} (hr : (-1000 ≤ a ∧ a ≤ 1000) ∧ (-1000 ≤ b ∧ b ≤ 1000) ∧ (-1000 ≤ c ∧ c ≤ 1000) ∧ (-1000 ≤ d ∧ d ≤ 1000)) (ht : rmeet a b c d → Q w (some (.int (nI 1))) σ) (hf : ¬ rmeet a b c d → Q w (some (.int (nI 0))) σ) : MX4_rangesMeet G w σ [.int (iI a), .int (iI b), .int (iI c), .int (iI d)] Q Qx := by
  refine mt_start (by decide) rfl (Nat.le_of_ble_eq_true rfl) (fun E hC hR hN => ?_)
  show J G E w 0 0 0 [some (.int (iI a)), some (.int (iI b)), some (.int (iI c)), some (.int (iI d))] [] σ
  refine J_iload_n hC dX4_rangesMeet_0 rfl rfl ?_
  refine J_iload_n hC dX4_rangesMeet_1 rfl rfl ?_
  refine J_min hC rfl q2_203 (by decide) (Nat.le_of_ble_eq_true rfl) (by decide) (by decide) dX4_rangesMeet_2 ?_
  rw [imin_z (by omega) (by omega)]
  refine J_iload_n hC dX4_rangesMeet_5 rfl rfl ?_
  refine J_iload_n hC dX4_rangesMeet_6 rfl rfl ?_
  refine J_max hC rfl q2_192 (by decide) (Nat.le_of_ble_eq_true rfl) (by decide) (by decide) dX4_rangesMeet_7 ?_
  rw [imax_z (by omega) (by omega)]
  refine J_icmp_gt_z hC rfl rfl (by omega) (by omega) (tgt := 30) dX4_rangesMeet_10 rfl (fun hb0 => ?_) (fun hb0 => ?_)
  · refine J_iconst (v := nI 0) hC dX4_rangesMeet_30 (by decide) ?_
    refine J_zreturn hC hR dX4_rangesMeet_31 (by decide) (by decide) (by decide) ?_
    exact hf (by unfold rmeet; omega)
  · refine J_iload_n hC dX4_rangesMeet_13 rfl rfl ?_
    refine J_iload_n hC dX4_rangesMeet_14 rfl rfl ?_
    refine J_min hC rfl q2_203 (by decide) (Nat.le_of_ble_eq_true rfl) (by decide) (by decide) dX4_rangesMeet_15 ?_
    rw [imin_z (by omega) (by omega)]
    refine J_iload_n hC dX4_rangesMeet_18 rfl rfl ?_
    refine J_iload_n hC dX4_rangesMeet_19 rfl rfl ?_
    refine J_max hC rfl q2_192 (by decide) (Nat.le_of_ble_eq_true rfl) (by decide) (by decide) dX4_rangesMeet_20 ?_
    rw [imax_z (by omega) (by omega)]
    refine J_icmp_gt_z hC rfl rfl (by omega) (by omega) (tgt := 30) dX4_rangesMeet_23 rfl (fun hb1 => ?_) (fun hb1 => ?_)
    · refine J_iconst (v := nI 0) hC dX4_rangesMeet_30 (by decide) ?_
      refine J_zreturn hC hR dX4_rangesMeet_31 (by decide) (by decide) (by decide) ?_
      exact hf (by unfold rmeet; omega)
    · refine J_iconst (v := nI 1) hC dX4_rangesMeet_26 (by decide) ?_
      refine J_goto (tgt := 31) hC dX4_rangesMeet_27 rfl ?_
      refine J_zreturn hC hR dX4_rangesMeet_31 (by decide) (by decide) (by decide) ?_
      exact ht (by unfold rmeet; omega)
set_option maxHeartbeats 4000000 in
set_option maxRecDepth 100000 in
theorem c_X4_sideOf {G : GC} {w : Lay} {σ : Mem} {Q : Lay → Option Value → Mem → Prop} {Qx : Lay → String → Mem → Prop} {a b c d e f : Int} (hq : Q w (some (.int (iI (turn a b c d e f)))) σ) : MX4_sideOf G w σ [.int (iI a), .int (iI b), .int (iI c), .int (iI d), .int (iI e), .int (iI f)] Q Qx := by
  refine mt_start (by decide) rfl (Nat.le_of_ble_eq_true rfl) (fun E hC hR hN => ?_)
  show J G E w 0 0 0 [some (.int (iI a)), some (.int (iI b)), some (.int (iI c)), some (.int (iI d)), some (.int (iI e)), some (.int (iI f))] [] σ
  refine J_iload_n hC dX4_sideOf_0 rfl rfl ?_
  refine J_iload_n hC dX4_sideOf_1 rfl rfl ?_
  refine J_isub_z hC rfl rfl dX4_sideOf_2 ?_
  refine J_iload hC dX4_sideOf_3 rfl ?_
  refine J_iload_n hC dX4_sideOf_5 rfl rfl ?_
  refine J_isub_z hC rfl rfl dX4_sideOf_6 ?_
  refine J_imul_z hC rfl rfl dX4_sideOf_7 ?_
  refine J_iload_n hC dX4_sideOf_8 rfl rfl ?_
  refine J_iload_n hC dX4_sideOf_9 rfl rfl ?_
  refine J_isub_z hC rfl rfl dX4_sideOf_10 ?_
  refine J_iload hC dX4_sideOf_11 rfl ?_
  refine J_iload_n hC dX4_sideOf_13 rfl rfl ?_
  refine J_isub_z hC rfl rfl dX4_sideOf_14 ?_
  refine J_imul_z hC rfl rfl dX4_sideOf_15 ?_
  refine J_isub_z hC rfl rfl dX4_sideOf_16 ?_
  refine J_ireturn hC hR dX4_sideOf_17 (by decide) (by decide) ?_
  exact hq
set_option maxHeartbeats 4000000 in
set_option maxRecDepth 100000 in
theorem c_X4_onOneSide {G : GC} {w : Lay} {σ : Mem} {Q : Lay → Option Value → Mem → Prop} {Qx : Lay → String → Mem → Prop} {a b : Int} (ha : -1000000000 ≤ a ∧ a ≤ 1000000000) (hb : -1000000000 ≤ b ∧ b ≤ 1000000000) (ht : oneS a b → Q w (some (.int (nI 1))) σ) (hf : ¬ oneS a b → Q w (some (.int (nI 0))) σ) : MX4_onOneSide G w σ [.int (iI a), .int (iI b)] Q Qx := by
  refine mt_start (by decide) rfl (Nat.le_of_ble_eq_true rfl) (fun E hC hR hN => ?_)
  show J G E w 0 0 0 [some (.int (iI a)), some (.int (iI b))] [] σ
  refine J_iload_n hC dX4_onOneSide_0 rfl rfl ?_
  refine J_if_le_z hC rfl (by omega) (tgt := 8) dX4_onOneSide_1 rfl (fun hb0 => ?_) (fun hb0 => ?_)
  · refine J_iload_n hC dX4_onOneSide_8 rfl rfl ?_
    refine J_if_ge_z hC rfl (by omega) (tgt := 20) dX4_onOneSide_9 rfl (fun hb1 => ?_) (fun hb1 => ?_)
    · refine J_iconst (v := nI 0) hC dX4_onOneSide_20 (by decide) ?_
      refine J_zreturn hC hR dX4_onOneSide_21 (by decide) (by decide) (by decide) ?_
      exact hf (by unfold oneS; omega)
    · refine J_iload_n hC dX4_onOneSide_12 rfl rfl ?_
      refine J_if_ge_z hC rfl (by omega) (tgt := 20) dX4_onOneSide_13 rfl (fun hb2 => ?_) (fun hb2 => ?_)
      · refine J_iconst (v := nI 0) hC dX4_onOneSide_20 (by decide) ?_
        refine J_zreturn hC hR dX4_onOneSide_21 (by decide) (by decide) (by decide) ?_
        exact hf (by unfold oneS; omega)
      · refine J_iconst (v := nI 1) hC dX4_onOneSide_16 (by decide) ?_
        refine J_goto (tgt := 21) hC dX4_onOneSide_17 rfl ?_
        refine J_zreturn hC hR dX4_onOneSide_21 (by decide) (by decide) (by decide) ?_
        exact ht (by unfold oneS; omega)
  · refine J_iload_n hC dX4_onOneSide_4 rfl rfl ?_
    refine J_if_gt_z hC rfl (by omega) (tgt := 16) dX4_onOneSide_5 rfl (fun hb3 => ?_) (fun hb3 => ?_)
    · refine J_iconst (v := nI 1) hC dX4_onOneSide_16 (by decide) ?_
      refine J_goto (tgt := 21) hC dX4_onOneSide_17 rfl ?_
      refine J_zreturn hC hR dX4_onOneSide_21 (by decide) (by decide) (by decide) ?_
      exact ht (by unfold oneS; omega)
    · refine J_iload_n hC dX4_onOneSide_8 rfl rfl ?_
      refine J_if_ge_z hC rfl (by omega) (tgt := 20) dX4_onOneSide_9 rfl (fun hb4 => ?_) (fun hb4 => ?_)
      · refine J_iconst (v := nI 0) hC dX4_onOneSide_20 (by decide) ?_
        refine J_zreturn hC hR dX4_onOneSide_21 (by decide) (by decide) (by decide) ?_
        exact hf (by unfold oneS; omega)
      · refine J_iload_n hC dX4_onOneSide_12 rfl rfl ?_
        refine J_if_ge_z hC rfl (by omega) (tgt := 20) dX4_onOneSide_13 rfl (fun hb5 => ?_) (fun hb5 => ?_)
        · refine J_iconst (v := nI 0) hC dX4_onOneSide_20 (by decide) ?_
          refine J_zreturn hC hR dX4_onOneSide_21 (by decide) (by decide) (by decide) ?_
          exact hf (by unfold oneS; omega)
        · refine J_iconst (v := nI 1) hC dX4_onOneSide_16 (by decide) ?_
          refine J_goto (tgt := 21) hC dX4_onOneSide_17 rfl ?_
          refine J_zreturn hC hR dX4_onOneSide_21 (by decide) (by decide) (by decide) ?_
          exact ht (by unfold oneS; omega)
set_option maxHeartbeats 4000000 in
set_option maxRecDepth 100000 in
theorem c_X4_stringsCross {G : GC} {w : Lay} {σ : Mem} {Q : Lay → Option Value → Mem → Prop} {Qx : Lay → String → Mem → Prop} {o hm : Nat} {A : Rw} (hw : LO w o) (hO : OAt σ o A) (hI : RowOK hm A) {k i h : Nat} (hk : k < nv A 6) (hi : i < nv A 6) (hh : h < 2 ^ 31) (ht : crossN A k i h → Q w (some (.int (nI 1))) σ) (hf : ¬ crossN A k i h → Q w (some (.int (nI 0))) σ) : MX4_stringsCross G w σ [.ref (w.2.1 o 0), .int (nI k), .int (nI i), .int (nI h)] Q Qx := by
  refine mt_start (by decide) rfl (Nat.le_of_ble_eq_true rfl) (fun E hC hR hN => ?_)
  show J G E w 0 0 0 [some (.ref (w.2.1 o 0)), some (.int (nI k)), some (.int (nI i)), some (.int (nI h)), none, none, none, none, none, none, none, none, none, none, none, none] [] σ
  have h1 := r_NK hI
  have kn1 := r_KN hI hk
  have kn2 := r_KN hI hi
  have r1 := reachW_le hI hk (nv A (70 + 9 * k + 4)) h
  have r2 := reachW_le hI hi (nv A (70 + 9 * i + 4)) h
  have x1 := xAf_rng hI hk r1 h
  have y1 := yAf_rng hI hk r1 h
  have x2 := xAf_rng hI hi r2 h
  have y2 := yAf_rng hI hi r2 h
  have w0 := r_W hI
  have w1 := r_H hI
  have a1 := r_KX hI hk
  have b1 := r_KY hI hk
  have a2 := r_KX hI hi
  have b2 := r_KY hI hi
  have hX := meet_crossN (A := A) (h := h) hI hk hi
  unfold reachN at hX
  refine J_aload_n hC dX4_stringsCross_0 rfl rfl ?_
  refine J_iload_n hC dX4_stringsCross_1 rfl rfl ?_
  refine J_iload_n hC dX4_stringsCross_2 rfl rfl ?_
  refine iX4_136 hC hw rfl ⟨by decide, by decide⟩ ⟨by decide, by decide⟩ (Nat.le_of_ble_eq_true rfl) dX4_stringsCross_3 ?_
  refine c_X4_windAt hw hO hI hk hh ?_
  dsimp only [Option.toList_some, Option.toList_none, List.cons_append, List.nil_append]
  refine J_istore hC dX4_stringsCross_6 (Nat.le_of_ble_eq_true rfl) rfl ?_
  dsimp only [List.set]
  refine J_aload_n hC dX4_stringsCross_8 rfl rfl ?_
  refine J_iload_n hC dX4_stringsCross_9 rfl rfl ?_
  refine J_aload_n hC dX4_stringsCross_10 rfl rfl ?_
  refine gX4_21 hC hw dX4_stringsCross_11 ?_
  refine gX4_89 hC hw dX4_stringsCross_14 ?_
  refine J_iload_n hC dX4_stringsCross_17 rfl rfl ?_
  refine J_iaload hC (hw.2.1 12 (by decide)) (kd_o hw.1) rfl (by omega) (by decide) dX4_stringsCross_18 ?_
  refine J_top (o_N hO hI hk) ?_
  refine J_iload hC dX4_stringsCross_19 rfl ?_
  refine iX4_139 hC hw rfl ⟨by decide, by decide⟩ ⟨by decide, by decide⟩ (Nat.le_of_ble_eq_true rfl) dX4_stringsCross_21 ?_
  refine c_X4_reachIn hw hO hI hk (by omega) hh ?_
  dsimp only [Option.toList_some, Option.toList_none, List.cons_append, List.nil_append]
  refine J_istore hC dX4_stringsCross_24 (Nat.le_of_ble_eq_true rfl) rfl ?_
  dsimp only [List.set]
  refine J_aload_n hC dX4_stringsCross_26 rfl rfl ?_
  refine gX4_21 hC hw dX4_stringsCross_27 ?_
  refine gX4_69 hC hw dX4_stringsCross_30 ?_
  refine J_iload_n hC dX4_stringsCross_33 rfl rfl ?_
  refine J_iaload hC (hw.2.1 7 (by decide)) (kd_o hw.1) rfl (by omega) (by decide) dX4_stringsCross_34 ?_
  refine J_top ((o_X hO hI hk).trans (nI_iI _)) ?_
  refine J_istore hC dX4_stringsCross_35 (Nat.le_of_ble_eq_true rfl) rfl ?_
  dsimp only [List.set]
  refine J_aload_n hC dX4_stringsCross_37 rfl rfl ?_
  refine gX4_21 hC hw dX4_stringsCross_38 ?_
  refine gX4_73 hC hw dX4_stringsCross_41 ?_
  refine J_iload_n hC dX4_stringsCross_44 rfl rfl ?_
  refine J_iaload hC (hw.2.1 8 (by decide)) (kd_o hw.1) rfl (by omega) (by decide) dX4_stringsCross_45 ?_
  refine J_top ((o_Y hO hI hk).trans (nI_iI _)) ?_
  refine J_istore hC dX4_stringsCross_46 (Nat.le_of_ble_eq_true rfl) rfl ?_
  dsimp only [List.set]
  refine J_aload_n hC dX4_stringsCross_48 rfl rfl ?_
  refine J_iload_n hC dX4_stringsCross_49 rfl rfl ?_
  refine J_iload hC dX4_stringsCross_50 rfl ?_
  refine J_iload hC dX4_stringsCross_52 rfl ?_
  refine iX4_125 hC hw rfl ⟨by decide, by decide⟩ ⟨by decide, by decide⟩ (Nat.le_of_ble_eq_true rfl) dX4_stringsCross_54 ?_
  refine c_X4_endXIn hw hO hI hk r1 hh ?_
  dsimp only [Option.toList_some, Option.toList_none, List.cons_append, List.nil_append]
  refine J_istore hC dX4_stringsCross_57 (Nat.le_of_ble_eq_true rfl) rfl ?_
  dsimp only [List.set]
  refine J_aload_n hC dX4_stringsCross_59 rfl rfl ?_
  refine J_iload_n hC dX4_stringsCross_60 rfl rfl ?_
  refine J_iload hC dX4_stringsCross_61 rfl ?_
  refine J_iload hC dX4_stringsCross_63 rfl ?_
  refine iX4_129 hC hw rfl ⟨by decide, by decide⟩ ⟨by decide, by decide⟩ (Nat.le_of_ble_eq_true rfl) dX4_stringsCross_65 ?_
  refine c_X4_endYIn hw hO hI hk r1 hh ?_
  dsimp only [Option.toList_some, Option.toList_none, List.cons_append, List.nil_append]
  refine J_istore hC dX4_stringsCross_68 (Nat.le_of_ble_eq_true rfl) rfl ?_
  dsimp only [List.set]
  refine J_aload_n hC dX4_stringsCross_70 rfl rfl ?_
  refine J_iload_n hC dX4_stringsCross_71 rfl rfl ?_
  refine J_iload_n hC dX4_stringsCross_72 rfl rfl ?_
  refine iX4_136 hC hw rfl ⟨by decide, by decide⟩ ⟨by decide, by decide⟩ (Nat.le_of_ble_eq_true rfl) dX4_stringsCross_73 ?_
  refine c_X4_windAt hw hO hI hi hh ?_
  dsimp only [Option.toList_some, Option.toList_none, List.cons_append, List.nil_append]
  refine J_istore hC dX4_stringsCross_76 (Nat.le_of_ble_eq_true rfl) rfl ?_
  dsimp only [List.set]
  refine J_aload_n hC dX4_stringsCross_78 rfl rfl ?_
  refine J_iload_n hC dX4_stringsCross_79 rfl rfl ?_
  refine J_aload_n hC dX4_stringsCross_80 rfl rfl ?_
  refine gX4_21 hC hw dX4_stringsCross_81 ?_
  refine gX4_89 hC hw dX4_stringsCross_84 ?_
  refine J_iload_n hC dX4_stringsCross_87 rfl rfl ?_
  refine J_iaload hC (hw.2.1 12 (by decide)) (kd_o hw.1) rfl (by omega) (by decide) dX4_stringsCross_88 ?_
  refine J_top (o_N hO hI hi) ?_
  refine J_iload hC dX4_stringsCross_89 rfl ?_
  refine iX4_139 hC hw rfl ⟨by decide, by decide⟩ ⟨by decide, by decide⟩ (Nat.le_of_ble_eq_true rfl) dX4_stringsCross_91 ?_
  refine c_X4_reachIn hw hO hI hi (by omega) hh ?_
  dsimp only [Option.toList_some, Option.toList_none, List.cons_append, List.nil_append]
  refine J_istore hC dX4_stringsCross_94 (Nat.le_of_ble_eq_true rfl) rfl ?_
  dsimp only [List.set]
  refine J_aload_n hC dX4_stringsCross_96 rfl rfl ?_
  refine gX4_21 hC hw dX4_stringsCross_97 ?_
  refine gX4_69 hC hw dX4_stringsCross_100 ?_
  refine J_iload_n hC dX4_stringsCross_103 rfl rfl ?_
  refine J_iaload hC (hw.2.1 7 (by decide)) (kd_o hw.1) rfl (by omega) (by decide) dX4_stringsCross_104 ?_
  refine J_top ((o_X hO hI hi).trans (nI_iI _)) ?_
  refine J_istore hC dX4_stringsCross_105 (Nat.le_of_ble_eq_true rfl) rfl ?_
  dsimp only [List.set]
  refine J_aload_n hC dX4_stringsCross_107 rfl rfl ?_
  refine gX4_21 hC hw dX4_stringsCross_108 ?_
  refine gX4_73 hC hw dX4_stringsCross_111 ?_
  refine J_iload_n hC dX4_stringsCross_114 rfl rfl ?_
  refine J_iaload hC (hw.2.1 8 (by decide)) (kd_o hw.1) rfl (by omega) (by decide) dX4_stringsCross_115 ?_
  refine J_top ((o_Y hO hI hi).trans (nI_iI _)) ?_
  refine J_istore hC dX4_stringsCross_116 (Nat.le_of_ble_eq_true rfl) rfl ?_
  dsimp only [List.set]
  refine J_aload_n hC dX4_stringsCross_118 rfl rfl ?_
  refine J_iload_n hC dX4_stringsCross_119 rfl rfl ?_
  refine J_iload hC dX4_stringsCross_120 rfl ?_
  refine J_iload hC dX4_stringsCross_122 rfl ?_
  refine iX4_125 hC hw rfl ⟨by decide, by decide⟩ ⟨by decide, by decide⟩ (Nat.le_of_ble_eq_true rfl) dX4_stringsCross_124 ?_
  refine c_X4_endXIn hw hO hI hi r2 hh ?_
  dsimp only [Option.toList_some, Option.toList_none, List.cons_append, List.nil_append]
  refine J_istore hC dX4_stringsCross_127 (Nat.le_of_ble_eq_true rfl) rfl ?_
  dsimp only [List.set]
  refine J_aload_n hC dX4_stringsCross_129 rfl rfl ?_
  refine J_iload_n hC dX4_stringsCross_130 rfl rfl ?_
  refine J_iload hC dX4_stringsCross_131 rfl ?_
  refine J_iload hC dX4_stringsCross_133 rfl ?_
  refine iX4_129 hC hw rfl ⟨by decide, by decide⟩ ⟨by decide, by decide⟩ (Nat.le_of_ble_eq_true rfl) dX4_stringsCross_135 ?_
  refine c_X4_endYIn hw hO hI hi r2 hh ?_
  dsimp only [Option.toList_some, Option.toList_none, List.cons_append, List.nil_append]
  refine J_istore hC dX4_stringsCross_138 (Nat.le_of_ble_eq_true rfl) rfl ?_
  dsimp only [List.set]
  refine J_iload hC dX4_stringsCross_140 rfl ?_
  refine J_iload hC dX4_stringsCross_142 rfl ?_
  refine J_iload hC dX4_stringsCross_144 rfl ?_
  refine J_iload hC dX4_stringsCross_146 rfl ?_
  refine iX4_146 hC rfl ⟨by decide, by decide⟩ ⟨by decide, by decide⟩ (Nat.le_of_ble_eq_true rfl) dX4_stringsCross_148 ?_
  refine c_X4_rangesMeet (by omega) (fun m148 => ?_) (fun m148 => ?_)
  · dsimp only [Option.toList_some, Option.toList_none, List.cons_append, List.nil_append]
    refine J_if_eq_n hC (by decide) (tgt := 168) dX4_stringsCross_151 rfl (fun hf => absurd hf (by omega)) (fun _ => ?_)
    refine J_iload hC dX4_stringsCross_154 rfl ?_
    refine J_iload hC dX4_stringsCross_156 rfl ?_
    refine J_iload hC dX4_stringsCross_158 rfl ?_
    refine J_iload hC dX4_stringsCross_160 rfl ?_
    refine iX4_146 hC rfl ⟨by decide, by decide⟩ ⟨by decide, by decide⟩ (Nat.le_of_ble_eq_true rfl) dX4_stringsCross_162 ?_
    refine c_X4_rangesMeet (by omega) (fun m162 => ?_) (fun m162 => ?_)
    · dsimp only [Option.toList_some, Option.toList_none, List.cons_append, List.nil_append]
      refine J_if_ne_n hC (by decide) (tgt := 170) dX4_stringsCross_165 rfl (fun _ => ?_) (fun hf => absurd hf (by omega))
      refine J_iload hC dX4_stringsCross_170 rfl ?_
      refine J_iload hC dX4_stringsCross_172 rfl ?_
      refine J_iload hC dX4_stringsCross_174 rfl ?_
      refine J_iload hC dX4_stringsCross_176 rfl ?_
      refine J_iload hC dX4_stringsCross_178 rfl ?_
      refine J_iload hC dX4_stringsCross_180 rfl ?_
      refine iX4_150 hC rfl ⟨by decide, by decide⟩ ⟨by decide, by decide⟩ (Nat.le_of_ble_eq_true rfl) dX4_stringsCross_182 ?_
      refine c_X4_sideOf  ?_
      dsimp only [Option.toList_some, Option.toList_none, List.cons_append, List.nil_append]
      refine J_iload hC dX4_stringsCross_185 rfl ?_
      refine J_iload hC dX4_stringsCross_187 rfl ?_
      refine J_iload hC dX4_stringsCross_189 rfl ?_
      refine J_iload hC dX4_stringsCross_191 rfl ?_
      refine J_iload hC dX4_stringsCross_193 rfl ?_
      refine J_iload hC dX4_stringsCross_195 rfl ?_
      refine iX4_150 hC rfl ⟨by decide, by decide⟩ ⟨by decide, by decide⟩ (Nat.le_of_ble_eq_true rfl) dX4_stringsCross_197 ?_
      refine c_X4_sideOf  ?_
      dsimp only [Option.toList_some, Option.toList_none, List.cons_append, List.nil_append]
      refine iX4_154 hC rfl ⟨by decide, by decide⟩ ⟨by decide, by decide⟩ (Nat.le_of_ble_eq_true rfl) dX4_stringsCross_200 ?_
      refine c_X4_onOneSide (turn_rng (by omega) (by omega) (by omega) (by omega) (by omega) (by omega)) (turn_rng (by omega) (by omega) (by omega) (by omega) (by omega) (by omega)) (fun m200 => ?_) (fun m200 => ?_)
      · dsimp only [Option.toList_some, Option.toList_none, List.cons_append, List.nil_append]
        refine J_if_ne_n hC (by decide) (tgt := 246) dX4_stringsCross_203 rfl (fun _ => ?_) (fun hf => absurd hf (by omega))
        refine J_iconst (v := nI 0) hC dX4_stringsCross_246 (by decide) ?_
        refine J_zreturn hC hR dX4_stringsCross_247 (by decide) (by decide) (by decide) ?_
        exact hf (fun g => by
          have g2 := hX.mpr g
          unfold meetI at g2
          first | exact m148 g2.1 | exact m162 g2.2.1 | exact g2.2.2.1 m200 | exact g2.2.2.2 m236)
      · dsimp only [Option.toList_some, Option.toList_none, List.cons_append, List.nil_append]
        refine J_if_ne_n hC (by decide) (tgt := 246) dX4_stringsCross_203 rfl (fun hf => absurd hf (by omega)) (fun _ => ?_)
        refine J_iload hC dX4_stringsCross_206 rfl ?_
        refine J_iload hC dX4_stringsCross_208 rfl ?_
        refine J_iload hC dX4_stringsCross_210 rfl ?_
        refine J_iload hC dX4_stringsCross_212 rfl ?_
        refine J_iload hC dX4_stringsCross_214 rfl ?_
        refine J_iload hC dX4_stringsCross_216 rfl ?_
        refine iX4_150 hC rfl ⟨by decide, by decide⟩ ⟨by decide, by decide⟩ (Nat.le_of_ble_eq_true rfl) dX4_stringsCross_218 ?_
        refine c_X4_sideOf  ?_
        dsimp only [Option.toList_some, Option.toList_none, List.cons_append, List.nil_append]
        refine J_iload hC dX4_stringsCross_221 rfl ?_
        refine J_iload hC dX4_stringsCross_223 rfl ?_
        refine J_iload hC dX4_stringsCross_225 rfl ?_
        refine J_iload hC dX4_stringsCross_227 rfl ?_
        refine J_iload hC dX4_stringsCross_229 rfl ?_
        refine J_iload hC dX4_stringsCross_231 rfl ?_
        refine iX4_150 hC rfl ⟨by decide, by decide⟩ ⟨by decide, by decide⟩ (Nat.le_of_ble_eq_true rfl) dX4_stringsCross_233 ?_
        refine c_X4_sideOf  ?_
        dsimp only [Option.toList_some, Option.toList_none, List.cons_append, List.nil_append]
        refine iX4_154 hC rfl ⟨by decide, by decide⟩ ⟨by decide, by decide⟩ (Nat.le_of_ble_eq_true rfl) dX4_stringsCross_236 ?_
        refine c_X4_onOneSide (turn_rng (by omega) (by omega) (by omega) (by omega) (by omega) (by omega)) (turn_rng (by omega) (by omega) (by omega) (by omega) (by omega) (by omega)) (fun m236 => ?_) (fun m236 => ?_)
        · dsimp only [Option.toList_some, Option.toList_none, List.cons_append, List.nil_append]
          refine J_if_ne_n hC (by decide) (tgt := 246) dX4_stringsCross_239 rfl (fun _ => ?_) (fun hf => absurd hf (by omega))
          refine J_iconst (v := nI 0) hC dX4_stringsCross_246 (by decide) ?_
          refine J_zreturn hC hR dX4_stringsCross_247 (by decide) (by decide) (by decide) ?_
          exact hf (fun g => by
            have g2 := hX.mpr g
            unfold meetI at g2
            first | exact m148 g2.1 | exact m162 g2.2.1 | exact g2.2.2.1 m200 | exact g2.2.2.2 m236)
        · dsimp only [Option.toList_some, Option.toList_none, List.cons_append, List.nil_append]
          refine J_if_ne_n hC (by decide) (tgt := 246) dX4_stringsCross_239 rfl (fun hf => absurd hf (by omega)) (fun _ => ?_)
          refine J_iconst (v := nI 1) hC dX4_stringsCross_242 (by decide) ?_
          refine J_goto (tgt := 247) hC dX4_stringsCross_243 rfl ?_
          refine J_zreturn hC hR dX4_stringsCross_247 (by decide) (by decide) (by decide) ?_
          exact ht (hX.mp ⟨m148, m162, m200, m236⟩)
    · dsimp only [Option.toList_some, Option.toList_none, List.cons_append, List.nil_append]
      refine J_if_ne_n hC (by decide) (tgt := 170) dX4_stringsCross_165 rfl (fun hf => absurd hf (by omega)) (fun _ => ?_)
      refine J_iconst (v := nI 0) hC dX4_stringsCross_168 (by decide) ?_
      refine J_zreturn hC hR dX4_stringsCross_169 (by decide) (by decide) (by decide) ?_
      exact hf (fun g => by
        have g2 := hX.mpr g
        unfold meetI at g2
        first | exact m148 g2.1 | exact m162 g2.2.1 | exact g2.2.2.1 m200 | exact g2.2.2.2 m236)
  · dsimp only [Option.toList_some, Option.toList_none, List.cons_append, List.nil_append]
    refine J_if_eq_n hC (by decide) (tgt := 168) dX4_stringsCross_151 rfl (fun _ => ?_) (fun hf => absurd hf (by omega))
    refine J_iconst (v := nI 0) hC dX4_stringsCross_168 (by decide) ?_
    refine J_zreturn hC hR dX4_stringsCross_169 (by decide) (by decide) (by decide) ?_
    exact hf (fun g => by
      have g2 := hX.mpr g
      unfold meetI at g2
      first | exact m148 g2.1 | exact m162 g2.2.1 | exact g2.2.2.1 m200 | exact g2.2.2.2 m236)
set_option maxHeartbeats 4000000 in
set_option maxRecDepth 100000 in
theorem c_X6_endOf {G : GC} {w : Lay} {σ : Mem} {Q : Lay → Option Value → Mem → Prop} {Qx : Lay → String → Mem → Prop} {o hm : Nat} {A : Rw} (hw : LO w o) (hO : OAt σ o A) (hI : RowOK hm A) {p : Nat} (hp : p < nv A 11) (hq : Q w (some (.int (nI (nv A (214 + 3 * p + 1) + nv A (214 + 3 * p + 2))))) σ) : MX6_endOf G w σ [.ref (w.2.1 o 17), .int (nI p)] Q Qx := by
  refine mt_start (by decide) rfl (Nat.le_of_ble_eq_true rfl) (fun E hC hR hN => ?_)
  show J G E w 0 0 0 [some (.ref (w.2.1 o 17)), some (.int (nI p))] [] σ
  have h1 := r_NP hI
  refine J_aload_n hC dX6_endOf_0 rfl rfl ?_
  refine gX6_15 hC hw dX6_endOf_1 ?_
  refine J_iload_n hC dX6_endOf_4 rfl rfl ?_
  refine J_iaload hC (hw.2.1 19 (by decide)) (kd_o hw.1) rfl (by omega) (by decide) dX6_endOf_5 ?_
  refine J_top (o_PS hO hI hp) ?_
  refine J_aload_n hC dX6_endOf_6 rfl rfl ?_
  refine gX6_18 hC hw dX6_endOf_7 ?_
  refine J_iload_n hC dX6_endOf_10 rfl rfl ?_
  refine J_iaload hC (hw.2.1 20 (by decide)) (kd_o hw.1) rfl (by omega) (by decide) dX6_endOf_11 ?_
  refine J_top (o_PD hO hI hp) ?_
  refine J_iadd_n hC dX6_endOf_12 ?_
  refine J_ireturn hC hR dX6_endOf_13 (by decide) (by decide) ?_
  exact hq
set_option maxHeartbeats 4000000 in
set_option maxRecDepth 100000 in
theorem c_X6_covers {G : GC} {w : Lay} {σ : Mem} {Q : Lay → Option Value → Mem → Prop} {Qx : Lay → String → Mem → Prop} {o hm : Nat} {A : Rw} (hw : LO w o) (hO : OAt σ o A) (hI : RowOK hm A) {p h : Nat} (hp : p < nv A 11) (hh : h < 2 ^ 31) (ht : covN A p h → Q w (some (.int (nI 1))) σ) (hf : ¬ covN A p h → Q w (some (.int (nI 0))) σ) : MX6_covers G w σ [.ref (w.2.1 o 17), .int (nI p), .int (nI h)] Q Qx := by
  refine mt_start (by decide) rfl (Nat.le_of_ble_eq_true rfl) (fun E hC hR hN => ?_)
  show J G E w 0 0 0 [some (.ref (w.2.1 o 17)), some (.int (nI p)), some (.int (nI h))] [] σ
  have h1 := r_NP hI
  have h2 := r_PS hI hp
  have h3 := r_PD hI hp
  refine J_aload_n hC dX6_covers_0 rfl rfl ?_
  refine gX6_15 hC hw dX6_covers_1 ?_
  refine J_iload_n hC dX6_covers_4 rfl rfl ?_
  refine J_iaload hC (hw.2.1 19 (by decide)) (kd_o hw.1) rfl (by omega) (by decide) dX6_covers_5 ?_
  refine J_top (o_PS hO hI hp) ?_
  refine J_iload_n hC dX6_covers_6 rfl rfl ?_
  refine J_icmp_gt_n hC (by omega) (by omega) (tgt := 23) dX6_covers_7 rfl (fun hb0 => ?_) (fun hb0 => ?_)
  · refine J_iconst (v := nI 0) hC dX6_covers_23 (by decide) ?_
    refine J_zreturn hC hR dX6_covers_24 (by decide) (by decide) (by decide) ?_
    exact hf (by unfold covN; omega)
  · refine J_iload_n hC dX6_covers_10 rfl rfl ?_
    refine J_aload_n hC dX6_covers_11 rfl rfl ?_
    refine J_iload_n hC dX6_covers_12 rfl rfl ?_
    refine iX6_31 hC hw rfl ⟨by decide, by decide⟩ ⟨by decide, by decide⟩ (Nat.le_of_ble_eq_true rfl) dX6_covers_13 ?_
    refine c_X6_endOf hw hO hI (by omega) ?_
    dsimp only [Option.toList_some, Option.toList_none, List.cons_append, List.nil_append]
    refine J_icmp_ge_n hC (by omega) (by omega) (tgt := 23) dX6_covers_16 rfl (fun hb1 => ?_) (fun hb1 => ?_)
    · refine J_iconst (v := nI 0) hC dX6_covers_23 (by decide) ?_
      refine J_zreturn hC hR dX6_covers_24 (by decide) (by decide) (by decide) ?_
      exact hf (by unfold covN; omega)
    · refine J_iconst (v := nI 1) hC dX6_covers_19 (by decide) ?_
      refine J_goto (tgt := 24) hC dX6_covers_20 rfl ?_
      refine J_zreturn hC hR dX6_covers_24 (by decide) (by decide) (by decide) ?_
      exact ht (by unfold covN; omega)
set_option maxHeartbeats 4000000 in
set_option maxRecDepth 100000 in
theorem c_X6_coverAny {G : GC} {w : Lay} {σ : Mem} {Q : Lay → Option Value → Mem → Prop} {Qx : Lay → String → Mem → Prop} {o hm : Nat} {A : Rw} (hw : LO w o) (hO : OAt σ o A) (hI : RowOK hm A) {k b e : Nat} (hk0 : k < 2 ^ 31) (hb : b < 2 ^ 31) (he : e < 2 ^ 31) (ht : (∃ p, p < nv A 11 ∧ nv A (214 + 3 * p) = k ∧ nv A (214 + 3 * p + 1) < e ∧ b < nv A (214 + 3 * p + 1) + nv A (214 + 3 * p + 2)) → Q w (some (.int (nI 1))) σ) (hf : ¬ (∃ p, p < nv A 11 ∧ nv A (214 + 3 * p) = k ∧ nv A (214 + 3 * p + 1) < e ∧ b < nv A (214 + 3 * p + 1) + nv A (214 + 3 * p + 2)) → Q w (some (.int (nI 0))) σ) : MX6_coverAny G w σ [.ref (w.2.1 o 17), .int (nI k), .int (nI b), .int (nI e)] Q Qx := by
  refine mt_start (by decide) rfl (Nat.le_of_ble_eq_true rfl) (fun E hC hR hN => ?_)
  show J G E w 0 0 0 [some (.ref (w.2.1 o 17)), some (.int (nI k)), some (.int (nI b)), some (.int (nI e)), none] [] σ
  have h1 := r_NP hI
  have h2 := r_NK hI
  have lp : ∀ (dd : Nat) (p : Nat), nv A 11 - p < dd → (p ≤ nv A 11) → (∀ j, j < p → ¬ (j < nv A 11 ∧ nv A (214 + 3 * j) = k ∧ nv A (214 + 3 * j + 1) < e ∧ b < nv A (214 + 3 * j + 1) + nv A (214 + 3 * j + 2))) →  J G E w 0 0 3 [some (.ref (w.2.1 o 17)), some (.int (nI k)), some (.int (nI b)), some (.int (nI e)), some (.int (nI p))] [] σ := by
    intro dd
    induction dd with
    | zero =>
      intro p hdd
      exact absurd hdd (Nat.not_lt_zero _)
    | succ dd ih =>
      intro p hdd hp hn
      refine J_iload hC dX6_coverAny_3 rfl ?_
      refine J_aload_n hC dX6_coverAny_5 rfl rfl ?_
      refine gX6_21 hC hw dX6_coverAny_6 ?_
      refine J_top (o_NP hO hI) ?_
      refine J_icmp_ge_n hC (by omega) (by omega) (tgt := 52) dX6_coverAny_9 rfl (fun bp => ?_) (fun bp => ?_)
      · refine J_iconst (v := nI 0) hC dX6_coverAny_52 (by decide) ?_
        refine J_zreturn hC hR dX6_coverAny_53 (by decide) (by decide) (by decide) ?_
        exact hf (fun ⟨j, j1, j2⟩ => hn j (by omega) ⟨j1, j2⟩)
      · have pk := r_PK hI bp
        have ps := r_PS hI bp
        have pd := r_PD hI bp
        refine J_aload_n hC dX6_coverAny_12 rfl rfl ?_
        refine gX6_9 hC hw dX6_coverAny_13 ?_
        refine J_iload hC dX6_coverAny_16 rfl ?_
        refine J_iaload hC (hw.2.1 18 (by decide)) (kd_o hw.1) rfl (by omega) (by decide) dX6_coverAny_18 ?_
        refine J_top (o_PK hO hI (by omega)) ?_
        refine J_iload_n hC dX6_coverAny_19 rfl rfl ?_
        refine J_icmp_ne_n hC (by omega) (by omega) (tgt := 46) dX6_coverAny_20 rfl (fun b1 => ?_) (fun b1 => ?_)
        · refine J_iinc_n (m := 1) hC (by decide) dX6_coverAny_46 rfl (Nat.le_of_ble_eq_true rfl) rfl ?_
          dsimp only [List.set]
          refine J_goto (tgt := 3) hC dX6_coverAny_49 rfl ?_
          first
          | exact ih (p + 1) (by omega) (by omega) (fun j hj => by
              by_cases e : j = p
              · subst e; rintro ⟨-, g1, g2, g3⟩; omega
              · exact hn j (by omega))
        · refine J_aload_n hC dX6_coverAny_23 rfl rfl ?_
          refine gX6_15 hC hw dX6_coverAny_24 ?_
          refine J_iload hC dX6_coverAny_27 rfl ?_
          refine J_iaload hC (hw.2.1 19 (by decide)) (kd_o hw.1) rfl (by omega) (by decide) dX6_coverAny_29 ?_
          refine J_top (o_PS hO hI (by omega)) ?_
          refine J_iload_n hC dX6_coverAny_30 rfl rfl ?_
          refine J_icmp_ge_n hC (by omega) (by omega) (tgt := 46) dX6_coverAny_31 rfl (fun b2 => ?_) (fun b2 => ?_)
          · refine J_iinc_n (m := 1) hC (by decide) dX6_coverAny_46 rfl (Nat.le_of_ble_eq_true rfl) rfl ?_
            dsimp only [List.set]
            refine J_goto (tgt := 3) hC dX6_coverAny_49 rfl ?_
            first
            | exact ih (p + 1) (by omega) (by omega) (fun j hj => by
                by_cases e : j = p
                · subst e; rintro ⟨-, g1, g2, g3⟩; omega
                · exact hn j (by omega))
          · refine J_iload_n hC dX6_coverAny_34 rfl rfl ?_
            refine J_aload_n hC dX6_coverAny_35 rfl rfl ?_
            refine J_iload hC dX6_coverAny_36 rfl ?_
            refine iX6_31 hC hw rfl ⟨by decide, by decide⟩ ⟨by decide, by decide⟩ (Nat.le_of_ble_eq_true rfl) dX6_coverAny_38 ?_
            refine c_X6_endOf hw hO hI (by omega) ?_
            dsimp only [Option.toList_some, Option.toList_none, List.cons_append, List.nil_append]
            refine J_icmp_ge_n hC (by omega) (by omega) (tgt := 46) dX6_coverAny_41 rfl (fun b3 => ?_) (fun b3 => ?_)
            · refine J_iinc_n (m := 1) hC (by decide) dX6_coverAny_46 rfl (Nat.le_of_ble_eq_true rfl) rfl ?_
              dsimp only [List.set]
              refine J_goto (tgt := 3) hC dX6_coverAny_49 rfl ?_
              first
              | exact ih (p + 1) (by omega) (by omega) (fun j hj => by
                  by_cases e : j = p
                  · subst e; rintro ⟨-, g1, g2, g3⟩; omega
                  · exact hn j (by omega))
            · refine J_iconst (v := nI 1) hC dX6_coverAny_44 (by decide) ?_
              refine J_zreturn hC hR dX6_coverAny_45 (by decide) (by decide) (by decide) ?_
              exact ht ⟨p, bp, by omega, by omega, by omega⟩
  refine J_iconst (v := nI 0) hC dX6_coverAny_0 (by decide) ?_
  refine J_istore hC dX6_coverAny_1 (Nat.le_of_ble_eq_true rfl) rfl ?_
  dsimp only [List.set]
  exact lp (nv A 11 + 1) 0 (by omega) (by omega) (fun j hj => absurd hj (Nat.not_lt_zero j))
set_option maxHeartbeats 4000000 in
set_option maxRecDepth 100000 in
theorem c_X4_hasKite {G : GC} {w : Lay} {σ : Mem} {Q : Lay → Option Value → Mem → Prop} {Qx : Lay → String → Mem → Prop} {o hm : Nat} {A : Rw} (hw : LO w o) (hO : OAt σ o A) (hI : RowOK hm A) {x : Int32} (ht : okK A x → Q w (some (.int (nI 1))) σ) (hf : ¬ okK A x → Q w (some (.int (nI 0))) σ) : MX4_hasKite G w σ [.ref (w.2.1 o 0), .int x] Q Qx := by
  refine mt_start (by decide) rfl (Nat.le_of_ble_eq_true rfl) (fun E hC hR hN => ?_)
  show J G E w 0 0 0 [some (.ref (w.2.1 o 0)), some (.int x)] [] σ
  have h1 := r_NK hI
  have hx := toInt_rng x
  refine J_iload_n hC dX4_hasKite_0 rfl rfl ?_
  refine J_if_lt_z hC (Int32_iI x) (by omega) (tgt := 19) dX4_hasKite_1 rfl (fun b1 => ?_) (fun b1 => ?_)
  · refine J_iconst (v := nI 0) hC dX4_hasKite_19 (by decide) ?_
    refine J_zreturn hC hR dX4_hasKite_20 (by decide) (by decide) (by decide) ?_
    refine hf (fun ⟨k, hk, h2⟩ => ?_)
    subst hk
    rw [tI_n (by omega)] at b1
    omega
  · refine J_iload_n hC dX4_hasKite_4 rfl rfl ?_
    refine J_aload_n hC dX4_hasKite_5 rfl rfl ?_
    refine gX4_21 hC hw dX4_hasKite_6 ?_
    refine gX4_62 hC hw dX4_hasKite_9 ?_
    refine J_top (o_NK hO hI) ?_
    refine J_icmp_ge_z hC (Int32_iI x) (nI_iI _) (by omega) (by omega) (tgt := 19) dX4_hasKite_12 rfl (fun b2 => ?_) (fun b2 => ?_)
    · refine J_iconst (v := nI 0) hC dX4_hasKite_19 (by decide) ?_
      refine J_zreturn hC hR dX4_hasKite_20 (by decide) (by decide) (by decide) ?_
      refine hf (fun ⟨k, hk, h2⟩ => ?_)
      subst hk
      rw [tI_n (by omega)] at b1 b2
      omega
    · refine J_iconst (v := nI 1) hC dX4_hasKite_15 (by decide) ?_
      refine J_goto (tgt := 20) hC dX4_hasKite_16 rfl ?_
      refine J_zreturn hC hR dX4_hasKite_20 (by decide) (by decide) (by decide) ?_
      obtain ⟨k, hk1, hk2⟩ := nI_of (x := x) (by rw [Int32.lt_iff_toInt_lt]; show ¬ x.toInt < 0; omega)
      subst hk2
      rw [tI_n hk1] at b2
      exact ht ⟨k, rfl, by omega⟩
