set_option maxHeartbeats 4000000 in
set_option maxRecDepth 100000 in
theorem c_X0_zoneAt {G : GC} {w : Lay} {σ : Mem} {Q : Lay → Option Value → Mem → Prop} {Qx : Lay → String → Mem → Prop} {o x W Z : Nat} (hw : LO w o) (hW : rd σ o 1 0 = nI W) (hZ : rd σ o 1 4 = nI Z) (h1 : 1 ≤ W ∧ W ≤ 1000) (hx : x ≤ 1000) (hZ4 : Z ≤ 1000) (hq : Q w (some (.int (nI (x * Z / W)))) σ) : MX0_zoneAt G w σ [.ref (w.2.1 o 1), .int (nI x)] Q Qx := by
  refine mt_start (by decide) rfl (Nat.le_of_ble_eq_true rfl) (fun E hC hR hN => ?_)
  show J G E w 0 0 0 [some (.ref (w.2.1 o 1)), some (.int (nI x))] [] σ
  refine J_aload_n hC dX0_zoneAt_0 rfl rfl ?_
  refine gX0_24 hC hw dX0_zoneAt_1 ?_
  refine J_top hW ?_
  refine J_iconst (v := nI 1) hC dX0_zoneAt_4 (by decide) ?_
  refine J_icmp_ge_n hC (by omega) (by decide) (tgt := 12) dX0_zoneAt_5 rfl (fun hb0 => ?_) (fun hb0 => ?_)
  · refine J_iload_n hC dX0_zoneAt_12 rfl rfl ?_
    refine J_aload_n hC dX0_zoneAt_13 rfl rfl ?_
    refine gX0_37 hC hw dX0_zoneAt_14 ?_
    refine J_top hZ ?_
    refine J_imul_n hC dX0_zoneAt_17 ?_
    refine J_aload_n hC dX0_zoneAt_18 rfl rfl ?_
    refine gX0_24 hC hw dX0_zoneAt_19 ?_
    refine J_top hW ?_
    refine J_idiv_n hC (Nat.lt_of_le_of_lt (Nat.mul_le_mul hx hZ4) (by decide)) (by omega) (by omega) dX0_zoneAt_22 ?_
    refine J_ireturn hC hR dX0_zoneAt_23 (by decide) (by decide) ?_
    exact hq
  · exact absurd hb0 (by omega)
set_option maxHeartbeats 4000000 in
set_option maxRecDepth 100000 in
theorem c_X4_enterKite {G : GC} {w : Lay} {σ : Mem} {Q : Lay → Option Value → Mem → Prop} {Qx : Lay → String → Mem → Prop} {o x W Z N : Nat} {y l c k p : Int32} (hw : LO w o) (hN9 : rd σ o 6 0 = nI N) (hN16 : N < 16) (hW : rd σ o 1 0 = nI W) (hZ : rd σ o 1 4 = nI Z) (hW1 : 1 ≤ W ∧ W ≤ 1000) (hx : x ≤ 1000) (hZ4 : Z ≤ 1000) (hq : Q w (some (.int (nI N))) (enM σ o N (nI x) y (nI (x * Z / W)) l c k p)) : MX4_enterKite G w σ [.ref (w.2.1 o 0), .int (nI x), .int y, .int l, .int c, .int k, .int p] Q Qx := by
  refine mt_start (by decide) rfl (Nat.le_of_ble_eq_true rfl) (fun E hC hR hN => ?_)
  show J G E w 0 0 0 [some (.ref (w.2.1 o 0)), some (.int (nI x)), some (.int y), some (.int l), some (.int c), some (.int k), some (.int p), none] [] σ
  refine J_aload_n hC dX4_enterKite_0 rfl rfl ?_
  refine gX4_21 hC hw dX4_enterKite_1 ?_
  refine gX4_62 hC hw dX4_enterKite_4 ?_
  refine J_top hN9 ?_
  refine J_istore hC dX4_enterKite_7 (Nat.le_of_ble_eq_true rfl) rfl ?_
  dsimp only [List.set]
  refine J_iload hC dX4_enterKite_9 rfl ?_
  refine J_bipush (v := nI 16) hC dX4_enterKite_11 (by decide) ?_
  refine J_icmp_lt_n hC (by omega) (by decide) (tgt := 18) dX4_enterKite_13 rfl (fun hb0 => ?_) (fun hb0 => ?_)
  · refine J_aload_n hC dX4_enterKite_18 rfl rfl ?_
    refine gX4_21 hC hw dX4_enterKite_19 ?_
    refine gX4_69 hC hw dX4_enterKite_22 ?_
    refine J_iload hC dX4_enterKite_25 rfl ?_
    refine J_iload_n hC dX4_enterKite_27 rfl rfl ?_
    refine J_iastore hC (hw.2.1 7 (by decide)) (kd_o hw.1) rfl (by omega) (by decide) dX4_enterKite_28 ?_
    refine J_aload_n hC dX4_enterKite_29 rfl rfl ?_
    refine gX4_21 hC hw dX4_enterKite_30 ?_
    refine gX4_73 hC hw dX4_enterKite_33 ?_
    refine J_iload hC dX4_enterKite_36 rfl ?_
    refine J_iload_n hC dX4_enterKite_38 rfl rfl ?_
    refine J_iastore hC (hw.2.1 8 (by decide)) (kd_o hw.1) rfl (by omega) (by decide) dX4_enterKite_39 ?_
    refine J_aload_n hC dX4_enterKite_40 rfl rfl ?_
    refine gX4_21 hC hw dX4_enterKite_41 ?_
    refine gX4_76 hC hw dX4_enterKite_44 ?_
    refine J_iload hC dX4_enterKite_47 rfl ?_
    refine J_aload_n hC dX4_enterKite_49 rfl rfl ?_
    refine gX4_12 hC hw dX4_enterKite_50 ?_
    refine J_iload_n hC dX4_enterKite_53 rfl rfl ?_
    refine iX4_79 hC hw rfl ⟨by decide, by decide⟩ ⟨by decide, by decide⟩ (Nat.le_of_ble_eq_true rfl) dX4_enterKite_54 ?_
    refine c_X0_zoneAt hw ((rd_wr_c (by decide)).trans ((rd_wr_c (by decide)).trans hW)) ((rd_wr_c (by decide)).trans ((rd_wr_c (by decide)).trans hZ)) hW1 hx hZ4 ?_
    dsimp only [Option.toList_some, Option.toList_none, List.cons_append, List.nil_append]
    refine J_iastore hC (hw.2.1 9 (by decide)) (kd_o hw.1) rfl (by omega) (by decide) dX4_enterKite_57 ?_
    refine J_aload_n hC dX4_enterKite_58 rfl rfl ?_
    refine gX4_21 hC hw dX4_enterKite_59 ?_
    refine gX4_83 hC hw dX4_enterKite_62 ?_
    refine J_iload hC dX4_enterKite_65 rfl ?_
    refine J_iload_n hC dX4_enterKite_67 rfl rfl ?_
    refine J_iastore hC (hw.2.1 10 (by decide)) (kd_o hw.1) rfl (by omega) (by decide) dX4_enterKite_68 ?_
    refine J_aload_n hC dX4_enterKite_69 rfl rfl ?_
    refine gX4_21 hC hw dX4_enterKite_70 ?_
    refine gX4_86 hC hw dX4_enterKite_73 ?_
    refine J_iload hC dX4_enterKite_76 rfl ?_
    refine J_iload hC dX4_enterKite_78 rfl ?_
    refine J_iastore hC (hw.2.1 11 (by decide)) (kd_o hw.1) rfl (by omega) (by decide) dX4_enterKite_80 ?_
    refine J_aload_n hC dX4_enterKite_81 rfl rfl ?_
    refine gX4_21 hC hw dX4_enterKite_82 ?_
    refine gX4_89 hC hw dX4_enterKite_85 ?_
    refine J_iload hC dX4_enterKite_88 rfl ?_
    refine J_iload hC dX4_enterKite_90 rfl ?_
    refine J_iastore hC (hw.2.1 12 (by decide)) (kd_o hw.1) rfl (by omega) (by decide) dX4_enterKite_92 ?_
    refine J_aload_n hC dX4_enterKite_93 rfl rfl ?_
    refine gX4_21 hC hw dX4_enterKite_94 ?_
    refine gX4_92 hC hw dX4_enterKite_97 ?_
    refine J_iload hC dX4_enterKite_100 rfl ?_
    refine J_iload hC dX4_enterKite_102 rfl ?_
    refine J_iastore hC (hw.2.1 13 (by decide)) (kd_o hw.1) rfl (by omega) (by decide) dX4_enterKite_104 ?_
    refine J_aload_n hC dX4_enterKite_105 rfl rfl ?_
    refine gX4_21 hC hw dX4_enterKite_106 ?_
    refine gX4_95 hC hw dX4_enterKite_109 ?_
    refine J_iload hC dX4_enterKite_112 rfl ?_
    refine J_iconst (v := nI 0) hC dX4_enterKite_114 (by decide) ?_
    refine J_iastore hC (hw.2.1 14 (by decide)) (kd_o hw.1) rfl (by omega) (by decide) dX4_enterKite_115 ?_
    refine J_aload_n hC dX4_enterKite_116 rfl rfl ?_
    refine gX4_21 hC hw dX4_enterKite_117 ?_
    refine gX4_98 hC hw dX4_enterKite_120 ?_
    refine J_iload hC dX4_enterKite_123 rfl ?_
    refine J_iconst (v := nI 0) hC dX4_enterKite_125 (by decide) ?_
    refine J_iastore hC (hw.2.1 15 (by decide)) (kd_o hw.1) rfl (by omega) (by decide) dX4_enterKite_126 ?_
    refine J_aload_n hC dX4_enterKite_127 rfl rfl ?_
    refine gX4_21 hC hw dX4_enterKite_128 ?_
    refine gX4_101 hC hw dX4_enterKite_131 ?_
    refine J_iload hC dX4_enterKite_134 rfl ?_
    refine J_iconst (v := nI 0) hC dX4_enterKite_136 (by decide) ?_
    refine J_iastore hC (hw.2.1 16 (by decide)) (kd_o hw.1) rfl (by omega) (by decide) dX4_enterKite_137 ?_
    refine J_aload_n hC dX4_enterKite_138 rfl rfl ?_
    refine gX4_21 hC hw dX4_enterKite_139 ?_
    refine J_dup hC dX4_enterKite_142 rfl ?_
    refine gX4_62 hC hw dX4_enterKite_143 ?_
    refine J_top ((rd_wr_c (by decide)).trans ((rd_wr_c (by decide)).trans ((rd_wr_c (by decide)).trans ((rd_wr_c (by decide)).trans ((rd_wr_c (by decide)).trans ((rd_wr_c (by decide)).trans ((rd_wr_c (by decide)).trans ((rd_wr_c (by decide)).trans ((rd_wr_c (by decide)).trans ((rd_wr_c (by decide)).trans (hN9))))))))))) ?_
    refine J_iconst (v := nI 1) hC dX4_enterKite_146 (by decide) ?_
    refine J_iadd_n hC dX4_enterKite_147 ?_
    refine pX4_62 hC hw dX4_enterKite_148 ?_
    refine J_aload_n hC dX4_enterKite_151 rfl rfl ?_
    refine J_dup hC dX4_enterKite_152 rfl ?_
    refine gX4_53 hC hw dX4_enterKite_153 ?_
    refine J_top ((rd_wr_c (by decide)).trans ((rd_wr_c (by decide)).trans ((rd_wr_c (by decide)).trans ((rd_wr_c (by decide)).trans ((rd_wr_c (by decide)).trans ((rd_wr_c (by decide)).trans ((rd_wr_c (by decide)).trans ((rd_wr_c (by decide)).trans ((rd_wr_c (by decide)).trans ((rd_wr_c (by decide)).trans (rd_wr_c (by decide)))))))))))) ?_
    refine J_iload hC dX4_enterKite_156 rfl ?_
    refine J_iadd hC dX4_enterKite_158 ?_
    refine pX4_53 hC hw dX4_enterKite_159 ?_
    refine J_iload hC dX4_enterKite_162 rfl ?_
    refine J_ireturn hC hR dX4_enterKite_164 (by decide) (by decide) ?_
    exact hq
  · exact absurd hb0 (by omega)
set_option maxHeartbeats 4000000 in
set_option maxRecDepth 100000 in
theorem c_X9_earliestStart {G : GC} {w : Lay} {σ : Mem} {Q : Lay → Option Value → Mem → Prop} {Qx : Lay → String → Mem → Prop} (hK : LK w) (hL0 : LO w 0) {A : Rw} {hm : Nat} (hO : OAt σ 0 A) (hI : RowOK hm A) (hh : nv A 7 ≤ 999000) {k d : Int32} (hq : (aES A k d).1 = 0 → Q w (some (.int (aES A k d).2)) σ) (hx1 : (aES A k d).1 = 1 → Qx w "java/lang/IndexOutOfBoundsException" σ) (hx2 : (aES A k d).1 = 2 → Qx w "java/lang/IllegalArgumentException" σ) : MX9_earliestStart G w σ [.ref (w.2.1 12 0), .int k, .int d] Q Qx := by
  refine mt_start (by decide) rfl (Nat.le_of_ble_eq_true rfl) (fun E hC hR hN => ?_)
  show J G E w 0 0 0 [some (.ref (w.2.1 12 0)), some (.int k), some (.int d), none] [] σ
  have h4 := r_NK hI
  refine J_aload_n hC dX9_earliestStart_0 rfl rfl ?_
  refine J_iload_n hC dX9_earliestStart_1 rfl rfl ?_
  refine iX9_229 hC hK rfl ⟨by decide, by decide⟩ ⟨by decide, by decide⟩ (Nat.le_of_ble_eq_true rfl) dX9_earliestStart_2 ?_
  refine c_X9_requireKite hK hL0 hO hI (fun rk => ?_) (fun rk => JX_out hC hR hN (by decide) (by decide) (hx1 (by unfold aES; rw [chk_f rk])))
  dsimp only [Option.toList_some, Option.toList_none, List.cons_append, List.nil_append]
  obtain ⟨k, rfl, hk⟩ := rk
  refine J_iload_n hC dX9_earliestStart_5 rfl rfl ?_
  refine J_iconst (v := nI 1) hC dX9_earliestStart_6 (by decide) ?_
  refine J_bipush (v := nI 24) hC dX9_earliestStart_7 (by decide) ?_
  refine iX9_110 hC rfl ⟨by decide, by decide⟩ ⟨by decide, by decide⟩ (Nat.le_of_ble_eq_true rfl) dX9_earliestStart_9 ?_
  refine c_X9_requireBetween (by omega) (by omega) (fun rd => ?_) (fun rd => JX_out hC hR hN (by decide) (by decide) (hx2 (by unfold aES; rw [chk_t ⟨k, rfl, hk⟩, chk_f rd])))
  dsimp only [Option.toList_some, Option.toList_none, List.cons_append, List.nil_append]
  obtain ⟨d, rfl, hd⟩ := rd
  refine J_aload_n hC dX9_earliestStart_12 rfl rfl ?_
  refine gX9_13 hC hK dX9_earliestStart_13 ?_
  refine gX9_234 hC hL0 dX9_earliestStart_16 ?_
  refine J_top (o_HOUR hO hI) ?_
  refine J_istore_n hC dX9_earliestStart_19 rfl (Nat.le_of_ble_eq_true rfl) rfl ?_
  dsimp only [List.set]
  have lp : ∀ (dd : Nat) (j : Nat), 61 - j < dd → (j ≤ 61) → (estF A k d (61 - j) j = estF A k d 61 0) →  J G E w (0 + 1 + 1) (0 + 6 + 6) 20 [some (.ref (w.2.1 12 0)), some (.int (nI k)), some (.int (nI d)), some (.int (nI (nv A 7 + j)))] [] σ := by
    intro dd
    induction dd with
    | zero =>
      intro j hdd
      exact absurd hdd (Nat.not_lt_zero _)
    | succ dd ih =>
      intro j hdd hj hF
      refine J_iload_n hC dX9_earliestStart_20 rfl rfl ?_
      refine J_aload_n hC dX9_earliestStart_21 rfl rfl ?_
      refine gX9_13 hC hK dX9_earliestStart_22 ?_
      refine gX9_234 hC hL0 dX9_earliestStart_25 ?_
      refine J_top (o_HOUR hO hI) ?_
      refine J_bipush (v := nI 60) hC dX9_earliestStart_28 (by decide) ?_
      refine J_iadd_n hC dX9_earliestStart_30 ?_
      refine J_icmp_gt_n hC (by omega) (by omega) (tgt := 55) dX9_earliestStart_31 rfl (fun bj => ?_) (fun bj => ?_)
      · refine J_iconst (v := -1) hC dX9_earliestStart_55 (by decide) ?_
        refine J_ireturn hC hR dX9_earliestStart_56 (by decide) (by decide) ?_
        have ej : j = 61 := by omega
        subst ej
        have e : aES A (nI k) (nI d) = (0, -1) := by
          unfold aES
          rw [chk_t ⟨k, rfl, hk⟩, chk_t ⟨d, rfl, hd⟩, cl_n (by omega), cl_n (by omega), ← hF]
          rfl
        rw [e] at hq
        exact hq rfl
      · refine J_aload_n hC dX9_earliestStart_34 rfl rfl ?_
        refine gX9_13 hC hK dX9_earliestStart_35 ?_
        refine J_iload_n hC dX9_earliestStart_38 rfl rfl ?_
        refine J_iload_n hC dX9_earliestStart_39 rfl rfl ?_
        refine J_iload_n hC dX9_earliestStart_40 rfl rfl ?_
        refine iX9_186 hC hL0 rfl ⟨by decide, by decide⟩ ⟨by decide, by decide⟩ (Nat.le_of_ble_eq_true rfl) dX9_earliestStart_41 ?_
        refine c_X4_refusalReason hL0 hO hI hk (by omega) hd (by omega) ?_
        dsimp only [Option.toList_some, Option.toList_none, List.cons_append, List.nil_append]
        have hr7 := refuse_le A k (nv A 7 + j) d
        refine J_if_ne_n hC (by omega) (tgt := 49) dX9_earliestStart_44 rfl (fun br => ?_) (fun br => ?_)
        · rw [est_miss (by omega) br] at hF
          refine J_iinc_n (m := 1) hC (by decide) dX9_earliestStart_49 rfl (Nat.le_of_ble_eq_true rfl) rfl ?_
          dsimp only [List.set]
          refine J_goto (tgt := 20) hC dX9_earliestStart_52 rfl ?_
          exact ih (j + 1) (by omega) (by omega) hF
        · refine J_iload_n hC dX9_earliestStart_47 rfl rfl ?_
          refine J_ireturn hC hR dX9_earliestStart_48 (by decide) (by decide) ?_
          rw [est_hit (by omega) br] at hF
          have e : aES A (nI k) (nI d) = (0, nI (nv A 7 + j)) := by
            unfold aES
            rw [chk_t ⟨k, rfl, hk⟩, chk_t ⟨d, rfl, hd⟩, cl_n (by omega), cl_n (by omega), ← hF, nI_iI]
          rw [e] at hq
          exact hq rfl
  exact lp 62 0 (by omega) (by omega) rfl
set_option maxHeartbeats 4000000 in
set_option maxRecDepth 100000 in
theorem c_X9_bestKnots {G : GC} {w : Lay} {σ : Mem} {Q : Lay → Option Value → Mem → Prop} {Qx : Lay → String → Mem → Prop} (hK : LK w) (hL0 : LO w 0) {A : Rw} {hm : Nat} (hO : OAt σ 0 A) (hI : RowOK hm A) {k h : Int32} (hq : (aBK A k h).1 = 0 → Q w (some (.int (aBK A k h).2)) σ) (hx1 : (aBK A k h).1 = 1 → Qx w "java/lang/IndexOutOfBoundsException" σ) (hx2 : (aBK A k h).1 = 2 → Qx w "java/lang/IllegalArgumentException" σ) : MX9_bestKnots G w σ [.ref (w.2.1 12 0), .int k, .int h] Q Qx := by
  refine mt_start (by decide) rfl (Nat.le_of_ble_eq_true rfl) (fun E hC hR hN => ?_)
  show J G E w 0 0 0 [some (.ref (w.2.1 12 0)), some (.int k), some (.int h), none, none, none, none, none] [] σ
  have h4 := r_NK hI
  refine J_aload_n hC dX9_bestKnots_0 rfl rfl ?_
  refine J_iload_n hC dX9_bestKnots_1 rfl rfl ?_
  refine iX9_229 hC hK rfl ⟨by decide, by decide⟩ ⟨by decide, by decide⟩ (Nat.le_of_ble_eq_true rfl) dX9_bestKnots_2 ?_
  refine c_X9_requireKite hK hL0 hO hI (fun rk => ?_) (fun rk => JX_out hC hR hN (by decide) (by decide) (hx1 (by unfold aBK; rw [chk_f rk])))
  dsimp only [Option.toList_some, Option.toList_none, List.cons_append, List.nil_append]
  obtain ⟨k, rfl, hk⟩ := rk
  refine J_iload_n hC dX9_bestKnots_5 rfl rfl ?_
  refine iX9_281 hC rfl ⟨by decide, by decide⟩ ⟨by decide, by decide⟩ (Nat.le_of_ble_eq_true rfl) dX9_bestKnots_6 ?_
  refine c_X9_requireHour  (fun rh => ?_) (fun rh => JX_out hC hR hN (by decide) (by decide) (hx2 (by unfold aBK; rw [chk_t ⟨k, rfl, hk⟩, chk_f rh])))
  dsimp only [Option.toList_some, Option.toList_none, List.cons_append, List.nil_append]
  obtain ⟨h, rfl, hh⟩ := rh
  refine J_aload_n hC dX9_bestKnots_9 rfl rfl ?_
  refine gX9_13 hC hK dX9_bestKnots_10 ?_
  refine J_iload_n hC dX9_bestKnots_13 rfl rfl ?_
  refine J_iload_n hC dX9_bestKnots_14 rfl rfl ?_
  refine iX9_319 hC hL0 rfl ⟨by decide, by decide⟩ ⟨by decide, by decide⟩ (Nat.le_of_ble_eq_true rfl) dX9_bestKnots_15 ?_
  refine c_X4_windAt hL0 hO hI hk (by omega) ?_
  dsimp only [Option.toList_some, Option.toList_none, List.cons_append, List.nil_append]
  refine J_istore_n hC dX9_bestKnots_18 rfl (Nat.le_of_ble_eq_true rfl) rfl ?_
  dsimp only [List.set]
  refine J_iconst (v := -1) hC dX9_bestKnots_19 (by decide) ?_
  refine J_istore hC dX9_bestKnots_20 (Nat.le_of_ble_eq_true rfl) rfl ?_
  dsimp only [List.set]
  refine J_iconst (v := nI 0) hC dX9_bestKnots_22 (by decide) ?_
  refine J_istore hC dX9_bestKnots_23 (Nat.le_of_ble_eq_true rfl) rfl ?_
  dsimp only [List.set]
  refine J_iconst (v := nI 0) hC dX9_bestKnots_25 (by decide) ?_
  refine J_istore hC dX9_bestKnots_26 (Nat.le_of_ble_eq_true rfl) rfl ?_
  dsimp only [List.set]
  have lp : ∀ (dd : Nat) (j : Nat) (b : Int) (r : Nat), 10 - j < dd → (j ≤ 10) → ((b = -1 ∧ r = 0) ∨ (0 ≤ b ∧ r = reachW A k b.toNat h)) → (r ≤ 60) → (bkF A k h (10 - j) j b = bkF A k h 10 0 (-1)) →  J G E w (0 + 1 + 1) (0 + 6 + 6) 28 [some (.ref (w.2.1 12 0)), some (.int (nI k)), some (.int (nI h)), some (.int (nI (wi A (zoneN A k) h))), some (.int (iI b)), some (.int (nI r)), some (.int (nI j)), none] [] σ := by
    intro dd
    induction dd with
    | zero =>
      intro j b r hdd
      exact absurd hdd (Nat.not_lt_zero _)
    | succ dd ih =>
      intro j b r hdd hj hS hr hF
      refine J_iload hC dX9_bestKnots_28 rfl ?_
      refine J_bipush (v := nI 9) hC dX9_bestKnots_30 (by decide) ?_
      refine J_icmp_gt_n hC (by omega) (by decide) (tgt := 83) dX9_bestKnots_32 rfl (fun bj => ?_) (fun bj => ?_)
      · refine J_iload hC dX9_bestKnots_83 rfl ?_
        refine J_ireturn hC hR dX9_bestKnots_85 (by decide) (by decide) ?_
        have ej : j = 10 := by omega
        subst ej
        have e : aBK A (nI k) (nI h) = (0, iI b) := by
          unfold aBK
          rw [chk_t ⟨k, rfl, hk⟩, chk_t ⟨h, rfl, hh⟩, cl_n (by omega), cl_n (by omega), ← hF]
          rfl
        rw [e] at hq
        exact hq rfl
      · refine J_aload_n hC dX9_bestKnots_35 rfl rfl ?_
        refine gX9_13 hC hK dX9_bestKnots_36 ?_
        refine J_iload_n hC dX9_bestKnots_39 rfl rfl ?_
        refine J_iload hC dX9_bestKnots_40 rfl ?_
        refine J_iload_n hC dX9_bestKnots_42 rfl rfl ?_
        refine iX9_357 hC hL0 rfl ⟨by decide, by decide⟩ ⟨by decide, by decide⟩ (Nat.le_of_ble_eq_true rfl) dX9_bestKnots_43 ?_
        refine c_X4_reachIn hL0 hO hI hk (by omega) (by omega) ?_
        dsimp only [Option.toList_some, Option.toList_none, List.cons_append, List.nil_append]
        have hr60 := reachW_le hI hk j h
        refine J_istore hC dX9_bestKnots_46 (Nat.le_of_ble_eq_true rfl) rfl ?_
        dsimp only [List.set]
        refine J_iload hC dX9_bestKnots_48 rfl ?_
        refine J_iload hC dX9_bestKnots_50 rfl ?_
        refine J_icmp_le_n hC (by omega) (by omega) (tgt := 77) dX9_bestKnots_52 rfl (fun b1 => ?_) (fun b1 => ?_)
        · rw [bk_miss (by omega) (fun g => by have g1 := g.1.1; have g2 := g.2; rcases hS with ⟨s1, s2⟩ | ⟨s1, s2⟩ <;> omega)] at hF
          refine J_iinc_n (m := 1) hC (by decide) dX9_bestKnots_77 rfl (Nat.le_of_ble_eq_true rfl) rfl ?_
          dsimp only [List.set]
          refine J_goto (tgt := 28) hC dX9_bestKnots_80 rfl ?_
          first
          | (rw [nI_iI j]
             refine J_less (ls' := [some (.ref (w.2.1 12 0)), some (.int (nI k)), some (.int (nI h)), some (.int (nI (wi A (zoneN A k) h))), some (.int (iI ((j : Nat) : Int))), some (.int (nI (reachW A k j h))), some (.int (nI (j + 1))), none]) ⟨Or.inr rfl, Or.inr rfl, Or.inr rfl, Or.inr rfl, Or.inr rfl, Or.inr rfl, Or.inr rfl, Or.inl rfl, trivial⟩ ?_
             exact ih (j + 1) (j : Int) (reachW A k j h) (by omega) (by omega) (Or.inr ⟨by omega, rfl⟩) hr60 hF)
          | (refine J_less (ls' := [some (.ref (w.2.1 12 0)), some (.int (nI k)), some (.int (nI h)), some (.int (nI (wi A (zoneN A k) h))), some (.int (iI b)), some (.int (nI r)), some (.int (nI (j + 1))), none]) ⟨Or.inr rfl, Or.inr rfl, Or.inr rfl, Or.inr rfl, Or.inr rfl, Or.inr rfl, Or.inr rfl, Or.inl rfl, trivial⟩ ?_
             exact ih (j + 1) b r (by omega) (by omega) hS hr hF)
        · refine J_aload_n hC dX9_bestKnots_55 rfl rfl ?_
          refine gX9_13 hC hK dX9_bestKnots_56 ?_
          refine J_iload_n hC dX9_bestKnots_59 rfl rfl ?_
          refine J_iload hC dX9_bestKnots_60 rfl ?_
          refine J_iload_n hC dX9_bestKnots_62 rfl rfl ?_
          refine iX9_360 hC hL0 rfl ⟨by decide, by decide⟩ ⟨by decide, by decide⟩ (Nat.le_of_ble_eq_true rfl) dX9_bestKnots_63 ?_
          refine c_X4_fliesIn hL0 hO hI hk hr60 (by omega) (fun b2 => ?_) (fun b2 => ?_)
          · dsimp only [Option.toList_some, Option.toList_none, List.cons_append, List.nil_append]
            rw [bk_hit (by omega) ⟨b2, by rcases hS with ⟨s1, s2⟩ | ⟨s1, s2⟩ <;> omega⟩] at hF
            refine J_if_eq_n hC (by decide) (tgt := 77) dX9_bestKnots_66 rfl (fun hf => absurd hf (by omega)) (fun _ => ?_)
            refine J_iload hC dX9_bestKnots_69 rfl ?_
            refine J_istore hC dX9_bestKnots_71 (Nat.le_of_ble_eq_true rfl) rfl ?_
            dsimp only [List.set]
            refine J_iload hC dX9_bestKnots_73 rfl ?_
            refine J_istore hC dX9_bestKnots_75 (Nat.le_of_ble_eq_true rfl) rfl ?_
            dsimp only [List.set]
            refine J_iinc_n (m := 1) hC (by decide) dX9_bestKnots_77 rfl (Nat.le_of_ble_eq_true rfl) rfl ?_
            dsimp only [List.set]
            refine J_goto (tgt := 28) hC dX9_bestKnots_80 rfl ?_
            first
            | (rw [nI_iI j]
               refine J_less (ls' := [some (.ref (w.2.1 12 0)), some (.int (nI k)), some (.int (nI h)), some (.int (nI (wi A (zoneN A k) h))), some (.int (iI ((j : Nat) : Int))), some (.int (nI (reachW A k j h))), some (.int (nI (j + 1))), none]) ⟨Or.inr rfl, Or.inr rfl, Or.inr rfl, Or.inr rfl, Or.inr rfl, Or.inr rfl, Or.inr rfl, Or.inl rfl, trivial⟩ ?_
               exact ih (j + 1) (j : Int) (reachW A k j h) (by omega) (by omega) (Or.inr ⟨by omega, rfl⟩) hr60 hF)
            | (refine J_less (ls' := [some (.ref (w.2.1 12 0)), some (.int (nI k)), some (.int (nI h)), some (.int (nI (wi A (zoneN A k) h))), some (.int (iI b)), some (.int (nI r)), some (.int (nI (j + 1))), none]) ⟨Or.inr rfl, Or.inr rfl, Or.inr rfl, Or.inr rfl, Or.inr rfl, Or.inr rfl, Or.inr rfl, Or.inl rfl, trivial⟩ ?_
               exact ih (j + 1) b r (by omega) (by omega) hS hr hF)
          · dsimp only [Option.toList_some, Option.toList_none, List.cons_append, List.nil_append]
            rw [bk_miss (by omega) (fun g => b2 g.1)] at hF
            refine J_if_eq_n hC (by decide) (tgt := 77) dX9_bestKnots_66 rfl (fun _ => ?_) (fun hf => absurd hf (by omega))
            refine J_iinc_n (m := 1) hC (by decide) dX9_bestKnots_77 rfl (Nat.le_of_ble_eq_true rfl) rfl ?_
            dsimp only [List.set]
            refine J_goto (tgt := 28) hC dX9_bestKnots_80 rfl ?_
            first
            | (rw [nI_iI j]
               refine J_less (ls' := [some (.ref (w.2.1 12 0)), some (.int (nI k)), some (.int (nI h)), some (.int (nI (wi A (zoneN A k) h))), some (.int (iI ((j : Nat) : Int))), some (.int (nI (reachW A k j h))), some (.int (nI (j + 1))), none]) ⟨Or.inr rfl, Or.inr rfl, Or.inr rfl, Or.inr rfl, Or.inr rfl, Or.inr rfl, Or.inr rfl, Or.inl rfl, trivial⟩ ?_
               exact ih (j + 1) (j : Int) (reachW A k j h) (by omega) (by omega) (Or.inr ⟨by omega, rfl⟩) hr60 hF)
            | (refine J_less (ls' := [some (.ref (w.2.1 12 0)), some (.int (nI k)), some (.int (nI h)), some (.int (nI (wi A (zoneN A k) h))), some (.int (iI b)), some (.int (nI r)), some (.int (nI (j + 1))), none]) ⟨Or.inr rfl, Or.inr rfl, Or.inr rfl, Or.inr rfl, Or.inr rfl, Or.inr rfl, Or.inr rfl, Or.inl rfl, trivial⟩ ?_
               exact ih (j + 1) b r (by omega) (by omega) hS hr hF)
  refine J_less (ls' := [some (.ref (w.2.1 12 0)), some (.int (nI k)), some (.int (nI h)), some (.int (nI (wi A (zoneN A k) h))), some (.int (iI (-1))), some (.int (nI 0)), some (.int (nI 0)), none]) ⟨Or.inr rfl, Or.inr rfl, Or.inr rfl, Or.inr rfl, Or.inr rfl, Or.inr rfl, Or.inr rfl, Or.inl rfl, trivial⟩ ?_
  exact lp 11 0 (-1) 0 (by omega) (by omega) (Or.inl ⟨rfl, rfl⟩) (by omega) rfl
set_option maxHeartbeats 4000000 in
set_option maxRecDepth 100000 in
theorem c_X9_guiltyKite {G : GC} {w : Lay} {σ : Mem} {Q : Lay → Option Value → Mem → Prop} {Qx : Lay → String → Mem → Prop} (hK : LK w) (hL0 : LO w 0) {A : Rw} {hm : Nat} (hO : OAt σ 0 A) (hI : RowOK hm A) (hh : nv A 7 < 2 ^ 30) {k i : Int32} (hq : (aGK A k i).1 = 0 → Q w (some (.int (aGK A k i).2)) σ) (hx3 : (aGK A k i).1 = 3 → Qx w "java/lang/IllegalStateException" σ) (hx1 : (aGK A k i).1 = 1 → Qx w "java/lang/IndexOutOfBoundsException" σ) (hx2 : (aGK A k i).1 = 2 → Qx w "java/lang/IllegalArgumentException" σ) : MX9_guiltyKite G w σ [.ref (w.2.1 12 0), .int k, .int i] Q Qx := by
  refine mt_start (by decide) rfl (Nat.le_of_ble_eq_true rfl) (fun E hC hR hN => ?_)
  show J G E w 0 0 0 [some (.ref (w.2.1 12 0)), some (.int k), some (.int i)] [] σ
  have h4 := r_NK hI
  refine J_aload_n hC dX9_guiltyKite_0 rfl rfl ?_
  refine J_iload_n hC dX9_guiltyKite_1 rfl rfl ?_
  refine iX9_229 hC hK rfl ⟨by decide, by decide⟩ ⟨by decide, by decide⟩ (Nat.le_of_ble_eq_true rfl) dX9_guiltyKite_2 ?_
  refine c_X9_requireKite hK hL0 hO hI (fun rk => ?_) (fun rk => JX_out hC hR hN (by decide) (by decide) (hx1 (by unfold aGK; rw [chk_f rk])))
  dsimp only [Option.toList_some, Option.toList_none, List.cons_append, List.nil_append]
  obtain ⟨k, rfl, hk⟩ := rk
  refine J_aload_n hC dX9_guiltyKite_5 rfl rfl ?_
  refine J_iload_n hC dX9_guiltyKite_6 rfl rfl ?_
  refine iX9_229 hC hK rfl ⟨by decide, by decide⟩ ⟨by decide, by decide⟩ (Nat.le_of_ble_eq_true rfl) dX9_guiltyKite_7 ?_
  refine c_X9_requireKite hK hL0 hO hI (fun ri => ?_) (fun ri => JX_out hC hR hN (by decide) (by decide) (hx1 (by unfold aGK; rw [chk_t ⟨k, rfl, hk⟩, chk_f ri])))
  dsimp only [Option.toList_some, Option.toList_none, List.cons_append, List.nil_append]
  obtain ⟨i, rfl, hi⟩ := ri
  refine J_iload_n hC dX9_guiltyKite_10 rfl rfl ?_
  refine J_iload_n hC dX9_guiltyKite_11 rfl rfl ?_
  refine iX9_332 hC rfl ⟨by decide, by decide⟩ ⟨by decide, by decide⟩ (Nat.le_of_ble_eq_true rfl) dX9_guiltyKite_12 ?_
  refine c_X9_requireDifferent  (fun rki => ?_) (fun rki => JX_out hC hR hN (by decide) (by decide) (hx2 (by unfold aGK; rw [chk_t ⟨k, rfl, hk⟩, chk_t ⟨i, rfl, hi⟩, chk_f rki])))
  dsimp only [Option.toList_some, Option.toList_none, List.cons_append, List.nil_append]
  refine J_aload_n hC dX9_guiltyKite_15 rfl rfl ?_
  refine J_iload_n hC dX9_guiltyKite_16 rfl rfl ?_
  refine J_iconst (v := nI 1) hC dX9_guiltyKite_17 (by decide) ?_
  refine iX9_241 hC hK rfl ⟨by decide, by decide⟩ ⟨by decide, by decide⟩ (Nat.le_of_ble_eq_true rfl) dX9_guiltyKite_18 ?_
  refine c_X9_requireState hK hL0 hO hI hk (by decide) (fun rs1 => ?_) (fun rs1 => JX_out hC hR hN (by decide) (by decide) (hx3 (by unfold aGK; rw [chk_t ⟨k, rfl, hk⟩, chk_t ⟨i, rfl, hi⟩, chk_t rki, cl_n (by omega), chk_f rs1])))
  dsimp only [Option.toList_some, Option.toList_none, List.cons_append, List.nil_append]
  refine J_aload_n hC dX9_guiltyKite_21 rfl rfl ?_
  refine J_iload_n hC dX9_guiltyKite_22 rfl rfl ?_
  refine J_iconst (v := nI 1) hC dX9_guiltyKite_23 (by decide) ?_
  refine iX9_241 hC hK rfl ⟨by decide, by decide⟩ ⟨by decide, by decide⟩ (Nat.le_of_ble_eq_true rfl) dX9_guiltyKite_24 ?_
  refine c_X9_requireState hK hL0 hO hI hi (by decide) (fun rs2 => ?_) (fun rs2 => JX_out hC hR hN (by decide) (by decide) (hx3 (by unfold aGK; rw [chk_t ⟨k, rfl, hk⟩, chk_t ⟨i, rfl, hi⟩, chk_t rki, cl_n (by omega), cl_n (by omega), chk_t rs1, chk_f rs2])))
  dsimp only [Option.toList_some, Option.toList_none, List.cons_append, List.nil_append]
  refine J_aload_n hC dX9_guiltyKite_27 rfl rfl ?_
  refine gX9_13 hC hK dX9_guiltyKite_28 ?_
  refine J_iload_n hC dX9_guiltyKite_31 rfl rfl ?_
  refine J_iload_n hC dX9_guiltyKite_32 rfl rfl ?_
  refine iX9_363 hC hL0 rfl ⟨by decide, by decide⟩ ⟨by decide, by decide⟩ (Nat.le_of_ble_eq_true rfl) dX9_guiltyKite_33 ?_
  refine c_X4_guiltyOf hL0 hO hI hk hi (by omega) ?_
  dsimp only [Option.toList_some, Option.toList_none, List.cons_append, List.nil_append]
  refine J_ireturn hC hR dX9_guiltyKite_36 (by decide) (by decide) ?_
  have e : aGK A (nI k) (nI i) = (0, nI (guiltN A k i)) := by
    unfold aGK
    rw [chk_t ⟨k, rfl, hk⟩, chk_t ⟨i, rfl, hi⟩, chk_t rki, cl_n (by omega), cl_n (by omega), chk_t rs1, chk_t rs2]
  rw [e] at hq
  exact hq rfl
