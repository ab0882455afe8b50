set_option maxHeartbeats 4000000 in
set_option maxRecDepth 100000 in
theorem c_X0_zoneAt {G : GC} {w : Lay} {σ : Mem} {Q : Lay → Option Value → Mem → Prop} {Qx : Lay → String → Mem → Prop} {o x W Z : Nat} (hw : LO w o) (hW : rd σ o 1 0 = nI W) (hZ : rd σ o 1 4 = nI Z) (h1 : 1 ≤ W ∧ W ≤ 1000) (hx : x ≤ 1000) (hZ4 : Z ≤ 1000) (hq : Q w (some (.int (nI (x * Z / W)))) σ) : MX0_zoneAt G w σ [.ref (w.2.1 o 1), .int (nI x)] Q Qx := by
  refine mt_start (by decide) rfl (Nat.le_of_ble_eq_true rfl) (fun E hC hR hN => ?_)
  show J G E w 0 0 0 [some (.ref (w.2.1 o 1)), some (.int (nI x))] [] σ
  refine J_aload_n hC dX0_zoneAt_0 rfl rfl ?_
  refine gX0_24 hC hw dX0_zoneAt_1 ?_
  refine J_top hW ?_
  refine J_iconst (v := nI 1) hC dX0_zoneAt_4 (by decide) ?_
  refine J_icmp_ge_n hC (by omega) (by decide) (tgt := 12) dX0_zoneAt_5 rfl (fun hb0 => ?_) (fun hb0 => ?_)
  · refine J_iload_n hC dX0_zoneAt_12 rfl rfl ?_
    refine J_aload_n hC dX0_zoneAt_13 rfl rfl ?_
    refine gX0_37 hC hw dX0_zoneAt_14 ?_
    refine J_top hZ ?_
    refine J_imul_n hC dX0_zoneAt_17 ?_
    refine J_aload_n hC dX0_zoneAt_18 rfl rfl ?_
    refine gX0_24 hC hw dX0_zoneAt_19 ?_
    refine J_top hW ?_
    refine J_idiv_n hC (Nat.lt_of_le_of_lt (Nat.mul_le_mul hx hZ4) (by decide)) (by omega) (by omega) dX0_zoneAt_22 ?_
    refine J_ireturn hC hR dX0_zoneAt_23 (by decide) (by decide) ?_
    exact hq
  · exact absurd hb0 (by omega)
set_option maxHeartbeats 4000000 in
set_option maxRecDepth 100000 in
theorem c_X4_enterKite {G : GC} {w : Lay} {σ : Mem} {Q : Lay → Option Value → Mem → Prop} {Qx : Lay → String → Mem → Prop} {o x W Z N : Nat} {y l c k p : Int32} (hw : LO w o) (hN9 : rd σ o 6 0 = nI N) (hN16 : N < 16) (hW : rd σ o 1 0 = nI W) (hZ : rd σ o 1 4 = nI Z) (hW1 : 1 ≤ W ∧ W ≤ 1000) (hx : x ≤ 1000) (hZ4 : Z ≤ 1000) (hq : Q w (some (.int (nI N))) (enM σ o N (nI x) y (nI (x * Z / W)) l c k p)) : MX4_enterKite G w σ [.ref (w.2.1 o 0), .int (nI x), .int y, .int l, .int c, .int k, .int p] Q Qx := by
  refine mt_start (by decide) rfl (Nat.le_of_ble_eq_true rfl) (fun E hC hR hN => ?_)
  show J G E w 0 0 0 [some (.ref (w.2.1 o 0)), some (.int (nI x)), some (.int y), some (.int l), some (.int c), some (.int k), some (.int p), none] [] σ
  refine J_aload_n hC dX4_enterKite_0 rfl rfl ?_
  refine gX4_21 hC hw dX4_enterKite_1 ?_
  refine gX4_62 hC hw dX4_enterKite_4 ?_
  refine J_top hN9 ?_
  refine J_istore hC dX4_enterKite_7 (Nat.le_of_ble_eq_true rfl) rfl ?_
  dsimp only [List.set]
  refine J_iload hC dX4_enterKite_9 rfl ?_
  refine J_bipush (v := nI 16) hC dX4_enterKite_11 (by decide) ?_
  refine J_icmp_lt_n hC (by omega) (by decide) (tgt := 18) dX4_enterKite_13 rfl (fun hb0 => ?_) (fun hb0 => ?_)
  · refine J_aload_n hC dX4_enterKite_18 rfl rfl ?_
    refine gX4_21 hC hw dX4_enterKite_19 ?_
    refine gX4_69 hC hw dX4_enterKite_22 ?_
    refine J_iload hC dX4_enterKite_25 rfl ?_
    refine J_iload_n hC dX4_enterKite_27 rfl rfl ?_
    refine J_iastore hC (hw.2.1 7 (by decide)) (kd_o hw.1) rfl (by omega) (by decide) dX4_enterKite_28 ?_
    refine J_aload_n hC dX4_enterKite_29 rfl rfl ?_
    refine gX4_21 hC hw dX4_enterKite_30 ?_
    refine gX4_73 hC hw dX4_enterKite_33 ?_
    refine J_iload hC dX4_enterKite_36 rfl ?_
    refine J_iload_n hC dX4_enterKite_38 rfl rfl ?_
    refine J_iastore hC (hw.2.1 8 (by decide)) (kd_o hw.1) rfl (by omega) (by decide) dX4_enterKite_39 ?_
    refine J_aload_n hC dX4_enterKite_40 rfl rfl ?_
    refine gX4_21 hC hw dX4_enterKite_41 ?_
    refine gX4_76 hC hw dX4_enterKite_44 ?_
    refine J_iload hC dX4_enterKite_47 rfl ?_
    refine J_aload_n hC dX4_enterKite_49 rfl rfl ?_
    refine gX4_12 hC hw dX4_enterKite_50 ?_
    refine J_iload_n hC dX4_enterKite_53 rfl rfl ?_
    refine iX4_79 hC hw rfl ⟨by decide, by decide⟩ ⟨by decide, by decide⟩ (Nat.le_of_ble_eq_true rfl) dX4_enterKite_54 ?_
    refine c_X0_zoneAt hw ((rd_wr_c (by decide)).trans ((rd_wr_c (by decide)).trans hW)) ((rd_wr_c (by decide)).trans ((rd_wr_c (by decide)).trans hZ)) hW1 hx hZ4 ?_
    dsimp only [Option.toList_some, Option.toList_none, List.cons_append, List.nil_append]
    refine J_iastore hC (hw.2.1 9 (by decide)) (kd_o hw.1) rfl (by omega) (by decide) dX4_enterKite_57 ?_
    refine J_aload_n hC dX4_enterKite_58 rfl rfl ?_
    refine gX4_21 hC hw dX4_enterKite_59 ?_
    refine gX4_83 hC hw dX4_enterKite_62 ?_
    refine J_iload hC dX4_enterKite_65 rfl ?_
    refine J_iload_n hC dX4_enterKite_67 rfl rfl ?_
    refine J_iastore hC (hw.2.1 10 (by decide)) (kd_o hw.1) rfl (by omega) (by decide) dX4_enterKite_68 ?_
    refine J_aload_n hC dX4_enterKite_69 rfl rfl ?_
    refine gX4_21 hC hw dX4_enterKite_70 ?_
    refine gX4_86 hC hw dX4_enterKite_73 ?_
    refine J_iload hC dX4_enterKite_76 rfl ?_
    refine J_iload hC dX4_enterKite_78 rfl ?_
    refine J_iastore hC (hw.2.1 11 (by decide)) (kd_o hw.1) rfl (by omega) (by decide) dX4_enterKite_80 ?_
    refine J_aload_n hC dX4_enterKite_81 rfl rfl ?_
    refine gX4_21 hC hw dX4_enterKite_82 ?_
    refine gX4_89 hC hw dX4_enterKite_85 ?_
    refine J_iload hC dX4_enterKite_88 rfl ?_
    refine J_iload hC dX4_enterKite_90 rfl ?_
    refine J_iastore hC (hw.2.1 12 (by decide)) (kd_o hw.1) rfl (by omega) (by decide) dX4_enterKite_92 ?_
    refine J_aload_n hC dX4_enterKite_93 rfl rfl ?_
    refine gX4_21 hC hw dX4_enterKite_94 ?_
    refine gX4_92 hC hw dX4_enterKite_97 ?_
    refine J_iload hC dX4_enterKite_100 rfl ?_
    refine J_iload hC dX4_enterKite_102 rfl ?_
    refine J_iastore hC (hw.2.1 13 (by decide)) (kd_o hw.1) rfl (by omega) (by decide) dX4_enterKite_104 ?_
    refine J_aload_n hC dX4_enterKite_105 rfl rfl ?_
    refine gX4_21 hC hw dX4_enterKite_106 ?_
    refine gX4_95 hC hw dX4_enterKite_109 ?_
    refine J_iload hC dX4_enterKite_112 rfl ?_
    refine J_iconst (v := nI 0) hC dX4_enterKite_114 (by decide) ?_
    refine J_iastore hC (hw.2.1 14 (by decide)) (kd_o hw.1) rfl (by omega) (by decide) dX4_enterKite_115 ?_
    refine J_aload_n hC dX4_enterKite_116 rfl rfl ?_
    refine gX4_21 hC hw dX4_enterKite_117 ?_
    refine gX4_98 hC hw dX4_enterKite_120 ?_
    refine J_iload hC dX4_enterKite_123 rfl ?_
    refine J_iconst (v := nI 0) hC dX4_enterKite_125 (by decide) ?_
    refine J_iastore hC (hw.2.1 15 (by decide)) (kd_o hw.1) rfl (by omega) (by decide) dX4_enterKite_126 ?_
    refine J_aload_n hC dX4_enterKite_127 rfl rfl ?_
    refine gX4_21 hC hw dX4_enterKite_128 ?_
    refine gX4_101 hC hw dX4_enterKite_131 ?_
    refine J_iload hC dX4_enterKite_134 rfl ?_
    refine J_iconst (v := nI 0) hC dX4_enterKite_136 (by decide) ?_
    refine J_iastore hC (hw.2.1 16 (by decide)) (kd_o hw.1) rfl (by omega) (by decide) dX4_enterKite_137 ?_
    refine J_aload_n hC dX4_enterKite_138 rfl rfl ?_
    refine gX4_21 hC hw dX4_enterKite_139 ?_
    refine J_dup hC dX4_enterKite_142 rfl ?_
    refine gX4_62 hC hw dX4_enterKite_143 ?_
    refine J_top ((rd_wr_c (by decide)).trans ((rd_wr_c (by decide)).trans ((rd_wr_c (by decide)).trans ((rd_wr_c (by decide)).trans ((rd_wr_c (by decide)).trans ((rd_wr_c (by decide)).trans ((rd_wr_c (by decide)).trans ((rd_wr_c (by decide)).trans ((rd_wr_c (by decide)).trans ((rd_wr_c (by decide)).trans (hN9))))))))))) ?_
    refine J_iconst (v := nI 1) hC dX4_enterKite_146 (by decide) ?_
    refine J_iadd_n hC dX4_enterKite_147 ?_
    refine pX4_62 hC hw dX4_enterKite_148 ?_
    refine J_aload_n hC dX4_enterKite_151 rfl rfl ?_
    refine J_dup hC dX4_enterKite_152 rfl ?_
    refine gX4_53 hC hw dX4_enterKite_153 ?_
    refine J_top ((rd_wr_c (by decide)).trans ((rd_wr_c (by decide)).trans ((rd_wr_c (by decide)).trans ((rd_wr_c (by decide)).trans ((rd_wr_c (by decide)).trans ((rd_wr_c (by decide)).trans ((rd_wr_c (by decide)).trans ((rd_wr_c (by decide)).trans ((rd_wr_c (by decide)).trans ((rd_wr_c (by decide)).trans (rd_wr_c (by decide)))))))))))) ?_
    refine J_iload hC dX4_enterKite_156 rfl ?_
    refine J_iadd hC dX4_enterKite_158 ?_
    refine pX4_53 hC hw dX4_enterKite_159 ?_
    refine J_iload hC dX4_enterKite_162 rfl ?_
    refine J_ireturn hC hR dX4_enterKite_164 (by decide) (by decide) ?_
    exact hq
  · exact absurd hb0 (by omega)
