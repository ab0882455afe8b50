set_option maxHeartbeats 4000000 in
set_option maxRecDepth 100000 in
theorem c_X0_copyFrom {G : GC} {w : Lay} {σ : Mem} {Q : Lay → Option Value → Mem → Prop} {Qx : Lay → String → Mem → Prop} {o p : Nat} (hw : LO w o) (hw2 : LO w p) (hpo : p ≠ o)  (hq : ∀ σ', CP DF o p σ σ' → Q w none σ') : MX0_copyFrom G w σ [.ref (w.2.1 o 1), .ref (w.2.1 p 1)] Q Qx := by
  refine mt_start (by decide) rfl (Nat.le_of_ble_eq_true rfl) (fun E hC hR hN => ?_)
  show J G E w 0 0 0 [some (.ref (w.2.1 o 1)), some (.ref (w.2.1 p 1))] [] σ
  refine J_aload_n hC dX0_copyFrom_0 rfl rfl ?_
  refine J_aload_n hC dX0_copyFrom_1 rfl rfl ?_
  refine gX0_24 hC hw2 dX0_copyFrom_2 ?_
  refine pX0_24 hC hw dX0_copyFrom_5 ?_
  refine J_aload_n hC dX0_copyFrom_8 rfl rfl ?_
  refine J_aload_n hC dX0_copyFrom_9 rfl rfl ?_
  refine gX0_28 hC hw2 dX0_copyFrom_10 ?_
  refine pX0_28 hC hw dX0_copyFrom_13 ?_
  refine J_aload_n hC dX0_copyFrom_16 rfl rfl ?_
  refine J_aload_n hC dX0_copyFrom_17 rfl rfl ?_
  refine gX0_31 hC hw2 dX0_copyFrom_18 ?_
  refine pX0_31 hC hw dX0_copyFrom_21 ?_
  refine J_aload_n hC dX0_copyFrom_24 rfl rfl ?_
  refine J_aload_n hC dX0_copyFrom_25 rfl rfl ?_
  refine gX0_34 hC hw2 dX0_copyFrom_26 ?_
  refine pX0_34 hC hw dX0_copyFrom_29 ?_
  refine J_aload_n hC dX0_copyFrom_32 rfl rfl ?_
  refine J_aload_n hC dX0_copyFrom_33 rfl rfl ?_
  refine gX0_37 hC hw2 dX0_copyFrom_34 ?_
  refine pX0_37 hC hw dX0_copyFrom_37 ?_
  refine J_aload_n hC dX0_copyFrom_40 rfl rfl ?_
  refine gX0_9 hC hw2 dX0_copyFrom_41 ?_
  refine J_iconst (v := nI 0) hC dX0_copyFrom_44 (by decide) ?_
  refine J_aload_n hC dX0_copyFrom_45 rfl rfl ?_
  refine gX0_9 hC hw dX0_copyFrom_46 ?_
  refine J_iconst (v := nI 0) hC dX0_copyFrom_49 (by decide) ?_
  refine J_iconst (v := nI 4) hC dX0_copyFrom_50 (by decide) ?_
  refine J_copy hC rfl q4_78 (hw.2.1 2 (by decide)) (hw2.2.1 2 (by decide)) (kd_o hw.1) (kd_o hw2.1) rfl (by decide) (by decide) (by decide) (by decide) (Nat.le_of_ble_eq_true rfl) dX0_copyFrom_51 ?_
  refine J_aload_n hC dX0_copyFrom_54 rfl rfl ?_
  refine gX0_15 hC hw2 dX0_copyFrom_55 ?_
  refine J_iconst (v := nI 0) hC dX0_copyFrom_58 (by decide) ?_
  refine J_aload_n hC dX0_copyFrom_59 rfl rfl ?_
  refine gX0_15 hC hw dX0_copyFrom_60 ?_
  refine J_iconst (v := nI 0) hC dX0_copyFrom_63 (by decide) ?_
  refine J_bipush (v := nI 24) hC dX0_copyFrom_64 (by decide) ?_
  refine J_copy hC rfl q4_78 (hw.2.1 3 (by decide)) (hw2.2.1 3 (by decide)) (kd_o hw.1) (kd_o hw2.1) rfl (by decide) (by decide) (by decide) (by decide) (Nat.le_of_ble_eq_true rfl) dX0_copyFrom_66 ?_
  refine J_aload_n hC dX0_copyFrom_69 rfl rfl ?_
  refine gX0_18 hC hw2 dX0_copyFrom_70 ?_
  refine J_iconst (v := nI 0) hC dX0_copyFrom_73 (by decide) ?_
  refine J_aload_n hC dX0_copyFrom_74 rfl rfl ?_
  refine gX0_18 hC hw dX0_copyFrom_75 ?_
  refine J_iconst (v := nI 0) hC dX0_copyFrom_78 (by decide) ?_
  refine J_bipush (v := nI 24) hC dX0_copyFrom_79 (by decide) ?_
  refine J_copy hC rfl q4_78 (hw.2.1 4 (by decide)) (hw2.2.1 4 (by decide)) (kd_o hw.1) (kd_o hw2.1) rfl (by decide) (by decide) (by decide) (by decide) (Nat.le_of_ble_eq_true rfl) dX0_copyFrom_81 ?_
  refine J_aload_n hC dX0_copyFrom_84 rfl rfl ?_
  refine J_aload_n hC dX0_copyFrom_85 rfl rfl ?_
  refine gX0_46 hC hw2 dX0_copyFrom_86 ?_
  refine pX0_46 hC hw dX0_copyFrom_89 ?_
  refine J_aload_n hC dX0_copyFrom_92 rfl rfl ?_
  refine gX0_21 hC hw2 dX0_copyFrom_93 ?_
  refine J_iconst (v := nI 0) hC dX0_copyFrom_96 (by decide) ?_
  refine J_aload_n hC dX0_copyFrom_97 rfl rfl ?_
  refine gX0_21 hC hw dX0_copyFrom_98 ?_
  refine J_iconst (v := nI 0) hC dX0_copyFrom_101 (by decide) ?_
  refine J_bipush (v := nI 6) hC dX0_copyFrom_102 (by decide) ?_
  refine J_copy hC rfl q4_78 (hw.2.1 5 (by decide)) (hw2.2.1 5 (by decide)) (kd_o hw.1) (kd_o hw2.1) rfl (by decide) (by decide) (by decide) (by decide) (Nat.le_of_ble_eq_true rfl) dX0_copyFrom_104 ?_
  refine J_return hC hR dX0_copyFrom_107 (by decide) (by decide) ?_
  exact hq _ (cp_iff (cp_cpy hpo (cp_wr hpo (cp_cpy hpo (cp_cpy hpo (cp_cpy hpo (cp_wr hpo (cp_wr hpo (cp_wr hpo (cp_wr hpo (cp_wr hpo cp_0)))))))))) (fun c j => by simp only [DF, or_false]; omega))
set_option maxHeartbeats 4000000 in
set_option maxRecDepth 100000 in
theorem c_X1_copyFrom {G : GC} {w : Lay} {σ : Mem} {Q : Lay → Option Value → Mem → Prop} {Qx : Lay → String → Mem → Prop} {o p : Nat} (hw : LO w o) (hw2 : LO w p) (hpo : p ≠ o)  (hq : ∀ σ', CP DK o p σ σ' → Q w none σ') : MX1_copyFrom G w σ [.ref (w.2.1 o 6), .ref (w.2.1 p 6)] Q Qx := by
  refine mt_start (by decide) rfl (Nat.le_of_ble_eq_true rfl) (fun E hC hR hN => ?_)
  show J G E w 0 0 0 [some (.ref (w.2.1 o 6)), some (.ref (w.2.1 p 6))] [] σ
  refine J_aload_n hC dX1_copyFrom_0 rfl rfl ?_
  refine J_aload_n hC dX1_copyFrom_1 rfl rfl ?_
  refine gX1_42 hC hw2 dX1_copyFrom_2 ?_
  refine pX1_42 hC hw dX1_copyFrom_5 ?_
  refine J_aload_n hC dX1_copyFrom_8 rfl rfl ?_
  refine J_aload_n hC dX1_copyFrom_9 rfl rfl ?_
  refine gX1_46 hC hw2 dX1_copyFrom_10 ?_
  refine pX1_46 hC hw dX1_copyFrom_13 ?_
  refine J_aload_n hC dX1_copyFrom_16 rfl rfl ?_
  refine gX1_9 hC hw2 dX1_copyFrom_17 ?_
  refine J_iconst (v := nI 0) hC dX1_copyFrom_20 (by decide) ?_
  refine J_aload_n hC dX1_copyFrom_21 rfl rfl ?_
  refine gX1_9 hC hw dX1_copyFrom_22 ?_
  refine J_iconst (v := nI 0) hC dX1_copyFrom_25 (by decide) ?_
  refine J_bipush (v := nI 16) hC dX1_copyFrom_26 (by decide) ?_
  refine J_copy hC rfl q4_85 (hw.2.1 7 (by decide)) (hw2.2.1 7 (by decide)) (kd_o hw.1) (kd_o hw2.1) rfl (by decide) (by decide) (by decide) (by decide) (Nat.le_of_ble_eq_true rfl) dX1_copyFrom_28 ?_
  refine J_aload_n hC dX1_copyFrom_31 rfl rfl ?_
  refine gX1_15 hC hw2 dX1_copyFrom_32 ?_
  refine J_iconst (v := nI 0) hC dX1_copyFrom_35 (by decide) ?_
  refine J_aload_n hC dX1_copyFrom_36 rfl rfl ?_
  refine gX1_15 hC hw dX1_copyFrom_37 ?_
  refine J_iconst (v := nI 0) hC dX1_copyFrom_40 (by decide) ?_
  refine J_bipush (v := nI 16) hC dX1_copyFrom_41 (by decide) ?_
  refine J_copy hC rfl q4_85 (hw.2.1 8 (by decide)) (hw2.2.1 8 (by decide)) (kd_o hw.1) (kd_o hw2.1) rfl (by decide) (by decide) (by decide) (by decide) (Nat.le_of_ble_eq_true rfl) dX1_copyFrom_43 ?_
  refine J_aload_n hC dX1_copyFrom_46 rfl rfl ?_
  refine gX1_18 hC hw2 dX1_copyFrom_47 ?_
  refine J_iconst (v := nI 0) hC dX1_copyFrom_50 (by decide) ?_
  refine J_aload_n hC dX1_copyFrom_51 rfl rfl ?_
  refine gX1_18 hC hw dX1_copyFrom_52 ?_
  refine J_iconst (v := nI 0) hC dX1_copyFrom_55 (by decide) ?_
  refine J_bipush (v := nI 16) hC dX1_copyFrom_56 (by decide) ?_
  refine J_copy hC rfl q4_85 (hw.2.1 9 (by decide)) (hw2.2.1 9 (by decide)) (kd_o hw.1) (kd_o hw2.1) rfl (by decide) (by decide) (by decide) (by decide) (Nat.le_of_ble_eq_true rfl) dX1_copyFrom_58 ?_
  refine J_aload_n hC dX1_copyFrom_61 rfl rfl ?_
  refine gX1_21 hC hw2 dX1_copyFrom_62 ?_
  refine J_iconst (v := nI 0) hC dX1_copyFrom_65 (by decide) ?_
  refine J_aload_n hC dX1_copyFrom_66 rfl rfl ?_
  refine gX1_21 hC hw dX1_copyFrom_67 ?_
  refine J_iconst (v := nI 0) hC dX1_copyFrom_70 (by decide) ?_
  refine J_bipush (v := nI 16) hC dX1_copyFrom_71 (by decide) ?_
  refine J_copy hC rfl q4_85 (hw.2.1 10 (by decide)) (hw2.2.1 10 (by decide)) (kd_o hw.1) (kd_o hw2.1) rfl (by decide) (by decide) (by decide) (by decide) (Nat.le_of_ble_eq_true rfl) dX1_copyFrom_73 ?_
  refine J_aload_n hC dX1_copyFrom_76 rfl rfl ?_
  refine gX1_24 hC hw2 dX1_copyFrom_77 ?_
  refine J_iconst (v := nI 0) hC dX1_copyFrom_80 (by decide) ?_
  refine J_aload_n hC dX1_copyFrom_81 rfl rfl ?_
  refine gX1_24 hC hw dX1_copyFrom_82 ?_
  refine J_iconst (v := nI 0) hC dX1_copyFrom_85 (by decide) ?_
  refine J_bipush (v := nI 16) hC dX1_copyFrom_86 (by decide) ?_
  refine J_copy hC rfl q4_85 (hw.2.1 11 (by decide)) (hw2.2.1 11 (by decide)) (kd_o hw.1) (kd_o hw2.1) rfl (by decide) (by decide) (by decide) (by decide) (Nat.le_of_ble_eq_true rfl) dX1_copyFrom_88 ?_
  refine J_aload_n hC dX1_copyFrom_91 rfl rfl ?_
  refine gX1_27 hC hw2 dX1_copyFrom_92 ?_
  refine J_iconst (v := nI 0) hC dX1_copyFrom_95 (by decide) ?_
  refine J_aload_n hC dX1_copyFrom_96 rfl rfl ?_
  refine gX1_27 hC hw dX1_copyFrom_97 ?_
  refine J_iconst (v := nI 0) hC dX1_copyFrom_100 (by decide) ?_
  refine J_bipush (v := nI 16) hC dX1_copyFrom_101 (by decide) ?_
  refine J_copy hC rfl q4_85 (hw.2.1 12 (by decide)) (hw2.2.1 12 (by decide)) (kd_o hw.1) (kd_o hw2.1) rfl (by decide) (by decide) (by decide) (by decide) (Nat.le_of_ble_eq_true rfl) dX1_copyFrom_103 ?_
  refine J_aload_n hC dX1_copyFrom_106 rfl rfl ?_
  refine gX1_30 hC hw2 dX1_copyFrom_107 ?_
  refine J_iconst (v := nI 0) hC dX1_copyFrom_110 (by decide) ?_
  refine J_aload_n hC dX1_copyFrom_111 rfl rfl ?_
  refine gX1_30 hC hw dX1_copyFrom_112 ?_
  refine J_iconst (v := nI 0) hC dX1_copyFrom_115 (by decide) ?_
  refine J_bipush (v := nI 16) hC dX1_copyFrom_116 (by decide) ?_
  refine J_copy hC rfl q4_85 (hw.2.1 13 (by decide)) (hw2.2.1 13 (by decide)) (kd_o hw.1) (kd_o hw2.1) rfl (by decide) (by decide) (by decide) (by decide) (Nat.le_of_ble_eq_true rfl) dX1_copyFrom_118 ?_
  refine J_aload_n hC dX1_copyFrom_121 rfl rfl ?_
  refine gX1_33 hC hw2 dX1_copyFrom_122 ?_
  refine J_iconst (v := nI 0) hC dX1_copyFrom_125 (by decide) ?_
  refine J_aload_n hC dX1_copyFrom_126 rfl rfl ?_
  refine gX1_33 hC hw dX1_copyFrom_127 ?_
  refine J_iconst (v := nI 0) hC dX1_copyFrom_130 (by decide) ?_
  refine J_bipush (v := nI 16) hC dX1_copyFrom_131 (by decide) ?_
  refine J_copy hC rfl q4_85 (hw.2.1 14 (by decide)) (hw2.2.1 14 (by decide)) (kd_o hw.1) (kd_o hw2.1) rfl (by decide) (by decide) (by decide) (by decide) (Nat.le_of_ble_eq_true rfl) dX1_copyFrom_133 ?_
  refine J_aload_n hC dX1_copyFrom_136 rfl rfl ?_
  refine gX1_36 hC hw2 dX1_copyFrom_137 ?_
  refine J_iconst (v := nI 0) hC dX1_copyFrom_140 (by decide) ?_
  refine J_aload_n hC dX1_copyFrom_141 rfl rfl ?_
  refine gX1_36 hC hw dX1_copyFrom_142 ?_
  refine J_iconst (v := nI 0) hC dX1_copyFrom_145 (by decide) ?_
  refine J_bipush (v := nI 16) hC dX1_copyFrom_146 (by decide) ?_
  refine J_copy hC rfl q4_85 (hw.2.1 15 (by decide)) (hw2.2.1 15 (by decide)) (kd_o hw.1) (kd_o hw2.1) rfl (by decide) (by decide) (by decide) (by decide) (Nat.le_of_ble_eq_true rfl) dX1_copyFrom_148 ?_
  refine J_aload_n hC dX1_copyFrom_151 rfl rfl ?_
  refine gX1_39 hC hw2 dX1_copyFrom_152 ?_
  refine J_iconst (v := nI 0) hC dX1_copyFrom_155 (by decide) ?_
  refine J_aload_n hC dX1_copyFrom_156 rfl rfl ?_
  refine gX1_39 hC hw dX1_copyFrom_157 ?_
  refine J_iconst (v := nI 0) hC dX1_copyFrom_160 (by decide) ?_
  refine J_bipush (v := nI 16) hC dX1_copyFrom_161 (by decide) ?_
  refine J_copy hC rfl q4_85 (hw.2.1 16 (by decide)) (hw2.2.1 16 (by decide)) (kd_o hw.1) (kd_o hw2.1) rfl (by decide) (by decide) (by decide) (by decide) (Nat.le_of_ble_eq_true rfl) dX1_copyFrom_163 ?_
  refine J_return hC hR dX1_copyFrom_166 (by decide) (by decide) ?_
  exact hq _ (cp_iff (cp_cpy hpo (cp_cpy hpo (cp_cpy hpo (cp_cpy hpo (cp_cpy hpo (cp_cpy hpo (cp_cpy hpo (cp_cpy hpo (cp_cpy hpo (cp_cpy hpo (cp_wr hpo (cp_wr hpo cp_0)))))))))))) (fun c j => by simp only [DK, or_false]; omega))
set_option maxHeartbeats 4000000 in
set_option maxRecDepth 100000 in
theorem c_X6_copyFrom {G : GC} {w : Lay} {σ : Mem} {Q : Lay → Option Value → Mem → Prop} {Qx : Lay → String → Mem → Prop} {o p : Nat} (hw : LO w o) (hw2 : LO w p) (hpo : p ≠ o)  (hq : ∀ σ', CP DPm o p σ σ' → Q w none σ') : MX6_copyFrom G w σ [.ref (w.2.1 o 17), .ref (w.2.1 p 17)] Q Qx := by
  refine mt_start (by decide) rfl (Nat.le_of_ble_eq_true rfl) (fun E hC hR hN => ?_)
  show J G E w 0 0 0 [some (.ref (w.2.1 o 17)), some (.ref (w.2.1 p 17))] [] σ
  refine J_aload_n hC dX6_copyFrom_0 rfl rfl ?_
  refine J_aload_n hC dX6_copyFrom_1 rfl rfl ?_
  refine gX6_21 hC hw2 dX6_copyFrom_2 ?_
  refine pX6_21 hC hw dX6_copyFrom_5 ?_
  refine J_aload_n hC dX6_copyFrom_8 rfl rfl ?_
  refine gX6_9 hC hw2 dX6_copyFrom_9 ?_
  refine J_iconst (v := nI 0) hC dX6_copyFrom_12 (by decide) ?_
  refine J_aload_n hC dX6_copyFrom_13 rfl rfl ?_
  refine gX6_9 hC hw dX6_copyFrom_14 ?_
  refine J_iconst (v := nI 0) hC dX6_copyFrom_17 (by decide) ?_
  refine J_bipush (v := nI 30) hC dX6_copyFrom_18 (by decide) ?_
  refine J_copy hC rfl q4_90 (hw.2.1 18 (by decide)) (hw2.2.1 18 (by decide)) (kd_o hw.1) (kd_o hw2.1) rfl (by decide) (by decide) (by decide) (by decide) (Nat.le_of_ble_eq_true rfl) dX6_copyFrom_20 ?_
  refine J_aload_n hC dX6_copyFrom_23 rfl rfl ?_
  refine gX6_15 hC hw2 dX6_copyFrom_24 ?_
  refine J_iconst (v := nI 0) hC dX6_copyFrom_27 (by decide) ?_
  refine J_aload_n hC dX6_copyFrom_28 rfl rfl ?_
  refine gX6_15 hC hw dX6_copyFrom_29 ?_
  refine J_iconst (v := nI 0) hC dX6_copyFrom_32 (by decide) ?_
  refine J_bipush (v := nI 30) hC dX6_copyFrom_33 (by decide) ?_
  refine J_copy hC rfl q4_90 (hw.2.1 19 (by decide)) (hw2.2.1 19 (by decide)) (kd_o hw.1) (kd_o hw2.1) rfl (by decide) (by decide) (by decide) (by decide) (Nat.le_of_ble_eq_true rfl) dX6_copyFrom_35 ?_
  refine J_aload_n hC dX6_copyFrom_38 rfl rfl ?_
  refine gX6_18 hC hw2 dX6_copyFrom_39 ?_
  refine J_iconst (v := nI 0) hC dX6_copyFrom_42 (by decide) ?_
  refine J_aload_n hC dX6_copyFrom_43 rfl rfl ?_
  refine gX6_18 hC hw dX6_copyFrom_44 ?_
  refine J_iconst (v := nI 0) hC dX6_copyFrom_47 (by decide) ?_
  refine J_bipush (v := nI 30) hC dX6_copyFrom_48 (by decide) ?_
  refine J_copy hC rfl q4_90 (hw.2.1 20 (by decide)) (hw2.2.1 20 (by decide)) (kd_o hw.1) (kd_o hw2.1) rfl (by decide) (by decide) (by decide) (by decide) (Nat.le_of_ble_eq_true rfl) dX6_copyFrom_50 ?_
  refine J_return hC hR dX6_copyFrom_53 (by decide) (by decide) ?_
  exact hq _ (cp_iff (cp_cpy hpo (cp_cpy hpo (cp_cpy hpo (cp_wr hpo cp_0)))) (fun c j => by simp only [DPm, or_false]; omega))
set_option maxHeartbeats 4000000 in
set_option maxRecDepth 100000 in
theorem c_X4_copyFrom {G : GC} {w : Lay} {σ : Mem} {Q : Lay → Option Value → Mem → Prop} {Qx : Lay → String → Mem → Prop} {o p : Nat} (hw : LO w o) (hw2 : LO w p) (hpo : p ≠ o)  (hq : ∀ σ', CP DA o p σ σ' → Q w none σ') : MX4_copyFrom G w σ [.ref (w.2.1 o 0), .ref (w.2.1 p 0)] Q Qx := by
  refine mt_start (by decide) rfl (Nat.le_of_ble_eq_true rfl) (fun E hC hR hN => ?_)
  show J G E w 0 0 0 [some (.ref (w.2.1 o 0)), some (.ref (w.2.1 p 0))] [] σ
  refine J_aload_n hC dX4_copyFrom_0 rfl rfl ?_
  refine gX4_12 hC hw dX4_copyFrom_1 ?_
  refine J_aload_n hC dX4_copyFrom_4 rfl rfl ?_
  refine gX4_12 hC hw2 dX4_copyFrom_5 ?_
  refine iX4_36 hC hw rfl ⟨by decide, by decide⟩ ⟨by decide, by decide⟩ (Nat.le_of_ble_eq_true rfl) dX4_copyFrom_8 ?_
  refine c_X0_copyFrom hw hw2 hpo (fun σ1 h1 => ?_)
  dsimp only [Option.toList_some, Option.toList_none, List.cons_append, List.nil_append]
  refine J_aload_n hC dX4_copyFrom_11 rfl rfl ?_
  refine gX4_21 hC hw dX4_copyFrom_12 ?_
  refine J_aload_n hC dX4_copyFrom_15 rfl rfl ?_
  refine gX4_21 hC hw2 dX4_copyFrom_16 ?_
  refine iX4_40 hC hw rfl ⟨by decide, by decide⟩ ⟨by decide, by decide⟩ (Nat.le_of_ble_eq_true rfl) dX4_copyFrom_19 ?_
  refine c_X1_copyFrom hw hw2 hpo (fun σ2 h2 => ?_)
  dsimp only [Option.toList_some, Option.toList_none, List.cons_append, List.nil_append]
  refine J_aload_n hC dX4_copyFrom_22 rfl rfl ?_
  refine gX4_28 hC hw dX4_copyFrom_23 ?_
  refine J_aload_n hC dX4_copyFrom_26 rfl rfl ?_
  refine gX4_28 hC hw2 dX4_copyFrom_27 ?_
  refine iX4_43 hC hw rfl ⟨by decide, by decide⟩ ⟨by decide, by decide⟩ (Nat.le_of_ble_eq_true rfl) dX4_copyFrom_30 ?_
  refine c_X6_copyFrom hw hw2 hpo (fun σ3 h3 => ?_)
  dsimp only [Option.toList_some, Option.toList_none, List.cons_append, List.nil_append]
  refine J_aload_n hC dX4_copyFrom_33 rfl rfl ?_
  refine J_aload_n hC dX4_copyFrom_34 rfl rfl ?_
  refine gX4_46 hC hw2 dX4_copyFrom_35 ?_
  refine pX4_46 hC hw dX4_copyFrom_38 ?_
  refine J_aload_n hC dX4_copyFrom_41 rfl rfl ?_
  refine J_aload_n hC dX4_copyFrom_42 rfl rfl ?_
  refine gX4_50 hC hw2 dX4_copyFrom_43 ?_
  refine pX4_50 hC hw dX4_copyFrom_46 ?_
  refine J_aload_n hC dX4_copyFrom_49 rfl rfl ?_
  refine J_aload_n hC dX4_copyFrom_50 rfl rfl ?_
  refine gX4_53 hC hw2 dX4_copyFrom_51 ?_
  refine pX4_53 hC hw dX4_copyFrom_54 ?_
  refine J_return hC hR dX4_copyFrom_57 (by decide) (by decide) ?_
  exact hq _ (cp_iff (cp_wr hpo (cp_wr hpo (cp_wr hpo (cp_trans hpo (cp_trans hpo h1 h2) h3)))) (fun c j => by simp only [DA, DPm, DK, DF, or_false]; omega))
theorem tgK_2 {x : Nat} (h : x < 8) : tgK 2 x = some (2 + x, 0) := by
  unfold tgK
  rw [if_neg (by decide), if_neg (by decide), if_pos rfl, if_pos h]
/-- an emptied office: what is left to know of it -/
def clrO (σ : Mem) (o : Nat) : Mem := wr (wr (wr (wr (wr (wr (wr (wr σ o 1 4 (nI 0)) o 1 8 (nI 0)) o 6 0 (nI 0)) o 6 1 (nI 0)) o 17 0 (nI 0)) o 0 3 (nI 0)) o 0 4 (nI 0)) o 0 5 (nI 0)
set_option maxHeartbeats 4000000 in
set_option maxRecDepth 100000 in
theorem c_X2_remember {G : GC} {w : Lay} {σ : Mem} {Q : Lay → Option Value → Mem → Prop} {Qx : Lay → String → Mem → Prop} {o x u : Nat} (hK : LK w) (hw : LO w o) (hw2 : LO w (2 + x)) (hx : x < 8) (hu : u ≤ 8) (hox : o ≠ 2 + x) (hn : rd σ 12 1 2 = nI x) (hc : rd σ 12 1 1 = nI u) (hq : ∀ σ', CP DA (2 + x) o σ σ' → Q w none (wr (wr σ' 12 1 2 (nI ((x + 1) % 8))) 12 1 1 (nI (min (u + 1) 8)))) : MX2_remember G w σ [.ref (w.2.1 12 1), .ref (w.2.1 o 0)] Q Qx := by
  refine mt_start (by decide) rfl (Nat.le_of_ble_eq_true rfl) (fun E hC hR hN => ?_)
  show J G E w 0 0 0 [some (.ref (w.2.1 12 1)), some (.ref (w.2.1 o 0))] [] σ
  refine J_aload_n hC dX2_remember_0 rfl rfl ?_
  refine gX2_11 hC hK dX2_remember_1 ?_
  refine J_aload_n hC dX2_remember_4 rfl rfl ?_
  refine gX2_18 hC hK dX2_remember_5 ?_
  refine J_top hn ?_
  refine J_aaload hC (hK.1 2 (by decide)) rfl rfl (by omega) (by decide) (hK.2 2 x (2 + x, 0) (tgK_2 hx)) dX2_remember_8 ?_
  refine J_aload_n hC dX2_remember_9 rfl rfl ?_
  refine iX2_22 hC hw2 rfl ⟨by decide, by decide⟩ ⟨by decide, by decide⟩ (Nat.le_of_ble_eq_true rfl) dX2_remember_10 ?_
  refine c_X4_copyFrom hw2 hw hox (fun σ1 h1 => ?_)
  dsimp only [Option.toList_some, Option.toList_none, List.cons_append, List.nil_append]
  refine J_aload_n hC dX2_remember_13 rfl rfl ?_
  refine J_aload_n hC dX2_remember_14 rfl rfl ?_
  refine gX2_18 hC hK dX2_remember_15 ?_
  refine J_top ((congrFun (h1.1 12 1 (by omega)) 2).trans hn) ?_
  refine J_iconst (v := nI 1) hC dX2_remember_18 (by decide) ?_
  refine J_iadd_n hC dX2_remember_19 ?_
  refine J_bipush (v := nI 8) hC dX2_remember_20 (by decide) ?_
  refine J_irem_n hC (by omega) (by omega) (by omega) dX2_remember_22 ?_
  refine pX2_18 hC hK dX2_remember_23 ?_
  refine J_aload_n hC dX2_remember_26 rfl rfl ?_
  refine J_aload_n hC dX2_remember_27 rfl rfl ?_
  refine gX2_26 hC hK dX2_remember_28 ?_
  refine J_top (((rd_wr_j (by decide)).trans (congrFun (h1.1 12 1 (by omega)) 1)).trans hc) ?_
  refine J_iconst (v := nI 1) hC dX2_remember_31 (by decide) ?_
  refine J_iadd_n hC dX2_remember_32 ?_
  refine J_bipush (v := nI 8) hC dX2_remember_33 (by decide) ?_
  refine J_min hC rfl q4_91 (by decide) (Nat.le_of_ble_eq_true rfl) (by decide) (by decide) dX2_remember_35 ?_
  rw [imin_n (by omega) (by omega)]
  refine pX2_26 hC hK dX2_remember_38 ?_
  refine J_return hC hR dX2_remember_41 (by decide) (by decide) ?_
  exact hq _ h1
