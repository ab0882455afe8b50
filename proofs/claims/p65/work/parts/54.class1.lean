set_option maxHeartbeats 4000000 in
set_option maxRecDepth 100000 in
theorem c_X0_windIndex {G : GC} {w : Lay} {σ : Mem} {Q : Lay → Option Value → Mem → Prop} {Qx : Lay → String → Mem → Prop} {o hm : Nat} {A : Rw} (hw : LO w o) (hO : OAt σ o A) (hI : RowOK hm A) {k h : Nat} (hk : k < nv A 4) (hh : h < 2 ^ 31) (hq : Q w (some (.int (nI (wi A k h)))) σ) : MX0_windIndex G w σ [.ref (w.2.1 o 1), .int (nI k), .int (nI h)] Q Qx := by
  refine mt_start (by decide) rfl (Nat.le_of_ble_eq_true rfl) (fun E hC hR hN => ?_)
  show J G E w 0 0 0 [some (.ref (w.2.1 o 1)), some (.int (nI k)), some (.int (nI h)), none] [] σ
  have h1 := r_ZC hI hk
  have h2 := r_NZ hI
  refine J_iload_n hC dX0_windIndex_0 rfl rfl ?_
  refine J_bipush (v := nI 6) hC dX0_windIndex_1 (by decide) ?_
  refine J_imul_n hC dX0_windIndex_3 ?_
  refine J_istore_n hC dX0_windIndex_4 rfl (Nat.le_of_ble_eq_true rfl) rfl ?_
  dsimp only [List.set]
  refine J_aload_n hC dX0_windIndex_5 rfl rfl ?_
  refine gX0_9 hC hw dX0_windIndex_6 ?_
  refine J_iload_n hC dX0_windIndex_9 rfl rfl ?_
  refine J_iaload hC (hw.2.1 2 (by decide)) (kd_o hw.1) rfl (by omega) (by decide) dX0_windIndex_10 ?_
  refine J_top (o_ZC hO hI hk) ?_
  refine J_iconst (v := nI 1) hC dX0_windIndex_11 (by decide) ?_
  refine J_icmp_ge_n hC (by omega) (by decide) (tgt := 19) dX0_windIndex_12 rfl (fun hb => ?_) (fun hb => ?_)
  · refine J_iload_n hC dX0_windIndex_19 rfl rfl ?_
    refine J_iload_n hC dX0_windIndex_20 rfl rfl ?_
    refine J_aload_n hC dX0_windIndex_21 rfl rfl ?_
    refine gX0_9 hC hw dX0_windIndex_22 ?_
    refine J_iload_n hC dX0_windIndex_25 rfl rfl ?_
    refine J_iaload hC (hw.2.1 2 (by decide)) (kd_o hw.1) rfl (by omega) (by decide) dX0_windIndex_26 ?_
    refine J_top (o_ZC hO hI hk) ?_
    refine J_irem_n hC (by omega) (by omega) (by omega) dX0_windIndex_27 ?_
    refine J_iadd_n hC dX0_windIndex_28 ?_
    refine J_ireturn hC hR dX0_windIndex_29 (by decide) (by decide) ?_
    exact hq
  · refine J_iload_n hC dX0_windIndex_15 rfl rfl ?_
    refine J_goto (tgt := 29) hC dX0_windIndex_16 rfl ?_
    refine J_ireturn hC hR dX0_windIndex_29 (by decide) (by decide) ?_
    omega
set_option maxHeartbeats 4000000 in
set_option maxRecDepth 100000 in
theorem c_X4_windAt {G : GC} {w : Lay} {σ : Mem} {Q : Lay → Option Value → Mem → Prop} {Qx : Lay → String → Mem → Prop} {o hm : Nat} {A : Rw} (hw : LO w o) (hO : OAt σ o A) (hI : RowOK hm A) {k h : Nat} (hk : k < nv A 6) (hh : h < 2 ^ 31) (hq : Q w (some (.int (nI (wi A (zoneN A k) h)))) σ) : MX4_windAt G w σ [.ref (w.2.1 o 0), .int (nI k), .int (nI h)] Q Qx := by
  refine mt_start (by decide) rfl (Nat.le_of_ble_eq_true rfl) (fun E hC hR hN => ?_)
  show J G E w 0 0 0 [some (.ref (w.2.1 o 0)), some (.int (nI k)), some (.int (nI h))] [] σ
  have hNK := r_NK hI
  refine J_aload_n hC dX4_windAt_0 rfl rfl ?_
  refine gX4_12 hC hw dX4_windAt_1 ?_
  refine J_aload_n hC dX4_windAt_4 rfl rfl ?_
  refine gX4_21 hC hw dX4_windAt_5 ?_
  refine gX4_76 hC hw dX4_windAt_8 ?_
  refine J_iload_n hC dX4_windAt_11 rfl rfl ?_
  refine J_iaload hC (hw.2.1 9 (by decide)) (kd_o hw.1) rfl (by omega) (by decide) dX4_windAt_12 ?_
  refine J_top (o_Z hO hk) ?_
  refine J_iload_n hC dX4_windAt_13 rfl rfl ?_
  refine iX4_104 hC hw rfl ⟨by decide, by decide⟩ ⟨by decide, by decide⟩ (Nat.le_of_ble_eq_true rfl) dX4_windAt_14 ?_
  refine c_X0_windIndex hw hO hI (zoneN_lt hI hk) hh ?_
  dsimp only [Option.toList_some, Option.toList_none, List.cons_append, List.nil_append]
  refine J_ireturn hC hR dX4_windAt_17 (by decide) (by decide) ?_
  exact hq
set_option maxHeartbeats 4000000 in
set_option maxRecDepth 100000 in
theorem c_X4_reachIn {G : GC} {w : Lay} {σ : Mem} {Q : Lay → Option Value → Mem → Prop} {Qx : Lay → String → Mem → Prop} {o hm : Nat} {A : Rw} (hw : LO w o) (hO : OAt σ o A) (hI : RowOK hm A) {k kn h : Nat} (hk : k < nv A 6) (hkn : kn ≤ 9) (hh : h < 2 ^ 31) (hq : Q w (some (.int (nI (reachW A k kn h)))) σ) : MX4_reachIn G w σ [.ref (w.2.1 o 0), .int (nI k), .int (nI kn), .int (nI (wi A (zoneN A k) h))] Q Qx := by
  refine mt_start (by decide) rfl (Nat.le_of_ble_eq_true rfl) (fun E hC hR hN => ?_)
  show J G E w 0 0 0 [some (.ref (w.2.1 o 0)), some (.int (nI k)), some (.int (nI kn)), some (.int (nI (wi A (zoneN A k) h))), none] [] σ
  have h1 := r_NK hI
  have h2 := frcN_le hI (zoneN_lt hI hk) h
  have h3 := r_KL hI hk
  have h4 := wi_lt hI (zoneN_lt hI hk) h
  refine J_aload_n hC dX4_reachIn_0 rfl rfl ?_
  refine gX4_12 hC hw dX4_reachIn_1 ?_
  refine gX4_108 hC hw dX4_reachIn_4 ?_
  refine J_iload_n hC dX4_reachIn_7 rfl rfl ?_
  refine J_iaload hC (hw.2.1 4 (by decide)) (kd_o hw.1) rfl (by omega) (by decide) dX4_reachIn_8 ?_
  refine J_top (o_F hO hI (zoneN_lt hI hk) h) ?_
  refine J_iload_n hC dX4_reachIn_9 rfl rfl ?_
  refine J_isub_z hC (nI_iI _) (nI_iI _) dX4_reachIn_10 ?_
  refine J_istore hC dX4_reachIn_11 (Nat.le_of_ble_eq_true rfl) rfl ?_
  dsimp only [List.set]
  refine J_iload hC dX4_reachIn_13 rfl ?_
  refine J_iconst (v := nI 1) hC dX4_reachIn_15 (by decide) ?_
  refine J_icmp_ge_z hC rfl (nI_iI _) (by omega) (by omega) (tgt := 21) dX4_reachIn_16 rfl (fun hb0 => ?_) (fun hb0 => ?_)
  · refine J_aload_n hC dX4_reachIn_21 rfl rfl ?_
    refine gX4_21 hC hw dX4_reachIn_22 ?_
    refine gX4_83 hC hw dX4_reachIn_25 ?_
    refine J_iload_n hC dX4_reachIn_28 rfl rfl ?_
    refine J_iaload hC (hw.2.1 10 (by decide)) (kd_o hw.1) rfl (by omega) (by decide) dX4_reachIn_29 ?_
    refine J_top (o_L hO hI hk) ?_
    refine J_iload hC dX4_reachIn_30 rfl ?_
    refine J_iconst (v := nI 5) hC dX4_reachIn_32 (by decide) ?_
    refine J_min hC rfl q2_203 (by decide) (Nat.le_of_ble_eq_true rfl) (by decide) (by decide) dX4_reachIn_33 ?_
    rw [show iI ((frcN A (zoneN A k) h : Int) - (kn : Int)) = nI (frcN A (zoneN A k) h - kn) from by rw [nI_iI]; congr 1; omega, imin_n (by omega) (by omega)]
    refine J_imul_n hC dX4_reachIn_36 ?_
    refine J_iconst (v := nI 5) hC dX4_reachIn_37 (by decide) ?_
    have hb : nv A (70 + 9 * k + 2) * min (frcN A (zoneN A k) h - kn) 5 ≤ 60 * 5 := Nat.mul_le_mul h3.2.2 (Nat.min_le_right _ _)
    refine J_idiv_n hC (by omega) (by omega) (by omega) dX4_reachIn_38 ?_
    refine J_ireturn hC hR dX4_reachIn_39 (by decide) (by decide) ?_
    exact hq
  · refine J_iconst (v := nI 0) hC dX4_reachIn_19 (by decide) ?_
    have hx : reachW A k kn h = 0 := by
      unfold reachW
      rw [show frcN A (zoneN A k) h - kn = 0 by omega]
      simp
    rw [hx] at hq
    refine J_ireturn hC hR dX4_reachIn_20 (by decide) (by decide) ?_
    exact hq
set_option maxHeartbeats 4000000 in
set_option maxRecDepth 100000 in
theorem c_X4_endXIn {G : GC} {w : Lay} {σ : Mem} {Q : Lay → Option Value → Mem → Prop} {Qx : Lay → String → Mem → Prop} {o hm : Nat} {A : Rw} (hw : LO w o) (hO : OAt σ o A) (hI : RowOK hm A) {k r h : Nat} (hk : k < nv A 6) (hr : r ≤ 60) (hh : h < 2 ^ 31) (hq : Q w (some (.int (iI (xAf A k r h)))) σ) : MX4_endXIn G w σ [.ref (w.2.1 o 0), .int (nI k), .int (nI r), .int (nI (wi A (zoneN A k) h))] Q Qx := by
  refine mt_start (by decide) rfl (Nat.le_of_ble_eq_true rfl) (fun E hC hR hN => ?_)
  show J G E w 0 0 0 [some (.ref (w.2.1 o 0)), some (.int (nI k)), some (.int (nI r)), some (.int (nI (wi A (zoneN A k) h)))] [] σ
  have h1 := r_NK hI
  have h2 := dirN_lt hI (zoneN_lt hI hk) h
  have h4 := wi_lt hI (zoneN_lt hI hk) h
  refine J_aload_n hC dX4_endXIn_0 rfl rfl ?_
  refine gX4_21 hC hw dX4_endXIn_1 ?_
  refine gX4_69 hC hw dX4_endXIn_4 ?_
  refine J_iload_n hC dX4_endXIn_7 rfl rfl ?_
  refine J_iaload hC (hw.2.1 7 (by decide)) (kd_o hw.1) rfl (by omega) (by decide) dX4_endXIn_8 ?_
  refine J_top (o_X hO hI hk) ?_
  refine J_iload_n hC dX4_endXIn_9 rfl rfl ?_
  refine J_getsX hC q2_226 dX4_endXIn_10 ?_
  refine J_aload_n hC dX4_endXIn_13 rfl rfl ?_
  refine gX4_12 hC hw dX4_endXIn_14 ?_
  refine gX4_119 hC hw dX4_endXIn_17 ?_
  refine J_iload_n hC dX4_endXIn_20 rfl rfl ?_
  refine J_iaload hC (hw.2.1 3 (by decide)) (kd_o hw.1) rfl (by omega) (by decide) dX4_endXIn_21 ?_
  refine J_top (o_D hO hI (zoneN_lt hI hk) h) ?_
  refine J_stepX hC rfl (by omega) dX4_endXIn_22 ?_
  refine J_top (stepX_dX _) ?_
  refine J_imul_z hC (nI_iI _) rfl dX4_endXIn_23 ?_
  refine J_iadd_z hC (nI_iI _) rfl dX4_endXIn_24 ?_
  refine J_ireturn hC hR dX4_endXIn_25 (by decide) (by decide) ?_
  exact hq
set_option maxHeartbeats 4000000 in
set_option maxRecDepth 100000 in
theorem c_X4_endYIn {G : GC} {w : Lay} {σ : Mem} {Q : Lay → Option Value → Mem → Prop} {Qx : Lay → String → Mem → Prop} {o hm : Nat} {A : Rw} (hw : LO w o) (hO : OAt σ o A) (hI : RowOK hm A) {k r h : Nat} (hk : k < nv A 6) (hr : r ≤ 60) (hh : h < 2 ^ 31) (hq : Q w (some (.int (iI (yAf A k r h)))) σ) : MX4_endYIn G w σ [.ref (w.2.1 o 0), .int (nI k), .int (nI r), .int (nI (wi A (zoneN A k) h))] Q Qx := by
  refine mt_start (by decide) rfl (Nat.le_of_ble_eq_true rfl) (fun E hC hR hN => ?_)
  show J G E w 0 0 0 [some (.ref (w.2.1 o 0)), some (.int (nI k)), some (.int (nI r)), some (.int (nI (wi A (zoneN A k) h)))] [] σ
  have h1 := r_NK hI
  have h2 := dirN_lt hI (zoneN_lt hI hk) h
  have h4 := wi_lt hI (zoneN_lt hI hk) h
  refine J_aload_n hC dX4_endYIn_0 rfl rfl ?_
  refine gX4_21 hC hw dX4_endYIn_1 ?_
  refine gX4_73 hC hw dX4_endYIn_4 ?_
  refine J_iload_n hC dX4_endYIn_7 rfl rfl ?_
  refine J_iaload hC (hw.2.1 8 (by decide)) (kd_o hw.1) rfl (by omega) (by decide) dX4_endYIn_8 ?_
  refine J_top (o_Y hO hI hk) ?_
  refine J_iload_n hC dX4_endYIn_9 rfl rfl ?_
  refine J_getsY hC q2_232 dX4_endYIn_10 ?_
  refine J_aload_n hC dX4_endYIn_13 rfl rfl ?_
  refine gX4_12 hC hw dX4_endYIn_14 ?_
  refine gX4_119 hC hw dX4_endYIn_17 ?_
  refine J_iload_n hC dX4_endYIn_20 rfl rfl ?_
  refine J_iaload hC (hw.2.1 3 (by decide)) (kd_o hw.1) rfl (by omega) (by decide) dX4_endYIn_21 ?_
  refine J_top (o_D hO hI (zoneN_lt hI hk) h) ?_
  refine J_stepY hC rfl (by omega) dX4_endYIn_22 ?_
  refine J_top (stepY_dY _) ?_
  refine J_imul_z hC (nI_iI _) rfl dX4_endYIn_23 ?_
  refine J_iadd_z hC (nI_iI _) rfl dX4_endYIn_24 ?_
  refine J_ireturn hC hR dX4_endYIn_25 (by decide) (by decide) ?_
  exact hq
set_option maxHeartbeats 4000000 in
set_option maxRecDepth 100000 in
theorem c_X0_contains {G : GC} {w : Lay} {σ : Mem} {Q : Lay → Option Value → Mem → Prop} {Qx : Lay → String → Mem → Prop} {o hm : Nat} {A : Rw} (hw : LO w o) (hO : OAt σ o A) (hI : RowOK hm A) {x y : Int} (hx : -1000 ≤ x ∧ x ≤ 1000) (hy : -1000 ≤ y ∧ y ≤ 1000) (ht : (0 ≤ x ∧ x ≤ (nv A 0 : Int) - 1 ∧ 0 ≤ y ∧ y ≤ (nv A 1 : Int) - 1) → Q w (some (.int (nI 1))) σ) (hf : ¬ (0 ≤ x ∧ x ≤ (nv A 0 : Int) - 1 ∧ 0 ≤ y ∧ y ≤ (nv A 1 : Int) - 1) → Q w (some (.int (nI 0))) σ) : MX0_contains G w σ [.ref (w.2.1 o 1), .int (iI x), .int (iI y)] Q Qx := by
  refine mt_start (by decide) rfl (Nat.le_of_ble_eq_true rfl) (fun E hC hR hN => ?_)
  show J G E w 0 0 0 [some (.ref (w.2.1 o 1)), some (.int (iI x)), some (.int (iI y))] [] σ
  have h1 := (r_W hI).2
  have h2 := (r_H hI).2
  refine J_iload_n hC dX0_contains_0 rfl rfl ?_
  refine J_if_lt_z hC rfl (by omega) (tgt := 28) dX0_contains_1 rfl (fun hb0 => ?_) (fun hb0 => ?_)
  · refine J_iconst (v := nI 0) hC dX0_contains_28 (by decide) ?_
    refine J_zreturn hC hR dX0_contains_29 (by decide) (by decide) (by decide) ?_
    exact hf (by omega)
  · refine J_iload_n hC dX0_contains_4 rfl rfl ?_
    refine J_aload_n hC dX0_contains_5 rfl rfl ?_
    refine gX0_24 hC hw dX0_contains_6 ?_
    refine J_top (o_W hO hI) ?_
    refine J_icmp_ge_z hC rfl (nI_iI _) (by omega) (by omega) (tgt := 28) dX0_contains_9 rfl (fun hb1 => ?_) (fun hb1 => ?_)
    · refine J_iconst (v := nI 0) hC dX0_contains_28 (by decide) ?_
      refine J_zreturn hC hR dX0_contains_29 (by decide) (by decide) (by decide) ?_
      exact hf (by omega)
    · refine J_iload_n hC dX0_contains_12 rfl rfl ?_
      refine J_if_lt_z hC rfl (by omega) (tgt := 28) dX0_contains_13 rfl (fun hb2 => ?_) (fun hb2 => ?_)
      · refine J_iconst (v := nI 0) hC dX0_contains_28 (by decide) ?_
        refine J_zreturn hC hR dX0_contains_29 (by decide) (by decide) (by decide) ?_
        exact hf (by omega)
      · refine J_iload_n hC dX0_contains_16 rfl rfl ?_
        refine J_aload_n hC dX0_contains_17 rfl rfl ?_
        refine gX0_28 hC hw dX0_contains_18 ?_
        refine J_top (o_H hO hI) ?_
        refine J_icmp_ge_z hC rfl (nI_iI _) (by omega) (by omega) (tgt := 28) dX0_contains_21 rfl (fun hb3 => ?_) (fun hb3 => ?_)
        · refine J_iconst (v := nI 0) hC dX0_contains_28 (by decide) ?_
          refine J_zreturn hC hR dX0_contains_29 (by decide) (by decide) (by decide) ?_
          exact hf (by omega)
        · refine J_iconst (v := nI 1) hC dX0_contains_24 (by decide) ?_
          refine J_goto (tgt := 29) hC dX0_contains_25 rfl ?_
          refine J_zreturn hC hR dX0_contains_29 (by decide) (by decide) (by decide) ?_
          exact ht (by omega)
set_option maxHeartbeats 4000000 in
set_option maxRecDepth 100000 in
theorem c_X4_fliesIn {G : GC} {w : Lay} {σ : Mem} {Q : Lay → Option Value → Mem → Prop} {Qx : Lay → String → Mem → Prop} {o hm : Nat} {A : Rw} (hw : LO w o) (hO : OAt σ o A) (hI : RowOK hm A) {k r h : Nat} (hk : k < nv A 6) (hr : r ≤ 60) (hh : h < 2 ^ 31) (ht : fliesR A k r h → Q w (some (.int (nI 1))) σ) (hf : ¬ fliesR A k r h → Q w (some (.int (nI 0))) σ) : MX4_fliesIn G w σ [.ref (w.2.1 o 0), .int (nI k), .int (nI r), .int (nI (wi A (zoneN A k) h))] Q Qx := by
  refine mt_start (by decide) rfl (Nat.le_of_ble_eq_true rfl) (fun E hC hR hN => ?_)
  show J G E w 0 0 0 [some (.ref (w.2.1 o 0)), some (.int (nI k)), some (.int (nI r)), some (.int (nI (wi A (zoneN A k) h)))] [] σ
  have h3 := xAf_rng hI hk hr h
  have h4 := yAf_rng hI hk hr h
  refine J_iload_n hC dX4_fliesIn_0 rfl rfl ?_
  refine J_iconst (v := nI 1) hC dX4_fliesIn_1 (by decide) ?_
  refine J_icmp_lt_n hC (by omega) (by decide) (tgt := 33) dX4_fliesIn_2 rfl (fun hb => ?_) (fun hb => ?_)
  · refine J_iconst (v := nI 0) hC dX4_fliesIn_33 (by decide) ?_
    refine J_zreturn hC hR dX4_fliesIn_34 (by decide) (by decide) (by decide) ?_
    exact hf (fun g => absurd g.1 (by omega))
  · refine J_aload_n hC dX4_fliesIn_5 rfl rfl ?_
    refine gX4_12 hC hw dX4_fliesIn_6 ?_
    refine J_aload_n hC dX4_fliesIn_9 rfl rfl ?_
    refine J_iload_n hC dX4_fliesIn_10 rfl rfl ?_
    refine J_iload_n hC dX4_fliesIn_11 rfl rfl ?_
    refine J_iload_n hC dX4_fliesIn_12 rfl rfl ?_
    refine iX4_125 hC hw rfl ⟨by decide, by decide⟩ ⟨by decide, by decide⟩ (Nat.le_of_ble_eq_true rfl) dX4_fliesIn_13 ?_
    refine c_X4_endXIn hw hO hI hk (by omega) hh ?_
    dsimp only [Option.toList_some, Option.toList_none, List.cons_append, List.nil_append]
    refine J_aload_n hC dX4_fliesIn_16 rfl rfl ?_
    refine J_iload_n hC dX4_fliesIn_17 rfl rfl ?_
    refine J_iload_n hC dX4_fliesIn_18 rfl rfl ?_
    refine J_iload_n hC dX4_fliesIn_19 rfl rfl ?_
    refine iX4_129 hC hw rfl ⟨by decide, by decide⟩ ⟨by decide, by decide⟩ (Nat.le_of_ble_eq_true rfl) dX4_fliesIn_20 ?_
    refine c_X4_endYIn hw hO hI hk (by omega) hh ?_
    dsimp only [Option.toList_some, Option.toList_none, List.cons_append, List.nil_append]
    refine iX4_132 hC hw rfl ⟨by decide, by decide⟩ ⟨by decide, by decide⟩ (Nat.le_of_ble_eq_true rfl) dX4_fliesIn_23 ?_
    refine c_X0_contains hw hO hI (by omega) (by omega) (fun hc => ?_) (fun hc => ?_)
    · dsimp only [Option.toList_some, Option.toList_none, List.cons_append, List.nil_append]
      refine J_if_eq_n hC (by decide) (tgt := 33) dX4_fliesIn_26 rfl (fun hf => absurd hf (by omega)) (fun _ => ?_)
      refine J_iconst (v := nI 1) hC dX4_fliesIn_29 (by decide) ?_
      refine J_goto (tgt := 34) hC dX4_fliesIn_30 rfl ?_
      refine J_zreturn hC hR dX4_fliesIn_34 (by decide) (by decide) (by decide) ?_
      exact ht ⟨by omega, hc⟩
    · dsimp only [Option.toList_some, Option.toList_none, List.cons_append, List.nil_append]
      refine J_if_eq_n hC (by decide) (tgt := 33) dX4_fliesIn_26 rfl (fun _ => ?_) (fun hf => absurd hf (by omega))
      refine J_iconst (v := nI 0) hC dX4_fliesIn_33 (by decide) ?_
      refine J_zreturn hC hR dX4_fliesIn_34 (by decide) (by decide) (by decide) ?_
      exact hf (fun g => hc g.2)
set_option maxHeartbeats 4000000 in
set_option maxRecDepth 100000 in
theorem c_X4_reachAt {G : GC} {w : Lay} {σ : Mem} {Q : Lay → Option Value → Mem → Prop} {Qx : Lay → String → Mem → Prop} {o hm : Nat} {A : Rw} (hw : LO w o) (hO : OAt σ o A) (hI : RowOK hm A) {k h : Nat} (hk : k < nv A 6) (hh : h < 2 ^ 31) (hq : Q w (some (.int (nI (reachN A k h)))) σ) : MX4_reachAt G w σ [.ref (w.2.1 o 0), .int (nI k), .int (nI h)] Q Qx := by
  refine mt_start (by decide) rfl (Nat.le_of_ble_eq_true rfl) (fun E hC hR hN => ?_)
  show J G E w 0 0 0 [some (.ref (w.2.1 o 0)), some (.int (nI k)), some (.int (nI h))] [] σ
  have h1 := r_NK hI
  have h2 := r_KN hI hk
  refine J_aload_n hC dX4_reachAt_0 rfl rfl ?_
  refine J_iload_n hC dX4_reachAt_1 rfl rfl ?_
  refine J_aload_n hC dX4_reachAt_2 rfl rfl ?_
  refine gX4_21 hC hw dX4_reachAt_3 ?_
  refine gX4_89 hC hw dX4_reachAt_6 ?_
  refine J_iload_n hC dX4_reachAt_9 rfl rfl ?_
  refine J_iaload hC (hw.2.1 12 (by decide)) (kd_o hw.1) rfl (by omega) (by decide) dX4_reachAt_10 ?_
  refine J_top (o_N hO hI hk) ?_
  refine J_aload_n hC dX4_reachAt_11 rfl rfl ?_
  refine J_iload_n hC dX4_reachAt_12 rfl rfl ?_
  refine J_iload_n hC dX4_reachAt_13 rfl rfl ?_
  refine iX4_136 hC hw rfl ⟨by decide, by decide⟩ ⟨by decide, by decide⟩ (Nat.le_of_ble_eq_true rfl) dX4_reachAt_14 ?_
  refine c_X4_windAt hw hO hI hk hh ?_
  dsimp only [Option.toList_some, Option.toList_none, List.cons_append, List.nil_append]
  refine iX4_139 hC hw rfl ⟨by decide, by decide⟩ ⟨by decide, by decide⟩ (Nat.le_of_ble_eq_true rfl) dX4_reachAt_17 ?_
  refine c_X4_reachIn hw hO hI hk (by omega) hh ?_
  dsimp only [Option.toList_some, Option.toList_none, List.cons_append, List.nil_append]
  refine J_ireturn hC hR dX4_reachAt_20 (by decide) (by decide) ?_
  exact hq
set_option maxHeartbeats 4000000 in
set_option maxRecDepth 100000 in
theorem c_X4_fliesAt {G : GC} {w : Lay} {σ : Mem} {Q : Lay → Option Value → Mem → Prop} {Qx : Lay → String → Mem → Prop} {o hm : Nat} {A : Rw} (hw : LO w o) (hO : OAt σ o A) (hI : RowOK hm A) {k h : Nat} (hk : k < nv A 6) (hh : h < 2 ^ 31) (ht : fliesN A k h → Q w (some (.int (nI 1))) σ) (hf : ¬ fliesN A k h → Q w (some (.int (nI 0))) σ) : MX4_fliesAt G w σ [.ref (w.2.1 o 0), .int (nI k), .int (nI h)] Q Qx := by
  refine mt_start (by decide) rfl (Nat.le_of_ble_eq_true rfl) (fun E hC hR hN => ?_)
  show J G E w 0 0 0 [some (.ref (w.2.1 o 0)), some (.int (nI k)), some (.int (nI h)), none] [] σ
  have h1 := r_NK hI
  have h2 := r_KN hI hk
  have h5 := reachW_le hI hk (nv A (70 + 9 * k + 4)) h
  refine J_aload_n hC dX4_fliesAt_0 rfl rfl ?_
  refine J_iload_n hC dX4_fliesAt_1 rfl rfl ?_
  refine J_iload_n hC dX4_fliesAt_2 rfl rfl ?_
  refine iX4_136 hC hw rfl ⟨by decide, by decide⟩ ⟨by decide, by decide⟩ (Nat.le_of_ble_eq_true rfl) dX4_fliesAt_3 ?_
  refine c_X4_windAt hw hO hI hk hh ?_
  dsimp only [Option.toList_some, Option.toList_none, List.cons_append, List.nil_append]
  refine J_istore_n hC dX4_fliesAt_6 rfl (Nat.le_of_ble_eq_true rfl) rfl ?_
  dsimp only [List.set]
  refine J_aload_n hC dX4_fliesAt_7 rfl rfl ?_
  refine J_iload_n hC dX4_fliesAt_8 rfl rfl ?_
  refine J_aload_n hC dX4_fliesAt_9 rfl rfl ?_
  refine J_iload_n hC dX4_fliesAt_10 rfl rfl ?_
  refine J_aload_n hC dX4_fliesAt_11 rfl rfl ?_
  refine gX4_21 hC hw dX4_fliesAt_12 ?_
  refine gX4_89 hC hw dX4_fliesAt_15 ?_
  refine J_iload_n hC dX4_fliesAt_18 rfl rfl ?_
  refine J_iaload hC (hw.2.1 12 (by decide)) (kd_o hw.1) rfl (by omega) (by decide) dX4_fliesAt_19 ?_
  refine J_top (o_N hO hI hk) ?_
  refine J_iload_n hC dX4_fliesAt_20 rfl rfl ?_
  refine iX4_139 hC hw rfl ⟨by decide, by decide⟩ ⟨by decide, by decide⟩ (Nat.le_of_ble_eq_true rfl) dX4_fliesAt_21 ?_
  refine c_X4_reachIn hw hO hI hk (by omega) hh ?_
  dsimp only [Option.toList_some, Option.toList_none, List.cons_append, List.nil_append]
  refine J_iload_n hC dX4_fliesAt_24 rfl rfl ?_
  refine iX4_142 hC hw rfl ⟨by decide, by decide⟩ ⟨by decide, by decide⟩ (Nat.le_of_ble_eq_true rfl) dX4_fliesAt_25 ?_
  refine c_X4_fliesIn hw hO hI hk h5 hh (fun hf0 => ?_) (fun hf0 => ?_)
  · dsimp only [Option.toList_some, Option.toList_none, List.cons_append, List.nil_append]
    refine J_zreturn hC hR dX4_fliesAt_28 (by decide) (by decide) (by decide) ?_
    exact ht hf0
  · dsimp only [Option.toList_some, Option.toList_none, List.cons_append, List.nil_append]
    refine J_zreturn hC hR dX4_fliesAt_28 (by decide) (by decide) (by decide) ?_
    exact hf hf0
