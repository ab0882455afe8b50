set_option maxHeartbeats 4000000 in
set_option maxRecDepth 100000 in
theorem c_X1_countInState {G : GC} {w : Lay} {σ : Mem} {Q : Lay → Option Value → Mem → Prop} {Qx : Lay → String → Mem → Prop} {o hm : Nat} {A : Rw} (hw : LO w o) (hO : OAt σ o A) (hI : RowOK hm A) {c : Nat} (hc0 : c < 2 ^ 31) (hq : Q w (some (.int (nI (stN A c)))) σ) : MX1_countInState G w σ [.ref (w.2.1 o 6), .int (nI c)] Q Qx := by
  refine mt_start (by decide) rfl (Nat.le_of_ble_eq_true rfl) (fun E hC hR hN => ?_)
  show J G E w 0 0 0 [some (.ref (w.2.1 o 6)), some (.int (nI c)), none, none] [] σ
  have h2 := r_NK hI
  have lp : ∀ (dd : Nat) (k : Nat), nv A 6 - k < dd → (k ≤ nv A 6) →  J G E w 0 0 4 [some (.ref (w.2.1 o 6)), some (.int (nI c)), some (.int (nI (cnt (fun k => nv A (70 + 9 * k + 6) = c) k))), some (.int (nI k))] [] σ := by
    intro dd
    induction dd with
    | zero =>
      intro k hdd
      exact absurd hdd (Nat.not_lt_zero _)
    | succ dd ih =>
      intro k hdd hk
      refine J_iload_n hC dX1_countInState_4 rfl rfl ?_
      refine J_aload_n hC dX1_countInState_5 rfl rfl ?_
      refine gX1_42 hC hw dX1_countInState_6 ?_
      refine J_top (o_NK hO hI) ?_
      refine J_icmp_ge_n hC (by omega) (by omega) (tgt := 31) dX1_countInState_9 rfl (fun bk => ?_) (fun bk => ?_)
      · refine J_iload_n hC dX1_countInState_31 rfl rfl ?_
        refine J_ireturn hC hR dX1_countInState_32 (by decide) (by decide) ?_
        have e : k = nv A 6 := by omega
        subst e
        exact hq
      · have ks := r_KS hI bk
        refine J_aload_n hC dX1_countInState_12 rfl rfl ?_
        refine gX1_33 hC hw dX1_countInState_13 ?_
        refine J_iload_n hC dX1_countInState_16 rfl rfl ?_
        refine J_iaload hC (hw.2.1 14 (by decide)) (kd_o hw.1) rfl (by omega) (by decide) dX1_countInState_17 ?_
        refine J_top (o_S hO hI (by omega)) ?_
        refine J_iload_n hC dX1_countInState_18 rfl rfl ?_
        refine J_icmp_ne_n hC (by omega) (by omega) (tgt := 25) dX1_countInState_19 rfl (fun b1 => ?_) (fun b1 => ?_)
        · rw [← cnt_ff (P := (fun k => nv A (70 + 9 * k + 6) = c)) (n := k) b1]
          refine J_iinc_n (m := 1) hC (by decide) dX1_countInState_25 rfl (Nat.le_of_ble_eq_true rfl) rfl ?_
          dsimp only [List.set]
          refine J_goto (tgt := 4) hC dX1_countInState_28 rfl ?_
          exact ih (k + 1) (by omega) (by omega)
        · refine J_iinc_n (m := 1) hC (by decide) dX1_countInState_22 rfl (Nat.le_of_ble_eq_true rfl) rfl ?_
          dsimp only [List.set]
          rw [← cnt_tt (P := (fun k => nv A (70 + 9 * k + 6) = c)) (n := k) b1]
          refine J_iinc_n (m := 1) hC (by decide) dX1_countInState_25 rfl (Nat.le_of_ble_eq_true rfl) rfl ?_
          dsimp only [List.set]
          refine J_goto (tgt := 4) hC dX1_countInState_28 rfl ?_
          exact ih (k + 1) (by omega) (by omega)
  refine J_iconst (v := nI 0) hC dX1_countInState_0 (by decide) ?_
  refine J_istore_n hC dX1_countInState_1 rfl (Nat.le_of_ble_eq_true rfl) rfl ?_
  dsimp only [List.set]
  refine J_iconst (v := nI 0) hC dX1_countInState_2 (by decide) ?_
  refine J_istore_n hC dX1_countInState_3 rfl (Nat.le_of_ble_eq_true rfl) rfl ?_
  dsimp only [List.set]
  exact lp (nv A 6 + 1) 0 (by omega) (by omega)
set_option maxHeartbeats 4000000 in
set_option maxRecDepth 100000 in
theorem c_X4_countCrossings {G : GC} {w : Lay} {σ : Mem} {Q : Lay → Option Value → Mem → Prop} {Qx : Lay → String → Mem → Prop} {o hm : Nat} {A : Rw} (hw : LO w o) (hO : OAt σ o A) (hI : RowOK hm A) {k p b e : Nat} (hk : k < nv A 6) (hp : p < nv A 11) (hb : b < 2 ^ 30) (he : e < 2 ^ 30) (hq : Q w (some (.int (nI (cnt (fun i => crossN A k (nv A (214 + 3 * p)) (max b (nv A (214 + 3 * p + 1)) + i)) (min e (nv A (214 + 3 * p + 1) + nv A (214 + 3 * p + 2)) - max b (nv A (214 + 3 * p + 1))))))) σ) : MX4_countCrossings G w σ [.ref (w.2.1 o 0), .int (nI k), .int (nI p), .int (nI b), .int (nI e)] Q Qx := by
  refine mt_start (by decide) rfl (Nat.le_of_ble_eq_true rfl) (fun E hC hR hN => ?_)
  show J G E w 0 0 0 [some (.ref (w.2.1 o 0)), some (.int (nI k)), some (.int (nI p)), some (.int (nI b)), some (.int (nI e)), none, none, none] [] σ
  have h1 := r_NP hI
  have h2 := r_NK hI
  have h3 := r_PS hI hp
  have h4 := r_PD hI hp
  have h5 := (r_PK hI hp).2
  have lp : ∀ (dd : Nat) (i : Nat), min e (nv A (214 + 3 * p + 1) + nv A (214 + 3 * p + 2)) - max b (nv A (214 + 3 * p + 1)) - i < dd → (i ≤ min e (nv A (214 + 3 * p + 1) + nv A (214 + 3 * p + 2)) - max b (nv A (214 + 3 * p + 1))) →  J G E w 0 0 33 [some (.ref (w.2.1 o 0)), some (.int (nI k)), some (.int (nI p)), some (.int (nI b)), some (.int (nI e)), some (.int (nI (cnt (fun i => crossN A k (nv A (214 + 3 * p)) (max b (nv A (214 + 3 * p + 1)) + i)) i))), some (.int (nI (min e (nv A (214 + 3 * p + 1) + nv A (214 + 3 * p + 2))))), some (.int (nI (max b (nv A (214 + 3 * p + 1)) + i)))] [] σ := by
    intro dd
    induction dd with
    | zero =>
      intro i hdd
      exact absurd hdd (Nat.not_lt_zero _)
    | succ dd ih =>
      intro i hdd hi
      refine J_iload hC dX4_countCrossings_33 rfl ?_
      refine J_iload hC dX4_countCrossings_35 rfl ?_
      refine J_icmp_ge_n hC (by omega) (by omega) (tgt := 68) dX4_countCrossings_37 rfl (fun b1 => ?_) (fun b1 => ?_)
      · refine J_iload hC dX4_countCrossings_68 rfl ?_
        refine J_ireturn hC hR dX4_countCrossings_70 (by decide) (by decide) ?_
        have g : i = min e (nv A (214 + 3 * p + 1) + nv A (214 + 3 * p + 2)) - max b (nv A (214 + 3 * p + 1)) := by omega
        subst g
        exact hq
      · refine J_aload_n hC dX4_countCrossings_40 rfl rfl ?_
        refine J_iload_n hC dX4_countCrossings_41 rfl rfl ?_
        refine J_aload_n hC dX4_countCrossings_42 rfl rfl ?_
        refine gX4_28 hC hw dX4_countCrossings_43 ?_
        refine gX4_160 hC hw dX4_countCrossings_46 ?_
        refine J_iload_n hC dX4_countCrossings_49 rfl rfl ?_
        refine J_iaload hC (hw.2.1 18 (by decide)) (kd_o hw.1) rfl (by omega) (by decide) dX4_countCrossings_50 ?_
        refine J_top (o_PK hO hI hp) ?_
        refine J_iload hC dX4_countCrossings_51 rfl ?_
        refine iX4_200 hC hw rfl ⟨by decide, by decide⟩ ⟨by decide, by decide⟩ (Nat.le_of_ble_eq_true rfl) dX4_countCrossings_53 ?_
        refine c_X4_stringsCross hw hO hI hk (r_PK hI hp).2 (by omega) (fun b2 => ?_) (fun b2 => ?_)
        · dsimp only [Option.toList_some, Option.toList_none, List.cons_append, List.nil_append]
          refine J_if_eq_n hC (by decide) (tgt := 62) dX4_countCrossings_56 rfl (fun hf => absurd hf (by omega)) (fun _ => ?_)
          refine J_iinc_n (m := 1) hC (by decide) dX4_countCrossings_59 rfl (Nat.le_of_ble_eq_true rfl) rfl ?_
          dsimp only [List.set]
          rw [← cnt_tt (P := (fun i => crossN A k (nv A (214 + 3 * p)) (max b (nv A (214 + 3 * p + 1)) + i))) (n := i) b2]
          refine J_iinc_n (m := 1) hC (by decide) dX4_countCrossings_62 rfl (Nat.le_of_ble_eq_true rfl) rfl ?_
          dsimp only [List.set]
          refine J_goto (tgt := 33) hC dX4_countCrossings_65 rfl ?_
          exact ih (i + 1) (by omega) (by omega)
        · dsimp only [Option.toList_some, Option.toList_none, List.cons_append, List.nil_append]
          rw [← cnt_ff (P := (fun i => crossN A k (nv A (214 + 3 * p)) (max b (nv A (214 + 3 * p + 1)) + i))) (n := i) b2]
          refine J_if_eq_n hC (by decide) (tgt := 62) dX4_countCrossings_56 rfl (fun _ => ?_) (fun hf => absurd hf (by omega))
          refine J_iinc_n (m := 1) hC (by decide) dX4_countCrossings_62 rfl (Nat.le_of_ble_eq_true rfl) rfl ?_
          dsimp only [List.set]
          refine J_goto (tgt := 33) hC dX4_countCrossings_65 rfl ?_
          exact ih (i + 1) (by omega) (by omega)
  refine J_iconst (v := nI 0) hC dX4_countCrossings_0 (by decide) ?_
  refine J_istore hC dX4_countCrossings_1 (Nat.le_of_ble_eq_true rfl) rfl ?_
  dsimp only [List.set]
  refine J_iload hC dX4_countCrossings_3 rfl ?_
  refine J_aload_n hC dX4_countCrossings_5 rfl rfl ?_
  refine gX4_28 hC hw dX4_countCrossings_6 ?_
  refine J_iload_n hC dX4_countCrossings_9 rfl rfl ?_
  refine iX4_194 hC hw rfl ⟨by decide, by decide⟩ ⟨by decide, by decide⟩ (Nat.le_of_ble_eq_true rfl) dX4_countCrossings_10 ?_
  refine c_X6_endOf hw hO hI (by omega) ?_
  dsimp only [Option.toList_some, Option.toList_none, List.cons_append, List.nil_append]
  refine J_min hC rfl q2_203 (by decide) (Nat.le_of_ble_eq_true rfl) (by decide) (by decide) dX4_countCrossings_13 ?_
  rw [imin_n (by omega) (by omega)]
  refine J_istore hC dX4_countCrossings_16 (Nat.le_of_ble_eq_true rfl) rfl ?_
  dsimp only [List.set]
  refine J_iload_n hC dX4_countCrossings_18 rfl rfl ?_
  refine J_aload_n hC dX4_countCrossings_19 rfl rfl ?_
  refine gX4_28 hC hw dX4_countCrossings_20 ?_
  refine gX4_197 hC hw dX4_countCrossings_23 ?_
  refine J_iload_n hC dX4_countCrossings_26 rfl rfl ?_
  refine J_iaload hC (hw.2.1 19 (by decide)) (kd_o hw.1) rfl (by omega) (by decide) dX4_countCrossings_27 ?_
  refine J_top (o_PS hO hI hp) ?_
  refine J_max hC rfl q2_192 (by decide) (Nat.le_of_ble_eq_true rfl) (by decide) (by decide) dX4_countCrossings_28 ?_
  rw [imax_n (by omega) (by omega)]
  refine J_istore hC dX4_countCrossings_31 (Nat.le_of_ble_eq_true rfl) rfl ?_
  dsimp only [List.set]
  exact lp (min e (nv A (214 + 3 * p + 1) + nv A (214 + 3 * p + 2)) + 1) 0 (by omega) (by omega)
set_option maxHeartbeats 4000000 in
set_option maxRecDepth 100000 in
theorem c_X4_guiltyOf {G : GC} {w : Lay} {σ : Mem} {Q : Lay → Option Value → Mem → Prop} {Qx : Lay → String → Mem → Prop} {o hm : Nat} {A : Rw} (hw : LO w o) (hO : OAt σ o A) (hI : RowOK hm A) {k i : Nat} (hk : k < nv A 6) (hi : i < nv A 6) (hh : nv A 7 < 2 ^ 30) (hq : Q w (some (.int (nI (guiltN A k i)))) σ) : MX4_guiltyOf G w σ [.ref (w.2.1 o 0), .int (nI k), .int (nI i)] Q Qx := by
  refine mt_start (by decide) rfl (Nat.le_of_ble_eq_true rfl) (fun E hC hR hN => ?_)
  show J G E w 0 0 0 [some (.ref (w.2.1 o 0)), some (.int (nI k)), some (.int (nI i)), none, none] [] σ
  have h2 := r_NK hI
  have h1 := r_NP hI
  refine J_aload_n hC dX4_guiltyOf_0 rfl rfl ?_
  refine gX4_28 hC hw dX4_guiltyOf_1 ?_
  refine J_iload_n hC dX4_guiltyOf_4 rfl rfl ?_
  refine J_aload_n hC dX4_guiltyOf_5 rfl rfl ?_
  refine gX4_46 hC hw dX4_guiltyOf_6 ?_
  refine J_top (o_HOUR hO hI) ?_
  refine J_aload_n hC dX4_guiltyOf_9 rfl rfl ?_
  refine gX4_46 hC hw dX4_guiltyOf_10 ?_
  refine J_top (o_HOUR hO hI) ?_
  refine J_iconst (v := nI 1) hC dX4_guiltyOf_13 (by decide) ?_
  refine J_iadd_n hC dX4_guiltyOf_14 ?_
  refine iX4_166 hC hw rfl ⟨by decide, by decide⟩ ⟨by decide, by decide⟩ (Nat.le_of_ble_eq_true rfl) dX4_guiltyOf_15 ?_
  refine c_X6_coverAny hw hO hI (by omega) (by omega) (by omega) (fun g1 => ?_) (fun g1 => ?_)
  · dsimp only [Option.toList_some, Option.toList_none, List.cons_append, List.nil_append]
    have fg1 : permN A k (nv A 7) := by
      obtain ⟨p, p1, p2, p3, p4⟩ := g1
      exact ⟨p, p1, p2, by unfold covN; omega⟩
    refine J_istore_n hC dX4_guiltyOf_18 rfl (Nat.le_of_ble_eq_true rfl) rfl ?_
    dsimp only [List.set]
    refine J_aload_n hC dX4_guiltyOf_19 rfl rfl ?_
    refine gX4_28 hC hw dX4_guiltyOf_20 ?_
    refine J_iload_n hC dX4_guiltyOf_23 rfl rfl ?_
    refine J_aload_n hC dX4_guiltyOf_24 rfl rfl ?_
    refine gX4_46 hC hw dX4_guiltyOf_25 ?_
    refine J_top (o_HOUR hO hI) ?_
    refine J_aload_n hC dX4_guiltyOf_28 rfl rfl ?_
    refine gX4_46 hC hw dX4_guiltyOf_29 ?_
    refine J_top (o_HOUR hO hI) ?_
    refine J_iconst (v := nI 1) hC dX4_guiltyOf_32 (by decide) ?_
    refine J_iadd_n hC dX4_guiltyOf_33 ?_
    refine iX4_166 hC hw rfl ⟨by decide, by decide⟩ ⟨by decide, by decide⟩ (Nat.le_of_ble_eq_true rfl) dX4_guiltyOf_34 ?_
    refine c_X6_coverAny hw hO hI (by omega) (by omega) (by omega) (fun g2 => ?_) (fun g2 => ?_)
    · dsimp only [Option.toList_some, Option.toList_none, List.cons_append, List.nil_append]
      have fg2 : permN A i (nv A 7) := by
        obtain ⟨p, p1, p2, p3, p4⟩ := g2
        exact ⟨p, p1, p2, by unfold covN; omega⟩
      refine J_istore hC dX4_guiltyOf_37 (Nat.le_of_ble_eq_true rfl) rfl ?_
      dsimp only [List.set]
      refine J_iload_n hC dX4_guiltyOf_39 rfl rfl ?_
      refine J_iload hC dX4_guiltyOf_40 rfl ?_
      refine J_icmp_eq_n hC (by decide) (by decide) (tgt := 55) dX4_guiltyOf_42 rfl (fun _ => ?_) (fun hf => absurd hf (by omega))
      refine J_aload_n hC dX4_guiltyOf_55 rfl rfl ?_
      refine gX4_21 hC hw dX4_guiltyOf_56 ?_
      refine gX4_98 hC hw dX4_guiltyOf_59 ?_
      refine J_iload_n hC dX4_guiltyOf_62 rfl rfl ?_
      refine J_iaload hC (hw.2.1 15 (by decide)) (kd_o hw.1) rfl (by omega) (by decide) dX4_guiltyOf_63 ?_
      refine J_top (o_LN hO hk) ?_
      refine J_aload_n hC dX4_guiltyOf_64 rfl rfl ?_
      refine gX4_21 hC hw dX4_guiltyOf_65 ?_
      refine gX4_98 hC hw dX4_guiltyOf_68 ?_
      refine J_iload_n hC dX4_guiltyOf_71 rfl rfl ?_
      refine J_iaload hC (hw.2.1 15 (by decide)) (kd_o hw.1) rfl (by omega) (by decide) dX4_guiltyOf_72 ?_
      refine J_top (o_LN hO hi) ?_
      refine J_icmp_le hC (tgt := 80) dX4_guiltyOf_73 rfl (fun b9 => ?_) (fun b9 => ?_)
      · refine J_iload_n hC dX4_guiltyOf_80 rfl rfl ?_
        refine J_ireturn hC hR dX4_guiltyOf_81 (by decide) (by decide) ?_
        unfold guiltN at hq
        rw [if_neg (fun q => q.2 fg2), if_neg (fun q => q.1 fg1)] at hq
        rw [if_neg (by rw [Int32.lt_iff_toInt_lt]; rw [Int32.le_iff_toInt_le] at b9; omega)] at hq
        exact hq
      · refine J_iload_n hC dX4_guiltyOf_76 rfl rfl ?_
        refine J_goto (tgt := 81) hC dX4_guiltyOf_77 rfl ?_
        refine J_ireturn hC hR dX4_guiltyOf_81 (by decide) (by decide) ?_
        unfold guiltN at hq
        rw [if_neg (fun q => q.2 fg2), if_neg (fun q => q.1 fg1)] at hq
        first
        | omega
        | (rw [if_pos (by rw [Int32.lt_iff_toInt_lt]; rw [Int32.le_iff_toInt_le] at b9; omega)] at hq; exact hq)
    · dsimp only [Option.toList_some, Option.toList_none, List.cons_append, List.nil_append]
      have fg2 : ¬ permN A i (nv A 7) := fun ⟨p, p1, p2, p3⟩ => g2 ⟨p, p1, p2, by unfold covN at p3; omega, by unfold covN at p3; omega⟩
      refine J_istore hC dX4_guiltyOf_37 (Nat.le_of_ble_eq_true rfl) rfl ?_
      dsimp only [List.set]
      refine J_iload_n hC dX4_guiltyOf_39 rfl rfl ?_
      refine J_iload hC dX4_guiltyOf_40 rfl ?_
      refine J_icmp_eq_n hC (by decide) (by decide) (tgt := 55) dX4_guiltyOf_42 rfl (fun hf => absurd hf (by omega)) (fun _ => ?_)
      refine J_iload_n hC dX4_guiltyOf_45 rfl rfl ?_
      refine J_if_eq_n hC (by decide) (tgt := 53) dX4_guiltyOf_46 rfl (fun hf => absurd hf (by omega)) (fun _ => ?_)
      refine J_iload_n hC dX4_guiltyOf_49 rfl rfl ?_
      refine J_goto (tgt := 54) hC dX4_guiltyOf_50 rfl ?_
      refine J_ireturn hC hR dX4_guiltyOf_54 (by decide) (by decide) ?_
      unfold guiltN at hq
      first
      | (rw [if_pos ⟨fg1, fg2⟩] at hq; exact hq)
      | omega
  · dsimp only [Option.toList_some, Option.toList_none, List.cons_append, List.nil_append]
    have fg1 : ¬ permN A k (nv A 7) := fun ⟨p, p1, p2, p3⟩ => g1 ⟨p, p1, p2, by unfold covN at p3; omega, by unfold covN at p3; omega⟩
    refine J_istore_n hC dX4_guiltyOf_18 rfl (Nat.le_of_ble_eq_true rfl) rfl ?_
    dsimp only [List.set]
    refine J_aload_n hC dX4_guiltyOf_19 rfl rfl ?_
    refine gX4_28 hC hw dX4_guiltyOf_20 ?_
    refine J_iload_n hC dX4_guiltyOf_23 rfl rfl ?_
    refine J_aload_n hC dX4_guiltyOf_24 rfl rfl ?_
    refine gX4_46 hC hw dX4_guiltyOf_25 ?_
    refine J_top (o_HOUR hO hI) ?_
    refine J_aload_n hC dX4_guiltyOf_28 rfl rfl ?_
    refine gX4_46 hC hw dX4_guiltyOf_29 ?_
    refine J_top (o_HOUR hO hI) ?_
    refine J_iconst (v := nI 1) hC dX4_guiltyOf_32 (by decide) ?_
    refine J_iadd_n hC dX4_guiltyOf_33 ?_
    refine iX4_166 hC hw rfl ⟨by decide, by decide⟩ ⟨by decide, by decide⟩ (Nat.le_of_ble_eq_true rfl) dX4_guiltyOf_34 ?_
    refine c_X6_coverAny hw hO hI (by omega) (by omega) (by omega) (fun g2 => ?_) (fun g2 => ?_)
    · dsimp only [Option.toList_some, Option.toList_none, List.cons_append, List.nil_append]
      have fg2 : permN A i (nv A 7) := by
        obtain ⟨p, p1, p2, p3, p4⟩ := g2
        exact ⟨p, p1, p2, by unfold covN; omega⟩
      refine J_istore hC dX4_guiltyOf_37 (Nat.le_of_ble_eq_true rfl) rfl ?_
      dsimp only [List.set]
      refine J_iload_n hC dX4_guiltyOf_39 rfl rfl ?_
      refine J_iload hC dX4_guiltyOf_40 rfl ?_
      refine J_icmp_eq_n hC (by decide) (by decide) (tgt := 55) dX4_guiltyOf_42 rfl (fun hf => absurd hf (by omega)) (fun _ => ?_)
      refine J_iload_n hC dX4_guiltyOf_45 rfl rfl ?_
      refine J_if_eq_n hC (by decide) (tgt := 53) dX4_guiltyOf_46 rfl (fun _ => ?_) (fun hf => absurd hf (by omega))
      refine J_iload_n hC dX4_guiltyOf_53 rfl rfl ?_
      refine J_ireturn hC hR dX4_guiltyOf_54 (by decide) (by decide) ?_
      unfold guiltN at hq
      first
      | (rw [if_neg (fun q => fg1 q.1), if_pos ⟨fg1, fg2⟩] at hq; exact hq)
      | omega
    · dsimp only [Option.toList_some, Option.toList_none, List.cons_append, List.nil_append]
      have fg2 : ¬ permN A i (nv A 7) := fun ⟨p, p1, p2, p3⟩ => g2 ⟨p, p1, p2, by unfold covN at p3; omega, by unfold covN at p3; omega⟩
      refine J_istore hC dX4_guiltyOf_37 (Nat.le_of_ble_eq_true rfl) rfl ?_
      dsimp only [List.set]
      refine J_iload_n hC dX4_guiltyOf_39 rfl rfl ?_
      refine J_iload hC dX4_guiltyOf_40 rfl ?_
      refine J_icmp_eq_n hC (by decide) (by decide) (tgt := 55) dX4_guiltyOf_42 rfl (fun _ => ?_) (fun hf => absurd hf (by omega))
      refine J_aload_n hC dX4_guiltyOf_55 rfl rfl ?_
      refine gX4_21 hC hw dX4_guiltyOf_56 ?_
      refine gX4_98 hC hw dX4_guiltyOf_59 ?_
      refine J_iload_n hC dX4_guiltyOf_62 rfl rfl ?_
      refine J_iaload hC (hw.2.1 15 (by decide)) (kd_o hw.1) rfl (by omega) (by decide) dX4_guiltyOf_63 ?_
      refine J_top (o_LN hO hk) ?_
      refine J_aload_n hC dX4_guiltyOf_64 rfl rfl ?_
      refine gX4_21 hC hw dX4_guiltyOf_65 ?_
      refine gX4_98 hC hw dX4_guiltyOf_68 ?_
      refine J_iload_n hC dX4_guiltyOf_71 rfl rfl ?_
      refine J_iaload hC (hw.2.1 15 (by decide)) (kd_o hw.1) rfl (by omega) (by decide) dX4_guiltyOf_72 ?_
      refine J_top (o_LN hO hi) ?_
      refine J_icmp_le hC (tgt := 80) dX4_guiltyOf_73 rfl (fun b9 => ?_) (fun b9 => ?_)
      · refine J_iload_n hC dX4_guiltyOf_80 rfl rfl ?_
        refine J_ireturn hC hR dX4_guiltyOf_81 (by decide) (by decide) ?_
        unfold guiltN at hq
        rw [if_neg (fun q => fg1 q.1), if_neg (fun q => fg2 q.2)] at hq
        rw [if_neg (by rw [Int32.lt_iff_toInt_lt]; rw [Int32.le_iff_toInt_le] at b9; omega)] at hq
        exact hq
      · refine J_iload_n hC dX4_guiltyOf_76 rfl rfl ?_
        refine J_goto (tgt := 81) hC dX4_guiltyOf_77 rfl ?_
        refine J_ireturn hC hR dX4_guiltyOf_81 (by decide) (by decide) ?_
        unfold guiltN at hq
        rw [if_neg (fun q => fg1 q.1), if_neg (fun q => fg2 q.2)] at hq
        first
        | omega
        | (rw [if_pos (by rw [Int32.lt_iff_toInt_lt]; rw [Int32.le_iff_toInt_le] at b9; omega)] at hq; exact hq)
