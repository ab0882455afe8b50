set_option maxHeartbeats 4000000 in
set_option maxRecDepth 100000 in
theorem c_X4_countCovering {G : GC} {w : Lay} {σ : Mem} {Q : Lay → Option Value → Mem → Prop} {Qx : Lay → String → Mem → Prop} {o hm : Nat} {A : Rw} (hw : LO w o) (hO : OAt σ o A) (hI : RowOK hm A) {c h : Nat} (hc0 : c < 2 ^ 31) (hh : h < 2 ^ 31) (hq : Q w (some (.int (nI (usedN A c h)))) σ) : MX4_countCovering G w σ [.ref (w.2.1 o 0), .int (nI c), .int (nI h)] Q Qx := by
  refine mt_start (by decide) rfl (Nat.le_of_ble_eq_true rfl) (fun E hC hR hN => ?_)
  show J G E w 0 0 0 [some (.ref (w.2.1 o 0)), some (.int (nI c)), some (.int (nI h)), none, none] [] σ
  have h1 := r_NP hI
  have h2 := r_NK hI
  have lp : ∀ (dd : Nat) (p : Nat), nv A 11 - p < dd → (p ≤ nv A 11) →  J G E w 0 0 5 [some (.ref (w.2.1 o 0)), some (.int (nI c)), some (.int (nI h)), some (.int (nI (cnt (fun p => nv A (70 + 9 * nv A (214 + 3 * p) + 3) = c ∧ covN A p h) p))), some (.int (nI p))] [] σ := by
    intro dd
    induction dd with
    | zero =>
      intro p hdd
      exact absurd hdd (Nat.not_lt_zero _)
    | succ dd ih =>
      intro p hdd hp
      refine J_iload hC dX4_countCovering_5 rfl ?_
      refine J_aload_n hC dX4_countCovering_7 rfl rfl ?_
      refine gX4_28 hC hw dX4_countCovering_8 ?_
      refine gX4_68 hC hw dX4_countCovering_11 ?_
      refine J_top (o_NP hO hI) ?_
      refine J_icmp_ge_n hC (by omega) (by omega) (tgt := 61) dX4_countCovering_14 rfl (fun bp => ?_) (fun bp => ?_)
      · refine J_iload_n hC dX4_countCovering_61 rfl rfl ?_
        refine J_ireturn hC hR dX4_countCovering_62 (by decide) (by decide) ?_
        have e : p = nv A 11 := by omega
        subst e
        exact hq
      · have pk := r_PK hI bp
        have kc := r_KC hI pk.2
        have hNC := r_NC hI
        refine J_aload_n hC dX4_countCovering_17 rfl rfl ?_
        refine gX4_21 hC hw dX4_countCovering_18 ?_
        refine gX4_86 hC hw dX4_countCovering_21 ?_
        refine J_aload_n hC dX4_countCovering_24 rfl rfl ?_
        refine gX4_28 hC hw dX4_countCovering_25 ?_
        refine gX4_160 hC hw dX4_countCovering_28 ?_
        refine J_iload hC dX4_countCovering_31 rfl ?_
        refine J_iaload hC (hw.2.1 18 (by decide)) (kd_o hw.1) rfl (by omega) (by decide) dX4_countCovering_33 ?_
        refine J_top (o_PK hO hI (by omega)) ?_
        refine J_iaload hC (hw.2.1 11 (by decide)) (kd_o hw.1) rfl (by omega) (by decide) dX4_countCovering_34 ?_
        refine J_top (o_C hO hI (by omega)) ?_
        refine J_iload_n hC dX4_countCovering_35 rfl rfl ?_
        refine J_icmp_ne_n hC (by omega) (by omega) (tgt := 55) dX4_countCovering_36 rfl (fun b1 => ?_) (fun b1 => ?_)
        · rw [← cnt_ff (P := (fun p => nv A (70 + 9 * nv A (214 + 3 * p) + 3) = c ∧ covN A p h)) (n := p) (fun g => b1 g.1)]
          refine J_iinc_n (m := 1) hC (by decide) dX4_countCovering_55 rfl (Nat.le_of_ble_eq_true rfl) rfl ?_
          dsimp only [List.set]
          refine J_goto (tgt := 5) hC dX4_countCovering_58 rfl ?_
          exact ih (p + 1) (by omega) (by omega)
        · refine J_aload_n hC dX4_countCovering_39 rfl rfl ?_
          refine gX4_28 hC hw dX4_countCovering_40 ?_
          refine J_iload hC dX4_countCovering_43 rfl ?_
          refine J_iload_n hC dX4_countCovering_45 rfl rfl ?_
          refine iX4_163 hC hw rfl ⟨by decide, by decide⟩ ⟨by decide, by decide⟩ (Nat.le_of_ble_eq_true rfl) dX4_countCovering_46 ?_
          refine c_X6_covers hw hO hI (by omega) (by omega) (fun b2 => ?_) (fun b2 => ?_)
          · dsimp only [Option.toList_some, Option.toList_none, List.cons_append, List.nil_append]
            refine J_if_eq_n hC (by decide) (tgt := 55) dX4_countCovering_49 rfl (fun hf => absurd hf (by omega)) (fun _ => ?_)
            refine J_iinc_n (m := 1) hC (by decide) dX4_countCovering_52 rfl (Nat.le_of_ble_eq_true rfl) rfl ?_
            dsimp only [List.set]
            rw [← cnt_tt (P := (fun p => nv A (70 + 9 * nv A (214 + 3 * p) + 3) = c ∧ covN A p h)) (n := p) ⟨b1, b2⟩]
            refine J_iinc_n (m := 1) hC (by decide) dX4_countCovering_55 rfl (Nat.le_of_ble_eq_true rfl) rfl ?_
            dsimp only [List.set]
            refine J_goto (tgt := 5) hC dX4_countCovering_58 rfl ?_
            exact ih (p + 1) (by omega) (by omega)
          · dsimp only [Option.toList_some, Option.toList_none, List.cons_append, List.nil_append]
            rw [← cnt_ff (P := (fun p => nv A (70 + 9 * nv A (214 + 3 * p) + 3) = c ∧ covN A p h)) (n := p) (fun g => b2 g.2)]
            refine J_if_eq_n hC (by decide) (tgt := 55) dX4_countCovering_49 rfl (fun _ => ?_) (fun hf => absurd hf (by omega))
            refine J_iinc_n (m := 1) hC (by decide) dX4_countCovering_55 rfl (Nat.le_of_ble_eq_true rfl) rfl ?_
            dsimp only [List.set]
            refine J_goto (tgt := 5) hC dX4_countCovering_58 rfl ?_
            exact ih (p + 1) (by omega) (by omega)
  refine J_iconst (v := nI 0) hC dX4_countCovering_0 (by decide) ?_
  refine J_istore_n hC dX4_countCovering_1 rfl (Nat.le_of_ble_eq_true rfl) rfl ?_
  dsimp only [List.set]
  refine J_iconst (v := nI 0) hC dX4_countCovering_2 (by decide) ?_
  refine J_istore hC dX4_countCovering_3 (Nat.le_of_ble_eq_true rfl) rfl ?_
  dsimp only [List.set]
  exact lp (nv A 11 + 1) 0 (by omega) (by omega)
set_option maxHeartbeats 4000000 in
set_option maxRecDepth 100000 in
theorem c_X4_isQuotaUsedUp {G : GC} {w : Lay} {σ : Mem} {Q : Lay → Option Value → Mem → Prop} {Qx : Lay → String → Mem → Prop} {o hm : Nat} {A : Rw} (hw : LO w o) (hO : OAt σ o A) (hI : RowOK hm A) {c b e : Nat} (hc : c < nv A 5) (hb : b < 2 ^ 30) (he : e < 2 ^ 30) (ht : (∃ t, b ≤ t ∧ t < e ∧ nv A (64 + c) ≤ usedN A c t) → Q w (some (.int (nI 1))) σ) (hf : ¬ (∃ t, b ≤ t ∧ t < e ∧ nv A (64 + c) ≤ usedN A c t) → Q w (some (.int (nI 0))) σ) : MX4_isQuotaUsedUp G w σ [.ref (w.2.1 o 0), .int (nI c), .int (nI b), .int (nI e)] Q Qx := by
  refine mt_start (by decide) rfl (Nat.le_of_ble_eq_true rfl) (fun E hC hR hN => ?_)
  show J G E w 0 0 0 [some (.ref (w.2.1 o 0)), some (.int (nI c)), some (.int (nI b)), some (.int (nI e)), none] [] σ
  have h1 := r_NP hI
  have h2 := r_NC hI
  have h3 := r_Q hI hc
  have lp : ∀ (dd : Nat) (t : Nat), e - t < dd → (b ≤ t) → (t ≤ max b e) → (∀ j, b ≤ j → j < t → ¬ nv A (64 + c) ≤ usedN A c j) →  J G E w 0 0 3 [some (.ref (w.2.1 o 0)), some (.int (nI c)), some (.int (nI b)), some (.int (nI e)), some (.int (nI t))] [] σ := by
    intro dd
    induction dd with
    | zero =>
      intro t hdd
      exact absurd hdd (Nat.not_lt_zero _)
    | succ dd ih =>
      intro t hdd hbt hte hn
      refine J_iload hC dX4_isQuotaUsedUp_3 rfl ?_
      refine J_iload_n hC dX4_isQuotaUsedUp_5 rfl rfl ?_
      refine J_icmp_ge_n hC (by omega) (by omega) (tgt := 36) dX4_isQuotaUsedUp_6 rfl (fun b1 => ?_) (fun b1 => ?_)
      · refine J_iconst (v := nI 0) hC dX4_isQuotaUsedUp_36 (by decide) ?_
        refine J_zreturn hC hR dX4_isQuotaUsedUp_37 (by decide) (by decide) (by decide) ?_
        exact hf (fun ⟨j, j1, j2, j3⟩ => hn j j1 (by omega) j3)
      · refine J_aload_n hC dX4_isQuotaUsedUp_9 rfl rfl ?_
        refine J_iload_n hC dX4_isQuotaUsedUp_10 rfl rfl ?_
        refine J_iload hC dX4_isQuotaUsedUp_11 rfl ?_
        refine iX4_181 hC hw rfl ⟨by decide, by decide⟩ ⟨by decide, by decide⟩ (Nat.le_of_ble_eq_true rfl) dX4_isQuotaUsedUp_13 ?_
        refine c_X4_countCovering hw hO hI (by omega) (by omega) ?_
        dsimp only [Option.toList_some, Option.toList_none, List.cons_append, List.nil_append]
        have hu : usedN A c t ≤ nv A 11 := cnt_le _ _
        refine J_aload_n hC dX4_isQuotaUsedUp_16 rfl rfl ?_
        refine gX4_12 hC hw dX4_isQuotaUsedUp_17 ?_
        refine gX4_184 hC hw dX4_isQuotaUsedUp_20 ?_
        refine J_iload_n hC dX4_isQuotaUsedUp_23 rfl rfl ?_
        refine J_iaload hC (hw.2.1 5 (by decide)) (kd_o hw.1) rfl (by omega) (by decide) dX4_isQuotaUsedUp_24 ?_
        refine J_top (o_Q hO hI hc) ?_
        refine J_icmp_lt_n hC (by omega) (by omega) (tgt := 30) dX4_isQuotaUsedUp_25 rfl (fun b2 => ?_) (fun b2 => ?_)
        · refine J_iinc_n (m := 1) hC (by decide) dX4_isQuotaUsedUp_30 rfl (Nat.le_of_ble_eq_true rfl) rfl ?_
          dsimp only [List.set]
          refine J_goto (tgt := 3) hC dX4_isQuotaUsedUp_33 rfl ?_
          exact ih (t + 1) (by omega) (by omega) (by omega) (fun j h1 h2 => by
            by_cases g : j = t
            · subst g; omega
            · exact hn j h1 (by omega))
        · refine J_iconst (v := nI 1) hC dX4_isQuotaUsedUp_28 (by decide) ?_
          refine J_zreturn hC hR dX4_isQuotaUsedUp_29 (by decide) (by decide) (by decide) ?_
          exact ht ⟨t, by omega, by omega, by omega⟩
  refine J_iload_n hC dX4_isQuotaUsedUp_0 rfl rfl ?_
  refine J_istore hC dX4_isQuotaUsedUp_1 (Nat.le_of_ble_eq_true rfl) rfl ?_
  dsimp only [List.set]
  exact lp (e + 1) b (by omega) (by omega) (by omega) (fun j h1 h2 => absurd h2 (by omega))
set_option maxHeartbeats 4000000 in
set_option maxRecDepth 100000 in
theorem c_X4_fliesAllHours {G : GC} {w : Lay} {σ : Mem} {Q : Lay → Option Value → Mem → Prop} {Qx : Lay → String → Mem → Prop} {o hm : Nat} {A : Rw} (hw : LO w o) (hO : OAt σ o A) (hI : RowOK hm A) {k b e : Nat} (hk : k < nv A 6) (hb : b < 2 ^ 30) (he : e < 2 ^ 30) (ht : (∀ t, b ≤ t → t < e → fliesN A k t) → Q w (some (.int (nI 1))) σ) (hf : ¬ (∀ t, b ≤ t → t < e → fliesN A k t) → Q w (some (.int (nI 0))) σ) : MX4_fliesAllHours G w σ [.ref (w.2.1 o 0), .int (nI k), .int (nI b), .int (nI e)] Q Qx := by
  refine mt_start (by decide) rfl (Nat.le_of_ble_eq_true rfl) (fun E hC hR hN => ?_)
  show J G E w 0 0 0 [some (.ref (w.2.1 o 0)), some (.int (nI k)), some (.int (nI b)), some (.int (nI e)), none] [] σ
  have h2 := r_NK hI
  have lp : ∀ (dd : Nat) (t : Nat), e - t < dd → (b ≤ t) → (t ≤ max b e) → (∀ j, b ≤ j → j < t → fliesN A k j) →  J G E w 0 0 3 [some (.ref (w.2.1 o 0)), some (.int (nI k)), some (.int (nI b)), some (.int (nI e)), some (.int (nI t))] [] σ := by
    intro dd
    induction dd with
    | zero =>
      intro t hdd
      exact absurd hdd (Nat.not_lt_zero _)
    | succ dd ih =>
      intro t hdd hbt hte hn
      refine J_iload hC dX4_fliesAllHours_3 rfl ?_
      refine J_iload_n hC dX4_fliesAllHours_5 rfl rfl ?_
      refine J_icmp_ge_n hC (by omega) (by omega) (tgt := 27) dX4_fliesAllHours_6 rfl (fun b1 => ?_) (fun b1 => ?_)
      · refine J_iconst (v := nI 1) hC dX4_fliesAllHours_27 (by decide) ?_
        refine J_zreturn hC hR dX4_fliesAllHours_28 (by decide) (by decide) (by decide) ?_
        exact ht (fun j j1 j2 => hn j j1 (by omega))
      · refine J_aload_n hC dX4_fliesAllHours_9 rfl rfl ?_
        refine J_iload_n hC dX4_fliesAllHours_10 rfl rfl ?_
        refine J_iload hC dX4_fliesAllHours_11 rfl ?_
        refine iX4_187 hC hw rfl ⟨by decide, by decide⟩ ⟨by decide, by decide⟩ (Nat.le_of_ble_eq_true rfl) dX4_fliesAllHours_13 ?_
        refine c_X4_fliesAt hw hO hI hk (by omega) (fun b2 => ?_) (fun b2 => ?_)
        · dsimp only [Option.toList_some, Option.toList_none, List.cons_append, List.nil_append]
          refine J_if_ne_n hC (by decide) (tgt := 21) dX4_fliesAllHours_16 rfl (fun _ => ?_) (fun hf => absurd hf (by omega))
          refine J_iinc_n (m := 1) hC (by decide) dX4_fliesAllHours_21 rfl (Nat.le_of_ble_eq_true rfl) rfl ?_
          dsimp only [List.set]
          refine J_goto (tgt := 3) hC dX4_fliesAllHours_24 rfl ?_
          exact ih (t + 1) (by omega) (by omega) (by omega) (fun j h1 h2 => by
            by_cases g : j = t
            · subst g; exact b2
            · exact hn j h1 (by omega))
        · dsimp only [Option.toList_some, Option.toList_none, List.cons_append, List.nil_append]
          refine J_if_ne_n hC (by decide) (tgt := 21) dX4_fliesAllHours_16 rfl (fun hf => absurd hf (by omega)) (fun _ => ?_)
          refine J_iconst (v := nI 0) hC dX4_fliesAllHours_19 (by decide) ?_
          refine J_zreturn hC hR dX4_fliesAllHours_20 (by decide) (by decide) (by decide) ?_
          exact hf (fun g => b2 (g t (by omega) (by omega)))
  refine J_iload_n hC dX4_fliesAllHours_0 rfl rfl ?_
  refine J_istore hC dX4_fliesAllHours_1 (Nat.le_of_ble_eq_true rfl) rfl ?_
  dsimp only [List.set]
  exact lp (e + 1) b (by omega) (by omega) (by omega) (fun j h1 h2 => absurd h2 (by omega))
set_option maxHeartbeats 4000000 in
set_option maxRecDepth 100000 in
theorem c_X4_isLaunchable {G : GC} {w : Lay} {σ : Mem} {Q : Lay → Option Value → Mem → Prop} {Qx : Lay → String → Mem → Prop} {o hm : Nat} {A : Rw} (hw : LO w o) (hO : OAt σ o A) (hI : RowOK hm A) {k : Nat} (hk : k < nv A 6) (hh : nv A 7 < 2 ^ 31) (ht : canL A k → Q w (some (.int (nI 1))) σ) (hf : ¬ canL A k → Q w (some (.int (nI 0))) σ) : MX4_isLaunchable G w σ [.ref (w.2.1 o 0), .int (nI k)] Q Qx := by
  refine mt_start (by decide) rfl (Nat.le_of_ble_eq_true rfl) (fun E hC hR hN => ?_)
  show J G E w 0 0 0 [some (.ref (w.2.1 o 0)), some (.int (nI k))] [] σ
  have h2 := r_NK hI
  have h3 := r_KS hI hk
  refine J_aload_n hC dX4_isLaunchable_0 rfl rfl ?_
  refine gX4_21 hC hw dX4_isLaunchable_1 ?_
  refine gX4_95 hC hw dX4_isLaunchable_4 ?_
  refine J_iload_n hC dX4_isLaunchable_7 rfl rfl ?_
  refine J_iaload hC (hw.2.1 14 (by decide)) (kd_o hw.1) rfl (by omega) (by decide) dX4_isLaunchable_8 ?_
  refine J_top (o_S hO hI hk) ?_
  refine J_if_ne_n hC (by omega) (tgt := 28) dX4_isLaunchable_9 rfl (fun b1 => ?_) (fun b1 => ?_)
  · refine J_iconst (v := nI 0) hC dX4_isLaunchable_28 (by decide) ?_
    refine J_zreturn hC hR dX4_isLaunchable_29 (by decide) (by decide) (by decide) ?_
    exact hf (fun g => b1 g.1)
  · refine J_aload_n hC dX4_isLaunchable_12 rfl rfl ?_
    refine J_iload_n hC dX4_isLaunchable_13 rfl rfl ?_
    refine J_aload_n hC dX4_isLaunchable_14 rfl rfl ?_
    refine gX4_46 hC hw dX4_isLaunchable_15 ?_
    refine J_top (o_HOUR hO hI) ?_
    refine iX4_187 hC hw rfl ⟨by decide, by decide⟩ ⟨by decide, by decide⟩ (Nat.le_of_ble_eq_true rfl) dX4_isLaunchable_18 ?_
    refine c_X4_fliesAt hw hO hI hk hh (fun b2 => ?_) (fun b2 => ?_)
    · dsimp only [Option.toList_some, Option.toList_none, List.cons_append, List.nil_append]
      refine J_if_eq_n hC (by decide) (tgt := 28) dX4_isLaunchable_21 rfl (fun hf => absurd hf (by omega)) (fun _ => ?_)
      refine J_iconst (v := nI 1) hC dX4_isLaunchable_24 (by decide) ?_
      refine J_goto (tgt := 29) hC dX4_isLaunchable_25 rfl ?_
      refine J_zreturn hC hR dX4_isLaunchable_29 (by decide) (by decide) (by decide) ?_
      exact ht ⟨b1, b2⟩
    · dsimp only [Option.toList_some, Option.toList_none, List.cons_append, List.nil_append]
      refine J_if_eq_n hC (by decide) (tgt := 28) dX4_isLaunchable_21 rfl (fun _ => ?_) (fun hf => absurd hf (by omega))
      refine J_iconst (v := nI 0) hC dX4_isLaunchable_28 (by decide) ?_
      refine J_zreturn hC hR dX4_isLaunchable_29 (by decide) (by decide) (by decide) ?_
      exact hf (fun g => b2 g.2)
set_option maxHeartbeats 4000000 in
set_option maxRecDepth 100000 in
theorem c_X4_repairPrice {G : GC} {w : Lay} {σ : Mem} {Q : Lay → Option Value → Mem → Prop} {Qx : Lay → String → Mem → Prop} {o hm : Nat} {A : Rw} (hw : LO w o) (hO : OAt σ o A) (hI : RowOK hm A) {k : Nat} (hk : k < nv A 6) (hq : Q w (some (.int (nI (2 * nv A (70 + 9 * k + 4))))) σ) : MX4_repairPrice G w σ [.ref (w.2.1 o 0), .int (nI k)] Q Qx := by
  refine mt_start (by decide) rfl (Nat.le_of_ble_eq_true rfl) (fun E hC hR hN => ?_)
  show J G E w 0 0 0 [some (.ref (w.2.1 o 0)), some (.int (nI k))] [] σ
  have h2 := r_NK hI
  refine J_iconst (v := nI 2) hC dX4_repairPrice_0 (by decide) ?_
  refine J_aload_n hC dX4_repairPrice_1 rfl rfl ?_
  refine gX4_21 hC hw dX4_repairPrice_2 ?_
  refine gX4_89 hC hw dX4_repairPrice_5 ?_
  refine J_iload_n hC dX4_repairPrice_8 rfl rfl ?_
  refine J_iaload hC (hw.2.1 12 (by decide)) (kd_o hw.1) rfl (by omega) (by decide) dX4_repairPrice_9 ?_
  refine J_top (o_N hO hI hk) ?_
  refine J_imul_n hC dX4_repairPrice_10 ?_
  refine J_ireturn hC hR dX4_repairPrice_11 (by decide) (by decide) ?_
  exact hq
set_option maxHeartbeats 4000000 in
set_option maxRecDepth 100000 in
theorem c_X4_isRepairable {G : GC} {w : Lay} {σ : Mem} {Q : Lay → Option Value → Mem → Prop} {Qx : Lay → String → Mem → Prop} {o hm : Nat} {A : Rw} (hw : LO w o) (hO : OAt σ o A) (hI : RowOK hm A) {k : Nat} (hk : k < nv A 6) (ht : canR A k → Q w (some (.int (nI 1))) σ) (hf : ¬ canR A k → Q w (some (.int (nI 0))) σ) : MX4_isRepairable G w σ [.ref (w.2.1 o 0), .int (nI k)] Q Qx := by
  refine mt_start (by decide) rfl (Nat.le_of_ble_eq_true rfl) (fun E hC hR hN => ?_)
  show J G E w 0 0 0 [some (.ref (w.2.1 o 0)), some (.int (nI k))] [] σ
  have h2 := r_NK hI
  have h3 := r_KS hI hk
  refine J_aload_n hC dX4_isRepairable_0 rfl rfl ?_
  refine gX4_21 hC hw dX4_isRepairable_1 ?_
  refine gX4_95 hC hw dX4_isRepairable_4 ?_
  refine J_iload_n hC dX4_isRepairable_7 rfl rfl ?_
  refine J_iaload hC (hw.2.1 14 (by decide)) (kd_o hw.1) rfl (by omega) (by decide) dX4_isRepairable_8 ?_
  refine J_top (o_S hO hI hk) ?_
  refine J_iconst (v := nI 2) hC dX4_isRepairable_9 (by decide) ?_
  refine J_icmp_ne_n hC (by omega) (by decide) (tgt := 34) dX4_isRepairable_10 rfl (fun b1 => ?_) (fun b1 => ?_)
  · refine J_iconst (v := nI 0) hC dX4_isRepairable_34 (by decide) ?_
    refine J_zreturn hC hR dX4_isRepairable_35 (by decide) (by decide) (by decide) ?_
    exact hf (fun g => b1 g.1)
  · refine J_aload_n hC dX4_isRepairable_13 rfl rfl ?_
    refine gX4_21 hC hw dX4_isRepairable_14 ?_
    refine gX4_92 hC hw dX4_isRepairable_17 ?_
    refine J_iload_n hC dX4_isRepairable_20 rfl rfl ?_
    refine J_iaload hC (hw.2.1 13 (by decide)) (kd_o hw.1) rfl (by omega) (by decide) dX4_isRepairable_21 ?_
    refine J_top (o_P hO hk) ?_
    refine J_aload_n hC dX4_isRepairable_22 rfl rfl ?_
    refine J_iload_n hC dX4_isRepairable_23 rfl rfl ?_
    refine iX4_240 hC hw rfl ⟨by decide, by decide⟩ ⟨by decide, by decide⟩ (Nat.le_of_ble_eq_true rfl) dX4_isRepairable_24 ?_
    refine c_X4_repairPrice hw hO hI hk ?_
    dsimp only [Option.toList_some, Option.toList_none, List.cons_append, List.nil_append]
    refine J_icmp_lt hC (tgt := 34) dX4_isRepairable_27 rfl (fun b2 => ?_) (fun b2 => ?_)
    · refine J_iconst (v := nI 0) hC dX4_isRepairable_34 (by decide) ?_
      refine J_zreturn hC hR dX4_isRepairable_35 (by decide) (by decide) (by decide) ?_
      exact hf (fun g => by have g2 := g.2; rw [Int32.le_iff_toInt_le] at g2; rw [Int32.lt_iff_toInt_lt] at b2; omega)
    · refine J_iconst (v := nI 1) hC dX4_isRepairable_30 (by decide) ?_
      refine J_goto (tgt := 35) hC dX4_isRepairable_31 rfl ?_
      refine J_zreturn hC hR dX4_isRepairable_35 (by decide) (by decide) (by decide) ?_
      exact ht ⟨b1, by rw [Int32.le_iff_toInt_le]; rw [Int32.lt_iff_toInt_lt] at b2; omega⟩
