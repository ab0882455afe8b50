set_option maxHeartbeats 4000000 in
set_option maxRecDepth 100000 in
theorem c_X3_isLetter {G : GC} {w : Lay} {σ : Mem} {Q : Lay → Option Value → Mem → Prop} {Qx : Lay → String → Mem → Prop} {n : Nat} (hn : n < 256) (ht : lett n → Q w (some (.int (nI 1))) σ) (hf : ¬ lett n → Q w (some (.int (nI 0))) σ) : MX3_isLetter G w σ [.int (nI n)] Q Qx := by
  refine mt_start (by decide) rfl (Nat.le_of_ble_eq_true rfl) (fun E hC hR hN => ?_)
  show J G E w 0 0 0 [some (.int (nI n))] [] σ
  refine J_iload_n hC dX3_isLetter_0 rfl rfl ?_
  refine J_bipush (v := nI 97) hC dX3_isLetter_1 (by decide) ?_
  refine J_icmp_lt_n hC (by omega) (by decide) (tgt := 16) dX3_isLetter_3 rfl (fun hb0 => ?_) (fun hb0 => ?_)
  · refine J_iconst (v := nI 0) hC dX3_isLetter_16 (by decide) ?_
    refine J_zreturn hC hR dX3_isLetter_17 (by decide) (by decide) (by decide) ?_
    exact hf (by unfold lett; omega)
  · refine J_iload_n hC dX3_isLetter_6 rfl rfl ?_
    refine J_bipush (v := nI 122) hC dX3_isLetter_7 (by decide) ?_
    refine J_icmp_gt_n hC (by omega) (by decide) (tgt := 16) dX3_isLetter_9 rfl (fun hb1 => ?_) (fun hb1 => ?_)
    · refine J_iconst (v := nI 0) hC dX3_isLetter_16 (by decide) ?_
      refine J_zreturn hC hR dX3_isLetter_17 (by decide) (by decide) (by decide) ?_
      exact hf (by unfold lett; omega)
    · refine J_iconst (v := nI 1) hC dX3_isLetter_12 (by decide) ?_
      refine J_goto (tgt := 17) hC dX3_isLetter_13 rfl ?_
      refine J_zreturn hC hR dX3_isLetter_17 (by decide) (by decide) (by decide) ?_
      exact ht (by unfold lett; omega)
set_option maxHeartbeats 4000000 in
set_option maxRecDepth 100000 in
theorem c_X3_isDigit {G : GC} {w : Lay} {σ : Mem} {Q : Lay → Option Value → Mem → Prop} {Qx : Lay → String → Mem → Prop} {n : Nat} (hn : n < 256) (ht : digi n → Q w (some (.int (nI 1))) σ) (hf : ¬ digi n → Q w (some (.int (nI 0))) σ) : MX3_isDigit G w σ [.int (nI n)] Q Qx := by
  refine mt_start (by decide) rfl (Nat.le_of_ble_eq_true rfl) (fun E hC hR hN => ?_)
  show J G E w 0 0 0 [some (.int (nI n))] [] σ
  refine J_iload_n hC dX3_isDigit_0 rfl rfl ?_
  refine J_bipush (v := nI 48) hC dX3_isDigit_1 (by decide) ?_
  refine J_icmp_lt_n hC (by omega) (by decide) (tgt := 16) dX3_isDigit_3 rfl (fun hb0 => ?_) (fun hb0 => ?_)
  · refine J_iconst (v := nI 0) hC dX3_isDigit_16 (by decide) ?_
    refine J_zreturn hC hR dX3_isDigit_17 (by decide) (by decide) (by decide) ?_
    exact hf (by unfold digi; omega)
  · refine J_iload_n hC dX3_isDigit_6 rfl rfl ?_
    refine J_bipush (v := nI 57) hC dX3_isDigit_7 (by decide) ?_
    refine J_icmp_gt_n hC (by omega) (by decide) (tgt := 16) dX3_isDigit_9 rfl (fun hb1 => ?_) (fun hb1 => ?_)
    · refine J_iconst (v := nI 0) hC dX3_isDigit_16 (by decide) ?_
      refine J_zreturn hC hR dX3_isDigit_17 (by decide) (by decide) (by decide) ?_
      exact hf (by unfold digi; omega)
    · refine J_iconst (v := nI 1) hC dX3_isDigit_12 (by decide) ?_
      refine J_goto (tgt := 17) hC dX3_isDigit_13 rfl ?_
      refine J_zreturn hC hR dX3_isDigit_17 (by decide) (by decide) (by decide) ?_
      exact ht (by unfold digi; omega)
set_option maxHeartbeats 4000000 in
set_option maxRecDepth 100000 in
theorem c_X3_readWord {G : GC} {w : Lay} {σ : Mem} {Q : Lay → Option Value → Mem → Prop} {Qx : Lay → String → Mem → Prop} (hK : LK w) {t : Nat → Nat} {L : Nat} (hX : TXc σ t L) {p : Nat} (he : rd σ 12 5 6 = nI p) (hp : p ≤ L) (hq : ∀ σ', FrT σ σ' → rd σ' 12 5 4 = nI 1 → rd σ' 12 5 5 = rd σ 12 5 5 → rd σ' 12 5 6 = nI (run lett t L p) → Q w none σ') : MX3_readWord G w σ [.ref (w.2.1 12 5)] Q Qx := by
  refine mt_start (by decide) rfl (Nat.le_of_ble_eq_true rfl) (fun E hC hR hN => ?_)
  show J G E w 0 0 0 [some (.ref (w.2.1 12 5))] [] σ
  have hL5 := hX.2.2
  have lp : ∀ (dd : Nat) (a : Nat) (σ1 : Mem), L - a < dd → (a ≤ L) → (p ≤ a) → (FrT σ σ1) → (rd σ1 12 5 4 = nI 1) → (rd σ1 12 5 5 = rd σ 12 5 5) → (rd σ1 12 5 6 = nI a) → (run lett t L a = run lett t L p) →  J G E w 0 0 5 [some (.ref (w.2.1 12 5))] [] σ1 := by
    intro dd
    induction dd with
    | zero =>
      intro a σ1 hdd
      exact absurd hdd (Nat.not_lt_zero _)
    | succ dd ih =>
      intro a σ1 hdd haL hpa hF1 h41 h51 hE1 hr
      refine J_aload_n hC dX3_readWord_5 rfl rfl ?_
      refine gX3_25 hC hK dX3_readWord_6 ?_
      refine J_top hE1 ?_
      refine J_aload_n hC dX3_readWord_9 rfl rfl ?_
      refine gX3_19 hC hK dX3_readWord_10 ?_
      refine J_top (FrI_TX (FrT_I hF1) hX).2.1 ?_
      refine J_icmp_ge_n hC (by omega) (by omega) (tgt := 44) dX3_readWord_13 rfl (fun b1 => ?_) (fun b1 => ?_)
      · refine J_return hC hR dX3_readWord_44 (by decide) (by decide) ?_
        have e9 : run lett t L p = a := by
          rw [← hr]
          exact run_end (fun q => absurd q.1 (by omega))
        exact hq _ hF1 h41 h51 (by rw [e9]; exact hE1)
      · refine J_aload_n hC dX3_readWord_16 rfl rfl ?_
        refine gX3_9 hC hK dX3_readWord_17 ?_
        refine J_aload_n hC dX3_readWord_20 rfl rfl ?_
        refine gX3_25 hC hK dX3_readWord_21 ?_
        refine J_top hE1 ?_
        refine J_iaload hC (hK.1 6 (by decide)) rfl rfl (by omega) (by decide) dX3_readWord_24 ?_
        refine J_top (TXc_at (FrI_TX (FrT_I hF1) hX) b1) ?_
        refine iX3_37 hC rfl ⟨by decide, by decide⟩ ⟨by decide, by decide⟩ (Nat.le_of_ble_eq_true rfl) dX3_readWord_25 ?_
        refine c_X3_isLetter (hX.1 a b1).1 (fun b2 => ?_) (fun b2 => ?_)
        · dsimp only [Option.toList_some, Option.toList_none, List.cons_append, List.nil_append]
          refine J_if_eq_n hC (by decide) (tgt := 44) dX3_readWord_28 rfl (fun hf => absurd hf (by omega)) (fun _ => ?_)
          refine J_aload_n hC dX3_readWord_31 rfl rfl ?_
          refine J_dup hC dX3_readWord_32 rfl ?_
          refine gX3_25 hC hK dX3_readWord_33 ?_
          refine J_top hE1 ?_
          refine J_iconst (v := nI 1) hC dX3_readWord_36 (by decide) ?_
          refine J_iadd_n hC dX3_readWord_37 ?_
          refine pX3_25 hC hK dX3_readWord_38 ?_
          refine J_goto (tgt := 5) hC dX3_readWord_41 rfl ?_
          exact ih (a + 1) _ (by omega) (by omega) (by omega) (FrT_wr hF1 (by decide)) ((rd_wr_j (by decide)).trans h41) ((rd_wr_j (by decide)).trans h51) rd_wr_s ((run_go b1 b2).symm.trans hr)
        · dsimp only [Option.toList_some, Option.toList_none, List.cons_append, List.nil_append]
          refine J_if_eq_n hC (by decide) (tgt := 44) dX3_readWord_28 rfl (fun _ => ?_) (fun hf => absurd hf (by omega))
          refine J_return hC hR dX3_readWord_44 (by decide) (by decide) ?_
          have e9 : run lett t L p = a := by
            rw [← hr]
            exact run_end (fun q => b2 q.2)
          exact hq _ hF1 h41 h51 (by rw [e9]; exact hE1)
  refine J_aload_n hC dX3_readWord_0 rfl rfl ?_
  refine J_iconst (v := nI 1) hC dX3_readWord_1 (by decide) ?_
  refine pX3_34 hC hK dX3_readWord_2 ?_
  exact lp (L + 1) p _ (by omega) hp (by omega) (FrT_wr FrT_refl (by decide)) rd_wr_s (rd_wr_j (by decide)) ((rd_wr_j (by decide)).trans he) rfl
set_option maxHeartbeats 4000000 in
set_option maxRecDepth 100000 in
theorem c_X3_readNumber {G : GC} {w : Lay} {σ : Mem} {Q : Lay → Option Value → Mem → Prop} {Qx : Lay → String → Mem → Prop} (hK : LK w) {t : Nat → Nat} {L : Nat} (hX : TXc σ t L) {p : Nat} (he : rd σ 12 5 6 = nI p) (hp : p ≤ L) (hq : ∀ σ', FrT σ σ' → rd σ' 12 5 4 = nI 2 → rd σ' 12 5 5 = rd σ 12 5 5 → rd σ' 12 5 6 = nI (run digi t L p) → rd σ' 12 5 7 = nI (val 1000000 t p (run digi t L p - p)) → Q w none σ') : MX3_readNumber G w σ [.ref (w.2.1 12 5)] Q Qx := by
  refine mt_start (by decide) rfl (Nat.le_of_ble_eq_true rfl) (fun E hC hR hN => ?_)
  show J G E w 0 0 0 [some (.ref (w.2.1 12 5))] [] σ
  have hL5 := hX.2.2
  have lp : ∀ (dd : Nat) (a : Nat) (σ1 : Mem), L - a < dd → (a ≤ L) → (p ≤ a) → (FrT σ σ1) → (rd σ1 12 5 4 = nI 2) → (rd σ1 12 5 5 = rd σ 12 5 5) → (rd σ1 12 5 6 = nI a) → (run digi t L a = run digi t L p) → (rd σ1 12 5 7 = nI (val 1000000 t p (a - p))) →  J G E w 0 0 10 [some (.ref (w.2.1 12 5))] [] σ1 := by
    intro dd
    induction dd with
    | zero =>
      intro a σ1 hdd
      exact absurd hdd (Nat.not_lt_zero _)
    | succ dd ih =>
      intro a σ1 hdd haL hpa hF1 h41 h51 hE1 hr hV1
      refine J_aload_n hC dX3_readNumber_10 rfl rfl ?_
      refine gX3_25 hC hK dX3_readNumber_11 ?_
      refine J_top hE1 ?_
      refine J_aload_n hC dX3_readNumber_14 rfl rfl ?_
      refine gX3_19 hC hK dX3_readNumber_15 ?_
      refine J_top (FrI_TX (FrT_I hF1) hX).2.1 ?_
      refine J_icmp_ge_n hC (by omega) (by omega) (tgt := 78) dX3_readNumber_18 rfl (fun b1 => ?_) (fun b1 => ?_)
      · refine J_return hC hR dX3_readNumber_78 (by decide) (by decide) ?_
        have e9 : run digi t L p = a := by
          rw [← hr]
          exact run_end (fun q => absurd q.1 (by omega))
        exact hq _ hF1 h41 h51 (by rw [e9]; exact hE1) (by rw [e9]; exact hV1)
      · refine J_aload_n hC dX3_readNumber_21 rfl rfl ?_
        refine gX3_9 hC hK dX3_readNumber_22 ?_
        refine J_aload_n hC dX3_readNumber_25 rfl rfl ?_
        refine gX3_25 hC hK dX3_readNumber_26 ?_
        refine J_top hE1 ?_
        refine J_iaload hC (hK.1 6 (by decide)) rfl rfl (by omega) (by decide) dX3_readNumber_29 ?_
        refine J_top (TXc_at (FrI_TX (FrT_I hF1) hX) b1) ?_
        refine iX3_44 hC rfl ⟨by decide, by decide⟩ ⟨by decide, by decide⟩ (Nat.le_of_ble_eq_true rfl) dX3_readNumber_30 ?_
        refine c_X3_isDigit (hX.1 a b1).1 (fun b2 => ?_) (fun b2 => ?_)
        · dsimp only [Option.toList_some, Option.toList_none, List.cons_append, List.nil_append]
          have hd9 := b2
          unfold digi at hd9
          have hv9 := val_le 1000000 t p (a - p)
          have ht9 := (hX.1 a b1).1
          refine J_if_eq_n hC (by decide) (tgt := 78) dX3_readNumber_33 rfl (fun hf => absurd hf (by omega)) (fun _ => ?_)
          refine J_aload_n hC dX3_readNumber_36 rfl rfl ?_
          refine J_aload_n hC dX3_readNumber_37 rfl rfl ?_
          refine gX3_50 hC hK dX3_readNumber_38 ?_
          refine J_top hV1 ?_
          refine J_bipush (v := nI 10) hC dX3_readNumber_41 (by decide) ?_
          refine J_imul_n hC dX3_readNumber_43 ?_
          refine J_aload_n hC dX3_readNumber_44 rfl rfl ?_
          refine gX3_9 hC hK dX3_readNumber_45 ?_
          refine J_aload_n hC dX3_readNumber_48 rfl rfl ?_
          refine gX3_25 hC hK dX3_readNumber_49 ?_
          refine J_top hE1 ?_
          refine J_iaload hC (hK.1 6 (by decide)) rfl rfl (by omega) (by decide) dX3_readNumber_52 ?_
          refine J_top (TXc_at (FrI_TX (FrT_I hF1) hX) b1) ?_
          refine J_iadd_n hC dX3_readNumber_53 ?_
          refine J_bipush (v := nI 48) hC dX3_readNumber_54 (by decide) ?_
          refine J_isub_n hC (by omega) dX3_readNumber_56 ?_
          refine J_ldc (v := nI 1000000) hC dX3_readNumber_57 q3_192 ?_
          refine J_min hC rfl q3_193 (by decide) (Nat.le_of_ble_eq_true rfl) (by decide) (by decide) dX3_readNumber_59 ?_
          rw [imin_n (by omega) (by omega), show min (val 1000000 t p (a - p) * 10 + t a - 48) 1000000 = val 1000000 t p (a + 1 - p) from by rw [val_step hpa]; omega]
          refine pX3_50 hC hK dX3_readNumber_62 ?_
          refine J_aload_n hC dX3_readNumber_65 rfl rfl ?_
          refine J_dup hC dX3_readNumber_66 rfl ?_
          refine gX3_25 hC hK dX3_readNumber_67 ?_
          refine J_top ((rd_wr_j (by decide)).trans hE1) ?_
          refine J_iconst (v := nI 1) hC dX3_readNumber_70 (by decide) ?_
          refine J_iadd_n hC dX3_readNumber_71 ?_
          refine pX3_25 hC hK dX3_readNumber_72 ?_
          refine J_goto (tgt := 10) hC dX3_readNumber_75 rfl ?_
          exact ih (a + 1) _ (by omega) (by omega) (by omega) (FrT_wr (FrT_wr hF1 (by decide)) (by decide)) ((rd_wr_j (by decide)).trans ((rd_wr_j (by decide)).trans h41)) ((rd_wr_j (by decide)).trans ((rd_wr_j (by decide)).trans h51)) rd_wr_s ((run_go b1 b2).symm.trans hr) ((rd_wr_j (by decide)).trans rd_wr_s)
        · dsimp only [Option.toList_some, Option.toList_none, List.cons_append, List.nil_append]
          refine J_if_eq_n hC (by decide) (tgt := 78) dX3_readNumber_33 rfl (fun _ => ?_) (fun hf => absurd hf (by omega))
          refine J_return hC hR dX3_readNumber_78 (by decide) (by decide) ?_
          have e9 : run digi t L p = a := by
            rw [← hr]
            exact run_end (fun q => b2 q.2)
          exact hq _ hF1 h41 h51 (by rw [e9]; exact hE1) (by rw [e9]; exact hV1)
  refine J_aload_n hC dX3_readNumber_0 rfl rfl ?_
  refine J_iconst (v := nI 2) hC dX3_readNumber_1 (by decide) ?_
  refine pX3_34 hC hK dX3_readNumber_2 ?_
  refine J_aload_n hC dX3_readNumber_5 rfl rfl ?_
  refine J_iconst (v := nI 0) hC dX3_readNumber_6 (by decide) ?_
  refine pX3_50 hC hK dX3_readNumber_7 ?_
  exact lp (L + 1) p _ (by omega) hp (by omega) (FrT_wr (FrT_wr FrT_refl (by decide)) (by decide)) ((rd_wr_j (by decide)).trans rd_wr_s) ((rd_wr_j (by decide)).trans (rd_wr_j (by decide))) ((rd_wr_j (by decide)).trans ((rd_wr_j (by decide)).trans he)) rfl (by rw [Nat.sub_self]; exact rd_wr_s)
set_option maxHeartbeats 4000000 in
set_option maxRecDepth 100000 in
theorem c_X3_readToken {G : GC} {w : Lay} {σ : Mem} {Q : Lay → Option Value → Mem → Prop} {Qx : Lay → String → Mem → Prop} (hK : LK w) {t : Nat → Nat} {L : Nat} (hX : TXc σ t L) {a : Nat} (ha : rd σ 12 5 6 = nI a) (haL : a ≤ L) (hq : ∀ σ', FrT σ σ' → curC σ' t L (skip t L a) → Q w none σ') : MX3_readToken G w σ [.ref (w.2.1 12 5)] Q Qx := by
  refine mt_start (by decide) rfl (Nat.le_of_ble_eq_true rfl) (fun E hC hR hN => ?_)
  show J G E w 0 0 0 [some (.ref (w.2.1 12 5))] [] σ
  have hL5 := hX.2.2
  have hsk := skip_500 (t := t) hL5 haL
  have j46 : ∀ (σ1 : Mem), (FrT σ σ1) → (rd σ1 12 5 5 = nI (skip t L a)) →  J G E w 0 0 46 [some (.ref (w.2.1 12 5))] [] σ1 := by
    intro σ1 hF1 hS1
    refine J_aload_n hC dX3_readToken_46 rfl rfl ?_
    refine J_aload_n hC dX3_readToken_47 rfl rfl ?_
    refine gX3_31 hC hK dX3_readToken_48 ?_
    refine J_top hS1 ?_
    refine pX3_25 hC hK dX3_readToken_51 ?_
    refine J_aload_n hC dX3_readToken_54 rfl rfl ?_
    refine gX3_31 hC hK dX3_readToken_55 ?_
    refine J_top ((rd_wr_j (by decide)).trans hS1) ?_
    refine J_aload_n hC dX3_readToken_58 rfl rfl ?_
    refine gX3_19 hC hK dX3_readToken_59 ?_
    refine J_top (FrI_TX (FrT_I (FrT_wr hF1 (by decide))) hX).2.1 ?_
    refine J_icmp_lt_n hC (by omega) (by omega) (tgt := 73) dX3_readToken_62 rfl (fun b1 => ?_) (fun b1 => ?_)
    · refine J_aload_n hC dX3_readToken_73 rfl rfl ?_
      refine gX3_9 hC hK dX3_readToken_74 ?_
      refine J_aload_n hC dX3_readToken_77 rfl rfl ?_
      refine gX3_31 hC hK dX3_readToken_78 ?_
      refine J_top ((rd_wr_j (by decide)).trans hS1) ?_
      refine J_iaload hC (hK.1 6 (by decide)) rfl rfl (by omega) (by decide) dX3_readToken_81 ?_
      refine J_top (TXc_at (FrI_TX (FrT_I (FrT_wr hF1 (by decide))) hX) b1) ?_
      refine iX3_37 hC rfl ⟨by decide, by decide⟩ ⟨by decide, by decide⟩ (Nat.le_of_ble_eq_true rfl) dX3_readToken_82 ?_
      refine c_X3_isLetter (hX.1 _ b1).1 (fun b2 => ?_) (fun b2 => ?_)
      · dsimp only [Option.toList_some, Option.toList_none, List.cons_append, List.nil_append]
        refine J_if_eq_n hC (by decide) (tgt := 95) dX3_readToken_85 rfl (fun hf => absurd hf (by omega)) (fun _ => ?_)
        refine J_aload_n hC dX3_readToken_88 rfl rfl ?_
        refine iX3_41 hC hK rfl ⟨by decide, by decide⟩ ⟨by decide, by decide⟩ (Nat.le_of_ble_eq_true rfl) dX3_readToken_89 ?_
        refine c_X3_readWord hK (FrI_TX (FrT_I (FrT_wr hF1 (by decide))) hX) rd_wr_s (by omega) (fun σ2 hF2 h42 h52 h62 => ?_)
        dsimp only [Option.toList_some, Option.toList_none, List.cons_append, List.nil_append]
        refine J_goto (tgt := 150) hC dX3_readToken_92 rfl ?_
        refine J_return hC hR dX3_readToken_150 (by decide) (by decide) ?_
        exact hq _ (FrT_trans (FrT_wr hF1 (by decide)) hF2) ⟨by rw [kdT_1 b1 b2]; exact h42, h52.trans ((rd_wr_j (by decide)).trans hS1), by rw [endT_1 b1 b2]; exact h62, fun q => by rw [kdT_1 b1 b2] at q; omega⟩
      · dsimp only [Option.toList_some, Option.toList_none, List.cons_append, List.nil_append]
        refine J_if_eq_n hC (by decide) (tgt := 95) dX3_readToken_85 rfl (fun _ => ?_) (fun hf => absurd hf (by omega))
        refine J_aload_n hC dX3_readToken_95 rfl rfl ?_
        refine gX3_9 hC hK dX3_readToken_96 ?_
        refine J_aload_n hC dX3_readToken_99 rfl rfl ?_
        refine gX3_31 hC hK dX3_readToken_100 ?_
        refine J_top ((rd_wr_j (by decide)).trans hS1) ?_
        refine J_iaload hC (hK.1 6 (by decide)) rfl rfl (by omega) (by decide) dX3_readToken_103 ?_
        refine J_top (TXc_at (FrI_TX (FrT_I (FrT_wr hF1 (by decide))) hX) b1) ?_
        refine iX3_44 hC rfl ⟨by decide, by decide⟩ ⟨by decide, by decide⟩ (Nat.le_of_ble_eq_true rfl) dX3_readToken_104 ?_
        refine c_X3_isDigit (hX.1 _ b1).1 (fun b3 => ?_) (fun b3 => ?_)
        · dsimp only [Option.toList_some, Option.toList_none, List.cons_append, List.nil_append]
          refine J_if_eq_n hC (by decide) (tgt := 117) dX3_readToken_107 rfl (fun hf => absurd hf (by omega)) (fun _ => ?_)
          refine J_aload_n hC dX3_readToken_110 rfl rfl ?_
          refine iX3_47 hC hK rfl ⟨by decide, by decide⟩ ⟨by decide, by decide⟩ (Nat.le_of_ble_eq_true rfl) dX3_readToken_111 ?_
          refine c_X3_readNumber hK (FrI_TX (FrT_I (FrT_wr hF1 (by decide))) hX) rd_wr_s (by omega) (fun σ2 hF2 h42 h52 h62 h72 => ?_)
          dsimp only [Option.toList_some, Option.toList_none, List.cons_append, List.nil_append]
          refine J_goto (tgt := 150) hC dX3_readToken_114 rfl ?_
          refine J_return hC hR dX3_readToken_150 (by decide) (by decide) ?_
          exact hq _ (FrT_trans (FrT_wr hF1 (by decide)) hF2) ⟨by rw [kdT_2 b1 b2 b3]; exact h42, h52.trans ((rd_wr_j (by decide)).trans hS1), by rw [endT_2 b1 b2 b3]; exact h62, fun q => by unfold numT; rw [endT_2 b1 b2 b3]; exact h72⟩
        · dsimp only [Option.toList_some, Option.toList_none, List.cons_append, List.nil_append]
          refine J_if_eq_n hC (by decide) (tgt := 117) dX3_readToken_107 rfl (fun _ => ?_) (fun hf => absurd hf (by omega))
          refine J_aload_n hC dX3_readToken_117 rfl rfl ?_
          refine J_aload_n hC dX3_readToken_118 rfl rfl ?_
          refine gX3_9 hC hK dX3_readToken_119 ?_
          refine J_aload_n hC dX3_readToken_122 rfl rfl ?_
          refine gX3_31 hC hK dX3_readToken_123 ?_
          refine J_top ((rd_wr_j (by decide)).trans hS1) ?_
          refine J_iaload hC (hK.1 6 (by decide)) rfl rfl (by omega) (by decide) dX3_readToken_126 ?_
          refine J_top (TXc_at (FrI_TX (FrT_I (FrT_wr hF1 (by decide))) hX) b1) ?_
          refine J_bipush (v := nI 59) hC dX3_readToken_127 (by decide) ?_
          refine J_icmp_ne_n hC (by have := (hX.1 _ b1).1; omega) (by decide) (tgt := 136) dX3_readToken_129 rfl (fun b4 => ?_) (fun b4 => ?_)
          · refine J_iconst (v := nI 4) hC dX3_readToken_136 (by decide) ?_
            refine pX3_34 hC hK dX3_readToken_137 ?_
            refine J_aload_n hC dX3_readToken_140 rfl rfl ?_
            refine J_aload_n hC dX3_readToken_141 rfl rfl ?_
            refine gX3_31 hC hK dX3_readToken_142 ?_
            refine J_top ((rd_wr_j (by decide)).trans ((rd_wr_j (by decide)).trans hS1)) ?_
            refine J_iconst (v := nI 1) hC dX3_readToken_145 (by decide) ?_
            refine J_iadd_n hC dX3_readToken_146 ?_
            refine pX3_25 hC hK dX3_readToken_147 ?_
            refine J_return hC hR dX3_readToken_150 (by decide) (by decide) ?_
            exact hq _ (FrT_wr (FrT_wr (FrT_wr hF1 (by decide)) (by decide)) (by decide)) ⟨by rw [kdT_4 b1 b2 b3 b4]; exact (rd_wr_j (by decide)).trans rd_wr_s, (rd_wr_j (by decide)).trans ((rd_wr_j (by decide)).trans ((rd_wr_j (by decide)).trans hS1)), by rw [endT_3 b1 b2 b3]; exact rd_wr_s, fun q => by rw [kdT_4 b1 b2 b3 b4] at q; omega⟩
          · refine J_iconst (v := nI 3) hC dX3_readToken_132 (by decide) ?_
            refine J_goto (tgt := 137) hC dX3_readToken_133 rfl ?_
            refine pX3_34 hC hK dX3_readToken_137 ?_
            refine J_aload_n hC dX3_readToken_140 rfl rfl ?_
            refine J_aload_n hC dX3_readToken_141 rfl rfl ?_
            refine gX3_31 hC hK dX3_readToken_142 ?_
            refine J_top ((rd_wr_j (by decide)).trans ((rd_wr_j (by decide)).trans hS1)) ?_
            refine J_iconst (v := nI 1) hC dX3_readToken_145 (by decide) ?_
            refine J_iadd_n hC dX3_readToken_146 ?_
            refine pX3_25 hC hK dX3_readToken_147 ?_
            refine J_return hC hR dX3_readToken_150 (by decide) (by decide) ?_
            exact hq _ (FrT_wr (FrT_wr (FrT_wr hF1 (by decide)) (by decide)) (by decide)) ⟨by rw [kdT_3 b1 b4]; exact (rd_wr_j (by decide)).trans rd_wr_s, (rd_wr_j (by decide)).trans ((rd_wr_j (by decide)).trans ((rd_wr_j (by decide)).trans hS1)), by rw [endT_3 b1 b2 b3]; exact rd_wr_s, fun q => by rw [kdT_3 b1 b4] at q; omega⟩
    · refine J_aload_n hC dX3_readToken_65 rfl rfl ?_
      refine J_iconst (v := nI 0) hC dX3_readToken_66 (by decide) ?_
      refine pX3_34 hC hK dX3_readToken_67 ?_
      refine J_goto (tgt := 150) hC dX3_readToken_70 rfl ?_
      refine J_return hC hR dX3_readToken_150 (by decide) (by decide) ?_
      exact hq _ (FrT_wr (FrT_wr hF1 (by decide)) (by decide)) ⟨by rw [kdT_0 (by omega)]; exact rd_wr_s, (rd_wr_j (by decide)).trans ((rd_wr_j (by decide)).trans hS1), by rw [endT_0 (by omega)]; exact (rd_wr_j (by decide)).trans rd_wr_s, fun q => by rw [kdT_0 (by omega)] at q; omega⟩
  have lp : ∀ (dd : Nat) (b : Nat) (σ1 : Mem), L - b < dd → (b ≤ L) → (FrT σ σ1) → (rd σ1 12 5 5 = nI b) → (skip t L b = skip t L a) →  J G E w 0 0 8 [some (.ref (w.2.1 12 5))] [] σ1 := by
    intro dd
    induction dd with
    | zero =>
      intro b σ1 hdd
      exact absurd hdd (Nat.not_lt_zero _)
    | succ dd ih =>
      intro b σ1 hdd hbL hF1 h51 hr
      refine J_aload_n hC dX3_readToken_8 rfl rfl ?_
      refine gX3_31 hC hK dX3_readToken_9 ?_
      refine J_top h51 ?_
      refine J_aload_n hC dX3_readToken_12 rfl rfl ?_
      refine gX3_19 hC hK dX3_readToken_13 ?_
      refine J_top (FrI_TX (FrT_I hF1) hX).2.1 ?_
      refine J_icmp_ge_n hC (by omega) (by omega) (tgt := 46) dX3_readToken_16 rfl (fun b1 => ?_) (fun b1 => ?_)
      · exact j46 σ1 hF1 (by rw [← hr]; first | (rw [show skip t L b = b from run_end (fun q => absurd q.1 (by omega))]; exact h51) | (rw [show skip t L b = b from run_end (fun q => b2 q.2)]; exact h51))
      · refine J_aload_n hC dX3_readToken_19 rfl rfl ?_
        refine gX3_9 hC hK dX3_readToken_20 ?_
        refine J_aload_n hC dX3_readToken_23 rfl rfl ?_
        refine gX3_31 hC hK dX3_readToken_24 ?_
        refine J_top h51 ?_
        refine J_iaload hC (hK.1 6 (by decide)) rfl rfl (by omega) (by decide) dX3_readToken_27 ?_
        refine J_top (TXc_at (FrI_TX (FrT_I hF1) hX) b1) ?_
        refine J_bipush (v := nI 32) hC dX3_readToken_28 (by decide) ?_
        refine J_icmp_ne_n hC (by have := (hX.1 b b1).1; omega) (by decide) (tgt := 46) dX3_readToken_30 rfl (fun b2 => ?_) (fun b2 => ?_)
        · exact j46 σ1 hF1 (by rw [← hr]; first | (rw [show skip t L b = b from run_end (fun q => absurd q.1 (by omega))]; exact h51) | (rw [show skip t L b = b from run_end (fun q => b2 q.2)]; exact h51))
        · refine J_aload_n hC dX3_readToken_33 rfl rfl ?_
          refine J_dup hC dX3_readToken_34 rfl ?_
          refine gX3_31 hC hK dX3_readToken_35 ?_
          refine J_top h51 ?_
          refine J_iconst (v := nI 1) hC dX3_readToken_38 (by decide) ?_
          refine J_iadd_n hC dX3_readToken_39 ?_
          refine pX3_31 hC hK dX3_readToken_40 ?_
          refine J_goto (tgt := 8) hC dX3_readToken_43 rfl ?_
          exact ih (b + 1) _ (by omega) (by omega) (FrT_wr hF1 (by decide)) rd_wr_s ((run_go (P := spac) b1 b2).symm.trans hr)
  refine J_aload_n hC dX3_readToken_0 rfl rfl ?_
  refine J_aload_n hC dX3_readToken_1 rfl rfl ?_
  refine gX3_25 hC hK dX3_readToken_2 ?_
  refine J_top ha ?_
  refine pX3_31 hC hK dX3_readToken_5 ?_
  exact lp (L + 1) a _ (by omega) haL (FrT_wr FrT_refl (by decide)) rd_wr_s rfl
set_option maxHeartbeats 4000000 in
set_option maxRecDepth 100000 in
theorem c_X3_hasFault {G : GC} {w : Lay} {σ : Mem} {Q : Lay → Option Value → Mem → Prop} {Qx : Lay → String → Mem → Prop} (hK : LK w) {c : Nat} (hc : rd σ 12 5 2 = nI c) (hc31 : c < 2 ^ 31) (ht : c ≠ 0 → Q w (some (.int (nI 1))) σ) (hf : ¬ c ≠ 0 → Q w (some (.int (nI 0))) σ) : MX3_hasFault G w σ [.ref (w.2.1 12 5)] Q Qx := by
  refine mt_start (by decide) rfl (Nat.le_of_ble_eq_true rfl) (fun E hC hR hN => ?_)
  show J G E w 0 0 0 [some (.ref (w.2.1 12 5))] [] σ
  refine J_aload_n hC dX3_hasFault_0 rfl rfl ?_
  refine gX3_22 hC hK dX3_hasFault_1 ?_
  refine J_top hc ?_
  refine J_if_eq_n hC (by omega) (tgt := 11) dX3_hasFault_4 rfl (fun b1 => ?_) (fun b1 => ?_)
  · refine J_iconst (v := nI 0) hC dX3_hasFault_11 (by decide) ?_
    refine J_zreturn hC hR dX3_hasFault_12 (by decide) (by decide) (by decide) ?_
    exact hf (fun q => q b1)
  · refine J_iconst (v := nI 1) hC dX3_hasFault_7 (by decide) ?_
    refine J_goto (tgt := 12) hC dX3_hasFault_8 rfl ?_
    refine J_zreturn hC hR dX3_hasFault_12 (by decide) (by decide) (by decide) ?_
    exact ht b1
set_option maxHeartbeats 4000000 in
set_option maxRecDepth 100000 in
theorem c_X3_fail {G : GC} {w : Lay} {σ : Mem} {Q : Lay → Option Value → Mem → Prop} {Qx : Lay → String → Mem → Prop} (hK : LK w) {t : Nat → Nat} {L : Nat} (hX : TXc σ t L) {s : Flt ⊕ Nat} (hS : StC σ t L s) {c : Nat} (hc1 : 1 ≤ c) (hc3 : c ≤ 3) (hq : ∀ σ', FrI σ σ' → StC σ' t L (sFail t L c s) → Q w none σ') : MX3_fail G w σ [.ref (w.2.1 12 5), .int (nI c)] Q Qx := by
  refine mt_start (by decide) rfl (Nat.le_of_ble_eq_true rfl) (fun E hC hR hN => ?_)
  show J G E w 0 0 0 [some (.ref (w.2.1 12 5)), some (.int (nI c))] [] σ
  cases s with
  | inl e =>
    refine J_aload_n hC dX3_fail_0 rfl rfl ?_
    refine gX3_22 hC hK dX3_fail_1 ?_
    refine J_top hS.1 ?_
    refine J_if_ne_n hC (by have := hS.2.2.2.1; omega) (tgt := 20) dX3_fail_4 rfl (fun b1 => ?_) (fun b1 => ?_)
    · refine J_return hC hR dX3_fail_20 (by decide) (by decide) ?_
      exact hq σ FrI_refl hS
    · exact absurd b1 (by have := hS.2.2.1; omega)
  | inr a =>
    refine J_aload_n hC dX3_fail_0 rfl rfl ?_
    refine gX3_22 hC hK dX3_fail_1 ?_
    refine J_top hS.2.1 ?_
    refine J_if_ne_n hC (by decide) (tgt := 20) dX3_fail_4 rfl (fun hf => absurd hf (by omega)) (fun _ => ?_)
    refine J_aload_n hC dX3_fail_7 rfl rfl ?_
    refine J_iload_n hC dX3_fail_8 rfl rfl ?_
    refine pX3_22 hC hK dX3_fail_9 ?_
    refine J_aload_n hC dX3_fail_12 rfl rfl ?_
    refine J_aload_n hC dX3_fail_13 rfl rfl ?_
    refine gX3_31 hC hK dX3_fail_14 ?_
    refine J_top ((rd_wr_j (by decide)).trans hS.2.2.2.2.1) ?_
    refine pX3_15 hC hK dX3_fail_17 ?_
    refine J_return hC hR dX3_fail_20 (by decide) (by decide) ?_
    exact hq _ (FrI_wr (FrI_wr FrI_refl (by decide)) (by decide)) ⟨(rd_wr_j (by decide)).trans rd_wr_s, rd_wr_s, hc1, hc3, (skip_500 hX.2.2 hS.1).2.1⟩
set_option maxHeartbeats 4000000 in
set_option maxRecDepth 100000 in
theorem c_X3_isAtEnd {G : GC} {w : Lay} {σ : Mem} {Q : Lay → Option Value → Mem → Prop} {Qx : Lay → String → Mem → Prop} (hK : LK w) {t : Nat → Nat} {L : Nat} (hX : TXc σ t L) {s : Flt ⊕ Nat} (hS : StC σ t L s)  (ht : atE t L s → Q w (some (.int (nI 1))) σ) (hf : ¬ atE t L s → Q w (some (.int (nI 0))) σ) : MX3_isAtEnd G w σ [.ref (w.2.1 12 5)] Q Qx := by
  refine mt_start (by decide) rfl (Nat.le_of_ble_eq_true rfl) (fun E hC hR hN => ?_)
  show J G E w 0 0 0 [some (.ref (w.2.1 12 5))] [] σ
  cases s with
  | inl e =>
    refine J_aload_n hC dX3_isAtEnd_0 rfl rfl ?_
    refine iX3_60 hC hK rfl ⟨by decide, by decide⟩ ⟨by decide, by decide⟩ (Nat.le_of_ble_eq_true rfl) dX3_isAtEnd_1 ?_
    refine c_X3_hasFault hK hS.1 (by have := hS.2.2.2.1; omega) (fun hb0 => ?_) (fun hb0 => ?_)
    · dsimp only [Option.toList_some, Option.toList_none, List.cons_append, List.nil_append]
      refine J_if_ne_n hC (by decide) (tgt := 14) dX3_isAtEnd_4 rfl (fun _ => ?_) (fun hf => absurd hf (by omega))
      refine J_iconst (v := nI 1) hC dX3_isAtEnd_14 (by decide) ?_
      refine J_goto (tgt := 19) hC dX3_isAtEnd_15 rfl ?_
      refine J_zreturn hC hR dX3_isAtEnd_19 (by decide) (by decide) (by decide) ?_
      exact ht (Or.inl ⟨e, rfl⟩)
    · exact absurd hb0 (by have := hS.2.2.1; omega)
  | inr a =>
    refine J_aload_n hC dX3_isAtEnd_0 rfl rfl ?_
    refine iX3_60 hC hK rfl ⟨by decide, by decide⟩ ⟨by decide, by decide⟩ (Nat.le_of_ble_eq_true rfl) dX3_isAtEnd_1 ?_
    refine c_X3_hasFault hK hS.2.1 (by decide) (fun hb0 => ?_) (fun hb0 => ?_)
    · exact absurd rfl hb0
    · dsimp only [Option.toList_some, Option.toList_none, List.cons_append, List.nil_append]
      refine J_if_ne_n hC (by decide) (tgt := 14) dX3_isAtEnd_4 rfl (fun hf => absurd hf (by omega)) (fun _ => ?_)
      refine J_aload_n hC dX3_isAtEnd_7 rfl rfl ?_
      refine gX3_34 hC hK dX3_isAtEnd_8 ?_
      have hk4 := kdT_le (t := t) (L := L) (p := skip t L a)
      refine J_top hS.2.2.2.1 ?_
      refine J_if_ne_n hC (by omega) (tgt := 18) dX3_isAtEnd_11 rfl (fun b1 => ?_) (fun b1 => ?_)
      · refine J_iconst (v := nI 0) hC dX3_isAtEnd_18 (by decide) ?_
        refine J_zreturn hC hR dX3_isAtEnd_19 (by decide) (by decide) (by decide) ?_
        exact hf (fun q => by
          rcases q with ⟨e, h⟩ | ⟨b, h, h2⟩
          · cases h
          · cases h; exact b1 h2)
      · refine J_iconst (v := nI 1) hC dX3_isAtEnd_14 (by decide) ?_
        refine J_goto (tgt := 19) hC dX3_isAtEnd_15 rfl ?_
        refine J_zreturn hC hR dX3_isAtEnd_19 (by decide) (by decide) (by decide) ?_
        exact ht (Or.inr ⟨a, rfl, b1⟩)
set_option maxHeartbeats 4000000 in
set_option maxRecDepth 100000 in
theorem c_X3_isAtNumber {G : GC} {w : Lay} {σ : Mem} {Q : Lay → Option Value → Mem → Prop} {Qx : Lay → String → Mem → Prop} (hK : LK w) {t : Nat → Nat} {L : Nat} (hX : TXc σ t L) {s : Flt ⊕ Nat} (hS : StC σ t L s)  (ht : atN t L s → Q w (some (.int (nI 1))) σ) (hf : ¬ atN t L s → Q w (some (.int (nI 0))) σ) : MX3_isAtNumber G w σ [.ref (w.2.1 12 5)] Q Qx := by
  refine mt_start (by decide) rfl (Nat.le_of_ble_eq_true rfl) (fun E hC hR hN => ?_)
  show J G E w 0 0 0 [some (.ref (w.2.1 12 5))] [] σ
  cases s with
  | inl e =>
    refine J_aload_n hC dX3_isAtNumber_0 rfl rfl ?_
    refine iX3_60 hC hK rfl ⟨by decide, by decide⟩ ⟨by decide, by decide⟩ (Nat.le_of_ble_eq_true rfl) dX3_isAtNumber_1 ?_
    refine c_X3_hasFault hK hS.1 (by have := hS.2.2.2.1; omega) (fun hb0 => ?_) (fun hb0 => ?_)
    · dsimp only [Option.toList_some, Option.toList_none, List.cons_append, List.nil_append]
      refine J_if_ne_n hC (by decide) (tgt := 19) dX3_isAtNumber_4 rfl (fun _ => ?_) (fun hf => absurd hf (by omega))
      refine J_iconst (v := nI 0) hC dX3_isAtNumber_19 (by decide) ?_
      refine J_zreturn hC hR dX3_isAtNumber_20 (by decide) (by decide) (by decide) ?_
      exact hf (fun ⟨b, h, _⟩ => by cases h)
    · exact absurd hb0 (by have := hS.2.2.1; omega)
  | inr a =>
    refine J_aload_n hC dX3_isAtNumber_0 rfl rfl ?_
    refine iX3_60 hC hK rfl ⟨by decide, by decide⟩ ⟨by decide, by decide⟩ (Nat.le_of_ble_eq_true rfl) dX3_isAtNumber_1 ?_
    refine c_X3_hasFault hK hS.2.1 (by decide) (fun hb0 => ?_) (fun hb0 => ?_)
    · exact absurd rfl hb0
    · dsimp only [Option.toList_some, Option.toList_none, List.cons_append, List.nil_append]
      refine J_if_ne_n hC (by decide) (tgt := 19) dX3_isAtNumber_4 rfl (fun hf => absurd hf (by omega)) (fun _ => ?_)
      refine J_aload_n hC dX3_isAtNumber_7 rfl rfl ?_
      refine gX3_34 hC hK dX3_isAtNumber_8 ?_
      have hk4 := kdT_le (t := t) (L := L) (p := skip t L a)
      refine J_top hS.2.2.2.1 ?_
      refine J_iconst (v := nI 2) hC dX3_isAtNumber_11 (by decide) ?_
      refine J_icmp_ne_n hC (by omega) (by decide) (tgt := 19) dX3_isAtNumber_12 rfl (fun b1 => ?_) (fun b1 => ?_)
      · refine J_iconst (v := nI 0) hC dX3_isAtNumber_19 (by decide) ?_
        refine J_zreturn hC hR dX3_isAtNumber_20 (by decide) (by decide) (by decide) ?_
        exact hf (fun ⟨b, h, h2⟩ => by cases h; exact b1 h2)
      · refine J_iconst (v := nI 1) hC dX3_isAtNumber_15 (by decide) ?_
        refine J_goto (tgt := 20) hC dX3_isAtNumber_16 rfl ?_
        refine J_zreturn hC hR dX3_isAtNumber_20 (by decide) (by decide) (by decide) ?_
        exact ht ⟨a, rfl, b1⟩
