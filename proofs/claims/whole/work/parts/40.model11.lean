set_option maxHeartbeats 4000000 in
set_option maxRecDepth 100000 in
theorem c_X10_right {G : GC} {w : Lay} {σ : Mem} {Q : Lay → Option Value → Mem → Prop} {Qx : Lay → String → Mem → Prop} (hM : LM w) (hq : Q w none (wr (wr σ 13 0 7 (nI 0)) 13 0 8 (-1))) : MX10_right G w σ [.ref (w.2.1 13 0)] Q Qx := by
  refine mt_start (by decide) rfl (Nat.le_of_ble_eq_true rfl) (fun E hC hR hN => ?_)
  show J G E w 0 0 0 [some (.ref (w.2.1 13 0))] [] σ
  refine J_aload_n hC dX10_right_0 rfl rfl ?_
  refine J_iconst (v := nI 0) hC dX10_right_1 (by decide) ?_
  refine pX10_207 hC hM dX10_right_2 ?_
  refine J_aload_n hC dX10_right_5 rfl rfl ?_
  refine J_iconst (v := -1) hC dX10_right_6 (by decide) ?_
  refine pX10_24 hC hM dX10_right_7 ?_
  refine J_return hC hR dX10_right_10 (by decide) (by decide) ?_
  exact hq
set_option maxHeartbeats 4000000 in
set_option maxRecDepth 100000 in
theorem c_X10_wrong {G : GC} {w : Lay} {σ : Mem} {Q : Lay → Option Value → Mem → Prop} {Qx : Lay → String → Mem → Prop} (hM : LM w) {c p : Nat} (h17 : rd σ 13 0 17 = nI p) (hq : ∀ σ' : Mem, PE σ σ' (c, p) → Q w (some (.int (nI 0))) σ') : MX10_wrong G w σ [.ref (w.2.1 13 0), .int (nI c)] Q Qx := by
  refine mt_start (by decide) rfl (Nat.le_of_ble_eq_true rfl) (fun E hC hR hN => ?_)
  show J G E w 0 0 0 [some (.ref (w.2.1 13 0)), some (.int (nI c))] [] σ
  refine J_aload_n hC dX10_wrong_0 rfl rfl ?_
  refine J_iload_n hC dX10_wrong_1 rfl rfl ?_
  refine pX10_207 hC hM dX10_wrong_2 ?_
  refine J_aload_n hC dX10_wrong_5 rfl rfl ?_
  refine J_aload_n hC dX10_wrong_6 rfl rfl ?_
  refine gX10_182 hC hM dX10_wrong_7 ?_
  refine J_top (show _ = nI p from (rd_wr_j (by decide)).trans h17) ?_
  refine pX10_24 hC hM dX10_wrong_10 ?_
  refine J_iconst (v := nI 0) hC dX10_wrong_13 (by decide) ?_
  refine J_zreturn hC hR dX10_wrong_14 (by decide) (by decide) (by decide) ?_
  refine hq _ ⟨fun o d j h => ?_, fun _ _ => rfl, (rd_wr_j (by decide)).trans rd_wr_s, rd_wr_s⟩
  unfold PEx at h
  rw [rd_wr, if_neg (by omega), rd_wr, if_neg (by omega)]
set_option maxHeartbeats 4000000 in
set_option maxRecDepth 100000 in
theorem c_X10_isWord {G : GC} {w : Lay} {σ : Mem} {Q : Lay → Option Value → Mem → Prop} {Qx : Lay → String → Mem → Prop} (hM : LM w) {W : List Nat} {c : Int64} (hW : okW W c) {t : Nat → Nat} {L p : Nat} (hL5 : L ≤ 500) (hpL : p ≤ L) (hc : curR σ t L p) (ht : wordT W t L p → Q w (some (.int (nI 1))) σ) (hf : ¬ wordT W t L p → Q w (some (.int (nI 0))) σ) : MX10_isWord G w σ [.ref (w.2.1 13 0), .long c] Q Qx := by
  refine mt_start (by decide) rfl (Nat.le_of_ble_eq_true rfl) (fun E hC hR hN => ?_)
  show J G E w 0 0 0 [some (.ref (w.2.1 13 0)), some (.long c), none] [] σ
  obtain ⟨c17, c18, c16, -, cc⟩ := hc
  have he := endT_le (t := t) hpL
  have hk4 : kdT t L p ≤ 4 := kdT_le
  refine J_aload_n hC dX10_isWord_0 rfl rfl ?_
  refine gX10_185 hC hM dX10_isWord_1 ?_
  refine J_top c18 ?_
  refine J_iconst (v := nI 1) hC dX10_isWord_4 (by decide) ?_
  refine J_icmp_ne_n hC (by omega) (by decide) (tgt := 35) dX10_isWord_5 rfl (fun b1 => ?_) (fun b1 => ?_)
  · refine J_iconst (v := nI 0) hC dX10_isWord_35 (by decide) ?_
    refine J_zreturn hC hR dX10_isWord_36 (by decide) (by decide) (by decide) ?_
    exact hf (fun q => b1 q.1)
  · refine J_aload_n hC dX10_isWord_8 rfl rfl ?_
    refine gX10_176 hC hM dX10_isWord_9 ?_
    refine J_top c16 ?_
    refine J_aload_n hC dX10_isWord_12 rfl rfl ?_
    refine gX10_182 hC hM dX10_isWord_13 ?_
    refine J_top c17 ?_
    refine J_isub_n hC (by omega) dX10_isWord_16 ?_
    refine J_bipush (v := nI 8) hC dX10_isWord_17 (by decide) ?_
    refine J_icmp_ge_n hC (by omega) (by decide) (tgt := 35) dX10_isWord_19 rfl (fun b2 => ?_) (fun b2 => ?_)
    · refine J_iconst (v := nI 0) hC dX10_isWord_35 (by decide) ?_
      refine J_zreturn hC hR dX10_isWord_36 (by decide) (by decide) (by decide) ?_
      exact hf (fun q => absurd q.2.1 (by have := hW.1; omega))
    · refine J_aload_n hC dX10_isWord_22 rfl rfl ?_
      refine gX10_192 hC hM dX10_isWord_23 ?_
      rw [cc b1]
      refine J_lload_n hC dX10_isWord_26 rfl rfl ?_
      refine J_lcmp hC dX10_isWord_27 ?_
      refine J_if_ne hC (tgt := 35) dX10_isWord_28 rfl (fun b3 => ?_) (fun b3 => ?_)
      · refine J_iconst (v := nI 0) hC dX10_isWord_35 (by decide) ?_
        refine J_zreturn hC hR dX10_isWord_36 (by decide) (by decide) (by decide) ?_
        exact hf (fun q => b3 (lg_cmp_0.mpr ((word_code hW b1 b2).mpr q)))
      · refine J_iconst (v := nI 1) hC dX10_isWord_31 (by decide) ?_
        refine J_goto (tgt := 36) hC dX10_isWord_32 rfl ?_
        refine J_zreturn hC hR dX10_isWord_36 (by decide) (by decide) (by decide) ?_
        exact ht ((word_code hW b1 b2).mp (lg_cmp_0.mp b3))
set_option maxHeartbeats 4000000 in
set_option maxRecDepth 100000 in
theorem c_X10_numeral {G : GC} {w : Lay} {σ : Mem} {Q : Lay → Option Value → Mem → Prop} {Qx : Lay → String → Mem → Prop} (hM : LM w) {t : Nat → Nat} {L a : Nat} (hX : TX σ t L) (ha : atR σ a) (ha0 : a ≤ L) {lo hi : Nat} (hlo : lo < 2 ^ 31) (hhi : hi ≤ 999999) (hok : ∀ (σ' : Mem) (a' v : Nat), pNum t L lo hi a = .inr (a', v) → PF σ σ' → atR σ' a' → a' ≤ L → rd σ' 13 0 19 = nI v → lo ≤ v → v ≤ hi → Q w (some (.int (nI 1))) σ') (hf : ∀ (σ' : Mem) (e : Nat × Nat), pNum t L lo hi a = .inl e → PE σ σ' e → Q w (some (.int (nI 0))) σ') : MX10_numeral G w σ [.ref (w.2.1 13 0), .int (nI lo), .int (nI hi)] Q Qx := by
  refine mt_start (by decide) rfl (Nat.le_of_ble_eq_true rfl) (fun E hC hR hN => ?_)
  show J G E w 0 0 0 [some (.ref (w.2.1 13 0)), some (.int (nI lo)), some (.int (nI hi))] [] σ
  refine J_aload_n hC dX10_numeral_0 rfl rfl ?_
  refine iX10_210 hC hM rfl ⟨by decide, by decide⟩ ⟨by decide, by decide⟩ (Nat.le_of_ble_eq_true rfl) dX10_numeral_1 ?_
  refine c_X10_next hM hX ha ha0 (fun τ hP hc => ?_)
  dsimp only [Option.toList_some, Option.toList_none, List.cons_append, List.nil_append]
  obtain ⟨c17, c18, c16, c19, -⟩ := hc
  have hs := skip_le (t := t) ha0
  have he := endT_le (t := t) hs.2
  have hk4 : kdT t L (skip t L a) ≤ 4 := kdT_le
  have hL5 := hX.2.2
  refine J_aload_n hC dX10_numeral_4 rfl rfl ?_
  refine gX10_185 hC hM dX10_numeral_5 ?_
  refine J_top c18 ?_
  refine J_iconst (v := nI 2) hC dX10_numeral_8 (by decide) ?_
  refine J_icmp_eq_n hC (by omega) (by decide) (tgt := 18) dX10_numeral_9 rfl (fun b1 => ?_) (fun b1 => ?_)
  · refine J_aload_n hC dX10_numeral_18 rfl rfl ?_
    refine gX10_203 hC hM dX10_numeral_19 ?_
    have hv := val_le 10000000 t (skip t L a) (endT t L (skip t L a) - (skip t L a))
    have hm := val_min (t := t) (p := (skip t L a)) (endT t L (skip t L a) - (skip t L a))
    have hnT : numT t L (skip t L a) = val 1000000 t (skip t L a) (endT t L (skip t L a) - (skip t L a)) := rfl
    refine J_top (c19 b1) ?_
    refine J_iload_n hC dX10_numeral_22 rfl rfl ?_
    refine J_iload_n hC dX10_numeral_23 rfl rfl ?_
    refine iX10_75 hC rfl ⟨by decide, by decide⟩ ⟨by decide, by decide⟩ (Nat.le_of_ble_eq_true rfl) dX10_numeral_24 ?_
    refine k_in (by omega) hlo (fun b2 => ?_) (fun b2 => ?_)
    · dsimp only [Option.toList_some, Option.toList_none, List.cons_append, List.nil_append]
      obtain ⟨k, ek, k1, k2⟩ := b2
      have ek2 := congrArg cl ek
      rw [cl_n (by omega), cl_n (by omega)] at ek2
      have gN : val 10000000 t (skip t L a) (endT t L (skip t L a) - (skip t L a)) = numT t L (skip t L a) := by omega
      have gok : lo ≤ numT t L (skip t L a) ∧ numT t L (skip t L a) ≤ hi := by omega
      refine J_if_ne_n hC (by decide) (tgt := 38) dX10_numeral_27 rfl (fun _ => ?_) (fun hf => absurd hf (by omega))
      refine J_iconst (v := nI 1) hC dX10_numeral_38 (by decide) ?_
      refine J_goto (tgt := 43) hC dX10_numeral_39 rfl ?_
      refine J_zreturn hC hR dX10_numeral_43 (by decide) (by decide) (by decide) ?_
      exact hok τ _ _ (pNum_3 b1 gok) hP c16 he.2 (by rw [c19 b1]; exact congrArg nI gN) gok.1 gok.2
    · dsimp only [Option.toList_some, Option.toList_none, List.cons_append, List.nil_append]
      have gno : ¬ (lo ≤ numT t L (skip t L a) ∧ numT t L (skip t L a) ≤ hi) := fun q => b2 ⟨val 10000000 t (skip t L a) (endT t L (skip t L a) - (skip t L a)), rfl, by omega, by omega⟩
      refine J_if_ne_n hC (by decide) (tgt := 38) dX10_numeral_27 rfl (fun hf => absurd hf (by omega)) (fun _ => ?_)
      refine J_aload_n hC dX10_numeral_30 rfl rfl ?_
      refine J_iconst (v := nI 2) hC dX10_numeral_31 (by decide) ?_
      refine iX10_213 hC hM rfl ⟨by decide, by decide⟩ ⟨by decide, by decide⟩ (Nat.le_of_ble_eq_true rfl) dX10_numeral_32 ?_
      refine c_X10_wrong hM (c := 2) c17 (fun υ hE => ?_)
      dsimp only [Option.toList_some, Option.toList_none, List.cons_append, List.nil_append]
      refine J_if_eq_n hC (by decide) (tgt := 42) dX10_numeral_35 rfl (fun _ => ?_) (fun hf => absurd hf (by omega))
      refine J_iconst (v := nI 0) hC dX10_numeral_42 (by decide) ?_
      refine J_zreturn hC hR dX10_numeral_43 (by decide) (by decide) (by decide) ?_
      first
      | omega
      | exact hf _ _ (pNum_2 b1 gno) (PE_tr (PG_of hP) hE)
  · refine J_aload_n hC dX10_numeral_12 rfl rfl ?_
    refine J_iconst (v := nI 1) hC dX10_numeral_13 (by decide) ?_
    refine iX10_213 hC hM rfl ⟨by decide, by decide⟩ ⟨by decide, by decide⟩ (Nat.le_of_ble_eq_true rfl) dX10_numeral_14 ?_
    refine c_X10_wrong hM (c := 1) c17 (fun υ hE => ?_)
    dsimp only [Option.toList_some, Option.toList_none, List.cons_append, List.nil_append]
    refine J_zreturn hC hR dX10_numeral_17 (by decide) (by decide) (by decide) ?_
    exact hf _ _ (pNum_1 b1) (PE_tr (PG_of hP) hE)
set_option maxHeartbeats 4000000 in
set_option maxRecDepth 100000 in
theorem c_X10_ends {G : GC} {w : Lay} {σ : Mem} {Q : Lay → Option Value → Mem → Prop} {Qx : Lay → String → Mem → Prop} (hM : LM w) {t : Nat → Nat} {L a : Nat} (hX : TX σ t L) (ha : atR σ a) (ha0 : a ≤ L) (hok : ∀ (σ' : Mem) (a' : Nat), pEnd t L a = .inr a' → PF σ σ' → atR σ' a' → a' ≤ L → Q w (some (.int (nI 1))) σ') (hf : ∀ (σ' : Mem) (e : Nat × Nat), pEnd t L a = .inl e → PE σ σ' e → Q w (some (.int (nI 0))) σ') : MX10_ends G w σ [.ref (w.2.1 13 0)] Q Qx := by
  refine mt_start (by decide) rfl (Nat.le_of_ble_eq_true rfl) (fun E hC hR hN => ?_)
  show J G E w 0 0 0 [some (.ref (w.2.1 13 0))] [] σ
  refine J_aload_n hC dX10_ends_0 rfl rfl ?_
  refine iX10_210 hC hM rfl ⟨by decide, by decide⟩ ⟨by decide, by decide⟩ (Nat.le_of_ble_eq_true rfl) dX10_ends_1 ?_
  refine c_X10_next hM hX ha ha0 (fun τ hP hc => ?_)
  dsimp only [Option.toList_some, Option.toList_none, List.cons_append, List.nil_append]
  obtain ⟨c17, c18, c16, c19, -⟩ := hc
  have hs := skip_le (t := t) ha0
  have he := endT_le (t := t) hs.2
  have hk4 : kdT t L (skip t L a) ≤ 4 := kdT_le
  have hL5 := hX.2.2
  refine J_aload_n hC dX10_ends_4 rfl rfl ?_
  refine gX10_185 hC hM dX10_ends_5 ?_
  refine J_top c18 ?_
  refine J_iconst (v := nI 3) hC dX10_ends_8 (by decide) ?_
  refine J_icmp_eq_n hC (by omega) (by decide) (tgt := 20) dX10_ends_9 rfl (fun b1 => ?_) (fun b1 => ?_)
  · refine J_iconst (v := nI 1) hC dX10_ends_20 (by decide) ?_
    refine J_goto (tgt := 25) hC dX10_ends_21 rfl ?_
    refine J_zreturn hC hR dX10_ends_25 (by decide) (by decide) (by decide) ?_
    exact hok τ _ (pEnd_2 b1) hP c16 he.2
  · refine J_aload_n hC dX10_ends_12 rfl rfl ?_
    refine J_iconst (v := nI 1) hC dX10_ends_13 (by decide) ?_
    refine iX10_213 hC hM rfl ⟨by decide, by decide⟩ ⟨by decide, by decide⟩ (Nat.le_of_ble_eq_true rfl) dX10_ends_14 ?_
    refine c_X10_wrong hM (c := 1) c17 (fun υ hE => ?_)
    dsimp only [Option.toList_some, Option.toList_none, List.cons_append, List.nil_append]
    refine J_if_eq_n hC (by decide) (tgt := 24) dX10_ends_17 rfl (fun _ => ?_) (fun hf => absurd hf (by omega))
    refine J_iconst (v := nI 0) hC dX10_ends_24 (by decide) ?_
    refine J_zreturn hC hR dX10_ends_25 (by decide) (by decide) (by decide) ?_
    first
    | omega
    | exact hf _ _ (pEnd_1 b1) (PE_tr (PG_of hP) hE)
