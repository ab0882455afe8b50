set_option maxHeartbeats 4000000 in
set_option maxRecDepth 100000 in
theorem c_X10_loadSetup {G : GC} {w : Lay} {σ : Mem} {Q : Lay → Option Value → Mem → Prop} {Qx : Lay → String → Mem → Prop} (hM : LM w) {t : Nat → Nat} {L : Nat} (hX : TX σ t L) {f u : Nat} (hr : ringOK σ f u) (hok : ∀ (σ' : Mem) (A' : Rw), pSetup t L (clr0 (rd σ 13 1)) = .inr A' → RowOK 0 A' → LSok σ σ' A' f u → Q w (some (.int (nI (nv A' 6)))) σ') (hf : ∀ (σ' : Mem) (e : Nat × Nat), pSetup t L (clr0 (rd σ 13 1)) = .inl e → LSno σ σ' e f u → Q w (some (.int (nI 0))) σ') : MX10_loadSetup G w σ [.ref (w.2.1 13 0)] Q Qx := by
  refine mt_start (by decide) rfl (Nat.le_of_ble_eq_true rfl) (fun E hC hR hN => ?_)
  show J G E w 0 0 0 [some (.ref (w.2.1 13 0)), none] [] σ
  refine J_aload_n hC dX10_loadSetup_0 rfl rfl ?_
  refine J_iconst (v := nI 0) hC dX10_loadSetup_1 (by decide) ?_
  refine pX10_62 hC hM dX10_loadSetup_2 ?_
  show J G E w 0 0 5 _ _ (thr σ 0)
  refine J_aload_n hC dX10_loadSetup_5 rfl rfl ?_
  refine J_bipush (v := nI 11) hC dX10_loadSetup_6 (by decide) ?_
  refine iX10_71 hC hM rfl ⟨by decide, by decide⟩ ⟨by decide, by decide⟩ (Nat.le_of_ble_eq_true rfl) dX10_loadSetup_8 ?_
  refine c_X10_put hM (by decide) ?_
  dsimp only [Option.toList_some, Option.toList_none, List.cons_append, List.nil_append]
  refine J_aload_n hC dX10_loadSetup_11 rfl rfl ?_
  refine J_iconst (v := nI 0) hC dX10_loadSetup_12 (by decide) ?_
  refine pX10_176 hC hM dX10_loadSetup_13 ?_
  have hX1 : TX (wr (putP (thr σ 0) 11 304) 13 0 16 (nI 0)) t L := ⟨fun j hj => ⟨(hX.1 j hj).1, by rw [rd_wr_c (by decide), rd_putP (by decide)]; exact (rd_wr_c (by decide)).trans (hX.1 j hj).2⟩, by rw [rd_wr_j (by decide), rd_putP (by decide)]; exact (rd_wr_j (by decide)).trans hX.2.1, hX.2.2⟩
  have hR1 : rd (wr (putP (thr σ 0) 11 304) 13 0 16 (nI 0)) 13 1 = rd σ 13 1 := by rw [rd_wr_cell (by decide), putP_rd1]; exact rd_thr1
  refine J_aload_n hC dX10_loadSetup_16 rfl rfl ?_
  refine iX10_314 hC hM rfl ⟨by decide, by decide⟩ ⟨by decide, by decide⟩ (Nat.le_of_ble_eq_true rfl) dX10_loadSetup_17 ?_
  refine c_X10_setup hM hX1 rd_wr_s (fun τ => ?_) (fun τ => ?_)
  · dsimp only [Option.toList_some, Option.toList_none, List.cons_append, List.nil_append]
    rw [hR1]
    intro A2 e1 hG hA2
    have hq := load_ok hr hG
    have hN := r_NK hA2
    refine J_istore_n hC dX10_loadSetup_20 rfl (Nat.le_of_ble_eq_true rfl) rfl ?_
    dsimp only [List.set]
    refine J_aload_n hC dX10_loadSetup_21 rfl rfl ?_
    refine J_iconst (v := nI 0) hC dX10_loadSetup_22 (by decide) ?_
    refine pX10_179 hC hM dX10_loadSetup_23 ?_
    refine J_iload_n hC dX10_loadSetup_26 rfl rfl ?_
    refine J_if_ne_n hC (by decide) (tgt := 42) dX10_loadSetup_27 rfl (fun _ => ?_) (fun hf => absurd hf (by omega))
    refine J_aload_n hC dX10_loadSetup_42 rfl rfl ?_
    refine J_bipush (v := nI 10) hC dX10_loadSetup_43 (by decide) ?_
    refine iX10_71 hC hM rfl ⟨by decide, by decide⟩ ⟨by decide, by decide⟩ (Nat.le_of_ble_eq_true rfl) dX10_loadSetup_45 ?_
    refine c_X10_put hM (by decide) ?_
    dsimp only [Option.toList_some, Option.toList_none, List.cons_append, List.nil_append]
    refine J_aload_n hC dX10_loadSetup_48 rfl rfl ?_
    refine J_bipush (v := nI 11) hC dX10_loadSetup_49 (by decide) ?_
    refine iX10_317 hC hM rfl ⟨by decide, by decide⟩ ⟨by decide, by decide⟩ (Nat.le_of_ble_eq_true rfl) dX10_loadSetup_51 ?_
    refine c_X10_take hM (by decide) ?_
    dsimp only [Option.toList_some, Option.toList_none, List.cons_append, List.nil_append]
    refine J_aload_n hC dX10_loadSetup_54 rfl rfl ?_
    refine iX10_320 hC hM rfl ⟨by decide, by decide⟩ ⟨by decide, by decide⟩ (Nat.le_of_ble_eq_true rfl) dX10_loadSetup_55 ?_
    refine c_X10_act hM hq.1 ?_
    dsimp only [Option.toList_some, Option.toList_none, List.cons_append, List.nil_append]
    refine J_aload_n hC dX10_loadSetup_58 rfl rfl ?_
    refine J_bipush (v := nI 10) hC dX10_loadSetup_59 (by decide) ?_
    refine iX10_317 hC hM rfl ⟨by decide, by decide⟩ ⟨by decide, by decide⟩ (Nat.le_of_ble_eq_true rfl) dX10_loadSetup_61 ?_
    refine c_X10_take hM (by decide) ?_
    dsimp only [Option.toList_some, Option.toList_none, List.cons_append, List.nil_append]
    refine J_aload_n hC dX10_loadSetup_64 rfl rfl ?_
    refine iX10_323 hC hM rfl ⟨by decide, by decide⟩ ⟨by decide, by decide⟩ (Nat.le_of_ble_eq_true rfl) dX10_loadSetup_65 ?_
    refine c_X10_right hM ?_
    dsimp only [Option.toList_some, Option.toList_none, List.cons_append, List.nil_append]
    refine J_aload_n hC dX10_loadSetup_68 rfl rfl ?_
    refine gX10_7 hC hM dX10_loadSetup_69 ?_
    refine J_bipush (v := nI 6) hC dX10_loadSetup_72 (by decide) ?_
    refine J_iaload hC (hM.1 1 (by decide)) rfl rfl (by omega) (by decide) dX10_loadSetup_74 ?_
    refine J_top (show _ = nI (nv A2 6) from (hq.2.1 6 (by decide)).trans hN.1) ?_
    refine J_ireturn hC hR dX10_loadSetup_75 (by decide) (by decide) ?_
    exact hok _ A2 e1 hA2 hq.2
  · dsimp only [Option.toList_some, Option.toList_none, List.cons_append, List.nil_append]
    rw [hR1]
    intro er e1 hE
    refine J_istore_n hC dX10_loadSetup_20 rfl (Nat.le_of_ble_eq_true rfl) rfl ?_
    dsimp only [List.set]
    refine J_aload_n hC dX10_loadSetup_21 rfl rfl ?_
    refine J_iconst (v := nI 0) hC dX10_loadSetup_22 (by decide) ?_
    refine pX10_179 hC hM dX10_loadSetup_23 ?_
    refine J_iload_n hC dX10_loadSetup_26 rfl rfl ?_
    refine J_if_ne_n hC (by decide) (tgt := 42) dX10_loadSetup_27 rfl (fun hf => absurd hf (by omega)) (fun _ => ?_)
    refine J_aload_n hC dX10_loadSetup_30 rfl rfl ?_
    refine J_bipush (v := nI 11) hC dX10_loadSetup_31 (by decide) ?_
    refine iX10_317 hC hM rfl ⟨by decide, by decide⟩ ⟨by decide, by decide⟩ (Nat.le_of_ble_eq_true rfl) dX10_loadSetup_33 ?_
    refine c_X10_take hM (by decide) ?_
    dsimp only [Option.toList_some, Option.toList_none, List.cons_append, List.nil_append]
    refine J_aload_n hC dX10_loadSetup_36 rfl rfl ?_
    refine J_iconst (v := nI 1) hC dX10_loadSetup_37 (by decide) ?_
    refine iX10_308 hC hM rfl ⟨by decide, by decide⟩ ⟨by decide, by decide⟩ (Nat.le_of_ble_eq_true rfl) dX10_loadSetup_38 ?_
    refine c_X10_fail hM ?_
    dsimp only [Option.toList_some, Option.toList_none, List.cons_append, List.nil_append]
    refine J_ireturn hC hR dX10_loadSetup_41 (by decide) (by decide) ?_
    exact hf _ er e1 (load_no hr hE)
set_option maxHeartbeats 4000000 in
set_option maxRecDepth 100000 in
theorem c_X10_verb {G : GC} {w : Lay} {σ : Mem} {Q : Lay → Option Value → Mem → Prop} {Qx : Lay → String → Mem → Prop} (hM : LM w) {t : Nat → Nat} {L p : Nat} (hL5 : L ≤ 500) (hpL : p ≤ L) (hc : curR σ t L p) (ht : ∀ v : Nat, verbT t L p = v + 1 → Q w (some (.int (nI v))) σ) (hf : verbT t L p = 0 → Q w (some (.int (-1))) σ) : MX10_verb G w σ [.ref (w.2.1 13 0)] Q Qx := by
  refine mt_start (by decide) rfl (Nat.le_of_ble_eq_true rfl) (fun E hC hR hN => ?_)
  show J G E w 0 0 0 [some (.ref (w.2.1 13 0))] [] σ
  refine J_aload_n hC dX10_verb_0 rfl rfl ?_
  refine J_ldc2 (v := 404404328) hC dX10_verb_1 q7_133 ?_
  refine iX10_228 hC hM rfl ⟨by decide, by decide⟩ ⟨by decide, by decide⟩ (Nat.le_of_ble_eq_true rfl) dX10_verb_4 ?_
  refine c_X10_isWord hM okW_LAUNCH hL5 hpL hc (fun w0 => ?_) (fun w0 => ?_)
  · dsimp only [Option.toList_some, Option.toList_none, List.cons_append, List.nil_append]
    refine J_if_eq_n hC (by decide) (tgt := 12) dX10_verb_7 rfl (fun hf => absurd hf (by omega)) (fun _ => ?_)
    refine J_iconst (v := nI 0) hC dX10_verb_10 (by decide) ?_
    refine J_ireturn hC hR dX10_verb_11 (by decide) (by decide) ?_
    exact ht 0 (by unfold verbT; rw [if_pos w0])
  · dsimp only [Option.toList_some, Option.toList_none, List.cons_append, List.nil_append]
    refine J_if_eq_n hC (by decide) (tgt := 12) dX10_verb_7 rfl (fun _ => ?_) (fun hf => absurd hf (by omega))
    refine J_aload_n hC dX10_verb_12 rfl rfl ?_
    refine J_ldc2 (v := 394692) hC dX10_verb_13 q7_134 ?_
    refine iX10_228 hC hM rfl ⟨by decide, by decide⟩ ⟨by decide, by decide⟩ (Nat.le_of_ble_eq_true rfl) dX10_verb_16 ?_
    refine c_X10_isWord hM okW_LAND hL5 hpL hc (fun w1 => ?_) (fun w1 => ?_)
    · dsimp only [Option.toList_some, Option.toList_none, List.cons_append, List.nil_append]
      refine J_if_eq_n hC (by decide) (tgt := 24) dX10_verb_19 rfl (fun hf => absurd hf (by omega)) (fun _ => ?_)
      refine J_iconst (v := nI 1) hC dX10_verb_22 (by decide) ?_
      refine J_ireturn hC hR dX10_verb_23 (by decide) (by decide) ?_
      exact ht 1 (by unfold verbT; rw [if_neg w0, if_pos w1])
    · dsimp only [Option.toList_some, Option.toList_none, List.cons_append, List.nil_append]
      refine J_if_eq_n hC (by decide) (tgt := 24) dX10_verb_19 rfl (fun _ => ?_) (fun hf => absurd hf (by omega))
      refine J_aload_n hC dX10_verb_24 rfl rfl ?_
      refine J_ldc2 (v := 8902227) hC dX10_verb_25 q7_135 ?_
      refine iX10_228 hC hM rfl ⟨by decide, by decide⟩ ⟨by decide, by decide⟩ (Nat.le_of_ble_eq_true rfl) dX10_verb_28 ?_
      refine c_X10_isWord hM okW_HOURS hL5 hpL hc (fun w2 => ?_) (fun w2 => ?_)
      · dsimp only [Option.toList_some, Option.toList_none, List.cons_append, List.nil_append]
        refine J_if_eq_n hC (by decide) (tgt := 36) dX10_verb_31 rfl (fun hf => absurd hf (by omega)) (fun _ => ?_)
        refine J_iconst (v := nI 2) hC dX10_verb_34 (by decide) ?_
        refine J_ireturn hC hR dX10_verb_35 (by decide) (by decide) ?_
        exact ht 2 (by unfold verbT; rw [if_neg w0, if_neg w1, if_pos w2])
      · dsimp only [Option.toList_some, Option.toList_none, List.cons_append, List.nil_append]
        refine J_if_eq_n hC (by decide) (tgt := 36) dX10_verb_31 rfl (fun _ => ?_) (fun hf => absurd hf (by omega))
        refine J_aload_n hC dX10_verb_36 rfl rfl ?_
        refine J_ldc2 (v := 542717236) hC dX10_verb_37 q7_136 ?_
        refine iX10_228 hC hM rfl ⟨by decide, by decide⟩ ⟨by decide, by decide⟩ (Nat.le_of_ble_eq_true rfl) dX10_verb_40 ?_
        refine c_X10_isWord hM okW_PERMIT hL5 hpL hc (fun w3 => ?_) (fun w3 => ?_)
        · dsimp only [Option.toList_some, Option.toList_none, List.cons_append, List.nil_append]
          refine J_if_eq_n hC (by decide) (tgt := 48) dX10_verb_43 rfl (fun hf => absurd hf (by omega)) (fun _ => ?_)
          refine J_iconst (v := nI 3) hC dX10_verb_46 (by decide) ?_
          refine J_ireturn hC hR dX10_verb_47 (by decide) (by decide) ?_
          exact ht 3 (by unfold verbT; rw [if_neg w0, if_neg w1, if_neg w2, if_pos w3])
        · dsimp only [Option.toList_some, Option.toList_none, List.cons_append, List.nil_append]
          refine J_if_eq_n hC (by decide) (tgt := 48) dX10_verb_43 rfl (fun _ => ?_) (fun hf => absurd hf (by omega))
          refine J_aload_n hC dX10_verb_48 rfl rfl ?_
          refine J_ldc2 (v := 102173868) hC dX10_verb_49 q7_137 ?_
          refine iX10_228 hC hM rfl ⟨by decide, by decide⟩ ⟨by decide, by decide⟩ (Nat.le_of_ble_eq_true rfl) dX10_verb_52 ?_
          refine c_X10_isWord hM okW_CANCEL hL5 hpL hc (fun w4 => ?_) (fun w4 => ?_)
          · dsimp only [Option.toList_some, Option.toList_none, List.cons_append, List.nil_append]
            refine J_if_eq_n hC (by decide) (tgt := 60) dX10_verb_55 rfl (fun hf => absurd hf (by omega)) (fun _ => ?_)
            refine J_iconst (v := nI 4) hC dX10_verb_58 (by decide) ?_
            refine J_ireturn hC hR dX10_verb_59 (by decide) (by decide) ?_
            exact ht 4 (by unfold verbT; rw [if_neg w0, if_neg w1, if_neg w2, if_neg w3, if_pos w4])
          · dsimp only [Option.toList_some, Option.toList_none, List.cons_append, List.nil_append]
            refine J_if_eq_n hC (by decide) (tgt := 60) dX10_verb_55 rfl (fun _ => ?_) (fun hf => absurd hf (by omega))
            refine J_aload_n hC dX10_verb_60 rfl rfl ?_
            refine J_ldc2 (v := 20773) hC dX10_verb_61 q7_138 ?_
            refine iX10_228 hC hM rfl ⟨by decide, by decide⟩ ⟨by decide, by decide⟩ (Nat.le_of_ble_eq_true rfl) dX10_verb_64 ?_
            refine c_X10_isWord hM okW_TIE hL5 hpL hc (fun w5 => ?_) (fun w5 => ?_)
            · dsimp only [Option.toList_some, Option.toList_none, List.cons_append, List.nil_append]
              refine J_if_eq_n hC (by decide) (tgt := 72) dX10_verb_67 rfl (fun hf => absurd hf (by omega)) (fun _ => ?_)
              refine J_iconst (v := nI 5) hC dX10_verb_70 (by decide) ?_
              refine J_ireturn hC hR dX10_verb_71 (by decide) (by decide) ?_
              exact ht 5 (by unfold verbT; rw [if_neg w0, if_neg w1, if_neg w2, if_neg w3, if_neg w4, if_pos w5])
            · dsimp only [Option.toList_some, Option.toList_none, List.cons_append, List.nil_append]
              refine J_if_eq_n hC (by decide) (tgt := 72) dX10_verb_67 rfl (fun _ => ?_) (fun hf => absurd hf (by omega))
              refine J_aload_n hC dX10_verb_72 rfl rfl ?_
              refine J_ldc2 (v := 609748274) hC dX10_verb_73 q7_139 ?_
              refine iX10_228 hC hM rfl ⟨by decide, by decide⟩ ⟨by decide, by decide⟩ (Nat.le_of_ble_eq_true rfl) dX10_verb_76 ?_
              refine c_X10_isWord hM okW_REPAIR hL5 hpL hc (fun w6 => ?_) (fun w6 => ?_)
              · dsimp only [Option.toList_some, Option.toList_none, List.cons_append, List.nil_append]
                refine J_if_eq_n hC (by decide) (tgt := 85) dX10_verb_79 rfl (fun hf => absurd hf (by omega)) (fun _ => ?_)
                refine J_bipush (v := nI 6) hC dX10_verb_82 (by decide) ?_
                refine J_ireturn hC hR dX10_verb_84 (by decide) (by decide) ?_
                exact ht 6 (by unfold verbT; rw [if_neg w0, if_neg w1, if_neg w2, if_neg w3, if_neg w4, if_neg w5, if_pos w6])
              · dsimp only [Option.toList_some, Option.toList_none, List.cons_append, List.nil_append]
                refine J_if_eq_n hC (by decide) (tgt := 85) dX10_verb_79 rfl (fun _ => ?_) (fun hf => absurd hf (by omega))
                refine J_aload_n hC dX10_verb_85 rfl rfl ?_
                refine J_ldc2 (v := 16441) hC dX10_verb_86 q7_140 ?_
                refine iX10_228 hC hM rfl ⟨by decide, by decide⟩ ⟨by decide, by decide⟩ (Nat.le_of_ble_eq_true rfl) dX10_verb_89 ?_
                refine c_X10_isWord hM okW_PAY hL5 hpL hc (fun w7 => ?_) (fun w7 => ?_)
                · dsimp only [Option.toList_some, Option.toList_none, List.cons_append, List.nil_append]
                  refine J_if_eq_n hC (by decide) (tgt := 100) dX10_verb_92 rfl (fun hf => absurd hf (by omega)) (fun _ => ?_)
                  refine J_bipush (v := nI 7) hC dX10_verb_95 (by decide) ?_
                  refine J_goto (tgt := 101) hC dX10_verb_97 rfl ?_
                  refine J_ireturn hC hR dX10_verb_101 (by decide) (by decide) ?_
                  exact ht 7 (by unfold verbT; rw [if_neg w0, if_neg w1, if_neg w2, if_neg w3, if_neg w4, if_neg w5, if_neg w6, if_pos w7])
                · dsimp only [Option.toList_some, Option.toList_none, List.cons_append, List.nil_append]
                  refine J_if_eq_n hC (by decide) (tgt := 100) dX10_verb_92 rfl (fun _ => ?_) (fun hf => absurd hf (by omega))
                  refine J_iconst (v := -1) hC dX10_verb_100 (by decide) ?_
                  refine J_ireturn hC hR dX10_verb_101 (by decide) (by decide) ?_
                  exact hf (by unfold verbT; rw [if_neg w0, if_neg w1, if_neg w2, if_neg w3, if_neg w4, if_neg w5, if_neg w6, if_neg w7])
set_option maxHeartbeats 4000000 in
set_option maxRecDepth 100000 in
theorem c_X10_rest {G : GC} {w : Lay} {σ : Mem} {Q : Lay → Option Value → Mem → Prop} {Qx : Lay → String → Mem → Prop} (hM : LM w) {t : Nat → Nat} {L a : Nat} (hX : TX σ t L) (ha : atR σ a) (ha0 : a ≤ L) {v n : Nat} (hv : v < 8) (hn : n + 2 < 60) (hok : ∀ (σ' : Mem) (a' : Nat) (c : Nat × Nat × Nat), pCmd t L (v + 1) a = .inr (a', c) → PN7 n σ σ' → atR σ' a' → a' ≤ L → (rd σ' 13 7 (n + 0) = nI c.1 ∧ (needY (v + 1) → rd σ' 13 7 (n + 1) = nI c.2.1) ∧ (v + 1 = 4 → rd σ' 13 7 (n + 2) = nI c.2.2)) ∧ cmdOK (v + 1) c → Q w (some (.int (nI 1))) σ') (hf : ∀ (σ' : Mem) (e : Nat × Nat), pCmd t L (v + 1) a = .inl e → PE σ σ' e → Q w (some (.int (nI 0))) σ') : MX10_rest G w σ [.ref (w.2.1 13 0), .int (nI v), .int (nI n)] Q Qx := by
  refine mt_start (by decide) rfl (Nat.le_of_ble_eq_true rfl) (fun E hC hR hN => ?_)
  show J G E w 0 0 0 [some (.ref (w.2.1 13 0)), some (.int (nI v)), some (.int (nI n))] [] σ
  have nY : needY (v + 1) ↔ (v + 1 = 4 ∨ v + 1 = 6 ∨ v + 1 = 8) := Iff.rfl
  refine J_iload_n hC dX10_rest_0 rfl rfl ?_
  refine J_iconst (v := nI 2) hC dX10_rest_1 (by decide) ?_
  refine J_icmp_ne_n hC (by omega) (by decide) (tgt := 14) dX10_rest_2 rfl (fun c0 => ?_) (fun c0 => ?_)
  · refine J_aload_n hC dX10_rest_14 rfl rfl ?_
    refine J_iload_n hC dX10_rest_15 rfl rfl ?_
    refine J_iconst (v := nI 0) hC dX10_rest_16 (by decide) ?_
    refine J_bipush (v := nI 15) hC dX10_rest_17 (by decide) ?_
    refine iX10_223 hC hM rfl ⟨by decide, by decide⟩ ⟨by decide, by decide⟩ (Nat.le_of_ble_eq_true rfl) dX10_rest_19 ?_
    refine c_X10_one hM hX ha ha0 (by omega) (by omega) (by omega) (fun μ1 => ?_) (fun μ1 => ?_)
    · dsimp only [Option.toList_some, Option.toList_none, List.cons_append, List.nil_append]
      intro a1 v1 e1 hP1 hat1 hl1 lo1 hi1
      have hX1 : TX μ1 t L := TX_PG hX (PG_tr (PG_wr (by unfold PGx PFx; omega)) (PG_of hP1))
      have hG1 : PN7 n σ μ1 := PN7_st PN7_rf (by omega) hP1
      have w1_1 : rd μ1 13 7 (n + 0) = nI v1 := by rw [PF_7 hP1]; exact rd_wr_s
      refine J_if_ne_n hC (by decide) (tgt := 27) dX10_rest_22 rfl (fun _ => ?_) (fun hf => absurd hf (by omega))
      refine J_iload_n hC dX10_rest_27 rfl rfl ?_
      refine J_iconst (v := nI 3) hC dX10_rest_28 (by decide) ?_
      refine J_icmp_ne_n hC (by omega) (by decide) (tgt := 64) dX10_rest_29 rfl (fun c1 => ?_) (fun c1 => ?_)
      · refine J_iload_n hC dX10_rest_64 rfl rfl ?_
        refine J_iconst (v := nI 5) hC dX10_rest_65 (by decide) ?_
        refine J_icmp_ne_n hC (by omega) (by decide) (tgt := 80) dX10_rest_66 rfl (fun c2 => ?_) (fun c2 => ?_)
        · refine J_iload_n hC dX10_rest_80 rfl rfl ?_
          refine J_bipush (v := nI 7) hC dX10_rest_81 (by decide) ?_
          refine J_icmp_ne_n hC (by omega) (by decide) (tgt := 100) dX10_rest_83 rfl (fun c3 => ?_) (fun c3 => ?_)
          · refine J_iconst (v := nI 1) hC dX10_rest_100 (by decide) ?_
            refine J_goto (tgt := 105) hC dX10_rest_101 rfl ?_
            refine J_zreturn hC hR dX10_rest_105 (by decide) (by decide) (by decide) ?_
            refine hok _ a1 (v1, 0, 0) ?_ hG1 hat1 hl1 ⟨?_, ?_⟩
            · unfold pCmd
              rw [if_neg (show ¬ v + 1 = 3 by omega)]
              refine (bnd_r e1).trans ?_
              refine (if_neg (show ¬ v + 1 = 4 by omega)).trans ?_
              refine (if_neg (show ¬ v + 1 = 6 by omega)).trans ?_
              refine (if_neg (show ¬ v + 1 = 8 by omega)).trans ?_
              rfl
            · exact ⟨w1_1, fun q => absurd (nY.mp q) (by omega), fun q => absurd q (by omega)⟩
            · unfold cmdOK
              dsimp only
              omega
          · refine J_aload_n hC dX10_rest_86 rfl rfl ?_
            refine J_iload_n hC dX10_rest_87 rfl rfl ?_
            refine J_iconst (v := nI 1) hC dX10_rest_88 (by decide) ?_
            refine J_iadd_n hC dX10_rest_89 ?_
            refine J_iconst (v := nI 1) hC dX10_rest_90 (by decide) ?_
            refine J_sipush (v := nI 999) hC dX10_rest_91 (by decide) ?_
            refine iX10_223 hC hM rfl ⟨by decide, by decide⟩ ⟨by decide, by decide⟩ (Nat.le_of_ble_eq_true rfl) dX10_rest_94 ?_
            refine c_X10_one hM hX1 hat1 hl1 (by omega) (by omega) (by omega) (fun μ5 => ?_) (fun μ5 => ?_)
            · dsimp only [Option.toList_some, Option.toList_none, List.cons_append, List.nil_append]
              intro a5 v5 e5 hP5 hat5 hl5 lo5 hi5
              have hX5 : TX μ5 t L := TX_PG hX1 (PG_tr (PG_wr (by unfold PGx PFx; omega)) (PG_of hP5))
              have hG5 : PN7 n σ μ5 := PN7_st hG1 (by omega) hP5
              have w5_1 : rd μ5 13 7 (n + 0) = nI v1 := by rw [PF_7 hP5, rd_wr_j (by omega)]; exact w1_1
              have w5_5 : rd μ5 13 7 (n + 1) = nI v5 := by rw [PF_7 hP5]; exact rd_wr_s
              refine J_if_eq_n hC (by decide) (tgt := 104) dX10_rest_97 rfl (fun hf => absurd hf (by omega)) (fun _ => ?_)
              refine J_iconst (v := nI 1) hC dX10_rest_100 (by decide) ?_
              refine J_goto (tgt := 105) hC dX10_rest_101 rfl ?_
              refine J_zreturn hC hR dX10_rest_105 (by decide) (by decide) (by decide) ?_
              refine hok _ a5 (v1, v5, 0) ?_ hG5 hat5 hl5 ⟨?_, ?_⟩
              · unfold pCmd
                rw [if_neg (show ¬ v + 1 = 3 by omega)]
                refine (bnd_r e1).trans ?_
                refine (if_neg (show ¬ v + 1 = 4 by omega)).trans ?_
                refine (if_neg (show ¬ v + 1 = 6 by omega)).trans ?_
                refine (if_pos (show v + 1 = 8 by omega)).trans ?_
                refine (bnd_r e5).trans ?_
                rfl
              · exact ⟨w5_1, fun _ => w5_5, fun q => absurd q (by omega)⟩
              · unfold cmdOK
                dsimp only
                omega
            · dsimp only [Option.toList_some, Option.toList_none, List.cons_append, List.nil_append]
              intro er er1 hE
              refine J_if_eq_n hC (by decide) (tgt := 104) dX10_rest_97 rfl (fun _ => ?_) (fun hf => absurd hf (by omega))
              refine J_iconst (v := nI 0) hC dX10_rest_104 (by decide) ?_
              refine J_zreturn hC hR dX10_rest_105 (by decide) (by decide) (by decide) ?_
              refine hf _ er ?_ (PN7_PE hG1 hE)
              unfold pCmd
              rw [if_neg (show ¬ v + 1 = 3 by omega)]
              refine (bnd_r e1).trans ?_
              refine (if_neg (show ¬ v + 1 = 4 by omega)).trans ?_
              refine (if_neg (show ¬ v + 1 = 6 by omega)).trans ?_
              refine (if_pos (show v + 1 = 8 by omega)).trans ?_
              exact bnd_l er1
        · refine J_aload_n hC dX10_rest_69 rfl rfl ?_
          refine J_iload_n hC dX10_rest_70 rfl rfl ?_
          refine J_iconst (v := nI 1) hC dX10_rest_71 (by decide) ?_
          refine J_iadd_n hC dX10_rest_72 ?_
          refine J_iconst (v := nI 0) hC dX10_rest_73 (by decide) ?_
          refine J_bipush (v := nI 9) hC dX10_rest_74 (by decide) ?_
          refine iX10_223 hC hM rfl ⟨by decide, by decide⟩ ⟨by decide, by decide⟩ (Nat.le_of_ble_eq_true rfl) dX10_rest_76 ?_
          refine c_X10_one hM hX1 hat1 hl1 (by omega) (by omega) (by omega) (fun μ4 => ?_) (fun μ4 => ?_)
          · dsimp only [Option.toList_some, Option.toList_none, List.cons_append, List.nil_append]
            intro a4 v4 e4 hP4 hat4 hl4 lo4 hi4
            have hX4 : TX μ4 t L := TX_PG hX1 (PG_tr (PG_wr (by unfold PGx PFx; omega)) (PG_of hP4))
            have hG4 : PN7 n σ μ4 := PN7_st hG1 (by omega) hP4
            have w4_1 : rd μ4 13 7 (n + 0) = nI v1 := by rw [PF_7 hP4, rd_wr_j (by omega)]; exact w1_1
            have w4_4 : rd μ4 13 7 (n + 1) = nI v4 := by rw [PF_7 hP4]; exact rd_wr_s
            refine J_zreturn hC hR dX10_rest_79 (by decide) (by decide) (by decide) ?_
            refine hok _ a4 (v1, v4, 0) ?_ hG4 hat4 hl4 ⟨?_, ?_⟩
            · unfold pCmd
              rw [if_neg (show ¬ v + 1 = 3 by omega)]
              refine (bnd_r e1).trans ?_
              refine (if_neg (show ¬ v + 1 = 4 by omega)).trans ?_
              refine (if_pos (show v + 1 = 6 by omega)).trans ?_
              refine (bnd_r e4).trans ?_
              rfl
            · exact ⟨w4_1, fun _ => w4_4, fun q => absurd q (by omega)⟩
            · unfold cmdOK
              dsimp only
              omega
          · dsimp only [Option.toList_some, Option.toList_none, List.cons_append, List.nil_append]
            intro er er1 hE
            refine J_zreturn hC hR dX10_rest_79 (by decide) (by decide) (by decide) ?_
            refine hf _ er ?_ (PN7_PE hG1 hE)
            unfold pCmd
            rw [if_neg (show ¬ v + 1 = 3 by omega)]
            refine (bnd_r e1).trans ?_
            refine (if_neg (show ¬ v + 1 = 4 by omega)).trans ?_
            refine (if_pos (show v + 1 = 6 by omega)).trans ?_
            exact bnd_l er1
      · refine J_aload_n hC dX10_rest_32 rfl rfl ?_
        refine J_iload_n hC dX10_rest_33 rfl rfl ?_
        refine J_iconst (v := nI 1) hC dX10_rest_34 (by decide) ?_
        refine J_iadd_n hC dX10_rest_35 ?_
        refine J_iconst (v := nI 0) hC dX10_rest_36 (by decide) ?_
        refine J_ldc (v := nI 999999) hC dX10_rest_37 q7_145 ?_
        refine iX10_223 hC hM rfl ⟨by decide, by decide⟩ ⟨by decide, by decide⟩ (Nat.le_of_ble_eq_true rfl) dX10_rest_39 ?_
        refine c_X10_one hM hX1 hat1 hl1 (by omega) (by omega) (by omega) (fun μ2 => ?_) (fun μ2 => ?_)
        · dsimp only [Option.toList_some, Option.toList_none, List.cons_append, List.nil_append]
          intro a2 v2 e2 hP2 hat2 hl2 lo2 hi2
          have hX2 : TX μ2 t L := TX_PG hX1 (PG_tr (PG_wr (by unfold PGx PFx; omega)) (PG_of hP2))
          have hG2 : PN7 n σ μ2 := PN7_st hG1 (by omega) hP2
          have w2_1 : rd μ2 13 7 (n + 0) = nI v1 := by rw [PF_7 hP2, rd_wr_j (by omega)]; exact w1_1
          have w2_2 : rd μ2 13 7 (n + 1) = nI v2 := by rw [PF_7 hP2]; exact rd_wr_s
          refine J_if_eq_n hC (by decide) (tgt := 62) dX10_rest_42 rfl (fun hf => absurd hf (by omega)) (fun _ => ?_)
          refine J_aload_n hC dX10_rest_45 rfl rfl ?_
          refine J_iload_n hC dX10_rest_46 rfl rfl ?_
          refine J_iconst (v := nI 2) hC dX10_rest_47 (by decide) ?_
          refine J_iadd_n hC dX10_rest_48 ?_
          refine J_iconst (v := nI 1) hC dX10_rest_49 (by decide) ?_
          refine J_bipush (v := nI 24) hC dX10_rest_50 (by decide) ?_
          refine iX10_223 hC hM rfl ⟨by decide, by decide⟩ ⟨by decide, by decide⟩ (Nat.le_of_ble_eq_true rfl) dX10_rest_52 ?_
          refine c_X10_one hM hX2 hat2 hl2 (by omega) (by omega) (by omega) (fun μ3 => ?_) (fun μ3 => ?_)
          · dsimp only [Option.toList_some, Option.toList_none, List.cons_append, List.nil_append]
            intro a3 v3 e3 hP3 hat3 hl3 lo3 hi3
            have hX3 : TX μ3 t L := TX_PG hX2 (PG_tr (PG_wr (by unfold PGx PFx; omega)) (PG_of hP3))
            have hG3 : PN7 n σ μ3 := PN7_st hG2 (by omega) hP3
            have w3_2 : rd μ3 13 7 (n + 1) = nI v2 := by rw [PF_7 hP3, rd_wr_j (by omega)]; exact w2_2
            have w3_1 : rd μ3 13 7 (n + 0) = nI v1 := by rw [PF_7 hP3, rd_wr_j (by omega)]; exact w2_1
            have w3_3 : rd μ3 13 7 (n + 2) = nI v3 := by rw [PF_7 hP3]; exact rd_wr_s
            refine J_if_eq_n hC (by decide) (tgt := 62) dX10_rest_55 rfl (fun hf => absurd hf (by omega)) (fun _ => ?_)
            refine J_iconst (v := nI 1) hC dX10_rest_58 (by decide) ?_
            refine J_goto (tgt := 63) hC dX10_rest_59 rfl ?_
            refine J_zreturn hC hR dX10_rest_63 (by decide) (by decide) (by decide) ?_
            refine hok _ a3 (v1, v2, v3) ?_ hG3 hat3 hl3 ⟨?_, ?_⟩
            · unfold pCmd
              rw [if_neg (show ¬ v + 1 = 3 by omega)]
              refine (bnd_r e1).trans ?_
              refine (if_pos (show v + 1 = 4 by omega)).trans ?_
              refine (bnd_r e2).trans ?_
              refine (bnd_r e3).trans ?_
              rfl
            · exact ⟨w3_1, fun _ => w3_2, fun _ => w3_3⟩
            · unfold cmdOK
              dsimp only
              omega
          · dsimp only [Option.toList_some, Option.toList_none, List.cons_append, List.nil_append]
            intro er er1 hE
            refine J_if_eq_n hC (by decide) (tgt := 62) dX10_rest_55 rfl (fun _ => ?_) (fun hf => absurd hf (by omega))
            refine J_iconst (v := nI 0) hC dX10_rest_62 (by decide) ?_
            refine J_zreturn hC hR dX10_rest_63 (by decide) (by decide) (by decide) ?_
            refine hf _ er ?_ (PN7_PE hG2 hE)
            unfold pCmd
            rw [if_neg (show ¬ v + 1 = 3 by omega)]
            refine (bnd_r e1).trans ?_
            refine (if_pos (show v + 1 = 4 by omega)).trans ?_
            refine (bnd_r e2).trans ?_
            exact bnd_l er1
        · dsimp only [Option.toList_some, Option.toList_none, List.cons_append, List.nil_append]
          intro er er1 hE
          refine J_if_eq_n hC (by decide) (tgt := 62) dX10_rest_42 rfl (fun _ => ?_) (fun hf => absurd hf (by omega))
          refine J_iconst (v := nI 0) hC dX10_rest_62 (by decide) ?_
          refine J_zreturn hC hR dX10_rest_63 (by decide) (by decide) (by decide) ?_
          refine hf _ er ?_ (PN7_PE hG1 hE)
          unfold pCmd
          rw [if_neg (show ¬ v + 1 = 3 by omega)]
          refine (bnd_r e1).trans ?_
          refine (if_pos (show v + 1 = 4 by omega)).trans ?_
          exact bnd_l er1
    · dsimp only [Option.toList_some, Option.toList_none, List.cons_append, List.nil_append]
      intro er er1 hE
      refine J_if_ne_n hC (by decide) (tgt := 27) dX10_rest_22 rfl (fun hf => absurd hf (by omega)) (fun _ => ?_)
      refine J_iconst (v := nI 0) hC dX10_rest_25 (by decide) ?_
      refine J_zreturn hC hR dX10_rest_26 (by decide) (by decide) (by decide) ?_
      refine hf _ er ?_ hE
      unfold pCmd
      rw [if_neg (show ¬ v + 1 = 3 by omega)]
      exact bnd_l er1
  · refine J_aload_n hC dX10_rest_5 rfl rfl ?_
    refine J_iload_n hC dX10_rest_6 rfl rfl ?_
    refine J_iconst (v := nI 1) hC dX10_rest_7 (by decide) ?_
    refine J_bipush (v := nI 48) hC dX10_rest_8 (by decide) ?_
    refine iX10_223 hC hM rfl ⟨by decide, by decide⟩ ⟨by decide, by decide⟩ (Nat.le_of_ble_eq_true rfl) dX10_rest_10 ?_
    refine c_X10_one hM hX ha ha0 (by omega) (by omega) (by omega) (fun μ0 => ?_) (fun μ0 => ?_)
    · dsimp only [Option.toList_some, Option.toList_none, List.cons_append, List.nil_append]
      intro a0 v0 e0 hP0 hat0 hl0 lo0 hi0
      have hX0 : TX μ0 t L := TX_PG hX (PG_tr (PG_wr (by unfold PGx PFx; omega)) (PG_of hP0))
      have hG0 : PN7 n σ μ0 := PN7_st PN7_rf (by omega) hP0
      have w0_0 : rd μ0 13 7 (n + 0) = nI v0 := by rw [PF_7 hP0]; exact rd_wr_s
      refine J_zreturn hC hR dX10_rest_13 (by decide) (by decide) (by decide) ?_
      refine hok _ a0 (v0, 0, 0) ?_ hG0 hat0 hl0 ⟨?_, ?_⟩
      · unfold pCmd
        rw [if_pos (show v + 1 = 3 by omega)]
        exact bnd_r e0
      · exact ⟨w0_0, fun q => absurd (nY.mp q) (by omega), fun q => absurd q (by omega)⟩
      · unfold cmdOK
        dsimp only
        omega
    · dsimp only [Option.toList_some, Option.toList_none, List.cons_append, List.nil_append]
      intro er er1 hE
      refine J_zreturn hC hR dX10_rest_13 (by decide) (by decide) (by decide) ?_
      refine hf _ er ?_ hE
      unfold pCmd
      rw [if_pos (show v + 1 = 3 by omega)]
      exact bnd_l er1
set_option maxHeartbeats 4000000 in
set_option maxRecDepth 100000 in
theorem c_X10_script {G : GC} {w : Lay} {σ : Mem} {Q : Lay → Option Value → Mem → Prop} {Qx : Lay → String → Mem → Prop} (hM : LM w) {t : Nat → Nat} {L : Nat} (hX : TX σ t L) (ha : atR σ 0) (hok : ∀ (σ' : Mem) (C : Nat → Cmd) (k : Nat), pScript t L 21 (fun _ => (0, 0, 0, 0)) 0 0 = .inr (C, k) → PG σ σ' → CM σ' C k → rd σ' 13 0 14 = nI k → k ≤ 20 → Q w (some (.int (nI 1))) σ') (hf : ∀ (σ' : Mem) (e : Nat × Nat), pScript t L 21 (fun _ => (0, 0, 0, 0)) 0 0 = .inl e → PE σ σ' e → Q w (some (.int (nI 0))) σ') : MX10_script G w σ [.ref (w.2.1 13 0)] Q Qx := by
  refine mt_start (by decide) rfl (Nat.le_of_ble_eq_true rfl) (fun E hC hR hN => ?_)
  show J G E w 0 0 0 [some (.ref (w.2.1 13 0)), none, none] [] σ
  have lp : ∀ (dd : Nat) (τ : Mem) (C : Nat → Cmd) (k a f : Nat), f < dd → (PG σ τ) → (atR τ a) → (rd τ 13 0 14 = nI k) → (CM τ C k) → (pScript t L f C k a = pScript t L 21 (fun _ => (0, 0, 0, 0)) 0 0) → (a ≤ L) → (f + k = 21) → (k ≤ 20) →  J G E w 0 0 5 [some (.ref (w.2.1 13 0)), none, none] [] τ := by
    intro dd
    induction dd with
    | zero =>
      intro τ C k a f hdd
      exact absurd hdd (Nat.not_lt_zero _)
    | succ dd ih =>
      intro τ C k a f hdd hG ha h14 hCM hF hb hfk hk20
      have hXt : TX τ t L := TX_PG hX hG
      refine J_aload_n hC dX10_script_5 rfl rfl ?_
      refine iX10_210 hC hM rfl ⟨by decide, by decide⟩ ⟨by decide, by decide⟩ (Nat.le_of_ble_eq_true rfl) dX10_script_6 ?_
      refine c_X10_next hM hXt ha hb (fun τ1 hP1 hc => ?_)
      dsimp only [Option.toList_some, Option.toList_none, List.cons_append, List.nil_append]
      have hc9 := hc
      obtain ⟨c17, c18, c16, -, -⟩ := hc9
      have hs := skip_le (t := t) hb
      have he := endT_le (t := t) hs.2
      have hk4 : kdT t L (skip t L a) ≤ 4 := kdT_le
      have hL5 := hX.2.2
      have hX1 : TX τ1 t L := TX_PF hXt hP1
      have h141 : rd τ1 13 0 14 = nI k := (hP1.1 13 0 14 (by unfold PFx; omega)).trans h14
      have hCM1 : CM τ1 C k := CM_PF hCM hP1
      refine J_aload_n hC dX10_script_9 rfl rfl ?_
      refine gX10_185 hC hM dX10_script_10 ?_
      refine J_top c18 ?_
      refine J_if_ne_n hC (by omega) (tgt := 18) dX10_script_13 rfl (fun b0 => ?_) (fun b0 => ?_)
      · refine J_aload_n hC dX10_script_18 rfl rfl ?_
        refine iX10_269 hC hM rfl ⟨by decide, by decide⟩ ⟨by decide, by decide⟩ (Nat.le_of_ble_eq_true rfl) dX10_script_19 ?_
        refine c_X10_verb hM hL5 hs.2 hc (fun v => ?_) (fun v => ?_)
        · dsimp only [Option.toList_some, Option.toList_none, List.cons_append, List.nil_append]
          intro ev
          have hv8 := verbT_le t L (skip t L a)
          refine J_istore_n hC dX10_script_22 rfl (Nat.le_of_ble_eq_true rfl) rfl ?_
          dsimp only [List.set]
          refine J_iload_n hC dX10_script_23 rfl rfl ?_
          refine J_if_ge_n hC (by omega) (tgt := 33) dX10_script_24 rfl (fun bge => ?_) (fun bge => ?_)
          · refine J_aload_n hC dX10_script_33 rfl rfl ?_
            refine gX10_266 hC hM dX10_script_34 ?_
            refine J_top h141 ?_
            refine J_bipush (v := nI 20) hC dX10_script_37 (by decide) ?_
            refine J_icmp_ne_n hC (by omega) (by decide) (tgt := 48) dX10_script_39 rfl (fun b20 => ?_) (fun b20 => ?_)
            · refine J_aload_n hC dX10_script_48 rfl rfl ?_
              refine J_dup hC dX10_script_49 rfl ?_
              refine gX10_266 hC hM dX10_script_50 ?_
              refine J_top h141 ?_
              refine J_dup_x1 hC dX10_script_53 rfl rfl ?_
              refine J_iconst (v := nI 1) hC dX10_script_54 (by decide) ?_
              refine J_iadd_n hC dX10_script_55 ?_
              refine pX10_266 hC hM dX10_script_56 ?_
              refine J_istore_n hC dX10_script_59 rfl (Nat.le_of_ble_eq_true rfl) rfl ?_
              dsimp only [List.set]
              refine J_aload_n hC dX10_script_60 rfl rfl ?_
              refine gX10_31 hC hM dX10_script_61 ?_
              refine J_iload_n hC dX10_script_64 rfl rfl ?_
              refine J_iload_n hC dX10_script_65 rfl rfl ?_
              refine J_iastore hC (hM.1 6 (by decide)) rfl rfl (by omega) (by decide) dX10_script_66 ?_
              refine J_aload_n hC dX10_script_67 rfl rfl ?_
              refine J_iload_n hC dX10_script_68 rfl rfl ?_
              refine J_iconst (v := nI 3) hC dX10_script_69 (by decide) ?_
              refine J_iload_n hC dX10_script_70 rfl rfl ?_
              refine J_imul_n hC dX10_script_71 ?_
              refine iX10_272 hC hM rfl ⟨by decide, by decide⟩ ⟨by decide, by decide⟩ (Nat.le_of_ble_eq_true rfl) dX10_script_72 ?_
              refine c_X10_rest hM (TX_PG hX1 (PG_tr (PG_wr (by unfold PGx PFx; omega)) (PG_wr (by unfold PGx PFx; omega)))) ((rd_wr_c (by decide)).trans ((rd_wr_j (by decide)).trans c16)) he.2 (by omega) (by omega) (fun τ2 => ?_) (fun τ2 => ?_)
              · dsimp only [Option.toList_some, Option.toList_none, List.cons_append, List.nil_append]
                intro a1 c1 e1 hN hat1 hl1 hwc
                obtain ⟨hw, hcm⟩ := hwc
                have hX2 : TX τ2 t L := TX_PG hX1 (PG_tr (PG_tr (PG_wr (by unfold PGx PFx; omega)) (PG_wr (by unfold PGx PFx; omega))) (PN7_PG hN))
                have hG2 : PG τ1 τ2 := PG_tr (PG_tr (PG_wr (by unfold PGx PFx; omega)) (PG_wr (by unfold PGx PFx; omega))) (PN7_PG hN)
                refine J_if_eq_n hC (by decide) (tgt := 85) dX10_script_75 rfl (fun hf => absurd hf (by omega)) (fun _ => ?_)
                refine J_aload_n hC dX10_script_78 rfl rfl ?_
                refine iX10_219 hC hM rfl ⟨by decide, by decide⟩ ⟨by decide, by decide⟩ (Nat.le_of_ble_eq_true rfl) dX10_script_79 ?_
                refine c_X10_ends hM hX2 hat1 hl1 (fun τ3 => ?_) (fun τ3 => ?_)
                · dsimp only [Option.toList_some, Option.toList_none, List.cons_append, List.nil_append]
                  intro a2 e2 hP3 hat2 hl2
                  refine J_if_ne_n hC (by decide) (tgt := 87) dX10_script_82 rfl (fun _ => ?_) (fun hf => absurd hf (by omega))
                  refine J_goto (tgt := 5) hC dX10_script_87 rfl ?_
                  refine J_less (ls' := [some (.ref (w.2.1 13 0)), none, none]) ⟨Or.inr rfl, Or.inl rfl, Or.inl rfl, trivial⟩ ?_
                  refine ih τ3 (updC C k (v + 1, c1)) (k + 1) a2 (f - 1) (by omega) (PG_tr (PG_tr (PG_tr hG (PG_of hP1)) hG2) (PG_of hP3)) hat2 ?_ ?_ ?_ hl2 (by omega) (by omega)
                  · rw [hP3.1 13 0 14 (by unfold PFx; omega), hN.1 13 0 14 (by unfold PFx; omega) (by omega), rd_wr_c (by decide)]
                    exact rd_wr_s
                  · exact CM_PF (CM_new hCM1 hN (by omega) hw hcm) hP3
                  · rw [← hF, pS_s (by omega) b0 (by omega) b20, ev]
                    refine ((bnd_r e1).trans (bnd_r e2)).symm
                · dsimp only [Option.toList_some, Option.toList_none, List.cons_append, List.nil_append]
                  intro er e2 hE
                  refine J_if_ne_n hC (by decide) (tgt := 87) dX10_script_82 rfl (fun hf => absurd hf (by omega)) (fun _ => ?_)
                  refine J_iconst (v := nI 0) hC dX10_script_85 (by decide) ?_
                  refine J_zreturn hC hR dX10_script_86 (by decide) (by decide) (by decide) ?_
                  refine hf _ er ?_ (PE_tr (PG_tr (PG_tr hG (PG_of hP1)) hG2) hE)
                  rw [← hF, pS_s (by omega) b0 (by omega) b20, ev]
                  refine (bnd_r e1).trans ?_
                  exact bnd_l e2
              · dsimp only [Option.toList_some, Option.toList_none, List.cons_append, List.nil_append]
                intro er e1 hE
                refine J_if_eq_n hC (by decide) (tgt := 85) dX10_script_75 rfl (fun _ => ?_) (fun hf => absurd hf (by omega))
                refine J_iconst (v := nI 0) hC dX10_script_85 (by decide) ?_
                refine J_zreturn hC hR dX10_script_86 (by decide) (by decide) (by decide) ?_
                refine hf _ er ?_ (PE_tr (PG_tr (PG_tr hG (PG_of hP1)) (PG_tr (PG_wr (by unfold PGx PFx; omega)) (PG_wr (by unfold PGx PFx; omega)))) hE)
                rw [← hF, pS_s (by omega) b0 (by omega) b20, ev]
                exact bnd_l e1
            · refine J_aload_n hC dX10_script_42 rfl rfl ?_
              refine J_iconst (v := nI 3) hC dX10_script_43 (by decide) ?_
              refine iX10_213 hC hM rfl ⟨by decide, by decide⟩ ⟨by decide, by decide⟩ (Nat.le_of_ble_eq_true rfl) dX10_script_44 ?_
              refine c_X10_wrong hM (c := 3) c17 (fun υ hE => ?_)
              dsimp only [Option.toList_some, Option.toList_none, List.cons_append, List.nil_append]
              refine J_zreturn hC hR dX10_script_47 (by decide) (by decide) (by decide) ?_
              exact hf _ _ (by rw [← hF]; exact pS_20 (by omega) b0 (by omega) b20) (PE_tr (PG_tr hG (PG_of hP1)) hE)
          · refine J_aload_n hC dX10_script_27 rfl rfl ?_
            refine J_iconst (v := nI 1) hC dX10_script_28 (by decide) ?_
            refine iX10_213 hC hM rfl ⟨by decide, by decide⟩ ⟨by decide, by decide⟩ (Nat.le_of_ble_eq_true rfl) dX10_script_29 ?_
            refine c_X10_wrong hM (c := 1) c17 (fun υ hE => ?_)
            dsimp only [Option.toList_some, Option.toList_none, List.cons_append, List.nil_append]
            refine J_zreturn hC hR dX10_script_32 (by decide) (by decide) (by decide) ?_
            omega
        · dsimp only [Option.toList_some, Option.toList_none, List.cons_append, List.nil_append]
          refine J_istore_n hC dX10_script_22 rfl (Nat.le_of_ble_eq_true rfl) rfl ?_
          dsimp only [List.set]
          refine J_iload_n hC dX10_script_23 rfl rfl ?_
          refine J_if_ge hC (tgt := 33) dX10_script_24 rfl (fun hf => absurd hf (by decide)) (fun _ => ?_)
          refine J_aload_n hC dX10_script_27 rfl rfl ?_
          refine J_iconst (v := nI 1) hC dX10_script_28 (by decide) ?_
          refine iX10_213 hC hM rfl ⟨by decide, by decide⟩ ⟨by decide, by decide⟩ (Nat.le_of_ble_eq_true rfl) dX10_script_29 ?_
          refine c_X10_wrong hM (c := 1) c17 (fun υ hE => ?_)
          dsimp only [Option.toList_some, Option.toList_none, List.cons_append, List.nil_append]
          refine J_zreturn hC hR dX10_script_32 (by decide) (by decide) (by decide) ?_
          first
          | exact hf _ _ (by rw [← hF]; exact pS_v (by omega) b0 v) (PE_tr (PG_tr hG (PG_of hP1)) hE)
          | exact absurd rfl ‹_›
      · refine J_iconst (v := nI 1) hC dX10_script_16 (by decide) ?_
        refine J_zreturn hC hR dX10_script_17 (by decide) (by decide) (by decide) ?_
        exact hok τ1 C k (by rw [← hF]; exact pS_0 (by omega) b0) (PG_tr hG (PG_of hP1)) hCM1 h141 hk20
  refine J_aload_n hC dX10_script_0 rfl rfl ?_
  refine J_iconst (v := nI 0) hC dX10_script_1 (by decide) ?_
  refine pX10_266 hC hM dX10_script_2 ?_
  exact lp 22 _ (fun _ => (0, 0, 0, 0)) 0 0 21 (by omega) (PG_wr (by unfold PGx PFx; omega)) ((rd_wr_j (by decide)).trans ha) rd_wr_s (fun i hi => absurd hi (Nat.not_lt_zero i)) rfl (Nat.zero_le L) (by omega) (by omega)
