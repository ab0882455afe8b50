set_option maxHeartbeats 4000000 in
set_option maxRecDepth 100000 in
theorem c_X10_one {G : GC} {w : Lay} {σ : Mem} {Q : Lay → Option Value → Mem → Prop} {Qx : Lay → String → Mem → Prop} (hM : LM w) {t : Nat → Nat} {L a : Nat} (hX : TX σ t L) (ha : atR σ a) (ha0 : a ≤ L) {lo hi k : Nat} (hk : k < 60) (hlo : lo < 2 ^ 31) (hhi : hi ≤ 999999) (hok : ∀ (σ' : Mem) (a' v : Nat), pNum t L lo hi a = .inr (a', v) → PF (wr σ 13 7 k (nI v)) σ' → atR σ' a' → a' ≤ L → lo ≤ v → v ≤ hi → Q w (some (.int (nI 1))) σ') (hf : ∀ (σ' : Mem) (e : Nat × Nat), pNum t L lo hi a = .inl e → PE σ σ' e → Q w (some (.int (nI 0))) σ') : MX10_one G w σ [.ref (w.2.1 13 0), .int (nI k), .int (nI lo), .int (nI hi)] Q Qx := by
  refine mt_start (by decide) rfl (Nat.le_of_ble_eq_true rfl) (fun E hC hR hN => ?_)
  show J G E w 0 0 0 [some (.ref (w.2.1 13 0)), some (.int (nI k)), some (.int (nI lo)), some (.int (nI hi))] [] σ
  refine J_aload_n hC dX10_one_0 rfl rfl ?_
  refine J_iload_n hC dX10_one_1 rfl rfl ?_
  refine J_iload_n hC dX10_one_2 rfl rfl ?_
  refine iX10_216 hC hM rfl ⟨by decide, by decide⟩ ⟨by decide, by decide⟩ (Nat.le_of_ble_eq_true rfl) dX10_one_3 ?_
  refine c_X10_numeral hM hX ha ha0 hlo hhi (fun τ => ?_) (fun τ => ?_)
  · dsimp only [Option.toList_some, Option.toList_none, List.cons_append, List.nil_append]
    intro a1 v1 e1 hP h16 hl1 h19 hlo1 hhi1
    refine J_if_ne_n hC (by decide) (tgt := 11) dX10_one_6 rfl (fun _ => ?_) (fun hf => absurd hf (by omega))
    refine J_aload_n hC dX10_one_11 rfl rfl ?_
    refine gX10_34 hC hM dX10_one_12 ?_
    refine J_iload_n hC dX10_one_15 rfl rfl ?_
    refine J_aload_n hC dX10_one_16 rfl rfl ?_
    refine gX10_203 hC hM dX10_one_17 ?_
    refine J_top h19 ?_
    refine J_iastore hC (hM.1 7 (by decide)) rfl rfl (by omega) (by decide) dX10_one_20 ?_
    refine J_iconst (v := nI 1) hC dX10_one_21 (by decide) ?_
    refine J_zreturn hC hR dX10_one_22 (by decide) (by decide) (by decide) ?_
    exact hok _ a1 v1 e1 (PF_wr2 hP) ((rd_wr_c (by decide)).trans h16) hl1 hlo1 hhi1
  · dsimp only [Option.toList_some, Option.toList_none, List.cons_append, List.nil_append]
    intro er e1 hE
    refine J_if_ne_n hC (by decide) (tgt := 11) dX10_one_6 rfl (fun hf => absurd hf (by omega)) (fun _ => ?_)
    refine J_iconst (v := nI 0) hC dX10_one_9 (by decide) ?_
    refine J_zreturn hC hR dX10_one_10 (by decide) (by decide) (by decide) ?_
    exact hf τ er e1 hE
set_option maxHeartbeats 4000000 in
set_option maxRecDepth 100000 in
theorem c_X10_zoneText {G : GC} {w : Lay} {σ : Mem} {Q : Lay → Option Value → Mem → Prop} {Qx : Lay → String → Mem → Prop} (hM : LM w) {t : Nat → Nat} {L a p : Nat} (hX : TX σ t L) (ha : atR σ a) (ha0 : a ≤ L) (h17 : rd σ 13 0 17 = nI p) {nz nc nk : Nat} (hst : Pst nz 0 0 (rd σ 13 1)) (hok : ∀ (σ' : Mem) (A' : Rw) (a' : Nat), nz < 4 → pWinds t L 8 (zoneA (rd σ 13 1)) a 0 = .inr (A', a') → PG (setA σ A') σ' → atR σ' a' → a' ≤ L → Pst (nz + 1) 0 0 A' → Q w (some (.int (nI 1))) σ') (hf : ∀ (σ' : Mem) (e : Nat × Nat), ((nz = 4 ∧ e = (3, p)) ∨ (nz < 4 ∧ pWinds t L 8 (zoneA (rd σ 13 1)) a 0 = .inl e)) → PR σ σ' e → Q w (some (.int (nI 0))) σ') : MX10_zoneText G w σ [.ref (w.2.1 13 0)] Q Qx := by
  refine mt_start (by decide) rfl (Nat.le_of_ble_eq_true rfl) (fun E hC hR hN => ?_)
  show J G E w 0 0 0 [some (.ref (w.2.1 13 0)), none, none] [] σ
  refine J_aload_n hC dX10_zoneText_0 rfl rfl ?_
  refine gX10_7 hC hM dX10_zoneText_1 ?_
  refine J_iconst (v := nI 4) hC dX10_zoneText_4 (by decide) ?_
  refine J_iaload hC (hM.1 1 (by decide)) rfl rfl (by omega) (by decide) dX10_zoneText_5 ?_
  have hz9 := hst.2.1.2
  refine J_top hst.2.1.1 ?_
  refine J_iconst (v := nI 4) hC dX10_zoneText_6 (by decide) ?_
  refine J_icmp_ne_n hC (by omega) (by decide) (tgt := 16) dX10_zoneText_7 rfl (fun b0 => ?_) (fun b0 => ?_)
  · have hz4 : nz < 4 := by omega
    refine J_aload_n hC dX10_zoneText_16 rfl rfl ?_
    refine iX10_47 hC hM rfl ⟨by decide, by decide⟩ ⟨by decide, by decide⟩ (Nat.le_of_ble_eq_true rfl) dX10_zoneText_17 ?_
    refine c_X10_zone hM (hst.2.1.1.trans (congrArg nI (nv_of hst.2.1.1 (by omega)).symm)) (by rw [nv_of hst.2.1.1 (by omega)]; omega) ?_
    dsimp only [Option.toList_some, Option.toList_none, List.cons_append, List.nil_append]
    have lp : ∀ (dd : Nat) (τ : Mem) (B : Rw) (b m : Nat), 7 - m < dd → (PG (setA σ B) τ) → (curR τ t L (skip t L b)) → (Zin nz m B) → (pWinds t L (8 - m) B b m = pWinds t L 8 (zoneA (rd σ 13 1)) a 0) → (b ≤ L) → (m ≤ 6) → (m = 0 → kdT t L (skip t L b) = 2) →  J G E w 0 0 40 [some (.ref (w.2.1 13 0)), some (.int (nI m)), none] [] τ := by
      intro dd
      induction dd with
      | zero =>
        intro τ B b m hdd
        exact absurd hdd (Nat.not_lt_zero _)
      | succ dd ih =>
        intro τ B b m hdd hG hc hZ hF hb hm6 hm0
        obtain ⟨c17, c18, c16, c19, -⟩ := hc
        have hs := skip_le (t := t) hb
        have he := endT_le (t := t) hs.2
        have hk4 : kdT t L (skip t L b) ≤ 4 := kdT_le
        have hL5 := hX.2.2
        have hXt : TX τ t L := TX_PG (TX_setA hX) hG
        have hRw : rd τ 13 1 = B := PG_row hG
        refine J_aload_n hC dX10_zoneText_40 rfl rfl ?_
        refine gX10_185 hC hM dX10_zoneText_41 ?_
        refine J_top c18 ?_
        refine J_iconst (v := nI 2) hC dX10_zoneText_44 (by decide) ?_
        refine J_icmp_ne_n hC (by omega) (by decide) (tgt := 112) dX10_zoneText_45 rfl (fun b1 => ?_) (fun b1 => ?_)
        · refine J_aload_n hC dX10_zoneText_112 rfl rfl ?_
          refine gX10_185 hC hM dX10_zoneText_113 ?_
          refine J_top c18 ?_
          refine J_iconst (v := nI 3) hC dX10_zoneText_116 (by decide) ?_
          refine J_icmp_eq_n hC (by omega) (by decide) (tgt := 128) dX10_zoneText_117 rfl (fun b4 => ?_) (fun b4 => ?_)
          · refine J_iconst (v := nI 1) hC dX10_zoneText_128 (by decide) ?_
            refine J_goto (tgt := 133) hC dX10_zoneText_129 rfl ?_
            refine J_zreturn hC hR dX10_zoneText_133 (by decide) (by decide) (by decide) ?_
            exact hok _ _ _ hz4 (by rw [← hF]; exact pW_3 (by omega) (fun q => b1 (hm0 q)) b4) hG c16 he.2 (Pst_zin hZ (by have : m ≠ 0 := fun q => b1 (hm0 q); omega))
          · refine J_aload_n hC dX10_zoneText_120 rfl rfl ?_
            refine J_iconst (v := nI 1) hC dX10_zoneText_121 (by decide) ?_
            refine iX10_213 hC hM rfl ⟨by decide, by decide⟩ ⟨by decide, by decide⟩ (Nat.le_of_ble_eq_true rfl) dX10_zoneText_122 ?_
            refine c_X10_wrong hM (c := 1) c17 (fun υ hE => ?_)
            dsimp only [Option.toList_some, Option.toList_none, List.cons_append, List.nil_append]
            refine J_if_eq_n hC (by decide) (tgt := 132) dX10_zoneText_125 rfl (fun _ => ?_) (fun hf => absurd hf (by omega))
            refine J_iconst (v := nI 0) hC dX10_zoneText_132 (by decide) ?_
            refine J_zreturn hC hR dX10_zoneText_133 (by decide) (by decide) (by decide) ?_
            first
            | omega
            | exact hf _ _ (Or.inr ⟨hz4, by rw [← hF]; exact pW_1 (by omega) b1 (fun q => b4 q.2)⟩) (PE_setA (PE_tr hG hE))
        · refine J_aload_n hC dX10_zoneText_48 rfl rfl ?_
          refine gX10_203 hC hM dX10_zoneText_49 ?_
          have hv := val_le 10000000 t (skip t L b) (endT t L (skip t L b) - (skip t L b))
          have hm := val_min (t := t) (p := (skip t L b)) (endT t L (skip t L b) - (skip t L b))
          have hnT : numT t L (skip t L b) = val 1000000 t (skip t L b) (endT t L (skip t L b) - (skip t L b)) := rfl
          refine J_top (c19 b1) ?_
          refine J_istore_n hC dX10_zoneText_52 rfl (Nat.le_of_ble_eq_true rfl) rfl ?_
          dsimp only [List.set]
          refine J_iload_n hC dX10_zoneText_53 rfl rfl ?_
          refine J_iconst (v := nI 0) hC dX10_zoneText_54 (by decide) ?_
          refine J_bipush (v := nI 7) hC dX10_zoneText_55 (by decide) ?_
          refine iX10_75 hC rfl ⟨by decide, by decide⟩ ⟨by decide, by decide⟩ (Nat.le_of_ble_eq_true rfl) dX10_zoneText_57 ?_
          refine k_in (by omega) (by omega) (fun b2 => ?_) (fun b2 => ?_)
          · dsimp only [Option.toList_some, Option.toList_none, List.cons_append, List.nil_append]
            obtain ⟨kk, ek, k1, k2⟩ := b2
            have ek2 := congrArg cl ek
            rw [cl_n (by omega), cl_n (by omega)] at ek2
            have gN : val 10000000 t (skip t L b) (endT t L (skip t L b) - (skip t L b)) = numT t L (skip t L b) := by omega
            have gok : numT t L (skip t L b) ≤ 7 := by omega
            rw [gN]
            refine J_if_ne_n hC (by decide) (tgt := 69) dX10_zoneText_60 rfl (fun _ => ?_) (fun hf => absurd hf (by omega))
            refine J_iload_n hC dX10_zoneText_69 rfl rfl ?_
            refine J_bipush (v := nI 6) hC dX10_zoneText_70 (by decide) ?_
            refine J_icmp_ne_n hC (by omega) (by decide) (tgt := 81) dX10_zoneText_72 rfl (fun b3 => ?_) (fun b3 => ?_)
            · refine J_aload_n hC dX10_zoneText_81 rfl rfl ?_
              refine J_iconst (v := nI 0) hC dX10_zoneText_82 (by decide) ?_
              refine J_bipush (v := nI 9) hC dX10_zoneText_83 (by decide) ?_
              refine iX10_216 hC hM rfl ⟨by decide, by decide⟩ ⟨by decide, by decide⟩ (Nat.le_of_ble_eq_true rfl) dX10_zoneText_85 ?_
              refine c_X10_numeral hM hXt c16 he.2 (by decide) (by decide) (fun τ2 => ?_) (fun τ2 => ?_)
              · dsimp only [Option.toList_some, Option.toList_none, List.cons_append, List.nil_append]
                intro a1 v1 e1 hP2 h162 hl1 h192 hlo1 hhi1
                have hR2 : rd τ2 13 1 = B := (PF_1 hP2).trans hRw
                refine J_if_ne_n hC (by decide) (tgt := 93) dX10_zoneText_88 rfl (fun _ => ?_) (fun hf => absurd hf (by omega))
                refine J_aload_n hC dX10_zoneText_93 rfl rfl ?_
                refine J_iload_n hC dX10_zoneText_94 rfl rfl ?_
                refine J_aload_n hC dX10_zoneText_95 rfl rfl ?_
                refine gX10_203 hC hM dX10_zoneText_96 ?_
                refine J_top h192 ?_
                refine iX10_50 hC hM rfl ⟨by decide, by decide⟩ ⟨by decide, by decide⟩ (Nat.le_of_ble_eq_true rfl) dX10_zoneText_99 ?_
                refine c_X10_wind hM (by rw [hR2]; exact hZ.2.1.1.trans (congrArg nI (nv_of hZ.2.1.1 (by omega)).symm)) (by rw [hR2, nv_of hZ.2.1.1 (by omega)]; omega) (by rw [hR2, (Zin_P hZ).1]; exact hZ.2.2.2.1.1.trans (congrArg nI (nv_of hZ.2.2.2.1.1 (by omega)).symm)) (by rw [hR2, (Zin_P hZ).2]; omega) ?_
                dsimp only [Option.toList_some, Option.toList_none, List.cons_append, List.nil_append]
                rw [hR2]
                refine J_iinc_n (m := 1) hC (by decide) dX10_zoneText_102 rfl (Nat.le_of_ble_eq_true rfl) rfl ?_
                dsimp only [List.set]
                refine J_aload_n hC dX10_zoneText_105 rfl rfl ?_
                refine iX10_210 hC hM rfl ⟨by decide, by decide⟩ ⟨by decide, by decide⟩ (Nat.le_of_ble_eq_true rfl) dX10_zoneText_106 ?_
                refine c_X10_next hM (TX_setA (TX_PF hXt hP2)) (atR_setA h162) hl1 (fun τ3 hP3 hc3 => ?_)
                dsimp only [Option.toList_some, Option.toList_none, List.cons_append, List.nil_append]
                refine J_goto (tgt := 40) hC dX10_zoneText_109 rfl ?_
                refine J_less (ls' := [some (.ref (w.2.1 13 0)), some (.int (nI (m + 1))), none]) ⟨Or.inr rfl, Or.inr rfl, Or.inl rfl, trivial⟩ ?_
                exact ih τ3 (windA B (nI (numT t L (skip t L b))) (nI v1)) a1 (m + 1) (by omega) (PG_step hG (PG_tr (PG_setA (PG_of hP2)) (PG_of hP3))) hc3 (Zin_wind hZ (by omega) gok hhi1) (by rw [← hF, pW_2c (by omega) b1 gok, e1]; rfl) hl1 (by omega) (by omega)
              · dsimp only [Option.toList_some, Option.toList_none, List.cons_append, List.nil_append]
                intro er e1 hE
                refine J_if_ne_n hC (by decide) (tgt := 93) dX10_zoneText_88 rfl (fun hf => absurd hf (by omega)) (fun _ => ?_)
                refine J_iconst (v := nI 0) hC dX10_zoneText_91 (by decide) ?_
                refine J_zreturn hC hR dX10_zoneText_92 (by decide) (by decide) (by decide) ?_
                exact hf _ _ (Or.inr ⟨hz4, by rw [← hF, pW_2c (by omega) b1 gok]; exact bnd_l e1⟩) (PE_setA (PE_tr hG hE))
            · refine J_aload_n hC dX10_zoneText_75 rfl rfl ?_
              refine J_iconst (v := nI 3) hC dX10_zoneText_76 (by decide) ?_
              refine iX10_213 hC hM rfl ⟨by decide, by decide⟩ ⟨by decide, by decide⟩ (Nat.le_of_ble_eq_true rfl) dX10_zoneText_77 ?_
              refine c_X10_wrong hM (c := 3) c17 (fun υ hE => ?_)
              dsimp only [Option.toList_some, Option.toList_none, List.cons_append, List.nil_append]
              refine J_zreturn hC hR dX10_zoneText_80 (by decide) (by decide) (by decide) ?_
              exact hf _ _ (Or.inr ⟨hz4, by rw [← hF]; exact pW_2b (by omega) b1 gok⟩) (PE_setA (PE_tr hG hE))
          · dsimp only [Option.toList_some, Option.toList_none, List.cons_append, List.nil_append]
            have gno : ¬ numT t L (skip t L b) ≤ 7 := fun q => b2 ⟨val 10000000 t (skip t L b) (endT t L (skip t L b) - (skip t L b)), rfl, by omega, by omega⟩
            refine J_if_ne_n hC (by decide) (tgt := 69) dX10_zoneText_60 rfl (fun hf => absurd hf (by omega)) (fun _ => ?_)
            refine J_aload_n hC dX10_zoneText_63 rfl rfl ?_
            refine J_iconst (v := nI 2) hC dX10_zoneText_64 (by decide) ?_
            refine iX10_213 hC hM rfl ⟨by decide, by decide⟩ ⟨by decide, by decide⟩ (Nat.le_of_ble_eq_true rfl) dX10_zoneText_65 ?_
            refine c_X10_wrong hM (c := 2) c17 (fun υ hE => ?_)
            dsimp only [Option.toList_some, Option.toList_none, List.cons_append, List.nil_append]
            refine J_zreturn hC hR dX10_zoneText_68 (by decide) (by decide) (by decide) ?_
            exact hf _ _ (Or.inr ⟨hz4, by rw [← hF]; exact pW_2a (by omega) b1 gno⟩) (PE_setA (PE_tr hG hE))
    refine J_iconst (v := nI 0) hC dX10_zoneText_20 (by decide) ?_
    refine J_istore_n hC dX10_zoneText_21 rfl (Nat.le_of_ble_eq_true rfl) rfl ?_
    dsimp only [List.set]
    refine J_aload_n hC dX10_zoneText_22 rfl rfl ?_
    refine iX10_210 hC hM rfl ⟨by decide, by decide⟩ ⟨by decide, by decide⟩ (Nat.le_of_ble_eq_true rfl) dX10_zoneText_23 ?_
    refine c_X10_next hM (TX_setA hX) (atR_setA ha) ha0 (fun τ hP hc => ?_)
    dsimp only [Option.toList_some, Option.toList_none, List.cons_append, List.nil_append]
    have hc9 := hc
    obtain ⟨c17, c18, c16, c19, -⟩ := hc9
    have hs := skip_le (t := t) ha0
    have he := endT_le (t := t) hs.2
    have hk4 : kdT t L (skip t L a) ≤ 4 := kdT_le
    have hL5 := hX.2.2
    refine J_aload_n hC dX10_zoneText_26 rfl rfl ?_
    refine gX10_185 hC hM dX10_zoneText_27 ?_
    refine J_top c18 ?_
    refine J_iconst (v := nI 2) hC dX10_zoneText_30 (by decide) ?_
    refine J_icmp_eq_n hC (by omega) (by decide) (tgt := 40) dX10_zoneText_31 rfl (fun bb => ?_) (fun bb => ?_)
    · exact lp 8 τ (zoneA (rd σ 13 1)) a 0 (by omega) (PG_of hP) hc (Zin_zone hst hz4) rfl ha0 (by omega) (fun _ => bb)
    · refine J_aload_n hC dX10_zoneText_34 rfl rfl ?_
      refine J_iconst (v := nI 1) hC dX10_zoneText_35 (by decide) ?_
      refine iX10_213 hC hM rfl ⟨by decide, by decide⟩ ⟨by decide, by decide⟩ (Nat.le_of_ble_eq_true rfl) dX10_zoneText_36 ?_
      refine c_X10_wrong hM (c := 1) c17 (fun υ hE => ?_)
      dsimp only [Option.toList_some, Option.toList_none, List.cons_append, List.nil_append]
      refine J_zreturn hC hR dX10_zoneText_39 (by decide) (by decide) (by decide) ?_
      exact hf _ _ (Or.inr ⟨hz4, pW_1 (m := 0) (by omega) bb (fun q => q.1 rfl)⟩) (PE_setA (PE_tr (PG_of hP) hE))
  · refine J_aload_n hC dX10_zoneText_10 rfl rfl ?_
    refine J_iconst (v := nI 3) hC dX10_zoneText_11 (by decide) ?_
    refine iX10_213 hC hM rfl ⟨by decide, by decide⟩ ⟨by decide, by decide⟩ (Nat.le_of_ble_eq_true rfl) dX10_zoneText_12 ?_
    refine c_X10_wrong hM (c := 3) h17 (fun υ hE => ?_)
    dsimp only [Option.toList_some, Option.toList_none, List.cons_append, List.nil_append]
    refine J_zreturn hC hR dX10_zoneText_15 (by decide) (by decide) (by decide) ?_
    exact hf _ _ (Or.inl ⟨b0, rfl⟩) (PR_of hE)
set_option maxHeartbeats 4000000 in
set_option maxRecDepth 100000 in
theorem c_X10_colourText {G : GC} {w : Lay} {σ : Mem} {Q : Lay → Option Value → Mem → Prop} {Qx : Lay → String → Mem → Prop} (hM : LM w) {t : Nat → Nat} {L a p : Nat} (hX : TX σ t L) (ha : atR σ a) (ha0 : a ≤ L) (h17 : rd σ 13 0 17 = nI p) {nz nc nk : Nat} (hst : Pst nz nc 0 (rd σ 13 1)) (hok : ∀ (σ' : Mem) (a1 v a2 : Nat), nc < 6 → pNum t L 0 9 a = .inr (a1, v) → pEnd t L a1 = .inr a2 → v ≤ 9 → PG (setA σ (colourA (rd σ 13 1) (nI v))) σ' → atR σ' a2 → a2 ≤ L → Q w (some (.int (nI 1))) σ') (hf : ∀ (σ' : Mem) (e : Nat × Nat), ((nc = 6 ∧ e = (3, p)) ∨ (nc < 6 ∧ pNum t L 0 9 a = .inl e) ∨ (nc < 6 ∧ ∃ a1 v, pNum t L 0 9 a = .inr (a1, v) ∧ pEnd t L a1 = .inl e)) → PR σ σ' e → Q w (some (.int (nI 0))) σ') : MX10_colourText G w σ [.ref (w.2.1 13 0)] Q Qx := by
  refine mt_start (by decide) rfl (Nat.le_of_ble_eq_true rfl) (fun E hC hR hN => ?_)
  show J G E w 0 0 0 [some (.ref (w.2.1 13 0))] [] σ
  refine J_aload_n hC dX10_colourText_0 rfl rfl ?_
  refine gX10_7 hC hM dX10_colourText_1 ?_
  refine J_iconst (v := nI 5) hC dX10_colourText_4 (by decide) ?_
  refine J_iaload hC (hM.1 1 (by decide)) rfl rfl (by omega) (by decide) dX10_colourText_5 ?_
  have hc9 := hst.2.2.2.1.2
  refine J_top hst.2.2.2.1.1 ?_
  refine J_bipush (v := nI 6) hC dX10_colourText_6 (by decide) ?_
  refine J_icmp_ne_n hC (by omega) (by decide) (tgt := 17) dX10_colourText_8 rfl (fun b0 => ?_) (fun b0 => ?_)
  · have hc6 : nc < 6 := by omega
    refine J_aload_n hC dX10_colourText_17 rfl rfl ?_
    refine J_iconst (v := nI 0) hC dX10_colourText_18 (by decide) ?_
    refine J_bipush (v := nI 9) hC dX10_colourText_19 (by decide) ?_
    refine iX10_216 hC hM rfl ⟨by decide, by decide⟩ ⟨by decide, by decide⟩ (Nat.le_of_ble_eq_true rfl) dX10_colourText_21 ?_
    refine c_X10_numeral hM hX ha ha0 (by decide) (by decide) (fun τ => ?_) (fun τ => ?_)
    · dsimp only [Option.toList_some, Option.toList_none, List.cons_append, List.nil_append]
      intro a1 v1 e1 hP h16 hl1 h19 hlo1 hhi1
      have hRw : rd τ 13 1 = rd σ 13 1 := PF_1 hP
      refine J_if_ne_n hC (by decide) (tgt := 29) dX10_colourText_24 rfl (fun _ => ?_) (fun hf => absurd hf (by omega))
      refine J_aload_n hC dX10_colourText_29 rfl rfl ?_
      refine J_aload_n hC dX10_colourText_30 rfl rfl ?_
      refine gX10_203 hC hM dX10_colourText_31 ?_
      refine J_top h19 ?_
      refine iX10_54 hC hM rfl ⟨by decide, by decide⟩ ⟨by decide, by decide⟩ (Nat.le_of_ble_eq_true rfl) dX10_colourText_34 ?_
      refine c_X10_colour hM (by rw [hRw]; exact hst.2.2.2.1.1.trans (congrArg nI (nv_of hst.2.2.2.1.1 (by omega)).symm)) (by rw [hRw, nv_of hst.2.2.2.1.1 (by omega)]; exact hc6) ?_
      dsimp only [Option.toList_some, Option.toList_none, List.cons_append, List.nil_append]
      rw [hRw]
      refine J_aload_n hC dX10_colourText_37 rfl rfl ?_
      refine iX10_219 hC hM rfl ⟨by decide, by decide⟩ ⟨by decide, by decide⟩ (Nat.le_of_ble_eq_true rfl) dX10_colourText_38 ?_
      refine c_X10_ends hM (TX_setA (TX_PF hX hP)) (atR_setA h16) hl1 (fun τ2 => ?_) (fun τ2 => ?_)
      · dsimp only [Option.toList_some, Option.toList_none, List.cons_append, List.nil_append]
        intro a2 e2 hP2 h162 hl2
        refine J_zreturn hC hR dX10_colourText_41 (by decide) (by decide) (by decide) ?_
        exact hok _ a1 v1 _ hc6 e1 e2 hhi1 (PG_tr (PG_setA (PG_of hP)) (PG_of hP2)) h162 hl2
      · dsimp only [Option.toList_some, Option.toList_none, List.cons_append, List.nil_append]
        intro er e2 hE
        refine J_zreturn hC hR dX10_colourText_41 (by decide) (by decide) (by decide) ?_
        exact hf _ _ (Or.inr (Or.inr ⟨hc6, a1, v1, e1, e2⟩)) (PE_setA (PE_tr (PG_setA (PG_of hP)) hE))
    · dsimp only [Option.toList_some, Option.toList_none, List.cons_append, List.nil_append]
      intro er e1 hE
      refine J_if_ne_n hC (by decide) (tgt := 29) dX10_colourText_24 rfl (fun hf => absurd hf (by omega)) (fun _ => ?_)
      refine J_iconst (v := nI 0) hC dX10_colourText_27 (by decide) ?_
      refine J_zreturn hC hR dX10_colourText_28 (by decide) (by decide) (by decide) ?_
      exact hf _ _ (Or.inr (Or.inl ⟨hc6, e1⟩)) (PR_of hE)
  · refine J_aload_n hC dX10_colourText_11 rfl rfl ?_
    refine J_iconst (v := nI 3) hC dX10_colourText_12 (by decide) ?_
    refine iX10_213 hC hM rfl ⟨by decide, by decide⟩ ⟨by decide, by decide⟩ (Nat.le_of_ble_eq_true rfl) dX10_colourText_13 ?_
    refine c_X10_wrong hM (c := 3) h17 (fun υ hE => ?_)
    dsimp only [Option.toList_some, Option.toList_none, List.cons_append, List.nil_append]
    refine J_zreturn hC hR dX10_colourText_16 (by decide) (by decide) (by decide) ?_
    exact hf _ _ (Or.inl ⟨b0, rfl⟩) (PR_of hE)
set_option maxHeartbeats 4000000 in
set_option maxRecDepth 100000 in
theorem c_X10_kiteText {G : GC} {w : Lay} {σ : Mem} {Q : Lay → Option Value → Mem → Prop} {Qx : Lay → String → Mem → Prop} (hM : LM w) {t : Nat → Nat} {L a p : Nat} (hX : TX σ t L) (ha : atR σ a) (ha0 : a ≤ L) (h17 : rd σ 13 0 17 = nI p) {nz nc nk : Nat} (hc1 : 1 ≤ nc) (hst : Pst nz nc nk (rd σ 13 1)) (hok : ∀ (σ' : Mem) (A' : Rw) (a' : Nat), nk < 16 → pKite t L (rd σ 13 1) a = .inr (A', a') → PG (setA σ A') σ' → atR σ' a' → a' ≤ L → Pst nz nc (nk + 1) A' → Q w (some (.int (nI 1))) σ') (hf : ∀ (σ' : Mem) (e : Nat × Nat), ((nk = 16 ∧ e = (3, p)) ∨ (nk < 16 ∧ pKite t L (rd σ 13 1) a = .inl e)) → PR σ σ' e → Q w (some (.int (nI 0))) σ') : MX10_kiteText G w σ [.ref (w.2.1 13 0)] Q Qx := by
  refine mt_start (by decide) rfl (Nat.le_of_ble_eq_true rfl) (fun E hC hR hN => ?_)
  show J G E w 0 0 0 [some (.ref (w.2.1 13 0))] [] σ
  refine J_aload_n hC dX10_kiteText_0 rfl rfl ?_
  refine gX10_7 hC hM dX10_kiteText_1 ?_
  refine J_bipush (v := nI 6) hC dX10_kiteText_4 (by decide) ?_
  refine J_iaload hC (hM.1 1 (by decide)) rfl rfl (by omega) (by decide) dX10_kiteText_6 ?_
  have hk9 := hst.2.2.2.2.2.1.2
  refine J_top hst.2.2.2.2.2.1.1 ?_
  refine J_bipush (v := nI 16) hC dX10_kiteText_7 (by decide) ?_
  refine J_icmp_ne_n hC (by omega) (by decide) (tgt := 18) dX10_kiteText_9 rfl (fun b0 => ?_) (fun b0 => ?_)
  · have hk16 : nk < 16 := by omega
    refine J_aload_n hC dX10_kiteText_18 rfl rfl ?_
    refine J_iconst (v := nI 0) hC dX10_kiteText_19 (by decide) ?_
    refine J_iconst (v := nI 0) hC dX10_kiteText_20 (by decide) ?_
    refine J_aload_n hC dX10_kiteText_21 rfl rfl ?_
    refine gX10_7 hC hM dX10_kiteText_22 ?_
    refine J_iconst (v := nI 0) hC dX10_kiteText_25 (by decide) ?_
    refine J_iaload hC (hM.1 1 (by decide)) rfl rfl (by omega) (by decide) dX10_kiteText_26 ?_
    have w9 := hst.1.1.2
    refine J_top hst.1.1.1 ?_
    refine J_iconst (v := nI 1) hC dX10_kiteText_27 (by decide) ?_
    refine J_isub_n hC (by omega) dX10_kiteText_28 ?_
    refine iX10_223 hC hM rfl ⟨by decide, by decide⟩ ⟨by decide, by decide⟩ (Nat.le_of_ble_eq_true rfl) dX10_kiteText_29 ?_
    refine c_X10_one hM hX ha ha0 (by decide) (by omega) (by omega) (fun μ0 => ?_) (fun μ0 => ?_)
    · dsimp only [Option.toList_some, Option.toList_none, List.cons_append, List.nil_append]
      intro a0 v0 e0 hP0 hat0 hl0 lo0 hi0
      have hX0 : TX μ0 t L := TX_PG hX (PG_tr (PG_wr (by unfold PGx PFx; omega)) (PG_of hP0))
      have hR0 : rd μ0 13 1 = rd σ 13 1 := (PF_1 hP0).trans ((rd_wr_cell (by decide)))
      have hG0 : PG σ μ0 := (PG_tr (PG_wr (by unfold PGx PFx; omega)) (PG_of hP0))
      have w0_0 : rd μ0 13 7 0 = nI v0 := by rw [PF_7 hP0]; exact rd_wr_s
      refine J_if_eq_n hC (by decide) (tgt := 63) dX10_kiteText_32 rfl (fun hf => absurd hf (by omega)) (fun _ => ?_)
      refine J_aload_n hC dX10_kiteText_35 rfl rfl ?_
      refine J_iconst (v := nI 1) hC dX10_kiteText_36 (by decide) ?_
      refine J_iconst (v := nI 0) hC dX10_kiteText_37 (by decide) ?_
      refine J_aload_n hC dX10_kiteText_38 rfl rfl ?_
      refine gX10_7 hC hM dX10_kiteText_39 ?_
      refine J_iconst (v := nI 1) hC dX10_kiteText_42 (by decide) ?_
      refine J_iaload hC (hM.1 1 (by decide)) rfl rfl (by omega) (by decide) dX10_kiteText_43 ?_
      have w8 := hst.1.2.1.2
      refine J_top (show _ = nI (nv (rd σ 13 1) 1) from by rw [hR0]; exact hst.1.2.1.1) ?_
      refine J_iconst (v := nI 1) hC dX10_kiteText_44 (by decide) ?_
      refine J_isub_n hC (by omega) dX10_kiteText_45 ?_
      refine iX10_223 hC hM rfl ⟨by decide, by decide⟩ ⟨by decide, by decide⟩ (Nat.le_of_ble_eq_true rfl) dX10_kiteText_46 ?_
      refine c_X10_one hM hX0 hat0 hl0 (by decide) (by omega) (by omega) (fun μ1 => ?_) (fun μ1 => ?_)
      · dsimp only [Option.toList_some, Option.toList_none, List.cons_append, List.nil_append]
        intro a1 v1 e1 hP1 hat1 hl1 lo1 hi1
        have hX1 : TX μ1 t L := TX_PG hX0 (PG_tr (PG_wr (by unfold PGx PFx; omega)) (PG_of hP1))
        have hR1 : rd μ1 13 1 = rd σ 13 1 := (PF_1 hP1).trans ((rd_wr_cell (by decide)).trans hR0)
        have hG1 : PG σ μ1 := PG_tr hG0 (PG_tr (PG_wr (by unfold PGx PFx; omega)) (PG_of hP1))
        have w1_0 : rd μ1 13 7 0 = nI v0 := by rw [PF_7 hP1, rd_wr_j (by decide)]; exact w0_0
        have w1_1 : rd μ1 13 7 1 = nI v1 := by rw [PF_7 hP1]; exact rd_wr_s
        refine J_if_eq_n hC (by decide) (tgt := 63) dX10_kiteText_49 rfl (fun hf => absurd hf (by omega)) (fun _ => ?_)
        refine J_aload_n hC dX10_kiteText_52 rfl rfl ?_
        refine J_iconst (v := nI 2) hC dX10_kiteText_53 (by decide) ?_
        refine J_iconst (v := nI 1) hC dX10_kiteText_54 (by decide) ?_
        refine J_bipush (v := nI 60) hC dX10_kiteText_55 (by decide) ?_
        refine iX10_223 hC hM rfl ⟨by decide, by decide⟩ ⟨by decide, by decide⟩ (Nat.le_of_ble_eq_true rfl) dX10_kiteText_57 ?_
        refine c_X10_one hM hX1 hat1 hl1 (by decide) (by omega) (by omega) (fun μ2 => ?_) (fun μ2 => ?_)
        · dsimp only [Option.toList_some, Option.toList_none, List.cons_append, List.nil_append]
          intro a2 v2 e2 hP2 hat2 hl2 lo2 hi2
          have hX2 : TX μ2 t L := TX_PG hX1 (PG_tr (PG_wr (by unfold PGx PFx; omega)) (PG_of hP2))
          have hR2 : rd μ2 13 1 = rd σ 13 1 := (PF_1 hP2).trans ((rd_wr_cell (by decide)).trans hR1)
          have hG2 : PG σ μ2 := PG_tr hG1 (PG_tr (PG_wr (by unfold PGx PFx; omega)) (PG_of hP2))
          have w2_0 : rd μ2 13 7 0 = nI v0 := by rw [PF_7 hP2, rd_wr_j (by decide)]; exact w1_0
          have w2_1 : rd μ2 13 7 1 = nI v1 := by rw [PF_7 hP2, rd_wr_j (by decide)]; exact w1_1
          have w2_2 : rd μ2 13 7 2 = nI v2 := by rw [PF_7 hP2]; exact rd_wr_s
          refine J_if_ne_n hC (by decide) (tgt := 65) dX10_kiteText_60 rfl (fun _ => ?_) (fun hf => absurd hf (by omega))
          refine J_aload_n hC dX10_kiteText_65 rfl rfl ?_
          refine J_iconst (v := nI 3) hC dX10_kiteText_66 (by decide) ?_
          refine J_iconst (v := nI 0) hC dX10_kiteText_67 (by decide) ?_
          refine J_aload_n hC dX10_kiteText_68 rfl rfl ?_
          refine gX10_7 hC hM dX10_kiteText_69 ?_
          refine J_iconst (v := nI 5) hC dX10_kiteText_72 (by decide) ?_
          refine J_iaload hC (hM.1 1 (by decide)) rfl rfl (by omega) (by decide) dX10_kiteText_73 ?_
          have w7 := hst.2.2.2.1.2
          have w6 : nv (rd σ 13 1) 5 = nc := nv_of hst.2.2.2.1.1 (by omega)
          refine J_top (show _ = nI nc from by rw [hR2]; exact hst.2.2.2.1.1) ?_
          refine J_iconst (v := nI 1) hC dX10_kiteText_74 (by decide) ?_
          refine J_isub_n hC (by omega) dX10_kiteText_75 ?_
          refine iX10_223 hC hM rfl ⟨by decide, by decide⟩ ⟨by decide, by decide⟩ (Nat.le_of_ble_eq_true rfl) dX10_kiteText_76 ?_
          refine c_X10_one hM hX2 hat2 hl2 (by decide) (by omega) (by omega) (fun μ3 => ?_) (fun μ3 => ?_)
          · dsimp only [Option.toList_some, Option.toList_none, List.cons_append, List.nil_append]
            intro a3 v3 e3 hP3 hat3 hl3 lo3 hi3
            have hX3 : TX μ3 t L := TX_PG hX2 (PG_tr (PG_wr (by unfold PGx PFx; omega)) (PG_of hP3))
            have hR3 : rd μ3 13 1 = rd σ 13 1 := (PF_1 hP3).trans ((rd_wr_cell (by decide)).trans hR2)
            have hG3 : PG σ μ3 := PG_tr hG2 (PG_tr (PG_wr (by unfold PGx PFx; omega)) (PG_of hP3))
            have w3_0 : rd μ3 13 7 0 = nI v0 := by rw [PF_7 hP3, rd_wr_j (by decide)]; exact w2_0
            have w3_1 : rd μ3 13 7 1 = nI v1 := by rw [PF_7 hP3, rd_wr_j (by decide)]; exact w2_1
            have w3_2 : rd μ3 13 7 2 = nI v2 := by rw [PF_7 hP3, rd_wr_j (by decide)]; exact w2_2
            have w3_3 : rd μ3 13 7 3 = nI v3 := by rw [PF_7 hP3]; exact rd_wr_s
            refine J_if_eq_n hC (by decide) (tgt := 105) dX10_kiteText_79 rfl (fun hf => absurd hf (by omega)) (fun _ => ?_)
            refine J_aload_n hC dX10_kiteText_82 rfl rfl ?_
            refine J_iconst (v := nI 4) hC dX10_kiteText_83 (by decide) ?_
            refine J_iconst (v := nI 0) hC dX10_kiteText_84 (by decide) ?_
            refine J_bipush (v := nI 9) hC dX10_kiteText_85 (by decide) ?_
            refine iX10_223 hC hM rfl ⟨by decide, by decide⟩ ⟨by decide, by decide⟩ (Nat.le_of_ble_eq_true rfl) dX10_kiteText_87 ?_
            refine c_X10_one hM hX3 hat3 hl3 (by decide) (by omega) (by omega) (fun μ4 => ?_) (fun μ4 => ?_)
            · dsimp only [Option.toList_some, Option.toList_none, List.cons_append, List.nil_append]
              intro a4 v4 e4 hP4 hat4 hl4 lo4 hi4
              have hX4 : TX μ4 t L := TX_PG hX3 (PG_tr (PG_wr (by unfold PGx PFx; omega)) (PG_of hP4))
              have hR4 : rd μ4 13 1 = rd σ 13 1 := (PF_1 hP4).trans ((rd_wr_cell (by decide)).trans hR3)
              have hG4 : PG σ μ4 := PG_tr hG3 (PG_tr (PG_wr (by unfold PGx PFx; omega)) (PG_of hP4))
              have w4_0 : rd μ4 13 7 0 = nI v0 := by rw [PF_7 hP4, rd_wr_j (by decide)]; exact w3_0
              have w4_1 : rd μ4 13 7 1 = nI v1 := by rw [PF_7 hP4, rd_wr_j (by decide)]; exact w3_1
              have w4_2 : rd μ4 13 7 2 = nI v2 := by rw [PF_7 hP4, rd_wr_j (by decide)]; exact w3_2
              have w4_3 : rd μ4 13 7 3 = nI v3 := by rw [PF_7 hP4, rd_wr_j (by decide)]; exact w3_3
              have w4_4 : rd μ4 13 7 4 = nI v4 := by rw [PF_7 hP4]; exact rd_wr_s
              refine J_if_eq_n hC (by decide) (tgt := 105) dX10_kiteText_90 rfl (fun hf => absurd hf (by omega)) (fun _ => ?_)
              refine J_aload_n hC dX10_kiteText_93 rfl rfl ?_
              refine J_iconst (v := nI 5) hC dX10_kiteText_94 (by decide) ?_
              refine J_iconst (v := nI 0) hC dX10_kiteText_95 (by decide) ?_
              refine J_sipush (v := nI 999) hC dX10_kiteText_96 (by decide) ?_
              refine iX10_223 hC hM rfl ⟨by decide, by decide⟩ ⟨by decide, by decide⟩ (Nat.le_of_ble_eq_true rfl) dX10_kiteText_99 ?_
              refine c_X10_one hM hX4 hat4 hl4 (by decide) (by omega) (by omega) (fun μ5 => ?_) (fun μ5 => ?_)
              · dsimp only [Option.toList_some, Option.toList_none, List.cons_append, List.nil_append]
                intro a5 v5 e5 hP5 hat5 hl5 lo5 hi5
                have hX5 : TX μ5 t L := TX_PG hX4 (PG_tr (PG_wr (by unfold PGx PFx; omega)) (PG_of hP5))
                have hR5 : rd μ5 13 1 = rd σ 13 1 := (PF_1 hP5).trans ((rd_wr_cell (by decide)).trans hR4)
                have hG5 : PG σ μ5 := PG_tr hG4 (PG_tr (PG_wr (by unfold PGx PFx; omega)) (PG_of hP5))
                have w5_0 : rd μ5 13 7 0 = nI v0 := by rw [PF_7 hP5, rd_wr_j (by decide)]; exact w4_0
                have w5_1 : rd μ5 13 7 1 = nI v1 := by rw [PF_7 hP5, rd_wr_j (by decide)]; exact w4_1
                have w5_2 : rd μ5 13 7 2 = nI v2 := by rw [PF_7 hP5, rd_wr_j (by decide)]; exact w4_2
                have w5_3 : rd μ5 13 7 3 = nI v3 := by rw [PF_7 hP5, rd_wr_j (by decide)]; exact w4_3
                have w5_4 : rd μ5 13 7 4 = nI v4 := by rw [PF_7 hP5, rd_wr_j (by decide)]; exact w4_4
                have w5_5 : rd μ5 13 7 5 = nI v5 := by rw [PF_7 hP5]; exact rd_wr_s
                refine J_if_ne_n hC (by decide) (tgt := 107) dX10_kiteText_102 rfl (fun _ => ?_) (fun hf => absurd hf (by omega))
                refine J_aload_n hC dX10_kiteText_107 rfl rfl ?_
                refine J_aload_n hC dX10_kiteText_108 rfl rfl ?_
                refine gX10_34 hC hM dX10_kiteText_109 ?_
                refine J_iconst (v := nI 0) hC dX10_kiteText_112 (by decide) ?_
                refine J_iaload hC (hM.1 7 (by decide)) rfl rfl (by omega) (by decide) dX10_kiteText_113 ?_
                refine J_top w5_0 ?_
                refine J_aload_n hC dX10_kiteText_114 rfl rfl ?_
                refine gX10_34 hC hM dX10_kiteText_115 ?_
                refine J_iconst (v := nI 1) hC dX10_kiteText_118 (by decide) ?_
                refine J_iaload hC (hM.1 7 (by decide)) rfl rfl (by omega) (by decide) dX10_kiteText_119 ?_
                refine J_top w5_1 ?_
                refine J_aload_n hC dX10_kiteText_120 rfl rfl ?_
                refine gX10_34 hC hM dX10_kiteText_121 ?_
                refine J_iconst (v := nI 2) hC dX10_kiteText_124 (by decide) ?_
                refine J_iaload hC (hM.1 7 (by decide)) rfl rfl (by omega) (by decide) dX10_kiteText_125 ?_
                refine J_top w5_2 ?_
                refine J_aload_n hC dX10_kiteText_126 rfl rfl ?_
                refine gX10_34 hC hM dX10_kiteText_127 ?_
                refine J_iconst (v := nI 3) hC dX10_kiteText_130 (by decide) ?_
                refine J_iaload hC (hM.1 7 (by decide)) rfl rfl (by omega) (by decide) dX10_kiteText_131 ?_
                refine J_top w5_3 ?_
                refine J_aload_n hC dX10_kiteText_132 rfl rfl ?_
                refine gX10_34 hC hM dX10_kiteText_133 ?_
                refine J_iconst (v := nI 4) hC dX10_kiteText_136 (by decide) ?_
                refine J_iaload hC (hM.1 7 (by decide)) rfl rfl (by omega) (by decide) dX10_kiteText_137 ?_
                refine J_top w5_4 ?_
                refine J_aload_n hC dX10_kiteText_138 rfl rfl ?_
                refine gX10_34 hC hM dX10_kiteText_139 ?_
                refine J_iconst (v := nI 5) hC dX10_kiteText_142 (by decide) ?_
                refine J_iaload hC (hM.1 7 (by decide)) rfl rfl (by omega) (by decide) dX10_kiteText_143 ?_
                refine J_top w5_5 ?_
                refine iX10_58 hC hM rfl ⟨by decide, by decide⟩ ⟨by decide, by decide⟩ (Nat.le_of_ble_eq_true rfl) dX10_kiteText_144 ?_
                refine c_X10_kite hM (by rw [hR5]; exact hst.2.2.2.2.2.1.1.trans (congrArg nI (nv_of hst.2.2.2.2.2.1.1 (by omega)).symm)) (by rw [hR5, nv_of hst.2.2.2.2.2.1.1 (by omega)]; exact hk16) ?_
                dsimp only [Option.toList_some, Option.toList_none, List.cons_append, List.nil_append]
                rw [hR5]
                refine J_pop hC dX10_kiteText_147 rfl ?_
                refine J_aload_n hC dX10_kiteText_148 rfl rfl ?_
                refine iX10_219 hC hM rfl ⟨by decide, by decide⟩ ⟨by decide, by decide⟩ (Nat.le_of_ble_eq_true rfl) dX10_kiteText_149 ?_
                refine c_X10_ends hM (TX_setA hX5) (atR_setA hat5) hl5 (fun μ9 => ?_) (fun μ9 => ?_)
                · dsimp only [Option.toList_some, Option.toList_none, List.cons_append, List.nil_append]
                  intro a9 e9 hP9 hat9 hl9
                  refine J_zreturn hC hR dX10_kiteText_152 (by decide) (by decide) (by decide) ?_
                  refine hok μ9 _ a9 hk16 ?_ (PG_tr (PG_setA hG5) (PG_of hP9)) hat9 hl9 (Pst_kite hst hk16 (by omega) (by omega) (by omega) (by omega) (by omega))
                  unfold pKite
                  rw [w6]
                  refine (bnd_r e0).trans ?_
                  refine (bnd_r e1).trans ?_
                  refine (bnd_r e2).trans ?_
                  refine (bnd_r e3).trans ?_
                  refine (bnd_r e4).trans ?_
                  refine (bnd_r e5).trans ?_
                  exact bnd_r e9
                · dsimp only [Option.toList_some, Option.toList_none, List.cons_append, List.nil_append]
                  intro er er1 hE
                  refine J_zreturn hC hR dX10_kiteText_152 (by decide) (by decide) (by decide) ?_
                  refine hf _ er (Or.inr ⟨hk16, ?_⟩) (PE_setA (PE_tr (PG_setA hG5) hE))
                  unfold pKite
                  rw [w6]
                  refine (bnd_r e0).trans ?_
                  refine (bnd_r e1).trans ?_
                  refine (bnd_r e2).trans ?_
                  refine (bnd_r e3).trans ?_
                  refine (bnd_r e4).trans ?_
                  refine (bnd_r e5).trans ?_
                  exact bnd_l er1
              · dsimp only [Option.toList_some, Option.toList_none, List.cons_append, List.nil_append]
                intro er er1 hE
                refine J_if_ne_n hC (by decide) (tgt := 107) dX10_kiteText_102 rfl (fun hf => absurd hf (by omega)) (fun _ => ?_)
                refine J_iconst (v := nI 0) hC dX10_kiteText_105 (by decide) ?_
                refine J_zreturn hC hR dX10_kiteText_106 (by decide) (by decide) (by decide) ?_
                refine hf _ er (Or.inr ⟨hk16, ?_⟩) (PR_of (PE_tr hG4 hE))
                unfold pKite
                rw [w6]
                refine (bnd_r e0).trans ?_
                refine (bnd_r e1).trans ?_
                refine (bnd_r e2).trans ?_
                refine (bnd_r e3).trans ?_
                refine (bnd_r e4).trans ?_
                exact bnd_l er1
            · dsimp only [Option.toList_some, Option.toList_none, List.cons_append, List.nil_append]
              intro er er1 hE
              refine J_if_eq_n hC (by decide) (tgt := 105) dX10_kiteText_90 rfl (fun _ => ?_) (fun hf => absurd hf (by omega))
              refine J_iconst (v := nI 0) hC dX10_kiteText_105 (by decide) ?_
              refine J_zreturn hC hR dX10_kiteText_106 (by decide) (by decide) (by decide) ?_
              refine hf _ er (Or.inr ⟨hk16, ?_⟩) (PR_of (PE_tr hG3 hE))
              unfold pKite
              rw [w6]
              refine (bnd_r e0).trans ?_
              refine (bnd_r e1).trans ?_
              refine (bnd_r e2).trans ?_
              refine (bnd_r e3).trans ?_
              exact bnd_l er1
          · dsimp only [Option.toList_some, Option.toList_none, List.cons_append, List.nil_append]
            intro er er1 hE
            refine J_if_eq_n hC (by decide) (tgt := 105) dX10_kiteText_79 rfl (fun _ => ?_) (fun hf => absurd hf (by omega))
            refine J_iconst (v := nI 0) hC dX10_kiteText_105 (by decide) ?_
            refine J_zreturn hC hR dX10_kiteText_106 (by decide) (by decide) (by decide) ?_
            refine hf _ er (Or.inr ⟨hk16, ?_⟩) (PR_of (PE_tr hG2 hE))
            unfold pKite
            rw [w6]
            refine (bnd_r e0).trans ?_
            refine (bnd_r e1).trans ?_
            refine (bnd_r e2).trans ?_
            exact bnd_l er1
        · dsimp only [Option.toList_some, Option.toList_none, List.cons_append, List.nil_append]
          intro er er1 hE
          refine J_if_ne_n hC (by decide) (tgt := 65) dX10_kiteText_60 rfl (fun hf => absurd hf (by omega)) (fun _ => ?_)
          refine J_iconst (v := nI 0) hC dX10_kiteText_63 (by decide) ?_
          refine J_zreturn hC hR dX10_kiteText_64 (by decide) (by decide) (by decide) ?_
          refine hf _ er (Or.inr ⟨hk16, ?_⟩) (PR_of (PE_tr hG1 hE))
          unfold pKite
          refine (bnd_r e0).trans ?_
          refine (bnd_r e1).trans ?_
          exact bnd_l er1
      · dsimp only [Option.toList_some, Option.toList_none, List.cons_append, List.nil_append]
        intro er er1 hE
        refine J_if_eq_n hC (by decide) (tgt := 63) dX10_kiteText_49 rfl (fun _ => ?_) (fun hf => absurd hf (by omega))
        refine J_iconst (v := nI 0) hC dX10_kiteText_63 (by decide) ?_
        refine J_zreturn hC hR dX10_kiteText_64 (by decide) (by decide) (by decide) ?_
        refine hf _ er (Or.inr ⟨hk16, ?_⟩) (PR_of (PE_tr hG0 hE))
        unfold pKite
        refine (bnd_r e0).trans ?_
        exact bnd_l er1
    · dsimp only [Option.toList_some, Option.toList_none, List.cons_append, List.nil_append]
      intro er er1 hE
      refine J_if_eq_n hC (by decide) (tgt := 63) dX10_kiteText_32 rfl (fun _ => ?_) (fun hf => absurd hf (by omega))
      refine J_iconst (v := nI 0) hC dX10_kiteText_63 (by decide) ?_
      refine J_zreturn hC hR dX10_kiteText_64 (by decide) (by decide) (by decide) ?_
      refine hf _ er (Or.inr ⟨hk16, ?_⟩) (PR_of hE)
      unfold pKite
      exact bnd_l er1
  · refine J_aload_n hC dX10_kiteText_12 rfl rfl ?_
    refine J_iconst (v := nI 3) hC dX10_kiteText_13 (by decide) ?_
    refine iX10_213 hC hM rfl ⟨by decide, by decide⟩ ⟨by decide, by decide⟩ (Nat.le_of_ble_eq_true rfl) dX10_kiteText_14 ?_
    refine c_X10_wrong hM (c := 3) h17 (fun υ hE => ?_)
    dsimp only [Option.toList_some, Option.toList_none, List.cons_append, List.nil_append]
    refine J_zreturn hC hR dX10_kiteText_17 (by decide) (by decide) (by decide) ?_
    exact hf _ _ (Or.inl ⟨b0, rfl⟩) (PR_of hE)
set_option maxHeartbeats 4000000 in
set_option maxRecDepth 100000 in
theorem c_X10_fieldText {G : GC} {w : Lay} {σ : Mem} {Q : Lay → Option Value → Mem → Prop} {Qx : Lay → String → Mem → Prop} (hM : LM w) {t : Nat → Nat} {L a : Nat} (hX : TX σ t L) (ha : atR σ a) (ha0 : a ≤ L) (hcl : ∀ j, j < 304 → rd σ 13 1 j = nI 0) (hok : ∀ (σ' : Mem) (A' : Rw) (a' : Nat), pField t L (rd σ 13 1) a = .inr (A', a') → PG (setA σ A') σ' → atR σ' a' → a' ≤ L → Pst 0 0 0 A' → Q w (some (.int (nI 1))) σ') (hf : ∀ (σ' : Mem) (e : Nat × Nat), pField t L (rd σ 13 1) a = .inl e → PR σ σ' e → Q w (some (.int (nI 0))) σ') : MX10_fieldText G w σ [.ref (w.2.1 13 0)] Q Qx := by
  refine mt_start (by decide) rfl (Nat.le_of_ble_eq_true rfl) (fun E hC hR hN => ?_)
  show J G E w 0 0 0 [some (.ref (w.2.1 13 0))] [] σ
  refine J_aload_n hC dX10_fieldText_0 rfl rfl ?_
  refine iX10_210 hC hM rfl ⟨by decide, by decide⟩ ⟨by decide, by decide⟩ (Nat.le_of_ble_eq_true rfl) dX10_fieldText_1 ?_
  refine c_X10_next hM hX ha ha0 (fun τ hP hc => ?_)
  dsimp only [Option.toList_some, Option.toList_none, List.cons_append, List.nil_append]
  have hc9 := hc
  obtain ⟨c17, c18, c16, c19, -⟩ := hc9
  have hs := skip_le (t := t) ha0
  have he := endT_le (t := t) hs.2
  have hL5 := hX.2.2
  have hXt := TX_PF hX hP
  refine J_aload_n hC dX10_fieldText_4 rfl rfl ?_
  refine J_ldc2 (v := 6591876) hC dX10_fieldText_5 q7_73 ?_
  refine iX10_228 hC hM rfl ⟨by decide, by decide⟩ ⟨by decide, by decide⟩ (Nat.le_of_ble_eq_true rfl) dX10_fieldText_8 ?_
  refine c_X10_isWord hM okW_FIELD hL5 hs.2 hc (fun bw => ?_) (fun bw => ?_)
  · dsimp only [Option.toList_some, Option.toList_none, List.cons_append, List.nil_append]
    refine J_if_ne_n hC (by decide) (tgt := 20) dX10_fieldText_11 rfl (fun _ => ?_) (fun hf => absurd hf (by omega))
    refine J_aload_n hC dX10_fieldText_20 rfl rfl ?_
    refine J_iconst (v := nI 0) hC dX10_fieldText_21 (by decide) ?_
    refine J_bipush (v := nI 10) hC dX10_fieldText_22 (by decide) ?_
    refine J_bipush (v := nI 100) hC dX10_fieldText_24 (by decide) ?_
    refine iX10_223 hC hM rfl ⟨by decide, by decide⟩ ⟨by decide, by decide⟩ (Nat.le_of_ble_eq_true rfl) dX10_fieldText_26 ?_
    refine c_X10_one hM hXt c16 he.2 (by decide) (by decide) (by decide) (fun μ0 => ?_) (fun μ0 => ?_)
    · dsimp only [Option.toList_some, Option.toList_none, List.cons_append, List.nil_append]
      intro a0 v0 e0 hP0 hat0 hl0 lo0 hi0
      have hX0 : TX μ0 t L := TX_PG hXt (PG_tr (PG_wr (by unfold PGx PFx; omega)) (PG_of hP0))
      have hR0 : rd μ0 13 1 = rd σ 13 1 := (PF_1 hP0).trans ((rd_wr_cell (by decide)).trans (PF_1 hP))
      have hG0 : PG σ μ0 := PG_tr (PG_of hP) (PG_tr (PG_wr (by unfold PGx PFx; omega)) (PG_of hP0))
      have w0_0 : rd μ0 13 7 0 = nI v0 := by rw [PF_7 hP0]; exact rd_wr_s
      refine J_if_eq_n hC (by decide) (tgt := 66) dX10_fieldText_29 rfl (fun hf => absurd hf (by omega)) (fun _ => ?_)
      refine J_aload_n hC dX10_fieldText_32 rfl rfl ?_
      refine J_iconst (v := nI 1) hC dX10_fieldText_33 (by decide) ?_
      refine J_bipush (v := nI 10) hC dX10_fieldText_34 (by decide) ?_
      refine J_bipush (v := nI 100) hC dX10_fieldText_36 (by decide) ?_
      refine iX10_223 hC hM rfl ⟨by decide, by decide⟩ ⟨by decide, by decide⟩ (Nat.le_of_ble_eq_true rfl) dX10_fieldText_38 ?_
      refine c_X10_one hM hX0 hat0 hl0 (by decide) (by omega) (by omega) (fun μ1 => ?_) (fun μ1 => ?_)
      · dsimp only [Option.toList_some, Option.toList_none, List.cons_append, List.nil_append]
        intro a1 v1 e1 hP1 hat1 hl1 lo1 hi1
        have hX1 : TX μ1 t L := TX_PG hX0 (PG_tr (PG_wr (by unfold PGx PFx; omega)) (PG_of hP1))
        have hR1 : rd μ1 13 1 = rd σ 13 1 := (PF_1 hP1).trans ((rd_wr_cell (by decide)).trans hR0)
        have hG1 : PG σ μ1 := PG_tr hG0 (PG_tr (PG_wr (by unfold PGx PFx; omega)) (PG_of hP1))
        have w1_0 : rd μ1 13 7 0 = nI v0 := by rw [PF_7 hP1, rd_wr_j (by decide)]; exact w0_0
        have w1_1 : rd μ1 13 7 1 = nI v1 := by rw [PF_7 hP1]; exact rd_wr_s
        refine J_if_eq_n hC (by decide) (tgt := 66) dX10_fieldText_41 rfl (fun hf => absurd hf (by omega)) (fun _ => ?_)
        refine J_aload_n hC dX10_fieldText_44 rfl rfl ?_
        refine J_iconst (v := nI 2) hC dX10_fieldText_45 (by decide) ?_
        refine J_iconst (v := nI 0) hC dX10_fieldText_46 (by decide) ?_
        refine J_bipush (v := nI 20) hC dX10_fieldText_47 (by decide) ?_
        refine iX10_223 hC hM rfl ⟨by decide, by decide⟩ ⟨by decide, by decide⟩ (Nat.le_of_ble_eq_true rfl) dX10_fieldText_49 ?_
        refine c_X10_one hM hX1 hat1 hl1 (by decide) (by omega) (by omega) (fun μ2 => ?_) (fun μ2 => ?_)
        · dsimp only [Option.toList_some, Option.toList_none, List.cons_append, List.nil_append]
          intro a2 v2 e2 hP2 hat2 hl2 lo2 hi2
          have hX2 : TX μ2 t L := TX_PG hX1 (PG_tr (PG_wr (by unfold PGx PFx; omega)) (PG_of hP2))
          have hR2 : rd μ2 13 1 = rd σ 13 1 := (PF_1 hP2).trans ((rd_wr_cell (by decide)).trans hR1)
          have hG2 : PG σ μ2 := PG_tr hG1 (PG_tr (PG_wr (by unfold PGx PFx; omega)) (PG_of hP2))
          have w2_0 : rd μ2 13 7 0 = nI v0 := by rw [PF_7 hP2, rd_wr_j (by decide)]; exact w1_0
          have w2_1 : rd μ2 13 7 1 = nI v1 := by rw [PF_7 hP2, rd_wr_j (by decide)]; exact w1_1
          have w2_2 : rd μ2 13 7 2 = nI v2 := by rw [PF_7 hP2]; exact rd_wr_s
          refine J_if_eq_n hC (by decide) (tgt := 66) dX10_fieldText_52 rfl (fun hf => absurd hf (by omega)) (fun _ => ?_)
          refine J_aload_n hC dX10_fieldText_55 rfl rfl ?_
          refine J_iconst (v := nI 3) hC dX10_fieldText_56 (by decide) ?_
          refine J_iconst (v := nI 0) hC dX10_fieldText_57 (by decide) ?_
          refine J_bipush (v := nI 50) hC dX10_fieldText_58 (by decide) ?_
          refine iX10_223 hC hM rfl ⟨by decide, by decide⟩ ⟨by decide, by decide⟩ (Nat.le_of_ble_eq_true rfl) dX10_fieldText_60 ?_
          refine c_X10_one hM hX2 hat2 hl2 (by decide) (by omega) (by omega) (fun μ3 => ?_) (fun μ3 => ?_)
          · dsimp only [Option.toList_some, Option.toList_none, List.cons_append, List.nil_append]
            intro a3 v3 e3 hP3 hat3 hl3 lo3 hi3
            have hX3 : TX μ3 t L := TX_PG hX2 (PG_tr (PG_wr (by unfold PGx PFx; omega)) (PG_of hP3))
            have hR3 : rd μ3 13 1 = rd σ 13 1 := (PF_1 hP3).trans ((rd_wr_cell (by decide)).trans hR2)
            have hG3 : PG σ μ3 := PG_tr hG2 (PG_tr (PG_wr (by unfold PGx PFx; omega)) (PG_of hP3))
            have w3_0 : rd μ3 13 7 0 = nI v0 := by rw [PF_7 hP3, rd_wr_j (by decide)]; exact w2_0
            have w3_1 : rd μ3 13 7 1 = nI v1 := by rw [PF_7 hP3, rd_wr_j (by decide)]; exact w2_1
            have w3_2 : rd μ3 13 7 2 = nI v2 := by rw [PF_7 hP3, rd_wr_j (by decide)]; exact w2_2
            have w3_3 : rd μ3 13 7 3 = nI v3 := by rw [PF_7 hP3]; exact rd_wr_s
            refine J_if_ne_n hC (by decide) (tgt := 68) dX10_fieldText_63 rfl (fun _ => ?_) (fun hf => absurd hf (by omega))
            refine J_aload_n hC dX10_fieldText_68 rfl rfl ?_
            refine J_aload_n hC dX10_fieldText_69 rfl rfl ?_
            refine gX10_34 hC hM dX10_fieldText_70 ?_
            refine J_iconst (v := nI 0) hC dX10_fieldText_73 (by decide) ?_
            refine J_iaload hC (hM.1 7 (by decide)) rfl rfl (by omega) (by decide) dX10_fieldText_74 ?_
            refine J_top w3_0 ?_
            refine J_aload_n hC dX10_fieldText_75 rfl rfl ?_
            refine gX10_34 hC hM dX10_fieldText_76 ?_
            refine J_iconst (v := nI 1) hC dX10_fieldText_79 (by decide) ?_
            refine J_iaload hC (hM.1 7 (by decide)) rfl rfl (by omega) (by decide) dX10_fieldText_80 ?_
            refine J_top w3_1 ?_
            refine J_aload_n hC dX10_fieldText_81 rfl rfl ?_
            refine gX10_34 hC hM dX10_fieldText_82 ?_
            refine J_iconst (v := nI 2) hC dX10_fieldText_85 (by decide) ?_
            refine J_iaload hC (hM.1 7 (by decide)) rfl rfl (by omega) (by decide) dX10_fieldText_86 ?_
            refine J_top w3_2 ?_
            refine J_aload_n hC dX10_fieldText_87 rfl rfl ?_
            refine gX10_34 hC hM dX10_fieldText_88 ?_
            refine J_iconst (v := nI 3) hC dX10_fieldText_91 (by decide) ?_
            refine J_iaload hC (hM.1 7 (by decide)) rfl rfl (by omega) (by decide) dX10_fieldText_92 ?_
            refine J_top w3_3 ?_
            refine iX10_43 hC hM rfl ⟨by decide, by decide⟩ ⟨by decide, by decide⟩ (Nat.le_of_ble_eq_true rfl) dX10_fieldText_93 ?_
            refine c_X10_field hM ?_
            dsimp only [Option.toList_some, Option.toList_none, List.cons_append, List.nil_append]
            rw [hR3]
            refine J_aload_n hC dX10_fieldText_96 rfl rfl ?_
            refine iX10_219 hC hM rfl ⟨by decide, by decide⟩ ⟨by decide, by decide⟩ (Nat.le_of_ble_eq_true rfl) dX10_fieldText_97 ?_
            refine c_X10_ends hM (TX_setA hX3) (atR_setA hat3) hl3 (fun μ9 => ?_) (fun μ9 => ?_)
            · dsimp only [Option.toList_some, Option.toList_none, List.cons_append, List.nil_append]
              intro a9 e9 hP9 hat9 hl9
              refine J_zreturn hC hR dX10_fieldText_100 (by decide) (by decide) (by decide) ?_
              refine hok μ9 _ a9 ?_ (PG_tr (PG_setA hG3) (PG_of hP9)) hat9 hl9 (Pst_field hcl ⟨lo0, hi0⟩ ⟨lo1, hi1⟩ hi2 hi3)
              unfold pField
              refine (if_pos bw).trans ?_
              refine (bnd_r e0).trans ?_
              refine (bnd_r e1).trans ?_
              refine (bnd_r e2).trans ?_
              refine (bnd_r e3).trans ?_
              exact bnd_r e9
            · dsimp only [Option.toList_some, Option.toList_none, List.cons_append, List.nil_append]
              intro er er1 hE
              refine J_zreturn hC hR dX10_fieldText_100 (by decide) (by decide) (by decide) ?_
              refine hf _ er ?_ (PE_setA (PE_tr (PG_setA hG3) hE))
              unfold pField
              refine (if_pos bw).trans ?_
              refine (bnd_r e0).trans ?_
              refine (bnd_r e1).trans ?_
              refine (bnd_r e2).trans ?_
              refine (bnd_r e3).trans ?_
              exact bnd_l er1
          · dsimp only [Option.toList_some, Option.toList_none, List.cons_append, List.nil_append]
            intro er er1 hE
            refine J_if_ne_n hC (by decide) (tgt := 68) dX10_fieldText_63 rfl (fun hf => absurd hf (by omega)) (fun _ => ?_)
            refine J_iconst (v := nI 0) hC dX10_fieldText_66 (by decide) ?_
            refine J_zreturn hC hR dX10_fieldText_67 (by decide) (by decide) (by decide) ?_
            refine hf _ er ?_ (PR_of (PE_tr hG2 hE))
            unfold pField
            refine (if_pos bw).trans ?_
            refine (bnd_r e0).trans ?_
            refine (bnd_r e1).trans ?_
            refine (bnd_r e2).trans ?_
            exact bnd_l er1
        · dsimp only [Option.toList_some, Option.toList_none, List.cons_append, List.nil_append]
          intro er er1 hE
          refine J_if_eq_n hC (by decide) (tgt := 66) dX10_fieldText_52 rfl (fun _ => ?_) (fun hf => absurd hf (by omega))
          refine J_iconst (v := nI 0) hC dX10_fieldText_66 (by decide) ?_
          refine J_zreturn hC hR dX10_fieldText_67 (by decide) (by decide) (by decide) ?_
          refine hf _ er ?_ (PR_of (PE_tr hG1 hE))
          unfold pField
          refine (if_pos bw).trans ?_
          refine (bnd_r e0).trans ?_
          refine (bnd_r e1).trans ?_
          exact bnd_l er1
      · dsimp only [Option.toList_some, Option.toList_none, List.cons_append, List.nil_append]
        intro er er1 hE
        refine J_if_eq_n hC (by decide) (tgt := 66) dX10_fieldText_41 rfl (fun _ => ?_) (fun hf => absurd hf (by omega))
        refine J_iconst (v := nI 0) hC dX10_fieldText_66 (by decide) ?_
        refine J_zreturn hC hR dX10_fieldText_67 (by decide) (by decide) (by decide) ?_
        refine hf _ er ?_ (PR_of (PE_tr hG0 hE))
        unfold pField
        refine (if_pos bw).trans ?_
        refine (bnd_r e0).trans ?_
        exact bnd_l er1
    · dsimp only [Option.toList_some, Option.toList_none, List.cons_append, List.nil_append]
      intro er er1 hE
      refine J_if_eq_n hC (by decide) (tgt := 66) dX10_fieldText_29 rfl (fun _ => ?_) (fun hf => absurd hf (by omega))
      refine J_iconst (v := nI 0) hC dX10_fieldText_66 (by decide) ?_
      refine J_zreturn hC hR dX10_fieldText_67 (by decide) (by decide) (by decide) ?_
      refine hf _ er ?_ (PR_of (PE_tr (PG_of hP) hE))
      unfold pField
      refine (if_pos bw).trans ?_
      exact bnd_l er1
  · dsimp only [Option.toList_some, Option.toList_none, List.cons_append, List.nil_append]
    refine J_if_ne_n hC (by decide) (tgt := 20) dX10_fieldText_11 rfl (fun hf => absurd hf (by omega)) (fun _ => ?_)
    refine J_aload_n hC dX10_fieldText_14 rfl rfl ?_
    refine J_iconst (v := nI 1) hC dX10_fieldText_15 (by decide) ?_
    refine iX10_213 hC hM rfl ⟨by decide, by decide⟩ ⟨by decide, by decide⟩ (Nat.le_of_ble_eq_true rfl) dX10_fieldText_16 ?_
    refine c_X10_wrong hM (c := 1) c17 (fun υ hE => ?_)
    dsimp only [Option.toList_some, Option.toList_none, List.cons_append, List.nil_append]
    refine J_zreturn hC hR dX10_fieldText_19 (by decide) (by decide) (by decide) ?_
    refine hf _ _ ?_ (PR_of (PE_tr (PG_of hP) hE))
    unfold pField
    exact if_neg bw
