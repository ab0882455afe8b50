set_option maxHeartbeats 4000000 in
set_option maxRecDepth 100000 in
theorem c_X10_setup {G : GC} {w : Lay} {σ : Mem} {Q : Lay → Option Value → Mem → Prop} {Qx : Lay → String → Mem → Prop} (hM : LM w) {t : Nat → Nat} {L : Nat} (hX : TX σ t L) (ha : atR σ 0) (hok : ∀ (σ' : Mem) (A' : Rw), pSetup t L (clr0 (rd σ 13 1)) = .inr A' → PG (setA σ A') σ' → RowOK 0 A' → Q w (some (.int (nI 1))) σ') (hf : ∀ (σ' : Mem) (e : Nat × Nat), pSetup t L (clr0 (rd σ 13 1)) = .inl e → PR σ σ' e → Q w (some (.int (nI 0))) σ') : MX10_setup G w σ [.ref (w.2.1 13 0)] Q Qx := by
  refine mt_start (by decide) rfl (Nat.le_of_ble_eq_true rfl) (fun E hC hR hN => ?_)
  show J G E w 0 0 0 [some (.ref (w.2.1 13 0))] [] σ
  have lpk : ∀ (nz nc : Nat), 1 ≤ nz → 1 ≤ nc → ∀ (dd : Nat) (τ : Mem) (B : Rw) (b f nk : Nat), f < dd → (PG (setA σ B) τ) → (curR τ t L (skip t L b)) → (Pst nz nc nk B) → (bnd (pKites t L (f + 1) B b) (kE t L) = pSetup t L (clr0 (rd σ 13 1))) → (b ≤ L) → (f + nk = 17) → J G E w 0 0 101 [some (.ref (w.2.1 13 0))] [] τ := by
      intro nz nc hnz hnc
      intro dd
      induction dd with
      | zero =>
        intro τ B b f nk hdd
        exact absurd hdd (Nat.not_lt_zero _)
      | succ dd ih =>
        intro τ B b f nk hdd hG hc hZ hF hb hfn
        have hc9 := hc
        obtain ⟨c17, c18, c16, -, -⟩ := hc9
        have hs := skip_le (t := t) hb
        have he := endT_le (t := t) hs.2
        have hk4 : kdT t L (skip t L b) ≤ 4 := kdT_le
        have hL5 := hX.2.2
        have hXt : TX τ t L := TX_PG (TX_setA hX) hG
        have hRw : rd τ 13 1 = B := PG_row hG
        have hk16 := hZ.2.2.2.2.2.1.2
        refine J_aload_n hC dX10_setup_101 rfl rfl ?_
        refine J_ldc2 (v := 370309) hC dX10_setup_102 q7_104 ?_
        refine iX10_228 hC hM rfl ⟨by decide, by decide⟩ ⟨by decide, by decide⟩ (Nat.le_of_ble_eq_true rfl) dX10_setup_105 ?_
        refine c_X10_isWord hM okW_KITE hL5 hs.2 hc (fun bw => ?_) (fun bw => ?_)
        · dsimp only [Option.toList_some, Option.toList_none, List.cons_append, List.nil_append]
          refine J_if_eq_n hC (by decide) (tgt := 127) dX10_setup_108 rfl (fun hf => absurd hf (by omega)) (fun _ => ?_)
          refine J_aload_n hC dX10_setup_111 rfl rfl ?_
          refine iX10_247 hC hM rfl ⟨by decide, by decide⟩ ⟨by decide, by decide⟩ (Nat.le_of_ble_eq_true rfl) dX10_setup_112 ?_
          refine c_X10_kiteText hM hXt c16 he.2 c17 hnc (by rw [hRw]; exact hZ) (fun τ2 => ?_) (fun τ2 => ?_)
          · dsimp only [Option.toList_some, Option.toList_none, List.cons_append, List.nil_append]
            rw [hRw]
            intro A2 a2 hk2 e2 hG2 h162 hl2 hZ2
            refine J_if_ne_n hC (by decide) (tgt := 120) dX10_setup_115 rfl (fun _ => ?_) (fun hf => absurd hf (by omega))
            refine J_aload_n hC dX10_setup_120 rfl rfl ?_
            refine iX10_210 hC hM rfl ⟨by decide, by decide⟩ ⟨by decide, by decide⟩ (Nat.le_of_ble_eq_true rfl) dX10_setup_121 ?_
            refine c_X10_next hM (TX_PG (TX_setA hXt) hG2) h162 hl2 (fun τ3 hP3 hc3 => ?_)
            dsimp only [Option.toList_some, Option.toList_none, List.cons_append, List.nil_append]
            refine J_goto (tgt := 101) hC dX10_setup_124 rfl ?_
            obtain ⟨g, rfl⟩ : ∃ g, f = g + 1 := ⟨f - 1, by omega⟩
            refine ih τ3 A2 a2 g (nk + 1) (by omega) (PG_step hG (PG_tr hG2 (PG_of hP3))) hc3 hZ2 ?_ hl2 (by omega)
            rw [← hF, pK_s bw (by rw [nv_of hZ.2.2.2.2.2.1.1 (by omega)]; omega), e2]
            rfl
          · dsimp only [Option.toList_some, Option.toList_none, List.cons_append, List.nil_append]
            rw [hRw]
            intro er e2 hE
            refine J_if_ne_n hC (by decide) (tgt := 120) dX10_setup_115 rfl (fun hf => absurd hf (by omega)) (fun _ => ?_)
            refine J_iconst (v := nI 0) hC dX10_setup_118 (by decide) ?_
            refine J_zreturn hC hR dX10_setup_119 (by decide) (by decide) (by decide) ?_
            refine hf _ _ ?_ (by first | exact PE_setA (PE_tr hG hE) | exact PR_setA (PR_tr hG hE))
            rw [← hF]
            rcases e2 with ⟨e3, e4⟩ | ⟨e3, e4⟩
            · rw [pK_16 bw (by rw [nv_of hZ.2.2.2.2.2.1.1 (by omega)]; exact e3), e4]
              rfl
            · rw [pK_s bw (by rw [nv_of hZ.2.2.2.2.2.1.1 (by omega)]; omega), e4]
              rfl
        · dsimp only [Option.toList_some, Option.toList_none, List.cons_append, List.nil_append]
          refine J_if_eq_n hC (by decide) (tgt := 127) dX10_setup_108 rfl (fun _ => ?_) (fun hf => absurd hf (by omega))
          refine J_aload_n hC dX10_setup_127 rfl rfl ?_
          refine gX10_185 hC hM dX10_setup_128 ?_
          refine J_top c18 ?_
          refine J_if_eq_n hC (by omega) (tgt := 142) dX10_setup_131 rfl (fun b9 => ?_) (fun b9 => ?_)
          · refine J_iconst (v := nI 1) hC dX10_setup_142 (by decide) ?_
            refine J_goto (tgt := 147) hC dX10_setup_143 rfl ?_
            refine J_zreturn hC hR dX10_setup_147 (by decide) (by decide) (by decide) ?_
            rw [pK_end bw] at hF
            refine hok τ B ?_ hG (Pst_RowOK hZ hnz hnc (by decide))
            rw [← hF]
            exact (bnd_r rfl).trans (kE_y (r := (B, b)) b9)
          · refine J_aload_n hC dX10_setup_134 rfl rfl ?_
            refine J_iconst (v := nI 1) hC dX10_setup_135 (by decide) ?_
            refine iX10_213 hC hM rfl ⟨by decide, by decide⟩ ⟨by decide, by decide⟩ (Nat.le_of_ble_eq_true rfl) dX10_setup_136 ?_
            refine c_X10_wrong hM (c := 1) c17 (fun υ hE => ?_)
            dsimp only [Option.toList_some, Option.toList_none, List.cons_append, List.nil_append]
            refine J_if_eq_n hC (by decide) (tgt := 146) dX10_setup_139 rfl (fun _ => ?_) (fun hf => absurd hf (by omega))
            refine J_iconst (v := nI 0) hC dX10_setup_146 (by decide) ?_
            refine J_zreturn hC hR dX10_setup_147 (by decide) (by decide) (by decide) ?_
            first
            | omega
            | skip
            rw [pK_end bw] at hF
            refine hf _ _ ?_ (by first | exact PE_setA (PE_tr hG hE) | exact PR_setA (PR_tr hG hE))
            rw [← hF]
            exact (bnd_r rfl).trans (kE_n (r := (B, b)) b9)
  have lpc : ∀ (nz : Nat), 1 ≤ nz → ∀ (dd : Nat) (τ : Mem) (B : Rw) (b f nc : Nat), f < dd → (PG (setA σ B) τ) → (curR τ t L (skip t L b)) → (Pst nz nc 0 B) → (bnd (pColours t L (f + 1) B b) (kK t L) = pSetup t L (clr0 (rd σ 13 1))) → (b ≤ L) → (f + nc = 7) → (nc = 0 → wordT wCOLOUR t L (skip t L b)) → J G E w 0 0 75 [some (.ref (w.2.1 13 0))] [] τ := by
      intro nz hnz
      intro dd
      induction dd with
      | zero =>
        intro τ B b f nc hdd
        exact absurd hdd (Nat.not_lt_zero _)
      | succ dd ih =>
        intro τ B b f nc hdd hG hc hZ hF hb hfn h0
        have hc9 := hc
        obtain ⟨c17, c18, c16, -, -⟩ := hc9
        have hs := skip_le (t := t) hb
        have he := endT_le (t := t) hs.2
        have hk4 : kdT t L (skip t L b) ≤ 4 := kdT_le
        have hL5 := hX.2.2
        have hXt : TX τ t L := TX_PG (TX_setA hX) hG
        have hRw : rd τ 13 1 = B := PG_row hG
        have hc6 := hZ.2.2.2.1.2
        refine J_aload_n hC dX10_setup_75 rfl rfl ?_
        refine J_ldc2 (v := 116801202) hC dX10_setup_76 q7_99 ?_
        refine iX10_228 hC hM rfl ⟨by decide, by decide⟩ ⟨by decide, by decide⟩ (Nat.le_of_ble_eq_true rfl) dX10_setup_79 ?_
        refine c_X10_isWord hM okW_COLOUR hL5 hs.2 hc (fun bw => ?_) (fun bw => ?_)
        · dsimp only [Option.toList_some, Option.toList_none, List.cons_append, List.nil_append]
          refine J_if_eq_n hC (by decide) (tgt := 101) dX10_setup_82 rfl (fun hf => absurd hf (by omega)) (fun _ => ?_)
          refine J_aload_n hC dX10_setup_85 rfl rfl ?_
          refine iX10_242 hC hM rfl ⟨by decide, by decide⟩ ⟨by decide, by decide⟩ (Nat.le_of_ble_eq_true rfl) dX10_setup_86 ?_
          refine c_X10_colourText (nk := 0) hM hXt c16 he.2 c17 (by rw [hRw]; exact hZ) (fun τ2 => ?_) (fun τ2 => ?_)
          · dsimp only [Option.toList_some, Option.toList_none, List.cons_append, List.nil_append]
            rw [hRw]
            intro a1 v1 a2 hk2 e1 e2 hv9 hG2 h162 hl2
            refine J_if_ne_n hC (by decide) (tgt := 94) dX10_setup_89 rfl (fun _ => ?_) (fun hf => absurd hf (by omega))
            refine J_aload_n hC dX10_setup_94 rfl rfl ?_
            refine iX10_210 hC hM rfl ⟨by decide, by decide⟩ ⟨by decide, by decide⟩ (Nat.le_of_ble_eq_true rfl) dX10_setup_95 ?_
            refine c_X10_next hM (TX_PG (TX_setA hXt) hG2) h162 hl2 (fun τ3 hP3 hc3 => ?_)
            dsimp only [Option.toList_some, Option.toList_none, List.cons_append, List.nil_append]
            refine J_goto (tgt := 75) hC dX10_setup_98 rfl ?_
            obtain ⟨g, rfl⟩ : ∃ g, f = g + 1 := ⟨f - 1, by omega⟩
            refine ih τ3 (colourA B (nI v1)) a2 g (nc + 1) (by omega) (PG_step hG (PG_tr hG2 (PG_of hP3))) hc3 (Pst_colour hZ hk2 hv9) ?_ hl2 (by omega) (fun q => absurd q (by omega))
            rw [← hF, pC_s bw (by rw [nv_of hZ.2.2.2.1.1 (by omega)]; omega), e1]
            show _ = bnd (bnd (pEnd t L a1) _) _
            rw [e2]
            rfl
          · dsimp only [Option.toList_some, Option.toList_none, List.cons_append, List.nil_append]
            intro er e2 hE
            refine J_if_ne_n hC (by decide) (tgt := 94) dX10_setup_89 rfl (fun hf => absurd hf (by omega)) (fun _ => ?_)
            refine J_iconst (v := nI 0) hC dX10_setup_92 (by decide) ?_
            refine J_zreturn hC hR dX10_setup_93 (by decide) (by decide) (by decide) ?_
            refine hf _ _ ?_ (by first | exact PE_setA (PE_tr hG hE) | exact PR_setA (PR_tr hG hE))
            rw [← hF]
            rcases e2 with ⟨e3, e4⟩ | ⟨e3, e4⟩ | ⟨e3, a1, v1, e4, e5⟩
            · rw [pC_6 bw (by rw [nv_of hZ.2.2.2.1.1 (by omega)]; exact e3), e4]
              rfl
            · rw [pC_s bw (by rw [nv_of hZ.2.2.2.1.1 (by omega)]; omega), e4]
              rfl
            · rw [pC_s bw (by rw [nv_of hZ.2.2.2.1.1 (by omega)]; omega), e4]
              show bnd (bnd (pEnd t L a1) _) _ = _
              rw [e5]
              rfl
        · dsimp only [Option.toList_some, Option.toList_none, List.cons_append, List.nil_append]
          refine J_if_eq_n hC (by decide) (tgt := 101) dX10_setup_82 rfl (fun _ => ?_) (fun hf => absurd hf (by omega))
          rw [pC_end bw] at hF
          exact lpk nz nc hnz (by by_cases q : nc = 0; exact absurd (h0 q) bw; omega) 18 τ B b 17 0 (by omega) hG hc hZ hF hb (by omega)
  have lpz : ∀ (dd : Nat) (τ : Mem) (B : Rw) (b f nz : Nat), f < dd → (PG (setA σ B) τ) → (curR τ t L (skip t L b)) → (Pst nz 0 0 B) → (bnd (pZones t L (f + 1) B b) (kC t L) = pSetup t L (clr0 (rd σ 13 1))) → (b ≤ L) → (f + nz = 5) → (nz = 0 → wordT wZONE t L (skip t L b)) →  J G E w 0 0 33 [some (.ref (w.2.1 13 0))] [] τ := by
    intro dd
    induction dd with
    | zero =>
      intro τ B b f nz hdd
      exact absurd hdd (Nat.not_lt_zero _)
    | succ dd ih =>
      intro τ B b f nz hdd hG hc hZ hF hb hfn h0
      have hc9 := hc
      obtain ⟨c17, c18, c16, -, -⟩ := hc9
      have hs := skip_le (t := t) hb
      have he := endT_le (t := t) hs.2
      have hk4 : kdT t L (skip t L b) ≤ 4 := kdT_le
      have hL5 := hX.2.2
      have hXt : TX τ t L := TX_PG (TX_setA hX) hG
      have hRw : rd τ 13 1 = B := PG_row hG
      have hz4 := hZ.2.1.2
      refine J_aload_n hC dX10_setup_33 rfl rfl ?_
      refine J_ldc2 (v := 867781) hC dX10_setup_34 q7_94 ?_
      refine iX10_228 hC hM rfl ⟨by decide, by decide⟩ ⟨by decide, by decide⟩ (Nat.le_of_ble_eq_true rfl) dX10_setup_37 ?_
      refine c_X10_isWord hM okW_ZONE hL5 hs.2 hc (fun bw => ?_) (fun bw => ?_)
      · dsimp only [Option.toList_some, Option.toList_none, List.cons_append, List.nil_append]
        refine J_if_eq_n hC (by decide) (tgt := 59) dX10_setup_40 rfl (fun hf => absurd hf (by omega)) (fun _ => ?_)
        refine J_aload_n hC dX10_setup_43 rfl rfl ?_
        refine iX10_237 hC hM rfl ⟨by decide, by decide⟩ ⟨by decide, by decide⟩ (Nat.le_of_ble_eq_true rfl) dX10_setup_44 ?_
        refine c_X10_zoneText (nc := 0) (nk := 0) hM hXt c16 he.2 c17 (by rw [hRw]; exact hZ) (fun τ2 => ?_) (fun τ2 => ?_)
        · dsimp only [Option.toList_some, Option.toList_none, List.cons_append, List.nil_append]
          rw [hRw]
          intro A2 a2 hk2 e2 hG2 h162 hl2 hZ2
          refine J_if_ne_n hC (by decide) (tgt := 52) dX10_setup_47 rfl (fun _ => ?_) (fun hf => absurd hf (by omega))
          refine J_aload_n hC dX10_setup_52 rfl rfl ?_
          refine iX10_210 hC hM rfl ⟨by decide, by decide⟩ ⟨by decide, by decide⟩ (Nat.le_of_ble_eq_true rfl) dX10_setup_53 ?_
          refine c_X10_next hM (TX_PG (TX_setA hXt) hG2) h162 hl2 (fun τ3 hP3 hc3 => ?_)
          dsimp only [Option.toList_some, Option.toList_none, List.cons_append, List.nil_append]
          refine J_goto (tgt := 33) hC dX10_setup_56 rfl ?_
          obtain ⟨g, rfl⟩ : ∃ g, f = g + 1 := ⟨f - 1, by omega⟩
          refine ih τ3 A2 a2 g (nz + 1) (by omega) (PG_step hG (PG_tr hG2 (PG_of hP3))) hc3 hZ2 ?_ hl2 (by omega) (fun q => absurd q (by omega))
          rw [← hF, pZ_s bw (by rw [nv_of hZ.2.1.1 (by omega)]; omega), e2]
          rfl
        · dsimp only [Option.toList_some, Option.toList_none, List.cons_append, List.nil_append]
          rw [hRw]
          intro er e2 hE
          refine J_if_ne_n hC (by decide) (tgt := 52) dX10_setup_47 rfl (fun hf => absurd hf (by omega)) (fun _ => ?_)
          refine J_iconst (v := nI 0) hC dX10_setup_50 (by decide) ?_
          refine J_zreturn hC hR dX10_setup_51 (by decide) (by decide) (by decide) ?_
          refine hf _ _ ?_ (by first | exact PE_setA (PE_tr hG hE) | exact PR_setA (PR_tr hG hE))
          rw [← hF]
          rcases e2 with ⟨e3, e4⟩ | ⟨e3, e4⟩
          · rw [pZ_4 bw (by rw [nv_of hZ.2.1.1 (by omega)]; exact e3), e4]
            rfl
          · rw [pZ_s bw (by rw [nv_of hZ.2.1.1 (by omega)]; omega), e4]
            rfl
      · dsimp only [Option.toList_some, Option.toList_none, List.cons_append, List.nil_append]
        refine J_if_eq_n hC (by decide) (tgt := 59) dX10_setup_40 rfl (fun _ => ?_) (fun hf => absurd hf (by omega))
        refine J_aload_n hC dX10_setup_59 rfl rfl ?_
        refine J_ldc2 (v := 116801202) hC dX10_setup_60 q7_99 ?_
        refine iX10_228 hC hM rfl ⟨by decide, by decide⟩ ⟨by decide, by decide⟩ (Nat.le_of_ble_eq_true rfl) dX10_setup_63 ?_
        refine c_X10_isWord hM okW_COLOUR hL5 hs.2 hc (fun bc => ?_) (fun bc => ?_)
        · dsimp only [Option.toList_some, Option.toList_none, List.cons_append, List.nil_append]
          rw [pZ_end bw] at hF
          refine J_if_ne_n hC (by decide) (tgt := 75) dX10_setup_66 rfl (fun _ => ?_) (fun hf => absurd hf (by omega))
          exact lpc nz (by by_cases q : nz = 0; exact absurd (h0 q) bw; omega) 8 τ B b 7 0 (by omega) hG hc hZ (by rw [← hF]; exact ((bnd_r rfl).trans (kC_y (r := (B, b)) bc)).symm) hb (by omega) (fun _ => bc)
        · dsimp only [Option.toList_some, Option.toList_none, List.cons_append, List.nil_append]
          rw [pZ_end bw] at hF
          refine J_if_ne_n hC (by decide) (tgt := 75) dX10_setup_66 rfl (fun hf => absurd hf (by omega)) (fun _ => ?_)
          refine J_aload_n hC dX10_setup_69 rfl rfl ?_
          refine J_iconst (v := nI 1) hC dX10_setup_70 (by decide) ?_
          refine iX10_213 hC hM rfl ⟨by decide, by decide⟩ ⟨by decide, by decide⟩ (Nat.le_of_ble_eq_true rfl) dX10_setup_71 ?_
          refine c_X10_wrong hM (c := 1) c17 (fun υ hE => ?_)
          dsimp only [Option.toList_some, Option.toList_none, List.cons_append, List.nil_append]
          refine J_zreturn hC hR dX10_setup_74 (by decide) (by decide) (by decide) ?_
          refine hf _ _ ?_ (by first | exact PE_setA (PE_tr hG hE) | exact PR_setA (PR_tr hG hE))
          rw [← hF]
          exact (bnd_r rfl).trans (kC_n (r := (B, b)) bc)
  refine J_aload_n hC dX10_setup_0 rfl rfl ?_
  refine iX10_40 hC hM rfl ⟨by decide, by decide⟩ ⟨by decide, by decide⟩ (Nat.le_of_ble_eq_true rfl) dX10_setup_1 ?_
  refine c_X10_clear hM ?_
  dsimp only [Option.toList_some, Option.toList_none, List.cons_append, List.nil_append]
  rw [clrP_set]
  refine J_aload_n hC dX10_setup_4 rfl rfl ?_
  refine iX10_232 hC hM rfl ⟨by decide, by decide⟩ ⟨by decide, by decide⟩ (Nat.le_of_ble_eq_true rfl) dX10_setup_5 ?_
  refine c_X10_fieldText hM (TX_setA hX) (atR_setA ha) (Nat.zero_le L) (by rw [rd_setA]; exact clr0_0) (fun τ => ?_) (fun τ => ?_)
  · dsimp only [Option.toList_some, Option.toList_none, List.cons_append, List.nil_append]
    rw [rd_setA]
    intro B b e1 hG0 h16 hb hZ
    rw [setA_setA] at hG0
    refine J_if_ne_n hC (by decide) (tgt := 13) dX10_setup_8 rfl (fun _ => ?_) (fun hf => absurd hf (by omega))
    refine J_aload_n hC dX10_setup_13 rfl rfl ?_
    refine iX10_210 hC hM rfl ⟨by decide, by decide⟩ ⟨by decide, by decide⟩ (Nat.le_of_ble_eq_true rfl) dX10_setup_14 ?_
    refine c_X10_next hM (TX_PG (TX_setA hX) hG0) h16 hb (fun τ1 hP1 hc => ?_)
    dsimp only [Option.toList_some, Option.toList_none, List.cons_append, List.nil_append]
    have hG := PG_tr hG0 (PG_of hP1)
    have hc9 := hc
    obtain ⟨c17, c18, c16, -, -⟩ := hc9
    have hs := skip_le (t := t) hb
    have he := endT_le (t := t) hs.2
    have hk4 : kdT t L (skip t L b) ≤ 4 := kdT_le
    have hL5 := hX.2.2
    have hXt : TX τ1 t L := TX_PG (TX_setA hX) hG
    have hRw : rd τ1 13 1 = B := PG_row hG
    refine J_aload_n hC dX10_setup_17 rfl rfl ?_
    refine J_ldc2 (v := 867781) hC dX10_setup_18 q7_94 ?_
    refine iX10_228 hC hM rfl ⟨by decide, by decide⟩ ⟨by decide, by decide⟩ (Nat.le_of_ble_eq_true rfl) dX10_setup_21 ?_
    refine c_X10_isWord hM okW_ZONE hL5 hs.2 hc (fun bw => ?_) (fun bw => ?_)
    · dsimp only [Option.toList_some, Option.toList_none, List.cons_append, List.nil_append]
      refine J_if_ne_n hC (by decide) (tgt := 33) dX10_setup_24 rfl (fun _ => ?_) (fun hf => absurd hf (by omega))
      exact lpz 6 τ1 B b 5 0 (by omega) hG hc hZ (by rw [pSetup_k, e1]; exact (kZ_y (r := (B, b)) bw).symm) hb (by omega) (fun _ => bw)
    · dsimp only [Option.toList_some, Option.toList_none, List.cons_append, List.nil_append]
      refine J_if_ne_n hC (by decide) (tgt := 33) dX10_setup_24 rfl (fun hf => absurd hf (by omega)) (fun _ => ?_)
      refine J_aload_n hC dX10_setup_27 rfl rfl ?_
      refine J_iconst (v := nI 1) hC dX10_setup_28 (by decide) ?_
      refine iX10_213 hC hM rfl ⟨by decide, by decide⟩ ⟨by decide, by decide⟩ (Nat.le_of_ble_eq_true rfl) dX10_setup_29 ?_
      refine c_X10_wrong hM (c := 1) c17 (fun υ hE => ?_)
      dsimp only [Option.toList_some, Option.toList_none, List.cons_append, List.nil_append]
      refine J_zreturn hC hR dX10_setup_32 (by decide) (by decide) (by decide) ?_
      refine hf _ _ ?_ (by first | exact PE_setA (PE_tr hG hE) | exact PR_setA (PR_tr hG hE))
      rw [pSetup_k, e1]
      exact kZ_n (r := (B, b)) bw
  · dsimp only [Option.toList_some, Option.toList_none, List.cons_append, List.nil_append]
    rw [rd_setA]
    intro er e1 hE
    refine J_if_ne_n hC (by decide) (tgt := 13) dX10_setup_8 rfl (fun hf => absurd hf (by omega)) (fun _ => ?_)
    refine J_iconst (v := nI 0) hC dX10_setup_11 (by decide) ?_
    refine J_zreturn hC hR dX10_setup_12 (by decide) (by decide) (by decide) ?_
    refine hf _ er ?_ (PR_setA hE)
    rw [pSetup_k, e1]
    rfl
