set_option maxHeartbeats 4000000 in
set_option maxRecDepth 100000 in
theorem c_X10_letter {G : GC} {w : Lay} {σ : Mem} {Q : Lay → Option Value → Mem → Prop} {Qx : Lay → String → Mem → Prop} (hM : LM w) {t : Nat → Nat} {L k : Nat} (hX : TX σ t L) (hk : k < L) (ht : lett (t k) → Q w (some (.int (nI 1))) σ) (hf : ¬ lett (t k) → Q w (some (.int (nI 0))) σ) : MX10_letter G w σ [.ref (w.2.1 13 0), .int (nI k)] Q Qx := by
  refine mt_start (by decide) rfl (Nat.le_of_ble_eq_true rfl) (fun E hC hR hN => ?_)
  show J G E w 0 0 0 [some (.ref (w.2.1 13 0)), some (.int (nI k))] [] σ
  have h9 := hX.2.2
  have h8 := hX.1 k hk
  have h7 := sg_rng h8.1
  have h6 := sg_lett h8.1
  refine J_aload_n hC dX10_letter_0 rfl rfl ?_
  refine gX10_20 hC hM dX10_letter_1 ?_
  refine J_iload_n hC dX10_letter_4 rfl rfl ?_
  refine J_baload hC (hM.1 4 (by decide)) rfl rfl (by omega) (by decide) dX10_letter_5 ?_
  refine J_top h8.2 ?_
  refine J_bipush (v := nI 97) hC dX10_letter_6 (by decide) ?_
  refine J_icmp_lt_z hC rfl (nI_iI _) (by omega) (by omega) (tgt := 26) dX10_letter_8 rfl (fun b0 => ?_) (fun b0 => ?_)
  · refine J_iconst (v := nI 0) hC dX10_letter_26 (by decide) ?_
    refine J_zreturn hC hR dX10_letter_27 (by decide) (by decide) (by decide) ?_
    exact hf (by rw [h6]; omega)
  · refine J_aload_n hC dX10_letter_11 rfl rfl ?_
    refine gX10_20 hC hM dX10_letter_12 ?_
    refine J_iload_n hC dX10_letter_15 rfl rfl ?_
    refine J_baload hC (hM.1 4 (by decide)) rfl rfl (by omega) (by decide) dX10_letter_16 ?_
    refine J_top h8.2 ?_
    refine J_bipush (v := nI 122) hC dX10_letter_17 (by decide) ?_
    refine J_icmp_gt_z hC rfl (nI_iI _) (by omega) (by omega) (tgt := 26) dX10_letter_19 rfl (fun b1 => ?_) (fun b1 => ?_)
    · refine J_iconst (v := nI 0) hC dX10_letter_26 (by decide) ?_
      refine J_zreturn hC hR dX10_letter_27 (by decide) (by decide) (by decide) ?_
      exact hf (by rw [h6]; omega)
    · refine J_iconst (v := nI 1) hC dX10_letter_22 (by decide) ?_
      refine J_goto (tgt := 27) hC dX10_letter_23 rfl ?_
      refine J_zreturn hC hR dX10_letter_27 (by decide) (by decide) (by decide) ?_
      exact ht (by rw [h6]; omega)
set_option maxHeartbeats 4000000 in
set_option maxRecDepth 100000 in
theorem c_X10_digit {G : GC} {w : Lay} {σ : Mem} {Q : Lay → Option Value → Mem → Prop} {Qx : Lay → String → Mem → Prop} (hM : LM w) {t : Nat → Nat} {L k : Nat} (hX : TX σ t L) (hk : k < L) (ht : digi (t k) → Q w (some (.int (nI 1))) σ) (hf : ¬ digi (t k) → Q w (some (.int (nI 0))) σ) : MX10_digit G w σ [.ref (w.2.1 13 0), .int (nI k)] Q Qx := by
  refine mt_start (by decide) rfl (Nat.le_of_ble_eq_true rfl) (fun E hC hR hN => ?_)
  show J G E w 0 0 0 [some (.ref (w.2.1 13 0)), some (.int (nI k))] [] σ
  have h9 := hX.2.2
  have h8 := hX.1 k hk
  have h7 := sg_rng h8.1
  have h6 := sg_digi h8.1
  refine J_aload_n hC dX10_digit_0 rfl rfl ?_
  refine gX10_20 hC hM dX10_digit_1 ?_
  refine J_iload_n hC dX10_digit_4 rfl rfl ?_
  refine J_baload hC (hM.1 4 (by decide)) rfl rfl (by omega) (by decide) dX10_digit_5 ?_
  refine J_top h8.2 ?_
  refine J_bipush (v := nI 48) hC dX10_digit_6 (by decide) ?_
  refine J_icmp_lt_z hC rfl (nI_iI _) (by omega) (by omega) (tgt := 26) dX10_digit_8 rfl (fun b0 => ?_) (fun b0 => ?_)
  · refine J_iconst (v := nI 0) hC dX10_digit_26 (by decide) ?_
    refine J_zreturn hC hR dX10_digit_27 (by decide) (by decide) (by decide) ?_
    exact hf (by rw [h6]; omega)
  · refine J_aload_n hC dX10_digit_11 rfl rfl ?_
    refine gX10_20 hC hM dX10_digit_12 ?_
    refine J_iload_n hC dX10_digit_15 rfl rfl ?_
    refine J_baload hC (hM.1 4 (by decide)) rfl rfl (by omega) (by decide) dX10_digit_16 ?_
    refine J_top h8.2 ?_
    refine J_bipush (v := nI 57) hC dX10_digit_17 (by decide) ?_
    refine J_icmp_gt_z hC rfl (nI_iI _) (by omega) (by omega) (tgt := 26) dX10_digit_19 rfl (fun b1 => ?_) (fun b1 => ?_)
    · refine J_iconst (v := nI 0) hC dX10_digit_26 (by decide) ?_
      refine J_zreturn hC hR dX10_digit_27 (by decide) (by decide) (by decide) ?_
      exact hf (by rw [h6]; omega)
    · refine J_iconst (v := nI 1) hC dX10_digit_22 (by decide) ?_
      refine J_goto (tgt := 27) hC dX10_digit_23 rfl ?_
      refine J_zreturn hC hR dX10_digit_27 (by decide) (by decide) (by decide) ?_
      exact ht (by rw [h6]; omega)
set_option maxHeartbeats 4000000 in
set_option maxRecDepth 100000 in
theorem c_X10_next {G : GC} {w : Lay} {σ : Mem} {Q : Lay → Option Value → Mem → Prop} {Qx : Lay → String → Mem → Prop} (hM : LM w) {t : Nat → Nat} {L a0 : Nat} (hX : TX σ t L) (ha : atR σ a0) (ha0 : a0 ≤ L) (hq : ∀ σ' : Mem, PF σ σ' → curR σ' t L (skip t L a0) → Q w none σ') : MX10_next G w σ [.ref (w.2.1 13 0)] Q Qx := by
  refine mt_start (by decide) rfl (Nat.le_of_ble_eq_true rfl) (fun E hC hR hN => ?_)
  show J G E w 0 0 0 [some (.ref (w.2.1 13 0))] [] σ
  have j38 : ∀ (τ : Mem) (p : Nat), (PF σ τ) → (rd τ 13 0 16 = nI p) → (p = skip t L a0) → (p ≤ L) →  J G E w 0 0 38 [some (.ref (w.2.1 13 0))] [] τ := by
    intro τ p hP h16 hp0 hpL
    have hXt := TX_PF hX hP
    have hL5 := hX.2.2
    refine J_aload_n hC dX10_next_38 rfl rfl ?_
    refine J_aload_n hC dX10_next_39 rfl rfl ?_
    refine gX10_176 hC hM dX10_next_40 ?_
    refine J_top h16 ?_
    refine pX10_182 hC hM dX10_next_43 ?_
    have hXu : TX (wr τ 13 0 17 (nI p)) t L := TX_PF hXt (PF_wr (PFx0 (by decide)))
    refine J_aload_n hC dX10_next_46 rfl rfl ?_
    refine gX10_176 hC hM dX10_next_47 ?_
    refine J_top (show _ = nI p from (by (try unfold atR); (repeat first | rw [rd_wrL] | rw [rd_wr_j (by decide)]); first | exact rd_wr_s | exact h16)) ?_
    refine J_aload_n hC dX10_next_50 rfl rfl ?_
    refine gX10_179 hC hM dX10_next_51 ?_
    refine J_top hXu.2.1 ?_
    refine J_icmp_ne_n hC (by omega) (by omega) (tgt := 65) dX10_next_54 rfl (fun b0 => ?_) (fun b0 => ?_)
    · refine J_aload_n hC dX10_next_65 rfl rfl ?_
      refine J_aload_n hC dX10_next_66 rfl rfl ?_
      refine gX10_176 hC hM dX10_next_67 ?_
      refine J_top (show _ = nI p from (by (try unfold atR); (repeat first | rw [rd_wrL] | rw [rd_wr_j (by decide)]); first | exact rd_wr_s | exact h16)) ?_
      refine iX10_188 hC hM rfl ⟨by decide, by decide⟩ ⟨by decide, by decide⟩ (Nat.le_of_ble_eq_true rfl) dX10_next_70 ?_
      refine c_X10_letter hM hXu (by omega) (fun hl => ?_) (fun hl => ?_)
      · dsimp only [Option.toList_some, Option.toList_none, List.cons_append, List.nil_append]
        refine J_if_eq_n hC (by decide) (tgt := 162) dX10_next_73 rfl (fun hf => absurd hf (by omega)) (fun _ => ?_)
        have lpw : ∀ (dd : Nat) (τ : Mem) (a : Nat), L - a < dd → (PF σ τ) → (rd τ 13 0 16 = nI a) → (rd τ 13 0 17 = nI p) → (rd τ 13 0 18 = nI 1) → (p ≤ a) → (a ≤ L) → (run lett t L a = run lett t L p) → (rdL τ 0 = codeI t p (min (a - p) 7)) →  J G E w 0 0 86 [some (.ref (w.2.1 13 0))] [] τ := by
          intro dd
          induction dd with
          | zero =>
            intro τ a hdd
            exact absurd hdd (Nat.not_lt_zero _)
          | succ dd ih =>
            intro τ a hdd hP h16 h17 h18 hpa haL hrun hcode
            have hXt := TX_PF hX hP
            refine J_aload_n hC dX10_next_86 rfl rfl ?_
            refine gX10_176 hC hM dX10_next_87 ?_
            refine J_top h16 ?_
            refine J_aload_n hC dX10_next_90 rfl rfl ?_
            refine gX10_179 hC hM dX10_next_91 ?_
            refine J_top hXt.2.1 ?_
            refine J_icmp_ge_n hC (by omega) (by omega) (tgt := 284) dX10_next_94 rfl (fun b1 => ?_) (fun b1 => ?_)
            · refine J_return hC hR dX10_next_284 (by decide) (by decide) ?_
              have hr : run lett t L p = a := by
                rw [← hrun]
                exact run_end (fun q => by first | omega | exact bl q.2)
              have hk1 : kdT t L p = 1 := kdT_1 (by omega) hl
              have he1 : endT t L p = a := by rw [endT_1 (by omega) hl]; exact hr
              rw [hp0] at hk1 he1 h17 hcode
              exact hq τ hP ⟨h17, by rw [hk1]; exact h18, by rw [he1]; exact h16, fun q => absurd (hk1.symm.trans q) (by decide), fun _ => by rw [he1]; exact hcode⟩
            · refine J_aload_n hC dX10_next_97 rfl rfl ?_
              refine J_aload_n hC dX10_next_98 rfl rfl ?_
              refine gX10_176 hC hM dX10_next_99 ?_
              refine J_top h16 ?_
              refine iX10_188 hC hM rfl ⟨by decide, by decide⟩ ⟨by decide, by decide⟩ (Nat.le_of_ble_eq_true rfl) dX10_next_102 ?_
              refine c_X10_letter hM hXt (by omega) (fun bl => ?_) (fun bl => ?_)
              · dsimp only [Option.toList_some, Option.toList_none, List.cons_append, List.nil_append]
                refine J_if_eq_n hC (by decide) (tgt := 284) dX10_next_105 rfl (fun hf => absurd hf (by omega)) (fun _ => ?_)
                refine J_aload_n hC dX10_next_108 rfl rfl ?_
                refine gX10_176 hC hM dX10_next_109 ?_
                refine J_top h16 ?_
                refine J_aload_n hC dX10_next_112 rfl rfl ?_
                refine gX10_182 hC hM dX10_next_113 ?_
                refine J_top h17 ?_
                refine J_isub_n hC (by omega) dX10_next_116 ?_
                refine J_bipush (v := nI 7) hC dX10_next_117 (by decide) ?_
                refine J_icmp_ge_n hC (by omega) (by decide) (tgt := 149) dX10_next_119 rfl (fun b2 => ?_) (fun b2 => ?_)
                · refine J_aload_n hC dX10_next_149 rfl rfl ?_
                  refine J_dup hC dX10_next_150 rfl ?_
                  refine gX10_176 hC hM dX10_next_151 ?_
                  refine J_top (show _ = nI a from (by (try unfold atR); (repeat first | rw [rd_wrL] | rw [rd_wr_j (by decide)]); first | exact rd_wr_s | exact h16)) ?_
                  refine J_iconst (v := nI 1) hC dX10_next_154 (by decide) ?_
                  refine J_iadd_n hC dX10_next_155 ?_
                  refine pX10_176 hC hM dX10_next_156 ?_
                  refine J_goto (tgt := 86) hC dX10_next_159 rfl ?_
                  first
                  | exact ih _ (a + 1) (by omega) (by (repeat first | exact hP | refine PF_tr ?_ (PF_wr (PFx0 (by decide))) | refine PF_tr ?_ PF_wrL)) (by (try unfold atR); (repeat first | rw [rd_wrL] | rw [rd_wr_j (by decide)]); first | exact rd_wr_s | assumption) (by (try unfold atR); (repeat first | rw [rd_wrL] | rw [rd_wr_j (by decide)]); first | exact rd_wr_s | assumption) (by (try unfold atR); (repeat first | rw [rd_wrL] | rw [rd_wr_j (by decide)]); first | exact rd_wr_s | assumption) (by omega) (by omega) (by rw [← run_go (by omega) bl]; exact hrun) (by rw [rdL_wr, hcode]; exact (show codeI t p (min (a - p) 7) = codeI t p (min (a + 1 - p) 7) from by rw [show min (a - p) 7 = 7 by omega, show min (a + 1 - p) 7 = 7 by omega]))
                  | exact ih _ (a + 1) (by omega) (by (repeat first | exact hP | refine PF_tr ?_ (PF_wr (PFx0 (by decide))) | refine PF_tr ?_ PF_wrL)) (by (try unfold atR); (repeat first | rw [rd_wrL] | rw [rd_wr_j (by decide)]); first | exact rd_wr_s | assumption) (by (try unfold atR); (repeat first | rw [rd_wrL] | rw [rd_wr_j (by decide)]); first | exact rd_wr_s | assumption) (by (try unfold atR); (repeat first | rw [rd_wrL] | rw [rd_wr_j (by decide)]); first | exact rd_wr_s | assumption) (by omega) (by omega) (by rw [← run_go (by omega) bl]; exact hrun) (by
                      rw [rdL_wr, rdL_wrL, if_pos rfl, hcode, show min (a + 1 - p) 7 = min (a - p) 7 + 1 by omega]
                      show _ = 32 * codeI t p (min (a - p) 7) + (iI (sg (t (p + min (a - p) 7)))).toInt64 - 96
                      rw [show p + min (a - p) 7 = a by omega])
                · refine J_aload_n hC dX10_next_122 rfl rfl ?_
                  refine J_ldc2 (v := 32) hC dX10_next_123 q7_66 ?_
                  refine J_aload_n hC dX10_next_126 rfl rfl ?_
                  refine gX10_192 hC hM dX10_next_127 ?_
                  refine J_lmul hC dX10_next_130 ?_
                  refine J_aload_n hC dX10_next_131 rfl rfl ?_
                  refine gX10_20 hC hM dX10_next_132 ?_
                  refine J_aload_n hC dX10_next_135 rfl rfl ?_
                  refine gX10_176 hC hM dX10_next_136 ?_
                  refine J_top h16 ?_
                  refine J_baload hC (hM.1 4 (by decide)) rfl rfl (by omega) (by decide) dX10_next_139 ?_
                  refine J_top (hXt.1 a (by omega)).2 ?_
                  refine J_i2l hC dX10_next_140 ?_
                  refine J_ladd hC dX10_next_141 ?_
                  refine J_ldc2 (v := 96) hC dX10_next_142 q7_67 ?_
                  refine J_lsub hC dX10_next_145 ?_
                  refine pX10_192 hC hM (fun _ _ h => enc_wrL0 h) dX10_next_146 ?_
                  refine J_aload_n hC dX10_next_149 rfl rfl ?_
                  refine J_dup hC dX10_next_150 rfl ?_
                  refine gX10_176 hC hM dX10_next_151 ?_
                  refine J_top (show _ = nI a from (by (try unfold atR); (repeat first | rw [rd_wrL] | rw [rd_wr_j (by decide)]); first | exact rd_wr_s | exact h16)) ?_
                  refine J_iconst (v := nI 1) hC dX10_next_154 (by decide) ?_
                  refine J_iadd_n hC dX10_next_155 ?_
                  refine pX10_176 hC hM dX10_next_156 ?_
                  refine J_goto (tgt := 86) hC dX10_next_159 rfl ?_
                  first
                  | exact ih _ (a + 1) (by omega) (by (repeat first | exact hP | refine PF_tr ?_ (PF_wr (PFx0 (by decide))) | refine PF_tr ?_ PF_wrL)) (by (try unfold atR); (repeat first | rw [rd_wrL] | rw [rd_wr_j (by decide)]); first | exact rd_wr_s | assumption) (by (try unfold atR); (repeat first | rw [rd_wrL] | rw [rd_wr_j (by decide)]); first | exact rd_wr_s | assumption) (by (try unfold atR); (repeat first | rw [rd_wrL] | rw [rd_wr_j (by decide)]); first | exact rd_wr_s | assumption) (by omega) (by omega) (by rw [← run_go (by omega) bl]; exact hrun) (by rw [rdL_wr, hcode]; exact (show codeI t p (min (a - p) 7) = codeI t p (min (a + 1 - p) 7) from by rw [show min (a - p) 7 = 7 by omega, show min (a + 1 - p) 7 = 7 by omega]))
                  | exact ih _ (a + 1) (by omega) (by (repeat first | exact hP | refine PF_tr ?_ (PF_wr (PFx0 (by decide))) | refine PF_tr ?_ PF_wrL)) (by (try unfold atR); (repeat first | rw [rd_wrL] | rw [rd_wr_j (by decide)]); first | exact rd_wr_s | assumption) (by (try unfold atR); (repeat first | rw [rd_wrL] | rw [rd_wr_j (by decide)]); first | exact rd_wr_s | assumption) (by (try unfold atR); (repeat first | rw [rd_wrL] | rw [rd_wr_j (by decide)]); first | exact rd_wr_s | assumption) (by omega) (by omega) (by rw [← run_go (by omega) bl]; exact hrun) (by
                      rw [rdL_wr, rdL_wrL, if_pos rfl, hcode, show min (a + 1 - p) 7 = min (a - p) 7 + 1 by omega]
                      show _ = 32 * codeI t p (min (a - p) 7) + (iI (sg (t (p + min (a - p) 7)))).toInt64 - 96
                      rw [show p + min (a - p) 7 = a by omega])
              · dsimp only [Option.toList_some, Option.toList_none, List.cons_append, List.nil_append]
                refine J_if_eq_n hC (by decide) (tgt := 284) dX10_next_105 rfl (fun _ => ?_) (fun hf => absurd hf (by omega))
                refine J_return hC hR dX10_next_284 (by decide) (by decide) ?_
                have hr : run lett t L p = a := by
                  rw [← hrun]
                  exact run_end (fun q => by first | omega | exact bl q.2)
                have hk1 : kdT t L p = 1 := kdT_1 (by omega) hl
                have he1 : endT t L p = a := by rw [endT_1 (by omega) hl]; exact hr
                rw [hp0] at hk1 he1 h17 hcode
                exact hq τ hP ⟨h17, by rw [hk1]; exact h18, by rw [he1]; exact h16, fun q => absurd (hk1.symm.trans q) (by decide), fun _ => by rw [he1]; exact hcode⟩
        refine J_aload_n hC dX10_next_76 rfl rfl ?_
        refine J_iconst (v := nI 1) hC dX10_next_77 (by decide) ?_
        refine pX10_185 hC hM dX10_next_78 ?_
        refine J_aload_n hC dX10_next_81 rfl rfl ?_
        refine J_lconst (v := 0) hC dX10_next_82 (by decide) ?_
        refine pX10_192 hC hM (fun _ _ h => enc_wrL0 h) dX10_next_83 ?_
        exact lpw (L + 1) _ p (by omega) (by (repeat first | exact hP | refine PF_tr ?_ (PF_wr (PFx0 (by decide))) | refine PF_tr ?_ PF_wrL)) (by (try unfold atR); (repeat first | rw [rd_wrL] | rw [rd_wr_j (by decide)]); first | exact rd_wr_s | assumption) (by (try unfold atR); (repeat first | rw [rd_wrL] | rw [rd_wr_j (by decide)]); first | exact rd_wr_s | assumption) (by (try unfold atR); (repeat first | rw [rd_wrL] | rw [rd_wr_j (by decide)]); first | exact rd_wr_s | assumption) (by omega) (by omega) rfl (by rw [rdL_wrL, if_pos rfl, show min (p - p) 7 = 0 by omega]; rfl)
      · dsimp only [Option.toList_some, Option.toList_none, List.cons_append, List.nil_append]
        refine J_if_eq_n hC (by decide) (tgt := 162) dX10_next_73 rfl (fun _ => ?_) (fun hf => absurd hf (by omega))
        refine J_aload_n hC dX10_next_162 rfl rfl ?_
        refine J_aload_n hC dX10_next_163 rfl rfl ?_
        refine gX10_176 hC hM dX10_next_164 ?_
        refine J_top (show _ = nI p from (by (try unfold atR); (repeat first | rw [rd_wrL] | rw [rd_wr_j (by decide)]); first | exact rd_wr_s | exact h16)) ?_
        refine iX10_200 hC hM rfl ⟨by decide, by decide⟩ ⟨by decide, by decide⟩ (Nat.le_of_ble_eq_true rfl) dX10_next_167 ?_
        refine c_X10_digit hM hXu (by omega) (fun hd => ?_) (fun hd => ?_)
        · dsimp only [Option.toList_some, Option.toList_none, List.cons_append, List.nil_append]
          refine J_if_eq_n hC (by decide) (tgt := 254) dX10_next_170 rfl (fun hf => absurd hf (by omega)) (fun _ => ?_)
          have hnl := hl
          have lpn : ∀ (dd : Nat) (τ : Mem) (a : Nat), L - a < dd → (PF σ τ) → (rd τ 13 0 16 = nI a) → (rd τ 13 0 17 = nI p) → (rd τ 13 0 18 = nI 2) → (p ≤ a) → (a ≤ L) → (run digi t L a = run digi t L p) → (rd τ 13 0 19 = nI (val 10000000 t p (a - p))) →  J G E w 0 0 183 [some (.ref (w.2.1 13 0))] [] τ := by
            intro dd
            induction dd with
            | zero =>
              intro τ a hdd
              exact absurd hdd (Nat.not_lt_zero _)
            | succ dd ih =>
              intro τ a hdd hP h16 h17 h18 hpa haL hrun h19
              have hXt := TX_PF hX hP
              refine J_aload_n hC dX10_next_183 rfl rfl ?_
              refine gX10_176 hC hM dX10_next_184 ?_
              refine J_top h16 ?_
              refine J_aload_n hC dX10_next_187 rfl rfl ?_
              refine gX10_179 hC hM dX10_next_188 ?_
              refine J_top hXt.2.1 ?_
              refine J_icmp_ge_n hC (by omega) (by omega) (tgt := 284) dX10_next_191 rfl (fun b1 => ?_) (fun b1 => ?_)
              · refine J_return hC hR dX10_next_284 (by decide) (by decide) ?_
                have hr : run digi t L p = a := by
                  rw [← hrun]
                  exact run_end (fun q => by first | omega | exact bd q.2)
                have hk1 : kdT t L p = 2 := kdT_2 (by omega) hnl hd
                have he1 : endT t L p = a := by rw [endT_2 (by omega) hnl hd]; exact hr
                rw [hp0] at hk1 he1 h17 h19
                exact hq τ hP ⟨h17, by rw [hk1]; exact h18, by rw [he1]; exact h16, fun _ => by rw [he1]; exact h19, fun q => absurd (hk1.symm.trans q) (by decide)⟩
              · refine J_aload_n hC dX10_next_194 rfl rfl ?_
                refine J_aload_n hC dX10_next_195 rfl rfl ?_
                refine gX10_176 hC hM dX10_next_196 ?_
                refine J_top h16 ?_
                refine iX10_200 hC hM rfl ⟨by decide, by decide⟩ ⟨by decide, by decide⟩ (Nat.le_of_ble_eq_true rfl) dX10_next_199 ?_
                refine c_X10_digit hM hXt (by omega) (fun bd => ?_) (fun bd => ?_)
                · dsimp only [Option.toList_some, Option.toList_none, List.cons_append, List.nil_append]
                  refine J_if_eq_n hC (by decide) (tgt := 284) dX10_next_202 rfl (fun hf => absurd hf (by omega)) (fun _ => ?_)
                  refine J_aload_n hC dX10_next_205 rfl rfl ?_
                  refine J_bipush (v := nI 10) hC dX10_next_206 (by decide) ?_
                  refine J_aload_n hC dX10_next_208 rfl rfl ?_
                  refine gX10_203 hC hM dX10_next_209 ?_
                  have hv := val_le 10000000 t p (a - p)
                  have gd : 48 ≤ t a ∧ t a ≤ 57 := bd
                  refine J_top h19 ?_
                  refine J_imul_n hC dX10_next_212 ?_
                  refine J_aload_n hC dX10_next_213 rfl rfl ?_
                  refine gX10_20 hC hM dX10_next_214 ?_
                  refine J_aload_n hC dX10_next_217 rfl rfl ?_
                  refine J_dup hC dX10_next_218 rfl ?_
                  refine gX10_176 hC hM dX10_next_219 ?_
                  refine J_top h16 ?_
                  refine J_dup_x1 hC dX10_next_222 rfl rfl ?_
                  refine J_iconst (v := nI 1) hC dX10_next_223 (by decide) ?_
                  refine J_iadd_n hC dX10_next_224 ?_
                  refine pX10_176 hC hM dX10_next_225 ?_
                  refine J_baload hC (hM.1 4 (by decide)) rfl rfl (by omega) (by decide) dX10_next_228 ?_
                  refine J_top (show _ = nI (t a) from by rw [nI_iI (t a), show ((t a : Nat) : Int) = sg (t a) from by unfold sg; rw [if_pos (by omega)]]; first | exact (hXt.1 a (by omega)).2 | (rw [rd_wr_c (by decide)]; exact (hXt.1 a (by omega)).2)) ?_
                  refine J_iadd_n hC dX10_next_229 ?_
                  refine J_bipush (v := nI 48) hC dX10_next_230 (by decide) ?_
                  refine J_isub_n hC (by omega) dX10_next_232 ?_
                  refine pX10_203 hC hM dX10_next_233 ?_
                  refine J_aload_n hC dX10_next_236 rfl rfl ?_
                  refine gX10_203 hC hM dX10_next_237 ?_
                  refine J_top (show _ = nI (10 * val 10000000 t p (a - p) + t a - 48) from rd_wr_s) ?_
                  refine J_ldc (v := nI 10000000) hC dX10_next_240 q7_72 ?_
                  refine J_icmp_le_n hC (by omega) (by decide) (tgt := 183) dX10_next_242 rfl (fun bc => ?_) (fun bc => ?_)
                  · first
                    | exact ih _ (a + 1) (by omega) (by (repeat first | exact hP | refine PF_tr ?_ (PF_wr (PFx0 (by decide))) | refine PF_tr ?_ PF_wrL)) (by (try unfold atR); (repeat first | rw [rd_wrL] | rw [rd_wr_j (by decide)]); first | exact rd_wr_s | assumption) (by (try unfold atR); (repeat first | rw [rd_wrL] | rw [rd_wr_j (by decide)]); first | exact rd_wr_s | assumption) (by (try unfold atR); (repeat first | rw [rd_wrL] | rw [rd_wr_j (by decide)]); first | exact rd_wr_s | assumption) (by omega) (by omega) (by rw [← run_go (by omega) bd]; exact hrun) (show rd _ 13 0 19 = nI (val 10000000 t p (a + 1 - p)) from by rw [val_step hpa, show min (10 * val 10000000 t p (a - p) + (t a - 48)) 10000000 = (10 * val 10000000 t p (a - p) + t a - 48) by omega]; exact rd_wr_s)
                    | exact ih _ (a + 1) (by omega) (by (repeat first | exact hP | refine PF_tr ?_ (PF_wr (PFx0 (by decide))) | refine PF_tr ?_ PF_wrL)) (by (try unfold atR); (repeat first | rw [rd_wrL] | rw [rd_wr_j (by decide)]); first | exact rd_wr_s | assumption) (by (try unfold atR); (repeat first | rw [rd_wrL] | rw [rd_wr_j (by decide)]); first | exact rd_wr_s | assumption) (by (try unfold atR); (repeat first | rw [rd_wrL] | rw [rd_wr_j (by decide)]); first | exact rd_wr_s | assumption) (by omega) (by omega) (by rw [← run_go (by omega) bd]; exact hrun) (show rd _ 13 0 19 = nI (val 10000000 t p (a + 1 - p)) from by rw [val_step hpa, show min (10 * val 10000000 t p (a - p) + (t a - 48)) 10000000 = 10000000 by omega]; exact rd_wr_s)
                  · refine J_aload_n hC dX10_next_245 rfl rfl ?_
                    refine J_ldc (v := nI 10000000) hC dX10_next_246 q7_72 ?_
                    refine pX10_203 hC hM dX10_next_248 ?_
                    refine J_goto (tgt := 183) hC dX10_next_251 rfl ?_
                    first
                    | exact ih _ (a + 1) (by omega) (by (repeat first | exact hP | refine PF_tr ?_ (PF_wr (PFx0 (by decide))) | refine PF_tr ?_ PF_wrL)) (by (try unfold atR); (repeat first | rw [rd_wrL] | rw [rd_wr_j (by decide)]); first | exact rd_wr_s | assumption) (by (try unfold atR); (repeat first | rw [rd_wrL] | rw [rd_wr_j (by decide)]); first | exact rd_wr_s | assumption) (by (try unfold atR); (repeat first | rw [rd_wrL] | rw [rd_wr_j (by decide)]); first | exact rd_wr_s | assumption) (by omega) (by omega) (by rw [← run_go (by omega) bd]; exact hrun) (show rd _ 13 0 19 = nI (val 10000000 t p (a + 1 - p)) from by rw [val_step hpa, show min (10 * val 10000000 t p (a - p) + (t a - 48)) 10000000 = (10 * val 10000000 t p (a - p) + t a - 48) by omega]; exact rd_wr_s)
                    | exact ih _ (a + 1) (by omega) (by (repeat first | exact hP | refine PF_tr ?_ (PF_wr (PFx0 (by decide))) | refine PF_tr ?_ PF_wrL)) (by (try unfold atR); (repeat first | rw [rd_wrL] | rw [rd_wr_j (by decide)]); first | exact rd_wr_s | assumption) (by (try unfold atR); (repeat first | rw [rd_wrL] | rw [rd_wr_j (by decide)]); first | exact rd_wr_s | assumption) (by (try unfold atR); (repeat first | rw [rd_wrL] | rw [rd_wr_j (by decide)]); first | exact rd_wr_s | assumption) (by omega) (by omega) (by rw [← run_go (by omega) bd]; exact hrun) (show rd _ 13 0 19 = nI (val 10000000 t p (a + 1 - p)) from by rw [val_step hpa, show min (10 * val 10000000 t p (a - p) + (t a - 48)) 10000000 = 10000000 by omega]; exact rd_wr_s)
                · dsimp only [Option.toList_some, Option.toList_none, List.cons_append, List.nil_append]
                  refine J_if_eq_n hC (by decide) (tgt := 284) dX10_next_202 rfl (fun _ => ?_) (fun hf => absurd hf (by omega))
                  refine J_return hC hR dX10_next_284 (by decide) (by decide) ?_
                  have hr : run digi t L p = a := by
                    rw [← hrun]
                    exact run_end (fun q => by first | omega | exact bd q.2)
                  have hk1 : kdT t L p = 2 := kdT_2 (by omega) hnl hd
                  have he1 : endT t L p = a := by rw [endT_2 (by omega) hnl hd]; exact hr
                  rw [hp0] at hk1 he1 h17 h19
                  exact hq τ hP ⟨h17, by rw [hk1]; exact h18, by rw [he1]; exact h16, fun _ => by rw [he1]; exact h19, fun q => absurd (hk1.symm.trans q) (by decide)⟩
          refine J_aload_n hC dX10_next_173 rfl rfl ?_
          refine J_iconst (v := nI 2) hC dX10_next_174 (by decide) ?_
          refine pX10_185 hC hM dX10_next_175 ?_
          refine J_aload_n hC dX10_next_178 rfl rfl ?_
          refine J_iconst (v := nI 0) hC dX10_next_179 (by decide) ?_
          refine pX10_203 hC hM dX10_next_180 ?_
          exact lpn (L + 1) _ p (by omega) (by (repeat first | exact hP | refine PF_tr ?_ (PF_wr (PFx0 (by decide))) | refine PF_tr ?_ PF_wrL)) (by (try unfold atR); (repeat first | rw [rd_wrL] | rw [rd_wr_j (by decide)]); first | exact rd_wr_s | assumption) (by (try unfold atR); (repeat first | rw [rd_wrL] | rw [rd_wr_j (by decide)]); first | exact rd_wr_s | assumption) (by (try unfold atR); (repeat first | rw [rd_wrL] | rw [rd_wr_j (by decide)]); first | exact rd_wr_s | assumption) (by omega) (by omega) rfl (by rw [show p - p = 0 by omega]; exact (by (try unfold atR); (repeat first | rw [rd_wrL] | rw [rd_wr_j (by decide)]); first | exact rd_wr_s | assumption))
        · dsimp only [Option.toList_some, Option.toList_none, List.cons_append, List.nil_append]
          refine J_if_eq_n hC (by decide) (tgt := 254) dX10_next_170 rfl (fun _ => ?_) (fun hf => absurd hf (by omega))
          refine J_aload_n hC dX10_next_254 rfl rfl ?_
          refine J_aload_n hC dX10_next_255 rfl rfl ?_
          refine gX10_20 hC hM dX10_next_256 ?_
          refine J_aload_n hC dX10_next_259 rfl rfl ?_
          refine J_dup hC dX10_next_260 rfl ?_
          refine gX10_176 hC hM dX10_next_261 ?_
          refine J_top (show _ = nI p from (by (try unfold atR); (repeat first | rw [rd_wrL] | rw [rd_wr_j (by decide)]); first | exact rd_wr_s | exact h16)) ?_
          refine J_dup_x1 hC dX10_next_264 rfl rfl ?_
          refine J_iconst (v := nI 1) hC dX10_next_265 (by decide) ?_
          refine J_iadd_n hC dX10_next_266 ?_
          refine pX10_176 hC hM dX10_next_267 ?_
          refine J_baload hC (hM.1 4 (by decide)) rfl rfl (by omega) (by decide) dX10_next_270 ?_
          have h7 := sg_rng (hXt.1 p (by omega)).1
          refine J_top (show _ = iI (sg (t p)) from by rw [rd_wr_c (by decide)]; exact (hXu.1 p (by omega)).2) ?_
          refine J_bipush (v := nI 59) hC dX10_next_271 (by decide) ?_
          refine J_icmp_ne_z hC rfl (nI_iI _) (by omega) (by omega) (tgt := 280) dX10_next_273 rfl (fun bs => ?_) (fun bs => ?_)
          · refine J_iconst (v := nI 4) hC dX10_next_280 (by decide) ?_
            refine pX10_185 hC hM dX10_next_281 ?_
            refine J_return hC hR dX10_next_284 (by decide) (by decide) ?_
            have g59 : ¬ t p = 59 := fun q => bs ((sg_eq (hXt.1 p (by omega)).1 (by decide)).mpr q)
            have hk1 : kdT t L p = 4 := kdT_4 (by omega) hl hd g59
            have he1 : endT t L p = p + 1 := endT_3 (by omega) hl hd
            rw [hp0] at hk1 he1 h16
            rw [hp0]
            exact hq _ (by (repeat first | exact hP | refine PF_tr ?_ (PF_wr (PFx0 (by decide))) | refine PF_tr ?_ PF_wrL)) ⟨(by (try unfold atR); (repeat first | rw [rd_wrL] | rw [rd_wr_j (by decide)]); first | exact rd_wr_s | assumption), by rw [hk1]; exact (by (try unfold atR); (repeat first | rw [rd_wrL] | rw [rd_wr_j (by decide)]); first | exact rd_wr_s | assumption), by rw [he1]; exact (by (try unfold atR); (repeat first | rw [rd_wrL] | rw [rd_wr_j (by decide)]); first | exact rd_wr_s | assumption), fun q => absurd (hk1.symm.trans q) (by decide), fun q => absurd (hk1.symm.trans q) (by decide)⟩
          · refine J_iconst (v := nI 3) hC dX10_next_276 (by decide) ?_
            refine J_goto (tgt := 281) hC dX10_next_277 rfl ?_
            refine pX10_185 hC hM dX10_next_281 ?_
            refine J_return hC hR dX10_next_284 (by decide) (by decide) ?_
            have g59 : t p = 59 := (sg_eq (hXt.1 p (by omega)).1 (by decide)).mp bs
            have hk1 : kdT t L p = 3 := kdT_3 (by omega) g59
            have he1 : endT t L p = p + 1 := endT_3 (by omega) hl hd
            rw [hp0] at hk1 he1 h16
            rw [hp0]
            exact hq _ (by (repeat first | exact hP | refine PF_tr ?_ (PF_wr (PFx0 (by decide))) | refine PF_tr ?_ PF_wrL)) ⟨(by (try unfold atR); (repeat first | rw [rd_wrL] | rw [rd_wr_j (by decide)]); first | exact rd_wr_s | assumption), by rw [hk1]; exact (by (try unfold atR); (repeat first | rw [rd_wrL] | rw [rd_wr_j (by decide)]); first | exact rd_wr_s | assumption), by rw [he1]; exact (by (try unfold atR); (repeat first | rw [rd_wrL] | rw [rd_wr_j (by decide)]); first | exact rd_wr_s | assumption), fun q => absurd (hk1.symm.trans q) (by decide), fun q => absurd (hk1.symm.trans q) (by decide)⟩
    · refine J_aload_n hC dX10_next_57 rfl rfl ?_
      refine J_iconst (v := nI 0) hC dX10_next_58 (by decide) ?_
      refine pX10_185 hC hM dX10_next_59 ?_
      have hk1 : kdT t L p = 0 := kdT_0 (by omega)
      have he1 : endT t L p = p := endT_0 (by omega)
      rw [hp0] at hk1 he1 h16
      rw [hp0]
      refine J_goto (tgt := 284) hC dX10_next_62 rfl ?_
      refine J_return hC hR dX10_next_284 (by decide) (by decide) ?_
      exact hq _ (by (repeat first | exact hP | refine PF_tr ?_ (PF_wr (PFx0 (by decide))) | refine PF_tr ?_ PF_wrL)) ⟨(by (try unfold atR); (repeat first | rw [rd_wrL] | rw [rd_wr_j (by decide)]); first | exact rd_wr_s | assumption), by rw [hk1]; exact (by (try unfold atR); (repeat first | rw [rd_wrL] | rw [rd_wr_j (by decide)]); first | exact rd_wr_s | assumption), by rw [he1]; exact (by (try unfold atR); (repeat first | rw [rd_wrL] | rw [rd_wr_j (by decide)]); first | exact rd_wr_s | assumption), fun q => absurd (hk1.symm.trans q) (by decide), fun q => absurd (hk1.symm.trans q) (by decide)⟩
  have lp0 : ∀ (dd : Nat) (τ : Mem) (a : Nat), L - a < dd → (PF σ τ) → (rd τ 13 0 16 = nI a) → (a ≤ L) → (run spac t L a = skip t L a0) →  J G E w 0 0 0 [some (.ref (w.2.1 13 0))] [] τ := by
    intro dd
    induction dd with
    | zero =>
      intro τ a hdd
      exact absurd hdd (Nat.not_lt_zero _)
    | succ dd ih =>
      intro τ a hdd hP h16 haL hrun
      have hXt := TX_PF hX hP
      have hL5 := hX.2.2
      refine J_aload_n hC dX10_next_0 rfl rfl ?_
      refine gX10_176 hC hM dX10_next_1 ?_
      refine J_top h16 ?_
      refine J_aload_n hC dX10_next_4 rfl rfl ?_
      refine gX10_179 hC hM dX10_next_5 ?_
      refine J_top hXt.2.1 ?_
      refine J_icmp_ge_n hC (by omega) (by omega) (tgt := 38) dX10_next_8 rfl (fun b0 => ?_) (fun b0 => ?_)
      · first
        | exact j38 τ a hP h16 (by rw [← hrun]; exact (run_end (by omega)).symm) haL
        | exact j38 τ a hP h16 (by rw [← hrun]; exact (run_end (fun q => bs ((sg_eq (hXt.1 a (by omega)).1 (by decide)).mpr q.2))).symm) haL
      · refine J_aload_n hC dX10_next_11 rfl rfl ?_
        refine gX10_20 hC hM dX10_next_12 ?_
        refine J_aload_n hC dX10_next_15 rfl rfl ?_
        refine gX10_176 hC hM dX10_next_16 ?_
        refine J_top h16 ?_
        refine J_baload hC (hM.1 4 (by decide)) rfl rfl (by omega) (by decide) dX10_next_19 ?_
        have h7 := sg_rng (hXt.1 a (by omega)).1
        refine J_top (hXt.1 a (by omega)).2 ?_
        refine J_bipush (v := nI 32) hC dX10_next_20 (by decide) ?_
        refine J_icmp_ne_z hC rfl (nI_iI _) (by omega) (by omega) (tgt := 38) dX10_next_22 rfl (fun bs => ?_) (fun bs => ?_)
        · first
          | exact j38 τ a hP h16 (by rw [← hrun]; exact (run_end (by omega)).symm) haL
          | exact j38 τ a hP h16 (by rw [← hrun]; exact (run_end (fun q => bs ((sg_eq (hXt.1 a (by omega)).1 (by decide)).mpr q.2))).symm) haL
        · refine J_aload_n hC dX10_next_25 rfl rfl ?_
          refine J_dup hC dX10_next_26 rfl ?_
          refine gX10_176 hC hM dX10_next_27 ?_
          refine J_top h16 ?_
          refine J_iconst (v := nI 1) hC dX10_next_30 (by decide) ?_
          refine J_iadd_n hC dX10_next_31 ?_
          refine pX10_176 hC hM dX10_next_32 ?_
          refine J_goto (tgt := 0) hC dX10_next_35 rfl ?_
          exact ih _ (a + 1) (by omega) (by (repeat first | exact hP | refine PF_tr ?_ (PF_wr (PFx0 (by decide))) | refine PF_tr ?_ PF_wrL)) (by (try unfold atR); (repeat first | rw [rd_wrL] | rw [rd_wr_j (by decide)]); first | exact rd_wr_s | assumption) (by omega) (by rw [← run_go (by omega) (show spac (t a) from (sg_eq (hXt.1 a (by omega)).1 (by decide)).mp bs)]; exact hrun)
  exact lp0 (L + 1) σ a0 (by omega) PF_rf ha ha0 rfl
