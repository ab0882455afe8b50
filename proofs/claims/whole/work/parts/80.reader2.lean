set_option maxHeartbeats 4000000 in
set_option maxRecDepth 100000 in
theorem c_X3_isAtWord {G : GC} {w : Lay} {σ : Mem} {Q : Lay → Option Value → Mem → Prop} {Qx : Lay → String → Mem → Prop} (hK : LK w) {t : Nat → Nat} {L : Nat} (hX : TXc σ t L) {s : Flt ⊕ Nat} (hS : StC σ t L s) {i : Nat} (hi : i < 29) (ht : atW (sW i) t L s → Q w (some (.int (nI 1))) σ) (hf : ¬ atW (sW i) t L s → Q w (some (.int (nI 0))) σ) : MX3_isAtWord G w σ [.ref (w.2.1 12 5), .ref (G.2.2.2.2 (100 + i))] Q Qx := by
  refine mt_start (by decide) rfl (Nat.le_of_ble_eq_true rfl) (fun E hC hR hN => ?_)
  show J G E w 0 0 0 [some (.ref (w.2.1 12 5)), some (.ref (G.2.2.2.2 (100 + i))), none] [] σ
  cases s with
  | inl e =>
    refine J_aload_n hC dX3_isAtWord_0 rfl rfl ?_
    refine iX3_60 hC hK rfl ⟨by decide, by decide⟩ ⟨by decide, by decide⟩ (Nat.le_of_ble_eq_true rfl) dX3_isAtWord_1 ?_
    refine c_X3_hasFault hK hS.1 (by have := hS.2.2.2.1; omega) (fun hb0 => ?_) (fun hb0 => ?_)
    · dsimp only [Option.toList_some, Option.toList_none, List.cons_append, List.nil_append]
      refine J_if_ne_n hC (by decide) (tgt := 31) dX3_isAtWord_4 rfl (fun _ => ?_) (fun hf => absurd hf (by omega))
      refine J_iconst (v := nI 0) hC dX3_isAtWord_31 (by decide) ?_
      refine J_zreturn hC hR dX3_isAtWord_32 (by decide) (by decide) (by decide) ?_
      exact hf (fun ⟨b, h, _⟩ => by cases h)
    · exact absurd hb0 (by have := hS.2.2.1; omega)
  | inr a =>
    have hsk := skip_500 (t := t) hX.2.2 hS.1
    have hee := endT_le (t := t) hsk.1
    have hsl := hX.2.2
    have hl29 : slen.getD i 0 ≤ 40 := (show ∀ i, i < 29 → slen.getD i 0 ≤ 40 by decide +kernel) i hi
    refine J_aload_n hC dX3_isAtWord_0 rfl rfl ?_
    refine iX3_60 hC hK rfl ⟨by decide, by decide⟩ ⟨by decide, by decide⟩ (Nat.le_of_ble_eq_true rfl) dX3_isAtWord_1 ?_
    refine c_X3_hasFault hK hS.2.1 (by decide) (fun hb0 => ?_) (fun hb0 => ?_)
    · exact absurd rfl hb0
    · dsimp only [Option.toList_some, Option.toList_none, List.cons_append, List.nil_append]
      refine J_if_ne_n hC (by decide) (tgt := 31) dX3_isAtWord_4 rfl (fun hf => absurd hf (by omega)) (fun _ => ?_)
      refine J_aload_n hC dX3_isAtWord_7 rfl rfl ?_
      refine gX3_34 hC hK dX3_isAtWord_8 ?_
      have hk4 := kdT_le (t := t) (L := L) (p := skip t L a)
      refine J_top hS.2.2.2.1 ?_
      refine J_iconst (v := nI 1) hC dX3_isAtWord_11 (by decide) ?_
      refine J_icmp_ne_n hC (by omega) (by decide) (tgt := 31) dX3_isAtWord_12 rfl (fun b1 => ?_) (fun b1 => ?_)
      · refine J_iconst (v := nI 0) hC dX3_isAtWord_31 (by decide) ?_
        refine J_zreturn hC hR dX3_isAtWord_32 (by decide) (by decide) (by decide) ?_
        exact hf (fun ⟨b, h, h2⟩ => by cases h; exact b1 h2.1)
      · refine J_aload_n hC dX3_isAtWord_15 rfl rfl ?_
        refine gX3_25 hC hK dX3_isAtWord_16 ?_
        refine J_top hS.2.2.2.2.2.1 ?_
        refine J_aload_n hC dX3_isAtWord_19 rfl rfl ?_
        refine gX3_31 hC hK dX3_isAtWord_20 ?_
        refine J_top hS.2.2.2.2.1 ?_
        refine J_isub_n hC (by omega) dX3_isAtWord_23 ?_
        refine J_aload_n hC dX3_isAtWord_24 rfl rfl ?_
        refine iX3s_64 hC hi rfl ⟨by decide, by decide⟩ ⟨by decide, by decide⟩ (Nat.le_of_ble_eq_true rfl) dX3_isAtWord_25 ?_
        refine c_length hi ?_
        dsimp only [Option.toList_some, Option.toList_none, List.cons_append, List.nil_append]
        refine J_icmp_eq_n hC (by omega) (by omega) (tgt := 33) dX3_isAtWord_28 rfl (fun b2 => ?_) (fun b2 => ?_)
        · refine J_iconst (v := nI 0) hC dX3_isAtWord_33 (by decide) ?_
          refine J_istore_n hC dX3_isAtWord_34 rfl (Nat.le_of_ble_eq_true rfl) rfl ?_
          dsimp only [List.set]
          have lp : ∀ (dd : Nat) (k : Nat), slen.getD i 0 - k < dd → (k ≤ slen.getD i 0) → (∀ j, j < k → t (skip t L a + j) = lF (sW i) j) →  J G E w 0 0 35 [some (.ref (w.2.1 12 5)), some (.ref (G.2.2.2.2 (100 + i))), some (.int (nI k))] [] σ := by
            intro dd
            induction dd with
            | zero =>
              intro k hdd
              exact absurd hdd (Nat.not_lt_zero _)
            | succ dd ih =>
              intro k hdd hk9 hq9
              refine J_iload_n hC dX3_isAtWord_35 rfl rfl ?_
              refine J_aload_n hC dX3_isAtWord_36 rfl rfl ?_
              refine iX3s_64 hC hi rfl ⟨by decide, by decide⟩ ⟨by decide, by decide⟩ (Nat.le_of_ble_eq_true rfl) dX3_isAtWord_37 ?_
              refine c_length hi ?_
              dsimp only [Option.toList_some, Option.toList_none, List.cons_append, List.nil_append]
              refine J_icmp_ge_n hC (by omega) (by omega) (tgt := 70) dX3_isAtWord_40 rfl (fun b3 => ?_) (fun b3 => ?_)
              · refine J_iconst (v := nI 1) hC dX3_isAtWord_70 (by decide) ?_
                refine J_zreturn hC hR dX3_isAtWord_71 (by decide) (by decide) (by decide) ?_
                exact ht ⟨a, rfl, b1, b2.trans (sW_len i hi).symm, fun j hj => hq9 j (by rw [sW_len i hi] at hj; omega)⟩
              · refine J_aload_n hC dX3_isAtWord_43 rfl rfl ?_
                refine gX3_9 hC hK dX3_isAtWord_44 ?_
                refine J_aload_n hC dX3_isAtWord_47 rfl rfl ?_
                refine gX3_31 hC hK dX3_isAtWord_48 ?_
                refine J_top hS.2.2.2.2.1 ?_
                refine J_iload_n hC dX3_isAtWord_51 rfl rfl ?_
                refine J_iadd_n hC dX3_isAtWord_52 ?_
                refine J_iaload hC (hK.1 6 (by decide)) rfl rfl (by omega) (by decide) dX3_isAtWord_53 ?_
                have ht9 := (hX.1 (skip t L a + k) (by omega)).1
                refine J_top (TXc_at hX (by omega)) ?_
                refine J_aload_n hC dX3_isAtWord_54 rfl rfl ?_
                refine J_iload_n hC dX3_isAtWord_55 rfl rfl ?_
                refine iX3s_69 hC hi rfl ⟨by decide, by decide⟩ ⟨by decide, by decide⟩ (Nat.le_of_ble_eq_true rfl) dX3_isAtWord_56 ?_
                refine c_charAt hi b3 ?_
                dsimp only [Option.toList_some, Option.toList_none, List.cons_append, List.nil_append]
                have hc9 := (sW_b i hi k b3).2
                refine J_icmp_eq_n hC (by omega) (by omega) (tgt := 64) dX3_isAtWord_59 rfl (fun b4 => ?_) (fun b4 => ?_)
                · refine J_iinc_n (m := 1) hC (by decide) dX3_isAtWord_64 rfl (Nat.le_of_ble_eq_true rfl) rfl ?_
                  dsimp only [List.set]
                  refine J_goto (tgt := 35) hC dX3_isAtWord_67 rfl ?_
                  exact ih (k + 1) (by omega) (by omega) (fun j hj => by
                    by_cases e : j = k
                    · subst e; exact b4
                    · exact hq9 j (by omega))
                · refine J_iconst (v := nI 0) hC dX3_isAtWord_62 (by decide) ?_
                  refine J_zreturn hC hR dX3_isAtWord_63 (by decide) (by decide) (by decide) ?_
                  exact hf (fun ⟨b, h, h2⟩ => by cases h; exact b4 (h2.2.2 k (by rw [sW_len i hi]; exact b3)))
          exact lp 41 0 (by omega) (by omega) (fun j hj => absurd hj (Nat.not_lt_zero j))
        · refine J_iconst (v := nI 0) hC dX3_isAtWord_31 (by decide) ?_
          refine J_zreturn hC hR dX3_isAtWord_32 (by decide) (by decide) (by decide) ?_
          exact hf (fun ⟨b, h, h2⟩ => by cases h; exact b2 (h2.2.1.trans (sW_len i hi)))
theorem StC_next {σ σ' : Mem} {t : Nat → Nat} {L a : Nat} (hX : TXc σ t L) (hS : StC σ t L (.inr a)) (hF : FrT σ σ') (hC : curC σ' t L (skip t L (endT t L (skip t L a)))) : StC σ' t L (.inr (endT t L (skip t L a))) :=
  ⟨(skip_500 hX.2.2 hS.1).2.2, (hF.1 12 5 2 (by omega)).trans hS.2.1, (hF.1 12 5 3 (by omega)).trans hS.2.2.1, hC⟩
set_option maxHeartbeats 4000000 in
set_option maxRecDepth 100000 in
theorem c_X3_takeWord {G : GC} {w : Lay} {σ : Mem} {Q : Lay → Option Value → Mem → Prop} {Qx : Lay → String → Mem → Prop} (hK : LK w) {t : Nat → Nat} {L : Nat} (hX : TXc σ t L) {s : Flt ⊕ Nat} (hS : StC σ t L s) {i : Nat} (hi : i < 29) (hq : ∀ σ', FrI σ σ' → StC σ' t L (sWord (sW i) t L s) → Q w none σ') : MX3_takeWord G w σ [.ref (w.2.1 12 5), .ref (G.2.2.2.2 (100 + i))] Q Qx := by
  refine mt_start (by decide) rfl (Nat.le_of_ble_eq_true rfl) (fun E hC hR hN => ?_)
  show J G E w 0 0 0 [some (.ref (w.2.1 12 5)), some (.ref (G.2.2.2.2 (100 + i)))] [] σ
  cases s with
  | inl e =>
    refine J_aload_n hC dX3_takeWord_0 rfl rfl ?_
    refine J_aload_n hC dX3_takeWord_1 rfl rfl ?_
    refine iX3_73 hC hK rfl ⟨by decide, by decide⟩ ⟨by decide, by decide⟩ (Nat.le_of_ble_eq_true rfl) dX3_takeWord_2 ?_
    refine c_X3_isAtWord hK hX hS hi (fun b1 => ?_) (fun b1 => ?_)
    · obtain ⟨b, h, _⟩ := b1; cases h
    · dsimp only [Option.toList_some, Option.toList_none, List.cons_append, List.nil_append]
      refine J_if_eq_n hC (by decide) (tgt := 15) dX3_takeWord_5 rfl (fun _ => ?_) (fun hf => absurd hf (by omega))
      refine J_aload_n hC dX3_takeWord_15 rfl rfl ?_
      refine J_iconst (v := nI 1) hC dX3_takeWord_16 (by decide) ?_
      refine iX3_77 hC hK rfl ⟨by decide, by decide⟩ ⟨by decide, by decide⟩ (Nat.le_of_ble_eq_true rfl) dX3_takeWord_17 ?_
      refine c_X3_fail hK hX hS (by decide) (by decide) (fun σ1 hF1 hS1 => ?_)
      dsimp only [Option.toList_some, Option.toList_none, List.cons_append, List.nil_append]
      refine J_return hC hR dX3_takeWord_20 (by decide) (by decide) ?_
      exact hq σ1 hF1 hS1
  | inr a =>
    refine J_aload_n hC dX3_takeWord_0 rfl rfl ?_
    refine J_aload_n hC dX3_takeWord_1 rfl rfl ?_
    refine iX3_73 hC hK rfl ⟨by decide, by decide⟩ ⟨by decide, by decide⟩ (Nat.le_of_ble_eq_true rfl) dX3_takeWord_2 ?_
    refine c_X3_isAtWord hK hX hS hi (fun b1 => ?_) (fun b1 => ?_)
    · dsimp only [Option.toList_some, Option.toList_none, List.cons_append, List.nil_append]
      have b2 : wordT (sW i) t L (skip t L a) := by obtain ⟨b, h, h2⟩ := b1; cases h; exact h2
      refine J_if_eq_n hC (by decide) (tgt := 15) dX3_takeWord_5 rfl (fun hf => absurd hf (by omega)) (fun _ => ?_)
      refine J_aload_n hC dX3_takeWord_8 rfl rfl ?_
      refine iX3_28 hC hK rfl ⟨by decide, by decide⟩ ⟨by decide, by decide⟩ (Nat.le_of_ble_eq_true rfl) dX3_takeWord_9 ?_
      refine c_X3_readToken hK hX hS.2.2.2.2.2.1 (skip_500 hX.2.2 hS.1).2.2 (fun σ1 hF1 hC1 => ?_)
      dsimp only [Option.toList_some, Option.toList_none, List.cons_append, List.nil_append]
      refine J_goto (tgt := 20) hC dX3_takeWord_12 rfl ?_
      refine J_return hC hR dX3_takeWord_20 (by decide) (by decide) ?_
      refine hq σ1 (FrT_I hF1) ?_
      unfold sWord bnd
      dsimp only
      rw [if_pos b2]
      exact StC_next hX hS hF1 hC1
    · dsimp only [Option.toList_some, Option.toList_none, List.cons_append, List.nil_append]
      have b2 : ¬ wordT (sW i) t L (skip t L a) := fun q => b1 ⟨a, rfl, q⟩
      refine J_if_eq_n hC (by decide) (tgt := 15) dX3_takeWord_5 rfl (fun _ => ?_) (fun hf => absurd hf (by omega))
      refine J_aload_n hC dX3_takeWord_15 rfl rfl ?_
      refine J_iconst (v := nI 1) hC dX3_takeWord_16 (by decide) ?_
      refine iX3_77 hC hK rfl ⟨by decide, by decide⟩ ⟨by decide, by decide⟩ (Nat.le_of_ble_eq_true rfl) dX3_takeWord_17 ?_
      refine c_X3_fail hK hX hS (by decide) (by decide) (fun σ1 hF1 hS1 => ?_)
      dsimp only [Option.toList_some, Option.toList_none, List.cons_append, List.nil_append]
      refine J_return hC hR dX3_takeWord_20 (by decide) (by decide) ?_
      refine hq σ1 hF1 ?_
      unfold sWord bnd
      dsimp only
      rw [if_neg b2]
      exact hS1
set_option maxHeartbeats 4000000 in
set_option maxRecDepth 100000 in
theorem c_X3_takeSemicolon {G : GC} {w : Lay} {σ : Mem} {Q : Lay → Option Value → Mem → Prop} {Qx : Lay → String → Mem → Prop} (hK : LK w) {t : Nat → Nat} {L : Nat} (hX : TXc σ t L) {s : Flt ⊕ Nat} (hS : StC σ t L s)  (hq : ∀ σ', FrI σ σ' → StC σ' t L (sSemi t L s) → Q w none σ') : MX3_takeSemicolon G w σ [.ref (w.2.1 12 5)] Q Qx := by
  refine mt_start (by decide) rfl (Nat.le_of_ble_eq_true rfl) (fun E hC hR hN => ?_)
  show J G E w 0 0 0 [some (.ref (w.2.1 12 5))] [] σ
  cases s with
  | inl e =>
    refine J_aload_n hC dX3_takeSemicolon_0 rfl rfl ?_
    refine iX3_60 hC hK rfl ⟨by decide, by decide⟩ ⟨by decide, by decide⟩ (Nat.le_of_ble_eq_true rfl) dX3_takeSemicolon_1 ?_
    refine c_X3_hasFault hK hS.1 (by have := hS.2.2.2.1; omega) (fun hb0 => ?_) (fun hb0 => ?_)
    · dsimp only [Option.toList_some, Option.toList_none, List.cons_append, List.nil_append]
      refine J_if_ne_n hC (by decide) (tgt := 22) dX3_takeSemicolon_4 rfl (fun _ => ?_) (fun hf => absurd hf (by omega))
      refine J_aload_n hC dX3_takeSemicolon_22 rfl rfl ?_
      refine J_iconst (v := nI 1) hC dX3_takeSemicolon_23 (by decide) ?_
      refine iX3_77 hC hK rfl ⟨by decide, by decide⟩ ⟨by decide, by decide⟩ (Nat.le_of_ble_eq_true rfl) dX3_takeSemicolon_24 ?_
      refine c_X3_fail hK hX hS (by decide) (by decide) (fun σ1 hF1 hS1 => ?_)
      dsimp only [Option.toList_some, Option.toList_none, List.cons_append, List.nil_append]
      refine J_return hC hR dX3_takeSemicolon_27 (by decide) (by decide) ?_
      exact hq σ1 hF1 hS1
    · exact absurd hb0 (by have := hS.2.2.1; omega)
  | inr a =>
    refine J_aload_n hC dX3_takeSemicolon_0 rfl rfl ?_
    refine iX3_60 hC hK rfl ⟨by decide, by decide⟩ ⟨by decide, by decide⟩ (Nat.le_of_ble_eq_true rfl) dX3_takeSemicolon_1 ?_
    refine c_X3_hasFault hK hS.2.1 (by decide) (fun hb0 => ?_) (fun hb0 => ?_)
    · exact absurd rfl hb0
    · dsimp only [Option.toList_some, Option.toList_none, List.cons_append, List.nil_append]
      refine J_if_ne_n hC (by decide) (tgt := 22) dX3_takeSemicolon_4 rfl (fun hf => absurd hf (by omega)) (fun _ => ?_)
      refine J_aload_n hC dX3_takeSemicolon_7 rfl rfl ?_
      refine gX3_34 hC hK dX3_takeSemicolon_8 ?_
      have hk4 := kdT_le (t := t) (L := L) (p := skip t L a)
      refine J_top hS.2.2.2.1 ?_
      refine J_iconst (v := nI 3) hC dX3_takeSemicolon_11 (by decide) ?_
      refine J_icmp_ne_n hC (by omega) (by decide) (tgt := 22) dX3_takeSemicolon_12 rfl (fun b1 => ?_) (fun b1 => ?_)
      · refine J_aload_n hC dX3_takeSemicolon_22 rfl rfl ?_
        refine J_iconst (v := nI 1) hC dX3_takeSemicolon_23 (by decide) ?_
        refine iX3_77 hC hK rfl ⟨by decide, by decide⟩ ⟨by decide, by decide⟩ (Nat.le_of_ble_eq_true rfl) dX3_takeSemicolon_24 ?_
        refine c_X3_fail hK hX hS (by decide) (by decide) (fun σ1 hF1 hS1 => ?_)
        dsimp only [Option.toList_some, Option.toList_none, List.cons_append, List.nil_append]
        refine J_return hC hR dX3_takeSemicolon_27 (by decide) (by decide) ?_
        refine hq σ1 hF1 ?_
        unfold sSemi bnd
        dsimp only
        rw [pEnd_1 b1]
        exact hS1
      · refine J_aload_n hC dX3_takeSemicolon_15 rfl rfl ?_
        refine iX3_28 hC hK rfl ⟨by decide, by decide⟩ ⟨by decide, by decide⟩ (Nat.le_of_ble_eq_true rfl) dX3_takeSemicolon_16 ?_
        refine c_X3_readToken hK hX hS.2.2.2.2.2.1 (skip_500 hX.2.2 hS.1).2.2 (fun σ1 hF1 hC1 => ?_)
        dsimp only [Option.toList_some, Option.toList_none, List.cons_append, List.nil_append]
        refine J_goto (tgt := 27) hC dX3_takeSemicolon_19 rfl ?_
        refine J_return hC hR dX3_takeSemicolon_27 (by decide) (by decide) ?_
        refine hq σ1 (FrT_I hF1) ?_
        unfold sSemi bnd
        dsimp only
        rw [pEnd_2 b1]
        exact StC_next hX hS hF1 hC1
set_option maxHeartbeats 4000000 in
set_option maxRecDepth 100000 in
theorem c_X3_takeNumber {G : GC} {w : Lay} {σ : Mem} {Q : Lay → Option Value → Mem → Prop} {Qx : Lay → String → Mem → Prop} (hK : LK w) {t : Nat → Nat} {L : Nat} (hX : TXc σ t L) {s : Flt ⊕ Nat} (hS : StC σ t L s) {lo hi : Nat} (hlo : lo < 2 ^ 31) (hhi : hi < 2 ^ 31) (hq : ∀ σ', FrI σ σ' → StC σ' t L (sNum t L lo hi s) → Q w (some (.int (nI (vNum t L lo hi s)))) σ') : MX3_takeNumber G w σ [.ref (w.2.1 12 5), .int (nI lo), .int (nI hi)] Q Qx := by
  refine mt_start (by decide) rfl (Nat.le_of_ble_eq_true rfl) (fun E hC hR hN => ?_)
  show J G E w 0 0 0 [some (.ref (w.2.1 12 5)), some (.int (nI lo)), some (.int (nI hi)), none] [] σ
  cases s with
  | inl e =>
    refine J_aload_n hC dX3_takeNumber_0 rfl rfl ?_
    refine iX3_81 hC hK rfl ⟨by decide, by decide⟩ ⟨by decide, by decide⟩ (Nat.le_of_ble_eq_true rfl) dX3_takeNumber_1 ?_
    refine c_X3_isAtNumber hK hX hS (fun b0 => ?_) (fun b0 => ?_)
    · obtain ⟨b, h, _⟩ := b0; cases h
    · dsimp only [Option.toList_some, Option.toList_none, List.cons_append, List.nil_append]
      refine J_if_ne_n hC (by decide) (tgt := 14) dX3_takeNumber_4 rfl (fun hf => absurd hf (by omega)) (fun _ => ?_)
      refine J_aload_n hC dX3_takeNumber_7 rfl rfl ?_
      refine J_iconst (v := nI 1) hC dX3_takeNumber_8 (by decide) ?_
      refine iX3_77 hC hK rfl ⟨by decide, by decide⟩ ⟨by decide, by decide⟩ (Nat.le_of_ble_eq_true rfl) dX3_takeNumber_9 ?_
      refine c_X3_fail hK hX hS (by decide) (by decide) (fun σ1 hF1 hS1 => ?_)
      dsimp only [Option.toList_some, Option.toList_none, List.cons_append, List.nil_append]
      refine J_iload_n hC dX3_takeNumber_12 rfl rfl ?_
      refine J_ireturn hC hR dX3_takeNumber_13 (by decide) (by decide) ?_
      exact hq σ1 hF1 hS1
  | inr a =>
    refine J_aload_n hC dX3_takeNumber_0 rfl rfl ?_
    refine iX3_81 hC hK rfl ⟨by decide, by decide⟩ ⟨by decide, by decide⟩ (Nat.le_of_ble_eq_true rfl) dX3_takeNumber_1 ?_
    refine c_X3_isAtNumber hK hX hS (fun b0 => ?_) (fun b0 => ?_)
    · dsimp only [Option.toList_some, Option.toList_none, List.cons_append, List.nil_append]
      have b2 : kdT t L (skip t L a) = 2 := by obtain ⟨b, h, h2⟩ := b0; cases h; exact h2
      have hv9 := numT_le t L (skip t L a)
      refine J_if_ne_n hC (by decide) (tgt := 14) dX3_takeNumber_4 rfl (fun _ => ?_) (fun hf => absurd hf (by omega))
      refine J_aload_n hC dX3_takeNumber_14 rfl rfl ?_
      refine gX3_50 hC hK dX3_takeNumber_15 ?_
      refine J_top (hS.2.2.2.2.2.2 b2) ?_
      refine J_iload_n hC dX3_takeNumber_18 rfl rfl ?_
      refine J_icmp_lt_n hC (by omega) (by omega) (tgt := 30) dX3_takeNumber_19 rfl (fun b3 => ?_) (fun b3 => ?_)
      · refine J_aload_n hC dX3_takeNumber_30 rfl rfl ?_
        refine J_iconst (v := nI 2) hC dX3_takeNumber_31 (by decide) ?_
        refine iX3_77 hC hK rfl ⟨by decide, by decide⟩ ⟨by decide, by decide⟩ (Nat.le_of_ble_eq_true rfl) dX3_takeNumber_32 ?_
        refine c_X3_fail hK hX hS (by decide) (by decide) (fun σ1 hF1 hS1 => ?_)
        dsimp only [Option.toList_some, Option.toList_none, List.cons_append, List.nil_append]
        refine J_iload_n hC dX3_takeNumber_35 rfl rfl ?_
        refine J_ireturn hC hR dX3_takeNumber_36 (by decide) (by decide) ?_
        unfold sNum vNum bnd at hq
        dsimp only at hq
        rw [pNum_2 b2 (by omega)] at hq
        exact hq σ1 hF1 hS1
      · refine J_aload_n hC dX3_takeNumber_22 rfl rfl ?_
        refine gX3_50 hC hK dX3_takeNumber_23 ?_
        refine J_top (hS.2.2.2.2.2.2 b2) ?_
        refine J_iload_n hC dX3_takeNumber_26 rfl rfl ?_
        refine J_icmp_le_n hC (by omega) (by omega) (tgt := 37) dX3_takeNumber_27 rfl (fun b4 => ?_) (fun b4 => ?_)
        · refine J_aload_n hC dX3_takeNumber_37 rfl rfl ?_
          refine gX3_50 hC hK dX3_takeNumber_38 ?_
          refine J_top (hS.2.2.2.2.2.2 b2) ?_
          refine J_istore_n hC dX3_takeNumber_41 rfl (Nat.le_of_ble_eq_true rfl) rfl ?_
          dsimp only [List.set]
          refine J_aload_n hC dX3_takeNumber_42 rfl rfl ?_
          refine iX3_28 hC hK rfl ⟨by decide, by decide⟩ ⟨by decide, by decide⟩ (Nat.le_of_ble_eq_true rfl) dX3_takeNumber_43 ?_
          refine c_X3_readToken hK hX hS.2.2.2.2.2.1 (skip_500 hX.2.2 hS.1).2.2 (fun σ1 hF1 hC1 => ?_)
          dsimp only [Option.toList_some, Option.toList_none, List.cons_append, List.nil_append]
          refine J_iload_n hC dX3_takeNumber_46 rfl rfl ?_
          refine J_ireturn hC hR dX3_takeNumber_47 (by decide) (by decide) ?_
          have e : pNum t L lo hi a = .inr (endT t L (skip t L a), numT t L (skip t L a)) := pNum_3 b2 ⟨by omega, by omega⟩
          unfold sNum vNum bnd at hq
          dsimp only at hq
          rw [e] at hq
          exact hq σ1 (FrT_I hF1) (StC_next hX hS hF1 hC1)
        · refine J_aload_n hC dX3_takeNumber_30 rfl rfl ?_
          refine J_iconst (v := nI 2) hC dX3_takeNumber_31 (by decide) ?_
          refine iX3_77 hC hK rfl ⟨by decide, by decide⟩ ⟨by decide, by decide⟩ (Nat.le_of_ble_eq_true rfl) dX3_takeNumber_32 ?_
          refine c_X3_fail hK hX hS (by decide) (by decide) (fun σ1 hF1 hS1 => ?_)
          dsimp only [Option.toList_some, Option.toList_none, List.cons_append, List.nil_append]
          refine J_iload_n hC dX3_takeNumber_35 rfl rfl ?_
          refine J_ireturn hC hR dX3_takeNumber_36 (by decide) (by decide) ?_
          unfold sNum vNum bnd at hq
          dsimp only at hq
          rw [pNum_2 b2 (by omega)] at hq
          exact hq σ1 hF1 hS1
    · dsimp only [Option.toList_some, Option.toList_none, List.cons_append, List.nil_append]
      have b2 : ¬ kdT t L (skip t L a) = 2 := fun q => b0 ⟨a, rfl, q⟩
      refine J_if_ne_n hC (by decide) (tgt := 14) dX3_takeNumber_4 rfl (fun hf => absurd hf (by omega)) (fun _ => ?_)
      refine J_aload_n hC dX3_takeNumber_7 rfl rfl ?_
      refine J_iconst (v := nI 1) hC dX3_takeNumber_8 (by decide) ?_
      refine iX3_77 hC hK rfl ⟨by decide, by decide⟩ ⟨by decide, by decide⟩ (Nat.le_of_ble_eq_true rfl) dX3_takeNumber_9 ?_
      refine c_X3_fail hK hX hS (by decide) (by decide) (fun σ1 hF1 hS1 => ?_)
      dsimp only [Option.toList_some, Option.toList_none, List.cons_append, List.nil_append]
      refine J_iload_n hC dX3_takeNumber_12 rfl rfl ?_
      refine J_ireturn hC hR dX3_takeNumber_13 (by decide) (by decide) ?_
      unfold sNum vNum bnd at hq
      dsimp only at hq
      rw [pNum_1 b2] at hq
      exact hq σ1 hF1 hS1
set_option maxHeartbeats 4000000 in
set_option maxRecDepth 100000 in
theorem c_X3_takeEnd {G : GC} {w : Lay} {σ : Mem} {Q : Lay → Option Value → Mem → Prop} {Qx : Lay → String → Mem → Prop} (hK : LK w) {t : Nat → Nat} {L : Nat} (hX : TXc σ t L) {s : Flt ⊕ Nat} (hS : StC σ t L s)  (hq : ∀ σ', FrI σ σ' → StC σ' t L (sTail t L s) → Q w none σ') : MX3_takeEnd G w σ [.ref (w.2.1 12 5)] Q Qx := by
  refine mt_start (by decide) rfl (Nat.le_of_ble_eq_true rfl) (fun E hC hR hN => ?_)
  show J G E w 0 0 0 [some (.ref (w.2.1 12 5))] [] σ
  cases s with
  | inl e =>
    refine J_aload_n hC dX3_takeEnd_0 rfl rfl ?_
    refine iX3_84 hC hK rfl ⟨by decide, by decide⟩ ⟨by decide, by decide⟩ (Nat.le_of_ble_eq_true rfl) dX3_takeEnd_1 ?_
    refine c_X3_isAtEnd hK hX hS (fun b1 => ?_) (fun b1 => ?_)
    · dsimp only [Option.toList_some, Option.toList_none, List.cons_append, List.nil_append]
      refine J_if_ne_n hC (by decide) (tgt := 12) dX3_takeEnd_4 rfl (fun _ => ?_) (fun hf => absurd hf (by omega))
      refine J_return hC hR dX3_takeEnd_12 (by decide) (by decide) ?_
      exact hq σ FrI_refl hS
    · exact absurd (Or.inl ⟨e, rfl⟩) b1
  | inr a =>
    refine J_aload_n hC dX3_takeEnd_0 rfl rfl ?_
    refine iX3_84 hC hK rfl ⟨by decide, by decide⟩ ⟨by decide, by decide⟩ (Nat.le_of_ble_eq_true rfl) dX3_takeEnd_1 ?_
    refine c_X3_isAtEnd hK hX hS (fun b1 => ?_) (fun b1 => ?_)
    · dsimp only [Option.toList_some, Option.toList_none, List.cons_append, List.nil_append]
      have b2 : kdT t L (skip t L a) = 0 := by
        rcases b1 with ⟨e, h⟩ | ⟨b, h, h2⟩
        · cases h
        · cases h; exact h2
      refine J_if_ne_n hC (by decide) (tgt := 12) dX3_takeEnd_4 rfl (fun _ => ?_) (fun hf => absurd hf (by omega))
      refine J_return hC hR dX3_takeEnd_12 (by decide) (by decide) ?_
      refine hq σ FrI_refl ?_
      unfold sTail bnd
      dsimp only
      rw [if_pos b2]
      exact hS
    · dsimp only [Option.toList_some, Option.toList_none, List.cons_append, List.nil_append]
      have b2 : ¬ kdT t L (skip t L a) = 0 := fun q => b1 (Or.inr ⟨a, rfl, q⟩)
      refine J_if_ne_n hC (by decide) (tgt := 12) dX3_takeEnd_4 rfl (fun hf => absurd hf (by omega)) (fun _ => ?_)
      refine J_aload_n hC dX3_takeEnd_7 rfl rfl ?_
      refine J_iconst (v := nI 1) hC dX3_takeEnd_8 (by decide) ?_
      refine iX3_77 hC hK rfl ⟨by decide, by decide⟩ ⟨by decide, by decide⟩ (Nat.le_of_ble_eq_true rfl) dX3_takeEnd_9 ?_
      refine c_X3_fail hK hX hS (by decide) (by decide) (fun σ1 hF1 hS1 => ?_)
      dsimp only [Option.toList_some, Option.toList_none, List.cons_append, List.nil_append]
      refine J_return hC hR dX3_takeEnd_12 (by decide) (by decide) ?_
      refine hq σ1 hF1 ?_
      unfold sTail bnd
      dsimp only
      rw [if_neg b2]
      exact hS1
set_option maxHeartbeats 4000000 in
set_option maxRecDepth 100000 in
theorem c_X3_beginReading {G : GC} {w : Lay} {σ : Mem} {Q : Lay → Option Value → Mem → Prop} {Qx : Lay → String → Mem → Prop} (hK : LK w) {t : Nat → Nat} {L : Nat} (hX : TXc σ t L)  (hq : ∀ σ', FrI σ σ' → StC σ' t L (.inr 0) → Q w none σ') : MX3_beginReading G w σ [.ref (w.2.1 12 5)] Q Qx := by
  refine mt_start (by decide) rfl (Nat.le_of_ble_eq_true rfl) (fun E hC hR hN => ?_)
  show J G E w 0 0 0 [some (.ref (w.2.1 12 5))] [] σ
  refine J_aload_n hC dX3_beginReading_0 rfl rfl ?_
  refine J_iconst (v := nI 0) hC dX3_beginReading_1 (by decide) ?_
  refine pX3_22 hC hK dX3_beginReading_2 ?_
  refine J_aload_n hC dX3_beginReading_5 rfl rfl ?_
  refine J_iconst (v := -1) hC dX3_beginReading_6 (by decide) ?_
  refine pX3_15 hC hK dX3_beginReading_7 ?_
  refine J_aload_n hC dX3_beginReading_10 rfl rfl ?_
  refine J_iconst (v := nI 0) hC dX3_beginReading_11 (by decide) ?_
  refine pX3_25 hC hK dX3_beginReading_12 ?_
  refine J_aload_n hC dX3_beginReading_15 rfl rfl ?_
  refine iX3_28 hC hK rfl ⟨by decide, by decide⟩ ⟨by decide, by decide⟩ (Nat.le_of_ble_eq_true rfl) dX3_beginReading_16 ?_
  refine c_X3_readToken hK (FrI_TX (FrI_wr (FrI_wr (FrI_wr FrI_refl (by decide)) (by decide)) (by decide)) hX) rd_wr_s (Nat.zero_le _) (fun σ1 hF1 hC1 => ?_)
  dsimp only [Option.toList_some, Option.toList_none, List.cons_append, List.nil_append]
  refine J_return hC hR dX3_beginReading_19 (by decide) (by decide) ?_
  exact hq σ1 (FrI_trans (FrI_wr (FrI_wr (FrI_wr FrI_refl (by decide)) (by decide)) (by decide)) (FrT_I hF1)) ⟨Nat.zero_le _, (hF1.1 12 5 2 (by omega)).trans ((rd_wr_j (by decide)).trans ((rd_wr_j (by decide)).trans rd_wr_s)), (hF1.1 12 5 3 (by omega)).trans ((rd_wr_j (by decide)).trans rd_wr_s), hC1⟩
