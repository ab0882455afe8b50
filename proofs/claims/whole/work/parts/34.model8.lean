set_option maxHeartbeats 4000000 in
set_option maxRecDepth 100000 in
theorem c_X10_earliestStart {G : GC} {w : Lay} {σ : Mem} {Q : Lay → Option Value → Mem → Prop} {Qx : Lay → String → Mem → Prop} {hm : Nat} (hM : LM w) (hI : RowOK hm (rd σ 13 1)) (hb9 : hm ≤ 900000) {k d : Int32} (hq : Q w (some (.int (aES (rd σ 13 1) k d).2)) (thr σ (aES (rd σ 13 1) k d).1)) : MX10_earliestStart G w σ [.ref (w.2.1 13 0), .int k, .int d] Q Qx := by
  refine mt_start (by decide) rfl (Nat.le_of_ble_eq_true rfl) (fun E hC hR hN => ?_)
  show J G E w 0 0 0 [some (.ref (w.2.1 13 0)), some (.int k), some (.int d), none] [] σ
  refine J_aload_n hC dX10_earliestStart_0 rfl rfl ?_
  refine J_iconst (v := nI 0) hC dX10_earliestStart_1 (by decide) ?_
  refine pX10_62 hC hM dX10_earliestStart_2 ?_
  obtain ⟨τ, hτ, hA⟩ : ∃ τ, thr σ 0 = τ ∧ rd σ 13 1 = rd τ 13 1 := ⟨_, rfl, rd_thr1.symm⟩
  have h9 : ∀ c, thr τ c = thr σ c := fun c => by rw [← hτ]; exact thr_thr
  rw [hA] at hI hq
  show J G E w 0 0 5 _ _ (thr σ 0)
  rw [hτ]
  refine J_aload_n hC dX10_earliestStart_5 rfl rfl ?_
  refine J_iload_n hC dX10_earliestStart_6 rfl rfl ?_
  refine iX10_278 hC hM rfl ⟨by decide, by decide⟩ ⟨by decide, by decide⟩ (Nat.le_of_ble_eq_true rfl) dX10_earliestStart_7 ?_
  refine k_isK hM hI (fun hk => ?_) (fun hk => ?_)
  · dsimp only [Option.toList_some, Option.toList_none, List.cons_append, List.nil_append]
    have gk := hk
    obtain ⟨kk, rfl, bk⟩ := gk
    have ek := r_NK hI
    refine J_if_ne_n hC (by decide) (tgt := 19) dX10_earliestStart_10 rfl (fun _ => ?_) (fun hf => absurd hf (by omega))
    refine J_iload_n hC dX10_earliestStart_19 rfl rfl ?_
    refine J_iconst (v := nI 1) hC dX10_earliestStart_20 (by decide) ?_
    refine J_bipush (v := nI 24) hC dX10_earliestStart_21 (by decide) ?_
    refine iX10_75 hC rfl ⟨by decide, by decide⟩ ⟨by decide, by decide⟩ (Nat.le_of_ble_eq_true rfl) dX10_earliestStart_23 ?_
    refine k_in (by decide) (by decide) (fun hd => ?_) (fun hd => ?_)
    · dsimp only [Option.toList_some, Option.toList_none, List.cons_append, List.nil_append]
      have gd := hd
      obtain ⟨kd, rfl, ad, bd⟩ := gd
      have cd : kd < 2 ^ 31 := by omega
      refine J_if_ne_n hC (by decide) (tgt := 35) dX10_earliestStart_26 rfl (fun _ => ?_) (fun hf => absurd hf (by omega))
      refine J_iconst (v := nI 0) hC dX10_earliestStart_35 (by decide) ?_
      refine J_istore_n hC dX10_earliestStart_36 rfl (Nat.le_of_ble_eq_true rfl) rfl ?_
      dsimp only [List.set]
      have lp : ∀ (dd : Nat) (j : Nat), 61 - j < dd → (j ≤ 61) → (estF (rd τ 13 1) kk kd (61 - j) j = estF (rd τ 13 1) kk kd 61 0) →  J G E w 0 0 37 [some (.ref (w.2.1 13 0)), some (.int (nI kk)), some (.int (nI kd)), some (.int (nI j))] [] τ := by
        intro dd
        induction dd with
        | zero =>
          intro j hdd
          exact absurd hdd (Nat.not_lt_zero _)
        | succ dd ih =>
          intro j hdd hj hF
          refine J_iload_n hC dX10_earliestStart_37 rfl rfl ?_
          refine J_bipush (v := nI 60) hC dX10_earliestStart_38 (by decide) ?_
          refine J_icmp_gt_n hC (by omega) (by decide) (tgt := 77) dX10_earliestStart_40 rfl (fun hb0 => ?_) (fun hb0 => ?_)
          · refine J_iconst (v := -1) hC dX10_earliestStart_77 (by decide) ?_
            refine J_ireturn hC hR dX10_earliestStart_78 (by decide) (by decide) ?_
            unfold aES at hq
            rw [cl_n (k := kk) (by omega), cl_n (k := kd) (by omega), chk_t hk, chk_t hd] at hq
            dsimp only at hq
            rw [hτ, ← hF, show 61 - j = 0 by omega] at hq
            exact hq
          · refine J_aload_n hC dX10_earliestStart_43 rfl rfl ?_
            refine J_iload_n hC dX10_earliestStart_44 rfl rfl ?_
            refine J_aload_n hC dX10_earliestStart_45 rfl rfl ?_
            refine gX10_7 hC hM dX10_earliestStart_46 ?_
            refine J_bipush (v := nI 7) hC dX10_earliestStart_49 (by decide) ?_
            refine J_iaload hC (hM.1 1 (by decide)) rfl rfl (by omega) (by decide) dX10_earliestStart_51 ?_
            have e7 := (r_HOUR hI).2
            refine J_top (r_HOUR hI).1 ?_
            refine J_iload_n hC dX10_earliestStart_52 rfl rfl ?_
            refine J_iadd_n hC dX10_earliestStart_53 ?_
            refine J_iload_n hC dX10_earliestStart_54 rfl rfl ?_
            refine iX10_290 hC hM rfl ⟨by decide, by decide⟩ ⟨by decide, by decide⟩ (Nat.le_of_ble_eq_true rfl) dX10_earliestStart_55 ?_
            refine c_X10_refusal hM hI bk (by omega) (by omega) (by omega) ?_
            dsimp only [Option.toList_some, Option.toList_none, List.cons_append, List.nil_append]
            have hr7 := refuse_le (rd τ 13 1) kk (nv (rd τ 13 1) 7 + j) kd
            refine J_if_ne_n hC (by omega) (tgt := 71) dX10_earliestStart_58 rfl (fun hz => ?_) (fun hz => ?_)
            · rw [est_miss (by omega) hz] at hF
              refine J_iinc_n (m := 1) hC (by decide) dX10_earliestStart_71 rfl (Nat.le_of_ble_eq_true rfl) rfl ?_
              dsimp only [List.set]
              refine J_goto (tgt := 37) hC dX10_earliestStart_74 rfl ?_
              exact ih (j + 1) (by omega) (by omega) hF
            · rw [est_hit (by omega) hz] at hF
              refine J_aload_n hC dX10_earliestStart_61 rfl rfl ?_
              refine gX10_7 hC hM dX10_earliestStart_62 ?_
              refine J_bipush (v := nI 7) hC dX10_earliestStart_65 (by decide) ?_
              refine J_iaload hC (hM.1 1 (by decide)) rfl rfl (by omega) (by decide) dX10_earliestStart_67 ?_
              refine J_top (r_HOUR hI).1 ?_
              refine J_iload_n hC dX10_earliestStart_68 rfl rfl ?_
              refine J_iadd_n hC dX10_earliestStart_69 ?_
              refine J_ireturn hC hR dX10_earliestStart_70 (by decide) (by decide) ?_
              unfold aES at hq
              rw [cl_n (k := kk) (by omega), cl_n (k := kd) (by omega), chk_t hk, chk_t hd] at hq
              dsimp only at hq
              rw [hτ, ← hF] at hq
              rw [← nI_iI] at hq
              exact hq
      exact lp 62 0 (by omega) (by omega) rfl
    · dsimp only [Option.toList_some, Option.toList_none, List.cons_append, List.nil_append]
      refine J_if_ne_n hC (by decide) (tgt := 35) dX10_earliestStart_26 rfl (fun hf => absurd hf (by omega)) (fun _ => ?_)
      refine J_aload_n hC dX10_earliestStart_29 rfl rfl ?_
      refine J_iconst (v := nI 2) hC dX10_earliestStart_30 (by decide) ?_
      refine iX10_308 hC hM rfl ⟨by decide, by decide⟩ ⟨by decide, by decide⟩ (Nat.le_of_ble_eq_true rfl) dX10_earliestStart_31 ?_
      refine c_X10_fail hM ?_
      dsimp only [Option.toList_some, Option.toList_none, List.cons_append, List.nil_append]
      refine J_ireturn hC hR dX10_earliestStart_34 (by decide) (by decide) ?_
      unfold aES at hq
      rw [cl_n (k := kk) (by omega)] at hq
      rw [chk_t hk, chk_f hd] at hq
      dsimp only at hq
      rw [← h9] at hq
      exact hq
  · dsimp only [Option.toList_some, Option.toList_none, List.cons_append, List.nil_append]
    refine J_if_ne_n hC (by decide) (tgt := 19) dX10_earliestStart_10 rfl (fun hf => absurd hf (by omega)) (fun _ => ?_)
    refine J_aload_n hC dX10_earliestStart_13 rfl rfl ?_
    refine J_iconst (v := nI 1) hC dX10_earliestStart_14 (by decide) ?_
    refine iX10_308 hC hM rfl ⟨by decide, by decide⟩ ⟨by decide, by decide⟩ (Nat.le_of_ble_eq_true rfl) dX10_earliestStart_15 ?_
    refine c_X10_fail hM ?_
    dsimp only [Option.toList_some, Option.toList_none, List.cons_append, List.nil_append]
    refine J_ireturn hC hR dX10_earliestStart_18 (by decide) (by decide) ?_
    unfold aES at hq
    rw [chk_f hk] at hq
    dsimp only at hq
    rw [← h9] at hq
    exact hq
set_option maxHeartbeats 4000000 in
set_option maxRecDepth 100000 in
theorem c_X10_bestKnots {G : GC} {w : Lay} {σ : Mem} {Q : Lay → Option Value → Mem → Prop} {Qx : Lay → String → Mem → Prop} {hm : Nat} (hM : LM w) (hI : RowOK hm (rd σ 13 1))  {k h : Int32} (hq : Q w (some (.int (aBK (rd σ 13 1) k h).2)) (thr σ (aBK (rd σ 13 1) k h).1)) : MX10_bestKnots G w σ [.ref (w.2.1 13 0), .int k, .int h] Q Qx := by
  refine mt_start (by decide) rfl (Nat.le_of_ble_eq_true rfl) (fun E hC hR hN => ?_)
  show J G E w 0 0 0 [some (.ref (w.2.1 13 0)), some (.int k), some (.int h), none, none] [] σ
  refine J_aload_n hC dX10_bestKnots_0 rfl rfl ?_
  refine J_iload_n hC dX10_bestKnots_1 rfl rfl ?_
  refine J_iload_n hC dX10_bestKnots_2 rfl rfl ?_
  refine iX10_341 hC hM rfl ⟨by decide, by decide⟩ ⟨by decide, by decide⟩ (Nat.le_of_ble_eq_true rfl) dX10_bestKnots_3 ?_
  refine c_X10_asks hM hI (fun ha => ?_) (fun ha => ?_)
  · dsimp only [Option.toList_some, Option.toList_none, List.cons_append, List.nil_append]
    obtain ⟨hk, hh⟩ := ha
    obtain ⟨τ, hτ, hA⟩ : ∃ τ, thr σ 0 = τ ∧ rd σ 13 1 = rd τ 13 1 := ⟨_, rfl, rd_thr1.symm⟩
    have h9 : ∀ c, thr τ c = thr σ c := fun c => by rw [← hτ]; exact thr_thr
    rw [hA] at hI hq
    rw [hA] at hk
    rw [hτ]
    have gk := hk
    obtain ⟨kk, rfl, bk⟩ := gk
    have ek := r_NK hI
    have gh := hh
    obtain ⟨kh, rfl, ah, bh⟩ := gh
    have ch : kh < 2 ^ 31 := by omega
    refine J_if_ne_n hC (by decide) (tgt := 11) dX10_bestKnots_6 rfl (fun _ => ?_) (fun hf => absurd hf (by omega))
    refine J_iconst (v := -1) hC dX10_bestKnots_11 (by decide) ?_
    refine J_istore_n hC dX10_bestKnots_12 rfl (Nat.le_of_ble_eq_true rfl) rfl ?_
    dsimp only [List.set]
    refine J_iconst (v := nI 0) hC dX10_bestKnots_13 (by decide) ?_
    refine J_istore hC dX10_bestKnots_14 (Nat.le_of_ble_eq_true rfl) rfl ?_
    dsimp only [List.set]
    have lp : ∀ (dd : Nat) (j : Nat) (b : Int), 10 - j < dd → (j ≤ 10) → (-1 ≤ b ∧ b < j) → (bkF (rd τ 13 1) kk kh (10 - j) j b = bkF (rd τ 13 1) kk kh 10 0 (-1)) →  J G E w 0 0 16 [some (.ref (w.2.1 13 0)), some (.int (nI kk)), some (.int (nI kh)), some (.int (iI b)), some (.int (nI j))] [] τ := by
      intro dd
      induction dd with
      | zero =>
        intro j b hdd
        exact absurd hdd (Nat.not_lt_zero _)
      | succ dd ih =>
        intro j b hdd hj hjb hF
        refine J_iload hC dX10_bestKnots_16 rfl ?_
        refine J_bipush (v := nI 10) hC dX10_bestKnots_18 (by decide) ?_
        refine J_icmp_ge_n hC (by omega) (by decide) (tgt := 65) dX10_bestKnots_20 rfl (fun hb0 => ?_) (fun hb0 => ?_)
        · refine J_iload_n hC dX10_bestKnots_65 rfl rfl ?_
          refine J_ireturn hC hR dX10_bestKnots_66 (by decide) (by decide) ?_
          have e : j = 10 := by omega
          subst e
          unfold aBK at hq
          rw [cl_n (k := kk) (by omega), cl_n (k := kh) (by omega), chk_t hk, chk_t hh] at hq
          dsimp only at hq
          rw [hτ, ← hF] at hq
          exact hq
        · refine J_aload_n hC dX10_bestKnots_23 rfl rfl ?_
          refine J_iload_n hC dX10_bestKnots_24 rfl rfl ?_
          refine J_iload hC dX10_bestKnots_25 rfl ?_
          refine J_iload_n hC dX10_bestKnots_27 rfl rfl ?_
          refine iX10_115 hC hM rfl ⟨by decide, by decide⟩ ⟨by decide, by decide⟩ (Nat.le_of_ble_eq_true rfl) dX10_bestKnots_28 ?_
          refine c_X10_fliesWith hM hI bk (by omega) ch (fun hf => ?_) (fun hf => ?_)
          · dsimp only [Option.toList_some, Option.toList_none, List.cons_append, List.nil_append]
            refine J_if_eq_n hC (by decide) (tgt := 59) dX10_bestKnots_31 rfl (fun hf => absurd hf (by omega)) (fun _ => ?_)
            refine J_iload_n hC dX10_bestKnots_34 rfl rfl ?_
            refine J_if_lt_z hC rfl (by omega) (tgt := 56) dX10_bestKnots_35 rfl (fun hb => ?_) (fun hb => ?_)
            · rw [bk_hit (by omega) ⟨hf, Or.inl hb⟩] at hF
              refine J_iload hC dX10_bestKnots_56 rfl ?_
              refine J_istore_n hC dX10_bestKnots_58 rfl (Nat.le_of_ble_eq_true rfl) rfl ?_
              dsimp only [List.set]
              refine J_iinc_n (m := 1) hC (by decide) dX10_bestKnots_59 rfl (Nat.le_of_ble_eq_true rfl) rfl ?_
              dsimp only [List.set]
              refine J_goto (tgt := 16) hC dX10_bestKnots_62 rfl ?_
              first
              | exact ih (j + 1) b (by omega) (by omega) (by omega) hF
              | exact ih (j + 1) bn (by omega) (by omega) (by omega) hF
              | (rw [nI_iI j]; exact ih (j + 1) j (by omega) (by omega) (by omega) hF)
            · refine J_aload_n hC dX10_bestKnots_38 rfl rfl ?_
              refine J_iload_n hC dX10_bestKnots_39 rfl rfl ?_
              refine J_iload hC dX10_bestKnots_40 rfl ?_
              refine J_iload_n hC dX10_bestKnots_42 rfl rfl ?_
              refine iX10_93 hC hM rfl ⟨by decide, by decide⟩ ⟨by decide, by decide⟩ (Nat.le_of_ble_eq_true rfl) dX10_bestKnots_43 ?_
              refine c_X10_reachWith hM hI bk (by omega) ch ?_
              dsimp only [Option.toList_some, Option.toList_none, List.cons_append, List.nil_append]
              have g1 := reachW_le hI bk j kh
              obtain ⟨bn, hbn⟩ : ∃ bn : Nat, b = bn := ⟨b.toNat, by omega⟩
              subst hbn
              rw [← nI_iI]
              refine J_aload_n hC dX10_bestKnots_46 rfl rfl ?_
              refine J_iload_n hC dX10_bestKnots_47 rfl rfl ?_
              refine J_iload_n hC dX10_bestKnots_48 rfl rfl ?_
              refine J_iload_n hC dX10_bestKnots_49 rfl rfl ?_
              refine iX10_93 hC hM rfl ⟨by decide, by decide⟩ ⟨by decide, by decide⟩ (Nat.le_of_ble_eq_true rfl) dX10_bestKnots_50 ?_
              refine c_X10_reachWith hM hI bk (by omega) ch ?_
              dsimp only [Option.toList_some, Option.toList_none, List.cons_append, List.nil_append]
              have g2 := reachW_le hI bk bn kh
              refine J_icmp_le_n hC (by omega) (by omega) (tgt := 59) dX10_bestKnots_53 rfl (fun hl => ?_) (fun hl => ?_)
              · rw [bk_miss (by omega) (fun q => by rcases q.2 with q2 | q2 <;> (try change _ < _ at q2) <;> first | omega | exact absurd hl (by have q3 : reachW (rd τ 13 1) kk bn kh < reachW (rd τ 13 1) kk j kh := q2; omega))] at hF
                rw [nI_iI bn]
                refine J_iinc_n (m := 1) hC (by decide) dX10_bestKnots_59 rfl (Nat.le_of_ble_eq_true rfl) rfl ?_
                dsimp only [List.set]
                refine J_goto (tgt := 16) hC dX10_bestKnots_62 rfl ?_
                first
                | exact ih (j + 1) b (by omega) (by omega) (by omega) hF
                | exact ih (j + 1) bn (by omega) (by omega) (by omega) hF
                | (rw [nI_iI j]; exact ih (j + 1) j (by omega) (by omega) (by omega) hF)
              · rw [bk_hit (by omega) ⟨hf, Or.inr (by show reachW (rd τ 13 1) kk bn kh < _; omega)⟩] at hF
                refine J_iload hC dX10_bestKnots_56 rfl ?_
                refine J_istore_n hC dX10_bestKnots_58 rfl (Nat.le_of_ble_eq_true rfl) rfl ?_
                dsimp only [List.set]
                refine J_iinc_n (m := 1) hC (by decide) dX10_bestKnots_59 rfl (Nat.le_of_ble_eq_true rfl) rfl ?_
                dsimp only [List.set]
                refine J_goto (tgt := 16) hC dX10_bestKnots_62 rfl ?_
                first
                | exact ih (j + 1) b (by omega) (by omega) (by omega) hF
                | exact ih (j + 1) bn (by omega) (by omega) (by omega) hF
                | (rw [nI_iI j]; exact ih (j + 1) j (by omega) (by omega) (by omega) hF)
          · dsimp only [Option.toList_some, Option.toList_none, List.cons_append, List.nil_append]
            rw [bk_miss (by omega) (fun q => hf q.1)] at hF
            refine J_if_eq_n hC (by decide) (tgt := 59) dX10_bestKnots_31 rfl (fun _ => ?_) (fun hf => absurd hf (by omega))
            refine J_iinc_n (m := 1) hC (by decide) dX10_bestKnots_59 rfl (Nat.le_of_ble_eq_true rfl) rfl ?_
            dsimp only [List.set]
            refine J_goto (tgt := 16) hC dX10_bestKnots_62 rfl ?_
            first
            | exact ih (j + 1) b (by omega) (by omega) (by omega) hF
            | exact ih (j + 1) bn (by omega) (by omega) (by omega) hF
            | (rw [nI_iI j]; exact ih (j + 1) j (by omega) (by omega) (by omega) hF)
    exact lp 11 0 (-1) (by omega) (by omega) (by omega) rfl
  · dsimp only [Option.toList_some, Option.toList_none, List.cons_append, List.nil_append]
    intro hc hv
    refine J_if_ne_n hC (by decide) (tgt := 11) dX10_bestKnots_6 rfl (fun hf => absurd hf (by omega)) (fun _ => ?_)
    refine J_iconst (v := nI 0) hC dX10_bestKnots_9 (by decide) ?_
    refine J_ireturn hC hR dX10_bestKnots_10 (by decide) (by decide) ?_
    unfold aBK at hq
    first
    | (rw [hv] at hq; exact hq)
    | omega
set_option maxHeartbeats 4000000 in
set_option maxRecDepth 100000 in
theorem c_X10_hour {G : GC} {w : Lay} {σ : Mem} {Q : Lay → Option Value → Mem → Prop} {Qx : Lay → String → Mem → Prop} (hM : LM w) (hq : Q w (some (.int ((rd σ 13 1) 7))) (thr σ 0)) : MX10_hour G w σ [.ref (w.2.1 13 0)] Q Qx := by
  refine mt_start (by decide) rfl (Nat.le_of_ble_eq_true rfl) (fun E hC hR hN => ?_)
  show J G E w 0 0 0 [some (.ref (w.2.1 13 0))] [] σ
  refine J_aload_n hC dX10_hour_0 rfl rfl ?_
  refine J_iconst (v := nI 0) hC dX10_hour_1 (by decide) ?_
  refine pX10_62 hC hM dX10_hour_2 ?_
  refine J_aload_n hC dX10_hour_5 rfl rfl ?_
  refine gX10_7 hC hM dX10_hour_6 ?_
  refine J_bipush (v := nI 7) hC dX10_hour_9 (by decide) ?_
  refine J_iaload hC (hM.1 1 (by decide)) rfl rfl (by omega) (by decide) dX10_hour_11 ?_
  refine J_top (show _ = (rd σ 13 1) 7 from rd_wr_c (by decide)) ?_
  refine J_ireturn hC hR dX10_hour_12 (by decide) (by decide) ?_
  exact hq
set_option maxHeartbeats 4000000 in
set_option maxRecDepth 100000 in
theorem c_X10_width {G : GC} {w : Lay} {σ : Mem} {Q : Lay → Option Value → Mem → Prop} {Qx : Lay → String → Mem → Prop} (hM : LM w) (hq : Q w (some (.int ((rd σ 13 1) 0))) (thr σ 0)) : MX10_width G w σ [.ref (w.2.1 13 0)] Q Qx := by
  refine mt_start (by decide) rfl (Nat.le_of_ble_eq_true rfl) (fun E hC hR hN => ?_)
  show J G E w 0 0 0 [some (.ref (w.2.1 13 0))] [] σ
  refine J_aload_n hC dX10_width_0 rfl rfl ?_
  refine J_iconst (v := nI 0) hC dX10_width_1 (by decide) ?_
  refine pX10_62 hC hM dX10_width_2 ?_
  refine J_aload_n hC dX10_width_5 rfl rfl ?_
  refine gX10_7 hC hM dX10_width_6 ?_
  refine J_iconst (v := nI 0) hC dX10_width_9 (by decide) ?_
  refine J_iaload hC (hM.1 1 (by decide)) rfl rfl (by omega) (by decide) dX10_width_10 ?_
  refine J_top (show _ = (rd σ 13 1) 0 from rd_wr_c (by decide)) ?_
  refine J_ireturn hC hR dX10_width_11 (by decide) (by decide) ?_
  exact hq
set_option maxHeartbeats 4000000 in
set_option maxRecDepth 100000 in
theorem c_X10_height {G : GC} {w : Lay} {σ : Mem} {Q : Lay → Option Value → Mem → Prop} {Qx : Lay → String → Mem → Prop} (hM : LM w) (hq : Q w (some (.int ((rd σ 13 1) 1))) (thr σ 0)) : MX10_height G w σ [.ref (w.2.1 13 0)] Q Qx := by
  refine mt_start (by decide) rfl (Nat.le_of_ble_eq_true rfl) (fun E hC hR hN => ?_)
  show J G E w 0 0 0 [some (.ref (w.2.1 13 0))] [] σ
  refine J_aload_n hC dX10_height_0 rfl rfl ?_
  refine J_iconst (v := nI 0) hC dX10_height_1 (by decide) ?_
  refine pX10_62 hC hM dX10_height_2 ?_
  refine J_aload_n hC dX10_height_5 rfl rfl ?_
  refine gX10_7 hC hM dX10_height_6 ?_
  refine J_iconst (v := nI 1) hC dX10_height_9 (by decide) ?_
  refine J_iaload hC (hM.1 1 (by decide)) rfl rfl (by omega) (by decide) dX10_height_10 ?_
  refine J_top (show _ = (rd σ 13 1) 1 from rd_wr_c (by decide)) ?_
  refine J_ireturn hC hR dX10_height_11 (by decide) (by decide) ?_
  exact hq
set_option maxHeartbeats 4000000 in
set_option maxRecDepth 100000 in
theorem c_X10_fee {G : GC} {w : Lay} {σ : Mem} {Q : Lay → Option Value → Mem → Prop} {Qx : Lay → String → Mem → Prop} (hM : LM w) (hq : Q w (some (.int ((rd σ 13 1) 2))) (thr σ 0)) : MX10_fee G w σ [.ref (w.2.1 13 0)] Q Qx := by
  refine mt_start (by decide) rfl (Nat.le_of_ble_eq_true rfl) (fun E hC hR hN => ?_)
  show J G E w 0 0 0 [some (.ref (w.2.1 13 0))] [] σ
  refine J_aload_n hC dX10_fee_0 rfl rfl ?_
  refine J_iconst (v := nI 0) hC dX10_fee_1 (by decide) ?_
  refine pX10_62 hC hM dX10_fee_2 ?_
  refine J_aload_n hC dX10_fee_5 rfl rfl ?_
  refine gX10_7 hC hM dX10_fee_6 ?_
  refine J_iconst (v := nI 2) hC dX10_fee_9 (by decide) ?_
  refine J_iaload hC (hM.1 1 (by decide)) rfl rfl (by omega) (by decide) dX10_fee_10 ?_
  refine J_top (show _ = (rd σ 13 1) 2 from rd_wr_c (by decide)) ?_
  refine J_ireturn hC hR dX10_fee_11 (by decide) (by decide) ?_
  exact hq
set_option maxHeartbeats 4000000 in
set_option maxRecDepth 100000 in
theorem c_X10_fine {G : GC} {w : Lay} {σ : Mem} {Q : Lay → Option Value → Mem → Prop} {Qx : Lay → String → Mem → Prop} (hM : LM w) (hq : Q w (some (.int ((rd σ 13 1) 3))) (thr σ 0)) : MX10_fine G w σ [.ref (w.2.1 13 0)] Q Qx := by
  refine mt_start (by decide) rfl (Nat.le_of_ble_eq_true rfl) (fun E hC hR hN => ?_)
  show J G E w 0 0 0 [some (.ref (w.2.1 13 0))] [] σ
  refine J_aload_n hC dX10_fine_0 rfl rfl ?_
  refine J_iconst (v := nI 0) hC dX10_fine_1 (by decide) ?_
  refine pX10_62 hC hM dX10_fine_2 ?_
  refine J_aload_n hC dX10_fine_5 rfl rfl ?_
  refine gX10_7 hC hM dX10_fine_6 ?_
  refine J_iconst (v := nI 3) hC dX10_fine_9 (by decide) ?_
  refine J_iaload hC (hM.1 1 (by decide)) rfl rfl (by omega) (by decide) dX10_fine_10 ?_
  refine J_top (show _ = (rd σ 13 1) 3 from rd_wr_c (by decide)) ?_
  refine J_ireturn hC hR dX10_fine_11 (by decide) (by decide) ?_
  exact hq
set_option maxHeartbeats 4000000 in
set_option maxRecDepth 100000 in
theorem c_X10_zoneCount {G : GC} {w : Lay} {σ : Mem} {Q : Lay → Option Value → Mem → Prop} {Qx : Lay → String → Mem → Prop} (hM : LM w) (hq : Q w (some (.int ((rd σ 13 1) 4))) (thr σ 0)) : MX10_zoneCount G w σ [.ref (w.2.1 13 0)] Q Qx := by
  refine mt_start (by decide) rfl (Nat.le_of_ble_eq_true rfl) (fun E hC hR hN => ?_)
  show J G E w 0 0 0 [some (.ref (w.2.1 13 0))] [] σ
  refine J_aload_n hC dX10_zoneCount_0 rfl rfl ?_
  refine J_iconst (v := nI 0) hC dX10_zoneCount_1 (by decide) ?_
  refine pX10_62 hC hM dX10_zoneCount_2 ?_
  refine J_aload_n hC dX10_zoneCount_5 rfl rfl ?_
  refine gX10_7 hC hM dX10_zoneCount_6 ?_
  refine J_iconst (v := nI 4) hC dX10_zoneCount_9 (by decide) ?_
  refine J_iaload hC (hM.1 1 (by decide)) rfl rfl (by omega) (by decide) dX10_zoneCount_10 ?_
  refine J_top (show _ = (rd σ 13 1) 4 from rd_wr_c (by decide)) ?_
  refine J_ireturn hC hR dX10_zoneCount_11 (by decide) (by decide) ?_
  exact hq
set_option maxHeartbeats 4000000 in
set_option maxRecDepth 100000 in
theorem c_X10_colourCount {G : GC} {w : Lay} {σ : Mem} {Q : Lay → Option Value → Mem → Prop} {Qx : Lay → String → Mem → Prop} (hM : LM w) (hq : Q w (some (.int ((rd σ 13 1) 5))) (thr σ 0)) : MX10_colourCount G w σ [.ref (w.2.1 13 0)] Q Qx := by
  refine mt_start (by decide) rfl (Nat.le_of_ble_eq_true rfl) (fun E hC hR hN => ?_)
  show J G E w 0 0 0 [some (.ref (w.2.1 13 0))] [] σ
  refine J_aload_n hC dX10_colourCount_0 rfl rfl ?_
  refine J_iconst (v := nI 0) hC dX10_colourCount_1 (by decide) ?_
  refine pX10_62 hC hM dX10_colourCount_2 ?_
  refine J_aload_n hC dX10_colourCount_5 rfl rfl ?_
  refine gX10_7 hC hM dX10_colourCount_6 ?_
  refine J_iconst (v := nI 5) hC dX10_colourCount_9 (by decide) ?_
  refine J_iaload hC (hM.1 1 (by decide)) rfl rfl (by omega) (by decide) dX10_colourCount_10 ?_
  refine J_top (show _ = (rd σ 13 1) 5 from rd_wr_c (by decide)) ?_
  refine J_ireturn hC hR dX10_colourCount_11 (by decide) (by decide) ?_
  exact hq
set_option maxHeartbeats 4000000 in
set_option maxRecDepth 100000 in
theorem c_X10_kiteCount {G : GC} {w : Lay} {σ : Mem} {Q : Lay → Option Value → Mem → Prop} {Qx : Lay → String → Mem → Prop} (hM : LM w) (hq : Q w (some (.int ((rd σ 13 1) 6))) (thr σ 0)) : MX10_kiteCount G w σ [.ref (w.2.1 13 0)] Q Qx := by
  refine mt_start (by decide) rfl (Nat.le_of_ble_eq_true rfl) (fun E hC hR hN => ?_)
  show J G E w 0 0 0 [some (.ref (w.2.1 13 0))] [] σ
  refine J_aload_n hC dX10_kiteCount_0 rfl rfl ?_
  refine J_iconst (v := nI 0) hC dX10_kiteCount_1 (by decide) ?_
  refine pX10_62 hC hM dX10_kiteCount_2 ?_
  refine J_aload_n hC dX10_kiteCount_5 rfl rfl ?_
  refine gX10_7 hC hM dX10_kiteCount_6 ?_
  refine J_bipush (v := nI 6) hC dX10_kiteCount_9 (by decide) ?_
  refine J_iaload hC (hM.1 1 (by decide)) rfl rfl (by omega) (by decide) dX10_kiteCount_11 ?_
  refine J_top (show _ = (rd σ 13 1) 6 from rd_wr_c (by decide)) ?_
  refine J_ireturn hC hR dX10_kiteCount_12 (by decide) (by decide) ?_
  exact hq
set_option maxHeartbeats 4000000 in
set_option maxRecDepth 100000 in
theorem c_X10_permitCount {G : GC} {w : Lay} {σ : Mem} {Q : Lay → Option Value → Mem → Prop} {Qx : Lay → String → Mem → Prop} (hM : LM w) (hq : Q w (some (.int ((rd σ 13 1) 11))) (thr σ 0)) : MX10_permitCount G w σ [.ref (w.2.1 13 0)] Q Qx := by
  refine mt_start (by decide) rfl (Nat.le_of_ble_eq_true rfl) (fun E hC hR hN => ?_)
  show J G E w 0 0 0 [some (.ref (w.2.1 13 0))] [] σ
  refine J_aload_n hC dX10_permitCount_0 rfl rfl ?_
  refine J_iconst (v := nI 0) hC dX10_permitCount_1 (by decide) ?_
  refine pX10_62 hC hM dX10_permitCount_2 ?_
  refine J_aload_n hC dX10_permitCount_5 rfl rfl ?_
  refine gX10_7 hC hM dX10_permitCount_6 ?_
  refine J_bipush (v := nI 11) hC dX10_permitCount_9 (by decide) ?_
  refine J_iaload hC (hM.1 1 (by decide)) rfl rfl (by omega) (by decide) dX10_permitCount_11 ?_
  refine J_top (show _ = (rd σ 13 1) 11 from rd_wr_c (by decide)) ?_
  refine J_ireturn hC hR dX10_permitCount_12 (by decide) (by decide) ?_
  exact hq
set_option maxHeartbeats 4000000 in
set_option maxRecDepth 100000 in
theorem c_X10_officeCoins {G : GC} {w : Lay} {σ : Mem} {Q : Lay → Option Value → Mem → Prop} {Qx : Lay → String → Mem → Prop} (hM : LM w) (hq : Q w (some (.int ((rd σ 13 1) 9))) (thr σ 0)) : MX10_officeCoins G w σ [.ref (w.2.1 13 0)] Q Qx := by
  refine mt_start (by decide) rfl (Nat.le_of_ble_eq_true rfl) (fun E hC hR hN => ?_)
  show J G E w 0 0 0 [some (.ref (w.2.1 13 0))] [] σ
  refine J_aload_n hC dX10_officeCoins_0 rfl rfl ?_
  refine J_iconst (v := nI 0) hC dX10_officeCoins_1 (by decide) ?_
  refine pX10_62 hC hM dX10_officeCoins_2 ?_
  refine J_aload_n hC dX10_officeCoins_5 rfl rfl ?_
  refine gX10_7 hC hM dX10_officeCoins_6 ?_
  refine J_bipush (v := nI 9) hC dX10_officeCoins_9 (by decide) ?_
  refine J_iaload hC (hM.1 1 (by decide)) rfl rfl (by omega) (by decide) dX10_officeCoins_11 ?_
  refine J_top (show _ = (rd σ 13 1) 9 from rd_wr_c (by decide)) ?_
  refine J_ireturn hC hR dX10_officeCoins_12 (by decide) (by decide) ?_
  exact hq
set_option maxHeartbeats 4000000 in
set_option maxRecDepth 100000 in
theorem c_X10_errorCode {G : GC} {w : Lay} {σ : Mem} {Q : Lay → Option Value → Mem → Prop} {Qx : Lay → String → Mem → Prop} (hM : LM w) (hq : Q w (some (.int (rd σ 13 0 7))) (thr σ 0)) : MX10_errorCode G w σ [.ref (w.2.1 13 0)] Q Qx := by
  refine mt_start (by decide) rfl (Nat.le_of_ble_eq_true rfl) (fun E hC hR hN => ?_)
  show J G E w 0 0 0 [some (.ref (w.2.1 13 0))] [] σ
  refine J_aload_n hC dX10_errorCode_0 rfl rfl ?_
  refine J_iconst (v := nI 0) hC dX10_errorCode_1 (by decide) ?_
  refine pX10_62 hC hM dX10_errorCode_2 ?_
  refine J_aload_n hC dX10_errorCode_5 rfl rfl ?_
  refine gX10_207 hC hM dX10_errorCode_6 ?_
  refine J_top (show _ = rd σ 13 0 7 from rd_wr_j (by decide)) ?_
  refine J_ireturn hC hR dX10_errorCode_9 (by decide) (by decide) ?_
  exact hq
set_option maxHeartbeats 4000000 in
set_option maxRecDepth 100000 in
theorem c_X10_errorPosition {G : GC} {w : Lay} {σ : Mem} {Q : Lay → Option Value → Mem → Prop} {Qx : Lay → String → Mem → Prop} (hM : LM w) (hq : Q w (some (.int (rd σ 13 0 8))) (thr σ 0)) : MX10_errorPosition G w σ [.ref (w.2.1 13 0)] Q Qx := by
  refine mt_start (by decide) rfl (Nat.le_of_ble_eq_true rfl) (fun E hC hR hN => ?_)
  show J G E w 0 0 0 [some (.ref (w.2.1 13 0))] [] σ
  refine J_aload_n hC dX10_errorPosition_0 rfl rfl ?_
  refine J_iconst (v := nI 0) hC dX10_errorPosition_1 (by decide) ?_
  refine pX10_62 hC hM dX10_errorPosition_2 ?_
  refine J_aload_n hC dX10_errorPosition_5 rfl rfl ?_
  refine gX10_24 hC hM dX10_errorPosition_6 ?_
  refine J_top (show _ = rd σ 13 0 8 from rd_wr_j (by decide)) ?_
  refine J_ireturn hC hR dX10_errorPosition_9 (by decide) (by decide) ?_
  exact hq
set_option maxHeartbeats 4000000 in
set_option maxRecDepth 100000 in
theorem c_X10_crossings {G : GC} {w : Lay} {σ : Mem} {Q : Lay → Option Value → Mem → Prop} {Qx : Lay → String → Mem → Prop} {hm : Nat} (hM : LM w) (hI : RowOK hm (rd σ 13 1)) (hb9 : hm ≤ 900000) {p q : Nat} (hp : p < nv (rd σ 13 1) 11) (hq0 : q < nv (rd σ 13 1) 11) (hq : Q w (some (.int (nI (crs (rd σ 13 1) p q)))) σ) : MX10_crossings G w σ [.ref (w.2.1 13 0), .int (nI p), .int (nI q)] Q Qx := by
  refine mt_start (by decide) rfl (Nat.le_of_ble_eq_true rfl) (fun E hC hR hN => ?_)
  show J G E w 0 0 0 [some (.ref (w.2.1 13 0)), some (.int (nI p)), some (.int (nI q)), none, none, none, none] [] σ
  have h1 := r_NP hI
  have h3 := r_HOUR hI
  have h4 := r_PS hI hp
  have h5 := r_PD hI hp
  have h6 := r_NK hI
  have h7 := (r_PK hI hp).2
  have h8 := (r_PK hI hq0).2
  have hE : crsE (rd σ 13 1) p = nv (rd σ 13 1) (214 + 3 * p + 1) + nv (rd σ 13 1) (214 + 3 * p + 2) := rfl
  have hB : crsB (rd σ 13 1) p = max (nv (rd σ 13 1) 7) (nv (rd σ 13 1) (214 + 3 * p + 1)) := rfl
  refine J_sipush (v := nI 214) hC dX10_crossings_0 (by decide) ?_
  refine J_iconst (v := nI 3) hC dX10_crossings_3 (by decide) ?_
  refine J_iload_n hC dX10_crossings_4 rfl rfl ?_
  refine J_imul_n hC dX10_crossings_5 ?_
  refine J_iadd_n hC dX10_crossings_6 ?_
  refine J_istore_n hC dX10_crossings_7 rfl (Nat.le_of_ble_eq_true rfl) rfl ?_
  dsimp only [List.set]
  refine J_sipush (v := nI 214) hC dX10_crossings_8 (by decide) ?_
  refine J_iconst (v := nI 3) hC dX10_crossings_11 (by decide) ?_
  refine J_iload_n hC dX10_crossings_12 rfl rfl ?_
  refine J_imul_n hC dX10_crossings_13 ?_
  refine J_iadd_n hC dX10_crossings_14 ?_
  refine J_istore hC dX10_crossings_15 (Nat.le_of_ble_eq_true rfl) rfl ?_
  dsimp only [List.set]
  refine J_iconst (v := nI 0) hC dX10_crossings_17 (by decide) ?_
  refine J_istore hC dX10_crossings_18 (Nat.le_of_ble_eq_true rfl) rfl ?_
  dsimp only [List.set]
  refine J_aload_n hC dX10_crossings_20 rfl rfl ?_
  refine gX10_7 hC hM dX10_crossings_21 ?_
  refine J_iload_n hC dX10_crossings_24 rfl rfl ?_
  refine J_iaload hC (hM.1 1 (by decide)) rfl rfl (by omega) (by decide) dX10_crossings_25 ?_
  refine J_top (r_PK hI hp).1 ?_
  refine J_aload_n hC dX10_crossings_26 rfl rfl ?_
  refine gX10_7 hC hM dX10_crossings_27 ?_
  refine J_iload hC dX10_crossings_30 rfl ?_
  refine J_iaload hC (hM.1 1 (by decide)) rfl rfl (by omega) (by decide) dX10_crossings_32 ?_
  refine J_top (r_PK hI hq0).1 ?_
  refine J_icmp_ne_n hC (by omega) (by omega) (tgt := 38) dX10_crossings_33 rfl (fun hne => ?_) (fun hne => ?_)
  · skip
    have lp : ∀ (dd : Nat) (i : Nat), crsE (rd σ 13 1) p - crsB (rd σ 13 1) p - i < dd → (i ≤ crsE (rd σ 13 1) p - crsB (rd σ 13 1) p) →  J G E w 0 0 58 [some (.ref (w.2.1 13 0)), some (.int (nI p)), some (.int (nI q)), some (.int (nI (214 + 3 * p))), some (.int (nI (214 + 3 * q))), some (.int (nI (cnt (fun i => crsP (rd σ 13 1) p q (crsB (rd σ 13 1) p + i)) i))), some (.int (nI (crsB (rd σ 13 1) p + i)))] [] σ := by
      intro dd
      induction dd with
      | zero =>
        intro i hdd
        exact absurd hdd (Nat.not_lt_zero _)
      | succ dd ih =>
        intro i hdd hi
        have hci := cnt_le (fun i => crsP (rd σ 13 1) p q (crsB (rd σ 13 1) p + i)) i
        refine J_iload hC dX10_crossings_58 rfl ?_
        refine J_aload_n hC dX10_crossings_60 rfl rfl ?_
        refine gX10_7 hC hM dX10_crossings_61 ?_
        refine J_iload_n hC dX10_crossings_64 rfl rfl ?_
        refine J_iconst (v := nI 1) hC dX10_crossings_65 (by decide) ?_
        refine J_iadd_n hC dX10_crossings_66 ?_
        refine J_iaload hC (hM.1 1 (by decide)) rfl rfl (by omega) (by decide) dX10_crossings_67 ?_
        refine J_top (r_PS hI hp).1 ?_
        refine J_aload_n hC dX10_crossings_68 rfl rfl ?_
        refine gX10_7 hC hM dX10_crossings_69 ?_
        refine J_iload_n hC dX10_crossings_72 rfl rfl ?_
        refine J_iconst (v := nI 2) hC dX10_crossings_73 (by decide) ?_
        refine J_iadd_n hC dX10_crossings_74 ?_
        refine J_iaload hC (hM.1 1 (by decide)) rfl rfl (by omega) (by decide) dX10_crossings_75 ?_
        refine J_top (r_PD hI hp).1 ?_
        refine J_iadd_n hC dX10_crossings_76 ?_
        refine J_icmp_ge_n hC (by omega) (by omega) (tgt := 121) dX10_crossings_77 rfl (fun hb => ?_) (fun hb => ?_)
        · refine J_iload hC dX10_crossings_121 rfl ?_
          refine J_ireturn hC hR dX10_crossings_123 (by decide) (by decide) ?_
          have e : i = crsE (rd σ 13 1) p - crsB (rd σ 13 1) p := by omega
          subst e
          rw [crs_ne hne] at hq
          exact hq
        · refine J_aload_n hC dX10_crossings_80 rfl rfl ?_
          refine J_iload_n hC dX10_crossings_81 rfl rfl ?_
          refine J_iload hC dX10_crossings_82 rfl ?_
          refine iX10_134 hC hM rfl ⟨by decide, by decide⟩ ⟨by decide, by decide⟩ (Nat.le_of_ble_eq_true rfl) dX10_crossings_84 ?_
          refine c_X10_covers hM hI hq0 (by omega) (fun hcov => ?_) (fun hcov => ?_)
          · dsimp only [Option.toList_some, Option.toList_none, List.cons_append, List.nil_append]
            refine J_if_eq_n hC (by decide) (tgt := 115) dX10_crossings_87 rfl (fun hf => absurd hf (by omega)) (fun _ => ?_)
            refine J_aload_n hC dX10_crossings_90 rfl rfl ?_
            refine J_aload_n hC dX10_crossings_91 rfl rfl ?_
            refine gX10_7 hC hM dX10_crossings_92 ?_
            refine J_iload_n hC dX10_crossings_95 rfl rfl ?_
            refine J_iaload hC (hM.1 1 (by decide)) rfl rfl (by omega) (by decide) dX10_crossings_96 ?_
            refine J_top (r_PK hI hp).1 ?_
            refine J_aload_n hC dX10_crossings_97 rfl rfl ?_
            refine gX10_7 hC hM dX10_crossings_98 ?_
            refine J_iload hC dX10_crossings_101 rfl ?_
            refine J_iaload hC (hM.1 1 (by decide)) rfl rfl (by omega) (by decide) dX10_crossings_103 ?_
            refine J_top (r_PK hI hq0).1 ?_
            refine J_iload hC dX10_crossings_104 rfl ?_
            refine iX10_141 hC hM rfl ⟨by decide, by decide⟩ ⟨by decide, by decide⟩ (Nat.le_of_ble_eq_true rfl) dX10_crossings_106 ?_
            refine c_X10_cross hM hI (r_PK hI hp).2 (r_PK hI hq0).2 (by omega) (fun hcr => ?_) (fun hcr => ?_)
            · dsimp only [Option.toList_some, Option.toList_none, List.cons_append, List.nil_append]
              refine J_if_eq_n hC (by decide) (tgt := 115) dX10_crossings_109 rfl (fun hf => absurd hf (by omega)) (fun _ => ?_)
              refine J_iinc_n (m := 1) hC (by decide) dX10_crossings_112 rfl (Nat.le_of_ble_eq_true rfl) rfl ?_
              dsimp only [List.set]
              rw [← cnt_tt (P := (fun i => crsP (rd σ 13 1) p q (crsB (rd σ 13 1) p + i))) (n := i) ⟨hcov, hcr⟩]
              refine J_iinc_n (m := 1) hC (by decide) dX10_crossings_115 rfl (Nat.le_of_ble_eq_true rfl) rfl ?_
              dsimp only [List.set]
              refine J_goto (tgt := 58) hC dX10_crossings_118 rfl ?_
              exact ih (i + 1) (by omega) (by omega)
            · dsimp only [Option.toList_some, Option.toList_none, List.cons_append, List.nil_append]
              rw [← cnt_ff (n := i) (fun g => hcr g.2)]
              refine J_if_eq_n hC (by decide) (tgt := 115) dX10_crossings_109 rfl (fun _ => ?_) (fun hf => absurd hf (by omega))
              refine J_iinc_n (m := 1) hC (by decide) dX10_crossings_115 rfl (Nat.le_of_ble_eq_true rfl) rfl ?_
              dsimp only [List.set]
              refine J_goto (tgt := 58) hC dX10_crossings_118 rfl ?_
              exact ih (i + 1) (by omega) (by omega)
          · dsimp only [Option.toList_some, Option.toList_none, List.cons_append, List.nil_append]
            rw [← cnt_ff (n := i) (fun g => hcov g.1)]
            refine J_if_eq_n hC (by decide) (tgt := 115) dX10_crossings_87 rfl (fun _ => ?_) (fun hf => absurd hf (by omega))
            refine J_iinc_n (m := 1) hC (by decide) dX10_crossings_115 rfl (Nat.le_of_ble_eq_true rfl) rfl ?_
            dsimp only [List.set]
            refine J_goto (tgt := 58) hC dX10_crossings_118 rfl ?_
            exact ih (i + 1) (by omega) (by omega)
    refine J_aload_n hC dX10_crossings_38 rfl rfl ?_
    refine gX10_7 hC hM dX10_crossings_39 ?_
    refine J_bipush (v := nI 7) hC dX10_crossings_42 (by decide) ?_
    refine J_iaload hC (hM.1 1 (by decide)) rfl rfl (by omega) (by decide) dX10_crossings_44 ?_
    refine J_top h3.1 ?_
    refine J_aload_n hC dX10_crossings_45 rfl rfl ?_
    refine gX10_7 hC hM dX10_crossings_46 ?_
    refine J_iload_n hC dX10_crossings_49 rfl rfl ?_
    refine J_iconst (v := nI 1) hC dX10_crossings_50 (by decide) ?_
    refine J_iadd_n hC dX10_crossings_51 ?_
    refine J_iaload hC (hM.1 1 (by decide)) rfl rfl (by omega) (by decide) dX10_crossings_52 ?_
    refine J_top (r_PS hI hp).1 ?_
    refine iX10_118 hC rfl ⟨by decide, by decide⟩ ⟨by decide, by decide⟩ (Nat.le_of_ble_eq_true rfl) dX10_crossings_53 ?_
    refine c_X10_more  ?_
    dsimp only [Option.toList_some, Option.toList_none, List.cons_append, List.nil_append]
    rw [imax_n (by omega) (by omega)]
    refine J_istore hC dX10_crossings_56 (Nat.le_of_ble_eq_true rfl) rfl ?_
    dsimp only [List.set]
    exact lp (crsE (rd σ 13 1) p + 1) 0 (by omega) (by omega)
  · refine J_iconst (v := nI 0) hC dX10_crossings_36 (by decide) ?_
    refine J_ireturn hC hR dX10_crossings_37 (by decide) (by decide) ?_
    rw [crs_eq hne] at hq
    exact hq
set_option maxHeartbeats 4000000 in
set_option maxRecDepth 100000 in
theorem c_X10_permittedCrossings {G : GC} {w : Lay} {σ : Mem} {Q : Lay → Option Value → Mem → Prop} {Qx : Lay → String → Mem → Prop} {hm : Nat} (hM : LM w) (hI : RowOK hm (rd σ 13 1)) (hb9 : hm ≤ 900000) (hq : Q w (some (.int (nI (pcr (rd σ 13 1))))) (thr σ 0)) : MX10_permittedCrossings G w σ [.ref (w.2.1 13 0)] Q Qx := by
  refine mt_start (by decide) rfl (Nat.le_of_ble_eq_true rfl) (fun E hC hR hN => ?_)
  show J G E w 0 0 0 [some (.ref (w.2.1 13 0)), none, none, none] [] σ
  refine J_aload_n hC dX10_permittedCrossings_0 rfl rfl ?_
  refine J_iconst (v := nI 0) hC dX10_permittedCrossings_1 (by decide) ?_
  refine pX10_62 hC hM dX10_permittedCrossings_2 ?_
  obtain ⟨τ, hτ, hA⟩ : ∃ τ, thr σ 0 = τ ∧ rd σ 13 1 = rd τ 13 1 := ⟨_, rfl, rd_thr1.symm⟩
  have h9 : ∀ c, thr τ c = thr σ c := fun c => by rw [← hτ]; exact thr_thr
  rw [hA] at hI hq
  show J G E w 0 0 5 _ _ (thr σ 0)
  rw [hτ]
  refine J_iconst (v := nI 0) hC dX10_permittedCrossings_5 (by decide) ?_
  refine J_istore_n hC dX10_permittedCrossings_6 rfl (Nat.le_of_ble_eq_true rfl) rfl ?_
  dsimp only [List.set]
  have hNP := r_NP hI
  have lp : ∀ (dd : Nat) (k : Nat), nv (rd τ 13 1) 11 - k < dd → (k ≤ nv (rd τ 13 1) 11) →  J G E w 0 0 9 [some (.ref (w.2.1 13 0)), some (.int (nI (sumN (fun k => sumN (fun j => crs (rd τ 13 1) k (k + 1 + j)) (nv (rd τ 13 1) 11 - (k + 1))) k))), some (.int (nI k)), none] [] τ := by
    intro dd
    induction dd with
    | zero =>
      intro k hdd
      exact absurd hdd (Nat.not_lt_zero _)
    | succ dd ih =>
      intro k hdd hk
      refine J_iload_n hC dX10_permittedCrossings_9 rfl rfl ?_
      refine J_aload_n hC dX10_permittedCrossings_10 rfl rfl ?_
      refine gX10_7 hC hM dX10_permittedCrossings_11 ?_
      refine J_bipush (v := nI 11) hC dX10_permittedCrossings_14 (by decide) ?_
      refine J_iaload hC (hM.1 1 (by decide)) rfl rfl (by omega) (by decide) dX10_permittedCrossings_16 ?_
      refine J_top (r_NP hI).1 ?_
      refine J_icmp_ge_n hC (by omega) (by omega) (tgt := 56) dX10_permittedCrossings_17 rfl (fun hb1 => ?_) (fun hb1 => ?_)
      · refine J_iload_n hC dX10_permittedCrossings_56 rfl rfl ?_
        refine J_ireturn hC hR dX10_permittedCrossings_57 (by decide) (by decide) ?_
        have e : k = nv (rd τ 13 1) 11 := by omega
        subst e
        rw [hτ] at hq
        exact hq
      · have li : ∀ (dd : Nat) (i : Nat), nv (rd τ 13 1) 11 - i < dd → (i ≤ nv (rd τ 13 1) 11 - (k + 1)) →  J G E w 0 0 24 [some (.ref (w.2.1 13 0)), some (.int (nI (sumN (fun k => sumN (fun j => crs (rd τ 13 1) k (k + 1 + j)) (nv (rd τ 13 1) 11 - (k + 1))) k + sumN (fun j => crs (rd τ 13 1) k (k + 1 + j)) i))), some (.int (nI k)), some (.int (nI (k + 1 + i)))] [] τ := by
          intro dd
          induction dd with
          | zero =>
            intro i hdd
            exact absurd hdd (Nat.not_lt_zero _)
          | succ dd ihi =>
            intro i hdd hi
            refine J_iload_n hC dX10_permittedCrossings_24 rfl rfl ?_
            refine J_aload_n hC dX10_permittedCrossings_25 rfl rfl ?_
            refine gX10_7 hC hM dX10_permittedCrossings_26 ?_
            refine J_bipush (v := nI 11) hC dX10_permittedCrossings_29 (by decide) ?_
            refine J_iaload hC (hM.1 1 (by decide)) rfl rfl (by omega) (by decide) dX10_permittedCrossings_31 ?_
            refine J_top (r_NP hI).1 ?_
            refine J_icmp_ge_n hC (by omega) (by omega) (tgt := 50) dX10_permittedCrossings_32 rfl (fun hc => ?_) (fun hc => ?_)
            · refine J_iinc_n (m := 1) hC (by decide) dX10_permittedCrossings_50 rfl (Nat.le_of_ble_eq_true rfl) rfl ?_
              dsimp only [List.set]
              refine J_goto (tgt := 9) hC dX10_permittedCrossings_53 rfl ?_
              have e : i = nv (rd τ 13 1) 11 - (k + 1) := by omega
              subst e
              refine J_less (ls' := [some (.ref (w.2.1 13 0)), some (.int (nI (sumN (fun k => sumN (fun j => crs (rd τ 13 1) k (k + 1 + j)) (nv (rd τ 13 1) 11 - (k + 1))) (k + 1)))), some (.int (nI (k + 1))), none]) ⟨Or.inr rfl, Or.inr rfl, Or.inr rfl, Or.inl rfl, trivial⟩ ?_
              exact ih (k + 1) (by omega) (by omega)
            · refine J_iload_n hC dX10_permittedCrossings_35 rfl rfl ?_
              refine J_aload_n hC dX10_permittedCrossings_36 rfl rfl ?_
              refine J_iload_n hC dX10_permittedCrossings_37 rfl rfl ?_
              refine J_iload_n hC dX10_permittedCrossings_38 rfl rfl ?_
              refine iX10_350 hC hM rfl ⟨by decide, by decide⟩ ⟨by decide, by decide⟩ (Nat.le_of_ble_eq_true rfl) dX10_permittedCrossings_39 ?_
              refine c_X10_crossings hM hI hb9 (by omega) (by omega) ?_
              dsimp only [Option.toList_some, Option.toList_none, List.cons_append, List.nil_append]
              
              refine J_iadd_n hC dX10_permittedCrossings_42 ?_
              rw [Nat.add_assoc (sumN (fun k => sumN (fun j => crs (rd τ 13 1) k (k + 1 + j)) (nv (rd τ 13 1) 11 - (k + 1))) k), ← sumN_s (f := fun j => crs (rd τ 13 1) k (k + 1 + j))]
              refine J_istore_n hC dX10_permittedCrossings_43 rfl (Nat.le_of_ble_eq_true rfl) rfl ?_
              dsimp only [List.set]
              refine J_iinc_n (m := 1) hC (by decide) dX10_permittedCrossings_44 rfl (Nat.le_of_ble_eq_true rfl) rfl ?_
              dsimp only [List.set]
              refine J_goto (tgt := 24) hC dX10_permittedCrossings_47 rfl ?_
              exact ihi (i + 1) (by omega) (by omega)
        refine J_iload_n hC dX10_permittedCrossings_20 rfl rfl ?_
        refine J_iconst (v := nI 1) hC dX10_permittedCrossings_21 (by decide) ?_
        refine J_iadd_n hC dX10_permittedCrossings_22 ?_
        refine J_istore_n hC dX10_permittedCrossings_23 rfl (Nat.le_of_ble_eq_true rfl) rfl ?_
        dsimp only [List.set]
        exact li (nv (rd τ 13 1) 11 + 1) 0 (by omega) (by omega)
  refine J_iconst (v := nI 0) hC dX10_permittedCrossings_7 (by decide) ?_
  refine J_istore_n hC dX10_permittedCrossings_8 rfl (Nat.le_of_ble_eq_true rfl) rfl ?_
  dsimp only [List.set]
  exact lp (nv (rd τ 13 1) 11 + 1) 0 (by omega) (by omega)
set_option maxHeartbeats 4000000 in
set_option maxRecDepth 100000 in
theorem c_X10_coinError {G : GC} {w : Lay} {σ : Mem} {Q : Lay → Option Value → Mem → Prop} {Qx : Lay → String → Mem → Prop} {hm : Nat} (hM : LM w) (hI : RowOK hm (rd σ 13 1))  (hq : Q w (some (.int (coinE (rd σ 13 1)))) (thr σ 0)) : MX10_coinError G w σ [.ref (w.2.1 13 0)] Q Qx := by
  refine mt_start (by decide) rfl (Nat.le_of_ble_eq_true rfl) (fun E hC hR hN => ?_)
  show J G E w 0 0 0 [some (.ref (w.2.1 13 0)), none, none] [] σ
  refine J_aload_n hC dX10_coinError_0 rfl rfl ?_
  refine J_iconst (v := nI 0) hC dX10_coinError_1 (by decide) ?_
  refine pX10_62 hC hM dX10_coinError_2 ?_
  obtain ⟨τ, hτ, hA⟩ : ∃ τ, thr σ 0 = τ ∧ rd σ 13 1 = rd τ 13 1 := ⟨_, rfl, rd_thr1.symm⟩
  have h9 : ∀ c, thr τ c = thr σ c := fun c => by rw [← hτ]; exact thr_thr
  rw [hA] at hI hq
  show J G E w 0 0 5 _ _ (thr σ 0)
  rw [hτ]
  refine J_aload_n hC dX10_coinError_5 rfl rfl ?_
  refine gX10_7 hC hM dX10_coinError_6 ?_
  refine J_bipush (v := nI 10) hC dX10_coinError_9 (by decide) ?_
  refine J_iaload hC (hM.1 1 (by decide)) rfl rfl (by omega) (by decide) dX10_coinError_11 ?_
  refine J_aload_n hC dX10_coinError_12 rfl rfl ?_
  refine gX10_7 hC hM dX10_coinError_13 ?_
  refine J_bipush (v := nI 9) hC dX10_coinError_16 (by decide) ?_
  refine J_iaload hC (hM.1 1 (by decide)) rfl rfl (by omega) (by decide) dX10_coinError_18 ?_
  refine J_isub hC dX10_coinError_19 ?_
  refine J_istore_n hC dX10_coinError_20 rfl (Nat.le_of_ble_eq_true rfl) rfl ?_
  dsimp only [List.set]
  have hNK := r_NK hI
  have lp : ∀ (dd : Nat) (k : Nat), nv (rd τ 13 1) 6 - k < dd → (k ≤ nv (rd τ 13 1) 6) →  J G E w 0 0 23 [some (.ref (w.2.1 13 0)), some (.int ((rd τ 13 1) 10 - (rd τ 13 1) 9 - psum (rd τ 13 1) k)), some (.int (nI k))] [] τ := by
    intro dd
    induction dd with
    | zero =>
      intro k hdd
      exact absurd hdd (Nat.not_lt_zero _)
    | succ dd ih =>
      intro k hdd hk
      refine J_iload_n hC dX10_coinError_23 rfl rfl ?_
      refine J_aload_n hC dX10_coinError_24 rfl rfl ?_
      refine gX10_7 hC hM dX10_coinError_25 ?_
      refine J_bipush (v := nI 6) hC dX10_coinError_28 (by decide) ?_
      refine J_iaload hC (hM.1 1 (by decide)) rfl rfl (by omega) (by decide) dX10_coinError_30 ?_
      refine J_top (r_NK hI).1 ?_
      refine J_icmp_ge_n hC (by omega) (by omega) (tgt := 49) dX10_coinError_31 rfl (fun hb0 => ?_) (fun hb0 => ?_)
      · refine J_iload_n hC dX10_coinError_49 rfl rfl ?_
        refine J_ireturn hC hR dX10_coinError_50 (by decide) (by decide) ?_
        have e : k = nv (rd τ 13 1) 6 := by omega
        subst e
        rw [hτ] at hq
        exact hq
      · refine J_iload_n hC dX10_coinError_34 rfl rfl ?_
        refine J_aload_n hC dX10_coinError_35 rfl rfl ?_
        refine J_iload_n hC dX10_coinError_36 rfl rfl ?_
        refine J_iconst (v := nI 5) hC dX10_coinError_37 (by decide) ?_
        refine iX10_79 hC hM rfl ⟨by decide, by decide⟩ ⟨by decide, by decide⟩ (Nat.le_of_ble_eq_true rfl) dX10_coinError_38 ?_
        refine c_X10_of hM (by omega) ?_
        dsimp only [Option.toList_some, Option.toList_none, List.cons_append, List.nil_append]
        refine J_isub hC dX10_coinError_41 ?_
        rw [i32_sub ((rd τ 13 1) 10 - (rd τ 13 1) 9), ← psum_s]
        refine J_istore_n hC dX10_coinError_42 rfl (Nat.le_of_ble_eq_true rfl) rfl ?_
        dsimp only [List.set]
        refine J_iinc_n (m := 1) hC (by decide) dX10_coinError_43 rfl (Nat.le_of_ble_eq_true rfl) rfl ?_
        dsimp only [List.set]
        refine J_goto (tgt := 23) hC dX10_coinError_46 rfl ?_
        exact ih (k + 1) (by omega) (by omega)
  refine J_iconst (v := nI 0) hC dX10_coinError_21 (by decide) ?_
  refine J_istore_n hC dX10_coinError_22 rfl (Nat.le_of_ble_eq_true rfl) rfl ?_
  dsimp only [List.set]
  have q := lp (nv (rd τ 13 1) 6 + 1) 0 (by omega) (by omega)
  rw [show psum (rd τ 13 1) 0 = 0 from rfl, i32_sub0] at q
  exact q
set_option maxHeartbeats 4000000 in
set_option maxRecDepth 100000 in
theorem c_X10_launch {G : GC} {w : Lay} {σ : Mem} {Q : Lay → Option Value → Mem → Prop} {Qx : Lay → String → Mem → Prop} {hm : Nat} (hM : LM w) (hI : RowOK hm (rd σ 13 1)) (hb9 : hm ≤ 900000) {k : Int32} {f u : Nat} (hr0 : ringOK σ f u)  (hq0 : (aLa (rd σ 13 1)  k).1 = 0 → Q w (some (.int (aLa (rd σ 13 1)  k).2)) (setA (actM (thr σ 0) f u) (launchA (rd σ 13 1) (cl k)))) (hq1 : ∀ c, c ≠ 0 → (aLa (rd σ 13 1)  k).1 = c → Q w (some (.int (nI 0))) (thr σ c)) : MX10_launch G w σ [.ref (w.2.1 13 0), .int k] Q Qx := by
  refine mt_start (by decide) rfl (Nat.le_of_ble_eq_true rfl) (fun E hC hR hN => ?_)
  show J G E w 0 0 0 [some (.ref (w.2.1 13 0)), some (.int k)] [] σ
  refine J_aload_n hC dX10_launch_0 rfl rfl ?_
  refine J_iconst (v := nI 0) hC dX10_launch_1 (by decide) ?_
  refine pX10_62 hC hM dX10_launch_2 ?_
  obtain ⟨τ, hτ, hA⟩ : ∃ τ, thr σ 0 = τ ∧ rd σ 13 1 = rd τ 13 1 := ⟨_, rfl, rd_thr1.symm⟩
  have h9 : ∀ c, thr τ c = thr σ c := fun c => by rw [← hτ]; exact thr_thr
  rw [hA] at hI hq0 hq1
  have hr : ringOK τ f u := hτ ▸ ring_thr hr0
  show J G E w 0 0 5 _ _ (thr σ 0)
  rw [hτ]
  refine J_aload_n hC dX10_launch_5 rfl rfl ?_
  refine J_iload_n hC dX10_launch_6 rfl rfl ?_
  refine iX10_278 hC hM rfl ⟨by decide, by decide⟩ ⟨by decide, by decide⟩ (Nat.le_of_ble_eq_true rfl) dX10_launch_7 ?_
  refine k_isK hM hI (fun hk => ?_) (fun hk => ?_)
  · dsimp only [Option.toList_some, Option.toList_none, List.cons_append, List.nil_append]
    have gk := hk
    obtain ⟨kk, rfl, bk⟩ := gk
    have ek := r_NK hI
    refine J_if_ne_n hC (by decide) (tgt := 19) dX10_launch_10 rfl (fun _ => ?_) (fun hf => absurd hf (by omega))
    refine J_aload_n hC dX10_launch_19 rfl rfl ?_
    refine J_iload_n hC dX10_launch_20 rfl rfl ?_
    refine iX10_281 hC hM rfl ⟨by decide, by decide⟩ ⟨by decide, by decide⟩ (Nat.le_of_ble_eq_true rfl) dX10_launch_21 ?_
    refine c_X10_canLaunch hM hI bk (by have := (r_HOUR hI).2; omega) (fun hc => ?_) (fun hc => ?_)
    · dsimp only [Option.toList_some, Option.toList_none, List.cons_append, List.nil_append]
      refine J_if_ne_n hC (by decide) (tgt := 33) dX10_launch_24 rfl (fun _ => ?_) (fun hf => absurd hf (by omega))
      refine J_aload_n hC dX10_launch_33 rfl rfl ?_
      refine iX10_320 hC hM rfl ⟨by decide, by decide⟩ ⟨by decide, by decide⟩ (Nat.le_of_ble_eq_true rfl) dX10_launch_34 ?_
      refine c_X10_act hM hr ?_
      dsimp only [Option.toList_some, Option.toList_none, List.cons_append, List.nil_append]
      refine J_aload_n hC dX10_launch_37 rfl rfl ?_
      refine J_iload_n hC dX10_launch_38 rfl rfl ?_
      refine iX10_284 hC hM rfl ⟨by decide, by decide⟩ ⟨by decide, by decide⟩ (Nat.le_of_ble_eq_true rfl) dX10_launch_39 ?_
      refine c_X10_launched hM (by rw [rd_act1]; exact hI) (by rw [rd_act1]; exact bk) (by rw [rd_act1]; have := (r_HOUR hI).2; omega) ?_
      dsimp only [Option.toList_some, Option.toList_none, List.cons_append, List.nil_append]
      rw [rd_act1]
      refine J_ireturn hC hR dX10_launch_42 (by decide) (by decide) ?_
      unfold aLa at hq0
      try rw [cl_n (k := kk) (by omega)] at hq0
      rw [chk_t hk, chk_t hc] at hq0
      have q := hq0 rfl
      dsimp only at q
      rw [hτ] at q
      exact q
    · dsimp only [Option.toList_some, Option.toList_none, List.cons_append, List.nil_append]
      refine J_if_ne_n hC (by decide) (tgt := 33) dX10_launch_24 rfl (fun hf => absurd hf (by omega)) (fun _ => ?_)
      refine J_aload_n hC dX10_launch_27 rfl rfl ?_
      refine J_iconst (v := nI 2) hC dX10_launch_28 (by decide) ?_
      refine iX10_308 hC hM rfl ⟨by decide, by decide⟩ ⟨by decide, by decide⟩ (Nat.le_of_ble_eq_true rfl) dX10_launch_29 ?_
      refine c_X10_fail hM ?_
      dsimp only [Option.toList_some, Option.toList_none, List.cons_append, List.nil_append]
      refine J_ireturn hC hR dX10_launch_32 (by decide) (by decide) ?_
      unfold aLa at hq1
      try rw [cl_n (k := kk) (by omega)] at hq1
      rw [chk_t hk, chk_f hc] at hq1
      rw [h9]
      exact hq1 _ (by decide) rfl
  · dsimp only [Option.toList_some, Option.toList_none, List.cons_append, List.nil_append]
    refine J_if_ne_n hC (by decide) (tgt := 19) dX10_launch_10 rfl (fun hf => absurd hf (by omega)) (fun _ => ?_)
    refine J_aload_n hC dX10_launch_13 rfl rfl ?_
    refine J_iconst (v := nI 1) hC dX10_launch_14 (by decide) ?_
    refine iX10_308 hC hM rfl ⟨by decide, by decide⟩ ⟨by decide, by decide⟩ (Nat.le_of_ble_eq_true rfl) dX10_launch_15 ?_
    refine c_X10_fail hM ?_
    dsimp only [Option.toList_some, Option.toList_none, List.cons_append, List.nil_append]
    refine J_ireturn hC hR dX10_launch_18 (by decide) (by decide) ?_
    unfold aLa at hq1
    rw [chk_f hk] at hq1
    rw [h9]
    exact hq1 _ (by decide) rfl
set_option maxHeartbeats 4000000 in
set_option maxRecDepth 100000 in
theorem c_X10_land {G : GC} {w : Lay} {σ : Mem} {Q : Lay → Option Value → Mem → Prop} {Qx : Lay → String → Mem → Prop} {hm : Nat} (hM : LM w) (hI : RowOK hm (rd σ 13 1))  {k : Int32} {f u : Nat} (hr0 : ringOK σ f u)  (hq0 : (aLd (rd σ 13 1)  k).1 = 0 → Q w (some (.int (aLd (rd σ 13 1)  k).2)) (setA (actM (thr σ 0) f u) (stateA (rd σ 13 1) (cl k) 0))) (hq1 : ∀ c, c ≠ 0 → (aLd (rd σ 13 1)  k).1 = c → Q w (some (.int (nI 0))) (thr σ c)) : MX10_land G w σ [.ref (w.2.1 13 0), .int k] Q Qx := by
  refine mt_start (by decide) rfl (Nat.le_of_ble_eq_true rfl) (fun E hC hR hN => ?_)
  show J G E w 0 0 0 [some (.ref (w.2.1 13 0)), some (.int k)] [] σ
  refine J_aload_n hC dX10_land_0 rfl rfl ?_
  refine J_iconst (v := nI 0) hC dX10_land_1 (by decide) ?_
  refine pX10_62 hC hM dX10_land_2 ?_
  obtain ⟨τ, hτ, hA⟩ : ∃ τ, thr σ 0 = τ ∧ rd σ 13 1 = rd τ 13 1 := ⟨_, rfl, rd_thr1.symm⟩
  have h9 : ∀ c, thr τ c = thr σ c := fun c => by rw [← hτ]; exact thr_thr
  rw [hA] at hI hq0 hq1
  have hr : ringOK τ f u := hτ ▸ ring_thr hr0
  show J G E w 0 0 5 _ _ (thr σ 0)
  rw [hτ]
  refine J_aload_n hC dX10_land_5 rfl rfl ?_
  refine J_iload_n hC dX10_land_6 rfl rfl ?_
  refine iX10_278 hC hM rfl ⟨by decide, by decide⟩ ⟨by decide, by decide⟩ (Nat.le_of_ble_eq_true rfl) dX10_land_7 ?_
  refine k_isK hM hI (fun hk => ?_) (fun hk => ?_)
  · dsimp only [Option.toList_some, Option.toList_none, List.cons_append, List.nil_append]
    have gk := hk
    obtain ⟨kk, rfl, bk⟩ := gk
    have ek := r_NK hI
    refine J_if_ne_n hC (by decide) (tgt := 19) dX10_land_10 rfl (fun _ => ?_) (fun hf => absurd hf (by omega))
    refine J_aload_n hC dX10_land_19 rfl rfl ?_
    refine J_iload_n hC dX10_land_20 rfl rfl ?_
    refine J_bipush (v := nI 6) hC dX10_land_21 (by decide) ?_
    refine iX10_79 hC hM rfl ⟨by decide, by decide⟩ ⟨by decide, by decide⟩ (Nat.le_of_ble_eq_true rfl) dX10_land_23 ?_
    refine c_X10_of hM (by omega) ?_
    dsimp only [Option.toList_some, Option.toList_none, List.cons_append, List.nil_append]
    have j1 := (r_KS hI bk).2
    refine J_top (r_KS hI bk).1 ?_
    refine J_iconst (v := nI 1) hC dX10_land_26 (by decide) ?_
    refine J_icmp_eq_n hC (by omega) (by decide) (tgt := 36) dX10_land_27 rfl (fun s1 => ?_) (fun s1 => ?_)
    · have gs1 : (rd τ 13 1) (70 + 9 * kk + 6) = nI 1 := by rw [(r_KS hI bk).1, s1]
      refine J_aload_n hC dX10_land_36 rfl rfl ?_
      refine iX10_320 hC hM rfl ⟨by decide, by decide⟩ ⟨by decide, by decide⟩ (Nat.le_of_ble_eq_true rfl) dX10_land_37 ?_
      refine c_X10_act hM hr ?_
      dsimp only [Option.toList_some, Option.toList_none, List.cons_append, List.nil_append]
      refine J_aload_n hC dX10_land_40 rfl rfl ?_
      refine J_iload_n hC dX10_land_41 rfl rfl ?_
      refine iX10_287 hC hM rfl ⟨by decide, by decide⟩ ⟨by decide, by decide⟩ (Nat.le_of_ble_eq_true rfl) dX10_land_42 ?_
      refine c_X10_landed hM (by rw [rd_act1]; exact hI) (by rw [rd_act1]; exact bk) ?_
      dsimp only [Option.toList_some, Option.toList_none, List.cons_append, List.nil_append]
      rw [rd_act1]
      refine J_ireturn hC hR dX10_land_45 (by decide) (by decide) ?_
      unfold aLd at hq0
      try rw [cl_n (k := kk) (by omega)] at hq0
      rw [chk_t hk, chk_t gs1] at hq0
      have q := hq0 rfl
      dsimp only at q
      rw [hτ] at q
      exact q
    · have gs1 : ¬ (rd τ 13 1) (70 + 9 * kk + 6) = nI 1 := fun q => s1 (nv_of q (by decide))
      refine J_aload_n hC dX10_land_30 rfl rfl ?_
      refine J_iconst (v := nI 2) hC dX10_land_31 (by decide) ?_
      refine iX10_308 hC hM rfl ⟨by decide, by decide⟩ ⟨by decide, by decide⟩ (Nat.le_of_ble_eq_true rfl) dX10_land_32 ?_
      refine c_X10_fail hM ?_
      dsimp only [Option.toList_some, Option.toList_none, List.cons_append, List.nil_append]
      refine J_ireturn hC hR dX10_land_35 (by decide) (by decide) ?_
      unfold aLd at hq1
      try rw [cl_n (k := kk) (by omega)] at hq1
      rw [chk_t hk, chk_f gs1] at hq1
      rw [h9]
      exact hq1 _ (by decide) rfl
  · dsimp only [Option.toList_some, Option.toList_none, List.cons_append, List.nil_append]
    refine J_if_ne_n hC (by decide) (tgt := 19) dX10_land_10 rfl (fun hf => absurd hf (by omega)) (fun _ => ?_)
    refine J_aload_n hC dX10_land_13 rfl rfl ?_
    refine J_iconst (v := nI 1) hC dX10_land_14 (by decide) ?_
    refine iX10_308 hC hM rfl ⟨by decide, by decide⟩ ⟨by decide, by decide⟩ (Nat.le_of_ble_eq_true rfl) dX10_land_15 ?_
    refine c_X10_fail hM ?_
    dsimp only [Option.toList_some, Option.toList_none, List.cons_append, List.nil_append]
    refine J_ireturn hC hR dX10_land_18 (by decide) (by decide) ?_
    unfold aLd at hq1
    rw [chk_f hk] at hq1
    rw [h9]
    exact hq1 _ (by decide) rfl
set_option maxHeartbeats 4000000 in
set_option maxRecDepth 100000 in
theorem c_X10_cancelPermits {G : GC} {w : Lay} {σ : Mem} {Q : Lay → Option Value → Mem → Prop} {Qx : Lay → String → Mem → Prop} {hm : Nat} (hM : LM w) (hI : RowOK hm (rd σ 13 1))  {k : Int32} {f u : Nat} (hr0 : ringOK σ f u)  (hq0 : (aCa (rd σ 13 1)  k).1 = 0 → Q w (some (.int (aCa (rd σ 13 1)  k).2)) (setA (actM (thr σ 0) f u) (cancelR (rd σ 13 1) (cl k)).1)) (hq1 : ∀ c, c ≠ 0 → (aCa (rd σ 13 1)  k).1 = c → Q w (some (.int (nI 0))) (thr σ c)) : MX10_cancelPermits G w σ [.ref (w.2.1 13 0), .int k] Q Qx := by
  refine mt_start (by decide) rfl (Nat.le_of_ble_eq_true rfl) (fun E hC hR hN => ?_)
  show J G E w 0 0 0 [some (.ref (w.2.1 13 0)), some (.int k)] [] σ
  refine J_aload_n hC dX10_cancelPermits_0 rfl rfl ?_
  refine J_iconst (v := nI 0) hC dX10_cancelPermits_1 (by decide) ?_
  refine pX10_62 hC hM dX10_cancelPermits_2 ?_
  obtain ⟨τ, hτ, hA⟩ : ∃ τ, thr σ 0 = τ ∧ rd σ 13 1 = rd τ 13 1 := ⟨_, rfl, rd_thr1.symm⟩
  have h9 : ∀ c, thr τ c = thr σ c := fun c => by rw [← hτ]; exact thr_thr
  rw [hA] at hI hq0 hq1
  have hr : ringOK τ f u := hτ ▸ ring_thr hr0
  show J G E w 0 0 5 _ _ (thr σ 0)
  rw [hτ]
  refine J_aload_n hC dX10_cancelPermits_5 rfl rfl ?_
  refine J_iload_n hC dX10_cancelPermits_6 rfl rfl ?_
  refine iX10_278 hC hM rfl ⟨by decide, by decide⟩ ⟨by decide, by decide⟩ (Nat.le_of_ble_eq_true rfl) dX10_cancelPermits_7 ?_
  refine k_isK hM hI (fun hk => ?_) (fun hk => ?_)
  · dsimp only [Option.toList_some, Option.toList_none, List.cons_append, List.nil_append]
    have gk := hk
    obtain ⟨kk, rfl, bk⟩ := gk
    have ek := r_NK hI
    refine J_if_ne_n hC (by decide) (tgt := 19) dX10_cancelPermits_10 rfl (fun _ => ?_) (fun hf => absurd hf (by omega))
    refine J_aload_n hC dX10_cancelPermits_19 rfl rfl ?_
    refine iX10_320 hC hM rfl ⟨by decide, by decide⟩ ⟨by decide, by decide⟩ (Nat.le_of_ble_eq_true rfl) dX10_cancelPermits_20 ?_
    refine c_X10_act hM hr ?_
    dsimp only [Option.toList_some, Option.toList_none, List.cons_append, List.nil_append]
    refine J_aload_n hC dX10_cancelPermits_23 rfl rfl ?_
    refine J_iload_n hC dX10_cancelPermits_24 rfl rfl ?_
    refine iX10_172 hC hM rfl ⟨by decide, by decide⟩ ⟨by decide, by decide⟩ (Nat.le_of_ble_eq_true rfl) dX10_cancelPermits_25 ?_
    refine c_X10_cancelled hM (by rw [rd_act1]; exact hI) (by omega) ?_
    dsimp only [Option.toList_some, Option.toList_none, List.cons_append, List.nil_append]
    rw [rd_act1]
    refine J_ireturn hC hR dX10_cancelPermits_28 (by decide) (by decide) ?_
    unfold aCa at hq0
    try rw [cl_n (k := kk) (by omega)] at hq0
    rw [chk_t hk] at hq0
    have q := hq0 rfl
    dsimp only at q
    rw [hτ] at q
    exact q
  · dsimp only [Option.toList_some, Option.toList_none, List.cons_append, List.nil_append]
    refine J_if_ne_n hC (by decide) (tgt := 19) dX10_cancelPermits_10 rfl (fun hf => absurd hf (by omega)) (fun _ => ?_)
    refine J_aload_n hC dX10_cancelPermits_13 rfl rfl ?_
    refine J_iconst (v := nI 1) hC dX10_cancelPermits_14 (by decide) ?_
    refine iX10_308 hC hM rfl ⟨by decide, by decide⟩ ⟨by decide, by decide⟩ (Nat.le_of_ble_eq_true rfl) dX10_cancelPermits_15 ?_
    refine c_X10_fail hM ?_
    dsimp only [Option.toList_some, Option.toList_none, List.cons_append, List.nil_append]
    refine J_ireturn hC hR dX10_cancelPermits_18 (by decide) (by decide) ?_
    unfold aCa at hq1
    rw [chk_f hk] at hq1
    rw [h9]
    exact hq1 _ (by decide) rfl
set_option maxHeartbeats 4000000 in
set_option maxRecDepth 100000 in
theorem c_X10_tieKnots {G : GC} {w : Lay} {σ : Mem} {Q : Lay → Option Value → Mem → Prop} {Qx : Lay → String → Mem → Prop} {hm : Nat} (hM : LM w) (hI : RowOK hm (rd σ 13 1))  {k v : Int32} {f u : Nat} (hr0 : ringOK σ f u)  (hq0 : (aTi (rd σ 13 1)  k v).1 = 0 → Q w (some (.int (aTi (rd σ 13 1)  k v).2)) (setA (actM (thr σ 0) f u) (tieA (rd σ 13 1) (cl k) (cl v)))) (hq1 : ∀ c, c ≠ 0 → (aTi (rd σ 13 1)  k v).1 = c → Q w (some (.int (nI 0))) (thr σ c)) : MX10_tieKnots G w σ [.ref (w.2.1 13 0), .int k, .int v] Q Qx := by
  refine mt_start (by decide) rfl (Nat.le_of_ble_eq_true rfl) (fun E hC hR hN => ?_)
  show J G E w 0 0 0 [some (.ref (w.2.1 13 0)), some (.int k), some (.int v)] [] σ
  refine J_aload_n hC dX10_tieKnots_0 rfl rfl ?_
  refine J_iconst (v := nI 0) hC dX10_tieKnots_1 (by decide) ?_
  refine pX10_62 hC hM dX10_tieKnots_2 ?_
  obtain ⟨τ, hτ, hA⟩ : ∃ τ, thr σ 0 = τ ∧ rd σ 13 1 = rd τ 13 1 := ⟨_, rfl, rd_thr1.symm⟩
  have h9 : ∀ c, thr τ c = thr σ c := fun c => by rw [← hτ]; exact thr_thr
  rw [hA] at hI hq0 hq1
  have hr : ringOK τ f u := hτ ▸ ring_thr hr0
  show J G E w 0 0 5 _ _ (thr σ 0)
  rw [hτ]
  refine J_aload_n hC dX10_tieKnots_5 rfl rfl ?_
  refine J_iload_n hC dX10_tieKnots_6 rfl rfl ?_
  refine iX10_278 hC hM rfl ⟨by decide, by decide⟩ ⟨by decide, by decide⟩ (Nat.le_of_ble_eq_true rfl) dX10_tieKnots_7 ?_
  refine k_isK hM hI (fun hk => ?_) (fun hk => ?_)
  · dsimp only [Option.toList_some, Option.toList_none, List.cons_append, List.nil_append]
    have gk := hk
    obtain ⟨kk, rfl, bk⟩ := gk
    have ek := r_NK hI
    refine J_if_ne_n hC (by decide) (tgt := 19) dX10_tieKnots_10 rfl (fun _ => ?_) (fun hf => absurd hf (by omega))
    refine J_iload_n hC dX10_tieKnots_19 rfl rfl ?_
    refine J_iconst (v := nI 0) hC dX10_tieKnots_20 (by decide) ?_
    refine J_bipush (v := nI 9) hC dX10_tieKnots_21 (by decide) ?_
    refine iX10_75 hC rfl ⟨by decide, by decide⟩ ⟨by decide, by decide⟩ (Nat.le_of_ble_eq_true rfl) dX10_tieKnots_23 ?_
    refine k_in (by decide) (by decide) (fun hv => ?_) (fun hv => ?_)
    · dsimp only [Option.toList_some, Option.toList_none, List.cons_append, List.nil_append]
      have gv := hv
      obtain ⟨kv, rfl, av, bv⟩ := gv
      have cv : kv < 2 ^ 31 := by omega
      refine J_if_ne_n hC (by decide) (tgt := 35) dX10_tieKnots_26 rfl (fun _ => ?_) (fun hf => absurd hf (by omega))
      refine J_aload_n hC dX10_tieKnots_35 rfl rfl ?_
      refine J_iload_n hC dX10_tieKnots_36 rfl rfl ?_
      refine J_bipush (v := nI 6) hC dX10_tieKnots_37 (by decide) ?_
      refine iX10_79 hC hM rfl ⟨by decide, by decide⟩ ⟨by decide, by decide⟩ (Nat.le_of_ble_eq_true rfl) dX10_tieKnots_39 ?_
      refine c_X10_of hM (by omega) ?_
      dsimp only [Option.toList_some, Option.toList_none, List.cons_append, List.nil_append]
      have j1 := (r_KS hI bk).2
      refine J_top (r_KS hI bk).1 ?_
      refine J_if_eq_n hC (by omega) (tgt := 51) dX10_tieKnots_42 rfl (fun s1 => ?_) (fun s1 => ?_)
      · have gs1 : (rd τ 13 1) (70 + 9 * kk + 6) = nI 0 := by rw [(r_KS hI bk).1, s1]
        refine J_aload_n hC dX10_tieKnots_51 rfl rfl ?_
        refine iX10_320 hC hM rfl ⟨by decide, by decide⟩ ⟨by decide, by decide⟩ (Nat.le_of_ble_eq_true rfl) dX10_tieKnots_52 ?_
        refine c_X10_act hM hr ?_
        dsimp only [Option.toList_some, Option.toList_none, List.cons_append, List.nil_append]
        refine J_aload_n hC dX10_tieKnots_55 rfl rfl ?_
        refine J_iload_n hC dX10_tieKnots_56 rfl rfl ?_
        refine J_iload_n hC dX10_tieKnots_57 rfl rfl ?_
        refine iX10_296 hC hM rfl ⟨by decide, by decide⟩ ⟨by decide, by decide⟩ (Nat.le_of_ble_eq_true rfl) dX10_tieKnots_58 ?_
        refine c_X10_tied hM (by rw [rd_act1]; exact hI) (by rw [rd_act1]; exact bk) ?_
        dsimp only [Option.toList_some, Option.toList_none, List.cons_append, List.nil_append]
        rw [rd_act1]
        refine J_ireturn hC hR dX10_tieKnots_61 (by decide) (by decide) ?_
        unfold aTi at hq0
        try rw [cl_n (k := kk) (by omega)] at hq0
        try rw [cl_n (k := kv) (by omega)] at hq0
        rw [chk_t hk, chk_t hv, chk_t gs1] at hq0
        have q := hq0 rfl
        dsimp only at q
        rw [hτ] at q
        exact q
      · have gs1 : ¬ (rd τ 13 1) (70 + 9 * kk + 6) = nI 0 := fun q => s1 (nv_of q (by decide))
        refine J_aload_n hC dX10_tieKnots_45 rfl rfl ?_
        refine J_iconst (v := nI 3) hC dX10_tieKnots_46 (by decide) ?_
        refine iX10_308 hC hM rfl ⟨by decide, by decide⟩ ⟨by decide, by decide⟩ (Nat.le_of_ble_eq_true rfl) dX10_tieKnots_47 ?_
        refine c_X10_fail hM ?_
        dsimp only [Option.toList_some, Option.toList_none, List.cons_append, List.nil_append]
        refine J_ireturn hC hR dX10_tieKnots_50 (by decide) (by decide) ?_
        unfold aTi at hq1
        try rw [cl_n (k := kk) (by omega)] at hq1
        try rw [cl_n (k := kv) (by omega)] at hq1
        rw [chk_t hk, chk_t hv, chk_f gs1] at hq1
        rw [h9]
        exact hq1 _ (by decide) rfl
    · dsimp only [Option.toList_some, Option.toList_none, List.cons_append, List.nil_append]
      refine J_if_ne_n hC (by decide) (tgt := 35) dX10_tieKnots_26 rfl (fun hf => absurd hf (by omega)) (fun _ => ?_)
      refine J_aload_n hC dX10_tieKnots_29 rfl rfl ?_
      refine J_iconst (v := nI 2) hC dX10_tieKnots_30 (by decide) ?_
      refine iX10_308 hC hM rfl ⟨by decide, by decide⟩ ⟨by decide, by decide⟩ (Nat.le_of_ble_eq_true rfl) dX10_tieKnots_31 ?_
      refine c_X10_fail hM ?_
      dsimp only [Option.toList_some, Option.toList_none, List.cons_append, List.nil_append]
      refine J_ireturn hC hR dX10_tieKnots_34 (by decide) (by decide) ?_
      unfold aTi at hq1
      try rw [cl_n (k := kk) (by omega)] at hq1
      rw [chk_t hk, chk_f hv] at hq1
      rw [h9]
      exact hq1 _ (by decide) rfl
  · dsimp only [Option.toList_some, Option.toList_none, List.cons_append, List.nil_append]
    refine J_if_ne_n hC (by decide) (tgt := 19) dX10_tieKnots_10 rfl (fun hf => absurd hf (by omega)) (fun _ => ?_)
    refine J_aload_n hC dX10_tieKnots_13 rfl rfl ?_
    refine J_iconst (v := nI 1) hC dX10_tieKnots_14 (by decide) ?_
    refine iX10_308 hC hM rfl ⟨by decide, by decide⟩ ⟨by decide, by decide⟩ (Nat.le_of_ble_eq_true rfl) dX10_tieKnots_15 ?_
    refine c_X10_fail hM ?_
    dsimp only [Option.toList_some, Option.toList_none, List.cons_append, List.nil_append]
    refine J_ireturn hC hR dX10_tieKnots_18 (by decide) (by decide) ?_
    unfold aTi at hq1
    rw [chk_f hk] at hq1
    rw [h9]
    exact hq1 _ (by decide) rfl
set_option maxHeartbeats 4000000 in
set_option maxRecDepth 100000 in
theorem c_X10_repair {G : GC} {w : Lay} {σ : Mem} {Q : Lay → Option Value → Mem → Prop} {Qx : Lay → String → Mem → Prop} {hm : Nat} (hM : LM w) (hI : RowOK hm (rd σ 13 1))  {k : Int32} {f u : Nat} (hr0 : ringOK σ f u)  (hq0 : (aRp (rd σ 13 1)  k).1 = 0 → Q w (some (.int (aRp (rd σ 13 1)  k).2)) (setA (actM (thr σ 0) f u) (repA (rd σ 13 1) (cl k)))) (hq1 : ∀ c, c ≠ 0 → (aRp (rd σ 13 1)  k).1 = c → Q w (some (.int (nI 0))) (thr σ c)) : MX10_repair G w σ [.ref (w.2.1 13 0), .int k] Q Qx := by
  refine mt_start (by decide) rfl (Nat.le_of_ble_eq_true rfl) (fun E hC hR hN => ?_)
  show J G E w 0 0 0 [some (.ref (w.2.1 13 0)), some (.int k)] [] σ
  refine J_aload_n hC dX10_repair_0 rfl rfl ?_
  refine J_iconst (v := nI 0) hC dX10_repair_1 (by decide) ?_
  refine pX10_62 hC hM dX10_repair_2 ?_
  obtain ⟨τ, hτ, hA⟩ : ∃ τ, thr σ 0 = τ ∧ rd σ 13 1 = rd τ 13 1 := ⟨_, rfl, rd_thr1.symm⟩
  have h9 : ∀ c, thr τ c = thr σ c := fun c => by rw [← hτ]; exact thr_thr
  rw [hA] at hI hq0 hq1
  have hr : ringOK τ f u := hτ ▸ ring_thr hr0
  show J G E w 0 0 5 _ _ (thr σ 0)
  rw [hτ]
  refine J_aload_n hC dX10_repair_5 rfl rfl ?_
  refine J_iload_n hC dX10_repair_6 rfl rfl ?_
  refine iX10_278 hC hM rfl ⟨by decide, by decide⟩ ⟨by decide, by decide⟩ (Nat.le_of_ble_eq_true rfl) dX10_repair_7 ?_
  refine k_isK hM hI (fun hk => ?_) (fun hk => ?_)
  · dsimp only [Option.toList_some, Option.toList_none, List.cons_append, List.nil_append]
    have gk := hk
    obtain ⟨kk, rfl, bk⟩ := gk
    have ek := r_NK hI
    refine J_if_ne_n hC (by decide) (tgt := 19) dX10_repair_10 rfl (fun _ => ?_) (fun hf => absurd hf (by omega))
    refine J_aload_n hC dX10_repair_19 rfl rfl ?_
    refine J_iload_n hC dX10_repair_20 rfl rfl ?_
    refine iX10_299 hC hM rfl ⟨by decide, by decide⟩ ⟨by decide, by decide⟩ (Nat.le_of_ble_eq_true rfl) dX10_repair_21 ?_
    refine c_X10_canRepair hM hI bk (fun hc => ?_) (fun hc => ?_)
    · dsimp only [Option.toList_some, Option.toList_none, List.cons_append, List.nil_append]
      refine J_if_ne_n hC (by decide) (tgt := 33) dX10_repair_24 rfl (fun _ => ?_) (fun hf => absurd hf (by omega))
      refine J_aload_n hC dX10_repair_33 rfl rfl ?_
      refine iX10_320 hC hM rfl ⟨by decide, by decide⟩ ⟨by decide, by decide⟩ (Nat.le_of_ble_eq_true rfl) dX10_repair_34 ?_
      refine c_X10_act hM hr ?_
      dsimp only [Option.toList_some, Option.toList_none, List.cons_append, List.nil_append]
      refine J_aload_n hC dX10_repair_37 rfl rfl ?_
      refine J_iload_n hC dX10_repair_38 rfl rfl ?_
      refine iX10_302 hC hM rfl ⟨by decide, by decide⟩ ⟨by decide, by decide⟩ (Nat.le_of_ble_eq_true rfl) dX10_repair_39 ?_
      refine c_X10_repaired hM (by rw [rd_act1]; exact hI) (by rw [rd_act1]; exact bk) ?_
      dsimp only [Option.toList_some, Option.toList_none, List.cons_append, List.nil_append]
      rw [rd_act1]
      refine J_ireturn hC hR dX10_repair_42 (by decide) (by decide) ?_
      unfold aRp at hq0
      try rw [cl_n (k := kk) (by omega)] at hq0
      rw [chk_t hk, chk_t hc] at hq0
      have q := hq0 rfl
      dsimp only at q
      rw [hτ] at q
      exact q
    · dsimp only [Option.toList_some, Option.toList_none, List.cons_append, List.nil_append]
      refine J_if_ne_n hC (by decide) (tgt := 33) dX10_repair_24 rfl (fun hf => absurd hf (by omega)) (fun _ => ?_)
      refine J_aload_n hC dX10_repair_27 rfl rfl ?_
      refine J_iconst (v := nI 2) hC dX10_repair_28 (by decide) ?_
      refine iX10_308 hC hM rfl ⟨by decide, by decide⟩ ⟨by decide, by decide⟩ (Nat.le_of_ble_eq_true rfl) dX10_repair_29 ?_
      refine c_X10_fail hM ?_
      dsimp only [Option.toList_some, Option.toList_none, List.cons_append, List.nil_append]
      refine J_ireturn hC hR dX10_repair_32 (by decide) (by decide) ?_
      unfold aRp at hq1
      try rw [cl_n (k := kk) (by omega)] at hq1
      rw [chk_t hk, chk_f hc] at hq1
      rw [h9]
      exact hq1 _ (by decide) rfl
  · dsimp only [Option.toList_some, Option.toList_none, List.cons_append, List.nil_append]
    refine J_if_ne_n hC (by decide) (tgt := 19) dX10_repair_10 rfl (fun hf => absurd hf (by omega)) (fun _ => ?_)
    refine J_aload_n hC dX10_repair_13 rfl rfl ?_
    refine J_iconst (v := nI 1) hC dX10_repair_14 (by decide) ?_
    refine iX10_308 hC hM rfl ⟨by decide, by decide⟩ ⟨by decide, by decide⟩ (Nat.le_of_ble_eq_true rfl) dX10_repair_15 ?_
    refine c_X10_fail hM ?_
    dsimp only [Option.toList_some, Option.toList_none, List.cons_append, List.nil_append]
    refine J_ireturn hC hR dX10_repair_18 (by decide) (by decide) ?_
    unfold aRp at hq1
    rw [chk_f hk] at hq1
    rw [h9]
    exact hq1 _ (by decide) rfl
set_option maxHeartbeats 4000000 in
set_option maxRecDepth 100000 in
theorem c_X10_fund {G : GC} {w : Lay} {σ : Mem} {Q : Lay → Option Value → Mem → Prop} {Qx : Lay → String → Mem → Prop} {hm : Nat} (hM : LM w) (hI : RowOK hm (rd σ 13 1))  {k v : Int32} {f u : Nat} (hr0 : ringOK σ f u)  (hq0 : (aFu (rd σ 13 1)  k v).1 = 0 → Q w (some (.int (aFu (rd σ 13 1)  k v).2)) (setA (actM (thr σ 0) f u) (fundA (rd σ 13 1) (cl k) v))) (hq1 : ∀ c, c ≠ 0 → (aFu (rd σ 13 1)  k v).1 = c → Q w (some (.int (nI 0))) (thr σ c)) : MX10_fund G w σ [.ref (w.2.1 13 0), .int k, .int v] Q Qx := by
  refine mt_start (by decide) rfl (Nat.le_of_ble_eq_true rfl) (fun E hC hR hN => ?_)
  show J G E w 0 0 0 [some (.ref (w.2.1 13 0)), some (.int k), some (.int v)] [] σ
  refine J_aload_n hC dX10_fund_0 rfl rfl ?_
  refine J_iconst (v := nI 0) hC dX10_fund_1 (by decide) ?_
  refine pX10_62 hC hM dX10_fund_2 ?_
  obtain ⟨τ, hτ, hA⟩ : ∃ τ, thr σ 0 = τ ∧ rd σ 13 1 = rd τ 13 1 := ⟨_, rfl, rd_thr1.symm⟩
  have h9 : ∀ c, thr τ c = thr σ c := fun c => by rw [← hτ]; exact thr_thr
  rw [hA] at hI hq0 hq1
  have hr : ringOK τ f u := hτ ▸ ring_thr hr0
  show J G E w 0 0 5 _ _ (thr σ 0)
  rw [hτ]
  refine J_aload_n hC dX10_fund_5 rfl rfl ?_
  refine J_iload_n hC dX10_fund_6 rfl rfl ?_
  refine iX10_278 hC hM rfl ⟨by decide, by decide⟩ ⟨by decide, by decide⟩ (Nat.le_of_ble_eq_true rfl) dX10_fund_7 ?_
  refine k_isK hM hI (fun hk => ?_) (fun hk => ?_)
  · dsimp only [Option.toList_some, Option.toList_none, List.cons_append, List.nil_append]
    have gk := hk
    obtain ⟨kk, rfl, bk⟩ := gk
    have ek := r_NK hI
    refine J_if_ne_n hC (by decide) (tgt := 19) dX10_fund_10 rfl (fun _ => ?_) (fun hf => absurd hf (by omega))
    refine J_iload_n hC dX10_fund_19 rfl rfl ?_
    refine J_iconst (v := nI 1) hC dX10_fund_20 (by decide) ?_
    refine J_sipush (v := nI 999) hC dX10_fund_21 (by decide) ?_
    refine iX10_75 hC rfl ⟨by decide, by decide⟩ ⟨by decide, by decide⟩ (Nat.le_of_ble_eq_true rfl) dX10_fund_24 ?_
    refine k_in (by decide) (by decide) (fun hv => ?_) (fun hv => ?_)
    · dsimp only [Option.toList_some, Option.toList_none, List.cons_append, List.nil_append]
      refine J_if_ne_n hC (by decide) (tgt := 36) dX10_fund_27 rfl (fun _ => ?_) (fun hf => absurd hf (by omega))
      refine J_aload_n hC dX10_fund_36 rfl rfl ?_
      refine iX10_320 hC hM rfl ⟨by decide, by decide⟩ ⟨by decide, by decide⟩ (Nat.le_of_ble_eq_true rfl) dX10_fund_37 ?_
      refine c_X10_act hM hr ?_
      dsimp only [Option.toList_some, Option.toList_none, List.cons_append, List.nil_append]
      refine J_aload_n hC dX10_fund_40 rfl rfl ?_
      refine J_iload_n hC dX10_fund_41 rfl rfl ?_
      refine J_iload_n hC dX10_fund_42 rfl rfl ?_
      refine iX10_305 hC hM rfl ⟨by decide, by decide⟩ ⟨by decide, by decide⟩ (Nat.le_of_ble_eq_true rfl) dX10_fund_43 ?_
      refine c_X10_funded hM (by rw [rd_act1]; exact hI) (by rw [rd_act1]; exact bk) ?_
      dsimp only [Option.toList_some, Option.toList_none, List.cons_append, List.nil_append]
      rw [rd_act1]
      refine J_ireturn hC hR dX10_fund_46 (by decide) (by decide) ?_
      unfold aFu at hq0
      try rw [cl_n (k := kk) (by omega)] at hq0
      rw [chk_t hk, chk_t hv] at hq0
      have q := hq0 rfl
      dsimp only at q
      rw [hτ] at q
      exact q
    · dsimp only [Option.toList_some, Option.toList_none, List.cons_append, List.nil_append]
      refine J_if_ne_n hC (by decide) (tgt := 36) dX10_fund_27 rfl (fun hf => absurd hf (by omega)) (fun _ => ?_)
      refine J_aload_n hC dX10_fund_30 rfl rfl ?_
      refine J_iconst (v := nI 2) hC dX10_fund_31 (by decide) ?_
      refine iX10_308 hC hM rfl ⟨by decide, by decide⟩ ⟨by decide, by decide⟩ (Nat.le_of_ble_eq_true rfl) dX10_fund_32 ?_
      refine c_X10_fail hM ?_
      dsimp only [Option.toList_some, Option.toList_none, List.cons_append, List.nil_append]
      refine J_ireturn hC hR dX10_fund_35 (by decide) (by decide) ?_
      unfold aFu at hq1
      try rw [cl_n (k := kk) (by omega)] at hq1
      rw [chk_t hk, chk_f hv] at hq1
      rw [h9]
      exact hq1 _ (by decide) rfl
  · dsimp only [Option.toList_some, Option.toList_none, List.cons_append, List.nil_append]
    refine J_if_ne_n hC (by decide) (tgt := 19) dX10_fund_10 rfl (fun hf => absurd hf (by omega)) (fun _ => ?_)
    refine J_aload_n hC dX10_fund_13 rfl rfl ?_
    refine J_iconst (v := nI 1) hC dX10_fund_14 (by decide) ?_
    refine iX10_308 hC hM rfl ⟨by decide, by decide⟩ ⟨by decide, by decide⟩ (Nat.le_of_ble_eq_true rfl) dX10_fund_15 ?_
    refine c_X10_fail hM ?_
    dsimp only [Option.toList_some, Option.toList_none, List.cons_append, List.nil_append]
    refine J_ireturn hC hR dX10_fund_18 (by decide) (by decide) ?_
    unfold aFu at hq1
    rw [chk_f hk] at hq1
    rw [h9]
    exact hq1 _ (by decide) rfl
set_option maxHeartbeats 4000000 in
set_option maxRecDepth 100000 in
theorem c_X10_permit {G : GC} {w : Lay} {σ : Mem} {Q : Lay → Option Value → Mem → Prop} {Qx : Lay → String → Mem → Prop} {hm : Nat} (hM : LM w) (hI : RowOK hm (rd σ 13 1)) (hb9 : hm ≤ 900000) {k s d : Int32} {f u : Nat} (hr0 : ringOK σ f u)  (hq0 : (aPe (rd σ 13 1)  k s d).1 = 0 → Q w (some (.int (aPe (rd σ 13 1)  k s d).2)) (setA (actM (thr σ 0) f u) (grantA (rd σ 13 1) (cl k) (cl s) (cl d)))) (hq1 : ∀ c, c ≠ 0 → (aPe (rd σ 13 1)  k s d).1 = c → Q w (some (.int (nI 0))) (thr σ c)) : MX10_permit G w σ [.ref (w.2.1 13 0), .int k, .int s, .int d] Q Qx := by
  refine mt_start (by decide) rfl (Nat.le_of_ble_eq_true rfl) (fun E hC hR hN => ?_)
  show J G E w 0 0 0 [some (.ref (w.2.1 13 0)), some (.int k), some (.int s), some (.int d)] [] σ
  refine J_aload_n hC dX10_permit_0 rfl rfl ?_
  refine J_iconst (v := nI 0) hC dX10_permit_1 (by decide) ?_
  refine pX10_62 hC hM dX10_permit_2 ?_
  obtain ⟨τ, hτ, hA⟩ : ∃ τ, thr σ 0 = τ ∧ rd σ 13 1 = rd τ 13 1 := ⟨_, rfl, rd_thr1.symm⟩
  have h9 : ∀ c, thr τ c = thr σ c := fun c => by rw [← hτ]; exact thr_thr
  rw [hA] at hI hq0 hq1
  have hr : ringOK τ f u := hτ ▸ ring_thr hr0
  show J G E w 0 0 5 _ _ (thr σ 0)
  rw [hτ]
  refine J_aload_n hC dX10_permit_5 rfl rfl ?_
  refine J_iload_n hC dX10_permit_6 rfl rfl ?_
  refine iX10_278 hC hM rfl ⟨by decide, by decide⟩ ⟨by decide, by decide⟩ (Nat.le_of_ble_eq_true rfl) dX10_permit_7 ?_
  refine k_isK hM hI (fun hk => ?_) (fun hk => ?_)
  · dsimp only [Option.toList_some, Option.toList_none, List.cons_append, List.nil_append]
    have gk := hk
    obtain ⟨kk, rfl, bk⟩ := gk
    have ek := r_NK hI
    refine J_if_ne_n hC (by decide) (tgt := 19) dX10_permit_10 rfl (fun _ => ?_) (fun hf => absurd hf (by omega))
    refine J_iload_n hC dX10_permit_19 rfl rfl ?_
    refine iX10_335 hC rfl ⟨by decide, by decide⟩ ⟨by decide, by decide⟩ (Nat.le_of_ble_eq_true rfl) dX10_permit_20 ?_
    refine k_isHour  (fun hs => ?_) (fun hs => ?_)
    · dsimp only [Option.toList_some, Option.toList_none, List.cons_append, List.nil_append]
      have gs := hs
      obtain ⟨ks, rfl, as, bs⟩ := gs
      have cs : ks < 2 ^ 31 := by omega
      refine J_if_eq_n hC (by decide) (tgt := 36) dX10_permit_23 rfl (fun hf => absurd hf (by omega)) (fun _ => ?_)
      refine J_iload_n hC dX10_permit_26 rfl rfl ?_
      refine J_iconst (v := nI 1) hC dX10_permit_27 (by decide) ?_
      refine J_bipush (v := nI 24) hC dX10_permit_28 (by decide) ?_
      refine iX10_75 hC rfl ⟨by decide, by decide⟩ ⟨by decide, by decide⟩ (Nat.le_of_ble_eq_true rfl) dX10_permit_30 ?_
      refine k_in (by decide) (by decide) (fun hd => ?_) (fun hd => ?_)
      · dsimp only [Option.toList_some, Option.toList_none, List.cons_append, List.nil_append]
        have gd := hd
        obtain ⟨kd, rfl, ad, bd⟩ := gd
        have cd : kd < 2 ^ 31 := by omega
        refine J_if_ne_n hC (by decide) (tgt := 42) dX10_permit_33 rfl (fun _ => ?_) (fun hf => absurd hf (by omega))
        refine J_aload_n hC dX10_permit_42 rfl rfl ?_
        refine J_iload_n hC dX10_permit_43 rfl rfl ?_
        refine J_iload_n hC dX10_permit_44 rfl rfl ?_
        refine J_iload_n hC dX10_permit_45 rfl rfl ?_
        refine iX10_290 hC hM rfl ⟨by decide, by decide⟩ ⟨by decide, by decide⟩ (Nat.le_of_ble_eq_true rfl) dX10_permit_46 ?_
        refine c_X10_refusal hM hI bk (by omega) (by omega) (by have := (r_HOUR hI).2; omega) ?_
        dsimp only [Option.toList_some, Option.toList_none, List.cons_append, List.nil_append]
        have hr7 := refuse_le (rd τ 13 1) kk ks kd
        refine J_if_le_n hC (by omega) (tgt := 58) dX10_permit_49 rfl (fun hz => ?_) (fun hz => ?_)
        · have gz : refuse (rd τ 13 1) kk ks kd = 0 := by omega
          refine J_aload_n hC dX10_permit_58 rfl rfl ?_
          refine iX10_320 hC hM rfl ⟨by decide, by decide⟩ ⟨by decide, by decide⟩ (Nat.le_of_ble_eq_true rfl) dX10_permit_59 ?_
          refine c_X10_act hM hr ?_
          dsimp only [Option.toList_some, Option.toList_none, List.cons_append, List.nil_append]
          refine J_aload_n hC dX10_permit_62 rfl rfl ?_
          refine J_iload_n hC dX10_permit_63 rfl rfl ?_
          refine J_iload_n hC dX10_permit_64 rfl rfl ?_
          refine J_iload_n hC dX10_permit_65 rfl rfl ?_
          refine iX10_293 hC hM rfl ⟨by decide, by decide⟩ ⟨by decide, by decide⟩ (Nat.le_of_ble_eq_true rfl) dX10_permit_66 ?_
          refine c_X10_granted hM (by rw [rd_act1]; exact hI) (by rw [rd_act1]; exact bk) (by rw [rd_act1]; exact refuse_np hI gz) ?_
          dsimp only [Option.toList_some, Option.toList_none, List.cons_append, List.nil_append]
          rw [rd_act1]
          refine J_ireturn hC hR dX10_permit_69 (by decide) (by decide) ?_
          unfold aPe at hq0
          try rw [cl_n (k := kk) (by omega)] at hq0
          try rw [cl_n (k := ks) (by omega)] at hq0
          try rw [cl_n (k := kd) (by omega)] at hq0
          rw [chk_t hk, chk_t hs, chk_t hd, chk_t gz] at hq0
          have q := hq0 rfl
          dsimp only at q
          rw [hτ] at q
          exact q
        · have gz : ¬ refuse (rd τ 13 1) kk ks kd = 0 := by omega
          refine J_aload_n hC dX10_permit_52 rfl rfl ?_
          refine J_iconst (v := nI 3) hC dX10_permit_53 (by decide) ?_
          refine iX10_308 hC hM rfl ⟨by decide, by decide⟩ ⟨by decide, by decide⟩ (Nat.le_of_ble_eq_true rfl) dX10_permit_54 ?_
          refine c_X10_fail hM ?_
          dsimp only [Option.toList_some, Option.toList_none, List.cons_append, List.nil_append]
          refine J_ireturn hC hR dX10_permit_57 (by decide) (by decide) ?_
          unfold aPe at hq1
          try rw [cl_n (k := kk) (by omega)] at hq1
          try rw [cl_n (k := ks) (by omega)] at hq1
          try rw [cl_n (k := kd) (by omega)] at hq1
          rw [chk_t hk, chk_t hs, chk_t hd, chk_f gz] at hq1
          rw [h9]
          exact hq1 _ (by decide) rfl
      · dsimp only [Option.toList_some, Option.toList_none, List.cons_append, List.nil_append]
        refine J_if_ne_n hC (by decide) (tgt := 42) dX10_permit_33 rfl (fun hf => absurd hf (by omega)) (fun _ => ?_)
        refine J_aload_n hC dX10_permit_36 rfl rfl ?_
        refine J_iconst (v := nI 2) hC dX10_permit_37 (by decide) ?_
        refine iX10_308 hC hM rfl ⟨by decide, by decide⟩ ⟨by decide, by decide⟩ (Nat.le_of_ble_eq_true rfl) dX10_permit_38 ?_
        refine c_X10_fail hM ?_
        dsimp only [Option.toList_some, Option.toList_none, List.cons_append, List.nil_append]
        refine J_ireturn hC hR dX10_permit_41 (by decide) (by decide) ?_
        unfold aPe at hq1
        try rw [cl_n (k := kk) (by omega)] at hq1
        try rw [cl_n (k := ks) (by omega)] at hq1
        rw [chk_t hk, chk_t hs, chk_f hd] at hq1
        rw [h9]
        exact hq1 _ (by decide) rfl
    · dsimp only [Option.toList_some, Option.toList_none, List.cons_append, List.nil_append]
      refine J_if_eq_n hC (by decide) (tgt := 36) dX10_permit_23 rfl (fun _ => ?_) (fun hf => absurd hf (by omega))
      refine J_aload_n hC dX10_permit_36 rfl rfl ?_
      refine J_iconst (v := nI 2) hC dX10_permit_37 (by decide) ?_
      refine iX10_308 hC hM rfl ⟨by decide, by decide⟩ ⟨by decide, by decide⟩ (Nat.le_of_ble_eq_true rfl) dX10_permit_38 ?_
      refine c_X10_fail hM ?_
      dsimp only [Option.toList_some, Option.toList_none, List.cons_append, List.nil_append]
      refine J_ireturn hC hR dX10_permit_41 (by decide) (by decide) ?_
      unfold aPe at hq1
      try rw [cl_n (k := kk) (by omega)] at hq1
      rw [chk_t hk, chk_f hs] at hq1
      rw [h9]
      exact hq1 _ (by decide) rfl
  · dsimp only [Option.toList_some, Option.toList_none, List.cons_append, List.nil_append]
    refine J_if_ne_n hC (by decide) (tgt := 19) dX10_permit_10 rfl (fun hf => absurd hf (by omega)) (fun _ => ?_)
    refine J_aload_n hC dX10_permit_13 rfl rfl ?_
    refine J_iconst (v := nI 1) hC dX10_permit_14 (by decide) ?_
    refine iX10_308 hC hM rfl ⟨by decide, by decide⟩ ⟨by decide, by decide⟩ (Nat.le_of_ble_eq_true rfl) dX10_permit_15 ?_
    refine c_X10_fail hM ?_
    dsimp only [Option.toList_some, Option.toList_none, List.cons_append, List.nil_append]
    refine J_ireturn hC hR dX10_permit_18 (by decide) (by decide) ?_
    unfold aPe at hq1
    rw [chk_f hk] at hq1
    rw [h9]
    exact hq1 _ (by decide) rfl
set_option maxHeartbeats 4000000 in
set_option maxRecDepth 100000 in
theorem c_X10_passHours {G : GC} {w : Lay} {σ : Mem} {Q : Lay → Option Value → Mem → Prop} {Qx : Lay → String → Mem → Prop} {hm : Nat} (hM : LM w) (hI : RowOK hm (rd σ 13 1)) (hb9 : hm ≤ 900000) {h : Int32} {f u : Nat} (hr0 : ringOK σ f u)  (hq0 : (aPH (rd σ 13 1) (rd σ 13 8) h).1 = 0 → Q w (some (.int (aPH (rd σ 13 1) (rd σ 13 8) h).2)) (setAK (actM (thr σ 0) f u) (passed (cl h) ((rd σ 13 1), (rd σ 13 8), 0)).1 (passed (cl h) ((rd σ 13 1), (rd σ 13 8), 0)).2.1)) (hq1 : ∀ c, c ≠ 0 → (aPH (rd σ 13 1) (rd σ 13 8) h).1 = c → Q w (some (.int (nI 0))) (thr σ c)) : MX10_passHours G w σ [.ref (w.2.1 13 0), .int h] Q Qx := by
  refine mt_start (by decide) rfl (Nat.le_of_ble_eq_true rfl) (fun E hC hR hN => ?_)
  show J G E w 0 0 0 [some (.ref (w.2.1 13 0)), some (.int h)] [] σ
  refine J_aload_n hC dX10_passHours_0 rfl rfl ?_
  refine J_iconst (v := nI 0) hC dX10_passHours_1 (by decide) ?_
  refine pX10_62 hC hM dX10_passHours_2 ?_
  obtain ⟨τ, hτ, hA⟩ : ∃ τ, thr σ 0 = τ ∧ rd σ 13 1 = rd τ 13 1 := ⟨_, rfl, rd_thr1.symm⟩
  have h9 : ∀ c, thr τ c = thr σ c := fun c => by rw [← hτ]; exact thr_thr
  rw [hA] at hI hq0 hq1
  have hr : ringOK τ f u := hτ ▸ ring_thr hr0
  have hK8 : rd σ 13 8 = rd τ 13 8 := by rw [← hτ]; exact rd_thr8.symm
  rw [hK8] at hq0 hq1
  show J G E w 0 0 5 _ _ (thr σ 0)
  rw [hτ]
  refine J_iload_n hC dX10_passHours_5 rfl rfl ?_
  refine J_iconst (v := nI 1) hC dX10_passHours_6 (by decide) ?_
  refine J_bipush (v := nI 48) hC dX10_passHours_7 (by decide) ?_
  refine iX10_75 hC rfl ⟨by decide, by decide⟩ ⟨by decide, by decide⟩ (Nat.le_of_ble_eq_true rfl) dX10_passHours_9 ?_
  refine k_in (by decide) (by decide) (fun hh => ?_) (fun hh => ?_)
  · dsimp only [Option.toList_some, Option.toList_none, List.cons_append, List.nil_append]
    have gh := hh
    obtain ⟨kh, rfl, ah, bh⟩ := gh
    have ch : kh < 2 ^ 31 := by omega
    refine J_if_ne_n hC (by decide) (tgt := 21) dX10_passHours_12 rfl (fun _ => ?_) (fun hf => absurd hf (by omega))
    refine J_aload_n hC dX10_passHours_21 rfl rfl ?_
    refine iX10_320 hC hM rfl ⟨by decide, by decide⟩ ⟨by decide, by decide⟩ (Nat.le_of_ble_eq_true rfl) dX10_passHours_22 ?_
    refine c_X10_act hM hr ?_
    dsimp only [Option.toList_some, Option.toList_none, List.cons_append, List.nil_append]
    refine J_aload_n hC dX10_passHours_25 rfl rfl ?_
    refine J_iload_n hC dX10_passHours_26 rfl rfl ?_
    refine iX10_275 hC hM rfl ⟨by decide, by decide⟩ ⟨by decide, by decide⟩ (Nat.le_of_ble_eq_true rfl) dX10_passHours_27 ?_
    refine c_X10_passed hM (by rw [rd_act1]; exact hI) (by omega) ?_
    dsimp only [Option.toList_some, Option.toList_none, List.cons_append, List.nil_append]
    rw [rd_act1, rd_act8]
    refine J_ireturn hC hR dX10_passHours_30 (by decide) (by decide) ?_
    unfold aPH at hq0
    try rw [cl_n (k := kh) (by omega)] at hq0
    rw [chk_t hh] at hq0
    have q := hq0 rfl
    dsimp only at q
    rw [hτ] at q
    exact q
  · dsimp only [Option.toList_some, Option.toList_none, List.cons_append, List.nil_append]
    refine J_if_ne_n hC (by decide) (tgt := 21) dX10_passHours_12 rfl (fun hf => absurd hf (by omega)) (fun _ => ?_)
    refine J_aload_n hC dX10_passHours_15 rfl rfl ?_
    refine J_iconst (v := nI 1) hC dX10_passHours_16 (by decide) ?_
    refine iX10_308 hC hM rfl ⟨by decide, by decide⟩ ⟨by decide, by decide⟩ (Nat.le_of_ble_eq_true rfl) dX10_passHours_17 ?_
    refine c_X10_fail hM ?_
    dsimp only [Option.toList_some, Option.toList_none, List.cons_append, List.nil_append]
    refine J_ireturn hC hR dX10_passHours_20 (by decide) (by decide) ?_
    unfold aPH at hq1
    rw [chk_f hh] at hq1
    rw [h9]
    exact hq1 _ (by decide) rfl
