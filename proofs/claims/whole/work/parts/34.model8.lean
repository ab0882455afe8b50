set_option maxHeartbeats 4000000 in
set_option maxRecDepth 100000 in
theorem c_X10_earliestStart {G : GC} {w : Lay} {σ : Mem} {Q : Lay → Option Value → Mem → Prop} {Qx : Lay → String → Mem → Prop} {hm : Nat} (hM : LM w) (hI : RowOK hm (rd σ 13 1)) (hb9 : hm ≤ 900000) {k d : Int32} (hq : Q w (some (.int (aES (rd σ 13 1) k d).2)) (thr σ (aES (rd σ 13 1) k d).1)) : MX10_earliestStart G w σ [.ref (w.2.1 13 0), .int k, .int d] Q Qx := by
  refine mt_start (by decide) rfl (Nat.le_of_ble_eq_true rfl) (fun E hC hR hN => ?_)
  show J G E w 0 0 0 [some (.ref (w.2.1 13 0)), some (.int k), some (.int d), none] [] σ
  refine J_aload_n hC dX10_earliestStart_0 rfl rfl ?_
  refine J_iconst (v := nI 0) hC dX10_earliestStart_1 (by decide) ?_
  refine pX10_62 hC hM dX10_earliestStart_2 ?_
  obtain ⟨τ, hτ, hA⟩ : ∃ τ, thr σ 0 = τ ∧ rd σ 13 1 = rd τ 13 1 := ⟨_, rfl, rd_thr1.symm⟩
  have h9 : ∀ c, thr τ c = thr σ c := fun c => by rw [← hτ]; exact thr_thr
  rw [hA] at hI hq
  show J G E w 0 0 5 _ _ (thr σ 0)
  rw [hτ]
  refine J_aload_n hC dX10_earliestStart_5 rfl rfl ?_
  refine J_iload_n hC dX10_earliestStart_6 rfl rfl ?_
  refine iX10_278 hC hM rfl ⟨by decide, by decide⟩ ⟨by decide, by decide⟩ (Nat.le_of_ble_eq_true rfl) dX10_earliestStart_7 ?_
  refine k_isK hM hI (fun hk => ?_) (fun hk => ?_)
  · dsimp only [Option.toList_some, Option.toList_none, List.cons_append, List.nil_append]
    have gk := hk
    obtain ⟨kk, rfl, bk⟩ := gk
    have ek := r_NK hI
    refine J_if_ne_n hC (by decide) (tgt := 19) dX10_earliestStart_10 rfl (fun _ => ?_) (fun hf => absurd hf (by omega))
    refine J_iload_n hC dX10_earliestStart_19 rfl rfl ?_
    refine J_iconst (v := nI 1) hC dX10_earliestStart_20 (by decide) ?_
    refine J_bipush (v := nI 24) hC dX10_earliestStart_21 (by decide) ?_
    refine iX10_75 hC rfl ⟨by decide, by decide⟩ ⟨by decide, by decide⟩ (Nat.le_of_ble_eq_true rfl) dX10_earliestStart_23 ?_
    refine k_in (by decide) (by decide) (fun hd => ?_) (fun hd => ?_)
    · dsimp only [Option.toList_some, Option.toList_none, List.cons_append, List.nil_append]
      have gd := hd
      obtain ⟨kd, rfl, ad, bd⟩ := gd
      have cd : kd < 2 ^ 31 := by omega
      refine J_if_ne_n hC (by decide) (tgt := 35) dX10_earliestStart_26 rfl (fun _ => ?_) (fun hf => absurd hf (by omega))
      refine J_iconst (v := nI 0) hC dX10_earliestStart_35 (by decide) ?_
      refine J_istore_n hC dX10_earliestStart_36 rfl (Nat.le_of_ble_eq_true rfl) rfl ?_
      dsimp only [List.set]
      have lp : ∀ (dd : Nat) (j : Nat), 61 - j < dd → (j ≤ 61) → (estF (rd τ 13 1) kk kd (61 - j) j = estF (rd τ 13 1) kk kd 61 0) →  J G E w 0 0 37 [some (.ref (w.2.1 13 0)), some (.int (nI kk)), some (.int (nI kd)), some (.int (nI j))] [] τ := by
        intro dd
        induction dd with
        | zero =>
          intro j hdd
          exact absurd hdd (Nat.not_lt_zero _)
        | succ dd ih =>
          intro j hdd hj hF
          refine J_iload_n hC dX10_earliestStart_37 rfl rfl ?_
          refine J_bipush (v := nI 60) hC dX10_earliestStart_38 (by decide) ?_
          refine J_icmp_gt_n hC (by omega) (by decide) (tgt := 77) dX10_earliestStart_40 rfl (fun hb0 => ?_) (fun hb0 => ?_)
          · refine J_iconst (v := -1) hC dX10_earliestStart_77 (by decide) ?_
            refine J_ireturn hC hR dX10_earliestStart_78 (by decide) (by decide) ?_
            unfold aES at hq
            rw [cl_n (k := kk) (by omega), cl_n (k := kd) (by omega), chk_t hk, chk_t hd] at hq
            dsimp only at hq
            rw [hτ, ← hF, show 61 - j = 0 by omega] at hq
            exact hq
          · refine J_aload_n hC dX10_earliestStart_43 rfl rfl ?_
            refine J_iload_n hC dX10_earliestStart_44 rfl rfl ?_
            refine J_aload_n hC dX10_earliestStart_45 rfl rfl ?_
            refine gX10_7 hC hM dX10_earliestStart_46 ?_
            refine J_bipush (v := nI 7) hC dX10_earliestStart_49 (by decide) ?_
            refine J_iaload hC (hM.1 1 (by decide)) rfl rfl (by omega) (by decide) dX10_earliestStart_51 ?_
            have e7 := (r_HOUR hI).2
            refine J_top (r_HOUR hI).1 ?_
            refine J_iload_n hC dX10_earliestStart_52 rfl rfl ?_
            refine J_iadd_n hC dX10_earliestStart_53 ?_
            refine J_iload_n hC dX10_earliestStart_54 rfl rfl ?_
            refine iX10_290 hC hM rfl ⟨by decide, by decide⟩ ⟨by decide, by decide⟩ (Nat.le_of_ble_eq_true rfl) dX10_earliestStart_55 ?_
            refine c_X10_refusal hM hI bk (by omega) (by omega) (by omega) ?_
            dsimp only [Option.toList_some, Option.toList_none, List.cons_append, List.nil_append]
            have hr7 := refuse_le (rd τ 13 1) kk (nv (rd τ 13 1) 7 + j) kd
            refine J_if_ne_n hC (by omega) (tgt := 71) dX10_earliestStart_58 rfl (fun hz => ?_) (fun hz => ?_)
            · rw [est_miss (by omega) hz] at hF
              refine J_iinc_n (m := 1) hC (by decide) dX10_earliestStart_71 rfl (Nat.le_of_ble_eq_true rfl) rfl ?_
              dsimp only [List.set]
              refine J_goto (tgt := 37) hC dX10_earliestStart_74 rfl ?_
              exact ih (j + 1) (by omega) (by omega) hF
            · rw [est_hit (by omega) hz] at hF
              refine J_aload_n hC dX10_earliestStart_61 rfl rfl ?_
              refine gX10_7 hC hM dX10_earliestStart_62 ?_
              refine J_bipush (v := nI 7) hC dX10_earliestStart_65 (by decide) ?_
              refine J_iaload hC (hM.1 1 (by decide)) rfl rfl (by omega) (by decide) dX10_earliestStart_67 ?_
              refine J_top (r_HOUR hI).1 ?_
              refine J_iload_n hC dX10_earliestStart_68 rfl rfl ?_
              refine J_iadd_n hC dX10_earliestStart_69 ?_
              refine J_ireturn hC hR dX10_earliestStart_70 (by decide) (by decide) ?_
              unfold aES at hq
              rw [cl_n (k := kk) (by omega), cl_n (k := kd) (by omega), chk_t hk, chk_t hd] at hq
              dsimp only at hq
              rw [hτ, ← hF] at hq
              rw [← nI_iI] at hq
              exact hq
      exact lp 62 0 (by omega) (by omega) rfl
    · dsimp only [Option.toList_some, Option.toList_none, List.cons_append, List.nil_append]
      refine J_if_ne_n hC (by decide) (tgt := 35) dX10_earliestStart_26 rfl (fun hf => absurd hf (by omega)) (fun _ => ?_)
      refine J_aload_n hC dX10_earliestStart_29 rfl rfl ?_
      refine J_iconst (v := nI 2) hC dX10_earliestStart_30 (by decide) ?_
      refine iX10_308 hC hM rfl ⟨by decide, by decide⟩ ⟨by decide, by decide⟩ (Nat.le_of_ble_eq_true rfl) dX10_earliestStart_31 ?_
      refine c_X10_fail hM ?_
      dsimp only [Option.toList_some, Option.toList_none, List.cons_append, List.nil_append]
      refine J_ireturn hC hR dX10_earliestStart_34 (by decide) (by decide) ?_
      unfold aES at hq
      rw [cl_n (k := kk) (by omega)] at hq
      rw [chk_t hk, chk_f hd] at hq
      dsimp only at hq
      rw [← h9] at hq
      exact hq
  · dsimp only [Option.toList_some, Option.toList_none, List.cons_append, List.nil_append]
    refine J_if_ne_n hC (by decide) (tgt := 19) dX10_earliestStart_10 rfl (fun hf => absurd hf (by omega)) (fun _ => ?_)
    refine J_aload_n hC dX10_earliestStart_13 rfl rfl ?_
    refine J_iconst (v := nI 1) hC dX10_earliestStart_14 (by decide) ?_
    refine iX10_308 hC hM rfl ⟨by decide, by decide⟩ ⟨by decide, by decide⟩ (Nat.le_of_ble_eq_true rfl) dX10_earliestStart_15 ?_
    refine c_X10_fail hM ?_
    dsimp only [Option.toList_some, Option.toList_none, List.cons_append, List.nil_append]
    refine J_ireturn hC hR dX10_earliestStart_18 (by decide) (by decide) ?_
    unfold aES at hq
    rw [chk_f hk] at hq
    dsimp only at hq
    rw [← h9] at hq
    exact hq
set_option maxHeartbeats 4000000 in
set_option maxRecDepth 100000 in
theorem c_X10_bestKnots {G : GC} {w : Lay} {σ : Mem} {Q : Lay → Option Value → Mem → Prop} {Qx : Lay → String → Mem → Prop} {hm : Nat} (hM : LM w) (hI : RowOK hm (rd σ 13 1))  {k h : Int32} (hq : Q w (some (.int (aBK (rd σ 13 1) k h).2)) (thr σ (aBK (rd σ 13 1) k h).1)) : MX10_bestKnots G w σ [.ref (w.2.1 13 0), .int k, .int h] Q Qx := by
  refine mt_start (by decide) rfl (Nat.le_of_ble_eq_true rfl) (fun E hC hR hN => ?_)
  show J G E w 0 0 0 [some (.ref (w.2.1 13 0)), some (.int k), some (.int h), none, none] [] σ
  refine J_aload_n hC dX10_bestKnots_0 rfl rfl ?_
  refine J_iload_n hC dX10_bestKnots_1 rfl rfl ?_
  refine J_iload_n hC dX10_bestKnots_2 rfl rfl ?_
  refine iX10_341 hC hM rfl ⟨by decide, by decide⟩ ⟨by decide, by decide⟩ (Nat.le_of_ble_eq_true rfl) dX10_bestKnots_3 ?_
  refine c_X10_asks hM hI (fun ha => ?_) (fun ha => ?_)
  · dsimp only [Option.toList_some, Option.toList_none, List.cons_append, List.nil_append]
    obtain ⟨hk, hh⟩ := ha
    obtain ⟨τ, hτ, hA⟩ : ∃ τ, thr σ 0 = τ ∧ rd σ 13 1 = rd τ 13 1 := ⟨_, rfl, rd_thr1.symm⟩
    have h9 : ∀ c, thr τ c = thr σ c := fun c => by rw [← hτ]; exact thr_thr
    rw [hA] at hI hq
    rw [hA] at hk
    rw [hτ]
    have gk := hk
    obtain ⟨kk, rfl, bk⟩ := gk
    have ek := r_NK hI
    have gh := hh
    obtain ⟨kh, rfl, ah, bh⟩ := gh
    have ch : kh < 2 ^ 31 := by omega
    refine J_if_ne_n hC (by decide) (tgt := 11) dX10_bestKnots_6 rfl (fun _ => ?_) (fun hf => absurd hf (by omega))
    refine J_iconst (v := -1) hC dX10_bestKnots_11 (by decide) ?_
    refine J_istore_n hC dX10_bestKnots_12 rfl (Nat.le_of_ble_eq_true rfl) rfl ?_
    dsimp only [List.set]
    refine J_iconst (v := nI 0) hC dX10_bestKnots_13 (by decide) ?_
    refine J_istore hC dX10_bestKnots_14 (Nat.le_of_ble_eq_true rfl) rfl ?_
    dsimp only [List.set]
    have lp : ∀ (dd : Nat) (j : Nat) (b : Int), 10 - j < dd → (j ≤ 10) → (-1 ≤ b ∧ b < j) → (bkF (rd τ 13 1) kk kh (10 - j) j b = bkF (rd τ 13 1) kk kh 10 0 (-1)) →  J G E w 0 0 16 [some (.ref (w.2.1 13 0)), some (.int (nI kk)), some (.int (nI kh)), some (.int (iI b)), some (.int (nI j))] [] τ := by
      intro dd
      induction dd with
      | zero =>
        intro j b hdd
        exact absurd hdd (Nat.not_lt_zero _)
      | succ dd ih =>
        intro j b hdd hj hjb hF
        refine J_iload hC dX10_bestKnots_16 rfl ?_
        refine J_bipush (v := nI 10) hC dX10_bestKnots_18 (by decide) ?_
        refine J_icmp_ge_n hC (by omega) (by decide) (tgt := 65) dX10_bestKnots_20 rfl (fun hb0 => ?_) (fun hb0 => ?_)
        · refine J_iload_n hC dX10_bestKnots_65 rfl rfl ?_
          refine J_ireturn hC hR dX10_bestKnots_66 (by decide) (by decide) ?_
          have e : j = 10 := by omega
          subst e
          unfold aBK at hq
          rw [cl_n (k := kk) (by omega), cl_n (k := kh) (by omega), chk_t hk, chk_t hh] at hq
          dsimp only at hq
          rw [hτ, ← hF] at hq
          exact hq
        · refine J_aload_n hC dX10_bestKnots_23 rfl rfl ?_
          refine J_iload_n hC dX10_bestKnots_24 rfl rfl ?_
          refine J_iload hC dX10_bestKnots_25 rfl ?_
          refine J_iload_n hC dX10_bestKnots_27 rfl rfl ?_
          refine iX10_115 hC hM rfl ⟨by decide, by decide⟩ ⟨by decide, by decide⟩ (Nat.le_of_ble_eq_true rfl) dX10_bestKnots_28 ?_
          refine c_X10_fliesWith hM hI bk (by omega) ch (fun hf => ?_) (fun hf => ?_)
          · dsimp only [Option.toList_some, Option.toList_none, List.cons_append, List.nil_append]
            refine J_if_eq_n hC (by decide) (tgt := 59) dX10_bestKnots_31 rfl (fun hf => absurd hf (by omega)) (fun _ => ?_)
            refine J_iload_n hC dX10_bestKnots_34 rfl rfl ?_
            refine J_if_lt_z hC rfl (by omega) (tgt := 56) dX10_bestKnots_35 rfl (fun hb => ?_) (fun hb => ?_)
            · rw [bk_hit (by omega) ⟨hf, Or.inl hb⟩] at hF
              refine J_iload hC dX10_bestKnots_56 rfl ?_
              refine J_istore_n hC dX10_bestKnots_58 rfl (Nat.le_of_ble_eq_true rfl) rfl ?_
              dsimp only [List.set]
              refine J_iinc_n (m := 1) hC (by decide) dX10_bestKnots_59 rfl (Nat.le_of_ble_eq_true rfl) rfl ?_
              dsimp only [List.set]
              refine J_goto (tgt := 16) hC dX10_bestKnots_62 rfl ?_
              first
              | exact ih (j + 1) b (by omega) (by omega) (by omega) hF
              | exact ih (j + 1) bn (by omega) (by omega) (by omega) hF
              | (rw [nI_iI j]; exact ih (j + 1) j (by omega) (by omega) (by omega) hF)
            · refine J_aload_n hC dX10_bestKnots_38 rfl rfl ?_
              refine J_iload_n hC dX10_bestKnots_39 rfl rfl ?_
              refine J_iload hC dX10_bestKnots_40 rfl ?_
              refine J_iload_n hC dX10_bestKnots_42 rfl rfl ?_
              refine iX10_93 hC hM rfl ⟨by decide, by decide⟩ ⟨by decide, by decide⟩ (Nat.le_of_ble_eq_true rfl) dX10_bestKnots_43 ?_
              refine c_X10_reachWith hM hI bk (by omega) ch ?_
              dsimp only [Option.toList_some, Option.toList_none, List.cons_append, List.nil_append]
              have g1 := reachW_le hI bk j kh
              obtain ⟨bn, hbn⟩ : ∃ bn : Nat, b = bn := ⟨b.toNat, by omega⟩
              subst hbn
              rw [← nI_iI]
              refine J_aload_n hC dX10_bestKnots_46 rfl rfl ?_
              refine J_iload_n hC dX10_bestKnots_47 rfl rfl ?_
              refine J_iload_n hC dX10_bestKnots_48 rfl rfl ?_
              refine J_iload_n hC dX10_bestKnots_49 rfl rfl ?_
              refine iX10_93 hC hM rfl ⟨by decide, by decide⟩ ⟨by decide, by decide⟩ (Nat.le_of_ble_eq_true rfl) dX10_bestKnots_50 ?_
              refine c_X10_reachWith hM hI bk (by omega) ch ?_
              dsimp only [Option.toList_some, Option.toList_none, List.cons_append, List.nil_append]
              have g2 := reachW_le hI bk bn kh
              refine J_icmp_le_n hC (by omega) (by omega) (tgt := 59) dX10_bestKnots_53 rfl (fun hl => ?_) (fun hl => ?_)
              · rw [bk_miss (by omega) (fun q => by rcases q.2 with q2 | q2 <;> (try change _ < _ at q2) <;> first | omega | exact absurd hl (by have q3 : reachW (rd τ 13 1) kk bn kh < reachW (rd τ 13 1) kk j kh := q2; omega))] at hF
                rw [nI_iI bn]
                refine J_iinc_n (m := 1) hC (by decide) dX10_bestKnots_59 rfl (Nat.le_of_ble_eq_true rfl) rfl ?_
                dsimp only [List.set]
                refine J_goto (tgt := 16) hC dX10_bestKnots_62 rfl ?_
                first
                | exact ih (j + 1) b (by omega) (by omega) (by omega) hF
                | exact ih (j + 1) bn (by omega) (by omega) (by omega) hF
                | (rw [nI_iI j]; exact ih (j + 1) j (by omega) (by omega) (by omega) hF)
              · rw [bk_hit (by omega) ⟨hf, Or.inr (by show reachW (rd τ 13 1) kk bn kh < _; omega)⟩] at hF
                refine J_iload hC dX10_bestKnots_56 rfl ?_
                refine J_istore_n hC dX10_bestKnots_58 rfl (Nat.le_of_ble_eq_true rfl) rfl ?_
                dsimp only [List.set]
                refine J_iinc_n (m := 1) hC (by decide) dX10_bestKnots_59 rfl (Nat.le_of_ble_eq_true rfl) rfl ?_
                dsimp only [List.set]
                refine J_goto (tgt := 16) hC dX10_bestKnots_62 rfl ?_
                first
                | exact ih (j + 1) b (by omega) (by omega) (by omega) hF
                | exact ih (j + 1) bn (by omega) (by omega) (by omega) hF
                | (rw [nI_iI j]; exact ih (j + 1) j (by omega) (by omega) (by omega) hF)
          · dsimp only [Option.toList_some, Option.toList_none, List.cons_append, List.nil_append]
            rw [bk_miss (by omega) (fun q => hf q.1)] at hF
            refine J_if_eq_n hC (by decide) (tgt := 59) dX10_bestKnots_31 rfl (fun _ => ?_) (fun hf => absurd hf (by omega))
            refine J_iinc_n (m := 1) hC (by decide) dX10_bestKnots_59 rfl (Nat.le_of_ble_eq_true rfl) rfl ?_
            dsimp only [List.set]
            refine J_goto (tgt := 16) hC dX10_bestKnots_62 rfl ?_
            first
            | exact ih (j + 1) b (by omega) (by omega) (by omega) hF
            | exact ih (j + 1) bn (by omega) (by omega) (by omega) hF
            | (rw [nI_iI j]; exact ih (j + 1) j (by omega) (by omega) (by omega) hF)
    exact lp 11 0 (-1) (by omega) (by omega) (by omega) rfl
  · dsimp only [Option.toList_some, Option.toList_none, List.cons_append, List.nil_append]
    intro hc hv
    refine J_if_ne_n hC (by decide) (tgt := 11) dX10_bestKnots_6 rfl (fun hf => absurd hf (by omega)) (fun _ => ?_)
    refine J_iconst (v := nI 0) hC dX10_bestKnots_9 (by decide) ?_
    refine J_ireturn hC hR dX10_bestKnots_10 (by decide) (by decide) ?_
    unfold aBK at hq
    first
    | (rw [hv] at hq; exact hq)
    | omega
set_option maxHeartbeats 4000000 in
set_option maxRecDepth 100000 in
theorem c_X10_hour {G : GC} {w : Lay} {σ : Mem} {Q : Lay → Option Value → Mem → Prop} {Qx : Lay → String → Mem → Prop} (hM : LM w) (hq : Q w (some (.int ((rd σ 13 1) 7))) (thr σ 0)) : MX10_hour G w σ [.ref (w.2.1 13 0)] Q Qx := by
  refine mt_start (by decide) rfl (Nat.le_of_ble_eq_true rfl) (fun E hC hR hN => ?_)
  show J G E w 0 0 0 [some (.ref (w.2.1 13 0))] [] σ
  refine J_aload_n hC dX10_hour_0 rfl rfl ?_
  refine J_iconst (v := nI 0) hC dX10_hour_1 (by decide) ?_
  refine pX10_62 hC hM dX10_hour_2 ?_
  refine J_aload_n hC dX10_hour_5 rfl rfl ?_
  refine gX10_7 hC hM dX10_hour_6 ?_
  refine J_bipush (v := nI 7) hC dX10_hour_9 (by decide) ?_
  refine J_iaload hC (hM.1 1 (by decide)) rfl rfl (by omega) (by decide) dX10_hour_11 ?_
  refine J_top (show _ = (rd σ 13 1) 7 from rd_wr_c (by decide)) ?_
  refine J_ireturn hC hR dX10_hour_12 (by decide) (by decide) ?_
  exact hq
set_option maxHeartbeats 4000000 in
set_option maxRecDepth 100000 in
theorem c_X10_width {G : GC} {w : Lay} {σ : Mem} {Q : Lay → Option Value → Mem → Prop} {Qx : Lay → String → Mem → Prop} (hM : LM w) (hq : Q w (some (.int ((rd σ 13 1) 0))) (thr σ 0)) : MX10_width G w σ [.ref (w.2.1 13 0)] Q Qx := by
  refine mt_start (by decide) rfl (Nat.le_of_ble_eq_true rfl) (fun E hC hR hN => ?_)
  show J G E w 0 0 0 [some (.ref (w.2.1 13 0))] [] σ
  refine J_aload_n hC dX10_width_0 rfl rfl ?_
  refine J_iconst (v := nI 0) hC dX10_width_1 (by decide) ?_
  refine pX10_62 hC hM dX10_width_2 ?_
  refine J_aload_n hC dX10_width_5 rfl rfl ?_
  refine gX10_7 hC hM dX10_width_6 ?_
  refine J_iconst (v := nI 0) hC dX10_width_9 (by decide) ?_
  refine J_iaload hC (hM.1 1 (by decide)) rfl rfl (by omega) (by decide) dX10_width_10 ?_
  refine J_top (show _ = (rd σ 13 1) 0 from rd_wr_c (by decide)) ?_
  refine J_ireturn hC hR dX10_width_11 (by decide) (by decide) ?_
  exact hq
set_option maxHeartbeats 4000000 in
set_option maxRecDepth 100000 in
theorem c_X10_height {G : GC} {w : Lay} {σ : Mem} {Q : Lay → Option Value → Mem → Prop} {Qx : Lay → String → Mem → Prop} (hM : LM w) (hq : Q w (some (.int ((rd σ 13 1) 1))) (thr σ 0)) : MX10_height G w σ [.ref (w.2.1 13 0)] Q Qx := by
  refine mt_start (by decide) rfl (Nat.le_of_ble_eq_true rfl) (fun E hC hR hN => ?_)
  show J G E w 0 0 0 [some (.ref (w.2.1 13 0))] [] σ
  refine J_aload_n hC dX10_height_0 rfl rfl ?_
  refine J_iconst (v := nI 0) hC dX10_height_1 (by decide) ?_
  refine pX10_62 hC hM dX10_height_2 ?_
  refine J_aload_n hC dX10_height_5 rfl rfl ?_
  refine gX10_7 hC hM dX10_height_6 ?_
  refine J_iconst (v := nI 1) hC dX10_height_9 (by decide) ?_
  refine J_iaload hC (hM.1 1 (by decide)) rfl rfl (by omega) (by decide) dX10_height_10 ?_
  refine J_top (show _ = (rd σ 13 1) 1 from rd_wr_c (by decide)) ?_
  refine J_ireturn hC hR dX10_height_11 (by decide) (by decide) ?_
  exact hq
set_option maxHeartbeats 4000000 in
set_option maxRecDepth 100000 in
theorem c_X10_fee {G : GC} {w : Lay} {σ : Mem} {Q : Lay → Option Value → Mem → Prop} {Qx : Lay → String → Mem → Prop} (hM : LM w) (hq : Q w (some (.int ((rd σ 13 1) 2))) (thr σ 0)) : MX10_fee G w σ [.ref (w.2.1 13 0)] Q Qx := by
  refine mt_start (by decide) rfl (Nat.le_of_ble_eq_true rfl) (fun E hC hR hN => ?_)
  show J G E w 0 0 0 [some (.ref (w.2.1 13 0))] [] σ
  refine J_aload_n hC dX10_fee_0 rfl rfl ?_
  refine J_iconst (v := nI 0) hC dX10_fee_1 (by decide) ?_
  refine pX10_62 hC hM dX10_fee_2 ?_
  refine J_aload_n hC dX10_fee_5 rfl rfl ?_
  refine gX10_7 hC hM dX10_fee_6 ?_
  refine J_iconst (v := nI 2) hC dX10_fee_9 (by decide) ?_
  refine J_iaload hC (hM.1 1 (by decide)) rfl rfl (by omega) (by decide) dX10_fee_10 ?_
  refine J_top (show _ = (rd σ 13 1) 2 from rd_wr_c (by decide)) ?_
  refine J_ireturn hC hR dX10_fee_11 (by decide) (by decide) ?_
  exact hq
set_option maxHeartbeats 4000000 in
set_option maxRecDepth 100000 in
theorem c_X10_fine {G : GC} {w : Lay} {σ : Mem} {Q : Lay → Option Value → Mem → Prop} {Qx : Lay → String → Mem → Prop} (hM : LM w) (hq : Q w (some (.int ((rd σ 13 1) 3))) (thr σ 0)) : MX10_fine G w σ [.ref (w.2.1 13 0)] Q Qx := by
  refine mt_start (by decide) rfl (Nat.le_of_ble_eq_true rfl) (fun E hC hR hN => ?_)
  show J G E w 0 0 0 [some (.ref (w.2.1 13 0))] [] σ
  refine J_aload_n hC dX10_fine_0 rfl rfl ?_
  refine J_iconst (v := nI 0) hC dX10_fine_1 (by decide) ?_
  refine pX10_62 hC hM dX10_fine_2 ?_
  refine J_aload_n hC dX10_fine_5 rfl rfl ?_
  refine gX10_7 hC hM dX10_fine_6 ?_
  refine J_iconst (v := nI 3) hC dX10_fine_9 (by decide) ?_
  refine J_iaload hC (hM.1 1 (by decide)) rfl rfl (by omega) (by decide) dX10_fine_10 ?_
  refine J_top (show _ = (rd σ 13 1) 3 from rd_wr_c (by decide)) ?_
  refine J_ireturn hC hR dX10_fine_11 (by decide) (by decide) ?_
  exact hq
set_option maxHeartbeats 4000000 in
set_option maxRecDepth 100000 in
theorem c_X10_zoneCount {G : GC} {w : Lay} {σ : Mem} {Q : Lay → Option Value → Mem → Prop} {Qx : Lay → String → Mem → Prop} (hM : LM w) (hq : Q w (some (.int ((rd σ 13 1) 4))) (thr σ 0)) : MX10_zoneCount G w σ [.ref (w.2.1 13 0)] Q Qx := by
  refine mt_start (by decide) rfl (Nat.le_of_ble_eq_true rfl) (fun E hC hR hN => ?_)
  show J G E w 0 0 0 [some (.ref (w.2.1 13 0))] [] σ
  refine J_aload_n hC dX10_zoneCount_0 rfl rfl ?_
  refine J_iconst (v := nI 0) hC dX10_zoneCount_1 (by decide) ?_
  refine pX10_62 hC hM dX10_zoneCount_2 ?_
  refine J_aload_n hC dX10_zoneCount_5 rfl rfl ?_
  refine gX10_7 hC hM dX10_zoneCount_6 ?_
  refine J_iconst (v := nI 4) hC dX10_zoneCount_9 (by decide) ?_
  refine J_iaload hC (hM.1 1 (by decide)) rfl rfl (by omega) (by decide) dX10_zoneCount_10 ?_
  refine J_top (show _ = (rd σ 13 1) 4 from rd_wr_c (by decide)) ?_
  refine J_ireturn hC hR dX10_zoneCount_11 (by decide) (by decide) ?_
  exact hq
set_option maxHeartbeats 4000000 in
set_option maxRecDepth 100000 in
theorem c_X10_colourCount {G : GC} {w : Lay} {σ : Mem} {Q : Lay → Option Value → Mem → Prop} {Qx : Lay → String → Mem → Prop} (hM : LM w) (hq : Q w (some (.int ((rd σ 13 1) 5))) (thr σ 0)) : MX10_colourCount G w σ [.ref (w.2.1 13 0)] Q Qx := by
  refine mt_start (by decide) rfl (Nat.le_of_ble_eq_true rfl) (fun E hC hR hN => ?_)
  show J G E w 0 0 0 [some (.ref (w.2.1 13 0))] [] σ
  refine J_aload_n hC dX10_colourCount_0 rfl rfl ?_
  refine J_iconst (v := nI 0) hC dX10_colourCount_1 (by decide) ?_
  refine pX10_62 hC hM dX10_colourCount_2 ?_
  refine J_aload_n hC dX10_colourCount_5 rfl rfl ?_
  refine gX10_7 hC hM dX10_colourCount_6 ?_
  refine J_iconst (v := nI 5) hC dX10_colourCount_9 (by decide) ?_
  refine J_iaload hC (hM.1 1 (by decide)) rfl rfl (by omega) (by decide) dX10_colourCount_10 ?_
  refine J_top (show _ = (rd σ 13 1) 5 from rd_wr_c (by decide)) ?_
  refine J_ireturn hC hR dX10_colourCount_11 (by decide) (by decide) ?_
  exact hq
set_option maxHeartbeats 4000000 in
set_option maxRecDepth 100000 in
theorem c_X10_kiteCount {G : GC} {w : Lay} {σ : Mem} {Q : Lay → Option Value → Mem → Prop} {Qx : Lay → String → Mem → Prop} (hM : LM w) (hq : Q w (some (.int ((rd σ 13 1) 6))) (thr σ 0)) : MX10_kiteCount G w σ [.ref (w.2.1 13 0)] Q Qx := by
  refine mt_start (by decide) rfl (Nat.le_of_ble_eq_true rfl) (fun E hC hR hN => ?_)
  show J G E w 0 0 0 [some (.ref (w.2.1 13 0))] [] σ
  refine J_aload_n hC dX10_kiteCount_0 rfl rfl ?_
  refine J_iconst (v := nI 0) hC dX10_kiteCount_1 (by decide) ?_
  refine pX10_62 hC hM dX10_kiteCount_2 ?_
  refine J_aload_n hC dX10_kiteCount_5 rfl rfl ?_
  refine gX10_7 hC hM dX10_kiteCount_6 ?_
  refine J_bipush (v := nI 6) hC dX10_kiteCount_9 (by decide) ?_
  refine J_iaload hC (hM.1 1 (by decide)) rfl rfl (by omega) (by decide) dX10_kiteCount_11 ?_
  refine J_top (show _ = (rd σ 13 1) 6 from rd_wr_c (by decide)) ?_
  refine J_ireturn hC hR dX10_kiteCount_12 (by decide) (by decide) ?_
  exact hq
set_option maxHeartbeats 4000000 in
set_option maxRecDepth 100000 in
theorem c_X10_permitCount {G : GC} {w : Lay} {σ : Mem} {Q : Lay → Option Value → Mem → Prop} {Qx : Lay → String → Mem → Prop} (hM : LM w) (hq : Q w (some (.int ((rd σ 13 1) 11))) (thr σ 0)) : MX10_permitCount G w σ [.ref (w.2.1 13 0)] Q Qx := by
  refine mt_start (by decide) rfl (Nat.le_of_ble_eq_true rfl) (fun E hC hR hN => ?_)
  show J G E w 0 0 0 [some (.ref (w.2.1 13 0))] [] σ
  refine J_aload_n hC dX10_permitCount_0 rfl rfl ?_
  refine J_iconst (v := nI 0) hC dX10_permitCount_1 (by decide) ?_
  refine pX10_62 hC hM dX10_permitCount_2 ?_
  refine J_aload_n hC dX10_permitCount_5 rfl rfl ?_
  refine gX10_7 hC hM dX10_permitCount_6 ?_
  refine J_bipush (v := nI 11) hC dX10_permitCount_9 (by decide) ?_
  refine J_iaload hC (hM.1 1 (by decide)) rfl rfl (by omega) (by decide) dX10_permitCount_11 ?_
  refine J_top (show _ = (rd σ 13 1) 11 from rd_wr_c (by decide)) ?_
  refine J_ireturn hC hR dX10_permitCount_12 (by decide) (by decide) ?_
  exact hq
set_option maxHeartbeats 4000000 in
set_option maxRecDepth 100000 in
theorem c_X10_officeCoins {G : GC} {w : Lay} {σ : Mem} {Q : Lay → Option Value → Mem → Prop} {Qx : Lay → String → Mem → Prop} (hM : LM w) (hq : Q w (some (.int ((rd σ 13 1) 9))) (thr σ 0)) : MX10_officeCoins G w σ [.ref (w.2.1 13 0)] Q Qx := by
  refine mt_start (by decide) rfl (Nat.le_of_ble_eq_true rfl) (fun E hC hR hN => ?_)
  show J G E w 0 0 0 [some (.ref (w.2.1 13 0))] [] σ
  refine J_aload_n hC dX10_officeCoins_0 rfl rfl ?_
  refine J_iconst (v := nI 0) hC dX10_officeCoins_1 (by decide) ?_
  refine pX10_62 hC hM dX10_officeCoins_2 ?_
  refine J_aload_n hC dX10_officeCoins_5 rfl rfl ?_
  refine gX10_7 hC hM dX10_officeCoins_6 ?_
  refine J_bipush (v := nI 9) hC dX10_officeCoins_9 (by decide) ?_
  refine J_iaload hC (hM.1 1 (by decide)) rfl rfl (by omega) (by decide) dX10_officeCoins_11 ?_
  refine J_top (show _ = (rd σ 13 1) 9 from rd_wr_c (by decide)) ?_
  refine J_ireturn hC hR dX10_officeCoins_12 (by decide) (by decide) ?_
  exact hq
set_option maxHeartbeats 4000000 in
set_option maxRecDepth 100000 in
theorem c_X10_errorCode {G : GC} {w : Lay} {σ : Mem} {Q : Lay → Option Value → Mem → Prop} {Qx : Lay → String → Mem → Prop} (hM : LM w) (hq : Q w (some (.int (rd σ 13 0 7))) (thr σ 0)) : MX10_errorCode G w σ [.ref (w.2.1 13 0)] Q Qx := by
  refine mt_start (by decide) rfl (Nat.le_of_ble_eq_true rfl) (fun E hC hR hN => ?_)
  show J G E w 0 0 0 [some (.ref (w.2.1 13 0))] [] σ
  refine J_aload_n hC dX10_errorCode_0 rfl rfl ?_
  refine J_iconst (v := nI 0) hC dX10_errorCode_1 (by decide) ?_
  refine pX10_62 hC hM dX10_errorCode_2 ?_
  refine J_aload_n hC dX10_errorCode_5 rfl rfl ?_
  refine gX10_207 hC hM dX10_errorCode_6 ?_
  refine J_top (show _ = rd σ 13 0 7 from rd_wr_j (by decide)) ?_
  refine J_ireturn hC hR dX10_errorCode_9 (by decide) (by decide) ?_
  exact hq
set_option maxHeartbeats 4000000 in
set_option maxRecDepth 100000 in
theorem c_X10_errorPosition {G : GC} {w : Lay} {σ : Mem} {Q : Lay → Option Value → Mem → Prop} {Qx : Lay → String → Mem → Prop} (hM : LM w) (hq : Q w (some (.int (rd σ 13 0 8))) (thr σ 0)) : MX10_errorPosition G w σ [.ref (w.2.1 13 0)] Q Qx := by
  refine mt_start (by decide) rfl (Nat.le_of_ble_eq_true rfl) (fun E hC hR hN => ?_)
  show J G E w 0 0 0 [some (.ref (w.2.1 13 0))] [] σ
  refine J_aload_n hC dX10_errorPosition_0 rfl rfl ?_
  refine J_iconst (v := nI 0) hC dX10_errorPosition_1 (by decide) ?_
  refine pX10_62 hC hM dX10_errorPosition_2 ?_
  refine J_aload_n hC dX10_errorPosition_5 rfl rfl ?_
  refine gX10_24 hC hM dX10_errorPosition_6 ?_
  refine J_top (show _ = rd σ 13 0 8 from rd_wr_j (by decide)) ?_
  refine J_ireturn hC hR dX10_errorPosition_9 (by decide) (by decide) ?_
  exact hq
set_option maxHeartbeats 4000000 in
set_option maxRecDepth 100000 in
theorem c_X10_crossings {G : GC} {w : Lay} {σ : Mem} {Q : Lay → Option Value → Mem → Prop} {Qx : Lay → String → Mem → Prop} {hm : Nat} (hM : LM w) (hI : RowOK hm (rd σ 13 1)) (hb9 : hm ≤ 900000) {p q : Nat} (hp : p < nv (rd σ 13 1) 11) (hq0 : q < nv (rd σ 13 1) 11) (hq : Q w (some (.int (nI (crs (rd σ 13 1) p q)))) σ) : MX10_crossings G w σ [.ref (w.2.1 13 0), .int (nI p), .int (nI q)] Q Qx := by
  refine mt_start (by decide) rfl (Nat.le_of_ble_eq_true rfl) (fun E hC hR hN => ?_)
  show J G E w 0 0 0 [some (.ref (w.2.1 13 0)), some (.int (nI p)), some (.int (nI q)), none, none, none, none] [] σ
  have h1 := r_NP hI
  have h3 := r_HOUR hI
  have h4 := r_PS hI hp
  have h5 := r_PD hI hp
  have h6 := r_NK hI
  have h7 := (r_PK hI hp).2
  have h8 := (r_PK hI hq0).2
  have hE : crsE (rd σ 13 1) p = nv (rd σ 13 1) (214 + 3 * p + 1) + nv (rd σ 13 1) (214 + 3 * p + 2) := rfl
  have hB : crsB (rd σ 13 1) p = max (nv (rd σ 13 1) 7) (nv (rd σ 13 1) (214 + 3 * p + 1)) := rfl
  refine J_sipush (v := nI 214) hC dX10_crossings_0 (by decide) ?_
  refine J_iconst (v := nI 3) hC dX10_crossings_3 (by decide) ?_
  refine J_iload_n hC dX10_crossings_4 rfl rfl ?_
  refine J_imul_n hC dX10_crossings_5 ?_
  refine J_iadd_n hC dX10_crossings_6 ?_
  refine J_istore_n hC dX10_crossings_7 rfl (Nat.le_of_ble_eq_true rfl) rfl ?_
  dsimp only [List.set]
  refine J_sipush (v := nI 214) hC dX10_crossings_8 (by decide) ?_
  refine J_iconst (v := nI 3) hC dX10_crossings_11 (by decide) ?_
  refine J_iload_n hC dX10_crossings_12 rfl rfl ?_
  refine J_imul_n hC dX10_crossings_13 ?_
  refine J_iadd_n hC dX10_crossings_14 ?_
  refine J_istore hC dX10_crossings_15 (Nat.le_of_ble_eq_true rfl) rfl ?_
  dsimp only [List.set]
  refine J_iconst (v := nI 0) hC dX10_crossings_17 (by decide) ?_
  refine J_istore hC dX10_crossings_18 (Nat.le_of_ble_eq_true rfl) rfl ?_
  dsimp only [List.set]
  refine J_aload_n hC dX10_crossings_20 rfl rfl ?_
  refine gX10_7 hC hM dX10_crossings_21 ?_
  refine J_iload_n hC dX10_crossings_24 rfl rfl ?_
  refine J_iaload hC (hM.1 1 (by decide)) rfl rfl (by omega) (by decide) dX10_crossings_25 ?_
  refine J_top (r_PK hI hp).1 ?_
  refine J_aload_n hC dX10_crossings_26 rfl rfl ?_
  refine gX10_7 hC hM dX10_crossings_27 ?_
  refine J_iload hC dX10_crossings_30 rfl ?_
  refine J_iaload hC (hM.1 1 (by decide)) rfl rfl (by omega) (by decide) dX10_crossings_32 ?_
  refine J_top (r_PK hI hq0).1 ?_
  refine J_icmp_ne_n hC (by omega) (by omega) (tgt := 38) dX10_crossings_33 rfl (fun hne => ?_) (fun hne => ?_)
  · skip
    have lp : ∀ (dd : Nat) (i : Nat), crsE (rd σ 13 1) p - crsB (rd σ 13 1) p - i < dd → (i ≤ crsE (rd σ 13 1) p - crsB (rd σ 13 1) p) →  J G E w 0 0 58 [some (.ref (w.2.1 13 0)), some (.int (nI p)), some (.int (nI q)), some (.int (nI (214 + 3 * p))), some (.int (nI (214 + 3 * q))), some (.int (nI (cnt (fun i => crsP (rd σ 13 1) p q (crsB (rd σ 13 1) p + i)) i))), some (.int (nI (crsB (rd σ 13 1) p + i)))] [] σ := by
      intro dd
      induction dd with
      | zero =>
        intro i hdd
        exact absurd hdd (Nat.not_lt_zero _)
      | succ dd ih =>
        intro i hdd hi
        have hci := cnt_le (fun i => crsP (rd σ 13 1) p q (crsB (rd σ 13 1) p + i)) i
        refine J_iload hC dX10_crossings_58 rfl ?_
        refine J_aload_n hC dX10_crossings_60 rfl rfl ?_
        refine gX10_7 hC hM dX10_crossings_61 ?_
        refine J_iload_n hC dX10_crossings_64 rfl rfl ?_
        refine J_iconst (v := nI 1) hC dX10_crossings_65 (by decide) ?_
        refine J_iadd_n hC dX10_crossings_66 ?_
        refine J_iaload hC (hM.1 1 (by decide)) rfl rfl (by omega) (by decide) dX10_crossings_67 ?_
        refine J_top (r_PS hI hp).1 ?_
        refine J_aload_n hC dX10_crossings_68 rfl rfl ?_
        refine gX10_7 hC hM dX10_crossings_69 ?_
        refine J_iload_n hC dX10_crossings_72 rfl rfl ?_
        refine J_iconst (v := nI 2) hC dX10_crossings_73 (by decide) ?_
        refine J_iadd_n hC dX10_crossings_74 ?_
        refine J_iaload hC (hM.1 1 (by decide)) rfl rfl (by omega) (by decide) dX10_crossings_75 ?_
        refine J_top (r_PD hI hp).1 ?_
        refine J_iadd_n hC dX10_crossings_76 ?_
        refine J_icmp_ge_n hC (by omega) (by omega) (tgt := 121) dX10_crossings_77 rfl (fun hb => ?_) (fun hb => ?_)
        · refine J_iload hC dX10_crossings_121 rfl ?_
          refine J_ireturn hC hR dX10_crossings_123 (by decide) (by decide) ?_
          have e : i = crsE (rd σ 13 1) p - crsB (rd σ 13 1) p := by omega
          subst e
          rw [crs_ne hne] at hq
          exact hq
        · refine J_aload_n hC dX10_crossings_80 rfl rfl ?_
          refine J_iload_n hC dX10_crossings_81 rfl rfl ?_
          refine J_iload hC dX10_crossings_82 rfl ?_
          refine iX10_134 hC hM rfl ⟨by decide, by decide⟩ ⟨by decide, by decide⟩ (Nat.le_of_ble_eq_true rfl) dX10_crossings_84 ?_
          refine c_X10_covers hM hI hq0 (by omega) (fun hcov => ?_) (fun hcov => ?_)
          · dsimp only [Option.toList_some, Option.toList_none, List.cons_append, List.nil_append]
            refine J_if_eq_n hC (by decide) (tgt := 115) dX10_crossings_87 rfl (fun hf => absurd hf (by omega)) (fun _ => ?_)
            refine J_aload_n hC dX10_crossings_90 rfl rfl ?_
            refine J_aload_n hC dX10_crossings_91 rfl rfl ?_
            refine gX10_7 hC hM dX10_crossings_92 ?_
            refine J_iload_n hC dX10_crossings_95 rfl rfl ?_
            refine J_iaload hC (hM.1 1 (by decide)) rfl rfl (by omega) (by decide) dX10_crossings_96 ?_
            refine J_top (r_PK hI hp).1 ?_
            refine J_aload_n hC dX10_crossings_97 rfl rfl ?_
            refine gX10_7 hC hM dX10_crossings_98 ?_
            refine J_iload hC dX10_crossings_101 rfl ?_
            refine J_iaload hC (hM.1 1 (by decide)) rfl rfl (by omega) (by decide) dX10_crossings_103 ?_
            refine J_top (r_PK hI hq0).1 ?_
            refine J_iload hC dX10_crossings_104 rfl ?_
            refine iX10_141 hC hM rfl ⟨by decide, by decide⟩ ⟨by decide, by decide⟩ (Nat.le_of_ble_eq_true rfl) dX10_crossings_106 ?_
            refine c_X10_cross hM hI (r_PK hI hp).2 (r_PK hI hq0).2 (by omega) (fun hcr => ?_) (fun hcr => ?_)
            · dsimp only [Option.toList_some, Option.toList_none, List.cons_append, List.nil_append]
              refine J_if_eq_n hC (by decide) (tgt := 115) dX10_crossings_109 rfl (fun hf => absurd hf (by omega)) (fun _ => ?_)
              refine J_iinc_n (m := 1) hC (by decide) dX10_crossings_112 rfl (Nat.le_of_ble_eq_true rfl) rfl ?_
              dsimp only [List.set]
              rw [← cnt_tt (P := (fun i => crsP (rd σ 13 1) p q (crsB (rd σ 13 1) p + i))) (n := i) ⟨hcov, hcr⟩]
              refine J_iinc_n (m := 1) hC (by decide) dX10_crossings_115 rfl (Nat.le_of_ble_eq_true rfl) rfl ?_
              dsimp only [List.set]
              refine J_goto (tgt := 58) hC dX10_crossings_118 rfl ?_
              exact ih (i + 1) (by omega) (by omega)
            · dsimp only [Option.toList_some, Option.toList_none, List.cons_append, List.nil_append]
              rw [← cnt_ff (n := i) (fun g => hcr g.2)]
              refine J_if_eq_n hC (by decide) (tgt := 115) dX10_crossings_109 rfl (fun _ => ?_) (fun hf => absurd hf (by omega))
              refine J_iinc_n (m := 1) hC (by decide) dX10_crossings_115 rfl (Nat.le_of_ble_eq_true rfl) rfl ?_
              dsimp only [List.set]
              refine J_goto (tgt := 58) hC dX10_crossings_118 rfl ?_
              exact ih (i + 1) (by omega) (by omega)
          · dsimp only [Option.toList_some, Option.toList_none, List.cons_append, List.nil_append]
            rw [← cnt_ff (n := i) (fun g => hcov g.1)]
            refine J_if_eq_n hC (by decide) (tgt := 115) dX10_crossings_87 rfl (fun _ => ?_) (fun hf => absurd hf (by omega))
            refine J_iinc_n (m := 1) hC (by decide) dX10_crossings_115 rfl (Nat.le_of_ble_eq_true rfl) rfl ?_
            dsimp only [List.set]
            refine J_goto (tgt := 58) hC dX10_crossings_118 rfl ?_
            exact ih (i + 1) (by omega) (by omega)
    refine J_aload_n hC dX10_crossings_38 rfl rfl ?_
    refine gX10_7 hC hM dX10_crossings_39 ?_
    refine J_bipush (v := nI 7) hC dX10_crossings_42 (by decide) ?_
    refine J_iaload hC (hM.1 1 (by decide)) rfl rfl (by omega) (by decide) dX10_crossings_44 ?_
    refine J_top h3.1 ?_
    refine J_aload_n hC dX10_crossings_45 rfl rfl ?_
    refine gX10_7 hC hM dX10_crossings_46 ?_
    refine J_iload_n hC dX10_crossings_49 rfl rfl ?_
    refine J_iconst (v := nI 1) hC dX10_crossings_50 (by decide) ?_
    refine J_iadd_n hC dX10_crossings_51 ?_
    refine J_iaload hC (hM.1 1 (by decide)) rfl rfl (by omega) (by decide) dX10_crossings_52 ?_
    refine J_top (r_PS hI hp).1 ?_
    refine iX10_118 hC rfl ⟨by decide, by decide⟩ ⟨by decide, by decide⟩ (Nat.le_of_ble_eq_true rfl) dX10_crossings_53 ?_
    refine c_X10_more  ?_
    dsimp only [Option.toList_some, Option.toList_none, List.cons_append, List.nil_append]
    rw [imax_n (by omega) (by omega)]
    refine J_istore hC dX10_crossings_56 (Nat.le_of_ble_eq_true rfl) rfl ?_
    dsimp only [List.set]
    exact lp (crsE (rd σ 13 1) p + 1) 0 (by omega) (by omega)
  · refine J_iconst (v := nI 0) hC dX10_crossings_36 (by decide) ?_
    refine J_ireturn hC hR dX10_crossings_37 (by decide) (by decide) ?_
    rw [crs_eq hne] at hq
    exact hq
