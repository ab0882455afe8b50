set_option maxHeartbeats 4000000 in
set_option maxRecDepth 100000 in
theorem c_X10_addKite {G : GC} {w : Lay} {σ : Mem} {Q : Lay → Option Value → Mem → Prop} {Qx : Lay → String → Mem → Prop} {hm : Nat} (hM : LM w) (hI : RowOK hm (rd σ 13 1))  {x y l o v p : Int32} {f u : Nat} (hr0 : ringOK σ f u)  (hq0 : (aAK (rd σ 13 1)  x y l o v p).1 = 0 → Q w (some (.int (aAK (rd σ 13 1)  x y l o v p).2)) (setA (actM (thr σ 0) f u) (kiteA (rd σ 13 1) x y l o v p))) (hq1 : ∀ c, c ≠ 0 → (aAK (rd σ 13 1)  x y l o v p).1 = c → Q w (some (.int (nI 0))) (thr σ c)) : MX10_addKite G w σ [.ref (w.2.1 13 0), .int x, .int y, .int l, .int o, .int v, .int p] Q Qx := by
  refine mt_start (by decide) rfl (Nat.le_of_ble_eq_true rfl) (fun E hC hR hN => ?_)
  show J G E w 0 0 0 [some (.ref (w.2.1 13 0)), some (.int x), some (.int y), some (.int l), some (.int o), some (.int v), some (.int p)] [] σ
  refine J_aload_n hC dX10_addKite_0 rfl rfl ?_
  refine J_iconst (v := nI 0) hC dX10_addKite_1 (by decide) ?_
  refine pX10_62 hC hM dX10_addKite_2 ?_
  obtain ⟨τ, hτ, hA⟩ : ∃ τ, thr σ 0 = τ ∧ rd σ 13 1 = rd τ 13 1 := ⟨_, rfl, rd_thr1.symm⟩
  have h9 : ∀ c, thr τ c = thr σ c := fun c => by rw [← hτ]; exact thr_thr
  rw [hA] at hI hq0 hq1
  have hr : ringOK τ f u := hτ ▸ ring_thr hr0
  show J G E w 0 0 5 _ _ (thr σ 0)
  rw [hτ]
  refine J_aload_n hC dX10_addKite_5 rfl rfl ?_
  refine J_iload hC dX10_addKite_6 rfl ?_
  refine iX10_332 hC hM rfl ⟨by decide, by decide⟩ ⟨by decide, by decide⟩ (Nat.le_of_ble_eq_true rfl) dX10_addKite_8 ?_
  refine k_isC hM hI (fun hc => ?_) (fun hc => ?_)
  · dsimp only [Option.toList_some, Option.toList_none, List.cons_append, List.nil_append]
    refine J_if_ne_n hC (by decide) (tgt := 20) dX10_addKite_11 rfl (fun _ => ?_) (fun hf => absurd hf (by omega))
    refine J_iload_n hC dX10_addKite_20 rfl rfl ?_
    refine J_iconst (v := nI 0) hC dX10_addKite_21 (by decide) ?_
    refine J_aload_n hC dX10_addKite_22 rfl rfl ?_
    refine gX10_7 hC hM dX10_addKite_23 ?_
    refine J_iconst (v := nI 0) hC dX10_addKite_26 (by decide) ?_
    refine J_iaload hC (hM.1 1 (by decide)) rfl rfl (by omega) (by decide) dX10_addKite_27 ?_
    have hW := (r_W hI).2
    refine J_top (r_W hI).1 ?_
    refine J_iconst (v := nI 1) hC dX10_addKite_28 (by decide) ?_
    refine J_isub_n hC (by omega) dX10_addKite_29 ?_
    refine iX10_75 hC rfl ⟨by decide, by decide⟩ ⟨by decide, by decide⟩ (Nat.le_of_ble_eq_true rfl) dX10_addKite_30 ?_
    refine k_in (by omega) (by decide) (fun hx => ?_) (fun hx => ?_)
    · dsimp only [Option.toList_some, Option.toList_none, List.cons_append, List.nil_append]
      refine J_if_eq_n hC (by decide) (tgt := 85) dX10_addKite_33 rfl (fun hf => absurd hf (by omega)) (fun _ => ?_)
      refine J_iload_n hC dX10_addKite_36 rfl rfl ?_
      refine J_iconst (v := nI 0) hC dX10_addKite_37 (by decide) ?_
      refine J_aload_n hC dX10_addKite_38 rfl rfl ?_
      refine gX10_7 hC hM dX10_addKite_39 ?_
      refine J_iconst (v := nI 1) hC dX10_addKite_42 (by decide) ?_
      refine J_iaload hC (hM.1 1 (by decide)) rfl rfl (by omega) (by decide) dX10_addKite_43 ?_
      have hH := (r_H hI).2
      refine J_top (r_H hI).1 ?_
      refine J_iconst (v := nI 1) hC dX10_addKite_44 (by decide) ?_
      refine J_isub_n hC (by omega) dX10_addKite_45 ?_
      refine iX10_75 hC rfl ⟨by decide, by decide⟩ ⟨by decide, by decide⟩ (Nat.le_of_ble_eq_true rfl) dX10_addKite_46 ?_
      refine k_in (by omega) (by decide) (fun hy => ?_) (fun hy => ?_)
      · dsimp only [Option.toList_some, Option.toList_none, List.cons_append, List.nil_append]
        refine J_if_eq_n hC (by decide) (tgt := 85) dX10_addKite_49 rfl (fun hf => absurd hf (by omega)) (fun _ => ?_)
        refine J_iload_n hC dX10_addKite_52 rfl rfl ?_
        refine J_iconst (v := nI 1) hC dX10_addKite_53 (by decide) ?_
        refine J_bipush (v := nI 60) hC dX10_addKite_54 (by decide) ?_
        refine iX10_75 hC rfl ⟨by decide, by decide⟩ ⟨by decide, by decide⟩ (Nat.le_of_ble_eq_true rfl) dX10_addKite_56 ?_
        refine k_in (by decide) (by decide) (fun hl => ?_) (fun hl => ?_)
        · dsimp only [Option.toList_some, Option.toList_none, List.cons_append, List.nil_append]
          refine J_if_eq_n hC (by decide) (tgt := 85) dX10_addKite_59 rfl (fun hf => absurd hf (by omega)) (fun _ => ?_)
          refine J_iload hC dX10_addKite_62 rfl ?_
          refine J_iconst (v := nI 0) hC dX10_addKite_64 (by decide) ?_
          refine J_bipush (v := nI 9) hC dX10_addKite_65 (by decide) ?_
          refine iX10_75 hC rfl ⟨by decide, by decide⟩ ⟨by decide, by decide⟩ (Nat.le_of_ble_eq_true rfl) dX10_addKite_67 ?_
          refine k_in (by decide) (by decide) (fun hv => ?_) (fun hv => ?_)
          · dsimp only [Option.toList_some, Option.toList_none, List.cons_append, List.nil_append]
            refine J_if_eq_n hC (by decide) (tgt := 85) dX10_addKite_70 rfl (fun hf => absurd hf (by omega)) (fun _ => ?_)
            refine J_iload hC dX10_addKite_73 rfl ?_
            refine J_iconst (v := nI 0) hC dX10_addKite_75 (by decide) ?_
            refine J_sipush (v := nI 999) hC dX10_addKite_76 (by decide) ?_
            refine iX10_75 hC rfl ⟨by decide, by decide⟩ ⟨by decide, by decide⟩ (Nat.le_of_ble_eq_true rfl) dX10_addKite_79 ?_
            refine k_in (by decide) (by decide) (fun hp => ?_) (fun hp => ?_)
            · dsimp only [Option.toList_some, Option.toList_none, List.cons_append, List.nil_append]
              refine J_if_ne_n hC (by decide) (tgt := 91) dX10_addKite_82 rfl (fun _ => ?_) (fun hf => absurd hf (by omega))
              refine J_aload_n hC dX10_addKite_91 rfl rfl ?_
              refine gX10_7 hC hM dX10_addKite_92 ?_
              refine J_bipush (v := nI 6) hC dX10_addKite_95 (by decide) ?_
              refine J_iaload hC (hM.1 1 (by decide)) rfl rfl (by omega) (by decide) dX10_addKite_97 ?_
              have hNK := r_NK hI
              refine J_top (r_NK hI).1 ?_
              refine J_bipush (v := nI 16) hC dX10_addKite_98 (by decide) ?_
              refine J_icmp_ne_n hC (by omega) (by decide) (tgt := 109) dX10_addKite_100 rfl (fun hk => ?_) (fun hk => ?_)
              · have gk : nv (rd τ 13 1) 6 ≠ 16 := hk
                refine J_aload_n hC dX10_addKite_109 rfl rfl ?_
                refine iX10_320 hC hM rfl ⟨by decide, by decide⟩ ⟨by decide, by decide⟩ (Nat.le_of_ble_eq_true rfl) dX10_addKite_110 ?_
                refine c_X10_act hM hr ?_
                dsimp only [Option.toList_some, Option.toList_none, List.cons_append, List.nil_append]
                refine J_aload_n hC dX10_addKite_113 rfl rfl ?_
                refine J_iload_n hC dX10_addKite_114 rfl rfl ?_
                refine J_iload_n hC dX10_addKite_115 rfl rfl ?_
                refine J_iload_n hC dX10_addKite_116 rfl rfl ?_
                refine J_iload hC dX10_addKite_117 rfl ?_
                refine J_iload hC dX10_addKite_119 rfl ?_
                refine J_iload hC dX10_addKite_121 rfl ?_
                refine iX10_58 hC hM rfl ⟨by decide, by decide⟩ ⟨by decide, by decide⟩ (Nat.le_of_ble_eq_true rfl) dX10_addKite_123 ?_
                refine c_X10_kite hM (by rw [rd_act1]; exact hNK.1) (by rw [rd_act1]; omega) ?_
                dsimp only [Option.toList_some, Option.toList_none, List.cons_append, List.nil_append]
                rw [rd_act1]
                refine J_ireturn hC hR dX10_addKite_126 (by decide) (by decide) ?_
                unfold aAK at hq0
                rw [chk_t hc, chk_t hx, chk_t hy, chk_t hl, chk_t hv, chk_t hp, chk_t gk] at hq0
                have q := hq0 rfl
                dsimp only at q
                rw [hτ] at q
                exact q
              · have gk : ¬ nv (rd τ 13 1) 6 ≠ 16 := fun q => q hk
                refine J_aload_n hC dX10_addKite_103 rfl rfl ?_
                refine J_iconst (v := nI 3) hC dX10_addKite_104 (by decide) ?_
                refine iX10_308 hC hM rfl ⟨by decide, by decide⟩ ⟨by decide, by decide⟩ (Nat.le_of_ble_eq_true rfl) dX10_addKite_105 ?_
                refine c_X10_fail hM ?_
                dsimp only [Option.toList_some, Option.toList_none, List.cons_append, List.nil_append]
                refine J_ireturn hC hR dX10_addKite_108 (by decide) (by decide) ?_
                unfold aAK at hq1
                rw [chk_t hc, chk_t hx, chk_t hy, chk_t hl, chk_t hv, chk_t hp, chk_f gk] at hq1
                rw [h9]
                exact hq1 _ (by decide) rfl
            · dsimp only [Option.toList_some, Option.toList_none, List.cons_append, List.nil_append]
              refine J_if_ne_n hC (by decide) (tgt := 91) dX10_addKite_82 rfl (fun hf => absurd hf (by omega)) (fun _ => ?_)
              refine J_aload_n hC dX10_addKite_85 rfl rfl ?_
              refine J_iconst (v := nI 2) hC dX10_addKite_86 (by decide) ?_
              refine iX10_308 hC hM rfl ⟨by decide, by decide⟩ ⟨by decide, by decide⟩ (Nat.le_of_ble_eq_true rfl) dX10_addKite_87 ?_
              refine c_X10_fail hM ?_
              dsimp only [Option.toList_some, Option.toList_none, List.cons_append, List.nil_append]
              refine J_ireturn hC hR dX10_addKite_90 (by decide) (by decide) ?_
              unfold aAK at hq1
              rw [chk_t hc, chk_t hx, chk_t hy, chk_t hl, chk_t hv, chk_f hp] at hq1
              rw [h9]
              exact hq1 _ (by decide) rfl
          · dsimp only [Option.toList_some, Option.toList_none, List.cons_append, List.nil_append]
            refine J_if_eq_n hC (by decide) (tgt := 85) dX10_addKite_70 rfl (fun _ => ?_) (fun hf => absurd hf (by omega))
            refine J_aload_n hC dX10_addKite_85 rfl rfl ?_
            refine J_iconst (v := nI 2) hC dX10_addKite_86 (by decide) ?_
            refine iX10_308 hC hM rfl ⟨by decide, by decide⟩ ⟨by decide, by decide⟩ (Nat.le_of_ble_eq_true rfl) dX10_addKite_87 ?_
            refine c_X10_fail hM ?_
            dsimp only [Option.toList_some, Option.toList_none, List.cons_append, List.nil_append]
            refine J_ireturn hC hR dX10_addKite_90 (by decide) (by decide) ?_
            unfold aAK at hq1
            rw [chk_t hc, chk_t hx, chk_t hy, chk_t hl, chk_f hv] at hq1
            rw [h9]
            exact hq1 _ (by decide) rfl
        · dsimp only [Option.toList_some, Option.toList_none, List.cons_append, List.nil_append]
          refine J_if_eq_n hC (by decide) (tgt := 85) dX10_addKite_59 rfl (fun _ => ?_) (fun hf => absurd hf (by omega))
          refine J_aload_n hC dX10_addKite_85 rfl rfl ?_
          refine J_iconst (v := nI 2) hC dX10_addKite_86 (by decide) ?_
          refine iX10_308 hC hM rfl ⟨by decide, by decide⟩ ⟨by decide, by decide⟩ (Nat.le_of_ble_eq_true rfl) dX10_addKite_87 ?_
          refine c_X10_fail hM ?_
          dsimp only [Option.toList_some, Option.toList_none, List.cons_append, List.nil_append]
          refine J_ireturn hC hR dX10_addKite_90 (by decide) (by decide) ?_
          unfold aAK at hq1
          rw [chk_t hc, chk_t hx, chk_t hy, chk_f hl] at hq1
          rw [h9]
          exact hq1 _ (by decide) rfl
      · dsimp only [Option.toList_some, Option.toList_none, List.cons_append, List.nil_append]
        refine J_if_eq_n hC (by decide) (tgt := 85) dX10_addKite_49 rfl (fun _ => ?_) (fun hf => absurd hf (by omega))
        refine J_aload_n hC dX10_addKite_85 rfl rfl ?_
        refine J_iconst (v := nI 2) hC dX10_addKite_86 (by decide) ?_
        refine iX10_308 hC hM rfl ⟨by decide, by decide⟩ ⟨by decide, by decide⟩ (Nat.le_of_ble_eq_true rfl) dX10_addKite_87 ?_
        refine c_X10_fail hM ?_
        dsimp only [Option.toList_some, Option.toList_none, List.cons_append, List.nil_append]
        refine J_ireturn hC hR dX10_addKite_90 (by decide) (by decide) ?_
        unfold aAK at hq1
        rw [chk_t hc, chk_t hx, chk_f hy] at hq1
        rw [h9]
        exact hq1 _ (by decide) rfl
    · dsimp only [Option.toList_some, Option.toList_none, List.cons_append, List.nil_append]
      refine J_if_eq_n hC (by decide) (tgt := 85) dX10_addKite_33 rfl (fun _ => ?_) (fun hf => absurd hf (by omega))
      refine J_aload_n hC dX10_addKite_85 rfl rfl ?_
      refine J_iconst (v := nI 2) hC dX10_addKite_86 (by decide) ?_
      refine iX10_308 hC hM rfl ⟨by decide, by decide⟩ ⟨by decide, by decide⟩ (Nat.le_of_ble_eq_true rfl) dX10_addKite_87 ?_
      refine c_X10_fail hM ?_
      dsimp only [Option.toList_some, Option.toList_none, List.cons_append, List.nil_append]
      refine J_ireturn hC hR dX10_addKite_90 (by decide) (by decide) ?_
      unfold aAK at hq1
      rw [chk_t hc, chk_f hx] at hq1
      rw [h9]
      exact hq1 _ (by decide) rfl
  · dsimp only [Option.toList_some, Option.toList_none, List.cons_append, List.nil_append]
    refine J_if_ne_n hC (by decide) (tgt := 20) dX10_addKite_11 rfl (fun hf => absurd hf (by omega)) (fun _ => ?_)
    refine J_aload_n hC dX10_addKite_14 rfl rfl ?_
    refine J_iconst (v := nI 1) hC dX10_addKite_15 (by decide) ?_
    refine iX10_308 hC hM rfl ⟨by decide, by decide⟩ ⟨by decide, by decide⟩ (Nat.le_of_ble_eq_true rfl) dX10_addKite_16 ?_
    refine c_X10_fail hM ?_
    dsimp only [Option.toList_some, Option.toList_none, List.cons_append, List.nil_append]
    refine J_ireturn hC hR dX10_addKite_19 (by decide) (by decide) ?_
    unfold aAK at hq1
    rw [chk_f hc] at hq1
    rw [h9]
    exact hq1 _ (by decide) rfl
set_option maxHeartbeats 4000000 in
set_option maxRecDepth 100000 in
theorem c_X10_write {G : GC} {w : Lay} {σ : Mem} {Q : Lay → Option Value → Mem → Prop} {Qx : Lay → String → Mem → Prop} (hM : LM w) {n : Nat} (hn : n ≤ 999999) {S : Ob} (hO : S.2 + 6 ≤ 420) (hq : Q w none (setO σ (numB S n))) : MX10_write G w (setO σ S) [.ref (w.2.1 13 0), .int (nI n)] Q Qx := by
  refine mt_start (by decide) rfl (Nat.le_of_ble_eq_true rfl) (fun E hC hR hN => ?_)
  show J G E w 0 0 0 [some (.ref (w.2.1 13 0)), some (.int (nI n)), none] [] (setO σ S)
  have lp2 : ∀ (dd : Nat) (S1 : Ob) (f p : Nat), f < dd → (digF n f S1 p = numB S n) → ((p = 0 ∨ (p = 1 ∧ 2 ≤ f) ∨ (p = 10 ∧ 3 ≤ f) ∨ (p = 100 ∧ 4 ≤ f) ∨ (p = 1000 ∧ 5 ≤ f) ∨ (p = 10000 ∧ 6 ≤ f) ∨ (p = 100000 ∧ 7 ≤ f))) → (S1.2 + f ≤ S.2 + 7) →  J G E w 0 0 18 [some (.ref (w.2.1 13 0)), some (.int (nI n)), some (.int (nI p))] [] (setO σ S1) := by
    intro dd
    induction dd with
    | zero =>
      intro S1 f p hdd
      exact absurd hdd (Nat.not_lt_zero _)
    | succ dd ih =>
      intro S1 f p hdd hF hD hO
      refine J_iload_n hC dX10_write_18 rfl rfl ?_
      refine J_if_le_n hC (by omega) (tgt := 56) dX10_write_19 rfl (fun b1 => ?_) (fun b1 => ?_)
      · refine J_return hC hR dX10_write_56 (by decide) (by decide) ?_
        have e : p = 0 := by omega
        subst e
        rw [dig_0] at hF
        rw [← hF] at hq
        exact hq
      · refine J_aload_n hC dX10_write_22 rfl rfl ?_
        refine gX10_28 hC hM dX10_write_23 ?_
        refine J_aload_n hC dX10_write_26 rfl rfl ?_
        refine J_dup hC dX10_write_27 rfl ?_
        refine gX10_353 hC hM dX10_write_28 ?_
        refine J_top setO_rd0 ?_
        refine J_dup_x1 hC dX10_write_31 rfl rfl ?_
        refine J_iconst (v := nI 1) hC dX10_write_32 (by decide) ?_
        refine J_iadd_n hC dX10_write_33 ?_
        refine pX10_353 hC hM dX10_write_34 ?_
        refine J_bipush (v := nI 48) hC dX10_write_37 (by decide) ?_
        refine J_iload_n hC dX10_write_39 rfl rfl ?_
        refine J_iload_n hC dX10_write_40 rfl rfl ?_
        refine J_idiv_n hC (by omega) (by omega) (by omega) dX10_write_41 ?_
        refine J_bipush (v := nI 10) hC dX10_write_42 (by decide) ?_
        refine J_irem_n hC (by have := Nat.div_le_self n p; omega) (by decide) (by decide) dX10_write_44 ?_
        have hm := Nat.mod_lt (n / p) (show 0 < 10 by decide)
        refine J_iadd_n hC dX10_write_45 ?_
        refine J_i2b hC dX10_write_46 ?_
        refine J_bastore hC (hM.1 5 (by decide)) rfl rfl (by omega) (by decide) dX10_write_47 ?_
        rw [setO_putD (by omega)]
        refine J_iload_n hC dX10_write_48 rfl rfl ?_
        refine J_bipush (v := nI 10) hC dX10_write_49 (by decide) ?_
        refine J_idiv_n hC (by omega) (by decide) (by decide) dX10_write_51 ?_
        refine J_istore_n hC dX10_write_52 rfl (Nat.le_of_ble_eq_true rfl) rfl ?_
        dsimp only [List.set]
        refine J_goto (tgt := 18) hC dX10_write_53 rfl ?_
        obtain ⟨g, rfl⟩ : ∃ g, f = g + 1 := ⟨f - 1, by omega⟩
        exact ih (putB S1 (48 + n / p % 10)) g (p / 10) (by omega) (by rw [← hF, dig_s _ _ _ _ (by omega)]) (by omega) (by show S1.2 + 1 + g ≤ _; omega)
  have lp1 : ∀ (dd : Nat) (f p : Nat), f < dd → (powF n f p = powF n 7 1) → (((p = 1 ∧ f = 7) ∨ (p = 10 ∧ f = 6) ∨ (p = 100 ∧ f = 5) ∨ (p = 1000 ∧ f = 4) ∨ (p = 10000 ∧ f = 3) ∨ (p = 100000 ∧ f = 2) ∨ (p = 1000000 ∧ f = 1))) →  J G E w 0 0 2 [some (.ref (w.2.1 13 0)), some (.int (nI n)), some (.int (nI p))] [] (setO σ S) := by
    intro dd
    induction dd with
    | zero =>
      intro f p hdd
      exact absurd hdd (Nat.not_lt_zero _)
    | succ dd ih =>
      intro f p hdd hF hD
      refine J_iload_n hC dX10_write_2 rfl rfl ?_
      refine J_iload_n hC dX10_write_3 rfl rfl ?_
      refine J_idiv_n hC (by omega) (by omega) (by omega) dX10_write_4 ?_
      refine J_bipush (v := nI 9) hC dX10_write_5 (by decide) ?_
      refine J_icmp_le_n hC (by have := Nat.div_le_self n p; omega) (by decide) (tgt := 18) dX10_write_7 rfl (fun b1 => ?_) (fun b1 => ?_)
      · have e2 : powF n f p = p := pow_en (by omega)
        exact lp2 8 S 7 p (by omega) (by unfold numB; rw [← hF, e2]) (by have := pow_cases hn; rw [← hF, e2] at this; omega) (by omega)
      · refine J_iload_n hC dX10_write_10 rfl rfl ?_
        refine J_bipush (v := nI 10) hC dX10_write_11 (by decide) ?_
        refine J_imul_n hC dX10_write_13 ?_
        refine J_istore_n hC dX10_write_14 rfl (Nat.le_of_ble_eq_true rfl) rfl ?_
        dsimp only [List.set]
        refine J_goto (tgt := 2) hC dX10_write_15 rfl ?_
        have hp9 := div9 (by omega) b1
        obtain ⟨g, rfl⟩ : ∃ g, f = g + 1 := ⟨f - 1, by omega⟩
        exact ih g (p * 10) (by omega) (by rw [← hF, pow_st b1]) (by omega)
  refine J_iconst (v := nI 1) hC dX10_write_0 (by decide) ?_
  refine J_istore_n hC dX10_write_1 rfl (Nat.le_of_ble_eq_true rfl) rfl ?_
  dsimp only [List.set]
  exact lp1 8 7 1 (by omega) rfl (by omega)
set_option maxHeartbeats 4000000 in
set_option maxRecDepth 100000 in
theorem c_X10_writePermits {G : GC} {w : Lay} {σ : Mem} {Q : Lay → Option Value → Mem → Prop} {Qx : Lay → String → Mem → Prop} {hm : Nat} (hM : LM w) (hI : RowOK hm (rd σ 13 1)) (hq : Q w (some (.int (nI (wpF (rd σ 13 1) (rd σ 13 5, 0) (nv (rd σ 13 1) 11)).2))) (setO (thr σ 0) (wpF (rd σ 13 1) (rd σ 13 5, 0) (nv (rd σ 13 1) 11)))) : MX10_writePermits G w σ [.ref (w.2.1 13 0)] Q Qx := by
  refine mt_start (by decide) rfl (Nat.le_of_ble_eq_true rfl) (fun E hC hR hN => ?_)
  show J G E w 0 0 0 [some (.ref (w.2.1 13 0)), none] [] σ
  refine J_aload_n hC dX10_writePermits_0 rfl rfl ?_
  refine J_iconst (v := nI 0) hC dX10_writePermits_1 (by decide) ?_
  refine pX10_62 hC hM dX10_writePermits_2 ?_
  have hA5 : rd (thr σ 0) 13 5 = rd σ 13 5 := rd_wr_cell (by decide)
  obtain ⟨τ, hτ, hA⟩ : ∃ τ, thr σ 0 = τ ∧ rd σ 13 1 = rd τ 13 1 := ⟨_, rfl, rd_thr1.symm⟩
  have h9 : ∀ c, thr τ c = thr σ c := fun c => by rw [← hτ]; exact thr_thr
  rw [hA] at hI hq
  show J G E w 0 0 5 _ _ (thr σ 0)
  rw [hτ]
  rw [hτ] at hA5
  rw [← hA5] at hq
  refine J_aload_n hC dX10_writePermits_5 rfl rfl ?_
  refine J_iconst (v := nI 0) hC dX10_writePermits_6 (by decide) ?_
  refine pX10_353 hC hM dX10_writePermits_7 ?_
  have lp : ∀ (dd : Nat) (k : Nat), nv (rd τ 13 1) 11 - k < dd → (k ≤ nv (rd τ 13 1) 11) →  J G E w 0 0 12 [some (.ref (w.2.1 13 0)), some (.int (nI k))] [] (setO τ (wpF (rd τ 13 1) (rd τ 13 5, 0) k)) := by
    intro dd
    induction dd with
    | zero =>
      intro k hdd
      exact absurd hdd (Nat.not_lt_zero _)
    | succ dd ih =>
      intro k hdd hk
      have hNP := r_NP hI
      have hlen : (wpF (rd τ 13 1) (rd τ 13 5, 0) k).2 ≤ (rd τ 13 5, 0).2 + 13 * k := wpF_len hI _ k hk
      have hl0 : ((rd τ 13 5, 0) : Ob).2 = 0 := rfl
      have j45 : (k < nv (rd τ 13 1) 11) →  J G E w 0 0 45 [some (.ref (w.2.1 13 0)), some (.int (nI k))] [] (setO τ (if 0 < k then putB (wpF (rd τ 13 1) (rd τ 13 5, 0) k) 32 else (wpF (rd τ 13 1) (rd τ 13 5, 0) k))) := by
        intro  bk
        have p1 := (r_PK hI bk).2
        have p2 := (r_NK hI).2
        have p3 := r_PS hI bk
        have p4 := r_PD hI bk
        have hz : (if 0 < k then putB (wpF (rd τ 13 1) (rd τ 13 5, 0) k) 32 else (wpF (rd τ 13 1) (rd τ 13 5, 0) k)).2 ≤ (wpF (rd τ 13 1) (rd τ 13 5, 0) k).2 + 1 := by
          split
          · exact Nat.le_refl _
          · exact Nat.le_succ _
        refine J_aload_n hC dX10_writePermits_45 rfl rfl ?_
        refine J_aload_n hC dX10_writePermits_46 rfl rfl ?_
        refine gX10_7 hC hM dX10_writePermits_47 ?_
        refine J_sipush (v := nI 214) hC dX10_writePermits_50 (by decide) ?_
        refine J_iconst (v := nI 3) hC dX10_writePermits_53 (by decide) ?_
        refine J_iload_n hC dX10_writePermits_54 rfl rfl ?_
        refine J_imul_n hC dX10_writePermits_55 ?_
        refine J_iadd_n hC dX10_writePermits_56 ?_
        refine J_iaload hC (hM.1 1 (by decide)) rfl rfl (by omega) (by decide) dX10_writePermits_57 ?_
        refine J_top (show _ = nI (nv (rd τ 13 1) (214 + 3 * k)) from by rw [setO_row]; exact (r_PK hI bk).1) ?_
        refine iX10_356 hC hM rfl ⟨by decide, by decide⟩ ⟨by decide, by decide⟩ (Nat.le_of_ble_eq_true rfl) dX10_writePermits_58 ?_
        refine c_X10_write hM (by omega) (by omega) ?_
        dsimp only [Option.toList_some, Option.toList_none, List.cons_append, List.nil_append]
        have n1 := num_len (n := nv (rd τ 13 1) (214 + 3 * k)) (by omega) (if 0 < k then putB (wpF (rd τ 13 1) (rd τ 13 5, 0) k) 32 else (wpF (rd τ 13 1) (rd τ 13 5, 0) k))
        refine J_aload_n hC dX10_writePermits_61 rfl rfl ?_
        refine gX10_28 hC hM dX10_writePermits_62 ?_
        refine J_aload_n hC dX10_writePermits_65 rfl rfl ?_
        refine J_dup hC dX10_writePermits_66 rfl ?_
        refine gX10_353 hC hM dX10_writePermits_67 ?_
        refine J_top setO_rd0 ?_
        refine J_dup_x1 hC dX10_writePermits_70 rfl rfl ?_
        refine J_iconst (v := nI 1) hC dX10_writePermits_71 (by decide) ?_
        refine J_iadd_n hC dX10_writePermits_72 ?_
        refine pX10_353 hC hM dX10_writePermits_73 ?_
        refine J_bipush (v := nI 58) hC dX10_writePermits_76 (by decide) ?_
        refine J_bastore hC (hM.1 5 (by decide)) rfl rfl (by omega) (by decide) dX10_writePermits_78 ?_
        rw [setO_putC (by decide)]
        refine J_aload_n hC dX10_writePermits_79 rfl rfl ?_
        refine J_aload_n hC dX10_writePermits_80 rfl rfl ?_
        refine gX10_7 hC hM dX10_writePermits_81 ?_
        refine J_sipush (v := nI 214) hC dX10_writePermits_84 (by decide) ?_
        refine J_iconst (v := nI 3) hC dX10_writePermits_87 (by decide) ?_
        refine J_iload_n hC dX10_writePermits_88 rfl rfl ?_
        refine J_imul_n hC dX10_writePermits_89 ?_
        refine J_iadd_n hC dX10_writePermits_90 ?_
        refine J_iconst (v := nI 1) hC dX10_writePermits_91 (by decide) ?_
        refine J_iadd_n hC dX10_writePermits_92 ?_
        refine J_iaload hC (hM.1 1 (by decide)) rfl rfl (by omega) (by decide) dX10_writePermits_93 ?_
        refine J_top (show _ = nI (nv (rd τ 13 1) (214 + 3 * k + 1)) from by rw [setO_row]; exact (r_PS hI bk).1) ?_
        refine iX10_356 hC hM rfl ⟨by decide, by decide⟩ ⟨by decide, by decide⟩ (Nat.le_of_ble_eq_true rfl) dX10_writePermits_94 ?_
        refine c_X10_write hM (by omega) (by show _ + 1 + 6 ≤ 420; omega) ?_
        dsimp only [Option.toList_some, Option.toList_none, List.cons_append, List.nil_append]
        have n2 := num_len (n := nv (rd τ 13 1) (214 + 3 * k + 1)) (by omega) (putB (numB (if 0 < k then putB (wpF (rd τ 13 1) (rd τ 13 5, 0) k) 32 else (wpF (rd τ 13 1) (rd τ 13 5, 0) k)) (nv (rd τ 13 1) (214 + 3 * k))) 58)
        have n3 : (putB (numB (if 0 < k then putB (wpF (rd τ 13 1) (rd τ 13 5, 0) k) 32 else (wpF (rd τ 13 1) (rd τ 13 5, 0) k)) (nv (rd τ 13 1) (214 + 3 * k))) 58).2 = (numB (if 0 < k then putB (wpF (rd τ 13 1) (rd τ 13 5, 0) k) 32 else (wpF (rd τ 13 1) (rd τ 13 5, 0) k)) (nv (rd τ 13 1) (214 + 3 * k))).2 + 1 := rfl
        refine J_aload_n hC dX10_writePermits_97 rfl rfl ?_
        refine gX10_28 hC hM dX10_writePermits_98 ?_
        refine J_aload_n hC dX10_writePermits_101 rfl rfl ?_
        refine J_dup hC dX10_writePermits_102 rfl ?_
        refine gX10_353 hC hM dX10_writePermits_103 ?_
        refine J_top setO_rd0 ?_
        refine J_dup_x1 hC dX10_writePermits_106 rfl rfl ?_
        refine J_iconst (v := nI 1) hC dX10_writePermits_107 (by decide) ?_
        refine J_iadd_n hC dX10_writePermits_108 ?_
        refine pX10_353 hC hM dX10_writePermits_109 ?_
        refine J_bipush (v := nI 43) hC dX10_writePermits_112 (by decide) ?_
        refine J_bastore hC (hM.1 5 (by decide)) rfl rfl (by omega) (by decide) dX10_writePermits_114 ?_
        rw [setO_putC (by decide)]
        refine J_aload_n hC dX10_writePermits_115 rfl rfl ?_
        refine J_aload_n hC dX10_writePermits_116 rfl rfl ?_
        refine gX10_7 hC hM dX10_writePermits_117 ?_
        refine J_sipush (v := nI 214) hC dX10_writePermits_120 (by decide) ?_
        refine J_iconst (v := nI 3) hC dX10_writePermits_123 (by decide) ?_
        refine J_iload_n hC dX10_writePermits_124 rfl rfl ?_
        refine J_imul_n hC dX10_writePermits_125 ?_
        refine J_iadd_n hC dX10_writePermits_126 ?_
        refine J_iconst (v := nI 2) hC dX10_writePermits_127 (by decide) ?_
        refine J_iadd_n hC dX10_writePermits_128 ?_
        refine J_iaload hC (hM.1 1 (by decide)) rfl rfl (by omega) (by decide) dX10_writePermits_129 ?_
        refine J_top (show _ = nI (nv (rd τ 13 1) (214 + 3 * k + 2)) from by rw [setO_row]; exact (r_PD hI bk).1) ?_
        refine iX10_356 hC hM rfl ⟨by decide, by decide⟩ ⟨by decide, by decide⟩ (Nat.le_of_ble_eq_true rfl) dX10_writePermits_130 ?_
        refine c_X10_write hM (by omega) (by have n3 : (putB (numB (if 0 < k then putB (wpF (rd τ 13 1) (rd τ 13 5, 0) k) 32 else (wpF (rd τ 13 1) (rd τ 13 5, 0) k)) (nv (rd τ 13 1) (214 + 3 * k))) 58).2 = (numB (if 0 < k then putB (wpF (rd τ 13 1) (rd τ 13 5, 0) k) 32 else (wpF (rd τ 13 1) (rd τ 13 5, 0) k)) (nv (rd τ 13 1) (214 + 3 * k))).2 + 1 := rfl; show _ + 1 + 6 ≤ 420; omega) ?_
        dsimp only [Option.toList_some, Option.toList_none, List.cons_append, List.nil_append]
        refine J_iinc_n (m := 1) hC (by decide) dX10_writePermits_133 rfl (Nat.le_of_ble_eq_true rfl) rfl ?_
        dsimp only [List.set]
        refine J_goto (tgt := 12) hC dX10_writePermits_136 rfl ?_
        exact ih (k + 1) (by omega) (by omega)
      refine J_iload_n hC dX10_writePermits_12 rfl rfl ?_
      refine J_aload_n hC dX10_writePermits_13 rfl rfl ?_
      refine gX10_7 hC hM dX10_writePermits_14 ?_
      refine J_bipush (v := nI 11) hC dX10_writePermits_17 (by decide) ?_
      refine J_iaload hC (hM.1 1 (by decide)) rfl rfl (by omega) (by decide) dX10_writePermits_19 ?_
      refine J_top (show _ = nI (nv (rd τ 13 1) 11) from by rw [setO_row]; exact (r_NP hI).1) ?_
      refine J_icmp_ge_n hC (by omega) (by omega) (tgt := 139) dX10_writePermits_20 rfl (fun bk => ?_) (fun bk => ?_)
      · refine J_aload_n hC dX10_writePermits_139 rfl rfl ?_
        refine gX10_353 hC hM dX10_writePermits_140 ?_
        refine J_top setO_rd0 ?_
        refine J_ireturn hC hR dX10_writePermits_143 (by decide) (by decide) ?_
        have e : k = nv (rd τ 13 1) 11 := by omega
        subst e
        rw [hτ] at hq
        exact hq
      · refine J_iload_n hC dX10_writePermits_23 rfl rfl ?_
        refine J_if_le_n hC (by omega) (tgt := 45) dX10_writePermits_24 rfl (fun b0 => ?_) (fun b0 => ?_)
        · refine J_cong (j45 bk) (h4 := by first | rw [if_pos (show 0 < k by omega)] | rw [if_neg (show ¬ 0 < k by omega)])
        · refine J_aload_n hC dX10_writePermits_27 rfl rfl ?_
          refine gX10_28 hC hM dX10_writePermits_28 ?_
          refine J_aload_n hC dX10_writePermits_31 rfl rfl ?_
          refine J_dup hC dX10_writePermits_32 rfl ?_
          refine gX10_353 hC hM dX10_writePermits_33 ?_
          refine J_top setO_rd0 ?_
          refine J_dup_x1 hC dX10_writePermits_36 rfl rfl ?_
          refine J_iconst (v := nI 1) hC dX10_writePermits_37 (by decide) ?_
          refine J_iadd_n hC dX10_writePermits_38 ?_
          refine pX10_353 hC hM dX10_writePermits_39 ?_
          refine J_bipush (v := nI 32) hC dX10_writePermits_42 (by decide) ?_
          refine J_bastore hC (hM.1 5 (by decide)) rfl rfl (by omega) (by decide) dX10_writePermits_44 ?_
          rw [setO_putC (by decide)]
          refine J_cong (j45 bk) (h4 := by first | rw [if_pos (show 0 < k by omega)] | rw [if_neg (show ¬ 0 < k by omega)])
  refine J_iconst (v := nI 0) hC dX10_writePermits_10 (by decide) ?_
  refine J_istore_n hC dX10_writePermits_11 rfl (Nat.le_of_ble_eq_true rfl) rfl ?_
  dsimp only [List.set]
  exact J_cong (lp (nv (rd τ 13 1) 11 + 1) 0 (by omega) (by omega)) (h4 := by show wr τ 13 0 11 (nI 0) = wr (wrC τ 13 5 (rd τ 13 5)) 13 0 11 (nI 0); rw [wrC_id])
