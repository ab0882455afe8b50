/-! ===== p65: the law's check of the whole office ===== -/
theorem pcr_0 {hm : Nat} {A : Nat → Int32} (hI : RowOK hm A) (hP : PermI (nv A 7) A) : pcr A = 0 := by
  unfold pcr
  refine sumN_zero (fun k hk => sumN_zero (fun j hj => ?_))
  by_cases e : nv A (214 + 3 * k) = nv A (214 + 3 * (k + 1 + j))
  · exact crs_eq e
  · rw [crs_ne e]
    refine cnt_zero (fun i hi hc => ?_)
    obtain ⟨c1, c2⟩ := hc
    have h1 : nv A 7 ≤ crsB A k := Nat.le_max_left _ _
    have h2 : nv A (214 + 3 * k + 1) ≤ crsB A k := Nat.le_max_right _ _
    have h3 : crsE A k = nv A (214 + 3 * k + 1) + nv A (214 + 3 * k + 2) := rfl
    exact (hP.2.1 k (k + 1 + j) (by omega) (by omega) _ (by omega) ⟨by omega, by omega⟩ c1).2 (crossN_symm c2)
set_option maxHeartbeats 4000000 in
set_option maxRecDepth 100000 in
theorem c_L_whole {G : GC} {w : Lay} {σ : Mem} {Q : Lay → Option Value → Mem → Prop} {Qx : Lay → String → Mem → Prop} (hW : LAY5 w) {A : Nat → Int32} {c hm px u : Nat} (hS : LSt σ c hm A px u) (hc : c < 2 ^ 29) (hh : hm ≤ 1000) (hq : Q w (some (.int (nI 1))) σ) : ML_whole G w σ [.ref (w.2.1 12 0)] Q Qx := by
  refine mt_start (by decide) rfl (Nat.le_of_ble_eq_true rfl) (fun E hC hR hN => ?_)
  show J G E w 0 0 0 [some (.ref (w.2.1 12 0)), none, none, none, none, none, none, none, none, none, none] [] σ
  have hK := hW.1
  have hL0 := hW.2 0 (by decide)
  obtain ⟨hO, hV, hpx, hu, hn9, hc9, hz⟩ := id hS
  obtain ⟨hI, hX, hCo, hT, hF, hP, hE⟩ := hV
  have h6 := r_NK hI
  have h7 := r_HOUR hI
  have h11 := r_NP hI
  have ph2 : J G E w 0 0 227 [some (.ref (w.2.1 12 0)), some (.int (nI (nv A 7))), none, none, none, none, none, none, none, none, none] [] σ := by
    refine J_iconst (v := nI 0) hC dL_whole_227 (by decide) ?_
    refine J_istore_n hC dL_whole_228 rfl (Nat.le_of_ble_eq_true rfl) rfl ?_
    dsimp only [List.set]
    have lp4 : ∀ (dd : Nat) (k : Nat), nv A 6 - k < dd → (k ≤ nv A 6) →  J G E w 0 0 229 [some (.ref (w.2.1 12 0)), some (.int (nI (nv A 7))), none, some (.int (nI (k))), none, none, none, none, none, none, none] [] σ := by
      intro dd
      induction dd with
      | zero =>
        intro k hdd
        exact absurd hdd (Nat.not_lt_zero _)
      | succ dd ih =>
        intro k hdd hk6
        refine J_iload_n hC dL_whole_229 rfl rfl ?_
        refine J_aload_n hC dL_whole_230 rfl rfl ?_
        refine jL_80 hC hK rfl ⟨by decide, by decide⟩ ⟨by decide, by decide⟩ (Nat.le_of_ble_eq_true rfl) dL_whole_231 ?_
        refine c_X9_kiteCount hK hL0 hO hI  ?_
        dsimp only [Option.toList_some, Option.toList_none, List.cons_append, List.nil_append]
        refine J_top (r_NK hI).1 ?_
        refine J_icmp_ge_n hC (by omega) (by omega) (tgt := 288) dL_whole_234 rfl (fun k1 => ?_) (fun k1 => ?_)
        · refine J_aload_n hC dL_whole_288 rfl rfl ?_
          refine jL_92 hC hK rfl ⟨by decide, by decide⟩ ⟨by decide, by decide⟩ (Nat.le_of_ble_eq_true rfl) dL_whole_289 ?_
          refine c_X9_coinError hK hL0 hO hI  ?_
          dsimp only [Option.toList_some, Option.toList_none, List.cons_append, List.nil_append]
          refine J_top ((coinE_0 hCo).trans nI_0.symm) ?_
          refine J_if_ne_n hC (by decide) (tgt := 306) dL_whole_292 rfl (fun hf => absurd hf (by omega)) (fun _ => ?_)
          refine J_aload_n hC dL_whole_295 rfl rfl ?_
          refine jL_95 hC hK rfl ⟨by decide, by decide⟩ ⟨by decide, by decide⟩ (Nat.le_of_ble_eq_true rfl) dL_whole_296 ?_
          refine c_X9_permittedCrossings hK hL0 hO hI (by omega) ?_
          dsimp only [Option.toList_some, Option.toList_none, List.cons_append, List.nil_append]
          refine J_top (congrArg nI (pcr_0 hI hP)) ?_
          refine J_if_ne_n hC (by decide) (tgt := 306) dL_whole_299 rfl (fun hf => absurd hf (by omega)) (fun _ => ?_)
          refine J_iconst (v := nI 1) hC dL_whole_302 (by decide) ?_
          refine J_goto (tgt := 307) hC dL_whole_303 rfl ?_
          refine J_zreturn hC hR dL_whole_307 (by decide) (by decide) (by decide) ?_
          exact hq
        · have hpu := coin_purse hCo k1
          have hta := (hT k k1).2
          have hst := r_KS hI k1
          refine J_aload_n hC dL_whole_237 rfl rfl ?_
          refine J_iload_n hC dL_whole_238 rfl rfl ?_
          refine jL_83 hC hK rfl ⟨by decide, by decide⟩ ⟨by decide, by decide⟩ (Nat.le_of_ble_eq_true rfl) dL_whole_239 ?_
          refine c1_X9_purse hK hL0 hO hI k1 ?_
          dsimp only [Option.toList_some, Option.toList_none, List.cons_append, List.nil_append]
          refine J_top (hCo.1 k k1) ?_
          refine J_if_lt_n hC (by omega) (tgt := 280) dL_whole_242 rfl (fun k2 => ?_) (fun k2 => ?_)
          · exact absurd k2 (by omega)
          · refine J_aload_n hC dL_whole_245 rfl rfl ?_
            refine J_iload_n hC dL_whole_246 rfl rfl ?_
            refine jL_86 hC hK rfl ⟨by decide, by decide⟩ ⟨by decide, by decide⟩ (Nat.le_of_ble_eq_true rfl) dL_whole_247 ?_
            refine c1_X9_stateOf hK hL0 hO hI k1 ?_
            dsimp only [Option.toList_some, Option.toList_none, List.cons_append, List.nil_append]
            refine J_iconst (v := nI 1) hC dL_whole_250 (by decide) ?_
            refine J_icmp_ne_n hC (by omega) (by decide) (tgt := 263) dL_whole_251 rfl (fun k3 => ?_) (fun k3 => ?_)
            · refine J_aload_n hC dL_whole_263 rfl rfl ?_
              refine J_iload_n hC dL_whole_264 rfl rfl ?_
              refine jL_86 hC hK rfl ⟨by decide, by decide⟩ ⟨by decide, by decide⟩ (Nat.le_of_ble_eq_true rfl) dL_whole_265 ?_
              refine c1_X9_stateOf hK hL0 hO hI k1 ?_
              dsimp only [Option.toList_some, Option.toList_none, List.cons_append, List.nil_append]
              refine J_iconst (v := nI 2) hC dL_whole_268 (by decide) ?_
              refine J_icmp_ne_n hC (by omega) (by decide) (tgt := 282) dL_whole_269 rfl (fun k4 => ?_) (fun k4 => ?_)
              · refine J_iinc_n (m := 1) hC (by decide) dL_whole_282 rfl (Nat.le_of_ble_eq_true rfl) rfl ?_
                dsimp only [List.set]
                refine J_goto (tgt := 229) hC dL_whole_285 rfl ?_
                refine J_less (ls' := [some (.ref (w.2.1 12 0)), some (.int (nI (nv A 7))), none, some (.int (nI (k + 1))), none, none, none, none, none, none, none]) ⟨Or.inr rfl, Or.inr rfl, Or.inl rfl, Or.inr rfl, Or.inl rfl, Or.inl rfl, Or.inl rfl, Or.inl rfl, Or.inl rfl, Or.inl rfl, Or.inl rfl, trivial⟩ ?_
                exact ih (k + 1) (by omega) (by omega)
              · refine J_aload_n hC dL_whole_272 rfl rfl ?_
                refine J_iload_n hC dL_whole_273 rfl rfl ?_
                refine jL_89 hC hK rfl ⟨by decide, by decide⟩ ⟨by decide, by decide⟩ (Nat.le_of_ble_eq_true rfl) dL_whole_274 ?_
                refine c1_X9_tangles hK hL0 hO hI k1 ?_
                dsimp only [Option.toList_some, Option.toList_none, List.cons_append, List.nil_append]
                refine J_top (hT k k1).1 ?_
                refine J_if_ne_n hC (by omega) (tgt := 282) dL_whole_277 rfl (fun k5 => ?_) (fun k5 => ?_)
                · refine J_iinc_n (m := 1) hC (by decide) dL_whole_282 rfl (Nat.le_of_ble_eq_true rfl) rfl ?_
                  dsimp only [List.set]
                  refine J_goto (tgt := 229) hC dL_whole_285 rfl ?_
                  refine J_less (ls' := [some (.ref (w.2.1 12 0)), some (.int (nI (nv A 7))), none, some (.int (nI (k + 1))), none, none, none, none, none, none, none]) ⟨Or.inr rfl, Or.inr rfl, Or.inl rfl, Or.inr rfl, Or.inl rfl, Or.inl rfl, Or.inl rfl, Or.inl rfl, Or.inl rfl, Or.inl rfl, Or.inl rfl, trivial⟩ ?_
                  exact ih (k + 1) (by omega) (by omega)
                · exact absurd k5 (by have := (hF k k1).2 k4; omega)
            · refine J_aload_n hC dL_whole_254 rfl rfl ?_
              refine J_iload_n hC dL_whole_255 rfl rfl ?_
              refine J_iload_n hC dL_whole_256 rfl rfl ?_
              refine jL_64 hC hK rfl ⟨by decide, by decide⟩ ⟨by decide, by decide⟩ (Nat.le_of_ble_eq_true rfl) dL_whole_257 ?_
              refine c1_X9_canFly hK hL0 hO hI k1 (by omega) ?_
              dsimp only [Option.toList_some, Option.toList_none, List.cons_append, List.nil_append]
              refine J_top (congrArg nI (ct_t ((hF k k1).1 k3))) ?_
              refine J_if_eq_n hC (by decide) (tgt := 280) dL_whole_260 rfl (fun hf => absurd hf (by omega)) (fun _ => ?_)
              refine J_aload_n hC dL_whole_263 rfl rfl ?_
              refine J_iload_n hC dL_whole_264 rfl rfl ?_
              refine jL_86 hC hK rfl ⟨by decide, by decide⟩ ⟨by decide, by decide⟩ (Nat.le_of_ble_eq_true rfl) dL_whole_265 ?_
              refine c1_X9_stateOf hK hL0 hO hI k1 ?_
              dsimp only [Option.toList_some, Option.toList_none, List.cons_append, List.nil_append]
              refine J_iconst (v := nI 2) hC dL_whole_268 (by decide) ?_
              refine J_icmp_ne_n hC (by omega) (by decide) (tgt := 282) dL_whole_269 rfl (fun k4 => ?_) (fun k4 => ?_)
              · refine J_iinc_n (m := 1) hC (by decide) dL_whole_282 rfl (Nat.le_of_ble_eq_true rfl) rfl ?_
                dsimp only [List.set]
                refine J_goto (tgt := 229) hC dL_whole_285 rfl ?_
                refine J_less (ls' := [some (.ref (w.2.1 12 0)), some (.int (nI (nv A 7))), none, some (.int (nI (k + 1))), none, none, none, none, none, none, none]) ⟨Or.inr rfl, Or.inr rfl, Or.inl rfl, Or.inr rfl, Or.inl rfl, Or.inl rfl, Or.inl rfl, Or.inl rfl, Or.inl rfl, Or.inl rfl, Or.inl rfl, trivial⟩ ?_
                exact ih (k + 1) (by omega) (by omega)
              · refine J_aload_n hC dL_whole_272 rfl rfl ?_
                refine J_iload_n hC dL_whole_273 rfl rfl ?_
                refine jL_89 hC hK rfl ⟨by decide, by decide⟩ ⟨by decide, by decide⟩ (Nat.le_of_ble_eq_true rfl) dL_whole_274 ?_
                refine c1_X9_tangles hK hL0 hO hI k1 ?_
                dsimp only [Option.toList_some, Option.toList_none, List.cons_append, List.nil_append]
                refine J_top (hT k k1).1 ?_
                refine J_if_ne_n hC (by omega) (tgt := 282) dL_whole_277 rfl (fun k5 => ?_) (fun k5 => ?_)
                · refine J_iinc_n (m := 1) hC (by decide) dL_whole_282 rfl (Nat.le_of_ble_eq_true rfl) rfl ?_
                  dsimp only [List.set]
                  refine J_goto (tgt := 229) hC dL_whole_285 rfl ?_
                  refine J_less (ls' := [some (.ref (w.2.1 12 0)), some (.int (nI (nv A 7))), none, some (.int (nI (k + 1))), none, none, none, none, none, none, none]) ⟨Or.inr rfl, Or.inr rfl, Or.inl rfl, Or.inr rfl, Or.inl rfl, Or.inl rfl, Or.inl rfl, Or.inl rfl, Or.inl rfl, Or.inl rfl, Or.inl rfl, trivial⟩ ?_
                  exact ih (k + 1) (by omega) (by omega)
                · exact absurd k5 (by have := (hF k k1).2 k4; omega)
    exact lp4 (nv A 6 + 1) 0 (by omega) (by omega)
  have lp1 : ∀ (dd : Nat) (k : Nat), nv A 11 - k < dd → (k ≤ nv A 11) →  J G E w 0 0 12 [some (.ref (w.2.1 12 0)), some (.int (nI (nv A 7))), some (.int (nI (nv A 11))), some (.int (nI (k))), none, none, none, none, none, none, none] [] σ := by
    intro dd
    induction dd with
    | zero =>
      intro k hdd
      exact absurd hdd (Nat.not_lt_zero _)
    | succ dd ih =>
      intro k hdd hk0
      have ih1 := ih
      refine J_iload_n hC dL_whole_12 rfl rfl ?_
      refine J_iload_n hC dL_whole_13 rfl rfl ?_
      refine J_icmp_ge_n hC (by omega) (by omega) (tgt := 227) dL_whole_14 rfl (fun hk => ?_) (fun hk => ?_)
      · refine J_less (ls' := [some (.ref (w.2.1 12 0)), some (.int (nI (nv A 7))), none, none, none, none, none, none, none, none, none]) ⟨Or.inr rfl, Or.inr rfl, Or.inl rfl, Or.inl rfl, Or.inl rfl, Or.inl rfl, Or.inl rfl, Or.inl rfl, Or.inl rfl, Or.inl rfl, Or.inl rfl, trivial⟩ ?_
        exact ph2
      · have kE := hE k hk
        have kD := r_PD hI hk
        have kK := r_PK hI hk
        have kS := r_PS hI hk
        refine J_aload_n hC dL_whole_17 rfl rfl ?_
        refine J_iload_n hC dL_whole_18 rfl rfl ?_
        refine jL_46 hC hK rfl ⟨by decide, by decide⟩ ⟨by decide, by decide⟩ (Nat.le_of_ble_eq_true rfl) dL_whole_19 ?_
        refine c1_X9_permitKite hK hL0 hO hI hk ?_
        dsimp only [Option.toList_some, Option.toList_none, List.cons_append, List.nil_append]
        refine J_istore hC dL_whole_22 (Nat.le_of_ble_eq_true rfl) rfl ?_
        dsimp only [List.set]
        refine J_aload_n hC dL_whole_24 rfl rfl ?_
        refine J_iload_n hC dL_whole_25 rfl rfl ?_
        refine jL_49 hC hK rfl ⟨by decide, by decide⟩ ⟨by decide, by decide⟩ (Nat.le_of_ble_eq_true rfl) dL_whole_26 ?_
        refine c1_X9_permitStart hK hL0 hO hI hk ?_
        dsimp only [Option.toList_some, Option.toList_none, List.cons_append, List.nil_append]
        refine J_istore hC dL_whole_29 (Nat.le_of_ble_eq_true rfl) rfl ?_
        dsimp only [List.set]
        refine J_aload_n hC dL_whole_31 rfl rfl ?_
        refine J_iload_n hC dL_whole_32 rfl rfl ?_
        refine jL_52 hC hK rfl ⟨by decide, by decide⟩ ⟨by decide, by decide⟩ (Nat.le_of_ble_eq_true rfl) dL_whole_33 ?_
        refine c1_X9_permitDuration hK hL0 hO hI hk ?_
        dsimp only [Option.toList_some, Option.toList_none, List.cons_append, List.nil_append]
        refine J_istore hC dL_whole_36 (Nat.le_of_ble_eq_true rfl) rfl ?_
        dsimp only [List.set]
        refine J_iload hC dL_whole_38 rfl ?_
        refine J_iload hC dL_whole_40 rfl ?_
        refine J_iadd_n hC dL_whole_42 ?_
        refine J_iload_n hC dL_whole_43 rfl rfl ?_
        refine J_icmp_le_n hC (by omega) (by omega) (tgt := 60) dL_whole_44 rfl (fun b1 => ?_) (fun b1 => ?_)
        · exact absurd b1 (by omega)
        · refine J_iload hC dL_whole_47 rfl ?_
          refine J_iconst (v := nI 1) hC dL_whole_49 (by decide) ?_
          refine J_icmp_lt_n hC (by omega) (by decide) (tgt := 60) dL_whole_50 rfl (fun b2 => ?_) (fun b2 => ?_)
          · exact absurd b2 (by omega)
          · refine J_iload hC dL_whole_53 rfl ?_
            refine J_bipush (v := nI 24) hC dL_whole_55 (by decide) ?_
            refine J_icmp_le_n hC (by omega) (by decide) (tgt := 62) dL_whole_57 rfl (fun b3 => ?_) (fun b3 => ?_)
            · refine J_iload_n hC dL_whole_62 rfl rfl ?_
              refine J_iload hC dL_whole_63 rfl ?_
              refine J_max hC rfl qn4_6 (by decide) (Nat.le_of_ble_eq_true rfl) (by decide) (by decide) dL_whole_65 ?_
              refine J_top (imax_n (by omega) (by omega)) ?_
              refine J_istore hC dL_whole_68 (Nat.le_of_ble_eq_true rfl) rfl ?_
              dsimp only [List.set]
              have lp2 : ∀ (dd : Nat) (h : Nat), nv A (214 + 3 * k + 1) + nv A (214 + 3 * k + 2) - h < dd → (nv A 7 ≤ h) → (nv A (214 + 3 * k + 1) ≤ h) → (h ≤ nv A (214 + 3 * k + 1) + nv A (214 + 3 * k + 2)) →  J G E w 0 0 70 [some (.ref (w.2.1 12 0)), some (.int (nI (nv A 7))), some (.int (nI (nv A 11))), some (.int (nI (k))), some (.int (nI (nv A (214 + 3 * k)))), some (.int (nI (nv A (214 + 3 * k + 1)))), some (.int (nI (nv A (214 + 3 * k + 2)))), some (.int (nI (h))), none, none, none] [] σ := by
                intro dd
                induction dd with
                | zero =>
                  intro h hdd
                  exact absurd hdd (Nat.not_lt_zero _)
                | succ dd ih =>
                  intro h hdd hs1 hs2 hs3
                  have ih2 := ih
                  refine J_iload hC dL_whole_70 rfl ?_
                  refine J_iload hC dL_whole_72 rfl ?_
                  refine J_iload hC dL_whole_74 rfl ?_
                  refine J_iadd_n hC dL_whole_76 ?_
                  refine J_icmp_ge_n hC (by omega) (by omega) (tgt := 221) dL_whole_77 rfl (fun h1 => ?_) (fun h1 => ?_)
                  · refine J_iinc_n (m := 1) hC (by decide) dL_whole_221 rfl (Nat.le_of_ble_eq_true rfl) rfl ?_
                    dsimp only [List.set]
                    refine J_goto (tgt := 12) hC dL_whole_224 rfl ?_
                    refine J_less (ls' := [some (.ref (w.2.1 12 0)), some (.int (nI (nv A 7))), some (.int (nI (nv A 11))), some (.int (nI (k + 1))), none, none, none, none, none, none, none]) ⟨Or.inr rfl, Or.inr rfl, Or.inr rfl, Or.inr rfl, Or.inl rfl, Or.inl rfl, Or.inl rfl, Or.inl rfl, Or.inl rfl, Or.inl rfl, Or.inl rfl, trivial⟩ ?_
                    exact ih1 (k + 1) (by omega) (by omega)
                  · have hcv : covN A k h := ⟨hs2, h1⟩
                    refine J_aload_n hC dL_whole_80 rfl rfl ?_
                    refine J_iload hC dL_whole_81 rfl ?_
                    refine J_iload hC dL_whole_83 rfl ?_
                    refine jL_60 hC hK rfl ⟨by decide, by decide⟩ ⟨by decide, by decide⟩ (Nat.le_of_ble_eq_true rfl) dL_whole_85 ?_
                    refine c1_X9_hasPermit hK hL0 hO hI kK.2 (by omega) ?_
                    dsimp only [Option.toList_some, Option.toList_none, List.cons_append, List.nil_append]
                    refine J_top (congrArg nI (ct_t ⟨k, hk, rfl, hcv⟩)) ?_
                    refine J_if_eq_n hC (by decide) (tgt := 127) dL_whole_88 rfl (fun hf => absurd hf (by omega)) (fun _ => ?_)
                    refine J_aload_n hC dL_whole_91 rfl rfl ?_
                    refine J_iload hC dL_whole_92 rfl ?_
                    refine J_iload hC dL_whole_94 rfl ?_
                    refine jL_64 hC hK rfl ⟨by decide, by decide⟩ ⟨by decide, by decide⟩ (Nat.le_of_ble_eq_true rfl) dL_whole_96 ?_
                    refine c1_X9_canFly hK hL0 hO hI kK.2 (by omega) ?_
                    dsimp only [Option.toList_some, Option.toList_none, List.cons_append, List.nil_append]
                    refine J_top (congrArg nI (ct_t (hP.1 k hk h hs1 hcv))) ?_
                    refine J_if_eq_n hC (by decide) (tgt := 127) dL_whole_99 rfl (fun hf => absurd hf (by omega)) (fun _ => ?_)
                    have kC := r_KC hI kK.2
                    have hus := hP.2.2 _ kC.2 h hs1
                    have hqq := r_Q hI kC.2
                    refine J_aload_n hC dL_whole_102 rfl rfl ?_
                    refine J_aload_n hC dL_whole_103 rfl rfl ?_
                    refine J_iload hC dL_whole_104 rfl ?_
                    refine jL_67 hC hK rfl ⟨by decide, by decide⟩ ⟨by decide, by decide⟩ (Nat.le_of_ble_eq_true rfl) dL_whole_106 ?_
                    refine c1_X9_colourOf hK hL0 hO hI kK.2 ?_
                    dsimp only [Option.toList_some, Option.toList_none, List.cons_append, List.nil_append]
                    refine J_iload hC dL_whole_109 rfl ?_
                    refine jL_70 hC hK rfl ⟨by decide, by decide⟩ ⟨by decide, by decide⟩ (Nat.le_of_ble_eq_true rfl) dL_whole_111 ?_
                    refine c1_X9_quotaUsed hK hL0 hO hI kC.2 (by omega) ?_
                    dsimp only [Option.toList_some, Option.toList_none, List.cons_append, List.nil_append]
                    refine J_aload_n hC dL_whole_114 rfl rfl ?_
                    refine J_aload_n hC dL_whole_115 rfl rfl ?_
                    refine J_iload hC dL_whole_116 rfl ?_
                    refine jL_67 hC hK rfl ⟨by decide, by decide⟩ ⟨by decide, by decide⟩ (Nat.le_of_ble_eq_true rfl) dL_whole_118 ?_
                    refine c1_X9_colourOf hK hL0 hO hI kK.2 ?_
                    dsimp only [Option.toList_some, Option.toList_none, List.cons_append, List.nil_append]
                    refine jL_73 hC hK rfl ⟨by decide, by decide⟩ ⟨by decide, by decide⟩ (Nat.le_of_ble_eq_true rfl) dL_whole_121 ?_
                    refine c1_X9_quota hK hL0 hO hI kC.2 ?_
                    dsimp only [Option.toList_some, Option.toList_none, List.cons_append, List.nil_append]
                    refine J_icmp_le_n hC (by omega) (by omega) (tgt := 129) dL_whole_124 rfl (fun b5 => ?_) (fun b5 => ?_)
                    · refine J_iconst (v := nI 0) hC dL_whole_129 (by decide) ?_
                      refine J_istore hC dL_whole_130 (Nat.le_of_ble_eq_true rfl) rfl ?_
                      dsimp only [List.set]
                      have lp3 : ∀ (dd : Nat) (i : Nat), k - i < dd → (i ≤ k) →  J G E w 0 0 132 [some (.ref (w.2.1 12 0)), some (.int (nI (nv A 7))), some (.int (nI (nv A 11))), some (.int (nI (k))), some (.int (nI (nv A (214 + 3 * k)))), some (.int (nI (nv A (214 + 3 * k + 1)))), some (.int (nI (nv A (214 + 3 * k + 2)))), some (.int (nI (h))), some (.int (nI (i))), none, none] [] σ := by
                        intro dd
                        induction dd with
                        | zero =>
                          intro i hdd
                          exact absurd hdd (Nat.not_lt_zero _)
                        | succ dd ih =>
                          intro i hdd hi6
                          refine J_iload hC dL_whole_132 rfl ?_
                          refine J_iload_n hC dL_whole_134 rfl rfl ?_
                          refine J_icmp_ge_n hC (by omega) (by omega) (tgt := 215) dL_whole_135 rfl (fun i1 => ?_) (fun i1 => ?_)
                          · refine J_iinc_n (m := 1) hC (by decide) dL_whole_215 rfl (Nat.le_of_ble_eq_true rfl) rfl ?_
                            dsimp only [List.set]
                            refine J_goto (tgt := 70) hC dL_whole_218 rfl ?_
                            refine J_less (ls' := [some (.ref (w.2.1 12 0)), some (.int (nI (nv A 7))), some (.int (nI (nv A 11))), some (.int (nI (k))), some (.int (nI (nv A (214 + 3 * k)))), some (.int (nI (nv A (214 + 3 * k + 1)))), some (.int (nI (nv A (214 + 3 * k + 2)))), some (.int (nI (h + 1))), none, none, none]) ⟨Or.inr rfl, Or.inr rfl, Or.inr rfl, Or.inr rfl, Or.inr rfl, Or.inr rfl, Or.inr rfl, Or.inr rfl, Or.inl rfl, Or.inl rfl, Or.inl rfl, trivial⟩ ?_
                            exact ih2 (h + 1) (by omega) (by omega) (by omega) (by omega)
                          · have iS := r_PS hI (p := i) (by omega)
                            have iD := r_PD hI (p := i) (by omega)
                            have iK := r_PK hI (p := i) (by omega)
                            refine J_aload_n hC dL_whole_138 rfl rfl ?_
                            refine J_iload hC dL_whole_139 rfl ?_
                            refine jL_46 hC hK rfl ⟨by decide, by decide⟩ ⟨by decide, by decide⟩ (Nat.le_of_ble_eq_true rfl) dL_whole_141 ?_
                            refine c1_X9_permitKite hK hL0 hO hI (p := i) (by omega) ?_
                            dsimp only [Option.toList_some, Option.toList_none, List.cons_append, List.nil_append]
                            refine J_istore hC dL_whole_144 (Nat.le_of_ble_eq_true rfl) rfl ?_
                            dsimp only [List.set]
                            refine J_iload hC dL_whole_146 rfl ?_
                            refine J_aload_n hC dL_whole_148 rfl rfl ?_
                            refine J_iload hC dL_whole_149 rfl ?_
                            refine jL_49 hC hK rfl ⟨by decide, by decide⟩ ⟨by decide, by decide⟩ (Nat.le_of_ble_eq_true rfl) dL_whole_151 ?_
                            refine c1_X9_permitStart hK hL0 hO hI (p := i) (by omega) ?_
                            dsimp only [Option.toList_some, Option.toList_none, List.cons_append, List.nil_append]
                            refine J_icmp_lt_n hC (by omega) (by omega) (tgt := 179) dL_whole_154 rfl (fun i2 => ?_) (fun i2 => ?_)
                            · refine J_iconst (v := nI 0) hC dL_whole_179 (by decide) ?_
                              refine J_istore hC dL_whole_180 (Nat.le_of_ble_eq_true rfl) rfl ?_
                              dsimp only [List.set]
                              refine J_iload hC dL_whole_182 rfl ?_
                              refine J_if_eq_n hC (by decide) (tgt := 209) dL_whole_184 rfl (fun _ => ?_) (fun hf => absurd hf (by omega))
                              refine J_iinc_n (m := 1) hC (by decide) dL_whole_209 rfl (Nat.le_of_ble_eq_true rfl) rfl ?_
                              dsimp only [List.set]
                              refine J_goto (tgt := 132) hC dL_whole_212 rfl ?_
                              refine J_less (ls' := [some (.ref (w.2.1 12 0)), some (.int (nI (nv A 7))), some (.int (nI (nv A 11))), some (.int (nI (k))), some (.int (nI (nv A (214 + 3 * k)))), some (.int (nI (nv A (214 + 3 * k + 1)))), some (.int (nI (nv A (214 + 3 * k + 2)))), some (.int (nI (h))), some (.int (nI (i + 1))), none, none]) ⟨Or.inr rfl, Or.inr rfl, Or.inr rfl, Or.inr rfl, Or.inr rfl, Or.inr rfl, Or.inr rfl, Or.inr rfl, Or.inr rfl, Or.inl rfl, Or.inl rfl, trivial⟩ ?_
                              exact ih (i + 1) (by omega) (by omega)
                            · refine J_iload hC dL_whole_157 rfl ?_
                              refine J_aload_n hC dL_whole_159 rfl rfl ?_
                              refine J_iload hC dL_whole_160 rfl ?_
                              refine jL_49 hC hK rfl ⟨by decide, by decide⟩ ⟨by decide, by decide⟩ (Nat.le_of_ble_eq_true rfl) dL_whole_162 ?_
                              refine c1_X9_permitStart hK hL0 hO hI (p := i) (by omega) ?_
                              dsimp only [Option.toList_some, Option.toList_none, List.cons_append, List.nil_append]
                              refine J_aload_n hC dL_whole_165 rfl rfl ?_
                              refine J_iload hC dL_whole_166 rfl ?_
                              refine jL_52 hC hK rfl ⟨by decide, by decide⟩ ⟨by decide, by decide⟩ (Nat.le_of_ble_eq_true rfl) dL_whole_168 ?_
                              refine c1_X9_permitDuration hK hL0 hO hI (p := i) (by omega) ?_
                              dsimp only [Option.toList_some, Option.toList_none, List.cons_append, List.nil_append]
                              refine J_iadd_n hC dL_whole_171 ?_
                              refine J_icmp_ge_n hC (by omega) (by omega) (tgt := 179) dL_whole_172 rfl (fun i3 => ?_) (fun i3 => ?_)
                              · refine J_iconst (v := nI 0) hC dL_whole_179 (by decide) ?_
                                refine J_istore hC dL_whole_180 (Nat.le_of_ble_eq_true rfl) rfl ?_
                                dsimp only [List.set]
                                refine J_iload hC dL_whole_182 rfl ?_
                                refine J_if_eq_n hC (by decide) (tgt := 209) dL_whole_184 rfl (fun _ => ?_) (fun hf => absurd hf (by omega))
                                refine J_iinc_n (m := 1) hC (by decide) dL_whole_209 rfl (Nat.le_of_ble_eq_true rfl) rfl ?_
                                dsimp only [List.set]
                                refine J_goto (tgt := 132) hC dL_whole_212 rfl ?_
                                refine J_less (ls' := [some (.ref (w.2.1 12 0)), some (.int (nI (nv A 7))), some (.int (nI (nv A 11))), some (.int (nI (k))), some (.int (nI (nv A (214 + 3 * k)))), some (.int (nI (nv A (214 + 3 * k + 1)))), some (.int (nI (nv A (214 + 3 * k + 2)))), some (.int (nI (h))), some (.int (nI (i + 1))), none, none]) ⟨Or.inr rfl, Or.inr rfl, Or.inr rfl, Or.inr rfl, Or.inr rfl, Or.inr rfl, Or.inr rfl, Or.inr rfl, Or.inr rfl, Or.inl rfl, Or.inl rfl, trivial⟩ ?_
                                exact ih (i + 1) (by omega) (by omega)
                              · have hne := hP.2.1 i k i1 hk h hs1 ⟨i2, i3⟩ hcv
                                refine J_iconst (v := nI 1) hC dL_whole_175 (by decide) ?_
                                refine J_goto (tgt := 180) hC dL_whole_176 rfl ?_
                                refine J_istore hC dL_whole_180 (Nat.le_of_ble_eq_true rfl) rfl ?_
                                dsimp only [List.set]
                                refine J_iload hC dL_whole_182 rfl ?_
                                refine J_if_eq_n hC (by decide) (tgt := 209) dL_whole_184 rfl (fun hf => absurd hf (by omega)) (fun _ => ?_)
                                refine J_iload hC dL_whole_187 rfl ?_
                                refine J_iload hC dL_whole_189 rfl ?_
                                refine J_icmp_eq_n hC (by omega) (by omega) (tgt := 207) dL_whole_191 rfl (fun i4 => ?_) (fun i4 => ?_)
                                · exact absurd i4 hne.1
                                · refine J_aload_n hC dL_whole_194 rfl rfl ?_
                                  refine J_iload hC dL_whole_195 rfl ?_
                                  refine J_iload hC dL_whole_197 rfl ?_
                                  refine J_iload hC dL_whole_199 rfl ?_
                                  refine jL_76 hC hK rfl ⟨by decide, by decide⟩ ⟨by decide, by decide⟩ (Nat.le_of_ble_eq_true rfl) dL_whole_201 ?_
                                  refine c1_X9_doCross hK hL0 hO hI kK.2 iK.2 (fun q => hne.1 q.symm) (by omega) ?_
                                  dsimp only [Option.toList_some, Option.toList_none, List.cons_append, List.nil_append]
                                  refine J_top (congrArg nI (ct_f hne.2)) ?_
                                  refine J_if_eq_n hC (by decide) (tgt := 209) dL_whole_204 rfl (fun _ => ?_) (fun hf => absurd hf (by omega))
                                  refine J_iinc_n (m := 1) hC (by decide) dL_whole_209 rfl (Nat.le_of_ble_eq_true rfl) rfl ?_
                                  dsimp only [List.set]
                                  refine J_goto (tgt := 132) hC dL_whole_212 rfl ?_
                                  refine J_less (ls' := [some (.ref (w.2.1 12 0)), some (.int (nI (nv A 7))), some (.int (nI (nv A 11))), some (.int (nI (k))), some (.int (nI (nv A (214 + 3 * k)))), some (.int (nI (nv A (214 + 3 * k + 1)))), some (.int (nI (nv A (214 + 3 * k + 2)))), some (.int (nI (h))), some (.int (nI (i + 1))), none, none]) ⟨Or.inr rfl, Or.inr rfl, Or.inr rfl, Or.inr rfl, Or.inr rfl, Or.inr rfl, Or.inr rfl, Or.inr rfl, Or.inr rfl, Or.inl rfl, Or.inl rfl, trivial⟩ ?_
                                  exact ih (i + 1) (by omega) (by omega)
                      refine J_less (ls' := [some (.ref (w.2.1 12 0)), some (.int (nI (nv A 7))), some (.int (nI (nv A 11))), some (.int (nI (k))), some (.int (nI (nv A (214 + 3 * k)))), some (.int (nI (nv A (214 + 3 * k + 1)))), some (.int (nI (nv A (214 + 3 * k + 2)))), some (.int (nI (h))), some (.int (nI (0))), none, none]) ⟨Or.inr rfl, Or.inr rfl, Or.inr rfl, Or.inr rfl, Or.inr rfl, Or.inr rfl, Or.inr rfl, Or.inr rfl, Or.inr rfl, Or.inl rfl, Or.inl rfl, trivial⟩ ?_
                      exact lp3 (k + 1) 0 (by omega) (by omega)
                    · exact absurd b5 (by omega)
              refine J_less (ls' := [some (.ref (w.2.1 12 0)), some (.int (nI (nv A 7))), some (.int (nI (nv A 11))), some (.int (nI (k))), some (.int (nI (nv A (214 + 3 * k)))), some (.int (nI (nv A (214 + 3 * k + 1)))), some (.int (nI (nv A (214 + 3 * k + 2)))), some (.int (nI (max (nv A 7) (nv A (214 + 3 * k + 1))))), none, none, none]) ⟨Or.inr rfl, Or.inr rfl, Or.inr rfl, Or.inr rfl, Or.inr rfl, Or.inr rfl, Or.inr rfl, Or.inr rfl, Or.inl rfl, Or.inl rfl, Or.inl rfl, trivial⟩ ?_
              exact lp2 (nv A (214 + 3 * k + 1) + nv A (214 + 3 * k + 2) + 1) (max (nv A 7) (nv A (214 + 3 * k + 1))) (by omega) (Nat.le_max_left _ _) (Nat.le_max_right _ _) (Nat.max_le.mpr ⟨by omega, by omega⟩)
            · exact absurd b3 (by omega)
  refine J_aload_n hC dL_whole_0 rfl rfl ?_
  refine jL_39 hC hK rfl ⟨by decide, by decide⟩ ⟨by decide, by decide⟩ (Nat.le_of_ble_eq_true rfl) dL_whole_1 ?_
  refine c_X9_hour hK hL0 hO hI  ?_
  dsimp only [Option.toList_some, Option.toList_none, List.cons_append, List.nil_append]
  refine J_top (r_HOUR hI).1 ?_
  refine J_istore_n hC dL_whole_4 rfl (Nat.le_of_ble_eq_true rfl) rfl ?_
  dsimp only [List.set]
  refine J_aload_n hC dL_whole_5 rfl rfl ?_
  refine jL_43 hC hK rfl ⟨by decide, by decide⟩ ⟨by decide, by decide⟩ (Nat.le_of_ble_eq_true rfl) dL_whole_6 ?_
  refine c_X9_permitCount hK hL0 hO hI  ?_
  dsimp only [Option.toList_some, Option.toList_none, List.cons_append, List.nil_append]
  refine J_top (r_NP hI).1 ?_
  refine J_istore_n hC dL_whole_9 rfl (Nat.le_of_ble_eq_true rfl) rfl ?_
  dsimp only [List.set]
  refine J_iconst (v := nI 0) hC dL_whole_10 (by decide) ?_
  refine J_istore_n hC dL_whole_11 rfl (Nat.le_of_ble_eq_true rfl) rfl ?_
  dsimp only [List.set]
  exact lp1 (nv A 11 + 1) 0 (by omega) (by omega)
