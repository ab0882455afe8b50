/-! ===== p65: one round of the law ===== -/
theorem LSt_mono {σ : Mem} {c hm c' hm' px u : Nat} {A : Nat → Int32} (h : LSt σ c hm A px u) (hc : c ≤ c') (hh : hm ≤ hm') : LSt σ c' hm' A px u := ⟨h.1, SInv_mono h.2.1 hc hh, h.2.2⟩
theorem c1_X9_passHours {G : GC} {w : Lay} {σ : Mem} {Q : Lay → Option Value → Mem → Prop} {Qx : Lay → String → Mem → Prop} (hW : LAY5 w) {A : Nat → Int32} {c hm px u : Nat} (hS : LSt σ c hm A px u) (hc : c < 2 ^ 28) (hh : hm ≤ 900) {v : Nat} (hv : 1 ≤ v ∧ v ≤ 5) (hq : ∀ σ' B px' u' a, LSt σ' c (hm + 5) B px' u' → Q w (some (.int a)) σ') : MX9_passHours G w σ [.ref (w.2.1 12 0), .int (nI v)] Q Qx := by
  obtain ⟨hO, hV, hpx, hu, hn9, hc9, hz⟩ := id hS
  have e : (aPH A (fun _ => 0) (nI v)).1 = 0 := by
    unfold aPH
    rw [chk_t ⟨v, rfl, hv.1, by omega⟩]
  refine c_X9_passHours hW.1 (hW.2 0 (by decide)) (K := fun _ => 0) hO hV.1 (hW.2 _ (by omega)) hpx hu hn9 hc9 hz (by omega) (fun _ σ' hch => ?_) (fun g => ?_)
  · rw [cl_n (by omega)] at hch
    exact hq σ' _ _ _ _ (LSt_ch hS hch (SInv_mono (SInv_passed hV (by omega) v (by omega)).1 (Nat.le_refl _) (by omega)))
  · rw [e] at g
    cases g
theorem c1_X9_fund {G : GC} {w : Lay} {σ : Mem} {Q : Lay → Option Value → Mem → Prop} {Qx : Lay → String → Mem → Prop} (hW : LAY5 w) {A : Nat → Int32} {c hm px u : Nat} (hS : LSt σ c hm A px u) (hc : c < 2 ^ 28) (hh : hm ≤ 900) {k : Nat} (hk : k < nv A 6) {v : Nat} (hv : 1 ≤ v ∧ v ≤ 90) (hq : ∀ σ' B px' u' a, LSt σ' (c + 90) hm B px' u' → Q w (some (.int a)) σ') : MX9_fund G w σ [.ref (w.2.1 12 0), .int (nI k), .int (nI v)] Q Qx := by
  obtain ⟨hO, hV, hpx, hu, hn9, hc9, hz⟩ := id hS
  have h6 := r_NK hV.1
  have e : (aFu A (nI k) (nI v)).1 = 0 := by
    unfold aFu
    rw [chk_t ⟨k, rfl, hk⟩, chk_t ⟨v, rfl, hv.1, by omega⟩]
  refine c_X9_fund hW.1 (hW.2 0 (by decide)) hO hV.1 (hW.2 _ (by omega)) hpx hu hn9 hc9 (fun _ σ' hch => ?_) (fun g => ?_) (fun g => ?_)
  · rw [cl_n (by omega)] at hch
    exact hq σ' _ _ _ _ (LSt_ch hS hch (SInv_fund hV hk (by omega) (by omega)))
  · rw [e] at g
    cases g
  · rw [e] at g
    cases g
theorem ct_0 {p : Prop} (h : ct p = 0) : ¬ p := fun q => by
  rw [ct_t q] at h
  omega
theorem ct_1 {p : Prop} (h : ¬ ct p = 0) : p := Classical.byContradiction (fun q => h (ct_f q))
set_option maxHeartbeats 16000000 in
set_option maxRecDepth 100000 in
theorem law_round {G : GC} {E : Ctx} {w : Lay} {σ : Mem} (hC : Cx G E cL_law RL 11 room_1) (hW : LAY5 w) {A : Nat → Int32} {c hm px u : Nat} (hS : LSt σ c hm A px u) (hc : c < 2 ^ 28) (hh : hm ≤ 900) {r kc ks : Nat} (hr : r < 36) (hkc : kc ≤ 500000) (hks : ks ≤ 6000000) (hk : ∀ (σ2 : Mem) (B : Nat → Int32) (px2 u2 : Nat), LSt σ2 (c + 90) (hm + 5) B px2 u2 → J G E w (kc + 200) (ks + 1200) 10 [some (.ref (G.2.2.2.2 2)), some (.ref (w.2.1 12 0)), some (.int (nI (r + 1))), none, none, none, none, none, none, none, none] [] σ2) : J G E w kc ks 16 [some (.ref (G.2.2.2.2 2)), some (.ref (w.2.1 12 0)), some (.int (nI (r))), none, none, none, none, none, none, none, none] [] σ := by
  have hK := hW.1
  have hL0 := hW.2 0 (by decide)
  obtain ⟨hO, hV, hpx, hu, hn9, hc9, hz⟩ := id hS
  obtain ⟨hI, hX, hCo, hT, hF, hP, hE⟩ := hV
  have hI0 := hI
  have h6 := r_NK hI
  have h7 := r_HOUR hI
  have hX6 := hX.2.2.2
  have rc : ∀ {a : Nat}, a ≤ 600000 → a ≤ room_1.cells := fun h => Nat.le_trans h (by decide +kernel)
  have rs : ∀ {a : Nat}, a ≤ 7000000 → a ≤ room_1.slots := fun h => Nat.le_trans h (by decide +kernel)
  have fin : ∀ (σ2 : Mem) (B : Nat → Int32) (px2 u2 : Nat), LSt σ2 (c + 90) (hm + 5) B px2 u2 → J G E w (kc + 100) (ks + 600) 473 [some (.ref (G.2.2.2.2 2)), some (.ref (w.2.1 12 0)), some (.int (nI (r))), none, none, none, none, none, none, none, none] [] σ2 := by
    intro σ2 B px2 u2 hS2
    refine J_aload_n hC dL_law_473 rfl rfl ?_
    refine jL_145 hC rfl ⟨by decide +kernel, by decide +kernel⟩ ⟨rc (by omega), rs (by omega)⟩ (Nat.le_of_ble_eq_true rfl) dL_law_474 ?_
    refine c_L_whole hW hS2 (by omega) (by omega) ?_
    dsimp only [Option.toList_some, Option.toList_none, List.cons_append, List.nil_append]
    refine J_if_ne_n hC (by decide) (tgt := 482) dL_law_477 rfl (fun _ => ?_) (fun hf => absurd hf (by omega))
    refine J_iinc_n (m := 1) hC (by decide) dL_law_482 rfl (Nat.le_of_ble_eq_true rfl) rfl ?_
    dsimp only [List.set]
    refine J_goto (tgt := 10) hC dL_law_485 rfl ?_
    refine J_widen (k := kc + 200) (n := ks + 1200) (by omega) (by omega) ?_
    exact hk _ _ _ _ hS2
  refine J_bipush (v := nI 7) hC dL_law_16 (by decide) ?_
  refine J_iload_n hC dL_law_18 rfl rfl ?_
  refine J_imul_n hC dL_law_19 ?_
  refine J_istore_n hC dL_law_20 rfl (Nat.le_of_ble_eq_true rfl) rfl ?_
  dsimp only [List.set]
  refine J_aload_n hC dL_law_21 rfl rfl ?_
  refine J_iload_n hC dL_law_22 rfl rfl ?_
  refine J_bipush (v := nI 14) hC dL_law_23 (by decide) ?_
  refine jL_29 hC rfl ⟨by decide +kernel, by decide +kernel⟩ ⟨rc (by omega), rs (by omega)⟩ (Nat.le_of_ble_eq_true rfl) dL_law_25 ?_
  refine c_L_pick (by omega) (by omega) (fun qv hqv => ?_)
  dsimp only [Option.toList_some, Option.toList_none, List.cons_append, List.nil_append]
  refine J_istore hC dL_law_28 (Nat.le_of_ble_eq_true rfl) rfl ?_
  dsimp only [List.set]
  refine J_aload_n hC dL_law_30 rfl rfl ?_
  refine J_iload_n hC dL_law_31 rfl rfl ?_
  refine J_iconst (v := nI 1) hC dL_law_32 (by decide) ?_
  refine J_iadd_n hC dL_law_33 ?_
  refine J_aload_n hC dL_law_34 rfl rfl ?_
  refine jL_80 hC hK rfl ⟨by decide +kernel, by decide +kernel⟩ ⟨rc (by omega), rs (by omega)⟩ (Nat.le_of_ble_eq_true rfl) dL_law_35 ?_
  refine c_X9_kiteCount hK hL0 hO hI  ?_
  dsimp only [Option.toList_some, Option.toList_none, List.cons_append, List.nil_append]
  refine J_top (r_NK hI).1 ?_
  refine jL_29 hC rfl ⟨by decide +kernel, by decide +kernel⟩ ⟨rc (by omega), rs (by omega)⟩ (Nat.le_of_ble_eq_true rfl) dL_law_38 ?_
  refine c_L_pick (by omega) (by omega) (fun kv hkv => ?_)
  dsimp only [Option.toList_some, Option.toList_none, List.cons_append, List.nil_append]
  refine J_istore hC dL_law_41 (Nat.le_of_ble_eq_true rfl) rfl ?_
  dsimp only [List.set]
  refine J_aload_n hC dL_law_43 rfl rfl ?_
  refine jL_39 hC hK rfl ⟨by decide +kernel, by decide +kernel⟩ ⟨rc (by omega), rs (by omega)⟩ (Nat.le_of_ble_eq_true rfl) dL_law_44 ?_
  refine c_X9_hour hK hL0 hO hI  ?_
  dsimp only [Option.toList_some, Option.toList_none, List.cons_append, List.nil_append]
  refine J_top (r_HOUR hI).1 ?_
  refine J_aload_n hC dL_law_47 rfl rfl ?_
  refine J_iload_n hC dL_law_48 rfl rfl ?_
  refine J_iconst (v := nI 2) hC dL_law_49 (by decide) ?_
  refine J_iadd_n hC dL_law_50 ?_
  refine J_bipush (v := nI 9) hC dL_law_51 (by decide) ?_
  refine jL_29 hC rfl ⟨by decide +kernel, by decide +kernel⟩ ⟨rc (by omega), rs (by omega)⟩ (Nat.le_of_ble_eq_true rfl) dL_law_53 ?_
  refine c_L_pick (by omega) (by omega) (fun sv hsv => ?_)
  dsimp only [Option.toList_some, Option.toList_none, List.cons_append, List.nil_append]
  refine J_iadd_n hC dL_law_56 ?_
  refine J_istore hC dL_law_57 (Nat.le_of_ble_eq_true rfl) rfl ?_
  dsimp only [List.set]
  refine J_iconst (v := nI 1) hC dL_law_59 (by decide) ?_
  refine J_aload_n hC dL_law_60 rfl rfl ?_
  refine J_iload_n hC dL_law_61 rfl rfl ?_
  refine J_iconst (v := nI 3) hC dL_law_62 (by decide) ?_
  refine J_iadd_n hC dL_law_63 ?_
  refine J_aload_n hC dL_law_64 rfl rfl ?_
  refine J_iload_n hC dL_law_65 rfl rfl ?_
  refine J_iconst (v := nI 4) hC dL_law_66 (by decide) ?_
  refine J_iadd_n hC dL_law_67 ?_
  refine J_iconst (v := nI 4) hC dL_law_68 (by decide) ?_
  refine jL_29 hC rfl ⟨by decide +kernel, by decide +kernel⟩ ⟨rc (by omega), rs (by omega)⟩ (Nat.le_of_ble_eq_true rfl) dL_law_69 ?_
  refine c_L_pick (by omega) (by omega) (fun p4 hp4 => ?_)
  dsimp only [Option.toList_some, Option.toList_none, List.cons_append, List.nil_append]
  have j81 : ∀ lim : Nat, 1 ≤ lim → lim ≤ 24 → J G E w (kc + 0 + 0 + 0 + 0 + 0 + 0) (ks + 0 + 0 + 0 + 0 + 0 + 0) 81 [some (.ref (G.2.2.2.2 2)), some (.ref (w.2.1 12 0)), some (.int (nI (r))), some (.int (nI (7 * r))), some (.int (nI (qv))), some (.int (nI (kv))), some (.int (nI (nv A 7 + sv))), none, none, none, none] [.int (nI lim), .int (nI (7 * r + 3)), .ref (G.2.2.2.2 2), .int (nI 1)] σ := by
    intro lim hl1 hl2
    refine jL_29 hC rfl ⟨by decide +kernel, by decide +kernel⟩ ⟨rc (by omega), rs (by omega)⟩ (Nat.le_of_ble_eq_true rfl) dL_law_81 ?_
    refine c_L_pick (by omega) (by omega) (fun dv hdv => ?_)
    dsimp only [Option.toList_some, Option.toList_none, List.cons_append, List.nil_append]
    refine J_iadd_n hC dL_law_84 ?_
    refine J_istore hC dL_law_85 (Nat.le_of_ble_eq_true rfl) rfl ?_
    dsimp only [List.set]
    have hq14 : qv = 0 ∨ qv = 1 ∨ qv = 2 ∨ qv = 3 ∨ qv = 4 ∨ qv = 5 ∨ qv = 6 ∨ qv = 7 ∨ qv = 8 ∨ qv = 9 ∨ qv = 10 ∨ qv = 11 ∨ qv = 12 ∨ qv = 13 := by omega
    rcases hq14 with rfl | rfl | rfl | rfl | rfl | rfl | rfl | rfl | rfl | rfl | rfl | rfl | rfl | rfl
    · refine J_iload hC dL_law_87 rfl ?_
      refine J_iconst (v := nI 5) hC dL_law_89 (by decide) ?_
      refine J_icmp_ge_n hC (by decide) (by decide) (tgt := 108) dL_law_90 rfl (fun hf => absurd hf (by omega)) (fun _ => ?_)
      refine J_aload_n hC dL_law_93 rfl rfl ?_
      refine J_iload hC dL_law_94 rfl ?_
      refine J_iload hC dL_law_96 rfl ?_
      refine J_iload hC dL_law_98 rfl ?_
      refine jL_114 hC rfl ⟨by decide +kernel, by decide +kernel⟩ ⟨rc (by omega), rs (by omega)⟩ (Nat.le_of_ble_eq_true rfl) dL_law_100 ?_
      refine c_L_grants hW hS (by omega) (by omega) hkv (by omega) (by omega) (fun σ2 B2 px2 u2 hS2 => ?_)
      dsimp only [Option.toList_some, Option.toList_none, List.cons_append, List.nil_append]
      refine J_if_ne_n hC (by decide) (tgt := 108) dL_law_103 rfl (fun _ => ?_) (fun hf => absurd hf (by omega))
      refine J_iload hC dL_law_108 rfl ?_
      refine J_iconst (v := nI 5) hC dL_law_110 (by decide) ?_
      refine J_icmp_ne_n hC (by decide) (by decide) (tgt := 140) dL_law_111 rfl (fun _ => ?_) (fun hf => absurd hf (by omega))
      refine J_iload hC dL_law_140 rfl ?_
      refine J_bipush (v := nI 6) hC dL_law_142 (by decide) ?_
      refine J_icmp_eq_n hC (by decide) (by decide) (tgt := 154) dL_law_144 rfl (fun hf => absurd hf (by omega)) (fun _ => ?_)
      refine J_iload hC dL_law_147 rfl ?_
      refine J_bipush (v := nI 7) hC dL_law_149 (by decide) ?_
      refine J_icmp_ne_n hC (by decide) (by decide) (tgt := 239) dL_law_151 rfl (fun _ => ?_) (fun hf => absurd hf (by omega))
      refine J_iload hC dL_law_239 rfl ?_
      refine J_bipush (v := nI 8) hC dL_law_241 (by decide) ?_
      refine J_icmp_ne_n hC (by decide) (by decide) (tgt := 266) dL_law_243 rfl (fun _ => ?_) (fun hf => absurd hf (by omega))
      refine J_iload hC dL_law_266 rfl ?_
      refine J_bipush (v := nI 9) hC dL_law_268 (by decide) ?_
      refine J_icmp_eq_n hC (by decide) (by decide) (tgt := 280) dL_law_270 rfl (fun hf => absurd hf (by omega)) (fun _ => ?_)
      refine J_iload hC dL_law_273 rfl ?_
      refine J_bipush (v := nI 10) hC dL_law_275 (by decide) ?_
      refine J_icmp_ne_n hC (by decide) (by decide) (tgt := 295) dL_law_277 rfl (fun _ => ?_) (fun hf => absurd hf (by omega))
      refine J_iload hC dL_law_295 rfl ?_
      refine J_bipush (v := nI 11) hC dL_law_297 (by decide) ?_
      refine J_icmp_ne_n hC (by decide) (by decide) (tgt := 378) dL_law_299 rfl (fun _ => ?_) (fun hf => absurd hf (by omega))
      refine J_iload hC dL_law_378 rfl ?_
      refine J_bipush (v := nI 12) hC dL_law_380 (by decide) ?_
      refine J_icmp_ne_n hC (by decide) (by decide) (tgt := 448) dL_law_382 rfl (fun _ => ?_) (fun hf => absurd hf (by omega))
      refine J_iload hC dL_law_448 rfl ?_
      refine J_bipush (v := nI 13) hC dL_law_450 (by decide) ?_
      refine J_icmp_ne_n hC (by decide) (by decide) (tgt := 473) dL_law_452 rfl (fun _ => ?_) (fun hf => absurd hf (by omega))
      refine J_widen (k := kc + 100) (n := ks + 600) (by omega) (by omega) ?_
      refine J_less (ls' := [some (.ref (G.2.2.2.2 2)), some (.ref (w.2.1 12 0)), some (.int (nI (r))), none, none, none, none, none, none, none, none]) ⟨Or.inr rfl, Or.inr rfl, Or.inr rfl, Or.inl rfl, Or.inl rfl, Or.inl rfl, Or.inl rfl, Or.inl rfl, Or.inl rfl, Or.inl rfl, Or.inl rfl, trivial⟩ ?_
      exact fin _ _ _ _ (by first | exact LSt_mono hS2 (by omega) (by omega) | exact LSt_mono hS (by omega) (by omega))
    · refine J_iload hC dL_law_87 rfl ?_
      refine J_iconst (v := nI 5) hC dL_law_89 (by decide) ?_
      refine J_icmp_ge_n hC (by decide) (by decide) (tgt := 108) dL_law_90 rfl (fun hf => absurd hf (by omega)) (fun _ => ?_)
      refine J_aload_n hC dL_law_93 rfl rfl ?_
      refine J_iload hC dL_law_94 rfl ?_
      refine J_iload hC dL_law_96 rfl ?_
      refine J_iload hC dL_law_98 rfl ?_
      refine jL_114 hC rfl ⟨by decide +kernel, by decide +kernel⟩ ⟨rc (by omega), rs (by omega)⟩ (Nat.le_of_ble_eq_true rfl) dL_law_100 ?_
      refine c_L_grants hW hS (by omega) (by omega) hkv (by omega) (by omega) (fun σ2 B2 px2 u2 hS2 => ?_)
      dsimp only [Option.toList_some, Option.toList_none, List.cons_append, List.nil_append]
      refine J_if_ne_n hC (by decide) (tgt := 108) dL_law_103 rfl (fun _ => ?_) (fun hf => absurd hf (by omega))
      refine J_iload hC dL_law_108 rfl ?_
      refine J_iconst (v := nI 5) hC dL_law_110 (by decide) ?_
      refine J_icmp_ne_n hC (by decide) (by decide) (tgt := 140) dL_law_111 rfl (fun _ => ?_) (fun hf => absurd hf (by omega))
      refine J_iload hC dL_law_140 rfl ?_
      refine J_bipush (v := nI 6) hC dL_law_142 (by decide) ?_
      refine J_icmp_eq_n hC (by decide) (by decide) (tgt := 154) dL_law_144 rfl (fun hf => absurd hf (by omega)) (fun _ => ?_)
      refine J_iload hC dL_law_147 rfl ?_
      refine J_bipush (v := nI 7) hC dL_law_149 (by decide) ?_
      refine J_icmp_ne_n hC (by decide) (by decide) (tgt := 239) dL_law_151 rfl (fun _ => ?_) (fun hf => absurd hf (by omega))
      refine J_iload hC dL_law_239 rfl ?_
      refine J_bipush (v := nI 8) hC dL_law_241 (by decide) ?_
      refine J_icmp_ne_n hC (by decide) (by decide) (tgt := 266) dL_law_243 rfl (fun _ => ?_) (fun hf => absurd hf (by omega))
      refine J_iload hC dL_law_266 rfl ?_
      refine J_bipush (v := nI 9) hC dL_law_268 (by decide) ?_
      refine J_icmp_eq_n hC (by decide) (by decide) (tgt := 280) dL_law_270 rfl (fun hf => absurd hf (by omega)) (fun _ => ?_)
      refine J_iload hC dL_law_273 rfl ?_
      refine J_bipush (v := nI 10) hC dL_law_275 (by decide) ?_
      refine J_icmp_ne_n hC (by decide) (by decide) (tgt := 295) dL_law_277 rfl (fun _ => ?_) (fun hf => absurd hf (by omega))
      refine J_iload hC dL_law_295 rfl ?_
      refine J_bipush (v := nI 11) hC dL_law_297 (by decide) ?_
      refine J_icmp_ne_n hC (by decide) (by decide) (tgt := 378) dL_law_299 rfl (fun _ => ?_) (fun hf => absurd hf (by omega))
      refine J_iload hC dL_law_378 rfl ?_
      refine J_bipush (v := nI 12) hC dL_law_380 (by decide) ?_
      refine J_icmp_ne_n hC (by decide) (by decide) (tgt := 448) dL_law_382 rfl (fun _ => ?_) (fun hf => absurd hf (by omega))
      refine J_iload hC dL_law_448 rfl ?_
      refine J_bipush (v := nI 13) hC dL_law_450 (by decide) ?_
      refine J_icmp_ne_n hC (by decide) (by decide) (tgt := 473) dL_law_452 rfl (fun _ => ?_) (fun hf => absurd hf (by omega))
      refine J_widen (k := kc + 100) (n := ks + 600) (by omega) (by omega) ?_
      refine J_less (ls' := [some (.ref (G.2.2.2.2 2)), some (.ref (w.2.1 12 0)), some (.int (nI (r))), none, none, none, none, none, none, none, none]) ⟨Or.inr rfl, Or.inr rfl, Or.inr rfl, Or.inl rfl, Or.inl rfl, Or.inl rfl, Or.inl rfl, Or.inl rfl, Or.inl rfl, Or.inl rfl, Or.inl rfl, trivial⟩ ?_
      exact fin _ _ _ _ (by first | exact LSt_mono hS2 (by omega) (by omega) | exact LSt_mono hS (by omega) (by omega))
    · refine J_iload hC dL_law_87 rfl ?_
      refine J_iconst (v := nI 5) hC dL_law_89 (by decide) ?_
      refine J_icmp_ge_n hC (by decide) (by decide) (tgt := 108) dL_law_90 rfl (fun hf => absurd hf (by omega)) (fun _ => ?_)
      refine J_aload_n hC dL_law_93 rfl rfl ?_
      refine J_iload hC dL_law_94 rfl ?_
      refine J_iload hC dL_law_96 rfl ?_
      refine J_iload hC dL_law_98 rfl ?_
      refine jL_114 hC rfl ⟨by decide +kernel, by decide +kernel⟩ ⟨rc (by omega), rs (by omega)⟩ (Nat.le_of_ble_eq_true rfl) dL_law_100 ?_
      refine c_L_grants hW hS (by omega) (by omega) hkv (by omega) (by omega) (fun σ2 B2 px2 u2 hS2 => ?_)
      dsimp only [Option.toList_some, Option.toList_none, List.cons_append, List.nil_append]
      refine J_if_ne_n hC (by decide) (tgt := 108) dL_law_103 rfl (fun _ => ?_) (fun hf => absurd hf (by omega))
      refine J_iload hC dL_law_108 rfl ?_
      refine J_iconst (v := nI 5) hC dL_law_110 (by decide) ?_
      refine J_icmp_ne_n hC (by decide) (by decide) (tgt := 140) dL_law_111 rfl (fun _ => ?_) (fun hf => absurd hf (by omega))
      refine J_iload hC dL_law_140 rfl ?_
      refine J_bipush (v := nI 6) hC dL_law_142 (by decide) ?_
      refine J_icmp_eq_n hC (by decide) (by decide) (tgt := 154) dL_law_144 rfl (fun hf => absurd hf (by omega)) (fun _ => ?_)
      refine J_iload hC dL_law_147 rfl ?_
      refine J_bipush (v := nI 7) hC dL_law_149 (by decide) ?_
      refine J_icmp_ne_n hC (by decide) (by decide) (tgt := 239) dL_law_151 rfl (fun _ => ?_) (fun hf => absurd hf (by omega))
      refine J_iload hC dL_law_239 rfl ?_
      refine J_bipush (v := nI 8) hC dL_law_241 (by decide) ?_
      refine J_icmp_ne_n hC (by decide) (by decide) (tgt := 266) dL_law_243 rfl (fun _ => ?_) (fun hf => absurd hf (by omega))
      refine J_iload hC dL_law_266 rfl ?_
      refine J_bipush (v := nI 9) hC dL_law_268 (by decide) ?_
      refine J_icmp_eq_n hC (by decide) (by decide) (tgt := 280) dL_law_270 rfl (fun hf => absurd hf (by omega)) (fun _ => ?_)
      refine J_iload hC dL_law_273 rfl ?_
      refine J_bipush (v := nI 10) hC dL_law_275 (by decide) ?_
      refine J_icmp_ne_n hC (by decide) (by decide) (tgt := 295) dL_law_277 rfl (fun _ => ?_) (fun hf => absurd hf (by omega))
      refine J_iload hC dL_law_295 rfl ?_
      refine J_bipush (v := nI 11) hC dL_law_297 (by decide) ?_
      refine J_icmp_ne_n hC (by decide) (by decide) (tgt := 378) dL_law_299 rfl (fun _ => ?_) (fun hf => absurd hf (by omega))
      refine J_iload hC dL_law_378 rfl ?_
      refine J_bipush (v := nI 12) hC dL_law_380 (by decide) ?_
      refine J_icmp_ne_n hC (by decide) (by decide) (tgt := 448) dL_law_382 rfl (fun _ => ?_) (fun hf => absurd hf (by omega))
      refine J_iload hC dL_law_448 rfl ?_
      refine J_bipush (v := nI 13) hC dL_law_450 (by decide) ?_
      refine J_icmp_ne_n hC (by decide) (by decide) (tgt := 473) dL_law_452 rfl (fun _ => ?_) (fun hf => absurd hf (by omega))
      refine J_widen (k := kc + 100) (n := ks + 600) (by omega) (by omega) ?_
      refine J_less (ls' := [some (.ref (G.2.2.2.2 2)), some (.ref (w.2.1 12 0)), some (.int (nI (r))), none, none, none, none, none, none, none, none]) ⟨Or.inr rfl, Or.inr rfl, Or.inr rfl, Or.inl rfl, Or.inl rfl, Or.inl rfl, Or.inl rfl, Or.inl rfl, Or.inl rfl, Or.inl rfl, Or.inl rfl, trivial⟩ ?_
      exact fin _ _ _ _ (by first | exact LSt_mono hS2 (by omega) (by omega) | exact LSt_mono hS (by omega) (by omega))
    · refine J_iload hC dL_law_87 rfl ?_
      refine J_iconst (v := nI 5) hC dL_law_89 (by decide) ?_
      refine J_icmp_ge_n hC (by decide) (by decide) (tgt := 108) dL_law_90 rfl (fun hf => absurd hf (by omega)) (fun _ => ?_)
      refine J_aload_n hC dL_law_93 rfl rfl ?_
      refine J_iload hC dL_law_94 rfl ?_
      refine J_iload hC dL_law_96 rfl ?_
      refine J_iload hC dL_law_98 rfl ?_
      refine jL_114 hC rfl ⟨by decide +kernel, by decide +kernel⟩ ⟨rc (by omega), rs (by omega)⟩ (Nat.le_of_ble_eq_true rfl) dL_law_100 ?_
      refine c_L_grants hW hS (by omega) (by omega) hkv (by omega) (by omega) (fun σ2 B2 px2 u2 hS2 => ?_)
      dsimp only [Option.toList_some, Option.toList_none, List.cons_append, List.nil_append]
      refine J_if_ne_n hC (by decide) (tgt := 108) dL_law_103 rfl (fun _ => ?_) (fun hf => absurd hf (by omega))
      refine J_iload hC dL_law_108 rfl ?_
      refine J_iconst (v := nI 5) hC dL_law_110 (by decide) ?_
      refine J_icmp_ne_n hC (by decide) (by decide) (tgt := 140) dL_law_111 rfl (fun _ => ?_) (fun hf => absurd hf (by omega))
      refine J_iload hC dL_law_140 rfl ?_
      refine J_bipush (v := nI 6) hC dL_law_142 (by decide) ?_
      refine J_icmp_eq_n hC (by decide) (by decide) (tgt := 154) dL_law_144 rfl (fun hf => absurd hf (by omega)) (fun _ => ?_)
      refine J_iload hC dL_law_147 rfl ?_
      refine J_bipush (v := nI 7) hC dL_law_149 (by decide) ?_
      refine J_icmp_ne_n hC (by decide) (by decide) (tgt := 239) dL_law_151 rfl (fun _ => ?_) (fun hf => absurd hf (by omega))
      refine J_iload hC dL_law_239 rfl ?_
      refine J_bipush (v := nI 8) hC dL_law_241 (by decide) ?_
      refine J_icmp_ne_n hC (by decide) (by decide) (tgt := 266) dL_law_243 rfl (fun _ => ?_) (fun hf => absurd hf (by omega))
      refine J_iload hC dL_law_266 rfl ?_
      refine J_bipush (v := nI 9) hC dL_law_268 (by decide) ?_
      refine J_icmp_eq_n hC (by decide) (by decide) (tgt := 280) dL_law_270 rfl (fun hf => absurd hf (by omega)) (fun _ => ?_)
      refine J_iload hC dL_law_273 rfl ?_
      refine J_bipush (v := nI 10) hC dL_law_275 (by decide) ?_
      refine J_icmp_ne_n hC (by decide) (by decide) (tgt := 295) dL_law_277 rfl (fun _ => ?_) (fun hf => absurd hf (by omega))
      refine J_iload hC dL_law_295 rfl ?_
      refine J_bipush (v := nI 11) hC dL_law_297 (by decide) ?_
      refine J_icmp_ne_n hC (by decide) (by decide) (tgt := 378) dL_law_299 rfl (fun _ => ?_) (fun hf => absurd hf (by omega))
      refine J_iload hC dL_law_378 rfl ?_
      refine J_bipush (v := nI 12) hC dL_law_380 (by decide) ?_
      refine J_icmp_ne_n hC (by decide) (by decide) (tgt := 448) dL_law_382 rfl (fun _ => ?_) (fun hf => absurd hf (by omega))
      refine J_iload hC dL_law_448 rfl ?_
      refine J_bipush (v := nI 13) hC dL_law_450 (by decide) ?_
      refine J_icmp_ne_n hC (by decide) (by decide) (tgt := 473) dL_law_452 rfl (fun _ => ?_) (fun hf => absurd hf (by omega))
      refine J_widen (k := kc + 100) (n := ks + 600) (by omega) (by omega) ?_
      refine J_less (ls' := [some (.ref (G.2.2.2.2 2)), some (.ref (w.2.1 12 0)), some (.int (nI (r))), none, none, none, none, none, none, none, none]) ⟨Or.inr rfl, Or.inr rfl, Or.inr rfl, Or.inl rfl, Or.inl rfl, Or.inl rfl, Or.inl rfl, Or.inl rfl, Or.inl rfl, Or.inl rfl, Or.inl rfl, trivial⟩ ?_
      exact fin _ _ _ _ (by first | exact LSt_mono hS2 (by omega) (by omega) | exact LSt_mono hS (by omega) (by omega))
    · refine J_iload hC dL_law_87 rfl ?_
      refine J_iconst (v := nI 5) hC dL_law_89 (by decide) ?_
      refine J_icmp_ge_n hC (by decide) (by decide) (tgt := 108) dL_law_90 rfl (fun hf => absurd hf (by omega)) (fun _ => ?_)
      refine J_aload_n hC dL_law_93 rfl rfl ?_
      refine J_iload hC dL_law_94 rfl ?_
      refine J_iload hC dL_law_96 rfl ?_
      refine J_iload hC dL_law_98 rfl ?_
      refine jL_114 hC rfl ⟨by decide +kernel, by decide +kernel⟩ ⟨rc (by omega), rs (by omega)⟩ (Nat.le_of_ble_eq_true rfl) dL_law_100 ?_
      refine c_L_grants hW hS (by omega) (by omega) hkv (by omega) (by omega) (fun σ2 B2 px2 u2 hS2 => ?_)
      dsimp only [Option.toList_some, Option.toList_none, List.cons_append, List.nil_append]
      refine J_if_ne_n hC (by decide) (tgt := 108) dL_law_103 rfl (fun _ => ?_) (fun hf => absurd hf (by omega))
      refine J_iload hC dL_law_108 rfl ?_
      refine J_iconst (v := nI 5) hC dL_law_110 (by decide) ?_
      refine J_icmp_ne_n hC (by decide) (by decide) (tgt := 140) dL_law_111 rfl (fun _ => ?_) (fun hf => absurd hf (by omega))
      refine J_iload hC dL_law_140 rfl ?_
      refine J_bipush (v := nI 6) hC dL_law_142 (by decide) ?_
      refine J_icmp_eq_n hC (by decide) (by decide) (tgt := 154) dL_law_144 rfl (fun hf => absurd hf (by omega)) (fun _ => ?_)
      refine J_iload hC dL_law_147 rfl ?_
      refine J_bipush (v := nI 7) hC dL_law_149 (by decide) ?_
      refine J_icmp_ne_n hC (by decide) (by decide) (tgt := 239) dL_law_151 rfl (fun _ => ?_) (fun hf => absurd hf (by omega))
      refine J_iload hC dL_law_239 rfl ?_
      refine J_bipush (v := nI 8) hC dL_law_241 (by decide) ?_
      refine J_icmp_ne_n hC (by decide) (by decide) (tgt := 266) dL_law_243 rfl (fun _ => ?_) (fun hf => absurd hf (by omega))
      refine J_iload hC dL_law_266 rfl ?_
      refine J_bipush (v := nI 9) hC dL_law_268 (by decide) ?_
      refine J_icmp_eq_n hC (by decide) (by decide) (tgt := 280) dL_law_270 rfl (fun hf => absurd hf (by omega)) (fun _ => ?_)
      refine J_iload hC dL_law_273 rfl ?_
      refine J_bipush (v := nI 10) hC dL_law_275 (by decide) ?_
      refine J_icmp_ne_n hC (by decide) (by decide) (tgt := 295) dL_law_277 rfl (fun _ => ?_) (fun hf => absurd hf (by omega))
      refine J_iload hC dL_law_295 rfl ?_
      refine J_bipush (v := nI 11) hC dL_law_297 (by decide) ?_
      refine J_icmp_ne_n hC (by decide) (by decide) (tgt := 378) dL_law_299 rfl (fun _ => ?_) (fun hf => absurd hf (by omega))
      refine J_iload hC dL_law_378 rfl ?_
      refine J_bipush (v := nI 12) hC dL_law_380 (by decide) ?_
      refine J_icmp_ne_n hC (by decide) (by decide) (tgt := 448) dL_law_382 rfl (fun _ => ?_) (fun hf => absurd hf (by omega))
      refine J_iload hC dL_law_448 rfl ?_
      refine J_bipush (v := nI 13) hC dL_law_450 (by decide) ?_
      refine J_icmp_ne_n hC (by decide) (by decide) (tgt := 473) dL_law_452 rfl (fun _ => ?_) (fun hf => absurd hf (by omega))
      refine J_widen (k := kc + 100) (n := ks + 600) (by omega) (by omega) ?_
      refine J_less (ls' := [some (.ref (G.2.2.2.2 2)), some (.ref (w.2.1 12 0)), some (.int (nI (r))), none, none, none, none, none, none, none, none]) ⟨Or.inr rfl, Or.inr rfl, Or.inr rfl, Or.inl rfl, Or.inl rfl, Or.inl rfl, Or.inl rfl, Or.inl rfl, Or.inl rfl, Or.inl rfl, Or.inl rfl, trivial⟩ ?_
      exact fin _ _ _ _ (by first | exact LSt_mono hS2 (by omega) (by omega) | exact LSt_mono hS (by omega) (by omega))
    · refine J_iload hC dL_law_87 rfl ?_
      refine J_iconst (v := nI 5) hC dL_law_89 (by decide) ?_
      refine J_icmp_ge_n hC (by decide) (by decide) (tgt := 108) dL_law_90 rfl (fun _ => ?_) (fun hf => absurd hf (by omega))
      refine J_iload hC dL_law_108 rfl ?_
      refine J_iconst (v := nI 5) hC dL_law_110 (by decide) ?_
      refine J_icmp_ne_n hC (by decide) (by decide) (tgt := 140) dL_law_111 rfl (fun hf => absurd hf (by omega)) (fun _ => ?_)
      refine J_aload_n hC dL_law_114 rfl rfl ?_
      refine J_iload_n hC dL_law_115 rfl rfl ?_
      refine J_iconst (v := nI 1) hC dL_law_116 (by decide) ?_
      refine J_iadd_n hC dL_law_117 ?_
      refine J_aload_n hC dL_law_118 rfl rfl ?_
      refine jL_118 hC rfl ⟨by decide +kernel, by decide +kernel⟩ ⟨rc (by omega), rs (by omega)⟩ (Nat.le_of_ble_eq_true rfl) dL_law_119 ?_
      refine c_L_add hW hS (by omega) (by omega) (by omega) (fun q x2 y2 l2 o2 v2 p2 hp2 σ2 px2 u2 hS2 => ?_) (fun q => ?_)
      · dsimp only [Option.toList_some, Option.toList_none, List.cons_append, List.nil_append]
        obtain ⟨hO, hV, hpx9, hu9, hn99, hc99, hz9⟩ := id hS2
        obtain ⟨hI, hX2, hCo, hT, hF, hP, hE⟩ := hV
        have h62 := r_NK hI
        have h72 := r_HOUR hI
        have b6 := nv_of (n := nv A 6 + 1) (show kiteA A (nI x2) (nI y2) (nI l2) (nI o2) (nI v2) (nI p2) 6 = nI (nv A 6 + 1) from upd_s) (by omega)
        have bst := nv_of (kiteA_new (A := A) (x := nI x2) (y := nI y2) (l := nI l2) (c := nI o2) (k := nI v2) (p := nI p2)).2.2.2.2.2.2.1 (by omega)
        refine J_if_lt_n hC (by omega) (tgt := 140) dL_law_122 rfl (fun c1 => ?_) (fun c1 => ?_)
        · exact absurd c1 (by omega)
        · refine J_aload_n hC dL_law_125 rfl rfl ?_
          refine J_aload_n hC dL_law_126 rfl rfl ?_
          refine jL_80 hC hK rfl ⟨by decide +kernel, by decide +kernel⟩ ⟨rc (by omega), rs (by omega)⟩ (Nat.le_of_ble_eq_true rfl) dL_law_127 ?_
          refine c_X9_kiteCount hK hL0 hO hI  ?_
          dsimp only [Option.toList_some, Option.toList_none, List.cons_append, List.nil_append]
          refine J_top ((r_NK hI).1.trans (congrArg nI b6)) ?_
          refine J_iconst (v := nI 1) hC dL_law_130 (by decide) ?_
          refine J_isub_n hC (by omega) dL_law_131 ?_
          refine jL_86 hC hK rfl ⟨by decide +kernel, by decide +kernel⟩ ⟨rc (by omega), rs (by omega)⟩ (Nat.le_of_ble_eq_true rfl) dL_law_132 ?_
          refine c1_X9_stateOf hK hL0 hO hI (k := nv A 6 + 1 - 1) (by omega) ?_
          dsimp only [Option.toList_some, Option.toList_none, List.cons_append, List.nil_append]
          refine J_top (congrArg nI (show nv (kiteA A (nI x2) (nI y2) (nI l2) (nI o2) (nI v2) (nI p2)) (70 + 9 * (nv A 6 + 1 - 1) + 6) = 0 by rw [Nat.add_sub_cancel]; exact bst)) ?_
          refine J_if_eq_n hC (by decide) (tgt := 140) dL_law_135 rfl (fun _ => ?_) (fun hf => absurd hf (by omega))
          refine J_iload hC dL_law_140 rfl ?_
          refine J_bipush (v := nI 6) hC dL_law_142 (by decide) ?_
          refine J_icmp_eq_n hC (by decide) (by decide) (tgt := 154) dL_law_144 rfl (fun hf => absurd hf (by omega)) (fun _ => ?_)
          refine J_iload hC dL_law_147 rfl ?_
          refine J_bipush (v := nI 7) hC dL_law_149 (by decide) ?_
          refine J_icmp_ne_n hC (by decide) (by decide) (tgt := 239) dL_law_151 rfl (fun _ => ?_) (fun hf => absurd hf (by omega))
          refine J_iload hC dL_law_239 rfl ?_
          refine J_bipush (v := nI 8) hC dL_law_241 (by decide) ?_
          refine J_icmp_ne_n hC (by decide) (by decide) (tgt := 266) dL_law_243 rfl (fun _ => ?_) (fun hf => absurd hf (by omega))
          refine J_iload hC dL_law_266 rfl ?_
          refine J_bipush (v := nI 9) hC dL_law_268 (by decide) ?_
          refine J_icmp_eq_n hC (by decide) (by decide) (tgt := 280) dL_law_270 rfl (fun hf => absurd hf (by omega)) (fun _ => ?_)
          refine J_iload hC dL_law_273 rfl ?_
          refine J_bipush (v := nI 10) hC dL_law_275 (by decide) ?_
          refine J_icmp_ne_n hC (by decide) (by decide) (tgt := 295) dL_law_277 rfl (fun _ => ?_) (fun hf => absurd hf (by omega))
          refine J_iload hC dL_law_295 rfl ?_
          refine J_bipush (v := nI 11) hC dL_law_297 (by decide) ?_
          refine J_icmp_ne_n hC (by decide) (by decide) (tgt := 378) dL_law_299 rfl (fun _ => ?_) (fun hf => absurd hf (by omega))
          refine J_iload hC dL_law_378 rfl ?_
          refine J_bipush (v := nI 12) hC dL_law_380 (by decide) ?_
          refine J_icmp_ne_n hC (by decide) (by decide) (tgt := 448) dL_law_382 rfl (fun _ => ?_) (fun hf => absurd hf (by omega))
          refine J_iload hC dL_law_448 rfl ?_
          refine J_bipush (v := nI 13) hC dL_law_450 (by decide) ?_
          refine J_icmp_ne_n hC (by decide) (by decide) (tgt := 473) dL_law_452 rfl (fun _ => ?_) (fun hf => absurd hf (by omega))
          refine J_widen (k := kc + 100) (n := ks + 600) (by omega) (by omega) ?_
          refine J_less (ls' := [some (.ref (G.2.2.2.2 2)), some (.ref (w.2.1 12 0)), some (.int (nI (r))), none, none, none, none, none, none, none, none]) ⟨Or.inr rfl, Or.inr rfl, Or.inr rfl, Or.inl rfl, Or.inl rfl, Or.inl rfl, Or.inl rfl, Or.inl rfl, Or.inl rfl, Or.inl rfl, Or.inl rfl, trivial⟩ ?_
          exact fin _ _ _ _ (by first | exact LSt_mono hS2 (by omega) (by omega) | exact LSt_mono hS (by omega) (by omega))
      · dsimp only [Option.toList_some, Option.toList_none, List.cons_append, List.nil_append]
        refine J_if_lt hC (tgt := 140) dL_law_122 rfl (fun _ => ?_) (fun hf => absurd hf (by decide))
        refine J_iload hC dL_law_140 rfl ?_
        refine J_bipush (v := nI 6) hC dL_law_142 (by decide) ?_
        refine J_icmp_eq_n hC (by decide) (by decide) (tgt := 154) dL_law_144 rfl (fun hf => absurd hf (by omega)) (fun _ => ?_)
        refine J_iload hC dL_law_147 rfl ?_
        refine J_bipush (v := nI 7) hC dL_law_149 (by decide) ?_
        refine J_icmp_ne_n hC (by decide) (by decide) (tgt := 239) dL_law_151 rfl (fun _ => ?_) (fun hf => absurd hf (by omega))
        refine J_iload hC dL_law_239 rfl ?_
        refine J_bipush (v := nI 8) hC dL_law_241 (by decide) ?_
        refine J_icmp_ne_n hC (by decide) (by decide) (tgt := 266) dL_law_243 rfl (fun _ => ?_) (fun hf => absurd hf (by omega))
        refine J_iload hC dL_law_266 rfl ?_
        refine J_bipush (v := nI 9) hC dL_law_268 (by decide) ?_
        refine J_icmp_eq_n hC (by decide) (by decide) (tgt := 280) dL_law_270 rfl (fun hf => absurd hf (by omega)) (fun _ => ?_)
        refine J_iload hC dL_law_273 rfl ?_
        refine J_bipush (v := nI 10) hC dL_law_275 (by decide) ?_
        refine J_icmp_ne_n hC (by decide) (by decide) (tgt := 295) dL_law_277 rfl (fun _ => ?_) (fun hf => absurd hf (by omega))
        refine J_iload hC dL_law_295 rfl ?_
        refine J_bipush (v := nI 11) hC dL_law_297 (by decide) ?_
        refine J_icmp_ne_n hC (by decide) (by decide) (tgt := 378) dL_law_299 rfl (fun _ => ?_) (fun hf => absurd hf (by omega))
        refine J_iload hC dL_law_378 rfl ?_
        refine J_bipush (v := nI 12) hC dL_law_380 (by decide) ?_
        refine J_icmp_ne_n hC (by decide) (by decide) (tgt := 448) dL_law_382 rfl (fun _ => ?_) (fun hf => absurd hf (by omega))
        refine J_iload hC dL_law_448 rfl ?_
        refine J_bipush (v := nI 13) hC dL_law_450 (by decide) ?_
        refine J_icmp_ne_n hC (by decide) (by decide) (tgt := 473) dL_law_452 rfl (fun _ => ?_) (fun hf => absurd hf (by omega))
        refine J_widen (k := kc + 100) (n := ks + 600) (by omega) (by omega) ?_
        refine J_less (ls' := [some (.ref (G.2.2.2.2 2)), some (.ref (w.2.1 12 0)), some (.int (nI (r))), none, none, none, none, none, none, none, none]) ⟨Or.inr rfl, Or.inr rfl, Or.inr rfl, Or.inl rfl, Or.inl rfl, Or.inl rfl, Or.inl rfl, Or.inl rfl, Or.inl rfl, Or.inl rfl, Or.inl rfl, trivial⟩ ?_
        exact fin _ _ _ _ (by first | exact LSt_mono hS2 (by omega) (by omega) | exact LSt_mono hS (by omega) (by omega))
    · refine J_iload hC dL_law_87 rfl ?_
      refine J_iconst (v := nI 5) hC dL_law_89 (by decide) ?_
      refine J_icmp_ge_n hC (by decide) (by decide) (tgt := 108) dL_law_90 rfl (fun _ => ?_) (fun hf => absurd hf (by omega))
      refine J_iload hC dL_law_108 rfl ?_
      refine J_iconst (v := nI 5) hC dL_law_110 (by decide) ?_
      refine J_icmp_ne_n hC (by decide) (by decide) (tgt := 140) dL_law_111 rfl (fun _ => ?_) (fun hf => absurd hf (by omega))
      refine J_iload hC dL_law_140 rfl ?_
      refine J_bipush (v := nI 6) hC dL_law_142 (by decide) ?_
      refine J_icmp_eq_n hC (by decide) (by decide) (tgt := 154) dL_law_144 rfl (fun _ => ?_) (fun hf => absurd hf (by omega))
      refine J_aload_n hC dL_law_154 rfl rfl ?_
      refine J_iload hC dL_law_155 rfl ?_
      have hks9 := r_KS hI hkv
      refine jL_86 hC hK rfl ⟨by decide +kernel, by decide +kernel⟩ ⟨rc (by omega), rs (by omega)⟩ (Nat.le_of_ble_eq_true rfl) dL_law_157 ?_
      refine c1_X9_stateOf hK hL0 hO hI hkv ?_
      dsimp only [Option.toList_some, Option.toList_none, List.cons_append, List.nil_append]
      refine J_if_ne_n hC (by omega) (tgt := 180) dL_law_160 rfl (fun s0 => ?_) (fun s0 => ?_)
      · refine J_iconst (v := nI 0) hC dL_law_180 (by decide) ?_
        refine J_istore hC dL_law_181 (Nat.le_of_ble_eq_true rfl) rfl ?_
        dsimp only [List.set]
        refine J_aload_n hC dL_law_183 rfl rfl ?_
        refine J_iload hC dL_law_184 rfl ?_
        refine jL_122 hC rfl ⟨by decide +kernel, by decide +kernel⟩ ⟨rc (by omega), rs (by omega)⟩ (Nat.le_of_ble_eq_true rfl) dL_law_186 ?_
        refine c_L_launch hW hS (by omega) (by omega) hkv (fun q σ2 px2 u2 hS2 => ?_) (fun q => ?_)
        · exact absurd q.1 s0
        · dsimp only [Option.toList_some, Option.toList_none, List.cons_append, List.nil_append]
          refine J_istore hC dL_law_189 (Nat.le_of_ble_eq_true rfl) rfl ?_
          dsimp only [List.set]
          refine J_iload hC dL_law_191 rfl ?_
          refine J_iload hC dL_law_193 rfl ?_
          refine J_iconst (v := nI 1) hC dL_law_195 (by decide) ?_
          refine J_icmp_lt hC (tgt := 203) dL_law_196 rfl (fun _ => ?_) (fun hf => absurd hf (by decide))
          refine J_iconst (v := nI 0) hC dL_law_203 (by decide) ?_
          refine J_icmp_ne_n hC (by decide) (by decide) (tgt := 237) dL_law_204 rfl (fun hf => absurd hf (by omega)) (fun _ => ?_)
          refine J_iload hC dL_law_207 rfl ?_
          refine J_if_eq_n hC (by decide) (tgt := 239) dL_law_209 rfl (fun _ => ?_) (fun hf => absurd hf (by omega))
          refine J_iload hC dL_law_239 rfl ?_
          refine J_bipush (v := nI 8) hC dL_law_241 (by decide) ?_
          refine J_icmp_ne_n hC (by decide) (by decide) (tgt := 266) dL_law_243 rfl (fun _ => ?_) (fun hf => absurd hf (by omega))
          refine J_iload hC dL_law_266 rfl ?_
          refine J_bipush (v := nI 9) hC dL_law_268 (by decide) ?_
          refine J_icmp_eq_n hC (by decide) (by decide) (tgt := 280) dL_law_270 rfl (fun hf => absurd hf (by omega)) (fun _ => ?_)
          refine J_iload hC dL_law_273 rfl ?_
          refine J_bipush (v := nI 10) hC dL_law_275 (by decide) ?_
          refine J_icmp_ne_n hC (by decide) (by decide) (tgt := 295) dL_law_277 rfl (fun _ => ?_) (fun hf => absurd hf (by omega))
          refine J_iload hC dL_law_295 rfl ?_
          refine J_bipush (v := nI 11) hC dL_law_297 (by decide) ?_
          refine J_icmp_ne_n hC (by decide) (by decide) (tgt := 378) dL_law_299 rfl (fun _ => ?_) (fun hf => absurd hf (by omega))
          refine J_iload hC dL_law_378 rfl ?_
          refine J_bipush (v := nI 12) hC dL_law_380 (by decide) ?_
          refine J_icmp_ne_n hC (by decide) (by decide) (tgt := 448) dL_law_382 rfl (fun _ => ?_) (fun hf => absurd hf (by omega))
          refine J_iload hC dL_law_448 rfl ?_
          refine J_bipush (v := nI 13) hC dL_law_450 (by decide) ?_
          refine J_icmp_ne_n hC (by decide) (by decide) (tgt := 473) dL_law_452 rfl (fun _ => ?_) (fun hf => absurd hf (by omega))
          refine J_widen (k := kc + 100) (n := ks + 600) (by omega) (by omega) ?_
          refine J_less (ls' := [some (.ref (G.2.2.2.2 2)), some (.ref (w.2.1 12 0)), some (.int (nI (r))), none, none, none, none, none, none, none, none]) ⟨Or.inr rfl, Or.inr rfl, Or.inr rfl, Or.inl rfl, Or.inl rfl, Or.inl rfl, Or.inl rfl, Or.inl rfl, Or.inl rfl, Or.inl rfl, Or.inl rfl, trivial⟩ ?_
          exact fin _ _ _ _ (by first | exact LSt_mono hS2 (by omega) (by omega) | exact LSt_mono hS (by omega) (by omega))
      · refine J_aload_n hC dL_law_163 rfl rfl ?_
        refine J_iload hC dL_law_164 rfl ?_
        refine J_aload_n hC dL_law_166 rfl rfl ?_
        refine jL_39 hC hK rfl ⟨by decide +kernel, by decide +kernel⟩ ⟨rc (by omega), rs (by omega)⟩ (Nat.le_of_ble_eq_true rfl) dL_law_167 ?_
        refine c_X9_hour hK hL0 hO hI  ?_
        dsimp only [Option.toList_some, Option.toList_none, List.cons_append, List.nil_append]
        refine J_top (r_HOUR hI).1 ?_
        refine jL_64 hC hK rfl ⟨by decide +kernel, by decide +kernel⟩ ⟨rc (by omega), rs (by omega)⟩ (Nat.le_of_ble_eq_true rfl) dL_law_170 ?_
        refine c1_X9_canFly hK hL0 hO hI hkv (by omega) ?_
        dsimp only [Option.toList_some, Option.toList_none, List.cons_append, List.nil_append]
        refine J_if_eq_n hC (by have := ct_le (fliesN A kv (nv A 7)); omega) (tgt := 180) dL_law_173 rfl (fun f0 => ?_) (fun f0 => ?_)
        · refine J_iconst (v := nI 0) hC dL_law_180 (by decide) ?_
          refine J_istore hC dL_law_181 (Nat.le_of_ble_eq_true rfl) rfl ?_
          dsimp only [List.set]
          refine J_aload_n hC dL_law_183 rfl rfl ?_
          refine J_iload hC dL_law_184 rfl ?_
          refine jL_122 hC rfl ⟨by decide +kernel, by decide +kernel⟩ ⟨rc (by omega), rs (by omega)⟩ (Nat.le_of_ble_eq_true rfl) dL_law_186 ?_
          refine c_L_launch hW hS (by omega) (by omega) hkv (fun q σ2 px2 u2 hS2 => ?_) (fun q => ?_)
          · exact absurd q.2 (ct_0 f0)
          · dsimp only [Option.toList_some, Option.toList_none, List.cons_append, List.nil_append]
            refine J_istore hC dL_law_189 (Nat.le_of_ble_eq_true rfl) rfl ?_
            dsimp only [List.set]
            refine J_iload hC dL_law_191 rfl ?_
            refine J_iload hC dL_law_193 rfl ?_
            refine J_iconst (v := nI 1) hC dL_law_195 (by decide) ?_
            refine J_icmp_lt hC (tgt := 203) dL_law_196 rfl (fun _ => ?_) (fun hf => absurd hf (by decide))
            refine J_iconst (v := nI 0) hC dL_law_203 (by decide) ?_
            refine J_icmp_ne_n hC (by decide) (by decide) (tgt := 237) dL_law_204 rfl (fun hf => absurd hf (by omega)) (fun _ => ?_)
            refine J_iload hC dL_law_207 rfl ?_
            refine J_if_eq_n hC (by decide) (tgt := 239) dL_law_209 rfl (fun _ => ?_) (fun hf => absurd hf (by omega))
            refine J_iload hC dL_law_239 rfl ?_
            refine J_bipush (v := nI 8) hC dL_law_241 (by decide) ?_
            refine J_icmp_ne_n hC (by decide) (by decide) (tgt := 266) dL_law_243 rfl (fun _ => ?_) (fun hf => absurd hf (by omega))
            refine J_iload hC dL_law_266 rfl ?_
            refine J_bipush (v := nI 9) hC dL_law_268 (by decide) ?_
            refine J_icmp_eq_n hC (by decide) (by decide) (tgt := 280) dL_law_270 rfl (fun hf => absurd hf (by omega)) (fun _ => ?_)
            refine J_iload hC dL_law_273 rfl ?_
            refine J_bipush (v := nI 10) hC dL_law_275 (by decide) ?_
            refine J_icmp_ne_n hC (by decide) (by decide) (tgt := 295) dL_law_277 rfl (fun _ => ?_) (fun hf => absurd hf (by omega))
            refine J_iload hC dL_law_295 rfl ?_
            refine J_bipush (v := nI 11) hC dL_law_297 (by decide) ?_
            refine J_icmp_ne_n hC (by decide) (by decide) (tgt := 378) dL_law_299 rfl (fun _ => ?_) (fun hf => absurd hf (by omega))
            refine J_iload hC dL_law_378 rfl ?_
            refine J_bipush (v := nI 12) hC dL_law_380 (by decide) ?_
            refine J_icmp_ne_n hC (by decide) (by decide) (tgt := 448) dL_law_382 rfl (fun _ => ?_) (fun hf => absurd hf (by omega))
            refine J_iload hC dL_law_448 rfl ?_
            refine J_bipush (v := nI 13) hC dL_law_450 (by decide) ?_
            refine J_icmp_ne_n hC (by decide) (by decide) (tgt := 473) dL_law_452 rfl (fun _ => ?_) (fun hf => absurd hf (by omega))
            refine J_widen (k := kc + 100) (n := ks + 600) (by omega) (by omega) ?_
            refine J_less (ls' := [some (.ref (G.2.2.2.2 2)), some (.ref (w.2.1 12 0)), some (.int (nI (r))), none, none, none, none, none, none, none, none]) ⟨Or.inr rfl, Or.inr rfl, Or.inr rfl, Or.inl rfl, Or.inl rfl, Or.inl rfl, Or.inl rfl, Or.inl rfl, Or.inl rfl, Or.inl rfl, Or.inl rfl, trivial⟩ ?_
            exact fin _ _ _ _ (by first | exact LSt_mono hS2 (by omega) (by omega) | exact LSt_mono hS (by omega) (by omega))
        · refine J_iconst (v := nI 1) hC dL_law_176 (by decide) ?_
          refine J_goto (tgt := 181) hC dL_law_177 rfl ?_
          refine J_istore hC dL_law_181 (Nat.le_of_ble_eq_true rfl) rfl ?_
          dsimp only [List.set]
          refine J_aload_n hC dL_law_183 rfl rfl ?_
          refine J_iload hC dL_law_184 rfl ?_
          refine jL_122 hC rfl ⟨by decide +kernel, by decide +kernel⟩ ⟨rc (by omega), rs (by omega)⟩ (Nat.le_of_ble_eq_true rfl) dL_law_186 ?_
          refine c_L_launch hW hS (by omega) (by omega) hkv (fun q σ2 px2 u2 hS2 => ?_) (fun q => ?_)
          · dsimp only [Option.toList_some, Option.toList_none, List.cons_append, List.nil_append]
            obtain ⟨hO, hV, hpx9, hu9, hn99, hc99, hz9⟩ := id hS2
            obtain ⟨hI, hX2, hCo, hT, hF, hP, hE⟩ := hV
            have h62 := r_NK hI
            have h72 := r_HOUR hI
            have hre : 1 ≤ reachN A kv (nv A 7) := q.2.1
            have hre2 := reachW_le hI0 hkv (nv A (70 + 9 * kv + 4)) (nv A 7)
            have hre2 : reachN A kv (nv A 7) ≤ 60 := hre2
            have bst : nv (launchA A kv) (70 + 9 * kv + 6) = 1 := nv_of (by unfold launchA; rw [upd_n (by omega), upd_n (by omega), upd_s]) (by omega)
            have hsm : same A (launchA A kv) := same_tr (same_tr (same_upd (ncore_k (by omega) (by omega))) (same_upd (ncore_n (by omega)))) (same_upd (ncore_k (by omega) (by omega)))
            have b7 : nv (launchA A kv) 7 = nv A 7 := same_n hsm (by omega)
            have b6 : nv (launchA A kv) 6 = nv A 6 := same_n hsm (by omega)
            have bre : reachN (launchA A kv) kv (nv A 7) = reachN A kv (nv A 7) := gk_reachN hI0 (same_geoK hsm (by omega)) hkv _
            refine J_istore hC dL_law_189 (Nat.le_of_ble_eq_true rfl) rfl ?_
            dsimp only [List.set]
            refine J_iload hC dL_law_191 rfl ?_
            refine J_iload hC dL_law_193 rfl ?_
            refine J_iconst (v := nI 1) hC dL_law_195 (by decide) ?_
            refine J_icmp_lt_n hC (by omega) (by decide) (tgt := 203) dL_law_196 rfl (fun c1 => ?_) (fun c1 => ?_)
            · exact absurd c1 (by omega)
            · refine J_iconst (v := nI 1) hC dL_law_199 (by decide) ?_
              refine J_goto (tgt := 204) hC dL_law_200 rfl ?_
              refine J_icmp_ne_n hC (by decide) (by decide) (tgt := 237) dL_law_204 rfl (fun hf => absurd hf (by omega)) (fun _ => ?_)
              refine J_iload hC dL_law_207 rfl ?_
              refine J_if_eq_n hC (by decide) (tgt := 239) dL_law_209 rfl (fun hf => absurd hf (by omega)) (fun _ => ?_)
              refine J_aload_n hC dL_law_212 rfl rfl ?_
              refine J_iload hC dL_law_213 rfl ?_
              refine jL_86 hC hK rfl ⟨by decide +kernel, by decide +kernel⟩ ⟨rc (by omega), rs (by omega)⟩ (Nat.le_of_ble_eq_true rfl) dL_law_215 ?_
              refine c1_X9_stateOf hK hL0 hO hI (by omega) ?_
              dsimp only [Option.toList_some, Option.toList_none, List.cons_append, List.nil_append]
              refine J_top (congrArg nI bst) ?_
              refine J_iconst (v := nI 1) hC dL_law_218 (by decide) ?_
              refine J_icmp_ne_n hC (by decide) (by decide) (tgt := 237) dL_law_219 rfl (fun hf => absurd hf (by omega)) (fun _ => ?_)
              refine J_iload hC dL_law_222 rfl ?_
              refine J_aload_n hC dL_law_224 rfl rfl ?_
              refine J_iload hC dL_law_225 rfl ?_
              refine J_aload_n hC dL_law_227 rfl rfl ?_
              refine jL_39 hC hK rfl ⟨by decide +kernel, by decide +kernel⟩ ⟨rc (by omega), rs (by omega)⟩ (Nat.le_of_ble_eq_true rfl) dL_law_228 ?_
              refine c_X9_hour hK hL0 hO hI  ?_
              dsimp only [Option.toList_some, Option.toList_none, List.cons_append, List.nil_append]
              refine J_top ((r_HOUR hI).1.trans (congrArg nI b7)) ?_
              refine jL_125 hC hK rfl ⟨by decide +kernel, by decide +kernel⟩ ⟨rc (by omega), rs (by omega)⟩ (Nat.le_of_ble_eq_true rfl) dL_law_231 ?_
              refine c1_X9_reach hK hL0 hO hI (by omega) (by omega) ?_
              dsimp only [Option.toList_some, Option.toList_none, List.cons_append, List.nil_append]
              refine J_top (congrArg nI bre) ?_
              refine J_icmp_eq_n hC (by omega) (by omega) (tgt := 239) dL_law_234 rfl (fun c2 => ?_) (fun c2 => ?_)
              · refine J_iload hC dL_law_239 rfl ?_
                refine J_bipush (v := nI 8) hC dL_law_241 (by decide) ?_
                refine J_icmp_ne_n hC (by decide) (by decide) (tgt := 266) dL_law_243 rfl (fun _ => ?_) (fun hf => absurd hf (by omega))
                refine J_iload hC dL_law_266 rfl ?_
                refine J_bipush (v := nI 9) hC dL_law_268 (by decide) ?_
                refine J_icmp_eq_n hC (by decide) (by decide) (tgt := 280) dL_law_270 rfl (fun hf => absurd hf (by omega)) (fun _ => ?_)
                refine J_iload hC dL_law_273 rfl ?_
                refine J_bipush (v := nI 10) hC dL_law_275 (by decide) ?_
                refine J_icmp_ne_n hC (by decide) (by decide) (tgt := 295) dL_law_277 rfl (fun _ => ?_) (fun hf => absurd hf (by omega))
                refine J_iload hC dL_law_295 rfl ?_
                refine J_bipush (v := nI 11) hC dL_law_297 (by decide) ?_
                refine J_icmp_ne_n hC (by decide) (by decide) (tgt := 378) dL_law_299 rfl (fun _ => ?_) (fun hf => absurd hf (by omega))
                refine J_iload hC dL_law_378 rfl ?_
                refine J_bipush (v := nI 12) hC dL_law_380 (by decide) ?_
                refine J_icmp_ne_n hC (by decide) (by decide) (tgt := 448) dL_law_382 rfl (fun _ => ?_) (fun hf => absurd hf (by omega))
                refine J_iload hC dL_law_448 rfl ?_
                refine J_bipush (v := nI 13) hC dL_law_450 (by decide) ?_
                refine J_icmp_ne_n hC (by decide) (by decide) (tgt := 473) dL_law_452 rfl (fun _ => ?_) (fun hf => absurd hf (by omega))
                refine J_widen (k := kc + 100) (n := ks + 600) (by omega) (by omega) ?_
                refine J_less (ls' := [some (.ref (G.2.2.2.2 2)), some (.ref (w.2.1 12 0)), some (.int (nI (r))), none, none, none, none, none, none, none, none]) ⟨Or.inr rfl, Or.inr rfl, Or.inr rfl, Or.inl rfl, Or.inl rfl, Or.inl rfl, Or.inl rfl, Or.inl rfl, Or.inl rfl, Or.inl rfl, Or.inl rfl, trivial⟩ ?_
                exact fin _ _ _ _ (by first | exact LSt_mono hS2 (by omega) (by omega) | exact LSt_mono hS (by omega) (by omega))
              · exact absurd rfl c2
          · exact absurd ⟨s0, ct_1 f0⟩ q
    · refine J_iload hC dL_law_87 rfl ?_
      refine J_iconst (v := nI 5) hC dL_law_89 (by decide) ?_
      refine J_icmp_ge_n hC (by decide) (by decide) (tgt := 108) dL_law_90 rfl (fun _ => ?_) (fun hf => absurd hf (by omega))
      refine J_iload hC dL_law_108 rfl ?_
      refine J_iconst (v := nI 5) hC dL_law_110 (by decide) ?_
      refine J_icmp_ne_n hC (by decide) (by decide) (tgt := 140) dL_law_111 rfl (fun _ => ?_) (fun hf => absurd hf (by omega))
      refine J_iload hC dL_law_140 rfl ?_
      refine J_bipush (v := nI 6) hC dL_law_142 (by decide) ?_
      refine J_icmp_eq_n hC (by decide) (by decide) (tgt := 154) dL_law_144 rfl (fun hf => absurd hf (by omega)) (fun _ => ?_)
      refine J_iload hC dL_law_147 rfl ?_
      refine J_bipush (v := nI 7) hC dL_law_149 (by decide) ?_
      refine J_icmp_ne_n hC (by decide) (by decide) (tgt := 239) dL_law_151 rfl (fun hf => absurd hf (by omega)) (fun _ => ?_)
      refine J_aload_n hC dL_law_154 rfl rfl ?_
      refine J_iload hC dL_law_155 rfl ?_
      have hks9 := r_KS hI hkv
      refine jL_86 hC hK rfl ⟨by decide +kernel, by decide +kernel⟩ ⟨rc (by omega), rs (by omega)⟩ (Nat.le_of_ble_eq_true rfl) dL_law_157 ?_
      refine c1_X9_stateOf hK hL0 hO hI hkv ?_
      dsimp only [Option.toList_some, Option.toList_none, List.cons_append, List.nil_append]
      refine J_if_ne_n hC (by omega) (tgt := 180) dL_law_160 rfl (fun s0 => ?_) (fun s0 => ?_)
      · refine J_iconst (v := nI 0) hC dL_law_180 (by decide) ?_
        refine J_istore hC dL_law_181 (Nat.le_of_ble_eq_true rfl) rfl ?_
        dsimp only [List.set]
        refine J_aload_n hC dL_law_183 rfl rfl ?_
        refine J_iload hC dL_law_184 rfl ?_
        refine jL_122 hC rfl ⟨by decide +kernel, by decide +kernel⟩ ⟨rc (by omega), rs (by omega)⟩ (Nat.le_of_ble_eq_true rfl) dL_law_186 ?_
        refine c_L_launch hW hS (by omega) (by omega) hkv (fun q σ2 px2 u2 hS2 => ?_) (fun q => ?_)
        · exact absurd q.1 s0
        · dsimp only [Option.toList_some, Option.toList_none, List.cons_append, List.nil_append]
          refine J_istore hC dL_law_189 (Nat.le_of_ble_eq_true rfl) rfl ?_
          dsimp only [List.set]
          refine J_iload hC dL_law_191 rfl ?_
          refine J_iload hC dL_law_193 rfl ?_
          refine J_iconst (v := nI 1) hC dL_law_195 (by decide) ?_
          refine J_icmp_lt hC (tgt := 203) dL_law_196 rfl (fun _ => ?_) (fun hf => absurd hf (by decide))
          refine J_iconst (v := nI 0) hC dL_law_203 (by decide) ?_
          refine J_icmp_ne_n hC (by decide) (by decide) (tgt := 237) dL_law_204 rfl (fun hf => absurd hf (by omega)) (fun _ => ?_)
          refine J_iload hC dL_law_207 rfl ?_
          refine J_if_eq_n hC (by decide) (tgt := 239) dL_law_209 rfl (fun _ => ?_) (fun hf => absurd hf (by omega))
          refine J_iload hC dL_law_239 rfl ?_
          refine J_bipush (v := nI 8) hC dL_law_241 (by decide) ?_
          refine J_icmp_ne_n hC (by decide) (by decide) (tgt := 266) dL_law_243 rfl (fun _ => ?_) (fun hf => absurd hf (by omega))
          refine J_iload hC dL_law_266 rfl ?_
          refine J_bipush (v := nI 9) hC dL_law_268 (by decide) ?_
          refine J_icmp_eq_n hC (by decide) (by decide) (tgt := 280) dL_law_270 rfl (fun hf => absurd hf (by omega)) (fun _ => ?_)
          refine J_iload hC dL_law_273 rfl ?_
          refine J_bipush (v := nI 10) hC dL_law_275 (by decide) ?_
          refine J_icmp_ne_n hC (by decide) (by decide) (tgt := 295) dL_law_277 rfl (fun _ => ?_) (fun hf => absurd hf (by omega))
          refine J_iload hC dL_law_295 rfl ?_
          refine J_bipush (v := nI 11) hC dL_law_297 (by decide) ?_
          refine J_icmp_ne_n hC (by decide) (by decide) (tgt := 378) dL_law_299 rfl (fun _ => ?_) (fun hf => absurd hf (by omega))
          refine J_iload hC dL_law_378 rfl ?_
          refine J_bipush (v := nI 12) hC dL_law_380 (by decide) ?_
          refine J_icmp_ne_n hC (by decide) (by decide) (tgt := 448) dL_law_382 rfl (fun _ => ?_) (fun hf => absurd hf (by omega))
          refine J_iload hC dL_law_448 rfl ?_
          refine J_bipush (v := nI 13) hC dL_law_450 (by decide) ?_
          refine J_icmp_ne_n hC (by decide) (by decide) (tgt := 473) dL_law_452 rfl (fun _ => ?_) (fun hf => absurd hf (by omega))
          refine J_widen (k := kc + 100) (n := ks + 600) (by omega) (by omega) ?_
          refine J_less (ls' := [some (.ref (G.2.2.2.2 2)), some (.ref (w.2.1 12 0)), some (.int (nI (r))), none, none, none, none, none, none, none, none]) ⟨Or.inr rfl, Or.inr rfl, Or.inr rfl, Or.inl rfl, Or.inl rfl, Or.inl rfl, Or.inl rfl, Or.inl rfl, Or.inl rfl, Or.inl rfl, Or.inl rfl, trivial⟩ ?_
          exact fin _ _ _ _ (by first | exact LSt_mono hS2 (by omega) (by omega) | exact LSt_mono hS (by omega) (by omega))
      · refine J_aload_n hC dL_law_163 rfl rfl ?_
        refine J_iload hC dL_law_164 rfl ?_
        refine J_aload_n hC dL_law_166 rfl rfl ?_
        refine jL_39 hC hK rfl ⟨by decide +kernel, by decide +kernel⟩ ⟨rc (by omega), rs (by omega)⟩ (Nat.le_of_ble_eq_true rfl) dL_law_167 ?_
        refine c_X9_hour hK hL0 hO hI  ?_
        dsimp only [Option.toList_some, Option.toList_none, List.cons_append, List.nil_append]
        refine J_top (r_HOUR hI).1 ?_
        refine jL_64 hC hK rfl ⟨by decide +kernel, by decide +kernel⟩ ⟨rc (by omega), rs (by omega)⟩ (Nat.le_of_ble_eq_true rfl) dL_law_170 ?_
        refine c1_X9_canFly hK hL0 hO hI hkv (by omega) ?_
        dsimp only [Option.toList_some, Option.toList_none, List.cons_append, List.nil_append]
        refine J_if_eq_n hC (by have := ct_le (fliesN A kv (nv A 7)); omega) (tgt := 180) dL_law_173 rfl (fun f0 => ?_) (fun f0 => ?_)
        · refine J_iconst (v := nI 0) hC dL_law_180 (by decide) ?_
          refine J_istore hC dL_law_181 (Nat.le_of_ble_eq_true rfl) rfl ?_
          dsimp only [List.set]
          refine J_aload_n hC dL_law_183 rfl rfl ?_
          refine J_iload hC dL_law_184 rfl ?_
          refine jL_122 hC rfl ⟨by decide +kernel, by decide +kernel⟩ ⟨rc (by omega), rs (by omega)⟩ (Nat.le_of_ble_eq_true rfl) dL_law_186 ?_
          refine c_L_launch hW hS (by omega) (by omega) hkv (fun q σ2 px2 u2 hS2 => ?_) (fun q => ?_)
          · exact absurd q.2 (ct_0 f0)
          · dsimp only [Option.toList_some, Option.toList_none, List.cons_append, List.nil_append]
            refine J_istore hC dL_law_189 (Nat.le_of_ble_eq_true rfl) rfl ?_
            dsimp only [List.set]
            refine J_iload hC dL_law_191 rfl ?_
            refine J_iload hC dL_law_193 rfl ?_
            refine J_iconst (v := nI 1) hC dL_law_195 (by decide) ?_
            refine J_icmp_lt hC (tgt := 203) dL_law_196 rfl (fun _ => ?_) (fun hf => absurd hf (by decide))
            refine J_iconst (v := nI 0) hC dL_law_203 (by decide) ?_
            refine J_icmp_ne_n hC (by decide) (by decide) (tgt := 237) dL_law_204 rfl (fun hf => absurd hf (by omega)) (fun _ => ?_)
            refine J_iload hC dL_law_207 rfl ?_
            refine J_if_eq_n hC (by decide) (tgt := 239) dL_law_209 rfl (fun _ => ?_) (fun hf => absurd hf (by omega))
            refine J_iload hC dL_law_239 rfl ?_
            refine J_bipush (v := nI 8) hC dL_law_241 (by decide) ?_
            refine J_icmp_ne_n hC (by decide) (by decide) (tgt := 266) dL_law_243 rfl (fun _ => ?_) (fun hf => absurd hf (by omega))
            refine J_iload hC dL_law_266 rfl ?_
            refine J_bipush (v := nI 9) hC dL_law_268 (by decide) ?_
            refine J_icmp_eq_n hC (by decide) (by decide) (tgt := 280) dL_law_270 rfl (fun hf => absurd hf (by omega)) (fun _ => ?_)
            refine J_iload hC dL_law_273 rfl ?_
            refine J_bipush (v := nI 10) hC dL_law_275 (by decide) ?_
            refine J_icmp_ne_n hC (by decide) (by decide) (tgt := 295) dL_law_277 rfl (fun _ => ?_) (fun hf => absurd hf (by omega))
            refine J_iload hC dL_law_295 rfl ?_
            refine J_bipush (v := nI 11) hC dL_law_297 (by decide) ?_
            refine J_icmp_ne_n hC (by decide) (by decide) (tgt := 378) dL_law_299 rfl (fun _ => ?_) (fun hf => absurd hf (by omega))
            refine J_iload hC dL_law_378 rfl ?_
            refine J_bipush (v := nI 12) hC dL_law_380 (by decide) ?_
            refine J_icmp_ne_n hC (by decide) (by decide) (tgt := 448) dL_law_382 rfl (fun _ => ?_) (fun hf => absurd hf (by omega))
            refine J_iload hC dL_law_448 rfl ?_
            refine J_bipush (v := nI 13) hC dL_law_450 (by decide) ?_
            refine J_icmp_ne_n hC (by decide) (by decide) (tgt := 473) dL_law_452 rfl (fun _ => ?_) (fun hf => absurd hf (by omega))
            refine J_widen (k := kc + 100) (n := ks + 600) (by omega) (by omega) ?_
            refine J_less (ls' := [some (.ref (G.2.2.2.2 2)), some (.ref (w.2.1 12 0)), some (.int (nI (r))), none, none, none, none, none, none, none, none]) ⟨Or.inr rfl, Or.inr rfl, Or.inr rfl, Or.inl rfl, Or.inl rfl, Or.inl rfl, Or.inl rfl, Or.inl rfl, Or.inl rfl, Or.inl rfl, Or.inl rfl, trivial⟩ ?_
            exact fin _ _ _ _ (by first | exact LSt_mono hS2 (by omega) (by omega) | exact LSt_mono hS (by omega) (by omega))
        · refine J_iconst (v := nI 1) hC dL_law_176 (by decide) ?_
          refine J_goto (tgt := 181) hC dL_law_177 rfl ?_
          refine J_istore hC dL_law_181 (Nat.le_of_ble_eq_true rfl) rfl ?_
          dsimp only [List.set]
          refine J_aload_n hC dL_law_183 rfl rfl ?_
          refine J_iload hC dL_law_184 rfl ?_
          refine jL_122 hC rfl ⟨by decide +kernel, by decide +kernel⟩ ⟨rc (by omega), rs (by omega)⟩ (Nat.le_of_ble_eq_true rfl) dL_law_186 ?_
          refine c_L_launch hW hS (by omega) (by omega) hkv (fun q σ2 px2 u2 hS2 => ?_) (fun q => ?_)
          · dsimp only [Option.toList_some, Option.toList_none, List.cons_append, List.nil_append]
            obtain ⟨hO, hV, hpx9, hu9, hn99, hc99, hz9⟩ := id hS2
            obtain ⟨hI, hX2, hCo, hT, hF, hP, hE⟩ := hV
            have h62 := r_NK hI
            have h72 := r_HOUR hI
            have hre : 1 ≤ reachN A kv (nv A 7) := q.2.1
            have hre2 := reachW_le hI0 hkv (nv A (70 + 9 * kv + 4)) (nv A 7)
            have hre2 : reachN A kv (nv A 7) ≤ 60 := hre2
            have bst : nv (launchA A kv) (70 + 9 * kv + 6) = 1 := nv_of (by unfold launchA; rw [upd_n (by omega), upd_n (by omega), upd_s]) (by omega)
            have hsm : same A (launchA A kv) := same_tr (same_tr (same_upd (ncore_k (by omega) (by omega))) (same_upd (ncore_n (by omega)))) (same_upd (ncore_k (by omega) (by omega)))
            have b7 : nv (launchA A kv) 7 = nv A 7 := same_n hsm (by omega)
            have b6 : nv (launchA A kv) 6 = nv A 6 := same_n hsm (by omega)
            have bre : reachN (launchA A kv) kv (nv A 7) = reachN A kv (nv A 7) := gk_reachN hI0 (same_geoK hsm (by omega)) hkv _
            refine J_istore hC dL_law_189 (Nat.le_of_ble_eq_true rfl) rfl ?_
            dsimp only [List.set]
            refine J_iload hC dL_law_191 rfl ?_
            refine J_iload hC dL_law_193 rfl ?_
            refine J_iconst (v := nI 1) hC dL_law_195 (by decide) ?_
            refine J_icmp_lt_n hC (by omega) (by decide) (tgt := 203) dL_law_196 rfl (fun c1 => ?_) (fun c1 => ?_)
            · exact absurd c1 (by omega)
            · refine J_iconst (v := nI 1) hC dL_law_199 (by decide) ?_
              refine J_goto (tgt := 204) hC dL_law_200 rfl ?_
              refine J_icmp_ne_n hC (by decide) (by decide) (tgt := 237) dL_law_204 rfl (fun hf => absurd hf (by omega)) (fun _ => ?_)
              refine J_iload hC dL_law_207 rfl ?_
              refine J_if_eq_n hC (by decide) (tgt := 239) dL_law_209 rfl (fun hf => absurd hf (by omega)) (fun _ => ?_)
              refine J_aload_n hC dL_law_212 rfl rfl ?_
              refine J_iload hC dL_law_213 rfl ?_
              refine jL_86 hC hK rfl ⟨by decide +kernel, by decide +kernel⟩ ⟨rc (by omega), rs (by omega)⟩ (Nat.le_of_ble_eq_true rfl) dL_law_215 ?_
              refine c1_X9_stateOf hK hL0 hO hI (by omega) ?_
              dsimp only [Option.toList_some, Option.toList_none, List.cons_append, List.nil_append]
              refine J_top (congrArg nI bst) ?_
              refine J_iconst (v := nI 1) hC dL_law_218 (by decide) ?_
              refine J_icmp_ne_n hC (by decide) (by decide) (tgt := 237) dL_law_219 rfl (fun hf => absurd hf (by omega)) (fun _ => ?_)
              refine J_iload hC dL_law_222 rfl ?_
              refine J_aload_n hC dL_law_224 rfl rfl ?_
              refine J_iload hC dL_law_225 rfl ?_
              refine J_aload_n hC dL_law_227 rfl rfl ?_
              refine jL_39 hC hK rfl ⟨by decide +kernel, by decide +kernel⟩ ⟨rc (by omega), rs (by omega)⟩ (Nat.le_of_ble_eq_true rfl) dL_law_228 ?_
              refine c_X9_hour hK hL0 hO hI  ?_
              dsimp only [Option.toList_some, Option.toList_none, List.cons_append, List.nil_append]
              refine J_top ((r_HOUR hI).1.trans (congrArg nI b7)) ?_
              refine jL_125 hC hK rfl ⟨by decide +kernel, by decide +kernel⟩ ⟨rc (by omega), rs (by omega)⟩ (Nat.le_of_ble_eq_true rfl) dL_law_231 ?_
              refine c1_X9_reach hK hL0 hO hI (by omega) (by omega) ?_
              dsimp only [Option.toList_some, Option.toList_none, List.cons_append, List.nil_append]
              refine J_top (congrArg nI bre) ?_
              refine J_icmp_eq_n hC (by omega) (by omega) (tgt := 239) dL_law_234 rfl (fun c2 => ?_) (fun c2 => ?_)
              · refine J_iload hC dL_law_239 rfl ?_
                refine J_bipush (v := nI 8) hC dL_law_241 (by decide) ?_
                refine J_icmp_ne_n hC (by decide) (by decide) (tgt := 266) dL_law_243 rfl (fun _ => ?_) (fun hf => absurd hf (by omega))
                refine J_iload hC dL_law_266 rfl ?_
                refine J_bipush (v := nI 9) hC dL_law_268 (by decide) ?_
                refine J_icmp_eq_n hC (by decide) (by decide) (tgt := 280) dL_law_270 rfl (fun hf => absurd hf (by omega)) (fun _ => ?_)
                refine J_iload hC dL_law_273 rfl ?_
                refine J_bipush (v := nI 10) hC dL_law_275 (by decide) ?_
                refine J_icmp_ne_n hC (by decide) (by decide) (tgt := 295) dL_law_277 rfl (fun _ => ?_) (fun hf => absurd hf (by omega))
                refine J_iload hC dL_law_295 rfl ?_
                refine J_bipush (v := nI 11) hC dL_law_297 (by decide) ?_
                refine J_icmp_ne_n hC (by decide) (by decide) (tgt := 378) dL_law_299 rfl (fun _ => ?_) (fun hf => absurd hf (by omega))
                refine J_iload hC dL_law_378 rfl ?_
                refine J_bipush (v := nI 12) hC dL_law_380 (by decide) ?_
                refine J_icmp_ne_n hC (by decide) (by decide) (tgt := 448) dL_law_382 rfl (fun _ => ?_) (fun hf => absurd hf (by omega))
                refine J_iload hC dL_law_448 rfl ?_
                refine J_bipush (v := nI 13) hC dL_law_450 (by decide) ?_
                refine J_icmp_ne_n hC (by decide) (by decide) (tgt := 473) dL_law_452 rfl (fun _ => ?_) (fun hf => absurd hf (by omega))
                refine J_widen (k := kc + 100) (n := ks + 600) (by omega) (by omega) ?_
                refine J_less (ls' := [some (.ref (G.2.2.2.2 2)), some (.ref (w.2.1 12 0)), some (.int (nI (r))), none, none, none, none, none, none, none, none]) ⟨Or.inr rfl, Or.inr rfl, Or.inr rfl, Or.inl rfl, Or.inl rfl, Or.inl rfl, Or.inl rfl, Or.inl rfl, Or.inl rfl, Or.inl rfl, Or.inl rfl, trivial⟩ ?_
                exact fin _ _ _ _ (by first | exact LSt_mono hS2 (by omega) (by omega) | exact LSt_mono hS (by omega) (by omega))
              · exact absurd rfl c2
          · exact absurd ⟨s0, ct_1 f0⟩ q
    · refine J_iload hC dL_law_87 rfl ?_
      refine J_iconst (v := nI 5) hC dL_law_89 (by decide) ?_
      refine J_icmp_ge_n hC (by decide) (by decide) (tgt := 108) dL_law_90 rfl (fun _ => ?_) (fun hf => absurd hf (by omega))
      refine J_iload hC dL_law_108 rfl ?_
      refine J_iconst (v := nI 5) hC dL_law_110 (by decide) ?_
      refine J_icmp_ne_n hC (by decide) (by decide) (tgt := 140) dL_law_111 rfl (fun _ => ?_) (fun hf => absurd hf (by omega))
      refine J_iload hC dL_law_140 rfl ?_
      refine J_bipush (v := nI 6) hC dL_law_142 (by decide) ?_
      refine J_icmp_eq_n hC (by decide) (by decide) (tgt := 154) dL_law_144 rfl (fun hf => absurd hf (by omega)) (fun _ => ?_)
      refine J_iload hC dL_law_147 rfl ?_
      refine J_bipush (v := nI 7) hC dL_law_149 (by decide) ?_
      refine J_icmp_ne_n hC (by decide) (by decide) (tgt := 239) dL_law_151 rfl (fun _ => ?_) (fun hf => absurd hf (by omega))
      refine J_iload hC dL_law_239 rfl ?_
      refine J_bipush (v := nI 8) hC dL_law_241 (by decide) ?_
      refine J_icmp_ne_n hC (by decide) (by decide) (tgt := 266) dL_law_243 rfl (fun hf => absurd hf (by omega)) (fun _ => ?_)
      refine J_aload_n hC dL_law_246 rfl rfl ?_
      refine J_iload hC dL_law_247 rfl ?_
      refine jL_128 hC rfl ⟨by decide +kernel, by decide +kernel⟩ ⟨rc (by omega), rs (by omega)⟩ (Nat.le_of_ble_eq_true rfl) dL_law_249 ?_
      refine c_L_land hW hS (by omega) (by omega) hkv (fun q σ2 px2 u2 hS2 => ?_) (fun q => ?_)
      · dsimp only [Option.toList_some, Option.toList_none, List.cons_append, List.nil_append]
        obtain ⟨hO, hV, hpx9, hu9, hn99, hc99, hz9⟩ := id hS2
        obtain ⟨hI, hX2, hCo, hT, hF, hP, hE⟩ := hV
        have h62 := r_NK hI
        have h72 := r_HOUR hI
        have b6 : nv (stateA A kv 0) 6 = nv A 6 := nv_congr (upd_n (by omega))
        have hst9 : stN (stateA A kv 0) 1 ≤ nv (stateA A kv 0) 6 := cnt_le _ _
        have bst : nv (stateA A kv 0) (70 + 9 * kv + 6) = 0 := nv_of upd_s (by omega)
        refine J_if_lt_n hC (by omega) (tgt := 266) dL_law_252 rfl (fun c1 => ?_) (fun c1 => ?_)
        · exact absurd c1 (by omega)
        · refine J_aload_n hC dL_law_255 rfl rfl ?_
          refine J_iload hC dL_law_256 rfl ?_
          refine jL_86 hC hK rfl ⟨by decide +kernel, by decide +kernel⟩ ⟨rc (by omega), rs (by omega)⟩ (Nat.le_of_ble_eq_true rfl) dL_law_258 ?_
          refine c1_X9_stateOf hK hL0 hO hI (by omega) ?_
          dsimp only [Option.toList_some, Option.toList_none, List.cons_append, List.nil_append]
          refine J_top (congrArg nI bst) ?_
          refine J_if_eq_n hC (by decide) (tgt := 266) dL_law_261 rfl (fun _ => ?_) (fun hf => absurd hf (by omega))
          refine J_iload hC dL_law_266 rfl ?_
          refine J_bipush (v := nI 9) hC dL_law_268 (by decide) ?_
          refine J_icmp_eq_n hC (by decide) (by decide) (tgt := 280) dL_law_270 rfl (fun hf => absurd hf (by omega)) (fun _ => ?_)
          refine J_iload hC dL_law_273 rfl ?_
          refine J_bipush (v := nI 10) hC dL_law_275 (by decide) ?_
          refine J_icmp_ne_n hC (by decide) (by decide) (tgt := 295) dL_law_277 rfl (fun _ => ?_) (fun hf => absurd hf (by omega))
          refine J_iload hC dL_law_295 rfl ?_
          refine J_bipush (v := nI 11) hC dL_law_297 (by decide) ?_
          refine J_icmp_ne_n hC (by decide) (by decide) (tgt := 378) dL_law_299 rfl (fun _ => ?_) (fun hf => absurd hf (by omega))
          refine J_iload hC dL_law_378 rfl ?_
          refine J_bipush (v := nI 12) hC dL_law_380 (by decide) ?_
          refine J_icmp_ne_n hC (by decide) (by decide) (tgt := 448) dL_law_382 rfl (fun _ => ?_) (fun hf => absurd hf (by omega))
          refine J_iload hC dL_law_448 rfl ?_
          refine J_bipush (v := nI 13) hC dL_law_450 (by decide) ?_
          refine J_icmp_ne_n hC (by decide) (by decide) (tgt := 473) dL_law_452 rfl (fun _ => ?_) (fun hf => absurd hf (by omega))
          refine J_widen (k := kc + 100) (n := ks + 600) (by omega) (by omega) ?_
          refine J_less (ls' := [some (.ref (G.2.2.2.2 2)), some (.ref (w.2.1 12 0)), some (.int (nI (r))), none, none, none, none, none, none, none, none]) ⟨Or.inr rfl, Or.inr rfl, Or.inr rfl, Or.inl rfl, Or.inl rfl, Or.inl rfl, Or.inl rfl, Or.inl rfl, Or.inl rfl, Or.inl rfl, Or.inl rfl, trivial⟩ ?_
          exact fin _ _ _ _ (by first | exact LSt_mono hS2 (by omega) (by omega) | exact LSt_mono hS (by omega) (by omega))
      · dsimp only [Option.toList_some, Option.toList_none, List.cons_append, List.nil_append]
        refine J_if_lt hC (tgt := 266) dL_law_252 rfl (fun _ => ?_) (fun hf => absurd hf (by decide))
        refine J_iload hC dL_law_266 rfl ?_
        refine J_bipush (v := nI 9) hC dL_law_268 (by decide) ?_
        refine J_icmp_eq_n hC (by decide) (by decide) (tgt := 280) dL_law_270 rfl (fun hf => absurd hf (by omega)) (fun _ => ?_)
        refine J_iload hC dL_law_273 rfl ?_
        refine J_bipush (v := nI 10) hC dL_law_275 (by decide) ?_
        refine J_icmp_ne_n hC (by decide) (by decide) (tgt := 295) dL_law_277 rfl (fun _ => ?_) (fun hf => absurd hf (by omega))
        refine J_iload hC dL_law_295 rfl ?_
        refine J_bipush (v := nI 11) hC dL_law_297 (by decide) ?_
        refine J_icmp_ne_n hC (by decide) (by decide) (tgt := 378) dL_law_299 rfl (fun _ => ?_) (fun hf => absurd hf (by omega))
        refine J_iload hC dL_law_378 rfl ?_
        refine J_bipush (v := nI 12) hC dL_law_380 (by decide) ?_
        refine J_icmp_ne_n hC (by decide) (by decide) (tgt := 448) dL_law_382 rfl (fun _ => ?_) (fun hf => absurd hf (by omega))
        refine J_iload hC dL_law_448 rfl ?_
        refine J_bipush (v := nI 13) hC dL_law_450 (by decide) ?_
        refine J_icmp_ne_n hC (by decide) (by decide) (tgt := 473) dL_law_452 rfl (fun _ => ?_) (fun hf => absurd hf (by omega))
        refine J_widen (k := kc + 100) (n := ks + 600) (by omega) (by omega) ?_
        refine J_less (ls' := [some (.ref (G.2.2.2.2 2)), some (.ref (w.2.1 12 0)), some (.int (nI (r))), none, none, none, none, none, none, none, none]) ⟨Or.inr rfl, Or.inr rfl, Or.inr rfl, Or.inl rfl, Or.inl rfl, Or.inl rfl, Or.inl rfl, Or.inl rfl, Or.inl rfl, Or.inl rfl, Or.inl rfl, trivial⟩ ?_
        exact fin _ _ _ _ (by first | exact LSt_mono hS2 (by omega) (by omega) | exact LSt_mono hS (by omega) (by omega))
    · refine J_iload hC dL_law_87 rfl ?_
      refine J_iconst (v := nI 5) hC dL_law_89 (by decide) ?_
      refine J_icmp_ge_n hC (by decide) (by decide) (tgt := 108) dL_law_90 rfl (fun _ => ?_) (fun hf => absurd hf (by omega))
      refine J_iload hC dL_law_108 rfl ?_
      refine J_iconst (v := nI 5) hC dL_law_110 (by decide) ?_
      refine J_icmp_ne_n hC (by decide) (by decide) (tgt := 140) dL_law_111 rfl (fun _ => ?_) (fun hf => absurd hf (by omega))
      refine J_iload hC dL_law_140 rfl ?_
      refine J_bipush (v := nI 6) hC dL_law_142 (by decide) ?_
      refine J_icmp_eq_n hC (by decide) (by decide) (tgt := 154) dL_law_144 rfl (fun hf => absurd hf (by omega)) (fun _ => ?_)
      refine J_iload hC dL_law_147 rfl ?_
      refine J_bipush (v := nI 7) hC dL_law_149 (by decide) ?_
      refine J_icmp_ne_n hC (by decide) (by decide) (tgt := 239) dL_law_151 rfl (fun _ => ?_) (fun hf => absurd hf (by omega))
      refine J_iload hC dL_law_239 rfl ?_
      refine J_bipush (v := nI 8) hC dL_law_241 (by decide) ?_
      refine J_icmp_ne_n hC (by decide) (by decide) (tgt := 266) dL_law_243 rfl (fun _ => ?_) (fun hf => absurd hf (by omega))
      refine J_iload hC dL_law_266 rfl ?_
      refine J_bipush (v := nI 9) hC dL_law_268 (by decide) ?_
      refine J_icmp_eq_n hC (by decide) (by decide) (tgt := 280) dL_law_270 rfl (fun _ => ?_) (fun hf => absurd hf (by omega))
      refine J_aload_n hC dL_law_280 rfl rfl ?_
      refine J_iconst (v := nI 1) hC dL_law_281 (by decide) ?_
      refine J_aload_n hC dL_law_282 rfl rfl ?_
      refine J_iload_n hC dL_law_283 rfl rfl ?_
      refine J_iconst (v := nI 5) hC dL_law_284 (by decide) ?_
      refine J_iadd_n hC dL_law_285 ?_
      refine J_iconst (v := nI 5) hC dL_law_286 (by decide) ?_
      refine jL_29 hC rfl ⟨by decide +kernel, by decide +kernel⟩ ⟨rc (by omega), rs (by omega)⟩ (Nat.le_of_ble_eq_true rfl) dL_law_287 ?_
      refine c_L_pick (by omega) (by omega) (fun pv hpv => ?_)
      dsimp only [Option.toList_some, Option.toList_none, List.cons_append, List.nil_append]
      refine J_iadd_n hC dL_law_290 ?_
      refine jL_130 hC hK rfl ⟨by decide +kernel, by decide +kernel⟩ ⟨rc (by omega), rs (by omega)⟩ (Nat.le_of_ble_eq_true rfl) dL_law_291 ?_
      refine c1_X9_passHours hW hS hc hh (by omega) (fun σ2 B2 px2 u2 a2 hS2 => ?_)
      dsimp only [Option.toList_some, Option.toList_none, List.cons_append, List.nil_append]
      refine J_pop hC dL_law_294 rfl ?_
      refine J_iload hC dL_law_295 rfl ?_
      refine J_bipush (v := nI 11) hC dL_law_297 (by decide) ?_
      refine J_icmp_ne_n hC (by decide) (by decide) (tgt := 378) dL_law_299 rfl (fun _ => ?_) (fun hf => absurd hf (by omega))
      refine J_iload hC dL_law_378 rfl ?_
      refine J_bipush (v := nI 12) hC dL_law_380 (by decide) ?_
      refine J_icmp_ne_n hC (by decide) (by decide) (tgt := 448) dL_law_382 rfl (fun _ => ?_) (fun hf => absurd hf (by omega))
      refine J_iload hC dL_law_448 rfl ?_
      refine J_bipush (v := nI 13) hC dL_law_450 (by decide) ?_
      refine J_icmp_ne_n hC (by decide) (by decide) (tgt := 473) dL_law_452 rfl (fun _ => ?_) (fun hf => absurd hf (by omega))
      refine J_widen (k := kc + 100) (n := ks + 600) (by omega) (by omega) ?_
      refine J_less (ls' := [some (.ref (G.2.2.2.2 2)), some (.ref (w.2.1 12 0)), some (.int (nI (r))), none, none, none, none, none, none, none, none]) ⟨Or.inr rfl, Or.inr rfl, Or.inr rfl, Or.inl rfl, Or.inl rfl, Or.inl rfl, Or.inl rfl, Or.inl rfl, Or.inl rfl, Or.inl rfl, Or.inl rfl, trivial⟩ ?_
      exact fin _ _ _ _ (by first | exact LSt_mono hS2 (by omega) (by omega) | exact LSt_mono hS (by omega) (by omega))
    · refine J_iload hC dL_law_87 rfl ?_
      refine J_iconst (v := nI 5) hC dL_law_89 (by decide) ?_
      refine J_icmp_ge_n hC (by decide) (by decide) (tgt := 108) dL_law_90 rfl (fun _ => ?_) (fun hf => absurd hf (by omega))
      refine J_iload hC dL_law_108 rfl ?_
      refine J_iconst (v := nI 5) hC dL_law_110 (by decide) ?_
      refine J_icmp_ne_n hC (by decide) (by decide) (tgt := 140) dL_law_111 rfl (fun _ => ?_) (fun hf => absurd hf (by omega))
      refine J_iload hC dL_law_140 rfl ?_
      refine J_bipush (v := nI 6) hC dL_law_142 (by decide) ?_
      refine J_icmp_eq_n hC (by decide) (by decide) (tgt := 154) dL_law_144 rfl (fun hf => absurd hf (by omega)) (fun _ => ?_)
      refine J_iload hC dL_law_147 rfl ?_
      refine J_bipush (v := nI 7) hC dL_law_149 (by decide) ?_
      refine J_icmp_ne_n hC (by decide) (by decide) (tgt := 239) dL_law_151 rfl (fun _ => ?_) (fun hf => absurd hf (by omega))
      refine J_iload hC dL_law_239 rfl ?_
      refine J_bipush (v := nI 8) hC dL_law_241 (by decide) ?_
      refine J_icmp_ne_n hC (by decide) (by decide) (tgt := 266) dL_law_243 rfl (fun _ => ?_) (fun hf => absurd hf (by omega))
      refine J_iload hC dL_law_266 rfl ?_
      refine J_bipush (v := nI 9) hC dL_law_268 (by decide) ?_
      refine J_icmp_eq_n hC (by decide) (by decide) (tgt := 280) dL_law_270 rfl (fun hf => absurd hf (by omega)) (fun _ => ?_)
      refine J_iload hC dL_law_273 rfl ?_
      refine J_bipush (v := nI 10) hC dL_law_275 (by decide) ?_
      refine J_icmp_ne_n hC (by decide) (by decide) (tgt := 295) dL_law_277 rfl (fun hf => absurd hf (by omega)) (fun _ => ?_)
      refine J_aload_n hC dL_law_280 rfl rfl ?_
      refine J_iconst (v := nI 1) hC dL_law_281 (by decide) ?_
      refine J_aload_n hC dL_law_282 rfl rfl ?_
      refine J_iload_n hC dL_law_283 rfl rfl ?_
      refine J_iconst (v := nI 5) hC dL_law_284 (by decide) ?_
      refine J_iadd_n hC dL_law_285 ?_
      refine J_iconst (v := nI 5) hC dL_law_286 (by decide) ?_
      refine jL_29 hC rfl ⟨by decide +kernel, by decide +kernel⟩ ⟨rc (by omega), rs (by omega)⟩ (Nat.le_of_ble_eq_true rfl) dL_law_287 ?_
      refine c_L_pick (by omega) (by omega) (fun pv hpv => ?_)
      dsimp only [Option.toList_some, Option.toList_none, List.cons_append, List.nil_append]
      refine J_iadd_n hC dL_law_290 ?_
      refine jL_130 hC hK rfl ⟨by decide +kernel, by decide +kernel⟩ ⟨rc (by omega), rs (by omega)⟩ (Nat.le_of_ble_eq_true rfl) dL_law_291 ?_
      refine c1_X9_passHours hW hS hc hh (by omega) (fun σ2 B2 px2 u2 a2 hS2 => ?_)
      dsimp only [Option.toList_some, Option.toList_none, List.cons_append, List.nil_append]
      refine J_pop hC dL_law_294 rfl ?_
      refine J_iload hC dL_law_295 rfl ?_
      refine J_bipush (v := nI 11) hC dL_law_297 (by decide) ?_
      refine J_icmp_ne_n hC (by decide) (by decide) (tgt := 378) dL_law_299 rfl (fun _ => ?_) (fun hf => absurd hf (by omega))
      refine J_iload hC dL_law_378 rfl ?_
      refine J_bipush (v := nI 12) hC dL_law_380 (by decide) ?_
      refine J_icmp_ne_n hC (by decide) (by decide) (tgt := 448) dL_law_382 rfl (fun _ => ?_) (fun hf => absurd hf (by omega))
      refine J_iload hC dL_law_448 rfl ?_
      refine J_bipush (v := nI 13) hC dL_law_450 (by decide) ?_
      refine J_icmp_ne_n hC (by decide) (by decide) (tgt := 473) dL_law_452 rfl (fun _ => ?_) (fun hf => absurd hf (by omega))
      refine J_widen (k := kc + 100) (n := ks + 600) (by omega) (by omega) ?_
      refine J_less (ls' := [some (.ref (G.2.2.2.2 2)), some (.ref (w.2.1 12 0)), some (.int (nI (r))), none, none, none, none, none, none, none, none]) ⟨Or.inr rfl, Or.inr rfl, Or.inr rfl, Or.inl rfl, Or.inl rfl, Or.inl rfl, Or.inl rfl, Or.inl rfl, Or.inl rfl, Or.inl rfl, Or.inl rfl, trivial⟩ ?_
      exact fin _ _ _ _ (by first | exact LSt_mono hS2 (by omega) (by omega) | exact LSt_mono hS (by omega) (by omega))
    · refine J_iload hC dL_law_87 rfl ?_
      refine J_iconst (v := nI 5) hC dL_law_89 (by decide) ?_
      refine J_icmp_ge_n hC (by decide) (by decide) (tgt := 108) dL_law_90 rfl (fun _ => ?_) (fun hf => absurd hf (by omega))
      refine J_iload hC dL_law_108 rfl ?_
      refine J_iconst (v := nI 5) hC dL_law_110 (by decide) ?_
      refine J_icmp_ne_n hC (by decide) (by decide) (tgt := 140) dL_law_111 rfl (fun _ => ?_) (fun hf => absurd hf (by omega))
      refine J_iload hC dL_law_140 rfl ?_
      refine J_bipush (v := nI 6) hC dL_law_142 (by decide) ?_
      refine J_icmp_eq_n hC (by decide) (by decide) (tgt := 154) dL_law_144 rfl (fun hf => absurd hf (by omega)) (fun _ => ?_)
      refine J_iload hC dL_law_147 rfl ?_
      refine J_bipush (v := nI 7) hC dL_law_149 (by decide) ?_
      refine J_icmp_ne_n hC (by decide) (by decide) (tgt := 239) dL_law_151 rfl (fun _ => ?_) (fun hf => absurd hf (by omega))
      refine J_iload hC dL_law_239 rfl ?_
      refine J_bipush (v := nI 8) hC dL_law_241 (by decide) ?_
      refine J_icmp_ne_n hC (by decide) (by decide) (tgt := 266) dL_law_243 rfl (fun _ => ?_) (fun hf => absurd hf (by omega))
      refine J_iload hC dL_law_266 rfl ?_
      refine J_bipush (v := nI 9) hC dL_law_268 (by decide) ?_
      refine J_icmp_eq_n hC (by decide) (by decide) (tgt := 280) dL_law_270 rfl (fun hf => absurd hf (by omega)) (fun _ => ?_)
      refine J_iload hC dL_law_273 rfl ?_
      refine J_bipush (v := nI 10) hC dL_law_275 (by decide) ?_
      refine J_icmp_ne_n hC (by decide) (by decide) (tgt := 295) dL_law_277 rfl (fun _ => ?_) (fun hf => absurd hf (by omega))
      refine J_iload hC dL_law_295 rfl ?_
      refine J_bipush (v := nI 11) hC dL_law_297 (by decide) ?_
      refine J_icmp_ne_n hC (by decide) (by decide) (tgt := 378) dL_law_299 rfl (fun hf => absurd hf (by omega)) (fun _ => ?_)
      refine J_aload_n hC dL_law_302 rfl rfl ?_
      refine J_iload hC dL_law_303 rfl ?_
      refine jL_133 hC hK rfl ⟨by decide +kernel, by decide +kernel⟩ ⟨rc (by omega), rs (by omega)⟩ (Nat.le_of_ble_eq_true rfl) dL_law_305 ?_
      refine c1_X9_knots hK hL0 hO hI hkv ?_
      dsimp only [Option.toList_some, Option.toList_none, List.cons_append, List.nil_append]
      refine J_istore hC dL_law_308 (Nat.le_of_ble_eq_true rfl) rfl ?_
      dsimp only [List.set]
      refine J_aload_n hC dL_law_310 rfl rfl ?_
      refine J_iload_n hC dL_law_311 rfl rfl ?_
      refine J_iconst (v := nI 5) hC dL_law_312 (by decide) ?_
      refine J_iadd_n hC dL_law_313 ?_
      refine J_bipush (v := nI 6) hC dL_law_314 (by decide) ?_
      refine jL_29 hC rfl ⟨by decide +kernel, by decide +kernel⟩ ⟨rc (by omega), rs (by omega)⟩ (Nat.le_of_ble_eq_true rfl) dL_law_316 ?_
      refine c_L_pick (by omega) (by omega) (fun pv hpv => ?_)
      dsimp only [Option.toList_some, Option.toList_none, List.cons_append, List.nil_append]
      refine J_istore hC dL_law_319 (Nat.le_of_ble_eq_true rfl) rfl ?_
      dsimp only [List.set]
      refine J_aload_n hC dL_law_321 rfl rfl ?_
      refine J_iload hC dL_law_322 rfl ?_
      refine J_iload hC dL_law_324 rfl ?_
      refine jL_136 hC rfl ⟨by decide +kernel, by decide +kernel⟩ ⟨rc (by omega), rs (by omega)⟩ (Nat.le_of_ble_eq_true rfl) dL_law_326 ?_
      refine c_L_tie hW hS (by omega) (by omega) hkv (by omega) (fun q σ2 px2 u2 hS2 => ?_) (fun q => ?_)
      · dsimp only [Option.toList_some, Option.toList_none, List.cons_append, List.nil_append]
        obtain ⟨hO, hV, hpx9, hu9, hn99, hc99, hz9⟩ := id hS2
        obtain ⟨hI, hX2, hCo, hT, hF, hP, hE⟩ := hV
        have h62 := r_NK hI
        have h72 := r_HOUR hI
        have hkn := r_KN hI0 hkv
        have b6 : nv (tieA A kv pv) 6 = nv A 6 := nv_congr (tieA_lo (by omega) (by omega) (by omega))
        have bkn : nv (tieA A kv pv) (70 + 9 * kv + 4) = pv := nv_of upd_s (by omega)
        have bst : nv (tieA A kv pv) (70 + 9 * kv + 6) = 0 := nv_of ((tieA_lo (by omega) (by omega) (by omega)).trans q) (by omega)
        refine J_if_lt_n hC (by omega) (tgt := 356) dL_law_329 rfl (fun c1 => ?_) (fun c1 => ?_)
        · exact absurd c1 (by omega)
        · refine J_aload_n hC dL_law_332 rfl rfl ?_
          refine J_iload hC dL_law_333 rfl ?_
          refine jL_133 hC hK rfl ⟨by decide +kernel, by decide +kernel⟩ ⟨rc (by omega), rs (by omega)⟩ (Nat.le_of_ble_eq_true rfl) dL_law_335 ?_
          refine c1_X9_knots hK hL0 hO hI (by omega) ?_
          dsimp only [Option.toList_some, Option.toList_none, List.cons_append, List.nil_append]
          refine J_top (congrArg nI bkn) ?_
          refine J_iload hC dL_law_338 rfl ?_
          refine J_icmp_ne_n hC (by omega) (by omega) (tgt := 354) dL_law_340 rfl (fun c2 => ?_) (fun c2 => ?_)
          · exact absurd rfl c2
          · refine J_aload_n hC dL_law_343 rfl rfl ?_
            refine J_iload hC dL_law_344 rfl ?_
            refine J_iload hC dL_law_346 rfl ?_
            refine jL_60 hC hK rfl ⟨by decide +kernel, by decide +kernel⟩ ⟨rc (by omega), rs (by omega)⟩ (Nat.le_of_ble_eq_true rfl) dL_law_348 ?_
            refine c1_X9_hasPermit hK hL0 hO hI (by omega) (by omega) ?_
            dsimp only [Option.toList_some, Option.toList_none, List.cons_append, List.nil_append]
            refine J_top (congrArg nI (ct_f (tie_perm hI0 (by omega)))) ?_
            refine J_if_eq_n hC (by decide) (tgt := 356) dL_law_351 rfl (fun _ => ?_) (fun hf => absurd hf (by omega))
            refine J_aload_n hC dL_law_356 rfl rfl ?_
            refine J_iload hC dL_law_357 rfl ?_
            refine jL_86 hC hK rfl ⟨by decide +kernel, by decide +kernel⟩ ⟨rc (by omega), rs (by omega)⟩ (Nat.le_of_ble_eq_true rfl) dL_law_359 ?_
            refine c1_X9_stateOf hK hL0 hO hI (by omega) ?_
            dsimp only [Option.toList_some, Option.toList_none, List.cons_append, List.nil_append]
            refine J_top (congrArg nI bst) ?_
            refine J_if_eq_n hC (by decide) (tgt := 378) dL_law_362 rfl (fun _ => ?_) (fun hf => absurd hf (by omega))
            refine J_iload hC dL_law_378 rfl ?_
            refine J_bipush (v := nI 12) hC dL_law_380 (by decide) ?_
            refine J_icmp_ne_n hC (by decide) (by decide) (tgt := 448) dL_law_382 rfl (fun _ => ?_) (fun hf => absurd hf (by omega))
            refine J_iload hC dL_law_448 rfl ?_
            refine J_bipush (v := nI 13) hC dL_law_450 (by decide) ?_
            refine J_icmp_ne_n hC (by decide) (by decide) (tgt := 473) dL_law_452 rfl (fun _ => ?_) (fun hf => absurd hf (by omega))
            refine J_widen (k := kc + 100) (n := ks + 600) (by omega) (by omega) ?_
            refine J_less (ls' := [some (.ref (G.2.2.2.2 2)), some (.ref (w.2.1 12 0)), some (.int (nI (r))), none, none, none, none, none, none, none, none]) ⟨Or.inr rfl, Or.inr rfl, Or.inr rfl, Or.inl rfl, Or.inl rfl, Or.inl rfl, Or.inl rfl, Or.inl rfl, Or.inl rfl, Or.inl rfl, Or.inl rfl, trivial⟩ ?_
            exact fin _ _ _ _ (by first | exact LSt_mono hS2 (by omega) (by omega) | exact LSt_mono hS (by omega) (by omega))
      · dsimp only [Option.toList_some, Option.toList_none, List.cons_append, List.nil_append]
        have hkn := r_KN hI hkv
        have hks9 := r_KS hI hkv
        refine J_if_lt hC (tgt := 356) dL_law_329 rfl (fun _ => ?_) (fun hf => absurd hf (by decide))
        refine J_aload_n hC dL_law_356 rfl rfl ?_
        refine J_iload hC dL_law_357 rfl ?_
        refine jL_86 hC hK rfl ⟨by decide +kernel, by decide +kernel⟩ ⟨rc (by omega), rs (by omega)⟩ (Nat.le_of_ble_eq_true rfl) dL_law_359 ?_
        refine c1_X9_stateOf hK hL0 hO hI hkv ?_
        dsimp only [Option.toList_some, Option.toList_none, List.cons_append, List.nil_append]
        refine J_if_eq_n hC (by omega) (tgt := 378) dL_law_362 rfl (fun c3 => ?_) (fun c3 => ?_)
        · refine J_iload hC dL_law_378 rfl ?_
          refine J_bipush (v := nI 12) hC dL_law_380 (by decide) ?_
          refine J_icmp_ne_n hC (by decide) (by decide) (tgt := 448) dL_law_382 rfl (fun _ => ?_) (fun hf => absurd hf (by omega))
          refine J_iload hC dL_law_448 rfl ?_
          refine J_bipush (v := nI 13) hC dL_law_450 (by decide) ?_
          refine J_icmp_ne_n hC (by decide) (by decide) (tgt := 473) dL_law_452 rfl (fun _ => ?_) (fun hf => absurd hf (by omega))
          refine J_widen (k := kc + 100) (n := ks + 600) (by omega) (by omega) ?_
          refine J_less (ls' := [some (.ref (G.2.2.2.2 2)), some (.ref (w.2.1 12 0)), some (.int (nI (r))), none, none, none, none, none, none, none, none]) ⟨Or.inr rfl, Or.inr rfl, Or.inr rfl, Or.inl rfl, Or.inl rfl, Or.inl rfl, Or.inl rfl, Or.inl rfl, Or.inl rfl, Or.inl rfl, Or.inl rfl, trivial⟩ ?_
          exact fin _ _ _ _ (by first | exact LSt_mono hS2 (by omega) (by omega) | exact LSt_mono hS (by omega) (by omega))
        · refine J_aload_n hC dL_law_365 rfl rfl ?_
          refine J_iload hC dL_law_366 rfl ?_
          refine jL_133 hC hK rfl ⟨by decide +kernel, by decide +kernel⟩ ⟨rc (by omega), rs (by omega)⟩ (Nat.le_of_ble_eq_true rfl) dL_law_368 ?_
          refine c1_X9_knots hK hL0 hO hI hkv ?_
          dsimp only [Option.toList_some, Option.toList_none, List.cons_append, List.nil_append]
          refine J_iload hC dL_law_371 rfl ?_
          refine J_icmp_eq_n hC (by omega) (by omega) (tgt := 378) dL_law_373 rfl (fun c4 => ?_) (fun c4 => ?_)
          · refine J_iload hC dL_law_378 rfl ?_
            refine J_bipush (v := nI 12) hC dL_law_380 (by decide) ?_
            refine J_icmp_ne_n hC (by decide) (by decide) (tgt := 448) dL_law_382 rfl (fun _ => ?_) (fun hf => absurd hf (by omega))
            refine J_iload hC dL_law_448 rfl ?_
            refine J_bipush (v := nI 13) hC dL_law_450 (by decide) ?_
            refine J_icmp_ne_n hC (by decide) (by decide) (tgt := 473) dL_law_452 rfl (fun _ => ?_) (fun hf => absurd hf (by omega))
            refine J_widen (k := kc + 100) (n := ks + 600) (by omega) (by omega) ?_
            refine J_less (ls' := [some (.ref (G.2.2.2.2 2)), some (.ref (w.2.1 12 0)), some (.int (nI (r))), none, none, none, none, none, none, none, none]) ⟨Or.inr rfl, Or.inr rfl, Or.inr rfl, Or.inl rfl, Or.inl rfl, Or.inl rfl, Or.inl rfl, Or.inl rfl, Or.inl rfl, Or.inl rfl, Or.inl rfl, trivial⟩ ?_
            exact fin _ _ _ _ (by first | exact LSt_mono hS2 (by omega) (by omega) | exact LSt_mono hS (by omega) (by omega))
          · exact absurd rfl c4
    · refine J_iload hC dL_law_87 rfl ?_
      refine J_iconst (v := nI 5) hC dL_law_89 (by decide) ?_
      refine J_icmp_ge_n hC (by decide) (by decide) (tgt := 108) dL_law_90 rfl (fun _ => ?_) (fun hf => absurd hf (by omega))
      refine J_iload hC dL_law_108 rfl ?_
      refine J_iconst (v := nI 5) hC dL_law_110 (by decide) ?_
      refine J_icmp_ne_n hC (by decide) (by decide) (tgt := 140) dL_law_111 rfl (fun _ => ?_) (fun hf => absurd hf (by omega))
      refine J_iload hC dL_law_140 rfl ?_
      refine J_bipush (v := nI 6) hC dL_law_142 (by decide) ?_
      refine J_icmp_eq_n hC (by decide) (by decide) (tgt := 154) dL_law_144 rfl (fun hf => absurd hf (by omega)) (fun _ => ?_)
      refine J_iload hC dL_law_147 rfl ?_
      refine J_bipush (v := nI 7) hC dL_law_149 (by decide) ?_
      refine J_icmp_ne_n hC (by decide) (by decide) (tgt := 239) dL_law_151 rfl (fun _ => ?_) (fun hf => absurd hf (by omega))
      refine J_iload hC dL_law_239 rfl ?_
      refine J_bipush (v := nI 8) hC dL_law_241 (by decide) ?_
      refine J_icmp_ne_n hC (by decide) (by decide) (tgt := 266) dL_law_243 rfl (fun _ => ?_) (fun hf => absurd hf (by omega))
      refine J_iload hC dL_law_266 rfl ?_
      refine J_bipush (v := nI 9) hC dL_law_268 (by decide) ?_
      refine J_icmp_eq_n hC (by decide) (by decide) (tgt := 280) dL_law_270 rfl (fun hf => absurd hf (by omega)) (fun _ => ?_)
      refine J_iload hC dL_law_273 rfl ?_
      refine J_bipush (v := nI 10) hC dL_law_275 (by decide) ?_
      refine J_icmp_ne_n hC (by decide) (by decide) (tgt := 295) dL_law_277 rfl (fun _ => ?_) (fun hf => absurd hf (by omega))
      refine J_iload hC dL_law_295 rfl ?_
      refine J_bipush (v := nI 11) hC dL_law_297 (by decide) ?_
      refine J_icmp_ne_n hC (by decide) (by decide) (tgt := 378) dL_law_299 rfl (fun _ => ?_) (fun hf => absurd hf (by omega))
      refine J_iload hC dL_law_378 rfl ?_
      refine J_bipush (v := nI 12) hC dL_law_380 (by decide) ?_
      refine J_icmp_ne_n hC (by decide) (by decide) (tgt := 448) dL_law_382 rfl (fun hf => absurd hf (by omega)) (fun _ => ?_)
      refine J_iconst (v := nI 2) hC dL_law_385 (by decide) ?_
      refine J_aload_n hC dL_law_386 rfl rfl ?_
      refine J_iload hC dL_law_387 rfl ?_
      refine jL_133 hC hK rfl ⟨by decide +kernel, by decide +kernel⟩ ⟨rc (by omega), rs (by omega)⟩ (Nat.le_of_ble_eq_true rfl) dL_law_389 ?_
      refine c1_X9_knots hK hL0 hO hI hkv ?_
      dsimp only [Option.toList_some, Option.toList_none, List.cons_append, List.nil_append]
      refine J_imul_n hC dL_law_392 ?_
      refine J_istore hC dL_law_393 (Nat.le_of_ble_eq_true rfl) rfl ?_
      dsimp only [List.set]
      refine J_aload_n hC dL_law_395 rfl rfl ?_
      refine J_iload hC dL_law_396 rfl ?_
      refine jL_83 hC hK rfl ⟨by decide +kernel, by decide +kernel⟩ ⟨rc (by omega), rs (by omega)⟩ (Nat.le_of_ble_eq_true rfl) dL_law_398 ?_
      refine c1_X9_purse hK hL0 hO hI hkv ?_
      dsimp only [Option.toList_some, Option.toList_none, List.cons_append, List.nil_append]
      refine J_top (hCo.1 kv hkv) ?_
      refine J_istore hC dL_law_401 (Nat.le_of_ble_eq_true rfl) rfl ?_
      dsimp only [List.set]
      refine J_aload_n hC dL_law_403 rfl rfl ?_
      refine J_iload hC dL_law_404 rfl ?_
      refine jL_140 hC rfl ⟨by decide +kernel, by decide +kernel⟩ ⟨rc (by omega), rs (by omega)⟩ (Nat.le_of_ble_eq_true rfl) dL_law_406 ?_
      refine c_L_repair hW hS (by omega) (by omega) hkv (fun q σ2 px2 u2 hS2 => ?_) (fun q => ?_)
      · dsimp only [Option.toList_some, Option.toList_none, List.cons_append, List.nil_append]
        have hkn := r_KN hI hkv
        have hpu := coin_purse hCo hkv
        have hcq := q.2
        rw [hCo.1 kv hkv, nI_leI (by omega) (by omega)] at hcq
        have bp : nv (repA A kv) (70 + 9 * kv + 5) = nv A (70 + 9 * kv + 5) - 2 * nv A (70 + 9 * kv + 4) := by
          refine nv_of ?_ (by omega)
          unfold repA
          rw [upd_n (by omega), upd_n (by omega), upd_s, hCo.1 kv hkv, nI_iI, nI_iI, iI_sub, nI_iI]
          congr 1
          omega
        have b6 : nv (repA A kv) 6 = nv A 6 := nv_congr (by unfold repA; rw [upd_n (by omega), upd_n (by omega), upd_n (by omega)])
        have bst : nv (repA A kv) (70 + 9 * kv + 6) = 0 := nv_of upd_s (by omega)
        obtain ⟨hO, hV, hpx9, hu9, hn99, hc99, hz9⟩ := id hS2
        obtain ⟨hI, hX2, hCo, hT, hF, hP, hE⟩ := hV
        have h62 := r_NK hI
        have h72 := r_HOUR hI
        refine J_istore hC dL_law_409 (Nat.le_of_ble_eq_true rfl) rfl ?_
        dsimp only [List.set]
        refine J_iload hC dL_law_411 rfl ?_
        refine J_if_lt_n hC (by omega) (tgt := 448) dL_law_413 rfl (fun c1 => ?_) (fun c1 => ?_)
        · exact absurd c1 (by omega)
        · refine J_iload hC dL_law_416 rfl ?_
          refine J_iload hC dL_law_418 rfl ?_
          refine J_icmp_ne_n hC (by omega) (by omega) (tgt := 446) dL_law_420 rfl (fun c2 => ?_) (fun c2 => ?_)
          · exact absurd rfl c2
          · refine J_aload_n hC dL_law_423 rfl rfl ?_
            refine J_iload hC dL_law_424 rfl ?_
            refine jL_83 hC hK rfl ⟨by decide +kernel, by decide +kernel⟩ ⟨rc (by omega), rs (by omega)⟩ (Nat.le_of_ble_eq_true rfl) dL_law_426 ?_
            refine c1_X9_purse hK hL0 hO hI (by omega) ?_
            dsimp only [Option.toList_some, Option.toList_none, List.cons_append, List.nil_append]
            refine J_top ((hCo.1 kv (by omega)).trans (congrArg nI bp)) ?_
            refine J_iload hC dL_law_429 rfl ?_
            refine J_iload hC dL_law_431 rfl ?_
            refine J_isub_z hC (nI_iI _) (nI_iI _) dL_law_433 ?_
            refine J_icmp_ne_z hC (nI_iI _) rfl (by omega) (by omega) (tgt := 446) dL_law_434 rfl (fun c3 => ?_) (fun c3 => ?_)
            · exact absurd (by omega) c3
            · refine J_aload_n hC dL_law_437 rfl rfl ?_
              refine J_iload hC dL_law_438 rfl ?_
              refine jL_86 hC hK rfl ⟨by decide +kernel, by decide +kernel⟩ ⟨rc (by omega), rs (by omega)⟩ (Nat.le_of_ble_eq_true rfl) dL_law_440 ?_
              refine c1_X9_stateOf hK hL0 hO hI (by omega) ?_
              dsimp only [Option.toList_some, Option.toList_none, List.cons_append, List.nil_append]
              refine J_top (congrArg nI bst) ?_
              refine J_if_eq_n hC (by decide) (tgt := 448) dL_law_443 rfl (fun _ => ?_) (fun hf => absurd hf (by omega))
              refine J_iload hC dL_law_448 rfl ?_
              refine J_bipush (v := nI 13) hC dL_law_450 (by decide) ?_
              refine J_icmp_ne_n hC (by decide) (by decide) (tgt := 473) dL_law_452 rfl (fun _ => ?_) (fun hf => absurd hf (by omega))
              refine J_widen (k := kc + 100) (n := ks + 600) (by omega) (by omega) ?_
              refine J_less (ls' := [some (.ref (G.2.2.2.2 2)), some (.ref (w.2.1 12 0)), some (.int (nI (r))), none, none, none, none, none, none, none, none]) ⟨Or.inr rfl, Or.inr rfl, Or.inr rfl, Or.inl rfl, Or.inl rfl, Or.inl rfl, Or.inl rfl, Or.inl rfl, Or.inl rfl, Or.inl rfl, Or.inl rfl, trivial⟩ ?_
              exact fin _ _ _ _ (by first | exact LSt_mono hS2 (by omega) (by omega) | exact LSt_mono hS (by omega) (by omega))
      · dsimp only [Option.toList_some, Option.toList_none, List.cons_append, List.nil_append]
        refine J_istore hC dL_law_409 (Nat.le_of_ble_eq_true rfl) rfl ?_
        dsimp only [List.set]
        refine J_iload hC dL_law_411 rfl ?_
        refine J_if_lt hC (tgt := 448) dL_law_413 rfl (fun _ => ?_) (fun hf => absurd hf (by decide))
        refine J_iload hC dL_law_448 rfl ?_
        refine J_bipush (v := nI 13) hC dL_law_450 (by decide) ?_
        refine J_icmp_ne_n hC (by decide) (by decide) (tgt := 473) dL_law_452 rfl (fun _ => ?_) (fun hf => absurd hf (by omega))
        refine J_widen (k := kc + 100) (n := ks + 600) (by omega) (by omega) ?_
        refine J_less (ls' := [some (.ref (G.2.2.2.2 2)), some (.ref (w.2.1 12 0)), some (.int (nI (r))), none, none, none, none, none, none, none, none]) ⟨Or.inr rfl, Or.inr rfl, Or.inr rfl, Or.inl rfl, Or.inl rfl, Or.inl rfl, Or.inl rfl, Or.inl rfl, Or.inl rfl, Or.inl rfl, Or.inl rfl, trivial⟩ ?_
        exact fin _ _ _ _ (by first | exact LSt_mono hS2 (by omega) (by omega) | exact LSt_mono hS (by omega) (by omega))
    · refine J_iload hC dL_law_87 rfl ?_
      refine J_iconst (v := nI 5) hC dL_law_89 (by decide) ?_
      refine J_icmp_ge_n hC (by decide) (by decide) (tgt := 108) dL_law_90 rfl (fun _ => ?_) (fun hf => absurd hf (by omega))
      refine J_iload hC dL_law_108 rfl ?_
      refine J_iconst (v := nI 5) hC dL_law_110 (by decide) ?_
      refine J_icmp_ne_n hC (by decide) (by decide) (tgt := 140) dL_law_111 rfl (fun _ => ?_) (fun hf => absurd hf (by omega))
      refine J_iload hC dL_law_140 rfl ?_
      refine J_bipush (v := nI 6) hC dL_law_142 (by decide) ?_
      refine J_icmp_eq_n hC (by decide) (by decide) (tgt := 154) dL_law_144 rfl (fun hf => absurd hf (by omega)) (fun _ => ?_)
      refine J_iload hC dL_law_147 rfl ?_
      refine J_bipush (v := nI 7) hC dL_law_149 (by decide) ?_
      refine J_icmp_ne_n hC (by decide) (by decide) (tgt := 239) dL_law_151 rfl (fun _ => ?_) (fun hf => absurd hf (by omega))
      refine J_iload hC dL_law_239 rfl ?_
      refine J_bipush (v := nI 8) hC dL_law_241 (by decide) ?_
      refine J_icmp_ne_n hC (by decide) (by decide) (tgt := 266) dL_law_243 rfl (fun _ => ?_) (fun hf => absurd hf (by omega))
      refine J_iload hC dL_law_266 rfl ?_
      refine J_bipush (v := nI 9) hC dL_law_268 (by decide) ?_
      refine J_icmp_eq_n hC (by decide) (by decide) (tgt := 280) dL_law_270 rfl (fun hf => absurd hf (by omega)) (fun _ => ?_)
      refine J_iload hC dL_law_273 rfl ?_
      refine J_bipush (v := nI 10) hC dL_law_275 (by decide) ?_
      refine J_icmp_ne_n hC (by decide) (by decide) (tgt := 295) dL_law_277 rfl (fun _ => ?_) (fun hf => absurd hf (by omega))
      refine J_iload hC dL_law_295 rfl ?_
      refine J_bipush (v := nI 11) hC dL_law_297 (by decide) ?_
      refine J_icmp_ne_n hC (by decide) (by decide) (tgt := 378) dL_law_299 rfl (fun _ => ?_) (fun hf => absurd hf (by omega))
      refine J_iload hC dL_law_378 rfl ?_
      refine J_bipush (v := nI 12) hC dL_law_380 (by decide) ?_
      refine J_icmp_ne_n hC (by decide) (by decide) (tgt := 448) dL_law_382 rfl (fun _ => ?_) (fun hf => absurd hf (by omega))
      refine J_iload hC dL_law_448 rfl ?_
      refine J_bipush (v := nI 13) hC dL_law_450 (by decide) ?_
      refine J_icmp_ne_n hC (by decide) (by decide) (tgt := 473) dL_law_452 rfl (fun hf => absurd hf (by omega)) (fun _ => ?_)
      refine J_aload_n hC dL_law_455 rfl rfl ?_
      refine J_iload hC dL_law_456 rfl ?_
      refine J_iconst (v := nI 1) hC dL_law_458 (by decide) ?_
      refine J_aload_n hC dL_law_459 rfl rfl ?_
      refine J_iload_n hC dL_law_460 rfl rfl ?_
      refine J_iconst (v := nI 5) hC dL_law_461 (by decide) ?_
      refine J_iadd_n hC dL_law_462 ?_
      refine J_bipush (v := nI 60) hC dL_law_463 (by decide) ?_
      refine jL_29 hC rfl ⟨by decide +kernel, by decide +kernel⟩ ⟨rc (by omega), rs (by omega)⟩ (Nat.le_of_ble_eq_true rfl) dL_law_465 ?_
      refine c_L_pick (by omega) (by omega) (fun pv hpv => ?_)
      dsimp only [Option.toList_some, Option.toList_none, List.cons_append, List.nil_append]
      refine J_iadd_n hC dL_law_468 ?_
      refine jL_142 hC hK rfl ⟨by decide +kernel, by decide +kernel⟩ ⟨rc (by omega), rs (by omega)⟩ (Nat.le_of_ble_eq_true rfl) dL_law_469 ?_
      refine c1_X9_fund hW hS hc hh hkv (by omega) (fun σ2 B2 px2 u2 a2 hS2 => ?_)
      dsimp only [Option.toList_some, Option.toList_none, List.cons_append, List.nil_append]
      refine J_pop hC dL_law_472 rfl ?_
      refine J_widen (k := kc + 100) (n := ks + 600) (by omega) (by omega) ?_
      refine J_less (ls' := [some (.ref (G.2.2.2.2 2)), some (.ref (w.2.1 12 0)), some (.int (nI (r))), none, none, none, none, none, none, none, none]) ⟨Or.inr rfl, Or.inr rfl, Or.inr rfl, Or.inl rfl, Or.inl rfl, Or.inl rfl, Or.inl rfl, Or.inl rfl, Or.inl rfl, Or.inl rfl, Or.inl rfl, trivial⟩ ?_
      exact fin _ _ _ _ (by first | exact LSt_mono hS2 (by omega) (by omega) | exact LSt_mono hS (by omega) (by omega))
  refine J_if_ne_n hC (by omega) (tgt := 80) dL_law_72 rfl (fun hp4 => ?_) (fun hp4 => ?_)
  · refine J_iconst (v := nI 4) hC dL_law_80 (by decide) ?_
    first
    | exact j81 24 (by omega) (by omega)
    | exact j81 4 (by omega) (by omega)
  · refine J_bipush (v := nI 24) hC dL_law_75 (by decide) ?_
    refine J_goto (tgt := 81) hC dL_law_77 rfl ?_
    first
    | exact j81 24 (by omega) (by omega)
    | exact j81 4 (by omega) (by omega)
