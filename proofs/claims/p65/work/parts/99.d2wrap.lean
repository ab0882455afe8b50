/-! ===== p65: the law's methods that catch ===== -/
set_option maxHeartbeats 4000000 in
set_option maxRecDepth 100000 in
theorem c_L_launch {G : GC} {w : Lay} {σ : Mem} {Q : Lay → Option Value → Mem → Prop} {Qx : Lay → String → Mem → Prop} (hW : LAY5 w) {A : Nat → Int32} {c hm px u : Nat} (hS : LSt σ c hm A px u) (hc : c < 2 ^ 29) (hh : hm ≤ 1000) {k : Nat} (hk : k < nv A 6) (h1 : canL A k → ∀ σ' px' u', LSt σ' c hm (launchA A k) px' u' → Q w (some (.int (nI (reachN A k (nv A 7))))) σ') (h2 : ¬ (canL A k) → Q w (some (.int (-1))) σ) : ML_launch G w σ [.ref (w.2.1 12 0), .int (nI k)] Q Qx := by
  obtain ⟨hO, hV, hpx, hu, hn9, hc9, hz⟩ := id hS
  have hI := hV.1
  have h6 := r_NK hI
  have h7 := r_HOUR hI
  have e : aLa A (nI k) = chk (canL A k) 2 (0, nI (reachN A k (nv A 7))) := by
    unfold aLa
    rw [chk_t ⟨k, rfl, hk⟩, cl_n (by omega)]
  refine mt_startW (by decide) rfl (Nat.le_of_ble_eq_true rfl) (fun E hC hR hT => ?_)
  show J G E w 0 0 0 [some (.ref (w.2.1 12 0)), some (.int (nI k)), none] [] σ
  refine J_aload_n hC dL_launch_0 rfl rfl ?_
  refine J_iload_n hC dL_launch_1 rfl rfl ?_
  refine jL_7 hC hW.1 rfl ⟨by decide, by decide⟩ ⟨by decide, by decide⟩ (Nat.le_of_ble_eq_true rfl) dL_launch_2 ?_
  refine c_X9_launch hW.1 (hW.2 0 (by decide)) hO hI (hW.2 _ (by omega)) hpx hu hn9 hc9 (by omega) (fun g σ' hch => ?_) (fun g => ?_) (fun g => ?_)
  · dsimp only [Option.toList_some, Option.toList_none, List.cons_append, List.nil_append]
    by_cases q : canL A k
    · rw [show (aLa A (nI k)).2 = nI (reachN A k (nv A 7)) by rw [e, chk_t q]]
      refine J_ireturn hC hR dL_launch_5 (by decide) (by decide) ?_
      rw [cl_n (by omega)] at hch
      exact h1 q σ' _ _ (LSt_ch hS hch (SInv_launch hV hk q))
    · rw [e, chk_f q] at g
      exact absurd g (by dsimp only; omega)
  · by_cases q : canL A k
    · rw [e, chk_t q] at g
      exact absurd g (by dsimp only; omega)
    · rw [e, chk_f q] at g
      exact absurd g (by dsimp only; omega)
  · refine JX_catch (hpre := []) (hsuf := []) hC hT rfl (fun q hq9 => absurd hq9 List.not_mem_nil) (by decide) (by decide) q3_47 (by decide +kernel) (fun q => ?_)
    refine J_astore_n hC dL_launch_6 rfl (Nat.le_of_ble_eq_true rfl) rfl ?_
    dsimp only [List.set]
    refine J_iconst (v := -1) hC dL_launch_7 (by decide) ?_
    refine J_ireturn hC hR dL_launch_8 (by decide) (by decide) ?_
    exact h2 (fun q => by rw [e, chk_t q] at g; exact absurd g (by dsimp only; omega))
set_option maxHeartbeats 4000000 in
set_option maxRecDepth 100000 in
theorem c_L_land {G : GC} {w : Lay} {σ : Mem} {Q : Lay → Option Value → Mem → Prop} {Qx : Lay → String → Mem → Prop} (hW : LAY5 w) {A : Nat → Int32} {c hm px u : Nat} (hS : LSt σ c hm A px u) (hc : c < 2 ^ 29) (hh : hm ≤ 1000) {k : Nat} (hk : k < nv A 6) (h1 : A (70 + 9 * k + 6) = nI 1 → ∀ σ' px' u', LSt σ' c hm (stateA A k 0) px' u' → Q w (some (.int (nI (stN (stateA A k 0) 1)))) σ') (h2 : ¬ (A (70 + 9 * k + 6) = nI 1) → Q w (some (.int (-1))) σ) : ML_land G w σ [.ref (w.2.1 12 0), .int (nI k)] Q Qx := by
  obtain ⟨hO, hV, hpx, hu, hn9, hc9, hz⟩ := id hS
  have hI := hV.1
  have h6 := r_NK hI
  have h7 := r_HOUR hI
  have e : aLd A (nI k) = chk (A (70 + 9 * k + 6) = nI 1) 2 (0, nI (stN (stateA A k 0) 1)) := by
    unfold aLd
    rw [chk_t ⟨k, rfl, hk⟩, cl_n (by omega)]
  refine mt_startW (by decide) rfl (Nat.le_of_ble_eq_true rfl) (fun E hC hR hT => ?_)
  show J G E w 0 0 0 [some (.ref (w.2.1 12 0)), some (.int (nI k)), none] [] σ
  refine J_aload_n hC dL_land_0 rfl rfl ?_
  refine J_iload_n hC dL_land_1 rfl rfl ?_
  refine jL_15 hC hW.1 rfl ⟨by decide, by decide⟩ ⟨by decide, by decide⟩ (Nat.le_of_ble_eq_true rfl) dL_land_2 ?_
  refine c_X9_land hW.1 (hW.2 0 (by decide)) hO hI (hW.2 _ (by omega)) hpx hu hn9 hc9 (fun g σ' hch => ?_) (fun g => ?_) (fun g => ?_)
  · dsimp only [Option.toList_some, Option.toList_none, List.cons_append, List.nil_append]
    by_cases q : A (70 + 9 * k + 6) = nI 1
    · rw [show (aLd A (nI k)).2 = nI (stN (stateA A k 0) 1) by rw [e, chk_t q]]
      refine J_ireturn hC hR dL_land_5 (by decide) (by decide) ?_
      rw [cl_n (by omega)] at hch
      exact h1 q σ' _ _ (LSt_ch hS hch (SInv_land hV hk))
    · rw [e, chk_f q] at g
      exact absurd g (by dsimp only; omega)
  · by_cases q : A (70 + 9 * k + 6) = nI 1
    · rw [e, chk_t q] at g
      exact absurd g (by dsimp only; omega)
    · rw [e, chk_f q] at g
      exact absurd g (by dsimp only; omega)
  · refine JX_catch (hpre := []) (hsuf := []) hC hT rfl (fun q hq9 => absurd hq9 List.not_mem_nil) (by decide) (by decide) q3_47 (by decide +kernel) (fun q => ?_)
    refine J_astore_n hC dL_land_6 rfl (Nat.le_of_ble_eq_true rfl) rfl ?_
    dsimp only [List.set]
    refine J_iconst (v := -1) hC dL_land_7 (by decide) ?_
    refine J_ireturn hC hR dL_land_8 (by decide) (by decide) ?_
    exact h2 (fun q => by rw [e, chk_t q] at g; exact absurd g (by dsimp only; omega))
set_option maxHeartbeats 4000000 in
set_option maxRecDepth 100000 in
theorem c_L_permit {G : GC} {w : Lay} {σ : Mem} {Q : Lay → Option Value → Mem → Prop} {Qx : Lay → String → Mem → Prop} (hW : LAY5 w) {A : Nat → Int32} {c hm px u : Nat} (hS : LSt σ c hm A px u) (hc : c < 2 ^ 29) (hh : hm ≤ 1000) {k : Nat} (hk : k < nv A 6) {s d : Nat} (hs : s ≤ 900000) (hd : 1 ≤ d ∧ d ≤ 24) (h1 : refuse A k s d = 0 → ∀ σ' px' u', LSt σ' c hm (grantA A k s d) px' u' → Q w (some (.int (nI (nv A 11 + 1)))) σ') (h2 : ¬ (refuse A k s d = 0) → Q w (some (.int (-1))) σ) : ML_permit G w σ [.ref (w.2.1 12 0), .int (nI k), .int (nI s), .int (nI d)] Q Qx := by
  obtain ⟨hO, hV, hpx, hu, hn9, hc9, hz⟩ := id hS
  have hI := hV.1
  have h6 := r_NK hI
  have h7 := r_HOUR hI
  have e : aPe A (nI k) (nI s) (nI d) = chk (refuse A k s d = 0) 3 (0, nI (nv A 11 + 1)) := by
    unfold aPe
    rw [chk_t ⟨k, rfl, hk⟩, chk_t ⟨s, rfl, Nat.zero_le _, by omega⟩, chk_t ⟨d, rfl, hd⟩, cl_n (by omega), cl_n (by omega), cl_n (by omega)]
  refine mt_startW (by decide) rfl (Nat.le_of_ble_eq_true rfl) (fun E hC hR hT => ?_)
  show J G E w 0 0 0 [some (.ref (w.2.1 12 0)), some (.int (nI k)), some (.int (nI s)), some (.int (nI d)), none] [] σ
  refine J_aload_n hC dL_permit_0 rfl rfl ?_
  refine J_iload_n hC dL_permit_1 rfl rfl ?_
  refine J_iload_n hC dL_permit_2 rfl rfl ?_
  refine J_iload_n hC dL_permit_3 rfl rfl ?_
  refine jL_18 hC hW.1 rfl ⟨by decide, by decide⟩ ⟨by decide, by decide⟩ (Nat.le_of_ble_eq_true rfl) dL_permit_4 ?_
  refine c_X9_permit hW.1 (hW.2 0 (by decide)) hO hI (hW.2 _ (by omega)) hpx hu hn9 hc9 (by omega) (fun g σ' hch => ?_) (fun g => ?_) (fun g => ?_) (fun g => ?_)
  · dsimp only [Option.toList_some, Option.toList_none, List.cons_append, List.nil_append]
    by_cases q : refuse A k s d = 0
    · rw [show (aPe A (nI k) (nI s) (nI d)).2 = nI (nv A 11 + 1) by rw [e, chk_t q]]
      refine J_ireturn hC hR dL_permit_7 (by decide) (by decide) ?_
      rw [cl_n (by omega), cl_n (by omega), cl_n (by omega)] at hch
      exact h1 q σ' _ _ (LSt_ch hS hch (SInv_grant hV (by omega) hk hs hd q))
    · rw [e, chk_f q] at g
      exact absurd g (by dsimp only; omega)
  · by_cases q : refuse A k s d = 0
    · rw [e, chk_t q] at g
      exact absurd g (by dsimp only; omega)
    · rw [e, chk_f q] at g
      exact absurd g (by dsimp only; omega)
  · by_cases q : refuse A k s d = 0
    · rw [e, chk_t q] at g
      exact absurd g (by dsimp only; omega)
    · rw [e, chk_f q] at g
      exact absurd g (by dsimp only; omega)
  · refine JX_catch (hpre := []) (hsuf := []) hC hT rfl (fun q hq9 => absurd hq9 List.not_mem_nil) (by decide) (by decide) q3_47 (by decide +kernel) (fun q => ?_)
    refine J_astore hC dL_permit_8 (Nat.le_of_ble_eq_true rfl) rfl ?_
    dsimp only [List.set]
    refine J_iconst (v := -1) hC dL_permit_10 (by decide) ?_
    refine J_ireturn hC hR dL_permit_11 (by decide) (by decide) ?_
    exact h2 (fun q => by rw [e, chk_t q] at g; exact absurd g (by dsimp only; omega))
set_option maxHeartbeats 4000000 in
set_option maxRecDepth 100000 in
theorem c_L_tie {G : GC} {w : Lay} {σ : Mem} {Q : Lay → Option Value → Mem → Prop} {Qx : Lay → String → Mem → Prop} (hW : LAY5 w) {A : Nat → Int32} {c hm px u : Nat} (hS : LSt σ c hm A px u) (hc : c < 2 ^ 29) (hh : hm ≤ 1000) {k : Nat} (hk : k < nv A 6) {v : Nat} (hv : v ≤ 9) (h1 : A (70 + 9 * k + 6) = nI 0 → ∀ σ' px' u', LSt σ' c hm (tieA A k v) px' u' → Q w (some (.int (nI (nv A (70 + 9 * k + 4))))) σ') (h2 : ¬ (A (70 + 9 * k + 6) = nI 0) → Q w (some (.int (-1))) σ) : ML_tie G w σ [.ref (w.2.1 12 0), .int (nI k), .int (nI v)] Q Qx := by
  obtain ⟨hO, hV, hpx, hu, hn9, hc9, hz⟩ := id hS
  have hI := hV.1
  have h6 := r_NK hI
  have h7 := r_HOUR hI
  have e : aTi A (nI k) (nI v) = chk (A (70 + 9 * k + 6) = nI 0) 3 (0, nI (nv A (70 + 9 * k + 4))) := by
    unfold aTi
    rw [chk_t ⟨k, rfl, hk⟩, chk_t ⟨v, rfl, Nat.zero_le _, hv⟩, cl_n (by omega)]
  refine mt_startW (by decide) rfl (Nat.le_of_ble_eq_true rfl) (fun E hC hR hT => ?_)
  show J G E w 0 0 0 [some (.ref (w.2.1 12 0)), some (.int (nI k)), some (.int (nI v)), none] [] σ
  refine J_aload_n hC dL_tie_0 rfl rfl ?_
  refine J_iload_n hC dL_tie_1 rfl rfl ?_
  refine J_iload_n hC dL_tie_2 rfl rfl ?_
  refine jL_22 hC hW.1 rfl ⟨by decide, by decide⟩ ⟨by decide, by decide⟩ (Nat.le_of_ble_eq_true rfl) dL_tie_3 ?_
  refine c_X9_tieKnots hW.1 (hW.2 0 (by decide)) hO hI (hW.2 _ (by omega)) hpx hu hn9 hc9 (fun g σ' hch => ?_) (fun g => ?_) (fun g => ?_) (fun g => ?_)
  · dsimp only [Option.toList_some, Option.toList_none, List.cons_append, List.nil_append]
    by_cases q : A (70 + 9 * k + 6) = nI 0
    · rw [show (aTi A (nI k) (nI v)).2 = nI (nv A (70 + 9 * k + 4)) by rw [e, chk_t q]]
      refine J_ireturn hC hR dL_tie_6 (by decide) (by decide) ?_
      rw [cl_n (by omega), cl_n (by omega)] at hch
      exact h1 q σ' _ _ (LSt_ch hS hch (SInv_tie hV hk hv q))
    · rw [e, chk_f q] at g
      exact absurd g (by dsimp only; omega)
  · by_cases q : A (70 + 9 * k + 6) = nI 0
    · rw [e, chk_t q] at g
      exact absurd g (by dsimp only; omega)
    · rw [e, chk_f q] at g
      exact absurd g (by dsimp only; omega)
  · by_cases q : A (70 + 9 * k + 6) = nI 0
    · rw [e, chk_t q] at g
      exact absurd g (by dsimp only; omega)
    · rw [e, chk_f q] at g
      exact absurd g (by dsimp only; omega)
  · refine JX_catch (hpre := []) (hsuf := []) hC hT rfl (fun q hq9 => absurd hq9 List.not_mem_nil) (by decide) (by decide) q3_47 (by decide +kernel) (fun q => ?_)
    refine J_astore_n hC dL_tie_7 rfl (Nat.le_of_ble_eq_true rfl) rfl ?_
    dsimp only [List.set]
    refine J_iconst (v := -1) hC dL_tie_8 (by decide) ?_
    refine J_ireturn hC hR dL_tie_9 (by decide) (by decide) ?_
    exact h2 (fun q => by rw [e, chk_t q] at g; exact absurd g (by dsimp only; omega))
set_option maxHeartbeats 4000000 in
set_option maxRecDepth 100000 in
theorem c_L_repair {G : GC} {w : Lay} {σ : Mem} {Q : Lay → Option Value → Mem → Prop} {Qx : Lay → String → Mem → Prop} (hW : LAY5 w) {A : Nat → Int32} {c hm px u : Nat} (hS : LSt σ c hm A px u) (hc : c < 2 ^ 29) (hh : hm ≤ 1000) {k : Nat} (hk : k < nv A 6) (h1 : canR A k → ∀ σ' px' u', LSt σ' c hm (repA A k) px' u' → Q w (some (.int (nI (2 * nv A (70 + 9 * k + 4))))) σ') (h2 : ¬ (canR A k) → Q w (some (.int (-1))) σ) : ML_repair G w σ [.ref (w.2.1 12 0), .int (nI k)] Q Qx := by
  obtain ⟨hO, hV, hpx, hu, hn9, hc9, hz⟩ := id hS
  have hI := hV.1
  have h6 := r_NK hI
  have h7 := r_HOUR hI
  have e : aRp A (nI k) = chk (canR A k) 2 (0, nI (2 * nv A (70 + 9 * k + 4))) := by
    unfold aRp
    rw [chk_t ⟨k, rfl, hk⟩, cl_n (by omega)]
  refine mt_startW (by decide) rfl (Nat.le_of_ble_eq_true rfl) (fun E hC hR hT => ?_)
  show J G E w 0 0 0 [some (.ref (w.2.1 12 0)), some (.int (nI k)), none] [] σ
  refine J_aload_n hC dL_repair_0 rfl rfl ?_
  refine J_iload_n hC dL_repair_1 rfl rfl ?_
  refine jL_26 hC hW.1 rfl ⟨by decide, by decide⟩ ⟨by decide, by decide⟩ (Nat.le_of_ble_eq_true rfl) dL_repair_2 ?_
  refine c_X9_repair hW.1 (hW.2 0 (by decide)) hO hI (hW.2 _ (by omega)) hpx hu hn9 hc9 (fun g σ' hch => ?_) (fun g => ?_) (fun g => ?_)
  · dsimp only [Option.toList_some, Option.toList_none, List.cons_append, List.nil_append]
    by_cases q : canR A k
    · rw [show (aRp A (nI k)).2 = nI (2 * nv A (70 + 9 * k + 4)) by rw [e, chk_t q]]
      refine J_ireturn hC hR dL_repair_5 (by decide) (by decide) ?_
      rw [cl_n (by omega)] at hch
      exact h1 q σ' _ _ (LSt_ch hS hch (SInv_rep hV (by omega) hk q))
    · rw [e, chk_f q] at g
      exact absurd g (by dsimp only; omega)
  · by_cases q : canR A k
    · rw [e, chk_t q] at g
      exact absurd g (by dsimp only; omega)
    · rw [e, chk_f q] at g
      exact absurd g (by dsimp only; omega)
  · refine JX_catch (hpre := []) (hsuf := []) hC hT rfl (fun q hq9 => absurd hq9 List.not_mem_nil) (by decide) (by decide) q3_47 (by decide +kernel) (fun q => ?_)
    refine J_astore_n hC dL_repair_6 rfl (Nat.le_of_ble_eq_true rfl) rfl ?_
    dsimp only [List.set]
    refine J_iconst (v := -1) hC dL_repair_7 (by decide) ?_
    refine J_ireturn hC hR dL_repair_8 (by decide) (by decide) ?_
    exact h2 (fun q => by rw [e, chk_t q] at g; exact absurd g (by dsimp only; omega))
set_option maxHeartbeats 4000000 in
set_option maxRecDepth 100000 in
theorem c_L_add {G : GC} {w : Lay} {σ : Mem} {Q : Lay → Option Value → Mem → Prop} {Qx : Lay → String → Mem → Prop} (hW : LAY5 w) {A : Nat → Int32} {c hm px u : Nat} (hS : LSt σ c hm A px u) (hc : c < 2 ^ 29) (hh : hm ≤ 1000) {j : Nat} (hj : j < 2 ^ 29) (h1 : nv A 6 ≠ 16 → ∀ x y l o v p, p < 90 → ∀ σ' px' u', LSt σ' (c + 90) hm (kiteA A (nI x) (nI y) (nI l) (nI o) (nI v) (nI p)) px' u' → Q w (some (.int (nI (nv A 6)))) σ') (h2 : nv A 6 = 16 → Q w (some (.int (-1))) σ) : ML_add G w σ [.ref (w.2.1 12 0), .int (nI j), .ref (G.2.2.2.2 2)] Q Qx := by
  obtain ⟨hO, hV, hpx, hu, hn9, hc9, hz⟩ := id hS
  have hI := hV.1
  have h6 := r_NK hI
  have h7 := r_HOUR hI
  obtain ⟨f0, f1, f5, f6⟩ := hV.2.1
  refine mt_startW (by decide) rfl (Nat.le_of_ble_eq_true rfl) (fun E hC hR hT => ?_)
  show J G E w 0 0 0 [some (.ref (w.2.1 12 0)), some (.int (nI j)), some (.ref (G.2.2.2.2 2)), none] [] σ
  refine J_aload_n hC dL_add_0 rfl rfl ?_
  refine J_aload_n hC dL_add_1 rfl rfl ?_
  refine J_iload_n hC dL_add_2 rfl rfl ?_
  refine J_bipush (v := nI 40) hC dL_add_3 (by decide) ?_
  refine jL_29 hC rfl ⟨by decide, by decide⟩ ⟨by decide, by decide⟩ (Nat.le_of_ble_eq_true rfl) dL_add_5 ?_
  refine c_L_pick (by omega) (by omega) (fun x hx => ?_)
  dsimp only [Option.toList_some, Option.toList_none, List.cons_append, List.nil_append]
  refine J_aload_n hC dL_add_8 rfl rfl ?_
  refine J_iload_n hC dL_add_9 rfl rfl ?_
  refine J_iconst (v := nI 1) hC dL_add_10 (by decide) ?_
  refine J_iadd_n hC dL_add_11 ?_
  refine J_bipush (v := nI 30) hC dL_add_12 (by decide) ?_
  refine jL_29 hC rfl ⟨by decide, by decide⟩ ⟨by decide, by decide⟩ (Nat.le_of_ble_eq_true rfl) dL_add_14 ?_
  refine c_L_pick (by omega) (by omega) (fun y hy => ?_)
  dsimp only [Option.toList_some, Option.toList_none, List.cons_append, List.nil_append]
  refine J_iconst (v := nI 1) hC dL_add_17 (by decide) ?_
  refine J_aload_n hC dL_add_18 rfl rfl ?_
  refine J_iload_n hC dL_add_19 rfl rfl ?_
  refine J_iconst (v := nI 2) hC dL_add_20 (by decide) ?_
  refine J_iadd_n hC dL_add_21 ?_
  refine J_bipush (v := nI 30) hC dL_add_22 (by decide) ?_
  refine jL_29 hC rfl ⟨by decide, by decide⟩ ⟨by decide, by decide⟩ (Nat.le_of_ble_eq_true rfl) dL_add_24 ?_
  refine c_L_pick (by omega) (by omega) (fun l hl => ?_)
  dsimp only [Option.toList_some, Option.toList_none, List.cons_append, List.nil_append]
  refine J_iadd_n hC dL_add_27 ?_
  refine J_aload_n hC dL_add_28 rfl rfl ?_
  refine J_iload_n hC dL_add_29 rfl rfl ?_
  refine J_iconst (v := nI 3) hC dL_add_30 (by decide) ?_
  refine J_iadd_n hC dL_add_31 ?_
  refine J_iconst (v := nI 2) hC dL_add_32 (by decide) ?_
  refine jL_29 hC rfl ⟨by decide, by decide⟩ ⟨by decide, by decide⟩ (Nat.le_of_ble_eq_true rfl) dL_add_33 ?_
  refine c_L_pick (by omega) (by omega) (fun o ho => ?_)
  dsimp only [Option.toList_some, Option.toList_none, List.cons_append, List.nil_append]
  refine J_aload_n hC dL_add_36 rfl rfl ?_
  refine J_iload_n hC dL_add_37 rfl rfl ?_
  refine J_iconst (v := nI 4) hC dL_add_38 (by decide) ?_
  refine J_iadd_n hC dL_add_39 ?_
  refine J_iconst (v := nI 4) hC dL_add_40 (by decide) ?_
  refine jL_29 hC rfl ⟨by decide, by decide⟩ ⟨by decide, by decide⟩ (Nat.le_of_ble_eq_true rfl) dL_add_41 ?_
  refine c_L_pick (by omega) (by omega) (fun v hv => ?_)
  dsimp only [Option.toList_some, Option.toList_none, List.cons_append, List.nil_append]
  refine J_aload_n hC dL_add_44 rfl rfl ?_
  refine J_iload_n hC dL_add_45 rfl rfl ?_
  refine J_iconst (v := nI 5) hC dL_add_46 (by decide) ?_
  refine J_iadd_n hC dL_add_47 ?_
  refine J_bipush (v := nI 90) hC dL_add_48 (by decide) ?_
  refine jL_29 hC rfl ⟨by decide, by decide⟩ ⟨by decide, by decide⟩ (Nat.le_of_ble_eq_true rfl) dL_add_50 ?_
  refine c_L_pick (by omega) (by omega) (fun p hp => ?_)
  dsimp only [Option.toList_some, Option.toList_none, List.cons_append, List.nil_append]
  refine jL_35 hC hW.1 rfl ⟨by decide, by decide⟩ ⟨by decide, by decide⟩ (Nat.le_of_ble_eq_true rfl) dL_add_53 ?_
  have e : aAK A (nI x) (nI y) (nI (1 + l)) (nI o) (nI v) (nI p) = chk (nv A 6 ≠ 16) 3 (0, nI (nv A 6)) := by
    unfold aAK
    rw [chk_t ⟨o, rfl, by omega⟩, chk_t ⟨x, rfl, Nat.zero_le _, by omega⟩, chk_t ⟨y, rfl, Nat.zero_le _, by omega⟩, chk_t ⟨1 + l, rfl, by omega, by omega⟩, chk_t ⟨v, rfl, Nat.zero_le _, by omega⟩, chk_t ⟨p, rfl, Nat.zero_le _, by omega⟩]
  refine c_X9_addKite hW.1 (hW.2 0 (by decide)) hO hI (hW.2 _ (by omega)) hpx hu hn9 hc9 (fun g σ' hch => ?_) (fun g => ?_) (fun g => ?_) (fun g => ?_)
  · dsimp only [Option.toList_some, Option.toList_none, List.cons_append, List.nil_append]
    by_cases q : nv A 6 ≠ 16
    · rw [show (aAK A (nI x) (nI y) (nI (1 + l)) (nI o) (nI v) (nI p)).2 = nI (nv A 6) by rw [e, chk_t q]]
      refine J_ireturn hC hR dL_add_56 (by decide) (by decide) ?_
      exact h1 q x y (1 + l) o v p hp σ' _ _ (LSt_ch hS hch (SInv_kite hV (by omega) (by omega) (by omega) (by omega) (by omega) (by omega) (by omega) (by omega)))
    · rw [e, chk_f q] at g
      exact absurd g (by dsimp only; omega)
  · by_cases q : nv A 6 ≠ 16
    · rw [e, chk_t q] at g
      exact absurd g (by dsimp only; omega)
    · rw [e, chk_f q] at g
      exact absurd g (by dsimp only; omega)
  · by_cases q : nv A 6 ≠ 16
    · rw [e, chk_t q] at g
      exact absurd g (by dsimp only; omega)
    · rw [e, chk_f q] at g
      exact absurd g (by dsimp only; omega)
  · refine JX_catch (hpre := []) (hsuf := []) hC hT rfl (fun q hq9 => absurd hq9 List.not_mem_nil) (by decide) (by decide) q3_47 (by decide +kernel) (fun q => ?_)
    refine J_astore_n hC dL_add_57 rfl (Nat.le_of_ble_eq_true rfl) rfl ?_
    dsimp only [List.set]
    refine J_iconst (v := -1) hC dL_add_58 (by decide) ?_
    refine J_ireturn hC hR dL_add_59 (by decide) (by decide) ?_
    exact h2 (Classical.byContradiction (fun q => by rw [e, chk_t q] at g; exact absurd g (by dsimp only; omega)))
