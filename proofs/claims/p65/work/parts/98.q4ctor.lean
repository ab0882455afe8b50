abbrev rnX2_init : Room := { frames := 3, cells := 177, slots := 2864, locals := 60 }
theorem mdnX2_init : yX2_init.cls ≠ "java/lang/invoke/MethodHandle" ∧ yX2_init.cls ≠ "java/lang/invoke/VarHandle" ∧ (parseMethodDescriptor yX2_init.desc).map (fun d => d.parameters.length) = some 0 := by decide +kernel
set_option maxHeartbeats 4000000 in
set_option maxRecDepth 100000 in
theorem c_X2_init {G : GC} {w : Lay} {σ : Mem} {Q : Lay → Option Value → Mem → Prop} {Qx : Lay → String → Mem → Prop} (hm : (12, 1) ∈ w.1) (hf2 : (12, 2) ∉ w.1) (hf : ∀ x y, 2 ≤ x → x < 10 → y ≤ 21 → (x, y) ∉ w.1) (hr2 : ∀ j, w.2.2 12 2 j = none) (hr : ∀ x y j, 2 ≤ x → x < 10 → y ≤ 21 → w.2.2 x y j = none) (hz : ∀ x y j, 2 ≤ x → x < 10 → y ≤ 21 → rd σ x y j = 0) (hzl : rdL σ 0 = 0)
    (hq : ∀ w', XT (fun x y => (x = 12 ∧ y = 2) ∨ (2 ≤ x ∧ x < 10 ∧ y ≤ 21)) (fun x y i => (x = 12 ∧ 1 ≤ y ∧ y ≤ 2) ∨ (2 ≤ x ∧ x < 10 ∧ y ≤ 21)) w w' → PT w' 12 1 0 12 2 → (∀ k, k < 8 → PT w' 12 2 k (2 + k) 0) → (∀ k, k < 8 → LO w' (2 + k)) → Q w' none σ) : MTO G yX2_init (cw yX2_init cX2_init 2 none) rnX2_init 177 2864 w σ [.ref (w.2.1 12 1)] Q Qx := by
  refine mt_startO (by decide) rfl (Nat.le_of_ble_eq_true rfl) (fun E hC hR hN hAO hIn0 => ?_)
  have hIn := hIn0 rfl
  show J G E w 0 0 0 [some (.ref (w.2.1 12 1)), none] [] σ
  have lp : ∀ (n i : Nat) (w1 : Lay), i + n = 8 → XT (fun x y => (x = 12 ∧ y = 2) ∨ (2 ≤ x ∧ x < 2 + i ∧ y ≤ 21)) (fun x y μ => (x = 12 ∧ 1 ≤ y ∧ y ≤ 2) ∨ (2 ≤ x ∧ x < 2 + i ∧ y ≤ 21)) w w1 → PT w1 12 1 0 12 2 → (∀ k, k < i → PT w1 12 2 k (2 + k) 0) → (∀ k, k < i → LO w1 (2 + k)) → J G E w1 (1 + 22 * i) (8 + 357 * i) 15 [some (.ref (w.2.1 12 1)), some (.int (nI i))] [] σ := by
    intro n
    induction n with
    | zero =>
      intro i w1 hn hA hp hps hls
      obtain rfl : i = 8 := by omega
      refine J_iload_n hC dX2_init_15 rfl rfl ?_
      refine J_bipush (v := nI 8) hC dX2_init_16 (by decide) ?_
      refine J_icmp_ge_n hC (by omega) (by decide) (tgt := 40) dX2_init_18 rfl (fun _ => ?_) (fun hb0 => absurd hb0 (by omega))
      refine J_return hC hR dX2_init_40 (by decide) (by decide) ?_
      exact hq w1 hA hp hps hls
    | succ n ih =>
      intro i w1 hn hA hp hps hls
      refine J_iload_n hC dX2_init_15 rfl rfl ?_
      refine J_bipush (v := nI 8) hC dX2_init_16 (by decide) ?_
      refine J_icmp_ge_n hC (by omega) (by decide) (tgt := 40) dX2_init_18 rfl (fun hb0 => absurd hb0 (by omega)) (fun _ => ?_)
      refine J_aload_n hC dX2_init_21 rfl rfl ?_
      have hb := (hA.2.1 _ _ hm).symm
      rw [hb]
      refine J_getR (j := 0) hC ((hA.1 _ _).mpr (Or.inl hm)) rfl rfl rfl (by decide) inA2 q2_15 rfl hp dX2_init_22 ?_
      refine J_iload_n hC dX2_init_25 rfl rfl ?_
      refine J_newO hC (o := 2 + i) (c := 0) (fun g => ((hA.1 _ _).mp g).elim (hf _ _ (by omega) (by omega) (by omega)) (fun q => by first | omega | (dsimp only at q; omega))) (kd_o (by omega)) rfl inA4 tyX4_ok q2_12 q1_37 q1_2 (fun j => (hA.2.2 _ _ _ (fun q => by first | omega | (dsimp only at q; omega))).trans (hr _ _ _ (by omega) (by omega) (by omega))) (fun j => hz _ _ _ (by omega) (by omega) (by omega)) hzl (by decide) ⟨by show 1 + 22 * i + 1 ≤ 177; omega, by show 8 + 357 * i + 7 ≤ 2864; omega⟩ dX2_init_26 (fun w2 hX2 => ?_)
      refine J_dup hC dX2_init_29 rfl ?_
      refine J_invIN (y := yX4_init) (rm := rnX4_init) hC hAO rfl (host := "KitePermits") q1_40 q1_39 q1_2 (by decide +kernel) rfl ⟨mdnX4_init.1, mdnX4_init.2.1, mdnX4_init.2.2⟩ rfl rfl ⟨by decide, by decide⟩ ⟨by show 1 + 22 * i + 1 + 21 ≤ 177; omega, by show 8 + 357 * i + 7 + 350 ≤ 2864; omega⟩ (Nat.le_of_ble_eq_true rfl) dX2_init_30 ?_
      refine c_X4_init (by omega) ((hX2.1 _ _).mpr (Or.inr ⟨rfl, rfl⟩)) (fun y h1 h2 g => ((hX2.1 _ _).mp g).elim (fun g => ((hA.1 _ _).mp g).elim (hf _ _ (by omega) (by omega) (by omega)) (fun q => by first | omega | (dsimp only at q; omega))) (fun q => by first | omega | (dsimp only at q; omega))) (fun y j h1 h2 => (hX2.2.2 _ _ _ (fun q => by first | omega | (dsimp only at q; omega))).trans ((hA.2.2 _ _ _ (fun q => by first | omega | (dsimp only at q; omega))).trans (hr _ _ _ (by omega) (by omega) (by omega)))) (fun y j h1 h2 => hz _ _ _ (by omega) (by omega) (by omega)) hzl (fun w3 hX3 hT3 => ?_)
      dsimp only [Option.toList_none, List.nil_append]
      have hm2 : (12, 2) ∈ w1.1 := (hA.1 _ _).mpr (Or.inr (Or.inl ⟨rfl, rfl⟩))
      have hm22 : (12, 2) ∈ w2.1 := (hX2.1 _ _).mpr (Or.inl hm2)
      have hm23 : (12, 2) ∈ w3.1 := (hX3.1 _ _).mpr (Or.inl hm22)
      have ho2 : (2 + i, 0) ∈ w2.1 := (hX2.1 _ _).mpr (Or.inr ⟨rfl, rfl⟩)
      have ho3 : (2 + i, 0) ∈ w3.1 := (hX3.1 _ _).mpr (Or.inl ho2)
      refine J_aast hC (o := 12) (c := 2) (n := 8) (k := i) (o2 := 2 + i) hm23 ((hX3.2.1 _ _ hm22).trans (hX2.2.1 _ _ hm2)).symm rfl rfl (by omega) (by decide) ho3 (by omega) (hX3.2.1 _ _ ho2).symm dX2_init_33 (fun w4 hX4 hP4 => ?_)
      have hB := XT_tr (XT_tr hX2 hX3) hX4
      have hA4 := XT_mono (S' := fun x y => (x = 12 ∧ y = 2) ∨ (2 ≤ x ∧ x < 2 + (i + 1) ∧ y ≤ 21)) (R' := fun x y μ => (x = 12 ∧ 1 ≤ y ∧ y ≤ 2) ∨ (2 ≤ x ∧ x < 2 + (i + 1) ∧ y ≤ 21)) (XT_tr hA hB) (fun x y => by first | omega | (dsimp only; omega)) (fun x y j => by first | omega | (dsimp only; omega))
      have hL3 := LO_new (o := 2 + i) (by omega) (XT_mono (R' := fun x y j => x = 2 + i ∧ y ≤ 21) (XT_tr hX2 hX3) (fun x y => by first | omega | (dsimp only; omega)) (fun x y j => by first | omega | (dsimp only; omega))) hT3
      refine J_iinc_n (m := 1) hC (by decide) dX2_init_34 rfl (Nat.le_of_ble_eq_true rfl) rfl ?_
      dsimp only [List.set]
      refine J_goto (tgt := 15) hC dX2_init_37 rfl ?_
      rw [← hb]
      have e1 : 1 + 22 * i + 1 + 21 = 1 + 22 * (i + 1) := by omega
      have e2 : 8 + 357 * i + 7 + 350 = 8 + 357 * (i + 1) := by omega
      rw [e1, e2]
      refine ih (i + 1) w4 (by omega) hA4 (PT_keep hp hB (fun q => by first | omega | (dsimp only at q; omega)) hm2) (fun k hk => ?_) (fun k hk => ?_)
      · by_cases hki : k = i
        · subst hki
          unfold PT
          rw [hP4, hX4.2.1 _ _ ho3, hX3.2.1 _ _ ho2]
        · exact PT_keep (hps k (by omega)) hB (fun q => by first | omega | (dsimp only at q; omega)) ((hls k (by omega)).2.1 0 (by decide))
      · by_cases hki : k = i
        · subst hki
          exact LO_keep hL3 hX4 (fun y j => (fun q => by first | omega | (dsimp only at q; omega)))
        · exact LO_keep (hls k (by omega)) hB (fun y j => (fun q => by first | omega | (dsimp only at q; omega)))
  have hA0 := XT_mono (S' := fun x y => y < 0) (R' := fun x y i => y < 0) (XT_rf (w := w)) (fun x y => by first | omega | (dsimp only; omega)) (fun x y i => by first | omega | (dsimp only; omega))
  refine J_aload_n hC dX2_init_0 rfl rfl ?_
  refine J_objI hC rfl q2_11 (by decide) (by decide) dX2_init_1 ?_
  refine J_aload_n hC dX2_init_4 rfl rfl ?_
  refine J_bipush (v := nI 8) hC dX2_init_5 (by decide) ?_
  refine J_newQ hC hAO (o := 12) (c := 2) (n := 8) hf2 rfl rfl (by decide) hr2 q2_12 ⟨by decide, by decide⟩ dX2_init_7 (fun w1 hX1 => ?_)
  refine rX2_11 hC hIn ((hX1.1 _ _).mpr (Or.inl hm)) (hX1.2.1 _ _ hm).symm dX2_init_10 (fun w2 hX2 hP2 => ?_)
  refine J_iconst (v := nI 0) hC dX2_init_13 (by decide) ?_
  refine J_istore_n hC dX2_init_14 rfl (Nat.le_of_ble_eq_true rfl) rfl ?_
  dsimp only [List.set]
  refine lp 8 0 w2 rfl (XT_mono (XT_tr hX1 hX2) (fun x y => by first | omega | (dsimp only; omega)) (fun x y j => by first | omega | (dsimp only; omega))) ?_ (fun k hk => absurd hk (Nat.not_lt_zero _)) (fun k hk => absurd hk (Nat.not_lt_zero _))
  unfold PT
  rw [hP2, hX2.2.1 _ _ ((hX1.1 _ _).mpr (Or.inr ⟨rfl, rfl⟩))]
abbrev rnX9_init : Room := { frames := 4, cells := 277, slots := 5284, locals := 81 }
theorem mdnX9_init : yX9_init.cls ≠ "java/lang/invoke/MethodHandle" ∧ yX9_init.cls ≠ "java/lang/invoke/VarHandle" ∧ (parseMethodDescriptor yX9_init.desc).map (fun d => d.parameters.length) = some 0 := by decide +kernel
theorem rd_fO12 (x y j : Nat) (h : 1 ≤ x) : rd fO12 x y j = 0 := by
  unfold fO12 fO11 fO10 fO9 fO8 fO7 fO6 fO5 fO4 fO3 fO2 fO1 enM acM awM
  repeat rw [rd_wr_o (by omega)]
  rfl
set_option maxHeartbeats 16000000 in
set_option maxRecDepth 100000 in
theorem c_X9_init {G : GC} {w : Lay} {Q : Lay → Option Value → Mem → Prop} {Qx : Lay → String → Mem → Prop} (hm : (12, 0) ∈ w.1) (hf : ∀ x y, (x < 12 ∧ y ≤ 21) ∨ (x = 12 ∧ 1 ≤ y ∧ y ≤ 13) → (x, y) ∉ w.1) (hr : ∀ x y j, (x < 12 ∧ y ≤ 21) ∨ (x = 12 ∧ 1 ≤ y ∧ y ≤ 13) → w.2.2 x y j = none) (hq : ∀ w', XT (fun x y => (x < 12 ∧ y ≤ 21) ∨ (x = 12 ∧ 1 ≤ y ∧ y ≤ 13)) (fun x y i => (x < 12 ∧ y ≤ 21) ∨ (x = 12 ∧ y ≤ 13)) w w' → LK w' → (∀ o, o < 12 → LO w' o) → Q w' none (wr fO12 12 5 3 (-1))) : MTO G yX9_init (cw yX9_init cX9_init 2 none) rnX9_init 277 5284 w Z0 [.ref (w.2.1 12 0)] Q Qx := by
  refine mt_startO (by decide) rfl (Nat.le_of_ble_eq_true rfl) (fun E hC hR hN hAO hIn0 => ?_)
  have hIn := hIn0 rfl
  show J G E w 0 0 0 [some (.ref (w.2.1 12 0)), none] [] Z0
  have hA0 := XT_mono (S' := fun x y => y < 0) (R' := fun x y i => y < 0) (XT_rf (w := w)) (fun x y => by first | omega | (dsimp only; omega)) (fun x y i => by first | omega | (dsimp only; omega))
  refine J_aload_n hC dX9_init_0 rfl rfl ?_
  refine J_objI hC rfl q1_30 (by decide) (by decide) dX9_init_1 ?_
  refine J_aload_n hC dX9_init_4 rfl rfl ?_
  refine J_invSO (mc := 22) (ms := 357) (rm := rnX9_firstOffice) hC hAO rfl (As := []) rfl (goodS q1_33 q1_34 q1_1 q1_35) mdX9_firstOffice.2 rfl rfl ⟨by decide, by decide⟩ rfl ⟨by decide, by decide⟩ (Nat.le_of_ble_eq_true rfl) dX9_init_5 ?_
  refine c_X9_firstOffice (fun y h => hf _ _ (by omega)) (fun y j h => hr _ _ _ (by omega)) (fun w1 hX1 hL1 => ?_)
  dsimp only [Option.toList_some, List.cons_append, List.nil_append]
  have hA1 := XT_mono (S' := fun x y => x = 0 ∧ y ≤ 21) (R' := fun x y i => x = 0 ∧ y ≤ 21) (XT_tr hA0 hX1) (fun x y => by first | omega | (dsimp only; omega)) (fun x y i => by first | omega | (dsimp only; omega))
  have l0_1 := hL1
  refine rX9_13 hC hIn ((hA1.1 _ _).mpr (Or.inl hm)) (hA1.2.1 _ _ hm).symm dX9_init_8 (fun w2 hX2 hP2 => ?_)
  have p00_2 : PT w2 12 0 0 0 0 := by
    unfold PT
    rw [hP2, hX2.2.1 _ _ ((hA1.1 _ _).mpr (Or.inr (by first | omega | (dsimp only; omega))))]
  have hA2 := XT_mono (S' := fun x y => x = 0 ∧ y ≤ 21) (R' := fun x y i => (x = 0 ∧ y ≤ 21) ∨ (x = 12 ∧ y = 0)) (XT_tr hA1 hX2) (fun x y => by first | omega | (dsimp only; omega)) (fun x y i => by first | omega | (dsimp only; omega))
  have l0_2 : LO w2 0 := LO_keep l0_1 hX2 (fun y i => (fun q => by first | omega | (dsimp only at q; omega)))
  refine J_aload_n hC dX9_init_11 rfl rfl ?_
  refine J_newO hC (o := 1) (c := 0) (fun g => ((hA2.1 _ _).mp g).elim (hf _ _ (by omega)) (fun q => by first | omega | (dsimp only at q; omega))) (kd_o (by decide)) rfl inA4 tyX4_ok q1_36 q1_37 q1_2 (fun j => (hA2.2.2 _ _ _ (fun q => by first | omega | (dsimp only at q; omega))).trans (hr _ _ _ (by omega))) (fun j => rfl) rfl (by decide) ⟨by decide, by decide⟩ dX9_init_12 (fun w3 hX3 => ?_)
  have hA3 := XT_mono (S' := fun x y => (x = 0 ∧ y ≤ 21) ∨ (x = 1 ∧ y = 0)) (R' := fun x y i => (x = 0 ∧ y ≤ 21) ∨ (x = 12 ∧ y = 0)) (XT_tr hA2 hX3) (fun x y => by first | omega | (dsimp only; omega)) (fun x y i => by first | omega | (dsimp only; omega))
  have l0_3 : LO w3 0 := LO_keep l0_2 hX3 (fun y i => (fun q => by first | omega | (dsimp only at q; omega)))
  have p00_3 : PT w3 12 0 0 0 0 := PT_keep p00_2 hX3 (fun q => by first | omega | (dsimp only at q; omega)) ((hA2.1 _ _).mpr (Or.inr (by first | omega | (dsimp only; omega))))
  refine J_dup hC dX9_init_15 rfl ?_
  refine J_invIN (y := yX4_init) (rm := rnX4_init) hC hAO rfl (host := "KitePermits") q1_40 q1_39 q1_2 (by decide +kernel) rfl ⟨mdnX4_init.1, mdnX4_init.2.1, mdnX4_init.2.2⟩ rfl rfl ⟨by decide, by decide⟩ ⟨by decide, by decide⟩ (Nat.le_of_ble_eq_true rfl) dX9_init_16 ?_
  refine c_X4_init (by decide) ((hA3.1 _ _).mpr (Or.inr (by first | omega | (dsimp only; omega)))) (fun y h1 h2 => (fun g => ((hA3.1 _ _).mp g).elim (hf _ _ (by omega)) (fun q => by first | omega | (dsimp only at q; omega)))) (fun y j h1 h2 => (hA3.2.2 _ _ _ (fun q => by first | omega | (dsimp only at q; omega))).trans (hr _ _ _ (by omega))) (fun y j h1 h2 => rd_fO12 _ _ _ (by omega)) rfl (fun w4 hX4 hT4 => ?_)
  dsimp only [Option.toList_none, List.nil_append]
  have hA4 := XT_mono (S' := fun x y => x ≤ 1 ∧ y ≤ 21) (R' := fun x y i => (x ≤ 1 ∧ y ≤ 21) ∨ (x = 12 ∧ y = 0)) (XT_tr hA3 hX4) (fun x y => by first | omega | (dsimp only; omega)) (fun x y i => by first | omega | (dsimp only; omega))
  have l0_4 : LO w4 0 := LO_keep l0_3 hX4 (fun y i => (fun q => by first | omega | (dsimp only at q; omega)))
  have p00_4 : PT w4 12 0 0 0 0 := PT_keep p00_3 hX4 (fun q => by first | omega | (dsimp only at q; omega)) ((hA3.1 _ _).mpr (Or.inr (by first | omega | (dsimp only; omega))))
  have l1_4 : LO w4 1 := LO_new (by decide) (XT_mono (R' := fun x y j => x = 1 ∧ y ≤ 21) (XT_tr hX3 hX4) (fun x y => by first | omega | (dsimp only; omega)) (fun x y i => by first | omega | (dsimp only; omega))) hT4
  refine rX9_20 hC hIn ((hA4.1 _ _).mpr (Or.inl hm)) (hA4.2.1 _ _ hm).symm dX9_init_19 (fun w5 hX5 hP5 => ?_)
  have p01_5 : PT w5 12 0 1 1 0 := by
    unfold PT
    rw [hP5, hX5.2.1 _ _ ((hA4.1 _ _).mpr (Or.inr (by first | omega | (dsimp only; omega))))]
    rw [hX4.2.1 _ _ ((hA3.1 _ _).mpr (Or.inr (by first | omega | (dsimp only; omega))))]
  have hA5 := XT_mono (S' := fun x y => x ≤ 1 ∧ y ≤ 21) (R' := fun x y i => (x ≤ 1 ∧ y ≤ 21) ∨ (x = 12 ∧ y = 0)) (XT_tr hA4 hX5) (fun x y => by first | omega | (dsimp only; omega)) (fun x y i => by first | omega | (dsimp only; omega))
  have l0_5 : LO w5 0 := LO_keep l0_4 hX5 (fun y i => (fun q => by first | omega | (dsimp only at q; omega)))
  have p00_5 : PT w5 12 0 0 0 0 := PT_keep p00_4 hX5 (fun q => by first | omega | (dsimp only at q; omega)) ((hA4.1 _ _).mpr (Or.inr (by first | omega | (dsimp only; omega))))
  have l1_5 : LO w5 1 := LO_keep l1_4 hX5 (fun y i => (fun q => by first | omega | (dsimp only at q; omega)))
  refine J_aload_n hC dX9_init_22 rfl rfl ?_
  refine J_newO hC (o := 12) (c := 1) (fun g => ((hA5.1 _ _).mp g).elim (hf _ _ (by omega)) (fun q => by first | omega | (dsimp only at q; omega))) rfl rfl inA2 tyX2_ok q2_6 q2_7 q1_6 (fun j => (hA5.2.2 _ _ _ (fun q => by first | omega | (dsimp only at q; omega))).trans (hr _ _ _ (by omega))) (fun j => rfl) rfl (by decide) ⟨by decide, by decide⟩ dX9_init_23 (fun w6 hX6 => ?_)
  have hA6 := XT_mono (S' := fun x y => (x ≤ 1 ∧ y ≤ 21) ∨ (x = 12 ∧ y = 1)) (R' := fun x y i => (x ≤ 1 ∧ y ≤ 21) ∨ (x = 12 ∧ y = 0)) (XT_tr hA5 hX6) (fun x y => by first | omega | (dsimp only; omega)) (fun x y i => by first | omega | (dsimp only; omega))
  have l0_6 : LO w6 0 := LO_keep l0_5 hX6 (fun y i => (fun q => by first | omega | (dsimp only at q; omega)))
  have p00_6 : PT w6 12 0 0 0 0 := PT_keep p00_5 hX6 (fun q => by first | omega | (dsimp only at q; omega)) ((hA5.1 _ _).mpr (Or.inr (by first | omega | (dsimp only; omega))))
  have l1_6 : LO w6 1 := LO_keep l1_5 hX6 (fun y i => (fun q => by first | omega | (dsimp only at q; omega)))
  have p01_6 : PT w6 12 0 1 1 0 := PT_keep p01_5 hX6 (fun q => by first | omega | (dsimp only at q; omega)) ((hA5.1 _ _).mpr (Or.inr (by first | omega | (dsimp only; omega))))
  refine J_dup hC dX9_init_26 rfl ?_
  refine J_invI (y := yX2_init) (rm := rnX2_init) hC hAO rfl q2_10 q2_9 q1_6 q2_8 rfl ⟨mdnX2_init.1, mdnX2_init.2.1, mdnX2_init.2.2⟩ rfl rfl ⟨by decide, by decide⟩ ⟨by decide, by decide⟩ (Nat.le_of_ble_eq_true rfl) dX9_init_27 ?_
  refine c_X2_init ((hA6.1 _ _).mpr (Or.inr (by first | omega | (dsimp only; omega)))) (fun g => ((hA6.1 _ _).mp g).elim (hf _ _ (by omega)) (fun q => by first | omega | (dsimp only at q; omega))) (fun x y h1 h2 h3 => (fun g => ((hA6.1 _ _).mp g).elim (hf _ _ (by omega)) (fun q => by first | omega | (dsimp only at q; omega)))) (fun j => (hA6.2.2 _ _ _ (fun q => by first | omega | (dsimp only at q; omega))).trans (hr _ _ _ (by omega))) (fun x y j h1 h2 h3 => (hA6.2.2 _ _ _ (fun q => by first | omega | (dsimp only at q; omega))).trans (hr _ _ _ (by omega))) (fun x y j h1 h2 h3 => rd_fO12 _ _ _ (by omega)) rfl (fun w7 hX7 p10_7 ps_7 lo_7 => ?_)
  dsimp only [Option.toList_none, List.nil_append]
  have hA7 := XT_mono (S' := fun x y => (x ≤ 9 ∧ y ≤ 21) ∨ (x = 12 ∧ 1 ≤ y ∧ y ≤ 2)) (R' := fun x y i => (x ≤ 9 ∧ y ≤ 21) ∨ (x = 12 ∧ y ≤ 2)) (XT_tr hA6 hX7) (fun x y => by first | omega | (dsimp only; omega)) (fun x y i => by first | omega | (dsimp only; omega))
  have l0_7 : LO w7 0 := LO_keep l0_6 hX7 (fun y i => (fun q => by first | omega | (dsimp only at q; omega)))
  have p00_7 : PT w7 12 0 0 0 0 := PT_keep p00_6 hX7 (fun q => by first | omega | (dsimp only at q; omega)) ((hA6.1 _ _).mpr (Or.inr (by first | omega | (dsimp only; omega))))
  have l1_7 : LO w7 1 := LO_keep l1_6 hX7 (fun y i => (fun q => by first | omega | (dsimp only at q; omega)))
  have p01_7 : PT w7 12 0 1 1 0 := PT_keep p01_6 hX7 (fun q => by first | omega | (dsimp only at q; omega)) ((hA6.1 _ _).mpr (Or.inr (by first | omega | (dsimp only; omega))))
  refine rX9_26 hC hIn ((hA7.1 _ _).mpr (Or.inl hm)) (hA7.2.1 _ _ hm).symm dX9_init_30 (fun w8 hX8 hP8 => ?_)
  have p02_8 : PT w8 12 0 2 12 1 := by
    unfold PT
    rw [hP8, hX8.2.1 _ _ ((hA7.1 _ _).mpr (Or.inr (by first | omega | (dsimp only; omega))))]
    rw [hX7.2.1 _ _ ((hA6.1 _ _).mpr (Or.inr (by first | omega | (dsimp only; omega))))]
  have hA8 := XT_mono (S' := fun x y => (x ≤ 9 ∧ y ≤ 21) ∨ (x = 12 ∧ 1 ≤ y ∧ y ≤ 2)) (R' := fun x y i => (x ≤ 9 ∧ y ≤ 21) ∨ (x = 12 ∧ y ≤ 2)) (XT_tr hA7 hX8) (fun x y => by first | omega | (dsimp only; omega)) (fun x y i => by first | omega | (dsimp only; omega))
  have l0_8 : LO w8 0 := LO_keep l0_7 hX8 (fun y i => (fun q => by first | omega | (dsimp only at q; omega)))
  have p00_8 : PT w8 12 0 0 0 0 := PT_keep p00_7 hX8 (fun q => by first | omega | (dsimp only at q; omega)) ((hA7.1 _ _).mpr (Or.inr (by first | omega | (dsimp only; omega))))
  have l1_8 : LO w8 1 := LO_keep l1_7 hX8 (fun y i => (fun q => by first | omega | (dsimp only at q; omega)))
  have p01_8 : PT w8 12 0 1 1 0 := PT_keep p01_7 hX8 (fun q => by first | omega | (dsimp only at q; omega)) ((hA7.1 _ _).mpr (Or.inr (by first | omega | (dsimp only; omega))))
  have p10_8 : PT w8 12 1 0 12 2 := PT_keep p10_7 hX8 (fun q => by first | omega | (dsimp only at q; omega)) ((hA7.1 _ _).mpr (Or.inr (by first | omega | (dsimp only; omega))))
  have ps_8 : ∀ k, k < 8 → PT w8 12 2 k (2 + k) 0 := fun k hk => PT_keep (ps_7 k hk) hX8 (fun q => by first | omega | (dsimp only at q; omega)) ((hA7.1 _ _).mpr (Or.inr (by first | omega | (dsimp only; omega))))
  have lo_8 : ∀ k, k < 8 → LO w8 (2 + k) := fun k hk => LO_keep (lo_7 k hk) hX8 (fun y i => (fun q => by first | omega | (dsimp only at q; omega)))
  refine J_aload_n hC dX9_init_33 rfl rfl ?_
  refine J_iconst (v := nI 2) hC dX9_init_34 (by decide) ?_
  refine J_newQ hC hAO (o := 12) (c := 3) (n := 2) (fun g => ((hA8.1 _ _).mp g).elim (hf _ _ (by omega)) (fun q => by first | omega | (dsimp only at q; omega))) rfl rfl (by decide) (fun j => (hA8.2.2 _ _ _ (fun q => by first | omega | (dsimp only at q; omega))).trans (hr _ _ _ (by omega))) q1_36 ⟨by decide, by decide⟩ dX9_init_35 (fun w9 hX9 => ?_)
  have hA9 := XT_mono (S' := fun x y => (x ≤ 9 ∧ y ≤ 21) ∨ (x = 12 ∧ 1 ≤ y ∧ y ≤ 3)) (R' := fun x y i => (x ≤ 9 ∧ y ≤ 21) ∨ (x = 12 ∧ y ≤ 2)) (XT_tr hA8 hX9) (fun x y => by first | omega | (dsimp only; omega)) (fun x y i => by first | omega | (dsimp only; omega))
  have l0_9 : LO w9 0 := LO_keep l0_8 hX9 (fun y i => (fun q => by first | omega | (dsimp only at q; omega)))
  have p00_9 : PT w9 12 0 0 0 0 := PT_keep p00_8 hX9 (fun q => by first | omega | (dsimp only at q; omega)) ((hA8.1 _ _).mpr (Or.inr (by first | omega | (dsimp only; omega))))
  have l1_9 : LO w9 1 := LO_keep l1_8 hX9 (fun y i => (fun q => by first | omega | (dsimp only at q; omega)))
  have p01_9 : PT w9 12 0 1 1 0 := PT_keep p01_8 hX9 (fun q => by first | omega | (dsimp only at q; omega)) ((hA8.1 _ _).mpr (Or.inr (by first | omega | (dsimp only; omega))))
  have p10_9 : PT w9 12 1 0 12 2 := PT_keep p10_8 hX9 (fun q => by first | omega | (dsimp only at q; omega)) ((hA8.1 _ _).mpr (Or.inr (by first | omega | (dsimp only; omega))))
  have ps_9 : ∀ k, k < 8 → PT w9 12 2 k (2 + k) 0 := fun k hk => PT_keep (ps_8 k hk) hX9 (fun q => by first | omega | (dsimp only at q; omega)) ((hA8.1 _ _).mpr (Or.inr (by first | omega | (dsimp only; omega))))
  have lo_9 : ∀ k, k < 8 → LO w9 (2 + k) := fun k hk => LO_keep (lo_8 k hk) hX9 (fun y i => (fun q => by first | omega | (dsimp only at q; omega)))
  have p02_9 : PT w9 12 0 2 12 1 := PT_keep p02_8 hX9 (fun q => by first | omega | (dsimp only at q; omega)) ((hA8.1 _ _).mpr (Or.inr (by first | omega | (dsimp only; omega))))
  refine rX9_30 hC hIn ((hA9.1 _ _).mpr (Or.inl hm)) (hA9.2.1 _ _ hm).symm dX9_init_38 (fun w10 hX10 hP10 => ?_)
  have p03_10 : PT w10 12 0 3 12 3 := by
    unfold PT
    rw [hP10, hX10.2.1 _ _ ((hA9.1 _ _).mpr (Or.inr (by first | omega | (dsimp only; omega))))]
  have hA10 := XT_mono (S' := fun x y => (x ≤ 9 ∧ y ≤ 21) ∨ (x = 12 ∧ 1 ≤ y ∧ y ≤ 3)) (R' := fun x y i => (x ≤ 9 ∧ y ≤ 21) ∨ (x = 12 ∧ y ≤ 2)) (XT_tr hA9 hX10) (fun x y => by first | omega | (dsimp only; omega)) (fun x y i => by first | omega | (dsimp only; omega))
  have l0_10 : LO w10 0 := LO_keep l0_9 hX10 (fun y i => (fun q => by first | omega | (dsimp only at q; omega)))
  have p00_10 : PT w10 12 0 0 0 0 := PT_keep p00_9 hX10 (fun q => by first | omega | (dsimp only at q; omega)) ((hA9.1 _ _).mpr (Or.inr (by first | omega | (dsimp only; omega))))
  have l1_10 : LO w10 1 := LO_keep l1_9 hX10 (fun y i => (fun q => by first | omega | (dsimp only at q; omega)))
  have p01_10 : PT w10 12 0 1 1 0 := PT_keep p01_9 hX10 (fun q => by first | omega | (dsimp only at q; omega)) ((hA9.1 _ _).mpr (Or.inr (by first | omega | (dsimp only; omega))))
  have p10_10 : PT w10 12 1 0 12 2 := PT_keep p10_9 hX10 (fun q => by first | omega | (dsimp only at q; omega)) ((hA9.1 _ _).mpr (Or.inr (by first | omega | (dsimp only; omega))))
  have ps_10 : ∀ k, k < 8 → PT w10 12 2 k (2 + k) 0 := fun k hk => PT_keep (ps_9 k hk) hX10 (fun q => by first | omega | (dsimp only at q; omega)) ((hA9.1 _ _).mpr (Or.inr (by first | omega | (dsimp only; omega))))
  have lo_10 : ∀ k, k < 8 → LO w10 (2 + k) := fun k hk => LO_keep (lo_9 k hk) hX10 (fun y i => (fun q => by first | omega | (dsimp only at q; omega)))
  have p02_10 : PT w10 12 0 2 12 1 := PT_keep p02_9 hX10 (fun q => by first | omega | (dsimp only at q; omega)) ((hA9.1 _ _).mpr (Or.inr (by first | omega | (dsimp only; omega))))
  refine J_iconst (v := nI 0) hC dX9_init_41 (by decide) ?_
  refine J_istore_n hC dX9_init_42 rfl (Nat.le_of_ble_eq_true rfl) rfl ?_
  dsimp only [List.set]
  refine J_iload_n hC dX9_init_43 rfl rfl ?_
  refine J_iconst (v := nI 2) hC dX9_init_44 (by decide) ?_
  refine J_icmp_ge_n hC (by decide) (by decide) (tgt := 67) dX9_init_45 rfl (fun hb0 => absurd hb0 (by decide)) (fun _ => ?_)
  refine J_aload_n hC dX9_init_48 rfl rfl ?_
  have hb0 := (hA10.2.1 _ _ hm).symm
  rw [hb0]
  refine J_getR (j := 3) hC ((hA10.1 _ _).mpr (Or.inl hm)) rfl rfl rfl (by decide) inA9 q2_106 rfl p03_10 dX9_init_49 ?_
  rw [← hb0]
  refine J_iload_n hC dX9_init_52 rfl rfl ?_
  refine J_newO hC (o := 10) (c := 0) (fun g => ((hA10.1 _ _).mp g).elim (hf _ _ (by omega)) (fun q => by first | omega | (dsimp only at q; omega))) (kd_o (by decide)) rfl inA4 tyX4_ok q1_36 q1_37 q1_2 (fun j => (hA10.2.2 _ _ _ (fun q => by first | omega | (dsimp only at q; omega))).trans (hr _ _ _ (by omega))) (fun j => rfl) rfl (by decide) ⟨by decide, by decide⟩ dX9_init_53 (fun w11 hX11 => ?_)
  have hA11 := XT_mono (S' := fun x y => ((x ≤ 9 ∧ y ≤ 21) ∨ (x = 12 ∧ 1 ≤ y ∧ y ≤ 3)) ∨ (x = 10 ∧ y = 0)) (R' := fun x y i => (x ≤ 9 ∧ y ≤ 21) ∨ (x = 12 ∧ y ≤ 2)) (XT_tr hA10 hX11) (fun x y => by first | omega | (dsimp only; omega)) (fun x y i => by first | omega | (dsimp only; omega))
  have l0_11 : LO w11 0 := LO_keep l0_10 hX11 (fun y i => (fun q => by first | omega | (dsimp only at q; omega)))
  have p00_11 : PT w11 12 0 0 0 0 := PT_keep p00_10 hX11 (fun q => by first | omega | (dsimp only at q; omega)) ((hA10.1 _ _).mpr (Or.inr (by first | omega | (dsimp only; omega))))
  have l1_11 : LO w11 1 := LO_keep l1_10 hX11 (fun y i => (fun q => by first | omega | (dsimp only at q; omega)))
  have p01_11 : PT w11 12 0 1 1 0 := PT_keep p01_10 hX11 (fun q => by first | omega | (dsimp only at q; omega)) ((hA10.1 _ _).mpr (Or.inr (by first | omega | (dsimp only; omega))))
  have p10_11 : PT w11 12 1 0 12 2 := PT_keep p10_10 hX11 (fun q => by first | omega | (dsimp only at q; omega)) ((hA10.1 _ _).mpr (Or.inr (by first | omega | (dsimp only; omega))))
  have ps_11 : ∀ k, k < 8 → PT w11 12 2 k (2 + k) 0 := fun k hk => PT_keep (ps_10 k hk) hX11 (fun q => by first | omega | (dsimp only at q; omega)) ((hA10.1 _ _).mpr (Or.inr (by first | omega | (dsimp only; omega))))
  have lo_11 : ∀ k, k < 8 → LO w11 (2 + k) := fun k hk => LO_keep (lo_10 k hk) hX11 (fun y i => (fun q => by first | omega | (dsimp only at q; omega)))
  have p02_11 : PT w11 12 0 2 12 1 := PT_keep p02_10 hX11 (fun q => by first | omega | (dsimp only at q; omega)) ((hA10.1 _ _).mpr (Or.inr (by first | omega | (dsimp only; omega))))
  have p03_11 : PT w11 12 0 3 12 3 := PT_keep p03_10 hX11 (fun q => by first | omega | (dsimp only at q; omega)) ((hA10.1 _ _).mpr (Or.inr (by first | omega | (dsimp only; omega))))
  refine J_dup hC dX9_init_56 rfl ?_
  refine J_invIN (y := yX4_init) (rm := rnX4_init) hC hAO rfl (host := "KitePermits") q1_40 q1_39 q1_2 (by decide +kernel) rfl ⟨mdnX4_init.1, mdnX4_init.2.1, mdnX4_init.2.2⟩ rfl rfl ⟨by decide, by decide⟩ ⟨by decide, by decide⟩ (Nat.le_of_ble_eq_true rfl) dX9_init_57 ?_
  refine c_X4_init (by decide) ((hA11.1 _ _).mpr (Or.inr (by first | omega | (dsimp only; omega)))) (fun y h1 h2 => (fun g => ((hA11.1 _ _).mp g).elim (hf _ _ (by omega)) (fun q => by first | omega | (dsimp only at q; omega)))) (fun y j h1 h2 => (hA11.2.2 _ _ _ (fun q => by first | omega | (dsimp only at q; omega))).trans (hr _ _ _ (by omega))) (fun y j h1 h2 => rd_fO12 _ _ _ (by omega)) rfl (fun w12 hX12 hT12 => ?_)
  dsimp only [Option.toList_none, List.nil_append]
  have hA12 := XT_mono (S' := fun x y => (x ≤ 10 ∧ y ≤ 21) ∨ (x = 12 ∧ 1 ≤ y ∧ y ≤ 3)) (R' := fun x y i => (x ≤ 10 ∧ y ≤ 21) ∨ (x = 12 ∧ y ≤ 2)) (XT_tr hA11 hX12) (fun x y => by first | omega | (dsimp only; omega)) (fun x y i => by first | omega | (dsimp only; omega))
  have l0_12 : LO w12 0 := LO_keep l0_11 hX12 (fun y i => (fun q => by first | omega | (dsimp only at q; omega)))
  have p00_12 : PT w12 12 0 0 0 0 := PT_keep p00_11 hX12 (fun q => by first | omega | (dsimp only at q; omega)) ((hA11.1 _ _).mpr (Or.inr (by first | omega | (dsimp only; omega))))
  have l1_12 : LO w12 1 := LO_keep l1_11 hX12 (fun y i => (fun q => by first | omega | (dsimp only at q; omega)))
  have p01_12 : PT w12 12 0 1 1 0 := PT_keep p01_11 hX12 (fun q => by first | omega | (dsimp only at q; omega)) ((hA11.1 _ _).mpr (Or.inr (by first | omega | (dsimp only; omega))))
  have p10_12 : PT w12 12 1 0 12 2 := PT_keep p10_11 hX12 (fun q => by first | omega | (dsimp only at q; omega)) ((hA11.1 _ _).mpr (Or.inr (by first | omega | (dsimp only; omega))))
  have ps_12 : ∀ k, k < 8 → PT w12 12 2 k (2 + k) 0 := fun k hk => PT_keep (ps_11 k hk) hX12 (fun q => by first | omega | (dsimp only at q; omega)) ((hA11.1 _ _).mpr (Or.inr (by first | omega | (dsimp only; omega))))
  have lo_12 : ∀ k, k < 8 → LO w12 (2 + k) := fun k hk => LO_keep (lo_11 k hk) hX12 (fun y i => (fun q => by first | omega | (dsimp only at q; omega)))
  have p02_12 : PT w12 12 0 2 12 1 := PT_keep p02_11 hX12 (fun q => by first | omega | (dsimp only at q; omega)) ((hA11.1 _ _).mpr (Or.inr (by first | omega | (dsimp only; omega))))
  have p03_12 : PT w12 12 0 3 12 3 := PT_keep p03_11 hX12 (fun q => by first | omega | (dsimp only at q; omega)) ((hA11.1 _ _).mpr (Or.inr (by first | omega | (dsimp only; omega))))
  have l10_12 : LO w12 10 := LO_new (by decide) (XT_mono (R' := fun x y j => x = 10 ∧ y ≤ 21) (XT_tr hX11 hX12) (fun x y => by first | omega | (dsimp only; omega)) (fun x y i => by first | omega | (dsimp only; omega))) hT12
  refine J_aast hC (o := 12) (c := 3) (n := 2) (k := 0) (o2 := 10) ((hA12.1 _ _).mpr (Or.inr (by first | omega | (dsimp only; omega)))) ((hX12.2.1 _ _ ((hA11.1 _ _).mpr (Or.inr (by first | omega | (dsimp only; omega))))).trans (hX11.2.1 _ _ ((hA10.1 _ _).mpr (Or.inr (by first | omega | (dsimp only; omega)))))).symm rfl rfl (by decide) (by decide) ((hA12.1 _ _).mpr (Or.inr (by first | omega | (dsimp only; omega)))) (by decide) (hX12.2.1 _ _ ((hA11.1 _ _).mpr (Or.inr (by first | omega | (dsimp only; omega))))).symm dX9_init_60 (fun w13 hX13 hP13 => ?_)
  have p30_13 : PT w13 12 3 0 10 0 := by
    unfold PT
    rw [hP13, hX13.2.1 _ _ ((hA12.1 _ _).mpr (Or.inr (by first | omega | (dsimp only; omega)))), hX12.2.1 _ _ ((hA11.1 _ _).mpr (Or.inr (by first | omega | (dsimp only; omega))))]
  have hA13 := XT_mono (S' := fun x y => (x ≤ 10 ∧ y ≤ 21) ∨ (x = 12 ∧ 1 ≤ y ∧ y ≤ 3)) (R' := fun x y i => (x ≤ 10 ∧ y ≤ 21) ∨ (x = 12 ∧ y ≤ 3)) (XT_tr hA12 hX13) (fun x y => by first | omega | (dsimp only; omega)) (fun x y i => by first | omega | (dsimp only; omega))
  have l0_13 : LO w13 0 := LO_keep l0_12 hX13 (fun y i => (fun q => by first | omega | (dsimp only at q; omega)))
  have p00_13 : PT w13 12 0 0 0 0 := PT_keep p00_12 hX13 (fun q => by first | omega | (dsimp only at q; omega)) ((hA12.1 _ _).mpr (Or.inr (by first | omega | (dsimp only; omega))))
  have l1_13 : LO w13 1 := LO_keep l1_12 hX13 (fun y i => (fun q => by first | omega | (dsimp only at q; omega)))
  have p01_13 : PT w13 12 0 1 1 0 := PT_keep p01_12 hX13 (fun q => by first | omega | (dsimp only at q; omega)) ((hA12.1 _ _).mpr (Or.inr (by first | omega | (dsimp only; omega))))
  have p10_13 : PT w13 12 1 0 12 2 := PT_keep p10_12 hX13 (fun q => by first | omega | (dsimp only at q; omega)) ((hA12.1 _ _).mpr (Or.inr (by first | omega | (dsimp only; omega))))
  have ps_13 : ∀ k, k < 8 → PT w13 12 2 k (2 + k) 0 := fun k hk => PT_keep (ps_12 k hk) hX13 (fun q => by first | omega | (dsimp only at q; omega)) ((hA12.1 _ _).mpr (Or.inr (by first | omega | (dsimp only; omega))))
  have lo_13 : ∀ k, k < 8 → LO w13 (2 + k) := fun k hk => LO_keep (lo_12 k hk) hX13 (fun y i => (fun q => by first | omega | (dsimp only at q; omega)))
  have p02_13 : PT w13 12 0 2 12 1 := PT_keep p02_12 hX13 (fun q => by first | omega | (dsimp only at q; omega)) ((hA12.1 _ _).mpr (Or.inr (by first | omega | (dsimp only; omega))))
  have p03_13 : PT w13 12 0 3 12 3 := PT_keep p03_12 hX13 (fun q => by first | omega | (dsimp only at q; omega)) ((hA12.1 _ _).mpr (Or.inr (by first | omega | (dsimp only; omega))))
  have l10_13 : LO w13 10 := LO_keep l10_12 hX13 (fun y i => (fun q => by first | omega | (dsimp only at q; omega)))
  refine J_iinc_n (m := 1) hC (by decide) dX9_init_61 rfl (Nat.le_of_ble_eq_true rfl) rfl ?_
  dsimp only [List.set]
  refine J_goto (tgt := 43) hC dX9_init_64 rfl ?_
  refine J_iload_n hC dX9_init_43 rfl rfl ?_
  refine J_iconst (v := nI 2) hC dX9_init_44 (by decide) ?_
  refine J_icmp_ge_n hC (by decide) (by decide) (tgt := 67) dX9_init_45 rfl (fun hb0 => absurd hb0 (by decide)) (fun _ => ?_)
  refine J_aload_n hC dX9_init_48 rfl rfl ?_
  have hb1 := (hA13.2.1 _ _ hm).symm
  rw [hb1]
  refine J_getR (j := 3) hC ((hA13.1 _ _).mpr (Or.inl hm)) rfl rfl rfl (by decide) inA9 q2_106 rfl p03_13 dX9_init_49 ?_
  rw [← hb1]
  refine J_iload_n hC dX9_init_52 rfl rfl ?_
  refine J_newO hC (o := 11) (c := 0) (fun g => ((hA13.1 _ _).mp g).elim (hf _ _ (by omega)) (fun q => by first | omega | (dsimp only at q; omega))) (kd_o (by decide)) rfl inA4 tyX4_ok q1_36 q1_37 q1_2 (fun j => (hA13.2.2 _ _ _ (fun q => by first | omega | (dsimp only at q; omega))).trans (hr _ _ _ (by omega))) (fun j => rfl) rfl (by decide) ⟨by decide, by decide⟩ dX9_init_53 (fun w14 hX14 => ?_)
  have hA14 := XT_mono (S' := fun x y => ((x ≤ 10 ∧ y ≤ 21) ∨ (x = 12 ∧ 1 ≤ y ∧ y ≤ 3)) ∨ (x = 11 ∧ y = 0)) (R' := fun x y i => (x ≤ 10 ∧ y ≤ 21) ∨ (x = 12 ∧ y ≤ 3)) (XT_tr hA13 hX14) (fun x y => by first | omega | (dsimp only; omega)) (fun x y i => by first | omega | (dsimp only; omega))
  have l0_14 : LO w14 0 := LO_keep l0_13 hX14 (fun y i => (fun q => by first | omega | (dsimp only at q; omega)))
  have p00_14 : PT w14 12 0 0 0 0 := PT_keep p00_13 hX14 (fun q => by first | omega | (dsimp only at q; omega)) ((hA13.1 _ _).mpr (Or.inr (by first | omega | (dsimp only; omega))))
  have l1_14 : LO w14 1 := LO_keep l1_13 hX14 (fun y i => (fun q => by first | omega | (dsimp only at q; omega)))
  have p01_14 : PT w14 12 0 1 1 0 := PT_keep p01_13 hX14 (fun q => by first | omega | (dsimp only at q; omega)) ((hA13.1 _ _).mpr (Or.inr (by first | omega | (dsimp only; omega))))
  have p10_14 : PT w14 12 1 0 12 2 := PT_keep p10_13 hX14 (fun q => by first | omega | (dsimp only at q; omega)) ((hA13.1 _ _).mpr (Or.inr (by first | omega | (dsimp only; omega))))
  have ps_14 : ∀ k, k < 8 → PT w14 12 2 k (2 + k) 0 := fun k hk => PT_keep (ps_13 k hk) hX14 (fun q => by first | omega | (dsimp only at q; omega)) ((hA13.1 _ _).mpr (Or.inr (by first | omega | (dsimp only; omega))))
  have lo_14 : ∀ k, k < 8 → LO w14 (2 + k) := fun k hk => LO_keep (lo_13 k hk) hX14 (fun y i => (fun q => by first | omega | (dsimp only at q; omega)))
  have p02_14 : PT w14 12 0 2 12 1 := PT_keep p02_13 hX14 (fun q => by first | omega | (dsimp only at q; omega)) ((hA13.1 _ _).mpr (Or.inr (by first | omega | (dsimp only; omega))))
  have p03_14 : PT w14 12 0 3 12 3 := PT_keep p03_13 hX14 (fun q => by first | omega | (dsimp only at q; omega)) ((hA13.1 _ _).mpr (Or.inr (by first | omega | (dsimp only; omega))))
  have l10_14 : LO w14 10 := LO_keep l10_13 hX14 (fun y i => (fun q => by first | omega | (dsimp only at q; omega)))
  have p30_14 : PT w14 12 3 0 10 0 := PT_keep p30_13 hX14 (fun q => by first | omega | (dsimp only at q; omega)) ((hA13.1 _ _).mpr (Or.inr (by first | omega | (dsimp only; omega))))
  refine J_dup hC dX9_init_56 rfl ?_
  refine J_invIN (y := yX4_init) (rm := rnX4_init) hC hAO rfl (host := "KitePermits") q1_40 q1_39 q1_2 (by decide +kernel) rfl ⟨mdnX4_init.1, mdnX4_init.2.1, mdnX4_init.2.2⟩ rfl rfl ⟨by decide, by decide⟩ ⟨by decide, by decide⟩ (Nat.le_of_ble_eq_true rfl) dX9_init_57 ?_
  refine c_X4_init (by decide) ((hA14.1 _ _).mpr (Or.inr (by first | omega | (dsimp only; omega)))) (fun y h1 h2 => (fun g => ((hA14.1 _ _).mp g).elim (hf _ _ (by omega)) (fun q => by first | omega | (dsimp only at q; omega)))) (fun y j h1 h2 => (hA14.2.2 _ _ _ (fun q => by first | omega | (dsimp only at q; omega))).trans (hr _ _ _ (by omega))) (fun y j h1 h2 => rd_fO12 _ _ _ (by omega)) rfl (fun w15 hX15 hT15 => ?_)
  dsimp only [Option.toList_none, List.nil_append]
  have hA15 := XT_mono (S' := fun x y => (x ≤ 11 ∧ y ≤ 21) ∨ (x = 12 ∧ 1 ≤ y ∧ y ≤ 3)) (R' := fun x y i => (x ≤ 11 ∧ y ≤ 21) ∨ (x = 12 ∧ y ≤ 3)) (XT_tr hA14 hX15) (fun x y => by first | omega | (dsimp only; omega)) (fun x y i => by first | omega | (dsimp only; omega))
  have l0_15 : LO w15 0 := LO_keep l0_14 hX15 (fun y i => (fun q => by first | omega | (dsimp only at q; omega)))
  have p00_15 : PT w15 12 0 0 0 0 := PT_keep p00_14 hX15 (fun q => by first | omega | (dsimp only at q; omega)) ((hA14.1 _ _).mpr (Or.inr (by first | omega | (dsimp only; omega))))
  have l1_15 : LO w15 1 := LO_keep l1_14 hX15 (fun y i => (fun q => by first | omega | (dsimp only at q; omega)))
  have p01_15 : PT w15 12 0 1 1 0 := PT_keep p01_14 hX15 (fun q => by first | omega | (dsimp only at q; omega)) ((hA14.1 _ _).mpr (Or.inr (by first | omega | (dsimp only; omega))))
  have p10_15 : PT w15 12 1 0 12 2 := PT_keep p10_14 hX15 (fun q => by first | omega | (dsimp only at q; omega)) ((hA14.1 _ _).mpr (Or.inr (by first | omega | (dsimp only; omega))))
  have ps_15 : ∀ k, k < 8 → PT w15 12 2 k (2 + k) 0 := fun k hk => PT_keep (ps_14 k hk) hX15 (fun q => by first | omega | (dsimp only at q; omega)) ((hA14.1 _ _).mpr (Or.inr (by first | omega | (dsimp only; omega))))
  have lo_15 : ∀ k, k < 8 → LO w15 (2 + k) := fun k hk => LO_keep (lo_14 k hk) hX15 (fun y i => (fun q => by first | omega | (dsimp only at q; omega)))
  have p02_15 : PT w15 12 0 2 12 1 := PT_keep p02_14 hX15 (fun q => by first | omega | (dsimp only at q; omega)) ((hA14.1 _ _).mpr (Or.inr (by first | omega | (dsimp only; omega))))
  have p03_15 : PT w15 12 0 3 12 3 := PT_keep p03_14 hX15 (fun q => by first | omega | (dsimp only at q; omega)) ((hA14.1 _ _).mpr (Or.inr (by first | omega | (dsimp only; omega))))
  have l10_15 : LO w15 10 := LO_keep l10_14 hX15 (fun y i => (fun q => by first | omega | (dsimp only at q; omega)))
  have p30_15 : PT w15 12 3 0 10 0 := PT_keep p30_14 hX15 (fun q => by first | omega | (dsimp only at q; omega)) ((hA14.1 _ _).mpr (Or.inr (by first | omega | (dsimp only; omega))))
  have l11_15 : LO w15 11 := LO_new (by decide) (XT_mono (R' := fun x y j => x = 11 ∧ y ≤ 21) (XT_tr hX14 hX15) (fun x y => by first | omega | (dsimp only; omega)) (fun x y i => by first | omega | (dsimp only; omega))) hT15
  refine J_aast hC (o := 12) (c := 3) (n := 2) (k := 1) (o2 := 11) ((hA15.1 _ _).mpr (Or.inr (by first | omega | (dsimp only; omega)))) ((hX15.2.1 _ _ ((hA14.1 _ _).mpr (Or.inr (by first | omega | (dsimp only; omega))))).trans (hX14.2.1 _ _ ((hA13.1 _ _).mpr (Or.inr (by first | omega | (dsimp only; omega)))))).symm rfl rfl (by decide) (by decide) ((hA15.1 _ _).mpr (Or.inr (by first | omega | (dsimp only; omega)))) (by decide) (hX15.2.1 _ _ ((hA14.1 _ _).mpr (Or.inr (by first | omega | (dsimp only; omega))))).symm dX9_init_60 (fun w16 hX16 hP16 => ?_)
  have p31_16 : PT w16 12 3 1 11 0 := by
    unfold PT
    rw [hP16, hX16.2.1 _ _ ((hA15.1 _ _).mpr (Or.inr (by first | omega | (dsimp only; omega)))), hX15.2.1 _ _ ((hA14.1 _ _).mpr (Or.inr (by first | omega | (dsimp only; omega))))]
  have hA16 := XT_mono (S' := fun x y => (x ≤ 11 ∧ y ≤ 21) ∨ (x = 12 ∧ 1 ≤ y ∧ y ≤ 3)) (R' := fun x y i => (x ≤ 11 ∧ y ≤ 21) ∨ (x = 12 ∧ y ≤ 3)) (XT_tr hA15 hX16) (fun x y => by first | omega | (dsimp only; omega)) (fun x y i => by first | omega | (dsimp only; omega))
  have l0_16 : LO w16 0 := LO_keep l0_15 hX16 (fun y i => (fun q => by first | omega | (dsimp only at q; omega)))
  have p00_16 : PT w16 12 0 0 0 0 := PT_keep p00_15 hX16 (fun q => by first | omega | (dsimp only at q; omega)) ((hA15.1 _ _).mpr (Or.inr (by first | omega | (dsimp only; omega))))
  have l1_16 : LO w16 1 := LO_keep l1_15 hX16 (fun y i => (fun q => by first | omega | (dsimp only at q; omega)))
  have p01_16 : PT w16 12 0 1 1 0 := PT_keep p01_15 hX16 (fun q => by first | omega | (dsimp only at q; omega)) ((hA15.1 _ _).mpr (Or.inr (by first | omega | (dsimp only; omega))))
  have p10_16 : PT w16 12 1 0 12 2 := PT_keep p10_15 hX16 (fun q => by first | omega | (dsimp only at q; omega)) ((hA15.1 _ _).mpr (Or.inr (by first | omega | (dsimp only; omega))))
  have ps_16 : ∀ k, k < 8 → PT w16 12 2 k (2 + k) 0 := fun k hk => PT_keep (ps_15 k hk) hX16 (fun q => by first | omega | (dsimp only at q; omega)) ((hA15.1 _ _).mpr (Or.inr (by first | omega | (dsimp only; omega))))
  have lo_16 : ∀ k, k < 8 → LO w16 (2 + k) := fun k hk => LO_keep (lo_15 k hk) hX16 (fun y i => (fun q => by first | omega | (dsimp only at q; omega)))
  have p02_16 : PT w16 12 0 2 12 1 := PT_keep p02_15 hX16 (fun q => by first | omega | (dsimp only at q; omega)) ((hA15.1 _ _).mpr (Or.inr (by first | omega | (dsimp only; omega))))
  have p03_16 : PT w16 12 0 3 12 3 := PT_keep p03_15 hX16 (fun q => by first | omega | (dsimp only at q; omega)) ((hA15.1 _ _).mpr (Or.inr (by first | omega | (dsimp only; omega))))
  have l10_16 : LO w16 10 := LO_keep l10_15 hX16 (fun y i => (fun q => by first | omega | (dsimp only at q; omega)))
  have p30_16 : PT w16 12 3 0 10 0 := PT_keep p30_15 hX16 (fun q => by first | omega | (dsimp only at q; omega)) ((hA15.1 _ _).mpr (Or.inr (by first | omega | (dsimp only; omega))))
  have l11_16 : LO w16 11 := LO_keep l11_15 hX16 (fun y i => (fun q => by first | omega | (dsimp only at q; omega)))
  refine J_iinc_n (m := 1) hC (by decide) dX9_init_61 rfl (Nat.le_of_ble_eq_true rfl) rfl ?_
  dsimp only [List.set]
  refine J_goto (tgt := 43) hC dX9_init_64 rfl ?_
  refine J_iload_n hC dX9_init_43 rfl rfl ?_
  refine J_iconst (v := nI 2) hC dX9_init_44 (by decide) ?_
  refine J_icmp_ge_n hC (by decide) (by decide) (tgt := 67) dX9_init_45 rfl (fun _ => ?_) (fun hb0 => absurd hb0 (by decide))
  refine J_aload_n hC dX9_init_67 rfl rfl ?_
  refine J_iconst (v := nI 2) hC dX9_init_68 (by decide) ?_
  refine J_newA_boolean hC (o := 12) (c := 4) (n := 2) (fun g => ((hA16.1 _ _).mp g).elim (hf _ _ (by omega)) (fun q => by first | omega | (dsimp only at q; omega))) rfl rfl (by decide) (fun j => rfl) ⟨by decide, by decide⟩ dX9_init_69 (fun w17 hX17 => ?_)
  have hA17 := XT_mono (S' := fun x y => (x ≤ 11 ∧ y ≤ 21) ∨ (x = 12 ∧ 1 ≤ y ∧ y ≤ 4)) (R' := fun x y i => (x ≤ 11 ∧ y ≤ 21) ∨ (x = 12 ∧ y ≤ 3)) (XT_tr hA16 hX17) (fun x y => by first | omega | (dsimp only; omega)) (fun x y i => by first | omega | (dsimp only; omega))
  have l0_17 : LO w17 0 := LO_keep l0_16 hX17 (fun y i => (fun q => by first | omega | (dsimp only at q; omega)))
  have p00_17 : PT w17 12 0 0 0 0 := PT_keep p00_16 hX17 (fun q => by first | omega | (dsimp only at q; omega)) ((hA16.1 _ _).mpr (Or.inr (by first | omega | (dsimp only; omega))))
  have l1_17 : LO w17 1 := LO_keep l1_16 hX17 (fun y i => (fun q => by first | omega | (dsimp only at q; omega)))
  have p01_17 : PT w17 12 0 1 1 0 := PT_keep p01_16 hX17 (fun q => by first | omega | (dsimp only at q; omega)) ((hA16.1 _ _).mpr (Or.inr (by first | omega | (dsimp only; omega))))
  have p10_17 : PT w17 12 1 0 12 2 := PT_keep p10_16 hX17 (fun q => by first | omega | (dsimp only at q; omega)) ((hA16.1 _ _).mpr (Or.inr (by first | omega | (dsimp only; omega))))
  have ps_17 : ∀ k, k < 8 → PT w17 12 2 k (2 + k) 0 := fun k hk => PT_keep (ps_16 k hk) hX17 (fun q => by first | omega | (dsimp only at q; omega)) ((hA16.1 _ _).mpr (Or.inr (by first | omega | (dsimp only; omega))))
  have lo_17 : ∀ k, k < 8 → LO w17 (2 + k) := fun k hk => LO_keep (lo_16 k hk) hX17 (fun y i => (fun q => by first | omega | (dsimp only at q; omega)))
  have p02_17 : PT w17 12 0 2 12 1 := PT_keep p02_16 hX17 (fun q => by first | omega | (dsimp only at q; omega)) ((hA16.1 _ _).mpr (Or.inr (by first | omega | (dsimp only; omega))))
  have p03_17 : PT w17 12 0 3 12 3 := PT_keep p03_16 hX17 (fun q => by first | omega | (dsimp only at q; omega)) ((hA16.1 _ _).mpr (Or.inr (by first | omega | (dsimp only; omega))))
  have l10_17 : LO w17 10 := LO_keep l10_16 hX17 (fun y i => (fun q => by first | omega | (dsimp only at q; omega)))
  have p30_17 : PT w17 12 3 0 10 0 := PT_keep p30_16 hX17 (fun q => by first | omega | (dsimp only at q; omega)) ((hA16.1 _ _).mpr (Or.inr (by first | omega | (dsimp only; omega))))
  have l11_17 : LO w17 11 := LO_keep l11_16 hX17 (fun y i => (fun q => by first | omega | (dsimp only at q; omega)))
  have p31_17 : PT w17 12 3 1 11 0 := PT_keep p31_16 hX17 (fun q => by first | omega | (dsimp only at q; omega)) ((hA16.1 _ _).mpr (Or.inr (by first | omega | (dsimp only; omega))))
  refine rX9_34 hC hIn ((hA17.1 _ _).mpr (Or.inl hm)) (hA17.2.1 _ _ hm).symm dX9_init_71 (fun w18 hX18 hP18 => ?_)
  have p04_18 : PT w18 12 0 4 12 4 := by
    unfold PT
    rw [hP18, hX18.2.1 _ _ ((hA17.1 _ _).mpr (Or.inr (by first | omega | (dsimp only; omega))))]
  have hA18 := XT_mono (S' := fun x y => (x ≤ 11 ∧ y ≤ 21) ∨ (x = 12 ∧ 1 ≤ y ∧ y ≤ 4)) (R' := fun x y i => (x ≤ 11 ∧ y ≤ 21) ∨ (x = 12 ∧ y ≤ 3)) (XT_tr hA17 hX18) (fun x y => by first | omega | (dsimp only; omega)) (fun x y i => by first | omega | (dsimp only; omega))
  have l0_18 : LO w18 0 := LO_keep l0_17 hX18 (fun y i => (fun q => by first | omega | (dsimp only at q; omega)))
  have p00_18 : PT w18 12 0 0 0 0 := PT_keep p00_17 hX18 (fun q => by first | omega | (dsimp only at q; omega)) ((hA17.1 _ _).mpr (Or.inr (by first | omega | (dsimp only; omega))))
  have l1_18 : LO w18 1 := LO_keep l1_17 hX18 (fun y i => (fun q => by first | omega | (dsimp only at q; omega)))
  have p01_18 : PT w18 12 0 1 1 0 := PT_keep p01_17 hX18 (fun q => by first | omega | (dsimp only at q; omega)) ((hA17.1 _ _).mpr (Or.inr (by first | omega | (dsimp only; omega))))
  have p10_18 : PT w18 12 1 0 12 2 := PT_keep p10_17 hX18 (fun q => by first | omega | (dsimp only at q; omega)) ((hA17.1 _ _).mpr (Or.inr (by first | omega | (dsimp only; omega))))
  have ps_18 : ∀ k, k < 8 → PT w18 12 2 k (2 + k) 0 := fun k hk => PT_keep (ps_17 k hk) hX18 (fun q => by first | omega | (dsimp only at q; omega)) ((hA17.1 _ _).mpr (Or.inr (by first | omega | (dsimp only; omega))))
  have lo_18 : ∀ k, k < 8 → LO w18 (2 + k) := fun k hk => LO_keep (lo_17 k hk) hX18 (fun y i => (fun q => by first | omega | (dsimp only at q; omega)))
  have p02_18 : PT w18 12 0 2 12 1 := PT_keep p02_17 hX18 (fun q => by first | omega | (dsimp only at q; omega)) ((hA17.1 _ _).mpr (Or.inr (by first | omega | (dsimp only; omega))))
  have p03_18 : PT w18 12 0 3 12 3 := PT_keep p03_17 hX18 (fun q => by first | omega | (dsimp only at q; omega)) ((hA17.1 _ _).mpr (Or.inr (by first | omega | (dsimp only; omega))))
  have l10_18 : LO w18 10 := LO_keep l10_17 hX18 (fun y i => (fun q => by first | omega | (dsimp only at q; omega)))
  have p30_18 : PT w18 12 3 0 10 0 := PT_keep p30_17 hX18 (fun q => by first | omega | (dsimp only at q; omega)) ((hA17.1 _ _).mpr (Or.inr (by first | omega | (dsimp only; omega))))
  have l11_18 : LO w18 11 := LO_keep l11_17 hX18 (fun y i => (fun q => by first | omega | (dsimp only at q; omega)))
  have p31_18 : PT w18 12 3 1 11 0 := PT_keep p31_17 hX18 (fun q => by first | omega | (dsimp only at q; omega)) ((hA17.1 _ _).mpr (Or.inr (by first | omega | (dsimp only; omega))))
  refine J_aload_n hC dX9_init_74 rfl rfl ?_
  refine J_newO hC (o := 12) (c := 5) (fun g => ((hA18.1 _ _).mp g).elim (hf _ _ (by omega)) (fun q => by first | omega | (dsimp only at q; omega))) rfl rfl inA3 tyX3_ok q2_26 q2_27 q1_7 (fun j => (hA18.2.2 _ _ _ (fun q => by first | omega | (dsimp only at q; omega))).trans (hr _ _ _ (by omega))) (fun j => rfl) rfl (by decide) ⟨by decide, by decide⟩ dX9_init_75 (fun w19 hX19 => ?_)
  have hA19 := XT_mono (S' := fun x y => (x ≤ 11 ∧ y ≤ 21) ∨ (x = 12 ∧ 1 ≤ y ∧ y ≤ 5)) (R' := fun x y i => (x ≤ 11 ∧ y ≤ 21) ∨ (x = 12 ∧ y ≤ 3)) (XT_tr hA18 hX19) (fun x y => by first | omega | (dsimp only; omega)) (fun x y i => by first | omega | (dsimp only; omega))
  have l0_19 : LO w19 0 := LO_keep l0_18 hX19 (fun y i => (fun q => by first | omega | (dsimp only at q; omega)))
  have p00_19 : PT w19 12 0 0 0 0 := PT_keep p00_18 hX19 (fun q => by first | omega | (dsimp only at q; omega)) ((hA18.1 _ _).mpr (Or.inr (by first | omega | (dsimp only; omega))))
  have l1_19 : LO w19 1 := LO_keep l1_18 hX19 (fun y i => (fun q => by first | omega | (dsimp only at q; omega)))
  have p01_19 : PT w19 12 0 1 1 0 := PT_keep p01_18 hX19 (fun q => by first | omega | (dsimp only at q; omega)) ((hA18.1 _ _).mpr (Or.inr (by first | omega | (dsimp only; omega))))
  have p10_19 : PT w19 12 1 0 12 2 := PT_keep p10_18 hX19 (fun q => by first | omega | (dsimp only at q; omega)) ((hA18.1 _ _).mpr (Or.inr (by first | omega | (dsimp only; omega))))
  have ps_19 : ∀ k, k < 8 → PT w19 12 2 k (2 + k) 0 := fun k hk => PT_keep (ps_18 k hk) hX19 (fun q => by first | omega | (dsimp only at q; omega)) ((hA18.1 _ _).mpr (Or.inr (by first | omega | (dsimp only; omega))))
  have lo_19 : ∀ k, k < 8 → LO w19 (2 + k) := fun k hk => LO_keep (lo_18 k hk) hX19 (fun y i => (fun q => by first | omega | (dsimp only at q; omega)))
  have p02_19 : PT w19 12 0 2 12 1 := PT_keep p02_18 hX19 (fun q => by first | omega | (dsimp only at q; omega)) ((hA18.1 _ _).mpr (Or.inr (by first | omega | (dsimp only; omega))))
  have p03_19 : PT w19 12 0 3 12 3 := PT_keep p03_18 hX19 (fun q => by first | omega | (dsimp only at q; omega)) ((hA18.1 _ _).mpr (Or.inr (by first | omega | (dsimp only; omega))))
  have l10_19 : LO w19 10 := LO_keep l10_18 hX19 (fun y i => (fun q => by first | omega | (dsimp only at q; omega)))
  have p30_19 : PT w19 12 3 0 10 0 := PT_keep p30_18 hX19 (fun q => by first | omega | (dsimp only at q; omega)) ((hA18.1 _ _).mpr (Or.inr (by first | omega | (dsimp only; omega))))
  have l11_19 : LO w19 11 := LO_keep l11_18 hX19 (fun y i => (fun q => by first | omega | (dsimp only at q; omega)))
  have p31_19 : PT w19 12 3 1 11 0 := PT_keep p31_18 hX19 (fun q => by first | omega | (dsimp only at q; omega)) ((hA18.1 _ _).mpr (Or.inr (by first | omega | (dsimp only; omega))))
  have p04_19 : PT w19 12 0 4 12 4 := PT_keep p04_18 hX19 (fun q => by first | omega | (dsimp only at q; omega)) ((hA18.1 _ _).mpr (Or.inr (by first | omega | (dsimp only; omega))))
  refine J_dup hC dX9_init_78 rfl ?_
  refine J_invIN (y := yX3_init) (rm := rnX3_init) hC hAO rfl (host := "KitePermits") q2_30 q2_29 q1_7 (by decide +kernel) rfl ⟨mdnX3_init.1, mdnX3_init.2.1, mdnX3_init.2.2⟩ rfl rfl ⟨by decide, by decide⟩ ⟨by decide, by decide⟩ (Nat.le_of_ble_eq_true rfl) dX9_init_79 ?_
  refine c_X3_init ((hA19.1 _ _).mpr (Or.inr (by first | omega | (dsimp only; omega)))) (fun y h1 h2 => (fun g => ((hA19.1 _ _).mp g).elim (hf _ _ (by omega)) (fun q => by first | omega | (dsimp only at q; omega)))) (fun y j h1 h2 => (hA19.2.2 _ _ _ (fun q => by first | omega | (dsimp only at q; omega))).trans (hr _ _ _ (by omega))) (fun y j h1 h2 => by first | rfl | (rw [rd_wr_c (by omega)]; rfl)) (fun w20 hX20 hp20 => ?_)
  dsimp only [Option.toList_none, List.nil_append]
  have hA20 := XT_mono (S' := fun x y => (x ≤ 11 ∧ y ≤ 21) ∨ (x = 12 ∧ 1 ≤ y ∧ y ≤ 6)) (R' := fun x y i => (x ≤ 11 ∧ y ≤ 21) ∨ (x = 12 ∧ y ≤ 5)) (XT_tr hA19 hX20) (fun x y => by first | omega | (dsimp only; omega)) (fun x y i => by first | omega | (dsimp only; omega))
  have l0_20 : LO w20 0 := LO_keep l0_19 hX20 (fun y i => (fun q => by first | omega | (dsimp only at q; omega)))
  have p00_20 : PT w20 12 0 0 0 0 := PT_keep p00_19 hX20 (fun q => by first | omega | (dsimp only at q; omega)) ((hA19.1 _ _).mpr (Or.inr (by first | omega | (dsimp only; omega))))
  have l1_20 : LO w20 1 := LO_keep l1_19 hX20 (fun y i => (fun q => by first | omega | (dsimp only at q; omega)))
  have p01_20 : PT w20 12 0 1 1 0 := PT_keep p01_19 hX20 (fun q => by first | omega | (dsimp only at q; omega)) ((hA19.1 _ _).mpr (Or.inr (by first | omega | (dsimp only; omega))))
  have p10_20 : PT w20 12 1 0 12 2 := PT_keep p10_19 hX20 (fun q => by first | omega | (dsimp only at q; omega)) ((hA19.1 _ _).mpr (Or.inr (by first | omega | (dsimp only; omega))))
  have ps_20 : ∀ k, k < 8 → PT w20 12 2 k (2 + k) 0 := fun k hk => PT_keep (ps_19 k hk) hX20 (fun q => by first | omega | (dsimp only at q; omega)) ((hA19.1 _ _).mpr (Or.inr (by first | omega | (dsimp only; omega))))
  have lo_20 : ∀ k, k < 8 → LO w20 (2 + k) := fun k hk => LO_keep (lo_19 k hk) hX20 (fun y i => (fun q => by first | omega | (dsimp only at q; omega)))
  have p02_20 : PT w20 12 0 2 12 1 := PT_keep p02_19 hX20 (fun q => by first | omega | (dsimp only at q; omega)) ((hA19.1 _ _).mpr (Or.inr (by first | omega | (dsimp only; omega))))
  have p03_20 : PT w20 12 0 3 12 3 := PT_keep p03_19 hX20 (fun q => by first | omega | (dsimp only at q; omega)) ((hA19.1 _ _).mpr (Or.inr (by first | omega | (dsimp only; omega))))
  have l10_20 : LO w20 10 := LO_keep l10_19 hX20 (fun y i => (fun q => by first | omega | (dsimp only at q; omega)))
  have p30_20 : PT w20 12 3 0 10 0 := PT_keep p30_19 hX20 (fun q => by first | omega | (dsimp only at q; omega)) ((hA19.1 _ _).mpr (Or.inr (by first | omega | (dsimp only; omega))))
  have l11_20 : LO w20 11 := LO_keep l11_19 hX20 (fun y i => (fun q => by first | omega | (dsimp only at q; omega)))
  have p31_20 : PT w20 12 3 1 11 0 := PT_keep p31_19 hX20 (fun q => by first | omega | (dsimp only at q; omega)) ((hA19.1 _ _).mpr (Or.inr (by first | omega | (dsimp only; omega))))
  have p04_20 : PT w20 12 0 4 12 4 := PT_keep p04_19 hX20 (fun q => by first | omega | (dsimp only at q; omega)) ((hA19.1 _ _).mpr (Or.inr (by first | omega | (dsimp only; omega))))
  have p50_20 := hp20
  refine rX9_41 hC hIn ((hA20.1 _ _).mpr (Or.inl hm)) (hA20.2.1 _ _ hm).symm dX9_init_82 (fun w21 hX21 hP21 => ?_)
  have p05_21 : PT w21 12 0 5 12 5 := by
    unfold PT
    rw [hP21, hX21.2.1 _ _ ((hA20.1 _ _).mpr (Or.inr (by first | omega | (dsimp only; omega))))]
    rw [hX20.2.1 _ _ ((hA19.1 _ _).mpr (Or.inr (by first | omega | (dsimp only; omega))))]
  have hA21 := XT_mono (S' := fun x y => (x ≤ 11 ∧ y ≤ 21) ∨ (x = 12 ∧ 1 ≤ y ∧ y ≤ 6)) (R' := fun x y i => (x ≤ 11 ∧ y ≤ 21) ∨ (x = 12 ∧ y ≤ 5)) (XT_tr hA20 hX21) (fun x y => by first | omega | (dsimp only; omega)) (fun x y i => by first | omega | (dsimp only; omega))
  have l0_21 : LO w21 0 := LO_keep l0_20 hX21 (fun y i => (fun q => by first | omega | (dsimp only at q; omega)))
  have p00_21 : PT w21 12 0 0 0 0 := PT_keep p00_20 hX21 (fun q => by first | omega | (dsimp only at q; omega)) ((hA20.1 _ _).mpr (Or.inr (by first | omega | (dsimp only; omega))))
  have l1_21 : LO w21 1 := LO_keep l1_20 hX21 (fun y i => (fun q => by first | omega | (dsimp only at q; omega)))
  have p01_21 : PT w21 12 0 1 1 0 := PT_keep p01_20 hX21 (fun q => by first | omega | (dsimp only at q; omega)) ((hA20.1 _ _).mpr (Or.inr (by first | omega | (dsimp only; omega))))
  have p10_21 : PT w21 12 1 0 12 2 := PT_keep p10_20 hX21 (fun q => by first | omega | (dsimp only at q; omega)) ((hA20.1 _ _).mpr (Or.inr (by first | omega | (dsimp only; omega))))
  have ps_21 : ∀ k, k < 8 → PT w21 12 2 k (2 + k) 0 := fun k hk => PT_keep (ps_20 k hk) hX21 (fun q => by first | omega | (dsimp only at q; omega)) ((hA20.1 _ _).mpr (Or.inr (by first | omega | (dsimp only; omega))))
  have lo_21 : ∀ k, k < 8 → LO w21 (2 + k) := fun k hk => LO_keep (lo_20 k hk) hX21 (fun y i => (fun q => by first | omega | (dsimp only at q; omega)))
  have p02_21 : PT w21 12 0 2 12 1 := PT_keep p02_20 hX21 (fun q => by first | omega | (dsimp only at q; omega)) ((hA20.1 _ _).mpr (Or.inr (by first | omega | (dsimp only; omega))))
  have p03_21 : PT w21 12 0 3 12 3 := PT_keep p03_20 hX21 (fun q => by first | omega | (dsimp only at q; omega)) ((hA20.1 _ _).mpr (Or.inr (by first | omega | (dsimp only; omega))))
  have l10_21 : LO w21 10 := LO_keep l10_20 hX21 (fun y i => (fun q => by first | omega | (dsimp only at q; omega)))
  have p30_21 : PT w21 12 3 0 10 0 := PT_keep p30_20 hX21 (fun q => by first | omega | (dsimp only at q; omega)) ((hA20.1 _ _).mpr (Or.inr (by first | omega | (dsimp only; omega))))
  have l11_21 : LO w21 11 := LO_keep l11_20 hX21 (fun y i => (fun q => by first | omega | (dsimp only at q; omega)))
  have p31_21 : PT w21 12 3 1 11 0 := PT_keep p31_20 hX21 (fun q => by first | omega | (dsimp only at q; omega)) ((hA20.1 _ _).mpr (Or.inr (by first | omega | (dsimp only; omega))))
  have p04_21 : PT w21 12 0 4 12 4 := PT_keep p04_20 hX21 (fun q => by first | omega | (dsimp only at q; omega)) ((hA20.1 _ _).mpr (Or.inr (by first | omega | (dsimp only; omega))))
  have p50_21 : PT w21 12 5 0 12 6 := PT_keep p50_20 hX21 (fun q => by first | omega | (dsimp only at q; omega)) ((hA20.1 _ _).mpr (Or.inr (by first | omega | (dsimp only; omega))))
  refine J_aload_n hC dX9_init_85 rfl rfl ?_
  refine J_newO hC (o := 12) (c := 7) (fun g => ((hA21.1 _ _).mp g).elim (hf _ _ (by omega)) (fun q => by first | omega | (dsimp only at q; omega))) rfl rfl inA7 tyX7_ok q2_61 q2_62 q1_8 (fun j => (hA21.2.2 _ _ _ (fun q => by first | omega | (dsimp only at q; omega))).trans (hr _ _ _ (by omega))) (fun j => rfl) rfl (by decide) ⟨by decide, by decide⟩ dX9_init_86 (fun w22 hX22 => ?_)
  have hA22 := XT_mono (S' := fun x y => (x ≤ 11 ∧ y ≤ 21) ∨ (x = 12 ∧ 1 ≤ y ∧ y ≤ 7)) (R' := fun x y i => (x ≤ 11 ∧ y ≤ 21) ∨ (x = 12 ∧ y ≤ 5)) (XT_tr hA21 hX22) (fun x y => by first | omega | (dsimp only; omega)) (fun x y i => by first | omega | (dsimp only; omega))
  have l0_22 : LO w22 0 := LO_keep l0_21 hX22 (fun y i => (fun q => by first | omega | (dsimp only at q; omega)))
  have p00_22 : PT w22 12 0 0 0 0 := PT_keep p00_21 hX22 (fun q => by first | omega | (dsimp only at q; omega)) ((hA21.1 _ _).mpr (Or.inr (by first | omega | (dsimp only; omega))))
  have l1_22 : LO w22 1 := LO_keep l1_21 hX22 (fun y i => (fun q => by first | omega | (dsimp only at q; omega)))
  have p01_22 : PT w22 12 0 1 1 0 := PT_keep p01_21 hX22 (fun q => by first | omega | (dsimp only at q; omega)) ((hA21.1 _ _).mpr (Or.inr (by first | omega | (dsimp only; omega))))
  have p10_22 : PT w22 12 1 0 12 2 := PT_keep p10_21 hX22 (fun q => by first | omega | (dsimp only at q; omega)) ((hA21.1 _ _).mpr (Or.inr (by first | omega | (dsimp only; omega))))
  have ps_22 : ∀ k, k < 8 → PT w22 12 2 k (2 + k) 0 := fun k hk => PT_keep (ps_21 k hk) hX22 (fun q => by first | omega | (dsimp only at q; omega)) ((hA21.1 _ _).mpr (Or.inr (by first | omega | (dsimp only; omega))))
  have lo_22 : ∀ k, k < 8 → LO w22 (2 + k) := fun k hk => LO_keep (lo_21 k hk) hX22 (fun y i => (fun q => by first | omega | (dsimp only at q; omega)))
  have p02_22 : PT w22 12 0 2 12 1 := PT_keep p02_21 hX22 (fun q => by first | omega | (dsimp only at q; omega)) ((hA21.1 _ _).mpr (Or.inr (by first | omega | (dsimp only; omega))))
  have p03_22 : PT w22 12 0 3 12 3 := PT_keep p03_21 hX22 (fun q => by first | omega | (dsimp only at q; omega)) ((hA21.1 _ _).mpr (Or.inr (by first | omega | (dsimp only; omega))))
  have l10_22 : LO w22 10 := LO_keep l10_21 hX22 (fun y i => (fun q => by first | omega | (dsimp only at q; omega)))
  have p30_22 : PT w22 12 3 0 10 0 := PT_keep p30_21 hX22 (fun q => by first | omega | (dsimp only at q; omega)) ((hA21.1 _ _).mpr (Or.inr (by first | omega | (dsimp only; omega))))
  have l11_22 : LO w22 11 := LO_keep l11_21 hX22 (fun y i => (fun q => by first | omega | (dsimp only at q; omega)))
  have p31_22 : PT w22 12 3 1 11 0 := PT_keep p31_21 hX22 (fun q => by first | omega | (dsimp only at q; omega)) ((hA21.1 _ _).mpr (Or.inr (by first | omega | (dsimp only; omega))))
  have p04_22 : PT w22 12 0 4 12 4 := PT_keep p04_21 hX22 (fun q => by first | omega | (dsimp only at q; omega)) ((hA21.1 _ _).mpr (Or.inr (by first | omega | (dsimp only; omega))))
  have p50_22 : PT w22 12 5 0 12 6 := PT_keep p50_21 hX22 (fun q => by first | omega | (dsimp only at q; omega)) ((hA21.1 _ _).mpr (Or.inr (by first | omega | (dsimp only; omega))))
  have p05_22 : PT w22 12 0 5 12 5 := PT_keep p05_21 hX22 (fun q => by first | omega | (dsimp only at q; omega)) ((hA21.1 _ _).mpr (Or.inr (by first | omega | (dsimp only; omega))))
  refine J_dup hC dX9_init_89 rfl ?_
  refine J_invIN (y := yX7_init) (rm := rnX7_init) hC hAO rfl (host := "KitePermits") q2_65 q2_64 q1_8 (by decide +kernel) rfl ⟨mdnX7_init.1, mdnX7_init.2.1, mdnX7_init.2.2⟩ rfl rfl ⟨by decide, by decide⟩ ⟨by decide, by decide⟩ (Nat.le_of_ble_eq_true rfl) dX9_init_90 ?_
  refine c_X7_init ((hA22.1 _ _).mpr (Or.inr (by first | omega | (dsimp only; omega)))) (fun y h1 h2 => (fun g => ((hA22.1 _ _).mp g).elim (hf _ _ (by omega)) (fun q => by first | omega | (dsimp only at q; omega)))) (fun y j h1 h2 => (hA22.2.2 _ _ _ (fun q => by first | omega | (dsimp only at q; omega))).trans (hr _ _ _ (by omega))) (fun y j h1 h2 => by first | rfl | (rw [rd_wr_c (by omega)]; rfl)) (fun w23 hX23 hp23 => ?_)
  dsimp only [Option.toList_none, List.nil_append]
  have hA23 := XT_mono (S' := fun x y => (x ≤ 11 ∧ y ≤ 21) ∨ (x = 12 ∧ 1 ≤ y ∧ y ≤ 11)) (R' := fun x y i => (x ≤ 11 ∧ y ≤ 21) ∨ (x = 12 ∧ y ≤ 7)) (XT_tr hA22 hX23) (fun x y => by first | omega | (dsimp only; omega)) (fun x y i => by first | omega | (dsimp only; omega))
  have l0_23 : LO w23 0 := LO_keep l0_22 hX23 (fun y i => (fun q => by first | omega | (dsimp only at q; omega)))
  have p00_23 : PT w23 12 0 0 0 0 := PT_keep p00_22 hX23 (fun q => by first | omega | (dsimp only at q; omega)) ((hA22.1 _ _).mpr (Or.inr (by first | omega | (dsimp only; omega))))
  have l1_23 : LO w23 1 := LO_keep l1_22 hX23 (fun y i => (fun q => by first | omega | (dsimp only at q; omega)))
  have p01_23 : PT w23 12 0 1 1 0 := PT_keep p01_22 hX23 (fun q => by first | omega | (dsimp only at q; omega)) ((hA22.1 _ _).mpr (Or.inr (by first | omega | (dsimp only; omega))))
  have p10_23 : PT w23 12 1 0 12 2 := PT_keep p10_22 hX23 (fun q => by first | omega | (dsimp only at q; omega)) ((hA22.1 _ _).mpr (Or.inr (by first | omega | (dsimp only; omega))))
  have ps_23 : ∀ k, k < 8 → PT w23 12 2 k (2 + k) 0 := fun k hk => PT_keep (ps_22 k hk) hX23 (fun q => by first | omega | (dsimp only at q; omega)) ((hA22.1 _ _).mpr (Or.inr (by first | omega | (dsimp only; omega))))
  have lo_23 : ∀ k, k < 8 → LO w23 (2 + k) := fun k hk => LO_keep (lo_22 k hk) hX23 (fun y i => (fun q => by first | omega | (dsimp only at q; omega)))
  have p02_23 : PT w23 12 0 2 12 1 := PT_keep p02_22 hX23 (fun q => by first | omega | (dsimp only at q; omega)) ((hA22.1 _ _).mpr (Or.inr (by first | omega | (dsimp only; omega))))
  have p03_23 : PT w23 12 0 3 12 3 := PT_keep p03_22 hX23 (fun q => by first | omega | (dsimp only at q; omega)) ((hA22.1 _ _).mpr (Or.inr (by first | omega | (dsimp only; omega))))
  have l10_23 : LO w23 10 := LO_keep l10_22 hX23 (fun y i => (fun q => by first | omega | (dsimp only at q; omega)))
  have p30_23 : PT w23 12 3 0 10 0 := PT_keep p30_22 hX23 (fun q => by first | omega | (dsimp only at q; omega)) ((hA22.1 _ _).mpr (Or.inr (by first | omega | (dsimp only; omega))))
  have l11_23 : LO w23 11 := LO_keep l11_22 hX23 (fun y i => (fun q => by first | omega | (dsimp only at q; omega)))
  have p31_23 : PT w23 12 3 1 11 0 := PT_keep p31_22 hX23 (fun q => by first | omega | (dsimp only at q; omega)) ((hA22.1 _ _).mpr (Or.inr (by first | omega | (dsimp only; omega))))
  have p04_23 : PT w23 12 0 4 12 4 := PT_keep p04_22 hX23 (fun q => by first | omega | (dsimp only at q; omega)) ((hA22.1 _ _).mpr (Or.inr (by first | omega | (dsimp only; omega))))
  have p50_23 : PT w23 12 5 0 12 6 := PT_keep p50_22 hX23 (fun q => by first | omega | (dsimp only at q; omega)) ((hA22.1 _ _).mpr (Or.inr (by first | omega | (dsimp only; omega))))
  have p05_23 : PT w23 12 0 5 12 5 := PT_keep p05_22 hX23 (fun q => by first | omega | (dsimp only at q; omega)) ((hA22.1 _ _).mpr (Or.inr (by first | omega | (dsimp only; omega))))
  obtain ⟨p71_23, p72_23, p73_23, p74_23⟩ := hp23
  refine rX9_48 hC hIn ((hA23.1 _ _).mpr (Or.inl hm)) (hA23.2.1 _ _ hm).symm dX9_init_93 (fun w24 hX24 hP24 => ?_)
  have p06_24 : PT w24 12 0 6 12 7 := by
    unfold PT
    rw [hP24, hX24.2.1 _ _ ((hA23.1 _ _).mpr (Or.inr (by first | omega | (dsimp only; omega))))]
    rw [hX23.2.1 _ _ ((hA22.1 _ _).mpr (Or.inr (by first | omega | (dsimp only; omega))))]
  have hA24 := XT_mono (S' := fun x y => (x ≤ 11 ∧ y ≤ 21) ∨ (x = 12 ∧ 1 ≤ y ∧ y ≤ 11)) (R' := fun x y i => (x ≤ 11 ∧ y ≤ 21) ∨ (x = 12 ∧ y ≤ 7)) (XT_tr hA23 hX24) (fun x y => by first | omega | (dsimp only; omega)) (fun x y i => by first | omega | (dsimp only; omega))
  have l0_24 : LO w24 0 := LO_keep l0_23 hX24 (fun y i => (fun q => by first | omega | (dsimp only at q; omega)))
  have p00_24 : PT w24 12 0 0 0 0 := PT_keep p00_23 hX24 (fun q => by first | omega | (dsimp only at q; omega)) ((hA23.1 _ _).mpr (Or.inr (by first | omega | (dsimp only; omega))))
  have l1_24 : LO w24 1 := LO_keep l1_23 hX24 (fun y i => (fun q => by first | omega | (dsimp only at q; omega)))
  have p01_24 : PT w24 12 0 1 1 0 := PT_keep p01_23 hX24 (fun q => by first | omega | (dsimp only at q; omega)) ((hA23.1 _ _).mpr (Or.inr (by first | omega | (dsimp only; omega))))
  have p10_24 : PT w24 12 1 0 12 2 := PT_keep p10_23 hX24 (fun q => by first | omega | (dsimp only at q; omega)) ((hA23.1 _ _).mpr (Or.inr (by first | omega | (dsimp only; omega))))
  have ps_24 : ∀ k, k < 8 → PT w24 12 2 k (2 + k) 0 := fun k hk => PT_keep (ps_23 k hk) hX24 (fun q => by first | omega | (dsimp only at q; omega)) ((hA23.1 _ _).mpr (Or.inr (by first | omega | (dsimp only; omega))))
  have lo_24 : ∀ k, k < 8 → LO w24 (2 + k) := fun k hk => LO_keep (lo_23 k hk) hX24 (fun y i => (fun q => by first | omega | (dsimp only at q; omega)))
  have p02_24 : PT w24 12 0 2 12 1 := PT_keep p02_23 hX24 (fun q => by first | omega | (dsimp only at q; omega)) ((hA23.1 _ _).mpr (Or.inr (by first | omega | (dsimp only; omega))))
  have p03_24 : PT w24 12 0 3 12 3 := PT_keep p03_23 hX24 (fun q => by first | omega | (dsimp only at q; omega)) ((hA23.1 _ _).mpr (Or.inr (by first | omega | (dsimp only; omega))))
  have l10_24 : LO w24 10 := LO_keep l10_23 hX24 (fun y i => (fun q => by first | omega | (dsimp only at q; omega)))
  have p30_24 : PT w24 12 3 0 10 0 := PT_keep p30_23 hX24 (fun q => by first | omega | (dsimp only at q; omega)) ((hA23.1 _ _).mpr (Or.inr (by first | omega | (dsimp only; omega))))
  have l11_24 : LO w24 11 := LO_keep l11_23 hX24 (fun y i => (fun q => by first | omega | (dsimp only at q; omega)))
  have p31_24 : PT w24 12 3 1 11 0 := PT_keep p31_23 hX24 (fun q => by first | omega | (dsimp only at q; omega)) ((hA23.1 _ _).mpr (Or.inr (by first | omega | (dsimp only; omega))))
  have p04_24 : PT w24 12 0 4 12 4 := PT_keep p04_23 hX24 (fun q => by first | omega | (dsimp only at q; omega)) ((hA23.1 _ _).mpr (Or.inr (by first | omega | (dsimp only; omega))))
  have p50_24 : PT w24 12 5 0 12 6 := PT_keep p50_23 hX24 (fun q => by first | omega | (dsimp only at q; omega)) ((hA23.1 _ _).mpr (Or.inr (by first | omega | (dsimp only; omega))))
  have p05_24 : PT w24 12 0 5 12 5 := PT_keep p05_23 hX24 (fun q => by first | omega | (dsimp only at q; omega)) ((hA23.1 _ _).mpr (Or.inr (by first | omega | (dsimp only; omega))))
  have p71_24 : PT w24 12 7 1 12 8 := PT_keep p71_23 hX24 (fun q => by first | omega | (dsimp only at q; omega)) ((hA23.1 _ _).mpr (Or.inr (by first | omega | (dsimp only; omega))))
  have p72_24 : PT w24 12 7 2 12 9 := PT_keep p72_23 hX24 (fun q => by first | omega | (dsimp only at q; omega)) ((hA23.1 _ _).mpr (Or.inr (by first | omega | (dsimp only; omega))))
  have p73_24 : PT w24 12 7 3 12 10 := PT_keep p73_23 hX24 (fun q => by first | omega | (dsimp only at q; omega)) ((hA23.1 _ _).mpr (Or.inr (by first | omega | (dsimp only; omega))))
  have p74_24 : PT w24 12 7 4 12 11 := PT_keep p74_23 hX24 (fun q => by first | omega | (dsimp only at q; omega)) ((hA23.1 _ _).mpr (Or.inr (by first | omega | (dsimp only; omega))))
  refine J_aload_n hC dX9_init_96 rfl rfl ?_
  refine J_newO hC (o := 12) (c := 12) (fun g => ((hA24.1 _ _).mp g).elim (hf _ _ (by omega)) (fun q => by first | omega | (dsimp only at q; omega))) rfl rfl inA5 tyX5_ok q2_88 q2_89 q1_9 (fun j => (hA24.2.2 _ _ _ (fun q => by first | omega | (dsimp only at q; omega))).trans (hr _ _ _ (by omega))) (fun j => rfl) rfl (by decide) ⟨by decide, by decide⟩ dX9_init_97 (fun w25 hX25 => ?_)
  have hA25 := XT_mono (S' := fun x y => (x ≤ 11 ∧ y ≤ 21) ∨ (x = 12 ∧ 1 ≤ y ∧ y ≤ 12)) (R' := fun x y i => (x ≤ 11 ∧ y ≤ 21) ∨ (x = 12 ∧ y ≤ 7)) (XT_tr hA24 hX25) (fun x y => by first | omega | (dsimp only; omega)) (fun x y i => by first | omega | (dsimp only; omega))
  have l0_25 : LO w25 0 := LO_keep l0_24 hX25 (fun y i => (fun q => by first | omega | (dsimp only at q; omega)))
  have p00_25 : PT w25 12 0 0 0 0 := PT_keep p00_24 hX25 (fun q => by first | omega | (dsimp only at q; omega)) ((hA24.1 _ _).mpr (Or.inr (by first | omega | (dsimp only; omega))))
  have l1_25 : LO w25 1 := LO_keep l1_24 hX25 (fun y i => (fun q => by first | omega | (dsimp only at q; omega)))
  have p01_25 : PT w25 12 0 1 1 0 := PT_keep p01_24 hX25 (fun q => by first | omega | (dsimp only at q; omega)) ((hA24.1 _ _).mpr (Or.inr (by first | omega | (dsimp only; omega))))
  have p10_25 : PT w25 12 1 0 12 2 := PT_keep p10_24 hX25 (fun q => by first | omega | (dsimp only at q; omega)) ((hA24.1 _ _).mpr (Or.inr (by first | omega | (dsimp only; omega))))
  have ps_25 : ∀ k, k < 8 → PT w25 12 2 k (2 + k) 0 := fun k hk => PT_keep (ps_24 k hk) hX25 (fun q => by first | omega | (dsimp only at q; omega)) ((hA24.1 _ _).mpr (Or.inr (by first | omega | (dsimp only; omega))))
  have lo_25 : ∀ k, k < 8 → LO w25 (2 + k) := fun k hk => LO_keep (lo_24 k hk) hX25 (fun y i => (fun q => by first | omega | (dsimp only at q; omega)))
  have p02_25 : PT w25 12 0 2 12 1 := PT_keep p02_24 hX25 (fun q => by first | omega | (dsimp only at q; omega)) ((hA24.1 _ _).mpr (Or.inr (by first | omega | (dsimp only; omega))))
  have p03_25 : PT w25 12 0 3 12 3 := PT_keep p03_24 hX25 (fun q => by first | omega | (dsimp only at q; omega)) ((hA24.1 _ _).mpr (Or.inr (by first | omega | (dsimp only; omega))))
  have l10_25 : LO w25 10 := LO_keep l10_24 hX25 (fun y i => (fun q => by first | omega | (dsimp only at q; omega)))
  have p30_25 : PT w25 12 3 0 10 0 := PT_keep p30_24 hX25 (fun q => by first | omega | (dsimp only at q; omega)) ((hA24.1 _ _).mpr (Or.inr (by first | omega | (dsimp only; omega))))
  have l11_25 : LO w25 11 := LO_keep l11_24 hX25 (fun y i => (fun q => by first | omega | (dsimp only at q; omega)))
  have p31_25 : PT w25 12 3 1 11 0 := PT_keep p31_24 hX25 (fun q => by first | omega | (dsimp only at q; omega)) ((hA24.1 _ _).mpr (Or.inr (by first | omega | (dsimp only; omega))))
  have p04_25 : PT w25 12 0 4 12 4 := PT_keep p04_24 hX25 (fun q => by first | omega | (dsimp only at q; omega)) ((hA24.1 _ _).mpr (Or.inr (by first | omega | (dsimp only; omega))))
  have p50_25 : PT w25 12 5 0 12 6 := PT_keep p50_24 hX25 (fun q => by first | omega | (dsimp only at q; omega)) ((hA24.1 _ _).mpr (Or.inr (by first | omega | (dsimp only; omega))))
  have p05_25 : PT w25 12 0 5 12 5 := PT_keep p05_24 hX25 (fun q => by first | omega | (dsimp only at q; omega)) ((hA24.1 _ _).mpr (Or.inr (by first | omega | (dsimp only; omega))))
  have p71_25 : PT w25 12 7 1 12 8 := PT_keep p71_24 hX25 (fun q => by first | omega | (dsimp only at q; omega)) ((hA24.1 _ _).mpr (Or.inr (by first | omega | (dsimp only; omega))))
  have p72_25 : PT w25 12 7 2 12 9 := PT_keep p72_24 hX25 (fun q => by first | omega | (dsimp only at q; omega)) ((hA24.1 _ _).mpr (Or.inr (by first | omega | (dsimp only; omega))))
  have p73_25 : PT w25 12 7 3 12 10 := PT_keep p73_24 hX25 (fun q => by first | omega | (dsimp only at q; omega)) ((hA24.1 _ _).mpr (Or.inr (by first | omega | (dsimp only; omega))))
  have p74_25 : PT w25 12 7 4 12 11 := PT_keep p74_24 hX25 (fun q => by first | omega | (dsimp only at q; omega)) ((hA24.1 _ _).mpr (Or.inr (by first | omega | (dsimp only; omega))))
  have p06_25 : PT w25 12 0 6 12 7 := PT_keep p06_24 hX25 (fun q => by first | omega | (dsimp only at q; omega)) ((hA24.1 _ _).mpr (Or.inr (by first | omega | (dsimp only; omega))))
  refine J_dup hC dX9_init_100 rfl ?_
  refine J_invIN (y := yX5_init) (rm := rnX5_init) hC hAO rfl (host := "KitePermits") q2_92 q2_91 q1_9 (by decide +kernel) rfl ⟨mdnX5_init.1, mdnX5_init.2.1, mdnX5_init.2.2⟩ rfl rfl ⟨by decide, by decide⟩ ⟨by decide, by decide⟩ (Nat.le_of_ble_eq_true rfl) dX9_init_101 ?_
  refine c_X5_init ((hA25.1 _ _).mpr (Or.inr (by first | omega | (dsimp only; omega)))) (fun y h1 h2 => (fun g => ((hA25.1 _ _).mp g).elim (hf _ _ (by omega)) (fun q => by first | omega | (dsimp only at q; omega)))) (fun y j h1 h2 => (hA25.2.2 _ _ _ (fun q => by first | omega | (dsimp only at q; omega))).trans (hr _ _ _ (by omega))) (fun y j h1 h2 => by first | rfl | (rw [rd_wr_c (by omega)]; rfl)) (fun w26 hX26 hp26 => ?_)
  dsimp only [Option.toList_none, List.nil_append]
  have hA26 := XT_mono (S' := fun x y => (x ≤ 11 ∧ y ≤ 21) ∨ (x = 12 ∧ 1 ≤ y ∧ y ≤ 13)) (R' := fun x y i => (x ≤ 11 ∧ y ≤ 21) ∨ (x = 12 ∧ y ≤ 12)) (XT_tr hA25 hX26) (fun x y => by first | omega | (dsimp only; omega)) (fun x y i => by first | omega | (dsimp only; omega))
  have l0_26 : LO w26 0 := LO_keep l0_25 hX26 (fun y i => (fun q => by first | omega | (dsimp only at q; omega)))
  have p00_26 : PT w26 12 0 0 0 0 := PT_keep p00_25 hX26 (fun q => by first | omega | (dsimp only at q; omega)) ((hA25.1 _ _).mpr (Or.inr (by first | omega | (dsimp only; omega))))
  have l1_26 : LO w26 1 := LO_keep l1_25 hX26 (fun y i => (fun q => by first | omega | (dsimp only at q; omega)))
  have p01_26 : PT w26 12 0 1 1 0 := PT_keep p01_25 hX26 (fun q => by first | omega | (dsimp only at q; omega)) ((hA25.1 _ _).mpr (Or.inr (by first | omega | (dsimp only; omega))))
  have p10_26 : PT w26 12 1 0 12 2 := PT_keep p10_25 hX26 (fun q => by first | omega | (dsimp only at q; omega)) ((hA25.1 _ _).mpr (Or.inr (by first | omega | (dsimp only; omega))))
  have ps_26 : ∀ k, k < 8 → PT w26 12 2 k (2 + k) 0 := fun k hk => PT_keep (ps_25 k hk) hX26 (fun q => by first | omega | (dsimp only at q; omega)) ((hA25.1 _ _).mpr (Or.inr (by first | omega | (dsimp only; omega))))
  have lo_26 : ∀ k, k < 8 → LO w26 (2 + k) := fun k hk => LO_keep (lo_25 k hk) hX26 (fun y i => (fun q => by first | omega | (dsimp only at q; omega)))
  have p02_26 : PT w26 12 0 2 12 1 := PT_keep p02_25 hX26 (fun q => by first | omega | (dsimp only at q; omega)) ((hA25.1 _ _).mpr (Or.inr (by first | omega | (dsimp only; omega))))
  have p03_26 : PT w26 12 0 3 12 3 := PT_keep p03_25 hX26 (fun q => by first | omega | (dsimp only at q; omega)) ((hA25.1 _ _).mpr (Or.inr (by first | omega | (dsimp only; omega))))
  have l10_26 : LO w26 10 := LO_keep l10_25 hX26 (fun y i => (fun q => by first | omega | (dsimp only at q; omega)))
  have p30_26 : PT w26 12 3 0 10 0 := PT_keep p30_25 hX26 (fun q => by first | omega | (dsimp only at q; omega)) ((hA25.1 _ _).mpr (Or.inr (by first | omega | (dsimp only; omega))))
  have l11_26 : LO w26 11 := LO_keep l11_25 hX26 (fun y i => (fun q => by first | omega | (dsimp only at q; omega)))
  have p31_26 : PT w26 12 3 1 11 0 := PT_keep p31_25 hX26 (fun q => by first | omega | (dsimp only at q; omega)) ((hA25.1 _ _).mpr (Or.inr (by first | omega | (dsimp only; omega))))
  have p04_26 : PT w26 12 0 4 12 4 := PT_keep p04_25 hX26 (fun q => by first | omega | (dsimp only at q; omega)) ((hA25.1 _ _).mpr (Or.inr (by first | omega | (dsimp only; omega))))
  have p50_26 : PT w26 12 5 0 12 6 := PT_keep p50_25 hX26 (fun q => by first | omega | (dsimp only at q; omega)) ((hA25.1 _ _).mpr (Or.inr (by first | omega | (dsimp only; omega))))
  have p05_26 : PT w26 12 0 5 12 5 := PT_keep p05_25 hX26 (fun q => by first | omega | (dsimp only at q; omega)) ((hA25.1 _ _).mpr (Or.inr (by first | omega | (dsimp only; omega))))
  have p71_26 : PT w26 12 7 1 12 8 := PT_keep p71_25 hX26 (fun q => by first | omega | (dsimp only at q; omega)) ((hA25.1 _ _).mpr (Or.inr (by first | omega | (dsimp only; omega))))
  have p72_26 : PT w26 12 7 2 12 9 := PT_keep p72_25 hX26 (fun q => by first | omega | (dsimp only at q; omega)) ((hA25.1 _ _).mpr (Or.inr (by first | omega | (dsimp only; omega))))
  have p73_26 : PT w26 12 7 3 12 10 := PT_keep p73_25 hX26 (fun q => by first | omega | (dsimp only at q; omega)) ((hA25.1 _ _).mpr (Or.inr (by first | omega | (dsimp only; omega))))
  have p74_26 : PT w26 12 7 4 12 11 := PT_keep p74_25 hX26 (fun q => by first | omega | (dsimp only at q; omega)) ((hA25.1 _ _).mpr (Or.inr (by first | omega | (dsimp only; omega))))
  have p06_26 : PT w26 12 0 6 12 7 := PT_keep p06_25 hX26 (fun q => by first | omega | (dsimp only at q; omega)) ((hA25.1 _ _).mpr (Or.inr (by first | omega | (dsimp only; omega))))
  have p120_26 := hp26
  refine rX9_55 hC hIn ((hA26.1 _ _).mpr (Or.inl hm)) (hA26.2.1 _ _ hm).symm dX9_init_104 (fun w27 hX27 hP27 => ?_)
  have p07_27 : PT w27 12 0 7 12 12 := by
    unfold PT
    rw [hP27, hX27.2.1 _ _ ((hA26.1 _ _).mpr (Or.inr (by first | omega | (dsimp only; omega))))]
    rw [hX26.2.1 _ _ ((hA25.1 _ _).mpr (Or.inr (by first | omega | (dsimp only; omega))))]
  have hA27 := XT_mono (S' := fun x y => (x ≤ 11 ∧ y ≤ 21) ∨ (x = 12 ∧ 1 ≤ y ∧ y ≤ 13)) (R' := fun x y i => (x ≤ 11 ∧ y ≤ 21) ∨ (x = 12 ∧ y ≤ 12)) (XT_tr hA26 hX27) (fun x y => by first | omega | (dsimp only; omega)) (fun x y i => by first | omega | (dsimp only; omega))
  have l0_27 : LO w27 0 := LO_keep l0_26 hX27 (fun y i => (fun q => by first | omega | (dsimp only at q; omega)))
  have p00_27 : PT w27 12 0 0 0 0 := PT_keep p00_26 hX27 (fun q => by first | omega | (dsimp only at q; omega)) ((hA26.1 _ _).mpr (Or.inr (by first | omega | (dsimp only; omega))))
  have l1_27 : LO w27 1 := LO_keep l1_26 hX27 (fun y i => (fun q => by first | omega | (dsimp only at q; omega)))
  have p01_27 : PT w27 12 0 1 1 0 := PT_keep p01_26 hX27 (fun q => by first | omega | (dsimp only at q; omega)) ((hA26.1 _ _).mpr (Or.inr (by first | omega | (dsimp only; omega))))
  have p10_27 : PT w27 12 1 0 12 2 := PT_keep p10_26 hX27 (fun q => by first | omega | (dsimp only at q; omega)) ((hA26.1 _ _).mpr (Or.inr (by first | omega | (dsimp only; omega))))
  have ps_27 : ∀ k, k < 8 → PT w27 12 2 k (2 + k) 0 := fun k hk => PT_keep (ps_26 k hk) hX27 (fun q => by first | omega | (dsimp only at q; omega)) ((hA26.1 _ _).mpr (Or.inr (by first | omega | (dsimp only; omega))))
  have lo_27 : ∀ k, k < 8 → LO w27 (2 + k) := fun k hk => LO_keep (lo_26 k hk) hX27 (fun y i => (fun q => by first | omega | (dsimp only at q; omega)))
  have p02_27 : PT w27 12 0 2 12 1 := PT_keep p02_26 hX27 (fun q => by first | omega | (dsimp only at q; omega)) ((hA26.1 _ _).mpr (Or.inr (by first | omega | (dsimp only; omega))))
  have p03_27 : PT w27 12 0 3 12 3 := PT_keep p03_26 hX27 (fun q => by first | omega | (dsimp only at q; omega)) ((hA26.1 _ _).mpr (Or.inr (by first | omega | (dsimp only; omega))))
  have l10_27 : LO w27 10 := LO_keep l10_26 hX27 (fun y i => (fun q => by first | omega | (dsimp only at q; omega)))
  have p30_27 : PT w27 12 3 0 10 0 := PT_keep p30_26 hX27 (fun q => by first | omega | (dsimp only at q; omega)) ((hA26.1 _ _).mpr (Or.inr (by first | omega | (dsimp only; omega))))
  have l11_27 : LO w27 11 := LO_keep l11_26 hX27 (fun y i => (fun q => by first | omega | (dsimp only at q; omega)))
  have p31_27 : PT w27 12 3 1 11 0 := PT_keep p31_26 hX27 (fun q => by first | omega | (dsimp only at q; omega)) ((hA26.1 _ _).mpr (Or.inr (by first | omega | (dsimp only; omega))))
  have p04_27 : PT w27 12 0 4 12 4 := PT_keep p04_26 hX27 (fun q => by first | omega | (dsimp only at q; omega)) ((hA26.1 _ _).mpr (Or.inr (by first | omega | (dsimp only; omega))))
  have p50_27 : PT w27 12 5 0 12 6 := PT_keep p50_26 hX27 (fun q => by first | omega | (dsimp only at q; omega)) ((hA26.1 _ _).mpr (Or.inr (by first | omega | (dsimp only; omega))))
  have p05_27 : PT w27 12 0 5 12 5 := PT_keep p05_26 hX27 (fun q => by first | omega | (dsimp only at q; omega)) ((hA26.1 _ _).mpr (Or.inr (by first | omega | (dsimp only; omega))))
  have p71_27 : PT w27 12 7 1 12 8 := PT_keep p71_26 hX27 (fun q => by first | omega | (dsimp only at q; omega)) ((hA26.1 _ _).mpr (Or.inr (by first | omega | (dsimp only; omega))))
  have p72_27 : PT w27 12 7 2 12 9 := PT_keep p72_26 hX27 (fun q => by first | omega | (dsimp only at q; omega)) ((hA26.1 _ _).mpr (Or.inr (by first | omega | (dsimp only; omega))))
  have p73_27 : PT w27 12 7 3 12 10 := PT_keep p73_26 hX27 (fun q => by first | omega | (dsimp only at q; omega)) ((hA26.1 _ _).mpr (Or.inr (by first | omega | (dsimp only; omega))))
  have p74_27 : PT w27 12 7 4 12 11 := PT_keep p74_26 hX27 (fun q => by first | omega | (dsimp only at q; omega)) ((hA26.1 _ _).mpr (Or.inr (by first | omega | (dsimp only; omega))))
  have p06_27 : PT w27 12 0 6 12 7 := PT_keep p06_26 hX27 (fun q => by first | omega | (dsimp only at q; omega)) ((hA26.1 _ _).mpr (Or.inr (by first | omega | (dsimp only; omega))))
  have p120_27 : PT w27 12 12 0 12 13 := PT_keep p120_26 hX27 (fun q => by first | omega | (dsimp only at q; omega)) ((hA26.1 _ _).mpr (Or.inr (by first | omega | (dsimp only; omega))))
  refine J_return hC hR dX9_init_107 (by decide) (by decide) ?_
  refine hq _ (XT_mono hA27 (fun x y => by first | omega | (dsimp only; omega)) (fun x y i => by first | omega | (dsimp only; omega))) ⟨fun c hc => ?_, ?_⟩ (fun o ho => ?_)
  · by_cases hc0 : c = 0
    · subst hc0
      exact ((hA27.1 _ _).mpr (Or.inl hm))
    · exact ((hA27.1 _ _).mpr (Or.inr (by first | omega | (dsimp only; omega))))
  · intro c j t h
    unfold tgK at h
    by_cases e0 : c = 0
    · subst e0
      rw [if_pos rfl] at h
      split at h
      · cases h; exact p00_27
      · cases h; exact p01_27
      · cases h; exact p02_27
      · cases h; exact p03_27
      · cases h; exact p04_27
      · cases h; exact p05_27
      · cases h; exact p06_27
      · cases h; exact p07_27
      · cases h
    rw [if_neg e0] at h
    by_cases e1 : c = 1
    · subst e1
      rw [if_pos rfl] at h
      by_cases hj : j = 0
      · subst hj
        rw [if_pos rfl] at h
        cases h
        exact p10_27
      · rw [if_neg hj] at h
        cases h
    rw [if_neg e1] at h
    by_cases e2 : c = 2
    · subst e2
      rw [if_pos rfl] at h
      by_cases hj : j < 8
      · rw [if_pos hj] at h
        cases h
        exact ps_27 j hj
      · rw [if_neg hj] at h
        cases h
    rw [if_neg e2] at h
    by_cases e3 : c = 3
    · subst e3
      rw [if_pos rfl] at h
      by_cases hj : j < 2
      · rw [if_pos hj] at h
        cases h
        rcases (show j = 0 ∨ j = 1 by omega) with rfl | rfl
        · exact p30_27
        · exact p31_27
      · rw [if_neg hj] at h
        cases h
    rw [if_neg e3] at h
    by_cases e5 : c = 5
    · subst e5
      rw [if_pos rfl] at h
      by_cases hj : j = 0
      · subst hj
        rw [if_pos rfl] at h
        cases h
        exact p50_27
      · rw [if_neg hj] at h
        cases h
    rw [if_neg e5] at h
    by_cases e7 : c = 7
    · subst e7
      rw [if_pos rfl] at h
      split at h
      · cases h; exact p71_27
      · cases h; exact p72_27
      · cases h; exact p73_27
      · cases h; exact p74_27
      · cases h
    rw [if_neg e7] at h
    by_cases e12 : c = 12
    · subst e12
      rw [if_pos rfl] at h
      by_cases hj : j = 0
      · subst hj
        rw [if_pos rfl] at h
        cases h
        exact p120_27
      · rw [if_neg hj] at h
        cases h
    rw [if_neg e12] at h
    cases h
  · rcases (show o = 0 ∨ o = 1 ∨ o = 10 ∨ o = 11 ∨ (2 ≤ o ∧ o < 10) by omega) with rfl | rfl | rfl | rfl | hh
    · exact l0_27
    · exact l1_27
    · exact l10_27
    · exact l11_27
    · have h9 := lo_27 (o - 2) (by omega)
      rw [show 2 + (o - 2) = o by omega] at h9
      exact h9
