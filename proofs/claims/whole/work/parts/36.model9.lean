set_option maxHeartbeats 4000000 in
set_option maxRecDepth 100000 in
theorem c_X10_verdictsIn {G : GC} {w : Lay} {σ : Mem} {Q : Lay → Option Value → Mem → Prop} {Qx : Lay → String → Mem → Prop} {hm : Nat} (hM : LM w) (hI : RowOK hm (rd σ 13 1)) (hb9 : hm ≤ 900000) {h : Int32} {f u : Nat}   (hq0 : (aVI (rd σ 13 1) (rd σ 13 8) h).1 = 0 → Q w (some (.int (aVI (rd σ 13 1) (rd σ 13 8) h).2)) (takeP (setAK (putP (thr σ 0) 10 304) (passed (cl h) ((rd σ 13 1), (rd σ 13 8), 0)).1 (passed (cl h) ((rd σ 13 1), (rd σ 13 8), 0)).2.1) 10 304)) (hq1 : ∀ c, c ≠ 0 → (aVI (rd σ 13 1) (rd σ 13 8) h).1 = c → Q w (some (.int (nI 0))) (thr σ c)) : MX10_verdictsIn G w σ [.ref (w.2.1 13 0), .int h] Q Qx := by
  refine mt_start (by decide) rfl (Nat.le_of_ble_eq_true rfl) (fun E hC hR hN => ?_)
  show J G E w 0 0 0 [some (.ref (w.2.1 13 0)), some (.int h), none] [] σ
  refine J_aload_n hC dX10_verdictsIn_0 rfl rfl ?_
  refine J_iconst (v := nI 0) hC dX10_verdictsIn_1 (by decide) ?_
  refine pX10_62 hC hM dX10_verdictsIn_2 ?_
  obtain ⟨τ, hτ, hA⟩ : ∃ τ, thr σ 0 = τ ∧ rd σ 13 1 = rd τ 13 1 := ⟨_, rfl, rd_thr1.symm⟩
  have h9 : ∀ c, thr τ c = thr σ c := fun c => by rw [← hτ]; exact thr_thr
  rw [hA] at hI hq0 hq1
  have hK8 : rd σ 13 8 = rd τ 13 8 := by rw [← hτ]; exact rd_thr8.symm
  rw [hK8] at hq0 hq1
  show J G E w 0 0 5 _ _ (thr σ 0)
  rw [hτ]
  refine J_iload_n hC dX10_verdictsIn_5 rfl rfl ?_
  refine J_iconst (v := nI 0) hC dX10_verdictsIn_6 (by decide) ?_
  refine J_bipush (v := nI 100) hC dX10_verdictsIn_7 (by decide) ?_
  refine iX10_75 hC rfl ⟨by decide, by decide⟩ ⟨by decide, by decide⟩ (Nat.le_of_ble_eq_true rfl) dX10_verdictsIn_9 ?_
  refine k_in (by decide) (by decide) (fun hh => ?_) (fun hh => ?_)
  · dsimp only [Option.toList_some, Option.toList_none, List.cons_append, List.nil_append]
    have gh := hh
    obtain ⟨kh, rfl, ah, bh⟩ := gh
    have ch : kh < 2 ^ 31 := by omega
    refine J_if_ne_n hC (by decide) (tgt := 21) dX10_verdictsIn_12 rfl (fun _ => ?_) (fun hf => absurd hf (by omega))
    refine J_aload_n hC dX10_verdictsIn_21 rfl rfl ?_
    refine J_bipush (v := nI 10) hC dX10_verdictsIn_22 (by decide) ?_
    refine iX10_71 hC hM rfl ⟨by decide, by decide⟩ ⟨by decide, by decide⟩ (Nat.le_of_ble_eq_true rfl) dX10_verdictsIn_24 ?_
    refine c_X10_put hM (by omega) ?_
    dsimp only [Option.toList_some, Option.toList_none, List.cons_append, List.nil_append]
    refine J_aload_n hC dX10_verdictsIn_27 rfl rfl ?_
    refine J_iload_n hC dX10_verdictsIn_28 rfl rfl ?_
    refine iX10_275 hC hM rfl ⟨by decide, by decide⟩ ⟨by decide, by decide⟩ (Nat.le_of_ble_eq_true rfl) dX10_verdictsIn_29 ?_
    refine c_X10_passed hM (by rw [putP_rd1]; exact hI) (by omega) ?_
    dsimp only [Option.toList_some, Option.toList_none, List.cons_append, List.nil_append]
    rw [putP_rd1, putP_rd8]
    refine J_istore_n hC dX10_verdictsIn_32 rfl (Nat.le_of_ble_eq_true rfl) rfl ?_
    dsimp only [List.set]
    refine J_aload_n hC dX10_verdictsIn_33 rfl rfl ?_
    refine J_bipush (v := nI 10) hC dX10_verdictsIn_34 (by decide) ?_
    refine iX10_317 hC hM rfl ⟨by decide, by decide⟩ ⟨by decide, by decide⟩ (Nat.le_of_ble_eq_true rfl) dX10_verdictsIn_36 ?_
    refine c_X10_take hM (by omega) ?_
    dsimp only [Option.toList_some, Option.toList_none, List.cons_append, List.nil_append]
    refine J_iload_n hC dX10_verdictsIn_39 rfl rfl ?_
    refine J_ireturn hC hR dX10_verdictsIn_40 (by decide) (by decide) ?_
    unfold aVI at hq0
    try rw [cl_n (k := kh) (by omega)] at hq0
    rw [chk_t hh] at hq0
    have q := hq0 rfl
    dsimp only at q
    rw [hτ] at q
    exact q
  · dsimp only [Option.toList_some, Option.toList_none, List.cons_append, List.nil_append]
    refine J_if_ne_n hC (by decide) (tgt := 21) dX10_verdictsIn_12 rfl (fun hf => absurd hf (by omega)) (fun _ => ?_)
    refine J_aload_n hC dX10_verdictsIn_15 rfl rfl ?_
    refine J_iconst (v := nI 1) hC dX10_verdictsIn_16 (by decide) ?_
    refine iX10_308 hC hM rfl ⟨by decide, by decide⟩ ⟨by decide, by decide⟩ (Nat.le_of_ble_eq_true rfl) dX10_verdictsIn_17 ?_
    refine c_X10_fail hM ?_
    dsimp only [Option.toList_some, Option.toList_none, List.cons_append, List.nil_append]
    refine J_ireturn hC hR dX10_verdictsIn_20 (by decide) (by decide) ?_
    unfold aVI at hq1
    rw [chk_f hh] at hq1
    rw [h9]
    exact hq1 _ (by decide) rfl
set_option maxHeartbeats 4000000 in
set_option maxRecDepth 100000 in
theorem c_X10_undo {G : GC} {w : Lay} {σ : Mem} {Q : Lay → Option Value → Mem → Prop} {Qx : Lay → String → Mem → Prop} (hM : LM w) {f u : Nat} (hr0 : ringOK σ f u) (hq0 : (aUn u).1 = 0 → Q w (some (.int (aUn u).2)) (takeP (wr (thr σ 0) 13 0 4 (nI (u - 1))) ((f + (u - 1)) % 8) 304)) (hq1 : ∀ c, c ≠ 0 → (aUn u).1 = c → Q w (some (.int (nI 0))) (thr σ c)) : MX10_undo G w σ [.ref (w.2.1 13 0)] Q Qx := by
  refine mt_start (by decide) rfl (Nat.le_of_ble_eq_true rfl) (fun E hC hR hN => ?_)
  show J G E w 0 0 0 [some (.ref (w.2.1 13 0))] [] σ
  refine J_aload_n hC dX10_undo_0 rfl rfl ?_
  refine J_iconst (v := nI 0) hC dX10_undo_1 (by decide) ?_
  refine pX10_62 hC hM dX10_undo_2 ?_
  obtain ⟨τ, hτ, hA⟩ : ∃ τ, thr σ 0 = τ ∧ rd σ 13 1 = rd τ 13 1 := ⟨_, rfl, rd_thr1.symm⟩
  have h9 : ∀ c, thr τ c = thr σ c := fun c => by rw [← hτ]; exact thr_thr
  show J G E w 0 0 5 _ _ (thr σ 0)
  rw [hτ]
  obtain ⟨r1, r2, r3, r4⟩ := (hτ ▸ ring_thr hr0 : ringOK τ f u)
  refine J_aload_n hC dX10_undo_5 rfl rfl ?_
  refine gX10_65 hC hM dX10_undo_6 ?_
  refine J_top r2 ?_
  refine J_if_ne_n hC (by omega) (tgt := 18) dX10_undo_9 rfl (fun hz => ?_) (fun hz => ?_)
  · have gz : u ≠ 0 := hz
    refine J_aload_n hC dX10_undo_18 rfl rfl ?_
    refine J_dup hC dX10_undo_19 rfl ?_
    refine gX10_65 hC hM dX10_undo_20 ?_
    refine J_top r2 ?_
    refine J_iconst (v := nI 1) hC dX10_undo_23 (by decide) ?_
    refine J_isub_n hC (by omega) dX10_undo_24 ?_
    refine pX10_65 hC hM dX10_undo_25 ?_
    refine J_aload_n hC dX10_undo_28 rfl rfl ?_
    refine J_aload_n hC dX10_undo_29 rfl rfl ?_
    refine gX10_68 hC hM dX10_undo_30 ?_
    refine J_top (show _ = nI f from (rd_wr_j (by decide)).trans r1) ?_
    refine J_aload_n hC dX10_undo_33 rfl rfl ?_
    refine gX10_65 hC hM dX10_undo_34 ?_
    refine J_top (show _ = nI (u - 1) from rd_wr_s) ?_
    refine J_iadd_n hC dX10_undo_37 ?_
    refine J_bipush (v := nI 8) hC dX10_undo_38 (by decide) ?_
    refine J_irem_n hC (by omega) (by omega) (by omega) dX10_undo_40 ?_
    refine iX10_317 hC hM rfl ⟨by decide, by decide⟩ ⟨by decide, by decide⟩ (Nat.le_of_ble_eq_true rfl) dX10_undo_41 ?_
    refine c_X10_take hM (by omega) ?_
    dsimp only [Option.toList_some, Option.toList_none, List.cons_append, List.nil_append]
    refine J_aload_n hC dX10_undo_44 rfl rfl ?_
    refine gX10_65 hC hM dX10_undo_45 ?_
    refine J_top (show _ = nI (u - 1) from by rw [takeP_rd0]; exact rd_wr_s) ?_
    refine J_ireturn hC hR dX10_undo_48 (by decide) (by decide) ?_
    unfold aUn at hq0
    rw [chk_t gz] at hq0
    have q := hq0 rfl
    dsimp only at q
    rw [hτ] at q
    exact q
  · have gz : ¬ u ≠ 0 := fun q => q hz
    refine J_aload_n hC dX10_undo_12 rfl rfl ?_
    refine J_iconst (v := nI 1) hC dX10_undo_13 (by decide) ?_
    refine iX10_308 hC hM rfl ⟨by decide, by decide⟩ ⟨by decide, by decide⟩ (Nat.le_of_ble_eq_true rfl) dX10_undo_14 ?_
    refine c_X10_fail hM ?_
    dsimp only [Option.toList_some, Option.toList_none, List.cons_append, List.nil_append]
    refine J_ireturn hC hR dX10_undo_17 (by decide) (by decide) ?_
    unfold aUn at hq1
    rw [chk_f gz] at hq1
    rw [h9]
    exact hq1 _ (by decide) rfl
set_option maxHeartbeats 4000000 in
set_option maxRecDepth 100000 in
theorem c_X10_saveSnapshot {G : GC} {w : Lay} {σ : Mem} {Q : Lay → Option Value → Mem → Prop} {Qx : Lay → String → Mem → Prop} (hM : LM w) {s : Int32} (hq0 : (aSS s).1 = 0 → Q w none (wr (putP (thr σ 0) (8 + cl s) 304) 13 3 (cl s) (nI 1))) (hq1 : ∀ c, c ≠ 0 → (aSS s).1 = c → Q w none (thr σ c)) : MX10_saveSnapshot G w σ [.ref (w.2.1 13 0), .int s] Q Qx := by
  refine mt_start (by decide) rfl (Nat.le_of_ble_eq_true rfl) (fun E hC hR hN => ?_)
  show J G E w 0 0 0 [some (.ref (w.2.1 13 0)), some (.int s)] [] σ
  refine J_aload_n hC dX10_saveSnapshot_0 rfl rfl ?_
  refine J_iconst (v := nI 0) hC dX10_saveSnapshot_1 (by decide) ?_
  refine pX10_62 hC hM dX10_saveSnapshot_2 ?_
  obtain ⟨τ, hτ, hA⟩ : ∃ τ, thr σ 0 = τ ∧ rd σ 13 1 = rd τ 13 1 := ⟨_, rfl, rd_thr1.symm⟩
  have h9 : ∀ c, thr τ c = thr σ c := fun c => by rw [← hτ]; exact thr_thr
  show J G E w 0 0 5 _ _ (thr σ 0)
  rw [hτ]
  refine J_iload_n hC dX10_saveSnapshot_5 rfl rfl ?_
  refine J_iconst (v := nI 0) hC dX10_saveSnapshot_6 (by decide) ?_
  refine J_iconst (v := nI 1) hC dX10_saveSnapshot_7 (by decide) ?_
  refine iX10_75 hC rfl ⟨by decide, by decide⟩ ⟨by decide, by decide⟩ (Nat.le_of_ble_eq_true rfl) dX10_saveSnapshot_8 ?_
  refine k_in (by decide) (by decide) (fun hs => ?_) (fun hs => ?_)
  · dsimp only [Option.toList_some, Option.toList_none, List.cons_append, List.nil_append]
    have gs := hs
    obtain ⟨ks, rfl, as, bs⟩ := gs
    refine J_if_ne_n hC (by decide) (tgt := 20) dX10_saveSnapshot_11 rfl (fun _ => ?_) (fun hf => absurd hf (by omega))
    refine J_aload_n hC dX10_saveSnapshot_20 rfl rfl ?_
    refine J_bipush (v := nI 8) hC dX10_saveSnapshot_21 (by decide) ?_
    refine J_iload_n hC dX10_saveSnapshot_23 rfl rfl ?_
    refine J_iadd_n hC dX10_saveSnapshot_24 ?_
    refine iX10_71 hC hM rfl ⟨by decide, by decide⟩ ⟨by decide, by decide⟩ (Nat.le_of_ble_eq_true rfl) dX10_saveSnapshot_25 ?_
    refine c_X10_put hM (by omega) ?_
    dsimp only [Option.toList_some, Option.toList_none, List.cons_append, List.nil_append]
    refine J_aload_n hC dX10_saveSnapshot_28 rfl rfl ?_
    refine gX10_16 hC hM dX10_saveSnapshot_29 ?_
    refine J_iload_n hC dX10_saveSnapshot_32 rfl rfl ?_
    refine J_iconst (v := nI 1) hC dX10_saveSnapshot_33 (by decide) ?_
    refine J_zastore hC (hM.1 3 (by decide)) rfl rfl (by omega) (by decide) (by decide) dX10_saveSnapshot_34 ?_
    refine J_return hC hR dX10_saveSnapshot_35 (by decide) (by decide) ?_
    unfold aSS at hq0
    rw [cl_n (k := ks) (by omega), chk_t hs] at hq0
    have q := hq0 rfl
    rw [hτ] at q
    exact q
  · dsimp only [Option.toList_some, Option.toList_none, List.cons_append, List.nil_append]
    refine J_if_ne_n hC (by decide) (tgt := 20) dX10_saveSnapshot_11 rfl (fun hf => absurd hf (by omega)) (fun _ => ?_)
    refine J_aload_n hC dX10_saveSnapshot_14 rfl rfl ?_
    refine J_iconst (v := nI 1) hC dX10_saveSnapshot_15 (by decide) ?_
    refine pX10_62 hC hM dX10_saveSnapshot_16 ?_
    refine J_return hC hR dX10_saveSnapshot_19 (by decide) (by decide) ?_
    unfold aSS at hq1
    rw [chk_f hs] at hq1
    have q := hq1 _ (by decide) rfl
    rw [← h9] at q
    exact q
set_option maxHeartbeats 4000000 in
set_option maxRecDepth 100000 in
theorem c_X10_restoreSnapshot {G : GC} {w : Lay} {σ : Mem} {Q : Lay → Option Value → Mem → Prop} {Qx : Lay → String → Mem → Prop} (hM : LM w) {s : Int32} {f u : Nat} (hr0 : ringOK σ f u) (hB : ∀ j, j < 2 → rd σ 13 3 j = 0 ∨ rd σ 13 3 j = 1) (hq0 : (aRS (rd σ 13 3) (fun r => rowOf σ (8 + r)) s).1 = 0 → Q w (some (.int (aRS (rd σ 13 3) (fun r => rowOf σ (8 + r)) s).2)) (takeP (actM (thr σ 0) f u) (8 + cl s) 304)) (hq1 : ∀ c, c ≠ 0 → (aRS (rd σ 13 3) (fun r => rowOf σ (8 + r)) s).1 = c → Q w (some (.int (nI 0))) (thr σ c)) : MX10_restoreSnapshot G w σ [.ref (w.2.1 13 0), .int s] Q Qx := by
  refine mt_start (by decide) rfl (Nat.le_of_ble_eq_true rfl) (fun E hC hR hN => ?_)
  show J G E w 0 0 0 [some (.ref (w.2.1 13 0)), some (.int s)] [] σ
  refine J_aload_n hC dX10_restoreSnapshot_0 rfl rfl ?_
  refine J_iconst (v := nI 0) hC dX10_restoreSnapshot_1 (by decide) ?_
  refine pX10_62 hC hM dX10_restoreSnapshot_2 ?_
  have hA3 : rd (thr σ 0) 13 3 = rd σ 13 3 := rd_wr_cell (by decide)
  have hA2 : rd (thr σ 0) 13 2 = rd σ 13 2 := rd_wr_cell (by decide)
  obtain ⟨τ, hτ, hA⟩ : ∃ τ, thr σ 0 = τ ∧ rd σ 13 1 = rd τ 13 1 := ⟨_, rfl, rd_thr1.symm⟩
  have h9 : ∀ c, thr τ c = thr σ c := fun c => by rw [← hτ]; exact thr_thr
  show J G E w 0 0 5 _ _ (thr σ 0)
  rw [hτ]
  rw [hτ] at hA3 hA2
  have hr : ringOK τ f u := hτ ▸ ring_thr hr0
  refine J_iload_n hC dX10_restoreSnapshot_5 rfl rfl ?_
  refine J_iconst (v := nI 0) hC dX10_restoreSnapshot_6 (by decide) ?_
  refine J_iconst (v := nI 1) hC dX10_restoreSnapshot_7 (by decide) ?_
  refine iX10_75 hC rfl ⟨by decide, by decide⟩ ⟨by decide, by decide⟩ (Nat.le_of_ble_eq_true rfl) dX10_restoreSnapshot_8 ?_
  refine k_in (by decide) (by decide) (fun hs => ?_) (fun hs => ?_)
  · dsimp only [Option.toList_some, Option.toList_none, List.cons_append, List.nil_append]
    have gs := hs
    obtain ⟨ks, rfl, as, bs⟩ := gs
    refine J_if_ne_n hC (by decide) (tgt := 20) dX10_restoreSnapshot_11 rfl (fun _ => ?_) (fun hf => absurd hf (by omega))
    refine J_aload_n hC dX10_restoreSnapshot_20 rfl rfl ?_
    refine gX10_16 hC hM dX10_restoreSnapshot_21 ?_
    refine J_iload_n hC dX10_restoreSnapshot_24 rfl rfl ?_
    refine J_zaload hC (hM.1 3 (by decide)) rfl rfl (by omega) (by decide) dX10_restoreSnapshot_25 ?_
    refine J_if_ne hC (tgt := 35) dX10_restoreSnapshot_26 rfl (fun hf => ?_) (fun hf => ?_)
    · have gf : rd σ 13 3 ks = nI 1 := by
        rw [hA3] at hf
        exact (hB ks (by omega)).resolve_left hf
      refine J_aload_n hC dX10_restoreSnapshot_35 rfl rfl ?_
      refine iX10_320 hC hM rfl ⟨by decide, by decide⟩ ⟨by decide, by decide⟩ (Nat.le_of_ble_eq_true rfl) dX10_restoreSnapshot_36 ?_
      refine c_X10_act hM hr ?_
      dsimp only [Option.toList_some, Option.toList_none, List.cons_append, List.nil_append]
      refine J_aload_n hC dX10_restoreSnapshot_39 rfl rfl ?_
      refine J_bipush (v := nI 8) hC dX10_restoreSnapshot_40 (by decide) ?_
      refine J_iload_n hC dX10_restoreSnapshot_42 rfl rfl ?_
      refine J_iadd_n hC dX10_restoreSnapshot_43 ?_
      refine iX10_317 hC hM rfl ⟨by decide, by decide⟩ ⟨by decide, by decide⟩ (Nat.le_of_ble_eq_true rfl) dX10_restoreSnapshot_44 ?_
      refine c_X10_take hM (by omega) ?_
      dsimp only [Option.toList_some, Option.toList_none, List.cons_append, List.nil_append]
      refine J_aload_n hC dX10_restoreSnapshot_47 rfl rfl ?_
      refine gX10_7 hC hM dX10_restoreSnapshot_48 ?_
      refine J_bipush (v := nI 7) hC dX10_restoreSnapshot_51 (by decide) ?_
      refine J_iaload hC (hM.1 1 (by decide)) rfl rfl (by omega) (by decide) dX10_restoreSnapshot_53 ?_
      refine J_top (show _ = rowOf σ (8 + ks) 7 from by rw [takeP_rd1 (by decide), rowOf_act (by omega)]; unfold rowOf; rw [hA2]) ?_
      refine J_ireturn hC hR dX10_restoreSnapshot_54 (by decide) (by decide) ?_
      unfold aRS at hq0
      rw [cl_n (k := ks) (by omega), chk_t hs, chk_t gf] at hq0
      have q := hq0 rfl
      dsimp only at q
      rw [hτ] at q
      exact q
    · have gf : ¬ rd σ 13 3 ks = nI 1 := fun q => by rw [hA3] at hf; rw [hf] at q; exact absurd q (by decide)
      refine J_aload_n hC dX10_restoreSnapshot_29 rfl rfl ?_
      refine J_iconst (v := nI 2) hC dX10_restoreSnapshot_30 (by decide) ?_
      refine iX10_308 hC hM rfl ⟨by decide, by decide⟩ ⟨by decide, by decide⟩ (Nat.le_of_ble_eq_true rfl) dX10_restoreSnapshot_31 ?_
      refine c_X10_fail hM ?_
      dsimp only [Option.toList_some, Option.toList_none, List.cons_append, List.nil_append]
      refine J_ireturn hC hR dX10_restoreSnapshot_34 (by decide) (by decide) ?_
      unfold aRS at hq1
      rw [cl_n (k := ks) (by omega), chk_t hs, chk_f gf] at hq1
      rw [h9]
      exact hq1 _ (by decide) rfl
  · dsimp only [Option.toList_some, Option.toList_none, List.cons_append, List.nil_append]
    refine J_if_ne_n hC (by decide) (tgt := 20) dX10_restoreSnapshot_11 rfl (fun hf => absurd hf (by omega)) (fun _ => ?_)
    refine J_aload_n hC dX10_restoreSnapshot_14 rfl rfl ?_
    refine J_iconst (v := nI 1) hC dX10_restoreSnapshot_15 (by decide) ?_
    refine iX10_308 hC hM rfl ⟨by decide, by decide⟩ ⟨by decide, by decide⟩ (Nat.le_of_ble_eq_true rfl) dX10_restoreSnapshot_16 ?_
    refine c_X10_fail hM ?_
    dsimp only [Option.toList_some, Option.toList_none, List.cons_append, List.nil_append]
    refine J_ireturn hC hR dX10_restoreSnapshot_19 (by decide) (by decide) ?_
    unfold aRS at hq1
    rw [chk_f hs] at hq1
    rw [h9]
    exact hq1 _ (by decide) rfl
set_option maxHeartbeats 4000000 in
set_option maxRecDepth 100000 in
theorem c_X10_four {G : GC} {w : Lay} {σ : Mem} {Q : Lay → Option Value → Mem → Prop} {Qx : Lay → String → Mem → Prop} (hM : LM w) {v : Int32} {L : Nat} (hL : rd σ 13 0 6 = nI L) (h5 : L + 4 ≤ 500) (hq : Q w none (fourP σ v L 4)) : MX10_four G w σ [.ref (w.2.1 13 0), .int v] Q Qx := by
  refine mt_start (by decide) rfl (Nat.le_of_ble_eq_true rfl) (fun E hC hR hN => ?_)
  show J G E w 0 0 0 [some (.ref (w.2.1 13 0)), some (.int v), none] [] σ
  have lp : ∀ (dd : Nat) (i : Nat), 4 - i < dd → (i ≤ 4) →  J G E w 0 0 3 [some (.ref (w.2.1 13 0)), some (.int v), some (.int (iI (24 - 8 * (i : Int))))] [] (fourP σ v L i) := by
    intro dd
    induction dd with
    | zero =>
      intro i hdd
      exact absurd hdd (Nat.not_lt_zero _)
    | succ dd ih =>
      intro i hdd hi
      refine J_iload_n hC dX10_four_3 rfl rfl ?_
      refine J_if_lt_z hC rfl (by omega) (tgt := 33) dX10_four_4 rfl (fun hb => ?_) (fun hb => ?_)
      · refine J_return hC hR dX10_four_33 (by decide) (by decide) ?_
        have e : i = 4 := by omega
        subst e
        exact hq
      · refine J_aload_n hC dX10_four_7 rfl rfl ?_
        refine gX10_20 hC hM dX10_four_8 ?_
        refine J_aload_n hC dX10_four_11 rfl rfl ?_
        refine J_dup hC dX10_four_12 rfl ?_
        refine gX10_179 hC hM dX10_four_13 ?_
        refine J_top fourP_6 ?_
        refine J_dup_x1 hC dX10_four_16 rfl rfl ?_
        refine J_iconst (v := nI 1) hC dX10_four_17 (by decide) ?_
        refine J_iadd_n hC dX10_four_18 ?_
        refine pX10_179 hC hM dX10_four_19 ?_
        refine J_iload_n hC dX10_four_22 rfl rfl ?_
        refine J_iload_n hC dX10_four_23 rfl rfl ?_
        refine J_iushr hC dX10_four_24 ?_
        refine J_i2b hC dX10_four_25 ?_
        refine J_bastore hC (hM.1 4 (by decide)) rfl rfl (by omega) (by decide) dX10_four_26 ?_
        rw [fourP_r]
        refine J_iinc hC dX10_four_27 rfl rfl (Nat.le_of_ble_eq_true rfl) rfl ?_
        dsimp only [List.set]
        rw [show iI (24 - 8 * (i : Int)) + Int32.ofInt (-8) = iI (24 - 8 * ((i + 1 : Nat) : Int)) from by rw [show Int32.ofInt (-8) = iI (-8) from rfl, iI_add]; congr 1; omega]
        refine J_goto (tgt := 3) hC dX10_four_30 rfl ?_
        exact ih (i + 1) (by omega) (by omega)
  refine J_bipush (v := nI 24) hC dX10_four_0 (by decide) ?_
  refine J_istore_n hC dX10_four_2 rfl (Nat.le_of_ble_eq_true rfl) rfl ?_
  dsimp only [List.set]
  exact J_cong (lp 5 0 (by omega) (by omega)) (h4 := (fourP_0 hL).symm)
set_option maxHeartbeats 4000000 in
set_option maxRecDepth 100000 in
theorem c_X10_append {G : GC} {w : Lay} {σ : Mem} {Q : Lay → Option Value → Mem → Prop} {Qx : Lay → String → Mem → Prop} (hM : LM w) {a b c d e : Int32} {L : Nat} (hL : rd σ 13 0 6 = nI L) (hL5 : L ≤ 500) (hq0 : (aAp L).1 = 0 → Q w (some (.int (aAp L).2)) (appM (thr σ 0) L a b c d e)) (hq1 : ∀ c, c ≠ 0 → (aAp L).1 = c → Q w (some (.int (nI 0))) (thr σ c)) : MX10_append G w σ [.ref (w.2.1 13 0), .int a, .int b, .int c, .int d, .int e] Q Qx := by
  refine mt_start (by decide) rfl (Nat.le_of_ble_eq_true rfl) (fun E hC hR hN => ?_)
  show J G E w 0 0 0 [some (.ref (w.2.1 13 0)), some (.int a), some (.int b), some (.int c), some (.int d), some (.int e)] [] σ
  refine J_aload_n hC dX10_append_0 rfl rfl ?_
  refine J_iconst (v := nI 0) hC dX10_append_1 (by decide) ?_
  refine pX10_62 hC hM dX10_append_2 ?_
  obtain ⟨τ, hτ, hA⟩ : ∃ τ, thr σ 0 = τ ∧ rd σ 13 1 = rd τ 13 1 := ⟨_, rfl, rd_thr1.symm⟩
  have h9 : ∀ c, thr τ c = thr σ c := fun c => by rw [← hτ]; exact thr_thr
  show J G E w 0 0 5 _ _ (thr σ 0)
  rw [hτ]
  rw [← (show rd (thr σ 0) 13 0 6 = rd σ 13 0 6 from rd_wr_j (by decide)), hτ] at hL
  refine J_aload_n hC dX10_append_5 rfl rfl ?_
  refine gX10_179 hC hM dX10_append_6 ?_
  refine J_top hL ?_
  refine J_bipush (v := nI 20) hC dX10_append_9 (by decide) ?_
  refine J_iadd_n hC dX10_append_11 ?_
  refine J_sipush (v := nI 500) hC dX10_append_12 (by decide) ?_
  refine J_icmp_le_n hC (by omega) (by decide) (tgt := 24) dX10_append_15 rfl (fun hb => ?_) (fun hb => ?_)
  · have gb : L + 20 ≤ 500 := hb
    refine J_aload_n hC dX10_append_24 rfl rfl ?_
    refine J_iload_n hC dX10_append_25 rfl rfl ?_
    refine iX10_311 hC hM rfl ⟨by decide, by decide⟩ ⟨by decide, by decide⟩ (Nat.le_of_ble_eq_true rfl) dX10_append_26 ?_
    refine c_X10_four hM hL (by omega) ?_
    dsimp only [Option.toList_some, Option.toList_none, List.cons_append, List.nil_append]
    refine J_aload_n hC dX10_append_29 rfl rfl ?_
    refine J_iload_n hC dX10_append_30 rfl rfl ?_
    refine iX10_311 hC hM rfl ⟨by decide, by decide⟩ ⟨by decide, by decide⟩ (Nat.le_of_ble_eq_true rfl) dX10_append_31 ?_
    refine c_X10_four hM fourP_6 (by omega) ?_
    dsimp only [Option.toList_some, Option.toList_none, List.cons_append, List.nil_append]
    refine J_aload_n hC dX10_append_34 rfl rfl ?_
    refine J_iload_n hC dX10_append_35 rfl rfl ?_
    refine iX10_311 hC hM rfl ⟨by decide, by decide⟩ ⟨by decide, by decide⟩ (Nat.le_of_ble_eq_true rfl) dX10_append_36 ?_
    refine c_X10_four hM fourP_6 (by omega) ?_
    dsimp only [Option.toList_some, Option.toList_none, List.cons_append, List.nil_append]
    refine J_aload_n hC dX10_append_39 rfl rfl ?_
    refine J_iload hC dX10_append_40 rfl ?_
    refine iX10_311 hC hM rfl ⟨by decide, by decide⟩ ⟨by decide, by decide⟩ (Nat.le_of_ble_eq_true rfl) dX10_append_42 ?_
    refine c_X10_four hM fourP_6 (by omega) ?_
    dsimp only [Option.toList_some, Option.toList_none, List.cons_append, List.nil_append]
    refine J_aload_n hC dX10_append_45 rfl rfl ?_
    refine J_iload hC dX10_append_46 rfl ?_
    refine iX10_311 hC hM rfl ⟨by decide, by decide⟩ ⟨by decide, by decide⟩ (Nat.le_of_ble_eq_true rfl) dX10_append_48 ?_
    refine c_X10_four hM fourP_6 (by omega) ?_
    dsimp only [Option.toList_some, Option.toList_none, List.cons_append, List.nil_append]
    refine J_aload_n hC dX10_append_51 rfl rfl ?_
    refine gX10_179 hC hM dX10_append_52 ?_
    refine J_top fourP_6 ?_
    refine J_ireturn hC hR dX10_append_55 (by decide) (by decide) ?_
    unfold aAp at hq0
    rw [chk_t gb] at hq0
    have q := hq0 rfl
    unfold appM at q
    rw [hτ] at q
    exact q
  · have gb : ¬ L + 20 ≤ 500 := by omega
    refine J_aload_n hC dX10_append_18 rfl rfl ?_
    refine J_iconst (v := nI 1) hC dX10_append_19 (by decide) ?_
    refine iX10_308 hC hM rfl ⟨by decide, by decide⟩ ⟨by decide, by decide⟩ (Nat.le_of_ble_eq_true rfl) dX10_append_20 ?_
    refine c_X10_fail hM ?_
    dsimp only [Option.toList_some, Option.toList_none, List.cons_append, List.nil_append]
    refine J_ireturn hC hR dX10_append_23 (by decide) (by decide) ?_
    unfold aAp at hq1
    rw [chk_f gb] at hq1
    rw [h9]
    exact hq1 _ (by decide) rfl
set_option maxHeartbeats 4000000 in
set_option maxRecDepth 100000 in
theorem c_X10_truncate {G : GC} {w : Lay} {σ : Mem} {Q : Lay → Option Value → Mem → Prop} {Qx : Lay → String → Mem → Prop} (hM : LM w) {s : Int32} {L : Nat} (hL : rd σ 13 0 6 = nI L) (hL5 : L ≤ 500) (hq0 : (aTr L s).1 = 0 → Q w (some (.int (aTr L s).2)) (wr (thr σ 0) 13 0 6 s)) (hq1 : ∀ c, c ≠ 0 → (aTr L s).1 = c → Q w (some (.int (nI 0))) (thr σ c)) : MX10_truncate G w σ [.ref (w.2.1 13 0), .int s] Q Qx := by
  refine mt_start (by decide) rfl (Nat.le_of_ble_eq_true rfl) (fun E hC hR hN => ?_)
  show J G E w 0 0 0 [some (.ref (w.2.1 13 0)), some (.int s)] [] σ
  refine J_aload_n hC dX10_truncate_0 rfl rfl ?_
  refine J_iconst (v := nI 0) hC dX10_truncate_1 (by decide) ?_
  refine pX10_62 hC hM dX10_truncate_2 ?_
  obtain ⟨τ, hτ, hA⟩ : ∃ τ, thr σ 0 = τ ∧ rd σ 13 1 = rd τ 13 1 := ⟨_, rfl, rd_thr1.symm⟩
  have h9 : ∀ c, thr τ c = thr σ c := fun c => by rw [← hτ]; exact thr_thr
  show J G E w 0 0 5 _ _ (thr σ 0)
  rw [hτ]
  rw [← (show rd (thr σ 0) 13 0 6 = rd σ 13 0 6 from rd_wr_j (by decide)), hτ] at hL
  refine J_iload_n hC dX10_truncate_5 rfl rfl ?_
  refine J_iconst (v := nI 0) hC dX10_truncate_6 (by decide) ?_
  refine J_aload_n hC dX10_truncate_7 rfl rfl ?_
  refine gX10_179 hC hM dX10_truncate_8 ?_
  refine J_top hL ?_
  refine iX10_75 hC rfl ⟨by decide, by decide⟩ ⟨by decide, by decide⟩ (Nat.le_of_ble_eq_true rfl) dX10_truncate_11 ?_
  refine k_in (by omega) (by decide) (fun hs => ?_) (fun hs => ?_)
  · dsimp only [Option.toList_some, Option.toList_none, List.cons_append, List.nil_append]
    refine J_if_ne_n hC (by decide) (tgt := 23) dX10_truncate_14 rfl (fun _ => ?_) (fun hf => absurd hf (by omega))
    refine J_aload_n hC dX10_truncate_23 rfl rfl ?_
    refine J_iload_n hC dX10_truncate_24 rfl rfl ?_
    refine pX10_179 hC hM dX10_truncate_25 ?_
    refine J_aload_n hC dX10_truncate_28 rfl rfl ?_
    refine gX10_179 hC hM dX10_truncate_29 ?_
    refine J_top (show _ = s from rd_wr_s) ?_
    refine J_ireturn hC hR dX10_truncate_32 (by decide) (by decide) ?_
    unfold aTr at hq0
    rw [chk_t hs] at hq0
    have q := hq0 rfl
    rw [hτ] at q
    exact q
  · dsimp only [Option.toList_some, Option.toList_none, List.cons_append, List.nil_append]
    refine J_if_ne_n hC (by decide) (tgt := 23) dX10_truncate_14 rfl (fun hf => absurd hf (by omega)) (fun _ => ?_)
    refine J_aload_n hC dX10_truncate_17 rfl rfl ?_
    refine J_iconst (v := nI 1) hC dX10_truncate_18 (by decide) ?_
    refine iX10_308 hC hM rfl ⟨by decide, by decide⟩ ⟨by decide, by decide⟩ (Nat.le_of_ble_eq_true rfl) dX10_truncate_19 ?_
    refine c_X10_fail hM ?_
    dsimp only [Option.toList_some, Option.toList_none, List.cons_append, List.nil_append]
    refine J_ireturn hC hR dX10_truncate_22 (by decide) (by decide) ?_
    unfold aTr at hq1
    rw [chk_f hs] at hq1
    rw [h9]
    exact hq1 _ (by decide) rfl
set_option maxHeartbeats 4000000 in
set_option maxRecDepth 100000 in
theorem c_X10_outputByte {G : GC} {w : Lay} {σ : Mem} {Q : Lay → Option Value → Mem → Prop} {Qx : Lay → String → Mem → Prop} (hM : LM w) {s : Int32} {O : Nat} (hL : rd σ 13 0 11 = nI O) (hO : O ≤ 420) (hq : Q w (some (.int (aOB O (rd σ 13 5) s))) (thr σ 0)) : MX10_outputByte G w σ [.ref (w.2.1 13 0), .int s] Q Qx := by
  refine mt_start (by decide) rfl (Nat.le_of_ble_eq_true rfl) (fun E hC hR hN => ?_)
  show J G E w 0 0 0 [some (.ref (w.2.1 13 0)), some (.int s)] [] σ
  refine J_aload_n hC dX10_outputByte_0 rfl rfl ?_
  refine J_iconst (v := nI 0) hC dX10_outputByte_1 (by decide) ?_
  refine pX10_62 hC hM dX10_outputByte_2 ?_
  have hA5 : rd (thr σ 0) 13 5 = rd σ 13 5 := rd_wr_cell (by decide)
  obtain ⟨τ, hτ, hA⟩ : ∃ τ, thr σ 0 = τ ∧ rd σ 13 1 = rd τ 13 1 := ⟨_, rfl, rd_thr1.symm⟩
  have h9 : ∀ c, thr τ c = thr σ c := fun c => by rw [← hτ]; exact thr_thr
  show J G E w 0 0 5 _ _ (thr σ 0)
  rw [hτ]
  rw [hτ] at hA5
  rw [← hA5] at hq
  rw [← (show rd (thr σ 0) 13 0 11 = rd σ 13 0 11 from rd_wr_j (by decide)), hτ] at hL
  refine J_iload_n hC dX10_outputByte_5 rfl rfl ?_
  refine J_iconst (v := nI 0) hC dX10_outputByte_6 (by decide) ?_
  refine J_aload_n hC dX10_outputByte_7 rfl rfl ?_
  refine gX10_353 hC hM dX10_outputByte_8 ?_
  refine J_top hL ?_
  refine J_iconst (v := nI 1) hC dX10_outputByte_11 (by decide) ?_
  refine J_isub_z hC (nI_iI _) (nI_iI _) dX10_outputByte_12 ?_
  refine iX10_75 hC rfl ⟨by decide, by decide⟩ ⟨by decide, by decide⟩ (Nat.le_of_ble_eq_true rfl) dX10_outputByte_13 ?_
  refine c_X10_in (v := s.toInt) (a := 0) (b := (O : Int) - 1) rfl rfl (tI_z (by omega)) (fun ho => ?_) (fun ho => ?_)
  · dsimp only [Option.toList_some, Option.toList_none, List.cons_append, List.nil_append]
    have go : ∃ k : Nat, s = nI k ∧ k < O := by
      obtain ⟨k, h1, h2⟩ := nI_of (x := s) (by rw [Int32.lt_iff_toInt_lt]; show ¬ s.toInt < 0; omega)
      subst h2
      rw [tI_n h1] at ho
      exact ⟨k, rfl, by omega⟩
    obtain ⟨k0, e0, l0⟩ := go
    subst e0
    have go : ∃ k : Nat, nI k0 = nI k ∧ k < O := ⟨k0, rfl, l0⟩
    refine J_if_eq_n hC (by decide) (tgt := 28) dX10_outputByte_16 rfl (fun hf => absurd hf (by omega)) (fun _ => ?_)
    refine J_aload_n hC dX10_outputByte_19 rfl rfl ?_
    refine gX10_28 hC hM dX10_outputByte_20 ?_
    refine J_iload_n hC dX10_outputByte_23 rfl rfl ?_
    refine J_baload hC (hM.1 5 (by decide)) rfl rfl (by omega) (by decide) dX10_outputByte_24 ?_
    refine J_goto (tgt := 29) hC dX10_outputByte_25 rfl ?_
    refine J_ireturn hC hR dX10_outputByte_29 (by decide) (by decide) ?_
    rw [aOB_t l0 (by omega), hτ] at hq
    exact hq
  · dsimp only [Option.toList_some, Option.toList_none, List.cons_append, List.nil_append]
    have go : ¬ ∃ k : Nat, s = nI k ∧ k < O := by
      rintro ⟨k, rfl, hk⟩
      rw [tI_n (by omega)] at ho
      omega
    refine J_if_eq_n hC (by decide) (tgt := 28) dX10_outputByte_16 rfl (fun _ => ?_) (fun hf => absurd hf (by omega))
    refine J_iconst (v := -1) hC dX10_outputByte_28 (by decide) ?_
    refine J_ireturn hC hR dX10_outputByte_29 (by decide) (by decide) ?_
    rw [aOB_f go, hτ] at hq
    exact hq
