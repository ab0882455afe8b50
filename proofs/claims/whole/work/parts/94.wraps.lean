abbrev rmL_append : Room := { frames := 7, cells := 1, slots := 6, locals := 115 }
abbrev ML_append (G : GC) (w : Lay) (σ : Mem) (As : List Value) (Q : Lay → Option Value → Mem → Prop) (Qx : Lay → String → Mem → Prop) : Prop := MT G yL_append (cww yL_append cL_append 8 (some .int) [(0, 16, 19, 13)]) rmL_append 1 6 w σ As Q Qx
set_option maxHeartbeats 4000000 in
set_option maxRecDepth 100000 in
theorem c_L_append {G : GC} {w : Lay} {σ : Mem} {Q : Lay → Option Value → Mem → Prop} {Qx : Lay → String → Mem → Prop} (hK : LK w) (hM : LM w) (hNB : ∀ q ∈ w.1, q.1 = 13 → q.2 < 10) {p0 p1 p2 p3 p4 : Int32} {a : Nat × Int32} {P PX : Mem → Prop} (hm : ∀ (Q1 : Lay → Option Value → Mem → Prop) (Qx1 : Lay → String → Mem → Prop), (a.1 = 0 → ∀ σ', P σ' → Q1 w (some (.int a.2)) σ') → (a.1 = 1 → ∀ σ', PX σ' → Qx1 w "java/lang/IllegalStateException" σ') → MX9_append G w σ [.ref (w.2.1 12 0), .int p0, .int p1, .int p2, .int p3, .int p4] Q1 Qx1)(hq : ∀ σ', LR P PX a σ' → Q w (some (.int (nI a.1))) σ') : ML_append G w σ [.ref (w.2.1 12 0), .int p0, .int p1, .int p2, .int p3, .int p4, .ref (w.2.1 13 9)] Q Qx := by
  refine mt_startW (by decide) rfl (Nat.le_of_ble_eq_true rfl) (fun E hC hR hT => ?_)
  show J G E w 0 0 0 [some (.ref (w.2.1 12 0)), some (.int p0), some (.int p1), some (.int p2), some (.int p3), some (.int p4), some (.ref (w.2.1 13 9)), none] [] σ
  refine J_aload hC dL_append_0 rfl ?_
  refine J_iconst (v := nI 0) hC dL_append_2 (by decide) ?_
  refine J_aload_n hC dL_append_3 rfl rfl ?_
  refine J_iload_n hC dL_append_4 rfl rfl ?_
  refine J_iload_n hC dL_append_5 rfl rfl ?_
  refine J_iload_n hC dL_append_6 rfl rfl ?_
  refine J_iload hC dL_append_7 rfl ?_
  refine J_iload hC dL_append_9 rfl ?_
  refine iL_7 hC hK rfl ⟨by decide, by decide⟩ ⟨by decide, by decide⟩ (Nat.le_of_ble_eq_true rfl) dL_append_11 ?_
  refine hm _ _ (fun e σ1 h1 => ?_) (fun e σ1 h1 => ?_)
  · dsimp only [Option.toList_some, Option.toList_none, List.cons_append, List.nil_append]
    refine J_i2l hC dL_append_14 ?_
    refine J_lastore1 hC hM hNB dL_append_15 ?_
    refine J_goto (tgt := 23) hC dL_append_16 rfl ?_
    refine J_iconst (v := nI 0) hC dL_append_23 (by decide) ?_
    refine J_ireturn hC hR dL_append_24 (by decide) (by decide) ?_
    have g := hq _ (Or.inl ⟨e, σ1, h1, rfl⟩)
    rw [e] at g
    exact g
  · refine JX_catch (hpre := []) (hsuf := []) hC hT rfl (fun q hq9 => absurd hq9 List.not_mem_nil) (by decide) (by decide) q3_47 (by decide +kernel) (fun q => ?_)
    refine J_astore hC dL_append_19 (Nat.le_of_ble_eq_true rfl) rfl ?_
    dsimp only [List.set]
    refine J_iconst (v := nI 1) hC dL_append_21 (by decide) ?_
    refine J_ireturn hC hR dL_append_22 (by decide) (by decide) ?_
    have g := hq _ (Or.inr ⟨⟨by omega, by omega⟩, h1⟩)
    rw [e] at g
    exact g
abbrev rmL_truncate : Room := { frames := 8, cells := 1, slots := 6, locals := 133 }
abbrev ML_truncate (G : GC) (w : Lay) (σ : Mem) (As : List Value) (Q : Lay → Option Value → Mem → Prop) (Qx : Lay → String → Mem → Prop) : Prop := MT G yL_truncate (cww yL_truncate cL_truncate 4 (some .int) [(0, 9, 12, 19)]) rmL_truncate 1 6 w σ As Q Qx
set_option maxHeartbeats 4000000 in
set_option maxRecDepth 100000 in
theorem c_L_truncate {G : GC} {w : Lay} {σ : Mem} {Q : Lay → Option Value → Mem → Prop} {Qx : Lay → String → Mem → Prop} (hK : LK w) (hM : LM w) (hNB : ∀ q ∈ w.1, q.1 = 13 → q.2 < 10) {p0 : Int32} {a : Nat × Int32} {P PX : Mem → Prop} (hm : ∀ (Q1 : Lay → Option Value → Mem → Prop) (Qx1 : Lay → String → Mem → Prop), (a.1 = 0 → ∀ σ', P σ' → Q1 w (some (.int a.2)) σ') → (a.1 = 1 → ∀ σ', PX σ' → Qx1 w "java/lang/IllegalArgumentException" σ') → MX9_truncate G w σ [.ref (w.2.1 12 0), .int p0] Q1 Qx1)(hq : ∀ σ', LR P PX a σ' → Q w (some (.int (nI a.1))) σ') : ML_truncate G w σ [.ref (w.2.1 12 0), .int p0, .ref (w.2.1 13 9)] Q Qx := by
  refine mt_startW (by decide) rfl (Nat.le_of_ble_eq_true rfl) (fun E hC hR hT => ?_)
  show J G E w 0 0 0 [some (.ref (w.2.1 12 0)), some (.int p0), some (.ref (w.2.1 13 9)), none] [] σ
  refine J_aload_n hC dL_truncate_0 rfl rfl ?_
  refine J_iconst (v := nI 0) hC dL_truncate_1 (by decide) ?_
  refine J_aload_n hC dL_truncate_2 rfl rfl ?_
  refine J_iload_n hC dL_truncate_3 rfl rfl ?_
  refine iL_15 hC hK rfl ⟨by decide, by decide⟩ ⟨by decide, by decide⟩ (Nat.le_of_ble_eq_true rfl) dL_truncate_4 ?_
  refine hm _ _ (fun e σ1 h1 => ?_) (fun e σ1 h1 => ?_)
  · dsimp only [Option.toList_some, Option.toList_none, List.cons_append, List.nil_append]
    refine J_i2l hC dL_truncate_7 ?_
    refine J_lastore1 hC hM hNB dL_truncate_8 ?_
    refine J_goto (tgt := 15) hC dL_truncate_9 rfl ?_
    refine J_iconst (v := nI 0) hC dL_truncate_15 (by decide) ?_
    refine J_ireturn hC hR dL_truncate_16 (by decide) (by decide) ?_
    have g := hq _ (Or.inl ⟨e, σ1, h1, rfl⟩)
    rw [e] at g
    exact g
  · refine JX_catch (hpre := []) (hsuf := []) hC hT rfl (fun q hq9 => absurd hq9 List.not_mem_nil) (by decide) (by decide) q3_132 (by decide +kernel) (fun q => ?_)
    refine J_astore_n hC dL_truncate_12 rfl (Nat.le_of_ble_eq_true rfl) rfl ?_
    dsimp only [List.set]
    refine J_iconst (v := nI 1) hC dL_truncate_13 (by decide) ?_
    refine J_ireturn hC hR dL_truncate_14 (by decide) (by decide) ?_
    have g := hq _ (Or.inr ⟨⟨by omega, by omega⟩, h1⟩)
    rw [e] at g
    exact g
abbrev rmL_loadSetup : Room := { frames := 10, cells := 1, slots := 6, locals := 218 }
abbrev ML_loadSetup (G : GC) (w : Lay) (σ : Mem) (As : List Value) (Q : Lay → Option Value → Mem → Prop) (Qx : Lay → String → Mem → Prop) : Prop := MT G yL_loadSetup (cww yL_loadSetup cL_loadSetup 3 (some .int) [(0, 8, 11, 19)]) rmL_loadSetup 1 6 w σ As Q Qx
set_option maxHeartbeats 4000000 in
set_option maxRecDepth 100000 in
theorem c_L_loadSetup {G : GC} {w : Lay} {σ : Mem} {Q : Lay → Option Value → Mem → Prop} {Qx : Lay → String → Mem → Prop} (hK : LK w) (hM : LM w) (hNB : ∀ q ∈ w.1, q.1 = 13 → q.2 < 10) {a : Nat × Int32} {P PX : Mem → Prop} (hm : ∀ (Q1 : Lay → Option Value → Mem → Prop) (Qx1 : Lay → String → Mem → Prop), (a.1 = 0 → ∀ σ', P σ' → Q1 w (some (.int a.2)) σ') → (a.1 = 1 → ∀ σ', PX σ' → Qx1 w "java/lang/IllegalArgumentException" σ') → MX9_loadSetup G w σ [.ref (w.2.1 12 0)] Q1 Qx1)(hq : ∀ σ', LR P PX a σ' → Q w (some (.int (nI a.1))) σ') : ML_loadSetup G w σ [.ref (w.2.1 12 0), .ref (w.2.1 13 9)] Q Qx := by
  refine mt_startW (by decide) rfl (Nat.le_of_ble_eq_true rfl) (fun E hC hR hT => ?_)
  show J G E w 0 0 0 [some (.ref (w.2.1 12 0)), some (.ref (w.2.1 13 9)), none] [] σ
  refine J_aload_n hC dL_loadSetup_0 rfl rfl ?_
  refine J_iconst (v := nI 0) hC dL_loadSetup_1 (by decide) ?_
  refine J_aload_n hC dL_loadSetup_2 rfl rfl ?_
  refine iL_21 hC hK rfl ⟨by decide, by decide⟩ ⟨by decide, by decide⟩ (Nat.le_of_ble_eq_true rfl) dL_loadSetup_3 ?_
  refine hm _ _ (fun e σ1 h1 => ?_) (fun e σ1 h1 => ?_)
  · dsimp only [Option.toList_some, Option.toList_none, List.cons_append, List.nil_append]
    refine J_i2l hC dL_loadSetup_6 ?_
    refine J_lastore1 hC hM hNB dL_loadSetup_7 ?_
    refine J_goto (tgt := 14) hC dL_loadSetup_8 rfl ?_
    refine J_iconst (v := nI 0) hC dL_loadSetup_14 (by decide) ?_
    refine J_ireturn hC hR dL_loadSetup_15 (by decide) (by decide) ?_
    have g := hq _ (Or.inl ⟨e, σ1, h1, rfl⟩)
    rw [e] at g
    exact g
  · refine JX_catch (hpre := []) (hsuf := []) hC hT rfl (fun q hq9 => absurd hq9 List.not_mem_nil) (by decide) (by decide) q3_132 (by decide +kernel) (fun q => ?_)
    refine J_astore_n hC dL_loadSetup_11 rfl (Nat.le_of_ble_eq_true rfl) rfl ?_
    dsimp only [List.set]
    refine J_iconst (v := nI 1) hC dL_loadSetup_12 (by decide) ?_
    refine J_ireturn hC hR dL_loadSetup_13 (by decide) (by decide) ?_
    have g := hq _ (Or.inr ⟨⟨by omega, by omega⟩, h1⟩)
    rw [e] at g
    exact g
abbrev rmL_runScript : Room := { frames := 10, cells := 1, slots := 6, locals := 212 }
abbrev ML_runScript (G : GC) (w : Lay) (σ : Mem) (As : List Value) (Q : Lay → Option Value → Mem → Prop) (Qx : Lay → String → Mem → Prop) : Prop := MT G yL_runScript (cww yL_runScript cL_runScript 3 (some .int) [(0, 8, 11, 19)]) rmL_runScript 1 6 w σ As Q Qx
set_option maxHeartbeats 4000000 in
set_option maxRecDepth 100000 in
theorem c_L_runScript {G : GC} {w : Lay} {σ : Mem} {Q : Lay → Option Value → Mem → Prop} {Qx : Lay → String → Mem → Prop} (hK : LK w) (hM : LM w) (hNB : ∀ q ∈ w.1, q.1 = 13 → q.2 < 10) {a : Nat × Int32} {P PX : Mem → Prop} (hm : ∀ (Q1 : Lay → Option Value → Mem → Prop) (Qx1 : Lay → String → Mem → Prop), (a.1 = 0 → ∀ σ', P σ' → Q1 w (some (.int a.2)) σ') → (a.1 = 1 → ∀ σ', PX σ' → Qx1 w "java/lang/IllegalArgumentException" σ') → MX9_runScript G w σ [.ref (w.2.1 12 0)] Q1 Qx1)(hq : ∀ σ', LR P PX a σ' → Q w (some (.int (nI a.1))) σ') : ML_runScript G w σ [.ref (w.2.1 12 0), .ref (w.2.1 13 9)] Q Qx := by
  refine mt_startW (by decide) rfl (Nat.le_of_ble_eq_true rfl) (fun E hC hR hT => ?_)
  show J G E w 0 0 0 [some (.ref (w.2.1 12 0)), some (.ref (w.2.1 13 9)), none] [] σ
  refine J_aload_n hC dL_runScript_0 rfl rfl ?_
  refine J_iconst (v := nI 0) hC dL_runScript_1 (by decide) ?_
  refine J_aload_n hC dL_runScript_2 rfl rfl ?_
  refine iL_25 hC hK rfl ⟨by decide, by decide⟩ ⟨by decide, by decide⟩ (Nat.le_of_ble_eq_true rfl) dL_runScript_3 ?_
  refine hm _ _ (fun e σ1 h1 => ?_) (fun e σ1 h1 => ?_)
  · dsimp only [Option.toList_some, Option.toList_none, List.cons_append, List.nil_append]
    refine J_i2l hC dL_runScript_6 ?_
    refine J_lastore1 hC hM hNB dL_runScript_7 ?_
    refine J_goto (tgt := 14) hC dL_runScript_8 rfl ?_
    refine J_iconst (v := nI 0) hC dL_runScript_14 (by decide) ?_
    refine J_ireturn hC hR dL_runScript_15 (by decide) (by decide) ?_
    have g := hq _ (Or.inl ⟨e, σ1, h1, rfl⟩)
    rw [e] at g
    exact g
  · refine JX_catch (hpre := []) (hsuf := []) hC hT rfl (fun q hq9 => absurd hq9 List.not_mem_nil) (by decide) (by decide) q3_132 (by decide +kernel) (fun q => ?_)
    refine J_astore_n hC dL_runScript_11 rfl (Nat.le_of_ble_eq_true rfl) rfl ?_
    dsimp only [List.set]
    refine J_iconst (v := nI 1) hC dL_runScript_12 (by decide) ?_
    refine J_ireturn hC hR dL_runScript_13 (by decide) (by decide) ?_
    have g := hq _ (Or.inr ⟨⟨by omega, by omega⟩, h1⟩)
    rw [e] at g
    exact g
abbrev rmL_addKite : Room := { frames := 8, cells := 7, slots := 42, locals := 138 }
abbrev ML_addKite (G : GC) (w : Lay) (σ : Mem) (As : List Value) (Q : Lay → Option Value → Mem → Prop) (Qx : Lay → String → Mem → Prop) : Prop := MT G yL_addKite (cww yL_addKite cL_addKite 9 (some .int) [(0, 18, 21, 32), (0, 18, 25, 19), (0, 18, 29, 13)]) rmL_addKite 7 42 w σ As Q Qx
set_option maxHeartbeats 4000000 in
set_option maxRecDepth 100000 in
theorem c_L_addKite {G : GC} {w : Lay} {σ : Mem} {Q : Lay → Option Value → Mem → Prop} {Qx : Lay → String → Mem → Prop} (hK : LK w) (hM : LM w) (hNB : ∀ q ∈ w.1, q.1 = 13 → q.2 < 10) {p0 p1 p2 p3 p4 p5 : Int32} {a : Nat × Int32} {P PX : Mem → Prop} (hm : ∀ (Q1 : Lay → Option Value → Mem → Prop) (Qx1 : Lay → String → Mem → Prop), (a.1 = 0 → ∀ σ', P σ' → Q1 w (some (.int a.2)) σ') → (a.1 = 1 → ∀ σ', PX σ' → Qx1 w "java/lang/IndexOutOfBoundsException" σ') → (a.1 = 2 → ∀ σ', PX σ' → Qx1 w "java/lang/IllegalArgumentException" σ') → (a.1 = 3 → ∀ σ', PX σ' → Qx1 w "java/lang/IllegalStateException" σ') → MX9_addKite G w σ [.ref (w.2.1 12 0), .int p0, .int p1, .int p2, .int p3, .int p4, .int p5] Q1 Qx1)(hq : ∀ σ', LR P PX a σ' → Q w (some (.int (nI a.1))) σ') : ML_addKite G w σ [.ref (w.2.1 12 0), .int p0, .int p1, .int p2, .int p3, .int p4, .int p5, .ref (w.2.1 13 9)] Q Qx := by
  refine mt_startW (by decide) rfl (Nat.le_of_ble_eq_true rfl) (fun E hC hR hT => ?_)
  show J G E w 0 0 0 [some (.ref (w.2.1 12 0)), some (.int p0), some (.int p1), some (.int p2), some (.int p3), some (.int p4), some (.int p5), some (.ref (w.2.1 13 9)), none] [] σ
  refine J_aload hC dL_addKite_0 rfl ?_
  refine J_iconst (v := nI 0) hC dL_addKite_2 (by decide) ?_
  refine J_aload_n hC dL_addKite_3 rfl rfl ?_
  refine J_iload_n hC dL_addKite_4 rfl rfl ?_
  refine J_iload_n hC dL_addKite_5 rfl rfl ?_
  refine J_iload_n hC dL_addKite_6 rfl rfl ?_
  refine J_iload hC dL_addKite_7 rfl ?_
  refine J_iload hC dL_addKite_9 rfl ?_
  refine J_iload hC dL_addKite_11 rfl ?_
  refine iL_28 hC hK rfl ⟨by decide, by decide⟩ ⟨by decide, by decide⟩ (Nat.le_of_ble_eq_true rfl) dL_addKite_13 ?_
  refine hm _ _ (fun e σ1 h1 => ?_) (fun e σ1 h1 => ?_) (fun e σ1 h1 => ?_) (fun e σ1 h1 => ?_)
  · dsimp only [Option.toList_some, Option.toList_none, List.cons_append, List.nil_append]
    refine J_i2l hC dL_addKite_16 ?_
    refine J_lastore1 hC hM hNB dL_addKite_17 ?_
    refine J_goto (tgt := 33) hC dL_addKite_18 rfl ?_
    refine J_iconst (v := nI 0) hC dL_addKite_33 (by decide) ?_
    refine J_ireturn hC hR dL_addKite_34 (by decide) (by decide) ?_
    have g := hq _ (Or.inl ⟨e, σ1, h1, rfl⟩)
    rw [e] at g
    exact g
  · refine JX_catch (hpre := []) (hsuf := [(0, 18, 25, 19), (0, 18, 29, 13)]) hC hT rfl (fun q hq9 => absurd hq9 List.not_mem_nil) (by decide) (by decide) q5_26 (by decide +kernel) (fun q => ?_)
    refine J_astore hC dL_addKite_21 (Nat.le_of_ble_eq_true rfl) rfl ?_
    dsimp only [List.set]
    refine J_iconst (v := nI 1) hC dL_addKite_23 (by decide) ?_
    refine J_ireturn hC hR dL_addKite_24 (by decide) (by decide) ?_
    have g := hq _ (Or.inr ⟨⟨by omega, by omega⟩, h1⟩)
    rw [e] at g
    exact g
  · refine JX_catch (hpre := [(0, 18, 21, 32)]) (hsuf := [(0, 18, 29, 13)]) hC hT rfl (by
      intro q hq9
      simp only [List.mem_cons, List.not_mem_nil, or_false] at hq9
      rcases hq9 with rfl
      · exact ⟨by decide, "java/lang/IndexOutOfBoundsException", q5_26, by decide⟩) (by decide) (by decide) q3_132 (by decide +kernel) (fun q => ?_)
    refine J_astore hC dL_addKite_25 (Nat.le_of_ble_eq_true rfl) rfl ?_
    dsimp only [List.set]
    refine J_iconst (v := nI 2) hC dL_addKite_27 (by decide) ?_
    refine J_ireturn hC hR dL_addKite_28 (by decide) (by decide) ?_
    have g := hq _ (Or.inr ⟨⟨by omega, by omega⟩, h1⟩)
    rw [e] at g
    exact g
  · refine JX_catch (hpre := [(0, 18, 21, 32), (0, 18, 25, 19)]) (hsuf := []) hC hT rfl (by
      intro q hq9
      simp only [List.mem_cons, List.not_mem_nil, or_false] at hq9
      rcases hq9 with rfl | rfl
      · exact ⟨by decide, "java/lang/IndexOutOfBoundsException", q5_26, by decide⟩
      · exact ⟨by decide, "java/lang/IllegalArgumentException", q3_132, by decide⟩) (by decide) (by decide) q3_47 (by decide +kernel) (fun q => ?_)
    refine J_astore hC dL_addKite_29 (Nat.le_of_ble_eq_true rfl) rfl ?_
    dsimp only [List.set]
    refine J_iconst (v := nI 3) hC dL_addKite_31 (by decide) ?_
    refine J_ireturn hC hR dL_addKite_32 (by decide) (by decide) ?_
    have g := hq _ (Or.inr ⟨⟨by omega, by omega⟩, h1⟩)
    rw [e] at g
    exact g
abbrev rmL_launch : Room := { frames := 8, cells := 2, slots := 12, locals := 132 }
abbrev ML_launch (G : GC) (w : Lay) (σ : Mem) (As : List Value) (Q : Lay → Option Value → Mem → Prop) (Qx : Lay → String → Mem → Prop) : Prop := MT G yL_launch (cww yL_launch cL_launch 4 (some .int) [(0, 9, 12, 32), (0, 9, 15, 13)]) rmL_launch 2 12 w σ As Q Qx
set_option maxHeartbeats 4000000 in
set_option maxRecDepth 100000 in
theorem c_L_launch {G : GC} {w : Lay} {σ : Mem} {Q : Lay → Option Value → Mem → Prop} {Qx : Lay → String → Mem → Prop} (hK : LK w) (hM : LM w) (hNB : ∀ q ∈ w.1, q.1 = 13 → q.2 < 10) {p0 : Int32} {a : Nat × Int32} {P PX : Mem → Prop} (hm : ∀ (Q1 : Lay → Option Value → Mem → Prop) (Qx1 : Lay → String → Mem → Prop), (a.1 = 0 → ∀ σ', P σ' → Q1 w (some (.int a.2)) σ') → (a.1 = 1 → ∀ σ', PX σ' → Qx1 w "java/lang/IndexOutOfBoundsException" σ') → (a.1 = 2 → ∀ σ', PX σ' → Qx1 w "java/lang/IllegalStateException" σ') → MX9_launch G w σ [.ref (w.2.1 12 0), .int p0] Q1 Qx1)(hq : ∀ σ', LR P PX a σ' → Q w (some (.int (nI a.1))) σ') : ML_launch G w σ [.ref (w.2.1 12 0), .int p0, .ref (w.2.1 13 9)] Q Qx := by
  refine mt_startW (by decide) rfl (Nat.le_of_ble_eq_true rfl) (fun E hC hR hT => ?_)
  show J G E w 0 0 0 [some (.ref (w.2.1 12 0)), some (.int p0), some (.ref (w.2.1 13 9)), none] [] σ
  refine J_aload_n hC dL_launch_0 rfl rfl ?_
  refine J_iconst (v := nI 0) hC dL_launch_1 (by decide) ?_
  refine J_aload_n hC dL_launch_2 rfl rfl ?_
  refine J_iload_n hC dL_launch_3 rfl rfl ?_
  refine iL_34 hC hK rfl ⟨by decide, by decide⟩ ⟨by decide, by decide⟩ (Nat.le_of_ble_eq_true rfl) dL_launch_4 ?_
  refine hm _ _ (fun e σ1 h1 => ?_) (fun e σ1 h1 => ?_) (fun e σ1 h1 => ?_)
  · dsimp only [Option.toList_some, Option.toList_none, List.cons_append, List.nil_append]
    refine J_i2l hC dL_launch_7 ?_
    refine J_lastore1 hC hM hNB dL_launch_8 ?_
    refine J_goto (tgt := 18) hC dL_launch_9 rfl ?_
    refine J_iconst (v := nI 0) hC dL_launch_18 (by decide) ?_
    refine J_ireturn hC hR dL_launch_19 (by decide) (by decide) ?_
    have g := hq _ (Or.inl ⟨e, σ1, h1, rfl⟩)
    rw [e] at g
    exact g
  · refine JX_catch (hpre := []) (hsuf := [(0, 9, 15, 13)]) hC hT rfl (fun q hq9 => absurd hq9 List.not_mem_nil) (by decide) (by decide) q5_26 (by decide +kernel) (fun q => ?_)
    refine J_astore_n hC dL_launch_12 rfl (Nat.le_of_ble_eq_true rfl) rfl ?_
    dsimp only [List.set]
    refine J_iconst (v := nI 1) hC dL_launch_13 (by decide) ?_
    refine J_ireturn hC hR dL_launch_14 (by decide) (by decide) ?_
    have g := hq _ (Or.inr ⟨⟨by omega, by omega⟩, h1⟩)
    rw [e] at g
    exact g
  · refine JX_catch (hpre := [(0, 9, 12, 32)]) (hsuf := []) hC hT rfl (by
      intro q hq9
      simp only [List.mem_cons, List.not_mem_nil, or_false] at hq9
      rcases hq9 with rfl
      · exact ⟨by decide, "java/lang/IndexOutOfBoundsException", q5_26, by decide⟩) (by decide) (by decide) q3_47 (by decide +kernel) (fun q => ?_)
    refine J_astore_n hC dL_launch_15 rfl (Nat.le_of_ble_eq_true rfl) rfl ?_
    dsimp only [List.set]
    refine J_iconst (v := nI 2) hC dL_launch_16 (by decide) ?_
    refine J_ireturn hC hR dL_launch_17 (by decide) (by decide) ?_
    have g := hq _ (Or.inr ⟨⟨by omega, by omega⟩, h1⟩)
    rw [e] at g
    exact g
abbrev rmL_land : Room := { frames := 8, cells := 2, slots := 12, locals := 133 }
abbrev ML_land (G : GC) (w : Lay) (σ : Mem) (As : List Value) (Q : Lay → Option Value → Mem → Prop) (Qx : Lay → String → Mem → Prop) : Prop := MT G yL_land (cww yL_land cL_land 4 (some .int) [(0, 9, 12, 32), (0, 9, 15, 13)]) rmL_land 2 12 w σ As Q Qx
set_option maxHeartbeats 4000000 in
set_option maxRecDepth 100000 in
theorem c_L_land {G : GC} {w : Lay} {σ : Mem} {Q : Lay → Option Value → Mem → Prop} {Qx : Lay → String → Mem → Prop} (hK : LK w) (hM : LM w) (hNB : ∀ q ∈ w.1, q.1 = 13 → q.2 < 10) {p0 : Int32} {a : Nat × Int32} {P PX : Mem → Prop} (hm : ∀ (Q1 : Lay → Option Value → Mem → Prop) (Qx1 : Lay → String → Mem → Prop), (a.1 = 0 → ∀ σ', P σ' → Q1 w (some (.int a.2)) σ') → (a.1 = 1 → ∀ σ', PX σ' → Qx1 w "java/lang/IndexOutOfBoundsException" σ') → (a.1 = 2 → ∀ σ', PX σ' → Qx1 w "java/lang/IllegalStateException" σ') → MX9_land G w σ [.ref (w.2.1 12 0), .int p0] Q1 Qx1)(hq : ∀ σ', LR P PX a σ' → Q w (some (.int (nI a.1))) σ') : ML_land G w σ [.ref (w.2.1 12 0), .int p0, .ref (w.2.1 13 9)] Q Qx := by
  refine mt_startW (by decide) rfl (Nat.le_of_ble_eq_true rfl) (fun E hC hR hT => ?_)
  show J G E w 0 0 0 [some (.ref (w.2.1 12 0)), some (.int p0), some (.ref (w.2.1 13 9)), none] [] σ
  refine J_aload_n hC dL_land_0 rfl rfl ?_
  refine J_iconst (v := nI 0) hC dL_land_1 (by decide) ?_
  refine J_aload_n hC dL_land_2 rfl rfl ?_
  refine J_iload_n hC dL_land_3 rfl rfl ?_
  refine iL_37 hC hK rfl ⟨by decide, by decide⟩ ⟨by decide, by decide⟩ (Nat.le_of_ble_eq_true rfl) dL_land_4 ?_
  refine hm _ _ (fun e σ1 h1 => ?_) (fun e σ1 h1 => ?_) (fun e σ1 h1 => ?_)
  · dsimp only [Option.toList_some, Option.toList_none, List.cons_append, List.nil_append]
    refine J_i2l hC dL_land_7 ?_
    refine J_lastore1 hC hM hNB dL_land_8 ?_
    refine J_goto (tgt := 18) hC dL_land_9 rfl ?_
    refine J_iconst (v := nI 0) hC dL_land_18 (by decide) ?_
    refine J_ireturn hC hR dL_land_19 (by decide) (by decide) ?_
    have g := hq _ (Or.inl ⟨e, σ1, h1, rfl⟩)
    rw [e] at g
    exact g
  · refine JX_catch (hpre := []) (hsuf := [(0, 9, 15, 13)]) hC hT rfl (fun q hq9 => absurd hq9 List.not_mem_nil) (by decide) (by decide) q5_26 (by decide +kernel) (fun q => ?_)
    refine J_astore_n hC dL_land_12 rfl (Nat.le_of_ble_eq_true rfl) rfl ?_
    dsimp only [List.set]
    refine J_iconst (v := nI 1) hC dL_land_13 (by decide) ?_
    refine J_ireturn hC hR dL_land_14 (by decide) (by decide) ?_
    have g := hq _ (Or.inr ⟨⟨by omega, by omega⟩, h1⟩)
    rw [e] at g
    exact g
  · refine JX_catch (hpre := [(0, 9, 12, 32)]) (hsuf := []) hC hT rfl (by
      intro q hq9
      simp only [List.mem_cons, List.not_mem_nil, or_false] at hq9
      rcases hq9 with rfl
      · exact ⟨by decide, "java/lang/IndexOutOfBoundsException", q5_26, by decide⟩) (by decide) (by decide) q3_47 (by decide +kernel) (fun q => ?_)
    refine J_astore_n hC dL_land_15 rfl (Nat.le_of_ble_eq_true rfl) rfl ?_
    dsimp only [List.set]
    refine J_iconst (v := nI 2) hC dL_land_16 (by decide) ?_
    refine J_ireturn hC hR dL_land_17 (by decide) (by decide) ?_
    have g := hq _ (Or.inr ⟨⟨by omega, by omega⟩, h1⟩)
    rw [e] at g
    exact g
abbrev rmL_passHours : Room := { frames := 8, cells := 1, slots := 6, locals := 162 }
abbrev ML_passHours (G : GC) (w : Lay) (σ : Mem) (As : List Value) (Q : Lay → Option Value → Mem → Prop) (Qx : Lay → String → Mem → Prop) : Prop := MT G yL_passHours (cww yL_passHours cL_passHours 4 (some .int) [(0, 9, 12, 19)]) rmL_passHours 1 6 w σ As Q Qx
set_option maxHeartbeats 4000000 in
set_option maxRecDepth 100000 in
theorem c_L_passHours {G : GC} {w : Lay} {σ : Mem} {Q : Lay → Option Value → Mem → Prop} {Qx : Lay → String → Mem → Prop} (hK : LK w) (hM : LM w) (hNB : ∀ q ∈ w.1, q.1 = 13 → q.2 < 10) {p0 : Int32} {a : Nat × Int32} {P PX : Mem → Prop} (hm : ∀ (Q1 : Lay → Option Value → Mem → Prop) (Qx1 : Lay → String → Mem → Prop), (a.1 = 0 → ∀ σ', P σ' → Q1 w (some (.int a.2)) σ') → (a.1 = 1 → ∀ σ', PX σ' → Qx1 w "java/lang/IllegalArgumentException" σ') → MX9_passHours G w σ [.ref (w.2.1 12 0), .int p0] Q1 Qx1)(hq : ∀ σ', LR P PX a σ' → Q w (some (.int (nI a.1))) σ') : ML_passHours G w σ [.ref (w.2.1 12 0), .int p0, .ref (w.2.1 13 9)] Q Qx := by
  refine mt_startW (by decide) rfl (Nat.le_of_ble_eq_true rfl) (fun E hC hR hT => ?_)
  show J G E w 0 0 0 [some (.ref (w.2.1 12 0)), some (.int p0), some (.ref (w.2.1 13 9)), none] [] σ
  refine J_aload_n hC dL_passHours_0 rfl rfl ?_
  refine J_iconst (v := nI 0) hC dL_passHours_1 (by decide) ?_
  refine J_aload_n hC dL_passHours_2 rfl rfl ?_
  refine J_iload_n hC dL_passHours_3 rfl rfl ?_
  refine iL_40 hC hK rfl ⟨by decide, by decide⟩ ⟨by decide, by decide⟩ (Nat.le_of_ble_eq_true rfl) dL_passHours_4 ?_
  refine hm _ _ (fun e σ1 h1 => ?_) (fun e σ1 h1 => ?_)
  · dsimp only [Option.toList_some, Option.toList_none, List.cons_append, List.nil_append]
    refine J_i2l hC dL_passHours_7 ?_
    refine J_lastore1 hC hM hNB dL_passHours_8 ?_
    refine J_goto (tgt := 15) hC dL_passHours_9 rfl ?_
    refine J_iconst (v := nI 0) hC dL_passHours_15 (by decide) ?_
    refine J_ireturn hC hR dL_passHours_16 (by decide) (by decide) ?_
    have g := hq _ (Or.inl ⟨e, σ1, h1, rfl⟩)
    rw [e] at g
    exact g
  · refine JX_catch (hpre := []) (hsuf := []) hC hT rfl (fun q hq9 => absurd hq9 List.not_mem_nil) (by decide) (by decide) q3_132 (by decide +kernel) (fun q => ?_)
    refine J_astore_n hC dL_passHours_12 rfl (Nat.le_of_ble_eq_true rfl) rfl ?_
    dsimp only [List.set]
    refine J_iconst (v := nI 1) hC dL_passHours_13 (by decide) ?_
    refine J_ireturn hC hR dL_passHours_14 (by decide) (by decide) ?_
    have g := hq _ (Or.inr ⟨⟨by omega, by omega⟩, h1⟩)
    rw [e] at g
    exact g
abbrev rmL_permit : Room := { frames := 9, cells := 4, slots := 24, locals := 181 }
abbrev ML_permit (G : GC) (w : Lay) (σ : Mem) (As : List Value) (Q : Lay → Option Value → Mem → Prop) (Qx : Lay → String → Mem → Prop) : Prop := MT G yL_permit (cww yL_permit cL_permit 6 (some .int) [(0, 12, 15, 32), (0, 12, 19, 19), (0, 12, 23, 13)]) rmL_permit 4 24 w σ As Q Qx
set_option maxHeartbeats 4000000 in
set_option maxRecDepth 100000 in
theorem c_L_permit {G : GC} {w : Lay} {σ : Mem} {Q : Lay → Option Value → Mem → Prop} {Qx : Lay → String → Mem → Prop} (hK : LK w) (hM : LM w) (hNB : ∀ q ∈ w.1, q.1 = 13 → q.2 < 10) {p0 p1 p2 : Int32} {a : Nat × Int32} {P PX : Mem → Prop} (hm : ∀ (Q1 : Lay → Option Value → Mem → Prop) (Qx1 : Lay → String → Mem → Prop), (a.1 = 0 → ∀ σ', P σ' → Q1 w (some (.int a.2)) σ') → (a.1 = 1 → ∀ σ', PX σ' → Qx1 w "java/lang/IndexOutOfBoundsException" σ') → (a.1 = 2 → ∀ σ', PX σ' → Qx1 w "java/lang/IllegalArgumentException" σ') → (a.1 = 3 → ∀ σ', PX σ' → Qx1 w "java/lang/IllegalStateException" σ') → MX9_permit G w σ [.ref (w.2.1 12 0), .int p0, .int p1, .int p2] Q1 Qx1)(hq : ∀ σ', LR P PX a σ' → Q w (some (.int (nI a.1))) σ') : ML_permit G w σ [.ref (w.2.1 12 0), .int p0, .int p1, .int p2, .ref (w.2.1 13 9)] Q Qx := by
  refine mt_startW (by decide) rfl (Nat.le_of_ble_eq_true rfl) (fun E hC hR hT => ?_)
  show J G E w 0 0 0 [some (.ref (w.2.1 12 0)), some (.int p0), some (.int p1), some (.int p2), some (.ref (w.2.1 13 9)), none] [] σ
  refine J_aload hC dL_permit_0 rfl ?_
  refine J_iconst (v := nI 0) hC dL_permit_2 (by decide) ?_
  refine J_aload_n hC dL_permit_3 rfl rfl ?_
  refine J_iload_n hC dL_permit_4 rfl rfl ?_
  refine J_iload_n hC dL_permit_5 rfl rfl ?_
  refine J_iload_n hC dL_permit_6 rfl rfl ?_
  refine iL_43 hC hK rfl ⟨by decide, by decide⟩ ⟨by decide, by decide⟩ (Nat.le_of_ble_eq_true rfl) dL_permit_7 ?_
  refine hm _ _ (fun e σ1 h1 => ?_) (fun e σ1 h1 => ?_) (fun e σ1 h1 => ?_) (fun e σ1 h1 => ?_)
  · dsimp only [Option.toList_some, Option.toList_none, List.cons_append, List.nil_append]
    refine J_i2l hC dL_permit_10 ?_
    refine J_lastore1 hC hM hNB dL_permit_11 ?_
    refine J_goto (tgt := 27) hC dL_permit_12 rfl ?_
    refine J_iconst (v := nI 0) hC dL_permit_27 (by decide) ?_
    refine J_ireturn hC hR dL_permit_28 (by decide) (by decide) ?_
    have g := hq _ (Or.inl ⟨e, σ1, h1, rfl⟩)
    rw [e] at g
    exact g
  · refine JX_catch (hpre := []) (hsuf := [(0, 12, 19, 19), (0, 12, 23, 13)]) hC hT rfl (fun q hq9 => absurd hq9 List.not_mem_nil) (by decide) (by decide) q5_26 (by decide +kernel) (fun q => ?_)
    refine J_astore hC dL_permit_15 (Nat.le_of_ble_eq_true rfl) rfl ?_
    dsimp only [List.set]
    refine J_iconst (v := nI 1) hC dL_permit_17 (by decide) ?_
    refine J_ireturn hC hR dL_permit_18 (by decide) (by decide) ?_
    have g := hq _ (Or.inr ⟨⟨by omega, by omega⟩, h1⟩)
    rw [e] at g
    exact g
  · refine JX_catch (hpre := [(0, 12, 15, 32)]) (hsuf := [(0, 12, 23, 13)]) hC hT rfl (by
      intro q hq9
      simp only [List.mem_cons, List.not_mem_nil, or_false] at hq9
      rcases hq9 with rfl
      · exact ⟨by decide, "java/lang/IndexOutOfBoundsException", q5_26, by decide⟩) (by decide) (by decide) q3_132 (by decide +kernel) (fun q => ?_)
    refine J_astore hC dL_permit_19 (Nat.le_of_ble_eq_true rfl) rfl ?_
    dsimp only [List.set]
    refine J_iconst (v := nI 2) hC dL_permit_21 (by decide) ?_
    refine J_ireturn hC hR dL_permit_22 (by decide) (by decide) ?_
    have g := hq _ (Or.inr ⟨⟨by omega, by omega⟩, h1⟩)
    rw [e] at g
    exact g
  · refine JX_catch (hpre := [(0, 12, 15, 32), (0, 12, 19, 19)]) (hsuf := []) hC hT rfl (by
      intro q hq9
      simp only [List.mem_cons, List.not_mem_nil, or_false] at hq9
      rcases hq9 with rfl | rfl
      · exact ⟨by decide, "java/lang/IndexOutOfBoundsException", q5_26, by decide⟩
      · exact ⟨by decide, "java/lang/IllegalArgumentException", q3_132, by decide⟩) (by decide) (by decide) q3_47 (by decide +kernel) (fun q => ?_)
    refine J_astore hC dL_permit_23 (Nat.le_of_ble_eq_true rfl) rfl ?_
    dsimp only [List.set]
    refine J_iconst (v := nI 3) hC dL_permit_25 (by decide) ?_
    refine J_ireturn hC hR dL_permit_26 (by decide) (by decide) ?_
    have g := hq _ (Or.inr ⟨⟨by omega, by omega⟩, h1⟩)
    rw [e] at g
    exact g
abbrev rmL_cancelPermits : Room := { frames := 8, cells := 1, slots := 6, locals := 132 }
abbrev ML_cancelPermits (G : GC) (w : Lay) (σ : Mem) (As : List Value) (Q : Lay → Option Value → Mem → Prop) (Qx : Lay → String → Mem → Prop) : Prop := MT G yL_cancelPermits (cww yL_cancelPermits cL_cancelPermits 4 (some .int) [(0, 9, 12, 32)]) rmL_cancelPermits 1 6 w σ As Q Qx
set_option maxHeartbeats 4000000 in
set_option maxRecDepth 100000 in
theorem c_L_cancelPermits {G : GC} {w : Lay} {σ : Mem} {Q : Lay → Option Value → Mem → Prop} {Qx : Lay → String → Mem → Prop} (hK : LK w) (hM : LM w) (hNB : ∀ q ∈ w.1, q.1 = 13 → q.2 < 10) {p0 : Int32} {a : Nat × Int32} {P PX : Mem → Prop} (hm : ∀ (Q1 : Lay → Option Value → Mem → Prop) (Qx1 : Lay → String → Mem → Prop), (a.1 = 0 → ∀ σ', P σ' → Q1 w (some (.int a.2)) σ') → (a.1 = 1 → ∀ σ', PX σ' → Qx1 w "java/lang/IndexOutOfBoundsException" σ') → MX9_cancelPermits G w σ [.ref (w.2.1 12 0), .int p0] Q1 Qx1)(hq : ∀ σ', LR P PX a σ' → Q w (some (.int (nI a.1))) σ') : ML_cancelPermits G w σ [.ref (w.2.1 12 0), .int p0, .ref (w.2.1 13 9)] Q Qx := by
  refine mt_startW (by decide) rfl (Nat.le_of_ble_eq_true rfl) (fun E hC hR hT => ?_)
  show J G E w 0 0 0 [some (.ref (w.2.1 12 0)), some (.int p0), some (.ref (w.2.1 13 9)), none] [] σ
  refine J_aload_n hC dL_cancelPermits_0 rfl rfl ?_
  refine J_iconst (v := nI 0) hC dL_cancelPermits_1 (by decide) ?_
  refine J_aload_n hC dL_cancelPermits_2 rfl rfl ?_
  refine J_iload_n hC dL_cancelPermits_3 rfl rfl ?_
  refine iL_47 hC hK rfl ⟨by decide, by decide⟩ ⟨by decide, by decide⟩ (Nat.le_of_ble_eq_true rfl) dL_cancelPermits_4 ?_
  refine hm _ _ (fun e σ1 h1 => ?_) (fun e σ1 h1 => ?_)
  · dsimp only [Option.toList_some, Option.toList_none, List.cons_append, List.nil_append]
    refine J_i2l hC dL_cancelPermits_7 ?_
    refine J_lastore1 hC hM hNB dL_cancelPermits_8 ?_
    refine J_goto (tgt := 15) hC dL_cancelPermits_9 rfl ?_
    refine J_iconst (v := nI 0) hC dL_cancelPermits_15 (by decide) ?_
    refine J_ireturn hC hR dL_cancelPermits_16 (by decide) (by decide) ?_
    have g := hq _ (Or.inl ⟨e, σ1, h1, rfl⟩)
    rw [e] at g
    exact g
  · refine JX_catch (hpre := []) (hsuf := []) hC hT rfl (fun q hq9 => absurd hq9 List.not_mem_nil) (by decide) (by decide) q5_26 (by decide +kernel) (fun q => ?_)
    refine J_astore_n hC dL_cancelPermits_12 rfl (Nat.le_of_ble_eq_true rfl) rfl ?_
    dsimp only [List.set]
    refine J_iconst (v := nI 1) hC dL_cancelPermits_13 (by decide) ?_
    refine J_ireturn hC hR dL_cancelPermits_14 (by decide) (by decide) ?_
    have g := hq _ (Or.inr ⟨⟨by omega, by omega⟩, h1⟩)
    rw [e] at g
    exact g
abbrev rmL_tieKnots : Room := { frames := 8, cells := 3, slots := 18, locals := 135 }
abbrev ML_tieKnots (G : GC) (w : Lay) (σ : Mem) (As : List Value) (Q : Lay → Option Value → Mem → Prop) (Qx : Lay → String → Mem → Prop) : Prop := MT G yL_tieKnots (cww yL_tieKnots cL_tieKnots 5 (some .int) [(0, 10, 13, 32), (0, 10, 17, 19), (0, 10, 21, 13)]) rmL_tieKnots 3 18 w σ As Q Qx
set_option maxHeartbeats 4000000 in
set_option maxRecDepth 100000 in
theorem c_L_tieKnots {G : GC} {w : Lay} {σ : Mem} {Q : Lay → Option Value → Mem → Prop} {Qx : Lay → String → Mem → Prop} (hK : LK w) (hM : LM w) (hNB : ∀ q ∈ w.1, q.1 = 13 → q.2 < 10) {p0 p1 : Int32} {a : Nat × Int32} {P PX : Mem → Prop} (hm : ∀ (Q1 : Lay → Option Value → Mem → Prop) (Qx1 : Lay → String → Mem → Prop), (a.1 = 0 → ∀ σ', P σ' → Q1 w (some (.int a.2)) σ') → (a.1 = 1 → ∀ σ', PX σ' → Qx1 w "java/lang/IndexOutOfBoundsException" σ') → (a.1 = 2 → ∀ σ', PX σ' → Qx1 w "java/lang/IllegalArgumentException" σ') → (a.1 = 3 → ∀ σ', PX σ' → Qx1 w "java/lang/IllegalStateException" σ') → MX9_tieKnots G w σ [.ref (w.2.1 12 0), .int p0, .int p1] Q1 Qx1)(hq : ∀ σ', LR P PX a σ' → Q w (some (.int (nI a.1))) σ') : ML_tieKnots G w σ [.ref (w.2.1 12 0), .int p0, .int p1, .ref (w.2.1 13 9)] Q Qx := by
  refine mt_startW (by decide) rfl (Nat.le_of_ble_eq_true rfl) (fun E hC hR hT => ?_)
  show J G E w 0 0 0 [some (.ref (w.2.1 12 0)), some (.int p0), some (.int p1), some (.ref (w.2.1 13 9)), none] [] σ
  refine J_aload_n hC dL_tieKnots_0 rfl rfl ?_
  refine J_iconst (v := nI 0) hC dL_tieKnots_1 (by decide) ?_
  refine J_aload_n hC dL_tieKnots_2 rfl rfl ?_
  refine J_iload_n hC dL_tieKnots_3 rfl rfl ?_
  refine J_iload_n hC dL_tieKnots_4 rfl rfl ?_
  refine iL_50 hC hK rfl ⟨by decide, by decide⟩ ⟨by decide, by decide⟩ (Nat.le_of_ble_eq_true rfl) dL_tieKnots_5 ?_
  refine hm _ _ (fun e σ1 h1 => ?_) (fun e σ1 h1 => ?_) (fun e σ1 h1 => ?_) (fun e σ1 h1 => ?_)
  · dsimp only [Option.toList_some, Option.toList_none, List.cons_append, List.nil_append]
    refine J_i2l hC dL_tieKnots_8 ?_
    refine J_lastore1 hC hM hNB dL_tieKnots_9 ?_
    refine J_goto (tgt := 25) hC dL_tieKnots_10 rfl ?_
    refine J_iconst (v := nI 0) hC dL_tieKnots_25 (by decide) ?_
    refine J_ireturn hC hR dL_tieKnots_26 (by decide) (by decide) ?_
    have g := hq _ (Or.inl ⟨e, σ1, h1, rfl⟩)
    rw [e] at g
    exact g
  · refine JX_catch (hpre := []) (hsuf := [(0, 10, 17, 19), (0, 10, 21, 13)]) hC hT rfl (fun q hq9 => absurd hq9 List.not_mem_nil) (by decide) (by decide) q5_26 (by decide +kernel) (fun q => ?_)
    refine J_astore hC dL_tieKnots_13 (Nat.le_of_ble_eq_true rfl) rfl ?_
    dsimp only [List.set]
    refine J_iconst (v := nI 1) hC dL_tieKnots_15 (by decide) ?_
    refine J_ireturn hC hR dL_tieKnots_16 (by decide) (by decide) ?_
    have g := hq _ (Or.inr ⟨⟨by omega, by omega⟩, h1⟩)
    rw [e] at g
    exact g
  · refine JX_catch (hpre := [(0, 10, 13, 32)]) (hsuf := [(0, 10, 21, 13)]) hC hT rfl (by
      intro q hq9
      simp only [List.mem_cons, List.not_mem_nil, or_false] at hq9
      rcases hq9 with rfl
      · exact ⟨by decide, "java/lang/IndexOutOfBoundsException", q5_26, by decide⟩) (by decide) (by decide) q3_132 (by decide +kernel) (fun q => ?_)
    refine J_astore hC dL_tieKnots_17 (Nat.le_of_ble_eq_true rfl) rfl ?_
    dsimp only [List.set]
    refine J_iconst (v := nI 2) hC dL_tieKnots_19 (by decide) ?_
    refine J_ireturn hC hR dL_tieKnots_20 (by decide) (by decide) ?_
    have g := hq _ (Or.inr ⟨⟨by omega, by omega⟩, h1⟩)
    rw [e] at g
    exact g
  · refine JX_catch (hpre := [(0, 10, 13, 32), (0, 10, 17, 19)]) (hsuf := []) hC hT rfl (by
      intro q hq9
      simp only [List.mem_cons, List.not_mem_nil, or_false] at hq9
      rcases hq9 with rfl | rfl
      · exact ⟨by decide, "java/lang/IndexOutOfBoundsException", q5_26, by decide⟩
      · exact ⟨by decide, "java/lang/IllegalArgumentException", q3_132, by decide⟩) (by decide) (by decide) q3_47 (by decide +kernel) (fun q => ?_)
    refine J_astore hC dL_tieKnots_21 (Nat.le_of_ble_eq_true rfl) rfl ?_
    dsimp only [List.set]
    refine J_iconst (v := nI 3) hC dL_tieKnots_23 (by decide) ?_
    refine J_ireturn hC hR dL_tieKnots_24 (by decide) (by decide) ?_
    have g := hq _ (Or.inr ⟨⟨by omega, by omega⟩, h1⟩)
    rw [e] at g
    exact g
abbrev rmL_repair : Room := { frames := 8, cells := 2, slots := 12, locals := 132 }
abbrev ML_repair (G : GC) (w : Lay) (σ : Mem) (As : List Value) (Q : Lay → Option Value → Mem → Prop) (Qx : Lay → String → Mem → Prop) : Prop := MT G yL_repair (cww yL_repair cL_repair 4 (some .int) [(0, 9, 12, 32), (0, 9, 15, 13)]) rmL_repair 2 12 w σ As Q Qx
set_option maxHeartbeats 4000000 in
set_option maxRecDepth 100000 in
theorem c_L_repair {G : GC} {w : Lay} {σ : Mem} {Q : Lay → Option Value → Mem → Prop} {Qx : Lay → String → Mem → Prop} (hK : LK w) (hM : LM w) (hNB : ∀ q ∈ w.1, q.1 = 13 → q.2 < 10) {p0 : Int32} {a : Nat × Int32} {P PX : Mem → Prop} (hm : ∀ (Q1 : Lay → Option Value → Mem → Prop) (Qx1 : Lay → String → Mem → Prop), (a.1 = 0 → ∀ σ', P σ' → Q1 w (some (.int a.2)) σ') → (a.1 = 1 → ∀ σ', PX σ' → Qx1 w "java/lang/IndexOutOfBoundsException" σ') → (a.1 = 2 → ∀ σ', PX σ' → Qx1 w "java/lang/IllegalStateException" σ') → MX9_repair G w σ [.ref (w.2.1 12 0), .int p0] Q1 Qx1)(hq : ∀ σ', LR P PX a σ' → Q w (some (.int (nI a.1))) σ') : ML_repair G w σ [.ref (w.2.1 12 0), .int p0, .ref (w.2.1 13 9)] Q Qx := by
  refine mt_startW (by decide) rfl (Nat.le_of_ble_eq_true rfl) (fun E hC hR hT => ?_)
  show J G E w 0 0 0 [some (.ref (w.2.1 12 0)), some (.int p0), some (.ref (w.2.1 13 9)), none] [] σ
  refine J_aload_n hC dL_repair_0 rfl rfl ?_
  refine J_iconst (v := nI 0) hC dL_repair_1 (by decide) ?_
  refine J_aload_n hC dL_repair_2 rfl rfl ?_
  refine J_iload_n hC dL_repair_3 rfl rfl ?_
  refine iL_54 hC hK rfl ⟨by decide, by decide⟩ ⟨by decide, by decide⟩ (Nat.le_of_ble_eq_true rfl) dL_repair_4 ?_
  refine hm _ _ (fun e σ1 h1 => ?_) (fun e σ1 h1 => ?_) (fun e σ1 h1 => ?_)
  · dsimp only [Option.toList_some, Option.toList_none, List.cons_append, List.nil_append]
    refine J_i2l hC dL_repair_7 ?_
    refine J_lastore1 hC hM hNB dL_repair_8 ?_
    refine J_goto (tgt := 18) hC dL_repair_9 rfl ?_
    refine J_iconst (v := nI 0) hC dL_repair_18 (by decide) ?_
    refine J_ireturn hC hR dL_repair_19 (by decide) (by decide) ?_
    have g := hq _ (Or.inl ⟨e, σ1, h1, rfl⟩)
    rw [e] at g
    exact g
  · refine JX_catch (hpre := []) (hsuf := [(0, 9, 15, 13)]) hC hT rfl (fun q hq9 => absurd hq9 List.not_mem_nil) (by decide) (by decide) q5_26 (by decide +kernel) (fun q => ?_)
    refine J_astore_n hC dL_repair_12 rfl (Nat.le_of_ble_eq_true rfl) rfl ?_
    dsimp only [List.set]
    refine J_iconst (v := nI 1) hC dL_repair_13 (by decide) ?_
    refine J_ireturn hC hR dL_repair_14 (by decide) (by decide) ?_
    have g := hq _ (Or.inr ⟨⟨by omega, by omega⟩, h1⟩)
    rw [e] at g
    exact g
  · refine JX_catch (hpre := [(0, 9, 12, 32)]) (hsuf := []) hC hT rfl (by
      intro q hq9
      simp only [List.mem_cons, List.not_mem_nil, or_false] at hq9
      rcases hq9 with rfl
      · exact ⟨by decide, "java/lang/IndexOutOfBoundsException", q5_26, by decide⟩) (by decide) (by decide) q3_47 (by decide +kernel) (fun q => ?_)
    refine J_astore_n hC dL_repair_15 rfl (Nat.le_of_ble_eq_true rfl) rfl ?_
    dsimp only [List.set]
    refine J_iconst (v := nI 2) hC dL_repair_16 (by decide) ?_
    refine J_ireturn hC hR dL_repair_17 (by decide) (by decide) ?_
    have g := hq _ (Or.inr ⟨⟨by omega, by omega⟩, h1⟩)
    rw [e] at g
    exact g
abbrev rmL_fund : Room := { frames := 8, cells := 2, slots := 12, locals := 134 }
abbrev ML_fund (G : GC) (w : Lay) (σ : Mem) (As : List Value) (Q : Lay → Option Value → Mem → Prop) (Qx : Lay → String → Mem → Prop) : Prop := MT G yL_fund (cww yL_fund cL_fund 5 (some .int) [(0, 10, 13, 32), (0, 10, 17, 19)]) rmL_fund 2 12 w σ As Q Qx
set_option maxHeartbeats 4000000 in
set_option maxRecDepth 100000 in
theorem c_L_fund {G : GC} {w : Lay} {σ : Mem} {Q : Lay → Option Value → Mem → Prop} {Qx : Lay → String → Mem → Prop} (hK : LK w) (hM : LM w) (hNB : ∀ q ∈ w.1, q.1 = 13 → q.2 < 10) {p0 p1 : Int32} {a : Nat × Int32} {P PX : Mem → Prop} (hm : ∀ (Q1 : Lay → Option Value → Mem → Prop) (Qx1 : Lay → String → Mem → Prop), (a.1 = 0 → ∀ σ', P σ' → Q1 w (some (.int a.2)) σ') → (a.1 = 1 → ∀ σ', PX σ' → Qx1 w "java/lang/IndexOutOfBoundsException" σ') → (a.1 = 2 → ∀ σ', PX σ' → Qx1 w "java/lang/IllegalArgumentException" σ') → MX9_fund G w σ [.ref (w.2.1 12 0), .int p0, .int p1] Q1 Qx1)(hq : ∀ σ', LR P PX a σ' → Q w (some (.int (nI a.1))) σ') : ML_fund G w σ [.ref (w.2.1 12 0), .int p0, .int p1, .ref (w.2.1 13 9)] Q Qx := by
  refine mt_startW (by decide) rfl (Nat.le_of_ble_eq_true rfl) (fun E hC hR hT => ?_)
  show J G E w 0 0 0 [some (.ref (w.2.1 12 0)), some (.int p0), some (.int p1), some (.ref (w.2.1 13 9)), none] [] σ
  refine J_aload_n hC dL_fund_0 rfl rfl ?_
  refine J_iconst (v := nI 0) hC dL_fund_1 (by decide) ?_
  refine J_aload_n hC dL_fund_2 rfl rfl ?_
  refine J_iload_n hC dL_fund_3 rfl rfl ?_
  refine J_iload_n hC dL_fund_4 rfl rfl ?_
  refine iL_57 hC hK rfl ⟨by decide, by decide⟩ ⟨by decide, by decide⟩ (Nat.le_of_ble_eq_true rfl) dL_fund_5 ?_
  refine hm _ _ (fun e σ1 h1 => ?_) (fun e σ1 h1 => ?_) (fun e σ1 h1 => ?_)
  · dsimp only [Option.toList_some, Option.toList_none, List.cons_append, List.nil_append]
    refine J_i2l hC dL_fund_8 ?_
    refine J_lastore1 hC hM hNB dL_fund_9 ?_
    refine J_goto (tgt := 21) hC dL_fund_10 rfl ?_
    refine J_iconst (v := nI 0) hC dL_fund_21 (by decide) ?_
    refine J_ireturn hC hR dL_fund_22 (by decide) (by decide) ?_
    have g := hq _ (Or.inl ⟨e, σ1, h1, rfl⟩)
    rw [e] at g
    exact g
  · refine JX_catch (hpre := []) (hsuf := [(0, 10, 17, 19)]) hC hT rfl (fun q hq9 => absurd hq9 List.not_mem_nil) (by decide) (by decide) q5_26 (by decide +kernel) (fun q => ?_)
    refine J_astore hC dL_fund_13 (Nat.le_of_ble_eq_true rfl) rfl ?_
    dsimp only [List.set]
    refine J_iconst (v := nI 1) hC dL_fund_15 (by decide) ?_
    refine J_ireturn hC hR dL_fund_16 (by decide) (by decide) ?_
    have g := hq _ (Or.inr ⟨⟨by omega, by omega⟩, h1⟩)
    rw [e] at g
    exact g
  · refine JX_catch (hpre := [(0, 10, 13, 32)]) (hsuf := []) hC hT rfl (by
      intro q hq9
      simp only [List.mem_cons, List.not_mem_nil, or_false] at hq9
      rcases hq9 with rfl
      · exact ⟨by decide, "java/lang/IndexOutOfBoundsException", q5_26, by decide⟩) (by decide) (by decide) q3_132 (by decide +kernel) (fun q => ?_)
    refine J_astore hC dL_fund_17 (Nat.le_of_ble_eq_true rfl) rfl ?_
    dsimp only [List.set]
    refine J_iconst (v := nI 2) hC dL_fund_19 (by decide) ?_
    refine J_ireturn hC hR dL_fund_20 (by decide) (by decide) ?_
    have g := hq _ (Or.inr ⟨⟨by omega, by omega⟩, h1⟩)
    rw [e] at g
    exact g
abbrev rmL_undo : Room := { frames := 7, cells := 1, slots := 6, locals := 131 }
abbrev ML_undo (G : GC) (w : Lay) (σ : Mem) (As : List Value) (Q : Lay → Option Value → Mem → Prop) (Qx : Lay → String → Mem → Prop) : Prop := MT G yL_undo (cww yL_undo cL_undo 3 (some .int) [(0, 8, 11, 63)]) rmL_undo 1 6 w σ As Q Qx
set_option maxHeartbeats 4000000 in
set_option maxRecDepth 100000 in
theorem c_L_undo {G : GC} {w : Lay} {σ : Mem} {Q : Lay → Option Value → Mem → Prop} {Qx : Lay → String → Mem → Prop} (hK : LK w) (hM : LM w) (hNB : ∀ q ∈ w.1, q.1 = 13 → q.2 < 10) {a : Nat × Int32} {P PX : Mem → Prop} (hm : ∀ (Q1 : Lay → Option Value → Mem → Prop) (Qx1 : Lay → String → Mem → Prop), (a.1 = 0 → ∀ σ', P σ' → Q1 w (some (.int a.2)) σ') → (a.1 = 1 → ∀ σ', PX σ' → Qx1 w "java/util/NoSuchElementException" σ') → MX9_undo G w σ [.ref (w.2.1 12 0)] Q1 Qx1)(hq : ∀ σ', LR P PX a σ' → Q w (some (.int (nI a.1))) σ') : ML_undo G w σ [.ref (w.2.1 12 0), .ref (w.2.1 13 9)] Q Qx := by
  refine mt_startW (by decide) rfl (Nat.le_of_ble_eq_true rfl) (fun E hC hR hT => ?_)
  show J G E w 0 0 0 [some (.ref (w.2.1 12 0)), some (.ref (w.2.1 13 9)), none] [] σ
  refine J_aload_n hC dL_undo_0 rfl rfl ?_
  refine J_iconst (v := nI 0) hC dL_undo_1 (by decide) ?_
  refine J_aload_n hC dL_undo_2 rfl rfl ?_
  refine iL_60 hC hK rfl ⟨by decide, by decide⟩ ⟨by decide, by decide⟩ (Nat.le_of_ble_eq_true rfl) dL_undo_3 ?_
  refine hm _ _ (fun e σ1 h1 => ?_) (fun e σ1 h1 => ?_)
  · dsimp only [Option.toList_some, Option.toList_none, List.cons_append, List.nil_append]
    refine J_i2l hC dL_undo_6 ?_
    refine J_lastore1 hC hM hNB dL_undo_7 ?_
    refine J_goto (tgt := 14) hC dL_undo_8 rfl ?_
    refine J_iconst (v := nI 0) hC dL_undo_14 (by decide) ?_
    refine J_ireturn hC hR dL_undo_15 (by decide) (by decide) ?_
    have g := hq _ (Or.inl ⟨e, σ1, h1, rfl⟩)
    rw [e] at g
    exact g
  · refine JX_catch (hpre := []) (hsuf := []) hC hT rfl (fun q hq9 => absurd hq9 List.not_mem_nil) (by decide) (by decide) q5_135 (by decide +kernel) (fun q => ?_)
    refine J_astore_n hC dL_undo_11 rfl (Nat.le_of_ble_eq_true rfl) rfl ?_
    dsimp only [List.set]
    refine J_iconst (v := nI 1) hC dL_undo_12 (by decide) ?_
    refine J_ireturn hC hR dL_undo_13 (by decide) (by decide) ?_
    have g := hq _ (Or.inr ⟨⟨by omega, by omega⟩, h1⟩)
    rw [e] at g
    exact g
abbrev rmL_saveSnapshot : Room := { frames := 8, cells := 1, slots := 6, locals := 133 }
abbrev ML_saveSnapshot (G : GC) (w : Lay) (σ : Mem) (As : List Value) (Q : Lay → Option Value → Mem → Prop) (Qx : Lay → String → Mem → Prop) : Prop := MT G yL_saveSnapshot (cww yL_saveSnapshot cL_saveSnapshot 3 (some .int) [(0, 5, 8, 19)]) rmL_saveSnapshot 1 6 w σ As Q Qx
set_option maxHeartbeats 4000000 in
set_option maxRecDepth 100000 in
theorem c_L_saveSnapshot {G : GC} {w : Lay} {σ : Mem} {Q : Lay → Option Value → Mem → Prop} {Qx : Lay → String → Mem → Prop} (hK : LK w) (hM : LM w) (hNB : ∀ q ∈ w.1, q.1 = 13 → q.2 < 10) {p0 : Int32} {a : Nat × Int32} {P PX : Mem → Prop} (hm : ∀ (Q1 : Lay → Option Value → Mem → Prop) (Qx1 : Lay → String → Mem → Prop), (a.1 = 0 → ∀ σ', P σ' → Q1 w none σ') → (a.1 = 1 → ∀ σ', PX σ' → Qx1 w "java/lang/IllegalArgumentException" σ') → MX9_saveSnapshot G w σ [.ref (w.2.1 12 0), .int p0] Q1 Qx1)(hq : ∀ σ', LRv P PX a σ' → Q w (some (.int (nI a.1))) σ') : ML_saveSnapshot G w σ [.ref (w.2.1 12 0), .int p0] Q Qx := by
  refine mt_startW (by decide) rfl (Nat.le_of_ble_eq_true rfl) (fun E hC hR hT => ?_)
  show J G E w 0 0 0 [some (.ref (w.2.1 12 0)), some (.int p0), none] [] σ
  refine J_aload_n hC dL_saveSnapshot_0 rfl rfl ?_
  refine J_iload_n hC dL_saveSnapshot_1 rfl rfl ?_
  refine iL_65 hC hK rfl ⟨by decide, by decide⟩ ⟨by decide, by decide⟩ (Nat.le_of_ble_eq_true rfl) dL_saveSnapshot_2 ?_
  refine hm _ _ (fun e σ1 h1 => ?_) (fun e σ1 h1 => ?_)
  · dsimp only [Option.toList_some, Option.toList_none, List.cons_append, List.nil_append]
    refine J_goto (tgt := 11) hC dL_saveSnapshot_5 rfl ?_
    refine J_iconst (v := nI 0) hC dL_saveSnapshot_11 (by decide) ?_
    refine J_ireturn hC hR dL_saveSnapshot_12 (by decide) (by decide) ?_
    have g := hq _ (Or.inl ⟨e, h1⟩)
    rw [e] at g
    exact g
  · refine JX_catch (hpre := []) (hsuf := []) hC hT rfl (fun q hq9 => absurd hq9 List.not_mem_nil) (by decide) (by decide) q3_132 (by decide +kernel) (fun q => ?_)
    refine J_astore_n hC dL_saveSnapshot_8 rfl (Nat.le_of_ble_eq_true rfl) rfl ?_
    dsimp only [List.set]
    refine J_iconst (v := nI 1) hC dL_saveSnapshot_9 (by decide) ?_
    refine J_ireturn hC hR dL_saveSnapshot_10 (by decide) (by decide) ?_
    have g := hq _ (Or.inr ⟨⟨by omega, by omega⟩, h1⟩)
    rw [e] at g
    exact g
abbrev rmL_restoreSnapshot : Room := { frames := 8, cells := 2, slots := 12, locals := 133 }
abbrev ML_restoreSnapshot (G : GC) (w : Lay) (σ : Mem) (As : List Value) (Q : Lay → Option Value → Mem → Prop) (Qx : Lay → String → Mem → Prop) : Prop := MT G yL_restoreSnapshot (cww yL_restoreSnapshot cL_restoreSnapshot 4 (some .int) [(0, 9, 12, 19), (0, 9, 15, 63)]) rmL_restoreSnapshot 2 12 w σ As Q Qx
set_option maxHeartbeats 4000000 in
set_option maxRecDepth 100000 in
theorem c_L_restoreSnapshot {G : GC} {w : Lay} {σ : Mem} {Q : Lay → Option Value → Mem → Prop} {Qx : Lay → String → Mem → Prop} (hK : LK w) (hM : LM w) (hNB : ∀ q ∈ w.1, q.1 = 13 → q.2 < 10) {p0 : Int32} {a : Nat × Int32} {P PX : Mem → Prop} (hm : ∀ (Q1 : Lay → Option Value → Mem → Prop) (Qx1 : Lay → String → Mem → Prop), (a.1 = 0 → ∀ σ', P σ' → Q1 w (some (.int a.2)) σ') → (a.1 = 1 → ∀ σ', PX σ' → Qx1 w "java/lang/IllegalArgumentException" σ') → (a.1 = 2 → ∀ σ', PX σ' → Qx1 w "java/util/NoSuchElementException" σ') → MX9_restoreSnapshot G w σ [.ref (w.2.1 12 0), .int p0] Q1 Qx1)(hq : ∀ σ', LR P PX a σ' → Q w (some (.int (nI a.1))) σ') : ML_restoreSnapshot G w σ [.ref (w.2.1 12 0), .int p0, .ref (w.2.1 13 9)] Q Qx := by
  refine mt_startW (by decide) rfl (Nat.le_of_ble_eq_true rfl) (fun E hC hR hT => ?_)
  show J G E w 0 0 0 [some (.ref (w.2.1 12 0)), some (.int p0), some (.ref (w.2.1 13 9)), none] [] σ
  refine J_aload_n hC dL_restoreSnapshot_0 rfl rfl ?_
  refine J_iconst (v := nI 0) hC dL_restoreSnapshot_1 (by decide) ?_
  refine J_aload_n hC dL_restoreSnapshot_2 rfl rfl ?_
  refine J_iload_n hC dL_restoreSnapshot_3 rfl rfl ?_
  refine iL_69 hC hK rfl ⟨by decide, by decide⟩ ⟨by decide, by decide⟩ (Nat.le_of_ble_eq_true rfl) dL_restoreSnapshot_4 ?_
  refine hm _ _ (fun e σ1 h1 => ?_) (fun e σ1 h1 => ?_) (fun e σ1 h1 => ?_)
  · dsimp only [Option.toList_some, Option.toList_none, List.cons_append, List.nil_append]
    refine J_i2l hC dL_restoreSnapshot_7 ?_
    refine J_lastore1 hC hM hNB dL_restoreSnapshot_8 ?_
    refine J_goto (tgt := 18) hC dL_restoreSnapshot_9 rfl ?_
    refine J_iconst (v := nI 0) hC dL_restoreSnapshot_18 (by decide) ?_
    refine J_ireturn hC hR dL_restoreSnapshot_19 (by decide) (by decide) ?_
    have g := hq _ (Or.inl ⟨e, σ1, h1, rfl⟩)
    rw [e] at g
    exact g
  · refine JX_catch (hpre := []) (hsuf := [(0, 9, 15, 63)]) hC hT rfl (fun q hq9 => absurd hq9 List.not_mem_nil) (by decide) (by decide) q3_132 (by decide +kernel) (fun q => ?_)
    refine J_astore_n hC dL_restoreSnapshot_12 rfl (Nat.le_of_ble_eq_true rfl) rfl ?_
    dsimp only [List.set]
    refine J_iconst (v := nI 1) hC dL_restoreSnapshot_13 (by decide) ?_
    refine J_ireturn hC hR dL_restoreSnapshot_14 (by decide) (by decide) ?_
    have g := hq _ (Or.inr ⟨⟨by omega, by omega⟩, h1⟩)
    rw [e] at g
    exact g
  · refine JX_catch (hpre := [(0, 9, 12, 19)]) (hsuf := []) hC hT rfl (by
      intro q hq9
      simp only [List.mem_cons, List.not_mem_nil, or_false] at hq9
      rcases hq9 with rfl
      · exact ⟨by decide, "java/lang/IllegalArgumentException", q3_132, by decide⟩) (by decide) (by decide) q5_135 (by decide +kernel) (fun q => ?_)
    refine J_astore_n hC dL_restoreSnapshot_15 rfl (Nat.le_of_ble_eq_true rfl) rfl ?_
    dsimp only [List.set]
    refine J_iconst (v := nI 2) hC dL_restoreSnapshot_16 (by decide) ?_
    refine J_ireturn hC hR dL_restoreSnapshot_17 (by decide) (by decide) ?_
    have g := hq _ (Or.inr ⟨⟨by omega, by omega⟩, h1⟩)
    rw [e] at g
    exact g
abbrev rmL_windDirection : Room := { frames := 8, cells := 2, slots := 12, locals := 133 }
abbrev ML_windDirection (G : GC) (w : Lay) (σ : Mem) (As : List Value) (Q : Lay → Option Value → Mem → Prop) (Qx : Lay → String → Mem → Prop) : Prop := MT G yL_windDirection (cww yL_windDirection cL_windDirection 5 (some .int) [(0, 10, 13, 32), (0, 10, 17, 19)]) rmL_windDirection 2 12 w σ As Q Qx
set_option maxHeartbeats 4000000 in
set_option maxRecDepth 100000 in
theorem c_L_windDirection {G : GC} {w : Lay} {σ : Mem} {Q : Lay → Option Value → Mem → Prop} {Qx : Lay → String → Mem → Prop} (hK : LK w) (hM : LM w) (hNB : ∀ q ∈ w.1, q.1 = 13 → q.2 < 10) {p0 p1 : Int32} {a : Nat × Int32} {P PX : Mem → Prop} (hm : ∀ (Q1 : Lay → Option Value → Mem → Prop) (Qx1 : Lay → String → Mem → Prop), (a.1 = 0 → ∀ σ', P σ' → Q1 w (some (.int a.2)) σ') → (a.1 = 1 → ∀ σ', PX σ' → Qx1 w "java/lang/IndexOutOfBoundsException" σ') → (a.1 = 2 → ∀ σ', PX σ' → Qx1 w "java/lang/IllegalArgumentException" σ') → MX9_windDirection G w σ [.ref (w.2.1 12 0), .int p0, .int p1] Q1 Qx1)(hq : ∀ σ', LR P PX a σ' → Q w (some (.int (nI a.1))) σ') : ML_windDirection G w σ [.ref (w.2.1 12 0), .int p0, .int p1, .ref (w.2.1 13 9)] Q Qx := by
  refine mt_startW (by decide) rfl (Nat.le_of_ble_eq_true rfl) (fun E hC hR hT => ?_)
  show J G E w 0 0 0 [some (.ref (w.2.1 12 0)), some (.int p0), some (.int p1), some (.ref (w.2.1 13 9)), none] [] σ
  refine J_aload_n hC dL_windDirection_0 rfl rfl ?_
  refine J_iconst (v := nI 0) hC dL_windDirection_1 (by decide) ?_
  refine J_aload_n hC dL_windDirection_2 rfl rfl ?_
  refine J_iload_n hC dL_windDirection_3 rfl rfl ?_
  refine J_iload_n hC dL_windDirection_4 rfl rfl ?_
  refine iL_72 hC hK rfl ⟨by decide, by decide⟩ ⟨by decide, by decide⟩ (Nat.le_of_ble_eq_true rfl) dL_windDirection_5 ?_
  refine hm _ _ (fun e σ1 h1 => ?_) (fun e σ1 h1 => ?_) (fun e σ1 h1 => ?_)
  · dsimp only [Option.toList_some, Option.toList_none, List.cons_append, List.nil_append]
    refine J_i2l hC dL_windDirection_8 ?_
    refine J_lastore1 hC hM hNB dL_windDirection_9 ?_
    refine J_goto (tgt := 21) hC dL_windDirection_10 rfl ?_
    refine J_iconst (v := nI 0) hC dL_windDirection_21 (by decide) ?_
    refine J_ireturn hC hR dL_windDirection_22 (by decide) (by decide) ?_
    have g := hq _ (Or.inl ⟨e, σ1, h1, rfl⟩)
    rw [e] at g
    exact g
  · refine JX_catch (hpre := []) (hsuf := [(0, 10, 17, 19)]) hC hT rfl (fun q hq9 => absurd hq9 List.not_mem_nil) (by decide) (by decide) q5_26 (by decide +kernel) (fun q => ?_)
    refine J_astore hC dL_windDirection_13 (Nat.le_of_ble_eq_true rfl) rfl ?_
    dsimp only [List.set]
    refine J_iconst (v := nI 1) hC dL_windDirection_15 (by decide) ?_
    refine J_ireturn hC hR dL_windDirection_16 (by decide) (by decide) ?_
    have g := hq _ (Or.inr ⟨⟨by omega, by omega⟩, h1⟩)
    rw [e] at g
    exact g
  · refine JX_catch (hpre := [(0, 10, 13, 32)]) (hsuf := []) hC hT rfl (by
      intro q hq9
      simp only [List.mem_cons, List.not_mem_nil, or_false] at hq9
      rcases hq9 with rfl
      · exact ⟨by decide, "java/lang/IndexOutOfBoundsException", q5_26, by decide⟩) (by decide) (by decide) q3_132 (by decide +kernel) (fun q => ?_)
    refine J_astore hC dL_windDirection_17 (Nat.le_of_ble_eq_true rfl) rfl ?_
    dsimp only [List.set]
    refine J_iconst (v := nI 2) hC dL_windDirection_19 (by decide) ?_
    refine J_ireturn hC hR dL_windDirection_20 (by decide) (by decide) ?_
    have g := hq _ (Or.inr ⟨⟨by omega, by omega⟩, h1⟩)
    rw [e] at g
    exact g
abbrev rmL_windForce : Room := { frames := 8, cells := 2, slots := 12, locals := 133 }
abbrev ML_windForce (G : GC) (w : Lay) (σ : Mem) (As : List Value) (Q : Lay → Option Value → Mem → Prop) (Qx : Lay → String → Mem → Prop) : Prop := MT G yL_windForce (cww yL_windForce cL_windForce 5 (some .int) [(0, 10, 13, 32), (0, 10, 17, 19)]) rmL_windForce 2 12 w σ As Q Qx
set_option maxHeartbeats 4000000 in
set_option maxRecDepth 100000 in
theorem c_L_windForce {G : GC} {w : Lay} {σ : Mem} {Q : Lay → Option Value → Mem → Prop} {Qx : Lay → String → Mem → Prop} (hK : LK w) (hM : LM w) (hNB : ∀ q ∈ w.1, q.1 = 13 → q.2 < 10) {p0 p1 : Int32} {a : Nat × Int32} {P PX : Mem → Prop} (hm : ∀ (Q1 : Lay → Option Value → Mem → Prop) (Qx1 : Lay → String → Mem → Prop), (a.1 = 0 → ∀ σ', P σ' → Q1 w (some (.int a.2)) σ') → (a.1 = 1 → ∀ σ', PX σ' → Qx1 w "java/lang/IndexOutOfBoundsException" σ') → (a.1 = 2 → ∀ σ', PX σ' → Qx1 w "java/lang/IllegalArgumentException" σ') → MX9_windForce G w σ [.ref (w.2.1 12 0), .int p0, .int p1] Q1 Qx1)(hq : ∀ σ', LR P PX a σ' → Q w (some (.int (nI a.1))) σ') : ML_windForce G w σ [.ref (w.2.1 12 0), .int p0, .int p1, .ref (w.2.1 13 9)] Q Qx := by
  refine mt_startW (by decide) rfl (Nat.le_of_ble_eq_true rfl) (fun E hC hR hT => ?_)
  show J G E w 0 0 0 [some (.ref (w.2.1 12 0)), some (.int p0), some (.int p1), some (.ref (w.2.1 13 9)), none] [] σ
  refine J_aload_n hC dL_windForce_0 rfl rfl ?_
  refine J_iconst (v := nI 0) hC dL_windForce_1 (by decide) ?_
  refine J_aload_n hC dL_windForce_2 rfl rfl ?_
  refine J_iload_n hC dL_windForce_3 rfl rfl ?_
  refine J_iload_n hC dL_windForce_4 rfl rfl ?_
  refine iL_75 hC hK rfl ⟨by decide, by decide⟩ ⟨by decide, by decide⟩ (Nat.le_of_ble_eq_true rfl) dL_windForce_5 ?_
  refine hm _ _ (fun e σ1 h1 => ?_) (fun e σ1 h1 => ?_) (fun e σ1 h1 => ?_)
  · dsimp only [Option.toList_some, Option.toList_none, List.cons_append, List.nil_append]
    refine J_i2l hC dL_windForce_8 ?_
    refine J_lastore1 hC hM hNB dL_windForce_9 ?_
    refine J_goto (tgt := 21) hC dL_windForce_10 rfl ?_
    refine J_iconst (v := nI 0) hC dL_windForce_21 (by decide) ?_
    refine J_ireturn hC hR dL_windForce_22 (by decide) (by decide) ?_
    have g := hq _ (Or.inl ⟨e, σ1, h1, rfl⟩)
    rw [e] at g
    exact g
  · refine JX_catch (hpre := []) (hsuf := [(0, 10, 17, 19)]) hC hT rfl (fun q hq9 => absurd hq9 List.not_mem_nil) (by decide) (by decide) q5_26 (by decide +kernel) (fun q => ?_)
    refine J_astore hC dL_windForce_13 (Nat.le_of_ble_eq_true rfl) rfl ?_
    dsimp only [List.set]
    refine J_iconst (v := nI 1) hC dL_windForce_15 (by decide) ?_
    refine J_ireturn hC hR dL_windForce_16 (by decide) (by decide) ?_
    have g := hq _ (Or.inr ⟨⟨by omega, by omega⟩, h1⟩)
    rw [e] at g
    exact g
  · refine JX_catch (hpre := [(0, 10, 13, 32)]) (hsuf := []) hC hT rfl (by
      intro q hq9
      simp only [List.mem_cons, List.not_mem_nil, or_false] at hq9
      rcases hq9 with rfl
      · exact ⟨by decide, "java/lang/IndexOutOfBoundsException", q5_26, by decide⟩) (by decide) (by decide) q3_132 (by decide +kernel) (fun q => ?_)
    refine J_astore hC dL_windForce_17 (Nat.le_of_ble_eq_true rfl) rfl ?_
    dsimp only [List.set]
    refine J_iconst (v := nI 2) hC dL_windForce_19 (by decide) ?_
    refine J_ireturn hC hR dL_windForce_20 (by decide) (by decide) ?_
    have g := hq _ (Or.inr ⟨⟨by omega, by omega⟩, h1⟩)
    rw [e] at g
    exact g
abbrev rmL_quota : Room := { frames := 8, cells := 1, slots := 6, locals := 132 }
abbrev ML_quota (G : GC) (w : Lay) (σ : Mem) (As : List Value) (Q : Lay → Option Value → Mem → Prop) (Qx : Lay → String → Mem → Prop) : Prop := MT G yL_quota (cww yL_quota cL_quota 4 (some .int) [(0, 9, 12, 32)]) rmL_quota 1 6 w σ As Q Qx
set_option maxHeartbeats 4000000 in
set_option maxRecDepth 100000 in
theorem c_L_quota {G : GC} {w : Lay} {σ : Mem} {Q : Lay → Option Value → Mem → Prop} {Qx : Lay → String → Mem → Prop} (hK : LK w) (hM : LM w) (hNB : ∀ q ∈ w.1, q.1 = 13 → q.2 < 10) {p0 : Int32} {a : Nat × Int32} {P PX : Mem → Prop} (hm : ∀ (Q1 : Lay → Option Value → Mem → Prop) (Qx1 : Lay → String → Mem → Prop), (a.1 = 0 → ∀ σ', P σ' → Q1 w (some (.int a.2)) σ') → (a.1 = 1 → ∀ σ', PX σ' → Qx1 w "java/lang/IndexOutOfBoundsException" σ') → MX9_quota G w σ [.ref (w.2.1 12 0), .int p0] Q1 Qx1)(hq : ∀ σ', LR P PX a σ' → Q w (some (.int (nI a.1))) σ') : ML_quota G w σ [.ref (w.2.1 12 0), .int p0, .ref (w.2.1 13 9)] Q Qx := by
  refine mt_startW (by decide) rfl (Nat.le_of_ble_eq_true rfl) (fun E hC hR hT => ?_)
  show J G E w 0 0 0 [some (.ref (w.2.1 12 0)), some (.int p0), some (.ref (w.2.1 13 9)), none] [] σ
  refine J_aload_n hC dL_quota_0 rfl rfl ?_
  refine J_iconst (v := nI 0) hC dL_quota_1 (by decide) ?_
  refine J_aload_n hC dL_quota_2 rfl rfl ?_
  refine J_iload_n hC dL_quota_3 rfl rfl ?_
  refine iL_78 hC hK rfl ⟨by decide, by decide⟩ ⟨by decide, by decide⟩ (Nat.le_of_ble_eq_true rfl) dL_quota_4 ?_
  refine hm _ _ (fun e σ1 h1 => ?_) (fun e σ1 h1 => ?_)
  · dsimp only [Option.toList_some, Option.toList_none, List.cons_append, List.nil_append]
    refine J_i2l hC dL_quota_7 ?_
    refine J_lastore1 hC hM hNB dL_quota_8 ?_
    refine J_goto (tgt := 15) hC dL_quota_9 rfl ?_
    refine J_iconst (v := nI 0) hC dL_quota_15 (by decide) ?_
    refine J_ireturn hC hR dL_quota_16 (by decide) (by decide) ?_
    have g := hq _ (Or.inl ⟨e, σ1, h1, rfl⟩)
    rw [e] at g
    exact g
  · refine JX_catch (hpre := []) (hsuf := []) hC hT rfl (fun q hq9 => absurd hq9 List.not_mem_nil) (by decide) (by decide) q5_26 (by decide +kernel) (fun q => ?_)
    refine J_astore_n hC dL_quota_12 rfl (Nat.le_of_ble_eq_true rfl) rfl ?_
    dsimp only [List.set]
    refine J_iconst (v := nI 1) hC dL_quota_13 (by decide) ?_
    refine J_ireturn hC hR dL_quota_14 (by decide) (by decide) ?_
    have g := hq _ (Or.inr ⟨⟨by omega, by omega⟩, h1⟩)
    rw [e] at g
    exact g
abbrev rmL_quotaUsed : Room := { frames := 8, cells := 2, slots := 12, locals := 133 }
abbrev ML_quotaUsed (G : GC) (w : Lay) (σ : Mem) (As : List Value) (Q : Lay → Option Value → Mem → Prop) (Qx : Lay → String → Mem → Prop) : Prop := MT G yL_quotaUsed (cww yL_quotaUsed cL_quotaUsed 5 (some .int) [(0, 10, 13, 32), (0, 10, 17, 19)]) rmL_quotaUsed 2 12 w σ As Q Qx
set_option maxHeartbeats 4000000 in
set_option maxRecDepth 100000 in
theorem c_L_quotaUsed {G : GC} {w : Lay} {σ : Mem} {Q : Lay → Option Value → Mem → Prop} {Qx : Lay → String → Mem → Prop} (hK : LK w) (hM : LM w) (hNB : ∀ q ∈ w.1, q.1 = 13 → q.2 < 10) {p0 p1 : Int32} {a : Nat × Int32} {P PX : Mem → Prop} (hm : ∀ (Q1 : Lay → Option Value → Mem → Prop) (Qx1 : Lay → String → Mem → Prop), (a.1 = 0 → ∀ σ', P σ' → Q1 w (some (.int a.2)) σ') → (a.1 = 1 → ∀ σ', PX σ' → Qx1 w "java/lang/IndexOutOfBoundsException" σ') → (a.1 = 2 → ∀ σ', PX σ' → Qx1 w "java/lang/IllegalArgumentException" σ') → MX9_quotaUsed G w σ [.ref (w.2.1 12 0), .int p0, .int p1] Q1 Qx1)(hq : ∀ σ', LR P PX a σ' → Q w (some (.int (nI a.1))) σ') : ML_quotaUsed G w σ [.ref (w.2.1 12 0), .int p0, .int p1, .ref (w.2.1 13 9)] Q Qx := by
  refine mt_startW (by decide) rfl (Nat.le_of_ble_eq_true rfl) (fun E hC hR hT => ?_)
  show J G E w 0 0 0 [some (.ref (w.2.1 12 0)), some (.int p0), some (.int p1), some (.ref (w.2.1 13 9)), none] [] σ
  refine J_aload_n hC dL_quotaUsed_0 rfl rfl ?_
  refine J_iconst (v := nI 0) hC dL_quotaUsed_1 (by decide) ?_
  refine J_aload_n hC dL_quotaUsed_2 rfl rfl ?_
  refine J_iload_n hC dL_quotaUsed_3 rfl rfl ?_
  refine J_iload_n hC dL_quotaUsed_4 rfl rfl ?_
  refine iL_81 hC hK rfl ⟨by decide, by decide⟩ ⟨by decide, by decide⟩ (Nat.le_of_ble_eq_true rfl) dL_quotaUsed_5 ?_
  refine hm _ _ (fun e σ1 h1 => ?_) (fun e σ1 h1 => ?_) (fun e σ1 h1 => ?_)
  · dsimp only [Option.toList_some, Option.toList_none, List.cons_append, List.nil_append]
    refine J_i2l hC dL_quotaUsed_8 ?_
    refine J_lastore1 hC hM hNB dL_quotaUsed_9 ?_
    refine J_goto (tgt := 21) hC dL_quotaUsed_10 rfl ?_
    refine J_iconst (v := nI 0) hC dL_quotaUsed_21 (by decide) ?_
    refine J_ireturn hC hR dL_quotaUsed_22 (by decide) (by decide) ?_
    have g := hq _ (Or.inl ⟨e, σ1, h1, rfl⟩)
    rw [e] at g
    exact g
  · refine JX_catch (hpre := []) (hsuf := [(0, 10, 17, 19)]) hC hT rfl (fun q hq9 => absurd hq9 List.not_mem_nil) (by decide) (by decide) q5_26 (by decide +kernel) (fun q => ?_)
    refine J_astore hC dL_quotaUsed_13 (Nat.le_of_ble_eq_true rfl) rfl ?_
    dsimp only [List.set]
    refine J_iconst (v := nI 1) hC dL_quotaUsed_15 (by decide) ?_
    refine J_ireturn hC hR dL_quotaUsed_16 (by decide) (by decide) ?_
    have g := hq _ (Or.inr ⟨⟨by omega, by omega⟩, h1⟩)
    rw [e] at g
    exact g
  · refine JX_catch (hpre := [(0, 10, 13, 32)]) (hsuf := []) hC hT rfl (by
      intro q hq9
      simp only [List.mem_cons, List.not_mem_nil, or_false] at hq9
      rcases hq9 with rfl
      · exact ⟨by decide, "java/lang/IndexOutOfBoundsException", q5_26, by decide⟩) (by decide) (by decide) q3_132 (by decide +kernel) (fun q => ?_)
    refine J_astore hC dL_quotaUsed_17 (Nat.le_of_ble_eq_true rfl) rfl ?_
    dsimp only [List.set]
    refine J_iconst (v := nI 2) hC dL_quotaUsed_19 (by decide) ?_
    refine J_ireturn hC hR dL_quotaUsed_20 (by decide) (by decide) ?_
    have g := hq _ (Or.inr ⟨⟨by omega, by omega⟩, h1⟩)
    rw [e] at g
    exact g
abbrev rmL_anchorX : Room := { frames := 8, cells := 1, slots := 6, locals := 132 }
abbrev ML_anchorX (G : GC) (w : Lay) (σ : Mem) (As : List Value) (Q : Lay → Option Value → Mem → Prop) (Qx : Lay → String → Mem → Prop) : Prop := MT G yL_anchorX (cww yL_anchorX cL_anchorX 4 (some .int) [(0, 9, 12, 32)]) rmL_anchorX 1 6 w σ As Q Qx
set_option maxHeartbeats 4000000 in
set_option maxRecDepth 100000 in
theorem c_L_anchorX {G : GC} {w : Lay} {σ : Mem} {Q : Lay → Option Value → Mem → Prop} {Qx : Lay → String → Mem → Prop} (hK : LK w) (hM : LM w) (hNB : ∀ q ∈ w.1, q.1 = 13 → q.2 < 10) {p0 : Int32} {a : Nat × Int32} {P PX : Mem → Prop} (hm : ∀ (Q1 : Lay → Option Value → Mem → Prop) (Qx1 : Lay → String → Mem → Prop), (a.1 = 0 → ∀ σ', P σ' → Q1 w (some (.int a.2)) σ') → (a.1 = 1 → ∀ σ', PX σ' → Qx1 w "java/lang/IndexOutOfBoundsException" σ') → MX9_anchorX G w σ [.ref (w.2.1 12 0), .int p0] Q1 Qx1)(hq : ∀ σ', LR P PX a σ' → Q w (some (.int (nI a.1))) σ') : ML_anchorX G w σ [.ref (w.2.1 12 0), .int p0, .ref (w.2.1 13 9)] Q Qx := by
  refine mt_startW (by decide) rfl (Nat.le_of_ble_eq_true rfl) (fun E hC hR hT => ?_)
  show J G E w 0 0 0 [some (.ref (w.2.1 12 0)), some (.int p0), some (.ref (w.2.1 13 9)), none] [] σ
  refine J_aload_n hC dL_anchorX_0 rfl rfl ?_
  refine J_iconst (v := nI 0) hC dL_anchorX_1 (by decide) ?_
  refine J_aload_n hC dL_anchorX_2 rfl rfl ?_
  refine J_iload_n hC dL_anchorX_3 rfl rfl ?_
  refine iL_84 hC hK rfl ⟨by decide, by decide⟩ ⟨by decide, by decide⟩ (Nat.le_of_ble_eq_true rfl) dL_anchorX_4 ?_
  refine hm _ _ (fun e σ1 h1 => ?_) (fun e σ1 h1 => ?_)
  · dsimp only [Option.toList_some, Option.toList_none, List.cons_append, List.nil_append]
    refine J_i2l hC dL_anchorX_7 ?_
    refine J_lastore1 hC hM hNB dL_anchorX_8 ?_
    refine J_goto (tgt := 15) hC dL_anchorX_9 rfl ?_
    refine J_iconst (v := nI 0) hC dL_anchorX_15 (by decide) ?_
    refine J_ireturn hC hR dL_anchorX_16 (by decide) (by decide) ?_
    have g := hq _ (Or.inl ⟨e, σ1, h1, rfl⟩)
    rw [e] at g
    exact g
  · refine JX_catch (hpre := []) (hsuf := []) hC hT rfl (fun q hq9 => absurd hq9 List.not_mem_nil) (by decide) (by decide) q5_26 (by decide +kernel) (fun q => ?_)
    refine J_astore_n hC dL_anchorX_12 rfl (Nat.le_of_ble_eq_true rfl) rfl ?_
    dsimp only [List.set]
    refine J_iconst (v := nI 1) hC dL_anchorX_13 (by decide) ?_
    refine J_ireturn hC hR dL_anchorX_14 (by decide) (by decide) ?_
    have g := hq _ (Or.inr ⟨⟨by omega, by omega⟩, h1⟩)
    rw [e] at g
    exact g
abbrev rmL_anchorY : Room := { frames := 8, cells := 1, slots := 6, locals := 132 }
abbrev ML_anchorY (G : GC) (w : Lay) (σ : Mem) (As : List Value) (Q : Lay → Option Value → Mem → Prop) (Qx : Lay → String → Mem → Prop) : Prop := MT G yL_anchorY (cww yL_anchorY cL_anchorY 4 (some .int) [(0, 9, 12, 32)]) rmL_anchorY 1 6 w σ As Q Qx
set_option maxHeartbeats 4000000 in
set_option maxRecDepth 100000 in
theorem c_L_anchorY {G : GC} {w : Lay} {σ : Mem} {Q : Lay → Option Value → Mem → Prop} {Qx : Lay → String → Mem → Prop} (hK : LK w) (hM : LM w) (hNB : ∀ q ∈ w.1, q.1 = 13 → q.2 < 10) {p0 : Int32} {a : Nat × Int32} {P PX : Mem → Prop} (hm : ∀ (Q1 : Lay → Option Value → Mem → Prop) (Qx1 : Lay → String → Mem → Prop), (a.1 = 0 → ∀ σ', P σ' → Q1 w (some (.int a.2)) σ') → (a.1 = 1 → ∀ σ', PX σ' → Qx1 w "java/lang/IndexOutOfBoundsException" σ') → MX9_anchorY G w σ [.ref (w.2.1 12 0), .int p0] Q1 Qx1)(hq : ∀ σ', LR P PX a σ' → Q w (some (.int (nI a.1))) σ') : ML_anchorY G w σ [.ref (w.2.1 12 0), .int p0, .ref (w.2.1 13 9)] Q Qx := by
  refine mt_startW (by decide) rfl (Nat.le_of_ble_eq_true rfl) (fun E hC hR hT => ?_)
  show J G E w 0 0 0 [some (.ref (w.2.1 12 0)), some (.int p0), some (.ref (w.2.1 13 9)), none] [] σ
  refine J_aload_n hC dL_anchorY_0 rfl rfl ?_
  refine J_iconst (v := nI 0) hC dL_anchorY_1 (by decide) ?_
  refine J_aload_n hC dL_anchorY_2 rfl rfl ?_
  refine J_iload_n hC dL_anchorY_3 rfl rfl ?_
  refine iL_87 hC hK rfl ⟨by decide, by decide⟩ ⟨by decide, by decide⟩ (Nat.le_of_ble_eq_true rfl) dL_anchorY_4 ?_
  refine hm _ _ (fun e σ1 h1 => ?_) (fun e σ1 h1 => ?_)
  · dsimp only [Option.toList_some, Option.toList_none, List.cons_append, List.nil_append]
    refine J_i2l hC dL_anchorY_7 ?_
    refine J_lastore1 hC hM hNB dL_anchorY_8 ?_
    refine J_goto (tgt := 15) hC dL_anchorY_9 rfl ?_
    refine J_iconst (v := nI 0) hC dL_anchorY_15 (by decide) ?_
    refine J_ireturn hC hR dL_anchorY_16 (by decide) (by decide) ?_
    have g := hq _ (Or.inl ⟨e, σ1, h1, rfl⟩)
    rw [e] at g
    exact g
  · refine JX_catch (hpre := []) (hsuf := []) hC hT rfl (fun q hq9 => absurd hq9 List.not_mem_nil) (by decide) (by decide) q5_26 (by decide +kernel) (fun q => ?_)
    refine J_astore_n hC dL_anchorY_12 rfl (Nat.le_of_ble_eq_true rfl) rfl ?_
    dsimp only [List.set]
    refine J_iconst (v := nI 1) hC dL_anchorY_13 (by decide) ?_
    refine J_ireturn hC hR dL_anchorY_14 (by decide) (by decide) ?_
    have g := hq _ (Or.inr ⟨⟨by omega, by omega⟩, h1⟩)
    rw [e] at g
    exact g
abbrev rmL_stringLength : Room := { frames := 8, cells := 1, slots := 6, locals := 132 }
abbrev ML_stringLength (G : GC) (w : Lay) (σ : Mem) (As : List Value) (Q : Lay → Option Value → Mem → Prop) (Qx : Lay → String → Mem → Prop) : Prop := MT G yL_stringLength (cww yL_stringLength cL_stringLength 4 (some .int) [(0, 9, 12, 32)]) rmL_stringLength 1 6 w σ As Q Qx
set_option maxHeartbeats 4000000 in
set_option maxRecDepth 100000 in
theorem c_L_stringLength {G : GC} {w : Lay} {σ : Mem} {Q : Lay → Option Value → Mem → Prop} {Qx : Lay → String → Mem → Prop} (hK : LK w) (hM : LM w) (hNB : ∀ q ∈ w.1, q.1 = 13 → q.2 < 10) {p0 : Int32} {a : Nat × Int32} {P PX : Mem → Prop} (hm : ∀ (Q1 : Lay → Option Value → Mem → Prop) (Qx1 : Lay → String → Mem → Prop), (a.1 = 0 → ∀ σ', P σ' → Q1 w (some (.int a.2)) σ') → (a.1 = 1 → ∀ σ', PX σ' → Qx1 w "java/lang/IndexOutOfBoundsException" σ') → MX9_stringLength G w σ [.ref (w.2.1 12 0), .int p0] Q1 Qx1)(hq : ∀ σ', LR P PX a σ' → Q w (some (.int (nI a.1))) σ') : ML_stringLength G w σ [.ref (w.2.1 12 0), .int p0, .ref (w.2.1 13 9)] Q Qx := by
  refine mt_startW (by decide) rfl (Nat.le_of_ble_eq_true rfl) (fun E hC hR hT => ?_)
  show J G E w 0 0 0 [some (.ref (w.2.1 12 0)), some (.int p0), some (.ref (w.2.1 13 9)), none] [] σ
  refine J_aload_n hC dL_stringLength_0 rfl rfl ?_
  refine J_iconst (v := nI 0) hC dL_stringLength_1 (by decide) ?_
  refine J_aload_n hC dL_stringLength_2 rfl rfl ?_
  refine J_iload_n hC dL_stringLength_3 rfl rfl ?_
  refine iL_90 hC hK rfl ⟨by decide, by decide⟩ ⟨by decide, by decide⟩ (Nat.le_of_ble_eq_true rfl) dL_stringLength_4 ?_
  refine hm _ _ (fun e σ1 h1 => ?_) (fun e σ1 h1 => ?_)
  · dsimp only [Option.toList_some, Option.toList_none, List.cons_append, List.nil_append]
    refine J_i2l hC dL_stringLength_7 ?_
    refine J_lastore1 hC hM hNB dL_stringLength_8 ?_
    refine J_goto (tgt := 15) hC dL_stringLength_9 rfl ?_
    refine J_iconst (v := nI 0) hC dL_stringLength_15 (by decide) ?_
    refine J_ireturn hC hR dL_stringLength_16 (by decide) (by decide) ?_
    have g := hq _ (Or.inl ⟨e, σ1, h1, rfl⟩)
    rw [e] at g
    exact g
  · refine JX_catch (hpre := []) (hsuf := []) hC hT rfl (fun q hq9 => absurd hq9 List.not_mem_nil) (by decide) (by decide) q5_26 (by decide +kernel) (fun q => ?_)
    refine J_astore_n hC dL_stringLength_12 rfl (Nat.le_of_ble_eq_true rfl) rfl ?_
    dsimp only [List.set]
    refine J_iconst (v := nI 1) hC dL_stringLength_13 (by decide) ?_
    refine J_ireturn hC hR dL_stringLength_14 (by decide) (by decide) ?_
    have g := hq _ (Or.inr ⟨⟨by omega, by omega⟩, h1⟩)
    rw [e] at g
    exact g
abbrev rmL_colourOf : Room := { frames := 8, cells := 1, slots := 6, locals := 132 }
abbrev ML_colourOf (G : GC) (w : Lay) (σ : Mem) (As : List Value) (Q : Lay → Option Value → Mem → Prop) (Qx : Lay → String → Mem → Prop) : Prop := MT G yL_colourOf (cww yL_colourOf cL_colourOf 4 (some .int) [(0, 9, 12, 32)]) rmL_colourOf 1 6 w σ As Q Qx
set_option maxHeartbeats 4000000 in
set_option maxRecDepth 100000 in
theorem c_L_colourOf {G : GC} {w : Lay} {σ : Mem} {Q : Lay → Option Value → Mem → Prop} {Qx : Lay → String → Mem → Prop} (hK : LK w) (hM : LM w) (hNB : ∀ q ∈ w.1, q.1 = 13 → q.2 < 10) {p0 : Int32} {a : Nat × Int32} {P PX : Mem → Prop} (hm : ∀ (Q1 : Lay → Option Value → Mem → Prop) (Qx1 : Lay → String → Mem → Prop), (a.1 = 0 → ∀ σ', P σ' → Q1 w (some (.int a.2)) σ') → (a.1 = 1 → ∀ σ', PX σ' → Qx1 w "java/lang/IndexOutOfBoundsException" σ') → MX9_colourOf G w σ [.ref (w.2.1 12 0), .int p0] Q1 Qx1)(hq : ∀ σ', LR P PX a σ' → Q w (some (.int (nI a.1))) σ') : ML_colourOf G w σ [.ref (w.2.1 12 0), .int p0, .ref (w.2.1 13 9)] Q Qx := by
  refine mt_startW (by decide) rfl (Nat.le_of_ble_eq_true rfl) (fun E hC hR hT => ?_)
  show J G E w 0 0 0 [some (.ref (w.2.1 12 0)), some (.int p0), some (.ref (w.2.1 13 9)), none] [] σ
  refine J_aload_n hC dL_colourOf_0 rfl rfl ?_
  refine J_iconst (v := nI 0) hC dL_colourOf_1 (by decide) ?_
  refine J_aload_n hC dL_colourOf_2 rfl rfl ?_
  refine J_iload_n hC dL_colourOf_3 rfl rfl ?_
  refine iL_93 hC hK rfl ⟨by decide, by decide⟩ ⟨by decide, by decide⟩ (Nat.le_of_ble_eq_true rfl) dL_colourOf_4 ?_
  refine hm _ _ (fun e σ1 h1 => ?_) (fun e σ1 h1 => ?_)
  · dsimp only [Option.toList_some, Option.toList_none, List.cons_append, List.nil_append]
    refine J_i2l hC dL_colourOf_7 ?_
    refine J_lastore1 hC hM hNB dL_colourOf_8 ?_
    refine J_goto (tgt := 15) hC dL_colourOf_9 rfl ?_
    refine J_iconst (v := nI 0) hC dL_colourOf_15 (by decide) ?_
    refine J_ireturn hC hR dL_colourOf_16 (by decide) (by decide) ?_
    have g := hq _ (Or.inl ⟨e, σ1, h1, rfl⟩)
    rw [e] at g
    exact g
  · refine JX_catch (hpre := []) (hsuf := []) hC hT rfl (fun q hq9 => absurd hq9 List.not_mem_nil) (by decide) (by decide) q5_26 (by decide +kernel) (fun q => ?_)
    refine J_astore_n hC dL_colourOf_12 rfl (Nat.le_of_ble_eq_true rfl) rfl ?_
    dsimp only [List.set]
    refine J_iconst (v := nI 1) hC dL_colourOf_13 (by decide) ?_
    refine J_ireturn hC hR dL_colourOf_14 (by decide) (by decide) ?_
    have g := hq _ (Or.inr ⟨⟨by omega, by omega⟩, h1⟩)
    rw [e] at g
    exact g
abbrev rmL_knots : Room := { frames := 8, cells := 1, slots := 6, locals := 132 }
abbrev ML_knots (G : GC) (w : Lay) (σ : Mem) (As : List Value) (Q : Lay → Option Value → Mem → Prop) (Qx : Lay → String → Mem → Prop) : Prop := MT G yL_knots (cww yL_knots cL_knots 4 (some .int) [(0, 9, 12, 32)]) rmL_knots 1 6 w σ As Q Qx
set_option maxHeartbeats 4000000 in
set_option maxRecDepth 100000 in
theorem c_L_knots {G : GC} {w : Lay} {σ : Mem} {Q : Lay → Option Value → Mem → Prop} {Qx : Lay → String → Mem → Prop} (hK : LK w) (hM : LM w) (hNB : ∀ q ∈ w.1, q.1 = 13 → q.2 < 10) {p0 : Int32} {a : Nat × Int32} {P PX : Mem → Prop} (hm : ∀ (Q1 : Lay → Option Value → Mem → Prop) (Qx1 : Lay → String → Mem → Prop), (a.1 = 0 → ∀ σ', P σ' → Q1 w (some (.int a.2)) σ') → (a.1 = 1 → ∀ σ', PX σ' → Qx1 w "java/lang/IndexOutOfBoundsException" σ') → MX9_knots G w σ [.ref (w.2.1 12 0), .int p0] Q1 Qx1)(hq : ∀ σ', LR P PX a σ' → Q w (some (.int (nI a.1))) σ') : ML_knots G w σ [.ref (w.2.1 12 0), .int p0, .ref (w.2.1 13 9)] Q Qx := by
  refine mt_startW (by decide) rfl (Nat.le_of_ble_eq_true rfl) (fun E hC hR hT => ?_)
  show J G E w 0 0 0 [some (.ref (w.2.1 12 0)), some (.int p0), some (.ref (w.2.1 13 9)), none] [] σ
  refine J_aload_n hC dL_knots_0 rfl rfl ?_
  refine J_iconst (v := nI 0) hC dL_knots_1 (by decide) ?_
  refine J_aload_n hC dL_knots_2 rfl rfl ?_
  refine J_iload_n hC dL_knots_3 rfl rfl ?_
  refine iL_96 hC hK rfl ⟨by decide, by decide⟩ ⟨by decide, by decide⟩ (Nat.le_of_ble_eq_true rfl) dL_knots_4 ?_
  refine hm _ _ (fun e σ1 h1 => ?_) (fun e σ1 h1 => ?_)
  · dsimp only [Option.toList_some, Option.toList_none, List.cons_append, List.nil_append]
    refine J_i2l hC dL_knots_7 ?_
    refine J_lastore1 hC hM hNB dL_knots_8 ?_
    refine J_goto (tgt := 15) hC dL_knots_9 rfl ?_
    refine J_iconst (v := nI 0) hC dL_knots_15 (by decide) ?_
    refine J_ireturn hC hR dL_knots_16 (by decide) (by decide) ?_
    have g := hq _ (Or.inl ⟨e, σ1, h1, rfl⟩)
    rw [e] at g
    exact g
  · refine JX_catch (hpre := []) (hsuf := []) hC hT rfl (fun q hq9 => absurd hq9 List.not_mem_nil) (by decide) (by decide) q5_26 (by decide +kernel) (fun q => ?_)
    refine J_astore_n hC dL_knots_12 rfl (Nat.le_of_ble_eq_true rfl) rfl ?_
    dsimp only [List.set]
    refine J_iconst (v := nI 1) hC dL_knots_13 (by decide) ?_
    refine J_ireturn hC hR dL_knots_14 (by decide) (by decide) ?_
    have g := hq _ (Or.inr ⟨⟨by omega, by omega⟩, h1⟩)
    rw [e] at g
    exact g
abbrev rmL_purse : Room := { frames := 8, cells := 1, slots := 6, locals := 132 }
abbrev ML_purse (G : GC) (w : Lay) (σ : Mem) (As : List Value) (Q : Lay → Option Value → Mem → Prop) (Qx : Lay → String → Mem → Prop) : Prop := MT G yL_purse (cww yL_purse cL_purse 4 (some .int) [(0, 9, 12, 32)]) rmL_purse 1 6 w σ As Q Qx
set_option maxHeartbeats 4000000 in
set_option maxRecDepth 100000 in
theorem c_L_purse {G : GC} {w : Lay} {σ : Mem} {Q : Lay → Option Value → Mem → Prop} {Qx : Lay → String → Mem → Prop} (hK : LK w) (hM : LM w) (hNB : ∀ q ∈ w.1, q.1 = 13 → q.2 < 10) {p0 : Int32} {a : Nat × Int32} {P PX : Mem → Prop} (hm : ∀ (Q1 : Lay → Option Value → Mem → Prop) (Qx1 : Lay → String → Mem → Prop), (a.1 = 0 → ∀ σ', P σ' → Q1 w (some (.int a.2)) σ') → (a.1 = 1 → ∀ σ', PX σ' → Qx1 w "java/lang/IndexOutOfBoundsException" σ') → MX9_purse G w σ [.ref (w.2.1 12 0), .int p0] Q1 Qx1)(hq : ∀ σ', LR P PX a σ' → Q w (some (.int (nI a.1))) σ') : ML_purse G w σ [.ref (w.2.1 12 0), .int p0, .ref (w.2.1 13 9)] Q Qx := by
  refine mt_startW (by decide) rfl (Nat.le_of_ble_eq_true rfl) (fun E hC hR hT => ?_)
  show J G E w 0 0 0 [some (.ref (w.2.1 12 0)), some (.int p0), some (.ref (w.2.1 13 9)), none] [] σ
  refine J_aload_n hC dL_purse_0 rfl rfl ?_
  refine J_iconst (v := nI 0) hC dL_purse_1 (by decide) ?_
  refine J_aload_n hC dL_purse_2 rfl rfl ?_
  refine J_iload_n hC dL_purse_3 rfl rfl ?_
  refine iL_99 hC hK rfl ⟨by decide, by decide⟩ ⟨by decide, by decide⟩ (Nat.le_of_ble_eq_true rfl) dL_purse_4 ?_
  refine hm _ _ (fun e σ1 h1 => ?_) (fun e σ1 h1 => ?_)
  · dsimp only [Option.toList_some, Option.toList_none, List.cons_append, List.nil_append]
    refine J_i2l hC dL_purse_7 ?_
    refine J_lastore1 hC hM hNB dL_purse_8 ?_
    refine J_goto (tgt := 15) hC dL_purse_9 rfl ?_
    refine J_iconst (v := nI 0) hC dL_purse_15 (by decide) ?_
    refine J_ireturn hC hR dL_purse_16 (by decide) (by decide) ?_
    have g := hq _ (Or.inl ⟨e, σ1, h1, rfl⟩)
    rw [e] at g
    exact g
  · refine JX_catch (hpre := []) (hsuf := []) hC hT rfl (fun q hq9 => absurd hq9 List.not_mem_nil) (by decide) (by decide) q5_26 (by decide +kernel) (fun q => ?_)
    refine J_astore_n hC dL_purse_12 rfl (Nat.le_of_ble_eq_true rfl) rfl ?_
    dsimp only [List.set]
    refine J_iconst (v := nI 1) hC dL_purse_13 (by decide) ?_
    refine J_ireturn hC hR dL_purse_14 (by decide) (by decide) ?_
    have g := hq _ (Or.inr ⟨⟨by omega, by omega⟩, h1⟩)
    rw [e] at g
    exact g
abbrev rmL_stateOf : Room := { frames := 8, cells := 1, slots := 6, locals := 132 }
abbrev ML_stateOf (G : GC) (w : Lay) (σ : Mem) (As : List Value) (Q : Lay → Option Value → Mem → Prop) (Qx : Lay → String → Mem → Prop) : Prop := MT G yL_stateOf (cww yL_stateOf cL_stateOf 4 (some .int) [(0, 9, 12, 32)]) rmL_stateOf 1 6 w σ As Q Qx
set_option maxHeartbeats 4000000 in
set_option maxRecDepth 100000 in
theorem c_L_stateOf {G : GC} {w : Lay} {σ : Mem} {Q : Lay → Option Value → Mem → Prop} {Qx : Lay → String → Mem → Prop} (hK : LK w) (hM : LM w) (hNB : ∀ q ∈ w.1, q.1 = 13 → q.2 < 10) {p0 : Int32} {a : Nat × Int32} {P PX : Mem → Prop} (hm : ∀ (Q1 : Lay → Option Value → Mem → Prop) (Qx1 : Lay → String → Mem → Prop), (a.1 = 0 → ∀ σ', P σ' → Q1 w (some (.int a.2)) σ') → (a.1 = 1 → ∀ σ', PX σ' → Qx1 w "java/lang/IndexOutOfBoundsException" σ') → MX9_stateOf G w σ [.ref (w.2.1 12 0), .int p0] Q1 Qx1)(hq : ∀ σ', LR P PX a σ' → Q w (some (.int (nI a.1))) σ') : ML_stateOf G w σ [.ref (w.2.1 12 0), .int p0, .ref (w.2.1 13 9)] Q Qx := by
  refine mt_startW (by decide) rfl (Nat.le_of_ble_eq_true rfl) (fun E hC hR hT => ?_)
  show J G E w 0 0 0 [some (.ref (w.2.1 12 0)), some (.int p0), some (.ref (w.2.1 13 9)), none] [] σ
  refine J_aload_n hC dL_stateOf_0 rfl rfl ?_
  refine J_iconst (v := nI 0) hC dL_stateOf_1 (by decide) ?_
  refine J_aload_n hC dL_stateOf_2 rfl rfl ?_
  refine J_iload_n hC dL_stateOf_3 rfl rfl ?_
  refine iL_102 hC hK rfl ⟨by decide, by decide⟩ ⟨by decide, by decide⟩ (Nat.le_of_ble_eq_true rfl) dL_stateOf_4 ?_
  refine hm _ _ (fun e σ1 h1 => ?_) (fun e σ1 h1 => ?_)
  · dsimp only [Option.toList_some, Option.toList_none, List.cons_append, List.nil_append]
    refine J_i2l hC dL_stateOf_7 ?_
    refine J_lastore1 hC hM hNB dL_stateOf_8 ?_
    refine J_goto (tgt := 15) hC dL_stateOf_9 rfl ?_
    refine J_iconst (v := nI 0) hC dL_stateOf_15 (by decide) ?_
    refine J_ireturn hC hR dL_stateOf_16 (by decide) (by decide) ?_
    have g := hq _ (Or.inl ⟨e, σ1, h1, rfl⟩)
    rw [e] at g
    exact g
  · refine JX_catch (hpre := []) (hsuf := []) hC hT rfl (fun q hq9 => absurd hq9 List.not_mem_nil) (by decide) (by decide) q5_26 (by decide +kernel) (fun q => ?_)
    refine J_astore_n hC dL_stateOf_12 rfl (Nat.le_of_ble_eq_true rfl) rfl ?_
    dsimp only [List.set]
    refine J_iconst (v := nI 1) hC dL_stateOf_13 (by decide) ?_
    refine J_ireturn hC hR dL_stateOf_14 (by decide) (by decide) ?_
    have g := hq _ (Or.inr ⟨⟨by omega, by omega⟩, h1⟩)
    rw [e] at g
    exact g
abbrev rmL_zoneOf : Room := { frames := 8, cells := 1, slots := 6, locals := 132 }
abbrev ML_zoneOf (G : GC) (w : Lay) (σ : Mem) (As : List Value) (Q : Lay → Option Value → Mem → Prop) (Qx : Lay → String → Mem → Prop) : Prop := MT G yL_zoneOf (cww yL_zoneOf cL_zoneOf 4 (some .int) [(0, 9, 12, 32)]) rmL_zoneOf 1 6 w σ As Q Qx
set_option maxHeartbeats 4000000 in
set_option maxRecDepth 100000 in
theorem c_L_zoneOf {G : GC} {w : Lay} {σ : Mem} {Q : Lay → Option Value → Mem → Prop} {Qx : Lay → String → Mem → Prop} (hK : LK w) (hM : LM w) (hNB : ∀ q ∈ w.1, q.1 = 13 → q.2 < 10) {p0 : Int32} {a : Nat × Int32} {P PX : Mem → Prop} (hm : ∀ (Q1 : Lay → Option Value → Mem → Prop) (Qx1 : Lay → String → Mem → Prop), (a.1 = 0 → ∀ σ', P σ' → Q1 w (some (.int a.2)) σ') → (a.1 = 1 → ∀ σ', PX σ' → Qx1 w "java/lang/IndexOutOfBoundsException" σ') → MX9_zoneOf G w σ [.ref (w.2.1 12 0), .int p0] Q1 Qx1)(hq : ∀ σ', LR P PX a σ' → Q w (some (.int (nI a.1))) σ') : ML_zoneOf G w σ [.ref (w.2.1 12 0), .int p0, .ref (w.2.1 13 9)] Q Qx := by
  refine mt_startW (by decide) rfl (Nat.le_of_ble_eq_true rfl) (fun E hC hR hT => ?_)
  show J G E w 0 0 0 [some (.ref (w.2.1 12 0)), some (.int p0), some (.ref (w.2.1 13 9)), none] [] σ
  refine J_aload_n hC dL_zoneOf_0 rfl rfl ?_
  refine J_iconst (v := nI 0) hC dL_zoneOf_1 (by decide) ?_
  refine J_aload_n hC dL_zoneOf_2 rfl rfl ?_
  refine J_iload_n hC dL_zoneOf_3 rfl rfl ?_
  refine iL_105 hC hK rfl ⟨by decide, by decide⟩ ⟨by decide, by decide⟩ (Nat.le_of_ble_eq_true rfl) dL_zoneOf_4 ?_
  refine hm _ _ (fun e σ1 h1 => ?_) (fun e σ1 h1 => ?_)
  · dsimp only [Option.toList_some, Option.toList_none, List.cons_append, List.nil_append]
    refine J_i2l hC dL_zoneOf_7 ?_
    refine J_lastore1 hC hM hNB dL_zoneOf_8 ?_
    refine J_goto (tgt := 15) hC dL_zoneOf_9 rfl ?_
    refine J_iconst (v := nI 0) hC dL_zoneOf_15 (by decide) ?_
    refine J_ireturn hC hR dL_zoneOf_16 (by decide) (by decide) ?_
    have g := hq _ (Or.inl ⟨e, σ1, h1, rfl⟩)
    rw [e] at g
    exact g
  · refine JX_catch (hpre := []) (hsuf := []) hC hT rfl (fun q hq9 => absurd hq9 List.not_mem_nil) (by decide) (by decide) q5_26 (by decide +kernel) (fun q => ?_)
    refine J_astore_n hC dL_zoneOf_12 rfl (Nat.le_of_ble_eq_true rfl) rfl ?_
    dsimp only [List.set]
    refine J_iconst (v := nI 1) hC dL_zoneOf_13 (by decide) ?_
    refine J_ireturn hC hR dL_zoneOf_14 (by decide) (by decide) ?_
    have g := hq _ (Or.inr ⟨⟨by omega, by omega⟩, h1⟩)
    rw [e] at g
    exact g
abbrev rmL_tangles : Room := { frames := 8, cells := 1, slots := 6, locals := 132 }
abbrev ML_tangles (G : GC) (w : Lay) (σ : Mem) (As : List Value) (Q : Lay → Option Value → Mem → Prop) (Qx : Lay → String → Mem → Prop) : Prop := MT G yL_tangles (cww yL_tangles cL_tangles 4 (some .int) [(0, 9, 12, 32)]) rmL_tangles 1 6 w σ As Q Qx
set_option maxHeartbeats 4000000 in
set_option maxRecDepth 100000 in
theorem c_L_tangles {G : GC} {w : Lay} {σ : Mem} {Q : Lay → Option Value → Mem → Prop} {Qx : Lay → String → Mem → Prop} (hK : LK w) (hM : LM w) (hNB : ∀ q ∈ w.1, q.1 = 13 → q.2 < 10) {p0 : Int32} {a : Nat × Int32} {P PX : Mem → Prop} (hm : ∀ (Q1 : Lay → Option Value → Mem → Prop) (Qx1 : Lay → String → Mem → Prop), (a.1 = 0 → ∀ σ', P σ' → Q1 w (some (.int a.2)) σ') → (a.1 = 1 → ∀ σ', PX σ' → Qx1 w "java/lang/IndexOutOfBoundsException" σ') → MX9_tangles G w σ [.ref (w.2.1 12 0), .int p0] Q1 Qx1)(hq : ∀ σ', LR P PX a σ' → Q w (some (.int (nI a.1))) σ') : ML_tangles G w σ [.ref (w.2.1 12 0), .int p0, .ref (w.2.1 13 9)] Q Qx := by
  refine mt_startW (by decide) rfl (Nat.le_of_ble_eq_true rfl) (fun E hC hR hT => ?_)
  show J G E w 0 0 0 [some (.ref (w.2.1 12 0)), some (.int p0), some (.ref (w.2.1 13 9)), none] [] σ
  refine J_aload_n hC dL_tangles_0 rfl rfl ?_
  refine J_iconst (v := nI 0) hC dL_tangles_1 (by decide) ?_
  refine J_aload_n hC dL_tangles_2 rfl rfl ?_
  refine J_iload_n hC dL_tangles_3 rfl rfl ?_
  refine iL_108 hC hK rfl ⟨by decide, by decide⟩ ⟨by decide, by decide⟩ (Nat.le_of_ble_eq_true rfl) dL_tangles_4 ?_
  refine hm _ _ (fun e σ1 h1 => ?_) (fun e σ1 h1 => ?_)
  · dsimp only [Option.toList_some, Option.toList_none, List.cons_append, List.nil_append]
    refine J_i2l hC dL_tangles_7 ?_
    refine J_lastore1 hC hM hNB dL_tangles_8 ?_
    refine J_goto (tgt := 15) hC dL_tangles_9 rfl ?_
    refine J_iconst (v := nI 0) hC dL_tangles_15 (by decide) ?_
    refine J_ireturn hC hR dL_tangles_16 (by decide) (by decide) ?_
    have g := hq _ (Or.inl ⟨e, σ1, h1, rfl⟩)
    rw [e] at g
    exact g
  · refine JX_catch (hpre := []) (hsuf := []) hC hT rfl (fun q hq9 => absurd hq9 List.not_mem_nil) (by decide) (by decide) q5_26 (by decide +kernel) (fun q => ?_)
    refine J_astore_n hC dL_tangles_12 rfl (Nat.le_of_ble_eq_true rfl) rfl ?_
    dsimp only [List.set]
    refine J_iconst (v := nI 1) hC dL_tangles_13 (by decide) ?_
    refine J_ireturn hC hR dL_tangles_14 (by decide) (by decide) ?_
    have g := hq _ (Or.inr ⟨⟨by omega, by omega⟩, h1⟩)
    rw [e] at g
    exact g
abbrev rmL_reach : Room := { frames := 8, cells := 2, slots := 12, locals := 133 }
abbrev ML_reach (G : GC) (w : Lay) (σ : Mem) (As : List Value) (Q : Lay → Option Value → Mem → Prop) (Qx : Lay → String → Mem → Prop) : Prop := MT G yL_reach (cww yL_reach cL_reach 5 (some .int) [(0, 10, 13, 32), (0, 10, 17, 19)]) rmL_reach 2 12 w σ As Q Qx
set_option maxHeartbeats 4000000 in
set_option maxRecDepth 100000 in
theorem c_L_reach {G : GC} {w : Lay} {σ : Mem} {Q : Lay → Option Value → Mem → Prop} {Qx : Lay → String → Mem → Prop} (hK : LK w) (hM : LM w) (hNB : ∀ q ∈ w.1, q.1 = 13 → q.2 < 10) {p0 p1 : Int32} {a : Nat × Int32} {P PX : Mem → Prop} (hm : ∀ (Q1 : Lay → Option Value → Mem → Prop) (Qx1 : Lay → String → Mem → Prop), (a.1 = 0 → ∀ σ', P σ' → Q1 w (some (.int a.2)) σ') → (a.1 = 1 → ∀ σ', PX σ' → Qx1 w "java/lang/IndexOutOfBoundsException" σ') → (a.1 = 2 → ∀ σ', PX σ' → Qx1 w "java/lang/IllegalArgumentException" σ') → MX9_reach G w σ [.ref (w.2.1 12 0), .int p0, .int p1] Q1 Qx1)(hq : ∀ σ', LR P PX a σ' → Q w (some (.int (nI a.1))) σ') : ML_reach G w σ [.ref (w.2.1 12 0), .int p0, .int p1, .ref (w.2.1 13 9)] Q Qx := by
  refine mt_startW (by decide) rfl (Nat.le_of_ble_eq_true rfl) (fun E hC hR hT => ?_)
  show J G E w 0 0 0 [some (.ref (w.2.1 12 0)), some (.int p0), some (.int p1), some (.ref (w.2.1 13 9)), none] [] σ
  refine J_aload_n hC dL_reach_0 rfl rfl ?_
  refine J_iconst (v := nI 0) hC dL_reach_1 (by decide) ?_
  refine J_aload_n hC dL_reach_2 rfl rfl ?_
  refine J_iload_n hC dL_reach_3 rfl rfl ?_
  refine J_iload_n hC dL_reach_4 rfl rfl ?_
  refine iL_111 hC hK rfl ⟨by decide, by decide⟩ ⟨by decide, by decide⟩ (Nat.le_of_ble_eq_true rfl) dL_reach_5 ?_
  refine hm _ _ (fun e σ1 h1 => ?_) (fun e σ1 h1 => ?_) (fun e σ1 h1 => ?_)
  · dsimp only [Option.toList_some, Option.toList_none, List.cons_append, List.nil_append]
    refine J_i2l hC dL_reach_8 ?_
    refine J_lastore1 hC hM hNB dL_reach_9 ?_
    refine J_goto (tgt := 21) hC dL_reach_10 rfl ?_
    refine J_iconst (v := nI 0) hC dL_reach_21 (by decide) ?_
    refine J_ireturn hC hR dL_reach_22 (by decide) (by decide) ?_
    have g := hq _ (Or.inl ⟨e, σ1, h1, rfl⟩)
    rw [e] at g
    exact g
  · refine JX_catch (hpre := []) (hsuf := [(0, 10, 17, 19)]) hC hT rfl (fun q hq9 => absurd hq9 List.not_mem_nil) (by decide) (by decide) q5_26 (by decide +kernel) (fun q => ?_)
    refine J_astore hC dL_reach_13 (Nat.le_of_ble_eq_true rfl) rfl ?_
    dsimp only [List.set]
    refine J_iconst (v := nI 1) hC dL_reach_15 (by decide) ?_
    refine J_ireturn hC hR dL_reach_16 (by decide) (by decide) ?_
    have g := hq _ (Or.inr ⟨⟨by omega, by omega⟩, h1⟩)
    rw [e] at g
    exact g
  · refine JX_catch (hpre := [(0, 10, 13, 32)]) (hsuf := []) hC hT rfl (by
      intro q hq9
      simp only [List.mem_cons, List.not_mem_nil, or_false] at hq9
      rcases hq9 with rfl
      · exact ⟨by decide, "java/lang/IndexOutOfBoundsException", q5_26, by decide⟩) (by decide) (by decide) q3_132 (by decide +kernel) (fun q => ?_)
    refine J_astore hC dL_reach_17 (Nat.le_of_ble_eq_true rfl) rfl ?_
    dsimp only [List.set]
    refine J_iconst (v := nI 2) hC dL_reach_19 (by decide) ?_
    refine J_ireturn hC hR dL_reach_20 (by decide) (by decide) ?_
    have g := hq _ (Or.inr ⟨⟨by omega, by omega⟩, h1⟩)
    rw [e] at g
    exact g
abbrev rmL_endX : Room := { frames := 8, cells := 2, slots := 12, locals := 133 }
abbrev ML_endX (G : GC) (w : Lay) (σ : Mem) (As : List Value) (Q : Lay → Option Value → Mem → Prop) (Qx : Lay → String → Mem → Prop) : Prop := MT G yL_endX (cww yL_endX cL_endX 5 (some .int) [(0, 10, 13, 32), (0, 10, 17, 19)]) rmL_endX 2 12 w σ As Q Qx
set_option maxHeartbeats 4000000 in
set_option maxRecDepth 100000 in
theorem c_L_endX {G : GC} {w : Lay} {σ : Mem} {Q : Lay → Option Value → Mem → Prop} {Qx : Lay → String → Mem → Prop} (hK : LK w) (hM : LM w) (hNB : ∀ q ∈ w.1, q.1 = 13 → q.2 < 10) {p0 p1 : Int32} {a : Nat × Int32} {P PX : Mem → Prop} (hm : ∀ (Q1 : Lay → Option Value → Mem → Prop) (Qx1 : Lay → String → Mem → Prop), (a.1 = 0 → ∀ σ', P σ' → Q1 w (some (.int a.2)) σ') → (a.1 = 1 → ∀ σ', PX σ' → Qx1 w "java/lang/IndexOutOfBoundsException" σ') → (a.1 = 2 → ∀ σ', PX σ' → Qx1 w "java/lang/IllegalArgumentException" σ') → MX9_endX G w σ [.ref (w.2.1 12 0), .int p0, .int p1] Q1 Qx1)(hq : ∀ σ', LR P PX a σ' → Q w (some (.int (nI a.1))) σ') : ML_endX G w σ [.ref (w.2.1 12 0), .int p0, .int p1, .ref (w.2.1 13 9)] Q Qx := by
  refine mt_startW (by decide) rfl (Nat.le_of_ble_eq_true rfl) (fun E hC hR hT => ?_)
  show J G E w 0 0 0 [some (.ref (w.2.1 12 0)), some (.int p0), some (.int p1), some (.ref (w.2.1 13 9)), none] [] σ
  refine J_aload_n hC dL_endX_0 rfl rfl ?_
  refine J_iconst (v := nI 0) hC dL_endX_1 (by decide) ?_
  refine J_aload_n hC dL_endX_2 rfl rfl ?_
  refine J_iload_n hC dL_endX_3 rfl rfl ?_
  refine J_iload_n hC dL_endX_4 rfl rfl ?_
  refine iL_114 hC hK rfl ⟨by decide, by decide⟩ ⟨by decide, by decide⟩ (Nat.le_of_ble_eq_true rfl) dL_endX_5 ?_
  refine hm _ _ (fun e σ1 h1 => ?_) (fun e σ1 h1 => ?_) (fun e σ1 h1 => ?_)
  · dsimp only [Option.toList_some, Option.toList_none, List.cons_append, List.nil_append]
    refine J_i2l hC dL_endX_8 ?_
    refine J_lastore1 hC hM hNB dL_endX_9 ?_
    refine J_goto (tgt := 21) hC dL_endX_10 rfl ?_
    refine J_iconst (v := nI 0) hC dL_endX_21 (by decide) ?_
    refine J_ireturn hC hR dL_endX_22 (by decide) (by decide) ?_
    have g := hq _ (Or.inl ⟨e, σ1, h1, rfl⟩)
    rw [e] at g
    exact g
  · refine JX_catch (hpre := []) (hsuf := [(0, 10, 17, 19)]) hC hT rfl (fun q hq9 => absurd hq9 List.not_mem_nil) (by decide) (by decide) q5_26 (by decide +kernel) (fun q => ?_)
    refine J_astore hC dL_endX_13 (Nat.le_of_ble_eq_true rfl) rfl ?_
    dsimp only [List.set]
    refine J_iconst (v := nI 1) hC dL_endX_15 (by decide) ?_
    refine J_ireturn hC hR dL_endX_16 (by decide) (by decide) ?_
    have g := hq _ (Or.inr ⟨⟨by omega, by omega⟩, h1⟩)
    rw [e] at g
    exact g
  · refine JX_catch (hpre := [(0, 10, 13, 32)]) (hsuf := []) hC hT rfl (by
      intro q hq9
      simp only [List.mem_cons, List.not_mem_nil, or_false] at hq9
      rcases hq9 with rfl
      · exact ⟨by decide, "java/lang/IndexOutOfBoundsException", q5_26, by decide⟩) (by decide) (by decide) q3_132 (by decide +kernel) (fun q => ?_)
    refine J_astore hC dL_endX_17 (Nat.le_of_ble_eq_true rfl) rfl ?_
    dsimp only [List.set]
    refine J_iconst (v := nI 2) hC dL_endX_19 (by decide) ?_
    refine J_ireturn hC hR dL_endX_20 (by decide) (by decide) ?_
    have g := hq _ (Or.inr ⟨⟨by omega, by omega⟩, h1⟩)
    rw [e] at g
    exact g
abbrev rmL_endY : Room := { frames := 8, cells := 2, slots := 12, locals := 133 }
abbrev ML_endY (G : GC) (w : Lay) (σ : Mem) (As : List Value) (Q : Lay → Option Value → Mem → Prop) (Qx : Lay → String → Mem → Prop) : Prop := MT G yL_endY (cww yL_endY cL_endY 5 (some .int) [(0, 10, 13, 32), (0, 10, 17, 19)]) rmL_endY 2 12 w σ As Q Qx
set_option maxHeartbeats 4000000 in
set_option maxRecDepth 100000 in
theorem c_L_endY {G : GC} {w : Lay} {σ : Mem} {Q : Lay → Option Value → Mem → Prop} {Qx : Lay → String → Mem → Prop} (hK : LK w) (hM : LM w) (hNB : ∀ q ∈ w.1, q.1 = 13 → q.2 < 10) {p0 p1 : Int32} {a : Nat × Int32} {P PX : Mem → Prop} (hm : ∀ (Q1 : Lay → Option Value → Mem → Prop) (Qx1 : Lay → String → Mem → Prop), (a.1 = 0 → ∀ σ', P σ' → Q1 w (some (.int a.2)) σ') → (a.1 = 1 → ∀ σ', PX σ' → Qx1 w "java/lang/IndexOutOfBoundsException" σ') → (a.1 = 2 → ∀ σ', PX σ' → Qx1 w "java/lang/IllegalArgumentException" σ') → MX9_endY G w σ [.ref (w.2.1 12 0), .int p0, .int p1] Q1 Qx1)(hq : ∀ σ', LR P PX a σ' → Q w (some (.int (nI a.1))) σ') : ML_endY G w σ [.ref (w.2.1 12 0), .int p0, .int p1, .ref (w.2.1 13 9)] Q Qx := by
  refine mt_startW (by decide) rfl (Nat.le_of_ble_eq_true rfl) (fun E hC hR hT => ?_)
  show J G E w 0 0 0 [some (.ref (w.2.1 12 0)), some (.int p0), some (.int p1), some (.ref (w.2.1 13 9)), none] [] σ
  refine J_aload_n hC dL_endY_0 rfl rfl ?_
  refine J_iconst (v := nI 0) hC dL_endY_1 (by decide) ?_
  refine J_aload_n hC dL_endY_2 rfl rfl ?_
  refine J_iload_n hC dL_endY_3 rfl rfl ?_
  refine J_iload_n hC dL_endY_4 rfl rfl ?_
  refine iL_117 hC hK rfl ⟨by decide, by decide⟩ ⟨by decide, by decide⟩ (Nat.le_of_ble_eq_true rfl) dL_endY_5 ?_
  refine hm _ _ (fun e σ1 h1 => ?_) (fun e σ1 h1 => ?_) (fun e σ1 h1 => ?_)
  · dsimp only [Option.toList_some, Option.toList_none, List.cons_append, List.nil_append]
    refine J_i2l hC dL_endY_8 ?_
    refine J_lastore1 hC hM hNB dL_endY_9 ?_
    refine J_goto (tgt := 21) hC dL_endY_10 rfl ?_
    refine J_iconst (v := nI 0) hC dL_endY_21 (by decide) ?_
    refine J_ireturn hC hR dL_endY_22 (by decide) (by decide) ?_
    have g := hq _ (Or.inl ⟨e, σ1, h1, rfl⟩)
    rw [e] at g
    exact g
  · refine JX_catch (hpre := []) (hsuf := [(0, 10, 17, 19)]) hC hT rfl (fun q hq9 => absurd hq9 List.not_mem_nil) (by decide) (by decide) q5_26 (by decide +kernel) (fun q => ?_)
    refine J_astore hC dL_endY_13 (Nat.le_of_ble_eq_true rfl) rfl ?_
    dsimp only [List.set]
    refine J_iconst (v := nI 1) hC dL_endY_15 (by decide) ?_
    refine J_ireturn hC hR dL_endY_16 (by decide) (by decide) ?_
    have g := hq _ (Or.inr ⟨⟨by omega, by omega⟩, h1⟩)
    rw [e] at g
    exact g
  · refine JX_catch (hpre := [(0, 10, 13, 32)]) (hsuf := []) hC hT rfl (by
      intro q hq9
      simp only [List.mem_cons, List.not_mem_nil, or_false] at hq9
      rcases hq9 with rfl
      · exact ⟨by decide, "java/lang/IndexOutOfBoundsException", q5_26, by decide⟩) (by decide) (by decide) q3_132 (by decide +kernel) (fun q => ?_)
    refine J_astore hC dL_endY_17 (Nat.le_of_ble_eq_true rfl) rfl ?_
    dsimp only [List.set]
    refine J_iconst (v := nI 2) hC dL_endY_19 (by decide) ?_
    refine J_ireturn hC hR dL_endY_20 (by decide) (by decide) ?_
    have g := hq _ (Or.inr ⟨⟨by omega, by omega⟩, h1⟩)
    rw [e] at g
    exact g
abbrev rmL_canFly : Room := { frames := 8, cells := 2, slots := 12, locals := 133 }
abbrev ML_canFly (G : GC) (w : Lay) (σ : Mem) (As : List Value) (Q : Lay → Option Value → Mem → Prop) (Qx : Lay → String → Mem → Prop) : Prop := MT G yL_canFly (cww yL_canFly cL_canFly 5 (some .int) [(0, 17, 20, 32), (0, 17, 24, 19)]) rmL_canFly 2 12 w σ As Q Qx
set_option maxHeartbeats 4000000 in
set_option maxRecDepth 100000 in
theorem c_L_canFly {G : GC} {w : Lay} {σ : Mem} {Q : Lay → Option Value → Mem → Prop} {Qx : Lay → String → Mem → Prop} (hK : LK w) (hM : LM w) (hNB : ∀ q ∈ w.1, q.1 = 13 → q.2 < 10) {p0 p1 : Int32} {a : Nat × Int32} {P PX : Mem → Prop} (hb : a.2 = nI 0 ∨ a.2 = nI 1) (hm : ∀ (Q1 : Lay → Option Value → Mem → Prop) (Qx1 : Lay → String → Mem → Prop), (a.1 = 0 → ∀ σ', P σ' → Q1 w (some (.int a.2)) σ') → (a.1 = 1 → ∀ σ', PX σ' → Qx1 w "java/lang/IndexOutOfBoundsException" σ') → (a.1 = 2 → ∀ σ', PX σ' → Qx1 w "java/lang/IllegalArgumentException" σ') → MX9_canFly G w σ [.ref (w.2.1 12 0), .int p0, .int p1] Q1 Qx1)(hq : ∀ σ', LR P PX a σ' → Q w (some (.int (nI a.1))) σ') : ML_canFly G w σ [.ref (w.2.1 12 0), .int p0, .int p1, .ref (w.2.1 13 9)] Q Qx := by
  refine mt_startW (by decide) rfl (Nat.le_of_ble_eq_true rfl) (fun E hC hR hT => ?_)
  show J G E w 0 0 0 [some (.ref (w.2.1 12 0)), some (.int p0), some (.int p1), some (.ref (w.2.1 13 9)), none] [] σ
  refine J_aload_n hC dL_canFly_0 rfl rfl ?_
  refine J_iconst (v := nI 0) hC dL_canFly_1 (by decide) ?_
  refine J_aload_n hC dL_canFly_2 rfl rfl ?_
  refine J_iload_n hC dL_canFly_3 rfl rfl ?_
  refine J_iload_n hC dL_canFly_4 rfl rfl ?_
  refine iL_120 hC hK rfl ⟨by decide, by decide⟩ ⟨by decide, by decide⟩ (Nat.le_of_ble_eq_true rfl) dL_canFly_5 ?_
  refine hm _ _ (fun e σ1 h1 => ?_) (fun e σ1 h1 => ?_) (fun e σ1 h1 => ?_)
  · dsimp only [Option.toList_some, Option.toList_none, List.cons_append, List.nil_append]
    rcases hb with hb | hb
    · rw [hb]
      refine J_if_eq_n hC (by decide) (tgt := 15) dL_canFly_8 rfl (fun _ => ?_) (fun q => absurd rfl q)
      refine J_lconst (v := 0) hC dL_canFly_15 (by decide) ?_
      refine J_lastore1 hC hM hNB dL_canFly_16 ?_
      refine J_goto (tgt := 28) hC dL_canFly_17 rfl ?_
      refine J_iconst (v := nI 0) hC dL_canFly_28 (by decide) ?_
      refine J_ireturn hC hR dL_canFly_29 (by decide) (by decide) ?_
      have g := hq _ (Or.inl ⟨e, σ1, h1, by rw [hb]⟩)
      rw [e] at g
      exact g
    · rw [hb]
      refine J_if_eq_n hC (by decide) (tgt := 15) dL_canFly_8 rfl (fun q => absurd q (by decide)) (fun _ => ?_)
      refine J_lconst (v := 1) hC dL_canFly_11 (by decide) ?_
      refine J_goto (tgt := 16) hC dL_canFly_12 rfl ?_
      refine J_lastore1 hC hM hNB dL_canFly_16 ?_
      refine J_goto (tgt := 28) hC dL_canFly_17 rfl ?_
      refine J_iconst (v := nI 0) hC dL_canFly_28 (by decide) ?_
      refine J_ireturn hC hR dL_canFly_29 (by decide) (by decide) ?_
      have g := hq _ (Or.inl ⟨e, σ1, h1, by rw [hb]⟩)
      rw [e] at g
      exact g
  · refine JX_catch (hpre := []) (hsuf := [(0, 17, 24, 19)]) hC hT rfl (fun q hq9 => absurd hq9 List.not_mem_nil) (by decide) (by decide) q5_26 (by decide +kernel) (fun q => ?_)
    refine J_astore hC dL_canFly_20 (Nat.le_of_ble_eq_true rfl) rfl ?_
    dsimp only [List.set]
    refine J_iconst (v := nI 1) hC dL_canFly_22 (by decide) ?_
    refine J_ireturn hC hR dL_canFly_23 (by decide) (by decide) ?_
    have g := hq _ (Or.inr ⟨⟨by omega, by omega⟩, h1⟩)
    rw [e] at g
    exact g
  · refine JX_catch (hpre := [(0, 17, 20, 32)]) (hsuf := []) hC hT rfl (by
      intro q hq9
      simp only [List.mem_cons, List.not_mem_nil, or_false] at hq9
      rcases hq9 with rfl
      · exact ⟨by decide, "java/lang/IndexOutOfBoundsException", q5_26, by decide⟩) (by decide) (by decide) q3_132 (by decide +kernel) (fun q => ?_)
    refine J_astore hC dL_canFly_24 (Nat.le_of_ble_eq_true rfl) rfl ?_
    dsimp only [List.set]
    refine J_iconst (v := nI 2) hC dL_canFly_26 (by decide) ?_
    refine J_ireturn hC hR dL_canFly_27 (by decide) (by decide) ?_
    have g := hq _ (Or.inr ⟨⟨by omega, by omega⟩, h1⟩)
    rw [e] at g
    exact g
abbrev rmL_doCross : Room := { frames := 8, cells := 4, slots := 24, locals := 134 }
abbrev ML_doCross (G : GC) (w : Lay) (σ : Mem) (As : List Value) (Q : Lay → Option Value → Mem → Prop) (Qx : Lay → String → Mem → Prop) : Prop := MT G yL_doCross (cww yL_doCross cL_doCross 6 (some .int) [(0, 19, 22, 32), (0, 19, 26, 19)]) rmL_doCross 4 24 w σ As Q Qx
set_option maxHeartbeats 4000000 in
set_option maxRecDepth 100000 in
theorem c_L_doCross {G : GC} {w : Lay} {σ : Mem} {Q : Lay → Option Value → Mem → Prop} {Qx : Lay → String → Mem → Prop} (hK : LK w) (hM : LM w) (hNB : ∀ q ∈ w.1, q.1 = 13 → q.2 < 10) {p0 p1 p2 : Int32} {a : Nat × Int32} {P PX : Mem → Prop} (hb : a.2 = nI 0 ∨ a.2 = nI 1) (hm : ∀ (Q1 : Lay → Option Value → Mem → Prop) (Qx1 : Lay → String → Mem → Prop), (a.1 = 0 → ∀ σ', P σ' → Q1 w (some (.int a.2)) σ') → (a.1 = 1 → ∀ σ', PX σ' → Qx1 w "java/lang/IndexOutOfBoundsException" σ') → (a.1 = 2 → ∀ σ', PX σ' → Qx1 w "java/lang/IllegalArgumentException" σ') → MX9_doCross G w σ [.ref (w.2.1 12 0), .int p0, .int p1, .int p2] Q1 Qx1)(hq : ∀ σ', LR P PX a σ' → Q w (some (.int (nI a.1))) σ') : ML_doCross G w σ [.ref (w.2.1 12 0), .int p0, .int p1, .int p2, .ref (w.2.1 13 9)] Q Qx := by
  refine mt_startW (by decide) rfl (Nat.le_of_ble_eq_true rfl) (fun E hC hR hT => ?_)
  show J G E w 0 0 0 [some (.ref (w.2.1 12 0)), some (.int p0), some (.int p1), some (.int p2), some (.ref (w.2.1 13 9)), none] [] σ
  refine J_aload hC dL_doCross_0 rfl ?_
  refine J_iconst (v := nI 0) hC dL_doCross_2 (by decide) ?_
  refine J_aload_n hC dL_doCross_3 rfl rfl ?_
  refine J_iload_n hC dL_doCross_4 rfl rfl ?_
  refine J_iload_n hC dL_doCross_5 rfl rfl ?_
  refine J_iload_n hC dL_doCross_6 rfl rfl ?_
  refine iL_124 hC hK rfl ⟨by decide, by decide⟩ ⟨by decide, by decide⟩ (Nat.le_of_ble_eq_true rfl) dL_doCross_7 ?_
  refine hm _ _ (fun e σ1 h1 => ?_) (fun e σ1 h1 => ?_) (fun e σ1 h1 => ?_)
  · dsimp only [Option.toList_some, Option.toList_none, List.cons_append, List.nil_append]
    rcases hb with hb | hb
    · rw [hb]
      refine J_if_eq_n hC (by decide) (tgt := 17) dL_doCross_10 rfl (fun _ => ?_) (fun q => absurd rfl q)
      refine J_lconst (v := 0) hC dL_doCross_17 (by decide) ?_
      refine J_lastore1 hC hM hNB dL_doCross_18 ?_
      refine J_goto (tgt := 30) hC dL_doCross_19 rfl ?_
      refine J_iconst (v := nI 0) hC dL_doCross_30 (by decide) ?_
      refine J_ireturn hC hR dL_doCross_31 (by decide) (by decide) ?_
      have g := hq _ (Or.inl ⟨e, σ1, h1, by rw [hb]⟩)
      rw [e] at g
      exact g
    · rw [hb]
      refine J_if_eq_n hC (by decide) (tgt := 17) dL_doCross_10 rfl (fun q => absurd q (by decide)) (fun _ => ?_)
      refine J_lconst (v := 1) hC dL_doCross_13 (by decide) ?_
      refine J_goto (tgt := 18) hC dL_doCross_14 rfl ?_
      refine J_lastore1 hC hM hNB dL_doCross_18 ?_
      refine J_goto (tgt := 30) hC dL_doCross_19 rfl ?_
      refine J_iconst (v := nI 0) hC dL_doCross_30 (by decide) ?_
      refine J_ireturn hC hR dL_doCross_31 (by decide) (by decide) ?_
      have g := hq _ (Or.inl ⟨e, σ1, h1, by rw [hb]⟩)
      rw [e] at g
      exact g
  · refine JX_catch (hpre := []) (hsuf := [(0, 19, 26, 19)]) hC hT rfl (fun q hq9 => absurd hq9 List.not_mem_nil) (by decide) (by decide) q5_26 (by decide +kernel) (fun q => ?_)
    refine J_astore hC dL_doCross_22 (Nat.le_of_ble_eq_true rfl) rfl ?_
    dsimp only [List.set]
    refine J_iconst (v := nI 1) hC dL_doCross_24 (by decide) ?_
    refine J_ireturn hC hR dL_doCross_25 (by decide) (by decide) ?_
    have g := hq _ (Or.inr ⟨⟨by omega, by omega⟩, h1⟩)
    rw [e] at g
    exact g
  · refine JX_catch (hpre := [(0, 19, 22, 32)]) (hsuf := []) hC hT rfl (by
      intro q hq9
      simp only [List.mem_cons, List.not_mem_nil, or_false] at hq9
      rcases hq9 with rfl
      · exact ⟨by decide, "java/lang/IndexOutOfBoundsException", q5_26, by decide⟩) (by decide) (by decide) q3_132 (by decide +kernel) (fun q => ?_)
    refine J_astore hC dL_doCross_26 (Nat.le_of_ble_eq_true rfl) rfl ?_
    dsimp only [List.set]
    refine J_iconst (v := nI 2) hC dL_doCross_28 (by decide) ?_
    refine J_ireturn hC hR dL_doCross_29 (by decide) (by decide) ?_
    have g := hq _ (Or.inr ⟨⟨by omega, by omega⟩, h1⟩)
    rw [e] at g
    exact g
abbrev rmL_permitKite : Room := { frames := 8, cells := 1, slots := 6, locals := 132 }
abbrev ML_permitKite (G : GC) (w : Lay) (σ : Mem) (As : List Value) (Q : Lay → Option Value → Mem → Prop) (Qx : Lay → String → Mem → Prop) : Prop := MT G yL_permitKite (cww yL_permitKite cL_permitKite 4 (some .int) [(0, 9, 12, 32)]) rmL_permitKite 1 6 w σ As Q Qx
set_option maxHeartbeats 4000000 in
set_option maxRecDepth 100000 in
theorem c_L_permitKite {G : GC} {w : Lay} {σ : Mem} {Q : Lay → Option Value → Mem → Prop} {Qx : Lay → String → Mem → Prop} (hK : LK w) (hM : LM w) (hNB : ∀ q ∈ w.1, q.1 = 13 → q.2 < 10) {p0 : Int32} {a : Nat × Int32} {P PX : Mem → Prop} (hm : ∀ (Q1 : Lay → Option Value → Mem → Prop) (Qx1 : Lay → String → Mem → Prop), (a.1 = 0 → ∀ σ', P σ' → Q1 w (some (.int a.2)) σ') → (a.1 = 1 → ∀ σ', PX σ' → Qx1 w "java/lang/IndexOutOfBoundsException" σ') → MX9_permitKite G w σ [.ref (w.2.1 12 0), .int p0] Q1 Qx1)(hq : ∀ σ', LR P PX a σ' → Q w (some (.int (nI a.1))) σ') : ML_permitKite G w σ [.ref (w.2.1 12 0), .int p0, .ref (w.2.1 13 9)] Q Qx := by
  refine mt_startW (by decide) rfl (Nat.le_of_ble_eq_true rfl) (fun E hC hR hT => ?_)
  show J G E w 0 0 0 [some (.ref (w.2.1 12 0)), some (.int p0), some (.ref (w.2.1 13 9)), none] [] σ
  refine J_aload_n hC dL_permitKite_0 rfl rfl ?_
  refine J_iconst (v := nI 0) hC dL_permitKite_1 (by decide) ?_
  refine J_aload_n hC dL_permitKite_2 rfl rfl ?_
  refine J_iload_n hC dL_permitKite_3 rfl rfl ?_
  refine iL_128 hC hK rfl ⟨by decide, by decide⟩ ⟨by decide, by decide⟩ (Nat.le_of_ble_eq_true rfl) dL_permitKite_4 ?_
  refine hm _ _ (fun e σ1 h1 => ?_) (fun e σ1 h1 => ?_)
  · dsimp only [Option.toList_some, Option.toList_none, List.cons_append, List.nil_append]
    refine J_i2l hC dL_permitKite_7 ?_
    refine J_lastore1 hC hM hNB dL_permitKite_8 ?_
    refine J_goto (tgt := 15) hC dL_permitKite_9 rfl ?_
    refine J_iconst (v := nI 0) hC dL_permitKite_15 (by decide) ?_
    refine J_ireturn hC hR dL_permitKite_16 (by decide) (by decide) ?_
    have g := hq _ (Or.inl ⟨e, σ1, h1, rfl⟩)
    rw [e] at g
    exact g
  · refine JX_catch (hpre := []) (hsuf := []) hC hT rfl (fun q hq9 => absurd hq9 List.not_mem_nil) (by decide) (by decide) q5_26 (by decide +kernel) (fun q => ?_)
    refine J_astore_n hC dL_permitKite_12 rfl (Nat.le_of_ble_eq_true rfl) rfl ?_
    dsimp only [List.set]
    refine J_iconst (v := nI 1) hC dL_permitKite_13 (by decide) ?_
    refine J_ireturn hC hR dL_permitKite_14 (by decide) (by decide) ?_
    have g := hq _ (Or.inr ⟨⟨by omega, by omega⟩, h1⟩)
    rw [e] at g
    exact g
abbrev rmL_permitStart : Room := { frames := 8, cells := 1, slots := 6, locals := 132 }
abbrev ML_permitStart (G : GC) (w : Lay) (σ : Mem) (As : List Value) (Q : Lay → Option Value → Mem → Prop) (Qx : Lay → String → Mem → Prop) : Prop := MT G yL_permitStart (cww yL_permitStart cL_permitStart 4 (some .int) [(0, 9, 12, 32)]) rmL_permitStart 1 6 w σ As Q Qx
set_option maxHeartbeats 4000000 in
set_option maxRecDepth 100000 in
theorem c_L_permitStart {G : GC} {w : Lay} {σ : Mem} {Q : Lay → Option Value → Mem → Prop} {Qx : Lay → String → Mem → Prop} (hK : LK w) (hM : LM w) (hNB : ∀ q ∈ w.1, q.1 = 13 → q.2 < 10) {p0 : Int32} {a : Nat × Int32} {P PX : Mem → Prop} (hm : ∀ (Q1 : Lay → Option Value → Mem → Prop) (Qx1 : Lay → String → Mem → Prop), (a.1 = 0 → ∀ σ', P σ' → Q1 w (some (.int a.2)) σ') → (a.1 = 1 → ∀ σ', PX σ' → Qx1 w "java/lang/IndexOutOfBoundsException" σ') → MX9_permitStart G w σ [.ref (w.2.1 12 0), .int p0] Q1 Qx1)(hq : ∀ σ', LR P PX a σ' → Q w (some (.int (nI a.1))) σ') : ML_permitStart G w σ [.ref (w.2.1 12 0), .int p0, .ref (w.2.1 13 9)] Q Qx := by
  refine mt_startW (by decide) rfl (Nat.le_of_ble_eq_true rfl) (fun E hC hR hT => ?_)
  show J G E w 0 0 0 [some (.ref (w.2.1 12 0)), some (.int p0), some (.ref (w.2.1 13 9)), none] [] σ
  refine J_aload_n hC dL_permitStart_0 rfl rfl ?_
  refine J_iconst (v := nI 0) hC dL_permitStart_1 (by decide) ?_
  refine J_aload_n hC dL_permitStart_2 rfl rfl ?_
  refine J_iload_n hC dL_permitStart_3 rfl rfl ?_
  refine iL_131 hC hK rfl ⟨by decide, by decide⟩ ⟨by decide, by decide⟩ (Nat.le_of_ble_eq_true rfl) dL_permitStart_4 ?_
  refine hm _ _ (fun e σ1 h1 => ?_) (fun e σ1 h1 => ?_)
  · dsimp only [Option.toList_some, Option.toList_none, List.cons_append, List.nil_append]
    refine J_i2l hC dL_permitStart_7 ?_
    refine J_lastore1 hC hM hNB dL_permitStart_8 ?_
    refine J_goto (tgt := 15) hC dL_permitStart_9 rfl ?_
    refine J_iconst (v := nI 0) hC dL_permitStart_15 (by decide) ?_
    refine J_ireturn hC hR dL_permitStart_16 (by decide) (by decide) ?_
    have g := hq _ (Or.inl ⟨e, σ1, h1, rfl⟩)
    rw [e] at g
    exact g
  · refine JX_catch (hpre := []) (hsuf := []) hC hT rfl (fun q hq9 => absurd hq9 List.not_mem_nil) (by decide) (by decide) q5_26 (by decide +kernel) (fun q => ?_)
    refine J_astore_n hC dL_permitStart_12 rfl (Nat.le_of_ble_eq_true rfl) rfl ?_
    dsimp only [List.set]
    refine J_iconst (v := nI 1) hC dL_permitStart_13 (by decide) ?_
    refine J_ireturn hC hR dL_permitStart_14 (by decide) (by decide) ?_
    have g := hq _ (Or.inr ⟨⟨by omega, by omega⟩, h1⟩)
    rw [e] at g
    exact g
abbrev rmL_permitDuration : Room := { frames := 8, cells := 1, slots := 6, locals := 132 }
abbrev ML_permitDuration (G : GC) (w : Lay) (σ : Mem) (As : List Value) (Q : Lay → Option Value → Mem → Prop) (Qx : Lay → String → Mem → Prop) : Prop := MT G yL_permitDuration (cww yL_permitDuration cL_permitDuration 4 (some .int) [(0, 9, 12, 32)]) rmL_permitDuration 1 6 w σ As Q Qx
set_option maxHeartbeats 4000000 in
set_option maxRecDepth 100000 in
theorem c_L_permitDuration {G : GC} {w : Lay} {σ : Mem} {Q : Lay → Option Value → Mem → Prop} {Qx : Lay → String → Mem → Prop} (hK : LK w) (hM : LM w) (hNB : ∀ q ∈ w.1, q.1 = 13 → q.2 < 10) {p0 : Int32} {a : Nat × Int32} {P PX : Mem → Prop} (hm : ∀ (Q1 : Lay → Option Value → Mem → Prop) (Qx1 : Lay → String → Mem → Prop), (a.1 = 0 → ∀ σ', P σ' → Q1 w (some (.int a.2)) σ') → (a.1 = 1 → ∀ σ', PX σ' → Qx1 w "java/lang/IndexOutOfBoundsException" σ') → MX9_permitDuration G w σ [.ref (w.2.1 12 0), .int p0] Q1 Qx1)(hq : ∀ σ', LR P PX a σ' → Q w (some (.int (nI a.1))) σ') : ML_permitDuration G w σ [.ref (w.2.1 12 0), .int p0, .ref (w.2.1 13 9)] Q Qx := by
  refine mt_startW (by decide) rfl (Nat.le_of_ble_eq_true rfl) (fun E hC hR hT => ?_)
  show J G E w 0 0 0 [some (.ref (w.2.1 12 0)), some (.int p0), some (.ref (w.2.1 13 9)), none] [] σ
  refine J_aload_n hC dL_permitDuration_0 rfl rfl ?_
  refine J_iconst (v := nI 0) hC dL_permitDuration_1 (by decide) ?_
  refine J_aload_n hC dL_permitDuration_2 rfl rfl ?_
  refine J_iload_n hC dL_permitDuration_3 rfl rfl ?_
  refine iL_134 hC hK rfl ⟨by decide, by decide⟩ ⟨by decide, by decide⟩ (Nat.le_of_ble_eq_true rfl) dL_permitDuration_4 ?_
  refine hm _ _ (fun e σ1 h1 => ?_) (fun e σ1 h1 => ?_)
  · dsimp only [Option.toList_some, Option.toList_none, List.cons_append, List.nil_append]
    refine J_i2l hC dL_permitDuration_7 ?_
    refine J_lastore1 hC hM hNB dL_permitDuration_8 ?_
    refine J_goto (tgt := 15) hC dL_permitDuration_9 rfl ?_
    refine J_iconst (v := nI 0) hC dL_permitDuration_15 (by decide) ?_
    refine J_ireturn hC hR dL_permitDuration_16 (by decide) (by decide) ?_
    have g := hq _ (Or.inl ⟨e, σ1, h1, rfl⟩)
    rw [e] at g
    exact g
  · refine JX_catch (hpre := []) (hsuf := []) hC hT rfl (fun q hq9 => absurd hq9 List.not_mem_nil) (by decide) (by decide) q5_26 (by decide +kernel) (fun q => ?_)
    refine J_astore_n hC dL_permitDuration_12 rfl (Nat.le_of_ble_eq_true rfl) rfl ?_
    dsimp only [List.set]
    refine J_iconst (v := nI 1) hC dL_permitDuration_13 (by decide) ?_
    refine J_ireturn hC hR dL_permitDuration_14 (by decide) (by decide) ?_
    have g := hq _ (Or.inr ⟨⟨by omega, by omega⟩, h1⟩)
    rw [e] at g
    exact g
abbrev rmL_hasPermit : Room := { frames := 8, cells := 2, slots := 12, locals := 133 }
abbrev ML_hasPermit (G : GC) (w : Lay) (σ : Mem) (As : List Value) (Q : Lay → Option Value → Mem → Prop) (Qx : Lay → String → Mem → Prop) : Prop := MT G yL_hasPermit (cww yL_hasPermit cL_hasPermit 5 (some .int) [(0, 17, 20, 32), (0, 17, 24, 19)]) rmL_hasPermit 2 12 w σ As Q Qx
set_option maxHeartbeats 4000000 in
set_option maxRecDepth 100000 in
theorem c_L_hasPermit {G : GC} {w : Lay} {σ : Mem} {Q : Lay → Option Value → Mem → Prop} {Qx : Lay → String → Mem → Prop} (hK : LK w) (hM : LM w) (hNB : ∀ q ∈ w.1, q.1 = 13 → q.2 < 10) {p0 p1 : Int32} {a : Nat × Int32} {P PX : Mem → Prop} (hb : a.2 = nI 0 ∨ a.2 = nI 1) (hm : ∀ (Q1 : Lay → Option Value → Mem → Prop) (Qx1 : Lay → String → Mem → Prop), (a.1 = 0 → ∀ σ', P σ' → Q1 w (some (.int a.2)) σ') → (a.1 = 1 → ∀ σ', PX σ' → Qx1 w "java/lang/IndexOutOfBoundsException" σ') → (a.1 = 2 → ∀ σ', PX σ' → Qx1 w "java/lang/IllegalArgumentException" σ') → MX9_hasPermit G w σ [.ref (w.2.1 12 0), .int p0, .int p1] Q1 Qx1)(hq : ∀ σ', LR P PX a σ' → Q w (some (.int (nI a.1))) σ') : ML_hasPermit G w σ [.ref (w.2.1 12 0), .int p0, .int p1, .ref (w.2.1 13 9)] Q Qx := by
  refine mt_startW (by decide) rfl (Nat.le_of_ble_eq_true rfl) (fun E hC hR hT => ?_)
  show J G E w 0 0 0 [some (.ref (w.2.1 12 0)), some (.int p0), some (.int p1), some (.ref (w.2.1 13 9)), none] [] σ
  refine J_aload_n hC dL_hasPermit_0 rfl rfl ?_
  refine J_iconst (v := nI 0) hC dL_hasPermit_1 (by decide) ?_
  refine J_aload_n hC dL_hasPermit_2 rfl rfl ?_
  refine J_iload_n hC dL_hasPermit_3 rfl rfl ?_
  refine J_iload_n hC dL_hasPermit_4 rfl rfl ?_
  refine iL_137 hC hK rfl ⟨by decide, by decide⟩ ⟨by decide, by decide⟩ (Nat.le_of_ble_eq_true rfl) dL_hasPermit_5 ?_
  refine hm _ _ (fun e σ1 h1 => ?_) (fun e σ1 h1 => ?_) (fun e σ1 h1 => ?_)
  · dsimp only [Option.toList_some, Option.toList_none, List.cons_append, List.nil_append]
    rcases hb with hb | hb
    · rw [hb]
      refine J_if_eq_n hC (by decide) (tgt := 15) dL_hasPermit_8 rfl (fun _ => ?_) (fun q => absurd rfl q)
      refine J_lconst (v := 0) hC dL_hasPermit_15 (by decide) ?_
      refine J_lastore1 hC hM hNB dL_hasPermit_16 ?_
      refine J_goto (tgt := 28) hC dL_hasPermit_17 rfl ?_
      refine J_iconst (v := nI 0) hC dL_hasPermit_28 (by decide) ?_
      refine J_ireturn hC hR dL_hasPermit_29 (by decide) (by decide) ?_
      have g := hq _ (Or.inl ⟨e, σ1, h1, by rw [hb]⟩)
      rw [e] at g
      exact g
    · rw [hb]
      refine J_if_eq_n hC (by decide) (tgt := 15) dL_hasPermit_8 rfl (fun q => absurd q (by decide)) (fun _ => ?_)
      refine J_lconst (v := 1) hC dL_hasPermit_11 (by decide) ?_
      refine J_goto (tgt := 16) hC dL_hasPermit_12 rfl ?_
      refine J_lastore1 hC hM hNB dL_hasPermit_16 ?_
      refine J_goto (tgt := 28) hC dL_hasPermit_17 rfl ?_
      refine J_iconst (v := nI 0) hC dL_hasPermit_28 (by decide) ?_
      refine J_ireturn hC hR dL_hasPermit_29 (by decide) (by decide) ?_
      have g := hq _ (Or.inl ⟨e, σ1, h1, by rw [hb]⟩)
      rw [e] at g
      exact g
  · refine JX_catch (hpre := []) (hsuf := [(0, 17, 24, 19)]) hC hT rfl (fun q hq9 => absurd hq9 List.not_mem_nil) (by decide) (by decide) q5_26 (by decide +kernel) (fun q => ?_)
    refine J_astore hC dL_hasPermit_20 (Nat.le_of_ble_eq_true rfl) rfl ?_
    dsimp only [List.set]
    refine J_iconst (v := nI 1) hC dL_hasPermit_22 (by decide) ?_
    refine J_ireturn hC hR dL_hasPermit_23 (by decide) (by decide) ?_
    have g := hq _ (Or.inr ⟨⟨by omega, by omega⟩, h1⟩)
    rw [e] at g
    exact g
  · refine JX_catch (hpre := [(0, 17, 20, 32)]) (hsuf := []) hC hT rfl (by
      intro q hq9
      simp only [List.mem_cons, List.not_mem_nil, or_false] at hq9
      rcases hq9 with rfl
      · exact ⟨by decide, "java/lang/IndexOutOfBoundsException", q5_26, by decide⟩) (by decide) (by decide) q3_132 (by decide +kernel) (fun q => ?_)
    refine J_astore hC dL_hasPermit_24 (Nat.le_of_ble_eq_true rfl) rfl ?_
    dsimp only [List.set]
    refine J_iconst (v := nI 2) hC dL_hasPermit_26 (by decide) ?_
    refine J_ireturn hC hR dL_hasPermit_27 (by decide) (by decide) ?_
    have g := hq _ (Or.inr ⟨⟨by omega, by omega⟩, h1⟩)
    rw [e] at g
    exact g
abbrev rmL_whyNotPermit : Room := { frames := 9, cells := 3, slots := 18, locals := 181 }
abbrev ML_whyNotPermit (G : GC) (w : Lay) (σ : Mem) (As : List Value) (Q : Lay → Option Value → Mem → Prop) (Qx : Lay → String → Mem → Prop) : Prop := MT G yL_whyNotPermit (cww yL_whyNotPermit cL_whyNotPermit 6 (some .int) [(0, 12, 15, 32), (0, 12, 19, 19)]) rmL_whyNotPermit 3 18 w σ As Q Qx
set_option maxHeartbeats 4000000 in
set_option maxRecDepth 100000 in
theorem c_L_whyNotPermit {G : GC} {w : Lay} {σ : Mem} {Q : Lay → Option Value → Mem → Prop} {Qx : Lay → String → Mem → Prop} (hK : LK w) (hM : LM w) (hNB : ∀ q ∈ w.1, q.1 = 13 → q.2 < 10) {p0 p1 p2 : Int32} {a : Nat × Int32} {P PX : Mem → Prop} (hm : ∀ (Q1 : Lay → Option Value → Mem → Prop) (Qx1 : Lay → String → Mem → Prop), (a.1 = 0 → ∀ σ', P σ' → Q1 w (some (.int a.2)) σ') → (a.1 = 1 → ∀ σ', PX σ' → Qx1 w "java/lang/IndexOutOfBoundsException" σ') → (a.1 = 2 → ∀ σ', PX σ' → Qx1 w "java/lang/IllegalArgumentException" σ') → MX9_whyNotPermit G w σ [.ref (w.2.1 12 0), .int p0, .int p1, .int p2] Q1 Qx1)(hq : ∀ σ', LR P PX a σ' → Q w (some (.int (nI a.1))) σ') : ML_whyNotPermit G w σ [.ref (w.2.1 12 0), .int p0, .int p1, .int p2, .ref (w.2.1 13 9)] Q Qx := by
  refine mt_startW (by decide) rfl (Nat.le_of_ble_eq_true rfl) (fun E hC hR hT => ?_)
  show J G E w 0 0 0 [some (.ref (w.2.1 12 0)), some (.int p0), some (.int p1), some (.int p2), some (.ref (w.2.1 13 9)), none] [] σ
  refine J_aload hC dL_whyNotPermit_0 rfl ?_
  refine J_iconst (v := nI 0) hC dL_whyNotPermit_2 (by decide) ?_
  refine J_aload_n hC dL_whyNotPermit_3 rfl rfl ?_
  refine J_iload_n hC dL_whyNotPermit_4 rfl rfl ?_
  refine J_iload_n hC dL_whyNotPermit_5 rfl rfl ?_
  refine J_iload_n hC dL_whyNotPermit_6 rfl rfl ?_
  refine iL_140 hC hK rfl ⟨by decide, by decide⟩ ⟨by decide, by decide⟩ (Nat.le_of_ble_eq_true rfl) dL_whyNotPermit_7 ?_
  refine hm _ _ (fun e σ1 h1 => ?_) (fun e σ1 h1 => ?_) (fun e σ1 h1 => ?_)
  · dsimp only [Option.toList_some, Option.toList_none, List.cons_append, List.nil_append]
    refine J_i2l hC dL_whyNotPermit_10 ?_
    refine J_lastore1 hC hM hNB dL_whyNotPermit_11 ?_
    refine J_goto (tgt := 23) hC dL_whyNotPermit_12 rfl ?_
    refine J_iconst (v := nI 0) hC dL_whyNotPermit_23 (by decide) ?_
    refine J_ireturn hC hR dL_whyNotPermit_24 (by decide) (by decide) ?_
    have g := hq _ (Or.inl ⟨e, σ1, h1, rfl⟩)
    rw [e] at g
    exact g
  · refine JX_catch (hpre := []) (hsuf := [(0, 12, 19, 19)]) hC hT rfl (fun q hq9 => absurd hq9 List.not_mem_nil) (by decide) (by decide) q5_26 (by decide +kernel) (fun q => ?_)
    refine J_astore hC dL_whyNotPermit_15 (Nat.le_of_ble_eq_true rfl) rfl ?_
    dsimp only [List.set]
    refine J_iconst (v := nI 1) hC dL_whyNotPermit_17 (by decide) ?_
    refine J_ireturn hC hR dL_whyNotPermit_18 (by decide) (by decide) ?_
    have g := hq _ (Or.inr ⟨⟨by omega, by omega⟩, h1⟩)
    rw [e] at g
    exact g
  · refine JX_catch (hpre := [(0, 12, 15, 32)]) (hsuf := []) hC hT rfl (by
      intro q hq9
      simp only [List.mem_cons, List.not_mem_nil, or_false] at hq9
      rcases hq9 with rfl
      · exact ⟨by decide, "java/lang/IndexOutOfBoundsException", q5_26, by decide⟩) (by decide) (by decide) q3_132 (by decide +kernel) (fun q => ?_)
    refine J_astore hC dL_whyNotPermit_19 (Nat.le_of_ble_eq_true rfl) rfl ?_
    dsimp only [List.set]
    refine J_iconst (v := nI 2) hC dL_whyNotPermit_21 (by decide) ?_
    refine J_ireturn hC hR dL_whyNotPermit_22 (by decide) (by decide) ?_
    have g := hq _ (Or.inr ⟨⟨by omega, by omega⟩, h1⟩)
    rw [e] at g
    exact g
abbrev rmL_kiteInTheWay : Room := { frames := 9, cells := 3, slots := 18, locals := 158 }
abbrev ML_kiteInTheWay (G : GC) (w : Lay) (σ : Mem) (As : List Value) (Q : Lay → Option Value → Mem → Prop) (Qx : Lay → String → Mem → Prop) : Prop := MT G yL_kiteInTheWay (cww yL_kiteInTheWay cL_kiteInTheWay 6 (some .int) [(0, 12, 15, 32), (0, 12, 19, 19)]) rmL_kiteInTheWay 3 18 w σ As Q Qx
set_option maxHeartbeats 4000000 in
set_option maxRecDepth 100000 in
theorem c_L_kiteInTheWay {G : GC} {w : Lay} {σ : Mem} {Q : Lay → Option Value → Mem → Prop} {Qx : Lay → String → Mem → Prop} (hK : LK w) (hM : LM w) (hNB : ∀ q ∈ w.1, q.1 = 13 → q.2 < 10) {p0 p1 p2 : Int32} {a : Nat × Int32} {P PX : Mem → Prop} (hm : ∀ (Q1 : Lay → Option Value → Mem → Prop) (Qx1 : Lay → String → Mem → Prop), (a.1 = 0 → ∀ σ', P σ' → Q1 w (some (.int a.2)) σ') → (a.1 = 1 → ∀ σ', PX σ' → Qx1 w "java/lang/IndexOutOfBoundsException" σ') → (a.1 = 2 → ∀ σ', PX σ' → Qx1 w "java/lang/IllegalArgumentException" σ') → MX9_kiteInTheWay G w σ [.ref (w.2.1 12 0), .int p0, .int p1, .int p2] Q1 Qx1)(hq : ∀ σ', LR P PX a σ' → Q w (some (.int (nI a.1))) σ') : ML_kiteInTheWay G w σ [.ref (w.2.1 12 0), .int p0, .int p1, .int p2, .ref (w.2.1 13 9)] Q Qx := by
  refine mt_startW (by decide) rfl (Nat.le_of_ble_eq_true rfl) (fun E hC hR hT => ?_)
  show J G E w 0 0 0 [some (.ref (w.2.1 12 0)), some (.int p0), some (.int p1), some (.int p2), some (.ref (w.2.1 13 9)), none] [] σ
  refine J_aload hC dL_kiteInTheWay_0 rfl ?_
  refine J_iconst (v := nI 0) hC dL_kiteInTheWay_2 (by decide) ?_
  refine J_aload_n hC dL_kiteInTheWay_3 rfl rfl ?_
  refine J_iload_n hC dL_kiteInTheWay_4 rfl rfl ?_
  refine J_iload_n hC dL_kiteInTheWay_5 rfl rfl ?_
  refine J_iload_n hC dL_kiteInTheWay_6 rfl rfl ?_
  refine iL_143 hC hK rfl ⟨by decide, by decide⟩ ⟨by decide, by decide⟩ (Nat.le_of_ble_eq_true rfl) dL_kiteInTheWay_7 ?_
  refine hm _ _ (fun e σ1 h1 => ?_) (fun e σ1 h1 => ?_) (fun e σ1 h1 => ?_)
  · dsimp only [Option.toList_some, Option.toList_none, List.cons_append, List.nil_append]
    refine J_i2l hC dL_kiteInTheWay_10 ?_
    refine J_lastore1 hC hM hNB dL_kiteInTheWay_11 ?_
    refine J_goto (tgt := 23) hC dL_kiteInTheWay_12 rfl ?_
    refine J_iconst (v := nI 0) hC dL_kiteInTheWay_23 (by decide) ?_
    refine J_ireturn hC hR dL_kiteInTheWay_24 (by decide) (by decide) ?_
    have g := hq _ (Or.inl ⟨e, σ1, h1, rfl⟩)
    rw [e] at g
    exact g
  · refine JX_catch (hpre := []) (hsuf := [(0, 12, 19, 19)]) hC hT rfl (fun q hq9 => absurd hq9 List.not_mem_nil) (by decide) (by decide) q5_26 (by decide +kernel) (fun q => ?_)
    refine J_astore hC dL_kiteInTheWay_15 (Nat.le_of_ble_eq_true rfl) rfl ?_
    dsimp only [List.set]
    refine J_iconst (v := nI 1) hC dL_kiteInTheWay_17 (by decide) ?_
    refine J_ireturn hC hR dL_kiteInTheWay_18 (by decide) (by decide) ?_
    have g := hq _ (Or.inr ⟨⟨by omega, by omega⟩, h1⟩)
    rw [e] at g
    exact g
  · refine JX_catch (hpre := [(0, 12, 15, 32)]) (hsuf := []) hC hT rfl (by
      intro q hq9
      simp only [List.mem_cons, List.not_mem_nil, or_false] at hq9
      rcases hq9 with rfl
      · exact ⟨by decide, "java/lang/IndexOutOfBoundsException", q5_26, by decide⟩) (by decide) (by decide) q3_132 (by decide +kernel) (fun q => ?_)
    refine J_astore hC dL_kiteInTheWay_19 (Nat.le_of_ble_eq_true rfl) rfl ?_
    dsimp only [List.set]
    refine J_iconst (v := nI 2) hC dL_kiteInTheWay_21 (by decide) ?_
    refine J_ireturn hC hR dL_kiteInTheWay_22 (by decide) (by decide) ?_
    have g := hq _ (Or.inr ⟨⟨by omega, by omega⟩, h1⟩)
    rw [e] at g
    exact g
abbrev rmL_earliestStart : Room := { frames := 8, cells := 2, slots := 12, locals := 181 }
abbrev ML_earliestStart (G : GC) (w : Lay) (σ : Mem) (As : List Value) (Q : Lay → Option Value → Mem → Prop) (Qx : Lay → String → Mem → Prop) : Prop := MT G yL_earliestStart (cww yL_earliestStart cL_earliestStart 5 (some .int) [(0, 10, 13, 32), (0, 10, 17, 19)]) rmL_earliestStart 2 12 w σ As Q Qx
set_option maxHeartbeats 4000000 in
set_option maxRecDepth 100000 in
theorem c_L_earliestStart {G : GC} {w : Lay} {σ : Mem} {Q : Lay → Option Value → Mem → Prop} {Qx : Lay → String → Mem → Prop} (hK : LK w) (hM : LM w) (hNB : ∀ q ∈ w.1, q.1 = 13 → q.2 < 10) {p0 p1 : Int32} {a : Nat × Int32} {P PX : Mem → Prop} (hm : ∀ (Q1 : Lay → Option Value → Mem → Prop) (Qx1 : Lay → String → Mem → Prop), (a.1 = 0 → ∀ σ', P σ' → Q1 w (some (.int a.2)) σ') → (a.1 = 1 → ∀ σ', PX σ' → Qx1 w "java/lang/IndexOutOfBoundsException" σ') → (a.1 = 2 → ∀ σ', PX σ' → Qx1 w "java/lang/IllegalArgumentException" σ') → MX9_earliestStart G w σ [.ref (w.2.1 12 0), .int p0, .int p1] Q1 Qx1)(hq : ∀ σ', LR P PX a σ' → Q w (some (.int (nI a.1))) σ') : ML_earliestStart G w σ [.ref (w.2.1 12 0), .int p0, .int p1, .ref (w.2.1 13 9)] Q Qx := by
  refine mt_startW (by decide) rfl (Nat.le_of_ble_eq_true rfl) (fun E hC hR hT => ?_)
  show J G E w 0 0 0 [some (.ref (w.2.1 12 0)), some (.int p0), some (.int p1), some (.ref (w.2.1 13 9)), none] [] σ
  refine J_aload_n hC dL_earliestStart_0 rfl rfl ?_
  refine J_iconst (v := nI 0) hC dL_earliestStart_1 (by decide) ?_
  refine J_aload_n hC dL_earliestStart_2 rfl rfl ?_
  refine J_iload_n hC dL_earliestStart_3 rfl rfl ?_
  refine J_iload_n hC dL_earliestStart_4 rfl rfl ?_
  refine iL_146 hC hK rfl ⟨by decide, by decide⟩ ⟨by decide, by decide⟩ (Nat.le_of_ble_eq_true rfl) dL_earliestStart_5 ?_
  refine hm _ _ (fun e σ1 h1 => ?_) (fun e σ1 h1 => ?_) (fun e σ1 h1 => ?_)
  · dsimp only [Option.toList_some, Option.toList_none, List.cons_append, List.nil_append]
    refine J_i2l hC dL_earliestStart_8 ?_
    refine J_lastore1 hC hM hNB dL_earliestStart_9 ?_
    refine J_goto (tgt := 21) hC dL_earliestStart_10 rfl ?_
    refine J_iconst (v := nI 0) hC dL_earliestStart_21 (by decide) ?_
    refine J_ireturn hC hR dL_earliestStart_22 (by decide) (by decide) ?_
    have g := hq _ (Or.inl ⟨e, σ1, h1, rfl⟩)
    rw [e] at g
    exact g
  · refine JX_catch (hpre := []) (hsuf := [(0, 10, 17, 19)]) hC hT rfl (fun q hq9 => absurd hq9 List.not_mem_nil) (by decide) (by decide) q5_26 (by decide +kernel) (fun q => ?_)
    refine J_astore hC dL_earliestStart_13 (Nat.le_of_ble_eq_true rfl) rfl ?_
    dsimp only [List.set]
    refine J_iconst (v := nI 1) hC dL_earliestStart_15 (by decide) ?_
    refine J_ireturn hC hR dL_earliestStart_16 (by decide) (by decide) ?_
    have g := hq _ (Or.inr ⟨⟨by omega, by omega⟩, h1⟩)
    rw [e] at g
    exact g
  · refine JX_catch (hpre := [(0, 10, 13, 32)]) (hsuf := []) hC hT rfl (by
      intro q hq9
      simp only [List.mem_cons, List.not_mem_nil, or_false] at hq9
      rcases hq9 with rfl
      · exact ⟨by decide, "java/lang/IndexOutOfBoundsException", q5_26, by decide⟩) (by decide) (by decide) q3_132 (by decide +kernel) (fun q => ?_)
    refine J_astore hC dL_earliestStart_17 (Nat.le_of_ble_eq_true rfl) rfl ?_
    dsimp only [List.set]
    refine J_iconst (v := nI 2) hC dL_earliestStart_19 (by decide) ?_
    refine J_ireturn hC hR dL_earliestStart_20 (by decide) (by decide) ?_
    have g := hq _ (Or.inr ⟨⟨by omega, by omega⟩, h1⟩)
    rw [e] at g
    exact g
abbrev rmL_bestKnots : Room := { frames := 8, cells := 2, slots := 12, locals := 138 }
abbrev ML_bestKnots (G : GC) (w : Lay) (σ : Mem) (As : List Value) (Q : Lay → Option Value → Mem → Prop) (Qx : Lay → String → Mem → Prop) : Prop := MT G yL_bestKnots (cww yL_bestKnots cL_bestKnots 5 (some .int) [(0, 10, 13, 32), (0, 10, 17, 19)]) rmL_bestKnots 2 12 w σ As Q Qx
set_option maxHeartbeats 4000000 in
set_option maxRecDepth 100000 in
theorem c_L_bestKnots {G : GC} {w : Lay} {σ : Mem} {Q : Lay → Option Value → Mem → Prop} {Qx : Lay → String → Mem → Prop} (hK : LK w) (hM : LM w) (hNB : ∀ q ∈ w.1, q.1 = 13 → q.2 < 10) {p0 p1 : Int32} {a : Nat × Int32} {P PX : Mem → Prop} (hm : ∀ (Q1 : Lay → Option Value → Mem → Prop) (Qx1 : Lay → String → Mem → Prop), (a.1 = 0 → ∀ σ', P σ' → Q1 w (some (.int a.2)) σ') → (a.1 = 1 → ∀ σ', PX σ' → Qx1 w "java/lang/IndexOutOfBoundsException" σ') → (a.1 = 2 → ∀ σ', PX σ' → Qx1 w "java/lang/IllegalArgumentException" σ') → MX9_bestKnots G w σ [.ref (w.2.1 12 0), .int p0, .int p1] Q1 Qx1)(hq : ∀ σ', LR P PX a σ' → Q w (some (.int (nI a.1))) σ') : ML_bestKnots G w σ [.ref (w.2.1 12 0), .int p0, .int p1, .ref (w.2.1 13 9)] Q Qx := by
  refine mt_startW (by decide) rfl (Nat.le_of_ble_eq_true rfl) (fun E hC hR hT => ?_)
  show J G E w 0 0 0 [some (.ref (w.2.1 12 0)), some (.int p0), some (.int p1), some (.ref (w.2.1 13 9)), none] [] σ
  refine J_aload_n hC dL_bestKnots_0 rfl rfl ?_
  refine J_iconst (v := nI 0) hC dL_bestKnots_1 (by decide) ?_
  refine J_aload_n hC dL_bestKnots_2 rfl rfl ?_
  refine J_iload_n hC dL_bestKnots_3 rfl rfl ?_
  refine J_iload_n hC dL_bestKnots_4 rfl rfl ?_
  refine iL_149 hC hK rfl ⟨by decide, by decide⟩ ⟨by decide, by decide⟩ (Nat.le_of_ble_eq_true rfl) dL_bestKnots_5 ?_
  refine hm _ _ (fun e σ1 h1 => ?_) (fun e σ1 h1 => ?_) (fun e σ1 h1 => ?_)
  · dsimp only [Option.toList_some, Option.toList_none, List.cons_append, List.nil_append]
    refine J_i2l hC dL_bestKnots_8 ?_
    refine J_lastore1 hC hM hNB dL_bestKnots_9 ?_
    refine J_goto (tgt := 21) hC dL_bestKnots_10 rfl ?_
    refine J_iconst (v := nI 0) hC dL_bestKnots_21 (by decide) ?_
    refine J_ireturn hC hR dL_bestKnots_22 (by decide) (by decide) ?_
    have g := hq _ (Or.inl ⟨e, σ1, h1, rfl⟩)
    rw [e] at g
    exact g
  · refine JX_catch (hpre := []) (hsuf := [(0, 10, 17, 19)]) hC hT rfl (fun q hq9 => absurd hq9 List.not_mem_nil) (by decide) (by decide) q5_26 (by decide +kernel) (fun q => ?_)
    refine J_astore hC dL_bestKnots_13 (Nat.le_of_ble_eq_true rfl) rfl ?_
    dsimp only [List.set]
    refine J_iconst (v := nI 1) hC dL_bestKnots_15 (by decide) ?_
    refine J_ireturn hC hR dL_bestKnots_16 (by decide) (by decide) ?_
    have g := hq _ (Or.inr ⟨⟨by omega, by omega⟩, h1⟩)
    rw [e] at g
    exact g
  · refine JX_catch (hpre := [(0, 10, 13, 32)]) (hsuf := []) hC hT rfl (by
      intro q hq9
      simp only [List.mem_cons, List.not_mem_nil, or_false] at hq9
      rcases hq9 with rfl
      · exact ⟨by decide, "java/lang/IndexOutOfBoundsException", q5_26, by decide⟩) (by decide) (by decide) q3_132 (by decide +kernel) (fun q => ?_)
    refine J_astore hC dL_bestKnots_17 (Nat.le_of_ble_eq_true rfl) rfl ?_
    dsimp only [List.set]
    refine J_iconst (v := nI 2) hC dL_bestKnots_19 (by decide) ?_
    refine J_ireturn hC hR dL_bestKnots_20 (by decide) (by decide) ?_
    have g := hq _ (Or.inr ⟨⟨by omega, by omega⟩, h1⟩)
    rw [e] at g
    exact g
abbrev rmL_guiltyKite : Room := { frames := 8, cells := 5, slots := 30, locals := 134 }
abbrev ML_guiltyKite (G : GC) (w : Lay) (σ : Mem) (As : List Value) (Q : Lay → Option Value → Mem → Prop) (Qx : Lay → String → Mem → Prop) : Prop := MT G yL_guiltyKite (cww yL_guiltyKite cL_guiltyKite 5 (some .int) [(0, 10, 13, 32), (0, 10, 17, 19), (0, 10, 21, 13)]) rmL_guiltyKite 5 30 w σ As Q Qx
set_option maxHeartbeats 4000000 in
set_option maxRecDepth 100000 in
theorem c_L_guiltyKite {G : GC} {w : Lay} {σ : Mem} {Q : Lay → Option Value → Mem → Prop} {Qx : Lay → String → Mem → Prop} (hK : LK w) (hM : LM w) (hNB : ∀ q ∈ w.1, q.1 = 13 → q.2 < 10) {p0 p1 : Int32} {a : Nat × Int32} {P PX : Mem → Prop} (hm : ∀ (Q1 : Lay → Option Value → Mem → Prop) (Qx1 : Lay → String → Mem → Prop), (a.1 = 0 → ∀ σ', P σ' → Q1 w (some (.int a.2)) σ') → (a.1 = 1 → ∀ σ', PX σ' → Qx1 w "java/lang/IndexOutOfBoundsException" σ') → (a.1 = 2 → ∀ σ', PX σ' → Qx1 w "java/lang/IllegalArgumentException" σ') → (a.1 = 3 → ∀ σ', PX σ' → Qx1 w "java/lang/IllegalStateException" σ') → MX9_guiltyKite G w σ [.ref (w.2.1 12 0), .int p0, .int p1] Q1 Qx1)(hq : ∀ σ', LR P PX a σ' → Q w (some (.int (nI a.1))) σ') : ML_guiltyKite G w σ [.ref (w.2.1 12 0), .int p0, .int p1, .ref (w.2.1 13 9)] Q Qx := by
  refine mt_startW (by decide) rfl (Nat.le_of_ble_eq_true rfl) (fun E hC hR hT => ?_)
  show J G E w 0 0 0 [some (.ref (w.2.1 12 0)), some (.int p0), some (.int p1), some (.ref (w.2.1 13 9)), none] [] σ
  refine J_aload_n hC dL_guiltyKite_0 rfl rfl ?_
  refine J_iconst (v := nI 0) hC dL_guiltyKite_1 (by decide) ?_
  refine J_aload_n hC dL_guiltyKite_2 rfl rfl ?_
  refine J_iload_n hC dL_guiltyKite_3 rfl rfl ?_
  refine J_iload_n hC dL_guiltyKite_4 rfl rfl ?_
  refine iL_152 hC hK rfl ⟨by decide, by decide⟩ ⟨by decide, by decide⟩ (Nat.le_of_ble_eq_true rfl) dL_guiltyKite_5 ?_
  refine hm _ _ (fun e σ1 h1 => ?_) (fun e σ1 h1 => ?_) (fun e σ1 h1 => ?_) (fun e σ1 h1 => ?_)
  · dsimp only [Option.toList_some, Option.toList_none, List.cons_append, List.nil_append]
    refine J_i2l hC dL_guiltyKite_8 ?_
    refine J_lastore1 hC hM hNB dL_guiltyKite_9 ?_
    refine J_goto (tgt := 25) hC dL_guiltyKite_10 rfl ?_
    refine J_iconst (v := nI 0) hC dL_guiltyKite_25 (by decide) ?_
    refine J_ireturn hC hR dL_guiltyKite_26 (by decide) (by decide) ?_
    have g := hq _ (Or.inl ⟨e, σ1, h1, rfl⟩)
    rw [e] at g
    exact g
  · refine JX_catch (hpre := []) (hsuf := [(0, 10, 17, 19), (0, 10, 21, 13)]) hC hT rfl (fun q hq9 => absurd hq9 List.not_mem_nil) (by decide) (by decide) q5_26 (by decide +kernel) (fun q => ?_)
    refine J_astore hC dL_guiltyKite_13 (Nat.le_of_ble_eq_true rfl) rfl ?_
    dsimp only [List.set]
    refine J_iconst (v := nI 1) hC dL_guiltyKite_15 (by decide) ?_
    refine J_ireturn hC hR dL_guiltyKite_16 (by decide) (by decide) ?_
    have g := hq _ (Or.inr ⟨⟨by omega, by omega⟩, h1⟩)
    rw [e] at g
    exact g
  · refine JX_catch (hpre := [(0, 10, 13, 32)]) (hsuf := [(0, 10, 21, 13)]) hC hT rfl (by
      intro q hq9
      simp only [List.mem_cons, List.not_mem_nil, or_false] at hq9
      rcases hq9 with rfl
      · exact ⟨by decide, "java/lang/IndexOutOfBoundsException", q5_26, by decide⟩) (by decide) (by decide) q3_132 (by decide +kernel) (fun q => ?_)
    refine J_astore hC dL_guiltyKite_17 (Nat.le_of_ble_eq_true rfl) rfl ?_
    dsimp only [List.set]
    refine J_iconst (v := nI 2) hC dL_guiltyKite_19 (by decide) ?_
    refine J_ireturn hC hR dL_guiltyKite_20 (by decide) (by decide) ?_
    have g := hq _ (Or.inr ⟨⟨by omega, by omega⟩, h1⟩)
    rw [e] at g
    exact g
  · refine JX_catch (hpre := [(0, 10, 13, 32), (0, 10, 17, 19)]) (hsuf := []) hC hT rfl (by
      intro q hq9
      simp only [List.mem_cons, List.not_mem_nil, or_false] at hq9
      rcases hq9 with rfl | rfl
      · exact ⟨by decide, "java/lang/IndexOutOfBoundsException", q5_26, by decide⟩
      · exact ⟨by decide, "java/lang/IllegalArgumentException", q3_132, by decide⟩) (by decide) (by decide) q3_47 (by decide +kernel) (fun q => ?_)
    refine J_astore hC dL_guiltyKite_21 (Nat.le_of_ble_eq_true rfl) rfl ?_
    dsimp only [List.set]
    refine J_iconst (v := nI 3) hC dL_guiltyKite_23 (by decide) ?_
    refine J_ireturn hC hR dL_guiltyKite_24 (by decide) (by decide) ?_
    have g := hq _ (Or.inr ⟨⟨by omega, by omega⟩, h1⟩)
    rw [e] at g
    exact g
abbrev rmL_verdictsIn : Room := { frames := 8, cells := 1, slots := 6, locals := 162 }
abbrev ML_verdictsIn (G : GC) (w : Lay) (σ : Mem) (As : List Value) (Q : Lay → Option Value → Mem → Prop) (Qx : Lay → String → Mem → Prop) : Prop := MT G yL_verdictsIn (cww yL_verdictsIn cL_verdictsIn 4 (some .int) [(0, 9, 12, 19)]) rmL_verdictsIn 1 6 w σ As Q Qx
set_option maxHeartbeats 4000000 in
set_option maxRecDepth 100000 in
theorem c_L_verdictsIn {G : GC} {w : Lay} {σ : Mem} {Q : Lay → Option Value → Mem → Prop} {Qx : Lay → String → Mem → Prop} (hK : LK w) (hM : LM w) (hNB : ∀ q ∈ w.1, q.1 = 13 → q.2 < 10) {p0 : Int32} {a : Nat × Int32} {P PX : Mem → Prop} (hm : ∀ (Q1 : Lay → Option Value → Mem → Prop) (Qx1 : Lay → String → Mem → Prop), (a.1 = 0 → ∀ σ', P σ' → Q1 w (some (.int a.2)) σ') → (a.1 = 1 → ∀ σ', PX σ' → Qx1 w "java/lang/IllegalArgumentException" σ') → MX9_verdictsIn G w σ [.ref (w.2.1 12 0), .int p0] Q1 Qx1)(hq : ∀ σ', LR P PX a σ' → Q w (some (.int (nI a.1))) σ') : ML_verdictsIn G w σ [.ref (w.2.1 12 0), .int p0, .ref (w.2.1 13 9)] Q Qx := by
  refine mt_startW (by decide) rfl (Nat.le_of_ble_eq_true rfl) (fun E hC hR hT => ?_)
  show J G E w 0 0 0 [some (.ref (w.2.1 12 0)), some (.int p0), some (.ref (w.2.1 13 9)), none] [] σ
  refine J_aload_n hC dL_verdictsIn_0 rfl rfl ?_
  refine J_iconst (v := nI 0) hC dL_verdictsIn_1 (by decide) ?_
  refine J_aload_n hC dL_verdictsIn_2 rfl rfl ?_
  refine J_iload_n hC dL_verdictsIn_3 rfl rfl ?_
  refine iL_155 hC hK rfl ⟨by decide, by decide⟩ ⟨by decide, by decide⟩ (Nat.le_of_ble_eq_true rfl) dL_verdictsIn_4 ?_
  refine hm _ _ (fun e σ1 h1 => ?_) (fun e σ1 h1 => ?_)
  · dsimp only [Option.toList_some, Option.toList_none, List.cons_append, List.nil_append]
    refine J_i2l hC dL_verdictsIn_7 ?_
    refine J_lastore1 hC hM hNB dL_verdictsIn_8 ?_
    refine J_goto (tgt := 15) hC dL_verdictsIn_9 rfl ?_
    refine J_iconst (v := nI 0) hC dL_verdictsIn_15 (by decide) ?_
    refine J_ireturn hC hR dL_verdictsIn_16 (by decide) (by decide) ?_
    have g := hq _ (Or.inl ⟨e, σ1, h1, rfl⟩)
    rw [e] at g
    exact g
  · refine JX_catch (hpre := []) (hsuf := []) hC hT rfl (fun q hq9 => absurd hq9 List.not_mem_nil) (by decide) (by decide) q3_132 (by decide +kernel) (fun q => ?_)
    refine J_astore_n hC dL_verdictsIn_12 rfl (Nat.le_of_ble_eq_true rfl) rfl ?_
    dsimp only [List.set]
    refine J_iconst (v := nI 1) hC dL_verdictsIn_13 (by decide) ?_
    refine J_ireturn hC hR dL_verdictsIn_14 (by decide) (by decide) ?_
    have g := hq _ (Or.inr ⟨⟨by omega, by omega⟩, h1⟩)
    rw [e] at g
    exact g
