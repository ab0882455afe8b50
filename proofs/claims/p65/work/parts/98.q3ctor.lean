/-! ===== the first office, the past, the class ===== -/
def Z0 : Mem := (fun _ _ _ => 0, fun _ => 0)
theorem tgO_lt {c j t : Nat} (h : tgO c j = some t) : t < 22 := by
  unfold tgO at h
  by_cases e0 : c = 0
  · rw [if_pos e0] at h
    split at h <;> cases h <;> decide
  rw [if_neg e0] at h
  by_cases e1 : c = 1
  · rw [if_pos e1] at h
    split at h <;> cases h <;> decide
  rw [if_neg e1] at h
  by_cases e6 : c = 6
  · rw [if_pos e6] at h
    by_cases hj : 2 ≤ j ∧ j < 12
    · rw [if_pos hj] at h
      cases h
      omega
    · rw [if_neg hj] at h
      cases h
  rw [if_neg e6] at h
  by_cases e17 : c = 17
  · rw [if_pos e17] at h
    split at h <;> cases h <;> decide
  rw [if_neg e17] at h
  cases h
theorem LO_keep {S : Nat → Nat → Prop} {R : Nat → Nat → Nat → Prop} {w w' : Lay} {o : Nat} (h : LO w o) (hX : XT S R w w') (hR : ∀ y i, ¬ R o y i) : LO w' o :=
  ⟨h.1, fun c hc => (hX.1 _ _).mpr (Or.inl (h.2.1 c hc)), fun c j t e => by rw [hX.2.2 _ _ _ (hR c j), h.2.2 c j t e, hX.2.1 o t (h.2.1 t (tgO_lt e))]⟩
theorem LO_new {R : Nat → Nat → Nat → Prop} {w w' : Lay} {o : Nat} (ho : o < 12) (hA : XT (fun x y => x = o ∧ y ≤ 21) R w w') (hT : ∀ c j t, tgO c j = some t → PT w' o c j o t) : LO w' o :=
  ⟨ho, fun c hc => (hA.1 _ _).mpr (Or.inr ⟨rfl, by omega⟩), hT⟩
def fO1 : Mem := wr (wr (wr (wr Z0 0 1 0 (nI 40)) 0 1 1 (nI 30)) 0 1 2 (nI 2)) 0 1 3 (nI 10)
def fO2 : Mem := wr (wr fO1 0 2 0 (nI 0)) 0 1 4 (nI (0 + 1))
def fO3 : Mem := awM fO2 0 0 0 (nI 2) (nI 3)
def fO4 : Mem := awM fO3 0 0 1 (nI 0) (nI 5)
def fO5 : Mem := wr (wr fO4 0 2 1 (nI 0)) 0 1 4 (nI (1 + 1))
def fO6 : Mem := awM fO5 0 1 0 (nI 6) (nI 4)
def fO7 : Mem := acM fO6 0 0 (nI 2)
def fO8 : Mem := acM fO7 0 1 (nI 1)
def fO9 : Mem := enM fO8 0 0 (nI 5) (nI 10) (nI (5 * 2 / 40)) (nI 10) (nI 0) (nI 0) (nI 50)
def fO10 : Mem := enM fO9 0 1 (nI 15) (nI 8) (nI (15 * 2 / 40)) (nI 10) (nI 0) (nI 1) (nI 40)
def fO11 : Mem := enM fO10 0 2 (nI 34) (nI 10) (nI (34 * 2 / 40)) (nI 15) (nI 1) (nI 1) (nI 30)
def fO12 : Mem := enM fO11 0 3 (nI 22) (nI 10) (nI (22 * 2 / 40)) (nI 20) (nI 0) (nI 0) (nI 0)
abbrev rnX9_firstOffice : Room := { frames := 3, cells := 22, slots := 357, locals := 60 }
set_option maxHeartbeats 4000000 in
set_option maxRecDepth 100000 in
theorem c_X9_firstOffice {G : GC} {w : Lay} {Q : Lay → Option Value → Mem → Prop} {Qx : Lay → String → Mem → Prop} (hf : ∀ y, y ≤ 21 → (0, y) ∉ w.1) (hr : ∀ y j, y ≤ 21 → w.2.2 0 y j = none) (hq : ∀ w', XT (fun x y => x = 0 ∧ y ≤ 21) (fun x y i => x = 0 ∧ y ≤ 21) w w' → LO w' 0 → Q w' (some (.ref (w'.2.1 0 0))) fO12) : MTO G yX9_firstOffice (cw yX9_firstOffice cX9_firstOffice 1 (some (.object "KitePermits$Office"))) rnX9_firstOffice 22 357 w Z0 [] Q Qx := by
  refine mt_startO (by decide) rfl (Nat.le_of_ble_eq_true rfl) (fun E hC hR hN hAO _ => ?_)
  show J G E w 0 0 0 [none] [] Z0
  refine J_newO hC (o := 0) (c := 0) (hf 0 (by omega)) (kd_o (by decide)) rfl inA4 tyX4_ok q1_36 q1_37 q1_2 (fun j => hr 0 j (by omega)) (fun _ => rfl) rfl (by decide) ⟨by decide, by decide⟩ dX9_firstOffice_0 (fun w1 hX1 => ?_)
  refine J_dup hC dX9_firstOffice_3 rfl ?_
  refine J_invIN (y := yX4_init) (rm := rnX4_init) hC hAO rfl (host := "KitePermits") q1_40 q1_39 q1_2 (by decide +kernel) rfl ⟨mdnX4_init.1, mdnX4_init.2.1, mdnX4_init.2.2⟩ rfl rfl ⟨by decide, by decide⟩ ⟨by decide, by decide⟩ (Nat.le_of_ble_eq_true rfl) dX9_firstOffice_4 ?_
  refine c_X4_init (by decide) ((hX1.1 _ _).mpr (Or.inr ⟨rfl, rfl⟩)) (fun y h1 h2 g => ((hX1.1 _ _).mp g).elim (hf y (by omega)) (fun q => by first | omega | (dsimp only at q; omega))) (fun y j h1 h2 => (hX1.2.2 _ _ _ (fun q => by first | omega | (dsimp only at q; omega))).trans (hr y j (by omega))) (fun _ _ _ _ => rfl) rfl (fun w2 hX2 hT2 => ?_)
  dsimp only [Option.toList_none, List.nil_append]
  have hA := XT_mono (S' := fun x y => x = 0 ∧ y ≤ 21) (R' := fun x y i => x = 0 ∧ y ≤ 21) (XT_tr hX1 hX2) (fun x y => by first | omega | (dsimp only; omega)) (fun x y i => by first | omega | (dsimp only; omega))
  have hL := LO_new (by decide) hA hT2
  rw [← hX2.2.1 _ _ ((hX1.1 _ _).mpr (Or.inr ⟨rfl, rfl⟩))]
  refine J_astore_n hC dX9_firstOffice_7 rfl (Nat.le_of_ble_eq_true rfl) rfl ?_
  dsimp only [List.set]
  refine J_aload_n hC dX9_firstOffice_8 rfl rfl ?_
  refine gX9_59 hC hL dX9_firstOffice_9 ?_
  refine J_bipush (v := nI 40) hC dX9_firstOffice_12 (by decide) ?_
  refine pX9_63 hC hL dX9_firstOffice_14 ?_
  refine J_aload_n hC dX9_firstOffice_17 rfl rfl ?_
  refine gX9_59 hC hL dX9_firstOffice_18 ?_
  refine J_bipush (v := nI 30) hC dX9_firstOffice_21 (by decide) ?_
  refine pX9_69 hC hL dX9_firstOffice_23 ?_
  refine J_aload_n hC dX9_firstOffice_26 rfl rfl ?_
  refine gX9_59 hC hL dX9_firstOffice_27 ?_
  refine J_iconst (v := nI 2) hC dX9_firstOffice_30 (by decide) ?_
  refine pX9_72 hC hL dX9_firstOffice_31 ?_
  refine J_aload_n hC dX9_firstOffice_34 rfl rfl ?_
  refine gX9_59 hC hL dX9_firstOffice_35 ?_
  refine J_bipush (v := nI 10) hC dX9_firstOffice_38 (by decide) ?_
  refine pX9_75 hC hL dX9_firstOffice_40 ?_
  show J G E _ _ _ _ _ _ fO1
  refine J_aload_n hC dX9_firstOffice_43 rfl rfl ?_
  refine gX9_59 hC hL dX9_firstOffice_44 ?_
  refine iX9_78 hC hL rfl ⟨by decide, by decide⟩ ⟨by decide, by decide⟩ (Nat.le_of_ble_eq_true rfl) dX9_firstOffice_47 ?_
  refine c_X0_openZone (nz := 0) hL (by decide +kernel) (by decide) (fun σ' hh => ?_)
  obtain rfl : σ' = fO2 := by
    rcases hh with ⟨-, h⟩ | ⟨h, -⟩
    · exact h
    · exact absurd h (by decide)
  dsimp only [Option.toList_none, Option.toList_some, List.cons_append, List.nil_append]
  show J G E _ _ _ _ _ _ fO2
  refine J_aload_n hC dX9_firstOffice_50 rfl rfl ?_
  refine gX9_59 hC hL dX9_firstOffice_51 ?_
  refine J_iconst (v := nI 2) hC dX9_firstOffice_54 (by decide) ?_
  refine J_iconst (v := nI 3) hC dX9_firstOffice_55 (by decide) ?_
  refine iX9_81 hC hL rfl ⟨by decide, by decide⟩ ⟨by decide, by decide⟩ (Nat.le_of_ble_eq_true rfl) dX9_firstOffice_56 ?_
  refine c_X0_addWind (nz := 1) hL (by decide +kernel) (by decide) (fun z hz => ?_) (fun σ' hh => ?_)
  · obtain rfl : z = 0 := by omega
    exact ⟨0, by decide +kernel, by decide⟩
  obtain rfl : σ' = fO3 := by
    rcases hh with ⟨z, m, e1, e2, e3, h⟩ | ⟨h, -⟩ | ⟨z, e1, e2, -⟩
    · obtain rfl : z = 0 := by omega
      obtain rfl : m = 0 := by
        rcases (show m = 0 ∨ m = 1 ∨ m = 2 ∨ m = 3 ∨ m = 4 ∨ m = 5 by omega) with rfl | rfl | rfl | rfl | rfl | rfl <;> first | rfl | exact absurd e2 (by decide +kernel)
      exact h
    · exact absurd h (by decide)
    · obtain rfl : z = 0 := by omega
      exact absurd e2 (by decide +kernel)
  dsimp only [Option.toList_none, Option.toList_some, List.cons_append, List.nil_append]
  show J G E _ _ _ _ _ _ fO3
  refine J_aload_n hC dX9_firstOffice_59 rfl rfl ?_
  refine gX9_59 hC hL dX9_firstOffice_60 ?_
  refine J_iconst (v := nI 0) hC dX9_firstOffice_63 (by decide) ?_
  refine J_iconst (v := nI 5) hC dX9_firstOffice_64 (by decide) ?_
  refine iX9_81 hC hL rfl ⟨by decide, by decide⟩ ⟨by decide, by decide⟩ (Nat.le_of_ble_eq_true rfl) dX9_firstOffice_65 ?_
  refine c_X0_addWind (nz := 1) hL (by decide +kernel) (by decide) (fun z hz => ?_) (fun σ' hh => ?_)
  · obtain rfl : z = 0 := by omega
    exact ⟨1, by decide +kernel, by decide⟩
  obtain rfl : σ' = fO4 := by
    rcases hh with ⟨z, m, e1, e2, e3, h⟩ | ⟨h, -⟩ | ⟨z, e1, e2, -⟩
    · obtain rfl : z = 0 := by omega
      obtain rfl : m = 1 := by
        rcases (show m = 0 ∨ m = 1 ∨ m = 2 ∨ m = 3 ∨ m = 4 ∨ m = 5 by omega) with rfl | rfl | rfl | rfl | rfl | rfl <;> first | rfl | exact absurd e2 (by decide +kernel)
      exact h
    · exact absurd h (by decide)
    · obtain rfl : z = 0 := by omega
      exact absurd e2 (by decide +kernel)
  dsimp only [Option.toList_none, Option.toList_some, List.cons_append, List.nil_append]
  show J G E _ _ _ _ _ _ fO4
  refine J_aload_n hC dX9_firstOffice_68 rfl rfl ?_
  refine gX9_59 hC hL dX9_firstOffice_69 ?_
  refine iX9_78 hC hL rfl ⟨by decide, by decide⟩ ⟨by decide, by decide⟩ (Nat.le_of_ble_eq_true rfl) dX9_firstOffice_72 ?_
  refine c_X0_openZone (nz := 1) hL (by decide +kernel) (by decide) (fun σ' hh => ?_)
  obtain rfl : σ' = fO5 := by
    rcases hh with ⟨-, h⟩ | ⟨h, -⟩
    · exact h
    · exact absurd h (by decide)
  dsimp only [Option.toList_none, Option.toList_some, List.cons_append, List.nil_append]
  show J G E _ _ _ _ _ _ fO5
  refine J_aload_n hC dX9_firstOffice_75 rfl rfl ?_
  refine gX9_59 hC hL dX9_firstOffice_76 ?_
  refine J_bipush (v := nI 6) hC dX9_firstOffice_79 (by decide) ?_
  refine J_iconst (v := nI 4) hC dX9_firstOffice_81 (by decide) ?_
  refine iX9_81 hC hL rfl ⟨by decide, by decide⟩ ⟨by decide, by decide⟩ (Nat.le_of_ble_eq_true rfl) dX9_firstOffice_82 ?_
  refine c_X0_addWind (nz := 2) hL (by decide +kernel) (by decide) (fun z hz => ?_) (fun σ' hh => ?_)
  · rcases (show z = 0 ∨ z = 1 by omega) with rfl | rfl
    · exact ⟨2, by decide +kernel, by decide⟩
    · exact ⟨0, by decide +kernel, by decide⟩
  obtain rfl : σ' = fO6 := by
    rcases hh with ⟨z, m, e1, e2, e3, h⟩ | ⟨h, -⟩ | ⟨z, e1, e2, -⟩
    · obtain rfl : z = 1 := by omega
      obtain rfl : m = 0 := by
        rcases (show m = 0 ∨ m = 1 ∨ m = 2 ∨ m = 3 ∨ m = 4 ∨ m = 5 by omega) with rfl | rfl | rfl | rfl | rfl | rfl <;> first | rfl | exact absurd e2 (by decide +kernel)
      exact h
    · exact absurd h (by decide)
    · obtain rfl : z = 1 := by omega
      exact absurd e2 (by decide +kernel)
  dsimp only [Option.toList_none, Option.toList_some, List.cons_append, List.nil_append]
  show J G E _ _ _ _ _ _ fO6
  refine J_aload_n hC dX9_firstOffice_85 rfl rfl ?_
  refine gX9_59 hC hL dX9_firstOffice_86 ?_
  refine J_iconst (v := nI 2) hC dX9_firstOffice_89 (by decide) ?_
  refine iX9_85 hC hL rfl ⟨by decide, by decide⟩ ⟨by decide, by decide⟩ (Nat.le_of_ble_eq_true rfl) dX9_firstOffice_90 ?_
  refine c_X0_addColour (nc := 0) hL (by decide +kernel) (by decide) (fun σ' hh => ?_)
  obtain rfl : σ' = fO7 := by
    rcases hh with ⟨-, h⟩ | ⟨h, -⟩
    · exact h
    · exact absurd h (by decide)
  dsimp only [Option.toList_none, Option.toList_some, List.cons_append, List.nil_append]
  show J G E _ _ _ _ _ _ fO7
  refine J_aload_n hC dX9_firstOffice_93 rfl rfl ?_
  refine gX9_59 hC hL dX9_firstOffice_94 ?_
  refine J_iconst (v := nI 1) hC dX9_firstOffice_97 (by decide) ?_
  refine iX9_85 hC hL rfl ⟨by decide, by decide⟩ ⟨by decide, by decide⟩ (Nat.le_of_ble_eq_true rfl) dX9_firstOffice_98 ?_
  refine c_X0_addColour (nc := 1) hL (by decide +kernel) (by decide) (fun σ' hh => ?_)
  obtain rfl : σ' = fO8 := by
    rcases hh with ⟨-, h⟩ | ⟨h, -⟩
    · exact h
    · exact absurd h (by decide)
  dsimp only [Option.toList_none, Option.toList_some, List.cons_append, List.nil_append]
  show J G E _ _ _ _ _ _ fO8
  refine J_aload_n hC dX9_firstOffice_101 rfl rfl ?_
  refine J_iconst (v := nI 5) hC dX9_firstOffice_102 (by decide) ?_
  refine J_bipush (v := nI 10) hC dX9_firstOffice_103 (by decide) ?_
  refine J_bipush (v := nI 10) hC dX9_firstOffice_105 (by decide) ?_
  refine J_iconst (v := nI 0) hC dX9_firstOffice_107 (by decide) ?_
  refine J_iconst (v := nI 0) hC dX9_firstOffice_108 (by decide) ?_
  refine J_bipush (v := nI 50) hC dX9_firstOffice_109 (by decide) ?_
  refine iX9_89 hC hL rfl ⟨by decide, by decide⟩ ⟨by decide, by decide⟩ (Nat.le_of_ble_eq_true rfl) dX9_firstOffice_111 ?_
  refine c_X4_enterKite (N := 0) (W := 40) (Z := 2) (x := 5) hL (by decide +kernel) (by decide) (by decide +kernel) (by decide +kernel) (by decide) (by decide) (by decide) ?_
  dsimp only [Option.toList_none, Option.toList_some, List.cons_append, List.nil_append]
  show J G E _ _ _ _ _ _ fO9
  refine J_pop hC dX9_firstOffice_114 rfl ?_
  refine J_aload_n hC dX9_firstOffice_115 rfl rfl ?_
  refine J_bipush (v := nI 15) hC dX9_firstOffice_116 (by decide) ?_
  refine J_bipush (v := nI 8) hC dX9_firstOffice_118 (by decide) ?_
  refine J_bipush (v := nI 10) hC dX9_firstOffice_120 (by decide) ?_
  refine J_iconst (v := nI 0) hC dX9_firstOffice_122 (by decide) ?_
  refine J_iconst (v := nI 1) hC dX9_firstOffice_123 (by decide) ?_
  refine J_bipush (v := nI 40) hC dX9_firstOffice_124 (by decide) ?_
  refine iX9_89 hC hL rfl ⟨by decide, by decide⟩ ⟨by decide, by decide⟩ (Nat.le_of_ble_eq_true rfl) dX9_firstOffice_126 ?_
  refine c_X4_enterKite (N := 1) (W := 40) (Z := 2) (x := 15) hL (by decide +kernel) (by decide) (by decide +kernel) (by decide +kernel) (by decide) (by decide) (by decide) ?_
  dsimp only [Option.toList_none, Option.toList_some, List.cons_append, List.nil_append]
  show J G E _ _ _ _ _ _ fO10
  refine J_pop hC dX9_firstOffice_129 rfl ?_
  refine J_aload_n hC dX9_firstOffice_130 rfl rfl ?_
  refine J_bipush (v := nI 34) hC dX9_firstOffice_131 (by decide) ?_
  refine J_bipush (v := nI 10) hC dX9_firstOffice_133 (by decide) ?_
  refine J_bipush (v := nI 15) hC dX9_firstOffice_135 (by decide) ?_
  refine J_iconst (v := nI 1) hC dX9_firstOffice_137 (by decide) ?_
  refine J_iconst (v := nI 1) hC dX9_firstOffice_138 (by decide) ?_
  refine J_bipush (v := nI 30) hC dX9_firstOffice_139 (by decide) ?_
  refine iX9_89 hC hL rfl ⟨by decide, by decide⟩ ⟨by decide, by decide⟩ (Nat.le_of_ble_eq_true rfl) dX9_firstOffice_141 ?_
  refine c_X4_enterKite (N := 2) (W := 40) (Z := 2) (x := 34) hL (by decide +kernel) (by decide) (by decide +kernel) (by decide +kernel) (by decide) (by decide) (by decide) ?_
  dsimp only [Option.toList_none, Option.toList_some, List.cons_append, List.nil_append]
  show J G E _ _ _ _ _ _ fO11
  refine J_pop hC dX9_firstOffice_144 rfl ?_
  refine J_aload_n hC dX9_firstOffice_145 rfl rfl ?_
  refine J_bipush (v := nI 22) hC dX9_firstOffice_146 (by decide) ?_
  refine J_bipush (v := nI 10) hC dX9_firstOffice_148 (by decide) ?_
  refine J_bipush (v := nI 20) hC dX9_firstOffice_150 (by decide) ?_
  refine J_iconst (v := nI 0) hC dX9_firstOffice_152 (by decide) ?_
  refine J_iconst (v := nI 0) hC dX9_firstOffice_153 (by decide) ?_
  refine J_iconst (v := nI 0) hC dX9_firstOffice_154 (by decide) ?_
  refine iX9_89 hC hL rfl ⟨by decide, by decide⟩ ⟨by decide, by decide⟩ (Nat.le_of_ble_eq_true rfl) dX9_firstOffice_155 ?_
  refine c_X4_enterKite (N := 3) (W := 40) (Z := 2) (x := 22) hL (by decide +kernel) (by decide) (by decide +kernel) (by decide +kernel) (by decide) (by decide) (by decide) ?_
  dsimp only [Option.toList_none, Option.toList_some, List.cons_append, List.nil_append]
  show J G E _ _ _ _ _ _ fO12
  refine J_pop hC dX9_firstOffice_158 rfl ?_
  refine J_aload_n hC dX9_firstOffice_159 rfl rfl ?_
  exact J_areturn hC hR dX9_firstOffice_160 (by decide) (by decide) (hq _ hA hL)
