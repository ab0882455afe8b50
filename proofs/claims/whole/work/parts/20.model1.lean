set_option maxHeartbeats 4000000 in
set_option maxRecDepth 100000 in
theorem c_X10_of {G : GC} {w : Lay} {σ : Mem} {Q : Lay → Option Value → Mem → Prop} {Qx : Lay → String → Mem → Prop} (hM : LM w) {k j : Nat} (h : 70 + 9 * k + j < 304) (hq : Q w (some (.int (rd σ 13 1 (70 + 9 * k + j)))) σ) : MX10_of G w σ [.ref (w.2.1 13 0), .int (nI k), .int (nI j)] Q Qx := by
  refine mt_start (by decide) rfl (Nat.le_of_ble_eq_true rfl) (fun E hC hR hN => ?_)
  show J G E w 0 0 0 [some (.ref (w.2.1 13 0)), some (.int (nI k)), some (.int (nI j))] [] σ
  refine J_aload_n hC dX10_of_0 rfl rfl ?_
  refine gX10_7 hC hM dX10_of_1 ?_
  refine J_bipush (v := nI 70) hC dX10_of_4 (by decide) ?_
  refine J_bipush (v := nI 9) hC dX10_of_6 (by decide) ?_
  refine J_iload_n hC dX10_of_8 rfl rfl ?_
  refine J_imul_n hC dX10_of_9 ?_
  refine J_iadd_n hC dX10_of_10 ?_
  refine J_iload_n hC dX10_of_11 rfl rfl ?_
  refine J_iadd_n hC dX10_of_12 ?_
  refine J_iaload hC (hM.1 1 (by decide)) rfl rfl (by omega) (by decide) dX10_of_13 ?_
  refine J_ireturn hC hR dX10_of_14 (by decide) (by decide) ?_
  exact hq
set_option maxHeartbeats 4000000 in
set_option maxRecDepth 100000 in
theorem c_X10_in {G : GC} {w : Lay} {σ : Mem} {Q : Lay → Option Value → Mem → Prop} {Qx : Lay → String → Mem → Prop} {x y z : Int32} {v a b : Int} (hx : x.toInt = v) (hy : y.toInt = a) (hz : z.toInt = b) (ht : a ≤ v ∧ v ≤ b → Q w (some (.int (nI 1))) σ) (hf : ¬ (a ≤ v ∧ v ≤ b) → Q w (some (.int (nI 0))) σ) : MX10_in G w σ [.int x, .int y, .int z] Q Qx := by
  refine mt_start (by decide) rfl (Nat.le_of_ble_eq_true rfl) (fun E hC hR hN => ?_)
  show J G E w 0 0 0 [some (.int x), some (.int y), some (.int z)] [] σ
  subst hx; subst hy; subst hz
  refine J_iload_n hC dX10_in_0 rfl rfl ?_
  refine J_iload_n hC dX10_in_1 rfl rfl ?_
  refine J_icmp_lt hC (tgt := 14) dX10_in_2 rfl (fun hb0 => ?_) (fun hb0 => ?_)
  · refine J_iconst (v := nI 0) hC dX10_in_14 (by decide) ?_
    refine J_zreturn hC hR dX10_in_15 (by decide) (by decide) (by decide) ?_
    exact hf (fun q => by first | (rw [Int32.lt_iff_toInt_lt] at hb0; omega) | (rw [Int32.lt_iff_toInt_lt] at hb1; omega))
  · refine J_iload_n hC dX10_in_5 rfl rfl ?_
    refine J_iload_n hC dX10_in_6 rfl rfl ?_
    refine J_icmp_gt hC (tgt := 14) dX10_in_7 rfl (fun hb1 => ?_) (fun hb1 => ?_)
    · refine J_iconst (v := nI 0) hC dX10_in_14 (by decide) ?_
      refine J_zreturn hC hR dX10_in_15 (by decide) (by decide) (by decide) ?_
      exact hf (fun q => by first | (rw [Int32.lt_iff_toInt_lt] at hb0; omega) | (rw [Int32.lt_iff_toInt_lt] at hb1; omega))
    · refine J_iconst (v := nI 1) hC dX10_in_10 (by decide) ?_
      refine J_goto (tgt := 15) hC dX10_in_11 rfl ?_
      refine J_zreturn hC hR dX10_in_15 (by decide) (by decide) (by decide) ?_
      exact ht ⟨by rw [Int32.lt_iff_toInt_lt] at hb0; omega, by rw [Int32.lt_iff_toInt_lt] at hb1; omega⟩
set_option maxHeartbeats 4000000 in
set_option maxRecDepth 100000 in
theorem c_X10_less {G : GC} {w : Lay} {σ : Mem} {Q : Lay → Option Value → Mem → Prop} {Qx : Lay → String → Mem → Prop} {a b : Int32} (hq : Q w (some (.int (imin a b))) σ) : MX10_less G w σ [.int a, .int b] Q Qx := by
  refine mt_start (by decide) rfl (Nat.le_of_ble_eq_true rfl) (fun E hC hR hN => ?_)
  show J G E w 0 0 0 [some (.int a), some (.int b)] [] σ
  refine J_iload_n hC dX10_less_0 rfl rfl ?_
  refine J_iload_n hC dX10_less_1 rfl rfl ?_
  refine J_icmp_ge hC (tgt := 9) dX10_less_2 rfl (fun hb0 => ?_) (fun hb0 => ?_)
  · refine J_iload_n hC dX10_less_9 rfl rfl ?_
    refine J_ireturn hC hR dX10_less_10 (by decide) (by decide) ?_
    first | (rw [(imin_alt a b).1 (by rw [Int32.lt_iff_toInt_lt]; rw [Int32.le_iff_toInt_le] at hb0; omega)] at hq; exact hq) | (rw [(imin_alt a b).2 (by rw [Int32.lt_iff_toInt_lt]; rw [Int32.le_iff_toInt_le] at hb0; omega)] at hq; exact hq)
  · refine J_iload_n hC dX10_less_5 rfl rfl ?_
    refine J_goto (tgt := 10) hC dX10_less_6 rfl ?_
    refine J_ireturn hC hR dX10_less_10 (by decide) (by decide) ?_
    first | (rw [(imin_alt a b).1 (by rw [Int32.lt_iff_toInt_lt]; rw [Int32.le_iff_toInt_le] at hb0; omega)] at hq; exact hq) | (rw [(imin_alt a b).2 (by rw [Int32.lt_iff_toInt_lt]; rw [Int32.le_iff_toInt_le] at hb0; omega)] at hq; exact hq)
set_option maxHeartbeats 4000000 in
set_option maxRecDepth 100000 in
theorem c_X10_more {G : GC} {w : Lay} {σ : Mem} {Q : Lay → Option Value → Mem → Prop} {Qx : Lay → String → Mem → Prop} {a b : Int32} (hq : Q w (some (.int (imax a b))) σ) : MX10_more G w σ [.int a, .int b] Q Qx := by
  refine mt_start (by decide) rfl (Nat.le_of_ble_eq_true rfl) (fun E hC hR hN => ?_)
  show J G E w 0 0 0 [some (.int a), some (.int b)] [] σ
  refine J_iload_n hC dX10_more_0 rfl rfl ?_
  refine J_iload_n hC dX10_more_1 rfl rfl ?_
  refine J_icmp_le hC (tgt := 9) dX10_more_2 rfl (fun hb0 => ?_) (fun hb0 => ?_)
  · refine J_iload_n hC dX10_more_9 rfl rfl ?_
    refine J_ireturn hC hR dX10_more_10 (by decide) (by decide) ?_
    first | (rw [(imax_alt a b).1 (by rw [Int32.lt_iff_toInt_lt]; rw [Int32.le_iff_toInt_le] at hb0; omega)] at hq; exact hq) | (rw [(imax_alt a b).2 (by rw [Int32.lt_iff_toInt_lt]; rw [Int32.le_iff_toInt_le] at hb0; omega)] at hq; exact hq)
  · refine J_iload_n hC dX10_more_5 rfl rfl ?_
    refine J_goto (tgt := 10) hC dX10_more_6 rfl ?_
    refine J_ireturn hC hR dX10_more_10 (by decide) (by decide) ?_
    first | (rw [(imax_alt a b).1 (by rw [Int32.lt_iff_toInt_lt]; rw [Int32.le_iff_toInt_le] at hb0; omega)] at hq; exact hq) | (rw [(imax_alt a b).2 (by rw [Int32.lt_iff_toInt_lt]; rw [Int32.le_iff_toInt_le] at hb0; omega)] at hq; exact hq)
set_option maxHeartbeats 4000000 in
set_option maxRecDepth 100000 in
theorem c_X10_isHour {G : GC} {w : Lay} {σ : Mem} {Q : Lay → Option Value → Mem → Prop} {Qx : Lay → String → Mem → Prop} {x : Int32} (ht : 0 ≤ x.toInt ∧ x.toInt ≤ 999999 → Q w (some (.int (nI 1))) σ) (hf : ¬ (0 ≤ x.toInt ∧ x.toInt ≤ 999999) → Q w (some (.int (nI 0))) σ) : MX10_isHour G w σ [.int x] Q Qx := by
  refine mt_start (by decide) rfl (Nat.le_of_ble_eq_true rfl) (fun E hC hR hN => ?_)
  show J G E w 0 0 0 [some (.int x)] [] σ
  refine J_iload_n hC dX10_isHour_0 rfl rfl ?_
  refine J_iconst (v := nI 0) hC dX10_isHour_1 (by decide) ?_
  refine J_ldc (v := nI 999999) hC dX10_isHour_2 q7_145 ?_
  refine iX10_75 hC rfl ⟨by decide, by decide⟩ ⟨by decide, by decide⟩ (Nat.le_of_ble_eq_true rfl) dX10_isHour_4 ?_
  refine c_X10_in rfl (tI_n (by decide)) (tI_n (by decide)) (fun hb0 => ?_) (fun hb0 => ?_)
  · dsimp only [Option.toList_some, Option.toList_none, List.cons_append, List.nil_append]
    refine J_zreturn hC hR dX10_isHour_7 (by decide) (by decide) (by decide) ?_
    exact ht hb0
  · dsimp only [Option.toList_some, Option.toList_none, List.cons_append, List.nil_append]
    refine J_zreturn hC hR dX10_isHour_7 (by decide) (by decide) (by decide) ?_
    exact hf hb0
set_option maxHeartbeats 4000000 in
set_option maxRecDepth 100000 in
theorem c_X10_isZ {G : GC} {w : Lay} {σ : Mem} {Q : Lay → Option Value → Mem → Prop} {Qx : Lay → String → Mem → Prop} {hm : Nat} (hM : LM w) (hI : RowOK hm (rd σ 13 1)) {x : Int32} (ht : ∀ k : Nat, x = nI k → k < nv (rd σ 13 1) 4 → Q w (some (.int (nI 1))) σ) (hf : (∀ k : Nat, x = nI k → ¬ k < nv (rd σ 13 1) 4) → Q w (some (.int (nI 0))) σ) : MX10_isZ G w σ [.ref (w.2.1 13 0), .int x] Q Qx := by
  refine mt_start (by decide) rfl (Nat.le_of_ble_eq_true rfl) (fun E hC hR hN => ?_)
  show J G E w 0 0 0 [some (.ref (w.2.1 13 0)), some (.int x)] [] σ
  have hN := r_NZ hI
  refine J_iload_n hC dX10_isZ_0 rfl rfl ?_
  refine J_iconst (v := nI 0) hC dX10_isZ_1 (by decide) ?_
  refine J_aload_n hC dX10_isZ_2 rfl rfl ?_
  refine gX10_7 hC hM dX10_isZ_3 ?_
  refine J_iconst (v := nI 4) hC dX10_isZ_6 (by decide) ?_
  refine J_iaload hC (hM.1 1 (by decide)) rfl rfl (by omega) (by decide) dX10_isZ_7 ?_
  refine J_top (r_NZ hI).1 ?_
  refine J_iconst (v := nI 1) hC dX10_isZ_8 (by decide) ?_
  refine J_isub_z hC (nI_iI _) (nI_iI _) dX10_isZ_9 ?_
  refine iX10_75 hC rfl ⟨by decide, by decide⟩ ⟨by decide, by decide⟩ (Nat.le_of_ble_eq_true rfl) dX10_isZ_10 ?_
  refine c_X10_in rfl (tI_n (by decide)) (tI_z (by omega)) (fun hb0 => ?_) (fun hb0 => ?_)
  · dsimp only [Option.toList_some, Option.toList_none, List.cons_append, List.nil_append]
    refine J_zreturn hC hR dX10_isZ_13 (by decide) (by decide) (by decide) ?_
    obtain ⟨k, hk1, hk2⟩ := nI_of (x := x) (by rw [Int32.lt_iff_toInt_lt]; show ¬ x.toInt < 0; omega)
    subst hk2
    rw [tI_n hk1] at hb0
    exact ht k rfl (by omega)
  · dsimp only [Option.toList_some, Option.toList_none, List.cons_append, List.nil_append]
    refine J_zreturn hC hR dX10_isZ_13 (by decide) (by decide) (by decide) ?_
    refine hf (fun k hk h2 => hb0 ?_)
    subst hk
    rw [tI_n (by omega)]
    omega
set_option maxHeartbeats 4000000 in
set_option maxRecDepth 100000 in
theorem c_X10_isC {G : GC} {w : Lay} {σ : Mem} {Q : Lay → Option Value → Mem → Prop} {Qx : Lay → String → Mem → Prop} {hm : Nat} (hM : LM w) (hI : RowOK hm (rd σ 13 1)) {x : Int32} (ht : ∀ k : Nat, x = nI k → k < nv (rd σ 13 1) 5 → Q w (some (.int (nI 1))) σ) (hf : (∀ k : Nat, x = nI k → ¬ k < nv (rd σ 13 1) 5) → Q w (some (.int (nI 0))) σ) : MX10_isC G w σ [.ref (w.2.1 13 0), .int x] Q Qx := by
  refine mt_start (by decide) rfl (Nat.le_of_ble_eq_true rfl) (fun E hC hR hN => ?_)
  show J G E w 0 0 0 [some (.ref (w.2.1 13 0)), some (.int x)] [] σ
  have hN := r_NC hI
  refine J_iload_n hC dX10_isC_0 rfl rfl ?_
  refine J_iconst (v := nI 0) hC dX10_isC_1 (by decide) ?_
  refine J_aload_n hC dX10_isC_2 rfl rfl ?_
  refine gX10_7 hC hM dX10_isC_3 ?_
  refine J_iconst (v := nI 5) hC dX10_isC_6 (by decide) ?_
  refine J_iaload hC (hM.1 1 (by decide)) rfl rfl (by omega) (by decide) dX10_isC_7 ?_
  refine J_top (r_NC hI).1 ?_
  refine J_iconst (v := nI 1) hC dX10_isC_8 (by decide) ?_
  refine J_isub_z hC (nI_iI _) (nI_iI _) dX10_isC_9 ?_
  refine iX10_75 hC rfl ⟨by decide, by decide⟩ ⟨by decide, by decide⟩ (Nat.le_of_ble_eq_true rfl) dX10_isC_10 ?_
  refine c_X10_in rfl (tI_n (by decide)) (tI_z (by omega)) (fun hb0 => ?_) (fun hb0 => ?_)
  · dsimp only [Option.toList_some, Option.toList_none, List.cons_append, List.nil_append]
    refine J_zreturn hC hR dX10_isC_13 (by decide) (by decide) (by decide) ?_
    obtain ⟨k, hk1, hk2⟩ := nI_of (x := x) (by rw [Int32.lt_iff_toInt_lt]; show ¬ x.toInt < 0; omega)
    subst hk2
    rw [tI_n hk1] at hb0
    exact ht k rfl (by omega)
  · dsimp only [Option.toList_some, Option.toList_none, List.cons_append, List.nil_append]
    refine J_zreturn hC hR dX10_isC_13 (by decide) (by decide) (by decide) ?_
    refine hf (fun k hk h2 => hb0 ?_)
    subst hk
    rw [tI_n (by omega)]
    omega
set_option maxHeartbeats 4000000 in
set_option maxRecDepth 100000 in
theorem c_X10_isK {G : GC} {w : Lay} {σ : Mem} {Q : Lay → Option Value → Mem → Prop} {Qx : Lay → String → Mem → Prop} {hm : Nat} (hM : LM w) (hI : RowOK hm (rd σ 13 1)) {x : Int32} (ht : ∀ k : Nat, x = nI k → k < nv (rd σ 13 1) 6 → Q w (some (.int (nI 1))) σ) (hf : (∀ k : Nat, x = nI k → ¬ k < nv (rd σ 13 1) 6) → Q w (some (.int (nI 0))) σ) : MX10_isK G w σ [.ref (w.2.1 13 0), .int x] Q Qx := by
  refine mt_start (by decide) rfl (Nat.le_of_ble_eq_true rfl) (fun E hC hR hN => ?_)
  show J G E w 0 0 0 [some (.ref (w.2.1 13 0)), some (.int x)] [] σ
  have hN := r_NK hI
  refine J_iload_n hC dX10_isK_0 rfl rfl ?_
  refine J_iconst (v := nI 0) hC dX10_isK_1 (by decide) ?_
  refine J_aload_n hC dX10_isK_2 rfl rfl ?_
  refine gX10_7 hC hM dX10_isK_3 ?_
  refine J_bipush (v := nI 6) hC dX10_isK_6 (by decide) ?_
  refine J_iaload hC (hM.1 1 (by decide)) rfl rfl (by omega) (by decide) dX10_isK_8 ?_
  refine J_top (r_NK hI).1 ?_
  refine J_iconst (v := nI 1) hC dX10_isK_9 (by decide) ?_
  refine J_isub_z hC (nI_iI _) (nI_iI _) dX10_isK_10 ?_
  refine iX10_75 hC rfl ⟨by decide, by decide⟩ ⟨by decide, by decide⟩ (Nat.le_of_ble_eq_true rfl) dX10_isK_11 ?_
  refine c_X10_in rfl (tI_n (by decide)) (tI_z (by omega)) (fun hb0 => ?_) (fun hb0 => ?_)
  · dsimp only [Option.toList_some, Option.toList_none, List.cons_append, List.nil_append]
    refine J_zreturn hC hR dX10_isK_14 (by decide) (by decide) (by decide) ?_
    obtain ⟨k, hk1, hk2⟩ := nI_of (x := x) (by rw [Int32.lt_iff_toInt_lt]; show ¬ x.toInt < 0; omega)
    subst hk2
    rw [tI_n hk1] at hb0
    exact ht k rfl (by omega)
  · dsimp only [Option.toList_some, Option.toList_none, List.cons_append, List.nil_append]
    refine J_zreturn hC hR dX10_isK_14 (by decide) (by decide) (by decide) ?_
    refine hf (fun k hk h2 => hb0 ?_)
    subst hk
    rw [tI_n (by omega)]
    omega
set_option maxHeartbeats 4000000 in
set_option maxRecDepth 100000 in
theorem c_X10_isP {G : GC} {w : Lay} {σ : Mem} {Q : Lay → Option Value → Mem → Prop} {Qx : Lay → String → Mem → Prop} {hm : Nat} (hM : LM w) (hI : RowOK hm (rd σ 13 1)) {x : Int32} (ht : ∀ k : Nat, x = nI k → k < nv (rd σ 13 1) 11 → Q w (some (.int (nI 1))) σ) (hf : (∀ k : Nat, x = nI k → ¬ k < nv (rd σ 13 1) 11) → Q w (some (.int (nI 0))) σ) : MX10_isP G w σ [.ref (w.2.1 13 0), .int x] Q Qx := by
  refine mt_start (by decide) rfl (Nat.le_of_ble_eq_true rfl) (fun E hC hR hN => ?_)
  show J G E w 0 0 0 [some (.ref (w.2.1 13 0)), some (.int x)] [] σ
  have hN := r_NP hI
  refine J_iload_n hC dX10_isP_0 rfl rfl ?_
  refine J_iconst (v := nI 0) hC dX10_isP_1 (by decide) ?_
  refine J_aload_n hC dX10_isP_2 rfl rfl ?_
  refine gX10_7 hC hM dX10_isP_3 ?_
  refine J_bipush (v := nI 11) hC dX10_isP_6 (by decide) ?_
  refine J_iaload hC (hM.1 1 (by decide)) rfl rfl (by omega) (by decide) dX10_isP_8 ?_
  refine J_top (r_NP hI).1 ?_
  refine J_iconst (v := nI 1) hC dX10_isP_9 (by decide) ?_
  refine J_isub_z hC (nI_iI _) (nI_iI _) dX10_isP_10 ?_
  refine iX10_75 hC rfl ⟨by decide, by decide⟩ ⟨by decide, by decide⟩ (Nat.le_of_ble_eq_true rfl) dX10_isP_11 ?_
  refine c_X10_in rfl (tI_n (by decide)) (tI_z (by omega)) (fun hb0 => ?_) (fun hb0 => ?_)
  · dsimp only [Option.toList_some, Option.toList_none, List.cons_append, List.nil_append]
    refine J_zreturn hC hR dX10_isP_14 (by decide) (by decide) (by decide) ?_
    obtain ⟨k, hk1, hk2⟩ := nI_of (x := x) (by rw [Int32.lt_iff_toInt_lt]; show ¬ x.toInt < 0; omega)
    subst hk2
    rw [tI_n hk1] at hb0
    exact ht k rfl (by omega)
  · dsimp only [Option.toList_some, Option.toList_none, List.cons_append, List.nil_append]
    refine J_zreturn hC hR dX10_isP_14 (by decide) (by decide) (by decide) ?_
    refine hf (fun k hk h2 => hb0 ?_)
    subst hk
    rw [tI_n (by omega)]
    omega
set_option maxHeartbeats 4000000 in
set_option maxRecDepth 100000 in
theorem c_X10_zoneAt {G : GC} {w : Lay} {σ : Mem} {Q : Lay → Option Value → Mem → Prop} {Qx : Lay → String → Mem → Prop} {hm : Nat} (hM : LM w) (hI : RowOK hm (rd σ 13 1)) {k : Nat} (hk : k < nv (rd σ 13 1) 6) (hq : Q w (some (.int (nI (zoneN (rd σ 13 1) k)))) σ) : MX10_zoneAt G w σ [.ref (w.2.1 13 0), .int (nI k)] Q Qx := by
  refine mt_start (by decide) rfl (Nat.le_of_ble_eq_true rfl) (fun E hC hR hN => ?_)
  show J G E w 0 0 0 [some (.ref (w.2.1 13 0)), some (.int (nI k))] [] σ
  have h1 := r_KX hI hk
  have h2 := r_NZ hI
  have h3 := r_W hI
  have hb : nv (rd σ 13 1) (70 + 9 * k) * nv (rd σ 13 1) 4 ≤ 100 * 4 := Nat.mul_le_mul (by omega) (by omega)
  have h4 := r_NK hI
  refine J_aload_n hC dX10_zoneAt_0 rfl rfl ?_
  refine J_iload_n hC dX10_zoneAt_1 rfl rfl ?_
  refine J_iconst (v := nI 0) hC dX10_zoneAt_2 (by decide) ?_
  refine iX10_79 hC hM rfl ⟨by decide, by decide⟩ ⟨by decide, by decide⟩ (Nat.le_of_ble_eq_true rfl) dX10_zoneAt_3 ?_
  refine c_X10_of hM (by omega) ?_
  dsimp only [Option.toList_some, Option.toList_none, List.cons_append, List.nil_append]
  refine J_top (r_KX hI hk).1 ?_
  refine J_aload_n hC dX10_zoneAt_6 rfl rfl ?_
  refine gX10_7 hC hM dX10_zoneAt_7 ?_
  refine J_iconst (v := nI 4) hC dX10_zoneAt_10 (by decide) ?_
  refine J_iaload hC (hM.1 1 (by decide)) rfl rfl (by omega) (by decide) dX10_zoneAt_11 ?_
  refine J_top (r_NZ hI).1 ?_
  refine J_imul_n hC dX10_zoneAt_12 ?_
  refine J_aload_n hC dX10_zoneAt_13 rfl rfl ?_
  refine gX10_7 hC hM dX10_zoneAt_14 ?_
  refine J_iconst (v := nI 0) hC dX10_zoneAt_17 (by decide) ?_
  refine J_iaload hC (hM.1 1 (by decide)) rfl rfl (by omega) (by decide) dX10_zoneAt_18 ?_
  refine J_top (r_W hI).1 ?_
  refine J_idiv_n hC (by omega) (by omega) (by omega) dX10_zoneAt_19 ?_
  refine J_ireturn hC hR dX10_zoneAt_20 (by decide) (by decide) ?_
  exact hq
set_option maxHeartbeats 4000000 in
set_option maxRecDepth 100000 in
theorem c_X10_direction {G : GC} {w : Lay} {σ : Mem} {Q : Lay → Option Value → Mem → Prop} {Qx : Lay → String → Mem → Prop} {hm : Nat} (hM : LM w) (hI : RowOK hm (rd σ 13 1)) {z h : Nat} (hz : z < nv (rd σ 13 1) 4) (hh : h < 2 ^ 31) (hq : Q w (some (.int (nI (dirN (rd σ 13 1) z h)))) σ) : MX10_direction G w σ [.ref (w.2.1 13 0), .int (nI z), .int (nI h)] Q Qx := by
  refine mt_start (by decide) rfl (Nat.le_of_ble_eq_true rfl) (fun E hC hR hN => ?_)
  show J G E w 0 0 0 [some (.ref (w.2.1 13 0)), some (.int (nI z)), some (.int (nI h))] [] σ
  have h1 := r_NZ hI
  have h2 := r_ZC hI hz
  have h3 : h % nv (rd σ 13 1) (12 + 13 * z) < nv (rd σ 13 1) (12 + 13 * z) := widx_lt hI hz h
  refine J_aload_n hC dX10_direction_0 rfl rfl ?_
  refine gX10_7 hC hM dX10_direction_1 ?_
  refine J_bipush (v := nI 12) hC dX10_direction_4 (by decide) ?_
  refine J_bipush (v := nI 13) hC dX10_direction_6 (by decide) ?_
  refine J_iload_n hC dX10_direction_8 rfl rfl ?_
  refine J_imul_n hC dX10_direction_9 ?_
  refine J_iadd_n hC dX10_direction_10 ?_
  refine J_iconst (v := nI 1) hC dX10_direction_11 (by decide) ?_
  refine J_iadd_n hC dX10_direction_12 ?_
  refine J_iconst (v := nI 2) hC dX10_direction_13 (by decide) ?_
  refine J_iload_n hC dX10_direction_14 rfl rfl ?_
  refine J_aload_n hC dX10_direction_15 rfl rfl ?_
  refine gX10_7 hC hM dX10_direction_16 ?_
  refine J_bipush (v := nI 12) hC dX10_direction_19 (by decide) ?_
  refine J_bipush (v := nI 13) hC dX10_direction_21 (by decide) ?_
  refine J_iload_n hC dX10_direction_23 rfl rfl ?_
  refine J_imul_n hC dX10_direction_24 ?_
  refine J_iadd_n hC dX10_direction_25 ?_
  refine J_iaload hC (hM.1 1 (by decide)) rfl rfl (by omega) (by decide) dX10_direction_26 ?_
  refine J_top (r_ZC hI hz).1 ?_
  refine J_irem_n hC (by omega) (by omega) (by omega) dX10_direction_27 ?_
  refine J_imul_n hC dX10_direction_28 ?_
  refine J_iadd_n hC dX10_direction_29 ?_
  refine J_iaload hC (hM.1 1 (by decide)) rfl rfl (by omega) (by decide) dX10_direction_30 ?_
  refine J_top (r_D hI hz (widx_lt hI hz h)).1 ?_
  refine J_ireturn hC hR dX10_direction_31 (by decide) (by decide) ?_
  exact hq
set_option maxHeartbeats 4000000 in
set_option maxRecDepth 100000 in
theorem c_X10_force {G : GC} {w : Lay} {σ : Mem} {Q : Lay → Option Value → Mem → Prop} {Qx : Lay → String → Mem → Prop} {hm : Nat} (hM : LM w) (hI : RowOK hm (rd σ 13 1)) {z h : Nat} (hz : z < nv (rd σ 13 1) 4) (hh : h < 2 ^ 31) (hq : Q w (some (.int (nI (frcN (rd σ 13 1) z h)))) σ) : MX10_force G w σ [.ref (w.2.1 13 0), .int (nI z), .int (nI h)] Q Qx := by
  refine mt_start (by decide) rfl (Nat.le_of_ble_eq_true rfl) (fun E hC hR hN => ?_)
  show J G E w 0 0 0 [some (.ref (w.2.1 13 0)), some (.int (nI z)), some (.int (nI h))] [] σ
  have h1 := r_NZ hI
  have h2 := r_ZC hI hz
  have h3 : h % nv (rd σ 13 1) (12 + 13 * z) < nv (rd σ 13 1) (12 + 13 * z) := widx_lt hI hz h
  refine J_aload_n hC dX10_force_0 rfl rfl ?_
  refine gX10_7 hC hM dX10_force_1 ?_
  refine J_bipush (v := nI 12) hC dX10_force_4 (by decide) ?_
  refine J_bipush (v := nI 13) hC dX10_force_6 (by decide) ?_
  refine J_iload_n hC dX10_force_8 rfl rfl ?_
  refine J_imul_n hC dX10_force_9 ?_
  refine J_iadd_n hC dX10_force_10 ?_
  refine J_iconst (v := nI 2) hC dX10_force_11 (by decide) ?_
  refine J_iadd_n hC dX10_force_12 ?_
  refine J_iconst (v := nI 2) hC dX10_force_13 (by decide) ?_
  refine J_iload_n hC dX10_force_14 rfl rfl ?_
  refine J_aload_n hC dX10_force_15 rfl rfl ?_
  refine gX10_7 hC hM dX10_force_16 ?_
  refine J_bipush (v := nI 12) hC dX10_force_19 (by decide) ?_
  refine J_bipush (v := nI 13) hC dX10_force_21 (by decide) ?_
  refine J_iload_n hC dX10_force_23 rfl rfl ?_
  refine J_imul_n hC dX10_force_24 ?_
  refine J_iadd_n hC dX10_force_25 ?_
  refine J_iaload hC (hM.1 1 (by decide)) rfl rfl (by omega) (by decide) dX10_force_26 ?_
  refine J_top (r_ZC hI hz).1 ?_
  refine J_irem_n hC (by omega) (by omega) (by omega) dX10_force_27 ?_
  refine J_imul_n hC dX10_force_28 ?_
  refine J_iadd_n hC dX10_force_29 ?_
  refine J_iaload hC (hM.1 1 (by decide)) rfl rfl (by omega) (by decide) dX10_force_30 ?_
  refine J_top (r_F hI hz (widx_lt hI hz h)).1 ?_
  refine J_ireturn hC hR dX10_force_31 (by decide) (by decide) ?_
  exact hq
set_option maxHeartbeats 4000000 in
set_option maxRecDepth 100000 in
theorem c_X10_dx {G : GC} {w : Lay} {σ : Mem} {Q : Lay → Option Value → Mem → Prop} {Qx : Lay → String → Mem → Prop} {d : Nat} (hd : d < 8) (hq : Q w (some (.int (iI (dX d)))) σ) : MX10_dx G w σ [.int (nI d)] Q Qx := by
  refine mt_start (by decide) rfl (Nat.le_of_ble_eq_true rfl) (fun E hC hR hN => ?_)
  show J G E w 0 0 0 [some (.int (nI d))] [] σ
  refine J_iload_n hC dX10_dx_0 rfl rfl ?_
  refine J_if_eq_n hC (by omega) (tgt := 9) dX10_dx_1 rfl (fun hb0 => ?_) (fun hb0 => ?_)
  · refine J_iconst (v := nI 0) hC dX10_dx_9 (by decide) ?_
    refine J_goto (tgt := 23) hC dX10_dx_10 rfl ?_
    refine J_ireturn hC hR dX10_dx_23 (by decide) (by decide) ?_
    have hx : dX d = 0 := dX_a d hd (by omega)
    rw [hx] at hq
    exact hq
  · refine J_iload_n hC dX10_dx_4 rfl rfl ?_
    refine J_iconst (v := nI 4) hC dX10_dx_5 (by decide) ?_
    refine J_icmp_ne_n hC (by omega) (by decide) (tgt := 13) dX10_dx_6 rfl (fun hb1 => ?_) (fun hb1 => ?_)
    · refine J_iload_n hC dX10_dx_13 rfl rfl ?_
      refine J_iconst (v := nI 4) hC dX10_dx_14 (by decide) ?_
      refine J_icmp_ge_n hC (by omega) (by decide) (tgt := 22) dX10_dx_15 rfl (fun hb2 => ?_) (fun hb2 => ?_)
      · refine J_iconst (v := -1) hC dX10_dx_22 (by decide) ?_
        refine J_ireturn hC hR dX10_dx_23 (by decide) (by decide) ?_
        have hx : dX d = -1 := dX_c d hd (by omega)
        rw [hx] at hq
        exact hq
      · refine J_iconst (v := nI 1) hC dX10_dx_18 (by decide) ?_
        refine J_goto (tgt := 23) hC dX10_dx_19 rfl ?_
        refine J_ireturn hC hR dX10_dx_23 (by decide) (by decide) ?_
        have hx : dX d = 1 := dX_b d hd (by omega)
        rw [hx] at hq
        exact hq
    · refine J_iconst (v := nI 0) hC dX10_dx_9 (by decide) ?_
      refine J_goto (tgt := 23) hC dX10_dx_10 rfl ?_
      refine J_ireturn hC hR dX10_dx_23 (by decide) (by decide) ?_
      have hx : dX d = 0 := dX_a d hd (by omega)
      rw [hx] at hq
      exact hq
set_option maxHeartbeats 4000000 in
set_option maxRecDepth 100000 in
theorem c_X10_dy {G : GC} {w : Lay} {σ : Mem} {Q : Lay → Option Value → Mem → Prop} {Qx : Lay → String → Mem → Prop} {d : Nat} (hd : d < 8) (hq : Q w (some (.int (iI (dY d)))) σ) : MX10_dy G w σ [.int (nI d)] Q Qx := by
  refine mt_start (by decide) rfl (Nat.le_of_ble_eq_true rfl) (fun E hC hR hN => ?_)
  show J G E w 0 0 0 [some (.int (nI d))] [] σ
  refine J_iload_n hC dX10_dy_0 rfl rfl ?_
  refine J_iconst (v := nI 2) hC dX10_dy_1 (by decide) ?_
  refine J_icmp_eq_n hC (by omega) (by decide) (tgt := 11) dX10_dy_2 rfl (fun hb0 => ?_) (fun hb0 => ?_)
  · refine J_iconst (v := nI 0) hC dX10_dy_11 (by decide) ?_
    refine J_goto (tgt := 31) hC dX10_dy_12 rfl ?_
    refine J_ireturn hC hR dX10_dy_31 (by decide) (by decide) ?_
    have hx : dY d = 0 := dY_a d hd (by omega)
    rw [hx] at hq
    exact hq
  · refine J_iload_n hC dX10_dy_5 rfl rfl ?_
    refine J_bipush (v := nI 6) hC dX10_dy_6 (by decide) ?_
    refine J_icmp_ne_n hC (by omega) (by decide) (tgt := 15) dX10_dy_8 rfl (fun hb1 => ?_) (fun hb1 => ?_)
    · refine J_iload_n hC dX10_dy_15 rfl rfl ?_
      refine J_iconst (v := nI 2) hC dX10_dy_16 (by decide) ?_
      refine J_icmp_lt_n hC (by omega) (by decide) (tgt := 26) dX10_dy_17 rfl (fun hb2 => ?_) (fun hb2 => ?_)
      · refine J_iconst (v := nI 1) hC dX10_dy_26 (by decide) ?_
        refine J_goto (tgt := 31) hC dX10_dy_27 rfl ?_
        refine J_ireturn hC hR dX10_dy_31 (by decide) (by decide) ?_
        have hx : dY d = 1 := dY_b d hd (by omega)
        rw [hx] at hq
        exact hq
      · refine J_iload_n hC dX10_dy_20 rfl rfl ?_
        refine J_bipush (v := nI 7) hC dX10_dy_21 (by decide) ?_
        refine J_icmp_ne_n hC (by omega) (by decide) (tgt := 30) dX10_dy_23 rfl (fun hb3 => ?_) (fun hb3 => ?_)
        · refine J_iconst (v := -1) hC dX10_dy_30 (by decide) ?_
          refine J_ireturn hC hR dX10_dy_31 (by decide) (by decide) ?_
          have hx : dY d = -1 := dY_c d hd (by omega)
          rw [hx] at hq
          exact hq
        · refine J_iconst (v := nI 1) hC dX10_dy_26 (by decide) ?_
          refine J_goto (tgt := 31) hC dX10_dy_27 rfl ?_
          refine J_ireturn hC hR dX10_dy_31 (by decide) (by decide) ?_
          have hx : dY d = 1 := dY_b d hd (by omega)
          rw [hx] at hq
          exact hq
    · refine J_iconst (v := nI 0) hC dX10_dy_11 (by decide) ?_
      refine J_goto (tgt := 31) hC dX10_dy_12 rfl ?_
      refine J_ireturn hC hR dX10_dy_31 (by decide) (by decide) ?_
      have hx : dY d = 0 := dY_a d hd (by omega)
      rw [hx] at hq
      exact hq
set_option maxHeartbeats 4000000 in
set_option maxRecDepth 100000 in
theorem c_X10_reachWith {G : GC} {w : Lay} {σ : Mem} {Q : Lay → Option Value → Mem → Prop} {Qx : Lay → String → Mem → Prop} {hm : Nat} (hM : LM w) (hI : RowOK hm (rd σ 13 1)) {k kn h : Nat} (hk : k < nv (rd σ 13 1) 6) (hkn : kn ≤ 9) (hh : h < 2 ^ 31) (hq : Q w (some (.int (nI (reachW (rd σ 13 1) k kn h)))) σ) : MX10_reachWith G w σ [.ref (w.2.1 13 0), .int (nI k), .int (nI kn), .int (nI h)] Q Qx := by
  refine mt_start (by decide) rfl (Nat.le_of_ble_eq_true rfl) (fun E hC hR hN => ?_)
  show J G E w 0 0 0 [some (.ref (w.2.1 13 0)), some (.int (nI k)), some (.int (nI kn)), some (.int (nI h)), none] [] σ
  have h1 := r_NK hI
  have h2 := frcN_le hI (zoneN_lt hI hk) h
  have h3 := r_KL hI hk
  refine J_aload_n hC dX10_reachWith_0 rfl rfl ?_
  refine J_aload_n hC dX10_reachWith_1 rfl rfl ?_
  refine J_iload_n hC dX10_reachWith_2 rfl rfl ?_
  refine iX10_83 hC hM rfl ⟨by decide, by decide⟩ ⟨by decide, by decide⟩ (Nat.le_of_ble_eq_true rfl) dX10_reachWith_3 ?_
  refine c_X10_zoneAt hM hI hk ?_
  dsimp only [Option.toList_some, Option.toList_none, List.cons_append, List.nil_append]
  refine J_iload_n hC dX10_reachWith_6 rfl rfl ?_
  refine iX10_87 hC hM rfl ⟨by decide, by decide⟩ ⟨by decide, by decide⟩ (Nat.le_of_ble_eq_true rfl) dX10_reachWith_7 ?_
  refine c_X10_force hM hI (zoneN_lt hI hk) hh ?_
  dsimp only [Option.toList_some, Option.toList_none, List.cons_append, List.nil_append]
  refine J_iload_n hC dX10_reachWith_10 rfl rfl ?_
  refine J_isub_z hC (nI_iI _) (nI_iI _) dX10_reachWith_11 ?_
  refine J_istore hC dX10_reachWith_12 (Nat.le_of_ble_eq_true rfl) rfl ?_
  dsimp only [List.set]
  refine J_iload hC dX10_reachWith_14 rfl ?_
  refine J_iconst (v := nI 1) hC dX10_reachWith_16 (by decide) ?_
  refine J_icmp_ge_z hC rfl (nI_iI _) (by omega) (by omega) (tgt := 24) dX10_reachWith_17 rfl (fun hb0 => ?_) (fun hb0 => ?_)
  · refine J_aload_n hC dX10_reachWith_24 rfl rfl ?_
    refine J_iload_n hC dX10_reachWith_25 rfl rfl ?_
    refine J_iconst (v := nI 2) hC dX10_reachWith_26 (by decide) ?_
    
    refine iX10_79 hC hM rfl ⟨by decide, by decide⟩ ⟨by decide, by decide⟩ (Nat.le_of_ble_eq_true rfl) dX10_reachWith_27 ?_
    refine c_X10_of hM (by omega) ?_
    dsimp only [Option.toList_some, Option.toList_none, List.cons_append, List.nil_append]
    refine J_top (r_KL hI hk).1 ?_
    refine J_cong (st' := [.int (nI (nv (rd σ 13 1) (70 + 9 * k + 2)))]) ?_
    refine J_iload hC dX10_reachWith_30 rfl ?_
    refine J_iconst (v := nI 5) hC dX10_reachWith_32 (by decide) ?_
    refine iX10_90 hC rfl ⟨by decide, by decide⟩ ⟨by decide, by decide⟩ (Nat.le_of_ble_eq_true rfl) dX10_reachWith_33 ?_
    refine c_X10_less  ?_
    dsimp only [Option.toList_some, Option.toList_none, List.cons_append, List.nil_append]
    rw [show iI ((frcN (rd σ 13 1) (zoneN (rd σ 13 1) k) h : Int) - (kn : Int)) = nI (frcN (rd σ 13 1) (zoneN (rd σ 13 1) k) h - kn) from by rw [nI_iI]; congr 1; omega, imin_n (by omega) (by omega)]
    refine J_imul_n hC dX10_reachWith_36 ?_
    have hb : nv (rd σ 13 1) (70 + 9 * k + 2) * min (frcN (rd σ 13 1) (zoneN (rd σ 13 1) k) h - kn) 5 ≤ 60 * 5 := Nat.mul_le_mul h3.2.2 (Nat.min_le_right _ _)
    refine J_iconst (v := nI 5) hC dX10_reachWith_37 (by decide) ?_
    refine J_idiv_n hC (by omega) (by omega) (by omega) dX10_reachWith_38 ?_
    refine J_ireturn hC hR dX10_reachWith_39 (by decide) (by decide) ?_
    exact hq
  · refine J_iconst (v := nI 0) hC dX10_reachWith_20 (by decide) ?_
    have hx : reachW (rd σ 13 1) k kn h = 0 := by
      unfold reachW
      rw [show frcN (rd σ 13 1) (zoneN (rd σ 13 1) k) h - kn = 0 by omega]
      simp
    rw [hx] at hq
    refine J_goto (tgt := 39) hC dX10_reachWith_21 rfl ?_
    refine J_ireturn hC hR dX10_reachWith_39 (by decide) (by decide) ?_
    exact hq
set_option maxHeartbeats 4000000 in
set_option maxRecDepth 100000 in
theorem c_X10_reachOf {G : GC} {w : Lay} {σ : Mem} {Q : Lay → Option Value → Mem → Prop} {Qx : Lay → String → Mem → Prop} {hm : Nat} (hM : LM w) (hI : RowOK hm (rd σ 13 1)) {k h : Nat} (hk : k < nv (rd σ 13 1) 6) (hh : h < 2 ^ 31) (hq : Q w (some (.int (nI (reachN (rd σ 13 1) k h)))) σ) : MX10_reachOf G w σ [.ref (w.2.1 13 0), .int (nI k), .int (nI h)] Q Qx := by
  refine mt_start (by decide) rfl (Nat.le_of_ble_eq_true rfl) (fun E hC hR hN => ?_)
  show J G E w 0 0 0 [some (.ref (w.2.1 13 0)), some (.int (nI k)), some (.int (nI h))] [] σ
  have h1 := r_NK hI
  have h2 := r_KN hI hk
  refine J_aload_n hC dX10_reachOf_0 rfl rfl ?_
  refine J_iload_n hC dX10_reachOf_1 rfl rfl ?_
  refine J_aload_n hC dX10_reachOf_2 rfl rfl ?_
  refine J_iload_n hC dX10_reachOf_3 rfl rfl ?_
  refine J_iconst (v := nI 4) hC dX10_reachOf_4 (by decide) ?_
  refine iX10_79 hC hM rfl ⟨by decide, by decide⟩ ⟨by decide, by decide⟩ (Nat.le_of_ble_eq_true rfl) dX10_reachOf_5 ?_
  refine c_X10_of hM (by omega) ?_
  dsimp only [Option.toList_some, Option.toList_none, List.cons_append, List.nil_append]
  refine J_top (r_KN hI hk).1 ?_
  refine J_iload_n hC dX10_reachOf_8 rfl rfl ?_
  refine iX10_93 hC hM rfl ⟨by decide, by decide⟩ ⟨by decide, by decide⟩ (Nat.le_of_ble_eq_true rfl) dX10_reachOf_9 ?_
  refine c_X10_reachWith hM hI hk (by omega) hh ?_
  dsimp only [Option.toList_some, Option.toList_none, List.cons_append, List.nil_append]
  refine J_ireturn hC hR dX10_reachOf_12 (by decide) (by decide) ?_
  exact hq
set_option maxHeartbeats 4000000 in
set_option maxRecDepth 100000 in
theorem c_X10_xAfter {G : GC} {w : Lay} {σ : Mem} {Q : Lay → Option Value → Mem → Prop} {Qx : Lay → String → Mem → Prop} {hm : Nat} (hM : LM w) (hI : RowOK hm (rd σ 13 1)) {k r h : Nat} (hk : k < nv (rd σ 13 1) 6) (hr : r ≤ 60) (hh : h < 2 ^ 31) (hq : Q w (some (.int (iI (xAf (rd σ 13 1) k r h)))) σ) : MX10_xAfter G w σ [.ref (w.2.1 13 0), .int (nI k), .int (nI r), .int (nI h)] Q Qx := by
  refine mt_start (by decide) rfl (Nat.le_of_ble_eq_true rfl) (fun E hC hR hN => ?_)
  show J G E w 0 0 0 [some (.ref (w.2.1 13 0)), some (.int (nI k)), some (.int (nI r)), some (.int (nI h))] [] σ
  have h1 := r_NK hI
  have h2 := dirN_lt hI (zoneN_lt hI hk) h
  refine J_aload_n hC dX10_xAfter_0 rfl rfl ?_
  refine J_iload_n hC dX10_xAfter_1 rfl rfl ?_
  refine J_iconst (v := nI 0) hC dX10_xAfter_2 (by decide) ?_
  refine iX10_79 hC hM rfl ⟨by decide, by decide⟩ ⟨by decide, by decide⟩ (Nat.le_of_ble_eq_true rfl) dX10_xAfter_3 ?_
  refine c_X10_of hM (by omega) ?_
  dsimp only [Option.toList_some, Option.toList_none, List.cons_append, List.nil_append]
  refine J_top (r_KX hI hk).1 ?_
  refine J_iload_n hC dX10_xAfter_6 rfl rfl ?_
  refine J_aload_n hC dX10_xAfter_7 rfl rfl ?_
  refine J_aload_n hC dX10_xAfter_8 rfl rfl ?_
  refine J_iload_n hC dX10_xAfter_9 rfl rfl ?_
  refine iX10_83 hC hM rfl ⟨by decide, by decide⟩ ⟨by decide, by decide⟩ (Nat.le_of_ble_eq_true rfl) dX10_xAfter_10 ?_
  refine c_X10_zoneAt hM hI hk ?_
  dsimp only [Option.toList_some, Option.toList_none, List.cons_append, List.nil_append]
  refine J_iload_n hC dX10_xAfter_13 rfl rfl ?_
  refine iX10_97 hC hM rfl ⟨by decide, by decide⟩ ⟨by decide, by decide⟩ (Nat.le_of_ble_eq_true rfl) dX10_xAfter_14 ?_
  refine c_X10_direction hM hI (zoneN_lt hI hk) hh ?_
  dsimp only [Option.toList_some, Option.toList_none, List.cons_append, List.nil_append]
  refine iX10_100 hC rfl ⟨by decide, by decide⟩ ⟨by decide, by decide⟩ (Nat.le_of_ble_eq_true rfl) dX10_xAfter_17 ?_
  refine c_X10_dx (by omega) ?_
  dsimp only [Option.toList_some, Option.toList_none, List.cons_append, List.nil_append]
  refine J_imul_z hC (nI_iI _) rfl dX10_xAfter_20 ?_
  refine J_iadd_z hC (nI_iI _) rfl dX10_xAfter_21 ?_
  refine J_ireturn hC hR dX10_xAfter_22 (by decide) (by decide) ?_
  exact hq
set_option maxHeartbeats 4000000 in
set_option maxRecDepth 100000 in
theorem c_X10_xEnd {G : GC} {w : Lay} {σ : Mem} {Q : Lay → Option Value → Mem → Prop} {Qx : Lay → String → Mem → Prop} {hm : Nat} (hM : LM w) (hI : RowOK hm (rd σ 13 1)) {k h : Nat} (hk : k < nv (rd σ 13 1) 6) (hh : h < 2 ^ 31) (hq : Q w (some (.int (iI (xAf (rd σ 13 1) k (reachN (rd σ 13 1) k h) h)))) σ) : MX10_xEnd G w σ [.ref (w.2.1 13 0), .int (nI k), .int (nI h)] Q Qx := by
  refine mt_start (by decide) rfl (Nat.le_of_ble_eq_true rfl) (fun E hC hR hN => ?_)
  show J G E w 0 0 0 [some (.ref (w.2.1 13 0)), some (.int (nI k)), some (.int (nI h))] [] σ
  refine J_aload_n hC dX10_xEnd_0 rfl rfl ?_
  refine J_iload_n hC dX10_xEnd_1 rfl rfl ?_
  refine J_aload_n hC dX10_xEnd_2 rfl rfl ?_
  refine J_iload_n hC dX10_xEnd_3 rfl rfl ?_
  refine J_iload_n hC dX10_xEnd_4 rfl rfl ?_
  refine iX10_106 hC hM rfl ⟨by decide, by decide⟩ ⟨by decide, by decide⟩ (Nat.le_of_ble_eq_true rfl) dX10_xEnd_5 ?_
  refine c_X10_reachOf hM hI hk hh ?_
  dsimp only [Option.toList_some, Option.toList_none, List.cons_append, List.nil_append]
  refine J_iload_n hC dX10_xEnd_8 rfl rfl ?_
  refine iX10_109 hC hM rfl ⟨by decide, by decide⟩ ⟨by decide, by decide⟩ (Nat.le_of_ble_eq_true rfl) dX10_xEnd_9 ?_
  refine c_X10_xAfter hM hI hk (reachW_le hI hk _ _) hh ?_
  dsimp only [Option.toList_some, Option.toList_none, List.cons_append, List.nil_append]
  refine J_ireturn hC hR dX10_xEnd_12 (by decide) (by decide) ?_
  exact hq
set_option maxHeartbeats 4000000 in
set_option maxRecDepth 100000 in
theorem c_X10_yAfter {G : GC} {w : Lay} {σ : Mem} {Q : Lay → Option Value → Mem → Prop} {Qx : Lay → String → Mem → Prop} {hm : Nat} (hM : LM w) (hI : RowOK hm (rd σ 13 1)) {k r h : Nat} (hk : k < nv (rd σ 13 1) 6) (hr : r ≤ 60) (hh : h < 2 ^ 31) (hq : Q w (some (.int (iI (yAf (rd σ 13 1) k r h)))) σ) : MX10_yAfter G w σ [.ref (w.2.1 13 0), .int (nI k), .int (nI r), .int (nI h)] Q Qx := by
  refine mt_start (by decide) rfl (Nat.le_of_ble_eq_true rfl) (fun E hC hR hN => ?_)
  show J G E w 0 0 0 [some (.ref (w.2.1 13 0)), some (.int (nI k)), some (.int (nI r)), some (.int (nI h))] [] σ
  have h1 := r_NK hI
  have h2 := dirN_lt hI (zoneN_lt hI hk) h
  refine J_aload_n hC dX10_yAfter_0 rfl rfl ?_
  refine J_iload_n hC dX10_yAfter_1 rfl rfl ?_
  refine J_iconst (v := nI 1) hC dX10_yAfter_2 (by decide) ?_
  refine iX10_79 hC hM rfl ⟨by decide, by decide⟩ ⟨by decide, by decide⟩ (Nat.le_of_ble_eq_true rfl) dX10_yAfter_3 ?_
  refine c_X10_of hM (by omega) ?_
  dsimp only [Option.toList_some, Option.toList_none, List.cons_append, List.nil_append]
  refine J_top (r_KY hI hk).1 ?_
  refine J_iload_n hC dX10_yAfter_6 rfl rfl ?_
  refine J_aload_n hC dX10_yAfter_7 rfl rfl ?_
  refine J_aload_n hC dX10_yAfter_8 rfl rfl ?_
  refine J_iload_n hC dX10_yAfter_9 rfl rfl ?_
  refine iX10_83 hC hM rfl ⟨by decide, by decide⟩ ⟨by decide, by decide⟩ (Nat.le_of_ble_eq_true rfl) dX10_yAfter_10 ?_
  refine c_X10_zoneAt hM hI hk ?_
  dsimp only [Option.toList_some, Option.toList_none, List.cons_append, List.nil_append]
  refine J_iload_n hC dX10_yAfter_13 rfl rfl ?_
  refine iX10_97 hC hM rfl ⟨by decide, by decide⟩ ⟨by decide, by decide⟩ (Nat.le_of_ble_eq_true rfl) dX10_yAfter_14 ?_
  refine c_X10_direction hM hI (zoneN_lt hI hk) hh ?_
  dsimp only [Option.toList_some, Option.toList_none, List.cons_append, List.nil_append]
  refine iX10_103 hC rfl ⟨by decide, by decide⟩ ⟨by decide, by decide⟩ (Nat.le_of_ble_eq_true rfl) dX10_yAfter_17 ?_
  refine c_X10_dy (by omega) ?_
  dsimp only [Option.toList_some, Option.toList_none, List.cons_append, List.nil_append]
  refine J_imul_z hC (nI_iI _) rfl dX10_yAfter_20 ?_
  refine J_iadd_z hC (nI_iI _) rfl dX10_yAfter_21 ?_
  refine J_ireturn hC hR dX10_yAfter_22 (by decide) (by decide) ?_
  exact hq
set_option maxHeartbeats 4000000 in
set_option maxRecDepth 100000 in
theorem c_X10_yEnd {G : GC} {w : Lay} {σ : Mem} {Q : Lay → Option Value → Mem → Prop} {Qx : Lay → String → Mem → Prop} {hm : Nat} (hM : LM w) (hI : RowOK hm (rd σ 13 1)) {k h : Nat} (hk : k < nv (rd σ 13 1) 6) (hh : h < 2 ^ 31) (hq : Q w (some (.int (iI (yAf (rd σ 13 1) k (reachN (rd σ 13 1) k h) h)))) σ) : MX10_yEnd G w σ [.ref (w.2.1 13 0), .int (nI k), .int (nI h)] Q Qx := by
  refine mt_start (by decide) rfl (Nat.le_of_ble_eq_true rfl) (fun E hC hR hN => ?_)
  show J G E w 0 0 0 [some (.ref (w.2.1 13 0)), some (.int (nI k)), some (.int (nI h))] [] σ
  refine J_aload_n hC dX10_yEnd_0 rfl rfl ?_
  refine J_iload_n hC dX10_yEnd_1 rfl rfl ?_
  refine J_aload_n hC dX10_yEnd_2 rfl rfl ?_
  refine J_iload_n hC dX10_yEnd_3 rfl rfl ?_
  refine J_iload_n hC dX10_yEnd_4 rfl rfl ?_
  refine iX10_106 hC hM rfl ⟨by decide, by decide⟩ ⟨by decide, by decide⟩ (Nat.le_of_ble_eq_true rfl) dX10_yEnd_5 ?_
  refine c_X10_reachOf hM hI hk hh ?_
  dsimp only [Option.toList_some, Option.toList_none, List.cons_append, List.nil_append]
  refine J_iload_n hC dX10_yEnd_8 rfl rfl ?_
  refine iX10_112 hC hM rfl ⟨by decide, by decide⟩ ⟨by decide, by decide⟩ (Nat.le_of_ble_eq_true rfl) dX10_yEnd_9 ?_
  refine c_X10_yAfter hM hI hk (reachW_le hI hk _ _) hh ?_
  dsimp only [Option.toList_some, Option.toList_none, List.cons_append, List.nil_append]
  refine J_ireturn hC hR dX10_yEnd_12 (by decide) (by decide) ?_
  exact hq
set_option maxHeartbeats 4000000 in
set_option maxRecDepth 100000 in
theorem c_X10_fliesWith {G : GC} {w : Lay} {σ : Mem} {Q : Lay → Option Value → Mem → Prop} {Qx : Lay → String → Mem → Prop} {hm : Nat} (hM : LM w) (hI : RowOK hm (rd σ 13 1)) {k kn h : Nat} (hk : k < nv (rd σ 13 1) 6) (hkn : kn ≤ 9) (hh : h < 2 ^ 31) (ht : fliesW (rd σ 13 1) k kn h → Q w (some (.int (nI 1))) σ) (hf : ¬ (fliesW (rd σ 13 1) k kn h) → Q w (some (.int (nI 0))) σ) : MX10_fliesWith G w σ [.ref (w.2.1 13 0), .int (nI k), .int (nI kn), .int (nI h)] Q Qx := by
  refine mt_start (by decide) rfl (Nat.le_of_ble_eq_true rfl) (fun E hC hR hN => ?_)
  show J G E w 0 0 0 [some (.ref (w.2.1 13 0)), some (.int (nI k)), some (.int (nI kn)), some (.int (nI h)), none] [] σ
  have h1 := r_NK hI
  have h2 := reachW_le hI hk kn h
  have h3 := xAf_rng hI hk h2 h
  have h4 := yAf_rng hI hk h2 h
  have h5 := r_W hI
  have h6 := r_H hI
  refine J_aload_n hC dX10_fliesWith_0 rfl rfl ?_
  refine J_iload_n hC dX10_fliesWith_1 rfl rfl ?_
  refine J_iload_n hC dX10_fliesWith_2 rfl rfl ?_
  refine J_iload_n hC dX10_fliesWith_3 rfl rfl ?_
  refine iX10_93 hC hM rfl ⟨by decide, by decide⟩ ⟨by decide, by decide⟩ (Nat.le_of_ble_eq_true rfl) dX10_fliesWith_4 ?_
  refine c_X10_reachWith hM hI hk (by omega) hh ?_
  dsimp only [Option.toList_some, Option.toList_none, List.cons_append, List.nil_append]
  refine J_istore hC dX10_fliesWith_7 (Nat.le_of_ble_eq_true rfl) rfl ?_
  dsimp only [List.set]
  refine J_iload hC dX10_fliesWith_9 rfl ?_
  refine J_iconst (v := nI 1) hC dX10_fliesWith_11 (by decide) ?_
  refine J_icmp_lt_n hC (by omega) (by decide) (tgt := 65) dX10_fliesWith_12 rfl (fun hb0 => ?_) (fun hb0 => ?_)
  · refine J_iconst (v := nI 0) hC dX10_fliesWith_65 (by decide) ?_
    refine J_zreturn hC hR dX10_fliesWith_66 (by decide) (by decide) (by decide) ?_
    exact hf (by unfold fliesW; omega)
  · refine J_aload_n hC dX10_fliesWith_15 rfl rfl ?_
    refine J_iload_n hC dX10_fliesWith_16 rfl rfl ?_
    refine J_iload hC dX10_fliesWith_17 rfl ?_
    refine J_iload_n hC dX10_fliesWith_19 rfl rfl ?_
    refine iX10_109 hC hM rfl ⟨by decide, by decide⟩ ⟨by decide, by decide⟩ (Nat.le_of_ble_eq_true rfl) dX10_fliesWith_20 ?_
    refine c_X10_xAfter hM hI hk (by omega) hh ?_
    dsimp only [Option.toList_some, Option.toList_none, List.cons_append, List.nil_append]
    refine J_iconst (v := nI 0) hC dX10_fliesWith_23 (by decide) ?_
    refine J_aload_n hC dX10_fliesWith_24 rfl rfl ?_
    refine gX10_7 hC hM dX10_fliesWith_25 ?_
    refine J_iconst (v := nI 0) hC dX10_fliesWith_28 (by decide) ?_
    refine J_iaload hC (hM.1 1 (by decide)) rfl rfl (by omega) (by decide) dX10_fliesWith_29 ?_
    refine J_top (r_W hI).1 ?_
    refine J_iconst (v := nI 1) hC dX10_fliesWith_30 (by decide) ?_
    refine J_isub_z hC (nI_iI _) (nI_iI _) dX10_fliesWith_31 ?_
    refine iX10_75 hC rfl ⟨by decide, by decide⟩ ⟨by decide, by decide⟩ (Nat.le_of_ble_eq_true rfl) dX10_fliesWith_32 ?_
    refine c_X10_in (tI_z (by omega)) (tI_n (by decide)) (tI_z (by omega)) (fun hb1 => ?_) (fun hb1 => ?_)
    · dsimp only [Option.toList_some, Option.toList_none, List.cons_append, List.nil_append]
      refine J_if_eq_n hC (by decide) (tgt := 65) dX10_fliesWith_35 rfl (fun hf => absurd hf (by omega)) (fun _ => ?_)
      refine J_aload_n hC dX10_fliesWith_38 rfl rfl ?_
      refine J_iload_n hC dX10_fliesWith_39 rfl rfl ?_
      refine J_iload hC dX10_fliesWith_40 rfl ?_
      refine J_iload_n hC dX10_fliesWith_42 rfl rfl ?_
      refine iX10_112 hC hM rfl ⟨by decide, by decide⟩ ⟨by decide, by decide⟩ (Nat.le_of_ble_eq_true rfl) dX10_fliesWith_43 ?_
      refine c_X10_yAfter hM hI hk (by omega) hh ?_
      dsimp only [Option.toList_some, Option.toList_none, List.cons_append, List.nil_append]
      refine J_iconst (v := nI 0) hC dX10_fliesWith_46 (by decide) ?_
      refine J_aload_n hC dX10_fliesWith_47 rfl rfl ?_
      refine gX10_7 hC hM dX10_fliesWith_48 ?_
      refine J_iconst (v := nI 1) hC dX10_fliesWith_51 (by decide) ?_
      refine J_iaload hC (hM.1 1 (by decide)) rfl rfl (by omega) (by decide) dX10_fliesWith_52 ?_
      refine J_top (r_H hI).1 ?_
      refine J_iconst (v := nI 1) hC dX10_fliesWith_53 (by decide) ?_
      refine J_isub_z hC (nI_iI _) (nI_iI _) dX10_fliesWith_54 ?_
      refine iX10_75 hC rfl ⟨by decide, by decide⟩ ⟨by decide, by decide⟩ (Nat.le_of_ble_eq_true rfl) dX10_fliesWith_55 ?_
      refine c_X10_in (tI_z (by omega)) (tI_n (by decide)) (tI_z (by omega)) (fun hb3 => ?_) (fun hb3 => ?_)
      · dsimp only [Option.toList_some, Option.toList_none, List.cons_append, List.nil_append]
        refine J_if_eq_n hC (by decide) (tgt := 65) dX10_fliesWith_58 rfl (fun hf => absurd hf (by omega)) (fun _ => ?_)
        refine J_iconst (v := nI 1) hC dX10_fliesWith_61 (by decide) ?_
        refine J_goto (tgt := 66) hC dX10_fliesWith_62 rfl ?_
        refine J_zreturn hC hR dX10_fliesWith_66 (by decide) (by decide) (by decide) ?_
        exact ht (by unfold fliesW; omega)
      · dsimp only [Option.toList_some, Option.toList_none, List.cons_append, List.nil_append]
        refine J_if_eq_n hC (by decide) (tgt := 65) dX10_fliesWith_58 rfl (fun _ => ?_) (fun hf => absurd hf (by omega))
        refine J_iconst (v := nI 0) hC dX10_fliesWith_65 (by decide) ?_
        refine J_zreturn hC hR dX10_fliesWith_66 (by decide) (by decide) (by decide) ?_
        exact hf (by unfold fliesW; omega)
    · dsimp only [Option.toList_some, Option.toList_none, List.cons_append, List.nil_append]
      refine J_if_eq_n hC (by decide) (tgt := 65) dX10_fliesWith_35 rfl (fun _ => ?_) (fun hf => absurd hf (by omega))
      refine J_iconst (v := nI 0) hC dX10_fliesWith_65 (by decide) ?_
      refine J_zreturn hC hR dX10_fliesWith_66 (by decide) (by decide) (by decide) ?_
      exact hf (by unfold fliesW; omega)
set_option maxHeartbeats 4000000 in
set_option maxRecDepth 100000 in
theorem c_X10_flies {G : GC} {w : Lay} {σ : Mem} {Q : Lay → Option Value → Mem → Prop} {Qx : Lay → String → Mem → Prop} {hm : Nat} (hM : LM w) (hI : RowOK hm (rd σ 13 1)) {k h : Nat} (hk : k < nv (rd σ 13 1) 6) (hh : h < 2 ^ 31) (ht : fliesN (rd σ 13 1) k h → Q w (some (.int (nI 1))) σ) (hf : ¬ (fliesN (rd σ 13 1) k h) → Q w (some (.int (nI 0))) σ) : MX10_flies G w σ [.ref (w.2.1 13 0), .int (nI k), .int (nI h)] Q Qx := by
  refine mt_start (by decide) rfl (Nat.le_of_ble_eq_true rfl) (fun E hC hR hN => ?_)
  show J G E w 0 0 0 [some (.ref (w.2.1 13 0)), some (.int (nI k)), some (.int (nI h))] [] σ
  have h1 := r_NK hI
  have h2 := r_KN hI hk
  refine J_aload_n hC dX10_flies_0 rfl rfl ?_
  refine J_iload_n hC dX10_flies_1 rfl rfl ?_
  refine J_aload_n hC dX10_flies_2 rfl rfl ?_
  refine J_iload_n hC dX10_flies_3 rfl rfl ?_
  refine J_iconst (v := nI 4) hC dX10_flies_4 (by decide) ?_
  refine iX10_79 hC hM rfl ⟨by decide, by decide⟩ ⟨by decide, by decide⟩ (Nat.le_of_ble_eq_true rfl) dX10_flies_5 ?_
  refine c_X10_of hM (by omega) ?_
  dsimp only [Option.toList_some, Option.toList_none, List.cons_append, List.nil_append]
  refine J_top (r_KN hI hk).1 ?_
  refine J_iload_n hC dX10_flies_8 rfl rfl ?_
  refine iX10_115 hC hM rfl ⟨by decide, by decide⟩ ⟨by decide, by decide⟩ (Nat.le_of_ble_eq_true rfl) dX10_flies_9 ?_
  refine c_X10_fliesWith hM hI hk (by omega) hh (fun hb0 => ?_) (fun hb0 => ?_)
  · dsimp only [Option.toList_some, Option.toList_none, List.cons_append, List.nil_append]
    refine J_zreturn hC hR dX10_flies_12 (by decide) (by decide) (by decide) ?_
    exact ht hb0
  · dsimp only [Option.toList_some, Option.toList_none, List.cons_append, List.nil_append]
    refine J_zreturn hC hR dX10_flies_12 (by decide) (by decide) (by decide) ?_
    exact hf hb0
set_option maxHeartbeats 4000000 in
set_option maxRecDepth 100000 in
theorem c_X10_side {G : GC} {w : Lay} {σ : Mem} {Q : Lay → Option Value → Mem → Prop} {Qx : Lay → String → Mem → Prop} {x0 : Int32} {x1 : Int32} {x2 : Int32} {x3 : Int32} {x4 : Int32} {x5 : Int32} {a b c d e f : Int} (h0 : x0 = iI a) (h1 : x1 = iI b) (h2 : x2 = iI c) (h3 : x3 = iI d) (h4 : x4 = iI e) (h5 : x5 = iI f) (hr : (-300 ≤ a ∧ a ≤ 300) ∧ (-300 ≤ b ∧ b ≤ 300) ∧ (-300 ≤ c ∧ c ≤ 300) ∧ (-300 ≤ d ∧ d ≤ 300) ∧ (-300 ≤ e ∧ e ≤ 300) ∧ (-300 ≤ f ∧ f ≤ 300)) (hq : Q w (some (.int (iI (sideI a b c d e f)))) σ) : MX10_side G w σ [.int x0, .int x1, .int x2, .int x3, .int x4, .int x5] Q Qx := by
  refine mt_start (by decide) rfl (Nat.le_of_ble_eq_true rfl) (fun E hC hR hN => ?_)
  show J G E w 0 0 0 [some (.int x0), some (.int x1), some (.int x2), some (.int x3), some (.int x4), some (.int x5), none] [] σ
  subst h0 ; subst h1 ; subst h2 ; subst h3 ; subst h4 ; subst h5
  have m1 := mul_rng (M := 600) (u := c - a) (v := f - b) (by omega) (by omega)
  have m2 := mul_rng (M := 600) (u := d - b) (v := e - a) (by omega) (by omega)
  refine J_iload_n hC dX10_side_0 rfl rfl ?_
  refine J_iload_n hC dX10_side_1 rfl rfl ?_
  refine J_isub_z hC rfl rfl dX10_side_2 ?_
  refine J_iload hC dX10_side_3 rfl ?_
  refine J_iload_n hC dX10_side_5 rfl rfl ?_
  refine J_isub_z hC rfl rfl dX10_side_6 ?_
  refine J_imul_z hC rfl rfl dX10_side_7 ?_
  refine J_iload_n hC dX10_side_8 rfl rfl ?_
  refine J_iload_n hC dX10_side_9 rfl rfl ?_
  refine J_isub_z hC rfl rfl dX10_side_10 ?_
  refine J_iload hC dX10_side_11 rfl ?_
  refine J_iload_n hC dX10_side_13 rfl rfl ?_
  refine J_isub_z hC rfl rfl dX10_side_14 ?_
  refine J_imul_z hC rfl rfl dX10_side_15 ?_
  refine J_isub_z hC rfl rfl dX10_side_16 ?_
  refine J_istore hC dX10_side_17 (Nat.le_of_ble_eq_true rfl) rfl ?_
  dsimp only [List.set]
  refine J_iload hC dX10_side_19 rfl ?_
  refine J_if_ge_z hC rfl (by omega) (tgt := 28) dX10_side_21 rfl (fun hb0 => ?_) (fun hb0 => ?_)
  · refine J_iload hC dX10_side_28 rfl ?_
    refine J_if_le_z hC rfl (by omega) (tgt := 37) dX10_side_30 rfl (fun hb1 => ?_) (fun hb1 => ?_)
    · refine J_iconst (v := nI 0) hC dX10_side_37 (by decide) ?_
      refine J_ireturn hC hR dX10_side_38 (by decide) (by decide) ?_
      rw [sideI_zero (by omega)] at hq
      exact hq
    · refine J_iconst (v := nI 1) hC dX10_side_33 (by decide) ?_
      refine J_goto (tgt := 38) hC dX10_side_34 rfl ?_
      refine J_ireturn hC hR dX10_side_38 (by decide) (by decide) ?_
      rw [sideI_pos (by omega)] at hq
      exact hq
  · refine J_iconst (v := -1) hC dX10_side_24 (by decide) ?_
    refine J_goto (tgt := 38) hC dX10_side_25 rfl ?_
    refine J_ireturn hC hR dX10_side_38 (by decide) (by decide) ?_
    rw [sideI_neg (by omega)] at hq
    exact hq
set_option maxHeartbeats 4000000 in
set_option maxRecDepth 100000 in
theorem c_X10_inBox {G : GC} {w : Lay} {σ : Mem} {Q : Lay → Option Value → Mem → Prop} {Qx : Lay → String → Mem → Prop} {x0 : Int32} {x1 : Int32} {x2 : Int32} {x3 : Int32} {x4 : Int32} {x5 : Int32} {a b c d e f : Int} (h0 : x0 = iI a) (h1 : x1 = iI b) (h2 : x2 = iI c) (h3 : x3 = iI d) (h4 : x4 = iI e) (h5 : x5 = iI f) (hr : (-300 ≤ a ∧ a ≤ 300) ∧ (-300 ≤ b ∧ b ≤ 300) ∧ (-300 ≤ c ∧ c ≤ 300) ∧ (-300 ≤ d ∧ d ≤ 300) ∧ (-300 ≤ e ∧ e ≤ 300) ∧ (-300 ≤ f ∧ f ≤ 300)) (ht : boxP a b c d e f → Q w (some (.int (nI 1))) σ) (hf : ¬ (boxP a b c d e f) → Q w (some (.int (nI 0))) σ) : MX10_inBox G w σ [.int x0, .int x1, .int x2, .int x3, .int x4, .int x5] Q Qx := by
  refine mt_start (by decide) rfl (Nat.le_of_ble_eq_true rfl) (fun E hC hR hN => ?_)
  show J G E w 0 0 0 [some (.int x0), some (.int x1), some (.int x2), some (.int x3), some (.int x4), some (.int x5)] [] σ
  subst h0 ; subst h1 ; subst h2 ; subst h3 ; subst h4 ; subst h5
  refine J_iload hC dX10_inBox_0 rfl ?_
  refine J_iload_n hC dX10_inBox_2 rfl rfl ?_
  refine J_iload_n hC dX10_inBox_3 rfl rfl ?_
  refine iX10_90 hC rfl ⟨by decide, by decide⟩ ⟨by decide, by decide⟩ (Nat.le_of_ble_eq_true rfl) dX10_inBox_4 ?_
  refine c_X10_less  ?_
  dsimp only [Option.toList_some, Option.toList_none, List.cons_append, List.nil_append]
  refine J_iload_n hC dX10_inBox_7 rfl rfl ?_
  refine J_iload_n hC dX10_inBox_8 rfl rfl ?_
  refine iX10_118 hC rfl ⟨by decide, by decide⟩ ⟨by decide, by decide⟩ (Nat.le_of_ble_eq_true rfl) dX10_inBox_9 ?_
  refine c_X10_more  ?_
  dsimp only [Option.toList_some, Option.toList_none, List.cons_append, List.nil_append]
  refine iX10_75 hC rfl ⟨by decide, by decide⟩ ⟨by decide, by decide⟩ (Nat.le_of_ble_eq_true rfl) dX10_inBox_12 ?_
  refine c_X10_in (tI_z (by omega)) (show (imin (iI a) (iI c)).toInt = min a c from by rw [imin_z (by omega) (by omega)]; exact tI_z (min_rng (by omega) (by omega))) (show (imax (iI a) (iI c)).toInt = max a c from by rw [imax_z (by omega) (by omega)]; exact tI_z (max_rng (by omega) (by omega))) (fun hb0 => ?_) (fun hb0 => ?_)
  · dsimp only [Option.toList_some, Option.toList_none, List.cons_append, List.nil_append]
    refine J_if_eq_n hC (by decide) (tgt := 40) dX10_inBox_15 rfl (fun hf => absurd hf (by omega)) (fun _ => ?_)
    refine J_iload hC dX10_inBox_18 rfl ?_
    refine J_iload_n hC dX10_inBox_20 rfl rfl ?_
    refine J_iload_n hC dX10_inBox_21 rfl rfl ?_
    refine iX10_90 hC rfl ⟨by decide, by decide⟩ ⟨by decide, by decide⟩ (Nat.le_of_ble_eq_true rfl) dX10_inBox_22 ?_
    refine c_X10_less  ?_
    dsimp only [Option.toList_some, Option.toList_none, List.cons_append, List.nil_append]
    refine J_iload_n hC dX10_inBox_25 rfl rfl ?_
    refine J_iload_n hC dX10_inBox_26 rfl rfl ?_
    refine iX10_118 hC rfl ⟨by decide, by decide⟩ ⟨by decide, by decide⟩ (Nat.le_of_ble_eq_true rfl) dX10_inBox_27 ?_
    refine c_X10_more  ?_
    dsimp only [Option.toList_some, Option.toList_none, List.cons_append, List.nil_append]
    refine iX10_75 hC rfl ⟨by decide, by decide⟩ ⟨by decide, by decide⟩ (Nat.le_of_ble_eq_true rfl) dX10_inBox_30 ?_
    refine c_X10_in (tI_z (by omega)) (show (imin (iI b) (iI d)).toInt = min b d from by rw [imin_z (by omega) (by omega)]; exact tI_z (min_rng (by omega) (by omega))) (show (imax (iI b) (iI d)).toInt = max b d from by rw [imax_z (by omega) (by omega)]; exact tI_z (max_rng (by omega) (by omega))) (fun hb2 => ?_) (fun hb2 => ?_)
    · dsimp only [Option.toList_some, Option.toList_none, List.cons_append, List.nil_append]
      refine J_if_eq_n hC (by decide) (tgt := 40) dX10_inBox_33 rfl (fun hf => absurd hf (by omega)) (fun _ => ?_)
      refine J_iconst (v := nI 1) hC dX10_inBox_36 (by decide) ?_
      refine J_goto (tgt := 41) hC dX10_inBox_37 rfl ?_
      refine J_zreturn hC hR dX10_inBox_41 (by decide) (by decide) (by decide) ?_
      exact ht ⟨hb0, hb2⟩
    · dsimp only [Option.toList_some, Option.toList_none, List.cons_append, List.nil_append]
      refine J_if_eq_n hC (by decide) (tgt := 40) dX10_inBox_33 rfl (fun _ => ?_) (fun hf => absurd hf (by omega))
      refine J_iconst (v := nI 0) hC dX10_inBox_40 (by decide) ?_
      refine J_zreturn hC hR dX10_inBox_41 (by decide) (by decide) (by decide) ?_
      exact hf (fun q => by first | exact hb0 q.1 | exact hb2 q.2)
  · dsimp only [Option.toList_some, Option.toList_none, List.cons_append, List.nil_append]
    refine J_if_eq_n hC (by decide) (tgt := 40) dX10_inBox_15 rfl (fun _ => ?_) (fun hf => absurd hf (by omega))
    refine J_iconst (v := nI 0) hC dX10_inBox_40 (by decide) ?_
    refine J_zreturn hC hR dX10_inBox_41 (by decide) (by decide) (by decide) ?_
    exact hf (fun q => by first | exact hb0 q.1 | exact hb2 q.2)
