/-! ===== the class's bytes in and out ===== -/
def bN (v : Int32) (i : Nat) : Nat := ((v.toInt / 2 ^ (24 - 8 * i)) % 256).toNat
theorem bN_lt {v : Int32} {i : Nat} : bN v i < 256 := by
  unfold bN
  generalize v.toInt / 2 ^ (24 - 8 * i) = q
  omega
theorem shr_nat (v : Int32) (n : Nat) (k : Int32) (hk : (k.toBitVec.smod 32).toNat = n) : (((v >>> k) &&& nI 255).toBitVec.toNat : Int) = (v.toInt / 2 ^ n) % 256 := by
  have h1 : ((v >>> k) &&& nI 255).toBitVec.toNat = (v >>> k).toBitVec.toNat % 2 ^ 8 := by
    rw [Int32.toBitVec_and, BitVec.toNat_and, show (nI 255).toBitVec.toNat = 2 ^ 8 - 1 from by decide, Nat.and_two_pow_sub_one_eq_mod]
  have h2 : (v >>> k).toBitVec.toInt = v.toInt / 2 ^ n := by
    rw [Int32.toBitVec_shiftRight, BitVec.toInt_sshiftRight', hk, Int.shiftRight_eq_div_pow]
    rfl
  have h3 := BitVec.toInt_eq_toNat_cond (v >>> k).toBitVec
  rw [h1]
  rw [h2] at h3
  generalize v.toInt / 2 ^ n = q at h3 ⊢
  generalize (v >>> k).toBitVec.toNat = N at h3 ⊢
  split at h3 <;> omega
theorem bN_c {v : Int32} {i : Nat} (hi : i < 4) : (v >>> (iI (24 - 8 * (i : Int)) &&& 31)) &&& nI 255 = nI (bN v i) := by
  have h := shr_nat v (24 - 8 * i) (iI (24 - 8 * (i : Int)) &&& 31) (by
    have h4 : i = 0 ∨ i = 1 ∨ i = 2 ∨ i = 3 := by omega
    rcases h4 with rfl | rfl | rfl | rfl <;> decide)
  have hb := bN_lt (v := v) (i := i)
  have e : (nI (bN v i)).toBitVec.toNat = bN v i := by
    show (BitVec.ofNat 32 (bN v i)).toNat = _
    rw [BitVec.toNat_ofNat]
    exact Nat.mod_eq_of_lt (by omega)
  apply Int32.toBitVec_inj.mp
  apply BitVec.eq_of_toNat_eq
  rw [e]
  unfold bN
  generalize v.toInt / 2 ^ (24 - 8 * i) = q at h ⊢
  omega
theorem bN_r {v : Int32} {i : Nat} (hi : i < 4) : bt v i = iI (sg (bN v i)) := by
  have hs : ((iI (24 - 8 * (i : Int))).toUInt32 &&& Int32.toUInt32 31).toNat % 32 = 24 - 8 * i := by
    have h4 : i = 0 ∨ i = 1 ∨ i = 2 ∨ i = 3 := by omega
    rcases h4 with rfl | rfl | rfl | rfl <;> decide
  unfold bt
  generalize hU : v.toUInt32 >>> ((iI (24 - 8 * (i : Int))).toUInt32 &&& Int32.toUInt32 31) = U
  have h1 : U.toNat = v.toBitVec.toNat / 2 ^ (24 - 8 * i) := by
    rw [← hU, UInt32.toNat_shiftRight, hs, Nat.shiftRight_eq_div_pow]
    rfl
  have h2 : (U.toInt32.toInt8.toInt32.toInt8.toInt32).toInt = Int.bmod U.toInt32.toInt (2 ^ 8) := by
    rw [Int8.toInt_toInt32, Int32.toInt_toInt8, Int8.toInt_toInt32, Int32.toInt_toInt8, Int.bmod_bmod]
  have h3 : U.toInt32.toInt = if 2 * U.toNat < 2 ^ 32 then (U.toNat : Int) else (U.toNat : Int) - ((2 ^ 32 : Nat) : Int) := BitVec.toInt_eq_toNat_cond U.toBitVec
  have h4 : v.toInt = if 2 * v.toBitVec.toNat < 2 ^ 32 then (v.toBitVec.toNat : Int) else (v.toBitVec.toNat : Int) - ((2 ^ 32 : Nat) : Int) := BitVec.toInt_eq_toNat_cond v.toBitVec
  have hv : v.toBitVec.toNat < 2 ^ 32 := v.toBitVec.isLt
  have hb := bN_lt (v := v) (i := i)
  apply Int32.toInt_inj.mp
  rw [h2, iI_toInt (by unfold sg; split <;> omega) (by unfold sg; split <;> omega), Int.bmod_def]
  unfold sg bN
  generalize U.toInt32.toInt = X at h3 ⊢
  generalize U.toNat = M at h1 h3
  generalize v.toInt = V at h4 ⊢
  generalize v.toBitVec.toNat = N at h1 h4 hv
  have hq : i = 0 ∨ i = 1 ∨ i = 2 ∨ i = 3 := by omega
  rcases hq with rfl | rfl | rfl | rfl <;> simp only [Nat.reduceMul, Nat.reduceSub, Nat.reducePow, Int.reducePow] at h1 h3 h4 hv ⊢ <;> split at h3 <;> split at h4 <;> subst h3 h4 <;> split <;> split <;> omega
def fourC (σ : Mem) (v : Int32) (L i : Nat) : Mem := wr (wrC σ 12 6 (fun j => if L ≤ j ∧ j < L + i then nI (bN v (j - L)) else rd σ 12 6 j)) 12 5 1 (nI (L + i))
theorem fourC_0 {σ : Mem} {v : Int32} {L : Nat} (h : rd σ 12 5 1 = nI L) : fourC σ v L 0 = σ := by
  unfold fourC
  rw [wrC_self (fun j => if_neg (by omega))]
  exact wr_id h
theorem fourC_1 {σ : Mem} {v : Int32} {L i : Nat} : rd (fourC σ v L i) 12 5 1 = nI (L + i) := rd_wr_s
theorem fourC_r {σ : Mem} {v : Int32} {L i : Nat} : wr (wr (fourC σ v L i) 12 6 (L + i) (nI (bN v i))) 12 5 1 (nI (L + i + 1)) = fourC σ v L (i + 1) := by
  refine mem_ext (fun a b d => ?_) (fun _ => rfl)
  unfold fourC
  simp only [rd_wr, rd_wrC]
  by_cases h2 : a = 12 ∧ b = 5 ∧ d = 1
  · rw [if_pos h2, if_pos h2]
    rfl
  · rw [if_neg h2, if_neg h2]
    by_cases h1 : a = 12 ∧ b = 6 ∧ d = L + i
    · obtain ⟨rfl, rfl, rfl⟩ := h1
      simp [show L ≤ L + i ∧ L + i < L + (i + 1) by omega]
    · rw [if_neg h1, if_neg h2]
      by_cases h3 : a = 12 ∧ b = 6
      · rw [if_pos h3, if_pos h3]
        obtain ⟨rfl, rfl⟩ := h3
        by_cases h4 : L ≤ d ∧ d < L + i
        · rw [if_pos h4, if_pos (by omega)]
        · rw [if_neg h4, if_neg (by omega)]
      · rw [if_neg h3, if_neg h3]
def t4 (t : Nat → Nat) (L : Nat) (v : Int32) : Nat → Nat := fun j => if L ≤ j ∧ j < L + 4 then bN v (j - L) else t j
theorem TXc_four {σ : Mem} {t : Nat → Nat} {L : Nat} {v : Int32} (h : TXc σ t L) (h5 : L + 4 ≤ 500) : TXc (fourC σ v L 4) (t4 t L v) (L + 4) := by
  refine ⟨fun j hj => ?_, rd_wr_s, h5⟩
  have e : rd (fourC σ v L 4) 12 6 j = if L ≤ j ∧ j < L + 4 then nI (bN v (j - L)) else rd σ 12 6 j := by
    unfold fourC
    rw [rd_wr_c (by decide), rd_wrC_s]
  rw [e]
  unfold t4
  by_cases h4 : L ≤ j ∧ j < L + 4
  · rw [if_pos h4, if_pos h4]
    exact ⟨bN_lt, rfl⟩
  · rw [if_neg h4, if_neg h4]
    exact h.1 j (by omega)
theorem TX_four {σ : Mem} {t : Nat → Nat} {L : Nat} {v : Int32} (h : TX σ t L) (h5 : L + 4 ≤ 500) : TX (fourP σ v L 4) (t4 t L v) (L + 4) := by
  refine ⟨fun j hj => ?_, rd_wr_s, h5⟩
  have e : rd (fourP σ v L 4) 13 4 j = if L ≤ j ∧ j < L + 4 then bt v (j - L) else rd σ 13 4 j := by
    unfold fourP
    rw [rd_wr_c (by decide), rd_wrC_s]
  rw [e]
  unfold t4
  by_cases h4 : L ≤ j ∧ j < L + 4
  · rw [if_pos h4, if_pos h4]
    exact ⟨bN_lt, bN_r (by omega)⟩
  · rw [if_neg h4, if_neg h4]
    exact h.1 j (by omega)
def t20 (t : Nat → Nat) (L : Nat) (a b c d e : Int32) : Nat → Nat := t4 (t4 (t4 (t4 (t4 t L a) (L + 4) b) (L + 8) c) (L + 12) d) (L + 16) e
def appC (σ : Mem) (L : Nat) (a b c d e : Int32) : Mem := fourC (fourC (fourC (fourC (fourC σ a L 4) b (L + 4) 4) c (L + 8) 4) d (L + 12) 4) e (L + 16) 4
theorem TXc_app {σ : Mem} {t : Nat → Nat} {L : Nat} {a b c d e : Int32} (h : TXc σ t L) (h5 : L + 20 ≤ 500) : TXc (appC σ L a b c d e) (t20 t L a b c d e) (L + 20) :=
  TXc_four (TXc_four (TXc_four (TXc_four (TXc_four h (by omega)) (by omega)) (by omega)) (by omega)) (by omega)
theorem TX_app {σ : Mem} {t : Nat → Nat} {L : Nat} {a b c d e : Int32} (h : TX σ t L) (h5 : L + 20 ≤ 500) : TX (appM σ L a b c d e) (t20 t L a b c d e) (L + 20) :=
  TX_four (TX_four (TX_four (TX_four (TX_four h (by omega)) (by omega)) (by omega)) (by omega)) (by omega)
theorem fourC_fr {σ : Mem} {v : Int32} {L i : Nat} {a c j : Nat} (h : ¬ (a = 12 ∧ (c = 6 ∨ (c = 5 ∧ j = 1)))) : rd (fourC σ v L i) a c j = rd σ a c j := by
  unfold fourC
  rw [rd_wr, if_neg (by omega), rd_wrC, if_neg (by omega)]
theorem fourP_fr {σ : Mem} {v : Int32} {L i : Nat} {a c j : Nat} (h : ¬ (a = 13 ∧ (c = 4 ∨ (c = 0 ∧ j = 6)))) : rd (fourP σ v L i) a c j = rd σ a c j := by
  unfold fourP
  rw [rd_wr, if_neg (by omega), rd_wrC, if_neg (by omega)]
theorem appC_fr {σ : Mem} {L : Nat} {x b y d e : Int32} {a c j : Nat} (h : ¬ (a = 12 ∧ (c = 6 ∨ (c = 5 ∧ j = 1)))) : rd (appC σ L x b y d e) a c j = rd σ a c j := by
  unfold appC
  rw [fourC_fr h, fourC_fr h, fourC_fr h, fourC_fr h, fourC_fr h]
theorem appM_fr {σ : Mem} {L : Nat} {x b y d e : Int32} {a c j : Nat} (h : ¬ (a = 13 ∧ (c = 4 ∨ (c = 0 ∧ j = 6)))) : rd (appM σ L x b y d e) a c j = rd σ a c j := by
  unfold appM
  rw [fourP_fr h, fourP_fr h, fourP_fr h, fourP_fr h, fourP_fr h]
set_option maxHeartbeats 4000000 in
set_option maxRecDepth 100000 in
theorem c_X3_hasRoomForRow {G : GC} {w : Lay} {σ : Mem} {Q : Lay → Option Value → Mem → Prop} {Qx : Lay → String → Mem → Prop} (hK : LK w) {L : Nat} (hL : rd σ 12 5 1 = nI L) (hL5 : L ≤ 500) (ht : L + 20 ≤ 500 → Q w (some (.int (nI 1))) σ) (hf : ¬ L + 20 ≤ 500 → Q w (some (.int (nI 0))) σ) : MX3_hasRoomForRow G w σ [.ref (w.2.1 12 5)] Q Qx := by
  refine mt_start (by decide) rfl (Nat.le_of_ble_eq_true rfl) (fun E hC hR hN => ?_)
  show J G E w 0 0 0 [some (.ref (w.2.1 12 5))] [] σ
  refine J_aload_n hC dX3_hasRoomForRow_0 rfl rfl ?_
  refine gX3_19 hC hK dX3_hasRoomForRow_1 ?_
  refine J_top hL ?_
  refine J_bipush (v := nI 20) hC dX3_hasRoomForRow_4 (by decide) ?_
  refine J_iadd_n hC dX3_hasRoomForRow_6 ?_
  refine J_sipush (v := nI 500) hC dX3_hasRoomForRow_7 (by decide) ?_
  refine J_icmp_gt_n hC (by omega) (by decide) (tgt := 17) dX3_hasRoomForRow_10 rfl (fun b1 => ?_) (fun b1 => ?_)
  · refine J_iconst (v := nI 0) hC dX3_hasRoomForRow_17 (by decide) ?_
    refine J_zreturn hC hR dX3_hasRoomForRow_18 (by decide) (by decide) (by decide) ?_
    exact hf (by omega)
  · refine J_iconst (v := nI 1) hC dX3_hasRoomForRow_13 (by decide) ?_
    refine J_goto (tgt := 18) hC dX3_hasRoomForRow_14 rfl ?_
    refine J_zreturn hC hR dX3_hasRoomForRow_18 (by decide) (by decide) (by decide) ?_
    exact ht (by omega)
set_option maxHeartbeats 4000000 in
set_option maxRecDepth 100000 in
theorem c_X3_putFourBytes {G : GC} {w : Lay} {σ : Mem} {Q : Lay → Option Value → Mem → Prop} {Qx : Lay → String → Mem → Prop} (hK : LK w) {v : Int32} {L : Nat} (hL : rd σ 12 5 1 = nI L) (h5 : L + 4 ≤ 500) (hq : Q w none (fourC σ v L 4)) : MX3_putFourBytes G w σ [.ref (w.2.1 12 5), .int v] Q Qx := by
  refine mt_start (by decide) rfl (Nat.le_of_ble_eq_true rfl) (fun E hC hR hN => ?_)
  show J G E w 0 0 0 [some (.ref (w.2.1 12 5)), some (.int v), none] [] σ
  have lp : ∀ (dd : Nat) (i : Nat), 4 - i < dd → (i ≤ 4) →  J G E w 0 0 3 [some (.ref (w.2.1 12 5)), some (.int v), some (.int (iI (24 - 8 * (i : Int))))] [] (fourC σ v L i) := by
    intro dd
    induction dd with
    | zero =>
      intro i hdd
      exact absurd hdd (Nat.not_lt_zero _)
    | succ dd ih =>
      intro i hdd hi
      refine J_iload_n hC dX3_putFourBytes_3 rfl rfl ?_
      refine J_if_lt_z hC rfl (by omega) (tgt := 49) dX3_putFourBytes_4 rfl (fun hb => ?_) (fun hb => ?_)
      · refine J_return hC hR dX3_putFourBytes_49 (by decide) (by decide) ?_
        have e : i = 4 := by omega
        subst e
        exact hq
      · refine J_aload_n hC dX3_putFourBytes_7 rfl rfl ?_
        refine gX3_19 hC hK dX3_putFourBytes_8 ?_
        refine J_top fourC_1 ?_
        refine J_sipush (v := nI 500) hC dX3_putFourBytes_11 (by decide) ?_
        refine J_icmp_ge_n hC (by omega) (by decide) (tgt := 43) dX3_putFourBytes_14 rfl (fun h9 => ?_) (fun h9 => ?_)
        · exfalso; omega
        · refine J_aload_n hC dX3_putFourBytes_17 rfl rfl ?_
          refine gX3_9 hC hK dX3_putFourBytes_18 ?_
          refine J_aload_n hC dX3_putFourBytes_21 rfl rfl ?_
          refine gX3_19 hC hK dX3_putFourBytes_22 ?_
          refine J_top fourC_1 ?_
          refine J_iload_n hC dX3_putFourBytes_25 rfl rfl ?_
          refine J_iload_n hC dX3_putFourBytes_26 rfl rfl ?_
          refine J_ishr hC dX3_putFourBytes_27 ?_
          refine J_sipush (v := nI 255) hC dX3_putFourBytes_28 (by decide) ?_
          refine J_iand hC dX3_putFourBytes_31 ?_
          rw [bN_c (by omega)]
          refine J_iastore hC (hK.1 6 (by decide)) rfl rfl (by omega) (by decide) dX3_putFourBytes_32 ?_
          refine J_aload_n hC dX3_putFourBytes_33 rfl rfl ?_
          refine J_dup hC dX3_putFourBytes_34 rfl ?_
          refine gX3_19 hC hK dX3_putFourBytes_35 ?_
          refine J_top ((rd_wr_c (by decide)).trans fourC_1) ?_
          refine J_iconst (v := nI 1) hC dX3_putFourBytes_38 (by decide) ?_
          refine J_iadd_n hC dX3_putFourBytes_39 ?_
          refine pX3_19 hC hK dX3_putFourBytes_40 ?_
          rw [fourC_r]
          refine J_iinc hC dX3_putFourBytes_43 rfl rfl (Nat.le_of_ble_eq_true rfl) rfl ?_
          dsimp only [List.set]
          rw [show iI (24 - 8 * (i : Int)) + Int32.ofInt (-8) = iI (24 - 8 * ((i + 1 : Nat) : Int)) from by rw [show Int32.ofInt (-8) = iI (-8) from rfl, iI_add]; congr 1; omega]
          refine J_goto (tgt := 3) hC dX3_putFourBytes_46 rfl ?_
          exact ih (i + 1) (by omega) (by omega)
  refine J_bipush (v := nI 24) hC dX3_putFourBytes_0 (by decide) ?_
  refine J_istore_n hC dX3_putFourBytes_2 rfl (Nat.le_of_ble_eq_true rfl) rfl ?_
  dsimp only [List.set]
  exact J_cong (lp 5 0 (by omega) (by omega)) (h4 := (fourC_0 hL).symm)
set_option maxHeartbeats 4000000 in
set_option maxRecDepth 100000 in
theorem c_X9_append {G : GC} {w : Lay} {σ : Mem} {Q : Lay → Option Value → Mem → Prop} {Qx : Lay → String → Mem → Prop} (hK : LK w) {a b c d e : Int32} {L : Nat} (hL : rd σ 12 5 1 = nI L) (hL5 : L ≤ 500) (hq : (aAp L).1 = 0 → Q w (some (.int (aAp L).2)) (appC σ L a b c d e)) (hx1 : (aAp L).1 = 1 → Qx w "java/lang/IllegalStateException" σ) : MX9_append G w σ [.ref (w.2.1 12 0), .int a, .int b, .int c, .int d, .int e] Q Qx := by
  refine mt_start (by decide) rfl (Nat.le_of_ble_eq_true rfl) (fun E hC hR hN => ?_)
  show J G E w 0 0 0 [some (.ref (w.2.1 12 0)), some (.int a), some (.int b), some (.int c), some (.int d), some (.int e)] [] σ
  refine J_aload_n hC dX9_append_0 rfl rfl ?_
  refine gX9_41 hC hK dX9_append_1 ?_
  refine iX9_93 hC hK rfl ⟨by decide, by decide⟩ ⟨by decide, by decide⟩ (Nat.le_of_ble_eq_true rfl) dX9_append_4 ?_
  refine c_X3_hasRoomForRow hK hL hL5 (fun b1 => ?_) (fun b1 => ?_)
  · dsimp only [Option.toList_some, Option.toList_none, List.cons_append, List.nil_append]
    refine J_if_ne_n hC (by decide) (tgt := 20) dX9_append_7 rfl (fun _ => ?_) (fun hf => absurd hf (by omega))
    refine J_aload_n hC dX9_append_20 rfl rfl ?_
    refine gX9_41 hC hK dX9_append_21 ?_
    refine J_iload_n hC dX9_append_24 rfl rfl ?_
    refine iX9_104 hC hK rfl ⟨by decide, by decide⟩ ⟨by decide, by decide⟩ (Nat.le_of_ble_eq_true rfl) dX9_append_25 ?_
    refine c_X3_putFourBytes hK hL (by omega) ?_
    dsimp only [Option.toList_some, Option.toList_none, List.cons_append, List.nil_append]
    refine J_aload_n hC dX9_append_28 rfl rfl ?_
    refine gX9_41 hC hK dX9_append_29 ?_
    refine J_iload_n hC dX9_append_32 rfl rfl ?_
    refine iX9_104 hC hK rfl ⟨by decide, by decide⟩ ⟨by decide, by decide⟩ (Nat.le_of_ble_eq_true rfl) dX9_append_33 ?_
    refine c_X3_putFourBytes hK fourC_1 (by omega) ?_
    dsimp only [Option.toList_some, Option.toList_none, List.cons_append, List.nil_append]
    refine J_aload_n hC dX9_append_36 rfl rfl ?_
    refine gX9_41 hC hK dX9_append_37 ?_
    refine J_iload_n hC dX9_append_40 rfl rfl ?_
    refine iX9_104 hC hK rfl ⟨by decide, by decide⟩ ⟨by decide, by decide⟩ (Nat.le_of_ble_eq_true rfl) dX9_append_41 ?_
    refine c_X3_putFourBytes hK fourC_1 (by omega) ?_
    dsimp only [Option.toList_some, Option.toList_none, List.cons_append, List.nil_append]
    refine J_aload_n hC dX9_append_44 rfl rfl ?_
    refine gX9_41 hC hK dX9_append_45 ?_
    refine J_iload hC dX9_append_48 rfl ?_
    refine iX9_104 hC hK rfl ⟨by decide, by decide⟩ ⟨by decide, by decide⟩ (Nat.le_of_ble_eq_true rfl) dX9_append_50 ?_
    refine c_X3_putFourBytes hK fourC_1 (by omega) ?_
    dsimp only [Option.toList_some, Option.toList_none, List.cons_append, List.nil_append]
    refine J_aload_n hC dX9_append_53 rfl rfl ?_
    refine gX9_41 hC hK dX9_append_54 ?_
    refine J_iload hC dX9_append_57 rfl ?_
    refine iX9_104 hC hK rfl ⟨by decide, by decide⟩ ⟨by decide, by decide⟩ (Nat.le_of_ble_eq_true rfl) dX9_append_59 ?_
    refine c_X3_putFourBytes hK fourC_1 (by omega) ?_
    dsimp only [Option.toList_some, Option.toList_none, List.cons_append, List.nil_append]
    refine J_aload_n hC dX9_append_62 rfl rfl ?_
    refine gX9_41 hC hK dX9_append_63 ?_
    refine gX9_107 hC hK dX9_append_66 ?_
    refine J_top fourC_1 ?_
    refine J_ireturn hC hR dX9_append_69 (by decide) (by decide) ?_
    have e1 : aAp L = (0, nI (L + 20)) := by
      unfold aAp
      rw [chk_t b1]
    rw [e1] at hq
    exact hq rfl
  · dsimp only [Option.toList_some, Option.toList_none, List.cons_append, List.nil_append]
    refine J_if_ne_n hC (by decide) (tgt := 20) dX9_append_7 rfl (fun hf => absurd hf (by omega)) (fun _ => ?_)
    exact thS_ISE hC hR hN rfl (k := 0) rfl dX9_append_10 dX9_append_13 dX9_append_14 dX9_append_16 dX9_append_19 (by decide) (by decide) (by decide) (by decide) (by decide) (by decide) (hx1 (by unfold aAp; rw [chk_f b1]))
set_option maxHeartbeats 4000000 in
set_option maxRecDepth 100000 in
theorem c_X9_truncate {G : GC} {w : Lay} {σ : Mem} {Q : Lay → Option Value → Mem → Prop} {Qx : Lay → String → Mem → Prop} (hK : LK w) {s : Int32} {L : Nat} (hL : rd σ 12 5 1 = nI L) (hL5 : L ≤ 500) (hq : (aTr L s).1 = 0 → Q w (some (.int (aTr L s).2)) (wr σ 12 5 1 s)) (hx1 : (aTr L s).1 = 1 → Qx w "java/lang/IllegalArgumentException" σ) : MX9_truncate G w σ [.ref (w.2.1 12 0), .int s] Q Qx := by
  refine mt_start (by decide) rfl (Nat.le_of_ble_eq_true rfl) (fun E hC hR hN => ?_)
  show J G E w 0 0 0 [some (.ref (w.2.1 12 0)), some (.int s)] [] σ
  refine J_iload_n hC dX9_truncate_0 rfl rfl ?_
  refine J_iconst (v := nI 0) hC dX9_truncate_1 (by decide) ?_
  refine J_aload_n hC dX9_truncate_2 rfl rfl ?_
  refine gX9_41 hC hK dX9_truncate_3 ?_
  refine gX9_107 hC hK dX9_truncate_6 ?_
  refine J_top hL ?_
  refine iX9_110 hC rfl ⟨by decide, by decide⟩ ⟨by decide, by decide⟩ (Nat.le_of_ble_eq_true rfl) dX9_truncate_9 ?_
  refine c_X9_requireBetween (by omega) (by omega) (fun rs => ?_) (fun rs => JX_out hC hR hN (by decide) (by decide) (hx1 (by unfold aTr; rw [chk_f rs])))
  dsimp only [Option.toList_some, Option.toList_none, List.cons_append, List.nil_append]
  refine J_aload_n hC dX9_truncate_12 rfl rfl ?_
  refine gX9_41 hC hK dX9_truncate_13 ?_
  refine J_iload_n hC dX9_truncate_16 rfl rfl ?_
  refine pX9_107 hC hK dX9_truncate_17 ?_
  refine J_iload_n hC dX9_truncate_20 rfl rfl ?_
  refine J_ireturn hC hR dX9_truncate_21 (by decide) (by decide) ?_
  have e1 : aTr L s = (0, s) := by
    unfold aTr
    rw [chk_t rs]
  rw [e1] at hq
  exact hq rfl
set_option maxHeartbeats 4000000 in
set_option maxRecDepth 100000 in
theorem c_X9_errorCode {G : GC} {w : Lay} {σ : Mem} {Q : Lay → Option Value → Mem → Prop} {Qx : Lay → String → Mem → Prop} (hK : LK w) (hq : Q w (some (.int (rd σ 12 5 2))) σ) : MX9_errorCode G w σ [.ref (w.2.1 12 0)] Q Qx := by
  refine mt_start (by decide) rfl (Nat.le_of_ble_eq_true rfl) (fun E hC hR hN => ?_)
  show J G E w 0 0 0 [some (.ref (w.2.1 12 0))] [] σ
  refine J_aload_n hC dX9_errorCode_0 rfl rfl ?_
  refine gX9_41 hC hK dX9_errorCode_1 ?_
  refine gX9_114 hC hK dX9_errorCode_4 ?_
  refine J_ireturn hC hR dX9_errorCode_7 (by decide) (by decide) ?_
  exact hq
set_option maxHeartbeats 4000000 in
set_option maxRecDepth 100000 in
theorem c_X9_errorPosition {G : GC} {w : Lay} {σ : Mem} {Q : Lay → Option Value → Mem → Prop} {Qx : Lay → String → Mem → Prop} (hK : LK w) (hq : Q w (some (.int (rd σ 12 5 3))) σ) : MX9_errorPosition G w σ [.ref (w.2.1 12 0)] Q Qx := by
  refine mt_start (by decide) rfl (Nat.le_of_ble_eq_true rfl) (fun E hC hR hN => ?_)
  show J G E w 0 0 0 [some (.ref (w.2.1 12 0))] [] σ
  refine J_aload_n hC dX9_errorPosition_0 rfl rfl ?_
  refine gX9_41 hC hK dX9_errorPosition_1 ?_
  refine gX9_117 hC hK dX9_errorPosition_4 ?_
  refine J_ireturn hC hR dX9_errorPosition_7 (by decide) (by decide) ?_
  exact hq
/-- the class's output -/
def setC (σ : Mem) (S : Ob) : Mem := wr (wrC σ 12 13 S.1) 12 12 1 (nI S.2)
theorem setC_1 {σ : Mem} {S : Ob} : rd (setC σ S) 12 12 1 = nI S.2 := rd_wr_s
theorem setC_put {σ : Mem} {S : Ob} {b : Nat} : wr (wr (setC σ S) 12 13 S.2 (nI b)) 12 12 1 (nI (S.2 + 1)) = setC σ (putB S b) := by
  refine mem_ext (fun a c d => ?_) (fun _ => rfl)
  unfold setC putB upd
  simp only [rd_wr, rd_wrC]
  by_cases h2 : a = 12 ∧ c = 12 ∧ d = 1
  · rw [if_pos h2, if_pos h2]
  · rw [if_neg h2, if_neg h2]
    by_cases h1 : a = 12 ∧ c = 13
    · obtain ⟨rfl, rfl⟩ := h1
      by_cases h3 : d = S.2
      · subst h3; simp
      · simp [h3]
    · rw [if_neg (fun q => h1 ⟨q.1, q.2.1⟩), if_neg h2, if_neg h1, if_neg h1]
theorem setC_fr {σ : Mem} {S : Ob} {a c j : Nat} (h : ¬ (a = 12 ∧ (c = 13 ∨ (c = 12 ∧ j = 1)))) : rd (setC σ S) a c j = rd σ a c j := by
  unfold setC
  rw [rd_wr, if_neg (by omega), rd_wrC, if_neg (by omega)]
def pnF (n : Nat) : Nat → Ob → Nat → Ob
  | 0, S, _ => S
  | f + 1, S, p => if p < 1 then S else pnF n f (if p ≤ n ∨ p = 1 then putB S (48 + n / p % 10) else S) (p / 10)
theorem pn_0 {n f : Nat} {S : Ob} {p : Nat} (h : p < 1) : pnF n f S p = S := by
  cases f with
  | zero => rfl
  | succ f => exact if_pos h
theorem pn_y {n f : Nat} {S : Ob} {p : Nat} (h : ¬ p < 1) (h2 : p ≤ n ∨ p = 1) : pnF n (f + 1) S p = pnF n f (putB S (48 + n / p % 10)) (p / 10) := by
  show (if p < 1 then S else pnF n f (if p ≤ n ∨ p = 1 then putB S (48 + n / p % 10) else S) (p / 10)) = _
  rw [if_neg h, if_pos h2]
theorem pn_n {n f : Nat} {S : Ob} {p : Nat} (h : ¬ p < 1) (h2 : ¬ (p ≤ n ∨ p = 1)) : pnF n (f + 1) S p = pnF n f S (p / 10) := by
  show (if p < 1 then S else pnF n f (if p ≤ n ∨ p = 1 then putB S (48 + n / p % 10) else S) (p / 10)) = _
  rw [if_neg h, if_neg h2]
theorem pn_le (n : Nat) : ∀ (f : Nat) (S : Ob) (p : Nat), S.2 ≤ (pnF n f S p).2
  | 0, S, _ => Nat.le_refl _
  | f + 1, S, p => by
    by_cases h : p < 1
    · rw [pn_0 h]; exact Nat.le_refl _
    by_cases h2 : p ≤ n ∨ p = 1
    · rw [pn_y h h2]
      exact Nat.le_trans (Nat.le_succ _) (pn_le n f (putB S (48 + n / p % 10)) (p / 10))
    · rw [pn_n h h2]
      exact pn_le n f S (p / 10)
theorem dig_z (n f : Nat) (S : Ob) (p : Nat) (h : p = 0) : digF n f S p = S := by
  subst h
  exact dig_0 n f S
theorem pn_num {n : Nat} (h : n ≤ 999999) (S : Ob) : pnF n 7 S 100000 = numB S n := by
  unfold numB
  rcases pow_cases h with ⟨h1, e⟩ | ⟨h1, h2, e⟩ | ⟨h1, h2, e⟩ | ⟨h1, h2, e⟩ | ⟨h1, h2, e⟩ | ⟨h1, e⟩ <;> rw [e]
  · rw [pn_n (by omega) (by omega), pn_n (by omega) (by omega), pn_n (by omega) (by omega), pn_n (by omega) (by omega), pn_n (by omega) (by omega), pn_y (by omega) (by omega), pn_0 (by omega), dig_s _ _ _ _ (by omega), dig_z _ _ _ _ (by omega)]
  · rw [pn_n (by omega) (by omega), pn_n (by omega) (by omega), pn_n (by omega) (by omega), pn_n (by omega) (by omega), pn_y (by omega) (by omega), pn_y (by omega) (by omega), pn_0 (by omega), dig_s _ _ _ _ (by omega), dig_s _ _ _ _ (by omega), dig_z _ _ _ _ (by omega)]
  · rw [pn_n (by omega) (by omega), pn_n (by omega) (by omega), pn_n (by omega) (by omega), pn_y (by omega) (by omega), pn_y (by omega) (by omega), pn_y (by omega) (by omega), pn_0 (by omega), dig_s _ _ _ _ (by omega), dig_s _ _ _ _ (by omega), dig_s _ _ _ _ (by omega), dig_z _ _ _ _ (by omega)]
  · rw [pn_n (by omega) (by omega), pn_n (by omega) (by omega), pn_y (by omega) (by omega), pn_y (by omega) (by omega), pn_y (by omega) (by omega), pn_y (by omega) (by omega), pn_0 (by omega), dig_s _ _ _ _ (by omega), dig_s _ _ _ _ (by omega), dig_s _ _ _ _ (by omega), dig_s _ _ _ _ (by omega), dig_z _ _ _ _ (by omega)]
  · rw [pn_n (by omega) (by omega), pn_y (by omega) (by omega), pn_y (by omega) (by omega), pn_y (by omega) (by omega), pn_y (by omega) (by omega), pn_y (by omega) (by omega), pn_0 (by omega), dig_s _ _ _ _ (by omega), dig_s _ _ _ _ (by omega), dig_s _ _ _ _ (by omega), dig_s _ _ _ _ (by omega), dig_s _ _ _ _ (by omega), dig_z _ _ _ _ (by omega)]
  · rw [pn_y (by omega) (by omega), pn_y (by omega) (by omega), pn_y (by omega) (by omega), pn_y (by omega) (by omega), pn_y (by omega) (by omega), pn_y (by omega) (by omega), pn_0 (by omega), dig_s _ _ _ _ (by omega), dig_s _ _ _ _ (by omega), dig_s _ _ _ _ (by omega), dig_s _ _ _ _ (by omega), dig_s _ _ _ _ (by omega), dig_s _ _ _ _ (by omega), dig_z _ _ _ _ (by omega)]
set_option maxHeartbeats 4000000 in
set_option maxRecDepth 100000 in
theorem c_X5_putByte {G : GC} {w : Lay} {σ : Mem} {Q : Lay → Option Value → Mem → Prop} {Qx : Lay → String → Mem → Prop} (hK : LK w) {b : Nat} {S : Ob} (hS : S.2 < 390) (hq : Q w none (setC σ (putB S b))) : MX5_putByte G w (setC σ S) [.ref (w.2.1 12 12), .int (nI b)] Q Qx := by
  refine mt_start (by decide) rfl (Nat.le_of_ble_eq_true rfl) (fun E hC hR hN => ?_)
  show J G E w 0 0 0 [some (.ref (w.2.1 12 12)), some (.int (nI b))] [] (setC σ S)
  refine J_aload_n hC dX5_putByte_0 rfl rfl ?_
  refine gX5_15 hC hK dX5_putByte_1 ?_
  refine J_top setC_1 ?_
  refine J_sipush (v := nI 390) hC dX5_putByte_4 (by decide) ?_
  refine J_icmp_ge_n hC (by omega) (by decide) (tgt := 30) dX5_putByte_7 rfl (fun h9 => ?_) (fun h9 => ?_)
  · exfalso; omega
  · refine J_aload_n hC dX5_putByte_10 rfl rfl ?_
    refine gX5_11 hC hK dX5_putByte_11 ?_
    refine J_aload_n hC dX5_putByte_14 rfl rfl ?_
    refine gX5_15 hC hK dX5_putByte_15 ?_
    refine J_top setC_1 ?_
    refine J_iload_n hC dX5_putByte_18 rfl rfl ?_
    refine J_iastore hC (hK.1 13 (by decide)) rfl rfl (by omega) (by decide) dX5_putByte_19 ?_
    refine J_aload_n hC dX5_putByte_20 rfl rfl ?_
    refine J_dup hC dX5_putByte_21 rfl ?_
    refine gX5_15 hC hK dX5_putByte_22 ?_
    refine J_top ((rd_wr_c (by decide)).trans setC_1) ?_
    refine J_iconst (v := nI 1) hC dX5_putByte_25 (by decide) ?_
    refine J_iadd_n hC dX5_putByte_26 ?_
    refine pX5_15 hC hK dX5_putByte_27 ?_
    rw [setC_put]
    refine J_return hC hR dX5_putByte_30 (by decide) (by decide) ?_
    exact hq
set_option maxHeartbeats 4000000 in
set_option maxRecDepth 100000 in
theorem c_X5_putNumber {G : GC} {w : Lay} {σ : Mem} {Q : Lay → Option Value → Mem → Prop} {Qx : Lay → String → Mem → Prop} (hK : LK w) {n : Nat} {S : Ob} (hn : n ≤ 999999) (hS : (numB S n).2 ≤ 390) (hq : Q w none (setC σ (numB S n))) : MX5_putNumber G w (setC σ S) [.ref (w.2.1 12 12), .int (nI n)] Q Qx := by
  refine mt_start (by decide) rfl (Nat.le_of_ble_eq_true rfl) (fun E hC hR hN => ?_)
  show J G E w 0 0 0 [some (.ref (w.2.1 12 12)), some (.int (nI n)), none] [] (setC σ S)
  have lp : ∀ (dd : Nat) (S1 : Ob) (f p : Nat), f < dd → ((p = 0 ∨ (p = 1 ∧ 1 ≤ f) ∨ (p = 10 ∧ 2 ≤ f) ∨ (p = 100 ∧ 3 ≤ f) ∨ (p = 1000 ∧ 4 ≤ f) ∨ (p = 10000 ∧ 5 ≤ f) ∨ (p = 100000 ∧ 6 ≤ f))) → (pnF n f S1 p = numB S n) →  J G E w 0 0 3 [some (.ref (w.2.1 12 12)), some (.int (nI n)), some (.int (nI p))] [] (setC σ S1) := by
    intro dd
    induction dd with
    | zero =>
      intro S1 f p hdd
      exact absurd hdd (Nat.not_lt_zero _)
    | succ dd ih =>
      intro S1 f p hdd hp hF
      refine J_iload_n hC dX5_putNumber_3 rfl rfl ?_
      refine J_iconst (v := nI 1) hC dX5_putNumber_4 (by decide) ?_
      refine J_icmp_lt_n hC (by omega) (by decide) (tgt := 39) dX5_putNumber_5 rfl (fun b1 => ?_) (fun b1 => ?_)
      · refine J_return hC hR dX5_putNumber_39 (by decide) (by decide) ?_
        rw [pn_0 b1] at hF
        rw [← hF] at hq
        exact hq
      · obtain ⟨g, rfl⟩ : ∃ g, f = g + 1 := ⟨f - 1, by omega⟩
        have jp : (p ≤ n ∨ p = 1) →  J G E w 0 0 18 [some (.ref (w.2.1 12 12)), some (.int (nI n)), some (.int (nI p))] [] (setC σ S1) := by
          intro  b4
          rw [pn_y (by omega) b4] at hF
          refine J_aload_n hC dX5_putNumber_18 rfl rfl ?_
          refine J_bipush (v := nI 48) hC dX5_putNumber_19 (by decide) ?_
          refine J_iload_n hC dX5_putNumber_21 rfl rfl ?_
          refine J_iload_n hC dX5_putNumber_22 rfl rfl ?_
          refine J_idiv_n hC (by omega) (by omega) (by omega) dX5_putNumber_23 ?_
          refine J_bipush (v := nI 10) hC dX5_putNumber_24 (by decide) ?_
          refine J_irem_n hC (by have := Nat.div_le_self n p; omega) (by decide) (by decide) dX5_putNumber_26 ?_
          refine J_iadd_n hC dX5_putNumber_27 ?_
          refine iX5_24 hC hK rfl ⟨by decide, by decide⟩ ⟨by decide, by decide⟩ (Nat.le_of_ble_eq_true rfl) dX5_putNumber_28 ?_
          refine c_X5_putByte hK (by have q := pn_le n g (putB S1 (48 + n / p % 10)) (p / 10); rw [hF] at q; have e9 : (putB S1 (48 + n / p % 10)).2 = S1.2 + 1 := rfl; omega) ?_
          dsimp only [Option.toList_some, Option.toList_none, List.cons_append, List.nil_append]
          refine J_iload_n hC dX5_putNumber_31 rfl rfl ?_
          refine J_bipush (v := nI 10) hC dX5_putNumber_32 (by decide) ?_
          refine J_idiv_n hC (by omega) (by decide) (by decide) dX5_putNumber_34 ?_
          refine J_istore_n hC dX5_putNumber_35 rfl (Nat.le_of_ble_eq_true rfl) rfl ?_
          dsimp only [List.set]
          refine J_goto (tgt := 3) hC dX5_putNumber_36 rfl ?_
          exact ih (putB S1 (48 + n / p % 10)) g (p / 10) (by omega) (by omega) hF
        refine J_iload_n hC dX5_putNumber_8 rfl rfl ?_
        refine J_iload_n hC dX5_putNumber_9 rfl rfl ?_
        refine J_icmp_ge_n hC (by omega) (by omega) (tgt := 18) dX5_putNumber_10 rfl (fun b2 => ?_) (fun b2 => ?_)
        · exact jp (Or.inl b2)
        · refine J_iload_n hC dX5_putNumber_13 rfl rfl ?_
          refine J_iconst (v := nI 1) hC dX5_putNumber_14 (by decide) ?_
          refine J_icmp_ne_n hC (by omega) (by decide) (tgt := 31) dX5_putNumber_15 rfl (fun b3 => ?_) (fun b3 => ?_)
          · rw [pn_n (by omega) (by omega)] at hF
            refine J_iload_n hC dX5_putNumber_31 rfl rfl ?_
            refine J_bipush (v := nI 10) hC dX5_putNumber_32 (by decide) ?_
            refine J_idiv_n hC (by omega) (by decide) (by decide) dX5_putNumber_34 ?_
            refine J_istore_n hC dX5_putNumber_35 rfl (Nat.le_of_ble_eq_true rfl) rfl ?_
            dsimp only [List.set]
            refine J_goto (tgt := 3) hC dX5_putNumber_36 rfl ?_
            exact ih S1 g (p / 10) (by omega) (by omega) hF
          · exact jp (Or.inr (by omega))
  refine J_ldc (v := nI 100000) hC dX5_putNumber_0 q3_39 ?_
  refine J_istore_n hC dX5_putNumber_2 rfl (Nat.le_of_ble_eq_true rfl) rfl ?_
  dsimp only [List.set]
  exact lp 8 S 7 100000 (by omega) (by omega) (pn_num hn S)
set_option maxHeartbeats 4000000 in
set_option maxRecDepth 100000 in
theorem c_X5_write {G : GC} {w : Lay} {σ : Mem} {Q : Lay → Option Value → Mem → Prop} {Qx : Lay → String → Mem → Prop} (hK : LK w) {o hm : Nat} {A : Rw} (hw : LO w o) (hO : OAt σ o A) (hI : RowOK hm A) {S0 : Ob} (hS0 : S0 = (rd σ 12 13, 0)) (hq : Q w none (setC σ (wpF A S0 (nv A 11)))) : MX5_write G w σ [.ref (w.2.1 12 12), .ref (w.2.1 o 17)] Q Qx := by
  refine mt_start (by decide) rfl (Nat.le_of_ble_eq_true rfl) (fun E hC hR hN => ?_)
  show J G E w 0 0 0 [some (.ref (w.2.1 12 12)), some (.ref (w.2.1 o 17)), none] [] σ
  have hNP := r_NP hI
  have ho := hw.1
  have hz0 : S0.2 = 0 := by rw [hS0]
  have lp : ∀ (dd : Nat) (k : Nat), nv A 11 - k < dd → (k ≤ nv A 11) →  J G E w 0 0 7 [some (.ref (w.2.1 12 12)), some (.ref (w.2.1 o 17)), some (.int (nI k))] [] (setC σ (wpF A S0 k)) := by
    intro dd
    induction dd with
    | zero =>
      intro k hdd
      exact absurd hdd (Nat.not_lt_zero _)
    | succ dd ih =>
      intro k hdd hk
      have j25 : (k < nv A 11) →  J G E w 0 0 25 [some (.ref (w.2.1 12 12)), some (.ref (w.2.1 o 17)), some (.int (nI k))] [] (setC σ (if 0 < k then putB (wpF A S0 k) 32 else (wpF A S0 k))) := by
        intro  bk
        have p1 := (r_PK hI bk).2
        have p2 := (r_NK hI).2
        have p3 := r_PS hI bk
        have p4 := r_PD hI bk
        have hz : (if 0 < k then putB (wpF A S0 k) 32 else (wpF A S0 k)).2 ≤ (wpF A S0 k).2 + 1 := by
          split
          · exact Nat.le_refl _
          · exact Nat.le_succ _
        have hz2 : k = 0 → (if 0 < k then putB (wpF A S0 k) 32 else (wpF A S0 k)) = (wpF A S0 k) := fun q => if_neg (by omega)
        have hlen : (wpF A S0 k).2 ≤ S0.2 + 13 * k := wpF_len hI S0 k hk
        have n1 := num_len (n := nv A (214 + 3 * k)) (by omega) (if 0 < k then putB (wpF A S0 k) 32 else (wpF A S0 k))
        have n2 := num_len (n := nv A (214 + 3 * k + 1)) (by omega) (putB (numB (if 0 < k then putB (wpF A S0 k) 32 else (wpF A S0 k)) (nv A (214 + 3 * k))) 58)
        have n3 := num_len (n := nv A (214 + 3 * k + 2)) (by omega) (putB (numB (putB (numB (if 0 < k then putB (wpF A S0 k) 32 else (wpF A S0 k)) (nv A (214 + 3 * k))) 58) (nv A (214 + 3 * k + 1))) 43)
        have m1 : (putB (numB (if 0 < k then putB (wpF A S0 k) 32 else (wpF A S0 k)) (nv A (214 + 3 * k))) 58).2 = (numB (if 0 < k then putB (wpF A S0 k) 32 else (wpF A S0 k)) (nv A (214 + 3 * k))).2 + 1 := rfl
        have m2 : (putB (numB (putB (numB (if 0 < k then putB (wpF A S0 k) 32 else (wpF A S0 k)) (nv A (214 + 3 * k))) 58) (nv A (214 + 3 * k + 1))) 43).2 = (numB (putB (numB (if 0 < k then putB (wpF A S0 k) 32 else (wpF A S0 k)) (nv A (214 + 3 * k))) 58) (nv A (214 + 3 * k + 1))).2 + 1 := rfl
        have n1b := n1.2.2 (by omega)
        have n3b := n3.2.2 (by omega)
        refine J_aload_n hC dX5_write_25 rfl rfl ?_
        refine J_aload_n hC dX5_write_26 rfl rfl ?_
        refine gX5_28 hC hw dX5_write_27 ?_
        refine J_iload_n hC dX5_write_30 rfl rfl ?_
        refine J_iaload hC (hw.2.1 18 (by decide)) (kd_o hw.1) rfl (by omega) (by decide) dX5_write_31 ?_
        refine J_top ((setC_fr (by omega)).trans (o_PK hO hI bk)) ?_
        refine iX5_31 hC hK rfl ⟨by decide, by decide⟩ ⟨by decide, by decide⟩ (Nat.le_of_ble_eq_true rfl) dX5_write_32 ?_
        refine c_X5_putNumber hK (by omega) (by omega) ?_
        dsimp only [Option.toList_some, Option.toList_none, List.cons_append, List.nil_append]
        refine J_aload_n hC dX5_write_35 rfl rfl ?_
        refine J_bipush (v := nI 58) hC dX5_write_36 (by decide) ?_
        refine iX5_24 hC hK rfl ⟨by decide, by decide⟩ ⟨by decide, by decide⟩ (Nat.le_of_ble_eq_true rfl) dX5_write_38 ?_
        refine c_X5_putByte hK (by omega) ?_
        dsimp only [Option.toList_some, Option.toList_none, List.cons_append, List.nil_append]
        refine J_aload_n hC dX5_write_41 rfl rfl ?_
        refine J_aload_n hC dX5_write_42 rfl rfl ?_
        refine gX5_34 hC hw dX5_write_43 ?_
        refine J_iload_n hC dX5_write_46 rfl rfl ?_
        refine J_iaload hC (hw.2.1 19 (by decide)) (kd_o hw.1) rfl (by omega) (by decide) dX5_write_47 ?_
        refine J_top ((setC_fr (by omega)).trans (o_PS hO hI bk)) ?_
        refine iX5_31 hC hK rfl ⟨by decide, by decide⟩ ⟨by decide, by decide⟩ (Nat.le_of_ble_eq_true rfl) dX5_write_48 ?_
        refine c_X5_putNumber hK (by omega) (by omega) ?_
        dsimp only [Option.toList_some, Option.toList_none, List.cons_append, List.nil_append]
        refine J_aload_n hC dX5_write_51 rfl rfl ?_
        refine J_bipush (v := nI 43) hC dX5_write_52 (by decide) ?_
        refine iX5_24 hC hK rfl ⟨by decide, by decide⟩ ⟨by decide, by decide⟩ (Nat.le_of_ble_eq_true rfl) dX5_write_54 ?_
        refine c_X5_putByte hK (by omega) ?_
        dsimp only [Option.toList_some, Option.toList_none, List.cons_append, List.nil_append]
        refine J_aload_n hC dX5_write_57 rfl rfl ?_
        refine J_aload_n hC dX5_write_58 rfl rfl ?_
        refine gX5_37 hC hw dX5_write_59 ?_
        refine J_iload_n hC dX5_write_62 rfl rfl ?_
        refine J_iaload hC (hw.2.1 20 (by decide)) (kd_o hw.1) rfl (by omega) (by decide) dX5_write_63 ?_
        refine J_top ((setC_fr (by omega)).trans (o_PD hO hI bk)) ?_
        refine iX5_31 hC hK rfl ⟨by decide, by decide⟩ ⟨by decide, by decide⟩ (Nat.le_of_ble_eq_true rfl) dX5_write_64 ?_
        refine c_X5_putNumber hK (by omega) (by omega) ?_
        dsimp only [Option.toList_some, Option.toList_none, List.cons_append, List.nil_append]
        refine J_iinc_n (m := 1) hC (by decide) dX5_write_67 rfl (Nat.le_of_ble_eq_true rfl) rfl ?_
        dsimp only [List.set]
        refine J_goto (tgt := 7) hC dX5_write_70 rfl ?_
        exact ih (k + 1) (by omega) (by omega)
      refine J_iload_n hC dX5_write_7 rfl rfl ?_
      refine J_aload_n hC dX5_write_8 rfl rfl ?_
      refine gX5_19 hC hw dX5_write_9 ?_
      refine J_top ((setC_fr (by omega)).trans (o_NP hO hI)) ?_
      refine J_icmp_ge_n hC (by omega) (by omega) (tgt := 73) dX5_write_12 rfl (fun bk => ?_) (fun bk => ?_)
      · refine J_return hC hR dX5_write_73 (by decide) (by decide) ?_
        have e : k = nv A 11 := by omega
        subst e
        exact hq
      · refine J_iload_n hC dX5_write_15 rfl rfl ?_
        refine J_if_le_n hC (by omega) (tgt := 25) dX5_write_16 rfl (fun b0 => ?_) (fun b0 => ?_)
        · refine J_cong (j25 bk) (h4 := by first | rw [if_pos (show 0 < k by omega)] | rw [if_neg (show ¬ 0 < k by omega)])
        · refine J_aload_n hC dX5_write_19 rfl rfl ?_
          refine J_bipush (v := nI 32) hC dX5_write_20 (by decide) ?_
          refine iX5_24 hC hK rfl ⟨by decide, by decide⟩ ⟨by decide, by decide⟩ (Nat.le_of_ble_eq_true rfl) dX5_write_22 ?_
          refine c_X5_putByte hK (by have q := wpF_len hI S0 k hk; omega) ?_
          dsimp only [Option.toList_some, Option.toList_none, List.cons_append, List.nil_append]
          refine J_cong (j25 bk) (h4 := by first | rw [if_pos (show 0 < k by omega)] | rw [if_neg (show ¬ 0 < k by omega)])
  refine J_aload_n hC dX5_write_0 rfl rfl ?_
  refine J_iconst (v := nI 0) hC dX5_write_1 (by decide) ?_
  refine pX5_15 hC hK dX5_write_2 ?_
  refine J_iconst (v := nI 0) hC dX5_write_5 (by decide) ?_
  refine J_istore_n hC dX5_write_6 rfl (Nat.le_of_ble_eq_true rfl) rfl ?_
  dsimp only [List.set]
  exact J_cong (lp (nv A 11 + 1) 0 (by omega) (by omega)) (h4 := by rw [hS0]; show wr σ 12 12 1 (nI 0) = wr (wrC σ 12 13 (rd σ 12 13)) 12 12 1 (nI 0); rw [wrC_id])
set_option maxHeartbeats 4000000 in
set_option maxRecDepth 100000 in
theorem c_X9_writePermits {G : GC} {w : Lay} {σ : Mem} {Q : Lay → Option Value → Mem → Prop} {Qx : Lay → String → Mem → Prop} (hK : LK w) (hL0 : LO w 0) {A : Rw} {hm : Nat} (hO : OAt σ 0 A) (hI : RowOK hm A)  (hq : Q w (some (.int (nI (wpF A (rd σ 12 13, 0) (nv A 11)).2))) (setC σ (wpF A (rd σ 12 13, 0) (nv A 11)))) : MX9_writePermits G w σ [.ref (w.2.1 12 0)] Q Qx := by
  refine mt_start (by decide) rfl (Nat.le_of_ble_eq_true rfl) (fun E hC hR hN => ?_)
  show J G E w 0 0 0 [some (.ref (w.2.1 12 0))] [] σ
  refine J_aload_n hC dX9_writePermits_0 rfl rfl ?_
  refine gX9_55 hC hK dX9_writePermits_1 ?_
  refine J_aload_n hC dX9_writePermits_4 rfl rfl ?_
  refine gX9_13 hC hK dX9_writePermits_5 ?_
  refine gX9_206 hC hL0 dX9_writePermits_8 ?_
  refine iX9_382 hC hK rfl ⟨by decide, by decide⟩ ⟨by decide, by decide⟩ (Nat.le_of_ble_eq_true rfl) dX9_writePermits_11 ?_
  refine c_X5_write hK hL0 hO hI rfl ?_
  dsimp only [Option.toList_some, Option.toList_none, List.cons_append, List.nil_append]
  refine J_aload_n hC dX9_writePermits_14 rfl rfl ?_
  refine gX9_55 hC hK dX9_writePermits_15 ?_
  refine gX9_386 hC hK dX9_writePermits_18 ?_
  refine J_top setC_1 ?_
  refine J_ireturn hC hR dX9_writePermits_21 (by decide) (by decide) ?_
  exact hq
set_option maxHeartbeats 4000000 in
set_option maxRecDepth 100000 in
theorem c_X9_outputByte {G : GC} {w : Lay} {σ : Mem} {Q : Lay → Option Value → Mem → Prop} {Qx : Lay → String → Mem → Prop} (hK : LK w) {s : Int32} {O : Nat} (hL : rd σ 12 12 1 = nI O) (hO : O ≤ 390) (hq : Q w (some (.int (aOB O (rd σ 12 13) s))) σ) : MX9_outputByte G w σ [.ref (w.2.1 12 0), .int s] Q Qx := by
  refine mt_start (by decide) rfl (Nat.le_of_ble_eq_true rfl) (fun E hC hR hN => ?_)
  show J G E w 0 0 0 [some (.ref (w.2.1 12 0)), some (.int s)] [] σ
  have hx0 := toInt_rng s
  refine J_iload_n hC dX9_outputByte_0 rfl rfl ?_
  refine J_if_lt_z hC (Int32_iI s) (by omega) (tgt := 15) dX9_outputByte_1 rfl (fun b1 => ?_) (fun b1 => ?_)
  · refine J_iconst (v := -1) hC dX9_outputByte_15 (by decide) ?_
    refine J_ireturn hC hR dX9_outputByte_16 (by decide) (by decide) ?_
    rw [aOB_f (by rintro ⟨q, e, hq2⟩; subst e; rw [tI_n (by omega)] at b1; omega)] at hq
    exact hq
  · obtain ⟨j, hj1, hj2⟩ := nI_of (x := s) (by rw [Int32.lt_iff_toInt_lt]; show ¬ s.toInt < 0; omega)
    subst hj2
    rw [tI_n hj1] at hx0
    refine J_iload_n hC dX9_outputByte_4 rfl rfl ?_
    refine J_aload_n hC dX9_outputByte_5 rfl rfl ?_
    refine gX9_55 hC hK dX9_outputByte_6 ?_
    refine gX9_386 hC hK dX9_outputByte_9 ?_
    refine J_top hL ?_
    refine J_icmp_lt_z hC (nI_iI _) (nI_iI _) (by omega) (by omega) (tgt := 17) dX9_outputByte_12 rfl (fun b2 => ?_) (fun b2 => ?_)
    · refine J_aload_n hC dX9_outputByte_17 rfl rfl ?_
      refine gX9_55 hC hK dX9_outputByte_18 ?_
      refine gX9_387 hC hK dX9_outputByte_21 ?_
      refine J_iload_n hC dX9_outputByte_24 rfl rfl ?_
      refine J_iaload hC (hK.1 13 (by decide)) rfl rfl (by omega) (by decide) dX9_outputByte_25 ?_
      refine J_ireturn hC hR dX9_outputByte_26 (by decide) (by decide) ?_
      rw [aOB_t (by omega) (by omega)] at hq
      exact hq
    · refine J_iconst (v := -1) hC dX9_outputByte_15 (by decide) ?_
      refine J_ireturn hC hR dX9_outputByte_16 (by decide) (by decide) ?_
      rw [aOB_f (by rintro ⟨q, e, hq2⟩; have q9 := nI_inj e (by omega) (by omega); omega)] at hq
      exact hq
