/-! ===== p65: the script, as pick reads it ===== -/
section JS5
variable {G : GC} {E : Ctx} {cc : ByteArray} {own : String} {nL : Nat} {R0 : Room} {w : Lay} {kc ks pc : Nat} {ls : List (Option Value)} {st : List Value} {σ : Mem}
theorem scr_len (C : Cx G E cc own nL R0) : G.2.2.2.2 3 ≤ 260 := by
  obtain ⟨p, e, R, s, m, args, below, meth, cm, Q⟩ := E
  exact C.2.2.2.2.2.2.2.2.2.2.2.2.2.2.2.2.2.2.2.2.2
theorem J_scrlen (C : Cx G E cc own nL R0) (hd : decode cc pc = .ok (.arraylength, 1)) (h : J G E w kc ks (pc + 1) ls (.int (nI (G.2.2.2.2 3)) :: st) σ) : J G E w kc ks pc ls (.ref (G.2.2.2.2 2) :: st) σ := by
  obtain ⟨p, e, R, s, m, args, below, meth, cm, Q⟩ := E
  intro H locs la h1 h2 h3 h4
  exact va_tlen C.1 C.2.1 C.2.2.2.2.2.2.2.2.2.2.2.2.2.2.2.2.2.1 h4 (v := nI (G.2.2.2.2 3)) rfl hd (h H locs la h1 h2 h3 h4)
theorem J_scr (C : Cx G E cc own nL R0) {k : Nat} {i : Int32} (hi : i = nI k) (hk : k < G.2.2.2.2 3) (hd : decode cc pc = .ok (.iaload, 1)) (h : J G E w kc ks (pc + 1) ls (.int (scr G k) :: st) σ) : J G E w kc ks pc ls (.int i :: .ref (G.2.2.2.2 2) :: st) σ := by
  have hL := scr_len C
  obtain ⟨p, e, R, s, m, args, below, meth, cm, Q⟩ := E
  intro H locs la h1 h2 h3 h4
  subst hi
  exact va_ti C.1 C.2.1 C.2.2.2.2.2.2.2.2.2.2.2.2.2.2.2.2.2.1 h4 (vp_in_nI hk (by omega)) (v := .int (scr G k)) (by rw [nI_clamp (by omega)]) hd (h H locs la h1 h2 h3 h4)
end JS5
theorem and4095 (x : Int32) : ∃ c, c < 4096 ∧ x &&& nI 4095 = nI c := by
  have h1 : (x &&& nI 4095).toBitVec.toNat = x.toBitVec.toNat % 2 ^ 12 := by
    rw [Int32.toBitVec_and, BitVec.toNat_and, show (nI 4095).toBitVec.toNat = 2 ^ 12 - 1 from by decide, Nat.and_two_pow_sub_one_eq_mod]
  refine ⟨x.toBitVec.toNat % 4096, by omega, ?_⟩
  have e : (nI (x.toBitVec.toNat % 4096)).toBitVec.toNat = x.toBitVec.toNat % 4096 := by
    show (BitVec.ofNat 32 _).toNat = _
    rw [BitVec.toNat_ofNat]
    exact Nat.mod_eq_of_lt (by omega)
  apply Int32.toBitVec_inj.mp
  apply BitVec.eq_of_toNat_eq
  rw [e]
  exact h1
set_option maxHeartbeats 4000000 in
set_option maxRecDepth 100000 in
theorem c_L_pick {G : GC} {w : Lay} {σ : Mem} {Q : Lay → Option Value → Mem → Prop} {Qx : Lay → String → Mem → Prop} {k n : Nat} (hk : k < 2 ^ 30) (hn : 1 ≤ n ∧ n < 2 ^ 30) (hq : ∀ v, v < n → Q w (some (.int (nI v))) σ) : ML_pick G w σ [.ref (G.2.2.2.2 2), .int (nI k), .int (nI n)] Q Qx := by
  refine mt_start (by decide) rfl (Nat.le_of_ble_eq_true rfl) (fun E hC hR hN => ?_)
  show J G E w 0 0 0 [some (.ref (G.2.2.2.2 2)), some (.int (nI k)), some (.int (nI n))] [] σ
  have hL := scr_len hC
  have last : ∀ v, v < n → J G E w 0 0 33 [some (.ref (G.2.2.2.2 2)), some (.int (nI k)), some (.int (nI n))] [.int (nI v)] σ := fun v hv => J_ireturn hC hR dL_pick_33 (by decide) (by decide) (hq v hv)
  refine J_aload_n hC dL_pick_0 rfl rfl ?_
  refine J_scrlen hC dL_pick_1 ?_
  refine J_if_ne_n hC (by omega) (tgt := 11) dL_pick_2 rfl (fun h0 => ?_) (fun h0 => ?_)
  · refine J_aload_n hC dL_pick_11 rfl rfl ?_
    refine J_iload_n hC dL_pick_12 rfl rfl ?_
    refine J_aload_n hC dL_pick_13 rfl rfl ?_
    refine J_scrlen hC dL_pick_14 ?_
    refine J_irem_n hC (by omega) (by omega) (by omega) dL_pick_15 ?_
    refine J_scr hC rfl (Nat.mod_lt _ (by omega)) dL_pick_16 ?_
    refine J_iload_n hC dL_pick_17 rfl rfl ?_
    refine J_aload_n hC dL_pick_18 rfl rfl ?_
    refine J_scrlen hC dL_pick_19 ?_
    refine J_idiv_n hC (by omega) (by omega) (by omega) dL_pick_20 ?_
    refine J_bipush (v := nI 9) hC dL_pick_21 (by decide) ?_
    refine J_irem_n hC (Nat.lt_of_le_of_lt (Nat.div_le_self _ _) (by omega)) (by omega) (by omega) dL_pick_23 ?_
    refine J_iconst (v := nI 3) hC dL_pick_24 (by decide) ?_
    refine J_imul_n hC dL_pick_25 ?_
    refine J_ishr hC dL_pick_26 ?_
    refine J_sipush (v := nI 4095) hC dL_pick_27 (by decide) ?_
    refine J_iand hC dL_pick_30 ?_
    obtain ⟨c, hc, ec⟩ := and4095 (scr G (k % G.2.2.2.2 3) >>> (nI (k / G.2.2.2.2 3 % 9 * 3) &&& 31))
    rw [ec]
    refine J_iload_n hC dL_pick_31 rfl rfl ?_
    refine J_irem_n hC (by omega) (by omega) (by omega) dL_pick_32 ?_
    exact last _ (Nat.mod_lt _ (by omega))
  · refine J_iload_n hC dL_pick_5 rfl rfl ?_
    refine J_iload_n hC dL_pick_6 rfl rfl ?_
    refine J_irem_n hC (by omega) (by omega) (by omega) dL_pick_7 ?_
    refine J_goto (tgt := 33) hC dL_pick_8 rfl ?_
    exact last _ (Nat.mod_lt _ (by omega))
