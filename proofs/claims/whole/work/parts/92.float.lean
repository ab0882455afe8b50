/-! ===== doubles and floats ===== -/
section JD
variable {G : GC} {E : Ctx} {cc : ByteArray} {own : String} {nL : Nat} {R0 : Room} {w : Lay} {kc ks pc : Nat} {ls : List (Option Value)} {st : List Value} {σ : Mem}
theorem J_i2d (C : Cx G E cc own nL R0) {x : Int32} (hd : decode cc pc = .ok (.i2d, 1)) (h : J G E w kc ks (pc + 1) ls (.double (FP.i2d x) :: st) σ) : J G E w kc ks pc ls (.int x :: st) σ := by
  obtain ⟨p, e, R, s, m, args, below, meth, c, Q⟩ := E
  intro H locs la h1 h2 h3 h4
  exact lv_i2d C.1 C.2.1 hd (h H locs la h1 h2 h3 h4)
theorem J_i2f (C : Cx G E cc own nL R0) {x : Int32} (hd : decode cc pc = .ok (.i2f, 1)) (h : J G E w kc ks (pc + 1) ls (.float (FP.i2f x) :: st) σ) : J G E w kc ks pc ls (.int x :: st) σ := by
  obtain ⟨p, e, R, s, m, args, below, meth, c, Q⟩ := E
  intro H locs la h1 h2 h3 h4
  exact lv_i2f C.1 C.2.1 hd (h H locs la h1 h2 h3 h4)
theorem J_ddiv (C : Cx G E cc own nL R0) {x y : UInt64} (hd : decode cc pc = .ok (.ddiv, 1)) (hne : vf_n64 (FP.ddiv x y)) (h : J G E w kc ks (pc + 1) ls (.double (FP.ddiv x y) :: st) σ) : J G E w kc ks pc ls (.double y :: .double x :: st) σ := by
  obtain ⟨p, e, R, s, m, args, below, meth, c, Q⟩ := E
  intro H locs la h1 h2 h3 h4
  exact lv_ddiv C.1 C.2.1 hd hne (h H locs la h1 h2 h3 h4)
theorem J_fdiv (C : Cx G E cc own nL R0) {x y : UInt32} (hd : decode cc pc = .ok (.fdiv, 1)) (hne : vf_n32 (FP.fdiv x y)) (h : J G E w kc ks (pc + 1) ls (.float (FP.fdiv x y) :: st) σ) : J G E w kc ks pc ls (.float y :: .float x :: st) σ := by
  obtain ⟨p, e, R, s, m, args, below, meth, c, Q⟩ := E
  intro H locs la h1 h2 h3 h4
  exact lv_fdiv C.1 C.2.1 hd hne (h H locs la h1 h2 h3 h4)
theorem J_f2d (C : Cx G E cc own nL R0) {x : UInt32} (hd : decode cc pc = .ok (.f2d, 1)) (hne : vf_n64 (FP.f2d x)) (h : J G E w kc ks (pc + 1) ls (.double (FP.f2d x) :: st) σ) : J G E w kc ks pc ls (.float x :: st) σ := by
  obtain ⟨p, e, R, s, m, args, below, meth, c, Q⟩ := E
  intro H locs la h1 h2 h3 h4
  exact lv_f2d C.1 C.2.1 hd hne (h H locs la h1 h2 h3 h4)
theorem J_dconst0 (C : Cx G E cc own nL R0) (hd : decode cc pc = .ok (.dconst 0, 1)) (h : J G E w kc ks (pc + 1) ls (.double FP.dconst0 :: st) σ) : J G E w kc ks pc ls st σ := by
  obtain ⟨p, e, R, s, m, args, below, meth, c, Q⟩ := E
  intro H locs la h1 h2 h3 h4
  exact lv_dconst0 C.1 C.2.1 hd (h H locs la h1 h2 h3 h4)
theorem J_fconst0 (C : Cx G E cc own nL R0) (hd : decode cc pc = .ok (.fconst 0, 1)) (h : J G E w kc ks (pc + 1) ls (.float FP.fconst0 :: st) σ) : J G E w kc ks pc ls st σ := by
  obtain ⟨p, e, R, s, m, args, below, meth, c, Q⟩ := E
  intro H locs la h1 h2 h3 h4
  exact lv_fconst0 C.1 C.2.1 hd (h H locs la h1 h2 h3 h4)
variable {Q : Lay → Option Value → Mem → Prop} {Qx : Lay → String → Mem → Prop} {mc ms : Nat}
theorem J_dreturn (C : Cx G E cc own nL R0) (hR : RetC G E Q Qx mc ms (some .double)) {x : UInt64} (hd : decode cc pc = .ok (.dreturn, 1)) (hc : kc ≤ mc) (hs : ks ≤ ms) (h : Q w (some (.double x)) σ) : J G E w kc ks pc ls [.double x] σ := by
  obtain ⟨p, e, R, s, m, args, below, meth, c, Qf⟩ := E
  obtain ⟨hr, rfl⟩ := hR
  intro H locs la h1 h2 h3 h4
  exact W.widen hc hs (vx_ret (W.dret C.1 C.2.1 hr (fun t ht hW => ⟨⟨w, _, σ, rfl, h, by rw [ht]; exact h2, h3⟩, h4.F ht⟩) h4.2.2 hd C.2.2.2.2.2.2.1))
theorem J_freturn (C : Cx G E cc own nL R0) (hR : RetC G E Q Qx mc ms (some .float)) {x : UInt32} (hd : decode cc pc = .ok (.freturn, 1)) (hc : kc ≤ mc) (hs : ks ≤ ms) (h : Q w (some (.float x)) σ) : J G E w kc ks pc ls [.float x] σ := by
  obtain ⟨p, e, R, s, m, args, below, meth, c, Qf⟩ := E
  obtain ⟨hr, rfl⟩ := hR
  intro H locs la h1 h2 h3 h4
  exact W.widen hc hs (vx_ret (W.fret C.1 C.2.1 hr (fun t ht hW => ⟨⟨w, _, σ, rfl, h, by rw [ht]; exact h2, h3⟩, h4.F ht⟩) h4.2.2 hd C.2.2.2.2.2.2.1))
end JD
/-- no NaN comes of these divisions -/
theorem enc_le {num den : Nat} {e : Int} : FP.Core.encode FP.Core.b64 (FP.Core.roundRatio FP.Core.b64 false num den e) ≤ 9218868437227405312 := by
  unfold FP.Core.roundRatio
  by_cases h0 : num = 0
  · rw [if_pos h0]
    decide
  rw [if_neg h0]
  unfold FP.Core.roundAt
  generalize FP.Core.quantum FP.Core.b64 num den e = q
  generalize FP.Core.nearest (FP.Core.unitsNum num e q) (FP.Core.unitsDen den e q) = c
  have hb : ∀ (c : Nat) (q : Int), c < 2 ^ 53 → FP.Core.encode FP.Core.b64 (FP.Core.bound FP.Core.b64 false c q) ≤ 9218868437227405312 := by
    intro c q hc
    unfold FP.Core.bound
    have hmax : FP.Core.Fmt.qmax FP.Core.b64 = 971 := by decide
    have hmin : FP.Core.Fmt.qmin FP.Core.b64 = -1074 := by decide
    have ht : FP.Core.Fmt.tails FP.Core.b64 = 4503599627370496 := by decide
    have he : FP.Core.Fmt.exps FP.Core.b64 = 2048 := by decide
    rw [hmax]
    by_cases hq : q ≤ 971
    · rw [if_pos hq]
      show (if c < FP.Core.Fmt.tails FP.Core.b64 then FP.Core.assemble FP.Core.b64 false 0 c else FP.Core.assemble FP.Core.b64 false ((q - FP.Core.Fmt.qmin FP.Core.b64).toNat + 1) (c - FP.Core.Fmt.tails FP.Core.b64)) ≤ _
      unfold FP.Core.assemble
      rw [ht, hmin, he]
      show (if c < 4503599627370496 then (0 * 2048 + 0) * 4503599627370496 + c else (0 * 2048 + ((q - (-1074)).toNat + 1)) * 4503599627370496 + (c - 4503599627370496)) ≤ _
      split <;> omega
    · rw [if_neg hq]
      decide
  unfold FP.Core.settle
  by_cases hc : c < 2 ^ FP.Core.b64.p
  · rw [if_pos hc]
    exact hb c q hc
  · rw [if_neg hc]
    exact hb _ _ (by decide)
def finB (x : UInt64) (b : Bool) : Bool := match FP.Core.decode FP.Core.b64 x.toNat with
  | .fin s c _ => !s && (!b || decide (c ≠ 0))
  | _ => false
theorem fin_a : ∀ a, a < 961 → finB (FP.i2d (nI a)) false = true := by decide +kernel
theorem fin_b : ∀ b, b < 17 → 0 < b → finB (FP.i2d (nI b)) true = true := by decide +kernel
theorem ddiv_ok {a b : Nat} (ha : a ≤ 960) (h0 : 0 < b) (hb : b ≤ 16) : vf_n64 (FP.ddiv (FP.i2d (nI a)) (FP.i2d (nI b))) := by
  have h1 := fin_a a (by omega)
  have h2 := fin_b b (by omega) h0
  generalize FP.i2d (nI a) = x at h1 ⊢
  generalize FP.i2d (nI b) = y at h2 ⊢
  have hk : FP.Core.div FP.Core.b64 x.toNat y.toNat ≤ 9218868437227405312 := by
    unfold FP.Core.div
    unfold finB at h1 h2
    cases hx : FP.Core.decode FP.Core.b64 x.toNat with
    | nan => rw [hx] at h1; cases h1
    | inf s => rw [hx] at h1; cases h1
    | fin s c q =>
      cases hy : FP.Core.decode FP.Core.b64 y.toNat with
      | nan => rw [hy] at h2; cases h2
      | inf s => rw [hy] at h2; cases h2
      | fin s2 c2 q2 =>
        rw [hx] at h1
        rw [hy] at h2
        dsimp only at h1 h2
        cases s with
        | true => cases h1
        | false =>
          cases s2 with
          | true => cases h2
          | false =>
            have hc : c2 ≠ 0 := by simpa using h2
            show FP.Core.encode FP.Core.b64 (if c2 = 0 then _ else FP.Core.roundRatio FP.Core.b64 (false != false) c c2 (q - q2)) ≤ _
            rw [if_neg hc]
            exact enc_le
  unfold vf_n64
  rw [UInt64.le_iff_toNat_le, UInt64.toNat_and]
  refine Nat.le_trans Nat.and_le_left ?_
  show (UInt64.ofNat (FP.Core.div FP.Core.b64 x.toNat y.toNat)).toNat ≤ 9218868437227405312
  rw [UInt64.toNat_ofNat', Nat.mod_eq_of_lt (Nat.lt_of_le_of_lt hk (by decide))]
  exact hk
theorem fdiv_ok : ∀ a, a < 17 → ∀ b, b < 17 → 0 < b → vf_n32 (FP.fdiv (FP.i2f (nI a)) (FP.i2f (nI b))) ∧ vf_n64 (FP.f2d (FP.fdiv (FP.i2f (nI a)) (FP.i2f (nI b)))) := by
  unfold vf_n32 vf_n64
  decide +kernel
theorem f2d_0 : vf_n64 (FP.f2d FP.fconst0) := by
  unfold vf_n64
  decide +kernel
noncomputable def mrV (A : Rw) : UInt64 := if stN A 1 = 0 then FP.dconst0 else FP.ddiv (FP.i2d (nI (flyR A))) (FP.i2d (nI (stN A 1)))
noncomputable def tsV (A : Rw) : UInt32 := if nv A 6 = 0 then FP.fconst0 else FP.fdiv (FP.i2f (nI (stN A 2))) (FP.i2f (nI (nv A 6)))
theorem stN_16 {hm : Nat} {A : Rw} (hI : RowOK hm A) (c : Nat) : stN A c ≤ nv A 6 ∧ nv A 6 ≤ 16 := ⟨cnt_le _ _, (r_NK hI).2⟩
theorem flyR_le {hm : Nat} {A : Rw} (hI : RowOK hm A) : flyR A ≤ 960 := by
  have h1 := (r_NK hI).2
  have h2 : flyR A ≤ nv A 6 * 60 := sumN_le (fun i hi => by
    split
    · exact reachW_le hI hi _ _
    · exact Nat.zero_le _)
  omega
theorem tsV_ok {hm : Nat} {A : Rw} (hI : RowOK hm A) : vf_n64 (FP.f2d (tsV A)) := by
  have h1 := stN_16 hI 2
  unfold tsV
  by_cases h : nv A 6 = 0
  · rw [if_pos h]; exact f2d_0
  · rw [if_neg h]; exact (fdiv_ok _ (by omega) _ (by omega) (by omega)).2
set_option maxHeartbeats 4000000 in
set_option maxRecDepth 100000 in
theorem c_X9_meanReach {G : GC} {w : Lay} {σ : Mem} {Q : Lay → Option Value → Mem → Prop} {Qx : Lay → String → Mem → Prop} (hK : LK w) (hL0 : LO w 0) {A : Rw} {hm : Nat} (hO : OAt σ 0 A) (hI : RowOK hm A) (hh : nv A 7 < 2 ^ 31) (hq : Q w (some (.double (mrV A))) σ) : MX9_meanReach G w σ [.ref (w.2.1 12 0)] Q Qx := by
  refine mt_start (by decide) rfl (Nat.le_of_ble_eq_true rfl) (fun E hC hR hN => ?_)
  show J G E w 0 0 0 [some (.ref (w.2.1 12 0)), none] [] σ
  have h16 := stN_16 hI 1
  refine J_aload_n hC dX9_meanReach_0 rfl rfl ?_
  refine gX9_13 hC hK dX9_meanReach_1 ?_
  refine gX9_141 hC hL0 dX9_meanReach_4 ?_
  refine J_iconst (v := nI 1) hC dX9_meanReach_7 (by decide) ?_
  refine iX9_244 hC hL0 rfl ⟨by decide, by decide⟩ ⟨by decide, by decide⟩ (Nat.le_of_ble_eq_true rfl) dX9_meanReach_8 ?_
  refine c_X1_countInState hL0 hO hI (by decide) ?_
  dsimp only [Option.toList_some, Option.toList_none, List.cons_append, List.nil_append]
  refine J_istore_n hC dX9_meanReach_11 rfl (Nat.le_of_ble_eq_true rfl) rfl ?_
  dsimp only [List.set]
  refine J_iload_n hC dX9_meanReach_12 rfl rfl ?_
  refine J_iconst (v := nI 1) hC dX9_meanReach_13 (by decide) ?_
  refine J_icmp_ge_n hC (by omega) (by decide) (tgt := 19) dX9_meanReach_14 rfl (fun b1 => ?_) (fun b1 => ?_)
  · refine J_aload_n hC dX9_meanReach_19 rfl rfl ?_
    refine gX9_13 hC hK dX9_meanReach_20 ?_
    refine iX9_379 hC hL0 rfl ⟨by decide, by decide⟩ ⟨by decide, by decide⟩ (Nat.le_of_ble_eq_true rfl) dX9_meanReach_23 ?_
    refine c_X4_flyingReach hL0 hO hI hh ?_
    dsimp only [Option.toList_some, Option.toList_none, List.cons_append, List.nil_append]
    refine J_i2d hC dX9_meanReach_26 ?_
    refine J_iload_n hC dX9_meanReach_27 rfl rfl ?_
    refine J_i2d hC dX9_meanReach_28 ?_
    refine J_ddiv hC dX9_meanReach_29 (ddiv_ok (flyR_le hI) (by omega) (by omega)) ?_
    refine J_dreturn hC hR dX9_meanReach_30 (by decide) (by decide) ?_
    have e : mrV A = FP.ddiv (FP.i2d (nI (flyR A))) (FP.i2d (nI (stN A 1))) := if_neg (by omega)
    rw [e] at hq
    exact hq
  · refine J_dconst0 hC dX9_meanReach_17 ?_
    refine J_dreturn hC hR dX9_meanReach_18 (by decide) (by decide) ?_
    have e : mrV A = FP.dconst0 := if_pos (by omega)
    rw [e] at hq
    exact hq
set_option maxHeartbeats 4000000 in
set_option maxRecDepth 100000 in
theorem c_X9_tangledShare {G : GC} {w : Lay} {σ : Mem} {Q : Lay → Option Value → Mem → Prop} {Qx : Lay → String → Mem → Prop} (hK : LK w) (hL0 : LO w 0) {A : Rw} {hm : Nat} (hO : OAt σ 0 A) (hI : RowOK hm A)  (hq : Q w (some (.float (tsV A))) σ) : MX9_tangledShare G w σ [.ref (w.2.1 12 0)] Q Qx := by
  refine mt_start (by decide) rfl (Nat.le_of_ble_eq_true rfl) (fun E hC hR hN => ?_)
  show J G E w 0 0 0 [some (.ref (w.2.1 12 0))] [] σ
  have h16 := stN_16 hI 2
  refine J_aload_n hC dX9_tangledShare_0 rfl rfl ?_
  refine gX9_13 hC hK dX9_tangledShare_1 ?_
  refine gX9_141 hC hL0 dX9_tangledShare_4 ?_
  refine gX9_145 hC hL0 dX9_tangledShare_7 ?_
  refine J_top (o_NK hO hI) ?_
  refine J_iconst (v := nI 1) hC dX9_tangledShare_10 (by decide) ?_
  refine J_icmp_ge_n hC (by omega) (by decide) (tgt := 16) dX9_tangledShare_11 rfl (fun b1 => ?_) (fun b1 => ?_)
  · refine J_aload_n hC dX9_tangledShare_16 rfl rfl ?_
    refine gX9_13 hC hK dX9_tangledShare_17 ?_
    refine gX9_141 hC hL0 dX9_tangledShare_20 ?_
    refine J_iconst (v := nI 2) hC dX9_tangledShare_23 (by decide) ?_
    refine iX9_244 hC hL0 rfl ⟨by decide, by decide⟩ ⟨by decide, by decide⟩ (Nat.le_of_ble_eq_true rfl) dX9_tangledShare_24 ?_
    refine c_X1_countInState hL0 hO hI (by decide) ?_
    dsimp only [Option.toList_some, Option.toList_none, List.cons_append, List.nil_append]
    refine J_i2f hC dX9_tangledShare_27 ?_
    refine J_aload_n hC dX9_tangledShare_28 rfl rfl ?_
    refine gX9_13 hC hK dX9_tangledShare_29 ?_
    refine gX9_141 hC hL0 dX9_tangledShare_32 ?_
    refine gX9_145 hC hL0 dX9_tangledShare_35 ?_
    refine J_top (o_NK hO hI) ?_
    refine J_i2f hC dX9_tangledShare_38 ?_
    refine J_fdiv hC dX9_tangledShare_39 (fdiv_ok _ (by omega) _ (by omega) (by omega)).1 ?_
    refine J_freturn hC hR dX9_tangledShare_40 (by decide) (by decide) ?_
    have e : tsV A = FP.fdiv (FP.i2f (nI (stN A 2))) (FP.i2f (nI (nv A 6))) := if_neg (by omega)
    rw [e] at hq
    exact hq
  · refine J_fconst0 hC dX9_tangledShare_14 ?_
    refine J_freturn hC hR dX9_tangledShare_15 (by decide) (by decide) ?_
    have e : tsV A = FP.fconst0 := if_pos (by omega)
    rw [e] at hq
    exact hq
set_option maxHeartbeats 4000000 in
set_option maxRecDepth 100000 in
theorem c_X10_meanReach {G : GC} {w : Lay} {σ : Mem} {Q : Lay → Option Value → Mem → Prop} {Qx : Lay → String → Mem → Prop} {hm : Nat} (hM : LM w) (hI : RowOK hm (rd σ 13 1)) (hb9 : hm ≤ 900000) (hq : Q w (some (.double (mrV (rd σ 13 1)))) (thr σ 0)) : MX10_meanReach G w σ [.ref (w.2.1 13 0)] Q Qx := by
  refine mt_start (by decide) rfl (Nat.le_of_ble_eq_true rfl) (fun E hC hR hN => ?_)
  show J G E w 0 0 0 [some (.ref (w.2.1 13 0)), none, none, none] [] σ
  refine J_aload_n hC dX10_meanReach_0 rfl rfl ?_
  refine J_iconst (v := nI 0) hC dX10_meanReach_1 (by decide) ?_
  refine pX10_62 hC hM dX10_meanReach_2 ?_
  obtain ⟨τ, hτ, hA⟩ : ∃ τ, thr σ 0 = τ ∧ rd σ 13 1 = rd τ 13 1 := ⟨_, rfl, rd_thr1.symm⟩
  rw [hA] at hI hq
  show J G E w 0 0 5 _ _ (thr σ 0)
  rw [hτ]
  refine J_iconst (v := nI 0) hC dX10_meanReach_5 (by decide) ?_
  refine J_istore_n hC dX10_meanReach_6 rfl (Nat.le_of_ble_eq_true rfl) rfl ?_
  dsimp only [List.set]
  refine J_aload_n hC dX10_meanReach_7 rfl rfl ?_
  refine J_iconst (v := nI 1) hC dX10_meanReach_8 (by decide) ?_
  refine iX10_159 hC hM rfl ⟨by decide, by decide⟩ ⟨by decide, by decide⟩ (Nat.le_of_ble_eq_true rfl) dX10_meanReach_9 ?_
  refine c_X10_count hM hI (by decide) ?_
  dsimp only [Option.toList_some, Option.toList_none, List.cons_append, List.nil_append]
  have h16 := stN_16 hI 1
  have hh7 : nv (rd τ 13 1) 7 < 2 ^ 31 := by have := (r_HOUR hI).2; omega
  have hNK := r_NK hI
  refine J_istore_n hC dX10_meanReach_12 rfl (Nat.le_of_ble_eq_true rfl) rfl ?_
  dsimp only [List.set]
  refine J_iconst (v := nI 0) hC dX10_meanReach_13 (by decide) ?_
  refine J_istore_n hC dX10_meanReach_14 rfl (Nat.le_of_ble_eq_true rfl) rfl ?_
  dsimp only [List.set]
  have lp : ∀ (dd : Nat) (k : Nat), nv (rd τ 13 1) 6 - k < dd → (k ≤ nv (rd τ 13 1) 6) →  J G E w 0 0 15 [some (.ref (w.2.1 13 0)), some (.int (nI (sumN (fun k => if (rd τ 13 1) (70 + 9 * k + 6) = nI 1 then reachN (rd τ 13 1) k (nv (rd τ 13 1) 7) else 0) k))), some (.int (nI (stN (rd τ 13 1) 1))), some (.int (nI k))] [] τ := by
    intro dd
    induction dd with
    | zero =>
      intro k hdd
      exact absurd hdd (Nat.not_lt_zero _)
    | succ dd ih =>
      intro k hdd hk
      refine J_iload_n hC dX10_meanReach_15 rfl rfl ?_
      refine J_aload_n hC dX10_meanReach_16 rfl rfl ?_
      refine gX10_7 hC hM dX10_meanReach_17 ?_
      refine J_bipush (v := nI 6) hC dX10_meanReach_20 (by decide) ?_
      refine J_iaload hC (hM.1 1 (by decide)) rfl rfl (by omega) (by decide) dX10_meanReach_22 ?_
      refine J_top (r_NK hI).1 ?_
      refine J_icmp_ge_n hC (by omega) (by omega) (tgt := 58) dX10_meanReach_23 rfl (fun bk => ?_) (fun bk => ?_)
      · refine J_iload_n hC dX10_meanReach_58 rfl rfl ?_
        refine J_if_ne_n hC (by omega) (tgt := 66) dX10_meanReach_59 rfl (fun b2 => ?_) (fun b2 => ?_)
        · have e3 : k = nv (rd τ 13 1) 6 := by omega
          have e4 : sumN (fun k => if (rd τ 13 1) (70 + 9 * k + 6) = nI 1 then reachN (rd τ 13 1) k (nv (rd τ 13 1) 7) else 0) k = flyR (rd τ 13 1) := by rw [e3]; rfl
          rw [e4]
          refine J_iload_n hC dX10_meanReach_66 rfl rfl ?_
          refine J_i2d hC dX10_meanReach_67 ?_
          refine J_iload_n hC dX10_meanReach_68 rfl rfl ?_
          refine J_i2d hC dX10_meanReach_69 ?_
          refine J_ddiv hC dX10_meanReach_70 (ddiv_ok (flyR_le hI) (by omega) (by omega)) ?_
          refine J_dreturn hC hR dX10_meanReach_71 (by decide) (by decide) ?_
          have e2 : k = nv (rd τ 13 1) 6 := by omega
          subst e2
          have e : mrV (rd τ 13 1) = FP.ddiv (FP.i2d (nI (flyR (rd τ 13 1)))) (FP.i2d (nI (stN (rd τ 13 1) 1))) := if_neg b2
          rw [e, hτ] at hq
          exact hq
        · refine J_dconst0 hC dX10_meanReach_62 ?_
          refine J_goto (tgt := 71) hC dX10_meanReach_63 rfl ?_
          refine J_dreturn hC hR dX10_meanReach_71 (by decide) (by decide) ?_
          have e : mrV (rd τ 13 1) = FP.dconst0 := if_pos b2
          rw [e, hτ] at hq
          exact hq
      · refine J_aload_n hC dX10_meanReach_26 rfl rfl ?_
        refine J_iload_n hC dX10_meanReach_27 rfl rfl ?_
        refine J_bipush (v := nI 6) hC dX10_meanReach_28 (by decide) ?_
        refine iX10_79 hC hM rfl ⟨by decide, by decide⟩ ⟨by decide, by decide⟩ (Nat.le_of_ble_eq_true rfl) dX10_meanReach_30 ?_
        refine c_X10_of hM (by omega) ?_
        dsimp only [Option.toList_some, Option.toList_none, List.cons_append, List.nil_append]
        refine J_iconst (v := nI 1) hC dX10_meanReach_33 (by decide) ?_
        refine J_icmp_ne hC (tgt := 52) dX10_meanReach_34 rfl (fun b1 => ?_) (fun b1 => ?_)
        · rw [show sumN (fun k => if (rd τ 13 1) (70 + 9 * k + 6) = nI 1 then reachN (rd τ 13 1) k (nv (rd τ 13 1) 7) else 0) k = sumN (fun k => if (rd τ 13 1) (70 + 9 * k + 6) = nI 1 then reachN (rd τ 13 1) k (nv (rd τ 13 1) 7) else 0) (k + 1) from by rw [sumN_s, if_neg b1]; rfl]
          refine J_iinc_n (m := 1) hC (by decide) dX10_meanReach_52 rfl (Nat.le_of_ble_eq_true rfl) rfl ?_
          dsimp only [List.set]
          refine J_goto (tgt := 15) hC dX10_meanReach_55 rfl ?_
          exact ih (k + 1) (by omega) (by omega)
        · refine J_iload_n hC dX10_meanReach_37 rfl rfl ?_
          refine J_aload_n hC dX10_meanReach_38 rfl rfl ?_
          refine J_iload_n hC dX10_meanReach_39 rfl rfl ?_
          refine J_aload_n hC dX10_meanReach_40 rfl rfl ?_
          refine gX10_7 hC hM dX10_meanReach_41 ?_
          refine J_bipush (v := nI 7) hC dX10_meanReach_44 (by decide) ?_
          refine J_iaload hC (hM.1 1 (by decide)) rfl rfl (by omega) (by decide) dX10_meanReach_46 ?_
          refine J_top (r_HOUR hI).1 ?_
          refine iX10_106 hC hM rfl ⟨by decide, by decide⟩ ⟨by decide, by decide⟩ (Nat.le_of_ble_eq_true rfl) dX10_meanReach_47 ?_
          refine c_X10_reachOf hM hI (by omega) (by omega) ?_
          dsimp only [Option.toList_some, Option.toList_none, List.cons_append, List.nil_append]
          refine J_iadd_n hC dX10_meanReach_50 ?_
          rw [show sumN (fun k => if (rd τ 13 1) (70 + 9 * k + 6) = nI 1 then reachN (rd τ 13 1) k (nv (rd τ 13 1) 7) else 0) k + reachN (rd τ 13 1) k (nv (rd τ 13 1) 7) = sumN (fun k => if (rd τ 13 1) (70 + 9 * k + 6) = nI 1 then reachN (rd τ 13 1) k (nv (rd τ 13 1) 7) else 0) (k + 1) from by rw [sumN_s, if_pos b1]]
          refine J_istore_n hC dX10_meanReach_51 rfl (Nat.le_of_ble_eq_true rfl) rfl ?_
          dsimp only [List.set]
          refine J_iinc_n (m := 1) hC (by decide) dX10_meanReach_52 rfl (Nat.le_of_ble_eq_true rfl) rfl ?_
          dsimp only [List.set]
          refine J_goto (tgt := 15) hC dX10_meanReach_55 rfl ?_
          exact ih (k + 1) (by omega) (by omega)
  exact lp (nv (rd τ 13 1) 6 + 1) 0 (by omega) (by omega)
set_option maxHeartbeats 4000000 in
set_option maxRecDepth 100000 in
theorem c_X10_tangledShare {G : GC} {w : Lay} {σ : Mem} {Q : Lay → Option Value → Mem → Prop} {Qx : Lay → String → Mem → Prop} {hm : Nat} (hM : LM w) (hI : RowOK hm (rd σ 13 1))  (hq : Q w (some (.float (tsV (rd σ 13 1)))) (thr σ 0)) : MX10_tangledShare G w σ [.ref (w.2.1 13 0)] Q Qx := by
  refine mt_start (by decide) rfl (Nat.le_of_ble_eq_true rfl) (fun E hC hR hN => ?_)
  show J G E w 0 0 0 [some (.ref (w.2.1 13 0))] [] σ
  refine J_aload_n hC dX10_tangledShare_0 rfl rfl ?_
  refine J_iconst (v := nI 0) hC dX10_tangledShare_1 (by decide) ?_
  refine pX10_62 hC hM dX10_tangledShare_2 ?_
  obtain ⟨τ, hτ, hA⟩ : ∃ τ, thr σ 0 = τ ∧ rd σ 13 1 = rd τ 13 1 := ⟨_, rfl, rd_thr1.symm⟩
  rw [hA] at hI hq
  show J G E w 0 0 5 _ _ (thr σ 0)
  rw [hτ]
  have h16 := stN_16 hI 2
  refine J_aload_n hC dX10_tangledShare_5 rfl rfl ?_
  refine gX10_7 hC hM dX10_tangledShare_6 ?_
  refine J_bipush (v := nI 6) hC dX10_tangledShare_9 (by decide) ?_
  refine J_iaload hC (hM.1 1 (by decide)) rfl rfl (by omega) (by decide) dX10_tangledShare_11 ?_
  refine J_top (r_NK hI).1 ?_
  refine J_if_ne_n hC (by omega) (tgt := 19) dX10_tangledShare_12 rfl (fun b1 => ?_) (fun b1 => ?_)
  · refine J_aload_n hC dX10_tangledShare_19 rfl rfl ?_
    refine J_iconst (v := nI 2) hC dX10_tangledShare_20 (by decide) ?_
    refine iX10_159 hC hM rfl ⟨by decide, by decide⟩ ⟨by decide, by decide⟩ (Nat.le_of_ble_eq_true rfl) dX10_tangledShare_21 ?_
    refine c_X10_count hM hI (by decide) ?_
    dsimp only [Option.toList_some, Option.toList_none, List.cons_append, List.nil_append]
    refine J_i2f hC dX10_tangledShare_24 ?_
    refine J_aload_n hC dX10_tangledShare_25 rfl rfl ?_
    refine gX10_7 hC hM dX10_tangledShare_26 ?_
    refine J_bipush (v := nI 6) hC dX10_tangledShare_29 (by decide) ?_
    refine J_iaload hC (hM.1 1 (by decide)) rfl rfl (by omega) (by decide) dX10_tangledShare_31 ?_
    refine J_top (r_NK hI).1 ?_
    refine J_i2f hC dX10_tangledShare_32 ?_
    refine J_fdiv hC dX10_tangledShare_33 (fdiv_ok _ (by omega) _ (by omega) (by omega)).1 ?_
    refine J_freturn hC hR dX10_tangledShare_34 (by decide) (by decide) ?_
    have e : tsV (rd τ 13 1) = FP.fdiv (FP.i2f (nI (stN (rd τ 13 1) 2))) (FP.i2f (nI (nv (rd τ 13 1) 6))) := if_neg b1
    rw [e, hτ] at hq
    exact hq
  · refine J_fconst0 hC dX10_tangledShare_15 ?_
    refine J_goto (tgt := 34) hC dX10_tangledShare_16 rfl ?_
    refine J_freturn hC hR dX10_tangledShare_34 (by decide) (by decide) ?_
    have e : tsV (rd τ 13 1) = FP.fconst0 := if_pos b1
    rw [e, hτ] at hq
    exact hq
