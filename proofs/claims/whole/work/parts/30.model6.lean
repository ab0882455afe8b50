theorem k_isZ {G : GC} {w : Lay} {σ : Mem} {Q : Lay → Option Value → Mem → Prop} {Qx : Lay → String → Mem → Prop} {hm : Nat} (hM : LM w) (hI : RowOK hm (rd σ 13 1)) {x : Int32} (ht : okZ (rd σ 13 1) x → Q w (some (.int (nI 1))) σ) (hf : ¬ okZ (rd σ 13 1) x → Q w (some (.int (nI 0))) σ) : MX10_isZ G w σ [.ref (w.2.1 13 0), .int x] Q Qx :=
  c_X10_isZ hM hI (fun k h1 h2 => ht ⟨k, h1, h2⟩) (fun h => hf (fun ⟨k, h1, h2⟩ => h k h1 h2))
theorem k_isC {G : GC} {w : Lay} {σ : Mem} {Q : Lay → Option Value → Mem → Prop} {Qx : Lay → String → Mem → Prop} {hm : Nat} (hM : LM w) (hI : RowOK hm (rd σ 13 1)) {x : Int32} (ht : okC (rd σ 13 1) x → Q w (some (.int (nI 1))) σ) (hf : ¬ okC (rd σ 13 1) x → Q w (some (.int (nI 0))) σ) : MX10_isC G w σ [.ref (w.2.1 13 0), .int x] Q Qx :=
  c_X10_isC hM hI (fun k h1 h2 => ht ⟨k, h1, h2⟩) (fun h => hf (fun ⟨k, h1, h2⟩ => h k h1 h2))
theorem k_isK {G : GC} {w : Lay} {σ : Mem} {Q : Lay → Option Value → Mem → Prop} {Qx : Lay → String → Mem → Prop} {hm : Nat} (hM : LM w) (hI : RowOK hm (rd σ 13 1)) {x : Int32} (ht : okK (rd σ 13 1) x → Q w (some (.int (nI 1))) σ) (hf : ¬ okK (rd σ 13 1) x → Q w (some (.int (nI 0))) σ) : MX10_isK G w σ [.ref (w.2.1 13 0), .int x] Q Qx :=
  c_X10_isK hM hI (fun k h1 h2 => ht ⟨k, h1, h2⟩) (fun h => hf (fun ⟨k, h1, h2⟩ => h k h1 h2))
theorem k_isP {G : GC} {w : Lay} {σ : Mem} {Q : Lay → Option Value → Mem → Prop} {Qx : Lay → String → Mem → Prop} {hm : Nat} (hM : LM w) (hI : RowOK hm (rd σ 13 1)) {x : Int32} (ht : okP (rd σ 13 1) x → Q w (some (.int (nI 1))) σ) (hf : ¬ okP (rd σ 13 1) x → Q w (some (.int (nI 0))) σ) : MX10_isP G w σ [.ref (w.2.1 13 0), .int x] Q Qx :=
  c_X10_isP hM hI (fun k h1 h2 => ht ⟨k, h1, h2⟩) (fun h => hf (fun ⟨k, h1, h2⟩ => h k h1 h2))
theorem k_in {G : GC} {w : Lay} {σ : Mem} {Q : Lay → Option Value → Mem → Prop} {Qx : Lay → String → Mem → Prop} {x : Int32} {a b : Nat} (hb : b < 2 ^ 31) (hab : a < 2 ^ 31) (ht : okN a b x → Q w (some (.int (nI 1))) σ) (hf : ¬ okN a b x → Q w (some (.int (nI 0))) σ) : MX10_in G w σ [.int x, .int (nI a), .int (nI b)] Q Qx :=
  c_X10_in (v := x.toInt) (a := a) (b := b) rfl (tI_n hab) (tI_n hb) (fun h => ht ((okN_iff hb).mpr h)) (fun h => hf (fun q => h ((okN_iff hb).mp q)))
theorem k_isHour {G : GC} {w : Lay} {σ : Mem} {Q : Lay → Option Value → Mem → Prop} {Qx : Lay → String → Mem → Prop} {x : Int32} (ht : okN 0 999999 x → Q w (some (.int (nI 1))) σ) (hf : ¬ okN 0 999999 x → Q w (some (.int (nI 0))) σ) : MX10_isHour G w σ [.int x] Q Qx :=
  c_X10_isHour (fun h => ht ((okN_iff (by decide)).mpr h)) (fun h => hf (fun q => h ((okN_iff (by decide)).mp q)))
theorem wr_id {σ : Mem} {o c j : Nat} {v : Int32} (h : rd σ o c j = v) : wr σ o c j v = σ := by
  refine mem_ext (fun a b d => ?_) (fun _ => rfl)
  rw [rd_wr]
  split
  · next q =>
    rw [q.1, q.2.1, q.2.2]
    exact h.symm
  · rfl
set_option maxHeartbeats 4000000 in
set_option maxRecDepth 100000 in
theorem c_X10_fail {G : GC} {w : Lay} {σ : Mem} {Q : Lay → Option Value → Mem → Prop} {Qx : Lay → String → Mem → Prop} (hM : LM w) {c : Nat} (hq : Q w (some (.int (nI 0))) (thr σ c))  : MX10_fail G w σ [.ref (w.2.1 13 0), .int (nI c)] Q Qx := by
  refine mt_start (by decide) rfl (Nat.le_of_ble_eq_true rfl) (fun E hC hR hN => ?_)
  show J G E w 0 0 0 [some (.ref (w.2.1 13 0)), some (.int (nI c))] [] σ
  refine J_aload_n hC dX10_fail_0 rfl rfl ?_
  refine J_iload_n hC dX10_fail_1 rfl rfl ?_
  refine pX10_62 hC hM dX10_fail_2 ?_
  refine J_iconst (v := nI 0) hC dX10_fail_5 (by decide) ?_
  refine J_ireturn hC hR dX10_fail_6 (by decide) (by decide) ?_
  exact hq
set_option maxHeartbeats 4000000 in
set_option maxRecDepth 100000 in
theorem c_X10_not {G : GC} {w : Lay} {σ : Mem} {Q : Lay → Option Value → Mem → Prop} {Qx : Lay → String → Mem → Prop} (hM : LM w) {c : Nat} (hq : Q w (some (.int (nI 0))) (thr σ c))  : MX10_not G w σ [.ref (w.2.1 13 0), .int (nI c)] Q Qx := by
  refine mt_start (by decide) rfl (Nat.le_of_ble_eq_true rfl) (fun E hC hR hN => ?_)
  show J G E w 0 0 0 [some (.ref (w.2.1 13 0)), some (.int (nI c))] [] σ
  refine J_aload_n hC dX10_not_0 rfl rfl ?_
  refine J_iload_n hC dX10_not_1 rfl rfl ?_
  refine pX10_62 hC hM dX10_not_2 ?_
  refine J_iconst (v := nI 0) hC dX10_not_5 (by decide) ?_
  refine J_zreturn hC hR dX10_not_6 (by decide) (by decide) (by decide) ?_
  exact hq
set_option maxHeartbeats 4000000 in
set_option maxRecDepth 100000 in
theorem c_X10_thrown {G : GC} {w : Lay} {σ : Mem} {Q : Lay → Option Value → Mem → Prop} {Qx : Lay → String → Mem → Prop} (hM : LM w) (hq : Q w (some (.int (rd σ 13 0 9))) σ) : MX10_thrown G w σ [.ref (w.2.1 13 0)] Q Qx := by
  refine mt_start (by decide) rfl (Nat.le_of_ble_eq_true rfl) (fun E hC hR hN => ?_)
  show J G E w 0 0 0 [some (.ref (w.2.1 13 0))] [] σ
  refine J_aload_n hC dX10_thrown_0 rfl rfl ?_
  refine gX10_62 hC hM dX10_thrown_1 ?_
  refine J_ireturn hC hR dX10_thrown_4 (by decide) (by decide) ?_
  exact hq
set_option maxHeartbeats 4000000 in
set_option maxRecDepth 100000 in
theorem c_X10_put {G : GC} {w : Lay} {σ : Mem} {Q : Lay → Option Value → Mem → Prop} {Qx : Lay → String → Mem → Prop} (hM : LM w) {r : Nat} (hr : r < 12) (hq : Q w none (putP σ r 304)) : MX10_put G w σ [.ref (w.2.1 13 0), .int (nI r)] Q Qx := by
  refine mt_start (by decide) rfl (Nat.le_of_ble_eq_true rfl) (fun E hC hR hN => ?_)
  show J G E w 0 0 0 [some (.ref (w.2.1 13 0)), some (.int (nI r)), none] [] σ
  have lp : ∀ (dd : Nat) (k : Nat), 304 - k < dd → (k ≤ 304) →  J G E w 0 0 2 [some (.ref (w.2.1 13 0)), some (.int (nI r)), some (.int (nI k))] [] (putP σ r k) := by
    intro dd
    induction dd with
    | zero =>
      intro k hdd
      exact absurd hdd (Nat.not_lt_zero _)
    | succ dd ih =>
      intro k hdd hk
      refine J_iload_n hC dX10_put_2 rfl rfl ?_
      refine J_sipush (v := nI 304) hC dX10_put_3 (by decide) ?_
      refine J_icmp_ge_n hC (by omega) (by decide) (tgt := 33) dX10_put_6 rfl (fun hb0 => ?_) (fun hb0 => ?_)
      · refine J_return hC hR dX10_put_33 (by decide) (by decide) ?_
        have e : k = 304 := by omega
        subst e
        exact hq
      · refine J_aload_n hC dX10_put_9 rfl rfl ?_
        refine gX10_13 hC hM dX10_put_10 ?_
        refine J_iload_n hC dX10_put_13 rfl rfl ?_
        refine J_sipush (v := nI 304) hC dX10_put_14 (by decide) ?_
        refine J_imul_n hC dX10_put_17 ?_
        refine J_iload_n hC dX10_put_18 rfl rfl ?_
        refine J_iadd_n hC dX10_put_19 ?_
        refine J_aload_n hC dX10_put_20 rfl rfl ?_
        refine gX10_7 hC hM dX10_put_21 ?_
        refine J_iload_n hC dX10_put_24 rfl rfl ?_
        refine J_iaload hC (hM.1 1 (by decide)) rfl rfl (by omega) (by decide) dX10_put_25 ?_
        refine J_iastore hC (hM.1 2 (by decide)) rfl rfl (by omega) (by decide) dX10_put_26 ?_
        rw [putP_s]
        refine J_iinc_n (m := 1) hC (by decide) dX10_put_27 rfl (Nat.le_of_ble_eq_true rfl) rfl ?_
        dsimp only [List.set]
        refine J_goto (tgt := 2) hC dX10_put_30 rfl ?_
        exact ih (k + 1) (by omega) (by omega)
  refine J_iconst (v := nI 0) hC dX10_put_0 (by decide) ?_
  refine J_istore_n hC dX10_put_1 rfl (Nat.le_of_ble_eq_true rfl) rfl ?_
  dsimp only [List.set]
  exact J_cong (lp 305 0 (by omega) (by omega)) (h4 := putP_0.symm)
set_option maxHeartbeats 4000000 in
set_option maxRecDepth 100000 in
theorem c_X10_take {G : GC} {w : Lay} {σ : Mem} {Q : Lay → Option Value → Mem → Prop} {Qx : Lay → String → Mem → Prop} (hM : LM w) {r : Nat} (hr : r < 12) (hq : Q w none (takeP σ r 304)) : MX10_take G w σ [.ref (w.2.1 13 0), .int (nI r)] Q Qx := by
  refine mt_start (by decide) rfl (Nat.le_of_ble_eq_true rfl) (fun E hC hR hN => ?_)
  show J G E w 0 0 0 [some (.ref (w.2.1 13 0)), some (.int (nI r)), none] [] σ
  have lp : ∀ (dd : Nat) (k : Nat), 304 - k < dd → (k ≤ 304) →  J G E w 0 0 2 [some (.ref (w.2.1 13 0)), some (.int (nI r)), some (.int (nI k))] [] (takeP σ r k) := by
    intro dd
    induction dd with
    | zero =>
      intro k hdd
      exact absurd hdd (Nat.not_lt_zero _)
    | succ dd ih =>
      intro k hdd hk
      refine J_iload_n hC dX10_take_2 rfl rfl ?_
      refine J_sipush (v := nI 304) hC dX10_take_3 (by decide) ?_
      refine J_icmp_ge_n hC (by omega) (by decide) (tgt := 33) dX10_take_6 rfl (fun hb0 => ?_) (fun hb0 => ?_)
      · refine J_return hC hR dX10_take_33 (by decide) (by decide) ?_
        have e : k = 304 := by omega
        subst e
        exact hq
      · refine J_aload_n hC dX10_take_9 rfl rfl ?_
        refine gX10_7 hC hM dX10_take_10 ?_
        refine J_iload_n hC dX10_take_13 rfl rfl ?_
        refine J_aload_n hC dX10_take_14 rfl rfl ?_
        refine gX10_13 hC hM dX10_take_15 ?_
        refine J_iload_n hC dX10_take_18 rfl rfl ?_
        refine J_sipush (v := nI 304) hC dX10_take_19 (by decide) ?_
        refine J_imul_n hC dX10_take_22 ?_
        refine J_iload_n hC dX10_take_23 rfl rfl ?_
        refine J_iadd_n hC dX10_take_24 ?_
        refine J_iaload hC (hM.1 2 (by decide)) rfl rfl (by omega) (by decide) dX10_take_25 ?_
        refine J_iastore hC (hM.1 1 (by decide)) rfl rfl (by omega) (by decide) dX10_take_26 ?_
        rw [takeP_s]
        refine J_iinc_n (m := 1) hC (by decide) dX10_take_27 rfl (Nat.le_of_ble_eq_true rfl) rfl ?_
        dsimp only [List.set]
        refine J_goto (tgt := 2) hC dX10_take_30 rfl ?_
        exact ih (k + 1) (by omega) (by omega)
  refine J_iconst (v := nI 0) hC dX10_take_0 (by decide) ?_
  refine J_istore_n hC dX10_take_1 rfl (Nat.le_of_ble_eq_true rfl) rfl ?_
  dsimp only [List.set]
  exact J_cong (lp 305 0 (by omega) (by omega)) (h4 := takeP_0.symm)
set_option maxHeartbeats 4000000 in
set_option maxRecDepth 100000 in
theorem c_X10_clear {G : GC} {w : Lay} {σ : Mem} {Q : Lay → Option Value → Mem → Prop} {Qx : Lay → String → Mem → Prop} (hM : LM w) (hq : Q w none (clrP σ 304)) : MX10_clear G w σ [.ref (w.2.1 13 0)] Q Qx := by
  refine mt_start (by decide) rfl (Nat.le_of_ble_eq_true rfl) (fun E hC hR hN => ?_)
  show J G E w 0 0 0 [some (.ref (w.2.1 13 0)), none] [] σ
  have lp : ∀ (dd : Nat) (k : Nat), 304 - k < dd → (k ≤ 304) →  J G E w 0 0 2 [some (.ref (w.2.1 13 0)), some (.int (nI k))] [] (clrP σ k) := by
    intro dd
    induction dd with
    | zero =>
      intro k hdd
      exact absurd hdd (Nat.not_lt_zero _)
    | succ dd ih =>
      intro k hdd hk
      refine J_iload_n hC dX10_clear_2 rfl rfl ?_
      refine J_sipush (v := nI 304) hC dX10_clear_3 (by decide) ?_
      refine J_icmp_ge_n hC (by omega) (by decide) (tgt := 22) dX10_clear_6 rfl (fun hb0 => ?_) (fun hb0 => ?_)
      · refine J_return hC hR dX10_clear_22 (by decide) (by decide) ?_
        have e : k = 304 := by omega
        subst e
        exact hq
      · refine J_aload_n hC dX10_clear_9 rfl rfl ?_
        refine gX10_7 hC hM dX10_clear_10 ?_
        refine J_iload_n hC dX10_clear_13 rfl rfl ?_
        refine J_iconst (v := nI 0) hC dX10_clear_14 (by decide) ?_
        refine J_iastore hC (hM.1 1 (by decide)) rfl rfl (by omega) (by decide) dX10_clear_15 ?_
        rw [clrP_s]
        refine J_iinc_n (m := 1) hC (by decide) dX10_clear_16 rfl (Nat.le_of_ble_eq_true rfl) rfl ?_
        dsimp only [List.set]
        refine J_goto (tgt := 2) hC dX10_clear_19 rfl ?_
        exact ih (k + 1) (by omega) (by omega)
  refine J_iconst (v := nI 0) hC dX10_clear_0 (by decide) ?_
  refine J_istore_n hC dX10_clear_1 rfl (Nat.le_of_ble_eq_true rfl) rfl ?_
  dsimp only [List.set]
  exact J_cong (lp 305 0 (by omega) (by omega)) (h4 := clrP_0.symm)
set_option maxHeartbeats 4000000 in
set_option maxRecDepth 100000 in
theorem c_X10_act {G : GC} {w : Lay} {σ : Mem} {Q : Lay → Option Value → Mem → Prop} {Qx : Lay → String → Mem → Prop} (hM : LM w) {f u : Nat} (hr : ringOK σ f u) (hq : Q w none (actM σ f u)) : MX10_act G w σ [.ref (w.2.1 13 0)] Q Qx := by
  refine mt_start (by decide) rfl (Nat.le_of_ble_eq_true rfl) (fun E hC hR hN => ?_)
  show J G E w 0 0 0 [some (.ref (w.2.1 13 0))] [] σ
  obtain ⟨r1, r2, r3, r4⟩ := hr
  have jn : ∀ (τ : Mem) (f2 u2 : Nat), (rd τ 13 0 3 = nI f2) → (rd τ 13 0 4 = nI u2) → (f2 < 8) → (u2 < 8) → (putP (wr τ 13 0 4 (nI (u2 + 1))) ((f2 + u2) % 8) 304 = actM σ f u) →  J G E w 0 0 32 [some (.ref (w.2.1 13 0))] [] τ := by
    intro τ f2 u2 h3 h4 h5 h6 hz
    refine J_aload_n hC dX10_act_32 rfl rfl ?_
    refine J_aload_n hC dX10_act_33 rfl rfl ?_
    refine gX10_68 hC hM dX10_act_34 ?_
    refine J_top h3 ?_
    refine J_aload_n hC dX10_act_37 rfl rfl ?_
    refine J_dup hC dX10_act_38 rfl ?_
    refine gX10_65 hC hM dX10_act_39 ?_
    refine J_top h4 ?_
    refine J_dup_x1 hC dX10_act_42 rfl rfl ?_
    refine J_iconst (v := nI 1) hC dX10_act_43 (by decide) ?_
    refine J_iadd_n hC dX10_act_44 ?_
    refine pX10_65 hC hM dX10_act_45 ?_
    refine J_iadd_n hC dX10_act_48 ?_
    refine J_bipush (v := nI 8) hC dX10_act_49 (by decide) ?_
    refine J_irem_n hC (by omega) (by omega) (by omega) dX10_act_51 ?_
    refine iX10_71 hC hM rfl ⟨by decide, by decide⟩ ⟨by decide, by decide⟩ (Nat.le_of_ble_eq_true rfl) dX10_act_52 ?_
    refine c_X10_put hM (by omega) ?_
    dsimp only [Option.toList_some, Option.toList_none, List.cons_append, List.nil_append]
    refine J_return hC hR dX10_act_55 (by decide) (by decide) ?_
    rw [← hz] at hq
    exact hq
  refine J_aload_n hC dX10_act_0 rfl rfl ?_
  refine gX10_65 hC hM dX10_act_1 ?_
  refine J_top r2 ?_
  refine J_bipush (v := nI 8) hC dX10_act_4 (by decide) ?_
  refine J_icmp_ne_n hC (by omega) (by decide) (tgt := 32) dX10_act_6 rfl (fun hb => ?_) (fun hb => ?_)
  · refine jn σ f u r1 r2 r3 (by omega) ?_
    unfold actM rF rU
    rw [if_neg hb, if_neg hb, wr_id r1]
  · refine J_aload_n hC dX10_act_9 rfl rfl ?_
    refine J_aload_n hC dX10_act_10 rfl rfl ?_
    refine gX10_68 hC hM dX10_act_11 ?_
    refine J_top r1 ?_
    refine J_iconst (v := nI 1) hC dX10_act_14 (by decide) ?_
    refine J_iadd_n hC dX10_act_15 ?_
    refine J_bipush (v := nI 8) hC dX10_act_16 (by decide) ?_
    refine J_irem_n hC (by omega) (by omega) (by omega) dX10_act_18 ?_
    refine pX10_68 hC hM dX10_act_19 ?_
    refine J_aload_n hC dX10_act_22 rfl rfl ?_
    refine J_dup hC dX10_act_23 rfl ?_
    refine gX10_65 hC hM dX10_act_24 ?_
    refine J_top (show _ = nI u from by rw [rd_wr_j (by decide)]; exact r2) ?_
    refine J_iconst (v := nI 1) hC dX10_act_27 (by decide) ?_
    refine J_isub_n hC (by omega) dX10_act_28 ?_
    refine pX10_65 hC hM dX10_act_29 ?_
    first
    | done
    | (subst hb
       refine jn _ ((f + 1) % 8) 7 (by rw [rd_wr_j (by decide)]; exact rd_wr_s) (by exact rd_wr_s) (by omega) (by omega) ?_
       unfold actM rF rU
       rw [if_pos rfl, if_pos rfl, wr_wr, show ((f + 1) % 8 + 7) % 8 = (f + 8) % 8 by omega])
set_option maxHeartbeats 4000000 in
set_option maxRecDepth 100000 in
theorem c_X10_asks {G : GC} {w : Lay} {σ : Mem} {Q : Lay → Option Value → Mem → Prop} {Qx : Lay → String → Mem → Prop} {hm : Nat} (hM : LM w) (hI : RowOK hm (rd σ 13 1)) {x h : Int32}  (ht : okK (rd σ 13 1) x ∧ okN 0 999999 h → Q w (some (.int (nI 1))) (thr σ 0)) (hf : ∀ c, c ≠ 0 → (∀ v, chk (okK (rd σ 13 1) x) 1 (chk (okN 0 999999 h) 2 v) = (c, 0)) → Q w (some (.int (nI 0))) (thr σ c)) : MX10_asks G w σ [.ref (w.2.1 13 0), .int x, .int h] Q Qx := by
  refine mt_start (by decide) rfl (Nat.le_of_ble_eq_true rfl) (fun E hC hR hN => ?_)
  show J G E w 0 0 0 [some (.ref (w.2.1 13 0)), some (.int x), some (.int h)] [] σ
  refine J_aload_n hC dX10_asks_0 rfl rfl ?_
  refine J_aload_n hC dX10_asks_1 rfl rfl ?_
  refine J_iload_n hC dX10_asks_2 rfl rfl ?_
  refine iX10_278 hC hM rfl ⟨by decide, by decide⟩ ⟨by decide, by decide⟩ (Nat.le_of_ble_eq_true rfl) dX10_asks_3 ?_
  refine k_isK hM hI (fun hk => ?_) (fun hk => ?_)
  · dsimp only [Option.toList_some, Option.toList_none, List.cons_append, List.nil_append]
    refine J_if_ne_n hC (by decide) (tgt := 13) dX10_asks_6 rfl (fun _ => ?_) (fun hf => absurd hf (by omega))
    refine J_iload_n hC dX10_asks_13 rfl rfl ?_
    refine iX10_335 hC rfl ⟨by decide, by decide⟩ ⟨by decide, by decide⟩ (Nat.le_of_ble_eq_true rfl) dX10_asks_14 ?_
    refine k_isHour  (fun hh => ?_) (fun hh => ?_)
    · dsimp only [Option.toList_some, Option.toList_none, List.cons_append, List.nil_append]
      refine J_if_ne_n hC (by decide) (tgt := 24) dX10_asks_17 rfl (fun _ => ?_) (fun hf => absurd hf (by omega))
      refine J_iconst (v := nI 0) hC dX10_asks_24 (by decide) ?_
      refine pX10_62 hC hM dX10_asks_25 ?_
      refine J_aload_n hC dX10_asks_28 rfl rfl ?_
      refine gX10_62 hC hM dX10_asks_29 ?_
      refine J_top (show _ = nI _ from rd_wr_s) ?_
      refine J_if_ne_n hC (by decide) (tgt := 39) dX10_asks_32 rfl (fun hb4 => ?_) (fun hb4 => ?_)
      · refine J_iconst (v := nI 0) hC dX10_asks_39 (by decide) ?_
        refine J_zreturn hC hR dX10_asks_40 (by decide) (by decide) (by decide) ?_
        first
        | exact ht ⟨hk, hh⟩
        | omega
      · refine J_iconst (v := nI 1) hC dX10_asks_35 (by decide) ?_
        refine J_goto (tgt := 40) hC dX10_asks_36 rfl ?_
        refine J_zreturn hC hR dX10_asks_40 (by decide) (by decide) (by decide) ?_
        first
        | exact ht ⟨hk, hh⟩
        | omega
    · dsimp only [Option.toList_some, Option.toList_none, List.cons_append, List.nil_append]
      refine J_if_ne_n hC (by decide) (tgt := 24) dX10_asks_17 rfl (fun hf => absurd hf (by omega)) (fun _ => ?_)
      refine J_iconst (v := nI 2) hC dX10_asks_20 (by decide) ?_
      refine J_goto (tgt := 25) hC dX10_asks_21 rfl ?_
      refine pX10_62 hC hM dX10_asks_25 ?_
      refine J_aload_n hC dX10_asks_28 rfl rfl ?_
      refine gX10_62 hC hM dX10_asks_29 ?_
      refine J_top (show _ = nI _ from rd_wr_s) ?_
      refine J_if_ne_n hC (by decide) (tgt := 39) dX10_asks_32 rfl (fun hb6 => ?_) (fun hb6 => ?_)
      · refine J_iconst (v := nI 0) hC dX10_asks_39 (by decide) ?_
        refine J_zreturn hC hR dX10_asks_40 (by decide) (by decide) (by decide) ?_
        first
        | exact hf 2 (by decide) (fun v => by rw [chk_t hk, chk_f hh])
        | omega
      · refine J_iconst (v := nI 1) hC dX10_asks_35 (by decide) ?_
        refine J_goto (tgt := 40) hC dX10_asks_36 rfl ?_
        refine J_zreturn hC hR dX10_asks_40 (by decide) (by decide) (by decide) ?_
        first
        | exact hf 2 (by decide) (fun v => by rw [chk_t hk, chk_f hh])
        | omega
  · dsimp only [Option.toList_some, Option.toList_none, List.cons_append, List.nil_append]
    refine J_if_ne_n hC (by decide) (tgt := 13) dX10_asks_6 rfl (fun hf => absurd hf (by omega)) (fun _ => ?_)
    refine J_iconst (v := nI 1) hC dX10_asks_9 (by decide) ?_
    refine J_goto (tgt := 25) hC dX10_asks_10 rfl ?_
    refine pX10_62 hC hM dX10_asks_25 ?_
    refine J_aload_n hC dX10_asks_28 rfl rfl ?_
    refine gX10_62 hC hM dX10_asks_29 ?_
    refine J_top (show _ = nI _ from rd_wr_s) ?_
    refine J_if_ne_n hC (by decide) (tgt := 39) dX10_asks_32 rfl (fun hb8 => ?_) (fun hb8 => ?_)
    · refine J_iconst (v := nI 0) hC dX10_asks_39 (by decide) ?_
      refine J_zreturn hC hR dX10_asks_40 (by decide) (by decide) (by decide) ?_
      first
      | exact hf 1 (by decide) (fun v => chk_f hk)
      | omega
    · refine J_iconst (v := nI 1) hC dX10_asks_35 (by decide) ?_
      refine J_goto (tgt := 40) hC dX10_asks_36 rfl ?_
      refine J_zreturn hC hR dX10_asks_40 (by decide) (by decide) (by decide) ?_
      first
      | exact hf 1 (by decide) (fun v => chk_f hk)
      | omega
set_option maxHeartbeats 4000000 in
set_option maxRecDepth 100000 in
theorem c_X10_field {G : GC} {w : Lay} {σ : Mem} {Q : Lay → Option Value → Mem → Prop} {Qx : Lay → String → Mem → Prop} (hM : LM w) {a b c d : Int32} (hq : Q w none (setA σ (fieldA (rd σ 13 1) a b c d))) : MX10_field G w σ [.ref (w.2.1 13 0), .int a, .int b, .int c, .int d] Q Qx := by
  refine mt_start (by decide) rfl (Nat.le_of_ble_eq_true rfl) (fun E hC hR hN => ?_)
  show J G E w 0 0 0 [some (.ref (w.2.1 13 0)), some (.int a), some (.int b), some (.int c), some (.int d)] [] σ
  refine J_cong (σ' := setA σ (rd σ 13 1)) ?_ (h4 := setA_id.symm)
  refine J_aload_n hC dX10_field_0 rfl rfl ?_
  refine gX10_7 hC hM dX10_field_1 ?_
  refine J_iconst (v := nI 0) hC dX10_field_4 (by decide) ?_
  refine J_iload_n hC dX10_field_5 rfl rfl ?_
  refine J_iastore hC (hM.1 1 (by decide)) rfl rfl (by omega) (by decide) dX10_field_6 ?_
  rw [wr_setA2]
  refine J_aload_n hC dX10_field_7 rfl rfl ?_
  refine gX10_7 hC hM dX10_field_8 ?_
  refine J_iconst (v := nI 1) hC dX10_field_11 (by decide) ?_
  refine J_iload_n hC dX10_field_12 rfl rfl ?_
  refine J_iastore hC (hM.1 1 (by decide)) rfl rfl (by omega) (by decide) dX10_field_13 ?_
  rw [wr_setA2]
  refine J_aload_n hC dX10_field_14 rfl rfl ?_
  refine gX10_7 hC hM dX10_field_15 ?_
  refine J_iconst (v := nI 2) hC dX10_field_18 (by decide) ?_
  refine J_iload_n hC dX10_field_19 rfl rfl ?_
  refine J_iastore hC (hM.1 1 (by decide)) rfl rfl (by omega) (by decide) dX10_field_20 ?_
  rw [wr_setA2]
  refine J_aload_n hC dX10_field_21 rfl rfl ?_
  refine gX10_7 hC hM dX10_field_22 ?_
  refine J_iconst (v := nI 3) hC dX10_field_25 (by decide) ?_
  refine J_iload hC dX10_field_26 rfl ?_
  refine J_iastore hC (hM.1 1 (by decide)) rfl rfl (by omega) (by decide) dX10_field_28 ?_
  rw [wr_setA2]
  refine J_return hC hR dX10_field_29 (by decide) (by decide) ?_
  exact hq
set_option maxHeartbeats 4000000 in
set_option maxRecDepth 100000 in
theorem c_X10_zone {G : GC} {w : Lay} {σ : Mem} {Q : Lay → Option Value → Mem → Prop} {Qx : Lay → String → Mem → Prop} (hM : LM w) (h4 : (rd σ 13 1) 4 = nI (nv (rd σ 13 1) 4)) (hz : nv (rd σ 13 1) 4 < 4) (hq : Q w none (setA σ (zoneA (rd σ 13 1)))) : MX10_zone G w σ [.ref (w.2.1 13 0)] Q Qx := by
  refine mt_start (by decide) rfl (Nat.le_of_ble_eq_true rfl) (fun E hC hR hN => ?_)
  show J G E w 0 0 0 [some (.ref (w.2.1 13 0))] [] σ
  refine J_cong (σ' := setA σ (rd σ 13 1)) ?_ (h4 := setA_id.symm)
  refine J_aload_n hC dX10_zone_0 rfl rfl ?_
  refine gX10_7 hC hM dX10_zone_1 ?_
  refine J_bipush (v := nI 12) hC dX10_zone_4 (by decide) ?_
  refine J_bipush (v := nI 13) hC dX10_zone_6 (by decide) ?_
  refine J_aload_n hC dX10_zone_8 rfl rfl ?_
  refine gX10_7 hC hM dX10_zone_9 ?_
  refine J_iconst (v := nI 4) hC dX10_zone_12 (by decide) ?_
  refine J_dup2 hC dX10_zone_13 rfl rfl ?_
  refine J_iaload hC (hM.1 1 (by decide)) rfl rfl (by omega) (by decide) dX10_zone_14 ?_
  refine J_top (show _ = nI (nv (rd σ 13 1) 4) from by rw [rd_setA]; exact h4) ?_
  refine J_dup_x2 hC dX10_zone_15 rfl rfl rfl ?_
  refine J_iconst (v := nI 1) hC dX10_zone_16 (by decide) ?_
  refine J_iadd_n hC dX10_zone_17 ?_
  refine J_iastore hC (hM.1 1 (by decide)) rfl rfl (by omega) (by decide) dX10_zone_18 ?_
  rw [wr_setA2]
  refine J_imul_n hC dX10_zone_19 ?_
  refine J_iadd_n hC dX10_zone_20 ?_
  refine J_iconst (v := nI 0) hC dX10_zone_21 (by decide) ?_
  refine J_iastore hC (hM.1 1 (by decide)) rfl rfl (by omega) (by decide) dX10_zone_22 ?_
  rw [wr_setA2]
  refine J_return hC hR dX10_zone_23 (by decide) (by decide) ?_
  exact hq
set_option maxHeartbeats 4000000 in
set_option maxRecDepth 100000 in
theorem c_X10_wind {G : GC} {w : Lay} {σ : Mem} {Q : Lay → Option Value → Mem → Prop} {Qx : Lay → String → Mem → Prop} (hM : LM w) {d f : Int32} (h4 : (rd σ 13 1) 4 = nI (nv (rd σ 13 1) 4)) (hz : 1 ≤ nv (rd σ 13 1) 4 ∧ nv (rd σ 13 1) 4 ≤ 4) (hk : (rd σ 13 1) (windP (rd σ 13 1)) = nI (nv (rd σ 13 1) (windP (rd σ 13 1)))) (hk6 : nv (rd σ 13 1) (windP (rd σ 13 1)) < 6) (hq : Q w none (setA σ (windA (rd σ 13 1) d f))) : MX10_wind G w σ [.ref (w.2.1 13 0), .int d, .int f] Q Qx := by
  refine mt_start (by decide) rfl (Nat.le_of_ble_eq_true rfl) (fun E hC hR hN => ?_)
  show J G E w 0 0 0 [some (.ref (w.2.1 13 0)), some (.int d), some (.int f), none, none] [] σ
  refine J_cong (σ' := setA σ (rd σ 13 1)) ?_ (h4 := setA_id.symm)
  have hP : windP (rd σ 13 1) = 12 + 13 * (nv (rd σ 13 1) 4 - 1) := rfl
  refine J_bipush (v := nI 12) hC dX10_wind_0 (by decide) ?_
  refine J_bipush (v := nI 13) hC dX10_wind_2 (by decide) ?_
  refine J_aload_n hC dX10_wind_4 rfl rfl ?_
  refine gX10_7 hC hM dX10_wind_5 ?_
  refine J_iconst (v := nI 4) hC dX10_wind_8 (by decide) ?_
  refine J_iaload hC (hM.1 1 (by decide)) rfl rfl (by omega) (by decide) dX10_wind_9 ?_
  refine J_top (show _ = nI (nv (rd σ 13 1) 4) from by rw [rd_setA]; exact h4) ?_
  refine J_iconst (v := nI 1) hC dX10_wind_10 (by decide) ?_
  refine J_isub_n hC (by omega) dX10_wind_11 ?_
  refine J_imul_n hC dX10_wind_12 ?_
  refine J_iadd_n hC dX10_wind_13 ?_
  refine J_istore_n hC dX10_wind_14 rfl (Nat.le_of_ble_eq_true rfl) rfl ?_
  dsimp only [List.set]
  refine J_aload_n hC dX10_wind_15 rfl rfl ?_
  refine gX10_7 hC hM dX10_wind_16 ?_
  refine J_iload_n hC dX10_wind_19 rfl rfl ?_
  refine J_dup2 hC dX10_wind_20 rfl rfl ?_
  refine J_iaload hC (hM.1 1 (by decide)) rfl rfl (by omega) (by decide) dX10_wind_21 ?_
  refine J_top (show _ = nI (nv (rd σ 13 1) (windP (rd σ 13 1))) from by rw [rd_setA]; exact hk) ?_
  refine J_dup_x2 hC dX10_wind_22 rfl rfl rfl ?_
  refine J_iconst (v := nI 1) hC dX10_wind_23 (by decide) ?_
  refine J_iadd_n hC dX10_wind_24 ?_
  refine J_iastore hC (hM.1 1 (by decide)) rfl rfl (by omega) (by decide) dX10_wind_25 ?_
  rw [wr_setA2]
  refine J_istore hC dX10_wind_26 (Nat.le_of_ble_eq_true rfl) rfl ?_
  dsimp only [List.set]
  refine J_aload_n hC dX10_wind_28 rfl rfl ?_
  refine gX10_7 hC hM dX10_wind_29 ?_
  refine J_iload_n hC dX10_wind_32 rfl rfl ?_
  refine J_iconst (v := nI 1) hC dX10_wind_33 (by decide) ?_
  refine J_iadd_n hC dX10_wind_34 ?_
  refine J_iconst (v := nI 2) hC dX10_wind_35 (by decide) ?_
  refine J_iload hC dX10_wind_36 rfl ?_
  refine J_imul_n hC dX10_wind_38 ?_
  refine J_iadd_n hC dX10_wind_39 ?_
  refine J_iload_n hC dX10_wind_40 rfl rfl ?_
  refine J_iastore hC (hM.1 1 (by decide)) rfl rfl (by omega) (by decide) dX10_wind_41 ?_
  rw [wr_setA2]
  refine J_aload_n hC dX10_wind_42 rfl rfl ?_
  refine gX10_7 hC hM dX10_wind_43 ?_
  refine J_iload_n hC dX10_wind_46 rfl rfl ?_
  refine J_iconst (v := nI 2) hC dX10_wind_47 (by decide) ?_
  refine J_iadd_n hC dX10_wind_48 ?_
  refine J_iconst (v := nI 2) hC dX10_wind_49 (by decide) ?_
  refine J_iload hC dX10_wind_50 rfl ?_
  refine J_imul_n hC dX10_wind_52 ?_
  refine J_iadd_n hC dX10_wind_53 ?_
  refine J_iload_n hC dX10_wind_54 rfl rfl ?_
  refine J_iastore hC (hM.1 1 (by decide)) rfl rfl (by omega) (by decide) dX10_wind_55 ?_
  rw [wr_setA2]
  refine J_return hC hR dX10_wind_56 (by decide) (by decide) ?_
  exact hq
set_option maxHeartbeats 4000000 in
set_option maxRecDepth 100000 in
theorem c_X10_colour {G : GC} {w : Lay} {σ : Mem} {Q : Lay → Option Value → Mem → Prop} {Qx : Lay → String → Mem → Prop} (hM : LM w) {q : Int32} (h5 : (rd σ 13 1) 5 = nI (nv (rd σ 13 1) 5)) (hc : nv (rd σ 13 1) 5 < 6) (hq : Q w none (setA σ (colourA (rd σ 13 1) q))) : MX10_colour G w σ [.ref (w.2.1 13 0), .int q] Q Qx := by
  refine mt_start (by decide) rfl (Nat.le_of_ble_eq_true rfl) (fun E hC hR hN => ?_)
  show J G E w 0 0 0 [some (.ref (w.2.1 13 0)), some (.int q)] [] σ
  refine J_cong (σ' := setA σ (rd σ 13 1)) ?_ (h4 := setA_id.symm)
  refine J_aload_n hC dX10_colour_0 rfl rfl ?_
  refine gX10_7 hC hM dX10_colour_1 ?_
  refine J_bipush (v := nI 64) hC dX10_colour_4 (by decide) ?_
  refine J_aload_n hC dX10_colour_6 rfl rfl ?_
  refine gX10_7 hC hM dX10_colour_7 ?_
  refine J_iconst (v := nI 5) hC dX10_colour_10 (by decide) ?_
  refine J_dup2 hC dX10_colour_11 rfl rfl ?_
  refine J_iaload hC (hM.1 1 (by decide)) rfl rfl (by omega) (by decide) dX10_colour_12 ?_
  refine J_top (show _ = nI (nv (rd σ 13 1) 5) from by rw [rd_setA]; exact h5) ?_
  refine J_dup_x2 hC dX10_colour_13 rfl rfl rfl ?_
  refine J_iconst (v := nI 1) hC dX10_colour_14 (by decide) ?_
  refine J_iadd_n hC dX10_colour_15 ?_
  refine J_iastore hC (hM.1 1 (by decide)) rfl rfl (by omega) (by decide) dX10_colour_16 ?_
  rw [wr_setA2]
  refine J_iadd_n hC dX10_colour_17 ?_
  refine J_iload_n hC dX10_colour_18 rfl rfl ?_
  refine J_iastore hC (hM.1 1 (by decide)) rfl rfl (by omega) (by decide) dX10_colour_19 ?_
  rw [wr_setA2]
  refine J_return hC hR dX10_colour_20 (by decide) (by decide) ?_
  exact hq
set_option maxHeartbeats 4000000 in
set_option maxRecDepth 100000 in
theorem c_X10_kite {G : GC} {w : Lay} {σ : Mem} {Q : Lay → Option Value → Mem → Prop} {Qx : Lay → String → Mem → Prop} (hM : LM w) {a b c d e f : Int32} (h6 : (rd σ 13 1) 6 = nI (nv (rd σ 13 1) 6)) (hk : nv (rd σ 13 1) 6 < 16) (hq : Q w (some (.int (nI (nv (rd σ 13 1) 6)))) (setA σ (kiteA (rd σ 13 1) a b c d e f))) : MX10_kite G w σ [.ref (w.2.1 13 0), .int a, .int b, .int c, .int d, .int e, .int f] Q Qx := by
  refine mt_start (by decide) rfl (Nat.le_of_ble_eq_true rfl) (fun E hC hR hN => ?_)
  show J G E w 0 0 0 [some (.ref (w.2.1 13 0)), some (.int a), some (.int b), some (.int c), some (.int d), some (.int e), some (.int f), none] [] σ
  refine J_cong (σ' := setA σ (rd σ 13 1)) ?_ (h4 := setA_id.symm)
  refine J_bipush (v := nI 70) hC dX10_kite_0 (by decide) ?_
  refine J_bipush (v := nI 9) hC dX10_kite_2 (by decide) ?_
  refine J_aload_n hC dX10_kite_4 rfl rfl ?_
  refine gX10_7 hC hM dX10_kite_5 ?_
  refine J_bipush (v := nI 6) hC dX10_kite_8 (by decide) ?_
  refine J_iaload hC (hM.1 1 (by decide)) rfl rfl (by omega) (by decide) dX10_kite_10 ?_
  refine J_top (show _ = nI (nv (rd σ 13 1) 6) from by rw [rd_setA]; exact h6) ?_
  refine J_imul_n hC dX10_kite_11 ?_
  refine J_iadd_n hC dX10_kite_12 ?_
  refine J_istore hC dX10_kite_13 (Nat.le_of_ble_eq_true rfl) rfl ?_
  dsimp only [List.set]
  refine J_aload_n hC dX10_kite_15 rfl rfl ?_
  refine gX10_7 hC hM dX10_kite_16 ?_
  refine J_iload hC dX10_kite_19 rfl ?_
  refine J_iload_n hC dX10_kite_21 rfl rfl ?_
  refine J_iastore hC (hM.1 1 (by decide)) rfl rfl (by omega) (by decide) dX10_kite_22 ?_
  rw [wr_setA2]
  refine J_aload_n hC dX10_kite_23 rfl rfl ?_
  refine gX10_7 hC hM dX10_kite_24 ?_
  refine J_iload hC dX10_kite_27 rfl ?_
  refine J_iconst (v := nI 1) hC dX10_kite_29 (by decide) ?_
  refine J_iadd_n hC dX10_kite_30 ?_
  refine J_iload_n hC dX10_kite_31 rfl rfl ?_
  refine J_iastore hC (hM.1 1 (by decide)) rfl rfl (by omega) (by decide) dX10_kite_32 ?_
  rw [wr_setA2]
  refine J_aload_n hC dX10_kite_33 rfl rfl ?_
  refine gX10_7 hC hM dX10_kite_34 ?_
  refine J_iload hC dX10_kite_37 rfl ?_
  refine J_iconst (v := nI 2) hC dX10_kite_39 (by decide) ?_
  refine J_iadd_n hC dX10_kite_40 ?_
  refine J_iload_n hC dX10_kite_41 rfl rfl ?_
  refine J_iastore hC (hM.1 1 (by decide)) rfl rfl (by omega) (by decide) dX10_kite_42 ?_
  rw [wr_setA2]
  refine J_aload_n hC dX10_kite_43 rfl rfl ?_
  refine gX10_7 hC hM dX10_kite_44 ?_
  refine J_iload hC dX10_kite_47 rfl ?_
  refine J_iconst (v := nI 3) hC dX10_kite_49 (by decide) ?_
  refine J_iadd_n hC dX10_kite_50 ?_
  refine J_iload hC dX10_kite_51 rfl ?_
  refine J_iastore hC (hM.1 1 (by decide)) rfl rfl (by omega) (by decide) dX10_kite_53 ?_
  rw [wr_setA2]
  refine J_aload_n hC dX10_kite_54 rfl rfl ?_
  refine gX10_7 hC hM dX10_kite_55 ?_
  refine J_iload hC dX10_kite_58 rfl ?_
  refine J_iconst (v := nI 4) hC dX10_kite_60 (by decide) ?_
  refine J_iadd_n hC dX10_kite_61 ?_
  refine J_iload hC dX10_kite_62 rfl ?_
  refine J_iastore hC (hM.1 1 (by decide)) rfl rfl (by omega) (by decide) dX10_kite_64 ?_
  rw [wr_setA2]
  refine J_aload_n hC dX10_kite_65 rfl rfl ?_
  refine gX10_7 hC hM dX10_kite_66 ?_
  refine J_iload hC dX10_kite_69 rfl ?_
  refine J_iconst (v := nI 5) hC dX10_kite_71 (by decide) ?_
  refine J_iadd_n hC dX10_kite_72 ?_
  refine J_iload hC dX10_kite_73 rfl ?_
  refine J_iastore hC (hM.1 1 (by decide)) rfl rfl (by omega) (by decide) dX10_kite_75 ?_
  rw [wr_setA2]
  refine J_aload_n hC dX10_kite_76 rfl rfl ?_
  refine gX10_7 hC hM dX10_kite_77 ?_
  refine J_iload hC dX10_kite_80 rfl ?_
  refine J_bipush (v := nI 6) hC dX10_kite_82 (by decide) ?_
  refine J_iadd_n hC dX10_kite_84 ?_
  refine J_iconst (v := nI 0) hC dX10_kite_85 (by decide) ?_
  refine J_iastore hC (hM.1 1 (by decide)) rfl rfl (by omega) (by decide) dX10_kite_86 ?_
  rw [wr_setA2]
  refine J_aload_n hC dX10_kite_87 rfl rfl ?_
  refine gX10_7 hC hM dX10_kite_88 ?_
  refine J_iload hC dX10_kite_91 rfl ?_
  refine J_bipush (v := nI 7) hC dX10_kite_93 (by decide) ?_
  refine J_iadd_n hC dX10_kite_95 ?_
  refine J_iconst (v := nI 0) hC dX10_kite_96 (by decide) ?_
  refine J_iastore hC (hM.1 1 (by decide)) rfl rfl (by omega) (by decide) dX10_kite_97 ?_
  rw [wr_setA2]
  refine J_aload_n hC dX10_kite_98 rfl rfl ?_
  refine gX10_7 hC hM dX10_kite_99 ?_
  refine J_iload hC dX10_kite_102 rfl ?_
  refine J_bipush (v := nI 8) hC dX10_kite_104 (by decide) ?_
  refine J_iadd_n hC dX10_kite_106 ?_
  refine J_iconst (v := nI 0) hC dX10_kite_107 (by decide) ?_
  refine J_iastore hC (hM.1 1 (by decide)) rfl rfl (by omega) (by decide) dX10_kite_108 ?_
  rw [wr_setA2]
  refine J_aload_n hC dX10_kite_109 rfl rfl ?_
  refine gX10_7 hC hM dX10_kite_110 ?_
  refine J_bipush (v := nI 10) hC dX10_kite_113 (by decide) ?_
  refine J_dup2 hC dX10_kite_115 rfl rfl ?_
  refine J_iaload hC (hM.1 1 (by decide)) rfl rfl (by omega) (by decide) dX10_kite_116 ?_
  refine J_top (show _ = (rd σ 13 1) 10 from by rw [rd_setA]; repeat rw [upd_n (by omega)]) ?_
  refine J_iload hC dX10_kite_117 rfl ?_
  refine J_iadd hC dX10_kite_119 ?_
  refine J_iastore hC (hM.1 1 (by decide)) rfl rfl (by omega) (by decide) dX10_kite_120 ?_
  rw [wr_setA2]
  refine J_aload_n hC dX10_kite_121 rfl rfl ?_
  refine gX10_7 hC hM dX10_kite_122 ?_
  refine J_bipush (v := nI 6) hC dX10_kite_125 (by decide) ?_
  refine J_dup2 hC dX10_kite_127 rfl rfl ?_
  refine J_iaload hC (hM.1 1 (by decide)) rfl rfl (by omega) (by decide) dX10_kite_128 ?_
  refine J_top (show _ = nI (nv (rd σ 13 1) 6) from by rw [rd_setA]; (repeat rw [upd_n (by omega)]); exact h6) ?_
  refine J_dup_x2 hC dX10_kite_129 rfl rfl rfl ?_
  refine J_iconst (v := nI 1) hC dX10_kite_130 (by decide) ?_
  refine J_iadd_n hC dX10_kite_131 ?_
  refine J_iastore hC (hM.1 1 (by decide)) rfl rfl (by omega) (by decide) dX10_kite_132 ?_
  rw [wr_setA2]
  refine J_ireturn hC hR dX10_kite_133 (by decide) (by decide) ?_
  exact hq
