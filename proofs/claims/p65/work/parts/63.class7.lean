set_option maxHeartbeats 4000000 in
set_option maxRecDepth 100000 in
theorem c_X1_pursesTogether {G : GC} {w : Lay} {σ : Mem} {Q : Lay → Option Value → Mem → Prop} {Qx : Lay → String → Mem → Prop} {o hm : Nat} {A : Rw} (hw : LO w o) (hO : OAt σ o A) (hI : RowOK hm A)  (hq : Q w (some (.int (psum A (nv A 6)))) σ) : MX1_pursesTogether G w σ [.ref (w.2.1 o 6)] Q Qx := by
  refine mt_start (by decide) rfl (Nat.le_of_ble_eq_true rfl) (fun E hC hR hN => ?_)
  show J G E w 0 0 0 [some (.ref (w.2.1 o 6)), none, none] [] σ
  have h2 := r_NK hI
  have lp : ∀ (dd : Nat) (k : Nat), nv A 6 - k < dd → (k ≤ nv A 6) →  J G E w 0 0 4 [some (.ref (w.2.1 o 6)), some (.int (psum A k)), some (.int (nI k))] [] σ := by
    intro dd
    induction dd with
    | zero =>
      intro k hdd
      exact absurd hdd (Nat.not_lt_zero _)
    | succ dd ih =>
      intro k hdd hk
      refine J_iload_n hC dX1_pursesTogether_4 rfl rfl ?_
      refine J_aload_n hC dX1_pursesTogether_5 rfl rfl ?_
      refine gX1_42 hC hw dX1_pursesTogether_6 ?_
      refine J_top (o_NK hO hI) ?_
      refine J_icmp_ge_n hC (by omega) (by omega) (tgt := 27) dX1_pursesTogether_9 rfl (fun hb0 => ?_) (fun hb0 => ?_)
      · refine J_iload_n hC dX1_pursesTogether_27 rfl rfl ?_
        refine J_ireturn hC hR dX1_pursesTogether_28 (by decide) (by decide) ?_
        have e : k = nv A 6 := by omega
        subst e
        exact hq
      · refine J_iload_n hC dX1_pursesTogether_12 rfl rfl ?_
        refine J_aload_n hC dX1_pursesTogether_13 rfl rfl ?_
        refine gX1_30 hC hw dX1_pursesTogether_14 ?_
        refine J_iload_n hC dX1_pursesTogether_17 rfl rfl ?_
        refine J_iaload hC (hw.2.1 13 (by decide)) (kd_o hw.1) rfl (by omega) (by decide) dX1_pursesTogether_18 ?_
        refine J_top (o_P hO (by omega)) ?_
        refine J_iadd hC dX1_pursesTogether_19 ?_
        rw [← psum_s]
        refine J_istore_n hC dX1_pursesTogether_20 rfl (Nat.le_of_ble_eq_true rfl) rfl ?_
        dsimp only [List.set]
        refine J_iinc_n (m := 1) hC (by decide) dX1_pursesTogether_21 rfl (Nat.le_of_ble_eq_true rfl) rfl ?_
        dsimp only [List.set]
        refine J_goto (tgt := 4) hC dX1_pursesTogether_24 rfl ?_
        exact ih (k + 1) (by omega) (by omega)
  refine J_iconst (v := nI 0) hC dX1_pursesTogether_0 (by decide) ?_
  refine J_istore_n hC dX1_pursesTogether_1 rfl (Nat.le_of_ble_eq_true rfl) rfl ?_
  dsimp only [List.set]
  refine J_iconst (v := nI 0) hC dX1_pursesTogether_2 (by decide) ?_
  refine J_istore_n hC dX1_pursesTogether_3 rfl (Nat.le_of_ble_eq_true rfl) rfl ?_
  dsimp only [List.set]
  exact lp (nv A 6 + 1) 0 (by omega) (by omega)
