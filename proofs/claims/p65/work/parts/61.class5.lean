set_option maxHeartbeats 4000000 in
set_option maxRecDepth 100000 in
theorem c_X4_firstCrossedKite {G : GC} {w : Lay} {σ : Mem} {Q : Lay → Option Value → Mem → Prop} {Qx : Lay → String → Mem → Prop} {o hm : Nat} {A : Rw} (hw : LO w o) (hO : OAt σ o A) (hI : RowOK hm A) {k b e : Nat} (hk : k < nv A 6) (hb : b < 2 ^ 30) (he : e < 2 ^ 30) (hq : Q w (some (.int (iI (leastI (fcP A k b e (nv A 11)))))) σ) : MX4_firstCrossedKite G w σ [.ref (w.2.1 o 0), .int (nI k), .int (nI b), .int (nI e)] Q Qx := by
  refine mt_start (by decide) rfl (Nat.le_of_ble_eq_true rfl) (fun E hC hR hN => ?_)
  show J G E w 0 0 0 [some (.ref (w.2.1 o 0)), some (.int (nI k)), some (.int (nI b)), some (.int (nI e)), none, none, none, none] [] σ
  have h1 := r_NP hI
  have h2 := r_NK hI
  have fr9 : ∀ j, j ≤ nv A 11 → -1 ≤ leastI (fcP A k b e j) ∧ leastI (fcP A k b e j) < 2147483648 := fun j hj => by
    rcases leastI_alt (fcP A k b e j) with ⟨h3, -⟩ | ⟨w, h3, ⟨p, h4, h5, -⟩, -⟩
    · omega
    · have h6 := (r_PK hI (p := p) (by omega)).2
      omega
  have lp : ∀ (dd : Nat) (j : Nat) (f : Int), nv A 11 - j < dd → (j ≤ nv A 11) → (f = leastI (fcP A k b e j)) →  J G E w 0 0 6 [some (.ref (w.2.1 o 0)), some (.int (nI k)), some (.int (nI b)), some (.int (nI e)), some (.int (iI f)), some (.int (nI j)), none, none] [] σ := by
    intro dd
    induction dd with
    | zero =>
      intro j f hdd
      exact absurd hdd (Nat.not_lt_zero _)
    | succ dd ih =>
      intro j f hdd hj hf
      refine J_iload hC dX4_firstCrossedKite_6 rfl ?_
      refine J_aload_n hC dX4_firstCrossedKite_8 rfl rfl ?_
      refine gX4_28 hC hw dX4_firstCrossedKite_9 ?_
      refine gX4_68 hC hw dX4_firstCrossedKite_12 ?_
      refine J_top (o_NP hO hI) ?_
      refine J_icmp_ge_n hC (by omega) (by omega) (tgt := 83) dX4_firstCrossedKite_15 rfl (fun bp => ?_) (fun bp => ?_)
      · refine J_iload hC dX4_firstCrossedKite_83 rfl ?_
        refine J_ireturn hC hR dX4_firstCrossedKite_85 (by decide) (by decide) ?_
        have g : j = nv A 11 := by omega
        subst g
        subst hf
        exact hq
      · have pk := r_PK hI bp
        have hfr := fr9 j hj
        refine J_aload_n hC dX4_firstCrossedKite_18 rfl rfl ?_
        refine gX4_28 hC hw dX4_firstCrossedKite_19 ?_
        refine gX4_160 hC hw dX4_firstCrossedKite_22 ?_
        refine J_iload hC dX4_firstCrossedKite_25 rfl ?_
        refine J_iaload hC (hw.2.1 18 (by decide)) (kd_o hw.1) rfl (by omega) (by decide) dX4_firstCrossedKite_27 ?_
        refine J_top (o_PK hO hI bp) ?_
        refine J_istore hC dX4_firstCrossedKite_28 (Nat.le_of_ble_eq_true rfl) rfl ?_
        dsimp only [List.set]
        refine J_iload hC dX4_firstCrossedKite_30 rfl ?_
        refine J_iconst (v := -1) hC dX4_firstCrossedKite_32 (by decide) ?_
        refine J_icmp_eq_z hC rfl iI_m1.symm (by omega) (by omega) (tgt := 43) dX4_firstCrossedKite_33 rfl (fun b1 => ?_) (fun b1 => ?_)
        · refine J_iconst (v := nI 1) hC dX4_firstCrossedKite_43 (by decide) ?_
          refine J_goto (tgt := 48) hC dX4_firstCrossedKite_44 rfl ?_
          refine J_istore hC dX4_firstCrossedKite_48 (Nat.le_of_ble_eq_true rfl) rfl ?_
          dsimp only [List.set]
          refine J_iload hC dX4_firstCrossedKite_50 rfl ?_
          refine J_iload_n hC dX4_firstCrossedKite_52 rfl rfl ?_
          refine J_icmp_eq_n hC (by omega) (by omega) (tgt := 77) dX4_firstCrossedKite_53 rfl (fun b3 => ?_) (fun b3 => ?_)
          · refine J_iinc_n (m := 1) hC (by decide) dX4_firstCrossedKite_77 rfl (Nat.le_of_ble_eq_true rfl) rfl ?_
            dsimp only [List.set]
            refine J_goto (tgt := 6) hC dX4_firstCrossedKite_80 rfl ?_
            first
            | (have z := leastI_add (fcP_y b3 (cross_cnt.mp (by omega)))
               rw [if_pos (by omega)] at z
               rw [nI_iI (nv A (214 + 3 * j))]
               refine J_less (ls' := [some (.ref (w.2.1 o 0)), some (.int (nI k)), some (.int (nI b)), some (.int (nI e)), some (.int (iI ((nv A (214 + 3 * j) : Nat) : Int))), some (.int (nI (j + 1))), none, none]) ⟨Or.inr rfl, Or.inr rfl, Or.inr rfl, Or.inr rfl, Or.inr rfl, Or.inr rfl, Or.inl rfl, Or.inl rfl, trivial⟩ ?_
               exact ih (j + 1) _ (by omega) (by omega) z.symm)
            | (refine J_less (ls' := [some (.ref (w.2.1 o 0)), some (.int (nI k)), some (.int (nI b)), some (.int (nI e)), some (.int (iI f)), some (.int (nI (j + 1))), none, none]) ⟨Or.inr rfl, Or.inr rfl, Or.inr rfl, Or.inr rfl, Or.inr rfl, Or.inr rfl, Or.inl rfl, Or.inl rfl, trivial⟩ ?_
               exact ih (j + 1) f (by omega) (by omega) (hf.trans (by first | exact (fcP_late (by omega) (by omega)).symm | exact (leastI_congr (fcP_n (fun q => q.1 b3))).symm | exact (leastI_congr (fcP_n (fun q => absurd (cross_cnt.mpr q.2) (by omega)))).symm)))
          · refine J_iload hC dX4_firstCrossedKite_56 rfl ?_
            refine J_if_eq_n hC (by decide) (tgt := 77) dX4_firstCrossedKite_58 rfl (fun hf => absurd hf (by omega)) (fun _ => ?_)
            refine J_aload_n hC dX4_firstCrossedKite_61 rfl rfl ?_
            refine J_iload_n hC dX4_firstCrossedKite_62 rfl rfl ?_
            refine J_iload hC dX4_firstCrossedKite_63 rfl ?_
            refine J_iload_n hC dX4_firstCrossedKite_65 rfl rfl ?_
            refine J_iload_n hC dX4_firstCrossedKite_66 rfl rfl ?_
            refine iX4_190 hC hw rfl ⟨by decide, by decide⟩ ⟨by decide, by decide⟩ (Nat.le_of_ble_eq_true rfl) dX4_firstCrossedKite_67 ?_
            refine c_X4_countCrossings hw hO hI hk bp (by omega) (by omega) ?_
            dsimp only [Option.toList_some, Option.toList_none, List.cons_append, List.nil_append]
            refine J_if_le_n hC (by have := cnt_le (fun i => crossN A k (nv A (214 + 3 * j)) (max b (nv A (214 + 3 * j + 1)) + i)) (min e (nv A (214 + 3 * j + 1) + nv A (214 + 3 * j + 2)) - max b (nv A (214 + 3 * j + 1))); omega) (tgt := 77) dX4_firstCrossedKite_70 rfl (fun b5 => ?_) (fun b5 => ?_)
            · refine J_iinc_n (m := 1) hC (by decide) dX4_firstCrossedKite_77 rfl (Nat.le_of_ble_eq_true rfl) rfl ?_
              dsimp only [List.set]
              refine J_goto (tgt := 6) hC dX4_firstCrossedKite_80 rfl ?_
              first
              | (have z := leastI_add (fcP_y b3 (cross_cnt.mp (by omega)))
                 rw [if_pos (by omega)] at z
                 rw [nI_iI (nv A (214 + 3 * j))]
                 refine J_less (ls' := [some (.ref (w.2.1 o 0)), some (.int (nI k)), some (.int (nI b)), some (.int (nI e)), some (.int (iI ((nv A (214 + 3 * j) : Nat) : Int))), some (.int (nI (j + 1))), none, none]) ⟨Or.inr rfl, Or.inr rfl, Or.inr rfl, Or.inr rfl, Or.inr rfl, Or.inr rfl, Or.inl rfl, Or.inl rfl, trivial⟩ ?_
                 exact ih (j + 1) _ (by omega) (by omega) z.symm)
              | (refine J_less (ls' := [some (.ref (w.2.1 o 0)), some (.int (nI k)), some (.int (nI b)), some (.int (nI e)), some (.int (iI f)), some (.int (nI (j + 1))), none, none]) ⟨Or.inr rfl, Or.inr rfl, Or.inr rfl, Or.inr rfl, Or.inr rfl, Or.inr rfl, Or.inl rfl, Or.inl rfl, trivial⟩ ?_
                 exact ih (j + 1) f (by omega) (by omega) (hf.trans (by first | exact (fcP_late (by omega) (by omega)).symm | exact (leastI_congr (fcP_n (fun q => q.1 b3))).symm | exact (leastI_congr (fcP_n (fun q => absurd (cross_cnt.mpr q.2) (by omega)))).symm)))
            · refine J_iload hC dX4_firstCrossedKite_73 rfl ?_
              refine J_istore hC dX4_firstCrossedKite_75 (Nat.le_of_ble_eq_true rfl) rfl ?_
              dsimp only [List.set]
              refine J_iinc_n (m := 1) hC (by decide) dX4_firstCrossedKite_77 rfl (Nat.le_of_ble_eq_true rfl) rfl ?_
              dsimp only [List.set]
              refine J_goto (tgt := 6) hC dX4_firstCrossedKite_80 rfl ?_
              first
              | (have z := leastI_add (fcP_y b3 (cross_cnt.mp (by omega)))
                 rw [if_pos (by omega)] at z
                 rw [nI_iI (nv A (214 + 3 * j))]
                 refine J_less (ls' := [some (.ref (w.2.1 o 0)), some (.int (nI k)), some (.int (nI b)), some (.int (nI e)), some (.int (iI ((nv A (214 + 3 * j) : Nat) : Int))), some (.int (nI (j + 1))), none, none]) ⟨Or.inr rfl, Or.inr rfl, Or.inr rfl, Or.inr rfl, Or.inr rfl, Or.inr rfl, Or.inl rfl, Or.inl rfl, trivial⟩ ?_
                 exact ih (j + 1) _ (by omega) (by omega) z.symm)
              | (refine J_less (ls' := [some (.ref (w.2.1 o 0)), some (.int (nI k)), some (.int (nI b)), some (.int (nI e)), some (.int (iI f)), some (.int (nI (j + 1))), none, none]) ⟨Or.inr rfl, Or.inr rfl, Or.inr rfl, Or.inr rfl, Or.inr rfl, Or.inr rfl, Or.inl rfl, Or.inl rfl, trivial⟩ ?_
                 exact ih (j + 1) f (by omega) (by omega) (hf.trans (by first | exact (fcP_late (by omega) (by omega)).symm | exact (leastI_congr (fcP_n (fun q => q.1 b3))).symm | exact (leastI_congr (fcP_n (fun q => absurd (cross_cnt.mpr q.2) (by omega)))).symm)))
        · refine J_iload hC dX4_firstCrossedKite_36 rfl ?_
          refine J_iload hC dX4_firstCrossedKite_38 rfl ?_
          refine J_icmp_ge_z hC (nI_iI _) rfl (by omega) (by omega) (tgt := 47) dX4_firstCrossedKite_40 rfl (fun b2 => ?_) (fun b2 => ?_)
          · refine J_iconst (v := nI 0) hC dX4_firstCrossedKite_47 (by decide) ?_
            refine J_istore hC dX4_firstCrossedKite_48 (Nat.le_of_ble_eq_true rfl) rfl ?_
            dsimp only [List.set]
            refine J_iload hC dX4_firstCrossedKite_50 rfl ?_
            refine J_iload_n hC dX4_firstCrossedKite_52 rfl rfl ?_
            refine J_icmp_eq_n hC (by omega) (by omega) (tgt := 77) dX4_firstCrossedKite_53 rfl (fun b3 => ?_) (fun b3 => ?_)
            · refine J_iinc_n (m := 1) hC (by decide) dX4_firstCrossedKite_77 rfl (Nat.le_of_ble_eq_true rfl) rfl ?_
              dsimp only [List.set]
              refine J_goto (tgt := 6) hC dX4_firstCrossedKite_80 rfl ?_
              first
              | (have z := leastI_add (fcP_y b3 (cross_cnt.mp (by omega)))
                 rw [if_pos (by omega)] at z
                 rw [nI_iI (nv A (214 + 3 * j))]
                 refine J_less (ls' := [some (.ref (w.2.1 o 0)), some (.int (nI k)), some (.int (nI b)), some (.int (nI e)), some (.int (iI ((nv A (214 + 3 * j) : Nat) : Int))), some (.int (nI (j + 1))), none, none]) ⟨Or.inr rfl, Or.inr rfl, Or.inr rfl, Or.inr rfl, Or.inr rfl, Or.inr rfl, Or.inl rfl, Or.inl rfl, trivial⟩ ?_
                 exact ih (j + 1) _ (by omega) (by omega) z.symm)
              | (refine J_less (ls' := [some (.ref (w.2.1 o 0)), some (.int (nI k)), some (.int (nI b)), some (.int (nI e)), some (.int (iI f)), some (.int (nI (j + 1))), none, none]) ⟨Or.inr rfl, Or.inr rfl, Or.inr rfl, Or.inr rfl, Or.inr rfl, Or.inr rfl, Or.inl rfl, Or.inl rfl, trivial⟩ ?_
                 exact ih (j + 1) f (by omega) (by omega) (hf.trans (by first | exact (fcP_late (by omega) (by omega)).symm | exact (leastI_congr (fcP_n (fun q => q.1 b3))).symm | exact (leastI_congr (fcP_n (fun q => absurd (cross_cnt.mpr q.2) (by omega)))).symm)))
            · refine J_iload hC dX4_firstCrossedKite_56 rfl ?_
              refine J_if_eq_n hC (by decide) (tgt := 77) dX4_firstCrossedKite_58 rfl (fun _ => ?_) (fun hf => absurd hf (by omega))
              refine J_iinc_n (m := 1) hC (by decide) dX4_firstCrossedKite_77 rfl (Nat.le_of_ble_eq_true rfl) rfl ?_
              dsimp only [List.set]
              refine J_goto (tgt := 6) hC dX4_firstCrossedKite_80 rfl ?_
              first
              | (have z := leastI_add (fcP_y b3 (cross_cnt.mp (by omega)))
                 rw [if_pos (by omega)] at z
                 rw [nI_iI (nv A (214 + 3 * j))]
                 refine J_less (ls' := [some (.ref (w.2.1 o 0)), some (.int (nI k)), some (.int (nI b)), some (.int (nI e)), some (.int (iI ((nv A (214 + 3 * j) : Nat) : Int))), some (.int (nI (j + 1))), none, none]) ⟨Or.inr rfl, Or.inr rfl, Or.inr rfl, Or.inr rfl, Or.inr rfl, Or.inr rfl, Or.inl rfl, Or.inl rfl, trivial⟩ ?_
                 exact ih (j + 1) _ (by omega) (by omega) z.symm)
              | (refine J_less (ls' := [some (.ref (w.2.1 o 0)), some (.int (nI k)), some (.int (nI b)), some (.int (nI e)), some (.int (iI f)), some (.int (nI (j + 1))), none, none]) ⟨Or.inr rfl, Or.inr rfl, Or.inr rfl, Or.inr rfl, Or.inr rfl, Or.inr rfl, Or.inl rfl, Or.inl rfl, trivial⟩ ?_
                 exact ih (j + 1) f (by omega) (by omega) (hf.trans (by first | exact (fcP_late (by omega) (by omega)).symm | exact (leastI_congr (fcP_n (fun q => q.1 b3))).symm | exact (leastI_congr (fcP_n (fun q => absurd (cross_cnt.mpr q.2) (by omega)))).symm)))
          · refine J_iconst (v := nI 1) hC dX4_firstCrossedKite_43 (by decide) ?_
            refine J_goto (tgt := 48) hC dX4_firstCrossedKite_44 rfl ?_
            refine J_istore hC dX4_firstCrossedKite_48 (Nat.le_of_ble_eq_true rfl) rfl ?_
            dsimp only [List.set]
            refine J_iload hC dX4_firstCrossedKite_50 rfl ?_
            refine J_iload_n hC dX4_firstCrossedKite_52 rfl rfl ?_
            refine J_icmp_eq_n hC (by omega) (by omega) (tgt := 77) dX4_firstCrossedKite_53 rfl (fun b3 => ?_) (fun b3 => ?_)
            · refine J_iinc_n (m := 1) hC (by decide) dX4_firstCrossedKite_77 rfl (Nat.le_of_ble_eq_true rfl) rfl ?_
              dsimp only [List.set]
              refine J_goto (tgt := 6) hC dX4_firstCrossedKite_80 rfl ?_
              first
              | (have z := leastI_add (fcP_y b3 (cross_cnt.mp (by omega)))
                 rw [if_pos (by omega)] at z
                 rw [nI_iI (nv A (214 + 3 * j))]
                 refine J_less (ls' := [some (.ref (w.2.1 o 0)), some (.int (nI k)), some (.int (nI b)), some (.int (nI e)), some (.int (iI ((nv A (214 + 3 * j) : Nat) : Int))), some (.int (nI (j + 1))), none, none]) ⟨Or.inr rfl, Or.inr rfl, Or.inr rfl, Or.inr rfl, Or.inr rfl, Or.inr rfl, Or.inl rfl, Or.inl rfl, trivial⟩ ?_
                 exact ih (j + 1) _ (by omega) (by omega) z.symm)
              | (refine J_less (ls' := [some (.ref (w.2.1 o 0)), some (.int (nI k)), some (.int (nI b)), some (.int (nI e)), some (.int (iI f)), some (.int (nI (j + 1))), none, none]) ⟨Or.inr rfl, Or.inr rfl, Or.inr rfl, Or.inr rfl, Or.inr rfl, Or.inr rfl, Or.inl rfl, Or.inl rfl, trivial⟩ ?_
                 exact ih (j + 1) f (by omega) (by omega) (hf.trans (by first | exact (fcP_late (by omega) (by omega)).symm | exact (leastI_congr (fcP_n (fun q => q.1 b3))).symm | exact (leastI_congr (fcP_n (fun q => absurd (cross_cnt.mpr q.2) (by omega)))).symm)))
            · refine J_iload hC dX4_firstCrossedKite_56 rfl ?_
              refine J_if_eq_n hC (by decide) (tgt := 77) dX4_firstCrossedKite_58 rfl (fun hf => absurd hf (by omega)) (fun _ => ?_)
              refine J_aload_n hC dX4_firstCrossedKite_61 rfl rfl ?_
              refine J_iload_n hC dX4_firstCrossedKite_62 rfl rfl ?_
              refine J_iload hC dX4_firstCrossedKite_63 rfl ?_
              refine J_iload_n hC dX4_firstCrossedKite_65 rfl rfl ?_
              refine J_iload_n hC dX4_firstCrossedKite_66 rfl rfl ?_
              refine iX4_190 hC hw rfl ⟨by decide, by decide⟩ ⟨by decide, by decide⟩ (Nat.le_of_ble_eq_true rfl) dX4_firstCrossedKite_67 ?_
              refine c_X4_countCrossings hw hO hI hk bp (by omega) (by omega) ?_
              dsimp only [Option.toList_some, Option.toList_none, List.cons_append, List.nil_append]
              refine J_if_le_n hC (by have := cnt_le (fun i => crossN A k (nv A (214 + 3 * j)) (max b (nv A (214 + 3 * j + 1)) + i)) (min e (nv A (214 + 3 * j + 1) + nv A (214 + 3 * j + 2)) - max b (nv A (214 + 3 * j + 1))); omega) (tgt := 77) dX4_firstCrossedKite_70 rfl (fun b5 => ?_) (fun b5 => ?_)
              · refine J_iinc_n (m := 1) hC (by decide) dX4_firstCrossedKite_77 rfl (Nat.le_of_ble_eq_true rfl) rfl ?_
                dsimp only [List.set]
                refine J_goto (tgt := 6) hC dX4_firstCrossedKite_80 rfl ?_
                first
                | (have z := leastI_add (fcP_y b3 (cross_cnt.mp (by omega)))
                   rw [if_pos (by omega)] at z
                   rw [nI_iI (nv A (214 + 3 * j))]
                   refine J_less (ls' := [some (.ref (w.2.1 o 0)), some (.int (nI k)), some (.int (nI b)), some (.int (nI e)), some (.int (iI ((nv A (214 + 3 * j) : Nat) : Int))), some (.int (nI (j + 1))), none, none]) ⟨Or.inr rfl, Or.inr rfl, Or.inr rfl, Or.inr rfl, Or.inr rfl, Or.inr rfl, Or.inl rfl, Or.inl rfl, trivial⟩ ?_
                   exact ih (j + 1) _ (by omega) (by omega) z.symm)
                | (refine J_less (ls' := [some (.ref (w.2.1 o 0)), some (.int (nI k)), some (.int (nI b)), some (.int (nI e)), some (.int (iI f)), some (.int (nI (j + 1))), none, none]) ⟨Or.inr rfl, Or.inr rfl, Or.inr rfl, Or.inr rfl, Or.inr rfl, Or.inr rfl, Or.inl rfl, Or.inl rfl, trivial⟩ ?_
                   exact ih (j + 1) f (by omega) (by omega) (hf.trans (by first | exact (fcP_late (by omega) (by omega)).symm | exact (leastI_congr (fcP_n (fun q => q.1 b3))).symm | exact (leastI_congr (fcP_n (fun q => absurd (cross_cnt.mpr q.2) (by omega)))).symm)))
              · refine J_iload hC dX4_firstCrossedKite_73 rfl ?_
                refine J_istore hC dX4_firstCrossedKite_75 (Nat.le_of_ble_eq_true rfl) rfl ?_
                dsimp only [List.set]
                refine J_iinc_n (m := 1) hC (by decide) dX4_firstCrossedKite_77 rfl (Nat.le_of_ble_eq_true rfl) rfl ?_
                dsimp only [List.set]
                refine J_goto (tgt := 6) hC dX4_firstCrossedKite_80 rfl ?_
                first
                | (have z := leastI_add (fcP_y b3 (cross_cnt.mp (by omega)))
                   rw [if_pos (by omega)] at z
                   rw [nI_iI (nv A (214 + 3 * j))]
                   refine J_less (ls' := [some (.ref (w.2.1 o 0)), some (.int (nI k)), some (.int (nI b)), some (.int (nI e)), some (.int (iI ((nv A (214 + 3 * j) : Nat) : Int))), some (.int (nI (j + 1))), none, none]) ⟨Or.inr rfl, Or.inr rfl, Or.inr rfl, Or.inr rfl, Or.inr rfl, Or.inr rfl, Or.inl rfl, Or.inl rfl, trivial⟩ ?_
                   exact ih (j + 1) _ (by omega) (by omega) z.symm)
                | (refine J_less (ls' := [some (.ref (w.2.1 o 0)), some (.int (nI k)), some (.int (nI b)), some (.int (nI e)), some (.int (iI f)), some (.int (nI (j + 1))), none, none]) ⟨Or.inr rfl, Or.inr rfl, Or.inr rfl, Or.inr rfl, Or.inr rfl, Or.inr rfl, Or.inl rfl, Or.inl rfl, trivial⟩ ?_
                   exact ih (j + 1) f (by omega) (by omega) (hf.trans (by first | exact (fcP_late (by omega) (by omega)).symm | exact (leastI_congr (fcP_n (fun q => q.1 b3))).symm | exact (leastI_congr (fcP_n (fun q => absurd (cross_cnt.mpr q.2) (by omega)))).symm)))
  refine J_iconst (v := -1) hC dX4_firstCrossedKite_0 (by decide) ?_
  refine J_istore hC dX4_firstCrossedKite_1 (Nat.le_of_ble_eq_true rfl) rfl ?_
  dsimp only [List.set]
  refine J_iconst (v := nI 0) hC dX4_firstCrossedKite_3 (by decide) ?_
  refine J_istore hC dX4_firstCrossedKite_4 (Nat.le_of_ble_eq_true rfl) rfl ?_
  dsimp only [List.set]
  exact lp (nv A 11 + 1) 0 (-1) (by omega) (by omega) (leastI_none (fun i ⟨p, hp, _⟩ => absurd hp (Nat.not_lt_zero p))).symm
