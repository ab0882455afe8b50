set_option maxHeartbeats 4000000 in
set_option maxRecDepth 100000 in
theorem c_X10_refusal {G : GC} {w : Lay} {σ : Mem} {Q : Lay → Option Value → Mem → Prop} {Qx : Lay → String → Mem → Prop} {hm : Nat} (hM : LM w) (hI : RowOK hm (rd σ 13 1)) {k s d : Nat} (hk : k < nv (rd σ 13 1) 6) (hs0 : s ≤ 1000000) (hd0 : d ≤ 24) (hh : nv (rd σ 13 1) 7 < 2 ^ 31) (hq : Q w (some (.int (nI (refuse (rd σ 13 1) k s d)))) σ) : MX10_refusal G w σ [.ref (w.2.1 13 0), .int (nI k), .int (nI s), .int (nI d)] Q Qx := by
  refine mt_start (by decide) rfl (Nat.le_of_ble_eq_true rfl) (fun E hC hR hN => ?_)
  show J G E w 0 0 0 [some (.ref (w.2.1 13 0)), some (.int (nI k)), some (.int (nI s)), some (.int (nI d)), none, none, none] [] σ
  have h1 := r_NK hI
  have h2 := r_KC hI hk
  have h3 := r_NC hI
  have h4 := r_HOUR hI
  have h5 := r_NP hI
  have h6 := r_Q hI h2.2
  have h7 := r_FEE hI
  have h8 := inWay_rng hI k s d
  have j135 : (¬ s < nv (rd σ 13 1) 7) → (¬ nv (rd σ 13 1) 11 = 30) → (¬ ∃ h, s ≤ h ∧ h < s + d ∧ permN (rd σ 13 1) k h) → (¬ ∃ h, s ≤ h ∧ h < s + d ∧ nv (rd σ 13 1) (64 + nv (rd σ 13 1) (70 + 9 * k + 3)) ≤ usedN (rd σ 13 1) (nv (rd σ 13 1) (70 + 9 * k + 3)) h) → (¬ ∃ h, s ≤ h ∧ h < s + d ∧ ¬ fliesN (rd σ 13 1) k h) →  J G E w 0 0 135 [some (.ref (w.2.1 13 0)), some (.int (nI k)), some (.int (nI s)), some (.int (nI d)), some (.int (nI (nv (rd σ 13 1) (70 + 9 * k + 3)))), some (.int (nI (s + d))), none] [] σ := by
    intro  n1 n2 n3 n4 n5
    refine J_aload_n hC dX10_refusal_135 rfl rfl ?_
    refine J_iload_n hC dX10_refusal_136 rfl rfl ?_
    refine J_iload_n hC dX10_refusal_137 rfl rfl ?_
    refine J_iload_n hC dX10_refusal_138 rfl rfl ?_
    refine iX10_153 hC hM rfl ⟨by decide, by decide⟩ ⟨by decide, by decide⟩ (Nat.le_of_ble_eq_true rfl) dX10_refusal_139 ?_
    refine c_X10_inTheWay hM hI hk (by omega) (by omega) ?_
    dsimp only [Option.toList_some, Option.toList_none, List.cons_append, List.nil_append]
    refine J_if_lt_z hC rfl (by omega) (tgt := 148) dX10_refusal_142 rfl (fun gw => ?_) (fun gw => ?_)
    · refine J_aload_n hC dX10_refusal_148 rfl rfl ?_
      refine J_iload_n hC dX10_refusal_149 rfl rfl ?_
      refine J_iconst (v := nI 5) hC dX10_refusal_150 (by decide) ?_
      refine iX10_79 hC hM rfl ⟨by decide, by decide⟩ ⟨by decide, by decide⟩ (Nat.le_of_ble_eq_true rfl) dX10_refusal_151 ?_
      refine c_X10_of hM (by omega) ?_
      dsimp only [Option.toList_some, Option.toList_none, List.cons_append, List.nil_append]
      refine J_aload_n hC dX10_refusal_154 rfl rfl ?_
      refine gX10_7 hC hM dX10_refusal_155 ?_
      refine J_iconst (v := nI 2) hC dX10_refusal_158 (by decide) ?_
      refine J_iaload hC (hM.1 1 (by decide)) rfl rfl (by omega) (by decide) dX10_refusal_159 ?_
      refine J_top h7.1 ?_
      refine J_iload_n hC dX10_refusal_160 rfl rfl ?_
      refine J_imul_n hC dX10_refusal_161 ?_
      refine J_icmp_ge hC (tgt := 170) dX10_refusal_162 rfl (fun gm => ?_) (fun gm => ?_)
      · refine J_iconst (v := nI 0) hC dX10_refusal_170 (by decide) ?_
        refine J_ireturn hC hR dX10_refusal_171 (by decide) (by decide) ?_
        have e : refuse (rd σ 13 1) k s d = 0 := by
          unfold refuse
          rw [if_neg n1, if_neg n2, if_neg n3, if_neg n4, if_neg n5, if_neg (by omega), if_neg (by rw [Int32.le_iff_toInt_le] at gm; rw [Int32.lt_iff_toInt_lt]; omega)]
        rw [e] at hq
        exact hq
      · refine J_bipush (v := nI 7) hC dX10_refusal_165 (by decide) ?_
        refine J_goto (tgt := 171) hC dX10_refusal_167 rfl ?_
        refine J_ireturn hC hR dX10_refusal_171 (by decide) (by decide) ?_
        have e : refuse (rd σ 13 1) k s d = 7 := by
          unfold refuse
          rw [if_neg n1, if_neg n2, if_neg n3, if_neg n4, if_neg n5, if_neg (by omega), if_pos (by rw [Int32.le_iff_toInt_le] at gm; rw [Int32.lt_iff_toInt_lt]; omega)]
        rw [e] at hq
        exact hq
    · refine J_bipush (v := nI 6) hC dX10_refusal_145 (by decide) ?_
      refine J_ireturn hC hR dX10_refusal_147 (by decide) (by decide) ?_
      have e : refuse (rd σ 13 1) k s d = 6 := by
        unfold refuse
        rw [if_neg n1, if_neg n2, if_neg n3, if_neg n4, if_neg n5, if_pos gw]
      rw [e] at hq
      exact hq
  have l110 : ∀ (dd : Nat) (t : Nat), s + d - t < dd → (¬ s < nv (rd σ 13 1) 7) → (¬ nv (rd σ 13 1) 11 = 30) → (¬ ∃ h, s ≤ h ∧ h < s + d ∧ permN (rd σ 13 1) k h) → (¬ ∃ h, s ≤ h ∧ h < s + d ∧ nv (rd σ 13 1) (64 + nv (rd σ 13 1) (70 + 9 * k + 3)) ≤ usedN (rd σ 13 1) (nv (rd σ 13 1) (70 + 9 * k + 3)) h) → (s ≤ t) → (t ≤ s + d) → (∀ u, s ≤ u → u < t → ¬ ¬ fliesN (rd σ 13 1) k u) →  J G E w 0 0 110 [some (.ref (w.2.1 13 0)), some (.int (nI k)), some (.int (nI s)), some (.int (nI d)), some (.int (nI (nv (rd σ 13 1) (70 + 9 * k + 3)))), some (.int (nI (s + d))), some (.int (nI t))] [] σ := by
    intro dd
    induction dd with
    | zero =>
      intro t hdd
      exact absurd hdd (Nat.not_lt_zero _)
    | succ dd ih =>
      intro t hdd n1 n2 n3 n4 hs ht hn
      refine J_iload hC dX10_refusal_110 rfl ?_
      refine J_iload hC dX10_refusal_112 rfl ?_
      refine J_icmp_ge_n hC (by omega) (by omega) (tgt := 135) dX10_refusal_114 rfl (fun hb => ?_) (fun hb => ?_)
      · refine J_less (ls' := [some (.ref (w.2.1 13 0)), some (.int (nI k)), some (.int (nI s)), some (.int (nI d)), some (.int (nI (nv (rd σ 13 1) (70 + 9 * k + 3)))), some (.int (nI (s + d))), none]) ⟨Or.inr rfl, Or.inr rfl, Or.inr rfl, Or.inr rfl, Or.inr rfl, Or.inr rfl, Or.inl rfl, trivial⟩ ?_
        exact j135 n1 n2 n3 n4 (fun ⟨u, a1, a2, a3⟩ => hn u a1 (by omega) a3)
      · refine J_aload_n hC dX10_refusal_117 rfl rfl ?_
        refine J_iload_n hC dX10_refusal_118 rfl rfl ?_
        refine J_iload hC dX10_refusal_119 rfl ?_
        refine iX10_150 hC hM rfl ⟨by decide, by decide⟩ ⟨by decide, by decide⟩ (Nat.le_of_ble_eq_true rfl) dX10_refusal_121 ?_
        refine c_X10_flies hM hI hk (by omega) (fun gf => ?_) (fun gf => ?_)
        · dsimp only [Option.toList_some, Option.toList_none, List.cons_append, List.nil_append]
          refine J_if_ne_n hC (by decide) (tgt := 129) dX10_refusal_124 rfl (fun _ => ?_) (fun hf => absurd hf (by omega))
          refine J_iinc_n (m := 1) hC (by decide) dX10_refusal_129 rfl (Nat.le_of_ble_eq_true rfl) rfl ?_
          dsimp only [List.set]
          refine J_goto (tgt := 110) hC dX10_refusal_132 rfl ?_
          exact ih (t + 1) (by omega) n1 n2 n3 n4 (by omega) (by omega) (fun u a1 a2 => by
            rcases Nat.lt_or_ge u t with g | g
            · exact hn u a1 g
            · have e : u = t := by omega
              subst e
              exact fun q => q gf)
        · dsimp only [Option.toList_some, Option.toList_none, List.cons_append, List.nil_append]
          refine J_if_ne_n hC (by decide) (tgt := 129) dX10_refusal_124 rfl (fun hf => absurd hf (by omega)) (fun _ => ?_)
          refine J_iconst (v := nI 5) hC dX10_refusal_127 (by decide) ?_
          refine J_ireturn hC hR dX10_refusal_128 (by decide) (by decide) ?_
          have e : refuse (rd σ 13 1) k s d = 5 := by
            unfold refuse
            rw [if_neg n1, if_neg n2, if_neg n3, if_neg n4, if_pos ⟨t, hs, hb, gf⟩]
          rw [e] at hq
          exact hq
  have l71 : ∀ (dd : Nat) (t : Nat), s + d - t < dd → (¬ s < nv (rd σ 13 1) 7) → (¬ nv (rd σ 13 1) 11 = 30) → (¬ ∃ h, s ≤ h ∧ h < s + d ∧ permN (rd σ 13 1) k h) → (s ≤ t) → (t ≤ s + d) → (∀ u, s ≤ u → u < t → ¬ nv (rd σ 13 1) (64 + nv (rd σ 13 1) (70 + 9 * k + 3)) ≤ usedN (rd σ 13 1) (nv (rd σ 13 1) (70 + 9 * k + 3)) u) →  J G E w 0 0 71 [some (.ref (w.2.1 13 0)), some (.int (nI k)), some (.int (nI s)), some (.int (nI d)), some (.int (nI (nv (rd σ 13 1) (70 + 9 * k + 3)))), some (.int (nI (s + d))), some (.int (nI t))] [] σ := by
    intro dd
    induction dd with
    | zero =>
      intro t hdd
      exact absurd hdd (Nat.not_lt_zero _)
    | succ dd ih =>
      intro t hdd n1 n2 n3 hs ht hn
      refine J_iload hC dX10_refusal_71 rfl ?_
      refine J_iload hC dX10_refusal_73 rfl ?_
      refine J_icmp_ge_n hC (by omega) (by omega) (tgt := 107) dX10_refusal_75 rfl (fun hb => ?_) (fun hb => ?_)
      · refine J_iload_n hC dX10_refusal_107 rfl rfl ?_
        refine J_istore hC dX10_refusal_108 (Nat.le_of_ble_eq_true rfl) rfl ?_
        dsimp only [List.set]
        exact l110 (s + d + 1) s (by omega) n1 n2 n3 (fun ⟨u, a1, a2, a3⟩ => hn u a1 (by omega) a3) (by omega) (by omega) (fun u a1 a2 => absurd a2 (by omega))
      · refine J_aload_n hC dX10_refusal_78 rfl rfl ?_
        refine J_iload hC dX10_refusal_79 rfl ?_
        refine J_iload hC dX10_refusal_81 rfl ?_
        refine iX10_147 hC hM rfl ⟨by decide, by decide⟩ ⟨by decide, by decide⟩ (Nat.le_of_ble_eq_true rfl) dX10_refusal_83 ?_
        refine c_X10_used hM hI (by omega) (by omega) ?_
        dsimp only [Option.toList_some, Option.toList_none, List.cons_append, List.nil_append]
        have hu : usedN (rd σ 13 1) (nv (rd σ 13 1) (70 + 9 * k + 3)) t ≤ 30 := Nat.le_trans (cnt_le _ _) h5.2
        refine J_aload_n hC dX10_refusal_86 rfl rfl ?_
        refine gX10_7 hC hM dX10_refusal_87 ?_
        refine J_bipush (v := nI 64) hC dX10_refusal_90 (by decide) ?_
        refine J_iload hC dX10_refusal_92 rfl ?_
        refine J_iadd_n hC dX10_refusal_94 ?_
        refine J_iaload hC (hM.1 1 (by decide)) rfl rfl (by omega) (by decide) dX10_refusal_95 ?_
        refine J_top h6.1 ?_
        refine J_icmp_lt_n hC (by omega) (by omega) (tgt := 101) dX10_refusal_96 rfl (fun gu => ?_) (fun gu => ?_)
        · refine J_iinc_n (m := 1) hC (by decide) dX10_refusal_101 rfl (Nat.le_of_ble_eq_true rfl) rfl ?_
          dsimp only [List.set]
          refine J_goto (tgt := 71) hC dX10_refusal_104 rfl ?_
          exact ih (t + 1) (by omega) n1 n2 n3 (by omega) (by omega) (fun u a1 a2 => by
            rcases Nat.lt_or_ge u t with g | g
            · exact hn u a1 g
            · have e : u = t := by omega
              subst e
              exact fun q => by omega)
        · refine J_iconst (v := nI 4) hC dX10_refusal_99 (by decide) ?_
          refine J_ireturn hC hR dX10_refusal_100 (by decide) (by decide) ?_
          have e : refuse (rd σ 13 1) k s d = 4 := by
            unfold refuse
            rw [if_neg n1, if_neg n2, if_neg n3, if_pos ⟨t, hs, hb, gu⟩]
          rw [e] at hq
          exact hq
  have l43 : ∀ (dd : Nat) (t : Nat), s + d - t < dd → (¬ s < nv (rd σ 13 1) 7) → (¬ nv (rd σ 13 1) 11 = 30) → (s ≤ t) → (t ≤ s + d) → (∀ u, s ≤ u → u < t → ¬ permN (rd σ 13 1) k u) →  J G E w 0 0 43 [some (.ref (w.2.1 13 0)), some (.int (nI k)), some (.int (nI s)), some (.int (nI d)), some (.int (nI (nv (rd σ 13 1) (70 + 9 * k + 3)))), some (.int (nI (s + d))), some (.int (nI t))] [] σ := by
    intro dd
    induction dd with
    | zero =>
      intro t hdd
      exact absurd hdd (Nat.not_lt_zero _)
    | succ dd ih =>
      intro t hdd n1 n2 hs ht hn
      refine J_iload hC dX10_refusal_43 rfl ?_
      refine J_iload hC dX10_refusal_45 rfl ?_
      refine J_icmp_ge_n hC (by omega) (by omega) (tgt := 68) dX10_refusal_47 rfl (fun hb => ?_) (fun hb => ?_)
      · refine J_iload_n hC dX10_refusal_68 rfl rfl ?_
        refine J_istore hC dX10_refusal_69 (Nat.le_of_ble_eq_true rfl) rfl ?_
        dsimp only [List.set]
        exact l71 (s + d + 1) s (by omega) n1 n2 (fun ⟨u, a1, a2, a3⟩ => hn u a1 (by omega) a3) (by omega) (by omega) (fun u a1 a2 => absurd a2 (by omega))
      · refine J_aload_n hC dX10_refusal_50 rfl rfl ?_
        refine J_iload_n hC dX10_refusal_51 rfl rfl ?_
        refine J_iload hC dX10_refusal_52 rfl ?_
        refine iX10_138 hC hM rfl ⟨by decide, by decide⟩ ⟨by decide, by decide⟩ (Nat.le_of_ble_eq_true rfl) dX10_refusal_54 ?_
        refine c_X10_permitted hM hI (by omega) (by omega) (fun gp => ?_) (fun gp => ?_)
        · dsimp only [Option.toList_some, Option.toList_none, List.cons_append, List.nil_append]
          refine J_if_eq_n hC (by decide) (tgt := 62) dX10_refusal_57 rfl (fun hf => absurd hf (by omega)) (fun _ => ?_)
          refine J_iconst (v := nI 3) hC dX10_refusal_60 (by decide) ?_
          refine J_ireturn hC hR dX10_refusal_61 (by decide) (by decide) ?_
          have e : refuse (rd σ 13 1) k s d = 3 := by
            unfold refuse
            rw [if_neg n1, if_neg n2, if_pos ⟨t, hs, hb, gp⟩]
          rw [e] at hq
          exact hq
        · dsimp only [Option.toList_some, Option.toList_none, List.cons_append, List.nil_append]
          refine J_if_eq_n hC (by decide) (tgt := 62) dX10_refusal_57 rfl (fun _ => ?_) (fun hf => absurd hf (by omega))
          refine J_iinc_n (m := 1) hC (by decide) dX10_refusal_62 rfl (Nat.le_of_ble_eq_true rfl) rfl ?_
          dsimp only [List.set]
          refine J_goto (tgt := 43) hC dX10_refusal_65 rfl ?_
          exact ih (t + 1) (by omega) n1 n2 (by omega) (by omega) (fun u a1 a2 => by
            rcases Nat.lt_or_ge u t with g | g
            · exact hn u a1 g
            · have e : u = t := by omega
              subst e
              exact gp)
  refine J_aload_n hC dX10_refusal_0 rfl rfl ?_
  refine J_iload_n hC dX10_refusal_1 rfl rfl ?_
  refine J_iconst (v := nI 3) hC dX10_refusal_2 (by decide) ?_
  refine iX10_79 hC hM rfl ⟨by decide, by decide⟩ ⟨by decide, by decide⟩ (Nat.le_of_ble_eq_true rfl) dX10_refusal_3 ?_
  refine c_X10_of hM (by omega) ?_
  dsimp only [Option.toList_some, Option.toList_none, List.cons_append, List.nil_append]
  refine J_top h2.1 ?_
  refine J_istore hC dX10_refusal_6 (Nat.le_of_ble_eq_true rfl) rfl ?_
  dsimp only [List.set]
  refine J_iload_n hC dX10_refusal_8 rfl rfl ?_
  refine J_iload_n hC dX10_refusal_9 rfl rfl ?_
  refine J_iadd_n hC dX10_refusal_10 ?_
  refine J_istore hC dX10_refusal_11 (Nat.le_of_ble_eq_true rfl) rfl ?_
  dsimp only [List.set]
  refine J_iload_n hC dX10_refusal_13 rfl rfl ?_
  refine J_aload_n hC dX10_refusal_14 rfl rfl ?_
  refine gX10_7 hC hM dX10_refusal_15 ?_
  refine J_bipush (v := nI 7) hC dX10_refusal_18 (by decide) ?_
  refine J_iaload hC (hM.1 1 (by decide)) rfl rfl (by omega) (by decide) dX10_refusal_20 ?_
  refine J_top h4.1 ?_
  refine J_icmp_ge_n hC (by omega) (by omega) (tgt := 26) dX10_refusal_21 rfl (fun g1 => ?_) (fun g1 => ?_)
  · have n1 : ¬ s < nv (rd σ 13 1) 7 := by omega
    refine J_aload_n hC dX10_refusal_26 rfl rfl ?_
    refine gX10_7 hC hM dX10_refusal_27 ?_
    refine J_bipush (v := nI 11) hC dX10_refusal_30 (by decide) ?_
    refine J_iaload hC (hM.1 1 (by decide)) rfl rfl (by omega) (by decide) dX10_refusal_32 ?_
    refine J_top h5.1 ?_
    refine J_bipush (v := nI 30) hC dX10_refusal_33 (by decide) ?_
    refine J_icmp_ne_n hC (by omega) (by decide) (tgt := 40) dX10_refusal_35 rfl (fun g2 => ?_) (fun g2 => ?_)
    · refine J_iload_n hC dX10_refusal_40 rfl rfl ?_
      refine J_istore hC dX10_refusal_41 (Nat.le_of_ble_eq_true rfl) rfl ?_
      dsimp only [List.set]
      exact l43 (s + d + 1) s (by omega) n1 g2 (by omega) (by omega) (fun u a1 a2 => absurd a2 (by omega))
    · refine J_iconst (v := nI 2) hC dX10_refusal_38 (by decide) ?_
      
      refine J_ireturn hC hR dX10_refusal_39 (by decide) (by decide) ?_
      have e : refuse (rd σ 13 1) k s d = 2 := by
        unfold refuse
        rw [if_neg n1, if_pos g2]
      rw [e] at hq
      exact hq
  · refine J_iconst (v := nI 1) hC dX10_refusal_24 (by decide) ?_
    refine J_ireturn hC hR dX10_refusal_25 (by decide) (by decide) ?_
    have e : refuse (rd σ 13 1) k s d = 1 := by
      unfold refuse
      rw [if_pos g1]
    rw [e] at hq
    exact hq
set_option maxHeartbeats 4000000 in
set_option maxRecDepth 100000 in
theorem c_X10_count {G : GC} {w : Lay} {σ : Mem} {Q : Lay → Option Value → Mem → Prop} {Qx : Lay → String → Mem → Prop} {hm : Nat} (hM : LM w) (hI : RowOK hm (rd σ 13 1)) {c : Nat} (hc0 : c < 2 ^ 31) (hq : Q w (some (.int (nI (stN (rd σ 13 1) c)))) σ) : MX10_count G w σ [.ref (w.2.1 13 0), .int (nI c)] Q Qx := by
  refine mt_start (by decide) rfl (Nat.le_of_ble_eq_true rfl) (fun E hC hR hN => ?_)
  show J G E w 0 0 0 [some (.ref (w.2.1 13 0)), some (.int (nI c)), none, none] [] σ
  have h1 := r_NK hI
  have lp : ∀ (dd : Nat) (i : Nat), nv (rd σ 13 1) 6 - i < dd → (i ≤ nv (rd σ 13 1) 6) →  J G E w 0 0 4 [some (.ref (w.2.1 13 0)), some (.int (nI c)), some (.int (nI (cnt (fun k => nv (rd σ 13 1) (70 + 9 * k + 6) = c) i))), some (.int (nI i))] [] σ := by
    intro dd
    induction dd with
    | zero =>
      intro i hdd
      exact absurd hdd (Nat.not_lt_zero _)
    | succ dd ih =>
      intro i hdd hi
      refine J_iload_n hC dX10_count_4 rfl rfl ?_
      refine J_aload_n hC dX10_count_5 rfl rfl ?_
      refine gX10_7 hC hM dX10_count_6 ?_
      refine J_bipush (v := nI 6) hC dX10_count_9 (by decide) ?_
      refine J_iaload hC (hM.1 1 (by decide)) rfl rfl (by omega) (by decide) dX10_count_11 ?_
      refine J_top h1.1 ?_
      refine J_icmp_ge_n hC (by omega) (by omega) (tgt := 35) dX10_count_12 rfl (fun hb => ?_) (fun hb => ?_)
      · refine J_iload_n hC dX10_count_35 rfl rfl ?_
        refine J_ireturn hC hR dX10_count_36 (by decide) (by decide) ?_
        have e : i = nv (rd σ 13 1) 6 := by omega
        subst e
        exact hq
      · refine J_aload_n hC dX10_count_15 rfl rfl ?_
        refine J_iload_n hC dX10_count_16 rfl rfl ?_
        refine J_bipush (v := nI 6) hC dX10_count_17 (by decide) ?_
        refine iX10_79 hC hM rfl ⟨by decide, by decide⟩ ⟨by decide, by decide⟩ (Nat.le_of_ble_eq_true rfl) dX10_count_19 ?_
        refine c_X10_of hM (by omega) ?_
        dsimp only [Option.toList_some, Option.toList_none, List.cons_append, List.nil_append]
        have g1 := r_KS hI hb
        refine J_top (r_KS hI hb).1 ?_
        refine J_iload_n hC dX10_count_22 rfl rfl ?_
        refine J_icmp_ne_n hC (by omega) (by omega) (tgt := 29) dX10_count_23 rfl (fun hk => ?_) (fun hk => ?_)
        · have e0 : ct ((fun k => nv (rd σ 13 1) (70 + 9 * k + 6) = c) i) = 0 := ct_f hk
          refine J_iinc_n (m := 1) hC (by decide) dX10_count_29 rfl (Nat.le_of_ble_eq_true rfl) rfl ?_
          dsimp only [List.set]
          refine J_goto (tgt := 4) hC dX10_count_32 rfl ?_
          have e : cnt (fun k => nv (rd σ 13 1) (70 + 9 * k + 6) = c) i + ct ((fun k => nv (rd σ 13 1) (70 + 9 * k + 6) = c) i) = cnt (fun k => nv (rd σ 13 1) (70 + 9 * k + 6) = c) (i + 1) := rfl
          rw [e0] at e
          try simp only [Nat.add_zero] at e
          exact J_cong (ih (i + 1) (by omega) (by omega)) (h2 := by rw [← e])
        · have e0 : ct ((fun k => nv (rd σ 13 1) (70 + 9 * k + 6) = c) i) = 1 := ct_t hk
          refine J_iinc_n (m := 1) hC (by decide) dX10_count_26 rfl (Nat.le_of_ble_eq_true rfl) rfl ?_
          dsimp only [List.set]
          refine J_iinc_n (m := 1) hC (by decide) dX10_count_29 rfl (Nat.le_of_ble_eq_true rfl) rfl ?_
          dsimp only [List.set]
          refine J_goto (tgt := 4) hC dX10_count_32 rfl ?_
          have e : cnt (fun k => nv (rd σ 13 1) (70 + 9 * k + 6) = c) i + ct ((fun k => nv (rd σ 13 1) (70 + 9 * k + 6) = c) i) = cnt (fun k => nv (rd σ 13 1) (70 + 9 * k + 6) = c) (i + 1) := rfl
          rw [e0] at e
          try simp only [Nat.add_zero] at e
          exact J_cong (ih (i + 1) (by omega) (by omega)) (h2 := by rw [← e])
  refine J_iconst (v := nI 0) hC dX10_count_0 (by decide) ?_
  refine J_istore_n hC dX10_count_1 rfl (Nat.le_of_ble_eq_true rfl) rfl ?_
  dsimp only [List.set]
  refine J_iconst (v := nI 0) hC dX10_count_2 (by decide) ?_
  refine J_istore_n hC dX10_count_3 rfl (Nat.le_of_ble_eq_true rfl) rfl ?_
  dsimp only [List.set]
  exact lp (nv (rd σ 13 1) 6 + 1) 0 (by omega) (by omega)
set_option maxHeartbeats 4000000 in
set_option maxRecDepth 100000 in
theorem c_X10_guilty {G : GC} {w : Lay} {σ : Mem} {Q : Lay → Option Value → Mem → Prop} {Qx : Lay → String → Mem → Prop} {hm : Nat} (hM : LM w) (hI : RowOK hm (rd σ 13 1)) {k i : Nat} (hk : k < nv (rd σ 13 1) 6) (hi : i < nv (rd σ 13 1) 6) (hh : nv (rd σ 13 1) 7 < 2 ^ 31) (hq : Q w (some (.int (nI (guiltN (rd σ 13 1) k i)))) σ) : MX10_guilty G w σ [.ref (w.2.1 13 0), .int (nI k), .int (nI i)] Q Qx := by
  refine mt_start (by decide) rfl (Nat.le_of_ble_eq_true rfl) (fun E hC hR hN => ?_)
  show J G E w 0 0 0 [some (.ref (w.2.1 13 0)), some (.int (nI k)), some (.int (nI i)), none, none] [] σ
  have h1 := r_NK hI
  have h2 := r_HOUR hI
  refine J_aload_n hC dX10_guilty_0 rfl rfl ?_
  refine J_iload_n hC dX10_guilty_1 rfl rfl ?_
  refine J_aload_n hC dX10_guilty_2 rfl rfl ?_
  refine gX10_7 hC hM dX10_guilty_3 ?_
  refine J_bipush (v := nI 7) hC dX10_guilty_6 (by decide) ?_
  refine J_iaload hC (hM.1 1 (by decide)) rfl rfl (by omega) (by decide) dX10_guilty_8 ?_
  refine J_top h2.1 ?_
  refine iX10_138 hC hM rfl ⟨by decide, by decide⟩ ⟨by decide, by decide⟩ (Nat.le_of_ble_eq_true rfl) dX10_guilty_9 ?_
  refine c_X10_permitted hM hI (by omega) (by omega) (fun pk => ?_) (fun pk => ?_)
  · dsimp only [Option.toList_some, Option.toList_none, List.cons_append, List.nil_append]
    refine J_istore_n hC dX10_guilty_12 rfl (Nat.le_of_ble_eq_true rfl) rfl ?_
    dsimp only [List.set]
    refine J_aload_n hC dX10_guilty_13 rfl rfl ?_
    refine J_iload_n hC dX10_guilty_14 rfl rfl ?_
    refine J_aload_n hC dX10_guilty_15 rfl rfl ?_
    refine gX10_7 hC hM dX10_guilty_16 ?_
    refine J_bipush (v := nI 7) hC dX10_guilty_19 (by decide) ?_
    refine J_iaload hC (hM.1 1 (by decide)) rfl rfl (by omega) (by decide) dX10_guilty_21 ?_
    refine J_top h2.1 ?_
    refine iX10_138 hC hM rfl ⟨by decide, by decide⟩ ⟨by decide, by decide⟩ (Nat.le_of_ble_eq_true rfl) dX10_guilty_22 ?_
    refine c_X10_permitted hM hI (by omega) (by omega) (fun pi => ?_) (fun pi => ?_)
    · dsimp only [Option.toList_some, Option.toList_none, List.cons_append, List.nil_append]
      refine J_istore hC dX10_guilty_25 (Nat.le_of_ble_eq_true rfl) rfl ?_
      dsimp only [List.set]
      refine J_iload_n hC dX10_guilty_27 rfl rfl ?_
      refine J_iload hC dX10_guilty_28 rfl ?_
      refine J_icmp_eq_n hC (by decide) (by decide) (tgt := 43) dX10_guilty_30 rfl (fun _ => ?_) (fun hf => absurd hf (by omega))
      refine J_aload_n hC dX10_guilty_43 rfl rfl ?_
      refine J_iload_n hC dX10_guilty_44 rfl rfl ?_
      refine J_bipush (v := nI 8) hC dX10_guilty_45 (by decide) ?_
      refine iX10_79 hC hM rfl ⟨by decide, by decide⟩ ⟨by decide, by decide⟩ (Nat.le_of_ble_eq_true rfl) dX10_guilty_47 ?_
      refine c_X10_of hM (by omega) ?_
      dsimp only [Option.toList_some, Option.toList_none, List.cons_append, List.nil_append]
      refine J_aload_n hC dX10_guilty_50 rfl rfl ?_
      refine J_iload_n hC dX10_guilty_51 rfl rfl ?_
      refine J_bipush (v := nI 8) hC dX10_guilty_52 (by decide) ?_
      refine iX10_79 hC hM rfl ⟨by decide, by decide⟩ ⟨by decide, by decide⟩ (Nat.le_of_ble_eq_true rfl) dX10_guilty_54 ?_
      refine c_X10_of hM (by omega) ?_
      dsimp only [Option.toList_some, Option.toList_none, List.cons_append, List.nil_append]
      refine J_icmp_le hC (tgt := 64) dX10_guilty_57 rfl (fun gl => ?_) (fun gl => ?_)
      · refine J_iload_n hC dX10_guilty_64 rfl rfl ?_
        refine J_ireturn hC hR dX10_guilty_65 (by decide) (by decide) ?_
        first
        | exact Qn (guiltN_a pk pi) hq
        | exact Qn (guiltN_b pk pi) hq
        | exact Qn (guiltN_c (iff_of_true pk pi) gl) hq
        | exact Qn (guiltN_c (iff_of_false pk pi) gl) hq
        | exact Qn (guiltN_d (iff_of_true pk pi) gl) hq
        | exact Qn (guiltN_d (iff_of_false pk pi) gl) hq
      · refine J_iload_n hC dX10_guilty_60 rfl rfl ?_
        refine J_goto (tgt := 65) hC dX10_guilty_61 rfl ?_
        refine J_ireturn hC hR dX10_guilty_65 (by decide) (by decide) ?_
        first
        | exact Qn (guiltN_a pk pi) hq
        | exact Qn (guiltN_b pk pi) hq
        | exact Qn (guiltN_c (iff_of_true pk pi) gl) hq
        | exact Qn (guiltN_c (iff_of_false pk pi) gl) hq
        | exact Qn (guiltN_d (iff_of_true pk pi) gl) hq
        | exact Qn (guiltN_d (iff_of_false pk pi) gl) hq
    · dsimp only [Option.toList_some, Option.toList_none, List.cons_append, List.nil_append]
      refine J_istore hC dX10_guilty_25 (Nat.le_of_ble_eq_true rfl) rfl ?_
      dsimp only [List.set]
      refine J_iload_n hC dX10_guilty_27 rfl rfl ?_
      refine J_iload hC dX10_guilty_28 rfl ?_
      refine J_icmp_eq_n hC (by decide) (by decide) (tgt := 43) dX10_guilty_30 rfl (fun hf => absurd hf (by omega)) (fun _ => ?_)
      refine J_iload_n hC dX10_guilty_33 rfl rfl ?_
      refine J_if_eq_n hC (by decide) (tgt := 41) dX10_guilty_34 rfl (fun hf => absurd hf (by omega)) (fun _ => ?_)
      refine J_iload_n hC dX10_guilty_37 rfl rfl ?_
      refine J_goto (tgt := 42) hC dX10_guilty_38 rfl ?_
      refine J_ireturn hC hR dX10_guilty_42 (by decide) (by decide) ?_
      first
      | exact Qn (guiltN_a pk pi) hq
      | exact Qn (guiltN_b pk pi) hq
      | exact Qn (guiltN_c (iff_of_true pk pi) gl) hq
      | exact Qn (guiltN_c (iff_of_false pk pi) gl) hq
      | exact Qn (guiltN_d (iff_of_true pk pi) gl) hq
      | exact Qn (guiltN_d (iff_of_false pk pi) gl) hq
  · dsimp only [Option.toList_some, Option.toList_none, List.cons_append, List.nil_append]
    refine J_istore_n hC dX10_guilty_12 rfl (Nat.le_of_ble_eq_true rfl) rfl ?_
    dsimp only [List.set]
    refine J_aload_n hC dX10_guilty_13 rfl rfl ?_
    refine J_iload_n hC dX10_guilty_14 rfl rfl ?_
    refine J_aload_n hC dX10_guilty_15 rfl rfl ?_
    refine gX10_7 hC hM dX10_guilty_16 ?_
    refine J_bipush (v := nI 7) hC dX10_guilty_19 (by decide) ?_
    refine J_iaload hC (hM.1 1 (by decide)) rfl rfl (by omega) (by decide) dX10_guilty_21 ?_
    refine J_top h2.1 ?_
    refine iX10_138 hC hM rfl ⟨by decide, by decide⟩ ⟨by decide, by decide⟩ (Nat.le_of_ble_eq_true rfl) dX10_guilty_22 ?_
    refine c_X10_permitted hM hI (by omega) (by omega) (fun pi => ?_) (fun pi => ?_)
    · dsimp only [Option.toList_some, Option.toList_none, List.cons_append, List.nil_append]
      refine J_istore hC dX10_guilty_25 (Nat.le_of_ble_eq_true rfl) rfl ?_
      dsimp only [List.set]
      refine J_iload_n hC dX10_guilty_27 rfl rfl ?_
      refine J_iload hC dX10_guilty_28 rfl ?_
      refine J_icmp_eq_n hC (by decide) (by decide) (tgt := 43) dX10_guilty_30 rfl (fun hf => absurd hf (by omega)) (fun _ => ?_)
      refine J_iload_n hC dX10_guilty_33 rfl rfl ?_
      refine J_if_eq_n hC (by decide) (tgt := 41) dX10_guilty_34 rfl (fun _ => ?_) (fun hf => absurd hf (by omega))
      refine J_iload_n hC dX10_guilty_41 rfl rfl ?_
      refine J_ireturn hC hR dX10_guilty_42 (by decide) (by decide) ?_
      first
      | exact Qn (guiltN_a pk pi) hq
      | exact Qn (guiltN_b pk pi) hq
      | exact Qn (guiltN_c (iff_of_true pk pi) gl) hq
      | exact Qn (guiltN_c (iff_of_false pk pi) gl) hq
      | exact Qn (guiltN_d (iff_of_true pk pi) gl) hq
      | exact Qn (guiltN_d (iff_of_false pk pi) gl) hq
    · dsimp only [Option.toList_some, Option.toList_none, List.cons_append, List.nil_append]
      refine J_istore hC dX10_guilty_25 (Nat.le_of_ble_eq_true rfl) rfl ?_
      dsimp only [List.set]
      refine J_iload_n hC dX10_guilty_27 rfl rfl ?_
      refine J_iload hC dX10_guilty_28 rfl ?_
      refine J_icmp_eq_n hC (by decide) (by decide) (tgt := 43) dX10_guilty_30 rfl (fun _ => ?_) (fun hf => absurd hf (by omega))
      refine J_aload_n hC dX10_guilty_43 rfl rfl ?_
      refine J_iload_n hC dX10_guilty_44 rfl rfl ?_
      refine J_bipush (v := nI 8) hC dX10_guilty_45 (by decide) ?_
      refine iX10_79 hC hM rfl ⟨by decide, by decide⟩ ⟨by decide, by decide⟩ (Nat.le_of_ble_eq_true rfl) dX10_guilty_47 ?_
      refine c_X10_of hM (by omega) ?_
      dsimp only [Option.toList_some, Option.toList_none, List.cons_append, List.nil_append]
      refine J_aload_n hC dX10_guilty_50 rfl rfl ?_
      refine J_iload_n hC dX10_guilty_51 rfl rfl ?_
      refine J_bipush (v := nI 8) hC dX10_guilty_52 (by decide) ?_
      refine iX10_79 hC hM rfl ⟨by decide, by decide⟩ ⟨by decide, by decide⟩ (Nat.le_of_ble_eq_true rfl) dX10_guilty_54 ?_
      refine c_X10_of hM (by omega) ?_
      dsimp only [Option.toList_some, Option.toList_none, List.cons_append, List.nil_append]
      refine J_icmp_le hC (tgt := 64) dX10_guilty_57 rfl (fun gl => ?_) (fun gl => ?_)
      · refine J_iload_n hC dX10_guilty_64 rfl rfl ?_
        refine J_ireturn hC hR dX10_guilty_65 (by decide) (by decide) ?_
        first
        | exact Qn (guiltN_a pk pi) hq
        | exact Qn (guiltN_b pk pi) hq
        | exact Qn (guiltN_c (iff_of_true pk pi) gl) hq
        | exact Qn (guiltN_c (iff_of_false pk pi) gl) hq
        | exact Qn (guiltN_d (iff_of_true pk pi) gl) hq
        | exact Qn (guiltN_d (iff_of_false pk pi) gl) hq
      · refine J_iload_n hC dX10_guilty_60 rfl rfl ?_
        refine J_goto (tgt := 65) hC dX10_guilty_61 rfl ?_
        refine J_ireturn hC hR dX10_guilty_65 (by decide) (by decide) ?_
        first
        | exact Qn (guiltN_a pk pi) hq
        | exact Qn (guiltN_b pk pi) hq
        | exact Qn (guiltN_c (iff_of_true pk pi) gl) hq
        | exact Qn (guiltN_c (iff_of_false pk pi) gl) hq
        | exact Qn (guiltN_d (iff_of_true pk pi) gl) hq
        | exact Qn (guiltN_d (iff_of_false pk pi) gl) hq
set_option maxHeartbeats 4000000 in
set_option maxRecDepth 100000 in
theorem c_X10_canLaunch {G : GC} {w : Lay} {σ : Mem} {Q : Lay → Option Value → Mem → Prop} {Qx : Lay → String → Mem → Prop} {hm : Nat} (hM : LM w) (hI : RowOK hm (rd σ 13 1)) {k : Nat} (hk : k < nv (rd σ 13 1) 6) (hh : nv (rd σ 13 1) 7 < 2 ^ 31) (ht : canL (rd σ 13 1) k → Q w (some (.int (nI 1))) σ) (hf : ¬ (canL (rd σ 13 1) k) → Q w (some (.int (nI 0))) σ) : MX10_canLaunch G w σ [.ref (w.2.1 13 0), .int (nI k)] Q Qx := by
  refine mt_start (by decide) rfl (Nat.le_of_ble_eq_true rfl) (fun E hC hR hN => ?_)
  show J G E w 0 0 0 [some (.ref (w.2.1 13 0)), some (.int (nI k))] [] σ
  have h1 := r_NK hI
  have h2 := r_HOUR hI
  have h3 := r_KS hI hk
  refine J_aload_n hC dX10_canLaunch_0 rfl rfl ?_
  refine J_iload_n hC dX10_canLaunch_1 rfl rfl ?_
  refine J_bipush (v := nI 6) hC dX10_canLaunch_2 (by decide) ?_
  refine iX10_79 hC hM rfl ⟨by decide, by decide⟩ ⟨by decide, by decide⟩ (Nat.le_of_ble_eq_true rfl) dX10_canLaunch_4 ?_
  refine c_X10_of hM (by omega) ?_
  dsimp only [Option.toList_some, Option.toList_none, List.cons_append, List.nil_append]
  refine J_top h3.1 ?_
  refine J_if_ne_n hC (by omega) (tgt := 29) dX10_canLaunch_7 rfl (fun g1 => ?_) (fun g1 => ?_)
  · refine J_iconst (v := nI 0) hC dX10_canLaunch_29 (by decide) ?_
    refine J_zreturn hC hR dX10_canLaunch_30 (by decide) (by decide) (by decide) ?_
    exact hf (fun q => by first | exact g1 q.1 | exact g2 q.2)
  · refine J_aload_n hC dX10_canLaunch_10 rfl rfl ?_
    refine J_iload_n hC dX10_canLaunch_11 rfl rfl ?_
    refine J_aload_n hC dX10_canLaunch_12 rfl rfl ?_
    refine gX10_7 hC hM dX10_canLaunch_13 ?_
    refine J_bipush (v := nI 7) hC dX10_canLaunch_16 (by decide) ?_
    refine J_iaload hC (hM.1 1 (by decide)) rfl rfl (by omega) (by decide) dX10_canLaunch_18 ?_
    refine J_top h2.1 ?_
    refine iX10_150 hC hM rfl ⟨by decide, by decide⟩ ⟨by decide, by decide⟩ (Nat.le_of_ble_eq_true rfl) dX10_canLaunch_19 ?_
    refine c_X10_flies hM hI hk hh (fun g2 => ?_) (fun g2 => ?_)
    · dsimp only [Option.toList_some, Option.toList_none, List.cons_append, List.nil_append]
      refine J_if_eq_n hC (by decide) (tgt := 29) dX10_canLaunch_22 rfl (fun hf => absurd hf (by omega)) (fun _ => ?_)
      refine J_iconst (v := nI 1) hC dX10_canLaunch_25 (by decide) ?_
      refine J_goto (tgt := 30) hC dX10_canLaunch_26 rfl ?_
      refine J_zreturn hC hR dX10_canLaunch_30 (by decide) (by decide) (by decide) ?_
      exact ht ⟨g1, g2⟩
    · dsimp only [Option.toList_some, Option.toList_none, List.cons_append, List.nil_append]
      refine J_if_eq_n hC (by decide) (tgt := 29) dX10_canLaunch_22 rfl (fun _ => ?_) (fun hf => absurd hf (by omega))
      refine J_iconst (v := nI 0) hC dX10_canLaunch_29 (by decide) ?_
      refine J_zreturn hC hR dX10_canLaunch_30 (by decide) (by decide) (by decide) ?_
      exact hf (fun q => by first | exact g1 q.1 | exact g2 q.2)
set_option maxHeartbeats 4000000 in
set_option maxRecDepth 100000 in
theorem c_X10_canRepair {G : GC} {w : Lay} {σ : Mem} {Q : Lay → Option Value → Mem → Prop} {Qx : Lay → String → Mem → Prop} {hm : Nat} (hM : LM w) (hI : RowOK hm (rd σ 13 1)) {k : Nat} (hk : k < nv (rd σ 13 1) 6) (ht : canR (rd σ 13 1) k → Q w (some (.int (nI 1))) σ) (hf : ¬ (canR (rd σ 13 1) k) → Q w (some (.int (nI 0))) σ) : MX10_canRepair G w σ [.ref (w.2.1 13 0), .int (nI k)] Q Qx := by
  refine mt_start (by decide) rfl (Nat.le_of_ble_eq_true rfl) (fun E hC hR hN => ?_)
  show J G E w 0 0 0 [some (.ref (w.2.1 13 0)), some (.int (nI k))] [] σ
  have h1 := r_NK hI
  have h3 := r_KS hI hk
  have h4 := r_KN hI hk
  refine J_aload_n hC dX10_canRepair_0 rfl rfl ?_
  refine J_iload_n hC dX10_canRepair_1 rfl rfl ?_
  refine J_bipush (v := nI 6) hC dX10_canRepair_2 (by decide) ?_
  refine iX10_79 hC hM rfl ⟨by decide, by decide⟩ ⟨by decide, by decide⟩ (Nat.le_of_ble_eq_true rfl) dX10_canRepair_4 ?_
  refine c_X10_of hM (by omega) ?_
  dsimp only [Option.toList_some, Option.toList_none, List.cons_append, List.nil_append]
  refine J_top h3.1 ?_
  refine J_iconst (v := nI 2) hC dX10_canRepair_7 (by decide) ?_
  refine J_icmp_ne_n hC (by omega) (by decide) (tgt := 32) dX10_canRepair_8 rfl (fun g1 => ?_) (fun g1 => ?_)
  · refine J_iconst (v := nI 0) hC dX10_canRepair_32 (by decide) ?_
    refine J_zreturn hC hR dX10_canRepair_33 (by decide) (by decide) (by decide) ?_
    exact hf (fun q => by first | exact g1 q.1 | (have q2 := q.2; rw [Int32.lt_iff_toInt_lt] at g2; rw [Int32.le_iff_toInt_le] at q2; omega))
  · refine J_aload_n hC dX10_canRepair_11 rfl rfl ?_
    refine J_iload_n hC dX10_canRepair_12 rfl rfl ?_
    refine J_iconst (v := nI 5) hC dX10_canRepair_13 (by decide) ?_
    refine iX10_79 hC hM rfl ⟨by decide, by decide⟩ ⟨by decide, by decide⟩ (Nat.le_of_ble_eq_true rfl) dX10_canRepair_14 ?_
    refine c_X10_of hM (by omega) ?_
    dsimp only [Option.toList_some, Option.toList_none, List.cons_append, List.nil_append]
    refine J_iconst (v := nI 2) hC dX10_canRepair_17 (by decide) ?_
    refine J_aload_n hC dX10_canRepair_18 rfl rfl ?_
    refine J_iload_n hC dX10_canRepair_19 rfl rfl ?_
    refine J_iconst (v := nI 4) hC dX10_canRepair_20 (by decide) ?_
    refine iX10_79 hC hM rfl ⟨by decide, by decide⟩ ⟨by decide, by decide⟩ (Nat.le_of_ble_eq_true rfl) dX10_canRepair_21 ?_
    refine c_X10_of hM (by omega) ?_
    dsimp only [Option.toList_some, Option.toList_none, List.cons_append, List.nil_append]
    refine J_top h4.1 ?_
    refine J_imul_n hC dX10_canRepair_24 ?_
    refine J_icmp_lt hC (tgt := 32) dX10_canRepair_25 rfl (fun g2 => ?_) (fun g2 => ?_)
    · refine J_iconst (v := nI 0) hC dX10_canRepair_32 (by decide) ?_
      refine J_zreturn hC hR dX10_canRepair_33 (by decide) (by decide) (by decide) ?_
      exact hf (fun q => by first | exact g1 q.1 | (have q2 := q.2; rw [Int32.lt_iff_toInt_lt] at g2; rw [Int32.le_iff_toInt_le] at q2; omega))
    · refine J_iconst (v := nI 1) hC dX10_canRepair_28 (by decide) ?_
      refine J_goto (tgt := 33) hC dX10_canRepair_29 rfl ?_
      refine J_zreturn hC hR dX10_canRepair_33 (by decide) (by decide) (by decide) ?_
      exact ht ⟨g1, by rw [Int32.lt_iff_toInt_lt] at g2; rw [Int32.le_iff_toInt_le]; omega⟩
