set_option maxHeartbeats 4000000 in
set_option maxRecDepth 100000 in
theorem c_X9_isExecutable {G : GC} {w : Lay} {σ : Mem} {Q : Lay → Option Value → Mem → Prop} {Qx : Lay → String → Mem → Prop} (hK : LK w) (hL0 : LO w 0) {A : Rw} {hm : Nat} (hO : OAt σ 0 A) (hI : RowOK hm A) (hb31 : hm < 2 ^ 29) {C : Nat → Cmd} {n k : Nat} (hCM : CMc σ C n) (hkn : k < n) (hn20 : n ≤ 20)  (ht : doOK A (C k) → Q w (some (.int (nI 1))) σ) (hf : ¬ doOK A (C k) → Q w (some (.int (nI 0))) σ) : MX9_isExecutable G w σ [.ref (w.2.1 12 0), .int (nI k)] Q Qx := by
  refine mt_start (by decide) rfl (Nat.le_of_ble_eq_true rfl) (fun E hC hR hN => ?_)
  show J G E w 0 0 0 [some (.ref (w.2.1 12 0)), some (.int (nI k)), none, none] [] σ
  have g0 := hCM k hkn
  generalize C k = c at g0 ht hf
  obtain ⟨v, x, y, z⟩ := c
  obtain ⟨h8, h18, ⟨h9, h10, h11⟩, hc⟩ := g0
  dsimp only at h8 h18 h9 h10 h11 hc
  have h4 := r_NK hI
  have hh : nv A 7 < 2 ^ 31 := by have := (r_HOUR hI).2; omega
  refine J_aload_n hC dX9_isExecutable_0 rfl rfl ?_
  refine gX9_48 hC hK dX9_isExecutable_1 ?_
  refine gX9_164 hC hK dX9_isExecutable_4 ?_
  refine J_iload_n hC dX9_isExecutable_7 rfl rfl ?_
  refine J_iaload hC (hK.1 8 (by decide)) rfl rfl (by omega) (by decide) dX9_isExecutable_8 ?_
  refine J_top h8 ?_
  refine J_istore_n hC dX9_isExecutable_9 rfl (Nat.le_of_ble_eq_true rfl) rfl ?_
  dsimp only [List.set]
  refine J_aload_n hC dX9_isExecutable_10 rfl rfl ?_
  refine gX9_48 hC hK dX9_isExecutable_11 ?_
  refine gX9_168 hC hK dX9_isExecutable_14 ?_
  refine J_iload_n hC dX9_isExecutable_17 rfl rfl ?_
  refine J_iaload hC (hK.1 9 (by decide)) rfl rfl (by omega) (by decide) dX9_isExecutable_18 ?_
  refine J_top h9 ?_
  refine J_istore_n hC dX9_isExecutable_19 rfl (Nat.le_of_ble_eq_true rfl) rfl ?_
  dsimp only [List.set]
  refine J_iload_n hC dX9_isExecutable_20 rfl rfl ?_
  refine J_iconst (v := nI 3) hC dX9_isExecutable_21 (by decide) ?_
  refine J_icmp_ne_n hC (by omega) (by decide) (tgt := 27) dX9_isExecutable_22 rfl (fun b2 => ?_) (fun b2 => ?_)
  · refine J_aload_n hC dX9_isExecutable_27 rfl rfl ?_
    refine gX9_13 hC hK dX9_isExecutable_28 ?_
    refine J_iload_n hC dX9_isExecutable_31 rfl rfl ?_
    refine iX9_171 hC hL0 rfl ⟨by decide, by decide⟩ ⟨by decide, by decide⟩ (Nat.le_of_ble_eq_true rfl) dX9_isExecutable_32 ?_
    refine c_X4_hasKite hL0 hO hI (fun hkk => ?_) (fun hkk => ?_)
    · dsimp only [Option.toList_some, Option.toList_none, List.cons_append, List.nil_append]
      obtain ⟨k2, e2, hk2⟩ := hkk
      have e3 := congrArg cl e2
      have hx15 : x ≤ 15 := hc.2.1 b2
      rw [cl_n (by omega), cl_n (by omega)] at e3
      subst e3
      refine J_if_ne_n hC (by decide) (tgt := 40) dX9_isExecutable_35 rfl (fun _ => ?_) (fun hf => absurd hf (by omega))
      refine J_iload_n hC dX9_isExecutable_40 rfl rfl ?_
      have hv8 : v = 1 ∨ v = 2 ∨ v = 4 ∨ v = 5 ∨ v = 6 ∨ v = 7 ∨ v = 8 := by omega
      rcases hv8 with rfl | rfl | rfl | rfl | rfl | rfl | rfl
      · refine J_tableIn (off := 43) (tgt := 84) hC dX9_isExecutable_41 (by decide) (by decide) rfl rfl ?_
        refine J_aload_n hC dX9_isExecutable_84 rfl rfl ?_
        refine gX9_13 hC hK dX9_isExecutable_85 ?_
        refine J_iload_n hC dX9_isExecutable_88 rfl rfl ?_
        refine iX9_174 hC hL0 rfl ⟨by decide, by decide⟩ ⟨by decide, by decide⟩ (Nat.le_of_ble_eq_true rfl) dX9_isExecutable_89 ?_
        refine c_X4_isLaunchable hL0 hO hI hk2 hh (fun gc => ?_) (fun gc => ?_)
        · dsimp only [Option.toList_some, Option.toList_none, List.cons_append, List.nil_append]
          have fc := gc
          refine J_zreturn hC hR dX9_isExecutable_92 (by decide) (by decide) (by decide) ?_
          exact ht (Or.inr ⟨hk2, fun _ => fc, fun q => absurd (show (1 : Nat) = 2 from q) (by decide), fun q => absurd (show (1 : Nat) = 4 from q) (by decide), fun q => absurd (show (1 : Nat) = 6 from q) (by decide), fun q => absurd (show (1 : Nat) = 7 from q) (by decide)⟩)
        · dsimp only [Option.toList_some, Option.toList_none, List.cons_append, List.nil_append]
          refine J_zreturn hC hR dX9_isExecutable_92 (by decide) (by decide) (by decide) ?_
          exact hf (fun q => by
            rcases q with q | q
            · exact absurd (show (1 : Nat) = 3 from q) (by decide)
            · exact gc (q.2.1 rfl))
      · refine J_tableIn (off := 52) (tgt := 93) hC dX9_isExecutable_41 (by decide) (by decide) rfl rfl ?_
        refine J_aload_n hC dX9_isExecutable_93 rfl rfl ?_
        refine gX9_13 hC hK dX9_isExecutable_94 ?_
        refine gX9_141 hC hL0 dX9_isExecutable_97 ?_
        refine gX9_177 hC hL0 dX9_isExecutable_100 ?_
        refine J_iload_n hC dX9_isExecutable_103 rfl rfl ?_
        refine J_iaload hC (hL0.2.1 14 (by decide)) (kd_o hL0.1) rfl (by omega) (by decide) dX9_isExecutable_104 ?_
        have j1 := (r_KS hI hk2).2
        refine J_top (o_S hO hI hk2) ?_
        refine J_iconst (v := nI 1) hC dX9_isExecutable_105 (by decide) ?_
        refine J_icmp_ne_n hC (by omega) (by decide) (tgt := 113) dX9_isExecutable_106 rfl (fun s1 => ?_) (fun s1 => ?_)
        · have gc : ¬ A (70 + 9 * x + 6) = nI 1 := fun q => s1 (nv_of q (by decide))
          refine J_iconst (v := nI 0) hC dX9_isExecutable_113 (by decide) ?_
          refine J_zreturn hC hR dX9_isExecutable_114 (by decide) (by decide) (by decide) ?_
          exact hf (fun q => by
            rcases q with q | q
            · exact absurd (show (2 : Nat) = 3 from q) (by decide)
            · exact gc (q.2.2.1 rfl))
        · have fc : A (70 + 9 * x + 6) = nI 1 := by rw [(r_KS hI hk2).1, s1]
          refine J_iconst (v := nI 1) hC dX9_isExecutable_109 (by decide) ?_
          refine J_goto (tgt := 114) hC dX9_isExecutable_110 rfl ?_
          refine J_zreturn hC hR dX9_isExecutable_114 (by decide) (by decide) (by decide) ?_
          exact ht (Or.inr ⟨hk2, fun q => absurd (show (2 : Nat) = 1 from q) (by decide), fun _ => fc, fun q => absurd (show (2 : Nat) = 4 from q) (by decide), fun q => absurd (show (2 : Nat) = 6 from q) (by decide), fun q => absurd (show (2 : Nat) = 7 from q) (by decide)⟩)
      · refine J_tableIn (off := 74) (tgt := 115) hC dX9_isExecutable_41 (by decide) (by decide) rfl rfl ?_
        have y1 := h10 (Or.inl rfl)
        have z1 := h11 rfl
        have yz := hc.2.2.1 rfl
        dsimp only at y1 z1 yz
        refine J_aload_n hC dX9_isExecutable_115 rfl rfl ?_
        refine gX9_13 hC hK dX9_isExecutable_116 ?_
        refine J_iload_n hC dX9_isExecutable_119 rfl rfl ?_
        refine J_aload_n hC dX9_isExecutable_120 rfl rfl ?_
        refine gX9_48 hC hK dX9_isExecutable_121 ?_
        refine gX9_180 hC hK dX9_isExecutable_124 ?_
        refine J_iload_n hC dX9_isExecutable_127 rfl rfl ?_
        refine J_iaload hC (hK.1 10 (by decide)) rfl rfl (by omega) (by decide) dX9_isExecutable_128 ?_
        refine J_top y1 ?_
        refine J_aload_n hC dX9_isExecutable_129 rfl rfl ?_
        refine gX9_48 hC hK dX9_isExecutable_130 ?_
        refine gX9_183 hC hK dX9_isExecutable_133 ?_
        refine J_iload_n hC dX9_isExecutable_136 rfl rfl ?_
        refine J_iaload hC (hK.1 11 (by decide)) rfl rfl (by omega) (by decide) dX9_isExecutable_137 ?_
        refine J_top z1 ?_
        refine iX9_186 hC hL0 rfl ⟨by decide, by decide⟩ ⟨by decide, by decide⟩ (Nat.le_of_ble_eq_true rfl) dX9_isExecutable_138 ?_
        refine c_X4_refusalReason hL0 hO hI hk2 (by omega) (by omega) hh ?_
        dsimp only [Option.toList_some, Option.toList_none, List.cons_append, List.nil_append]
        have hr7 := refuse_le A x y z
        refine J_if_ne_n hC (by omega) (tgt := 148) dX9_isExecutable_141 rfl (fun hz => ?_) (fun hz => ?_)
        · have gc : ¬ refuse A x y z = 0 := by omega
          refine J_iconst (v := nI 0) hC dX9_isExecutable_148 (by decide) ?_
          refine J_zreturn hC hR dX9_isExecutable_149 (by decide) (by decide) (by decide) ?_
          exact hf (fun q => by
            rcases q with q | q
            · exact absurd (show (4 : Nat) = 3 from q) (by decide)
            · exact gc (q.2.2.2.1 rfl))
        · have fc : refuse A x y z = 0 := by omega
          refine J_iconst (v := nI 1) hC dX9_isExecutable_144 (by decide) ?_
          refine J_goto (tgt := 149) hC dX9_isExecutable_145 rfl ?_
          refine J_zreturn hC hR dX9_isExecutable_149 (by decide) (by decide) (by decide) ?_
          exact ht (Or.inr ⟨hk2, fun q => absurd (show (4 : Nat) = 1 from q) (by decide), fun q => absurd (show (4 : Nat) = 2 from q) (by decide), fun _ => fc, fun q => absurd (show (4 : Nat) = 6 from q) (by decide), fun q => absurd (show (4 : Nat) = 7 from q) (by decide)⟩)
      · refine J_tableIn (off := 139) (tgt := 180) hC dX9_isExecutable_41 (by decide) (by decide) rfl rfl ?_
        refine J_iconst (v := nI 1) hC dX9_isExecutable_180 (by decide) ?_
        refine J_zreturn hC hR dX9_isExecutable_181 (by decide) (by decide) (by decide) ?_
        exact ht (Or.inr ⟨hk2, fun q => absurd (show (5 : Nat) = 1 from q) (by decide), fun q => absurd (show (5 : Nat) = 2 from q) (by decide), fun q => absurd (show (5 : Nat) = 4 from q) (by decide), fun q => absurd (show (5 : Nat) = 6 from q) (by decide), fun q => absurd (show (5 : Nat) = 7 from q) (by decide)⟩)
      · refine J_tableIn (off := 109) (tgt := 150) hC dX9_isExecutable_41 (by decide) (by decide) rfl rfl ?_
        refine J_aload_n hC dX9_isExecutable_150 rfl rfl ?_
        refine gX9_13 hC hK dX9_isExecutable_151 ?_
        refine gX9_141 hC hL0 dX9_isExecutable_154 ?_
        refine gX9_177 hC hL0 dX9_isExecutable_157 ?_
        refine J_iload_n hC dX9_isExecutable_160 rfl rfl ?_
        refine J_iaload hC (hL0.2.1 14 (by decide)) (kd_o hL0.1) rfl (by omega) (by decide) dX9_isExecutable_161 ?_
        have j1 := (r_KS hI hk2).2
        refine J_top (o_S hO hI hk2) ?_
        refine J_if_ne_n hC (by omega) (tgt := 169) dX9_isExecutable_162 rfl (fun s1 => ?_) (fun s1 => ?_)
        · have gc : ¬ A (70 + 9 * x + 6) = nI 0 := fun q => s1 (nv_of q (by decide))
          refine J_iconst (v := nI 0) hC dX9_isExecutable_169 (by decide) ?_
          refine J_zreturn hC hR dX9_isExecutable_170 (by decide) (by decide) (by decide) ?_
          exact hf (fun q => by
            rcases q with q | q
            · exact absurd (show (6 : Nat) = 3 from q) (by decide)
            · exact gc (q.2.2.2.2.1 rfl))
        · have fc : A (70 + 9 * x + 6) = nI 0 := by rw [(r_KS hI hk2).1, s1]
          refine J_iconst (v := nI 1) hC dX9_isExecutable_165 (by decide) ?_
          refine J_goto (tgt := 170) hC dX9_isExecutable_166 rfl ?_
          refine J_zreturn hC hR dX9_isExecutable_170 (by decide) (by decide) (by decide) ?_
          exact ht (Or.inr ⟨hk2, fun q => absurd (show (6 : Nat) = 1 from q) (by decide), fun q => absurd (show (6 : Nat) = 2 from q) (by decide), fun q => absurd (show (6 : Nat) = 4 from q) (by decide), fun _ => fc, fun q => absurd (show (6 : Nat) = 7 from q) (by decide)⟩)
      · refine J_tableIn (off := 130) (tgt := 171) hC dX9_isExecutable_41 (by decide) (by decide) rfl rfl ?_
        refine J_aload_n hC dX9_isExecutable_171 rfl rfl ?_
        refine gX9_13 hC hK dX9_isExecutable_172 ?_
        refine J_iload_n hC dX9_isExecutable_175 rfl rfl ?_
        refine iX9_190 hC hL0 rfl ⟨by decide, by decide⟩ ⟨by decide, by decide⟩ (Nat.le_of_ble_eq_true rfl) dX9_isExecutable_176 ?_
        refine c_X4_isRepairable hL0 hO hI hk2 (fun gc => ?_) (fun gc => ?_)
        · dsimp only [Option.toList_some, Option.toList_none, List.cons_append, List.nil_append]
          have fc := gc
          refine J_zreturn hC hR dX9_isExecutable_179 (by decide) (by decide) (by decide) ?_
          exact ht (Or.inr ⟨hk2, fun q => absurd (show (7 : Nat) = 1 from q) (by decide), fun q => absurd (show (7 : Nat) = 2 from q) (by decide), fun q => absurd (show (7 : Nat) = 4 from q) (by decide), fun q => absurd (show (7 : Nat) = 6 from q) (by decide), fun _ => fc⟩)
        · dsimp only [Option.toList_some, Option.toList_none, List.cons_append, List.nil_append]
          refine J_zreturn hC hR dX9_isExecutable_179 (by decide) (by decide) (by decide) ?_
          exact hf (fun q => by
            rcases q with q | q
            · exact absurd (show (7 : Nat) = 3 from q) (by decide)
            · exact gc (q.2.2.2.2.2 rfl))
      · refine J_tableOut (tgt := 180) hC dX9_isExecutable_41 (by decide) rfl ?_
        refine J_iconst (v := nI 1) hC dX9_isExecutable_180 (by decide) ?_
        refine J_zreturn hC hR dX9_isExecutable_181 (by decide) (by decide) (by decide) ?_
        exact ht (Or.inr ⟨hk2, fun q => absurd (show (8 : Nat) = 1 from q) (by decide), fun q => absurd (show (8 : Nat) = 2 from q) (by decide), fun q => absurd (show (8 : Nat) = 4 from q) (by decide), fun q => absurd (show (8 : Nat) = 6 from q) (by decide), fun q => absurd (show (8 : Nat) = 7 from q) (by decide)⟩)
    · dsimp only [Option.toList_some, Option.toList_none, List.cons_append, List.nil_append]
      have gk : ¬ x < nv A 6 := fun q => hkk ⟨x, rfl, q⟩
      refine J_if_ne_n hC (by decide) (tgt := 40) dX9_isExecutable_35 rfl (fun hf => absurd hf (by omega)) (fun _ => ?_)
      refine J_iconst (v := nI 0) hC dX9_isExecutable_38 (by decide) ?_
      refine J_zreturn hC hR dX9_isExecutable_39 (by decide) (by decide) (by decide) ?_
      exact hf (fun q => by
        rcases q with q | q
        · have q2 : v = 3 := q
          omega
        · exact gk q.1)
  · refine J_iconst (v := nI 1) hC dX9_isExecutable_25 (by decide) ?_
    refine J_zreturn hC hR dX9_isExecutable_26 (by decide) (by decide) (by decide) ?_
    exact ht (Or.inl b2)
set_option maxHeartbeats 4000000 in
set_option maxRecDepth 100000 in
theorem c_X9_execute {G : GC} {w : Lay} {σ : Mem} {Q : Lay → Option Value → Mem → Prop} {Qx : Lay → String → Mem → Prop} (hK : LK w) (hL0 : LO w 0) {A : Rw} {hm : Nat} (hO : OAt σ 0 A) (hI : RowOK hm A) (hb31 : hm < 900000) {K : Rw} (hz : ∀ k, k < 16 → rd σ 0 21 k = 0) {C : Nat → Cmd} {n k : Nat} (hCM : CMc σ C n) (hkn : k < n) (hn20 : n ≤ 20) (hd : doOK A (C k))  (hq : ∀ σ', OAt σ' 0 (doR A K (C k)).1 → FrO 0 σ σ' → Q w none σ') : MX9_execute G w σ [.ref (w.2.1 12 0), .int (nI k)] Q Qx := by
  refine mt_start (by decide) rfl (Nat.le_of_ble_eq_true rfl) (fun E hC hR hN => ?_)
  show J G E w 0 0 0 [some (.ref (w.2.1 12 0)), some (.int (nI k)), none, none] [] σ
  have g0 := hCM k hkn
  generalize C k = c at g0 hd hq
  obtain ⟨v, x, y, z⟩ := c
  obtain ⟨h8, h18, ⟨h9, h10, h11⟩, hc⟩ := g0
  dsimp only at h8 h18 h9 h10 h11 hc
  have h4 := r_NK hI
  have hh : nv A 7 < 2 ^ 31 := by have := (r_HOUR hI).2; omega
  refine J_aload_n hC dX9_execute_0 rfl rfl ?_
  refine gX9_48 hC hK dX9_execute_1 ?_
  refine gX9_168 hC hK dX9_execute_4 ?_
  refine J_iload_n hC dX9_execute_7 rfl rfl ?_
  refine J_iaload hC (hK.1 9 (by decide)) rfl rfl (by omega) (by decide) dX9_execute_8 ?_
  refine J_top h9 ?_
  refine J_istore_n hC dX9_execute_9 rfl (Nat.le_of_ble_eq_true rfl) rfl ?_
  dsimp only [List.set]
  refine J_aload_n hC dX9_execute_10 rfl rfl ?_
  refine gX9_48 hC hK dX9_execute_11 ?_
  refine gX9_180 hC hK dX9_execute_14 ?_
  refine J_iload_n hC dX9_execute_17 rfl rfl ?_
  refine J_iaload hC (hK.1 10 (by decide)) rfl rfl (by omega) (by decide) dX9_execute_18 ?_
  refine J_istore_n hC dX9_execute_19 rfl (Nat.le_of_ble_eq_true rfl) rfl ?_
  dsimp only [List.set]
  refine J_aload_n hC dX9_execute_20 rfl rfl ?_
  refine gX9_48 hC hK dX9_execute_21 ?_
  refine gX9_164 hC hK dX9_execute_24 ?_
  refine J_iload_n hC dX9_execute_27 rfl rfl ?_
  refine J_iaload hC (hK.1 8 (by decide)) rfl rfl (by omega) (by decide) dX9_execute_28 ?_
  refine J_top h8 ?_
  have hv8 : v = 1 ∨ v = 2 ∨ v = 3 ∨ v = 4 ∨ v = 5 ∨ v = 6 ∨ v = 7 ∨ v = 8 := by omega
  rcases hv8 with rfl | rfl | rfl | rfl | rfl | rfl | rfl | rfl
  · refine J_tableIn (off := 43) (tgt := 72) hC dX9_execute_29 (by decide) (by decide) rfl rfl ?_
    have hd2 := hd.resolve_left (fun q => absurd (show (1 : Nat) = 3 from q) (by decide))
    dsimp only at hd2
    have hk2 := hd2.1
    refine J_aload_n hC dX9_execute_72 rfl rfl ?_
    refine gX9_13 hC hK dX9_execute_73 ?_
    refine J_iload_n hC dX9_execute_76 rfl rfl ?_
    refine iX9_193 hC hL0 rfl ⟨by decide, by decide⟩ ⟨by decide, by decide⟩ (Nat.le_of_ble_eq_true rfl) dX9_execute_77 ?_
    refine c_X4_sendUp hL0 hO hI hk2 (fun σ2 hO2 hF2 => ?_)
    dsimp only [Option.toList_some, Option.toList_none, List.cons_append, List.nil_append]
    refine J_goto (tgt := 174) hC dX9_execute_80 rfl ?_
    refine J_return hC hR dX9_execute_174 (by decide) (by decide) ?_
    exact hq σ2 (show OAt σ2 0 (doR A K (1, x, y, z)).1 from hO2) hF2
  · refine J_tableIn (off := 54) (tgt := 83) hC dX9_execute_29 (by decide) (by decide) rfl rfl ?_
    have hd2 := hd.resolve_left (fun q => absurd (show (2 : Nat) = 3 from q) (by decide))
    dsimp only at hd2
    have hk2 := hd2.1
    refine J_aload_n hC dX9_execute_83 rfl rfl ?_
    refine gX9_13 hC hK dX9_execute_84 ?_
    refine J_iload_n hC dX9_execute_87 rfl rfl ?_
    refine iX9_196 hC hL0 rfl ⟨by decide, by decide⟩ ⟨by decide, by decide⟩ (Nat.le_of_ble_eq_true rfl) dX9_execute_88 ?_
    refine c_X4_bringDown hL0 hO hI hk2 (fun σ2 hO2 hF2 => ?_)
    dsimp only [Option.toList_some, Option.toList_none, List.cons_append, List.nil_append]
    refine J_goto (tgt := 174) hC dX9_execute_91 rfl ?_
    refine J_return hC hR dX9_execute_174 (by decide) (by decide) ?_
    exact hq σ2 (show OAt σ2 0 (doR A K (2, x, y, z)).1 from hO2) hF2
  · refine J_tableIn (off := 65) (tgt := 94) hC dX9_execute_29 (by decide) (by decide) rfl rfl ?_
    have hx3 := hc.1 rfl
    dsimp only at hx3
    refine J_aload_n hC dX9_execute_94 rfl rfl ?_
    refine gX9_13 hC hK dX9_execute_95 ?_
    refine J_iload_n hC dX9_execute_98 rfl rfl ?_
    refine iX9_199 hC hL0 rfl ⟨by decide, by decide⟩ ⟨by decide, by decide⟩ (Nat.le_of_ble_eq_true rfl) dX9_execute_99 ?_
    refine c_X4_letHoursPass hL0 hO hI hz (by omega) (fun σ2 hO2 hF2 => ?_)
    dsimp only [Option.toList_some, Option.toList_none, List.cons_append, List.nil_append]
    rw [(passed_K A (rd σ 0 21) K 0 x).1] at hO2
    refine J_pop hC dX9_execute_102 rfl ?_
    refine J_goto (tgt := 174) hC dX9_execute_103 rfl ?_
    refine J_return hC hR dX9_execute_174 (by decide) (by decide) ?_
    exact hq σ2 (show OAt σ2 0 (doR A K (3, x, y, z)).1 from hO2) hF2
  · refine J_tableIn (off := 77) (tgt := 106) hC dX9_execute_29 (by decide) (by decide) rfl rfl ?_
    have hd2 := hd.resolve_left (fun q => absurd (show (4 : Nat) = 3 from q) (by decide))
    dsimp only at hd2
    have hk2 := hd2.1
    have yz := hc.2.2.1 rfl
    have z1 := h11 rfl
    dsimp only at yz z1
    rw [h10 (by unfold needY; omega)]
    refine J_aload_n hC dX9_execute_106 rfl rfl ?_
    refine gX9_13 hC hK dX9_execute_107 ?_
    refine J_iload_n hC dX9_execute_110 rfl rfl ?_
    refine J_iload_n hC dX9_execute_111 rfl rfl ?_
    refine J_aload_n hC dX9_execute_112 rfl rfl ?_
    refine gX9_48 hC hK dX9_execute_113 ?_
    refine gX9_183 hC hK dX9_execute_116 ?_
    refine J_iload_n hC dX9_execute_119 rfl rfl ?_
    refine J_iaload hC (hK.1 11 (by decide)) rfl rfl (by omega) (by decide) dX9_execute_120 ?_
    refine J_top z1 ?_
    refine iX9_203 hC hL0 rfl ⟨by decide, by decide⟩ ⟨by decide, by decide⟩ (Nat.le_of_ble_eq_true rfl) dX9_execute_121 ?_
    refine c_X4_grant hL0 hO hI hk2 (refuse_np hI (hd2.2.2.2.1 rfl)) (fun σ2 hO2 hF2 => ?_)
    dsimp only [Option.toList_some, Option.toList_none, List.cons_append, List.nil_append]
    refine J_goto (tgt := 174) hC dX9_execute_124 rfl ?_
    refine J_return hC hR dX9_execute_174 (by decide) (by decide) ?_
    exact hq σ2 (show OAt σ2 0 (doR A K (4, x, y, z)).1 from hO2) hF2
  · refine J_tableIn (off := 98) (tgt := 127) hC dX9_execute_29 (by decide) (by decide) rfl rfl ?_
    have hd2 := hd.resolve_left (fun q => absurd (show (5 : Nat) = 3 from q) (by decide))
    dsimp only at hd2
    have hk2 := hd2.1
    refine J_aload_n hC dX9_execute_127 rfl rfl ?_
    refine gX9_13 hC hK dX9_execute_128 ?_
    refine gX9_206 hC hL0 dX9_execute_131 ?_
    refine J_iload_n hC dX9_execute_134 rfl rfl ?_
    refine iX9_210 hC hL0 rfl ⟨by decide, by decide⟩ ⟨by decide, by decide⟩ (Nat.le_of_ble_eq_true rfl) dX9_execute_135 ?_
    refine c_X6_removeOf hL0 hO hI (by omega) (fun σ2 hO2 hF2 => ?_)
    dsimp only [Option.toList_some, Option.toList_none, List.cons_append, List.nil_append]
    refine J_pop hC dX9_execute_138 rfl ?_
    refine J_goto (tgt := 174) hC dX9_execute_139 rfl ?_
    refine J_return hC hR dX9_execute_174 (by decide) (by decide) ?_
    exact hq σ2 (show OAt σ2 0 (doR A K (5, x, y, z)).1 from hO2) hF2
  · refine J_tableIn (off := 113) (tgt := 142) hC dX9_execute_29 (by decide) (by decide) rfl rfl ?_
    have hd2 := hd.resolve_left (fun q => absurd (show (6 : Nat) = 3 from q) (by decide))
    dsimp only at hd2
    have hk2 := hd2.1
    have yv := hc.2.2.2.1 rfl
    dsimp only at yv
    rw [h10 (by unfold needY; omega)]
    refine J_aload_n hC dX9_execute_142 rfl rfl ?_
    refine gX9_13 hC hK dX9_execute_143 ?_
    refine J_iload_n hC dX9_execute_146 rfl rfl ?_
    refine J_iload_n hC dX9_execute_147 rfl rfl ?_
    refine iX9_215 hC hL0 rfl ⟨by decide, by decide⟩ ⟨by decide, by decide⟩ (Nat.le_of_ble_eq_true rfl) dX9_execute_148 ?_
    refine c_X4_retie hL0 hO hI hk2 yv (fun σ2 hO2 hF2 => ?_)
    dsimp only [Option.toList_some, Option.toList_none, List.cons_append, List.nil_append]
    refine J_goto (tgt := 174) hC dX9_execute_151 rfl ?_
    refine J_return hC hR dX9_execute_174 (by decide) (by decide) ?_
    exact hq σ2 (show OAt σ2 0 (doR A K (6, x, y, z)).1 from hO2) hF2
  · refine J_tableIn (off := 125) (tgt := 154) hC dX9_execute_29 (by decide) (by decide) rfl rfl ?_
    have hd2 := hd.resolve_left (fun q => absurd (show (7 : Nat) = 3 from q) (by decide))
    dsimp only at hd2
    have hk2 := hd2.1
    refine J_aload_n hC dX9_execute_154 rfl rfl ?_
    refine gX9_13 hC hK dX9_execute_155 ?_
    refine J_iload_n hC dX9_execute_158 rfl rfl ?_
    refine iX9_218 hC hL0 rfl ⟨by decide, by decide⟩ ⟨by decide, by decide⟩ (Nat.le_of_ble_eq_true rfl) dX9_execute_159 ?_
    refine c_X4_mend hL0 hO hI hk2 (fun σ2 hO2 hF2 => ?_)
    dsimp only [Option.toList_some, Option.toList_none, List.cons_append, List.nil_append]
    refine J_goto (tgt := 174) hC dX9_execute_162 rfl ?_
    refine J_return hC hR dX9_execute_174 (by decide) (by decide) ?_
    exact hq σ2 (show OAt σ2 0 (doR A K (7, x, y, z)).1 from hO2) hF2
  · refine J_tableOut (tgt := 165) hC dX9_execute_29 (by decide) rfl ?_
    have hd2 := hd.resolve_left (fun q => absurd (show (8 : Nat) = 3 from q) (by decide))
    dsimp only at hd2
    have hk2 := hd2.1
    have yc := hc.2.2.2.2 rfl
    dsimp only at yc
    rw [h10 (by unfold needY; omega)]
    refine J_aload_n hC dX9_execute_165 rfl rfl ?_
    refine gX9_13 hC hK dX9_execute_166 ?_
    refine J_iload_n hC dX9_execute_169 rfl rfl ?_
    refine J_iload_n hC dX9_execute_170 rfl rfl ?_
    refine iX9_221 hC hL0 rfl ⟨by decide, by decide⟩ ⟨by decide, by decide⟩ (Nat.le_of_ble_eq_true rfl) dX9_execute_171 ?_
    refine c_X4_putCoins hL0 hO hI hk2 (by omega) (fun σ2 hO2 hF2 => ?_)
    dsimp only [Option.toList_some, Option.toList_none, List.cons_append, List.nil_append]
    refine J_return hC hR dX9_execute_174 (by decide) (by decide) ?_
    exact hq σ2 (show OAt σ2 0 (doR A K (8, x, y, z)).1 from hO2) hF2
/-- reading: the spare office, the reader, the script change -/
def FrS (σ σ' : Mem) : Prop := (∀ a c j, ¬ (a = 1 ∧ c ≠ 21) → ¬ (a = 12 ∧ c = 5 ∧ 1 ≤ j) → ¬ (a = 12 ∧ 7 ≤ c ∧ c ≤ 11) → rd σ' a c j = rd σ a c j) ∧ ∀ j, rdL σ' j = rdL σ j
theorem FrS_R {σ σ' : Mem} {v : Int32} (h : FrR σ σ') : FrS σ (wr σ' 12 5 1 v) := ⟨fun a c j _ q q2 => by
  rw [rd_wr, if_neg (by omega)]
  exact h.1 a c j (by omega) q2, fun j => h.2 j⟩
theorem FrS_D {σ σ' : Mem} {v : Int32} (h : FrD DO 1 σ σ') : FrS σ (wr σ' 12 5 1 v) := ⟨fun a c j q q2 _ => by
  rw [rd_wr, if_neg (by omega)]
  exact h.1 a c j (by omega) (fun g => q ⟨g.1, g.2⟩), fun j => h.2 j⟩
theorem FrS_o {σ σ' : Mem} (h : FrS σ σ') {o : Nat} (ho : o < 12) (h1 : o ≠ 1) (c : Nat) : rd σ' o c = rd σ o c := funext fun j => h.1 o c j (by omega) (by omega) (by omega)
theorem FrS_1 {σ σ' : Mem} (h : FrS σ σ') : rd σ' 12 1 = rd σ 12 1 := funext fun j => h.1 12 1 j (by omega) (by omega) (by omega)
/-- a text was read: the reader's length and fault -/
def TXr (σ σ' : Mem) (c : Nat) (p : Int32) : Prop := FrS σ σ' ∧ rd σ' 12 5 1 = nI 0 ∧ rd σ' 12 5 2 = nI c ∧ rd σ' 12 5 3 = p
set_option maxHeartbeats 4000000 in
set_option maxRecDepth 100000 in
theorem c_X9_runScript {G : GC} {w : Lay} {σ : Mem} {Q : Lay → Option Value → Mem → Prop} {Qx : Lay → String → Mem → Prop} (hK : LK w) (hL0 : LO w 0) {A : Rw} {hm : Nat} (hO : OAt σ 0 A) (hI : RowOK hm A) (hb31 : hm ≤ 800000) {K : Rw} (hz : ∀ k, k < 16 → rd σ 0 21 k = 0) {px u : Nat} (hLp : LO w (2 + px)) (hpx : px < 8) (hu : u ≤ 8) (hn9 : rd σ 12 1 2 = nI px) (hc9 : rd σ 12 1 1 = nI u) {t : Nat → Nat} {L : Nat} (hX : TXc σ t L)  (hok : ∀ σ' C n, pScript t L 21 (fun _ => (0, 0, 0, 0)) 0 0 = .inr (C, n) → (∃ σ2, TXr σ σ2 0 (-1) ∧ ChR σ2 σ' px u (exN C n 20 (A, K) 0).1.1) → Q w (some (.int (nI (exN C n 20 (A, K) 0).2))) σ') (hx : ∀ σ' e, pScript t L 21 (fun _ => (0, 0, 0, 0)) 0 0 = .inl e → TXr σ σ' e.1 (nI e.2) → Qx w "java/lang/IllegalArgumentException" σ') : MX9_runScript G w σ [.ref (w.2.1 12 0)] Q Qx := by
  refine mt_start (by decide) rfl (Nat.le_of_ble_eq_true rfl) (fun E hC hR hN => ?_)
  show J G E w 0 0 0 [some (.ref (w.2.1 12 0)), none] [] σ
  refine J_aload_n hC dX9_runScript_0 rfl rfl ?_
  refine gX9_48 hC hK dX9_runScript_1 ?_
  refine J_aload_n hC dX9_runScript_4 rfl rfl ?_
  refine gX9_41 hC hK dX9_runScript_5 ?_
  refine iX9_150 hC hK rfl ⟨by decide, by decide⟩ ⟨by decide, by decide⟩ (Nat.le_of_ble_eq_true rfl) dX9_runScript_8 ?_
  refine c_X7_readFrom hK hX (fun σ1 hF1 he1 hs1 => ?_)
  dsimp only [Option.toList_some, Option.toList_none, List.cons_append, List.nil_append]
  generalize hpr : pScript t L 21 (fun _ => (0, 0, 0, 0)) 0 0 = PR at he1 hs1 hok hx
  refine J_aload_n hC dX9_runScript_11 rfl rfl ?_
  refine gX9_41 hC hK dX9_runScript_12 ?_
  refine J_iconst (v := nI 0) hC dX9_runScript_15 (by decide) ?_
  refine pX9_107 hC hK dX9_runScript_16 ?_
  have hS2 := FrS_R (v := nI 0) hF1
  obtain ⟨c9, hc99, hc31, hc0⟩ : ∃ c9, rd (wr σ1 12 5 1 (nI 0)) 12 5 2 = nI c9 ∧ c9 < 2 ^ 31 ∧ (c9 ≠ 0 → ∃ e, PR = .inl e ∧ TXr σ (wr σ1 12 5 1 (nI 0)) e.1 (nI e.2)) := by
    cases PR with
    | inl e => have g := he1 e rfl; exact ⟨e.1, (rd_wr_j (by decide)).trans g.1, by omega, fun _ => ⟨e, rfl, hS2, rd_wr_s, (rd_wr_j (by decide)).trans g.1, (rd_wr_j (by decide)).trans g.2.1⟩⟩
    | inr r => have g := hs1 r.1 r.2 rfl; exact ⟨0, (rd_wr_j (by decide)).trans g.1, by decide, fun q => absurd rfl q⟩
  refine J_aload_n hC dX9_runScript_19 rfl rfl ?_
  refine gX9_41 hC hK dX9_runScript_20 ?_
  refine iX9_126 hC hK rfl ⟨by decide, by decide⟩ ⟨by decide, by decide⟩ (Nat.le_of_ble_eq_true rfl) dX9_runScript_23 ?_
  refine c_X3_hasFault hK hc99 hc31 (fun bh => ?_) (fun bh => ?_)
  · dsimp only [Option.toList_some, Option.toList_none, List.cons_append, List.nil_append]
    refine J_if_eq_n hC (by decide) (tgt := 39) dX9_runScript_26 rfl (fun hf => absurd hf (by omega)) (fun _ => ?_)
    exact thS_IAE hC hR hN rfl (k := 15) rfl dX9_runScript_29 dX9_runScript_32 dX9_runScript_33 dX9_runScript_35 dX9_runScript_38 (by decide) (by decide) (by decide) (by decide) (by decide) (by decide) (by
      obtain ⟨e, h1, h2⟩ := hc0 bh
      exact hx _ e h1 h2)
  · dsimp only [Option.toList_some, Option.toList_none, List.cons_append, List.nil_append]
    obtain ⟨C, n, hPR, ⟨hT, hCM, hnn, hn20⟩⟩ : ∃ C n, PR = .inr (C, n) ∧ TXr σ (wr σ1 12 5 1 (nI 0)) 0 (-1) ∧ CMc σ1 C n ∧ rd σ1 12 7 0 = nI n ∧ n ≤ 20 := by
      cases PR with
      | inl e =>
        have g := he1 e rfl
        have g2 : nI c9 = nI e.1 := hc99.symm.trans ((rd_wr_j (by decide)).trans g.1)
        have := nI_inj g2 hc31 (by omega)
        omega
      | inr r => have g := hs1 r.1 r.2 rfl; exact ⟨r.1, r.2, rfl, ⟨hS2, rd_wr_s, (rd_wr_j (by decide)).trans g.1, (rd_wr_j (by decide)).trans g.2.1⟩, g.2.2.1, g.2.2.2.1, g.2.2.2.2⟩
    subst hPR
    refine J_if_eq_n hC (by decide) (tgt := 39) dX9_runScript_26 rfl (fun _ => ?_) (fun hf => absurd hf (by omega))
    refine J_aload_n hC dX9_runScript_39 rfl rfl ?_
    refine gX9_26 hC hK dX9_runScript_40 ?_
    refine J_aload_n hC dX9_runScript_43 rfl rfl ?_
    refine gX9_13 hC hK dX9_runScript_44 ?_
    refine iX9_134 hC hK rfl ⟨by decide, by decide⟩ ⟨by decide, by decide⟩ (Nat.le_of_ble_eq_true rfl) dX9_runScript_47 ?_
    refine c_rem hK hL0 hLp hpx hu ((rd_wr_c (by decide)).trans ((hF1.1 12 1 2 (by omega) (by omega)).trans hn9)) ((rd_wr_c (by decide)).trans ((hF1.1 12 1 1 (by omega) (by omega)).trans hc9)) (fun τ hH => ?_)
    dsimp only [Option.toList_some, Option.toList_none, List.cons_append, List.nil_append]
    have hO2 : OAt (wr σ1 12 5 1 (nI 0)) 0 A := OAt_fr (o := 0) (fun c => FrS_o hS2 (by decide) (by decide) c) hO
    have hOτ := Hst_O hH hO2
    have hzτ : ∀ k, k < 16 → rd τ 0 21 k = 0 := by rw [Hst_21 hH, FrS_o hS2 (by decide) (by decide)]; exact hz
    have lp : ∀ (dd : Nat) (S : Rw × Rw) (k : Nat) (σ4 : Mem), n - k < dd → (k ≤ n) → (RowOK (hm + 48 * k) S.1) → (OAt σ4 0 S.1) → (FrO 0 τ σ4) → (exN C n (20 - k) S k = (exN C n 20 (A, K) 0)) →  J G E w 0 0 52 [some (.ref (w.2.1 12 0)), some (.int (nI k))] [] σ4 := by
      intro dd
      induction dd with
      | zero =>
        intro S k σ4 hdd
        exact absurd hdd (Nat.not_lt_zero _)
      | succ dd ih =>
        intro S k σ4 hdd hk hI4 hO4 hF4 hF
        have hCM4 : CMc σ4 C n := CMc_fr (fun c h8 h11 i => by rw [hF4.1 12 c (by decide), hH.1 12 c (by omega) (by omega), rd_wr_c (by omega)]) hCM
        have hn4 : rd σ4 12 7 0 = nI n := by rw [hF4.1 12 7 (by decide), hH.1 12 7 (by omega) (by omega), rd_wr_c (by decide)]; exact hnn
        have hz4 := hF4.2.2 hzτ
        refine J_iload_n hC dX9_runScript_52 rfl rfl ?_
        refine J_aload_n hC dX9_runScript_53 rfl rfl ?_
        refine gX9_48 hC hK dX9_runScript_54 ?_
        refine gX9_156 hC hK dX9_runScript_57 ?_
        refine J_top hn4 ?_
        refine J_icmp_ge_n hC (by omega) (by omega) (tgt := 82) dX9_runScript_60 rfl (fun bk => ?_) (fun bk => ?_)
        · refine J_iload_n hC dX9_runScript_82 rfl rfl ?_
          refine J_ireturn hC hR dX9_runScript_83 (by decide) (by decide) ?_
          rw [ex_end (fun q => absurd q.1 (by omega))] at hF
          have q := hok σ4 C n rfl ⟨_, hT, τ, hH, hF4, show OAt σ4 0 (exN C n 20 (A, K) 0).1.1 by rw [← hF]; exact hO4⟩
          rw [← hF] at q
          exact q
        · refine J_aload_n hC dX9_runScript_63 rfl rfl ?_
          refine J_iload_n hC dX9_runScript_64 rfl rfl ?_
          refine iX9_157 hC hK rfl ⟨by decide, by decide⟩ ⟨by decide, by decide⟩ (Nat.le_of_ble_eq_true rfl) dX9_runScript_65 ?_
          refine c_X9_isExecutable hK hL0 hO4 hI4 (by omega) hCM4 bk hn20 (fun bd => ?_) (fun bd => ?_)
          · dsimp only [Option.toList_some, Option.toList_none, List.cons_append, List.nil_append]
            refine J_if_eq_n hC (by decide) (tgt := 82) dX9_runScript_68 rfl (fun hf => absurd hf (by omega)) (fun _ => ?_)
            refine J_aload_n hC dX9_runScript_71 rfl rfl ?_
            refine J_iload_n hC dX9_runScript_72 rfl rfl ?_
            refine iX9_161 hC hK rfl ⟨by decide, by decide⟩ ⟨by decide, by decide⟩ (Nat.le_of_ble_eq_true rfl) dX9_runScript_73 ?_
            refine c_X9_execute (K := S.2) hK hL0 hO4 hI4 (by omega) hz4 hCM4 bk hn20 bd (fun σ5 hO5 hF5 => ?_)
            dsimp only [Option.toList_some, Option.toList_none, List.cons_append, List.nil_append]
            refine J_iinc_n (m := 1) hC (by decide) dX9_runScript_76 rfl (Nat.le_of_ble_eq_true rfl) rfl ?_
            dsimp only [List.set]
            refine J_goto (tgt := 52) hC dX9_runScript_79 rfl ?_
            exact ih (doR S.1 S.2 (C k)) (k + 1) σ5 (by omega) (by omega) (RowOK_mono (doR_ok hI4 (hCM k bk).2.2.2 (hCM k bk).2.1 bd (by omega)) (by omega)) hO5 (FrO_trans hF4 hF5) (by rw [← hF, ex_go (by omega) bk bd]; rfl)
          · dsimp only [Option.toList_some, Option.toList_none, List.cons_append, List.nil_append]
            refine J_if_eq_n hC (by decide) (tgt := 82) dX9_runScript_68 rfl (fun _ => ?_) (fun hf => absurd hf (by omega))
            refine J_iload_n hC dX9_runScript_82 rfl rfl ?_
            refine J_ireturn hC hR dX9_runScript_83 (by decide) (by decide) ?_
            rw [ex_end (fun q => bd q.2)] at hF
            have q := hok σ4 C n rfl ⟨_, hT, τ, hH, hF4, show OAt σ4 0 (exN C n 20 (A, K) 0).1.1 by rw [← hF]; exact hO4⟩
            rw [← hF] at q
            exact q
    refine J_iconst (v := nI 0) hC dX9_runScript_50 (by decide) ?_
    refine J_istore_n hC dX9_runScript_51 rfl (Nat.le_of_ble_eq_true rfl) rfl ?_
    dsimp only [List.set]
    exact lp (n + 1) (A, K) 0 τ (by omega) (by omega) hI hOτ FrO_refl rfl
set_option maxHeartbeats 4000000 in
set_option maxRecDepth 100000 in
theorem c_X9_loadSetup {G : GC} {w : Lay} {σ : Mem} {Q : Lay → Option Value → Mem → Prop} {Qx : Lay → String → Mem → Prop} (hK : LK w) (hL0 : LO w 0) {A : Rw} {hm : Nat} (hO : OAt σ 0 A) (hI : RowOK hm A) (hL1 : LO w 1) {A0 : Rw} (hA0 : ∀ j, j < 304 → A0 j = nI 0) {px u : Nat} (hLp : LO w (2 + px)) (hpx : px < 8) (hu : u ≤ 8) (hn9 : rd σ 12 1 2 = nI px) (hc9 : rd σ 12 1 1 = nI u) {t : Nat → Nat} {L : Nat} (hX : TXc σ t L)  (hok : ∀ σ' B, pSetup t L A0 = .inr B → RowOK 0 B → (∃ σ2, TXr σ σ2 0 (-1) ∧ ChR σ2 σ' px u B) → Q w (some (.int (nI (nv B 6)))) σ') (hx : ∀ σ' e, pSetup t L A0 = .inl e → TXr σ σ' e.1 (nI e.2) → Qx w "java/lang/IllegalArgumentException" σ') : MX9_loadSetup G w σ [.ref (w.2.1 12 0)] Q Qx := by
  refine mt_start (by decide) rfl (Nat.le_of_ble_eq_true rfl) (fun E hC hR hN => ?_)
  show J G E w 0 0 0 [some (.ref (w.2.1 12 0))] [] σ
  refine J_aload_n hC dX9_loadSetup_0 rfl rfl ?_
  refine gX9_20 hC hK dX9_loadSetup_1 ?_
  refine J_aload_n hC dX9_loadSetup_4 rfl rfl ?_
  refine gX9_41 hC hK dX9_loadSetup_5 ?_
  refine iX9_120 hC rfl ⟨by decide, by decide⟩ ⟨by decide, by decide⟩ (Nat.le_of_ble_eq_true rfl) dX9_loadSetup_8 ?_
  refine c_X8_readInto hL1 hK hX hA0 (fun σ1 hF1 he1 hs1 => ?_)
  dsimp only [Option.toList_some, Option.toList_none, List.cons_append, List.nil_append]
  generalize hpr : pSetup t L A0 = PR at he1 hs1 hok hx
  refine J_aload_n hC dX9_loadSetup_11 rfl rfl ?_
  refine gX9_41 hC hK dX9_loadSetup_12 ?_
  refine J_iconst (v := nI 0) hC dX9_loadSetup_15 (by decide) ?_
  refine pX9_107 hC hK dX9_loadSetup_16 ?_
  have hS2 := FrS_D (v := nI 0) hF1
  obtain ⟨c9, hc99, hc31, hc0⟩ : ∃ c9, rd (wr σ1 12 5 1 (nI 0)) 12 5 2 = nI c9 ∧ c9 < 2 ^ 31 ∧ (c9 ≠ 0 → ∃ e, PR = .inl e ∧ TXr σ (wr σ1 12 5 1 (nI 0)) e.1 (nI e.2)) := by
    cases PR with
    | inl e => have g := he1 e rfl; exact ⟨e.1, (rd_wr_j (by decide)).trans g.1, by omega, fun _ => ⟨e, rfl, hS2, rd_wr_s, (rd_wr_j (by decide)).trans g.1, (rd_wr_j (by decide)).trans g.2.1⟩⟩
    | inr r => have g := hs1 r rfl; exact ⟨0, (rd_wr_j (by decide)).trans g.1, by decide, fun q => absurd rfl q⟩
  refine J_aload_n hC dX9_loadSetup_19 rfl rfl ?_
  refine gX9_41 hC hK dX9_loadSetup_20 ?_
  refine iX9_126 hC hK rfl ⟨by decide, by decide⟩ ⟨by decide, by decide⟩ (Nat.le_of_ble_eq_true rfl) dX9_loadSetup_23 ?_
  refine c_X3_hasFault hK hc99 hc31 (fun bh => ?_) (fun bh => ?_)
  · dsimp only [Option.toList_some, Option.toList_none, List.cons_append, List.nil_append]
    refine J_if_eq_n hC (by decide) (tgt := 39) dX9_loadSetup_26 rfl (fun hf => absurd hf (by omega)) (fun _ => ?_)
    exact thS_IAE hC hR hN rfl (k := 6) rfl dX9_loadSetup_29 dX9_loadSetup_32 dX9_loadSetup_33 dX9_loadSetup_35 dX9_loadSetup_38 (by decide) (by decide) (by decide) (by decide) (by decide) (by decide) (by
      obtain ⟨e, h1, h2⟩ := hc0 bh
      exact hx _ e h1 h2)
  · dsimp only [Option.toList_some, Option.toList_none, List.cons_append, List.nil_append]
    obtain ⟨B, hPR, hT, hOB, hIB⟩ : ∃ B, PR = .inr B ∧ TXr σ (wr σ1 12 5 1 (nI 0)) 0 (-1) ∧ OAt σ1 1 B ∧ RowOK 0 B := by
      cases PR with
      | inl e =>
        have g := he1 e rfl
        have g2 : nI c9 = nI e.1 := hc99.symm.trans ((rd_wr_j (by decide)).trans g.1)
        have := nI_inj g2 hc31 (by omega)
        omega
      | inr r => have g := hs1 r rfl; exact ⟨r, rfl, ⟨hS2, rd_wr_s, (rd_wr_j (by decide)).trans g.1, (rd_wr_j (by decide)).trans g.2.1⟩, g.2.2.1, g.2.2.2⟩
    subst hPR
    refine J_if_eq_n hC (by decide) (tgt := 39) dX9_loadSetup_26 rfl (fun _ => ?_) (fun hf => absurd hf (by omega))
    refine J_aload_n hC dX9_loadSetup_39 rfl rfl ?_
    refine gX9_26 hC hK dX9_loadSetup_40 ?_
    refine J_aload_n hC dX9_loadSetup_43 rfl rfl ?_
    refine gX9_13 hC hK dX9_loadSetup_44 ?_
    refine iX9_134 hC hK rfl ⟨by decide, by decide⟩ ⟨by decide, by decide⟩ (Nat.le_of_ble_eq_true rfl) dX9_loadSetup_47 ?_
    refine c_rem hK hL0 hLp hpx hu ((rd_wr_c (by decide)).trans ((hF1.1 12 1 2 (by omega) (by omega)).trans hn9)) ((rd_wr_c (by decide)).trans ((hF1.1 12 1 1 (by omega) (by omega)).trans hc9)) (fun τ hH => ?_)
    dsimp only [Option.toList_some, Option.toList_none, List.cons_append, List.nil_append]
    have hO1τ : OAt τ 1 B := OAt_fr (o := 0) (fun c => (hH.1 1 c (by omega) (by omega)).trans (rd_wr_cell (fun q => absurd q.1 (by decide)))) hOB
    refine J_aload_n hC dX9_loadSetup_50 rfl rfl ?_
    refine gX9_13 hC hK dX9_loadSetup_51 ?_
    refine J_aload_n hC dX9_loadSetup_54 rfl rfl ?_
    refine gX9_20 hC hK dX9_loadSetup_55 ?_
    refine iX9_138 hC hL0 rfl ⟨by decide, by decide⟩ ⟨by decide, by decide⟩ (Nat.le_of_ble_eq_true rfl) dX9_loadSetup_58 ?_
    refine c_X4_copyFrom hL0 hL1 (by decide) (fun σ2 hC2 => ?_)
    dsimp only [Option.toList_some, Option.toList_none, List.cons_append, List.nil_append]
    have hO2 := cp_OAt hC2 hO1τ hIB
    refine J_aload_n hC dX9_loadSetup_61 rfl rfl ?_
    refine gX9_13 hC hK dX9_loadSetup_62 ?_
    refine gX9_141 hC hL0 dX9_loadSetup_65 ?_
    refine gX9_145 hC hL0 dX9_loadSetup_68 ?_
    refine J_top (o_NK hO2 hIB) ?_
    refine J_ireturn hC hR dX9_loadSetup_71 (by decide) (by decide) ?_
    exact hok σ2 B rfl hIB ⟨_, hT, τ, hH, cp_O hC2, hO2⟩
