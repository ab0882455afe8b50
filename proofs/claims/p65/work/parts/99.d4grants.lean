/-! ===== p65: the law's check of a permit ===== -/
theorem c1_X9_whyNotPermit {G : GC} {w : Lay} {σ : Mem} {Q : Lay → Option Value → Mem → Prop} {Qx : Lay → String → Mem → Prop} (hK : LK w) (hL0 : LO w 0) {A : Rw} {hm : Nat} (hO : OAt σ 0 A) (hI : RowOK hm A) (hh : nv A 7 < 2 ^ 31) {k s d : Nat} (hk : k < nv A 6) (hs : s ≤ 999999) (hd : 1 ≤ d ∧ d ≤ 24) (hq : Q w (some (.int (nI (refuse A k s d)))) σ) : MX9_whyNotPermit G w σ [.ref (w.2.1 12 0), .int (nI k), .int (nI s), .int (nI d)] Q Qx := by
  have h6 := r_NK hI
  have e : aWN A (nI k) (nI s) (nI d) = (0, nI (refuse A k s d)) := by
    unfold aWN
    rw [chk_t ⟨k, rfl, hk⟩, chk_t ⟨s, rfl, Nat.zero_le _, hs⟩, chk_t ⟨d, rfl, hd⟩, cl_n (by omega), cl_n (by omega), cl_n (by omega)]
  exact c_X9_whyNotPermit hK hL0 hO hI hh (fun _ => by rw [e]; exact hq) (fun h => by rw [e] at h; cases h) (fun h => by rw [e] at h; cases h)
theorem c1_X9_kiteInTheWay {G : GC} {w : Lay} {σ : Mem} {Q : Lay → Option Value → Mem → Prop} {Qx : Lay → String → Mem → Prop} (hK : LK w) (hL0 : LO w 0) {A : Rw} {hm : Nat} (hO : OAt σ 0 A) (hI : RowOK hm A) (hh : nv A 7 < 2 ^ 31) {k s d : Nat} (hk : k < nv A 6) (hs : s ≤ 999999) (hd : 1 ≤ d ∧ d ≤ 24) (hq : Q w (some (.int (iI (inWay A k s d)))) σ) : MX9_kiteInTheWay G w σ [.ref (w.2.1 12 0), .int (nI k), .int (nI s), .int (nI d)] Q Qx := by
  have h6 := r_NK hI
  have e : aKW A (nI k) (nI s) (nI d) = (0, iI (inWay A k s d)) := by
    unfold aKW
    rw [chk_t ⟨k, rfl, hk⟩, chk_t ⟨s, rfl, Nat.zero_le _, hs⟩, chk_t ⟨d, rfl, hd⟩, cl_n (by omega), cl_n (by omega), cl_n (by omega)]
  exact c_X9_kiteInTheWay hK hL0 hO hI (fun _ => by rw [e]; exact hq) (fun h => by rw [e] at h; cases h) (fun h => by rw [e] at h; cases h)
set_option maxHeartbeats 4000000 in
set_option maxRecDepth 100000 in
theorem c_L_grants {G : GC} {w : Lay} {σ : Mem} {Q : Lay → Option Value → Mem → Prop} {Qx : Lay → String → Mem → Prop} (hW : LAY5 w) {A : Nat → Int32} {c hm px u : Nat} (hS : LSt σ c hm A px u) (hc : c < 2 ^ 29) (hh : hm ≤ 1000) {k : Nat} (hk : k < nv A 6) {s d : Nat} (hs : s ≤ 900000) (hd : 1 ≤ d ∧ d ≤ 24) (hq : ∀ σ' B px' u', LSt σ' c hm B px' u' → Q w (some (.int (nI 1))) σ') : ML_grants G w σ [.ref (w.2.1 12 0), .int (nI k), .int (nI s), .int (nI d)] Q Qx := by
  refine mt_start (by decide) rfl (Nat.le_of_ble_eq_true rfl) (fun E hC hR hN => ?_)
  show J G E w 0 0 0 [some (.ref (w.2.1 12 0)), some (.int (nI k)), some (.int (nI s)), some (.int (nI d)), none, none, none, none, none, none, none] [] σ
  have hK := hW.1
  have hL0 := hW.2 0 (by decide)
  obtain ⟨hO, hV, hpx, hu, hn9, hc9, hz⟩ := id hS
  obtain ⟨hI, hX, hCo, hT, hF, hP, hE⟩ := hV
  have h6 := r_NK hI
  have h7 := r_HOUR hI
  have h11 := r_NP hI
  have hfee := r_FEE hI
  have hpu := coin_purse hCo hk
  have hof := coin_office hCo
  have hre := refuse_le A k s d
  have hiw := inWay_rng hI k s d
  refine J_aload_n hC dL_grants_0 rfl rfl ?_
  refine J_iload_n hC dL_grants_1 rfl rfl ?_
  refine J_iload_n hC dL_grants_2 rfl rfl ?_
  refine J_iload_n hC dL_grants_3 rfl rfl ?_
  refine jL_98 hC hK rfl ⟨by decide, by decide⟩ ⟨by decide, by decide⟩ (Nat.le_of_ble_eq_true rfl) dL_grants_4 ?_
  refine c1_X9_whyNotPermit hK hL0 hO hI (by omega) hk (by omega) hd ?_
  dsimp only [Option.toList_some, Option.toList_none, List.cons_append, List.nil_append]
  refine J_istore hC dL_grants_7 (Nat.le_of_ble_eq_true rfl) rfl ?_
  dsimp only [List.set]
  refine J_aload_n hC dL_grants_9 rfl rfl ?_
  refine jL_43 hC hK rfl ⟨by decide, by decide⟩ ⟨by decide, by decide⟩ (Nat.le_of_ble_eq_true rfl) dL_grants_10 ?_
  refine c_X9_permitCount hK hL0 hO hI  ?_
  dsimp only [Option.toList_some, Option.toList_none, List.cons_append, List.nil_append]
  refine J_top (r_NP hI).1 ?_
  refine J_istore hC dL_grants_13 (Nat.le_of_ble_eq_true rfl) rfl ?_
  dsimp only [List.set]
  refine J_aload_n hC dL_grants_15 rfl rfl ?_
  refine J_iload_n hC dL_grants_16 rfl rfl ?_
  refine jL_83 hC hK rfl ⟨by decide, by decide⟩ ⟨by decide, by decide⟩ (Nat.le_of_ble_eq_true rfl) dL_grants_17 ?_
  refine c1_X9_purse hK hL0 hO hI hk ?_
  dsimp only [Option.toList_some, Option.toList_none, List.cons_append, List.nil_append]
  refine J_top (hCo.1 k hk) ?_
  refine J_istore hC dL_grants_20 (Nat.le_of_ble_eq_true rfl) rfl ?_
  dsimp only [List.set]
  refine J_aload_n hC dL_grants_22 rfl rfl ?_
  refine jL_101 hC hK rfl ⟨by decide, by decide⟩ ⟨by decide, by decide⟩ (Nat.le_of_ble_eq_true rfl) dL_grants_23 ?_
  refine c_X9_officeCoins hK hL0 hO hI  ?_
  dsimp only [Option.toList_some, Option.toList_none, List.cons_append, List.nil_append]
  refine J_top hCo.2.1 ?_
  refine J_istore hC dL_grants_26 (Nat.le_of_ble_eq_true rfl) rfl ?_
  dsimp only [List.set]
  refine J_aload_n hC dL_grants_28 rfl rfl ?_
  refine J_iload_n hC dL_grants_29 rfl rfl ?_
  refine J_iload_n hC dL_grants_30 rfl rfl ?_
  refine J_iload_n hC dL_grants_31 rfl rfl ?_
  refine jL_104 hC hK rfl ⟨by decide, by decide⟩ ⟨by decide, by decide⟩ (Nat.le_of_ble_eq_true rfl) dL_grants_32 ?_
  refine c1_X9_kiteInTheWay hK hL0 hO hI (by omega) hk (by omega) hd ?_
  dsimp only [Option.toList_some, Option.toList_none, List.cons_append, List.nil_append]
  refine J_istore hC dL_grants_35 (Nat.le_of_ble_eq_true rfl) rfl ?_
  dsimp only [List.set]
  refine J_aload_n hC dL_grants_37 rfl rfl ?_
  refine J_iload_n hC dL_grants_38 rfl rfl ?_
  refine J_iload_n hC dL_grants_39 rfl rfl ?_
  refine J_iload_n hC dL_grants_40 rfl rfl ?_
  refine jL_107 hC rfl ⟨by decide, by decide⟩ ⟨by decide, by decide⟩ (Nat.le_of_ble_eq_true rfl) dL_grants_41 ?_
  refine c_L_permit hW hS hc hh hk hs hd (fun q σ2 px2 u2 hS2 => ?_) (fun q => ?_)
  · dsimp only [Option.toList_some, Option.toList_none, List.cons_append, List.nil_append]
    obtain ⟨hO, hV, hpx9, hu9, hn99, hc99, hz9⟩ := id hS2
    obtain ⟨hI, hX2, hCo2, hT2, hF2, hP2, hE2⟩ := hV
    have hk16 : k < 16 := by omega
    have b11 := nv_of (grantA_11 (A := A) (s := s) (d := d) hk16) (by omega)
    have bk := nv_of (grantA_k (A := A) (s := s) (d := d) hk16) (by omega)
    have bs := nv_of (grantA_b (A := A) (s := s) (d := d) hk16) (by omega)
    have b6 : nv (grantA A k s d) 6 = nv A 6 := nv_congr (grantA_lo (by omega) (by omega) (by omega) (by omega) (by omega) (by omega))
    have b2 : nv (grantA A k s d) 2 = nv A 2 := nv_congr (grantA_lo (by omega) (by omega) (by omega) (by omega) (by omega) (by omega))
    have hfd : nv A 2 * d ≤ 20 * 24 := Nat.mul_le_mul hfee.2 hd.2
    have hle : nv A 2 * d ≤ nv A (70 + 9 * k + 5) := by
      have z := (refuse_0 q).2.2.2.2.2.2
      rw [hCo.1 k hk, nI_ltI (by omega) (by omega)] at z
      omega
    have bp : nv (grantA A k s d) (70 + 9 * k + 5) = nv A (70 + 9 * k + 5) - nv A 2 * d := by
      refine nv_of ?_ (by omega)
      unfold grantA
      rw [upd_n (by omega), upd_s, hCo.1 k hk, nI_iI, nI_iI, iI_sub, nI_iI]
      congr 1
      omega
    have bo : nv (grantA A k s d) 9 = nv A 9 + nv A 2 * d := by
      refine nv_of ?_ (by omega)
      unfold grantA
      rw [upd_s, hCo.2.1, nI_add]
    rw [q]
    refine J_istore hC dL_grants_44 (Nat.le_of_ble_eq_true rfl) rfl ?_
    dsimp only [List.set]
    refine J_iload hC dL_grants_46 rfl ?_
    refine J_if_ne_n hC (by decide) (tgt := 55) dL_grants_48 rfl (fun hf => absurd hf (by omega)) (fun _ => ?_)
    refine J_iconst (v := nI 1) hC dL_grants_51 (by decide) ?_
    refine J_goto (tgt := 56) hC dL_grants_52 rfl ?_
    refine J_iload hC dL_grants_56 rfl ?_
    refine J_if_lt_n hC (by omega) (tgt := 65) dL_grants_58 rfl (fun c1 => ?_) (fun c1 => ?_)
    · exact absurd c1 (by omega)
    · refine J_iconst (v := nI 1) hC dL_grants_61 (by decide) ?_
      refine J_goto (tgt := 66) hC dL_grants_62 rfl ?_
      refine J_icmp_ne_n hC (by decide) (by decide) (tgt := 91) dL_grants_66 rfl (fun hf => absurd hf (by omega)) (fun _ => ?_)
      refine J_iload hC dL_grants_69 rfl ?_
      refine J_bipush (v := nI 6) hC dL_grants_71 (by decide) ?_
      refine J_icmp_ne_n hC (by decide) (by decide) (tgt := 81) dL_grants_73 rfl (fun _ => ?_) (fun hf => absurd hf (by omega))
      refine J_iload hC dL_grants_81 rfl ?_
      refine J_if_ne_n hC (by decide) (tgt := 93) dL_grants_83 rfl (fun hf => absurd hf (by omega)) (fun _ => ?_)
      refine J_iload hC dL_grants_86 rfl ?_
      refine J_if_lt_z hC rfl (by omega) (tgt := 93) dL_grants_88 rfl (fun c2 => ?_) (fun c2 => ?_)
      · refine J_iload hC dL_grants_93 rfl ?_
        refine J_if_eq_n hC (by decide) (tgt := 123) dL_grants_95 rfl (fun _ => ?_) (fun hf => absurd hf (by omega))
        refine J_aload_n hC dL_grants_123 rfl rfl ?_
        refine jL_110 hC hK rfl ⟨by decide, by decide⟩ ⟨by decide, by decide⟩ (Nat.le_of_ble_eq_true rfl) dL_grants_124 ?_
        refine c_X9_fee hK hL0 hO hI  ?_
        dsimp only [Option.toList_some, Option.toList_none, List.cons_append, List.nil_append]
        refine J_top ((r_FEE hI).1.trans (congrArg nI b2)) ?_
        refine J_iload_n hC dL_grants_127 rfl rfl ?_
        refine J_imul_n hC dL_grants_128 ?_
        refine J_istore hC dL_grants_129 (Nat.le_of_ble_eq_true rfl) rfl ?_
        dsimp only [List.set]
        refine J_iload hC dL_grants_131 rfl ?_
        refine J_iload hC dL_grants_133 rfl ?_
        refine J_iconst (v := nI 1) hC dL_grants_135 (by decide) ?_
        refine J_iadd_n hC dL_grants_136 ?_
        refine J_icmp_ne_n hC (by omega) (by omega) (tgt := 189) dL_grants_137 rfl (fun c3 => ?_) (fun c3 => ?_)
        · exact absurd rfl c3
        · refine J_aload_n hC dL_grants_140 rfl rfl ?_
          refine J_iload hC dL_grants_141 rfl ?_
          refine jL_46 hC hK rfl ⟨by decide, by decide⟩ ⟨by decide, by decide⟩ (Nat.le_of_ble_eq_true rfl) dL_grants_143 ?_
          refine c1_X9_permitKite hK hL0 hO hI (p := nv A 11) (by omega) ?_
          dsimp only [Option.toList_some, Option.toList_none, List.cons_append, List.nil_append]
          refine J_top (congrArg nI bk) ?_
          refine J_iload_n hC dL_grants_146 rfl rfl ?_
          refine J_icmp_ne_n hC (by omega) (by omega) (tgt := 189) dL_grants_147 rfl (fun c4 => ?_) (fun c4 => ?_)
          · exact absurd rfl c4
          · refine J_aload_n hC dL_grants_150 rfl rfl ?_
            refine J_iload hC dL_grants_151 rfl ?_
            refine jL_49 hC hK rfl ⟨by decide, by decide⟩ ⟨by decide, by decide⟩ (Nat.le_of_ble_eq_true rfl) dL_grants_153 ?_
            refine c1_X9_permitStart hK hL0 hO hI (p := nv A 11) (by omega) ?_
            dsimp only [Option.toList_some, Option.toList_none, List.cons_append, List.nil_append]
            refine J_top (congrArg nI bs) ?_
            refine J_iload_n hC dL_grants_156 rfl rfl ?_
            refine J_icmp_ne_n hC (by omega) (by omega) (tgt := 189) dL_grants_157 rfl (fun c5 => ?_) (fun c5 => ?_)
            · exact absurd rfl c5
            · refine J_aload_n hC dL_grants_160 rfl rfl ?_
              refine J_iload_n hC dL_grants_161 rfl rfl ?_
              refine jL_83 hC hK rfl ⟨by decide, by decide⟩ ⟨by decide, by decide⟩ (Nat.le_of_ble_eq_true rfl) dL_grants_162 ?_
              refine c1_X9_purse hK hL0 hO hI (by omega) ?_
              dsimp only [Option.toList_some, Option.toList_none, List.cons_append, List.nil_append]
              refine J_top ((hCo2.1 k (by omega)).trans (congrArg nI bp)) ?_
              refine J_iload hC dL_grants_165 rfl ?_
              refine J_iload hC dL_grants_167 rfl ?_
              refine J_isub_z hC (nI_iI _) (nI_iI _) dL_grants_169 ?_
              refine J_icmp_ne_z hC (nI_iI _) rfl (by omega) (by omega) (tgt := 189) dL_grants_170 rfl (fun c6 => ?_) (fun c6 => ?_)
              · exact absurd (by omega) c6
              · refine J_aload_n hC dL_grants_173 rfl rfl ?_
                refine jL_101 hC hK rfl ⟨by decide, by decide⟩ ⟨by decide, by decide⟩ (Nat.le_of_ble_eq_true rfl) dL_grants_174 ?_
                refine c_X9_officeCoins hK hL0 hO hI  ?_
                dsimp only [Option.toList_some, Option.toList_none, List.cons_append, List.nil_append]
                refine J_top (hCo2.2.1.trans (congrArg nI bo)) ?_
                refine J_iload hC dL_grants_177 rfl ?_
                refine J_iload hC dL_grants_179 rfl ?_
                refine J_iadd_n hC dL_grants_181 ?_
                refine J_icmp_ne_n hC (by omega) (by omega) (tgt := 189) dL_grants_182 rfl (fun c7 => ?_) (fun c7 => ?_)
                · exact absurd rfl c7
                · refine J_iconst (v := nI 1) hC dL_grants_185 (by decide) ?_
                  refine J_goto (tgt := 190) hC dL_grants_186 rfl ?_
                  refine J_zreturn hC hR dL_grants_190 (by decide) (by decide) (by decide) ?_
                  exact hq _ _ _ _ hS2
      · exact absurd (refuse_0 q).2.2.2.2.2.1 (by omega)
  · dsimp only [Option.toList_some, Option.toList_none, List.cons_append, List.nil_append]
    refine J_istore hC dL_grants_44 (Nat.le_of_ble_eq_true rfl) rfl ?_
    dsimp only [List.set]
    refine J_iload hC dL_grants_46 rfl ?_
    refine J_if_ne_n hC (by omega) (tgt := 55) dL_grants_48 rfl (fun b1 => ?_) (fun b1 => ?_)
    · refine J_iconst (v := nI 0) hC dL_grants_55 (by decide) ?_
      refine J_iload hC dL_grants_56 rfl ?_
      refine J_if_lt hC (tgt := 65) dL_grants_58 rfl (fun _ => ?_) (fun hf => absurd hf (by decide))
      refine J_iconst (v := nI 0) hC dL_grants_65 (by decide) ?_
      refine J_icmp_ne_n hC (by decide) (by decide) (tgt := 91) dL_grants_66 rfl (fun hf => absurd hf (by omega)) (fun _ => ?_)
      refine J_iload hC dL_grants_69 rfl ?_
      refine J_bipush (v := nI 6) hC dL_grants_71 (by decide) ?_
      refine J_icmp_ne_n hC (by omega) (by decide) (tgt := 81) dL_grants_73 rfl (fun b2 => ?_) (fun b2 => ?_)
      · refine J_iload hC dL_grants_81 rfl ?_
        refine J_if_ne_n hC (by omega) (tgt := 93) dL_grants_83 rfl (fun b4 => ?_) (fun b4 => ?_)
        · refine J_iload hC dL_grants_93 rfl ?_
          refine J_if_eq_n hC (by omega) (tgt := 123) dL_grants_95 rfl (fun b5 => ?_) (fun b5 => ?_)
          · exact absurd b5 q
          · refine J_aload_n hC dL_grants_98 rfl rfl ?_
            refine jL_43 hC hK rfl ⟨by decide, by decide⟩ ⟨by decide, by decide⟩ (Nat.le_of_ble_eq_true rfl) dL_grants_99 ?_
            refine c_X9_permitCount hK hL0 hO hI  ?_
            dsimp only [Option.toList_some, Option.toList_none, List.cons_append, List.nil_append]
            refine J_top (r_NP hI).1 ?_
            refine J_iload hC dL_grants_102 rfl ?_
            refine J_icmp_ne_n hC (by omega) (by omega) (tgt := 121) dL_grants_104 rfl (fun b6 => ?_) (fun b6 => ?_)
            · exact absurd rfl b6
            · refine J_aload_n hC dL_grants_107 rfl rfl ?_
              refine J_iload_n hC dL_grants_108 rfl rfl ?_
              refine jL_83 hC hK rfl ⟨by decide, by decide⟩ ⟨by decide, by decide⟩ (Nat.le_of_ble_eq_true rfl) dL_grants_109 ?_
              refine c1_X9_purse hK hL0 hO hI hk ?_
              dsimp only [Option.toList_some, Option.toList_none, List.cons_append, List.nil_append]
              refine J_top (hCo.1 k hk) ?_
              refine J_iload hC dL_grants_112 rfl ?_
              refine J_icmp_ne_n hC (by omega) (by omega) (tgt := 121) dL_grants_114 rfl (fun b7 => ?_) (fun b7 => ?_)
              · exact absurd rfl b7
              · refine J_iconst (v := nI 1) hC dL_grants_117 (by decide) ?_
                refine J_goto (tgt := 122) hC dL_grants_118 rfl ?_
                refine J_zreturn hC hR dL_grants_122 (by decide) (by decide) (by decide) ?_
                exact hq _ _ _ _ hS
        · exact absurd b4 q
      · refine J_iload hC dL_grants_76 rfl ?_
        refine J_if_lt_z hC rfl (by omega) (tgt := 91) dL_grants_78 rfl (fun b3 => ?_) (fun b3 => ?_)
        · exact absurd (refuse_6 b2) (by omega)
        · refine J_iload hC dL_grants_81 rfl ?_
          refine J_if_ne_n hC (by omega) (tgt := 93) dL_grants_83 rfl (fun b4 => ?_) (fun b4 => ?_)
          · refine J_iload hC dL_grants_93 rfl ?_
            refine J_if_eq_n hC (by omega) (tgt := 123) dL_grants_95 rfl (fun b5 => ?_) (fun b5 => ?_)
            · exact absurd b5 q
            · refine J_aload_n hC dL_grants_98 rfl rfl ?_
              refine jL_43 hC hK rfl ⟨by decide, by decide⟩ ⟨by decide, by decide⟩ (Nat.le_of_ble_eq_true rfl) dL_grants_99 ?_
              refine c_X9_permitCount hK hL0 hO hI  ?_
              dsimp only [Option.toList_some, Option.toList_none, List.cons_append, List.nil_append]
              refine J_top (r_NP hI).1 ?_
              refine J_iload hC dL_grants_102 rfl ?_
              refine J_icmp_ne_n hC (by omega) (by omega) (tgt := 121) dL_grants_104 rfl (fun b6 => ?_) (fun b6 => ?_)
              · exact absurd rfl b6
              · refine J_aload_n hC dL_grants_107 rfl rfl ?_
                refine J_iload_n hC dL_grants_108 rfl rfl ?_
                refine jL_83 hC hK rfl ⟨by decide, by decide⟩ ⟨by decide, by decide⟩ (Nat.le_of_ble_eq_true rfl) dL_grants_109 ?_
                refine c1_X9_purse hK hL0 hO hI hk ?_
                dsimp only [Option.toList_some, Option.toList_none, List.cons_append, List.nil_append]
                refine J_top (hCo.1 k hk) ?_
                refine J_iload hC dL_grants_112 rfl ?_
                refine J_icmp_ne_n hC (by omega) (by omega) (tgt := 121) dL_grants_114 rfl (fun b7 => ?_) (fun b7 => ?_)
                · exact absurd rfl b7
                · refine J_iconst (v := nI 1) hC dL_grants_117 (by decide) ?_
                  refine J_goto (tgt := 122) hC dL_grants_118 rfl ?_
                  refine J_zreturn hC hR dL_grants_122 (by decide) (by decide) (by decide) ?_
                  exact hq _ _ _ _ hS
          · exact absurd b4 q
    · exact absurd b1 q
