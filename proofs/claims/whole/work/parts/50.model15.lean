set_option maxHeartbeats 4000000 in
set_option maxRecDepth 100000 in
theorem c_X10_does {G : GC} {w : Lay} {σ : Mem} {Q : Lay → Option Value → Mem → Prop} {Qx : Lay → String → Mem → Prop} {hm : Nat} (hM : LM w) (hI : RowOK hm (rd σ 13 1)) (hb9 : hm ≤ 900000) {k v x y z : Nat} (hk20 : k < 20) (h6 : rd σ 13 6 k = nI (v - 1)) (h8 : 1 ≤ v ∧ v ≤ 8) (h7 : rd σ 13 7 (3 * k) = nI x ∧ (needY v → rd σ 13 7 (3 * k + 1) = nI y) ∧ (v = 4 → rd σ 13 7 (3 * k + 2) = nI z)) (hc : cmdOK v (x, y, z)) (ht : doOK (rd σ 13 1) (v, x, y, z) → Q w (some (.int (nI 1))) (setAK σ (doR (rd σ 13 1) (rd σ 13 8) (v, x, y, z)).1 (doR (rd σ 13 1) (rd σ 13 8) (v, x, y, z)).2)) (hf : ¬ doOK (rd σ 13 1) (v, x, y, z) → Q w (some (.int (nI 0))) σ) : MX10_does G w σ [.ref (w.2.1 13 0), .int (nI k)] Q Qx := by
  refine mt_start (by decide) rfl (Nat.le_of_ble_eq_true rfl) (fun E hC hR hN => ?_)
  show J G E w 0 0 0 [some (.ref (w.2.1 13 0)), some (.int (nI k)), none, none, none] [] σ
  refine J_aload_n hC dX10_does_0 rfl rfl ?_
  refine gX10_34 hC hM dX10_does_1 ?_
  refine J_iconst (v := nI 3) hC dX10_does_4 (by decide) ?_
  refine J_iload_n hC dX10_does_5 rfl rfl ?_
  refine J_imul_n hC dX10_does_6 ?_
  refine J_iaload hC (hM.1 7 (by decide)) rfl rfl (by omega) (by decide) dX10_does_7 ?_
  refine J_top h7.1 ?_
  refine J_istore_n hC dX10_does_8 rfl (Nat.le_of_ble_eq_true rfl) rfl ?_
  dsimp only [List.set]
  refine J_aload_n hC dX10_does_9 rfl rfl ?_
  refine gX10_34 hC hM dX10_does_10 ?_
  refine J_iconst (v := nI 3) hC dX10_does_13 (by decide) ?_
  refine J_iload_n hC dX10_does_14 rfl rfl ?_
  refine J_imul_n hC dX10_does_15 ?_
  refine J_iconst (v := nI 1) hC dX10_does_16 (by decide) ?_
  refine J_iadd_n hC dX10_does_17 ?_
  refine J_iaload hC (hM.1 7 (by decide)) rfl rfl (by omega) (by decide) dX10_does_18 ?_
  refine J_istore_n hC dX10_does_19 rfl (Nat.le_of_ble_eq_true rfl) rfl ?_
  dsimp only [List.set]
  refine J_aload_n hC dX10_does_20 rfl rfl ?_
  refine gX10_34 hC hM dX10_does_21 ?_
  refine J_iconst (v := nI 3) hC dX10_does_24 (by decide) ?_
  refine J_iload_n hC dX10_does_25 rfl rfl ?_
  refine J_imul_n hC dX10_does_26 ?_
  refine J_iconst (v := nI 2) hC dX10_does_27 (by decide) ?_
  refine J_iadd_n hC dX10_does_28 ?_
  refine J_iaload hC (hM.1 7 (by decide)) rfl rfl (by omega) (by decide) dX10_does_29 ?_
  refine J_istore hC dX10_does_30 (Nat.le_of_ble_eq_true rfl) rfl ?_
  dsimp only [List.set]
  refine J_aload_n hC dX10_does_32 rfl rfl ?_
  refine gX10_31 hC hM dX10_does_33 ?_
  refine J_iload_n hC dX10_does_36 rfl rfl ?_
  refine J_iaload hC (hM.1 6 (by decide)) rfl rfl (by omega) (by decide) dX10_does_37 ?_
  refine J_top h6 ?_
  refine J_iconst (v := nI 2) hC dX10_does_38 (by decide) ?_
  refine J_icmp_ne_n hC (by omega) (by decide) (tgt := 50) dX10_does_39 rfl (fun b2 => ?_) (fun b2 => ?_)
  · refine J_aload_n hC dX10_does_50 rfl rfl ?_
    refine J_iload_n hC dX10_does_51 rfl rfl ?_
    refine iX10_278 hC hM rfl ⟨by decide, by decide⟩ ⟨by decide, by decide⟩ (Nat.le_of_ble_eq_true rfl) dX10_does_52 ?_
    refine k_isK hM hI (fun hk => ?_) (fun hk => ?_)
    · dsimp only [Option.toList_some, Option.toList_none, List.cons_append, List.nil_append]
      obtain ⟨k2, e2, hk2⟩ := hk
      have e3 := congrArg cl e2
      have hx15 : x ≤ 48 := by
        by_cases q : v = 3
        · exact (hc.1 q).2
        · have := hc.2.1 q; dsimp only at this; omega
      have hNK := r_NK hI
      rw [cl_n (by omega), cl_n (by omega)] at e3
      subst e3
      refine J_if_ne_n hC (by decide) (tgt := 60) dX10_does_55 rfl (fun _ => ?_) (fun hf => absurd hf (by omega))
      refine J_aload_n hC dX10_does_60 rfl rfl ?_
      refine gX10_31 hC hM dX10_does_61 ?_
      refine J_iload_n hC dX10_does_64 rfl rfl ?_
      refine J_iaload hC (hM.1 6 (by decide)) rfl rfl (by omega) (by decide) dX10_does_65 ?_
      refine J_top h6 ?_
      have hv8 : v = 1 ∨ v = 2 ∨ v = 4 ∨ v = 5 ∨ v = 6 ∨ v = 7 ∨ v = 8 := by omega
      rcases hv8 with rfl | rfl | rfl | rfl | rfl | rfl | rfl
      · refine J_tableIn (off := 42) (tgt := 108) hC dX10_does_66 (by decide) (by decide) rfl rfl ?_
        refine J_aload_n hC dX10_does_108 rfl rfl ?_
        refine J_iload_n hC dX10_does_109 rfl rfl ?_
        refine iX10_281 hC hM rfl ⟨by decide, by decide⟩ ⟨by decide, by decide⟩ (Nat.le_of_ble_eq_true rfl) dX10_does_110 ?_
        refine c_X10_canLaunch hM hI hk2 (by have := (r_HOUR hI).2; omega) (fun gc => ?_) (fun gc => ?_)
        · dsimp only [Option.toList_some, Option.toList_none, List.cons_append, List.nil_append]
          have fc := gc
          refine J_if_ne_n hC (by decide) (tgt := 118) dX10_does_113 rfl (fun _ => ?_) (fun hf => absurd hf (by omega))
          refine J_aload_n hC dX10_does_118 rfl rfl ?_
          refine J_iload_n hC dX10_does_119 rfl rfl ?_
          refine iX10_284 hC hM rfl ⟨by decide, by decide⟩ ⟨by decide, by decide⟩ (Nat.le_of_ble_eq_true rfl) dX10_does_120 ?_
          refine c_X10_launched hM hI hk2 (by have := (r_HOUR hI).2; omega) ?_
          dsimp only [Option.toList_some, Option.toList_none, List.cons_append, List.nil_append]
          refine J_pop hC dX10_does_123 rfl ?_
          refine J_iconst (v := nI 1) hC dX10_does_124 (by decide) ?_
          refine J_zreturn hC hR dX10_does_125 (by decide) (by decide) (by decide) ?_
          have q := ht (Or.inr ⟨hk2, fun _ => fc, fun q => absurd (show (1 : Nat) = 2 from q) (by decide), fun q => absurd (show (1 : Nat) = 4 from q) (by decide), fun q => absurd (show (1 : Nat) = 6 from q) (by decide), fun q => absurd (show (1 : Nat) = 7 from q) (by decide)⟩)
          rw [show doR (rd σ 13 1) (rd σ 13 8) (1, x, y, z) = (launchA (rd σ 13 1) x, (rd σ 13 8)) from rfl] at q
          dsimp only at q
          rw [← setA_K] at q
          exact q
        · dsimp only [Option.toList_some, Option.toList_none, List.cons_append, List.nil_append]
          refine J_if_ne_n hC (by decide) (tgt := 118) dX10_does_113 rfl (fun hf => absurd hf (by omega)) (fun _ => ?_)
          refine J_iconst (v := nI 0) hC dX10_does_116 (by decide) ?_
          refine J_zreturn hC hR dX10_does_117 (by decide) (by decide) (by decide) ?_
          exact hf (fun q => by
            rcases q with q | q
            · exact absurd (show (1 : Nat) = 3 from q) (by decide)
            · exact gc (q.2.1 rfl))
      · refine J_tableIn (off := 60) (tgt := 126) hC dX10_does_66 (by decide) (by decide) rfl rfl ?_
        refine J_aload_n hC dX10_does_126 rfl rfl ?_
        refine J_iload_n hC dX10_does_127 rfl rfl ?_
        refine J_bipush (v := nI 6) hC dX10_does_128 (by decide) ?_
        refine iX10_79 hC hM rfl ⟨by decide, by decide⟩ ⟨by decide, by decide⟩ (Nat.le_of_ble_eq_true rfl) dX10_does_130 ?_
        refine c_X10_of hM (by omega) ?_
        dsimp only [Option.toList_some, Option.toList_none, List.cons_append, List.nil_append]
        have j1 := (r_KS hI hk2).2
        refine J_top (r_KS hI hk2).1 ?_
        refine J_iconst (v := nI 1) hC dX10_does_133 (by decide) ?_
        refine J_icmp_eq_n hC (by omega) (by decide) (tgt := 139) dX10_does_134 rfl (fun s1 => ?_) (fun s1 => ?_)
        · have fc : (rd σ 13 1) (70 + 9 * x + 6) = nI 1 := by rw [(r_KS hI hk2).1, s1]
          refine J_aload_n hC dX10_does_139 rfl rfl ?_
          refine J_iload_n hC dX10_does_140 rfl rfl ?_
          refine iX10_287 hC hM rfl ⟨by decide, by decide⟩ ⟨by decide, by decide⟩ (Nat.le_of_ble_eq_true rfl) dX10_does_141 ?_
          refine c_X10_landed hM hI hk2 ?_
          dsimp only [Option.toList_some, Option.toList_none, List.cons_append, List.nil_append]
          refine J_pop hC dX10_does_144 rfl ?_
          refine J_iconst (v := nI 1) hC dX10_does_145 (by decide) ?_
          refine J_zreturn hC hR dX10_does_146 (by decide) (by decide) (by decide) ?_
          have q := ht (Or.inr ⟨hk2, fun q => absurd (show (2 : Nat) = 1 from q) (by decide), fun _ => fc, fun q => absurd (show (2 : Nat) = 4 from q) (by decide), fun q => absurd (show (2 : Nat) = 6 from q) (by decide), fun q => absurd (show (2 : Nat) = 7 from q) (by decide)⟩)
          rw [show doR (rd σ 13 1) (rd σ 13 8) (2, x, y, z) = (stateA (rd σ 13 1) x 0, (rd σ 13 8)) from rfl] at q
          dsimp only at q
          rw [← setA_K] at q
          exact q
        · have gc : ¬ (rd σ 13 1) (70 + 9 * x + 6) = nI 1 := fun q => s1 (nv_of q (by decide))
          refine J_iconst (v := nI 0) hC dX10_does_137 (by decide) ?_
          refine J_zreturn hC hR dX10_does_138 (by decide) (by decide) (by decide) ?_
          exact hf (fun q => by
            rcases q with q | q
            · exact absurd (show (2 : Nat) = 3 from q) (by decide)
            · exact gc (q.2.2.1 rfl))
      · refine J_tableIn (off := 81) (tgt := 147) hC dX10_does_66 (by decide) (by decide) rfl rfl ?_
        have y1 := h7.2.1 (Or.inl rfl)
        have z1 := h7.2.2 rfl
        have yz := hc.2.2.1 rfl
        dsimp only at y1 z1 yz
        rw [y1]
        rw [z1]
        refine J_aload_n hC dX10_does_147 rfl rfl ?_
        refine J_iload_n hC dX10_does_148 rfl rfl ?_
        refine J_iload_n hC dX10_does_149 rfl rfl ?_
        refine J_iload hC dX10_does_150 rfl ?_
        refine iX10_290 hC hM rfl ⟨by decide, by decide⟩ ⟨by decide, by decide⟩ (Nat.le_of_ble_eq_true rfl) dX10_does_152 ?_
        refine c_X10_refusal hM hI hk2 (by omega) (by omega) (by have := (r_HOUR hI).2; omega) ?_
        dsimp only [Option.toList_some, Option.toList_none, List.cons_append, List.nil_append]
        have hr7 := refuse_le (rd σ 13 1) x y z
        refine J_if_le_n hC (by omega) (tgt := 160) dX10_does_155 rfl (fun hz => ?_) (fun hz => ?_)
        · have fc : refuse (rd σ 13 1) x y z = 0 := by omega
          refine J_aload_n hC dX10_does_160 rfl rfl ?_
          refine J_iload_n hC dX10_does_161 rfl rfl ?_
          refine J_iload_n hC dX10_does_162 rfl rfl ?_
          refine J_iload hC dX10_does_163 rfl ?_
          refine iX10_293 hC hM rfl ⟨by decide, by decide⟩ ⟨by decide, by decide⟩ (Nat.le_of_ble_eq_true rfl) dX10_does_165 ?_
          refine c_X10_granted hM hI hk2 (refuse_np hI fc) ?_
          dsimp only [Option.toList_some, Option.toList_none, List.cons_append, List.nil_append]
          refine J_pop hC dX10_does_168 rfl ?_
          refine J_iconst (v := nI 1) hC dX10_does_169 (by decide) ?_
          refine J_zreturn hC hR dX10_does_170 (by decide) (by decide) (by decide) ?_
          have q := ht (Or.inr ⟨hk2, fun q => absurd (show (4 : Nat) = 1 from q) (by decide), fun q => absurd (show (4 : Nat) = 2 from q) (by decide), fun _ => fc, fun q => absurd (show (4 : Nat) = 6 from q) (by decide), fun q => absurd (show (4 : Nat) = 7 from q) (by decide)⟩)
          rw [show doR (rd σ 13 1) (rd σ 13 8) (4, x, y, z) = (grantA (rd σ 13 1) x y z, (rd σ 13 8)) from rfl] at q
          dsimp only at q
          rw [← setA_K] at q
          exact q
        · have gc : ¬ refuse (rd σ 13 1) x y z = 0 := by omega
          refine J_iconst (v := nI 0) hC dX10_does_158 (by decide) ?_
          refine J_zreturn hC hR dX10_does_159 (by decide) (by decide) (by decide) ?_
          exact hf (fun q => by
            rcases q with q | q
            · exact absurd (show (4 : Nat) = 3 from q) (by decide)
            · exact gc (q.2.2.2.1 rfl))
      · refine J_tableIn (off := 105) (tgt := 171) hC dX10_does_66 (by decide) (by decide) rfl rfl ?_
        refine J_aload_n hC dX10_does_171 rfl rfl ?_
        refine J_iload_n hC dX10_does_172 rfl rfl ?_
        refine iX10_172 hC hM rfl ⟨by decide, by decide⟩ ⟨by decide, by decide⟩ (Nat.le_of_ble_eq_true rfl) dX10_does_173 ?_
        refine c_X10_cancelled hM hI (by omega) ?_
        dsimp only [Option.toList_some, Option.toList_none, List.cons_append, List.nil_append]
        refine J_pop hC dX10_does_176 rfl ?_
        refine J_iconst (v := nI 1) hC dX10_does_177 (by decide) ?_
        refine J_zreturn hC hR dX10_does_178 (by decide) (by decide) (by decide) ?_
        have q := ht (Or.inr ⟨hk2, fun q => absurd (show (5 : Nat) = 1 from q) (by decide), fun q => absurd (show (5 : Nat) = 2 from q) (by decide), fun q => absurd (show (5 : Nat) = 4 from q) (by decide), fun q => absurd (show (5 : Nat) = 6 from q) (by decide), fun q => absurd (show (5 : Nat) = 7 from q) (by decide)⟩)
        rw [show doR (rd σ 13 1) (rd σ 13 8) (5, x, y, z) = ((cancelR (rd σ 13 1) x).1, (rd σ 13 8)) from rfl] at q
        dsimp only at q
        rw [← setA_K] at q
        exact q
      · refine J_tableIn (off := 113) (tgt := 179) hC dX10_does_66 (by decide) (by decide) rfl rfl ?_
        have y1 := h7.2.1 (Or.inr (Or.inl rfl))
        rw [y1]
        refine J_aload_n hC dX10_does_179 rfl rfl ?_
        refine J_iload_n hC dX10_does_180 rfl rfl ?_
        refine J_bipush (v := nI 6) hC dX10_does_181 (by decide) ?_
        refine iX10_79 hC hM rfl ⟨by decide, by decide⟩ ⟨by decide, by decide⟩ (Nat.le_of_ble_eq_true rfl) dX10_does_183 ?_
        refine c_X10_of hM (by omega) ?_
        dsimp only [Option.toList_some, Option.toList_none, List.cons_append, List.nil_append]
        have j1 := (r_KS hI hk2).2
        refine J_top (r_KS hI hk2).1 ?_
        refine J_if_eq_n hC (by omega) (tgt := 191) dX10_does_186 rfl (fun s1 => ?_) (fun s1 => ?_)
        · have fc : (rd σ 13 1) (70 + 9 * x + 6) = nI 0 := by rw [(r_KS hI hk2).1, s1]
          refine J_aload_n hC dX10_does_191 rfl rfl ?_
          refine J_iload_n hC dX10_does_192 rfl rfl ?_
          refine J_iload_n hC dX10_does_193 rfl rfl ?_
          refine iX10_296 hC hM rfl ⟨by decide, by decide⟩ ⟨by decide, by decide⟩ (Nat.le_of_ble_eq_true rfl) dX10_does_194 ?_
          refine c_X10_tied hM hI hk2 ?_
          dsimp only [Option.toList_some, Option.toList_none, List.cons_append, List.nil_append]
          refine J_pop hC dX10_does_197 rfl ?_
          refine J_iconst (v := nI 1) hC dX10_does_198 (by decide) ?_
          refine J_zreturn hC hR dX10_does_199 (by decide) (by decide) (by decide) ?_
          have q := ht (Or.inr ⟨hk2, fun q => absurd (show (6 : Nat) = 1 from q) (by decide), fun q => absurd (show (6 : Nat) = 2 from q) (by decide), fun q => absurd (show (6 : Nat) = 4 from q) (by decide), fun _ => fc, fun q => absurd (show (6 : Nat) = 7 from q) (by decide)⟩)
          rw [show doR (rd σ 13 1) (rd σ 13 8) (6, x, y, z) = (tieA (rd σ 13 1) x y, (rd σ 13 8)) from rfl] at q
          dsimp only at q
          rw [← setA_K] at q
          exact q
        · have gc : ¬ (rd σ 13 1) (70 + 9 * x + 6) = nI 0 := fun q => s1 (nv_of q (by decide))
          refine J_iconst (v := nI 0) hC dX10_does_189 (by decide) ?_
          refine J_zreturn hC hR dX10_does_190 (by decide) (by decide) (by decide) ?_
          exact hf (fun q => by
            rcases q with q | q
            · exact absurd (show (6 : Nat) = 3 from q) (by decide)
            · exact gc (q.2.2.2.2.1 rfl))
      · refine J_tableIn (off := 134) (tgt := 200) hC dX10_does_66 (by decide) (by decide) rfl rfl ?_
        refine J_aload_n hC dX10_does_200 rfl rfl ?_
        refine J_iload_n hC dX10_does_201 rfl rfl ?_
        refine iX10_299 hC hM rfl ⟨by decide, by decide⟩ ⟨by decide, by decide⟩ (Nat.le_of_ble_eq_true rfl) dX10_does_202 ?_
        refine c_X10_canRepair hM hI hk2 (fun gc => ?_) (fun gc => ?_)
        · dsimp only [Option.toList_some, Option.toList_none, List.cons_append, List.nil_append]
          have fc := gc
          refine J_if_ne_n hC (by decide) (tgt := 210) dX10_does_205 rfl (fun _ => ?_) (fun hf => absurd hf (by omega))
          refine J_aload_n hC dX10_does_210 rfl rfl ?_
          refine J_iload_n hC dX10_does_211 rfl rfl ?_
          refine iX10_302 hC hM rfl ⟨by decide, by decide⟩ ⟨by decide, by decide⟩ (Nat.le_of_ble_eq_true rfl) dX10_does_212 ?_
          refine c_X10_repaired hM hI hk2 ?_
          dsimp only [Option.toList_some, Option.toList_none, List.cons_append, List.nil_append]
          refine J_pop hC dX10_does_215 rfl ?_
          refine J_iconst (v := nI 1) hC dX10_does_216 (by decide) ?_
          refine J_zreturn hC hR dX10_does_217 (by decide) (by decide) (by decide) ?_
          have q := ht (Or.inr ⟨hk2, fun q => absurd (show (7 : Nat) = 1 from q) (by decide), fun q => absurd (show (7 : Nat) = 2 from q) (by decide), fun q => absurd (show (7 : Nat) = 4 from q) (by decide), fun q => absurd (show (7 : Nat) = 6 from q) (by decide), fun _ => fc⟩)
          rw [show doR (rd σ 13 1) (rd σ 13 8) (7, x, y, z) = (repA (rd σ 13 1) x, (rd σ 13 8)) from rfl] at q
          dsimp only at q
          rw [← setA_K] at q
          exact q
        · dsimp only [Option.toList_some, Option.toList_none, List.cons_append, List.nil_append]
          refine J_if_ne_n hC (by decide) (tgt := 210) dX10_does_205 rfl (fun hf => absurd hf (by omega)) (fun _ => ?_)
          refine J_iconst (v := nI 0) hC dX10_does_208 (by decide) ?_
          refine J_zreturn hC hR dX10_does_209 (by decide) (by decide) (by decide) ?_
          exact hf (fun q => by
            rcases q with q | q
            · exact absurd (show (7 : Nat) = 3 from q) (by decide)
            · exact gc (q.2.2.2.2.2 rfl))
      · refine J_tableOut (tgt := 218) hC dX10_does_66 (by decide) rfl ?_
        have y1 := h7.2.1 (Or.inr (Or.inr rfl))
        rw [y1]
        refine J_aload_n hC dX10_does_218 rfl rfl ?_
        refine J_iload_n hC dX10_does_219 rfl rfl ?_
        refine J_iload_n hC dX10_does_220 rfl rfl ?_
        refine iX10_305 hC hM rfl ⟨by decide, by decide⟩ ⟨by decide, by decide⟩ (Nat.le_of_ble_eq_true rfl) dX10_does_221 ?_
        refine c_X10_funded hM hI hk2 ?_
        dsimp only [Option.toList_some, Option.toList_none, List.cons_append, List.nil_append]
        refine J_pop hC dX10_does_224 rfl ?_
        refine J_iconst (v := nI 1) hC dX10_does_225 (by decide) ?_
        refine J_zreturn hC hR dX10_does_226 (by decide) (by decide) (by decide) ?_
        have q := ht (Or.inr ⟨hk2, fun q => absurd (show (8 : Nat) = 1 from q) (by decide), fun q => absurd (show (8 : Nat) = 2 from q) (by decide), fun q => absurd (show (8 : Nat) = 4 from q) (by decide), fun q => absurd (show (8 : Nat) = 6 from q) (by decide), fun q => absurd (show (8 : Nat) = 7 from q) (by decide)⟩)
        rw [show doR (rd σ 13 1) (rd σ 13 8) (8, x, y, z) = (fundA (rd σ 13 1) x (nI y), (rd σ 13 8)) from rfl] at q
        dsimp only at q
        rw [← setA_K] at q
        exact q
    · dsimp only [Option.toList_some, Option.toList_none, List.cons_append, List.nil_append]
      have gk : ¬ x < nv (rd σ 13 1) 6 := fun q => hk ⟨x, rfl, q⟩
      refine J_if_ne_n hC (by decide) (tgt := 60) dX10_does_55 rfl (fun hf => absurd hf (by omega)) (fun _ => ?_)
      refine J_iconst (v := nI 0) hC dX10_does_58 (by decide) ?_
      refine J_zreturn hC hR dX10_does_59 (by decide) (by decide) (by decide) ?_
      exact hf (fun q => by
        rcases q with q | q
        · have q2 : v = 3 := q
          omega
        · exact gk q.1)
  · refine J_aload_n hC dX10_does_42 rfl rfl ?_
    refine J_iload_n hC dX10_does_43 rfl rfl ?_
    refine iX10_275 hC hM rfl ⟨by decide, by decide⟩ ⟨by decide, by decide⟩ (Nat.le_of_ble_eq_true rfl) dX10_does_44 ?_
    refine c_X10_passed hM hI (by have := hc.1 (show v = 3 by omega); dsimp only at this; omega) ?_
    dsimp only [Option.toList_some, Option.toList_none, List.cons_append, List.nil_append]
    refine J_pop hC dX10_does_47 rfl ?_
    refine J_iconst (v := nI 1) hC dX10_does_48 (by decide) ?_
    refine J_zreturn hC hR dX10_does_49 (by decide) (by decide) (by decide) ?_
    have v3 : v = 3 := by omega
    subst v3
    have q := ht (Or.inl rfl)
    rw [show doR (rd σ 13 1) (rd σ 13 8) (3, x, y, z) = ((passed x ((rd σ 13 1), (rd σ 13 8), 0)).1, (passed x ((rd σ 13 1), (rd σ 13 8), 0)).2.1) from rfl] at q
    exact q
set_option maxHeartbeats 4000000 in
set_option maxRecDepth 100000 in
theorem c_X10_runScript {G : GC} {w : Lay} {σ : Mem} {Q : Lay → Option Value → Mem → Prop} {Qx : Lay → String → Mem → Prop} {hm : Nat} (hM : LM w) (hI : RowOK hm (rd σ 13 1)) (hb9 : hm ≤ 800000) {t : Nat → Nat} {L : Nat} (hX : TX σ t L) {f u : Nat} (hr : ringOK σ f u) (hok : ∀ (σ' : Mem) (C : Nat → Cmd) (n : Nat), pScript t L 21 (fun _ => (0, 0, 0, 0)) 0 0 = .inr (C, n) → LSok σ σ' (exN C n 20 ((rd σ 13 1), (rd σ 13 8)) 0).1.1 f u → Q w (some (.int (nI (exN C n 20 ((rd σ 13 1), (rd σ 13 8)) 0).2))) σ') (hf : ∀ (σ' : Mem) (e : Nat × Nat), pScript t L 21 (fun _ => (0, 0, 0, 0)) 0 0 = .inl e → LSno σ σ' e f u → Q w (some (.int (nI 0))) σ') : MX10_runScript G w σ [.ref (w.2.1 13 0)] Q Qx := by
  refine mt_start (by decide) rfl (Nat.le_of_ble_eq_true rfl) (fun E hC hR hN => ?_)
  show J G E w 0 0 0 [some (.ref (w.2.1 13 0)), none, none] [] σ
  refine J_aload_n hC dX10_runScript_0 rfl rfl ?_
  refine J_iconst (v := nI 0) hC dX10_runScript_1 (by decide) ?_
  refine pX10_62 hC hM dX10_runScript_2 ?_
  show J G E w 0 0 5 _ _ (thr σ 0)
  refine J_aload_n hC dX10_runScript_5 rfl rfl ?_
  refine J_iconst (v := nI 0) hC dX10_runScript_6 (by decide) ?_
  refine pX10_176 hC hM dX10_runScript_7 ?_
  have hX1 : TX (wr (thr σ 0) 13 0 16 (nI 0)) t L := ⟨fun j hj => ⟨(hX.1 j hj).1, by rw [rd_wr_c (by decide)]; exact (rd_wr_c (by decide)).trans (hX.1 j hj).2⟩, by rw [rd_wr_j (by decide)]; exact (rd_wr_j (by decide)).trans hX.2.1, hX.2.2⟩
  refine J_aload_n hC dX10_runScript_10 rfl rfl ?_
  refine iX10_326 hC hM rfl ⟨by decide, by decide⟩ ⟨by decide, by decide⟩ (Nat.le_of_ble_eq_true rfl) dX10_runScript_11 ?_
  refine c_X10_script hM hX1 rd_wr_s (fun τ => ?_) (fun τ => ?_)
  · dsimp only [Option.toList_some, Option.toList_none, List.cons_append, List.nil_append]
    intro C n e1 hG hCM0 h14 hn20
    obtain ⟨hr2, hr1, hr8, hLS0⟩ := run_ok hr hG
    refine J_istore_n hC dX10_runScript_14 rfl (Nat.le_of_ble_eq_true rfl) rfl ?_
    dsimp only [List.set]
    refine J_aload_n hC dX10_runScript_15 rfl rfl ?_
    refine J_iconst (v := nI 0) hC dX10_runScript_16 (by decide) ?_
    refine pX10_179 hC hM dX10_runScript_17 ?_
    refine J_iload_n hC dX10_runScript_20 rfl rfl ?_
    refine J_if_ne_n hC (by decide) (tgt := 30) dX10_runScript_21 rfl (fun _ => ?_) (fun hf => absurd hf (by omega))
    refine J_aload_n hC dX10_runScript_30 rfl rfl ?_
    refine iX10_323 hC hM rfl ⟨by decide, by decide⟩ ⟨by decide, by decide⟩ (Nat.le_of_ble_eq_true rfl) dX10_runScript_31 ?_
    refine c_X10_right hM ?_
    dsimp only [Option.toList_some, Option.toList_none, List.cons_append, List.nil_append]
    refine J_aload_n hC dX10_runScript_34 rfl rfl ?_
    refine iX10_320 hC hM rfl ⟨by decide, by decide⟩ ⟨by decide, by decide⟩ (Nat.le_of_ble_eq_true rfl) dX10_runScript_35 ?_
    refine c_X10_act hM hr2 ?_
    dsimp only [Option.toList_some, Option.toList_none, List.cons_append, List.nil_append]
    obtain ⟨μ, hμ⟩ : ∃ μ, (actM (wr (wr (wr τ 13 0 6 (nI 0)) 13 0 7 (nI 0)) 13 0 8 (-1)) f u) = μ := ⟨_, rfl⟩
    rw [hμ] at hr1 hr8 hLS0
    rw [hμ]
    have hLS := hLS0
    have hn14 : rd μ 13 0 14 = nI n := by rw [← hμ, rd_actM0 (by decide) (by decide), rd_wr_j (by decide), rd_wr_j (by decide), rd_wr_j (by decide)]; exact h14
    have hCM : CM μ C n := by
      unfold CM
      rw [← hμ, rd_actM (by decide), rd_actM (by decide), rd_wr_cell (by decide), rd_wr_cell (by decide), rd_wr_cell (by decide), rd_wr_cell (by decide), rd_wr_cell (by decide), rd_wr_cell (by decide)]
      exact hCM0
    have lp : ∀ (dd : Nat) (S : Rw × Rw) (k : Nat), n - k < dd → (k ≤ n) → (RowOK (hm + 48 * k) S.1) → (exN C n (20 - k) S k = (exN C n 20 ((rd σ 13 1), (rd σ 13 8)) 0)) →  J G E w 0 0 40 [some (.ref (w.2.1 13 0)), some (.int (nI 1)), some (.int (nI k))] [] (setAK μ S.1 S.2) := by
      intro dd
      induction dd with
      | zero =>
        intro S k hdd
        exact absurd hdd (Nat.not_lt_zero _)
      | succ dd ih =>
        intro S k hdd hk hI2 hF
        refine J_iload_n hC dX10_runScript_40 rfl rfl ?_
        refine J_aload_n hC dX10_runScript_41 rfl rfl ?_
        refine gX10_266 hC hM dX10_runScript_42 ?_
        refine J_top (show _ = nI n from by rw [rd_AK_ne (by decide) (by decide)]; exact hn14) ?_
        refine J_icmp_ge_n hC (by omega) (by omega) (tgt := 62) dX10_runScript_45 rfl (fun bk => ?_) (fun bk => ?_)
        · refine J_iload_n hC dX10_runScript_62 rfl rfl ?_
          refine J_ireturn hC hR dX10_runScript_63 (by decide) (by decide) ?_
          rw [ex_end (fun q => absurd q.1 (by omega))] at hF
          have q := hok _ C n e1 (show LSok σ (setAK μ S.1 S.2) (exN C n 20 ((rd σ 13 1), (rd σ 13 8)) 0).1.1 f u from by rw [← hF]; exact hLS S.1 S.2)
          rw [← hF] at q
          exact q
        · refine J_aload_n hC dX10_runScript_48 rfl rfl ?_
          refine J_iload_n hC dX10_runScript_49 rfl rfl ?_
          refine iX10_329 hC hM rfl ⟨by decide, by decide⟩ ⟨by decide, by decide⟩ (Nat.le_of_ble_eq_true rfl) dX10_runScript_50 ?_
          refine c_X10_does (v := (C k).1) (x := (C k).2.1) (y := (C k).2.2.1) (z := (C k).2.2.2) hM (by rw [rd_AK_A]; exact hI2) (by omega) (by omega) (by rw [rd_AK_ne (by decide) (by decide)]; exact (hCM k bk).1) (hCM k bk).2.1 (by rw [rd_AK_ne (by decide) (by decide)]; exact (hCM k bk).2.2.1) (hCM k bk).2.2.2 (fun bd => ?_) (fun bd => ?_)
          · dsimp only [Option.toList_some, Option.toList_none, List.cons_append, List.nil_append]
            rw [rd_AK_A] at bd
            rw [rd_AK_A, rd_AK_K, AK_AK]
            refine J_if_eq_n hC (by decide) (tgt := 62) dX10_runScript_53 rfl (fun hf => absurd hf (by omega)) (fun _ => ?_)
            refine J_iinc_n (m := 1) hC (by decide) dX10_runScript_56 rfl (Nat.le_of_ble_eq_true rfl) rfl ?_
            dsimp only [List.set]
            refine J_goto (tgt := 40) hC dX10_runScript_59 rfl ?_
            exact ih (doR S.1 S.2 (C k)) (k + 1) (by omega) (by omega) (RowOK_mono (doR_ok hI2 (hCM k bk).2.2.2 (hCM k bk).2.1 bd (by omega)) (by omega)) (by rw [← hF, ex_go (by omega) bk bd]; rfl)
          · dsimp only [Option.toList_some, Option.toList_none, List.cons_append, List.nil_append]
            rw [rd_AK_A] at bd
            refine J_if_eq_n hC (by decide) (tgt := 62) dX10_runScript_53 rfl (fun _ => ?_) (fun hf => absurd hf (by omega))
            refine J_iload_n hC dX10_runScript_62 rfl rfl ?_
            refine J_ireturn hC hR dX10_runScript_63 (by decide) (by decide) ?_
            rw [ex_end (fun q => bd q.2)] at hF
            have q := hok _ C n e1 (show LSok σ (setAK μ S.1 S.2) (exN C n 20 ((rd σ 13 1), (rd σ 13 8)) 0).1.1 f u from by rw [← hF]; exact hLS S.1 S.2)
            rw [← hF] at q
            exact q
    refine J_iconst (v := nI 0) hC dX10_runScript_38 (by decide) ?_
    refine J_istore_n hC dX10_runScript_39 rfl (Nat.le_of_ble_eq_true rfl) rfl ?_
    dsimp only [List.set]
    refine J_cong (σ' := setAK μ ((rd σ 13 1), (rd σ 13 8)).1 ((rd σ 13 1), (rd σ 13 8)).2) (lp (n + 1) ((rd σ 13 1), (rd σ 13 8)) 0 (by omega) (by omega) hI rfl) (h4 := (by rw [← hr1, ← hr8]; exact AK_id.symm))
  · dsimp only [Option.toList_some, Option.toList_none, List.cons_append, List.nil_append]
    intro er e1 hE
    refine J_istore_n hC dX10_runScript_14 rfl (Nat.le_of_ble_eq_true rfl) rfl ?_
    dsimp only [List.set]
    refine J_aload_n hC dX10_runScript_15 rfl rfl ?_
    refine J_iconst (v := nI 0) hC dX10_runScript_16 (by decide) ?_
    refine pX10_179 hC hM dX10_runScript_17 ?_
    refine J_iload_n hC dX10_runScript_20 rfl rfl ?_
    refine J_if_ne_n hC (by decide) (tgt := 30) dX10_runScript_21 rfl (fun hf => absurd hf (by omega)) (fun _ => ?_)
    refine J_aload_n hC dX10_runScript_24 rfl rfl ?_
    refine J_iconst (v := nI 1) hC dX10_runScript_25 (by decide) ?_
    refine iX10_308 hC hM rfl ⟨by decide, by decide⟩ ⟨by decide, by decide⟩ (Nat.le_of_ble_eq_true rfl) dX10_runScript_26 ?_
    refine c_X10_fail hM ?_
    dsimp only [Option.toList_some, Option.toList_none, List.cons_append, List.nil_append]
    refine J_ireturn hC hR dX10_runScript_29 (by decide) (by decide) ?_
    exact hf _ er e1 (run_no hr hE)
