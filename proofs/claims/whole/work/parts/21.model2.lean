set_option maxHeartbeats 4000000 in
set_option maxRecDepth 100000 in
theorem c_X10_covers {G : GC} {w : Lay} {σ : Mem} {Q : Lay → Option Value → Mem → Prop} {Qx : Lay → String → Mem → Prop} {hm : Nat} (hM : LM w) (hI : RowOK hm (rd σ 13 1)) {p h : Nat} (hp : p < nv (rd σ 13 1) 11) (hh : h < 2 ^ 31) (ht : covN (rd σ 13 1) p h → Q w (some (.int (nI 1))) σ) (hf : ¬ (covN (rd σ 13 1) p h) → Q w (some (.int (nI 0))) σ) : MX10_covers G w σ [.ref (w.2.1 13 0), .int (nI p), .int (nI h)] Q Qx := by
  refine mt_start (by decide) rfl (Nat.le_of_ble_eq_true rfl) (fun E hC hR hN => ?_)
  show J G E w 0 0 0 [some (.ref (w.2.1 13 0)), some (.int (nI p)), some (.int (nI h)), none] [] σ
  have h1 := r_NP hI
  have h2 := r_PS hI hp
  have h3 := r_PD hI hp
  refine J_sipush (v := nI 214) hC dX10_covers_0 (by decide) ?_
  refine J_iconst (v := nI 3) hC dX10_covers_3 (by decide) ?_
  refine J_iload_n hC dX10_covers_4 rfl rfl ?_
  refine J_imul_n hC dX10_covers_5 ?_
  refine J_iadd_n hC dX10_covers_6 ?_
  refine J_istore_n hC dX10_covers_7 rfl (Nat.le_of_ble_eq_true rfl) rfl ?_
  dsimp only [List.set]
  refine J_iload_n hC dX10_covers_8 rfl rfl ?_
  refine J_aload_n hC dX10_covers_9 rfl rfl ?_
  refine gX10_7 hC hM dX10_covers_10 ?_
  refine J_iload_n hC dX10_covers_13 rfl rfl ?_
  refine J_iconst (v := nI 1) hC dX10_covers_14 (by decide) ?_
  refine J_iadd_n hC dX10_covers_15 ?_
  refine J_iaload hC (hM.1 1 (by decide)) rfl rfl (by omega) (by decide) dX10_covers_16 ?_
  refine J_top (r_PS hI hp).1 ?_
  refine J_aload_n hC dX10_covers_17 rfl rfl ?_
  refine gX10_7 hC hM dX10_covers_18 ?_
  refine J_iload_n hC dX10_covers_21 rfl rfl ?_
  refine J_iconst (v := nI 1) hC dX10_covers_22 (by decide) ?_
  refine J_iadd_n hC dX10_covers_23 ?_
  refine J_iaload hC (hM.1 1 (by decide)) rfl rfl (by omega) (by decide) dX10_covers_24 ?_
  refine J_top (r_PS hI hp).1 ?_
  refine J_aload_n hC dX10_covers_25 rfl rfl ?_
  refine gX10_7 hC hM dX10_covers_26 ?_
  refine J_iload_n hC dX10_covers_29 rfl rfl ?_
  refine J_iconst (v := nI 2) hC dX10_covers_30 (by decide) ?_
  refine J_iadd_n hC dX10_covers_31 ?_
  refine J_iaload hC (hM.1 1 (by decide)) rfl rfl (by omega) (by decide) dX10_covers_32 ?_
  refine J_top (r_PD hI hp).1 ?_
  refine J_iadd_n hC dX10_covers_33 ?_
  refine J_iconst (v := nI 1) hC dX10_covers_34 (by decide) ?_
  refine J_isub_z hC (nI_iI _) (nI_iI _) dX10_covers_35 ?_
  refine iX10_75 hC rfl ⟨by decide, by decide⟩ ⟨by decide, by decide⟩ (Nat.le_of_ble_eq_true rfl) dX10_covers_36 ?_
  refine c_X10_in (tI_n hh) (tI_n (by omega)) (tI_z (by omega)) (fun hb0 => ?_) (fun hb0 => ?_)
  · dsimp only [Option.toList_some, Option.toList_none, List.cons_append, List.nil_append]
    refine J_zreturn hC hR dX10_covers_39 (by decide) (by decide) (by decide) ?_
    exact ht (by unfold covN; omega)
  · dsimp only [Option.toList_some, Option.toList_none, List.cons_append, List.nil_append]
    refine J_zreturn hC hR dX10_covers_39 (by decide) (by decide) (by decide) ?_
    exact hf (by unfold covN; omega)
set_option maxHeartbeats 4000000 in
set_option maxRecDepth 100000 in
theorem c_X10_cross {G : GC} {w : Lay} {σ : Mem} {Q : Lay → Option Value → Mem → Prop} {Qx : Lay → String → Mem → Prop} {hm : Nat} (hM : LM w) (hI : RowOK hm (rd σ 13 1)) {k i h : Nat} (hk : k < nv (rd σ 13 1) 6) (hi : i < nv (rd σ 13 1) 6) (hh : h < 2 ^ 31) (ht : crossN (rd σ 13 1) k i h → Q w (some (.int (nI 1))) σ) (hf : ¬ (crossN (rd σ 13 1) k i h) → Q w (some (.int (nI 0))) σ) : MX10_cross G w σ [.ref (w.2.1 13 0), .int (nI k), .int (nI i), .int (nI h)] Q Qx := by
  refine mt_start (by decide) rfl (Nat.le_of_ble_eq_true rfl) (fun E hC hR hN => ?_)
  show J G E w 0 0 0 [some (.ref (w.2.1 13 0)), some (.int (nI k)), some (.int (nI i)), some (.int (nI h)), none, none, none, none, none, none, none, none, none, none, none, none] [] σ
  have h1 := r_NK hI
  have hrk := reachW_le hI hk (nv (rd σ 13 1) (70 + 9 * k + 4)) h
  have hri := reachW_le hI hi (nv (rd σ 13 1) (70 + 9 * i + 4)) h
  have q1 := r_KX hI hk
  have q2 := r_KY hI hk
  have q3 := r_KX hI hi
  have q4 := r_KY hI hi
  have q5 := r_W hI
  have q6 := r_H hI
  have q7 : -100 ≤ xAf (rd σ 13 1) k (reachN (rd σ 13 1) k h) h ∧ xAf (rd σ 13 1) k (reachN (rd σ 13 1) k h) h ≤ 200 := xAf_rng hI hk hrk h
  have q8 : -100 ≤ yAf (rd σ 13 1) k (reachN (rd σ 13 1) k h) h ∧ yAf (rd σ 13 1) k (reachN (rd σ 13 1) k h) h ≤ 200 := yAf_rng hI hk hrk h
  have q9 : -100 ≤ xAf (rd σ 13 1) i (reachN (rd σ 13 1) i h) h ∧ xAf (rd σ 13 1) i (reachN (rd σ 13 1) i h) h ≤ 200 := xAf_rng hI hi hri h
  have q10 : -100 ≤ yAf (rd σ 13 1) i (reachN (rd σ 13 1) i h) h ∧ yAf (rd σ 13 1) i (reachN (rd σ 13 1) i h) h ≤ 200 := yAf_rng hI hi hri h
  have s1 := sideI_rng (nv (rd σ 13 1) (70 + 9 * k) : Int) (nv (rd σ 13 1) (70 + 9 * k + 1) : Int) (xAf (rd σ 13 1) k (reachN (rd σ 13 1) k h) h) (yAf (rd σ 13 1) k (reachN (rd σ 13 1) k h) h) (nv (rd σ 13 1) (70 + 9 * i) : Int) (nv (rd σ 13 1) (70 + 9 * i + 1) : Int)
  have s2 := sideI_rng (nv (rd σ 13 1) (70 + 9 * k) : Int) (nv (rd σ 13 1) (70 + 9 * k + 1) : Int) (xAf (rd σ 13 1) k (reachN (rd σ 13 1) k h) h) (yAf (rd σ 13 1) k (reachN (rd σ 13 1) k h) h) (xAf (rd σ 13 1) i (reachN (rd σ 13 1) i h) h) (yAf (rd σ 13 1) i (reachN (rd σ 13 1) i h) h)
  have s3 := sideI_rng (nv (rd σ 13 1) (70 + 9 * i) : Int) (nv (rd σ 13 1) (70 + 9 * i + 1) : Int) (xAf (rd σ 13 1) i (reachN (rd σ 13 1) i h) h) (yAf (rd σ 13 1) i (reachN (rd σ 13 1) i h) h) (nv (rd σ 13 1) (70 + 9 * k) : Int) (nv (rd σ 13 1) (70 + 9 * k + 1) : Int)
  have s4 := sideI_rng (nv (rd σ 13 1) (70 + 9 * i) : Int) (nv (rd σ 13 1) (70 + 9 * i + 1) : Int) (xAf (rd σ 13 1) i (reachN (rd σ 13 1) i h) h) (yAf (rd σ 13 1) i (reachN (rd σ 13 1) i h) h) (xAf (rd σ 13 1) k (reachN (rd σ 13 1) k h) h) (yAf (rd σ 13 1) k (reachN (rd σ 13 1) k h) h)
  have m1 := mul_rng (M := 1) (u := sideI (nv (rd σ 13 1) (70 + 9 * k) : Int) (nv (rd σ 13 1) (70 + 9 * k + 1) : Int) (xAf (rd σ 13 1) k (reachN (rd σ 13 1) k h) h) (yAf (rd σ 13 1) k (reachN (rd σ 13 1) k h) h) (nv (rd σ 13 1) (70 + 9 * i) : Int) (nv (rd σ 13 1) (70 + 9 * i + 1) : Int)) (v := sideI (nv (rd σ 13 1) (70 + 9 * k) : Int) (nv (rd σ 13 1) (70 + 9 * k + 1) : Int) (xAf (rd σ 13 1) k (reachN (rd σ 13 1) k h) h) (yAf (rd σ 13 1) k (reachN (rd σ 13 1) k h) h) (xAf (rd σ 13 1) i (reachN (rd σ 13 1) i h) h) (yAf (rd σ 13 1) i (reachN (rd σ 13 1) i h) h)) (by omega) (by omega)
  have m2 := mul_rng (M := 1) (u := sideI (nv (rd σ 13 1) (70 + 9 * i) : Int) (nv (rd σ 13 1) (70 + 9 * i + 1) : Int) (xAf (rd σ 13 1) i (reachN (rd σ 13 1) i h) h) (yAf (rd σ 13 1) i (reachN (rd σ 13 1) i h) h) (nv (rd σ 13 1) (70 + 9 * k) : Int) (nv (rd σ 13 1) (70 + 9 * k + 1) : Int)) (v := sideI (nv (rd σ 13 1) (70 + 9 * i) : Int) (nv (rd σ 13 1) (70 + 9 * i + 1) : Int) (xAf (rd σ 13 1) i (reachN (rd σ 13 1) i h) h) (yAf (rd σ 13 1) i (reachN (rd σ 13 1) i h) h) (xAf (rd σ 13 1) k (reachN (rd σ 13 1) k h) h) (yAf (rd σ 13 1) k (reachN (rd σ 13 1) k h) h)) (by omega) (by omega)
  have j221 : (¬ (sideI (nv (rd σ 13 1) (70 + 9 * k) : Int) (nv (rd σ 13 1) (70 + 9 * k + 1) : Int) (xAf (rd σ 13 1) k (reachN (rd σ 13 1) k h) h) (yAf (rd σ 13 1) k (reachN (rd σ 13 1) k h) h) (nv (rd σ 13 1) (70 + 9 * i) : Int) (nv (rd σ 13 1) (70 + 9 * i + 1) : Int) * sideI (nv (rd σ 13 1) (70 + 9 * k) : Int) (nv (rd σ 13 1) (70 + 9 * k + 1) : Int) (xAf (rd σ 13 1) k (reachN (rd σ 13 1) k h) h) (yAf (rd σ 13 1) k (reachN (rd σ 13 1) k h) h) (xAf (rd σ 13 1) i (reachN (rd σ 13 1) i h) h) (yAf (rd σ 13 1) i (reachN (rd σ 13 1) i h) h) < 0 ∧ sideI (nv (rd σ 13 1) (70 + 9 * i) : Int) (nv (rd σ 13 1) (70 + 9 * i + 1) : Int) (xAf (rd σ 13 1) i (reachN (rd σ 13 1) i h) h) (yAf (rd σ 13 1) i (reachN (rd σ 13 1) i h) h) (nv (rd σ 13 1) (70 + 9 * k) : Int) (nv (rd σ 13 1) (70 + 9 * k + 1) : Int) * sideI (nv (rd σ 13 1) (70 + 9 * i) : Int) (nv (rd σ 13 1) (70 + 9 * i + 1) : Int) (xAf (rd σ 13 1) i (reachN (rd σ 13 1) i h) h) (yAf (rd σ 13 1) i (reachN (rd σ 13 1) i h) h) (xAf (rd σ 13 1) k (reachN (rd σ 13 1) k h) h) (yAf (rd σ 13 1) k (reachN (rd σ 13 1) k h) h) < 0)) → (¬ (sideI (nv (rd σ 13 1) (70 + 9 * k) : Int) (nv (rd σ 13 1) (70 + 9 * k + 1) : Int) (xAf (rd σ 13 1) k (reachN (rd σ 13 1) k h) h) (yAf (rd σ 13 1) k (reachN (rd σ 13 1) k h) h) (nv (rd σ 13 1) (70 + 9 * i) : Int) (nv (rd σ 13 1) (70 + 9 * i + 1) : Int) = 0 ∧ boxP (nv (rd σ 13 1) (70 + 9 * k) : Int) (nv (rd σ 13 1) (70 + 9 * k + 1) : Int) (xAf (rd σ 13 1) k (reachN (rd σ 13 1) k h) h) (yAf (rd σ 13 1) k (reachN (rd σ 13 1) k h) h) (nv (rd σ 13 1) (70 + 9 * i) : Int) (nv (rd σ 13 1) (70 + 9 * i + 1) : Int))) → (¬ (sideI (nv (rd σ 13 1) (70 + 9 * k) : Int) (nv (rd σ 13 1) (70 + 9 * k + 1) : Int) (xAf (rd σ 13 1) k (reachN (rd σ 13 1) k h) h) (yAf (rd σ 13 1) k (reachN (rd σ 13 1) k h) h) (xAf (rd σ 13 1) i (reachN (rd σ 13 1) i h) h) (yAf (rd σ 13 1) i (reachN (rd σ 13 1) i h) h) = 0 ∧ boxP (nv (rd σ 13 1) (70 + 9 * k) : Int) (nv (rd σ 13 1) (70 + 9 * k + 1) : Int) (xAf (rd σ 13 1) k (reachN (rd σ 13 1) k h) h) (yAf (rd σ 13 1) k (reachN (rd σ 13 1) k h) h) (xAf (rd σ 13 1) i (reachN (rd σ 13 1) i h) h) (yAf (rd σ 13 1) i (reachN (rd σ 13 1) i h) h))) → (¬ (sideI (nv (rd σ 13 1) (70 + 9 * i) : Int) (nv (rd σ 13 1) (70 + 9 * i + 1) : Int) (xAf (rd σ 13 1) i (reachN (rd σ 13 1) i h) h) (yAf (rd σ 13 1) i (reachN (rd σ 13 1) i h) h) (nv (rd σ 13 1) (70 + 9 * k) : Int) (nv (rd σ 13 1) (70 + 9 * k + 1) : Int) = 0 ∧ boxP (nv (rd σ 13 1) (70 + 9 * i) : Int) (nv (rd σ 13 1) (70 + 9 * i + 1) : Int) (xAf (rd σ 13 1) i (reachN (rd σ 13 1) i h) h) (yAf (rd σ 13 1) i (reachN (rd σ 13 1) i h) h) (nv (rd σ 13 1) (70 + 9 * k) : Int) (nv (rd σ 13 1) (70 + 9 * k + 1) : Int))) →  J G E w 0 0 221 [some (.ref (w.2.1 13 0)), some (.int (nI k)), some (.int (nI i)), some (.int (nI h)), some (.int (nI (nv (rd σ 13 1) (70 + 9 * k)))), some (.int (nI (nv (rd σ 13 1) (70 + 9 * k + 1)))), some (.int (iI (xAf (rd σ 13 1) k (reachN (rd σ 13 1) k h) h))), some (.int (iI (yAf (rd σ 13 1) k (reachN (rd σ 13 1) k h) h))), some (.int (nI (nv (rd σ 13 1) (70 + 9 * i)))), some (.int (nI (nv (rd σ 13 1) (70 + 9 * i + 1)))), some (.int (iI (xAf (rd σ 13 1) i (reachN (rd σ 13 1) i h) h))), some (.int (iI (yAf (rd σ 13 1) i (reachN (rd σ 13 1) i h) h))), some (.int (iI (sideI (nv (rd σ 13 1) (70 + 9 * k) : Int) (nv (rd σ 13 1) (70 + 9 * k + 1) : Int) (xAf (rd σ 13 1) k (reachN (rd σ 13 1) k h) h) (yAf (rd σ 13 1) k (reachN (rd σ 13 1) k h) h) (nv (rd σ 13 1) (70 + 9 * i) : Int) (nv (rd σ 13 1) (70 + 9 * i + 1) : Int)))), some (.int (iI (sideI (nv (rd σ 13 1) (70 + 9 * k) : Int) (nv (rd σ 13 1) (70 + 9 * k + 1) : Int) (xAf (rd σ 13 1) k (reachN (rd σ 13 1) k h) h) (yAf (rd σ 13 1) k (reachN (rd σ 13 1) k h) h) (xAf (rd σ 13 1) i (reachN (rd σ 13 1) i h) h) (yAf (rd σ 13 1) i (reachN (rd σ 13 1) i h) h)))), some (.int (iI (sideI (nv (rd σ 13 1) (70 + 9 * i) : Int) (nv (rd σ 13 1) (70 + 9 * i + 1) : Int) (xAf (rd σ 13 1) i (reachN (rd σ 13 1) i h) h) (yAf (rd σ 13 1) i (reachN (rd σ 13 1) i h) h) (nv (rd σ 13 1) (70 + 9 * k) : Int) (nv (rd σ 13 1) (70 + 9 * k + 1) : Int)))), some (.int (iI (sideI (nv (rd σ 13 1) (70 + 9 * i) : Int) (nv (rd σ 13 1) (70 + 9 * i + 1) : Int) (xAf (rd σ 13 1) i (reachN (rd σ 13 1) i h) h) (yAf (rd σ 13 1) i (reachN (rd σ 13 1) i h) h) (xAf (rd σ 13 1) k (reachN (rd σ 13 1) k h) h) (yAf (rd σ 13 1) k (reachN (rd σ 13 1) k h) h))))] [] σ := by
    intro  n1 n2 n3 n4
    refine J_iload hC dX10_cross_221 rfl ?_
    refine J_if_ne_z hC rfl (by omega) (tgt := 248) dX10_cross_223 rfl (fun h4z => ?_) (fun h4z => ?_)
    · refine J_iconst (v := nI 0) hC dX10_cross_248 (by decide) ?_
      refine J_zreturn hC hR dX10_cross_249 (by decide) (by decide) (by decide) ?_
      exact hf (fun q => by
        rcases q with q | q | q | q | q
        · exact n1 q
        · exact n2 q
        · exact n3 q
        · exact n4 q
        · first | exact h4z q.1 | exact h4b q.2)
    · refine J_iload hC dX10_cross_226 rfl ?_
      refine J_iload hC dX10_cross_228 rfl ?_
      refine J_iload hC dX10_cross_230 rfl ?_
      refine J_iload hC dX10_cross_232 rfl ?_
      refine J_iload hC dX10_cross_234 rfl ?_
      refine J_iload hC dX10_cross_236 rfl ?_
      refine iX10_130 hC rfl ⟨by decide, by decide⟩ ⟨by decide, by decide⟩ (Nat.le_of_ble_eq_true rfl) dX10_cross_238 ?_
      refine c_X10_inBox (nI_iI _) (nI_iI _) rfl rfl rfl rfl (by omega) (fun h4b => ?_) (fun h4b => ?_)
      · dsimp only [Option.toList_some, Option.toList_none, List.cons_append, List.nil_append]
        refine J_if_eq_n hC (by decide) (tgt := 248) dX10_cross_241 rfl (fun hf => absurd hf (by omega)) (fun _ => ?_)
        refine J_iconst (v := nI 1) hC dX10_cross_244 (by decide) ?_
        refine J_goto (tgt := 249) hC dX10_cross_245 rfl ?_
        refine J_zreturn hC hR dX10_cross_249 (by decide) (by decide) (by decide) ?_
        exact ht (Or.inr (Or.inr (Or.inr (Or.inr ⟨h4z, h4b⟩))))
      · dsimp only [Option.toList_some, Option.toList_none, List.cons_append, List.nil_append]
        refine J_if_eq_n hC (by decide) (tgt := 248) dX10_cross_241 rfl (fun _ => ?_) (fun hf => absurd hf (by omega))
        refine J_iconst (v := nI 0) hC dX10_cross_248 (by decide) ?_
        refine J_zreturn hC hR dX10_cross_249 (by decide) (by decide) (by decide) ?_
        exact hf (fun q => by
          rcases q with q | q | q | q | q
          · exact n1 q
          · exact n2 q
          · exact n3 q
          · exact n4 q
          · first | exact h4z q.1 | exact h4b q.2)
  have j198 : (¬ (sideI (nv (rd σ 13 1) (70 + 9 * k) : Int) (nv (rd σ 13 1) (70 + 9 * k + 1) : Int) (xAf (rd σ 13 1) k (reachN (rd σ 13 1) k h) h) (yAf (rd σ 13 1) k (reachN (rd σ 13 1) k h) h) (nv (rd σ 13 1) (70 + 9 * i) : Int) (nv (rd σ 13 1) (70 + 9 * i + 1) : Int) * sideI (nv (rd σ 13 1) (70 + 9 * k) : Int) (nv (rd σ 13 1) (70 + 9 * k + 1) : Int) (xAf (rd σ 13 1) k (reachN (rd σ 13 1) k h) h) (yAf (rd σ 13 1) k (reachN (rd σ 13 1) k h) h) (xAf (rd σ 13 1) i (reachN (rd σ 13 1) i h) h) (yAf (rd σ 13 1) i (reachN (rd σ 13 1) i h) h) < 0 ∧ sideI (nv (rd σ 13 1) (70 + 9 * i) : Int) (nv (rd σ 13 1) (70 + 9 * i + 1) : Int) (xAf (rd σ 13 1) i (reachN (rd σ 13 1) i h) h) (yAf (rd σ 13 1) i (reachN (rd σ 13 1) i h) h) (nv (rd σ 13 1) (70 + 9 * k) : Int) (nv (rd σ 13 1) (70 + 9 * k + 1) : Int) * sideI (nv (rd σ 13 1) (70 + 9 * i) : Int) (nv (rd σ 13 1) (70 + 9 * i + 1) : Int) (xAf (rd σ 13 1) i (reachN (rd σ 13 1) i h) h) (yAf (rd σ 13 1) i (reachN (rd σ 13 1) i h) h) (xAf (rd σ 13 1) k (reachN (rd σ 13 1) k h) h) (yAf (rd σ 13 1) k (reachN (rd σ 13 1) k h) h) < 0)) → (¬ (sideI (nv (rd σ 13 1) (70 + 9 * k) : Int) (nv (rd σ 13 1) (70 + 9 * k + 1) : Int) (xAf (rd σ 13 1) k (reachN (rd σ 13 1) k h) h) (yAf (rd σ 13 1) k (reachN (rd σ 13 1) k h) h) (nv (rd σ 13 1) (70 + 9 * i) : Int) (nv (rd σ 13 1) (70 + 9 * i + 1) : Int) = 0 ∧ boxP (nv (rd σ 13 1) (70 + 9 * k) : Int) (nv (rd σ 13 1) (70 + 9 * k + 1) : Int) (xAf (rd σ 13 1) k (reachN (rd σ 13 1) k h) h) (yAf (rd σ 13 1) k (reachN (rd σ 13 1) k h) h) (nv (rd σ 13 1) (70 + 9 * i) : Int) (nv (rd σ 13 1) (70 + 9 * i + 1) : Int))) → (¬ (sideI (nv (rd σ 13 1) (70 + 9 * k) : Int) (nv (rd σ 13 1) (70 + 9 * k + 1) : Int) (xAf (rd σ 13 1) k (reachN (rd σ 13 1) k h) h) (yAf (rd σ 13 1) k (reachN (rd σ 13 1) k h) h) (xAf (rd σ 13 1) i (reachN (rd σ 13 1) i h) h) (yAf (rd σ 13 1) i (reachN (rd σ 13 1) i h) h) = 0 ∧ boxP (nv (rd σ 13 1) (70 + 9 * k) : Int) (nv (rd σ 13 1) (70 + 9 * k + 1) : Int) (xAf (rd σ 13 1) k (reachN (rd σ 13 1) k h) h) (yAf (rd σ 13 1) k (reachN (rd σ 13 1) k h) h) (xAf (rd σ 13 1) i (reachN (rd σ 13 1) i h) h) (yAf (rd σ 13 1) i (reachN (rd σ 13 1) i h) h))) →  J G E w 0 0 198 [some (.ref (w.2.1 13 0)), some (.int (nI k)), some (.int (nI i)), some (.int (nI h)), some (.int (nI (nv (rd σ 13 1) (70 + 9 * k)))), some (.int (nI (nv (rd σ 13 1) (70 + 9 * k + 1)))), some (.int (iI (xAf (rd σ 13 1) k (reachN (rd σ 13 1) k h) h))), some (.int (iI (yAf (rd σ 13 1) k (reachN (rd σ 13 1) k h) h))), some (.int (nI (nv (rd σ 13 1) (70 + 9 * i)))), some (.int (nI (nv (rd σ 13 1) (70 + 9 * i + 1)))), some (.int (iI (xAf (rd σ 13 1) i (reachN (rd σ 13 1) i h) h))), some (.int (iI (yAf (rd σ 13 1) i (reachN (rd σ 13 1) i h) h))), some (.int (iI (sideI (nv (rd σ 13 1) (70 + 9 * k) : Int) (nv (rd σ 13 1) (70 + 9 * k + 1) : Int) (xAf (rd σ 13 1) k (reachN (rd σ 13 1) k h) h) (yAf (rd σ 13 1) k (reachN (rd σ 13 1) k h) h) (nv (rd σ 13 1) (70 + 9 * i) : Int) (nv (rd σ 13 1) (70 + 9 * i + 1) : Int)))), some (.int (iI (sideI (nv (rd σ 13 1) (70 + 9 * k) : Int) (nv (rd σ 13 1) (70 + 9 * k + 1) : Int) (xAf (rd σ 13 1) k (reachN (rd σ 13 1) k h) h) (yAf (rd σ 13 1) k (reachN (rd σ 13 1) k h) h) (xAf (rd σ 13 1) i (reachN (rd σ 13 1) i h) h) (yAf (rd σ 13 1) i (reachN (rd σ 13 1) i h) h)))), some (.int (iI (sideI (nv (rd σ 13 1) (70 + 9 * i) : Int) (nv (rd σ 13 1) (70 + 9 * i + 1) : Int) (xAf (rd σ 13 1) i (reachN (rd σ 13 1) i h) h) (yAf (rd σ 13 1) i (reachN (rd σ 13 1) i h) h) (nv (rd σ 13 1) (70 + 9 * k) : Int) (nv (rd σ 13 1) (70 + 9 * k + 1) : Int)))), some (.int (iI (sideI (nv (rd σ 13 1) (70 + 9 * i) : Int) (nv (rd σ 13 1) (70 + 9 * i + 1) : Int) (xAf (rd σ 13 1) i (reachN (rd σ 13 1) i h) h) (yAf (rd σ 13 1) i (reachN (rd σ 13 1) i h) h) (xAf (rd σ 13 1) k (reachN (rd σ 13 1) k h) h) (yAf (rd σ 13 1) k (reachN (rd σ 13 1) k h) h))))] [] σ := by
    intro  n1 n2 n3
    refine J_iload hC dX10_cross_198 rfl ?_
    refine J_if_ne_z hC rfl (by omega) (tgt := 221) dX10_cross_200 rfl (fun h3z => ?_) (fun h3z => ?_)
    · exact j221 n1 n2 n3 (fun q => by first | exact h3z q.1 | exact h3b q.2)
    · refine J_iload hC dX10_cross_203 rfl ?_
      refine J_iload hC dX10_cross_205 rfl ?_
      refine J_iload hC dX10_cross_207 rfl ?_
      refine J_iload hC dX10_cross_209 rfl ?_
      refine J_iload hC dX10_cross_211 rfl ?_
      refine J_iload hC dX10_cross_213 rfl ?_
      refine iX10_130 hC rfl ⟨by decide, by decide⟩ ⟨by decide, by decide⟩ (Nat.le_of_ble_eq_true rfl) dX10_cross_215 ?_
      refine c_X10_inBox (nI_iI _) (nI_iI _) rfl rfl (nI_iI _) (nI_iI _) (by omega) (fun h3b => ?_) (fun h3b => ?_)
      · dsimp only [Option.toList_some, Option.toList_none, List.cons_append, List.nil_append]
        refine J_if_ne_n hC (by decide) (tgt := 244) dX10_cross_218 rfl (fun _ => ?_) (fun hf => absurd hf (by omega))
        refine J_iconst (v := nI 1) hC dX10_cross_244 (by decide) ?_
        refine J_goto (tgt := 249) hC dX10_cross_245 rfl ?_
        refine J_zreturn hC hR dX10_cross_249 (by decide) (by decide) (by decide) ?_
        exact ht (Or.inr (Or.inr (Or.inr (Or.inl ⟨h3z, h3b⟩))))
      · dsimp only [Option.toList_some, Option.toList_none, List.cons_append, List.nil_append]
        refine J_if_ne_n hC (by decide) (tgt := 244) dX10_cross_218 rfl (fun hf => absurd hf (by omega)) (fun _ => ?_)
        exact j221 n1 n2 n3 (fun q => by first | exact h3z q.1 | exact h3b q.2)
  have j173 : (¬ (sideI (nv (rd σ 13 1) (70 + 9 * k) : Int) (nv (rd σ 13 1) (70 + 9 * k + 1) : Int) (xAf (rd σ 13 1) k (reachN (rd σ 13 1) k h) h) (yAf (rd σ 13 1) k (reachN (rd σ 13 1) k h) h) (nv (rd σ 13 1) (70 + 9 * i) : Int) (nv (rd σ 13 1) (70 + 9 * i + 1) : Int) * sideI (nv (rd σ 13 1) (70 + 9 * k) : Int) (nv (rd σ 13 1) (70 + 9 * k + 1) : Int) (xAf (rd σ 13 1) k (reachN (rd σ 13 1) k h) h) (yAf (rd σ 13 1) k (reachN (rd σ 13 1) k h) h) (xAf (rd σ 13 1) i (reachN (rd σ 13 1) i h) h) (yAf (rd σ 13 1) i (reachN (rd σ 13 1) i h) h) < 0 ∧ sideI (nv (rd σ 13 1) (70 + 9 * i) : Int) (nv (rd σ 13 1) (70 + 9 * i + 1) : Int) (xAf (rd σ 13 1) i (reachN (rd σ 13 1) i h) h) (yAf (rd σ 13 1) i (reachN (rd σ 13 1) i h) h) (nv (rd σ 13 1) (70 + 9 * k) : Int) (nv (rd σ 13 1) (70 + 9 * k + 1) : Int) * sideI (nv (rd σ 13 1) (70 + 9 * i) : Int) (nv (rd σ 13 1) (70 + 9 * i + 1) : Int) (xAf (rd σ 13 1) i (reachN (rd σ 13 1) i h) h) (yAf (rd σ 13 1) i (reachN (rd σ 13 1) i h) h) (xAf (rd σ 13 1) k (reachN (rd σ 13 1) k h) h) (yAf (rd σ 13 1) k (reachN (rd σ 13 1) k h) h) < 0)) → (¬ (sideI (nv (rd σ 13 1) (70 + 9 * k) : Int) (nv (rd σ 13 1) (70 + 9 * k + 1) : Int) (xAf (rd σ 13 1) k (reachN (rd σ 13 1) k h) h) (yAf (rd σ 13 1) k (reachN (rd σ 13 1) k h) h) (nv (rd σ 13 1) (70 + 9 * i) : Int) (nv (rd σ 13 1) (70 + 9 * i + 1) : Int) = 0 ∧ boxP (nv (rd σ 13 1) (70 + 9 * k) : Int) (nv (rd σ 13 1) (70 + 9 * k + 1) : Int) (xAf (rd σ 13 1) k (reachN (rd σ 13 1) k h) h) (yAf (rd σ 13 1) k (reachN (rd σ 13 1) k h) h) (nv (rd σ 13 1) (70 + 9 * i) : Int) (nv (rd σ 13 1) (70 + 9 * i + 1) : Int))) →  J G E w 0 0 173 [some (.ref (w.2.1 13 0)), some (.int (nI k)), some (.int (nI i)), some (.int (nI h)), some (.int (nI (nv (rd σ 13 1) (70 + 9 * k)))), some (.int (nI (nv (rd σ 13 1) (70 + 9 * k + 1)))), some (.int (iI (xAf (rd σ 13 1) k (reachN (rd σ 13 1) k h) h))), some (.int (iI (yAf (rd σ 13 1) k (reachN (rd σ 13 1) k h) h))), some (.int (nI (nv (rd σ 13 1) (70 + 9 * i)))), some (.int (nI (nv (rd σ 13 1) (70 + 9 * i + 1)))), some (.int (iI (xAf (rd σ 13 1) i (reachN (rd σ 13 1) i h) h))), some (.int (iI (yAf (rd σ 13 1) i (reachN (rd σ 13 1) i h) h))), some (.int (iI (sideI (nv (rd σ 13 1) (70 + 9 * k) : Int) (nv (rd σ 13 1) (70 + 9 * k + 1) : Int) (xAf (rd σ 13 1) k (reachN (rd σ 13 1) k h) h) (yAf (rd σ 13 1) k (reachN (rd σ 13 1) k h) h) (nv (rd σ 13 1) (70 + 9 * i) : Int) (nv (rd σ 13 1) (70 + 9 * i + 1) : Int)))), some (.int (iI (sideI (nv (rd σ 13 1) (70 + 9 * k) : Int) (nv (rd σ 13 1) (70 + 9 * k + 1) : Int) (xAf (rd σ 13 1) k (reachN (rd σ 13 1) k h) h) (yAf (rd σ 13 1) k (reachN (rd σ 13 1) k h) h) (xAf (rd σ 13 1) i (reachN (rd σ 13 1) i h) h) (yAf (rd σ 13 1) i (reachN (rd σ 13 1) i h) h)))), some (.int (iI (sideI (nv (rd σ 13 1) (70 + 9 * i) : Int) (nv (rd σ 13 1) (70 + 9 * i + 1) : Int) (xAf (rd σ 13 1) i (reachN (rd σ 13 1) i h) h) (yAf (rd σ 13 1) i (reachN (rd σ 13 1) i h) h) (nv (rd σ 13 1) (70 + 9 * k) : Int) (nv (rd σ 13 1) (70 + 9 * k + 1) : Int)))), some (.int (iI (sideI (nv (rd σ 13 1) (70 + 9 * i) : Int) (nv (rd σ 13 1) (70 + 9 * i + 1) : Int) (xAf (rd σ 13 1) i (reachN (rd σ 13 1) i h) h) (yAf (rd σ 13 1) i (reachN (rd σ 13 1) i h) h) (xAf (rd σ 13 1) k (reachN (rd σ 13 1) k h) h) (yAf (rd σ 13 1) k (reachN (rd σ 13 1) k h) h))))] [] σ := by
    intro  n1 n2
    refine J_iload hC dX10_cross_173 rfl ?_
    refine J_if_ne_z hC rfl (by omega) (tgt := 198) dX10_cross_175 rfl (fun h2z => ?_) (fun h2z => ?_)
    · exact j198 n1 n2 (fun q => by first | exact h2z q.1 | exact h2b q.2)
    · refine J_iload hC dX10_cross_178 rfl ?_
      refine J_iload hC dX10_cross_180 rfl ?_
      refine J_iload hC dX10_cross_182 rfl ?_
      refine J_iload hC dX10_cross_184 rfl ?_
      refine J_iload hC dX10_cross_186 rfl ?_
      refine J_iload hC dX10_cross_188 rfl ?_
      refine iX10_130 hC rfl ⟨by decide, by decide⟩ ⟨by decide, by decide⟩ (Nat.le_of_ble_eq_true rfl) dX10_cross_190 ?_
      refine c_X10_inBox (nI_iI _) (nI_iI _) rfl rfl rfl rfl (by omega) (fun h2b => ?_) (fun h2b => ?_)
      · dsimp only [Option.toList_some, Option.toList_none, List.cons_append, List.nil_append]
        refine J_if_eq_n hC (by decide) (tgt := 198) dX10_cross_193 rfl (fun hf => absurd hf (by omega)) (fun _ => ?_)
        refine J_iconst (v := nI 1) hC dX10_cross_196 (by decide) ?_
        refine J_zreturn hC hR dX10_cross_197 (by decide) (by decide) (by decide) ?_
        exact ht (Or.inr (Or.inr (Or.inl ⟨h2z, h2b⟩)))
      · dsimp only [Option.toList_some, Option.toList_none, List.cons_append, List.nil_append]
        refine J_if_eq_n hC (by decide) (tgt := 198) dX10_cross_193 rfl (fun _ => ?_) (fun hf => absurd hf (by omega))
        exact j198 n1 n2 (fun q => by first | exact h2z q.1 | exact h2b q.2)
  have j150 : (¬ (sideI (nv (rd σ 13 1) (70 + 9 * k) : Int) (nv (rd σ 13 1) (70 + 9 * k + 1) : Int) (xAf (rd σ 13 1) k (reachN (rd σ 13 1) k h) h) (yAf (rd σ 13 1) k (reachN (rd σ 13 1) k h) h) (nv (rd σ 13 1) (70 + 9 * i) : Int) (nv (rd σ 13 1) (70 + 9 * i + 1) : Int) * sideI (nv (rd σ 13 1) (70 + 9 * k) : Int) (nv (rd σ 13 1) (70 + 9 * k + 1) : Int) (xAf (rd σ 13 1) k (reachN (rd σ 13 1) k h) h) (yAf (rd σ 13 1) k (reachN (rd σ 13 1) k h) h) (xAf (rd σ 13 1) i (reachN (rd σ 13 1) i h) h) (yAf (rd σ 13 1) i (reachN (rd σ 13 1) i h) h) < 0 ∧ sideI (nv (rd σ 13 1) (70 + 9 * i) : Int) (nv (rd σ 13 1) (70 + 9 * i + 1) : Int) (xAf (rd σ 13 1) i (reachN (rd σ 13 1) i h) h) (yAf (rd σ 13 1) i (reachN (rd σ 13 1) i h) h) (nv (rd σ 13 1) (70 + 9 * k) : Int) (nv (rd σ 13 1) (70 + 9 * k + 1) : Int) * sideI (nv (rd σ 13 1) (70 + 9 * i) : Int) (nv (rd σ 13 1) (70 + 9 * i + 1) : Int) (xAf (rd σ 13 1) i (reachN (rd σ 13 1) i h) h) (yAf (rd σ 13 1) i (reachN (rd σ 13 1) i h) h) (xAf (rd σ 13 1) k (reachN (rd σ 13 1) k h) h) (yAf (rd σ 13 1) k (reachN (rd σ 13 1) k h) h) < 0)) →  J G E w 0 0 150 [some (.ref (w.2.1 13 0)), some (.int (nI k)), some (.int (nI i)), some (.int (nI h)), some (.int (nI (nv (rd σ 13 1) (70 + 9 * k)))), some (.int (nI (nv (rd σ 13 1) (70 + 9 * k + 1)))), some (.int (iI (xAf (rd σ 13 1) k (reachN (rd σ 13 1) k h) h))), some (.int (iI (yAf (rd σ 13 1) k (reachN (rd σ 13 1) k h) h))), some (.int (nI (nv (rd σ 13 1) (70 + 9 * i)))), some (.int (nI (nv (rd σ 13 1) (70 + 9 * i + 1)))), some (.int (iI (xAf (rd σ 13 1) i (reachN (rd σ 13 1) i h) h))), some (.int (iI (yAf (rd σ 13 1) i (reachN (rd σ 13 1) i h) h))), some (.int (iI (sideI (nv (rd σ 13 1) (70 + 9 * k) : Int) (nv (rd σ 13 1) (70 + 9 * k + 1) : Int) (xAf (rd σ 13 1) k (reachN (rd σ 13 1) k h) h) (yAf (rd σ 13 1) k (reachN (rd σ 13 1) k h) h) (nv (rd σ 13 1) (70 + 9 * i) : Int) (nv (rd σ 13 1) (70 + 9 * i + 1) : Int)))), some (.int (iI (sideI (nv (rd σ 13 1) (70 + 9 * k) : Int) (nv (rd σ 13 1) (70 + 9 * k + 1) : Int) (xAf (rd σ 13 1) k (reachN (rd σ 13 1) k h) h) (yAf (rd σ 13 1) k (reachN (rd σ 13 1) k h) h) (xAf (rd σ 13 1) i (reachN (rd σ 13 1) i h) h) (yAf (rd σ 13 1) i (reachN (rd σ 13 1) i h) h)))), some (.int (iI (sideI (nv (rd σ 13 1) (70 + 9 * i) : Int) (nv (rd σ 13 1) (70 + 9 * i + 1) : Int) (xAf (rd σ 13 1) i (reachN (rd σ 13 1) i h) h) (yAf (rd σ 13 1) i (reachN (rd σ 13 1) i h) h) (nv (rd σ 13 1) (70 + 9 * k) : Int) (nv (rd σ 13 1) (70 + 9 * k + 1) : Int)))), some (.int (iI (sideI (nv (rd σ 13 1) (70 + 9 * i) : Int) (nv (rd σ 13 1) (70 + 9 * i + 1) : Int) (xAf (rd σ 13 1) i (reachN (rd σ 13 1) i h) h) (yAf (rd σ 13 1) i (reachN (rd σ 13 1) i h) h) (xAf (rd σ 13 1) k (reachN (rd σ 13 1) k h) h) (yAf (rd σ 13 1) k (reachN (rd σ 13 1) k h) h))))] [] σ := by
    intro  n1
    refine J_iload hC dX10_cross_150 rfl ?_
    refine J_if_ne_z hC rfl (by omega) (tgt := 173) dX10_cross_152 rfl (fun h1z => ?_) (fun h1z => ?_)
    · exact j173 n1 (fun q => by first | exact h1z q.1 | exact h1b q.2)
    · refine J_iload hC dX10_cross_155 rfl ?_
      refine J_iload hC dX10_cross_157 rfl ?_
      refine J_iload hC dX10_cross_159 rfl ?_
      refine J_iload hC dX10_cross_161 rfl ?_
      refine J_iload hC dX10_cross_163 rfl ?_
      refine J_iload hC dX10_cross_165 rfl ?_
      refine iX10_130 hC rfl ⟨by decide, by decide⟩ ⟨by decide, by decide⟩ (Nat.le_of_ble_eq_true rfl) dX10_cross_167 ?_
      refine c_X10_inBox (nI_iI _) (nI_iI _) rfl rfl (nI_iI _) (nI_iI _) (by omega) (fun h1b => ?_) (fun h1b => ?_)
      · dsimp only [Option.toList_some, Option.toList_none, List.cons_append, List.nil_append]
        refine J_if_ne_n hC (by decide) (tgt := 196) dX10_cross_170 rfl (fun _ => ?_) (fun hf => absurd hf (by omega))
        refine J_iconst (v := nI 1) hC dX10_cross_196 (by decide) ?_
        refine J_zreturn hC hR dX10_cross_197 (by decide) (by decide) (by decide) ?_
        exact ht (Or.inr (Or.inl ⟨h1z, h1b⟩))
      · dsimp only [Option.toList_some, Option.toList_none, List.cons_append, List.nil_append]
        refine J_if_ne_n hC (by decide) (tgt := 196) dX10_cross_170 rfl (fun hf => absurd hf (by omega)) (fun _ => ?_)
        exact j173 n1 (fun q => by first | exact h1z q.1 | exact h1b q.2)
  refine J_aload_n hC dX10_cross_0 rfl rfl ?_
  refine J_iload_n hC dX10_cross_1 rfl rfl ?_
  refine J_iconst (v := nI 0) hC dX10_cross_2 (by decide) ?_
  refine iX10_79 hC hM rfl ⟨by decide, by decide⟩ ⟨by decide, by decide⟩ (Nat.le_of_ble_eq_true rfl) dX10_cross_3 ?_
  refine c_X10_of hM (by omega) ?_
  dsimp only [Option.toList_some, Option.toList_none, List.cons_append, List.nil_append]
  refine J_top (r_KX hI hk).1 ?_
  refine J_istore hC dX10_cross_6 (Nat.le_of_ble_eq_true rfl) rfl ?_
  dsimp only [List.set]
  refine J_aload_n hC dX10_cross_8 rfl rfl ?_
  refine J_iload_n hC dX10_cross_9 rfl rfl ?_
  refine J_iconst (v := nI 1) hC dX10_cross_10 (by decide) ?_
  refine iX10_79 hC hM rfl ⟨by decide, by decide⟩ ⟨by decide, by decide⟩ (Nat.le_of_ble_eq_true rfl) dX10_cross_11 ?_
  refine c_X10_of hM (by omega) ?_
  dsimp only [Option.toList_some, Option.toList_none, List.cons_append, List.nil_append]
  refine J_top (r_KY hI hk).1 ?_
  refine J_istore hC dX10_cross_14 (Nat.le_of_ble_eq_true rfl) rfl ?_
  dsimp only [List.set]
  refine J_aload_n hC dX10_cross_16 rfl rfl ?_
  refine J_iload_n hC dX10_cross_17 rfl rfl ?_
  refine J_iload_n hC dX10_cross_18 rfl rfl ?_
  refine iX10_121 hC hM rfl ⟨by decide, by decide⟩ ⟨by decide, by decide⟩ (Nat.le_of_ble_eq_true rfl) dX10_cross_19 ?_
  refine c_X10_xEnd hM hI hk hh ?_
  dsimp only [Option.toList_some, Option.toList_none, List.cons_append, List.nil_append]
  refine J_istore hC dX10_cross_22 (Nat.le_of_ble_eq_true rfl) rfl ?_
  dsimp only [List.set]
  refine J_aload_n hC dX10_cross_24 rfl rfl ?_
  refine J_iload_n hC dX10_cross_25 rfl rfl ?_
  refine J_iload_n hC dX10_cross_26 rfl rfl ?_
  refine iX10_124 hC hM rfl ⟨by decide, by decide⟩ ⟨by decide, by decide⟩ (Nat.le_of_ble_eq_true rfl) dX10_cross_27 ?_
  refine c_X10_yEnd hM hI hk hh ?_
  dsimp only [Option.toList_some, Option.toList_none, List.cons_append, List.nil_append]
  refine J_istore hC dX10_cross_30 (Nat.le_of_ble_eq_true rfl) rfl ?_
  dsimp only [List.set]
  refine J_aload_n hC dX10_cross_32 rfl rfl ?_
  refine J_iload_n hC dX10_cross_33 rfl rfl ?_
  refine J_iconst (v := nI 0) hC dX10_cross_34 (by decide) ?_
  refine iX10_79 hC hM rfl ⟨by decide, by decide⟩ ⟨by decide, by decide⟩ (Nat.le_of_ble_eq_true rfl) dX10_cross_35 ?_
  refine c_X10_of hM (by omega) ?_
  dsimp only [Option.toList_some, Option.toList_none, List.cons_append, List.nil_append]
  refine J_top (r_KX hI hi).1 ?_
  refine J_istore hC dX10_cross_38 (Nat.le_of_ble_eq_true rfl) rfl ?_
  dsimp only [List.set]
  refine J_aload_n hC dX10_cross_40 rfl rfl ?_
  refine J_iload_n hC dX10_cross_41 rfl rfl ?_
  refine J_iconst (v := nI 1) hC dX10_cross_42 (by decide) ?_
  refine iX10_79 hC hM rfl ⟨by decide, by decide⟩ ⟨by decide, by decide⟩ (Nat.le_of_ble_eq_true rfl) dX10_cross_43 ?_
  refine c_X10_of hM (by omega) ?_
  dsimp only [Option.toList_some, Option.toList_none, List.cons_append, List.nil_append]
  refine J_top (r_KY hI hi).1 ?_
  refine J_istore hC dX10_cross_46 (Nat.le_of_ble_eq_true rfl) rfl ?_
  dsimp only [List.set]
  refine J_aload_n hC dX10_cross_48 rfl rfl ?_
  refine J_iload_n hC dX10_cross_49 rfl rfl ?_
  refine J_iload_n hC dX10_cross_50 rfl rfl ?_
  refine iX10_121 hC hM rfl ⟨by decide, by decide⟩ ⟨by decide, by decide⟩ (Nat.le_of_ble_eq_true rfl) dX10_cross_51 ?_
  refine c_X10_xEnd hM hI hi hh ?_
  dsimp only [Option.toList_some, Option.toList_none, List.cons_append, List.nil_append]
  refine J_istore hC dX10_cross_54 (Nat.le_of_ble_eq_true rfl) rfl ?_
  dsimp only [List.set]
  refine J_aload_n hC dX10_cross_56 rfl rfl ?_
  refine J_iload_n hC dX10_cross_57 rfl rfl ?_
  refine J_iload_n hC dX10_cross_58 rfl rfl ?_
  refine iX10_124 hC hM rfl ⟨by decide, by decide⟩ ⟨by decide, by decide⟩ (Nat.le_of_ble_eq_true rfl) dX10_cross_59 ?_
  refine c_X10_yEnd hM hI hi hh ?_
  dsimp only [Option.toList_some, Option.toList_none, List.cons_append, List.nil_append]
  refine J_istore hC dX10_cross_62 (Nat.le_of_ble_eq_true rfl) rfl ?_
  dsimp only [List.set]
  refine J_iload hC dX10_cross_64 rfl ?_
  refine J_iload hC dX10_cross_66 rfl ?_
  refine J_iload hC dX10_cross_68 rfl ?_
  refine J_iload hC dX10_cross_70 rfl ?_
  refine J_iload hC dX10_cross_72 rfl ?_
  refine J_iload hC dX10_cross_74 rfl ?_
  refine iX10_127 hC rfl ⟨by decide, by decide⟩ ⟨by decide, by decide⟩ (Nat.le_of_ble_eq_true rfl) dX10_cross_76 ?_
  refine c_X10_side (nI_iI _) (nI_iI _) rfl rfl (nI_iI _) (nI_iI _) (by omega) ?_
  dsimp only [Option.toList_some, Option.toList_none, List.cons_append, List.nil_append]
  refine J_istore hC dX10_cross_79 (Nat.le_of_ble_eq_true rfl) rfl ?_
  dsimp only [List.set]
  refine J_iload hC dX10_cross_81 rfl ?_
  refine J_iload hC dX10_cross_83 rfl ?_
  refine J_iload hC dX10_cross_85 rfl ?_
  refine J_iload hC dX10_cross_87 rfl ?_
  refine J_iload hC dX10_cross_89 rfl ?_
  refine J_iload hC dX10_cross_91 rfl ?_
  refine iX10_127 hC rfl ⟨by decide, by decide⟩ ⟨by decide, by decide⟩ (Nat.le_of_ble_eq_true rfl) dX10_cross_93 ?_
  refine c_X10_side (nI_iI _) (nI_iI _) rfl rfl rfl rfl (by omega) ?_
  dsimp only [Option.toList_some, Option.toList_none, List.cons_append, List.nil_append]
  refine J_istore hC dX10_cross_96 (Nat.le_of_ble_eq_true rfl) rfl ?_
  dsimp only [List.set]
  refine J_iload hC dX10_cross_98 rfl ?_
  refine J_iload hC dX10_cross_100 rfl ?_
  refine J_iload hC dX10_cross_102 rfl ?_
  refine J_iload hC dX10_cross_104 rfl ?_
  refine J_iload hC dX10_cross_106 rfl ?_
  refine J_iload hC dX10_cross_108 rfl ?_
  refine iX10_127 hC rfl ⟨by decide, by decide⟩ ⟨by decide, by decide⟩ (Nat.le_of_ble_eq_true rfl) dX10_cross_110 ?_
  refine c_X10_side (nI_iI _) (nI_iI _) rfl rfl (nI_iI _) (nI_iI _) (by omega) ?_
  dsimp only [Option.toList_some, Option.toList_none, List.cons_append, List.nil_append]
  refine J_istore hC dX10_cross_113 (Nat.le_of_ble_eq_true rfl) rfl ?_
  dsimp only [List.set]
  refine J_iload hC dX10_cross_115 rfl ?_
  refine J_iload hC dX10_cross_117 rfl ?_
  refine J_iload hC dX10_cross_119 rfl ?_
  refine J_iload hC dX10_cross_121 rfl ?_
  refine J_iload hC dX10_cross_123 rfl ?_
  refine J_iload hC dX10_cross_125 rfl ?_
  refine iX10_127 hC rfl ⟨by decide, by decide⟩ ⟨by decide, by decide⟩ (Nat.le_of_ble_eq_true rfl) dX10_cross_127 ?_
  refine c_X10_side (nI_iI _) (nI_iI _) rfl rfl rfl rfl (by omega) ?_
  dsimp only [Option.toList_some, Option.toList_none, List.cons_append, List.nil_append]
  refine J_istore hC dX10_cross_130 (Nat.le_of_ble_eq_true rfl) rfl ?_
  dsimp only [List.set]
  refine J_iload hC dX10_cross_132 rfl ?_
  refine J_iload hC dX10_cross_134 rfl ?_
  refine J_imul_z hC rfl rfl dX10_cross_136 ?_
  refine J_if_ge_z hC rfl (by omega) (tgt := 150) dX10_cross_137 rfl (fun g1 => ?_) (fun g1 => ?_)
  · exact j150 (fun q => by omega)
  · refine J_iload hC dX10_cross_140 rfl ?_
    refine J_iload hC dX10_cross_142 rfl ?_
    refine J_imul_z hC rfl rfl dX10_cross_144 ?_
    refine J_if_ge_z hC rfl (by omega) (tgt := 150) dX10_cross_145 rfl (fun g2 => ?_) (fun g2 => ?_)
    · exact j150 (fun q => by omega)
    · refine J_iconst (v := nI 1) hC dX10_cross_148 (by decide) ?_
      refine J_zreturn hC hR dX10_cross_149 (by decide) (by decide) (by decide) ?_
      exact ht (Or.inl ⟨g1, g2⟩)
set_option maxHeartbeats 4000000 in
set_option maxRecDepth 100000 in
theorem c_X10_permitted {G : GC} {w : Lay} {σ : Mem} {Q : Lay → Option Value → Mem → Prop} {Qx : Lay → String → Mem → Prop} {hm : Nat} (hM : LM w) (hI : RowOK hm (rd σ 13 1)) {k h : Nat} (hk0 : k < 2 ^ 31) (hh : h < 2 ^ 31) (ht : permN (rd σ 13 1) k h → Q w (some (.int (nI 1))) σ) (hf : ¬ (permN (rd σ 13 1) k h) → Q w (some (.int (nI 0))) σ) : MX10_permitted G w σ [.ref (w.2.1 13 0), .int (nI k), .int (nI h)] Q Qx := by
  refine mt_start (by decide) rfl (Nat.le_of_ble_eq_true rfl) (fun E hC hR hN => ?_)
  show J G E w 0 0 0 [some (.ref (w.2.1 13 0)), some (.int (nI k)), some (.int (nI h)), none] [] σ
  have h1 := r_NP hI
  have h2 := r_NK hI
  have lp : ∀ (dd : Nat) (p : Nat), nv (rd σ 13 1) 11 - p < dd → (p ≤ nv (rd σ 13 1) 11) → (∀ q, q < p → ¬ (nv (rd σ 13 1) (214 + 3 * q) = k ∧ covN (rd σ 13 1) q h)) →  J G E w 0 0 2 [some (.ref (w.2.1 13 0)), some (.int (nI k)), some (.int (nI h)), some (.int (nI p))] [] σ := by
    intro dd
    induction dd with
    | zero =>
      intro p hdd
      exact absurd hdd (Nat.not_lt_zero _)
    | succ dd ih =>
      intro p hdd hp hn
      refine J_iload_n hC dX10_permitted_2 rfl rfl ?_
      refine J_aload_n hC dX10_permitted_3 rfl rfl ?_
      refine gX10_7 hC hM dX10_permitted_4 ?_
      refine J_bipush (v := nI 11) hC dX10_permitted_7 (by decide) ?_
      refine J_iaload hC (hM.1 1 (by decide)) rfl rfl (by omega) (by decide) dX10_permitted_9 ?_
      refine J_top h1.1 ?_
      refine J_icmp_ge_n hC (by omega) (by omega) (tgt := 46) dX10_permitted_10 rfl (fun hb => ?_) (fun hb => ?_)
      · refine J_iconst (v := nI 0) hC dX10_permitted_46 (by decide) ?_
        refine J_zreturn hC hR dX10_permitted_47 (by decide) (by decide) (by decide) ?_
        exact hf (fun ⟨q, q1, q2, q3⟩ => hn q (by omega) ⟨q2, q3⟩)
      · refine J_aload_n hC dX10_permitted_13 rfl rfl ?_
        refine gX10_7 hC hM dX10_permitted_14 ?_
        refine J_sipush (v := nI 214) hC dX10_permitted_17 (by decide) ?_
        refine J_iconst (v := nI 3) hC dX10_permitted_20 (by decide) ?_
        refine J_iload_n hC dX10_permitted_21 rfl rfl ?_
        refine J_imul_n hC dX10_permitted_22 ?_
        refine J_iadd_n hC dX10_permitted_23 ?_
        refine J_iaload hC (hM.1 1 (by decide)) rfl rfl (by omega) (by decide) dX10_permitted_24 ?_
        have g1 := r_PK hI hb
        refine J_top (r_PK hI hb).1 ?_
        refine J_iload_n hC dX10_permitted_25 rfl rfl ?_
        refine J_icmp_ne_n hC (by omega) (by omega) (tgt := 40) dX10_permitted_26 rfl (fun hk => ?_) (fun hk => ?_)
        · refine J_iinc_n (m := 1) hC (by decide) dX10_permitted_40 rfl (Nat.le_of_ble_eq_true rfl) rfl ?_
          dsimp only [List.set]
          refine J_goto (tgt := 2) hC dX10_permitted_43 rfl ?_
          exact ih (p + 1) (by omega) (by omega) (fun q hq => by
            rcases Nat.lt_or_ge q p with g | g
            · exact hn q g
            · have e : q = p := by omega
              subst e
              exact fun hx => by first | exact hk hx.1 | exact hc hx.2)
        · refine J_aload_n hC dX10_permitted_29 rfl rfl ?_
          refine J_iload_n hC dX10_permitted_30 rfl rfl ?_
          refine J_iload_n hC dX10_permitted_31 rfl rfl ?_
          refine iX10_134 hC hM rfl ⟨by decide, by decide⟩ ⟨by decide, by decide⟩ (Nat.le_of_ble_eq_true rfl) dX10_permitted_32 ?_
          refine c_X10_covers hM hI hb hh (fun hc => ?_) (fun hc => ?_)
          · dsimp only [Option.toList_some, Option.toList_none, List.cons_append, List.nil_append]
            refine J_if_eq_n hC (by decide) (tgt := 40) dX10_permitted_35 rfl (fun hf => absurd hf (by omega)) (fun _ => ?_)
            refine J_iconst (v := nI 1) hC dX10_permitted_38 (by decide) ?_
            refine J_zreturn hC hR dX10_permitted_39 (by decide) (by decide) (by decide) ?_
            exact ht ⟨p, hb, hk, hc⟩
          · dsimp only [Option.toList_some, Option.toList_none, List.cons_append, List.nil_append]
            refine J_if_eq_n hC (by decide) (tgt := 40) dX10_permitted_35 rfl (fun _ => ?_) (fun hf => absurd hf (by omega))
            refine J_iinc_n (m := 1) hC (by decide) dX10_permitted_40 rfl (Nat.le_of_ble_eq_true rfl) rfl ?_
            dsimp only [List.set]
            refine J_goto (tgt := 2) hC dX10_permitted_43 rfl ?_
            exact ih (p + 1) (by omega) (by omega) (fun q hq => by
              rcases Nat.lt_or_ge q p with g | g
              · exact hn q g
              · have e : q = p := by omega
                subst e
                exact fun hx => by first | exact hk hx.1 | exact hc hx.2)
  refine J_iconst (v := nI 0) hC dX10_permitted_0 (by decide) ?_
  refine J_istore_n hC dX10_permitted_1 rfl (Nat.le_of_ble_eq_true rfl) rfl ?_
  dsimp only [List.set]
  exact lp (nv (rd σ 13 1) 11 + 1) 0 (by omega) (by omega) (fun q hq => absurd hq (Nat.not_lt_zero _))
set_option maxHeartbeats 4000000 in
set_option maxRecDepth 100000 in
theorem c_X10_used {G : GC} {w : Lay} {σ : Mem} {Q : Lay → Option Value → Mem → Prop} {Qx : Lay → String → Mem → Prop} {hm : Nat} (hM : LM w) (hI : RowOK hm (rd σ 13 1)) {c h : Nat} (hc0 : c < 2 ^ 31) (hh : h < 2 ^ 31) (hq : Q w (some (.int (nI (usedN (rd σ 13 1) c h)))) σ) : MX10_used G w σ [.ref (w.2.1 13 0), .int (nI c), .int (nI h)] Q Qx := by
  refine mt_start (by decide) rfl (Nat.le_of_ble_eq_true rfl) (fun E hC hR hN => ?_)
  show J G E w 0 0 0 [some (.ref (w.2.1 13 0)), some (.int (nI c)), some (.int (nI h)), none, none] [] σ
  have h1 := r_NP hI
  have h2 := r_NK hI
  have h3 := r_NC hI
  have lp : ∀ (dd : Nat) (p : Nat), nv (rd σ 13 1) 11 - p < dd → (p ≤ nv (rd σ 13 1) 11) →  J G E w 0 0 5 [some (.ref (w.2.1 13 0)), some (.int (nI c)), some (.int (nI h)), some (.int (nI (cnt (fun p => nv (rd σ 13 1) (70 + 9 * nv (rd σ 13 1) (214 + 3 * p) + 3) = c ∧ covN (rd σ 13 1) p h) p))), some (.int (nI p))] [] σ := by
    intro dd
    induction dd with
    | zero =>
      intro p hdd
      exact absurd hdd (Nat.not_lt_zero _)
    | succ dd ih =>
      intro p hdd hp
      refine J_iload hC dX10_used_5 rfl ?_
      refine J_aload_n hC dX10_used_7 rfl rfl ?_
      refine gX10_7 hC hM dX10_used_8 ?_
      refine J_bipush (v := nI 11) hC dX10_used_11 (by decide) ?_
      refine J_iaload hC (hM.1 1 (by decide)) rfl rfl (by omega) (by decide) dX10_used_13 ?_
      refine J_top h1.1 ?_
      refine J_icmp_ge_n hC (by omega) (by omega) (tgt := 58) dX10_used_14 rfl (fun hb => ?_) (fun hb => ?_)
      · refine J_iload_n hC dX10_used_58 rfl rfl ?_
        refine J_ireturn hC hR dX10_used_59 (by decide) (by decide) ?_
        have e : p = nv (rd σ 13 1) 11 := by omega
        subst e
        exact hq
      · refine J_aload_n hC dX10_used_17 rfl rfl ?_
        refine J_aload_n hC dX10_used_18 rfl rfl ?_
        refine gX10_7 hC hM dX10_used_19 ?_
        refine J_sipush (v := nI 214) hC dX10_used_22 (by decide) ?_
        refine J_iconst (v := nI 3) hC dX10_used_25 (by decide) ?_
        refine J_iload hC dX10_used_26 rfl ?_
        refine J_imul_n hC dX10_used_28 ?_
        refine J_iadd_n hC dX10_used_29 ?_
        refine J_iaload hC (hM.1 1 (by decide)) rfl rfl (by omega) (by decide) dX10_used_30 ?_
        have g1 := r_PK hI hb
        have g2 := r_KC hI g1.2
        refine J_top (r_PK hI hb).1 ?_
        refine J_iconst (v := nI 3) hC dX10_used_31 (by decide) ?_
        refine iX10_79 hC hM rfl ⟨by decide, by decide⟩ ⟨by decide, by decide⟩ (Nat.le_of_ble_eq_true rfl) dX10_used_32 ?_
        refine c_X10_of hM (by omega) ?_
        dsimp only [Option.toList_some, Option.toList_none, List.cons_append, List.nil_append]
        refine J_top (r_KC hI g1.2).1 ?_
        refine J_iload_n hC dX10_used_35 rfl rfl ?_
        refine J_icmp_ne_n hC (by omega) (by omega) (tgt := 52) dX10_used_36 rfl (fun hk => ?_) (fun hk => ?_)
        · have e0 : ct ((fun p => nv (rd σ 13 1) (70 + 9 * nv (rd σ 13 1) (214 + 3 * p) + 3) = c ∧ covN (rd σ 13 1) p h) p) = 0 := ct_f (fun hx => hk hx.1)
          refine J_iinc_n (m := 1) hC (by decide) dX10_used_52 rfl (Nat.le_of_ble_eq_true rfl) rfl ?_
          dsimp only [List.set]
          refine J_goto (tgt := 5) hC dX10_used_55 rfl ?_
          have e : cnt (fun p => nv (rd σ 13 1) (70 + 9 * nv (rd σ 13 1) (214 + 3 * p) + 3) = c ∧ covN (rd σ 13 1) p h) p + ct ((fun p => nv (rd σ 13 1) (70 + 9 * nv (rd σ 13 1) (214 + 3 * p) + 3) = c ∧ covN (rd σ 13 1) p h) p) = cnt (fun p => nv (rd σ 13 1) (70 + 9 * nv (rd σ 13 1) (214 + 3 * p) + 3) = c ∧ covN (rd σ 13 1) p h) (p + 1) := rfl
          rw [e0] at e
          try simp only [Nat.add_zero] at e
          exact J_cong (ih (p + 1) (by omega) (by omega)) (h2 := by rw [← e])
        · refine J_aload_n hC dX10_used_39 rfl rfl ?_
          refine J_iload hC dX10_used_40 rfl ?_
          refine J_iload_n hC dX10_used_42 rfl rfl ?_
          refine iX10_134 hC hM rfl ⟨by decide, by decide⟩ ⟨by decide, by decide⟩ (Nat.le_of_ble_eq_true rfl) dX10_used_43 ?_
          refine c_X10_covers hM hI hb hh (fun hc => ?_) (fun hc => ?_)
          · dsimp only [Option.toList_some, Option.toList_none, List.cons_append, List.nil_append]
            have e0 : ct ((fun p => nv (rd σ 13 1) (70 + 9 * nv (rd σ 13 1) (214 + 3 * p) + 3) = c ∧ covN (rd σ 13 1) p h) p) = 1 := ct_t ⟨hk, hc⟩
            refine J_if_eq_n hC (by decide) (tgt := 52) dX10_used_46 rfl (fun hf => absurd hf (by omega)) (fun _ => ?_)
            refine J_iinc_n (m := 1) hC (by decide) dX10_used_49 rfl (Nat.le_of_ble_eq_true rfl) rfl ?_
            dsimp only [List.set]
            refine J_iinc_n (m := 1) hC (by decide) dX10_used_52 rfl (Nat.le_of_ble_eq_true rfl) rfl ?_
            dsimp only [List.set]
            refine J_goto (tgt := 5) hC dX10_used_55 rfl ?_
            have e : cnt (fun p => nv (rd σ 13 1) (70 + 9 * nv (rd σ 13 1) (214 + 3 * p) + 3) = c ∧ covN (rd σ 13 1) p h) p + ct ((fun p => nv (rd σ 13 1) (70 + 9 * nv (rd σ 13 1) (214 + 3 * p) + 3) = c ∧ covN (rd σ 13 1) p h) p) = cnt (fun p => nv (rd σ 13 1) (70 + 9 * nv (rd σ 13 1) (214 + 3 * p) + 3) = c ∧ covN (rd σ 13 1) p h) (p + 1) := rfl
            rw [e0] at e
            try simp only [Nat.add_zero] at e
            exact J_cong (ih (p + 1) (by omega) (by omega)) (h2 := by rw [← e])
          · dsimp only [Option.toList_some, Option.toList_none, List.cons_append, List.nil_append]
            have e0 : ct ((fun p => nv (rd σ 13 1) (70 + 9 * nv (rd σ 13 1) (214 + 3 * p) + 3) = c ∧ covN (rd σ 13 1) p h) p) = 0 := ct_f (fun hx => hc hx.2)
            refine J_if_eq_n hC (by decide) (tgt := 52) dX10_used_46 rfl (fun _ => ?_) (fun hf => absurd hf (by omega))
            refine J_iinc_n (m := 1) hC (by decide) dX10_used_52 rfl (Nat.le_of_ble_eq_true rfl) rfl ?_
            dsimp only [List.set]
            refine J_goto (tgt := 5) hC dX10_used_55 rfl ?_
            have e : cnt (fun p => nv (rd σ 13 1) (70 + 9 * nv (rd σ 13 1) (214 + 3 * p) + 3) = c ∧ covN (rd σ 13 1) p h) p + ct ((fun p => nv (rd σ 13 1) (70 + 9 * nv (rd σ 13 1) (214 + 3 * p) + 3) = c ∧ covN (rd σ 13 1) p h) p) = cnt (fun p => nv (rd σ 13 1) (70 + 9 * nv (rd σ 13 1) (214 + 3 * p) + 3) = c ∧ covN (rd σ 13 1) p h) (p + 1) := rfl
            rw [e0] at e
            try simp only [Nat.add_zero] at e
            exact J_cong (ih (p + 1) (by omega) (by omega)) (h2 := by rw [← e])
  refine J_iconst (v := nI 0) hC dX10_used_0 (by decide) ?_
  refine J_istore_n hC dX10_used_1 rfl (Nat.le_of_ble_eq_true rfl) rfl ?_
  dsimp only [List.set]
  refine J_iconst (v := nI 0) hC dX10_used_2 (by decide) ?_
  refine J_istore hC dX10_used_3 (Nat.le_of_ble_eq_true rfl) rfl ?_
  dsimp only [List.set]
  exact lp (nv (rd σ 13 1) 11 + 1) 0 (by omega) (by omega)
set_option maxHeartbeats 4000000 in
set_option maxRecDepth 100000 in
theorem c_X10_crossedIn {G : GC} {w : Lay} {σ : Mem} {Q : Lay → Option Value → Mem → Prop} {Qx : Lay → String → Mem → Prop} {hm : Nat} (hM : LM w) (hI : RowOK hm (rd σ 13 1)) {k h : Nat} (hk : k < nv (rd σ 13 1) 6) (hh : h < 2 ^ 31) (hq : Q w (some (.int (iI (crossedIn (rd σ 13 1) k h)))) σ) : MX10_crossedIn G w σ [.ref (w.2.1 13 0), .int (nI k), .int (nI h)] Q Qx := by
  refine mt_start (by decide) rfl (Nat.le_of_ble_eq_true rfl) (fun E hC hR hN => ?_)
  show J G E w 0 0 0 [some (.ref (w.2.1 13 0)), some (.int (nI k)), some (.int (nI h)), none] [] σ
  have h1 := r_NK hI
  have lp : ∀ (dd : Nat) (i : Nat), nv (rd σ 13 1) 6 - i < dd → (i ≤ nv (rd σ 13 1) 6) → (∀ j, j < i → ¬ wayN (rd σ 13 1) k h j) →  J G E w 0 0 2 [some (.ref (w.2.1 13 0)), some (.int (nI k)), some (.int (nI h)), some (.int (nI i))] [] σ := by
    intro dd
    induction dd with
    | zero =>
      intro i hdd
      exact absurd hdd (Nat.not_lt_zero _)
    | succ dd ih =>
      intro i hdd hi hn
      refine J_iload_n hC dX10_crossedIn_2 rfl rfl ?_
      refine J_aload_n hC dX10_crossedIn_3 rfl rfl ?_
      refine gX10_7 hC hM dX10_crossedIn_4 ?_
      refine J_bipush (v := nI 6) hC dX10_crossedIn_7 (by decide) ?_
      refine J_iaload hC (hM.1 1 (by decide)) rfl rfl (by omega) (by decide) dX10_crossedIn_9 ?_
      refine J_top h1.1 ?_
      refine J_icmp_ge_n hC (by omega) (by omega) (tgt := 45) dX10_crossedIn_10 rfl (fun hb => ?_) (fun hb => ?_)
      · refine J_iconst (v := -1) hC dX10_crossedIn_45 (by decide) ?_
        refine J_ireturn hC hR dX10_crossedIn_46 (by decide) (by decide) ?_
        have e : crossedIn (rd σ 13 1) k h = -1 := leastI_none (fun j hj => hn j (by have := hj.1; omega) hj)
        rw [e] at hq
        exact hq
      · refine J_iload_n hC dX10_crossedIn_13 rfl rfl ?_
        refine J_iload_n hC dX10_crossedIn_14 rfl rfl ?_
        refine J_icmp_eq_n hC (by omega) (by omega) (tgt := 39) dX10_crossedIn_15 rfl (fun hne => ?_) (fun hne => ?_)
        · refine J_iinc_n (m := 1) hC (by decide) dX10_crossedIn_39 rfl (Nat.le_of_ble_eq_true rfl) rfl ?_
          dsimp only [List.set]
          refine J_goto (tgt := 2) hC dX10_crossedIn_42 rfl ?_
          exact ih (i + 1) (by omega) (by omega) (fun q hq2 => by
            rcases Nat.lt_or_ge q i with g | g
            · exact hn q g
            · have e : q = i := by omega
              subst e
              exact fun hx => by first | exact hx.2.1 hne | exact hp hx.2.2.1 | exact hc hx.2.2.2)
        · refine J_aload_n hC dX10_crossedIn_18 rfl rfl ?_
          refine J_iload_n hC dX10_crossedIn_19 rfl rfl ?_
          refine J_iload_n hC dX10_crossedIn_20 rfl rfl ?_
          refine iX10_138 hC hM rfl ⟨by decide, by decide⟩ ⟨by decide, by decide⟩ (Nat.le_of_ble_eq_true rfl) dX10_crossedIn_21 ?_
          refine c_X10_permitted hM hI (by omega) hh (fun hp => ?_) (fun hp => ?_)
          · dsimp only [Option.toList_some, Option.toList_none, List.cons_append, List.nil_append]
            refine J_if_eq_n hC (by decide) (tgt := 39) dX10_crossedIn_24 rfl (fun hf => absurd hf (by omega)) (fun _ => ?_)
            refine J_aload_n hC dX10_crossedIn_27 rfl rfl ?_
            refine J_iload_n hC dX10_crossedIn_28 rfl rfl ?_
            refine J_iload_n hC dX10_crossedIn_29 rfl rfl ?_
            refine J_iload_n hC dX10_crossedIn_30 rfl rfl ?_
            refine iX10_141 hC hM rfl ⟨by decide, by decide⟩ ⟨by decide, by decide⟩ (Nat.le_of_ble_eq_true rfl) dX10_crossedIn_31 ?_
            refine c_X10_cross hM hI hk hb hh (fun hc => ?_) (fun hc => ?_)
            · dsimp only [Option.toList_some, Option.toList_none, List.cons_append, List.nil_append]
              refine J_if_eq_n hC (by decide) (tgt := 39) dX10_crossedIn_34 rfl (fun hf => absurd hf (by omega)) (fun _ => ?_)
              refine J_iload_n hC dX10_crossedIn_37 rfl rfl ?_
              refine J_ireturn hC hR dX10_crossedIn_38 (by decide) (by decide) ?_
              have e : crossedIn (rd σ 13 1) k h = (i : Int) := leastI_some (P := wayN (rd σ 13 1) k h) ⟨hb, hne, hp, hc⟩ hn
              rw [e, ← nI_iI] at hq
              exact hq
            · dsimp only [Option.toList_some, Option.toList_none, List.cons_append, List.nil_append]
              refine J_if_eq_n hC (by decide) (tgt := 39) dX10_crossedIn_34 rfl (fun _ => ?_) (fun hf => absurd hf (by omega))
              refine J_iinc_n (m := 1) hC (by decide) dX10_crossedIn_39 rfl (Nat.le_of_ble_eq_true rfl) rfl ?_
              dsimp only [List.set]
              refine J_goto (tgt := 2) hC dX10_crossedIn_42 rfl ?_
              exact ih (i + 1) (by omega) (by omega) (fun q hq2 => by
                rcases Nat.lt_or_ge q i with g | g
                · exact hn q g
                · have e : q = i := by omega
                  subst e
                  exact fun hx => by first | exact hx.2.1 hne | exact hp hx.2.2.1 | exact hc hx.2.2.2)
          · dsimp only [Option.toList_some, Option.toList_none, List.cons_append, List.nil_append]
            refine J_if_eq_n hC (by decide) (tgt := 39) dX10_crossedIn_24 rfl (fun _ => ?_) (fun hf => absurd hf (by omega))
            refine J_iinc_n (m := 1) hC (by decide) dX10_crossedIn_39 rfl (Nat.le_of_ble_eq_true rfl) rfl ?_
            dsimp only [List.set]
            refine J_goto (tgt := 2) hC dX10_crossedIn_42 rfl ?_
            exact ih (i + 1) (by omega) (by omega) (fun q hq2 => by
              rcases Nat.lt_or_ge q i with g | g
              · exact hn q g
              · have e : q = i := by omega
                subst e
                exact fun hx => by first | exact hx.2.1 hne | exact hp hx.2.2.1 | exact hc hx.2.2.2)
  refine J_iconst (v := nI 0) hC dX10_crossedIn_0 (by decide) ?_
  refine J_istore_n hC dX10_crossedIn_1 rfl (Nat.le_of_ble_eq_true rfl) rfl ?_
  dsimp only [List.set]
  exact lp (nv (rd σ 13 1) 6 + 1) 0 (by omega) (by omega) (fun q hq => absurd hq (Nat.not_lt_zero _))
set_option maxHeartbeats 4000000 in
set_option maxRecDepth 100000 in
theorem c_X10_inTheWay {G : GC} {w : Lay} {σ : Mem} {Q : Lay → Option Value → Mem → Prop} {Qx : Lay → String → Mem → Prop} {hm : Nat} (hM : LM w) (hI : RowOK hm (rd σ 13 1)) {k s d : Nat} (hk : k < nv (rd σ 13 1) 6) (hs0 : s ≤ 1000000) (hd0 : d ≤ 24) (hq : Q w (some (.int (iI (inWay (rd σ 13 1) k s d)))) σ) : MX10_inTheWay G w σ [.ref (w.2.1 13 0), .int (nI k), .int (nI s), .int (nI d)] Q Qx := by
  refine mt_start (by decide) rfl (Nat.le_of_ble_eq_true rfl) (fun E hC hR hN => ?_)
  show J G E w 0 0 0 [some (.ref (w.2.1 13 0)), some (.int (nI k)), some (.int (nI s)), some (.int (nI d)), none, none, none] [] σ
  have h1 := r_NK hI
  have dummy : True := trivial
  have lp : ∀ (dd : Nat) (t : Nat), s + d - t < dd → (s ≤ t) → (t ≤ s + d) →  J G E w 0 0 6 [some (.ref (w.2.1 13 0)), some (.int (nI k)), some (.int (nI s)), some (.int (nI d)), some (.int (iI (leastI (fun i => ∃ u9, s ≤ u9 ∧ u9 < t ∧ wayN (rd σ 13 1) k u9 i)))), some (.int (nI t)), none] [] σ := by
    intro dd
    induction dd with
    | zero =>
      intro t hdd
      exact absurd hdd (Nat.not_lt_zero _)
    | succ dd ih =>
      intro t hdd hs ht
      refine J_iload hC dX10_inTheWay_6 rfl ?_
      refine J_iload_n hC dX10_inTheWay_8 rfl rfl ?_
      refine J_iload_n hC dX10_inTheWay_9 rfl rfl ?_
      refine J_iadd_n hC dX10_inTheWay_10 ?_
      refine J_icmp_ge_n hC (by omega) (by omega) (tgt := 50) dX10_inTheWay_11 rfl (fun hb => ?_) (fun hb => ?_)
      · refine J_iload hC dX10_inTheWay_50 rfl ?_
        refine J_ireturn hC hR dX10_inTheWay_52 (by decide) (by decide) ?_
        have e : t = s + d := by omega
        subst e
        exact hq
      · refine J_aload_n hC dX10_inTheWay_14 rfl rfl ?_
        refine J_iload_n hC dX10_inTheWay_15 rfl rfl ?_
        refine J_iload hC dX10_inTheWay_16 rfl ?_
        refine iX10_144 hC hM rfl ⟨by decide, by decide⟩ ⟨by decide, by decide⟩ (Nat.le_of_ble_eq_true rfl) dX10_inTheWay_18 ?_
        refine c_X10_crossedIn hM hI hk (by omega) ?_
        dsimp only [Option.toList_some, Option.toList_none, List.cons_append, List.nil_append]
        refine J_istore hC dX10_inTheWay_21 (Nat.le_of_ble_eq_true rfl) rfl ?_
        dsimp only [List.set]
        refine J_iload hC dX10_inTheWay_23 rfl ?_
        have r1 := leastI_rng (P := wayN (rd σ 13 1) k t) (n := 16) (fun i hi => by have := hi.1; omega)
        have r2 := leastI_rng (P := (fun i => ∃ u9, s ≤ u9 ∧ u9 < t ∧ wayN (rd σ 13 1) k u9 i)) (n := 16) (fun i hi => by obtain ⟨_, _, _, hi⟩ := hi; have := hi.1; omega)
        have hor := leastI_or (P := (fun i => ∃ u9, s ≤ u9 ∧ u9 < t ∧ wayN (rd σ 13 1) k u9 i)) (R := wayN (rd σ 13 1) k t)
        have hcg := leastI_congr (P := fun i => (∃ u, s ≤ u ∧ u < t ∧ wayN (rd σ 13 1) k u i) ∨ wayN (rd σ 13 1) k t i) (R := (fun i => ∃ u9, s ≤ u9 ∧ u9 < t + 1 ∧ wayN (rd σ 13 1) k u9 i)) (fun i => ⟨fun hx => by
          rcases hx with ⟨u, a1, a2, a3⟩ | hx
          · exact ⟨u, a1, by omega, a3⟩
          · exact ⟨t, hs, by omega, hx⟩, fun ⟨u, a1, a2, a3⟩ => by
          rcases Nat.lt_or_ge u t with g | g
          · exact Or.inl ⟨u, a1, g, a3⟩
          · have e : u = t := by omega
            subst e
            exact Or.inr a3⟩)
        rw [hcg] at hor
        have hce : crossedIn (rd σ 13 1) k t = leastI (wayN (rd σ 13 1) k t) := rfl
        refine J_if_lt_z hC rfl (by rw [hce]; omega) (tgt := 44) dX10_inTheWay_25 rfl (fun c1 => ?_) (fun c1 => ?_)
        · first
          | (have eb : leastI (fun i => ∃ u9, s ≤ u9 ∧ u9 < t + 1 ∧ wayN (rd σ 13 1) k u9 i) = leastI (fun i => ∃ u9, s ≤ u9 ∧ u9 < t ∧ wayN (rd σ 13 1) k u9 i) := by
              rw [hce] at c1
              rw [hor, if_pos c1]
             rw [← eb])
          | (have eb : crossedIn (rd σ 13 1) k t = leastI (fun i => ∃ u9, s ≤ u9 ∧ u9 < t + 1 ∧ wayN (rd σ 13 1) k u9 i) := by
              rw [hce] at c1 ⊢
              rw [hor, if_neg (by omega), if_pos c2]
             rw [eb])
          | (have eb : leastI (fun i => ∃ u9, s ≤ u9 ∧ u9 < t + 1 ∧ wayN (rd σ 13 1) k u9 i) = leastI (fun i => ∃ u9, s ≤ u9 ∧ u9 < t ∧ wayN (rd σ 13 1) k u9 i) := by
              rw [hce] at c1 c3
              rw [hor, if_neg (by omega), if_neg (by omega), if_neg (by omega)]
             rw [← eb])
          | (have eb : crossedIn (rd σ 13 1) k t = leastI (fun i => ∃ u9, s ≤ u9 ∧ u9 < t + 1 ∧ wayN (rd σ 13 1) k u9 i) := by
              rw [hce] at c1 c3 ⊢
              rw [hor, if_neg (by omega), if_neg (by omega), if_pos (by omega)]
             rw [eb])
          refine J_iinc_n (m := 1) hC (by decide) dX10_inTheWay_44 rfl (Nat.le_of_ble_eq_true rfl) rfl ?_
          dsimp only [List.set]
          refine J_goto (tgt := 6) hC dX10_inTheWay_47 rfl ?_
          refine J_less (ls' := [some (.ref (w.2.1 13 0)), some (.int (nI k)), some (.int (nI s)), some (.int (nI d)), some (.int (iI (leastI (fun i => ∃ u9, s ≤ u9 ∧ u9 < t + 1 ∧ wayN (rd σ 13 1) k u9 i)))), some (.int (nI (t + 1))), none]) ⟨Or.inr rfl, Or.inr rfl, Or.inr rfl, Or.inr rfl, Or.inr rfl, Or.inr rfl, Or.inl rfl, trivial⟩ ?_
          exact ih (t + 1) (by omega) (by omega) (by omega)
        · refine J_iload hC dX10_inTheWay_28 rfl ?_
          refine J_if_lt_z hC rfl (by omega) (tgt := 40) dX10_inTheWay_30 rfl (fun c2 => ?_) (fun c2 => ?_)
          · refine J_iload hC dX10_inTheWay_40 rfl ?_
            refine J_istore hC dX10_inTheWay_42 (Nat.le_of_ble_eq_true rfl) rfl ?_
            dsimp only [List.set]
            first
            | (have eb : leastI (fun i => ∃ u9, s ≤ u9 ∧ u9 < t + 1 ∧ wayN (rd σ 13 1) k u9 i) = leastI (fun i => ∃ u9, s ≤ u9 ∧ u9 < t ∧ wayN (rd σ 13 1) k u9 i) := by
                rw [hce] at c1
                rw [hor, if_pos c1]
               rw [← eb])
            | (have eb : crossedIn (rd σ 13 1) k t = leastI (fun i => ∃ u9, s ≤ u9 ∧ u9 < t + 1 ∧ wayN (rd σ 13 1) k u9 i) := by
                rw [hce] at c1 ⊢
                rw [hor, if_neg (by omega), if_pos c2]
               rw [eb])
            | (have eb : leastI (fun i => ∃ u9, s ≤ u9 ∧ u9 < t + 1 ∧ wayN (rd σ 13 1) k u9 i) = leastI (fun i => ∃ u9, s ≤ u9 ∧ u9 < t ∧ wayN (rd σ 13 1) k u9 i) := by
                rw [hce] at c1 c3
                rw [hor, if_neg (by omega), if_neg (by omega), if_neg (by omega)]
               rw [← eb])
            | (have eb : crossedIn (rd σ 13 1) k t = leastI (fun i => ∃ u9, s ≤ u9 ∧ u9 < t + 1 ∧ wayN (rd σ 13 1) k u9 i) := by
                rw [hce] at c1 c3 ⊢
                rw [hor, if_neg (by omega), if_neg (by omega), if_pos (by omega)]
               rw [eb])
            refine J_iinc_n (m := 1) hC (by decide) dX10_inTheWay_44 rfl (Nat.le_of_ble_eq_true rfl) rfl ?_
            dsimp only [List.set]
            refine J_goto (tgt := 6) hC dX10_inTheWay_47 rfl ?_
            refine J_less (ls' := [some (.ref (w.2.1 13 0)), some (.int (nI k)), some (.int (nI s)), some (.int (nI d)), some (.int (iI (leastI (fun i => ∃ u9, s ≤ u9 ∧ u9 < t + 1 ∧ wayN (rd σ 13 1) k u9 i)))), some (.int (nI (t + 1))), none]) ⟨Or.inr rfl, Or.inr rfl, Or.inr rfl, Or.inr rfl, Or.inr rfl, Or.inr rfl, Or.inl rfl, trivial⟩ ?_
            exact ih (t + 1) (by omega) (by omega) (by omega)
          · refine J_iload hC dX10_inTheWay_33 rfl ?_
            refine J_iload hC dX10_inTheWay_35 rfl ?_
            refine J_icmp_ge_z hC rfl rfl (by rw [hce]; omega) (by omega) (tgt := 44) dX10_inTheWay_37 rfl (fun c3 => ?_) (fun c3 => ?_)
            · first
              | (have eb : leastI (fun i => ∃ u9, s ≤ u9 ∧ u9 < t + 1 ∧ wayN (rd σ 13 1) k u9 i) = leastI (fun i => ∃ u9, s ≤ u9 ∧ u9 < t ∧ wayN (rd σ 13 1) k u9 i) := by
                  rw [hce] at c1
                  rw [hor, if_pos c1]
                 rw [← eb])
              | (have eb : crossedIn (rd σ 13 1) k t = leastI (fun i => ∃ u9, s ≤ u9 ∧ u9 < t + 1 ∧ wayN (rd σ 13 1) k u9 i) := by
                  rw [hce] at c1 ⊢
                  rw [hor, if_neg (by omega), if_pos c2]
                 rw [eb])
              | (have eb : leastI (fun i => ∃ u9, s ≤ u9 ∧ u9 < t + 1 ∧ wayN (rd σ 13 1) k u9 i) = leastI (fun i => ∃ u9, s ≤ u9 ∧ u9 < t ∧ wayN (rd σ 13 1) k u9 i) := by
                  rw [hce] at c1 c3
                  rw [hor, if_neg (by omega), if_neg (by omega), if_neg (by omega)]
                 rw [← eb])
              | (have eb : crossedIn (rd σ 13 1) k t = leastI (fun i => ∃ u9, s ≤ u9 ∧ u9 < t + 1 ∧ wayN (rd σ 13 1) k u9 i) := by
                  rw [hce] at c1 c3 ⊢
                  rw [hor, if_neg (by omega), if_neg (by omega), if_pos (by omega)]
                 rw [eb])
              refine J_iinc_n (m := 1) hC (by decide) dX10_inTheWay_44 rfl (Nat.le_of_ble_eq_true rfl) rfl ?_
              dsimp only [List.set]
              refine J_goto (tgt := 6) hC dX10_inTheWay_47 rfl ?_
              refine J_less (ls' := [some (.ref (w.2.1 13 0)), some (.int (nI k)), some (.int (nI s)), some (.int (nI d)), some (.int (iI (leastI (fun i => ∃ u9, s ≤ u9 ∧ u9 < t + 1 ∧ wayN (rd σ 13 1) k u9 i)))), some (.int (nI (t + 1))), none]) ⟨Or.inr rfl, Or.inr rfl, Or.inr rfl, Or.inr rfl, Or.inr rfl, Or.inr rfl, Or.inl rfl, trivial⟩ ?_
              exact ih (t + 1) (by omega) (by omega) (by omega)
            · refine J_iload hC dX10_inTheWay_40 rfl ?_
              refine J_istore hC dX10_inTheWay_42 (Nat.le_of_ble_eq_true rfl) rfl ?_
              dsimp only [List.set]
              first
              | (have eb : leastI (fun i => ∃ u9, s ≤ u9 ∧ u9 < t + 1 ∧ wayN (rd σ 13 1) k u9 i) = leastI (fun i => ∃ u9, s ≤ u9 ∧ u9 < t ∧ wayN (rd σ 13 1) k u9 i) := by
                  rw [hce] at c1
                  rw [hor, if_pos c1]
                 rw [← eb])
              | (have eb : crossedIn (rd σ 13 1) k t = leastI (fun i => ∃ u9, s ≤ u9 ∧ u9 < t + 1 ∧ wayN (rd σ 13 1) k u9 i) := by
                  rw [hce] at c1 ⊢
                  rw [hor, if_neg (by omega), if_pos c2]
                 rw [eb])
              | (have eb : leastI (fun i => ∃ u9, s ≤ u9 ∧ u9 < t + 1 ∧ wayN (rd σ 13 1) k u9 i) = leastI (fun i => ∃ u9, s ≤ u9 ∧ u9 < t ∧ wayN (rd σ 13 1) k u9 i) := by
                  rw [hce] at c1 c3
                  rw [hor, if_neg (by omega), if_neg (by omega), if_neg (by omega)]
                 rw [← eb])
              | (have eb : crossedIn (rd σ 13 1) k t = leastI (fun i => ∃ u9, s ≤ u9 ∧ u9 < t + 1 ∧ wayN (rd σ 13 1) k u9 i) := by
                  rw [hce] at c1 c3 ⊢
                  rw [hor, if_neg (by omega), if_neg (by omega), if_pos (by omega)]
                 rw [eb])
              refine J_iinc_n (m := 1) hC (by decide) dX10_inTheWay_44 rfl (Nat.le_of_ble_eq_true rfl) rfl ?_
              dsimp only [List.set]
              refine J_goto (tgt := 6) hC dX10_inTheWay_47 rfl ?_
              refine J_less (ls' := [some (.ref (w.2.1 13 0)), some (.int (nI k)), some (.int (nI s)), some (.int (nI d)), some (.int (iI (leastI (fun i => ∃ u9, s ≤ u9 ∧ u9 < t + 1 ∧ wayN (rd σ 13 1) k u9 i)))), some (.int (nI (t + 1))), none]) ⟨Or.inr rfl, Or.inr rfl, Or.inr rfl, Or.inr rfl, Or.inr rfl, Or.inr rfl, Or.inl rfl, trivial⟩ ?_
              exact ih (t + 1) (by omega) (by omega) (by omega)
  refine J_iconst (v := -1) hC dX10_inTheWay_0 (by decide) ?_
  refine J_istore hC dX10_inTheWay_1 (Nat.le_of_ble_eq_true rfl) rfl ?_
  dsimp only [List.set]
  refine J_iload_n hC dX10_inTheWay_3 rfl rfl ?_
  refine J_istore hC dX10_inTheWay_4 (Nat.le_of_ble_eq_true rfl) rfl ?_
  dsimp only [List.set]
  have e : (-1 : Int) = leastI (fun i => ∃ u9, s ≤ u9 ∧ u9 < s ∧ wayN (rd σ 13 1) k u9 i) := (leastI_none (fun i hi => by obtain ⟨u, a1, a2, -⟩ := hi; omega)).symm
  exact J_cong (lp (s + d + 1) s (by omega) (by omega) (by omega)) (h2 := by rw [← e]; rfl)
