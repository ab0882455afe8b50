set_option maxHeartbeats 4000000 in
set_option maxRecDepth 100000 in
theorem c_X10_pass {G : GC} {w : Lay} {σ : Mem} {Q : Lay → Option Value → Mem → Prop} {Qx : Lay → String → Mem → Prop} {hm : Nat} (hM : LM w) (hI : RowOK hm (rd σ 13 1)) (hb9 : hm < 2000000) (hq : Q w (some (.int (nI (passR (rd σ 13 1) (rd σ 13 8)).2.2))) (setAK σ (passR (rd σ 13 1) (rd σ 13 8)).1 (passR (rd σ 13 1) (rd σ 13 8)).2.1)) : MX10_pass G w σ [.ref (w.2.1 13 0)] Q Qx := by
  refine mt_start (by decide) rfl (Nat.le_of_ble_eq_true rfl) (fun E hC hR hN => ?_)
  show J G E w 0 0 0 [some (.ref (w.2.1 13 0)), none, none, none, none] [] σ
  have h1 := r_NK hI
  have h2 := r_NP hI
  have h3 := r_HOUR hI
  have hE := endR_ok hI (by omega)
  have e6 : (endR (rd σ 13 1)).1 6 = nI (nv (rd σ 13 1) 6) := (endR_lo (by omega) (by omega) (by omega)).trans h1.1
  have n6 : nv (endR (rd σ 13 1)).1 6 = (nv (rd σ 13 1) 6) := nv_of e6 (by omega)
  have hJ := judR_I (K := (rd σ 13 8)) hI (by omega)
  have f6 : (judR (rd σ 13 1) (rd σ 13 8)).1 6 = nI (nv (rd σ 13 1) 6) := (hJ.2 6 (by omega)).trans ((grA_lo (by omega)).trans e6)
  have jF : ∀ (S : JS), S = judR (rd σ 13 1) (rd σ 13 8) → J G E w 0 0 242 [some (.ref (w.2.1 13 0)), some (.int (nI S.2.2)), none, none, none] [] (setAK σ S.1 S.2.1) := by
    intro S hS
    subst hS
    have lp4 : ∀ (dd : Nat) (i : Nat), (nv (rd σ 13 1) 6) - i < dd → (i ≤ (nv (rd σ 13 1) 6)) →  J G E w 0 0 244 [some (.ref (w.2.1 13 0)), some (.int (nI (judR (rd σ 13 1) (rd σ 13 8)).2.2)), none, some (.int (nI i)), none] [] (setAK σ (tgA (judR (rd σ 13 1) (rd σ 13 8)).1 (judR (rd σ 13 1) (rd σ 13 8)).2.1 i) (judR (rd σ 13 1) (rd σ 13 8)).2.1) := by
      intro dd
      induction dd with
      | zero =>
        intro i hdd
        exact absurd hdd (Nat.not_lt_zero _)
      | succ dd ih =>
        intro i hdd hi
        refine J_iload_n hC dX10_pass_244 rfl rfl ?_
        refine J_aload_n hC dX10_pass_245 rfl rfl ?_
        refine gX10_7 hC hM dX10_pass_246 ?_
        refine J_bipush (v := nI 6) hC dX10_pass_249 (by decide) ?_
        refine J_iaload hC (hM.1 1 (by decide)) rfl rfl (by omega) (by decide) dX10_pass_251 ?_
        refine J_top (show _ = nI (nv (rd σ 13 1) 6) from by rw [rd_AK_A]; exact (tgA_lo (by omega)).trans f6) ?_
        refine J_icmp_ge_n hC (by omega) (by omega) (tgt := 286) dX10_pass_252 rfl (fun hb => ?_) (fun hb => ?_)
        · refine J_iload_n hC dX10_pass_286 rfl rfl ?_
          refine J_ireturn hC hR dX10_pass_287 (by decide) (by decide) ?_
          have e : i = (nv (rd σ 13 1) 6) := by omega
          subst e
          exact hq
        · refine J_aload_n hC dX10_pass_255 rfl rfl ?_
          refine gX10_37 hC hM dX10_pass_256 ?_
          refine J_iload_n hC dX10_pass_259 rfl rfl ?_
          refine J_zaload hC (hM.1 8 (by decide)) rfl rfl (by omega) (by decide) dX10_pass_260 ?_
          refine J_top (show _ = (judR (rd σ 13 1) (rd σ 13 8)).2.1 i from by rw [rd_AK_K]) ?_
          refine J_if_eq hC (tgt := 280) dX10_pass_261 rfl (fun hc => ?_) (fun hc => ?_)
          · rw [← tgA_skip hc]
            refine J_iinc_n (m := 1) hC (by decide) dX10_pass_280 rfl (Nat.le_of_ble_eq_true rfl) rfl ?_
            dsimp only [List.set]
            refine J_goto (tgt := 244) hC dX10_pass_283 rfl ?_
            exact ih (i + 1) (by omega) (by omega)
          · refine J_aload_n hC dX10_pass_264 rfl rfl ?_
            refine gX10_7 hC hM dX10_pass_265 ?_
            refine J_bipush (v := nI 70) hC dX10_pass_268 (by decide) ?_
            refine J_bipush (v := nI 9) hC dX10_pass_270 (by decide) ?_
            refine J_iload_n hC dX10_pass_272 rfl rfl ?_
            refine J_imul_n hC dX10_pass_273 ?_
            refine J_iadd_n hC dX10_pass_274 ?_
            refine J_bipush (v := nI 6) hC dX10_pass_275 (by decide) ?_
            refine J_iadd_n hC dX10_pass_277 ?_
            refine J_iconst (v := nI 2) hC dX10_pass_278 (by decide) ?_
            refine J_iastore hC (hM.1 1 (by decide)) rfl rfl (by omega) (by decide) dX10_pass_279 ?_
            rw [wr_AK_A, tgA_hit hc]
            refine J_iinc_n (m := 1) hC (by decide) dX10_pass_280 rfl (Nat.le_of_ble_eq_true rfl) rfl ?_
            dsimp only [List.set]
            refine J_goto (tgt := 244) hC dX10_pass_283 rfl ?_
            exact ih (i + 1) (by omega) (by omega)
    refine J_iconst (v := nI 0) hC dX10_pass_242 (by decide) ?_
    refine J_istore_n hC dX10_pass_243 rfl (Nat.le_of_ble_eq_true rfl) rfl ?_
    dsimp only [List.set]
    exact J_cong (lp4 17 0 (by omega) (by omega)) (h4 := by rw [tgA_0])
  have lp3 : ∀ (dd : Nat) (k i : Nat) (S : JS), (16 - k) * 20 + ((nv (rd σ 13 1) 6) + 1 - i) < dd → (k < (nv (rd σ 13 1) 6)) → (k + 1 ≤ i) → (i ≤ (nv (rd σ 13 1) 6)) → (judI (hm + 1) (grA (endR (rd σ 13 1)).1 (nv (rd σ 13 1) 7 + 1) (nv (rd σ 13 1) 6)) S) → (jrun (nv (rd σ 13 1) 6) (nv (rd σ 13 1) 7 + 1) dd k i S = judR (rd σ 13 1) (rd σ 13 8)) →  J G E w 0 0 165 [some (.ref (w.2.1 13 0)), some (.int (nI S.2.2)), none, some (.int (nI k)), some (.int (nI i))] [] (setAK σ S.1 S.2.1) := by
    intro dd
    induction dd with
    | zero =>
      intro k i S hdd
      exact absurd hdd (Nat.not_lt_zero _)
    | succ dd ih =>
      intro k i S hdd hk0 hki hi0 hS hF
      have hS6 : S.1 6 = nI (nv (rd σ 13 1) 6) := (hS.2 6 (by omega)).trans ((grA_lo (by omega)).trans e6)
      have nS6 : nv S.1 6 = (nv (rd σ 13 1) 6) := nv_of hS6 (by omega)
      have hS7 : S.1 7 = nI (nv (rd σ 13 1) 7 + 1) := (hS.2 7 (by omega)).trans ((grA_lo (by omega)).trans endR_7)
      have nS7 : nv S.1 7 = (nv (rd σ 13 1) 7 + 1) := nv_of hS7 (by omega)
      refine J_iload hC dX10_pass_165 rfl ?_
      refine J_aload_n hC dX10_pass_167 rfl rfl ?_
      refine gX10_7 hC hM dX10_pass_168 ?_
      refine J_bipush (v := nI 6) hC dX10_pass_171 (by decide) ?_
      refine J_iaload hC (hM.1 1 (by decide)) rfl rfl (by omega) (by decide) dX10_pass_173 ?_
      refine J_top (show _ = nI (nv (rd σ 13 1) 6) from by rw [rd_AK_A]; exact hS6) ?_
      refine J_icmp_ge_n hC (by omega) (by omega) (tgt := 236) dX10_pass_174 rfl (fun hb => ?_) (fun hb => ?_)
      · refine J_iinc_n (m := 1) hC (by decide) dX10_pass_236 rfl (Nat.le_of_ble_eq_true rfl) rfl ?_
        dsimp only [List.set]
        refine J_goto (tgt := 149) hC dX10_pass_239 rfl ?_
        refine J_iload_n hC dX10_pass_149 rfl rfl ?_
        refine J_aload_n hC dX10_pass_150 rfl rfl ?_
        refine gX10_7 hC hM dX10_pass_151 ?_
        refine J_bipush (v := nI 6) hC dX10_pass_154 (by decide) ?_
        refine J_iaload hC (hM.1 1 (by decide)) rfl rfl (by omega) (by decide) dX10_pass_156 ?_
        refine J_top (show _ = nI (nv (rd σ 13 1) 6) from by rw [rd_AK_A]; exact hS6) ?_
        refine J_icmp_ge_n hC (by omega) (by omega) (tgt := 242) dX10_pass_157 rfl (fun hk1 => ?_) (fun hk1 => ?_)
        · rw [jrun_next hk0 (by omega), jrun_done (by omega)] at hF
          refine J_less (ls' := [some (.ref (w.2.1 13 0)), some (.int (nI S.2.2)), none, none, none]) ⟨Or.inr rfl, Or.inr rfl, Or.inr rfl, Or.inl rfl, Or.inl rfl, trivial⟩ ?_
          exact jF S hF
        · rw [jrun_next hk0 (by omega)] at hF
          refine J_iload_n hC dX10_pass_160 rfl rfl ?_
          refine J_iconst (v := nI 1) hC dX10_pass_161 (by decide) ?_
          refine J_iadd_n hC dX10_pass_162 ?_
          refine J_istore hC dX10_pass_163 (Nat.le_of_ble_eq_true rfl) rfl ?_
          dsimp only [List.set]
          first
          | exact ih (k + 1) (k + 2) S (by omega) (by omega) (by omega) (by omega) hS hF
          | exact ih k (i + 1) S (by omega) hk0 (by omega) (by omega) hS hF
          | exact ih k (i + 1) (verdA S.1 k i, upd (upd S.2.1 k (nI 1)) i (nI 1), S.2.2 + 1) (by omega) hk0 (by omega) (by omega) hS9 hF
      · refine J_aload_n hC dX10_pass_177 rfl rfl ?_
        refine J_iload_n hC dX10_pass_178 rfl rfl ?_
        refine J_bipush (v := nI 6) hC dX10_pass_179 (by decide) ?_
        refine iX10_79 hC hM rfl ⟨by decide, by decide⟩ ⟨by decide, by decide⟩ (Nat.le_of_ble_eq_true rfl) dX10_pass_181 ?_
        refine c_X10_of hM (by omega) ?_
        dsimp only [Option.toList_some, Option.toList_none, List.cons_append, List.nil_append]
        have g1 := r_KS hS.1 (k := k) (by rw [nS6]; exact hk0)
        have g2 := r_KS hS.1 (k := i) (by rw [nS6]; exact hb)
        refine J_top (show _ = nI (nv S.1 (70 + 9 * k + 6)) from by rw [rd_AK_A]; exact (r_KS hS.1 (by rw [nS6]; exact hk0)).1) ?_
        refine J_iconst (v := nI 1) hC dX10_pass_184 (by decide) ?_
        refine J_icmp_ne_n hC (by omega) (by decide) (tgt := 230) dX10_pass_185 rfl (fun c1 => ?_) (fun c1 => ?_)
        · rw [jrun_step hk0 hb, jstep_skip (fun q => c1 q.1)] at hF
          refine J_iinc_n (m := 1) hC (by decide) dX10_pass_230 rfl (Nat.le_of_ble_eq_true rfl) rfl ?_
          dsimp only [List.set]
          refine J_goto (tgt := 165) hC dX10_pass_233 rfl ?_
          first
          | exact ih (k + 1) (k + 2) S (by omega) (by omega) (by omega) (by omega) hS hF
          | exact ih k (i + 1) S (by omega) hk0 (by omega) (by omega) hS hF
          | exact ih k (i + 1) (verdA S.1 k i, upd (upd S.2.1 k (nI 1)) i (nI 1), S.2.2 + 1) (by omega) hk0 (by omega) (by omega) hS9 hF
        · refine J_aload_n hC dX10_pass_188 rfl rfl ?_
          refine J_iload hC dX10_pass_189 rfl ?_
          refine J_bipush (v := nI 6) hC dX10_pass_191 (by decide) ?_
          refine iX10_79 hC hM rfl ⟨by decide, by decide⟩ ⟨by decide, by decide⟩ (Nat.le_of_ble_eq_true rfl) dX10_pass_193 ?_
          refine c_X10_of hM (by omega) ?_
          dsimp only [Option.toList_some, Option.toList_none, List.cons_append, List.nil_append]
          refine J_top (show _ = nI (nv S.1 (70 + 9 * i + 6)) from by rw [rd_AK_A]; exact g2.1) ?_
          refine J_iconst (v := nI 1) hC dX10_pass_196 (by decide) ?_
          refine J_icmp_ne_n hC (by omega) (by decide) (tgt := 230) dX10_pass_197 rfl (fun c2 => ?_) (fun c2 => ?_)
          · rw [jrun_step hk0 hb, jstep_skip (fun q => c2 q.2.1)] at hF
            refine J_iinc_n (m := 1) hC (by decide) dX10_pass_230 rfl (Nat.le_of_ble_eq_true rfl) rfl ?_
            dsimp only [List.set]
            refine J_goto (tgt := 165) hC dX10_pass_233 rfl ?_
            first
            | exact ih (k + 1) (k + 2) S (by omega) (by omega) (by omega) (by omega) hS hF
            | exact ih k (i + 1) S (by omega) hk0 (by omega) (by omega) hS hF
            | exact ih k (i + 1) (verdA S.1 k i, upd (upd S.2.1 k (nI 1)) i (nI 1), S.2.2 + 1) (by omega) hk0 (by omega) (by omega) hS9 hF
          · refine J_aload_n hC dX10_pass_200 rfl rfl ?_
            refine J_iload_n hC dX10_pass_201 rfl rfl ?_
            refine J_iload hC dX10_pass_202 rfl ?_
            refine J_aload_n hC dX10_pass_204 rfl rfl ?_
            refine gX10_7 hC hM dX10_pass_205 ?_
            refine J_bipush (v := nI 7) hC dX10_pass_208 (by decide) ?_
            refine J_iaload hC (hM.1 1 (by decide)) rfl rfl (by omega) (by decide) dX10_pass_210 ?_
            refine J_top (show _ = nI (nv (rd σ 13 1) 7 + 1) from by rw [rd_AK_A]; exact hS7) ?_
            refine iX10_141 hC hM rfl ⟨by decide, by decide⟩ ⟨by decide, by decide⟩ (Nat.le_of_ble_eq_true rfl) dX10_pass_211 ?_
            refine c_X10_cross hM (by rw [rd_AK_A]; exact hS.1) (by rw [rd_AK_A, nS6]; exact hk0) (by rw [rd_AK_A, nS6]; exact hb) (by omega) (fun c3 => ?_) (fun c3 => ?_)
            · dsimp only [Option.toList_some, Option.toList_none, List.cons_append, List.nil_append]
              rw [rd_AK_A] at c3
              rw [jrun_step hk0 hb, jstep_hit ⟨c1, c2, c3⟩] at hF
              refine J_if_ne_n hC (by decide) (tgt := 220) dX10_pass_214 rfl (fun _ => ?_) (fun hf => absurd hf (by omega))
              refine J_aload_n hC dX10_pass_220 rfl rfl ?_
              refine J_iload_n hC dX10_pass_221 rfl rfl ?_
              refine J_iload hC dX10_pass_222 rfl ?_
              refine iX10_165 hC hM rfl ⟨by decide, by decide⟩ ⟨by decide, by decide⟩ (Nat.le_of_ble_eq_true rfl) dX10_pass_224 ?_
              refine c_X10_verdict hM (by rw [rd_AK_A]; exact hS.1) (by rw [rd_AK_A, nS6]; exact hk0) (by rw [rd_AK_A, nS6]; exact hb) (by omega) (by rw [rd_AK_A, nS7]; omega) ?_
              dsimp only [Option.toList_some, Option.toList_none, List.cons_append, List.nil_append]
              rw [rd_AK_A, setA_AK, wr_AK_K, wr_AK_K]
              have hS9 := judI_step (H := (nv (rd σ 13 1) 7 + 1)) (k := k) (i := i) (by omega) (by omega) hS
              rw [jstep_hit ⟨c1, c2, c3⟩] at hS9
              refine J_iinc_n (m := 1) hC (by decide) dX10_pass_227 rfl (Nat.le_of_ble_eq_true rfl) rfl ?_
              dsimp only [List.set]
              refine J_iinc_n (m := 1) hC (by decide) dX10_pass_230 rfl (Nat.le_of_ble_eq_true rfl) rfl ?_
              dsimp only [List.set]
              refine J_goto (tgt := 165) hC dX10_pass_233 rfl ?_
              first
              | exact ih (k + 1) (k + 2) S (by omega) (by omega) (by omega) (by omega) hS hF
              | exact ih k (i + 1) S (by omega) hk0 (by omega) (by omega) hS hF
              | exact ih k (i + 1) (verdA S.1 k i, upd (upd S.2.1 k (nI 1)) i (nI 1), S.2.2 + 1) (by omega) hk0 (by omega) (by omega) hS9 hF
            · dsimp only [Option.toList_some, Option.toList_none, List.cons_append, List.nil_append]
              rw [rd_AK_A] at c3
              rw [jrun_step hk0 hb, jstep_skip (fun q => c3 q.2.2)] at hF
              refine J_if_ne_n hC (by decide) (tgt := 220) dX10_pass_214 rfl (fun hf => absurd hf (by omega)) (fun _ => ?_)
              refine J_goto (tgt := 230) hC dX10_pass_217 rfl ?_
              refine J_iinc_n (m := 1) hC (by decide) dX10_pass_230 rfl (Nat.le_of_ble_eq_true rfl) rfl ?_
              dsimp only [List.set]
              refine J_goto (tgt := 165) hC dX10_pass_233 rfl ?_
              first
              | exact ih (k + 1) (k + 2) S (by omega) (by omega) (by omega) (by omega) hS hF
              | exact ih k (i + 1) S (by omega) hk0 (by omega) (by omega) hS hF
              | exact ih k (i + 1) (verdA S.1 k i, upd (upd S.2.1 k (nI 1)) i (nI 1), S.2.2 + 1) (by omega) hk0 (by omega) (by omega) hS9 hF
  have j147 :  J G E w 0 0 147 [some (.ref (w.2.1 13 0)), some (.int (nI 0)), none, none, none] [] (setAK σ (grA (endR (rd σ 13 1)).1 (nv (rd σ 13 1) 7 + 1) (nv (rd σ 13 1) 6)) (clrK (rd σ 13 8) (nv (rd σ 13 1) 6))) := by
    refine J_iconst (v := nI 0) hC dX10_pass_147 (by decide) ?_
    refine J_istore_n hC dX10_pass_148 rfl (Nat.le_of_ble_eq_true rfl) rfl ?_
    dsimp only [List.set]
    refine J_iload_n hC dX10_pass_149 rfl rfl ?_
    refine J_aload_n hC dX10_pass_150 rfl rfl ?_
    refine gX10_7 hC hM dX10_pass_151 ?_
    refine J_bipush (v := nI 6) hC dX10_pass_154 (by decide) ?_
    refine J_iaload hC (hM.1 1 (by decide)) rfl rfl (by omega) (by decide) dX10_pass_156 ?_
    refine J_top (show _ = nI (nv (rd σ 13 1) 6) from by rw [rd_AK_A]; exact (grA_lo (by omega)).trans e6) ?_
    refine J_icmp_ge_n hC (by decide) (by omega) (tgt := 242) dX10_pass_157 rfl (fun hk1 => ?_) (fun hk1 => ?_)
    · refine J_less (ls' := [some (.ref (w.2.1 13 0)), some (.int (nI 0)), none, none, none]) ⟨Or.inr rfl, Or.inr rfl, Or.inr rfl, Or.inl rfl, Or.inl rfl, trivial⟩ ?_
      exact jF (grA (endR (rd σ 13 1)).1 (nv (rd σ 13 1) 7 + 1) (nv (rd σ 13 1) 6), clrK (rd σ 13 8) (nv (rd σ 13 1) 6), 0) (jrun_done (n := (nv (rd σ 13 1) 6)) (H := (nv (rd σ 13 1) 7 + 1)) (f := 1000) (k := 0) (i := 1) (S := (grA (endR (rd σ 13 1)).1 (nv (rd σ 13 1) 7 + 1) (nv (rd σ 13 1) 6), clrK (rd σ 13 8) (nv (rd σ 13 1) 6), 0)) (by omega)).symm
    · refine J_iload_n hC dX10_pass_160 rfl rfl ?_
      refine J_iconst (v := nI 1) hC dX10_pass_161 (by decide) ?_
      refine J_iadd_n hC dX10_pass_162 ?_
      refine J_istore hC dX10_pass_163 (Nat.le_of_ble_eq_true rfl) rfl ?_
      dsimp only [List.set]
      exact lp3 1000 0 1 (grA (endR (rd σ 13 1)).1 (nv (rd σ 13 1) 7 + 1) (nv (rd σ 13 1) 6), clrK (rd σ 13 8) (nv (rd σ 13 1) 6), 0) (by omega) (by omega) (by omega) (by omega) ⟨RowOK_gr hE h1.2, fun _ _ => rfl⟩ rfl
  have lp2 : ∀ (dd : Nat) (k : Nat), (nv (rd σ 13 1) 6) - k < dd → (k ≤ (nv (rd σ 13 1) 6)) →  J G E w 0 0 81 [some (.ref (w.2.1 13 0)), some (.int (nI 0)), none, some (.int (nI k)), none] [] (setAK σ (grA (endR (rd σ 13 1)).1 (nv (rd σ 13 1) 7 + 1) k) (clrK (rd σ 13 8) k)) := by
    intro dd
    induction dd with
    | zero =>
      intro k hdd
      exact absurd hdd (Nat.not_lt_zero _)
    | succ dd ih =>
      intro k hdd hk
      refine J_iload_n hC dX10_pass_81 rfl rfl ?_
      refine J_aload_n hC dX10_pass_82 rfl rfl ?_
      refine gX10_7 hC hM dX10_pass_83 ?_
      refine J_bipush (v := nI 6) hC dX10_pass_86 (by decide) ?_
      refine J_iaload hC (hM.1 1 (by decide)) rfl rfl (by omega) (by decide) dX10_pass_88 ?_
      refine J_top (show _ = nI (nv (rd σ 13 1) 6) from by rw [rd_AK_A]; exact (grA_lo (by omega)).trans e6) ?_
      refine J_icmp_ge_n hC (by omega) (by omega) (tgt := 147) dX10_pass_89 rfl (fun hb => ?_) (fun hb => ?_)
      · have e : k = (nv (rd σ 13 1) 6) := by omega
        subst e
        refine J_less (ls' := [some (.ref (w.2.1 13 0)), some (.int (nI 0)), none, none, none]) ⟨Or.inr rfl, Or.inr rfl, Or.inr rfl, Or.inl rfl, Or.inr rfl, trivial⟩ ?_
        exact j147
      · refine J_aload_n hC dX10_pass_92 rfl rfl ?_
        refine gX10_37 hC hM dX10_pass_93 ?_
        refine J_iload_n hC dX10_pass_96 rfl rfl ?_
        refine J_iconst (v := nI 0) hC dX10_pass_97 (by decide) ?_
        refine J_zastore hC (hM.1 8 (by decide)) rfl rfl (by omega) (by decide) (by decide) dX10_pass_98 ?_
        rw [wr_AK_K, clrK_s]
        refine J_aload_n hC dX10_pass_99 rfl rfl ?_
        refine J_iload_n hC dX10_pass_100 rfl rfl ?_
        refine J_bipush (v := nI 6) hC dX10_pass_101 (by decide) ?_
        refine iX10_79 hC hM rfl ⟨by decide, by decide⟩ ⟨by decide, by decide⟩ (Nat.le_of_ble_eq_true rfl) dX10_pass_103 ?_
        refine c_X10_of hM (by omega) ?_
        dsimp only [Option.toList_some, Option.toList_none, List.cons_append, List.nil_append]
        have g1 := r_KS hE (k := k) (by rw [n6]; exact hb)
        refine J_top (show _ = nI (nv (endR (rd σ 13 1)).1 (70 + 9 * k + 6)) from by rw [rd_AK_A]; exact (grA_lo (by omega)).trans (r_KS hE (by rw [n6]; exact hb)).1) ?_
        refine J_iconst (v := nI 1) hC dX10_pass_106 (by decide) ?_
        refine J_icmp_ne_n hC (by omega) (by decide) (tgt := 141) dX10_pass_107 rfl (fun c1 => ?_) (fun c1 => ?_)
        · rw [← grA_skip (A := (endR (rd σ 13 1)).1) (H := (nv (rd σ 13 1) 7 + 1)) (m := k) (fun q => c1 q.1)]
          refine J_iinc_n (m := 1) hC (by decide) dX10_pass_141 rfl (Nat.le_of_ble_eq_true rfl) rfl ?_
          dsimp only [List.set]
          refine J_goto (tgt := 81) hC dX10_pass_144 rfl ?_
          exact ih (k + 1) (by omega) (by omega)
        · refine J_aload_n hC dX10_pass_110 rfl rfl ?_
          refine J_iload_n hC dX10_pass_111 rfl rfl ?_
          refine J_aload_n hC dX10_pass_112 rfl rfl ?_
          refine gX10_7 hC hM dX10_pass_113 ?_
          refine J_bipush (v := nI 7) hC dX10_pass_116 (by decide) ?_
          refine J_iaload hC (hM.1 1 (by decide)) rfl rfl (by omega) (by decide) dX10_pass_118 ?_
          refine J_top (show _ = nI (nv (rd σ 13 1) 7 + 1) from by rw [rd_AK_A]; exact (grA_lo (by omega)).trans endR_7) ?_
          refine iX10_150 hC hM rfl ⟨by decide, by decide⟩ ⟨by decide, by decide⟩ (Nat.le_of_ble_eq_true rfl) dX10_pass_119 ?_
          refine c_X10_flies hM (by rw [rd_AK_A]; exact RowOK_gr hE (by omega)) (by rw [rd_AK_A, nv_congr (grA_lo (by omega)), n6]; exact hb) (by omega) (fun c2 => ?_) (fun c2 => ?_)
          · dsimp only [Option.toList_some, Option.toList_none, List.cons_append, List.nil_append]
            rw [rd_AK_A, geo_fliesN hE (geo_gr _ _ _) (by rw [n6]; exact hb)] at c2
            rw [← grA_skip (A := (endR (rd σ 13 1)).1) (H := (nv (rd σ 13 1) 7 + 1)) (m := k) (fun q => q.2 c2)]
            refine J_if_ne_n hC (by decide) (tgt := 141) dX10_pass_122 rfl (fun _ => ?_) (fun hf => absurd hf (by omega))
            refine J_iinc_n (m := 1) hC (by decide) dX10_pass_141 rfl (Nat.le_of_ble_eq_true rfl) rfl ?_
            dsimp only [List.set]
            refine J_goto (tgt := 81) hC dX10_pass_144 rfl ?_
            exact ih (k + 1) (by omega) (by omega)
          · dsimp only [Option.toList_some, Option.toList_none, List.cons_append, List.nil_append]
            rw [rd_AK_A, geo_fliesN hE (geo_gr _ _ _) (by rw [n6]; exact hb)] at c2
            refine J_if_ne_n hC (by decide) (tgt := 141) dX10_pass_122 rfl (fun hf => absurd hf (by omega)) (fun _ => ?_)
            refine J_aload_n hC dX10_pass_125 rfl rfl ?_
            refine gX10_7 hC hM dX10_pass_126 ?_
            refine J_bipush (v := nI 70) hC dX10_pass_129 (by decide) ?_
            refine J_bipush (v := nI 9) hC dX10_pass_131 (by decide) ?_
            refine J_iload_n hC dX10_pass_133 rfl rfl ?_
            refine J_imul_n hC dX10_pass_134 ?_
            refine J_iadd_n hC dX10_pass_135 ?_
            refine J_bipush (v := nI 6) hC dX10_pass_136 (by decide) ?_
            refine J_iadd_n hC dX10_pass_138 ?_
            refine J_iconst (v := nI 0) hC dX10_pass_139 (by decide) ?_
            refine J_iastore hC (hM.1 1 (by decide)) rfl rfl (by omega) (by decide) dX10_pass_140 ?_
            rw [wr_AK_A, grA_hit c1 c2]
            refine J_iinc_n (m := 1) hC (by decide) dX10_pass_141 rfl (Nat.le_of_ble_eq_true rfl) rfl ?_
            dsimp only [List.set]
            refine J_goto (tgt := 81) hC dX10_pass_144 rfl ?_
            exact ih (k + 1) (by omega) (by omega)
  have j79 :  J G E w 0 0 79 [some (.ref (w.2.1 13 0)), some (.int (nI 0)), none, none, none] [] (setAK σ (endR (rd σ 13 1)).1 (rd σ 13 8)) := by
    refine J_iconst (v := nI 0) hC dX10_pass_79 (by decide) ?_
    refine J_istore_n hC dX10_pass_80 rfl (Nat.le_of_ble_eq_true rfl) rfl ?_
    dsimp only [List.set]
    exact J_cong (lp2 17 0 (by omega) (by omega)) (h4 := by rw [grA_0, clrK_0])
  have lp1 : ∀ (dd : Nat) (A : Nat → Int32) (i mm : Nat), nv A 11 - i < dd → (i ≤ nv A 11) → (RowOK (hm + 1) A) → (A 7 = nI (nv (rd σ 13 1) 7 + 1)) → (rmF (fun _ s d => ¬ (nI (nv (rd σ 13 1) 7 + 1) < s + d)) dd A i mm = endR (rd σ 13 1)) →  J G E w 0 0 15 [some (.ref (w.2.1 13 0)), some (.int (nI 0)), some (.int (nI i)), none, none] [] (setAK σ A (rd σ 13 8)) := by
    intro dd
    induction dd with
    | zero =>
      intro A i mm hdd
      exact absurd hdd (Nat.not_lt_zero _)
    | succ dd ih =>
      intro A i mm hdd hi hA hA7 hF
      unfold rmF at hF
      have h9 := r_NP hA
      refine J_iload_n hC dX10_pass_15 rfl rfl ?_
      refine J_aload_n hC dX10_pass_16 rfl rfl ?_
      refine gX10_7 hC hM dX10_pass_17 ?_
      refine J_bipush (v := nI 11) hC dX10_pass_20 (by decide) ?_
      refine J_iaload hC (hM.1 1 (by decide)) rfl rfl (by omega) (by decide) dX10_pass_22 ?_
      refine J_top (show _ = nI (nv A 11) from by rw [rd_AK_A]; exact (r_NP hA).1) ?_
      refine J_icmp_ge_n hC (by omega) (by omega) (tgt := 79) dX10_pass_23 rfl (fun hb => ?_) (fun hb => ?_)
      · rw [if_neg (by omega)] at hF
        have e : A = (endR (rd σ 13 1)).1 := by rw [show endR (rd σ 13 1) = (A, mm) from hF.symm]
        subst e
        refine J_less (ls' := [some (.ref (w.2.1 13 0)), some (.int (nI 0)), none, none, none]) ⟨Or.inr rfl, Or.inr rfl, Or.inl rfl, Or.inr rfl, Or.inr rfl, trivial⟩ ?_
        exact j79
      · rw [if_pos hb] at hF
        refine J_aload_n hC dX10_pass_26 rfl rfl ?_
        refine gX10_7 hC hM dX10_pass_27 ?_
        refine J_sipush (v := nI 214) hC dX10_pass_30 (by decide) ?_
        refine J_iconst (v := nI 3) hC dX10_pass_33 (by decide) ?_
        refine J_iload_n hC dX10_pass_34 rfl rfl ?_
        refine J_imul_n hC dX10_pass_35 ?_
        refine J_iadd_n hC dX10_pass_36 ?_
        refine J_iconst (v := nI 1) hC dX10_pass_37 (by decide) ?_
        refine J_iadd_n hC dX10_pass_38 ?_
        refine J_iaload hC (hM.1 1 (by decide)) rfl rfl (by omega) (by decide) dX10_pass_39 ?_
        refine J_top (show _ = A (214 + 3 * i + 1) from by rw [rd_AK_A]) ?_
        refine J_aload_n hC dX10_pass_40 rfl rfl ?_
        refine gX10_7 hC hM dX10_pass_41 ?_
        refine J_sipush (v := nI 214) hC dX10_pass_44 (by decide) ?_
        refine J_iconst (v := nI 3) hC dX10_pass_47 (by decide) ?_
        refine J_iload_n hC dX10_pass_48 rfl rfl ?_
        refine J_imul_n hC dX10_pass_49 ?_
        refine J_iadd_n hC dX10_pass_50 ?_
        refine J_iconst (v := nI 2) hC dX10_pass_51 (by decide) ?_
        refine J_iadd_n hC dX10_pass_52 ?_
        refine J_iaload hC (hM.1 1 (by decide)) rfl rfl (by omega) (by decide) dX10_pass_53 ?_
        refine J_top (show _ = A (214 + 3 * i + 2) from by rw [rd_AK_A]) ?_
        refine J_iadd hC dX10_pass_54 ?_
        refine J_aload_n hC dX10_pass_55 rfl rfl ?_
        refine gX10_7 hC hM dX10_pass_56 ?_
        refine J_bipush (v := nI 7) hC dX10_pass_59 (by decide) ?_
        refine J_iaload hC (hM.1 1 (by decide)) rfl rfl (by omega) (by decide) dX10_pass_61 ?_
        refine J_top (show _ = nI (nv (rd σ 13 1) 7 + 1) from by rw [rd_AK_A]; exact hA7) ?_
        refine J_icmp_gt hC (tgt := 73) dX10_pass_62 rfl (fun hk => ?_) (fun hk => ?_)
        · rw [if_neg (fun q => q hk)] at hF
          refine J_iinc_n (m := 1) hC (by decide) dX10_pass_73 rfl (Nat.le_of_ble_eq_true rfl) rfl ?_
          dsimp only [List.set]
          refine J_goto (tgt := 15) hC dX10_pass_76 rfl ?_
          first
          | exact ih (removeA A i) i (mm + 1) (by rw [nv_remove h9.2]; omega) (by rw [nv_remove h9.2]; omega) (RowOK_remove hA hb) ((removeA_lo (by omega) (by omega)).trans hA7) hF
          | exact ih A (i + 1) mm (by omega) (by omega) hA hA7 hF
        · rw [if_pos hk] at hF
          refine J_aload_n hC dX10_pass_65 rfl rfl ?_
          refine J_iload_n hC dX10_pass_66 rfl rfl ?_
          refine iX10_156 hC hM rfl ⟨by decide, by decide⟩ ⟨by decide, by decide⟩ (Nat.le_of_ble_eq_true rfl) dX10_pass_67 ?_
          refine c_X10_remove hM (by rw [rd_AK_A]; exact hA) (by rw [rd_AK_A]; exact hb) ?_
          dsimp only [Option.toList_some, Option.toList_none, List.cons_append, List.nil_append]
          rw [rd_AK_A, setA_AK]
          refine J_goto (tgt := 15) hC dX10_pass_70 rfl ?_
          first
          | exact ih (removeA A i) i (mm + 1) (by rw [nv_remove h9.2]; omega) (by rw [nv_remove h9.2]; omega) (RowOK_remove hA hb) ((removeA_lo (by omega) (by omega)).trans hA7) hF
          | exact ih A (i + 1) mm (by omega) (by omega) hA hA7 hF
  refine J_cong (σ' := setAK σ (rd σ 13 1) (rd σ 13 8)) ?_ (h4 := AK_id.symm)
  refine J_iconst (v := nI 0) hC dX10_pass_0 (by decide) ?_
  refine J_istore_n hC dX10_pass_1 rfl (Nat.le_of_ble_eq_true rfl) rfl ?_
  dsimp only [List.set]
  refine J_iconst (v := nI 0) hC dX10_pass_2 (by decide) ?_
  refine J_istore_n hC dX10_pass_3 rfl (Nat.le_of_ble_eq_true rfl) rfl ?_
  dsimp only [List.set]
  refine J_aload_n hC dX10_pass_4 rfl rfl ?_
  refine gX10_7 hC hM dX10_pass_5 ?_
  refine J_bipush (v := nI 7) hC dX10_pass_8 (by decide) ?_
  refine J_dup2 hC dX10_pass_10 rfl rfl ?_
  refine J_iaload hC (hM.1 1 (by decide)) rfl rfl (by omega) (by decide) dX10_pass_11 ?_
  refine J_top (show _ = nI (nv (rd σ 13 1) 7) from by rw [rd_AK_A]; exact h3.1) ?_
  refine J_iconst (v := nI 1) hC dX10_pass_12 (by decide) ?_
  refine J_iadd_n hC dX10_pass_13 ?_
  refine J_iastore hC (hM.1 1 (by decide)) rfl rfl (by omega) (by decide) dX10_pass_14 ?_
  rw [wr_AK_A]
  exact lp1 40 (upd (rd σ 13 1) 7 (nI (nv (rd σ 13 1) 7 + 1))) 0 0 (by rw [nv_n (by omega)]; omega) (by omega) (RowOK_hour hI (by omega) (by omega)) upd_s rfl
set_option maxHeartbeats 4000000 in
set_option maxRecDepth 100000 in
theorem c_X10_passed {G : GC} {w : Lay} {σ : Mem} {Q : Lay → Option Value → Mem → Prop} {Qx : Lay → String → Mem → Prop} {hm : Nat} (hM : LM w) (hI : RowOK hm (rd σ 13 1)) {h : Nat} (hh : hm + h < 2000000) (hq : Q w (some (.int (nI (passed h ((rd σ 13 1), (rd σ 13 8), 0)).2.2))) (setAK σ (passed h ((rd σ 13 1), (rd σ 13 8), 0)).1 (passed h ((rd σ 13 1), (rd σ 13 8), 0)).2.1)) : MX10_passed G w σ [.ref (w.2.1 13 0), .int (nI h)] Q Qx := by
  refine mt_start (by decide) rfl (Nat.le_of_ble_eq_true rfl) (fun E hC hR hN => ?_)
  show J G E w 0 0 0 [some (.ref (w.2.1 13 0)), some (.int (nI h)), none, none] [] σ
  have lp : ∀ (dd : Nat) (i : Nat), h - i < dd → (i ≤ h) → (RowOK (hm + i) (passed i ((rd σ 13 1), (rd σ 13 8), 0)).1) →  J G E w 0 0 4 [some (.ref (w.2.1 13 0)), some (.int (nI h)), some (.int (nI (passed i ((rd σ 13 1), (rd σ 13 8), 0)).2.2)), some (.int (nI i))] [] (setAK σ (passed i ((rd σ 13 1), (rd σ 13 8), 0)).1 (passed i ((rd σ 13 1), (rd σ 13 8), 0)).2.1) := by
    intro dd
    induction dd with
    | zero =>
      intro i hdd
      exact absurd hdd (Nat.not_lt_zero _)
    | succ dd ih =>
      intro i hdd hi hr
      refine J_iload_n hC dX10_passed_4 rfl rfl ?_
      refine J_iload_n hC dX10_passed_5 rfl rfl ?_
      refine J_icmp_ge_n hC (by omega) (by omega) (tgt := 22) dX10_passed_6 rfl (fun hb => ?_) (fun hb => ?_)
      · refine J_iload_n hC dX10_passed_22 rfl rfl ?_
        refine J_ireturn hC hR dX10_passed_23 (by decide) (by decide) ?_
        have e : i = h := by omega
        subst e
        exact hq
      · refine J_iload_n hC dX10_passed_9 rfl rfl ?_
        refine J_aload_n hC dX10_passed_10 rfl rfl ?_
        refine iX10_168 hC hM rfl ⟨by decide, by decide⟩ ⟨by decide, by decide⟩ (Nat.le_of_ble_eq_true rfl) dX10_passed_11 ?_
        refine c_X10_pass hM (by rw [rd_AK_A]; exact hr) (by omega) ?_
        dsimp only [Option.toList_some, Option.toList_none, List.cons_append, List.nil_append]
        rw [rd_AK_A, rd_AK_K, AK_AK]
        refine J_iadd_n hC dX10_passed_14 ?_
        refine J_istore_n hC dX10_passed_15 rfl (Nat.le_of_ble_eq_true rfl) rfl ?_
        dsimp only [List.set]
        refine J_iinc_n (m := 1) hC (by decide) dX10_passed_16 rfl (Nat.le_of_ble_eq_true rfl) rfl ?_
        dsimp only [List.set]
        refine J_goto (tgt := 4) hC dX10_passed_19 rfl ?_
        exact ih (i + 1) (by omega) (by omega) (show RowOK (hm + i + 1) _ from passR_ok hr (by omega))
  refine J_iconst (v := nI 0) hC dX10_passed_0 (by decide) ?_
  refine J_istore_n hC dX10_passed_1 rfl (Nat.le_of_ble_eq_true rfl) rfl ?_
  dsimp only [List.set]
  refine J_iconst (v := nI 0) hC dX10_passed_2 (by decide) ?_
  refine J_istore_n hC dX10_passed_3 rfl (Nat.le_of_ble_eq_true rfl) rfl ?_
  dsimp only [List.set]
  exact J_cong (lp (h + 1) 0 (by omega) (by omega) hI) (h4 := AK_id.symm)
