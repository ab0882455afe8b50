/-! ===== the other pairs: texts, undo, snapshots, forecasts, scripts ===== -/
theorem REL_mk {hm hm' : Nat} {σ σ' : Mem} {f u : Nat} (h : REL hm σ f u) (hb : hm ≤ hm') (e0 : ∀ c, rd σ' 0 c = rd σ 0 c) (eo : ∀ o, 2 ≤ o → o < 12 → ∀ c, rd σ' o c = rd σ o c) (z1 : ∀ k, k < 16 → rd σ' 1 21 k = 0) (k1 : ∀ c, c < 5 → ∀ j, rd σ' 12 c j = rd σ 12 c j)
    (m1 : ∀ j, j < 304 → rd σ' 13 1 j = rd σ 13 1 j) (m2 : ∀ r j, r < 10 → j < 304 → rowOf σ' r j = rowOf σ r j) (m3 : ∀ j, rd σ' 13 3 j = rd σ 13 3 j) (m03 : rd σ' 13 0 3 = rd σ 13 0 3) (m04 : rd σ' 13 0 4 = rd σ 13 0 4) (hT : TxtR σ') (hE9 : ErrR σ') (hO9 : OutR σ') : REL hm' σ' f u := by
  obtain ⟨h1, h2, h3, -, -, -⟩ := h
  exact ⟨CurR_of (RowOK_mono h1.1 hb) (OAt_fr (o := 0) e0 h1.2.1) m1 (by rw [e0]; exact h1.2.2.1) z1, HisR_fr h2 hb m03 m04 (k1 1 (by decide) 1) (k1 1 (by decide) 2) (fun r hr c => eo _ (by omega) (by omega) c) (fun r j hr hj => m2 r j (by omega) hj), SnpR_fr h3 hb (fun s _ => k1 4 (by decide) s) (fun s _ => m3 s) (fun s hs c => eo _ (by omega) (by omega) c) (fun s j hs hj => m2 _ j (by omega) hj), hT, hE9, hO9⟩
theorem TXc_L {σ : Mem} {t : Nat → Nat} {L : Nat} (h : TXc σ t L) : cl (rd σ 12 5 1) = L := by
  rw [h.2.1, cl_n (by have := h.2.2; omega)]
theorem TX_LL {σ : Mem} {t t' : Nat → Nat} {L L' : Nat} (h : TXc σ t L) (h2 : rd σ 12 5 1 = nI L') (hL : L' ≤ 500) : L' = L := nI_inj (h2.symm.trans h.2.1) (by omega) (by have := h.2.2; omega)
-- append
theorem pc_append {G : GC} {w : Lay} {σ : Mem} {Q : Lay → Option Value → Mem → Prop} {Qx : Lay → String → Mem → Prop} {hm f u : Nat} {a b c d e : Int32} {t : Nat → Nat} {L : Nat} (hW : LAY w) (hR : REL hm σ f u) (hb9 : hm ≤ 800000) (hXc : TXc σ t L) (hXm : TX σ t L) (hq : ∀ τ, LR (fun μ => μ = appC σ L a b c d e) (fun μ => μ = σ) (aAp L) τ → Q w (some (.int (nI (aAp L).1))) τ) : ML_append G w σ [.ref (w.2.1 12 0), .int a, .int b, .int c, .int d, .int e, .ref (w.2.1 13 9)] Q Qx :=
  c_L_append (a := aAp L) (P := fun μ => μ = appC σ L a b c d e) (PX := fun μ => μ = σ) hW.1 hW.2.1 hW.2.2.2 (fun Q1 Qx1 h0 h1 => c_X9_append hW.1 (hL := hXc.2.1) (hL5 := hXc.2.2) (hq := fun g => h0 g _ rfl) (hx1 := fun g => h1 g _ rfl)) hq
theorem pr_append {G : GC} {w : Lay} {σ τ : Mem} {Q : Lay → Option Value → Mem → Prop} {Qx : Lay → String → Mem → Prop} {hm f u : Nat} {a b c d e : Int32} {t : Nat → Nat} {L : Nat} (hW : LAY w) (hR : REL hm σ f u) (hb9 : hm ≤ 800000) (hXc : TXc σ t L) (hXm : TX σ t L) (hL : LR (fun μ => μ = appC σ L a b c d e) (fun μ => μ = σ) (aAp L) τ) (hq : ∀ b τ2, PAR (hm + 960) (aAp L) b τ2 → Q w (some (.int b)) τ2) : MX10_append G w τ [.ref (w.2.1 13 0), .int a, .int b, .int c, .int d, .int e] Q Qx := by
  have e13 := LR_13 hL (fun s hs i => funext fun j => by rw [hs, appC_fr (by omega)])
  refine c_X10_append hW.2.1 (L := L) ((congrFun (e13 0) 6).trans hXm.2.1) hXc.2.2 (fun g => ?_) (fun i hi g => ?_)
  · obtain ⟨σ1, h1, rfl⟩ := LR_0 hL g
    cases h1
    have hl : L + 20 ≤ 500 := (chk_0 (c := 1) (by decide) g).1
    have em : ∀ x i j, ¬ (x = 13 ∧ (i = 4 ∨ i = 0 ∧ (j = 6 ∨ j = 9))) → ¬ (x = 12 ∧ (i = 6 ∨ i = 5 ∧ j = 1)) → rd (appM (thr (wrL (appC σ L a b c d e) 1 (aAp L).2.toInt64) 0) L a b c d e) x i j = rd σ x i j := fun x i j h1 h2 => by
      rw [appM_fr (by omega)]
      unfold thr
      rw [rd_wr, if_neg (by omega)]
      exact appC_fr (by omega)
    have e12 : ∀ i j, rd (appM (thr (wrL (appC σ L a b c d e) 1 (aAp L).2.toInt64) 0) L a b c d e) 12 i j = rd (appC σ L a b c d e) 12 i j := fun i j => by
      rw [appM_fr (by omega)]
      unfold thr
      rw [rd_wr, if_neg (by omega)]
      rfl
    have hXt : TX (thr (wrL (appC σ L a b c d e) 1 (aAp L).2.toInt64) 0) t L := by
      have e4 : ∀ i j, ¬ (i = 0 ∧ j = 9) → rd (thr (wrL (appC σ L a b c d e) 1 (aAp L).2.toInt64) 0) 13 i j = rd σ 13 i j := fun i j h => by
        unfold thr
        rw [rd_wr, if_neg (by omega)]
        show rd (appC σ L a b c d e) 13 i j = _
        exact appC_fr (fun q => absurd q.1 (by decide))
      exact ⟨fun j hj => ⟨(hXm.1 j hj).1, (e4 4 j (by omega)).trans (hXm.1 j hj).2⟩, (e4 0 6 (by omega)).trans hXm.2.1, hXm.2.2⟩
    have hX2 := TXc_app (a := a) (b := b) (c := c) (d := d) (e := e) hXc hl
    refine hq _ _ ⟨?_, by omega, fun _ => ⟨rfl, ?_⟩, f, u, REL_mk hR (by omega) (fun i => funext fun j => em 0 i j (by omega) (by omega)) (fun o h2 h12 i => funext fun j => em o i j (by omega) (by omega)) (fun k hk => (em 1 21 k (by omega) (by omega)).trans (hR.1.2.2.2 k hk)) (fun i hi j => em 12 i j (by omega) (by omega)) (fun j _ => em 13 1 j (by omega) (by omega)) (fun r j _ _ => em 13 2 _ (by omega) (by omega)) (fun j => em 13 3 j (by omega) (by omega)) (em 13 0 3 (by omega) (by omega)) (em 13 0 4 (by omega) (by omega)) ⟨_, L + 20, ⟨fun j hj => ⟨(hX2.1 j hj).1, (e12 6 j).trans (hX2.1 j hj).2⟩, (e12 5 1).trans hX2.2.1, hX2.2.2⟩, TX_app hXt hl⟩ ⟨(em 12 5 2 (by omega) (by omega)).trans (hR.2.2.2.2.1.1.trans (em 13 0 7 (by omega) (by omega)).symm), (em 12 5 3 (by omega) (by omega)).trans (hR.2.2.2.2.1.2.trans (em 13 0 8 (by omega) (by omega)).symm)⟩ (OutR_fr hR.2.2.2.2.2 (em 12 12 1 (by omega) (by omega)) (fun j => em 12 13 j (by omega) (by omega)) (fun j => em 13 5 j (by omega) (by omega)) (em 13 0 11 (by omega) (by omega)))⟩
    · rw [appM_fr (by omega), g]; exact rd_wr_s
    · show rdL (wrL (appC σ L a b c d e) 1 (aAp L).2.toInt64) 1 = _
      rw [rdL_wrL, if_pos rfl]
  · obtain ⟨h0, h1⟩ := LR_x hL (by rw [g]; exact hi)
    cases h1
    exact hq _ _ (PR_x hR (by omega) h0 g)
-- truncate
theorem pc_truncate {G : GC} {w : Lay} {σ : Mem} {Q : Lay → Option Value → Mem → Prop} {Qx : Lay → String → Mem → Prop} {hm f u : Nat} {s : Int32} {t : Nat → Nat} {L : Nat} (hW : LAY w) (hR : REL hm σ f u) (hb9 : hm ≤ 800000) (hXc : TXc σ t L) (hXm : TX σ t L) (hq : ∀ τ, LR (fun μ => μ = wr σ 12 5 1 s) (fun μ => μ = σ) (aTr L s) τ → Q w (some (.int (nI (aTr L s).1))) τ) : ML_truncate G w σ [.ref (w.2.1 12 0), .int s, .ref (w.2.1 13 9)] Q Qx :=
  c_L_truncate (a := aTr L s) (P := fun μ => μ = wr σ 12 5 1 s) (PX := fun μ => μ = σ) hW.1 hW.2.1 hW.2.2.2 (fun Q1 Qx1 h0 h1 => c_X9_truncate hW.1 (hL := hXc.2.1) (hL5 := hXc.2.2) (hq := fun g => h0 g _ rfl) (hx1 := fun g => h1 g _ rfl)) hq
theorem pr_truncate {G : GC} {w : Lay} {σ τ : Mem} {Q : Lay → Option Value → Mem → Prop} {Qx : Lay → String → Mem → Prop} {hm f u : Nat} {s : Int32} {t : Nat → Nat} {L : Nat} (hW : LAY w) (hR : REL hm σ f u) (hb9 : hm ≤ 800000) (hXc : TXc σ t L) (hXm : TX σ t L) (hL : LR (fun μ => μ = wr σ 12 5 1 s) (fun μ => μ = σ) (aTr L s) τ) (hq : ∀ b τ2, PAR (hm + 960) (aTr L s) b τ2 → Q w (some (.int b)) τ2) : MX10_truncate G w τ [.ref (w.2.1 13 0), .int s] Q Qx := by
  have e13 := LR_13 hL (fun μ hs i => funext fun j => by rw [hs, rd_wr_o (by decide)])
  refine c_X10_truncate hW.2.1 (L := L) ((congrFun (e13 0) 6).trans hXm.2.1) hXc.2.2 (fun g => ?_) (fun i hi g => ?_)
  · obtain ⟨σ1, h1, rfl⟩ := LR_0 hL g
    cases h1
    obtain ⟨k, rfl, -, hk⟩ := (chk_0 (c := 1) (by decide) g).1
    have em : ∀ x i j, ¬ (x = 13 ∧ (i = 0 ∧ (j = 6 ∨ j = 9))) → ¬ (x = 12 ∧ (i = 5 ∧ j = 1)) → rd (wr (thr (wrL (wr σ 12 5 1 (nI k)) 1 (aTr L (nI k)).2.toInt64) 0) 13 0 6 (nI k)) x i j = rd σ x i j := fun x i j h1 h2 => by
      unfold thr
      rw [rd_wr, if_neg (by omega), rd_wr, if_neg (by omega)]
      show rd (wr σ 12 5 1 (nI k)) x i j = _
      rw [rd_wr, if_neg (by omega)]
    refine hq _ _ ⟨?_, by omega, fun _ => ⟨rfl, ?_⟩, f, u, REL_mk hR (by omega) (fun i => funext fun j => em 0 i j (by omega) (by omega)) (fun o h2 h12 i => funext fun j => em o i j (by omega) (by omega)) (fun k hk => (em 1 21 k (by omega) (by omega)).trans (hR.1.2.2.2 k hk)) (fun i hi j => em 12 i j (by omega) (by omega)) (fun j _ => em 13 1 j (by omega) (by omega)) (fun r j _ _ => em 13 2 _ (by omega) (by omega)) (fun j => em 13 3 j (by omega) (by omega)) (em 13 0 3 (by omega) (by omega)) (em 13 0 4 (by omega) (by omega)) ⟨t, k, ⟨fun j hj => ⟨(hXc.1 j (by omega)).1, (em 12 6 j (by omega) (by omega)).trans (hXc.1 j (by omega)).2⟩, ?_, by have := hXc.2.2; omega⟩, ⟨fun j hj => ⟨(hXm.1 j (by omega)).1, (em 13 4 j (by omega) (by omega)).trans (hXm.1 j (by omega)).2⟩, rd_wr_s, by have := hXc.2.2; omega⟩⟩ ⟨(em 12 5 2 (by omega) (by omega)).trans (hR.2.2.2.2.1.1.trans (em 13 0 7 (by omega) (by omega)).symm), (em 12 5 3 (by omega) (by omega)).trans (hR.2.2.2.2.1.2.trans (em 13 0 8 (by omega) (by omega)).symm)⟩ (OutR_fr hR.2.2.2.2.2 (em 12 12 1 (by omega) (by omega)) (fun j => em 12 13 j (by omega) (by omega)) (fun j => em 13 5 j (by omega) (by omega)) (em 13 0 11 (by omega) (by omega)))⟩
    · rw [g, rd_wr_j (by decide)]; exact rd_wr_s
    · show rdL (wrL (wr σ 12 5 1 (nI k)) 1 (aTr L (nI k)).2.toInt64) 1 = _
      rw [rdL_wrL, if_pos rfl]
    · rw [rd_wr_o (by decide)]
      unfold thr
      rw [rd_wr_o (by decide)]
      show rd (wr σ 12 5 1 (nI k)) 12 5 1 = _
      exact rd_wr_s
  · obtain ⟨h0, h1⟩ := LR_x hL (by rw [g]; exact hi)
    cases h1
    exact hq _ _ (PR_x hR (by omega) h0 g)
-- loading and running
noncomputable def lsA (t : Nat → Nat) (L : Nat) (A : Rw) : Nat × Int32 := match pSetup t L (clr0 A) with
  | .inl _ => (1, 0)
  | .inr B => (0, nI (nv B 6))
noncomputable def rsA (t : Nat → Nat) (L : Nat) (A K : Rw) : Nat × Int32 := match pScript t L 21 (fun _ => (0, 0, 0, 0)) 0 0 with
  | .inl _ => (1, 0)
  | .inr r => (0, nI (exN r.1 r.2 20 (A, K) 0).2)
def LDok (σ : Mem) (f u : Nat) (B : Rw) (μ : Mem) : Prop := ∃ σb, TXr σ σb 0 (-1) ∧ ChR σb μ ((f + u) % 8) u B
theorem TXr_13 {σ μ : Mem} {c : Nat} {p : Int32} (h : TXr σ μ c p) (i : Nat) : rd μ 13 i = rd σ 13 i := funext fun j => h.1.1 13 i j (by omega) (by omega) (by omega)
theorem LDok_13 {σ μ : Mem} {f u : Nat} {B : Rw} (h : LDok σ f u B μ) (i : Nat) : rd μ 13 i = rd σ 13 i := by
  obtain ⟨σb, h1, h2⟩ := h
  exact (ChR_13 (Nat.mod_lt _ (by decide)) h2 i).trans (TXr_13 h1 i)
theorem LD_ok {hm hm' : Nat} {σ σ1 σ2 : Mem} {f u : Nat} {a : Nat × Int32} {v : Int64} {B : Rw} (hR : REL hm σ f u) (hb : hm ≤ hm') (hB : RowOK hm' B) (h0 : a.1 = 0) (hv : v = a.2.toInt64) (hD : LDok σ f u B σ1) (h2 : LSok (wrL σ1 1 v) σ2 B f u) : PAR hm' a a.2 σ2 := by
  obtain ⟨σb, h3, h4⟩ := hD
  obtain ⟨g1, g2, g3, g4, g6, g7, g8, g9, gK⟩ := h2
  have hx8 : (f + u) % 8 < 8 := Nat.mod_lt _ (by decide)
  have k5 : ∀ j, rd σ2 12 5 j = rd σb 12 5 j := fun j => by
    rw [gK.1 12 5 j (by omega)]
    obtain ⟨τ0, hH, hF, -⟩ := h4
    exact congrFun ((hF.1 12 5 (by omega)).trans (hH.1 12 5 (by omega) (by omega))) j
  refine ⟨by rw [g9, h0], by omega, fun _ => ⟨rfl, ?_⟩, _, _, REL_ch (τ := σ1) hR hb hB h3.1 h4 ⟨g1, g2, g3, g4, fun x c j h => gK.1 x c j h, fun c j h5 h6 h7 => ?_, gK.2.2.2.1⟩ (TxtR_0 ((k5 1).trans h3.2.1) g6) ⟨by rw [k5 2, h3.2.2.1, g7], by rw [k5 3, h3.2.2.2, g8]⟩⟩
  · rw [gK.2.2.2.2 1 (by omega), rdL_wrL, if_pos rfl, hv]
  · have hc : c = 3 ∨ c = 5 := by omega
    rcases hc with rfl | rfl
    · exact gK.2.1 j
    · exact gK.2.2.1 j
theorem LD_no {hm hm' : Nat} {σ σ1 σ2 : Mem} {f u : Nat} {a : Nat × Int32} {b : Int32} {e : Nat × Nat} (hR : REL hm σ f u) (hb : hm ≤ hm') (h0 : a.1 = 1) (h3 : TXr σ σ1 e.1 (nI e.2)) (h2 : LSno σ1 σ2 e f u) : PAR hm' a b σ2 := by
  obtain ⟨g1, g2, g4, g6, g7, g8, g9, gK⟩ := h2
  have e12 : ∀ o c j, o ≠ 13 → o ≠ 1 → ¬ (o = 12 ∧ c = 5) → ¬ (o = 12 ∧ 7 ≤ c ∧ c ≤ 11) → rd σ2 o c j = rd σ o c j := fun o c j h5 h6 h7 h8 => (gK.1 o c j h5).trans (h3.1.1 o c j (by omega) (by omega) (by omega))
  have t13 := TXr_13 h3
  have k5 : ∀ j, rd σ2 12 5 j = rd σ1 12 5 j := fun j => gK.1 12 5 j (by omega)
  refine ⟨by rw [g9, h0], by omega, fun q => by omega, f, u, REL_mk hR hb (fun i => funext fun j => e12 0 i j (by omega) (by omega) (by omega) (by omega)) (fun o h5 h6 i => funext fun j => e12 o i j (by omega) (by omega) (by omega) (by omega)) (fun k hk => ?_) (fun i hi j => e12 12 i j (by omega) (by omega) (by omega) (by omega)) (fun j hj => (g1 j hj).trans (congrFun (t13 1) j)) (fun r j hr hj => (g4 r j hr hj).trans (congrFun (t13 2) _)) (fun j => (gK.2.1 j).trans (congrFun (t13 3) j)) ?_ ?_ (TxtR_0 ((k5 1).trans h3.2.1) g6) ⟨by rw [k5 2, h3.2.2.1, g7], by rw [k5 3, h3.2.2.2, g8]⟩ (OutR_fr hR.2.2.2.2.2 (e12 12 12 1 (by omega) (by omega) (by omega) (by omega)) (fun j => e12 12 13 j (by omega) (by omega) (by omega) (by omega)) (fun j => (gK.2.2.1 j).trans (congrFun (t13 5) j)) (gK.2.2.2.1.trans (congrFun (t13 0) 11)))⟩
  · rw [gK.1 1 21 k (by omega), h3.1.1 1 21 k (by omega) (by omega) (by omega)]
    exact hR.1.2.2.2 k hk
  · rw [g2.1, hR.2.1.1.1]
  · rw [g2.2.1, hR.2.1.1.2.1]
theorem pc_loadSetup {G : GC} {w : Lay} {σ : Mem} {Q : Lay → Option Value → Mem → Prop} {Qx : Lay → String → Mem → Prop} {hm f u : Nat} {t : Nat → Nat} {L : Nat} (hW : LAY w) (hR : REL hm σ f u) (hb9 : hm ≤ 800000) (hXc : TXc σ t L) (hXm : TX σ t L) (hq : ∀ τ, LR (fun μ => ∃ B, pSetup t L (clr0 (rd σ 13 1)) = .inr B ∧ RowOK 0 B ∧ LDok σ f u B μ) (fun μ => ∃ e, pSetup t L (clr0 (rd σ 13 1)) = .inl e ∧ TXr σ μ e.1 (nI e.2)) (lsA t L (rd σ 13 1)) τ → Q w (some (.int (nI (lsA t L (rd σ 13 1)).1))) τ) : ML_loadSetup G w σ [.ref (w.2.1 12 0), .ref (w.2.1 13 9)] Q Qx := by
  have hx8 : (f + u) % 8 < 8 := Nat.mod_lt _ (by decide)
  refine c_L_loadSetup (a := lsA t L (rd σ 13 1)) (P := fun μ => ∃ B, pSetup t L (clr0 (rd σ 13 1)) = .inr B ∧ RowOK 0 B ∧ LDok σ f u B μ) (PX := fun μ => ∃ e, pSetup t L (clr0 (rd σ 13 1)) = .inl e ∧ TXr σ μ e.1 (nI e.2)) hW.1 hW.2.1 hW.2.2.2 (fun Q1 Qx1 h0 h1 => ?_) hq
  refine c_X9_loadSetup hW.1 (hW.2.2.1 0 (by decide)) hR.1.2.1 hR.1.1 (hW.2.2.1 1 (by decide)) (A0 := clr0 (rd σ 13 1)) (fun j hj => if_pos hj) (hW.2.2.1 _ (by omega)) hx8 hR.2.1.1.2.2.2 hR.2.1.2.1 hR.2.1.2.2.1 hXc (hok := fun σ' B hp hB hC9 => ?_) (hx := fun σ' e hp hT => ?_)
  · have e : lsA t L (rd σ 13 1) = (0, nI (nv B 6)) := by unfold lsA; rw [hp]
    rw [e] at h0
    exact h0 rfl σ' ⟨B, hp, hB, hC9⟩
  · have e9 : lsA t L (rd σ 13 1) = (1, 0) := by unfold lsA; rw [hp]
    rw [e9] at h1
    exact h1 rfl σ' ⟨e, hp, hT⟩
theorem pr_loadSetup {G : GC} {w : Lay} {σ τ : Mem} {Q : Lay → Option Value → Mem → Prop} {Qx : Lay → String → Mem → Prop} {hm f u : Nat} {t : Nat → Nat} {L : Nat} (hW : LAY w) (hR : REL hm σ f u) (hb9 : hm ≤ 800000) (hXc : TXc σ t L) (hXm : TX σ t L) (hL : LR (fun μ => ∃ B, pSetup t L (clr0 (rd σ 13 1)) = .inr B ∧ RowOK 0 B ∧ LDok σ f u B μ) (fun μ => ∃ e, pSetup t L (clr0 (rd σ 13 1)) = .inl e ∧ TXr σ μ e.1 (nI e.2)) (lsA t L (rd σ 13 1)) τ) (hq : ∀ b τ2, PAR (hm + 960) (lsA t L (rd σ 13 1)) b τ2 → Q w (some (.int b)) τ2) : MX10_loadSetup G w τ [.ref (w.2.1 13 0)] Q Qx := by
  have e13 : ∀ c, rd τ 13 c = rd σ 13 c := fun c => by
    rcases hL with ⟨-, σ1, ⟨B, -, -, h1⟩, rfl⟩ | ⟨-, e, -, h1⟩
    · exact LDok_13 h1 c
    · exact TXr_13 h1 c
  have hXt : TX τ t L := ⟨fun j hj => ⟨(hXm.1 j hj).1, (congrFun (e13 4) j).trans (hXm.1 j hj).2⟩, (congrFun (e13 0) 6).trans hXm.2.1, hXm.2.2⟩
  have hr : ringOK τ f u := ring_0 hR.2.1.1 (congrFun (e13 0) 3) (congrFun (e13 0) 4)
  refine c_X10_loadSetup hW.2.1 hXt hr (fun σ2 B hp hB h2 => ?_) (fun σ2 e hp h2 => ?_)
  · rw [e13 1] at hp
    have e : lsA t L (rd σ 13 1) = (0, nI (nv B 6)) := by unfold lsA; rw [hp]
    rw [e] at hL hq
    obtain ⟨σ1, ⟨B', hp', -, hD⟩, rfl⟩ := LR_0 hL rfl
    rw [hp] at hp'
    cases hp'
    exact hq _ _ (LD_ok hR (by omega) (RowOK_mono hB (by omega)) rfl rfl hD h2)
  · rw [e13 1] at hp
    have e9 : lsA t L (rd σ 13 1) = (1, 0) := by unfold lsA; rw [hp]
    rw [e9] at hL hq
    obtain ⟨-, e', hp', hT⟩ := LR_x hL (by decide)
    rw [hp] at hp'
    cases hp'
    exact hq _ _ (LD_no hR (by omega) rfl hT h2)
theorem pc_runScript {G : GC} {w : Lay} {σ : Mem} {Q : Lay → Option Value → Mem → Prop} {Qx : Lay → String → Mem → Prop} {hm f u : Nat} {t : Nat → Nat} {L : Nat} (hW : LAY w) (hR : REL hm σ f u) (hb9 : hm ≤ 800000) (hXc : TXc σ t L) (hXm : TX σ t L) (hq : ∀ τ, LR (fun μ => ∃ C n, pScript t L 21 (fun _ => (0, 0, 0, 0)) 0 0 = .inr (C, n) ∧ LDok σ f u (exN C n 20 (rd σ 13 1, rd σ 13 8) 0).1.1 μ) (fun μ => ∃ e, pScript t L 21 (fun _ => (0, 0, 0, 0)) 0 0 = .inl e ∧ TXr σ μ e.1 (nI e.2)) (rsA t L (rd σ 13 1) (rd σ 13 8)) τ → Q w (some (.int (nI (rsA t L (rd σ 13 1) (rd σ 13 8)).1))) τ) : ML_runScript G w σ [.ref (w.2.1 12 0), .ref (w.2.1 13 9)] Q Qx := by
  have hx8 : (f + u) % 8 < 8 := Nat.mod_lt _ (by decide)
  refine c_L_runScript (a := rsA t L (rd σ 13 1) (rd σ 13 8)) (P := fun μ => ∃ C n, pScript t L 21 (fun _ => (0, 0, 0, 0)) 0 0 = .inr (C, n) ∧ LDok σ f u (exN C n 20 (rd σ 13 1, rd σ 13 8) 0).1.1 μ) (PX := fun μ => ∃ e, pScript t L 21 (fun _ => (0, 0, 0, 0)) 0 0 = .inl e ∧ TXr σ μ e.1 (nI e.2)) hW.1 hW.2.1 hW.2.2.2 (fun Q1 Qx1 h0 h1 => ?_) hq
  refine c_X9_runScript hW.1 (hW.2.2.1 0 (by decide)) hR.1.2.1 hR.1.1 hb9 (K := rd σ 13 8) hR.1.2.2.1 (hW.2.2.1 _ (by omega)) hx8 hR.2.1.1.2.2.2 hR.2.1.2.1 hR.2.1.2.2.1 hXc (hok := fun σ' C n hp hC9 => ?_) (hx := fun σ' e hp hT => ?_)
  · have e : rsA t L (rd σ 13 1) (rd σ 13 8) = (0, nI (exN C n 20 (rd σ 13 1, rd σ 13 8) 0).2) := by unfold rsA; rw [hp]
    rw [e] at h0
    exact h0 rfl σ' ⟨C, n, hp, hC9⟩
  · have e9 : rsA t L (rd σ 13 1) (rd σ 13 8) = (1, 0) := by unfold rsA; rw [hp]
    rw [e9] at h1
    exact h1 rfl σ' ⟨e, hp, hT⟩
theorem pr_runScript {G : GC} {w : Lay} {σ τ : Mem} {Q : Lay → Option Value → Mem → Prop} {Qx : Lay → String → Mem → Prop} {hm f u : Nat} {t : Nat → Nat} {L : Nat} (hW : LAY w) (hR : REL hm σ f u) (hb9 : hm ≤ 800000) (hXc : TXc σ t L) (hXm : TX σ t L) (hL : LR (fun μ => ∃ C n, pScript t L 21 (fun _ => (0, 0, 0, 0)) 0 0 = .inr (C, n) ∧ LDok σ f u (exN C n 20 (rd σ 13 1, rd σ 13 8) 0).1.1 μ) (fun μ => ∃ e, pScript t L 21 (fun _ => (0, 0, 0, 0)) 0 0 = .inl e ∧ TXr σ μ e.1 (nI e.2)) (rsA t L (rd σ 13 1) (rd σ 13 8)) τ) (hq : ∀ b τ2, PAR (hm + 960) (rsA t L (rd σ 13 1) (rd σ 13 8)) b τ2 → Q w (some (.int b)) τ2) : MX10_runScript G w τ [.ref (w.2.1 13 0)] Q Qx := by
  have e13 : ∀ c, rd τ 13 c = rd σ 13 c := fun c => by
    rcases hL with ⟨-, σ1, ⟨C, n, -, h1⟩, rfl⟩ | ⟨-, e, -, h1⟩
    · exact LDok_13 h1 c
    · exact TXr_13 h1 c
  have hXt : TX τ t L := ⟨fun j hj => ⟨(hXm.1 j hj).1, (congrFun (e13 4) j).trans (hXm.1 j hj).2⟩, (congrFun (e13 0) 6).trans hXm.2.1, hXm.2.2⟩
  have hr : ringOK τ f u := ring_0 hR.2.1.1 (congrFun (e13 0) 3) (congrFun (e13 0) 4)
  refine c_X10_runScript hW.2.1 (hm := hm) (by rw [e13 1]; exact hR.1.1) hb9 hXt hr (fun σ2 C n hp h2 => ?_) (fun σ2 e hp h2 => ?_)
  · rw [e13 1, e13 8] at h2 ⊢
    have e : rsA t L (rd σ 13 1) (rd σ 13 8) = (0, nI (exN C n 20 (rd σ 13 1, rd σ 13 8) 0).2) := by unfold rsA; rw [hp]
    rw [e] at hL hq
    obtain ⟨σ1, ⟨C', n', hp', hD⟩, rfl⟩ := LR_0 hL rfl
    have hp0 := hp
    rw [hp] at hp'
    cases hp'
    have hc := (pS_ok 21 _ 0 0 C n hp0 (by omega) (fun i hi => absurd hi (Nat.not_lt_zero _))).2
    exact hq _ _ (LD_ok hR (by omega) (RowOK_mono (exN_ok hc 20 hm (rd σ 13 1, rd σ 13 8) 0 hR.1.1 (by omega)) (by omega)) rfl rfl hD h2)
  · have e9 : rsA t L (rd σ 13 1) (rd σ 13 8) = (1, 0) := by unfold rsA; rw [hp]
    rw [e9] at hL hq
    obtain ⟨-, e', hp', hT⟩ := LR_x hL (by decide)
    rw [hp] at hp'
    cases hp'
    exact hq _ _ (LD_no hR (by omega) rfl hT h2)
