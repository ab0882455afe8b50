/-! ===== undo, snapshots, forecasts, the output ===== -/
theorem CP_13 {D : Nat → Nat → Prop} {o p : Nat} {σ σ' : Mem} (h : CP D o p σ σ') (ho : o < 12) (c : Nat) : rd σ' 13 c = rd σ 13 c := h.1 13 c (by omega)
-- undo
theorem pc_undo {G : GC} {w : Lay} {σ : Mem} {Q : Lay → Option Value → Mem → Prop} {Qx : Lay → String → Mem → Prop} {hm f u : Nat} (hW : LAY w) (hR : REL hm σ f u) (hb9 : hm ≤ 800000) (hq : ∀ τ, LR (fun μ => CP DA 0 (2 + ((f + u) % 8 + 7) % 8) (wr (wr σ 12 1 2 (nI (((f + u) % 8 + 7) % 8))) 12 1 1 (nI (u - 1))) μ) (fun μ => μ = σ) (aUn u) τ → Q w (some (.int (nI (aUn u).1))) τ) : ML_undo G w σ [.ref (w.2.1 12 0), .ref (w.2.1 13 9)] Q Qx := by
  have hx8 : (f + u) % 8 < 8 := Nat.mod_lt _ (by decide)
  exact c_L_undo (a := aUn u) (P := fun μ => CP DA 0 (2 + ((f + u) % 8 + 7) % 8) (wr (wr σ 12 1 2 (nI (((f + u) % 8 + 7) % 8))) 12 1 1 (nI (u - 1))) μ) (PX := fun μ => μ = σ) hW.1 hW.2.1 hW.2.2.2 (fun Q1 Qx1 h0 h1 => c_X9_undo hW.1 (hW.2.2.1 0 (by decide)) hR.1.2.1 hR.1.1 (B := rd σ 13 1) (hW.2.2.1 _ (by omega)) hx8 hR.2.1.1.2.2.2 hR.2.1.2.1 hR.2.1.2.2.1 (hq := fun e s hc => h0 e s hc) (hx1 := fun e => h1 e _ rfl)) hq
theorem pr_undo {G : GC} {w : Lay} {σ τ : Mem} {Q : Lay → Option Value → Mem → Prop} {Qx : Lay → String → Mem → Prop} {hm f u : Nat} (hW : LAY w) (hR : REL hm σ f u) (hb9 : hm ≤ 800000) (hL : LR (fun μ => CP DA 0 (2 + ((f + u) % 8 + 7) % 8) (wr (wr σ 12 1 2 (nI (((f + u) % 8 + 7) % 8))) 12 1 1 (nI (u - 1))) μ) (fun μ => μ = σ) (aUn u) τ) (hq : ∀ b τ2, PAR (hm + 960) (aUn u) b τ2 → Q w (some (.int b)) τ2) : MX10_undo G w τ [.ref (w.2.1 13 0)] Q Qx := by
  have e13 := LR_13 hL (fun s hs c => (CP_13 hs (by decide) c).trans ((rd_wr_cell (by omega)).trans (rd_wr_cell (by omega))))
  have hr : ringOK τ f u := ring_0 hR.2.1.1 (congrFun (e13 0) 3) (congrFun (e13 0) 4)
  refine c_X10_undo hW.2.1 (hr0 := hr) (fun g => ?_) (fun i hi g => ?_)
  · obtain ⟨σ1, h1, rfl⟩ := LR_0 hL g
    have hu0 : u ≠ 0 := (chk_0 (c := 1) (by decide) g).1
    obtain ⟨hc, hH, hS, hT, hE9, hO9⟩ := hR
    have hf := hH.1.2.2.1
    have hu := hH.1.2.2.2
    have er : ((f + u) % 8 + 7) % 8 = (f + (u - 1)) % 8 := by omega
    rw [er] at h1
    have h8 : (f + (u - 1)) % 8 < 8 := Nat.mod_lt _ (by decide)
    obtain ⟨c1, c2, c3, c4⟩ := id h1
    have q := hH.2.2.2 (u - 1) (by omega)
    have e1 : ∀ o c, o ≠ 0 → ¬ (o = 12 ∧ c = 1) → rd σ1 o c = rd σ o c := fun o c h2 h3 => (c1 o c h2).trans ((rd_wr_cell (by omega)).trans (rd_wr_cell (by omega)))
    have hO1 : OAt σ1 0 (rowOf σ ((f + (u - 1)) % 8)) := cp_OAt h1 (OAt_fr (o := 0) (fun c => (rd_wr_cell (by omega)).trans (rd_wr_cell (by omega))) q.1) q.2
    -- the reference's end
    have eo : ∀ o c j, o ≠ 13 → rd (takeP (wr (thr (wrL σ1 1 (aUn u).2.toInt64) 0) 13 0 4 (nI (u - 1))) ((f + (u - 1)) % 8) 304) o c j = rd σ1 o c j := fun o c j h => by
      rw [rd_takeP (by omega), rd_wr_o h]
      unfold thr
      rw [rd_wr_o h]
      rfl
    have em : ∀ c j, c ≠ 1 → ¬ (c = 0 ∧ (j = 4 ∨ j = 9)) → rd (takeP (wr (thr (wrL σ1 1 (aUn u).2.toInt64) 0) 13 0 4 (nI (u - 1))) ((f + (u - 1)) % 8) 304) 13 c j = rd σ 13 c j := fun c j h h2 => by
      rw [rd_takeP (by omega), rd_wr, if_neg (by omega)]
      unfold thr
      rw [rd_wr, if_neg (by omega)]
      exact congrFun (e1 13 c (by omega) (by omega)) j
    have e04 : rd (takeP (wr (thr (wrL σ1 1 (aUn u).2.toInt64) 0) 13 0 4 (nI (u - 1))) ((f + (u - 1)) % 8) 304) 13 0 4 = nI (u - 1) := by
      rw [rd_takeP (by omega)]
      exact rd_wr_s
    have ea : ∀ j, j < 304 → rd (takeP (wr (thr (wrL σ1 1 (aUn u).2.toInt64) 0) 13 0 4 (nI (u - 1))) ((f + (u - 1)) % 8) 304) 13 1 j = rowOf σ ((f + (u - 1)) % 8) j := fun j hj => by
      rw [takeP_rd1 hj]
      show rd (wr (thr (wrL σ1 1 (aUn u).2.toInt64) 0) 13 0 4 (nI (u - 1))) 13 2 _ = rd σ 13 2 _
      rw [rd_wr_c (by decide)]
      unfold thr
      rw [rd_wr_c (by decide)]
      exact congrFun (e1 13 2 (by omega) (by omega)) _
    have eF : rd (takeP (wr (thr (wrL σ1 1 (aUn u).2.toInt64) 0) 13 0 4 (nI (u - 1))) ((f + (u - 1)) % 8) 304) 13 0 9 = nI 0 := by
      rw [rd_takeP (by omega), rd_wr_j (by decide)]
      exact rd_wr_s
    have eG : rdL (takeP (wr (thr (wrL σ1 1 (aUn u).2.toInt64) 0) 13 0 4 (nI (u - 1))) ((f + (u - 1)) % 8) 304) 1 = (aUn u).2.toInt64 := by
      show rdL (wrL σ1 1 (aUn u).2.toInt64) 1 = _
      rw [rdL_wrL, if_pos rfl]
    generalize takeP (wr (thr (wrL σ1 1 (aUn u).2.toInt64) 0) 13 0 4 (nI (u - 1))) ((f + (u - 1)) % 8) 304 = σ2 at eo em e04 ea eF eG ⊢
    have ef : ∀ o, o ≠ 13 → ∀ c, rd σ2 o c = rd σ1 o c := fun o h c => funext fun j => eo o c j h
    have et : ∀ o c, o ≠ 13 → o ≠ 0 → ¬ (o = 12 ∧ c = 1) → rd σ2 o c = rd σ o c := fun o c h2 h3 h4 => (ef o h2 c).trans (e1 o c h3 h4)
    have hF := cp_O h1
    refine hq _ _ ⟨by rw [eF, g], by omega, fun _ => ⟨rfl, eG⟩, f, u - 1, ⟨CurR_of (RowOK_mono q.2 (by omega)) (OAt_fr (o := 0) (fun c => ef 0 (by omega) c) hO1) ea ?_ ?_, ⟨⟨(em 0 3 (by omega) (by omega)).trans hH.1.1, e04, hf, by omega⟩, ?_, ?_, fun i hi => ?_⟩, SnpR_fr hS (by omega) (fun s _ => congrFun (et 12 4 (by omega) (by omega) (by omega)) s) (fun s _ => em 3 s (by omega) (by omega)) (fun s hs c => et _ c (by omega) (by omega) (by omega)) (fun s j hs hj => em 2 _ (by omega) (by omega)), TxtR_fr hT (fun j => congrFun (et 12 6 (by omega) (by omega) (by omega)) j) (congrFun (et 12 5 (by omega) (by omega) (by omega)) 1) (fun j => em 4 j (by omega) (by omega)) (em 0 6 (by omega) (by omega)), ⟨(congrFun (et 12 5 (by omega) (by omega) (by omega)) 2).trans (hE9.1.trans (em 0 7 (by omega) (by omega)).symm), (congrFun (et 12 5 (by omega) (by omega) (by omega)) 3).trans (hE9.2.trans (em 0 8 (by omega) (by omega)).symm)⟩, OutR_fr hO9 (congrFun (et 12 12 (by omega) (by omega) (by omega)) 1) (fun j => congrFun (et 12 13 (by omega) (by omega) (by omega)) j) (fun j => em 5 j (by omega) (by omega)) (em 0 11 (by omega) (by omega))⟩⟩
    · rw [ef 0 (by omega)]
      exact hF.2.2 (by rw [rd_wr_cell (by omega), rd_wr_cell (by omega)]; exact hc.2.2.1)
    · rw [et 1 21 (by omega) (by omega) (by omega)]
      exact hc.2.2.2
    · rw [ef 12 (by omega), c1 12 1 (by omega), rd_wr_j (by decide), rd_wr_s]
    · rw [ef 12 (by omega), c1 12 1 (by omega), rd_wr_s]
    · have q2 := hH.2.2.2 i (by omega)
      have h82 : (f + i) % 8 < 8 := Nat.mod_lt _ (by decide)
      have er2 : ∀ j, j < 304 → rowOf σ2 ((f + i) % 8) j = rowOf σ ((f + i) % 8) j := fun j _ => em 2 _ (by omega) (by omega)
      exact ⟨OAt_ext q2.2 er2 (OAt_fr (o := 0) (fun c => et _ c (by omega) (by omega) (by omega)) q2.1), RowOK_mono (RowOK_ext er2 q2.2) (by omega)⟩
  · obtain ⟨h0, h1⟩ := LR_x hL (by rw [g]; exact hi)
    cases h1
    exact hq _ _ (PR_x hR (by omega) h0 g)
-- saveSnapshot
theorem pc_saveSnapshot {G : GC} {w : Lay} {σ : Mem} {Q : Lay → Option Value → Mem → Prop} {Qx : Lay → String → Mem → Prop} {hm f u : Nat} {s : Int32} (hW : LAY w) (hR : REL hm σ f u) (hb9 : hm ≤ 800000) (hq : ∀ τ, LRv (fun μ => ∃ σ1, CP DA (10 + cl s) 0 σ σ1 ∧ μ = wr σ1 12 4 (cl s) (nI 1)) (fun μ => μ = σ) (aSS s) τ → Q w (some (.int (nI (aSS s).1))) τ) : ML_saveSnapshot G w σ [.ref (w.2.1 12 0), .int s] Q Qx :=
  c_L_saveSnapshot (a := aSS s) (P := fun μ => ∃ σ1, CP DA (10 + cl s) 0 σ σ1 ∧ μ = wr σ1 12 4 (cl s) (nI 1)) (PX := fun μ => μ = σ) hW.1 hW.2.1 hW.2.2.2 (fun Q1 Qx1 h0 h1 => c_X9_saveSnapshot hW.1 (hW.2.2.1 0 (by decide)) hR.1.2.1 hR.1.1 (fun j hj => hW.2.2.1 _ (by omega)) (hq := fun e μ hc => h0 e _ ⟨μ, hc, rfl⟩) (hx1 := fun e => h1 e _ rfl)) hq
theorem pr_saveSnapshot {G : GC} {w : Lay} {σ τ : Mem} {Q : Lay → Option Value → Mem → Prop} {Qx : Lay → String → Mem → Prop} {hm f u : Nat} {s : Int32} (hW : LAY w) (hR : REL hm σ f u) (hb9 : hm ≤ 800000) (hL : LRv (fun μ => ∃ σ1, CP DA (10 + cl s) 0 σ σ1 ∧ μ = wr σ1 12 4 (cl s) (nI 1)) (fun μ => μ = σ) (aSS s) τ) (hq : ∀ τ2, rd τ2 13 0 9 = nI (aSS s).1 ∧ (∃ f u, REL (hm + 960) τ2 f u) → Q w none τ2) : MX10_saveSnapshot G w τ [.ref (w.2.1 13 0), .int s] Q Qx := by
  refine c_X10_saveSnapshot hW.2.1 (fun g => ?_) (fun i hi g => ?_)
  · rcases hL with ⟨h0, σ1, h1, rfl⟩ | ⟨h0, -⟩
    · obtain ⟨k, rfl, -, hk⟩ := (chk_0 (c := 1) (by decide) g).1
      rw [cl_n (by omega)] at h1 ⊢
      obtain ⟨hc, hH, hS, hT, hE9, hO9⟩ := hR
      have hO1 : OAt σ1 (10 + k) (rd σ 13 1) := cp_OAt h1 hc.2.1 hc.1
      have e1 : ∀ o c, o ≠ 10 + k → rd σ1 o c = rd σ o c := fun o c h => h1.1 o c h
      have eo : ∀ o c j, o ≠ 13 → o ≠ 10 + k → ¬ (o = 12 ∧ c = 4) → rd (wr (putP (thr (wr σ1 12 4 k (nI 1)) 0) (8 + k) 304) 13 3 k (nI 1)) o c j = rd σ o c j := fun o c j h h2 h3 => by
        rw [rd_wr_o h, rd_putP (by omega)]
        unfold thr
        rw [rd_wr_o h, rd_wr, if_neg (by omega), e1 o c h2]
      have ek : ∀ c, rd (wr (putP (thr (wr σ1 12 4 k (nI 1)) 0) (8 + k) 304) 13 3 k (nI 1)) (10 + k) c = rd σ1 (10 + k) c := fun c => funext fun j => by
        rw [rd_wr_o (by omega), rd_putP (by omega)]
        unfold thr
        rw [rd_wr_o (by omega), rd_wr, if_neg (by omega)]
      have e4 : ∀ j, rd (wr (putP (thr (wr σ1 12 4 k (nI 1)) 0) (8 + k) 304) 13 3 k (nI 1)) 12 4 j = if j = k then nI 1 else rd σ 12 4 j := fun j => by
        rw [rd_wr_o (by omega), rd_putP (by omega)]
        unfold thr
        rw [rd_wr_o (by omega), rd_wr, e1 12 4 (by omega)]
        by_cases hj : j = k
        · rw [if_pos ⟨rfl, rfl, hj⟩, if_pos hj]
        · rw [if_neg (fun q => hj q.2.2), if_neg hj]
      have e3 : ∀ j, rd (wr (putP (thr (wr σ1 12 4 k (nI 1)) 0) (8 + k) 304) 13 3 k (nI 1)) 13 3 j = if j = k then nI 1 else rd σ 13 3 j := fun j => by
        rw [rd_wr]
        by_cases hj : j = k
        · rw [if_pos ⟨rfl, rfl, hj⟩, if_pos hj]
        · rw [if_neg (fun q => hj q.2.2), if_neg hj, rd_putP (by omega)]
          unfold thr
          rw [rd_wr_c (by decide), rd_wr_o (by decide), e1 13 3 (by omega)]
      have em : ∀ c j, c ≠ 2 → c ≠ 3 → ¬ (c = 0 ∧ j = 9) → rd (wr (putP (thr (wr σ1 12 4 k (nI 1)) 0) (8 + k) 304) 13 3 k (nI 1)) 13 c j = rd σ 13 c j := fun c j h h2 h3 => by
        rw [rd_wr_c h2, rd_putP (by omega)]
        unfold thr
        rw [rd_wr, if_neg (by omega), rd_wr_o (by decide), e1 13 c (by omega)]
      have er : ∀ j, j < 304 → rowOf (wr (putP (thr (wr σ1 12 4 k (nI 1)) 0) (8 + k) 304) 13 3 k (nI 1)) (8 + k) j = rd σ 13 1 j := fun j hj => by
        rw [rowOf_wr (by decide), rowOf_put hj]
        unfold thr
        rw [rd_wr_c (by decide), rd_wr_o (by decide), e1 13 1 (by omega)]
      have en : ∀ r j, j < 304 → r ≠ 8 + k → rowOf (wr (putP (thr (wr σ1 12 4 k (nI 1)) 0) (8 + k) 304) 13 3 k (nI 1)) r j = rowOf σ r j := fun r j hj h => by
        rw [rowOf_wr (by decide), rowOf_put_ne hj h]
        show rd (thr (wr σ1 12 4 k (nI 1)) 0) 13 2 _ = rd σ 13 2 _
        unfold thr
        rw [rd_wr_c (by decide), rd_wr_o (by decide), e1 13 2 (by omega)]
      have e9 : rd (wr (putP (thr (wr σ1 12 4 k (nI 1)) 0) (8 + k) 304) 13 3 k (nI 1)) 13 0 9 = nI 0 := by
        rw [rd_wr_c (by decide), rd_putP (by omega)]
        exact rd_wr_s
      generalize wr (putP (thr (wr σ1 12 4 k (nI 1)) 0) (8 + k) 304) 13 3 k (nI 1) = σ2 at eo ek e4 e3 em er en e9 ⊢
      have ef : ∀ o, o ≠ 13 → o ≠ 10 + k → o ≠ 12 → ∀ c, rd σ2 o c = rd σ o c := fun o h h2 h3 c => funext fun j => eo o c j h h2 (by omega)
      refine hq _ ⟨by rw [e9, h0], f, u, CurR_of (RowOK_mono hc.1 (by omega)) (OAt_fr (o := 0) (fun c => ef 0 (by omega) (by omega) (by omega) c) hc.2.1) (fun j _ => em 1 j (by omega) (by omega) (by omega)) (by rw [ef 0 (by omega) (by omega) (by omega)]; exact hc.2.2.1) (by rw [ef 1 (by omega) (by omega) (by omega)]; exact hc.2.2.2), HisR_fr hH (by omega) (em 0 3 (by omega) (by omega) (by omega)) (em 0 4 (by omega) (by omega) (by omega)) (eo 12 1 1 (by omega) (by omega) (by omega)) (eo 12 1 2 (by omega) (by omega) (by omega)) (fun r hr c => ef _ (by omega) (by omega) (by omega) c) (fun r j hr hj => en r j hj (by omega)), fun x hx => ?_, TxtR_fr hT (fun j => eo 12 6 j (by omega) (by omega) (by omega)) (eo 12 5 1 (by omega) (by omega) (by omega)) (fun j => em 4 j (by omega) (by omega) (by omega)) (em 0 6 (by omega) (by omega) (by omega)), ⟨(eo 12 5 2 (by omega) (by omega) (by omega)).trans (hE9.1.trans (em 0 7 (by omega) (by omega) (by omega)).symm), (eo 12 5 3 (by omega) (by omega) (by omega)).trans (hE9.2.trans (em 0 8 (by omega) (by omega) (by omega)).symm)⟩, OutR_fr hO9 (eo 12 12 1 (by omega) (by omega) (by omega)) (fun j => eo 12 13 j (by omega) (by omega) (by omega)) (fun j => em 5 j (by omega) (by omega) (by omega)) (em 0 11 (by omega) (by omega) (by omega))⟩
      rw [e4, e3]
      by_cases hxk : x = k
      · rw [if_pos hxk, if_pos hxk]
        subst hxk
        exact ⟨rfl, Or.inr rfl, fun _ => ⟨OAt_ext hc.1 er (OAt_fr (o := 0) (fun c => ek c) hO1), RowOK_mono (RowOK_ext er hc.1) (by omega)⟩⟩
      · rw [if_neg hxk, if_neg hxk]
        have q := hS x hx
        refine ⟨q.1, q.2.1, fun g9 => ?_⟩
        have q2 := q.2.2 g9
        have er2 : ∀ j, j < 304 → rowOf σ2 (8 + x) j = rowOf σ (8 + x) j := fun j hj => en _ j hj (by omega)
        exact ⟨OAt_ext q2.2 er2 (OAt_fr (o := 0) (fun c => ef _ (by omega) (by omega) (by omega) c) q2.1), RowOK_mono (RowOK_ext er2 q2.2) (by omega)⟩
    · exact absurd g h0.1
  · rcases hL with ⟨h0, -⟩ | ⟨h0, h1⟩
    · exact absurd (g.symm.trans h0) hi
    · cases h1
      exact hq _ ⟨by rw [g]; exact rd_wr_s, f, u, REL_thr hR (by omega)⟩
-- restoreSnapshot
theorem aRS_eq {F F' : Nat → Int32} {B : Nat → Rw} {s : Int32} (h : ∀ j, j < 2 → F j = F' j) : aRS F B s = aRS F' B s := by
  unfold aRS
  by_cases hs : okN 0 1 s
  · rw [chk_t hs, chk_t hs, h _ (by have := okN_cl (by decide) hs; omega)]
  · rw [chk_f hs, chk_f hs]
theorem pc_restoreSnapshot {G : GC} {w : Lay} {σ : Mem} {Q : Lay → Option Value → Mem → Prop} {Qx : Lay → String → Mem → Prop} {hm f u : Nat} {s : Int32} (hW : LAY w) (hR : REL hm σ f u) (hb9 : hm ≤ 800000) (hq : ∀ τ, LR (fun μ => ChR σ μ ((f + u) % 8) u (rowOf σ (8 + cl s))) (fun μ => μ = σ) (aRS (rd σ 13 3) (fun r => rowOf σ (8 + r)) s) τ → Q w (some (.int (nI (aRS (rd σ 13 3) (fun r => rowOf σ (8 + r)) s).1))) τ) : ML_restoreSnapshot G w σ [.ref (w.2.1 12 0), .int s, .ref (w.2.1 13 9)] Q Qx := by
  have hx8 : (f + u) % 8 < 8 := Nat.mod_lt _ (by decide)
  have ea : aRS (rd σ 12 4) (fun r => rowOf σ (8 + r)) s = aRS (rd σ 13 3) (fun r => rowOf σ (8 + r)) s := aRS_eq (fun j hj => (hR.2.2.1 j hj).1)
  refine c_L_restoreSnapshot (a := aRS (rd σ 13 3) (fun r => rowOf σ (8 + r)) s) (P := fun μ => ChR σ μ ((f + u) % 8) u (rowOf σ (8 + cl s))) (PX := fun μ => μ = σ) hW.1 hW.2.1 hW.2.2.2 (fun Q1 Qx1 h0 h1 h2 => ?_) hq
  rw [← ea] at h0 h1 h2
  exact c_X9_restoreSnapshot hW.1 (hW.2.2.1 0 (by decide)) hR.1.2.1 hR.1.1 (hW.2.2.1 _ (by omega)) hx8 hR.2.1.1.2.2.2 hR.2.1.2.1 hR.2.1.2.2.1 (S := fun r => rowOf σ (8 + r)) (fun j hj => hW.2.2.1 _ (by omega)) (fun j hj => (hR.2.2.1 j hj).2.1) (fun j hj g => ((hR.2.2.1 j hj).2.2 g).1) (fun j hj g => ((hR.2.2.1 j hj).2.2 g).2) (hq := fun e μ hc => h0 e μ hc) (hx1 := fun e => h1 e _ rfl) (hx2 := fun e => h2 e _ rfl)
theorem pr_restoreSnapshot {G : GC} {w : Lay} {σ τ : Mem} {Q : Lay → Option Value → Mem → Prop} {Qx : Lay → String → Mem → Prop} {hm f u : Nat} {s : Int32} (hW : LAY w) (hR : REL hm σ f u) (hb9 : hm ≤ 800000) (hL : LR (fun μ => ChR σ μ ((f + u) % 8) u (rowOf σ (8 + cl s))) (fun μ => μ = σ) (aRS (rd σ 13 3) (fun r => rowOf σ (8 + r)) s) τ) (hq : ∀ b τ2, PAR (hm + 960) (aRS (rd σ 13 3) (fun r => rowOf σ (8 + r)) s) b τ2 → Q w (some (.int b)) τ2) : MX10_restoreSnapshot G w τ [.ref (w.2.1 13 0), .int s] Q Qx := by
  have hx8 : (f + u) % 8 < 8 := Nat.mod_lt _ (by decide)
  have e13 := LR_13 hL (fun s hs c => ChR_13 hx8 hs c)
  have hr : ringOK τ f u := ring_0 hR.2.1.1 (congrFun (e13 0) 3) (congrFun (e13 0) 4)
  have e3 : rd τ 13 3 = rd σ 13 3 := e13 3
  have e2 : rowOf τ = rowOf σ := funext fun r => funext fun j => congrFun (e13 2) _
  refine c_X10_restoreSnapshot hW.2.1 (hr0 := hr) (fun j hj => ?_) (fun g => ?_) (fun i hi g => ?_)
  · rw [e3, ← (hR.2.2.1 j hj).1]
    exact (hR.2.2.1 j hj).2.1
  · rw [e3, e2] at g ⊢
    obtain ⟨σ1, hc1, ht⟩ := LR_0 hL g
    obtain ⟨g1, g2, g3, g4⟩ := ls_take (τ := τ) (f := f) (u := u) (s := cl s) hr
    rw [e2] at g1
    have q1 := chk_0 (c := 1) (by decide) g
    have q2 := chk_0 (c := 2) (by decide) q1.2
    have hs2 : cl s < 2 := by have := okN_cl (by decide) q1.1; omega
    have hB := ((hR.2.2.1 _ hs2).2.2 ((hR.2.2.1 _ hs2).1.trans q2.1)).2
    exact hq _ _ (PR_ch hR (by omega) (RowOK_mono hB (by omega)) g hc1 ht g1 g2 g3 g4)
  · rw [e3, e2] at g
    obtain ⟨h0, h1⟩ := LR_x hL (by rw [g]; exact hi)
    cases h1
    exact hq _ _ (PR_x hR (by omega) h0 g)
-- verdictsIn
theorem pc_verdictsIn {G : GC} {w : Lay} {σ : Mem} {Q : Lay → Option Value → Mem → Prop} {Qx : Lay → String → Mem → Prop} {hm f u : Nat} {h : Int32} (hW : LAY w) (hR : REL hm σ f u) (hb9 : hm ≤ 800000) (hq : ∀ τ, LR (fun μ => FrO 1 σ μ) (fun μ => μ = σ) (aVI (rd σ 13 1) (rd σ 13 8) h) τ → Q w (some (.int (nI (aVI (rd σ 13 1) (rd σ 13 8) h).1))) τ) : ML_verdictsIn G w σ [.ref (w.2.1 12 0), .int h, .ref (w.2.1 13 9)] Q Qx :=
  c_L_verdictsIn (a := aVI (rd σ 13 1) (rd σ 13 8) h) (P := fun μ => FrO 1 σ μ) (PX := fun μ => μ = σ) hW.1 hW.2.1 hW.2.2.2 (fun Q1 Qx1 h0 h1 => c_X9_verdictsIn hW.1 (hW.2.2.1 0 (by decide)) hR.1.2.1 hR.1.1 (hW.2.2.1 1 (by decide)) hR.1.2.2.2 (by omega) (hq := fun e μ hc => h0 e μ hc) (hx1 := fun e => h1 e _ rfl)) hq
theorem pr_verdictsIn {G : GC} {w : Lay} {σ τ : Mem} {Q : Lay → Option Value → Mem → Prop} {Qx : Lay → String → Mem → Prop} {hm f u : Nat} {h : Int32} (hW : LAY w) (hR : REL hm σ f u) (hb9 : hm ≤ 800000) (hL : LR (fun μ => FrO 1 σ μ) (fun μ => μ = σ) (aVI (rd σ 13 1) (rd σ 13 8) h) τ) (hq : ∀ b τ2, PAR (hm + 960) (aVI (rd σ 13 1) (rd σ 13 8) h) b τ2 → Q w (some (.int b)) τ2) : MX10_verdictsIn G w τ [.ref (w.2.1 13 0), .int h] Q Qx := by
  have e13 := LR_13 hL (fun s hs c => hs.1 13 c (by omega))
  have e1 : rd τ 13 1 = rd σ 13 1 := e13 1
  have e8 : rd τ 13 8 = rd σ 13 8 := e13 8
  refine c_X10_verdictsIn hW.2.1 (hm := hm) (f := f) (u := u) (by rw [e1]; exact hR.1.1) (by omega) (fun g => ?_) (fun i hi g => ?_)
  · rw [e1, e8] at g ⊢
    obtain ⟨σ1, h1, rfl⟩ := LR_0 hL g
    generalize (passed (cl h) (rd σ 13 1, rd σ 13 8, 0)).1 = B
    generalize (passed (cl h) (rd σ 13 1, rd σ 13 8, 0)).2.1 = K
    have et : ∀ c j, ¬ (c = 0 ∧ j = 9) → rd (thr (wrL σ1 1 (aVI (rd σ 13 1) (rd σ 13 8) h).2.toInt64) 0) 13 c j = rd σ 13 c j := fun c j hn => by
      unfold thr
      rw [rd_wr, if_neg (by omega)]
      exact congrFun (h1.1 13 c (by omega)) j
    have eo : ∀ o c j, o ≠ 13 → rd (takeP (setAK (putP (thr (wrL σ1 1 (aVI (rd σ 13 1) (rd σ 13 8) h).2.toInt64) 0) 10 304) B K) 10 304) o c j = rd σ1 o c j := fun o c j hn => by
      rw [rd_takeP (by omega), rd_AK_ne (by omega) (by omega), rd_putP (by omega)]
      unfold thr
      rw [rd_wr_o hn]
      rfl
    have em : ∀ c j, c ≠ 1 → c ≠ 2 → c ≠ 8 → ¬ (c = 0 ∧ j = 9) → rd (takeP (setAK (putP (thr (wrL σ1 1 (aVI (rd σ 13 1) (rd σ 13 8) h).2.toInt64) 0) 10 304) B K) 10 304) 13 c j = rd σ 13 c j := fun c j h2 h3 h4 h5 => by
      rw [rd_takeP (by omega), rd_AK_ne (by omega) (by omega), rd_putP (by omega)]
      exact et c j h5
    have ea : ∀ j, j < 304 → rd (takeP (setAK (putP (thr (wrL σ1 1 (aVI (rd σ 13 1) (rd σ 13 8) h).2.toInt64) 0) 10 304) B K) 10 304) 13 1 j = rd σ 13 1 j := fun j hj => by
      rw [takeP_rd1 hj, rowOf_AK, rowOf_put hj]
      exact et 1 j (by omega)
    have er : ∀ r j, r < 10 → j < 304 → rowOf (takeP (setAK (putP (thr (wrL σ1 1 (aVI (rd σ 13 1) (rd σ 13 8) h).2.toInt64) 0) 10 304) B K) 10 304) r j = rowOf σ r j := fun r j hr hj => by
      rw [rowOf_take, rowOf_AK, rowOf_put_ne hj (by omega)]
      exact et 2 _ (by omega)
    have e9 : rd (takeP (setAK (putP (thr (wrL σ1 1 (aVI (rd σ 13 1) (rd σ 13 8) h).2.toInt64) 0) 10 304) B K) 10 304) 13 0 9 = nI 0 := by
      rw [rd_takeP (by omega), rd_AK_ne (by omega) (by omega), rd_putP (by omega)]
      exact rd_wr_s
    have eG : rdL (takeP (setAK (putP (thr (wrL σ1 1 (aVI (rd σ 13 1) (rd σ 13 8) h).2.toInt64) 0) 10 304) B K) 10 304) 1 = (aVI (rd σ 13 1) (rd σ 13 8) h).2.toInt64 := by
      show rdL (wrL σ1 1 (aVI (rd σ 13 1) (rd σ 13 8) h).2.toInt64) 1 = _
      rw [rdL_wrL, if_pos rfl]
    generalize takeP (setAK (putP (thr (wrL σ1 1 (aVI (rd σ 13 1) (rd σ 13 8) h).2.toInt64) 0) 10 304) B K) 10 304 = σ2 at eo em ea er e9 eG ⊢
    have ef : ∀ o, o ≠ 13 → o ≠ 1 → ∀ c, rd σ2 o c = rd σ o c := fun o h2 h3 c => (funext fun j => eo o c j h2).trans (h1.1 o c h3)
    refine hq _ _ ⟨by rw [e9, g], by omega, fun _ => ⟨rfl, eG⟩, f, u, REL_mk hR (by omega) (fun c => ef 0 (by omega) (by omega) c) (fun o h2 h3 c => ef o (by omega) (by omega) c) (fun k hk => ?_) (fun c _ j => congrFun (ef 12 (by omega) (by omega) c) j) ea er (fun j => em 3 j (by omega) (by omega) (by omega) (by omega)) (em 0 3 (by omega) (by omega) (by omega) (by omega)) (em 0 4 (by omega) (by omega) (by omega) (by omega)) (TxtR_fr hR.2.2.2.1 (fun j => congrFun (ef 12 (by omega) (by omega) 6) j) (congrFun (ef 12 (by omega) (by omega) 5) 1) (fun j => em 4 j (by omega) (by omega) (by omega) (by omega)) (em 0 6 (by omega) (by omega) (by omega) (by omega))) ⟨(congrFun (ef 12 (by omega) (by omega) 5) 2).trans (hR.2.2.2.2.1.1.trans (em 0 7 (by omega) (by omega) (by omega) (by omega)).symm), (congrFun (ef 12 (by omega) (by omega) 5) 3).trans (hR.2.2.2.2.1.2.trans (em 0 8 (by omega) (by omega) (by omega) (by omega)).symm)⟩ (OutR_fr hR.2.2.2.2.2 (congrFun (ef 12 (by omega) (by omega) 12) 1) (fun j => congrFun (ef 12 (by omega) (by omega) 13) j) (fun j => em 5 j (by omega) (by omega) (by omega) (by omega)) (em 0 11 (by omega) (by omega) (by omega) (by omega)))⟩
    rw [eo 1 21 k (by omega)]
    exact h1.2.2 hR.1.2.2.2 k hk
  · rw [e1, e8] at g
    obtain ⟨h0, h1⟩ := LR_x hL (by rw [g]; exact hi)
    cases h1
    exact hq _ _ (PR_x hR (by omega) h0 g)
-- the output
def OE (S S' : Ob) : Prop := S.2 = S'.2 ∧ ∀ j, j < S.2 → S.1 j = S'.1 j
theorem OE_put {S S' : Ob} {b : Nat} (h : OE S S') : OE (putB S b) (putB S' b) := by
  refine ⟨congrArg (· + 1) h.1, fun j hj => ?_⟩
  show upd S.1 S.2 (nI b) j = upd S'.1 S'.2 (nI b) j
  have hj' : j < S.2 + 1 := hj
  by_cases e : j = S.2
  · rw [← h.1, e, upd_s, upd_s]
  · rw [upd_n e, upd_n (by rw [← h.1]; exact e)]
    exact h.2 j (by omega)
theorem OE_dig (n : Nat) : ∀ (f : Nat) (S S' : Ob) (p : Nat), OE S S' → OE (digF n f S p) (digF n f S' p)
  | 0, _, _, _, h => h
  | f + 1, S, S', p, h => by
    show OE (if 0 < p then digF n f (putB S (48 + n / p % 10)) (p / 10) else S) (if 0 < p then digF n f (putB S' (48 + n / p % 10)) (p / 10) else S')
    by_cases hp : 0 < p
    · rw [if_pos hp, if_pos hp]
      exact OE_dig n f _ _ _ (OE_put h)
    · rw [if_neg hp, if_neg hp]
      exact h
theorem OE_num {S S' : Ob} {n : Nat} (h : OE S S') : OE (numB S n) (numB S' n) := OE_dig n 7 S S' _ h
theorem OE_wp {A : Rw} {S S' : Ob} (h : OE S S') : ∀ k, OE (wpF A S k) (wpF A S' k)
  | 0 => h
  | k + 1 => by
    have q := OE_wp (A := A) h k
    show OE (wpB A k (wpF A S k)) (wpB A k (wpF A S' k))
    unfold wpB
    refine OE_num (OE_put (OE_num (OE_put (OE_num ?_))))
    by_cases hk : 0 < k
    · rw [if_pos hk, if_pos hk]; exact OE_put q
    · rw [if_neg hk, if_neg hk]; exact q
theorem setO_fr {σ : Mem} {S : Ob} {a c j : Nat} (h : ¬ (a = 13 ∧ (c = 5 ∨ (c = 0 ∧ j = 11)))) : rd (setO σ S) a c j = rd σ a c j := by
  unfold setO
  rw [rd_wr, if_neg (by omega), rd_wrC, if_neg (by omega)]
theorem REL_wp {hm : Nat} {σ : Mem} {f u : Nat} (hR : REL hm σ f u) : (wpF (rd σ 13 1) (rd σ 12 13, 0) (nv (rd σ 13 1) 11)).2 = (wpF (rd σ 13 1) (rd σ 13 5, 0) (nv (rd σ 13 1) 11)).2 ∧ REL (hm + 960) (setO (thr (setC σ (wpF (rd σ 13 1) (rd σ 12 13, 0) (nv (rd σ 13 1) 11))) 0) (wpF (rd σ 13 1) (rd σ 13 5, 0) (nv (rd σ 13 1) 11))) f u := by
  have hE : OE (wpF (rd σ 13 1) (rd σ 12 13, 0) (nv (rd σ 13 1) 11)) (wpF (rd σ 13 1) (rd σ 13 5, 0) (nv (rd σ 13 1) 11)) := OE_wp (S := (rd σ 12 13, 0)) (S' := (rd σ 13 5, 0)) ⟨rfl, fun j hj => absurd hj (Nat.not_lt_zero _)⟩ _
  have hl := wpF_len hR.1.1 (rd σ 12 13, 0) _ (Nat.le_refl _)
  have h30 := (r_NP hR.1.1).2
  generalize wpF (rd σ 13 1) (rd σ 12 13, 0) (nv (rd σ 13 1) 11) = S at hE hl ⊢
  generalize wpF (rd σ 13 1) (rd σ 13 5, 0) (nv (rd σ 13 1) 11) = S' at hE ⊢
  have em : ∀ x i j, ¬ (x = 13 ∧ (i = 5 ∨ i = 0 ∧ (j = 9 ∨ j = 11))) → ¬ (x = 12 ∧ (i = 13 ∨ i = 12 ∧ j = 1)) → rd (setO (thr (setC σ S) 0) S') x i j = rd σ x i j := fun x i j h1 h2 => by
    rw [setO_fr (by omega)]
    unfold thr
    rw [rd_wr, if_neg (by omega)]
    exact setC_fr (by omega)
  have h12 : ∀ i j, rd (setO (thr (setC σ S) 0) S') 12 i j = rd (setC σ S) 12 i j := fun i j => by
    rw [setO_fr (by omega)]
    unfold thr
    rw [rd_wr_o (by decide)]
  refine ⟨hE.1, REL_mk hR (by omega) (fun i => funext fun j => em 0 i j (by omega) (by omega)) (fun o h2 h12 i => funext fun j => em o i j (by omega) (by omega)) (fun k hk => (em 1 21 k (by omega) (by omega)).trans (hR.1.2.2.2 k hk)) (fun i hi j => em 12 i j (by omega) (by omega)) (fun j _ => em 13 1 j (by omega) (by omega)) (fun r j _ _ => em 13 2 _ (by omega) (by omega)) (fun j => em 13 3 j (by omega) (by omega)) (em 13 0 3 (by omega) (by omega)) (em 13 0 4 (by omega) (by omega)) (TxtR_fr hR.2.2.2.1 (fun j => em 12 6 j (by omega) (by omega)) (em 12 5 1 (by omega) (by omega)) (fun j => em 13 4 j (by omega) (by omega)) (em 13 0 6 (by omega) (by omega))) ⟨(em 12 5 2 (by omega) (by omega)).trans (hR.2.2.2.2.1.1.trans (em 13 0 7 (by omega) (by omega)).symm), (em 12 5 3 (by omega) (by omega)).trans (hR.2.2.2.2.1.2.trans (em 13 0 8 (by omega) (by omega)).symm)⟩ ⟨S.2, ?_, ?_, ?_, fun j hj => ?_⟩⟩
  · have h0 : ((rd σ 12 13, 0) : Ob).2 = 0 := rfl
    omega
  · rw [h12]; exact setC_1
  · rw [hE.1]; exact setO_rd0
  · rw [h12]
    unfold setC setO
    rw [rd_wr_c (by decide), rd_wrC_s, rd_wr_c (by decide), rd_wrC_s]
    exact hE.2 j hj
theorem aOB_eq {O : Nat} {B B' : Nat → Int32} {x : Int32} (h : ∀ j, j < O → B j = B' j) (hO : O < 2 ^ 31) : aOB O B x = aOB O B' x := by
  by_cases q : ∃ k : Nat, x = nI k ∧ k < O
  · obtain ⟨k, rfl, hk⟩ := q
    rw [aOB_t hk (by omega), aOB_t hk (by omega), h k hk]
  · rw [aOB_f q, aOB_f q]
