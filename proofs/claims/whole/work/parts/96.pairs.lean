/-! ===== a call of the class, then the reference's ===== -/
def LAY (w : Lay) : Prop := LK w ∧ LM w ∧ (∀ o, o < 12 → LO w o) ∧ (∀ q ∈ w.1, q.1 = 13 → q.2 < 10)
theorem chk_b {P : Prop} {c : Nat} {r : Nat × Int32} (h : r.2 = nI 0 ∨ r.2 = nI 1) : (chk P c r).2 = nI 0 ∨ (chk P c r).2 = nI 1 := by
  by_cases hp : P
  · rw [chk_t hp]; exact h
  · rw [chk_f hp]; exact Or.inl rfl
theorem ct_b (P : Prop) : nI (ct P) = nI 0 ∨ nI (ct P) = nI 1 := by
  by_cases hp : P
  · rw [ct_t hp]; exact Or.inr rfl
  · rw [ct_f hp]; exact Or.inl rfl
theorem LR_0 {P PX : Mem → Prop} {a : Nat × Int32} {τ : Mem} (h : LR P PX a τ) (e : a.1 = 0) : ∃ σ1, P σ1 ∧ τ = wrL σ1 1 a.2.toInt64 := by
  rcases h with h | h
  · exact h.2
  · exact absurd e h.1.1
theorem LR_x {P PX : Mem → Prop} {a : Nat × Int32} {τ : Mem} (h : LR P PX a τ) (e : a.1 ≠ 0) : (a.1 ≠ 0 ∧ a.1 ≤ 3) ∧ PX τ := by
  rcases h with h | h
  · exact absurd h.1 e
  · exact h
theorem LR_13 {σ τ : Mem} {P : Mem → Prop} {a : Nat × Int32} (h : LR P (fun s => s = σ) a τ) (hp : ∀ s, P s → ∀ c, rd s 13 c = rd σ 13 c) : ∀ c, rd τ 13 c = rd σ 13 c := fun c => by
  rcases h with ⟨-, σ1, h1, rfl⟩ | ⟨-, rfl⟩
  · exact hp σ1 h1 c
  · rfl
theorem LR_q1 {σ τ : Mem} {a : Nat × Int32} (h : LR (fun s => s = σ) (fun s => s = σ) a τ) : rd τ 13 1 = rd σ 13 1 := LR_13 h (fun s e c => by rw [e]) 1
theorem ChR_13 {σ σ1 : Mem} {x u : Nat} {B : Rw} (hx : x < 8) (h : ChR σ σ1 x u B) (c : Nat) : rd σ1 13 c = rd σ 13 c := by
  obtain ⟨τ0, hH, hF, -⟩ := h
  exact (hF.1 13 c (by omega)).trans (hH.1 13 c (by omega) (by omega))
theorem act_ls {τ : Mem} {f u : Nat} (hr : ringOK τ f u) : ringOK (actM (thr τ 0) f u) (rF f u) (rU u) ∧ (∀ j, j < 304 → rowOf (actM (thr τ 0) f u) ((f + u) % 8) j = rd τ 13 1 j) ∧
    (∀ r j, r < 10 → j < 304 → r ≠ (f + u) % 8 → rowOf (actM (thr τ 0) f u) r j = rowOf τ r j) ∧ (∀ a c j, a ≠ 13 → rd (actM (thr τ 0) f u) a c j = rd τ a c j) ∧ (∀ c j, 3 ≤ c → rd (actM (thr τ 0) f u) 13 c j = rd τ 13 c j) ∧
    (∀ j, j ≠ 3 → j ≠ 4 → j ≠ 9 → rd (actM (thr τ 0) f u) 13 0 j = rd τ 13 0 j) ∧ rd (actM (thr τ 0) f u) 13 0 9 = nI 0 ∧ rdL (actM (thr τ 0) f u) 1 = rdL τ 1 := by
  refine ⟨ring_act (ring_thr hr), fun j hj => (rowOf_actE hj).trans (congrFun rd_thr1 j), fun r j h10 hj h => (rowOf_actN hj h).trans (congrFun (congrFun (rowOf_wr (by decide)) r) j), fun a c j h => (congrFun (rd_actM (by omega)) j).trans (rd_wr_o h), fun c j h => (congrFun (rd_actM (by omega)) j).trans (rd_wr_c (by omega)), fun j h3 h4 h9 => (rd_actM0 h3 h4).trans (rd_wr_j h9), (rd_actM0 (by decide) (by decide)).trans rd_wr_s, rfl⟩
theorem ls_setA {τ : Mem} {f u : Nat} {B : Rw} (hr : ringOK τ f u) : LSch τ (setA (actM (thr τ 0) f u) B) B f u ∧ LStx τ (setA (actM (thr τ 0) f u) B) ∧ rd (setA (actM (thr τ 0) f u) B) 13 0 9 = nI 0 ∧ rdL (setA (actM (thr τ 0) f u) B) 1 = rdL τ 1 := by
  obtain ⟨g1, g2, g3, g4, g5, g6, g7, g8⟩ := act_ls hr
  have e0 : ∀ j, rd (setA (actM (thr τ 0) f u) B) 13 0 j = rd (actM (thr τ 0) f u) 13 0 j := fun j => congrFun (rd_setA_ne (by decide)) j
  refine ⟨⟨fun j _ => congrFun rd_setA j, ring_0 g1 (e0 3) (e0 4), fun j hj => by rw [rowOf_setA]; exact g2 j hj, fun r j h1 h2 h3 => by rw [rowOf_setA]; exact g3 r j h1 h2 h3, fun a c j h => (congrFun (rd_setA_ne (by omega)) j).trans (g4 a c j h), fun c j h h2 h3 => (congrFun (rd_setA_ne (by omega)) j).trans (g5 c j h), (e0 11).trans (g6 11 (by decide) (by decide) (by decide))⟩, ⟨fun j => (congrFun (rd_setA_ne (by decide)) j).trans (g5 4 j (by decide)), (e0 6).trans (g6 6 (by decide) (by decide) (by decide)), (e0 7).trans (g6 7 (by decide) (by decide) (by decide)), (e0 8).trans (g6 8 (by decide) (by decide) (by decide))⟩, (e0 9).trans g7, g8⟩
theorem ls_setAK {τ : Mem} {f u : Nat} {B K : Rw} (hr : ringOK τ f u) : LSch τ (setAK (actM (thr τ 0) f u) B K) B f u ∧ LStx τ (setAK (actM (thr τ 0) f u) B K) ∧ rd (setAK (actM (thr τ 0) f u) B K) 13 0 9 = nI 0 ∧ rdL (setAK (actM (thr τ 0) f u) B K) 1 = rdL τ 1 := by
  obtain ⟨g1, g2, g3, g4, g5, g6, g7, g8⟩ := act_ls hr
  have e0 : ∀ j, rd (setAK (actM (thr τ 0) f u) B K) 13 0 j = rd (actM (thr τ 0) f u) 13 0 j := fun j => congrFun (rd_AK_ne (by decide) (by decide)) j
  refine ⟨⟨fun j _ => congrFun rd_AK_A j, ring_0 g1 (e0 3) (e0 4), fun j hj => by rw [rowOf_AK]; exact g2 j hj, fun r j h1 h2 h3 => by rw [rowOf_AK]; exact g3 r j h1 h2 h3, fun a c j h => (congrFun (rd_AK_ne (by omega) (by omega)) j).trans (g4 a c j h), fun c j h h2 h3 => (congrFun (rd_AK_ne (by omega) (by omega)) j).trans (g5 c j h), (e0 11).trans (g6 11 (by decide) (by decide) (by decide))⟩, ⟨fun j => (congrFun (rd_AK_ne (by decide) (by decide)) j).trans (g5 4 j (by decide)), (e0 6).trans (g6 6 (by decide) (by decide) (by decide)), (e0 7).trans (g6 7 (by decide) (by decide) (by decide)), (e0 8).trans (g6 8 (by decide) (by decide) (by decide))⟩, (e0 9).trans g7, g8⟩
theorem ls_take {τ : Mem} {f u s : Nat} (hr : ringOK τ f u) : LSch τ (takeP (actM (thr τ 0) f u) (8 + s) 304) (rowOf τ (8 + s)) f u ∧ LStx τ (takeP (actM (thr τ 0) f u) (8 + s) 304) ∧ rd (takeP (actM (thr τ 0) f u) (8 + s) 304) 13 0 9 = nI 0 ∧ rdL (takeP (actM (thr τ 0) f u) (8 + s) 304) 1 = rdL τ 1 := by
  obtain ⟨g1, g2, g3, g4, g5, g6, g7, g8⟩ := act_ls hr
  have e0 : ∀ j, rd (takeP (actM (thr τ 0) f u) (8 + s) 304) 13 0 j = rd (actM (thr τ 0) f u) 13 0 j := fun j => congrFun (rd_takeP (by decide)) j
  refine ⟨⟨fun j hj => (takeP_rd1 hj).trans ((rowOf_act (by omega)).trans (congrFun (congrFun (rowOf_wr (by decide)) _) j)), ring_0 g1 (e0 3) (e0 4), fun j hj => by rw [rowOf_take]; exact g2 j hj, fun r j h1 h2 h3 => by rw [rowOf_take]; exact g3 r j h1 h2 h3, fun a c j h => (congrFun (rd_takeP (by omega)) j).trans (g4 a c j h), fun c j h h2 h3 => (congrFun (rd_takeP (by omega)) j).trans (g5 c j h), (e0 11).trans (g6 11 (by decide) (by decide) (by decide))⟩, ⟨fun j => (congrFun (rd_takeP (by decide)) j).trans (g5 4 j (by decide)), (e0 6).trans (g6 6 (by decide) (by decide) (by decide)), (e0 7).trans (g6 7 (by decide) (by decide) (by decide)), (e0 8).trans (g6 8 (by decide) (by decide) (by decide))⟩, (e0 9).trans g7, g8⟩
theorem okK_lt {hm : Nat} {A : Rw} (hI : RowOK hm A) {k : Int32} (h : okK A k) : cl k < nv A 6 ∧ cl k < 16 := by
  have h6 := r_NK hI
  obtain ⟨j, rfl, hj⟩ := h
  rw [cl_n (by omega)]
  omega
theorem okN_cl {a b : Nat} (hb : b < 2 ^ 31) {k : Int32} (h : okN a b k) : a ≤ cl k ∧ cl k ≤ b := by
  obtain ⟨j, rfl, h1, h2⟩ := h
  rw [cl_n (by omega)]
  exact ⟨h1, h2⟩
theorem pc_windDirection {G : GC} {w : Lay} {σ : Mem} {Q : Lay → Option Value → Mem → Prop} {Qx : Lay → String → Mem → Prop} {hm f u : Nat} {z h : Int32} (hW : LAY w) (hR : REL hm σ f u) (hb9 : hm ≤ 800000) (hq : ∀ τ, LR (fun μ => μ = σ) (fun μ => μ = σ) (aWD (rd σ 13 1) z h) τ → Q w (some (.int (nI (aWD (rd σ 13 1) z h).1))) τ) : ML_windDirection G w σ [.ref (w.2.1 12 0), .int z, .int h, .ref (w.2.1 13 9)] Q Qx := by
  exact c_L_windDirection (a := aWD (rd σ 13 1) z h) (P := fun μ => μ = σ) (PX := fun μ => μ = σ) hW.1 hW.2.1 hW.2.2.2 (fun Q1 Qx1 h0 h1 h2 => c_X9_windDirection hW.1 (hW.2.2.1 0 (by decide)) hR.1.2.1 hR.1.1 (hq := fun e => h0 e _ rfl) (hx1 := fun e => h1 e _ rfl) (hx2 := fun e => h2 e _ rfl)) hq
theorem pr_windDirection {G : GC} {w : Lay} {σ τ : Mem} {Q : Lay → Option Value → Mem → Prop} {Qx : Lay → String → Mem → Prop} {hm f u : Nat} {z h : Int32} (hW : LAY w) (hR : REL hm σ f u) (hb9 : hm ≤ 800000) (hL : LR (fun μ => μ = σ) (fun μ => μ = σ) (aWD (rd σ 13 1) z h) τ) (hq : ∀ b τ2, PAR (hm + 960) (aWD (rd σ 13 1) z h) b τ2 → Q w (some (.int b)) τ2) : MX10_windDirection G w τ [.ref (w.2.1 13 0), .int z, .int h] Q Qx := by
  have e1 : rd τ 13 1 = rd σ 13 1 := LR_q1 hL
  refine c_X10_windDirection hW.2.1 (hm := hm) (by rw [e1]; exact hR.1.1) ?_
  rw [e1]
  exact hq _ _ (PR_q hR (by omega) hL)
theorem pc_windForce {G : GC} {w : Lay} {σ : Mem} {Q : Lay → Option Value → Mem → Prop} {Qx : Lay → String → Mem → Prop} {hm f u : Nat} {z h : Int32} (hW : LAY w) (hR : REL hm σ f u) (hb9 : hm ≤ 800000) (hq : ∀ τ, LR (fun μ => μ = σ) (fun μ => μ = σ) (aWF (rd σ 13 1) z h) τ → Q w (some (.int (nI (aWF (rd σ 13 1) z h).1))) τ) : ML_windForce G w σ [.ref (w.2.1 12 0), .int z, .int h, .ref (w.2.1 13 9)] Q Qx := by
  exact c_L_windForce (a := aWF (rd σ 13 1) z h) (P := fun μ => μ = σ) (PX := fun μ => μ = σ) hW.1 hW.2.1 hW.2.2.2 (fun Q1 Qx1 h0 h1 h2 => c_X9_windForce hW.1 (hW.2.2.1 0 (by decide)) hR.1.2.1 hR.1.1 (hq := fun e => h0 e _ rfl) (hx1 := fun e => h1 e _ rfl) (hx2 := fun e => h2 e _ rfl)) hq
theorem pr_windForce {G : GC} {w : Lay} {σ τ : Mem} {Q : Lay → Option Value → Mem → Prop} {Qx : Lay → String → Mem → Prop} {hm f u : Nat} {z h : Int32} (hW : LAY w) (hR : REL hm σ f u) (hb9 : hm ≤ 800000) (hL : LR (fun μ => μ = σ) (fun μ => μ = σ) (aWF (rd σ 13 1) z h) τ) (hq : ∀ b τ2, PAR (hm + 960) (aWF (rd σ 13 1) z h) b τ2 → Q w (some (.int b)) τ2) : MX10_windForce G w τ [.ref (w.2.1 13 0), .int z, .int h] Q Qx := by
  have e1 : rd τ 13 1 = rd σ 13 1 := LR_q1 hL
  refine c_X10_windForce hW.2.1 (hm := hm) (by rw [e1]; exact hR.1.1) ?_
  rw [e1]
  exact hq _ _ (PR_q hR (by omega) hL)
theorem pc_quota {G : GC} {w : Lay} {σ : Mem} {Q : Lay → Option Value → Mem → Prop} {Qx : Lay → String → Mem → Prop} {hm f u : Nat} {c : Int32} (hW : LAY w) (hR : REL hm σ f u) (hb9 : hm ≤ 800000) (hq : ∀ τ, LR (fun μ => μ = σ) (fun μ => μ = σ) (aQ (rd σ 13 1) c) τ → Q w (some (.int (nI (aQ (rd σ 13 1) c).1))) τ) : ML_quota G w σ [.ref (w.2.1 12 0), .int c, .ref (w.2.1 13 9)] Q Qx := by
  exact c_L_quota (a := aQ (rd σ 13 1) c) (P := fun μ => μ = σ) (PX := fun μ => μ = σ) hW.1 hW.2.1 hW.2.2.2 (fun Q1 Qx1 h0 h1 => c_X9_quota hW.1 (hW.2.2.1 0 (by decide)) hR.1.2.1 hR.1.1 (hq := fun e => h0 e _ rfl) (hx1 := fun e => h1 e _ rfl)) hq
theorem pr_quota {G : GC} {w : Lay} {σ τ : Mem} {Q : Lay → Option Value → Mem → Prop} {Qx : Lay → String → Mem → Prop} {hm f u : Nat} {c : Int32} (hW : LAY w) (hR : REL hm σ f u) (hb9 : hm ≤ 800000) (hL : LR (fun μ => μ = σ) (fun μ => μ = σ) (aQ (rd σ 13 1) c) τ) (hq : ∀ b τ2, PAR (hm + 960) (aQ (rd σ 13 1) c) b τ2 → Q w (some (.int b)) τ2) : MX10_quota G w τ [.ref (w.2.1 13 0), .int c] Q Qx := by
  have e1 : rd τ 13 1 = rd σ 13 1 := LR_q1 hL
  refine c_X10_quota hW.2.1 (hm := hm) (by rw [e1]; exact hR.1.1) ?_
  rw [e1]
  exact hq _ _ (PR_q hR (by omega) hL)
theorem pc_quotaUsed {G : GC} {w : Lay} {σ : Mem} {Q : Lay → Option Value → Mem → Prop} {Qx : Lay → String → Mem → Prop} {hm f u : Nat} {c h : Int32} (hW : LAY w) (hR : REL hm σ f u) (hb9 : hm ≤ 800000) (hq : ∀ τ, LR (fun μ => μ = σ) (fun μ => μ = σ) (aQU (rd σ 13 1) c h) τ → Q w (some (.int (nI (aQU (rd σ 13 1) c h).1))) τ) : ML_quotaUsed G w σ [.ref (w.2.1 12 0), .int c, .int h, .ref (w.2.1 13 9)] Q Qx := by
  exact c_L_quotaUsed (a := aQU (rd σ 13 1) c h) (P := fun μ => μ = σ) (PX := fun μ => μ = σ) hW.1 hW.2.1 hW.2.2.2 (fun Q1 Qx1 h0 h1 h2 => c_X9_quotaUsed hW.1 (hW.2.2.1 0 (by decide)) hR.1.2.1 hR.1.1 (hq := fun e => h0 e _ rfl) (hx1 := fun e => h1 e _ rfl) (hx2 := fun e => h2 e _ rfl)) hq
theorem pr_quotaUsed {G : GC} {w : Lay} {σ τ : Mem} {Q : Lay → Option Value → Mem → Prop} {Qx : Lay → String → Mem → Prop} {hm f u : Nat} {c h : Int32} (hW : LAY w) (hR : REL hm σ f u) (hb9 : hm ≤ 800000) (hL : LR (fun μ => μ = σ) (fun μ => μ = σ) (aQU (rd σ 13 1) c h) τ) (hq : ∀ b τ2, PAR (hm + 960) (aQU (rd σ 13 1) c h) b τ2 → Q w (some (.int b)) τ2) : MX10_quotaUsed G w τ [.ref (w.2.1 13 0), .int c, .int h] Q Qx := by
  have e1 : rd τ 13 1 = rd σ 13 1 := LR_q1 hL
  refine c_X10_quotaUsed hW.2.1 (hm := hm) (by rw [e1]; exact hR.1.1) ?_
  rw [e1]
  exact hq _ _ (PR_q hR (by omega) hL)
theorem pc_anchorX {G : GC} {w : Lay} {σ : Mem} {Q : Lay → Option Value → Mem → Prop} {Qx : Lay → String → Mem → Prop} {hm f u : Nat} {k : Int32} (hW : LAY w) (hR : REL hm σ f u) (hb9 : hm ≤ 800000) (hq : ∀ τ, LR (fun μ => μ = σ) (fun μ => μ = σ) (aOf 0 (rd σ 13 1) k) τ → Q w (some (.int (nI (aOf 0 (rd σ 13 1) k).1))) τ) : ML_anchorX G w σ [.ref (w.2.1 12 0), .int k, .ref (w.2.1 13 9)] Q Qx := by
  exact c_L_anchorX (a := aOf 0 (rd σ 13 1) k) (P := fun μ => μ = σ) (PX := fun μ => μ = σ) hW.1 hW.2.1 hW.2.2.2 (fun Q1 Qx1 h0 h1 => c_X9_anchorX hW.1 (hW.2.2.1 0 (by decide)) hR.1.2.1 hR.1.1 (hq := fun e => h0 e _ rfl) (hx1 := fun e => h1 e _ rfl)) hq
theorem pr_anchorX {G : GC} {w : Lay} {σ τ : Mem} {Q : Lay → Option Value → Mem → Prop} {Qx : Lay → String → Mem → Prop} {hm f u : Nat} {k : Int32} (hW : LAY w) (hR : REL hm σ f u) (hb9 : hm ≤ 800000) (hL : LR (fun μ => μ = σ) (fun μ => μ = σ) (aOf 0 (rd σ 13 1) k) τ) (hq : ∀ b τ2, PAR (hm + 960) (aOf 0 (rd σ 13 1) k) b τ2 → Q w (some (.int b)) τ2) : MX10_anchorX G w τ [.ref (w.2.1 13 0), .int k] Q Qx := by
  have e1 : rd τ 13 1 = rd σ 13 1 := LR_q1 hL
  refine c_X10_anchorX hW.2.1 (hm := hm) (by rw [e1]; exact hR.1.1) ?_
  rw [e1]
  exact hq _ _ (PR_q hR (by omega) hL)
theorem pc_anchorY {G : GC} {w : Lay} {σ : Mem} {Q : Lay → Option Value → Mem → Prop} {Qx : Lay → String → Mem → Prop} {hm f u : Nat} {k : Int32} (hW : LAY w) (hR : REL hm σ f u) (hb9 : hm ≤ 800000) (hq : ∀ τ, LR (fun μ => μ = σ) (fun μ => μ = σ) (aOf 1 (rd σ 13 1) k) τ → Q w (some (.int (nI (aOf 1 (rd σ 13 1) k).1))) τ) : ML_anchorY G w σ [.ref (w.2.1 12 0), .int k, .ref (w.2.1 13 9)] Q Qx := by
  exact c_L_anchorY (a := aOf 1 (rd σ 13 1) k) (P := fun μ => μ = σ) (PX := fun μ => μ = σ) hW.1 hW.2.1 hW.2.2.2 (fun Q1 Qx1 h0 h1 => c_X9_anchorY hW.1 (hW.2.2.1 0 (by decide)) hR.1.2.1 hR.1.1 (hq := fun e => h0 e _ rfl) (hx1 := fun e => h1 e _ rfl)) hq
theorem pr_anchorY {G : GC} {w : Lay} {σ τ : Mem} {Q : Lay → Option Value → Mem → Prop} {Qx : Lay → String → Mem → Prop} {hm f u : Nat} {k : Int32} (hW : LAY w) (hR : REL hm σ f u) (hb9 : hm ≤ 800000) (hL : LR (fun μ => μ = σ) (fun μ => μ = σ) (aOf 1 (rd σ 13 1) k) τ) (hq : ∀ b τ2, PAR (hm + 960) (aOf 1 (rd σ 13 1) k) b τ2 → Q w (some (.int b)) τ2) : MX10_anchorY G w τ [.ref (w.2.1 13 0), .int k] Q Qx := by
  have e1 : rd τ 13 1 = rd σ 13 1 := LR_q1 hL
  refine c_X10_anchorY hW.2.1 (hm := hm) (by rw [e1]; exact hR.1.1) ?_
  rw [e1]
  exact hq _ _ (PR_q hR (by omega) hL)
theorem pc_stringLength {G : GC} {w : Lay} {σ : Mem} {Q : Lay → Option Value → Mem → Prop} {Qx : Lay → String → Mem → Prop} {hm f u : Nat} {k : Int32} (hW : LAY w) (hR : REL hm σ f u) (hb9 : hm ≤ 800000) (hq : ∀ τ, LR (fun μ => μ = σ) (fun μ => μ = σ) (aOf 2 (rd σ 13 1) k) τ → Q w (some (.int (nI (aOf 2 (rd σ 13 1) k).1))) τ) : ML_stringLength G w σ [.ref (w.2.1 12 0), .int k, .ref (w.2.1 13 9)] Q Qx := by
  exact c_L_stringLength (a := aOf 2 (rd σ 13 1) k) (P := fun μ => μ = σ) (PX := fun μ => μ = σ) hW.1 hW.2.1 hW.2.2.2 (fun Q1 Qx1 h0 h1 => c_X9_stringLength hW.1 (hW.2.2.1 0 (by decide)) hR.1.2.1 hR.1.1 (hq := fun e => h0 e _ rfl) (hx1 := fun e => h1 e _ rfl)) hq
theorem pr_stringLength {G : GC} {w : Lay} {σ τ : Mem} {Q : Lay → Option Value → Mem → Prop} {Qx : Lay → String → Mem → Prop} {hm f u : Nat} {k : Int32} (hW : LAY w) (hR : REL hm σ f u) (hb9 : hm ≤ 800000) (hL : LR (fun μ => μ = σ) (fun μ => μ = σ) (aOf 2 (rd σ 13 1) k) τ) (hq : ∀ b τ2, PAR (hm + 960) (aOf 2 (rd σ 13 1) k) b τ2 → Q w (some (.int b)) τ2) : MX10_stringLength G w τ [.ref (w.2.1 13 0), .int k] Q Qx := by
  have e1 : rd τ 13 1 = rd σ 13 1 := LR_q1 hL
  refine c_X10_stringLength hW.2.1 (hm := hm) (by rw [e1]; exact hR.1.1) ?_
  rw [e1]
  exact hq _ _ (PR_q hR (by omega) hL)
theorem pc_colourOf {G : GC} {w : Lay} {σ : Mem} {Q : Lay → Option Value → Mem → Prop} {Qx : Lay → String → Mem → Prop} {hm f u : Nat} {k : Int32} (hW : LAY w) (hR : REL hm σ f u) (hb9 : hm ≤ 800000) (hq : ∀ τ, LR (fun μ => μ = σ) (fun μ => μ = σ) (aOf 3 (rd σ 13 1) k) τ → Q w (some (.int (nI (aOf 3 (rd σ 13 1) k).1))) τ) : ML_colourOf G w σ [.ref (w.2.1 12 0), .int k, .ref (w.2.1 13 9)] Q Qx := by
  exact c_L_colourOf (a := aOf 3 (rd σ 13 1) k) (P := fun μ => μ = σ) (PX := fun μ => μ = σ) hW.1 hW.2.1 hW.2.2.2 (fun Q1 Qx1 h0 h1 => c_X9_colourOf hW.1 (hW.2.2.1 0 (by decide)) hR.1.2.1 hR.1.1 (hq := fun e => h0 e _ rfl) (hx1 := fun e => h1 e _ rfl)) hq
theorem pr_colourOf {G : GC} {w : Lay} {σ τ : Mem} {Q : Lay → Option Value → Mem → Prop} {Qx : Lay → String → Mem → Prop} {hm f u : Nat} {k : Int32} (hW : LAY w) (hR : REL hm σ f u) (hb9 : hm ≤ 800000) (hL : LR (fun μ => μ = σ) (fun μ => μ = σ) (aOf 3 (rd σ 13 1) k) τ) (hq : ∀ b τ2, PAR (hm + 960) (aOf 3 (rd σ 13 1) k) b τ2 → Q w (some (.int b)) τ2) : MX10_colourOf G w τ [.ref (w.2.1 13 0), .int k] Q Qx := by
  have e1 : rd τ 13 1 = rd σ 13 1 := LR_q1 hL
  refine c_X10_colourOf hW.2.1 (hm := hm) (by rw [e1]; exact hR.1.1) ?_
  rw [e1]
  exact hq _ _ (PR_q hR (by omega) hL)
theorem pc_knots {G : GC} {w : Lay} {σ : Mem} {Q : Lay → Option Value → Mem → Prop} {Qx : Lay → String → Mem → Prop} {hm f u : Nat} {k : Int32} (hW : LAY w) (hR : REL hm σ f u) (hb9 : hm ≤ 800000) (hq : ∀ τ, LR (fun μ => μ = σ) (fun μ => μ = σ) (aOf 4 (rd σ 13 1) k) τ → Q w (some (.int (nI (aOf 4 (rd σ 13 1) k).1))) τ) : ML_knots G w σ [.ref (w.2.1 12 0), .int k, .ref (w.2.1 13 9)] Q Qx := by
  exact c_L_knots (a := aOf 4 (rd σ 13 1) k) (P := fun μ => μ = σ) (PX := fun μ => μ = σ) hW.1 hW.2.1 hW.2.2.2 (fun Q1 Qx1 h0 h1 => c_X9_knots hW.1 (hW.2.2.1 0 (by decide)) hR.1.2.1 hR.1.1 (hq := fun e => h0 e _ rfl) (hx1 := fun e => h1 e _ rfl)) hq
theorem pr_knots {G : GC} {w : Lay} {σ τ : Mem} {Q : Lay → Option Value → Mem → Prop} {Qx : Lay → String → Mem → Prop} {hm f u : Nat} {k : Int32} (hW : LAY w) (hR : REL hm σ f u) (hb9 : hm ≤ 800000) (hL : LR (fun μ => μ = σ) (fun μ => μ = σ) (aOf 4 (rd σ 13 1) k) τ) (hq : ∀ b τ2, PAR (hm + 960) (aOf 4 (rd σ 13 1) k) b τ2 → Q w (some (.int b)) τ2) : MX10_knots G w τ [.ref (w.2.1 13 0), .int k] Q Qx := by
  have e1 : rd τ 13 1 = rd σ 13 1 := LR_q1 hL
  refine c_X10_knots hW.2.1 (hm := hm) (by rw [e1]; exact hR.1.1) ?_
  rw [e1]
  exact hq _ _ (PR_q hR (by omega) hL)
theorem pc_purse {G : GC} {w : Lay} {σ : Mem} {Q : Lay → Option Value → Mem → Prop} {Qx : Lay → String → Mem → Prop} {hm f u : Nat} {k : Int32} (hW : LAY w) (hR : REL hm σ f u) (hb9 : hm ≤ 800000) (hq : ∀ τ, LR (fun μ => μ = σ) (fun μ => μ = σ) (aOf 5 (rd σ 13 1) k) τ → Q w (some (.int (nI (aOf 5 (rd σ 13 1) k).1))) τ) : ML_purse G w σ [.ref (w.2.1 12 0), .int k, .ref (w.2.1 13 9)] Q Qx := by
  exact c_L_purse (a := aOf 5 (rd σ 13 1) k) (P := fun μ => μ = σ) (PX := fun μ => μ = σ) hW.1 hW.2.1 hW.2.2.2 (fun Q1 Qx1 h0 h1 => c_X9_purse hW.1 (hW.2.2.1 0 (by decide)) hR.1.2.1 hR.1.1 (hq := fun e => h0 e _ rfl) (hx1 := fun e => h1 e _ rfl)) hq
theorem pr_purse {G : GC} {w : Lay} {σ τ : Mem} {Q : Lay → Option Value → Mem → Prop} {Qx : Lay → String → Mem → Prop} {hm f u : Nat} {k : Int32} (hW : LAY w) (hR : REL hm σ f u) (hb9 : hm ≤ 800000) (hL : LR (fun μ => μ = σ) (fun μ => μ = σ) (aOf 5 (rd σ 13 1) k) τ) (hq : ∀ b τ2, PAR (hm + 960) (aOf 5 (rd σ 13 1) k) b τ2 → Q w (some (.int b)) τ2) : MX10_purse G w τ [.ref (w.2.1 13 0), .int k] Q Qx := by
  have e1 : rd τ 13 1 = rd σ 13 1 := LR_q1 hL
  refine c_X10_purse hW.2.1 (hm := hm) (by rw [e1]; exact hR.1.1) ?_
  rw [e1]
  exact hq _ _ (PR_q hR (by omega) hL)
theorem pc_stateOf {G : GC} {w : Lay} {σ : Mem} {Q : Lay → Option Value → Mem → Prop} {Qx : Lay → String → Mem → Prop} {hm f u : Nat} {k : Int32} (hW : LAY w) (hR : REL hm σ f u) (hb9 : hm ≤ 800000) (hq : ∀ τ, LR (fun μ => μ = σ) (fun μ => μ = σ) (aOf 6 (rd σ 13 1) k) τ → Q w (some (.int (nI (aOf 6 (rd σ 13 1) k).1))) τ) : ML_stateOf G w σ [.ref (w.2.1 12 0), .int k, .ref (w.2.1 13 9)] Q Qx := by
  exact c_L_stateOf (a := aOf 6 (rd σ 13 1) k) (P := fun μ => μ = σ) (PX := fun μ => μ = σ) hW.1 hW.2.1 hW.2.2.2 (fun Q1 Qx1 h0 h1 => c_X9_stateOf hW.1 (hW.2.2.1 0 (by decide)) hR.1.2.1 hR.1.1 (hq := fun e => h0 e _ rfl) (hx1 := fun e => h1 e _ rfl)) hq
theorem pr_stateOf {G : GC} {w : Lay} {σ τ : Mem} {Q : Lay → Option Value → Mem → Prop} {Qx : Lay → String → Mem → Prop} {hm f u : Nat} {k : Int32} (hW : LAY w) (hR : REL hm σ f u) (hb9 : hm ≤ 800000) (hL : LR (fun μ => μ = σ) (fun μ => μ = σ) (aOf 6 (rd σ 13 1) k) τ) (hq : ∀ b τ2, PAR (hm + 960) (aOf 6 (rd σ 13 1) k) b τ2 → Q w (some (.int b)) τ2) : MX10_stateOf G w τ [.ref (w.2.1 13 0), .int k] Q Qx := by
  have e1 : rd τ 13 1 = rd σ 13 1 := LR_q1 hL
  refine c_X10_stateOf hW.2.1 (hm := hm) (by rw [e1]; exact hR.1.1) ?_
  rw [e1]
  exact hq _ _ (PR_q hR (by omega) hL)
theorem pc_tangles {G : GC} {w : Lay} {σ : Mem} {Q : Lay → Option Value → Mem → Prop} {Qx : Lay → String → Mem → Prop} {hm f u : Nat} {k : Int32} (hW : LAY w) (hR : REL hm σ f u) (hb9 : hm ≤ 800000) (hq : ∀ τ, LR (fun μ => μ = σ) (fun μ => μ = σ) (aOf 7 (rd σ 13 1) k) τ → Q w (some (.int (nI (aOf 7 (rd σ 13 1) k).1))) τ) : ML_tangles G w σ [.ref (w.2.1 12 0), .int k, .ref (w.2.1 13 9)] Q Qx := by
  exact c_L_tangles (a := aOf 7 (rd σ 13 1) k) (P := fun μ => μ = σ) (PX := fun μ => μ = σ) hW.1 hW.2.1 hW.2.2.2 (fun Q1 Qx1 h0 h1 => c_X9_tangles hW.1 (hW.2.2.1 0 (by decide)) hR.1.2.1 hR.1.1 (hq := fun e => h0 e _ rfl) (hx1 := fun e => h1 e _ rfl)) hq
theorem pr_tangles {G : GC} {w : Lay} {σ τ : Mem} {Q : Lay → Option Value → Mem → Prop} {Qx : Lay → String → Mem → Prop} {hm f u : Nat} {k : Int32} (hW : LAY w) (hR : REL hm σ f u) (hb9 : hm ≤ 800000) (hL : LR (fun μ => μ = σ) (fun μ => μ = σ) (aOf 7 (rd σ 13 1) k) τ) (hq : ∀ b τ2, PAR (hm + 960) (aOf 7 (rd σ 13 1) k) b τ2 → Q w (some (.int b)) τ2) : MX10_tangles G w τ [.ref (w.2.1 13 0), .int k] Q Qx := by
  have e1 : rd τ 13 1 = rd σ 13 1 := LR_q1 hL
  refine c_X10_tangles hW.2.1 (hm := hm) (by rw [e1]; exact hR.1.1) ?_
  rw [e1]
  exact hq _ _ (PR_q hR (by omega) hL)
theorem pc_zoneOf {G : GC} {w : Lay} {σ : Mem} {Q : Lay → Option Value → Mem → Prop} {Qx : Lay → String → Mem → Prop} {hm f u : Nat} {k : Int32} (hW : LAY w) (hR : REL hm σ f u) (hb9 : hm ≤ 800000) (hq : ∀ τ, LR (fun μ => μ = σ) (fun μ => μ = σ) (aZO (rd σ 13 1) k) τ → Q w (some (.int (nI (aZO (rd σ 13 1) k).1))) τ) : ML_zoneOf G w σ [.ref (w.2.1 12 0), .int k, .ref (w.2.1 13 9)] Q Qx := by
  exact c_L_zoneOf (a := aZO (rd σ 13 1) k) (P := fun μ => μ = σ) (PX := fun μ => μ = σ) hW.1 hW.2.1 hW.2.2.2 (fun Q1 Qx1 h0 h1 => c_X9_zoneOf hW.1 (hW.2.2.1 0 (by decide)) hR.1.2.1 hR.1.1 (hq := fun e => h0 e _ rfl) (hx1 := fun e => h1 e _ rfl)) hq
theorem pr_zoneOf {G : GC} {w : Lay} {σ τ : Mem} {Q : Lay → Option Value → Mem → Prop} {Qx : Lay → String → Mem → Prop} {hm f u : Nat} {k : Int32} (hW : LAY w) (hR : REL hm σ f u) (hb9 : hm ≤ 800000) (hL : LR (fun μ => μ = σ) (fun μ => μ = σ) (aZO (rd σ 13 1) k) τ) (hq : ∀ b τ2, PAR (hm + 960) (aZO (rd σ 13 1) k) b τ2 → Q w (some (.int b)) τ2) : MX10_zoneOf G w τ [.ref (w.2.1 13 0), .int k] Q Qx := by
  have e1 : rd τ 13 1 = rd σ 13 1 := LR_q1 hL
  refine c_X10_zoneOf hW.2.1 (hm := hm) (by rw [e1]; exact hR.1.1) ?_
  rw [e1]
  exact hq _ _ (PR_q hR (by omega) hL)
theorem pc_reach {G : GC} {w : Lay} {σ : Mem} {Q : Lay → Option Value → Mem → Prop} {Qx : Lay → String → Mem → Prop} {hm f u : Nat} {k h : Int32} (hW : LAY w) (hR : REL hm σ f u) (hb9 : hm ≤ 800000) (hq : ∀ τ, LR (fun μ => μ = σ) (fun μ => μ = σ) (aRe (rd σ 13 1) k h) τ → Q w (some (.int (nI (aRe (rd σ 13 1) k h).1))) τ) : ML_reach G w σ [.ref (w.2.1 12 0), .int k, .int h, .ref (w.2.1 13 9)] Q Qx := by
  exact c_L_reach (a := aRe (rd σ 13 1) k h) (P := fun μ => μ = σ) (PX := fun μ => μ = σ) hW.1 hW.2.1 hW.2.2.2 (fun Q1 Qx1 h0 h1 h2 => c_X9_reach hW.1 (hW.2.2.1 0 (by decide)) hR.1.2.1 hR.1.1 (hq := fun e => h0 e _ rfl) (hx1 := fun e => h1 e _ rfl) (hx2 := fun e => h2 e _ rfl)) hq
theorem pr_reach {G : GC} {w : Lay} {σ τ : Mem} {Q : Lay → Option Value → Mem → Prop} {Qx : Lay → String → Mem → Prop} {hm f u : Nat} {k h : Int32} (hW : LAY w) (hR : REL hm σ f u) (hb9 : hm ≤ 800000) (hL : LR (fun μ => μ = σ) (fun μ => μ = σ) (aRe (rd σ 13 1) k h) τ) (hq : ∀ b τ2, PAR (hm + 960) (aRe (rd σ 13 1) k h) b τ2 → Q w (some (.int b)) τ2) : MX10_reach G w τ [.ref (w.2.1 13 0), .int k, .int h] Q Qx := by
  have e1 : rd τ 13 1 = rd σ 13 1 := LR_q1 hL
  refine c_X10_reach hW.2.1 (hm := hm) (by rw [e1]; exact hR.1.1) ?_
  rw [e1]
  exact hq _ _ (PR_q hR (by omega) hL)
theorem pc_endX {G : GC} {w : Lay} {σ : Mem} {Q : Lay → Option Value → Mem → Prop} {Qx : Lay → String → Mem → Prop} {hm f u : Nat} {k h : Int32} (hW : LAY w) (hR : REL hm σ f u) (hb9 : hm ≤ 800000) (hq : ∀ τ, LR (fun μ => μ = σ) (fun μ => μ = σ) (aEX (rd σ 13 1) k h) τ → Q w (some (.int (nI (aEX (rd σ 13 1) k h).1))) τ) : ML_endX G w σ [.ref (w.2.1 12 0), .int k, .int h, .ref (w.2.1 13 9)] Q Qx := by
  exact c_L_endX (a := aEX (rd σ 13 1) k h) (P := fun μ => μ = σ) (PX := fun μ => μ = σ) hW.1 hW.2.1 hW.2.2.2 (fun Q1 Qx1 h0 h1 h2 => c_X9_endX hW.1 (hW.2.2.1 0 (by decide)) hR.1.2.1 hR.1.1 (hq := fun e => h0 e _ rfl) (hx1 := fun e => h1 e _ rfl) (hx2 := fun e => h2 e _ rfl)) hq
theorem pr_endX {G : GC} {w : Lay} {σ τ : Mem} {Q : Lay → Option Value → Mem → Prop} {Qx : Lay → String → Mem → Prop} {hm f u : Nat} {k h : Int32} (hW : LAY w) (hR : REL hm σ f u) (hb9 : hm ≤ 800000) (hL : LR (fun μ => μ = σ) (fun μ => μ = σ) (aEX (rd σ 13 1) k h) τ) (hq : ∀ b τ2, PAR (hm + 960) (aEX (rd σ 13 1) k h) b τ2 → Q w (some (.int b)) τ2) : MX10_endX G w τ [.ref (w.2.1 13 0), .int k, .int h] Q Qx := by
  have e1 : rd τ 13 1 = rd σ 13 1 := LR_q1 hL
  refine c_X10_endX hW.2.1 (hm := hm) (by rw [e1]; exact hR.1.1) ?_
  rw [e1]
  exact hq _ _ (PR_q hR (by omega) hL)
theorem pc_endY {G : GC} {w : Lay} {σ : Mem} {Q : Lay → Option Value → Mem → Prop} {Qx : Lay → String → Mem → Prop} {hm f u : Nat} {k h : Int32} (hW : LAY w) (hR : REL hm σ f u) (hb9 : hm ≤ 800000) (hq : ∀ τ, LR (fun μ => μ = σ) (fun μ => μ = σ) (aEY (rd σ 13 1) k h) τ → Q w (some (.int (nI (aEY (rd σ 13 1) k h).1))) τ) : ML_endY G w σ [.ref (w.2.1 12 0), .int k, .int h, .ref (w.2.1 13 9)] Q Qx := by
  exact c_L_endY (a := aEY (rd σ 13 1) k h) (P := fun μ => μ = σ) (PX := fun μ => μ = σ) hW.1 hW.2.1 hW.2.2.2 (fun Q1 Qx1 h0 h1 h2 => c_X9_endY hW.1 (hW.2.2.1 0 (by decide)) hR.1.2.1 hR.1.1 (hq := fun e => h0 e _ rfl) (hx1 := fun e => h1 e _ rfl) (hx2 := fun e => h2 e _ rfl)) hq
theorem pr_endY {G : GC} {w : Lay} {σ τ : Mem} {Q : Lay → Option Value → Mem → Prop} {Qx : Lay → String → Mem → Prop} {hm f u : Nat} {k h : Int32} (hW : LAY w) (hR : REL hm σ f u) (hb9 : hm ≤ 800000) (hL : LR (fun μ => μ = σ) (fun μ => μ = σ) (aEY (rd σ 13 1) k h) τ) (hq : ∀ b τ2, PAR (hm + 960) (aEY (rd σ 13 1) k h) b τ2 → Q w (some (.int b)) τ2) : MX10_endY G w τ [.ref (w.2.1 13 0), .int k, .int h] Q Qx := by
  have e1 : rd τ 13 1 = rd σ 13 1 := LR_q1 hL
  refine c_X10_endY hW.2.1 (hm := hm) (by rw [e1]; exact hR.1.1) ?_
  rw [e1]
  exact hq _ _ (PR_q hR (by omega) hL)
theorem pc_canFly {G : GC} {w : Lay} {σ : Mem} {Q : Lay → Option Value → Mem → Prop} {Qx : Lay → String → Mem → Prop} {hm f u : Nat} {k h : Int32} (hW : LAY w) (hR : REL hm σ f u) (hb9 : hm ≤ 800000) (hq : ∀ τ, LR (fun μ => μ = σ) (fun μ => μ = σ) (aCF (rd σ 13 1) k h) τ → Q w (some (.int (nI (aCF (rd σ 13 1) k h).1))) τ) : ML_canFly G w σ [.ref (w.2.1 12 0), .int k, .int h, .ref (w.2.1 13 9)] Q Qx := by
  exact c_L_canFly (a := aCF (rd σ 13 1) k h) (P := fun μ => μ = σ) (PX := fun μ => μ = σ) hW.1 hW.2.1 hW.2.2.2 (by unfold aCF; exact chk_b (chk_b (ct_b _))) (fun Q1 Qx1 h0 h1 h2 => c_X9_canFly hW.1 (hW.2.2.1 0 (by decide)) hR.1.2.1 hR.1.1 (hq := fun e => h0 e _ rfl) (hx1 := fun e => h1 e _ rfl) (hx2 := fun e => h2 e _ rfl)) hq
theorem pr_canFly {G : GC} {w : Lay} {σ τ : Mem} {Q : Lay → Option Value → Mem → Prop} {Qx : Lay → String → Mem → Prop} {hm f u : Nat} {k h : Int32} (hW : LAY w) (hR : REL hm σ f u) (hb9 : hm ≤ 800000) (hL : LR (fun μ => μ = σ) (fun μ => μ = σ) (aCF (rd σ 13 1) k h) τ) (hq : ∀ b τ2, PAR (hm + 960) (aCF (rd σ 13 1) k h) b τ2 → Q w (some (.int b)) τ2) : MX10_canFly G w τ [.ref (w.2.1 13 0), .int k, .int h] Q Qx := by
  have e1 : rd τ 13 1 = rd σ 13 1 := LR_q1 hL
  refine c_X10_canFly hW.2.1 (hm := hm) (by rw [e1]; exact hR.1.1) ?_
  rw [e1]
  exact hq _ _ (PR_q hR (by omega) hL)
theorem pc_doCross {G : GC} {w : Lay} {σ : Mem} {Q : Lay → Option Value → Mem → Prop} {Qx : Lay → String → Mem → Prop} {hm f u : Nat} {k i h : Int32} (hW : LAY w) (hR : REL hm σ f u) (hb9 : hm ≤ 800000) (hq : ∀ τ, LR (fun μ => μ = σ) (fun μ => μ = σ) (aDC (rd σ 13 1) k i h) τ → Q w (some (.int (nI (aDC (rd σ 13 1) k i h).1))) τ) : ML_doCross G w σ [.ref (w.2.1 12 0), .int k, .int i, .int h, .ref (w.2.1 13 9)] Q Qx := by
  exact c_L_doCross (a := aDC (rd σ 13 1) k i h) (P := fun μ => μ = σ) (PX := fun μ => μ = σ) hW.1 hW.2.1 hW.2.2.2 (by unfold aDC; exact chk_b (chk_b (chk_b (chk_b (ct_b _))))) (fun Q1 Qx1 h0 h1 h2 => c_X9_doCross hW.1 (hW.2.2.1 0 (by decide)) hR.1.2.1 hR.1.1 (hq := fun e => h0 e _ rfl) (hx1 := fun e => h1 e _ rfl) (hx2 := fun e => h2 e _ rfl)) hq
theorem pr_doCross {G : GC} {w : Lay} {σ τ : Mem} {Q : Lay → Option Value → Mem → Prop} {Qx : Lay → String → Mem → Prop} {hm f u : Nat} {k i h : Int32} (hW : LAY w) (hR : REL hm σ f u) (hb9 : hm ≤ 800000) (hL : LR (fun μ => μ = σ) (fun μ => μ = σ) (aDC (rd σ 13 1) k i h) τ) (hq : ∀ b τ2, PAR (hm + 960) (aDC (rd σ 13 1) k i h) b τ2 → Q w (some (.int b)) τ2) : MX10_doCross G w τ [.ref (w.2.1 13 0), .int k, .int i, .int h] Q Qx := by
  have e1 : rd τ 13 1 = rd σ 13 1 := LR_q1 hL
  refine c_X10_doCross hW.2.1 (hm := hm) (by rw [e1]; exact hR.1.1) ?_
  rw [e1]
  exact hq _ _ (PR_q hR (by omega) hL)
theorem pc_permitKite {G : GC} {w : Lay} {σ : Mem} {Q : Lay → Option Value → Mem → Prop} {Qx : Lay → String → Mem → Prop} {hm f u : Nat} {p : Int32} (hW : LAY w) (hR : REL hm σ f u) (hb9 : hm ≤ 800000) (hq : ∀ τ, LR (fun μ => μ = σ) (fun μ => μ = σ) (aPf 0 (rd σ 13 1) p) τ → Q w (some (.int (nI (aPf 0 (rd σ 13 1) p).1))) τ) : ML_permitKite G w σ [.ref (w.2.1 12 0), .int p, .ref (w.2.1 13 9)] Q Qx := by
  exact c_L_permitKite (a := aPf 0 (rd σ 13 1) p) (P := fun μ => μ = σ) (PX := fun μ => μ = σ) hW.1 hW.2.1 hW.2.2.2 (fun Q1 Qx1 h0 h1 => c_X9_permitKite hW.1 (hW.2.2.1 0 (by decide)) hR.1.2.1 hR.1.1 (hq := fun e => h0 e _ rfl) (hx1 := fun e => h1 e _ rfl)) hq
theorem pr_permitKite {G : GC} {w : Lay} {σ τ : Mem} {Q : Lay → Option Value → Mem → Prop} {Qx : Lay → String → Mem → Prop} {hm f u : Nat} {p : Int32} (hW : LAY w) (hR : REL hm σ f u) (hb9 : hm ≤ 800000) (hL : LR (fun μ => μ = σ) (fun μ => μ = σ) (aPf 0 (rd σ 13 1) p) τ) (hq : ∀ b τ2, PAR (hm + 960) (aPf 0 (rd σ 13 1) p) b τ2 → Q w (some (.int b)) τ2) : MX10_permitKite G w τ [.ref (w.2.1 13 0), .int p] Q Qx := by
  have e1 : rd τ 13 1 = rd σ 13 1 := LR_q1 hL
  refine c_X10_permitKite hW.2.1 (hm := hm) (by rw [e1]; exact hR.1.1) ?_
  rw [e1]
  exact hq _ _ (PR_q hR (by omega) hL)
theorem pc_permitStart {G : GC} {w : Lay} {σ : Mem} {Q : Lay → Option Value → Mem → Prop} {Qx : Lay → String → Mem → Prop} {hm f u : Nat} {p : Int32} (hW : LAY w) (hR : REL hm σ f u) (hb9 : hm ≤ 800000) (hq : ∀ τ, LR (fun μ => μ = σ) (fun μ => μ = σ) (aPf 1 (rd σ 13 1) p) τ → Q w (some (.int (nI (aPf 1 (rd σ 13 1) p).1))) τ) : ML_permitStart G w σ [.ref (w.2.1 12 0), .int p, .ref (w.2.1 13 9)] Q Qx := by
  exact c_L_permitStart (a := aPf 1 (rd σ 13 1) p) (P := fun μ => μ = σ) (PX := fun μ => μ = σ) hW.1 hW.2.1 hW.2.2.2 (fun Q1 Qx1 h0 h1 => c_X9_permitStart hW.1 (hW.2.2.1 0 (by decide)) hR.1.2.1 hR.1.1 (hq := fun e => h0 e _ rfl) (hx1 := fun e => h1 e _ rfl)) hq
theorem pr_permitStart {G : GC} {w : Lay} {σ τ : Mem} {Q : Lay → Option Value → Mem → Prop} {Qx : Lay → String → Mem → Prop} {hm f u : Nat} {p : Int32} (hW : LAY w) (hR : REL hm σ f u) (hb9 : hm ≤ 800000) (hL : LR (fun μ => μ = σ) (fun μ => μ = σ) (aPf 1 (rd σ 13 1) p) τ) (hq : ∀ b τ2, PAR (hm + 960) (aPf 1 (rd σ 13 1) p) b τ2 → Q w (some (.int b)) τ2) : MX10_permitStart G w τ [.ref (w.2.1 13 0), .int p] Q Qx := by
  have e1 : rd τ 13 1 = rd σ 13 1 := LR_q1 hL
  refine c_X10_permitStart hW.2.1 (hm := hm) (by rw [e1]; exact hR.1.1) ?_
  rw [e1]
  exact hq _ _ (PR_q hR (by omega) hL)
theorem pc_permitDuration {G : GC} {w : Lay} {σ : Mem} {Q : Lay → Option Value → Mem → Prop} {Qx : Lay → String → Mem → Prop} {hm f u : Nat} {p : Int32} (hW : LAY w) (hR : REL hm σ f u) (hb9 : hm ≤ 800000) (hq : ∀ τ, LR (fun μ => μ = σ) (fun μ => μ = σ) (aPf 2 (rd σ 13 1) p) τ → Q w (some (.int (nI (aPf 2 (rd σ 13 1) p).1))) τ) : ML_permitDuration G w σ [.ref (w.2.1 12 0), .int p, .ref (w.2.1 13 9)] Q Qx := by
  exact c_L_permitDuration (a := aPf 2 (rd σ 13 1) p) (P := fun μ => μ = σ) (PX := fun μ => μ = σ) hW.1 hW.2.1 hW.2.2.2 (fun Q1 Qx1 h0 h1 => c_X9_permitDuration hW.1 (hW.2.2.1 0 (by decide)) hR.1.2.1 hR.1.1 (hq := fun e => h0 e _ rfl) (hx1 := fun e => h1 e _ rfl)) hq
theorem pr_permitDuration {G : GC} {w : Lay} {σ τ : Mem} {Q : Lay → Option Value → Mem → Prop} {Qx : Lay → String → Mem → Prop} {hm f u : Nat} {p : Int32} (hW : LAY w) (hR : REL hm σ f u) (hb9 : hm ≤ 800000) (hL : LR (fun μ => μ = σ) (fun μ => μ = σ) (aPf 2 (rd σ 13 1) p) τ) (hq : ∀ b τ2, PAR (hm + 960) (aPf 2 (rd σ 13 1) p) b τ2 → Q w (some (.int b)) τ2) : MX10_permitDuration G w τ [.ref (w.2.1 13 0), .int p] Q Qx := by
  have e1 : rd τ 13 1 = rd σ 13 1 := LR_q1 hL
  refine c_X10_permitDuration hW.2.1 (hm := hm) (by rw [e1]; exact hR.1.1) ?_
  rw [e1]
  exact hq _ _ (PR_q hR (by omega) hL)
theorem pc_hasPermit {G : GC} {w : Lay} {σ : Mem} {Q : Lay → Option Value → Mem → Prop} {Qx : Lay → String → Mem → Prop} {hm f u : Nat} {k h : Int32} (hW : LAY w) (hR : REL hm σ f u) (hb9 : hm ≤ 800000) (hq : ∀ τ, LR (fun μ => μ = σ) (fun μ => μ = σ) (aHP (rd σ 13 1) k h) τ → Q w (some (.int (nI (aHP (rd σ 13 1) k h).1))) τ) : ML_hasPermit G w σ [.ref (w.2.1 12 0), .int k, .int h, .ref (w.2.1 13 9)] Q Qx := by
  exact c_L_hasPermit (a := aHP (rd σ 13 1) k h) (P := fun μ => μ = σ) (PX := fun μ => μ = σ) hW.1 hW.2.1 hW.2.2.2 (by unfold aHP; exact chk_b (chk_b (ct_b _))) (fun Q1 Qx1 h0 h1 h2 => c_X9_hasPermit hW.1 (hW.2.2.1 0 (by decide)) hR.1.2.1 hR.1.1 (hq := fun e => h0 e _ rfl) (hx1 := fun e => h1 e _ rfl) (hx2 := fun e => h2 e _ rfl)) hq
theorem pr_hasPermit {G : GC} {w : Lay} {σ τ : Mem} {Q : Lay → Option Value → Mem → Prop} {Qx : Lay → String → Mem → Prop} {hm f u : Nat} {k h : Int32} (hW : LAY w) (hR : REL hm σ f u) (hb9 : hm ≤ 800000) (hL : LR (fun μ => μ = σ) (fun μ => μ = σ) (aHP (rd σ 13 1) k h) τ) (hq : ∀ b τ2, PAR (hm + 960) (aHP (rd σ 13 1) k h) b τ2 → Q w (some (.int b)) τ2) : MX10_hasPermit G w τ [.ref (w.2.1 13 0), .int k, .int h] Q Qx := by
  have e1 : rd τ 13 1 = rd σ 13 1 := LR_q1 hL
  refine c_X10_hasPermit hW.2.1 (hm := hm) (by rw [e1]; exact hR.1.1) ?_
  rw [e1]
  exact hq _ _ (PR_q hR (by omega) hL)
theorem pc_whyNotPermit {G : GC} {w : Lay} {σ : Mem} {Q : Lay → Option Value → Mem → Prop} {Qx : Lay → String → Mem → Prop} {hm f u : Nat} {k s d : Int32} (hW : LAY w) (hR : REL hm σ f u) (hb9 : hm ≤ 800000) (hq : ∀ τ, LR (fun μ => μ = σ) (fun μ => μ = σ) (aWN (rd σ 13 1) k s d) τ → Q w (some (.int (nI (aWN (rd σ 13 1) k s d).1))) τ) : ML_whyNotPermit G w σ [.ref (w.2.1 12 0), .int k, .int s, .int d, .ref (w.2.1 13 9)] Q Qx := by
  exact c_L_whyNotPermit (a := aWN (rd σ 13 1) k s d) (P := fun μ => μ = σ) (PX := fun μ => μ = σ) hW.1 hW.2.1 hW.2.2.2 (fun Q1 Qx1 h0 h1 h2 => c_X9_whyNotPermit hW.1 (hW.2.2.1 0 (by decide)) hR.1.2.1 hR.1.1 (by have q := (r_HOUR hR.1.1).2; omega) (hq := fun e => h0 e _ rfl) (hx1 := fun e => h1 e _ rfl) (hx2 := fun e => h2 e _ rfl)) hq
theorem pr_whyNotPermit {G : GC} {w : Lay} {σ τ : Mem} {Q : Lay → Option Value → Mem → Prop} {Qx : Lay → String → Mem → Prop} {hm f u : Nat} {k s d : Int32} (hW : LAY w) (hR : REL hm σ f u) (hb9 : hm ≤ 800000) (hL : LR (fun μ => μ = σ) (fun μ => μ = σ) (aWN (rd σ 13 1) k s d) τ) (hq : ∀ b τ2, PAR (hm + 960) (aWN (rd σ 13 1) k s d) b τ2 → Q w (some (.int b)) τ2) : MX10_whyNotPermit G w τ [.ref (w.2.1 13 0), .int k, .int s, .int d] Q Qx := by
  have e1 : rd τ 13 1 = rd σ 13 1 := LR_q1 hL
  refine c_X10_whyNotPermit hW.2.1 (hm := hm) (by rw [e1]; exact hR.1.1) (by omega) ?_
  rw [e1]
  exact hq _ _ (PR_q hR (by omega) hL)
theorem pc_kiteInTheWay {G : GC} {w : Lay} {σ : Mem} {Q : Lay → Option Value → Mem → Prop} {Qx : Lay → String → Mem → Prop} {hm f u : Nat} {k s d : Int32} (hW : LAY w) (hR : REL hm σ f u) (hb9 : hm ≤ 800000) (hq : ∀ τ, LR (fun μ => μ = σ) (fun μ => μ = σ) (aKW (rd σ 13 1) k s d) τ → Q w (some (.int (nI (aKW (rd σ 13 1) k s d).1))) τ) : ML_kiteInTheWay G w σ [.ref (w.2.1 12 0), .int k, .int s, .int d, .ref (w.2.1 13 9)] Q Qx := by
  exact c_L_kiteInTheWay (a := aKW (rd σ 13 1) k s d) (P := fun μ => μ = σ) (PX := fun μ => μ = σ) hW.1 hW.2.1 hW.2.2.2 (fun Q1 Qx1 h0 h1 h2 => c_X9_kiteInTheWay hW.1 (hW.2.2.1 0 (by decide)) hR.1.2.1 hR.1.1 (hq := fun e => h0 e _ rfl) (hx1 := fun e => h1 e _ rfl) (hx2 := fun e => h2 e _ rfl)) hq
theorem pr_kiteInTheWay {G : GC} {w : Lay} {σ τ : Mem} {Q : Lay → Option Value → Mem → Prop} {Qx : Lay → String → Mem → Prop} {hm f u : Nat} {k s d : Int32} (hW : LAY w) (hR : REL hm σ f u) (hb9 : hm ≤ 800000) (hL : LR (fun μ => μ = σ) (fun μ => μ = σ) (aKW (rd σ 13 1) k s d) τ) (hq : ∀ b τ2, PAR (hm + 960) (aKW (rd σ 13 1) k s d) b τ2 → Q w (some (.int b)) τ2) : MX10_kiteInTheWay G w τ [.ref (w.2.1 13 0), .int k, .int s, .int d] Q Qx := by
  have e1 : rd τ 13 1 = rd σ 13 1 := LR_q1 hL
  refine c_X10_kiteInTheWay hW.2.1 (hm := hm) (by rw [e1]; exact hR.1.1) ?_
  rw [e1]
  exact hq _ _ (PR_q hR (by omega) hL)
theorem pc_earliestStart {G : GC} {w : Lay} {σ : Mem} {Q : Lay → Option Value → Mem → Prop} {Qx : Lay → String → Mem → Prop} {hm f u : Nat} {k d : Int32} (hW : LAY w) (hR : REL hm σ f u) (hb9 : hm ≤ 800000) (hq : ∀ τ, LR (fun μ => μ = σ) (fun μ => μ = σ) (aES (rd σ 13 1) k d) τ → Q w (some (.int (nI (aES (rd σ 13 1) k d).1))) τ) : ML_earliestStart G w σ [.ref (w.2.1 12 0), .int k, .int d, .ref (w.2.1 13 9)] Q Qx := by
  exact c_L_earliestStart (a := aES (rd σ 13 1) k d) (P := fun μ => μ = σ) (PX := fun μ => μ = σ) hW.1 hW.2.1 hW.2.2.2 (fun Q1 Qx1 h0 h1 h2 => c_X9_earliestStart hW.1 (hW.2.2.1 0 (by decide)) hR.1.2.1 hR.1.1 (by have q := (r_HOUR hR.1.1).2; omega) (hq := fun e => h0 e _ rfl) (hx1 := fun e => h1 e _ rfl) (hx2 := fun e => h2 e _ rfl)) hq
theorem pr_earliestStart {G : GC} {w : Lay} {σ τ : Mem} {Q : Lay → Option Value → Mem → Prop} {Qx : Lay → String → Mem → Prop} {hm f u : Nat} {k d : Int32} (hW : LAY w) (hR : REL hm σ f u) (hb9 : hm ≤ 800000) (hL : LR (fun μ => μ = σ) (fun μ => μ = σ) (aES (rd σ 13 1) k d) τ) (hq : ∀ b τ2, PAR (hm + 960) (aES (rd σ 13 1) k d) b τ2 → Q w (some (.int b)) τ2) : MX10_earliestStart G w τ [.ref (w.2.1 13 0), .int k, .int d] Q Qx := by
  have e1 : rd τ 13 1 = rd σ 13 1 := LR_q1 hL
  refine c_X10_earliestStart hW.2.1 (hm := hm) (by rw [e1]; exact hR.1.1) (by omega) ?_
  rw [e1]
  exact hq _ _ (PR_q hR (by omega) hL)
theorem pc_bestKnots {G : GC} {w : Lay} {σ : Mem} {Q : Lay → Option Value → Mem → Prop} {Qx : Lay → String → Mem → Prop} {hm f u : Nat} {k h : Int32} (hW : LAY w) (hR : REL hm σ f u) (hb9 : hm ≤ 800000) (hq : ∀ τ, LR (fun μ => μ = σ) (fun μ => μ = σ) (aBK (rd σ 13 1) k h) τ → Q w (some (.int (nI (aBK (rd σ 13 1) k h).1))) τ) : ML_bestKnots G w σ [.ref (w.2.1 12 0), .int k, .int h, .ref (w.2.1 13 9)] Q Qx := by
  exact c_L_bestKnots (a := aBK (rd σ 13 1) k h) (P := fun μ => μ = σ) (PX := fun μ => μ = σ) hW.1 hW.2.1 hW.2.2.2 (fun Q1 Qx1 h0 h1 h2 => c_X9_bestKnots hW.1 (hW.2.2.1 0 (by decide)) hR.1.2.1 hR.1.1 (hq := fun e => h0 e _ rfl) (hx1 := fun e => h1 e _ rfl) (hx2 := fun e => h2 e _ rfl)) hq
theorem pr_bestKnots {G : GC} {w : Lay} {σ τ : Mem} {Q : Lay → Option Value → Mem → Prop} {Qx : Lay → String → Mem → Prop} {hm f u : Nat} {k h : Int32} (hW : LAY w) (hR : REL hm σ f u) (hb9 : hm ≤ 800000) (hL : LR (fun μ => μ = σ) (fun μ => μ = σ) (aBK (rd σ 13 1) k h) τ) (hq : ∀ b τ2, PAR (hm + 960) (aBK (rd σ 13 1) k h) b τ2 → Q w (some (.int b)) τ2) : MX10_bestKnots G w τ [.ref (w.2.1 13 0), .int k, .int h] Q Qx := by
  have e1 : rd τ 13 1 = rd σ 13 1 := LR_q1 hL
  refine c_X10_bestKnots hW.2.1 (hm := hm) (by rw [e1]; exact hR.1.1) ?_
  rw [e1]
  exact hq _ _ (PR_q hR (by omega) hL)
theorem pc_guiltyKite {G : GC} {w : Lay} {σ : Mem} {Q : Lay → Option Value → Mem → Prop} {Qx : Lay → String → Mem → Prop} {hm f u : Nat} {k i : Int32} (hW : LAY w) (hR : REL hm σ f u) (hb9 : hm ≤ 800000) (hq : ∀ τ, LR (fun μ => μ = σ) (fun μ => μ = σ) (aGK (rd σ 13 1) k i) τ → Q w (some (.int (nI (aGK (rd σ 13 1) k i).1))) τ) : ML_guiltyKite G w σ [.ref (w.2.1 12 0), .int k, .int i, .ref (w.2.1 13 9)] Q Qx := by
  exact c_L_guiltyKite (a := aGK (rd σ 13 1) k i) (P := fun μ => μ = σ) (PX := fun μ => μ = σ) hW.1 hW.2.1 hW.2.2.2 (fun Q1 Qx1 h0 h1 h2 h3 => c_X9_guiltyKite hW.1 (hW.2.2.1 0 (by decide)) hR.1.2.1 hR.1.1 (by have q := (r_HOUR hR.1.1).2; omega) (hq := fun e => h0 e _ rfl) (hx1 := fun e => h1 e _ rfl) (hx2 := fun e => h2 e _ rfl) (hx3 := fun e => h3 e _ rfl)) hq
theorem pr_guiltyKite {G : GC} {w : Lay} {σ τ : Mem} {Q : Lay → Option Value → Mem → Prop} {Qx : Lay → String → Mem → Prop} {hm f u : Nat} {k i : Int32} (hW : LAY w) (hR : REL hm σ f u) (hb9 : hm ≤ 800000) (hL : LR (fun μ => μ = σ) (fun μ => μ = σ) (aGK (rd σ 13 1) k i) τ) (hq : ∀ b τ2, PAR (hm + 960) (aGK (rd σ 13 1) k i) b τ2 → Q w (some (.int b)) τ2) : MX10_guiltyKite G w τ [.ref (w.2.1 13 0), .int k, .int i] Q Qx := by
  have e1 : rd τ 13 1 = rd σ 13 1 := LR_q1 hL
  refine c_X10_guiltyKite hW.2.1 (hm := hm) (by rw [e1]; exact hR.1.1) (by omega) ?_
  rw [e1]
  exact hq _ _ (PR_q hR (by omega) hL)
theorem pc_launch {G : GC} {w : Lay} {σ : Mem} {Q : Lay → Option Value → Mem → Prop} {Qx : Lay → String → Mem → Prop} {hm f u : Nat} {k : Int32} (hW : LAY w) (hR : REL hm σ f u) (hb9 : hm ≤ 800000) (hq : ∀ τ, LR (fun μ => ChR σ μ ((f + u) % 8) u (launchA (rd σ 13 1) (cl k))) (fun μ => μ = σ) (aLa (rd σ 13 1) k) τ → Q w (some (.int (nI (aLa (rd σ 13 1) k).1))) τ) : ML_launch G w σ [.ref (w.2.1 12 0), .int k, .ref (w.2.1 13 9)] Q Qx := by
  have hx8 : (f + u) % 8 < 8 := Nat.mod_lt _ (by decide)
  exact c_L_launch (a := aLa (rd σ 13 1) k) (P := fun μ => ChR σ μ ((f + u) % 8) u (launchA (rd σ 13 1) (cl k))) (PX := fun μ => μ = σ) hW.1 hW.2.1 hW.2.2.2 (fun Q1 Qx1 h0 h1 h2 => c_X9_launch hW.1 (hW.2.2.1 0 (by decide)) hR.1.2.1 hR.1.1 (hW.2.2.1 _ (by omega)) hx8 hR.2.1.1.2.2.2 hR.2.1.2.1 hR.2.1.2.2.1 (by have q := (r_HOUR hR.1.1).2; omega) (hq := fun e s hc => h0 e s hc) (hx1 := fun e => h1 e _ rfl) (hx2 := fun e => h2 e _ rfl)) hq
theorem pr_launch {G : GC} {w : Lay} {σ τ : Mem} {Q : Lay → Option Value → Mem → Prop} {Qx : Lay → String → Mem → Prop} {hm f u : Nat} {k : Int32} (hW : LAY w) (hR : REL hm σ f u) (hb9 : hm ≤ 800000) (hL : LR (fun μ => ChR σ μ ((f + u) % 8) u (launchA (rd σ 13 1) (cl k))) (fun μ => μ = σ) (aLa (rd σ 13 1) k) τ) (hq : ∀ b τ2, PAR (hm + 960) (aLa (rd σ 13 1) k) b τ2 → Q w (some (.int b)) τ2) : MX10_launch G w τ [.ref (w.2.1 13 0), .int k] Q Qx := by
  have hx8 : (f + u) % 8 < 8 := Nat.mod_lt _ (by decide)
  have e13 := LR_13 hL (fun s hs c => ChR_13 hx8 hs c)
  have e1 : rd τ 13 1 = rd σ 13 1 := e13 1
  have e8 : rd τ 13 8 = rd σ 13 8 := e13 8
  have hr : ringOK τ f u := ring_0 hR.2.1.1 (congrFun (e13 0) 3) (congrFun (e13 0) 4)
  have hI := hR.1.1
  refine c_X10_launch hW.2.1 (hm := hm) (by rw [e1]; exact hI) (by omega) (hr0 := hr) (fun e => ?_) (fun c hc e => ?_)
  · rw [e1] at e ⊢
    obtain ⟨σ1, hc1, ht⟩ := LR_0 hL e
    obtain ⟨g1, g2, g3, g4⟩ := ls_setA (τ := τ) (f := f) (u := u) (B := launchA (rd σ 13 1) (cl k)) hr
    have hB : RowOK (hm + 960) (launchA (rd σ 13 1) (cl k)) := by
      unfold aLa at e
      have q := okK_lt hI (chk_0 (by decide) e).1
      exact RowOK_mono (RowOK_launch hI q.2) (by omega)
    exact hq _ _ (PR_ch hR (by omega) hB e hc1 ht g1 g2 g3 g4)
  · rw [e1] at e
    obtain ⟨h0, h1⟩ := LR_x hL (by rw [e]; exact hc)
    cases h1
    exact hq _ _ (PR_x hR (by omega) h0 e)
theorem pc_land {G : GC} {w : Lay} {σ : Mem} {Q : Lay → Option Value → Mem → Prop} {Qx : Lay → String → Mem → Prop} {hm f u : Nat} {k : Int32} (hW : LAY w) (hR : REL hm σ f u) (hb9 : hm ≤ 800000) (hq : ∀ τ, LR (fun μ => ChR σ μ ((f + u) % 8) u (stateA (rd σ 13 1) (cl k) 0)) (fun μ => μ = σ) (aLd (rd σ 13 1) k) τ → Q w (some (.int (nI (aLd (rd σ 13 1) k).1))) τ) : ML_land G w σ [.ref (w.2.1 12 0), .int k, .ref (w.2.1 13 9)] Q Qx := by
  have hx8 : (f + u) % 8 < 8 := Nat.mod_lt _ (by decide)
  exact c_L_land (a := aLd (rd σ 13 1) k) (P := fun μ => ChR σ μ ((f + u) % 8) u (stateA (rd σ 13 1) (cl k) 0)) (PX := fun μ => μ = σ) hW.1 hW.2.1 hW.2.2.2 (fun Q1 Qx1 h0 h1 h2 => c_X9_land hW.1 (hW.2.2.1 0 (by decide)) hR.1.2.1 hR.1.1 (hW.2.2.1 _ (by omega)) hx8 hR.2.1.1.2.2.2 hR.2.1.2.1 hR.2.1.2.2.1 (hq := fun e s hc => h0 e s hc) (hx1 := fun e => h1 e _ rfl) (hx2 := fun e => h2 e _ rfl)) hq
theorem pr_land {G : GC} {w : Lay} {σ τ : Mem} {Q : Lay → Option Value → Mem → Prop} {Qx : Lay → String → Mem → Prop} {hm f u : Nat} {k : Int32} (hW : LAY w) (hR : REL hm σ f u) (hb9 : hm ≤ 800000) (hL : LR (fun μ => ChR σ μ ((f + u) % 8) u (stateA (rd σ 13 1) (cl k) 0)) (fun μ => μ = σ) (aLd (rd σ 13 1) k) τ) (hq : ∀ b τ2, PAR (hm + 960) (aLd (rd σ 13 1) k) b τ2 → Q w (some (.int b)) τ2) : MX10_land G w τ [.ref (w.2.1 13 0), .int k] Q Qx := by
  have hx8 : (f + u) % 8 < 8 := Nat.mod_lt _ (by decide)
  have e13 := LR_13 hL (fun s hs c => ChR_13 hx8 hs c)
  have e1 : rd τ 13 1 = rd σ 13 1 := e13 1
  have e8 : rd τ 13 8 = rd σ 13 8 := e13 8
  have hr : ringOK τ f u := ring_0 hR.2.1.1 (congrFun (e13 0) 3) (congrFun (e13 0) 4)
  have hI := hR.1.1
  refine c_X10_land hW.2.1 (hm := hm) (by rw [e1]; exact hI) (hr0 := hr) (fun e => ?_) (fun c hc e => ?_)
  · rw [e1] at e ⊢
    obtain ⟨σ1, hc1, ht⟩ := LR_0 hL e
    obtain ⟨g1, g2, g3, g4⟩ := ls_setA (τ := τ) (f := f) (u := u) (B := stateA (rd σ 13 1) (cl k) 0) hr
    have hB : RowOK (hm + 960) (stateA (rd σ 13 1) (cl k) 0) := by
      unfold aLd at e
      have q := okK_lt hI (chk_0 (by decide) e).1
      exact RowOK_mono (RowOK_state hI q.2 (by decide)) (by omega)
    exact hq _ _ (PR_ch hR (by omega) hB e hc1 ht g1 g2 g3 g4)
  · rw [e1] at e
    obtain ⟨h0, h1⟩ := LR_x hL (by rw [e]; exact hc)
    cases h1
    exact hq _ _ (PR_x hR (by omega) h0 e)
theorem pc_passHours {G : GC} {w : Lay} {σ : Mem} {Q : Lay → Option Value → Mem → Prop} {Qx : Lay → String → Mem → Prop} {hm f u : Nat} {h : Int32} (hW : LAY w) (hR : REL hm σ f u) (hb9 : hm ≤ 800000) (hq : ∀ τ, LR (fun μ => ChR σ μ ((f + u) % 8) u ((passed (cl h) ((rd σ 13 1), rd σ 13 8, 0)).1)) (fun μ => μ = σ) (aPH (rd σ 13 1) (rd σ 13 8) h) τ → Q w (some (.int (nI (aPH (rd σ 13 1) (rd σ 13 8) h).1))) τ) : ML_passHours G w σ [.ref (w.2.1 12 0), .int h, .ref (w.2.1 13 9)] Q Qx := by
  have hx8 : (f + u) % 8 < 8 := Nat.mod_lt _ (by decide)
  exact c_L_passHours (a := aPH (rd σ 13 1) (rd σ 13 8) h) (P := fun μ => ChR σ μ ((f + u) % 8) u ((passed (cl h) ((rd σ 13 1), rd σ 13 8, 0)).1)) (PX := fun μ => μ = σ) hW.1 hW.2.1 hW.2.2.2 (fun Q1 Qx1 h0 h1 => c_X9_passHours hW.1 (hW.2.2.1 0 (by decide)) hR.1.2.1 hR.1.1 (hW.2.2.1 _ (by omega)) hx8 hR.2.1.1.2.2.2 hR.2.1.2.1 hR.2.1.2.2.1 hR.1.2.2.1 (by omega) (hq := fun e s hc => h0 e s hc) (hx1 := fun e => h1 e _ rfl)) hq
theorem pr_passHours {G : GC} {w : Lay} {σ τ : Mem} {Q : Lay → Option Value → Mem → Prop} {Qx : Lay → String → Mem → Prop} {hm f u : Nat} {h : Int32} (hW : LAY w) (hR : REL hm σ f u) (hb9 : hm ≤ 800000) (hL : LR (fun μ => ChR σ μ ((f + u) % 8) u ((passed (cl h) ((rd σ 13 1), rd σ 13 8, 0)).1)) (fun μ => μ = σ) (aPH (rd σ 13 1) (rd σ 13 8) h) τ) (hq : ∀ b τ2, PAR (hm + 960) (aPH (rd σ 13 1) (rd σ 13 8) h) b τ2 → Q w (some (.int b)) τ2) : MX10_passHours G w τ [.ref (w.2.1 13 0), .int h] Q Qx := by
  have hx8 : (f + u) % 8 < 8 := Nat.mod_lt _ (by decide)
  have e13 := LR_13 hL (fun s hs c => ChR_13 hx8 hs c)
  have e1 : rd τ 13 1 = rd σ 13 1 := e13 1
  have e8 : rd τ 13 8 = rd σ 13 8 := e13 8
  have hr : ringOK τ f u := ring_0 hR.2.1.1 (congrFun (e13 0) 3) (congrFun (e13 0) 4)
  have hI := hR.1.1
  refine c_X10_passHours hW.2.1 (hm := hm) (by rw [e1]; exact hI) (by omega) (hr0 := hr) (fun e => ?_) (fun c hc e => ?_)
  · rw [e1, e8] at e ⊢
    obtain ⟨σ1, hc1, ht⟩ := LR_0 hL e
    obtain ⟨g1, g2, g3, g4⟩ := ls_setAK (τ := τ) (f := f) (u := u) (B := (passed (cl h) ((rd σ 13 1), rd σ 13 8, 0)).1) (K := _) hr
    have hB : RowOK (hm + 960) ((passed (cl h) ((rd σ 13 1), rd σ 13 8, 0)).1) := by
      unfold aPH at e
      have q := okN_cl (by decide) (chk_0 (by decide) e).1
      exact RowOK_mono (passed_ok hI (cl h) (by omega)) (by omega)
    exact hq _ _ (PR_ch hR (by omega) hB e hc1 ht g1 g2 g3 g4)
  · rw [e1, e8] at e
    obtain ⟨h0, h1⟩ := LR_x hL (by rw [e]; exact hc)
    cases h1
    exact hq _ _ (PR_x hR (by omega) h0 e)
theorem pc_permit {G : GC} {w : Lay} {σ : Mem} {Q : Lay → Option Value → Mem → Prop} {Qx : Lay → String → Mem → Prop} {hm f u : Nat} {k s d : Int32} (hW : LAY w) (hR : REL hm σ f u) (hb9 : hm ≤ 800000) (hq : ∀ τ, LR (fun μ => ChR σ μ ((f + u) % 8) u (grantA (rd σ 13 1) (cl k) (cl s) (cl d))) (fun μ => μ = σ) (aPe (rd σ 13 1) k s d) τ → Q w (some (.int (nI (aPe (rd σ 13 1) k s d).1))) τ) : ML_permit G w σ [.ref (w.2.1 12 0), .int k, .int s, .int d, .ref (w.2.1 13 9)] Q Qx := by
  have hx8 : (f + u) % 8 < 8 := Nat.mod_lt _ (by decide)
  exact c_L_permit (a := aPe (rd σ 13 1) k s d) (P := fun μ => ChR σ μ ((f + u) % 8) u (grantA (rd σ 13 1) (cl k) (cl s) (cl d))) (PX := fun μ => μ = σ) hW.1 hW.2.1 hW.2.2.2 (fun Q1 Qx1 h0 h1 h2 h3 => c_X9_permit hW.1 (hW.2.2.1 0 (by decide)) hR.1.2.1 hR.1.1 (hW.2.2.1 _ (by omega)) hx8 hR.2.1.1.2.2.2 hR.2.1.2.1 hR.2.1.2.2.1 (by have q := (r_HOUR hR.1.1).2; omega) (hq := fun e s hc => h0 e s hc) (hx1 := fun e => h1 e _ rfl) (hx2 := fun e => h2 e _ rfl) (hx3 := fun e => h3 e _ rfl)) hq
theorem pr_permit {G : GC} {w : Lay} {σ τ : Mem} {Q : Lay → Option Value → Mem → Prop} {Qx : Lay → String → Mem → Prop} {hm f u : Nat} {k s d : Int32} (hW : LAY w) (hR : REL hm σ f u) (hb9 : hm ≤ 800000) (hL : LR (fun μ => ChR σ μ ((f + u) % 8) u (grantA (rd σ 13 1) (cl k) (cl s) (cl d))) (fun μ => μ = σ) (aPe (rd σ 13 1) k s d) τ) (hq : ∀ b τ2, PAR (hm + 960) (aPe (rd σ 13 1) k s d) b τ2 → Q w (some (.int b)) τ2) : MX10_permit G w τ [.ref (w.2.1 13 0), .int k, .int s, .int d] Q Qx := by
  have hx8 : (f + u) % 8 < 8 := Nat.mod_lt _ (by decide)
  have e13 := LR_13 hL (fun s hs c => ChR_13 hx8 hs c)
  have e1 : rd τ 13 1 = rd σ 13 1 := e13 1
  have e8 : rd τ 13 8 = rd σ 13 8 := e13 8
  have hr : ringOK τ f u := ring_0 hR.2.1.1 (congrFun (e13 0) 3) (congrFun (e13 0) 4)
  have hI := hR.1.1
  refine c_X10_permit hW.2.1 (hm := hm) (by rw [e1]; exact hI) (by omega) (hr0 := hr) (fun e => ?_) (fun c hc e => ?_)
  · rw [e1] at e ⊢
    obtain ⟨σ1, hc1, ht⟩ := LR_0 hL e
    obtain ⟨g1, g2, g3, g4⟩ := ls_setA (τ := τ) (f := f) (u := u) (B := grantA (rd σ 13 1) (cl k) (cl s) (cl d)) hr
    have hB : RowOK (hm + 960) (grantA (rd σ 13 1) (cl k) (cl s) (cl d)) := by
      unfold aPe at e
      obtain ⟨q1, e⟩ := chk_0 (by decide) e
      obtain ⟨q2, e⟩ := chk_0 (by decide) e
      obtain ⟨q3, e⟩ := chk_0 (by decide) e
      obtain ⟨q4, e⟩ := chk_0 (by decide) e
      exact RowOK_mono (RowOK_grant hI (okK_lt hI q1).1 (okN_cl (by decide) q2).2 (okN_cl (by decide) q3) (refuse_np hI q4)) (by omega)
    exact hq _ _ (PR_ch hR (by omega) hB e hc1 ht g1 g2 g3 g4)
  · rw [e1] at e
    obtain ⟨h0, h1⟩ := LR_x hL (by rw [e]; exact hc)
    cases h1
    exact hq _ _ (PR_x hR (by omega) h0 e)
theorem pc_cancelPermits {G : GC} {w : Lay} {σ : Mem} {Q : Lay → Option Value → Mem → Prop} {Qx : Lay → String → Mem → Prop} {hm f u : Nat} {k : Int32} (hW : LAY w) (hR : REL hm σ f u) (hb9 : hm ≤ 800000) (hq : ∀ τ, LR (fun μ => ChR σ μ ((f + u) % 8) u ((cancelR (rd σ 13 1) (cl k)).1)) (fun μ => μ = σ) (aCa (rd σ 13 1) k) τ → Q w (some (.int (nI (aCa (rd σ 13 1) k).1))) τ) : ML_cancelPermits G w σ [.ref (w.2.1 12 0), .int k, .ref (w.2.1 13 9)] Q Qx := by
  have hx8 : (f + u) % 8 < 8 := Nat.mod_lt _ (by decide)
  exact c_L_cancelPermits (a := aCa (rd σ 13 1) k) (P := fun μ => ChR σ μ ((f + u) % 8) u ((cancelR (rd σ 13 1) (cl k)).1)) (PX := fun μ => μ = σ) hW.1 hW.2.1 hW.2.2.2 (fun Q1 Qx1 h0 h1 => c_X9_cancelPermits hW.1 (hW.2.2.1 0 (by decide)) hR.1.2.1 hR.1.1 (hW.2.2.1 _ (by omega)) hx8 hR.2.1.1.2.2.2 hR.2.1.2.1 hR.2.1.2.2.1 (hq := fun e s hc => h0 e s hc) (hx1 := fun e => h1 e _ rfl)) hq
theorem pr_cancelPermits {G : GC} {w : Lay} {σ τ : Mem} {Q : Lay → Option Value → Mem → Prop} {Qx : Lay → String → Mem → Prop} {hm f u : Nat} {k : Int32} (hW : LAY w) (hR : REL hm σ f u) (hb9 : hm ≤ 800000) (hL : LR (fun μ => ChR σ μ ((f + u) % 8) u ((cancelR (rd σ 13 1) (cl k)).1)) (fun μ => μ = σ) (aCa (rd σ 13 1) k) τ) (hq : ∀ b τ2, PAR (hm + 960) (aCa (rd σ 13 1) k) b τ2 → Q w (some (.int b)) τ2) : MX10_cancelPermits G w τ [.ref (w.2.1 13 0), .int k] Q Qx := by
  have hx8 : (f + u) % 8 < 8 := Nat.mod_lt _ (by decide)
  have e13 := LR_13 hL (fun s hs c => ChR_13 hx8 hs c)
  have e1 : rd τ 13 1 = rd σ 13 1 := e13 1
  have e8 : rd τ 13 8 = rd σ 13 8 := e13 8
  have hr : ringOK τ f u := ring_0 hR.2.1.1 (congrFun (e13 0) 3) (congrFun (e13 0) 4)
  have hI := hR.1.1
  refine c_X10_cancelPermits hW.2.1 (hm := hm) (by rw [e1]; exact hI) (hr0 := hr) (fun e => ?_) (fun c hc e => ?_)
  · rw [e1] at e ⊢
    obtain ⟨σ1, hc1, ht⟩ := LR_0 hL e
    obtain ⟨g1, g2, g3, g4⟩ := ls_setA (τ := τ) (f := f) (u := u) (B := (cancelR (rd σ 13 1) (cl k)).1) hr
    have hB : RowOK (hm + 960) ((cancelR (rd σ 13 1) (cl k)).1) := by
      exact RowOK_mono (RowOK_rmF hI _ _ _) (by omega)
    exact hq _ _ (PR_ch hR (by omega) hB e hc1 ht g1 g2 g3 g4)
  · rw [e1] at e
    obtain ⟨h0, h1⟩ := LR_x hL (by rw [e]; exact hc)
    cases h1
    exact hq _ _ (PR_x hR (by omega) h0 e)
theorem pc_tieKnots {G : GC} {w : Lay} {σ : Mem} {Q : Lay → Option Value → Mem → Prop} {Qx : Lay → String → Mem → Prop} {hm f u : Nat} {k v : Int32} (hW : LAY w) (hR : REL hm σ f u) (hb9 : hm ≤ 800000) (hq : ∀ τ, LR (fun μ => ChR σ μ ((f + u) % 8) u (tieA (rd σ 13 1) (cl k) (cl v))) (fun μ => μ = σ) (aTi (rd σ 13 1) k v) τ → Q w (some (.int (nI (aTi (rd σ 13 1) k v).1))) τ) : ML_tieKnots G w σ [.ref (w.2.1 12 0), .int k, .int v, .ref (w.2.1 13 9)] Q Qx := by
  have hx8 : (f + u) % 8 < 8 := Nat.mod_lt _ (by decide)
  exact c_L_tieKnots (a := aTi (rd σ 13 1) k v) (P := fun μ => ChR σ μ ((f + u) % 8) u (tieA (rd σ 13 1) (cl k) (cl v))) (PX := fun μ => μ = σ) hW.1 hW.2.1 hW.2.2.2 (fun Q1 Qx1 h0 h1 h2 h3 => c_X9_tieKnots hW.1 (hW.2.2.1 0 (by decide)) hR.1.2.1 hR.1.1 (hW.2.2.1 _ (by omega)) hx8 hR.2.1.1.2.2.2 hR.2.1.2.1 hR.2.1.2.2.1 (hq := fun e s hc => h0 e s hc) (hx1 := fun e => h1 e _ rfl) (hx2 := fun e => h2 e _ rfl) (hx3 := fun e => h3 e _ rfl)) hq
theorem pr_tieKnots {G : GC} {w : Lay} {σ τ : Mem} {Q : Lay → Option Value → Mem → Prop} {Qx : Lay → String → Mem → Prop} {hm f u : Nat} {k v : Int32} (hW : LAY w) (hR : REL hm σ f u) (hb9 : hm ≤ 800000) (hL : LR (fun μ => ChR σ μ ((f + u) % 8) u (tieA (rd σ 13 1) (cl k) (cl v))) (fun μ => μ = σ) (aTi (rd σ 13 1) k v) τ) (hq : ∀ b τ2, PAR (hm + 960) (aTi (rd σ 13 1) k v) b τ2 → Q w (some (.int b)) τ2) : MX10_tieKnots G w τ [.ref (w.2.1 13 0), .int k, .int v] Q Qx := by
  have hx8 : (f + u) % 8 < 8 := Nat.mod_lt _ (by decide)
  have e13 := LR_13 hL (fun s hs c => ChR_13 hx8 hs c)
  have e1 : rd τ 13 1 = rd σ 13 1 := e13 1
  have e8 : rd τ 13 8 = rd σ 13 8 := e13 8
  have hr : ringOK τ f u := ring_0 hR.2.1.1 (congrFun (e13 0) 3) (congrFun (e13 0) 4)
  have hI := hR.1.1
  refine c_X10_tieKnots hW.2.1 (hm := hm) (by rw [e1]; exact hI) (hr0 := hr) (fun e => ?_) (fun c hc e => ?_)
  · rw [e1] at e ⊢
    obtain ⟨σ1, hc1, ht⟩ := LR_0 hL e
    obtain ⟨g1, g2, g3, g4⟩ := ls_setA (τ := τ) (f := f) (u := u) (B := tieA (rd σ 13 1) (cl k) (cl v)) hr
    have hB : RowOK (hm + 960) (tieA (rd σ 13 1) (cl k) (cl v)) := by
      unfold aTi at e
      obtain ⟨q1, e⟩ := chk_0 (by decide) e
      obtain ⟨q2, e⟩ := chk_0 (by decide) e
      exact RowOK_mono (RowOK_tie hI (okK_lt hI q1).2 (okN_cl (by decide) q2).2) (by omega)
    exact hq _ _ (PR_ch hR (by omega) hB e hc1 ht g1 g2 g3 g4)
  · rw [e1] at e
    obtain ⟨h0, h1⟩ := LR_x hL (by rw [e]; exact hc)
    cases h1
    exact hq _ _ (PR_x hR (by omega) h0 e)
theorem pc_repair {G : GC} {w : Lay} {σ : Mem} {Q : Lay → Option Value → Mem → Prop} {Qx : Lay → String → Mem → Prop} {hm f u : Nat} {k : Int32} (hW : LAY w) (hR : REL hm σ f u) (hb9 : hm ≤ 800000) (hq : ∀ τ, LR (fun μ => ChR σ μ ((f + u) % 8) u (repA (rd σ 13 1) (cl k))) (fun μ => μ = σ) (aRp (rd σ 13 1) k) τ → Q w (some (.int (nI (aRp (rd σ 13 1) k).1))) τ) : ML_repair G w σ [.ref (w.2.1 12 0), .int k, .ref (w.2.1 13 9)] Q Qx := by
  have hx8 : (f + u) % 8 < 8 := Nat.mod_lt _ (by decide)
  exact c_L_repair (a := aRp (rd σ 13 1) k) (P := fun μ => ChR σ μ ((f + u) % 8) u (repA (rd σ 13 1) (cl k))) (PX := fun μ => μ = σ) hW.1 hW.2.1 hW.2.2.2 (fun Q1 Qx1 h0 h1 h2 => c_X9_repair hW.1 (hW.2.2.1 0 (by decide)) hR.1.2.1 hR.1.1 (hW.2.2.1 _ (by omega)) hx8 hR.2.1.1.2.2.2 hR.2.1.2.1 hR.2.1.2.2.1 (hq := fun e s hc => h0 e s hc) (hx1 := fun e => h1 e _ rfl) (hx2 := fun e => h2 e _ rfl)) hq
theorem pr_repair {G : GC} {w : Lay} {σ τ : Mem} {Q : Lay → Option Value → Mem → Prop} {Qx : Lay → String → Mem → Prop} {hm f u : Nat} {k : Int32} (hW : LAY w) (hR : REL hm σ f u) (hb9 : hm ≤ 800000) (hL : LR (fun μ => ChR σ μ ((f + u) % 8) u (repA (rd σ 13 1) (cl k))) (fun μ => μ = σ) (aRp (rd σ 13 1) k) τ) (hq : ∀ b τ2, PAR (hm + 960) (aRp (rd σ 13 1) k) b τ2 → Q w (some (.int b)) τ2) : MX10_repair G w τ [.ref (w.2.1 13 0), .int k] Q Qx := by
  have hx8 : (f + u) % 8 < 8 := Nat.mod_lt _ (by decide)
  have e13 := LR_13 hL (fun s hs c => ChR_13 hx8 hs c)
  have e1 : rd τ 13 1 = rd σ 13 1 := e13 1
  have e8 : rd τ 13 8 = rd σ 13 8 := e13 8
  have hr : ringOK τ f u := ring_0 hR.2.1.1 (congrFun (e13 0) 3) (congrFun (e13 0) 4)
  have hI := hR.1.1
  refine c_X10_repair hW.2.1 (hm := hm) (by rw [e1]; exact hI) (hr0 := hr) (fun e => ?_) (fun c hc e => ?_)
  · rw [e1] at e ⊢
    obtain ⟨σ1, hc1, ht⟩ := LR_0 hL e
    obtain ⟨g1, g2, g3, g4⟩ := ls_setA (τ := τ) (f := f) (u := u) (B := repA (rd σ 13 1) (cl k)) hr
    have hB : RowOK (hm + 960) (repA (rd σ 13 1) (cl k)) := by
      unfold aRp at e
      have q := okK_lt hI (chk_0 (by decide) e).1
      exact RowOK_mono (RowOK_rep hI q.2) (by omega)
    exact hq _ _ (PR_ch hR (by omega) hB e hc1 ht g1 g2 g3 g4)
  · rw [e1] at e
    obtain ⟨h0, h1⟩ := LR_x hL (by rw [e]; exact hc)
    cases h1
    exact hq _ _ (PR_x hR (by omega) h0 e)
theorem pc_fund {G : GC} {w : Lay} {σ : Mem} {Q : Lay → Option Value → Mem → Prop} {Qx : Lay → String → Mem → Prop} {hm f u : Nat} {k v : Int32} (hW : LAY w) (hR : REL hm σ f u) (hb9 : hm ≤ 800000) (hq : ∀ τ, LR (fun μ => ChR σ μ ((f + u) % 8) u (fundA (rd σ 13 1) (cl k) v)) (fun μ => μ = σ) (aFu (rd σ 13 1) k v) τ → Q w (some (.int (nI (aFu (rd σ 13 1) k v).1))) τ) : ML_fund G w σ [.ref (w.2.1 12 0), .int k, .int v, .ref (w.2.1 13 9)] Q Qx := by
  have hx8 : (f + u) % 8 < 8 := Nat.mod_lt _ (by decide)
  exact c_L_fund (a := aFu (rd σ 13 1) k v) (P := fun μ => ChR σ μ ((f + u) % 8) u (fundA (rd σ 13 1) (cl k) v)) (PX := fun μ => μ = σ) hW.1 hW.2.1 hW.2.2.2 (fun Q1 Qx1 h0 h1 h2 => c_X9_fund hW.1 (hW.2.2.1 0 (by decide)) hR.1.2.1 hR.1.1 (hW.2.2.1 _ (by omega)) hx8 hR.2.1.1.2.2.2 hR.2.1.2.1 hR.2.1.2.2.1 (hq := fun e s hc => h0 e s hc) (hx1 := fun e => h1 e _ rfl) (hx2 := fun e => h2 e _ rfl)) hq
theorem pr_fund {G : GC} {w : Lay} {σ τ : Mem} {Q : Lay → Option Value → Mem → Prop} {Qx : Lay → String → Mem → Prop} {hm f u : Nat} {k v : Int32} (hW : LAY w) (hR : REL hm σ f u) (hb9 : hm ≤ 800000) (hL : LR (fun μ => ChR σ μ ((f + u) % 8) u (fundA (rd σ 13 1) (cl k) v)) (fun μ => μ = σ) (aFu (rd σ 13 1) k v) τ) (hq : ∀ b τ2, PAR (hm + 960) (aFu (rd σ 13 1) k v) b τ2 → Q w (some (.int b)) τ2) : MX10_fund G w τ [.ref (w.2.1 13 0), .int k, .int v] Q Qx := by
  have hx8 : (f + u) % 8 < 8 := Nat.mod_lt _ (by decide)
  have e13 := LR_13 hL (fun s hs c => ChR_13 hx8 hs c)
  have e1 : rd τ 13 1 = rd σ 13 1 := e13 1
  have e8 : rd τ 13 8 = rd σ 13 8 := e13 8
  have hr : ringOK τ f u := ring_0 hR.2.1.1 (congrFun (e13 0) 3) (congrFun (e13 0) 4)
  have hI := hR.1.1
  refine c_X10_fund hW.2.1 (hm := hm) (by rw [e1]; exact hI) (hr0 := hr) (fun e => ?_) (fun c hc e => ?_)
  · rw [e1] at e ⊢
    obtain ⟨σ1, hc1, ht⟩ := LR_0 hL e
    obtain ⟨g1, g2, g3, g4⟩ := ls_setA (τ := τ) (f := f) (u := u) (B := fundA (rd σ 13 1) (cl k) v) hr
    have hB : RowOK (hm + 960) (fundA (rd σ 13 1) (cl k) v) := by
      unfold aFu at e
      have q := okK_lt hI (chk_0 (by decide) e).1
      exact RowOK_mono (RowOK_fund hI q.2) (by omega)
    exact hq _ _ (PR_ch hR (by omega) hB e hc1 ht g1 g2 g3 g4)
  · rw [e1] at e
    obtain ⟨h0, h1⟩ := LR_x hL (by rw [e]; exact hc)
    cases h1
    exact hq _ _ (PR_x hR (by omega) h0 e)
theorem pc_addKite {G : GC} {w : Lay} {σ : Mem} {Q : Lay → Option Value → Mem → Prop} {Qx : Lay → String → Mem → Prop} {hm f u : Nat} {x y l o v p : Int32} (hW : LAY w) (hR : REL hm σ f u) (hb9 : hm ≤ 800000) (hq : ∀ τ, LR (fun μ => ChR σ μ ((f + u) % 8) u (kiteA (rd σ 13 1) x y l o v p)) (fun μ => μ = σ) (aAK (rd σ 13 1) x y l o v p) τ → Q w (some (.int (nI (aAK (rd σ 13 1) x y l o v p).1))) τ) : ML_addKite G w σ [.ref (w.2.1 12 0), .int x, .int y, .int l, .int o, .int v, .int p, .ref (w.2.1 13 9)] Q Qx := by
  have hx8 : (f + u) % 8 < 8 := Nat.mod_lt _ (by decide)
  exact c_L_addKite (a := aAK (rd σ 13 1) x y l o v p) (P := fun μ => ChR σ μ ((f + u) % 8) u (kiteA (rd σ 13 1) x y l o v p)) (PX := fun μ => μ = σ) hW.1 hW.2.1 hW.2.2.2 (fun Q1 Qx1 h0 h1 h2 h3 => c_X9_addKite hW.1 (hW.2.2.1 0 (by decide)) hR.1.2.1 hR.1.1 (hW.2.2.1 _ (by omega)) hx8 hR.2.1.1.2.2.2 hR.2.1.2.1 hR.2.1.2.2.1 (hq := fun e s hc => h0 e s hc) (hx1 := fun e => h1 e _ rfl) (hx2 := fun e => h2 e _ rfl) (hx3 := fun e => h3 e _ rfl)) hq
theorem pr_addKite {G : GC} {w : Lay} {σ τ : Mem} {Q : Lay → Option Value → Mem → Prop} {Qx : Lay → String → Mem → Prop} {hm f u : Nat} {x y l o v p : Int32} (hW : LAY w) (hR : REL hm σ f u) (hb9 : hm ≤ 800000) (hL : LR (fun μ => ChR σ μ ((f + u) % 8) u (kiteA (rd σ 13 1) x y l o v p)) (fun μ => μ = σ) (aAK (rd σ 13 1) x y l o v p) τ) (hq : ∀ b τ2, PAR (hm + 960) (aAK (rd σ 13 1) x y l o v p) b τ2 → Q w (some (.int b)) τ2) : MX10_addKite G w τ [.ref (w.2.1 13 0), .int x, .int y, .int l, .int o, .int v, .int p] Q Qx := by
  have hx8 : (f + u) % 8 < 8 := Nat.mod_lt _ (by decide)
  have e13 := LR_13 hL (fun s hs c => ChR_13 hx8 hs c)
  have e1 : rd τ 13 1 = rd σ 13 1 := e13 1
  have e8 : rd τ 13 8 = rd σ 13 8 := e13 8
  have hr : ringOK τ f u := ring_0 hR.2.1.1 (congrFun (e13 0) 3) (congrFun (e13 0) 4)
  have hI := hR.1.1
  refine c_X10_addKite hW.2.1 (hm := hm) (by rw [e1]; exact hI) (hr0 := hr) (fun e => ?_) (fun c hc e => ?_)
  · rw [e1] at e ⊢
    obtain ⟨σ1, hc1, ht⟩ := LR_0 hL e
    obtain ⟨g1, g2, g3, g4⟩ := ls_setA (τ := τ) (f := f) (u := u) (B := kiteA (rd σ 13 1) x y l o v p) hr
    have hB : RowOK (hm + 960) (kiteA (rd σ 13 1) x y l o v p) := by
      unfold aAK at e
      obtain ⟨q1, e⟩ := chk_0 (by decide) e
      obtain ⟨q2, e⟩ := chk_0 (by decide) e
      obtain ⟨q3, e⟩ := chk_0 (by decide) e
      obtain ⟨q4, e⟩ := chk_0 (by decide) e
      obtain ⟨q5, e⟩ := chk_0 (by decide) e
      obtain ⟨q6, e⟩ := chk_0 (by decide) e
      obtain ⟨q7, e⟩ := chk_0 (by decide) e
      obtain ⟨o1, rfl, p1⟩ := q1
      obtain ⟨x1, rfl, -, p2⟩ := q2
      obtain ⟨y1, rfl, -, p3⟩ := q3
      obtain ⟨l1, rfl, p4⟩ := q4
      obtain ⟨v1, rfl, -, p5⟩ := q5
      have h16 := (r_NK hI).2
      exact RowOK_mono (RowOK_addK hI (by omega) p2 p3 p4 p1 p5) (by omega)
    exact hq _ _ (PR_ch hR (by omega) hB e hc1 ht g1 g2 g3 g4)
  · rw [e1] at e
    obtain ⟨h0, h1⟩ := LR_x hL (by rw [e]; exact hc)
    cases h1
    exact hq _ _ (PR_x hR (by omega) h0 e)
