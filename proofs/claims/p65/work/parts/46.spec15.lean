/-! ===== rows after writes; what is kept; scripts ===== -/
theorem rowOf_wr {σ : Mem} {c j : Nat} {v : Int32} (h : c ≠ 2) : rowOf (wr σ 13 c j v) = rowOf σ := funext fun r => funext fun i => rd_wr_c (by omega)
theorem rowOf_setA {σ : Mem} {A : Rw} : rowOf (setA σ A) = rowOf σ := funext fun r => funext fun i => congrFun (rd_setA_ne (by decide)) _
theorem rowOf_take {σ : Mem} {r k : Nat} : rowOf (takeP σ r k) = rowOf σ := funext fun r => funext fun i => congrFun (rd_wrC_cell (by decide)) _
theorem rowOf_PG {σ τ : Mem} (h : PG σ τ) : rowOf τ = rowOf σ := funext fun r => funext fun i => h.1 13 2 _ (by unfold PGx PFx; omega)
theorem rowOf_PE {σ τ : Mem} {e : Nat × Nat} (h : PR σ τ e) : rowOf τ = rowOf σ := funext fun r => funext fun i => h.1 13 2 _ (by unfold PRx PEx PGx PFx; omega)
theorem rowOf_actE {σ : Mem} {f u j : Nat} (hj : j < 304) : rowOf (actM σ f u) ((f + u) % 8) j = rd σ 13 1 j := by
  unfold actM
  rw [rowOf_put hj, rd_wr_cell (by decide), rd_wr_cell (by decide)]
theorem rowOf_actN {σ : Mem} {f u r j : Nat} (hj : j < 304) (h : r ≠ (f + u) % 8) : rowOf (actM σ f u) r j = rowOf σ r j := by
  unfold actM
  rw [rowOf_put_ne hj h, rowOf_wr (by decide), rowOf_wr (by decide)]
theorem rd_putP {σ : Mem} {r k o c : Nat} (h : ¬ (o = 13 ∧ c = 2)) : rd (putP σ r k) o c = rd σ o c := rd_wrC_cell h
theorem rd_takeP {σ : Mem} {r k o c : Nat} (h : ¬ (o = 13 ∧ c = 1)) : rd (takeP σ r k) o c = rd σ o c := rd_wrC_cell h
theorem rd_actM {σ : Mem} {f u o c : Nat} (h : ¬ (o = 13 ∧ (c = 2 ∨ c = 0))) : rd (actM σ f u) o c = rd σ o c := by
  unfold actM
  rw [rd_putP (by omega), rd_wr_cell (by omega), rd_wr_cell (by omega)]
theorem rd_actM0 {σ : Mem} {f u j : Nat} (h : j ≠ 3) (h2 : j ≠ 4) : rd (actM σ f u) 13 0 j = rd σ 13 0 j := by
  unfold actM
  rw [rd_putP (by omega), rd_wr_j h2, rd_wr_j h]
theorem ring_act {σ : Mem} {f u : Nat} (h : ringOK σ f u) : ringOK (actM σ f u) (rF f u) (rU u) := by
  have h3 := h.2.2.1
  have h4 := h.2.2.2
  refine ⟨?_, ?_, by unfold rF; split <;> omega, by unfold rU; split <;> omega⟩
  · unfold actM
    rw [rd_putP (by omega), rd_wr_j (by decide), rd_wr_s]
  · unfold actM
    rw [rd_putP (by omega), rd_wr_s]
theorem ring_0 {σ σ' : Mem} {f u : Nat} (h : ringOK σ f u) (h3 : rd σ' 13 0 3 = rd σ 13 0 3) (h4 : rd σ' 13 0 4 = rd σ 13 0 4) : ringOK σ' f u := ⟨h3.trans h.1, h4.trans h.2.1, h.2.2⟩
/-- what a loading or a running of a script leaves alone -/
def KEEP (σ σ' : Mem) : Prop := (∀ o c j, o ≠ 13 → rd σ' o c j = rd σ o c j) ∧ (∀ j, rd σ' 13 3 j = rd σ 13 3 j) ∧ (∀ j, rd σ' 13 5 j = rd σ 13 5 j) ∧ rd σ' 13 0 11 = rd σ 13 0 11 ∧ ∀ j, 1 ≤ j → rdL σ' j = rdL σ j
def LSok (σ σ' : Mem) (A' : Rw) (f u : Nat) : Prop := (∀ j, j < 304 → rd σ' 13 1 j = A' j) ∧ ringOK σ' (rF f u) (rU u) ∧ (∀ j, j < 304 → rowOf σ' ((f + u) % 8) j = rd σ 13 1 j) ∧
  (∀ r j, r < 10 → j < 304 → r ≠ (f + u) % 8 → rowOf σ' r j = rowOf σ r j) ∧ rd σ' 13 0 6 = nI 0 ∧ rd σ' 13 0 7 = nI 0 ∧ rd σ' 13 0 8 = -1 ∧ rd σ' 13 0 9 = nI 0 ∧ KEEP σ σ'
def LSno (σ σ' : Mem) (e : Nat × Nat) (f u : Nat) : Prop := (∀ j, j < 304 → rd σ' 13 1 j = rd σ 13 1 j) ∧ ringOK σ' f u ∧ (∀ r j, r < 10 → j < 304 → rowOf σ' r j = rowOf σ r j) ∧ rd σ' 13 0 6 = nI 0 ∧ rd σ' 13 0 7 = nI e.1 ∧ rd σ' 13 0 8 = nI e.2 ∧ rd σ' 13 0 9 = nI 1 ∧ KEEP σ σ'
theorem KEEP_tr {a b c : Mem} (h1 : KEEP a b) (h2 : KEEP b c) : KEEP a c := ⟨fun o d j h => (h2.1 o d j h).trans (h1.1 o d j h), fun j => (h2.2.1 j).trans (h1.2.1 j), fun j => (h2.2.2.1 j).trans (h1.2.2.1 j), h2.2.2.2.1.trans h1.2.2.2.1, fun j h => (h2.2.2.2.2 j h).trans (h1.2.2.2.2 j h)⟩
theorem KEEP_rf {a : Mem} : KEEP a a := ⟨fun _ _ _ _ => rfl, fun _ => rfl, fun _ => rfl, rfl, fun _ _ => rfl⟩
theorem KEEP_wr {σ : Mem} {j : Nat} {v : Int32} (h : j ≠ 11) : KEEP σ (wr σ 13 0 j v) := ⟨fun o c i h => rd_wr_o h, fun i => rd_wr_c (by decide), fun i => rd_wr_c (by decide), rd_wr_j (Ne.symm h), fun _ _ => rfl⟩
theorem KEEP_put {σ : Mem} {r k : Nat} : KEEP σ (putP σ r k) := ⟨fun o c i h => congrFun (rd_putP (by omega)) i, fun i => congrFun (rd_putP (by decide)) i, fun i => congrFun (rd_putP (by decide)) i, congrFun (rd_putP (by decide)) 11, fun _ _ => rfl⟩
theorem KEEP_take {σ : Mem} {r k : Nat} : KEEP σ (takeP σ r k) := ⟨fun o c i h => congrFun (rd_takeP (by omega)) i, fun i => congrFun (rd_takeP (by decide)) i, fun i => congrFun (rd_takeP (by decide)) i, congrFun (rd_takeP (by decide)) 11, fun _ _ => rfl⟩
theorem KEEP_setA {σ : Mem} {A : Rw} : KEEP σ (setA σ A) := ⟨fun o c i h => congrFun (rd_setA_ne (by omega)) i, fun i => congrFun (rd_setA_ne (by decide)) i, fun i => congrFun (rd_setA_ne (by decide)) i, congrFun (rd_setA_ne (by decide)) 11, fun _ _ => rfl⟩
theorem KEEP_act {σ : Mem} {f u : Nat} : KEEP σ (actM σ f u) := ⟨fun o c i h => congrFun (rd_actM (by omega)) i, fun i => congrFun (rd_actM (by decide)) i, fun i => congrFun (rd_actM (by decide)) i, rd_actM0 (by decide) (by decide), fun _ _ => rfl⟩
theorem KEEP_PG {σ τ : Mem} (h : PG σ τ) : KEEP σ τ := ⟨fun o c i q => h.1 o c i (by unfold PGx PFx; omega), fun i => h.1 13 3 i (by unfold PGx PFx; omega), fun i => h.1 13 5 i (by unfold PGx PFx; omega), h.1 13 0 11 (by unfold PGx PFx; omega), h.2⟩
theorem KEEP_PE {σ τ : Mem} {e : Nat × Nat} (h : PR σ τ e) : KEEP σ τ := ⟨fun o c i q => h.1 o c i (by unfold PRx PEx PGx PFx; omega), fun i => h.1 13 3 i (by unfold PRx PEx PGx PFx; omega), fun i => h.1 13 5 i (by unfold PRx PEx PGx PFx; omega), h.1 13 0 11 (by unfold PRx PEx PGx PFx; omega), h.2.1⟩
/-- the end of a loading that was good -/
theorem load_ok {σ τ : Mem} {A' : Rw} {f u : Nat} (hr : ringOK σ f u) (hG : PG (setA (wr (putP (thr σ 0) 11 304) 13 0 16 (nI 0)) A') τ) :
    ringOK (takeP (putP (wr τ 13 0 6 (nI 0)) 10 304) 11 304) f u ∧
    LSok σ (wr (wr (takeP (actM (takeP (putP (wr τ 13 0 6 (nI 0)) 10 304) 11 304) f u) 10 304) 13 0 7 (nI 0)) 13 0 8 (-1)) A' f u := by
  have h8 : (f + u) % 8 < 8 := Nat.mod_lt _ (by decide)
  have z0 : ∀ j, j ≠ 16 → j ≠ 17 → j ≠ 18 → j ≠ 19 → j ≠ 14 → j ≠ 9 → rd τ 13 0 j = rd σ 13 0 j := fun j a b c d e g => by
    rw [hG.1 13 0 j (by unfold PGx PFx; omega), rd_setA_ne (by decide), rd_wr_j a, rd_putP (by decide)]
    exact rd_wr_j g
  have z9 : rd τ 13 0 9 = nI 0 := by
    rw [hG.1 13 0 9 (by unfold PGx PFx; omega), rd_setA_ne (by decide), rd_wr_j (by decide), rd_putP (by decide)]
    exact rd_wr_s
  have r0 : rowOf τ = rowOf (putP (thr σ 0) 11 304) := by rw [rowOf_PG hG, rowOf_setA, rowOf_wr (by decide)]
  have r1 : rd τ 13 1 = A' := PG_row hG
  have q : ringOK (takeP (putP (wr τ 13 0 6 (nI 0)) 10 304) 11 304) f u := ring_0 hr (by rw [rd_takeP (by decide), rd_putP (by decide), rd_wr_j (by decide)]; exact z0 3 (by decide) (by decide) (by decide) (by decide) (by decide) (by decide)) (by rw [rd_takeP (by decide), rd_putP (by decide), rd_wr_j (by decide)]; exact z0 4 (by decide) (by decide) (by decide) (by decide) (by decide) (by decide))
  have m1 : ∀ j, j < 304 → rd (takeP (putP (wr τ 13 0 6 (nI 0)) 10 304) 11 304) 13 1 j = rd σ 13 1 j := fun j hj => by
    rw [takeP_rd1 hj, rowOf_put_ne hj (by decide), rowOf_wr (by decide), r0, rowOf_put hj]
    exact congrFun rd_thr1 j
  refine ⟨q, fun j hj => ?_, ?_, fun j hj => ?_, fun r j hr2 hj hne => ?_, ?_, ?_, rd_wr_s, ?_, ?_⟩
  · rw [rd_wr_c (by decide), rd_wr_c (by decide), takeP_rd1 hj, rowOf_act (by decide), rowOf_take, rowOf_put hj, rd_wr_c (by decide), r1]
  · exact ring_0 (ring_act q) (by rw [rd_wr_j (by decide), rd_wr_j (by decide), rd_takeP (by decide)]) (by rw [rd_wr_j (by decide), rd_wr_j (by decide), rd_takeP (by decide)])
  · rw [rowOf_wr (by decide), rowOf_wr (by decide), rowOf_take, rowOf_actE hj]
    exact m1 j hj
  · rw [rowOf_wr (by decide), rowOf_wr (by decide), rowOf_take, rowOf_actN hj hne, rowOf_take, rowOf_put_ne hj (by omega), rowOf_wr (by decide), r0, rowOf_put_ne hj (by omega)]
    exact congrFun (congrFun (rowOf_wr (by decide)) r) j
  · rw [rd_wr_j (by decide), rd_wr_j (by decide), rd_takeP (by decide), rd_actM0 (by decide) (by decide), rd_takeP (by decide), rd_putP (by decide)]
    exact rd_wr_s
  · rw [rd_wr_j (by decide)]
    exact rd_wr_s
  · rw [rd_wr_j (by decide), rd_wr_j (by decide), rd_takeP (by decide), rd_actM0 (by decide) (by decide), rd_takeP (by decide), rd_putP (by decide), rd_wr_j (by decide)]
    exact z9
  · exact KEEP_tr (KEEP_tr (KEEP_tr (KEEP_tr (KEEP_tr (KEEP_tr (KEEP_tr (KEEP_tr (KEEP_tr (KEEP_tr (KEEP_tr (KEEP_wr (by decide)) KEEP_put) (KEEP_wr (by decide))) KEEP_setA) (KEEP_PG hG)) (KEEP_wr (by decide))) KEEP_put) KEEP_take) KEEP_act) KEEP_take) (KEEP_wr (by decide))) (KEEP_wr (by decide))
/-- the end of a loading that failed -/
theorem load_no {σ τ : Mem} {e : Nat × Nat} {f u : Nat} (hr : ringOK σ f u) (hE : PR (wr (putP (thr σ 0) 11 304) 13 0 16 (nI 0)) τ e) : LSno σ (thr (takeP (wr τ 13 0 6 (nI 0)) 11 304) 1) e f u := by
  have z0 : ∀ j, j ≠ 16 → j ≠ 17 → j ≠ 18 → j ≠ 19 → j ≠ 14 → j ≠ 9 → j ≠ 7 → j ≠ 8 → rd τ 13 0 j = rd σ 13 0 j := fun j a b c d e g h i => by
    rw [hE.1 13 0 j (by unfold PRx PEx PGx PFx; omega), rd_wr_j a, rd_putP (by decide)]
    exact rd_wr_j g
  have r0 : rowOf τ = rowOf (putP (thr σ 0) 11 304) := by rw [rowOf_PE hE, rowOf_wr (by decide)]
  unfold thr
  refine ⟨fun j hj => ?_, ?_, fun r j hr2 hj => ?_, ?_, ?_, ?_, rd_wr_s, ?_⟩
  · rw [rd_wr_c (by decide), takeP_rd1 hj, rowOf_wr (by decide), r0, rowOf_put hj]
    exact congrFun rd_thr1 j
  · exact ring_0 hr (by rw [rd_wr_j (by decide), rd_takeP (by decide), rd_wr_j (by decide)]; exact z0 3 (by decide) (by decide) (by decide) (by decide) (by decide) (by decide) (by decide) (by decide)) (by rw [rd_wr_j (by decide), rd_takeP (by decide), rd_wr_j (by decide)]; exact z0 4 (by decide) (by decide) (by decide) (by decide) (by decide) (by decide) (by decide) (by decide))
  · rw [rowOf_wr (by decide), rowOf_take, rowOf_wr (by decide), r0, rowOf_put_ne hj (by omega)]
    exact congrFun (congrFun (rowOf_wr (by decide)) r) j
  · rw [rd_wr_j (by decide), rd_takeP (by decide)]
    exact rd_wr_s
  · rw [rd_wr_j (by decide), rd_takeP (by decide), rd_wr_j (by decide)]
    exact hE.2.2.1
  · rw [rd_wr_j (by decide), rd_takeP (by decide), rd_wr_j (by decide)]
    exact hE.2.2.2
  · exact KEEP_tr (KEEP_tr (KEEP_tr (KEEP_tr (KEEP_tr (KEEP_tr (KEEP_wr (by decide)) KEEP_put) (KEEP_wr (by decide))) (KEEP_PE hE)) (KEEP_wr (by decide))) KEEP_take) (KEEP_wr (by decide))
