/-! ===== the class's history, and what a change of the face leaves ===== -/
/-- the past at x holds what the office was; u pasts were there -/
def Hst (σ τ : Mem) (x u : Nat) : Prop := (∀ a c, a ≠ 2 + x → ¬ (a = 12 ∧ c = 1) → rd τ a c = rd σ a c) ∧ (∀ j, rdL τ j = rdL σ j) ∧ (∀ (hm : Nat) (B : Rw), RowOK hm B → OAt σ 0 B → OAt τ (2 + x) B) ∧ rd τ 12 1 2 = nI ((x + 1) % 8) ∧ rd τ 12 1 1 = nI (min (u + 1) 8) ∧ ((∀ k, k < 16 → rd σ (2 + x) 21 k = 0) → ∀ k, k < 16 → rd τ (2 + x) 21 k = 0)
theorem hst_of {σ σ1 : Mem} {x u : Nat} (h : CP DA (2 + x) 0 σ σ1) (hx : x < 8) : Hst σ (wr (wr σ1 12 1 2 (nI ((x + 1) % 8))) 12 1 1 (nI (min (u + 1) 8))) x u := by
  have e : ∀ a c, ¬ (a = 12 ∧ c = 1) → rd (wr (wr σ1 12 1 2 (nI ((x + 1) % 8))) 12 1 1 (nI (min (u + 1) 8))) a c = rd σ1 a c := fun a c q => (rd_wr_cell q).trans (rd_wr_cell q)
  refine ⟨fun a c ha hc => (e a c hc).trans (h.1 a c ha), fun j => h.2.1 j, fun hm B hB hO => OAt_fr (o := 0) (fun c => e _ c (by omega)) (cp_OAt h hO hB), (rd_wr_j (by decide)).trans rd_wr_s, rd_wr_s, fun hz k hk => ?_⟩
  rw [e _ _ (by omega)]
  exact (cp_O h).2.2 hz k hk
/-- after a change: the past is kept, and the office holds A -/
def ChR (σ σ' : Mem) (x u : Nat) (A : Rw) : Prop := ∃ τ, Hst σ τ x u ∧ FrO 0 τ σ' ∧ OAt σ' 0 A
theorem Hst_O {σ τ : Mem} {x u : Nat} {A : Rw} (h : Hst σ τ x u) (hO : OAt σ 0 A) : OAt τ 0 A := OAt_fr (o := 0) (fun c => h.1 0 c (by omega) (by omega)) hO
theorem Hst_21 {σ τ : Mem} {x u : Nat} (h : Hst σ τ x u) : rd τ 0 21 = rd σ 0 21 := h.1 0 21 (by omega) (by omega)
/-! a kite enters -/
def enM (σ : Mem) (o n : Nat) (x y z l c k p : Int32) : Mem := wr (wr (wr (wr (wr (wr (wr (wr (wr (wr (wr (wr σ o 7 n x) o 8 n y) o 9 n z) o 10 n l) o 11 n c) o 12 n k) o 13 n p) o 14 n (nI 0)) o 15 n (nI 0)) o 16 n (nI 0)) o 6 0 (nI (n + 1))) o 0 5 (rd σ o 0 5 + p)
theorem FrO_en {σ : Mem} {o n : Nat} {x y z l c k p : Int32} : FrO o σ (enM σ o n x y z l c k p) := FrO_wr (FrO_wr (FrO_wr (FrO_wr (FrO_wr (FrO_wr (FrO_wr (FrO_wr (FrO_wr (FrO_wr (FrO_wr (FrO_wr FrO_refl (by decide)) (by decide)) (by decide)) (by decide)) (by decide)) (by decide)) (by decide)) (by decide)) (by decide)) (by decide)) (by decide)) (by decide)
/-- what bounds the places of a row -/
def Bd (A : Rw) : Prop := nv A 4 ≤ 4 ∧ (∀ z, z < nv A 4 → nv A (12 + 13 * z) ≤ 6) ∧ nv A 5 ≤ 6 ∧ nv A 6 ≤ 16
theorem Bd_of {hm : Nat} {A : Rw} (hI : RowOK hm A) : Bd A := ⟨(r_NZ hI).2.2, fun z hz => (r_ZC hI hz).2.2, (r_NC hI).2.2, (r_NK hI).2⟩
theorem en_rd {σ : Mem} {o n : Nat} {x y z l c k p : Int32} (a j : Nat) (h : (a < 6 ∧ ¬ (a = 0 ∧ j = 5)) ∨ (a = 6 ∧ j ≠ 0) ∨ (7 ≤ a ∧ a ≤ 16 ∧ j ≠ n) ∨ 17 ≤ a) : rd (enM σ o n x y z l c k p) o a j = rd σ o a j := by
  unfold enM
  rw [rd_wr, if_neg (by omega), rd_wr, if_neg (by omega), rd_wr, if_neg (by omega), rd_wr, if_neg (by omega), rd_wr, if_neg (by omega), rd_wr, if_neg (by omega), rd_wr, if_neg (by omega), rd_wr, if_neg (by omega), rd_wr, if_neg (by omega), rd_wr, if_neg (by omega), rd_wr, if_neg (by omega), rd_wr, if_neg (by omega)]
theorem en_new {σ : Mem} {o n : Nat} {x y z l c k p : Int32} : rd (enM σ o n x y z l c k p) o 7 n = x ∧ rd (enM σ o n x y z l c k p) o 8 n = y ∧ rd (enM σ o n x y z l c k p) o 9 n = z ∧ rd (enM σ o n x y z l c k p) o 10 n = l ∧ rd (enM σ o n x y z l c k p) o 11 n = c ∧ rd (enM σ o n x y z l c k p) o 12 n = k ∧ rd (enM σ o n x y z l c k p) o 13 n = p ∧ rd (enM σ o n x y z l c k p) o 14 n = nI 0 ∧ rd (enM σ o n x y z l c k p) o 15 n = nI 0 ∧ rd (enM σ o n x y z l c k p) o 16 n = nI 0 ∧ rd (enM σ o n x y z l c k p) o 6 0 = nI (n + 1) ∧ rd (enM σ o n x y z l c k p) o 0 5 = rd σ o 0 5 + p := by
  unfold enM
  refine ⟨?_, ?_, ?_, ?_, ?_, ?_, ?_, ?_, ?_, ?_, ?_, ?_⟩ <;> ((repeat rw [rd_wr_c (by decide)]); exact rd_wr_s)
theorem kiteA_new {A : Rw} {x y l c k p : Int32} : kiteA A x y l c k p (70 + 9 * nv A 6) = x ∧ kiteA A x y l c k p (70 + 9 * nv A 6 + 1) = y ∧ kiteA A x y l c k p (70 + 9 * nv A 6 + 2) = l ∧ kiteA A x y l c k p (70 + 9 * nv A 6 + 3) = c ∧ kiteA A x y l c k p (70 + 9 * nv A 6 + 4) = k ∧ kiteA A x y l c k p (70 + 9 * nv A 6 + 5) = p ∧ kiteA A x y l c k p (70 + 9 * nv A 6 + 6) = nI 0 ∧ kiteA A x y l c k p (70 + 9 * nv A 6 + 7) = nI 0 ∧ kiteA A x y l c k p (70 + 9 * nv A 6 + 8) = nI 0 ∧ kiteA A x y l c k p 10 = A 10 + p ∧ kiteA A x y l c k p 6 = nI (nv A 6 + 1) := by
  unfold kiteA
  refine ⟨?_, ?_, ?_, ?_, ?_, ?_, ?_, ?_, ?_, ?_, ?_⟩ <;> ((repeat rw [upd_n (by omega)]); exact upd_s)
theorem kiteA_hi {A : Rw} {x y l c k p : Int32} {j : Nat} (h : 70 + 9 * nv A 6 + 9 ≤ j) : kiteA A x y l c k p j = A j := by
  unfold kiteA
  rw [upd_n (by omega), upd_n (by omega), upd_n (by omega), upd_n (by omega), upd_n (by omega), upd_n (by omega), upd_n (by omega), upd_n (by omega), upd_n (by omega), upd_n (by omega), upd_n (by omega)]
theorem OAt_en {σ : Mem} {o : Nat} {A : Rw} {x : Nat} {y l c k p : Int32} (h : OAt σ o A) (hB : Bd A) (hn : nv A 6 < 16) (hx : x < 2 ^ 31) : OAt (enM σ o (nv A 6) (nI x) y (nI (x * nv A 4 / nv A 0)) l c k p) o (kiteA A (nI x) y l c k p) := by
  obtain ⟨b4, bz, b5, b6⟩ := hB
  have lo : ∀ j, j < 70 + 9 * nv A 6 → j ≠ 6 → j ≠ 10 → kiteA A (nI x) y l c k p j = A j := fun j h1 h2 h3 => kiteA_lo h1 h2 h3
  have en := fun j h1 h2 h3 => nv_congr (lo j h1 h2 h3)
  have hz : ∀ i, i < nv A 6 → zoneN (kiteA A (nI x) y l c k p) i = zoneN A i := fun i hi => by
    unfold zoneN
    rw [en _ (by omega) (by omega) (by omega), en 4 (by omega) (by omega) (by omega), en 0 (by omega) (by omega) (by omega)]
  obtain ⟨w1, w2, w3, w4, w5, w6, w7, w8, w9, w10, w11⟩ := kiteA_new (A := A) (x := nI x) (y := y) (l := l) (c := c) (k := k) (p := p)
  obtain ⟨v1, v2, v3, v4, v5, v6, v7, v8, v9, v10, v11, v12⟩ := en_new (σ := σ) (o := o) (n := nv A 6) (x := nI x) (y := y) (z := nI (x * nv A 4 / nv A 0)) (l := l) (c := c) (k := k) (p := p)
  have R := fun a j q => en_rd (σ := σ) (o := o) (n := nv A 6) (x := nI x) (y := y) (z := nI (x * nv A 4 / nv A 0)) (l := l) (c := c) (k := k) (p := p) a j q
  have e6 : nv (kiteA A (nI x) y l c k p) 6 = nv A 6 + 1 := nv_of w11 (by omega)
  have e11 : nv (kiteA A (nI x) y l c k p) 11 = nv A 11 := en 11 (by omega) (by omega) (by omega)
  obtain ⟨⟨a1, a2, a3⟩, ⟨b1, b2, b3, b4', b5', b6'⟩, z, q, ⟨f1, f2⟩, kk, p1, p2⟩ := h
  refine ⟨⟨?_, ?_, ?_⟩, ⟨?_, ?_, ?_, ?_, ?_, ?_⟩, fun i hi => ?_, fun i hi => ?_, ⟨?_, ?_⟩, fun i hi => ?_, ?_, fun i hi => ?_⟩
  · rw [R _ _ (by omega), lo _ (by omega) (by omega) (by omega)]; exact a1
  · rw [R _ _ (by omega), lo _ (by omega) (by omega) (by omega)]; exact a2
  · rw [v12, w10, a3]
  · rw [R _ _ (by omega), lo _ (by omega) (by omega) (by omega)]; exact b1
  · rw [R _ _ (by omega), lo _ (by omega) (by omega) (by omega)]; exact b2
  · rw [R _ _ (by omega), lo _ (by omega) (by omega) (by omega)]; exact b3
  · rw [R _ _ (by omega), lo _ (by omega) (by omega) (by omega)]; exact b4'
  · rw [R _ _ (by omega), lo _ (by omega) (by omega) (by omega)]; exact b5'
  · rw [R _ _ (by omega), lo _ (by omega) (by omega) (by omega)]; exact b6'
  · rw [en 4 (by omega) (by omega) (by omega)] at hi
    have g := z i hi
    have g2 := bz i hi
    rw [R _ _ (by omega), lo _ (by omega) (by omega) (by omega), en (12 + 13 * i) (by omega) (by omega) (by omega)]
    refine ⟨g.1, fun j hj => ?_⟩
    rw [R _ _ (by omega), R _ _ (by omega), lo _ (by omega) (by omega) (by omega), lo _ (by omega) (by omega) (by omega)]
    exact g.2 j hj
  · rw [en 5 (by omega) (by omega) (by omega)] at hi
    rw [R _ _ (by omega), lo _ (by omega) (by omega) (by omega)]
    exact q i hi
  · rw [v11, w11]
  · rw [R _ _ (by omega), lo _ (by omega) (by omega) (by omega)]; exact f2
  · rw [e6] at hi
    by_cases e : i = nv A 6
    · subst e
      refine ⟨v1.trans w1.symm, v2.trans w2.symm, v3.trans ?_, v4.trans w3.symm, v5.trans w4.symm, v6.trans w5.symm, v7.trans w6.symm, v8.trans w7.symm, v9.trans w9.symm, v10.trans w8.symm⟩
      unfold zoneN
      rw [nv_of w1 hx, en 4 (by omega) (by omega) (by omega), en 0 (by omega) (by omega) (by omega)]
    · have i6 : i < nv A 6 := by omega
      rw [R _ _ (by omega), R _ _ (by omega), R _ _ (by omega), R _ _ (by omega), R _ _ (by omega), R _ _ (by omega), R _ _ (by omega), R _ _ (by omega), R _ _ (by omega), R _ _ (by omega), hz i i6]
      rw [lo (70 + 9 * i) (by omega) (by omega) (by omega), lo (70 + 9 * i + 1) (by omega) (by omega) (by omega), lo (70 + 9 * i + 2) (by omega) (by omega) (by omega), lo (70 + 9 * i + 3) (by omega) (by omega) (by omega), lo (70 + 9 * i + 4) (by omega) (by omega) (by omega), lo (70 + 9 * i + 5) (by omega) (by omega) (by omega), lo (70 + 9 * i + 6) (by omega) (by omega) (by omega), lo (70 + 9 * i + 7) (by omega) (by omega) (by omega), lo (70 + 9 * i + 8) (by omega) (by omega) (by omega)]
      exact kk i i6
  · rw [R _ _ (by omega), lo _ (by omega) (by omega) (by omega)]; exact p1
  · rw [e11] at hi
    rw [R _ _ (by omega), R _ _ (by omega), R _ _ (by omega), kiteA_hi (by omega), kiteA_hi (by omega), kiteA_hi (by omega)]
    exact p2 i hi
