/-! ===== an office is copied ===== -/
/-- in o the places D hold what p held, the rest is as it was -/
def CP (D : Nat → Nat → Prop) (o p : Nat) (σ σ' : Mem) : Prop := (∀ a c, a ≠ o → rd σ' a c = rd σ a c) ∧ (∀ j, rdL σ' j = rdL σ j) ∧ (∀ c j, D c j → rd σ' o c j = rd σ p c j) ∧ (∀ c j, ¬ D c j → rd σ' o c j = rd σ o c j)
theorem cp_0 {o p : Nat} {σ : Mem} : CP (fun _ _ => False) o p σ σ := ⟨fun _ _ _ => rfl, fun _ => rfl, fun _ _ h => h.elim, fun _ _ _ => rfl⟩
theorem cp_wr {D : Nat → Nat → Prop} {o p c j : Nat} {σ σ1 : Mem} (hpo : p ≠ o) (h : CP D o p σ σ1) : CP (fun a b => (a = c ∧ b = j) ∨ D a b) o p σ (wr σ1 o c j (rd σ1 p c j)) := by
  refine ⟨fun a b ha => (rd_wr_cell (fun q => ha q.1)).trans (h.1 a b ha), fun i => h.2.1 i, fun a b hab => ?_, fun a b hab => ?_⟩
  · by_cases e : a = c ∧ b = j
    · rw [e.1, e.2, rd_wr_s, h.1 p c hpo]
    · rw [rd_wr, if_neg (fun q => e q.2)]
      rcases hab with g | g
      · exact absurd g e
      · exact h.2.2.1 a b g
  · rw [rd_wr, if_neg (fun q => hab (Or.inl q.2))]
    exact h.2.2.2 a b (fun q => hab (Or.inr q))
theorem cp_cpy {D : Nat → Nat → Prop} {o p c n : Nat} {σ σ1 : Mem} (hpo : p ≠ o) (h : CP D o p σ σ1) : CP (fun a b => (a = c ∧ b < n) ∨ D a b) o p σ (wrC σ1 o c (va_cpy (rd σ1 p c) (rd σ1 o c) 0 0 n)) := by
  refine ⟨fun a b ha => (rd_wrC_cell (fun q => ha q.1)).trans (h.1 a b ha), fun i => h.2.1 i, fun a b hab => ?_, fun a b hab => ?_⟩
  · by_cases e : a = c
    · subst e
      rw [rd_wrC_s]
      by_cases g : b < n
      · rw [sb_cpy0 g, h.1 p a hpo]
      · rw [pk_cpy_out (by omega)]
        rcases hab with g2 | g2
        · exact absurd g2.2 g
        · exact h.2.2.1 a b g2
    · rw [rd_wrC_c e]
      rcases hab with g2 | g2
      · exact absurd g2.1 e
      · exact h.2.2.1 a b g2
  · by_cases e : a = c
    · subst e
      rw [rd_wrC_s, pk_cpy_out (by
        rcases Nat.lt_or_ge b n with g | g
        · exact absurd (Or.inl ⟨rfl, g⟩) hab
        · omega)]
      exact h.2.2.2 a b (fun q => hab (Or.inr q))
    · rw [rd_wrC_c e]
      exact h.2.2.2 a b (fun q => hab (Or.inr q))
theorem cp_iff {D D' : Nat → Nat → Prop} {o p : Nat} {σ σ' : Mem} (h : CP D o p σ σ') (e : ∀ c j, D c j ↔ D' c j) : CP D' o p σ σ' := ⟨h.1, h.2.1, fun c j q => h.2.2.1 c j ((e c j).mpr q), fun c j q => h.2.2.2 c j (fun g => q ((e c j).mp g))⟩
theorem cp_trans {D D' : Nat → Nat → Prop} {o p : Nat} {σ σ1 σ2 : Mem} (hpo : p ≠ o) (h : CP D o p σ σ1) (h2 : CP D' o p σ1 σ2) : CP (fun a b => D' a b ∨ D a b) o p σ σ2 := by
  refine ⟨fun a c ha => (h2.1 a c ha).trans (h.1 a c ha), fun j => (h2.2.1 j).trans (h.2.1 j), fun c j q => ?_, fun c j q => ?_⟩
  · rcases Classical.em (D' c j) with g | g
    · rw [h2.2.2.1 c j g, h.1 p c hpo]
    · rw [h2.2.2.2 c j g]
      exact h.2.2.1 c j (q.resolve_left g)
  · rw [h2.2.2.2 c j (fun g => q (Or.inl g))]
    exact h.2.2.2 c j (fun g => q (Or.inr g))
def DF (c j : Nat) : Prop := (c = 1 ∧ (j ≤ 4 ∨ j = 8)) ∨ (c = 2 ∧ j < 4) ∨ ((c = 3 ∨ c = 4) ∧ j < 24) ∨ (c = 5 ∧ j < 6)
def DK (c j : Nat) : Prop := (c = 6 ∧ j ≤ 1) ∨ (7 ≤ c ∧ c ≤ 16 ∧ j < 16)
def DPm (c j : Nat) : Prop := (c = 17 ∧ j = 0) ∨ (18 ≤ c ∧ c ≤ 20 ∧ j < 30)
def DA (c j : Nat) : Prop := (c = 0 ∧ 3 ≤ j ∧ j ≤ 5) ∨ DPm c j ∨ DK c j ∨ DF c j
theorem cp_O {o p : Nat} {σ σ' : Mem} (h : CP DA o p σ σ') : FrO o σ σ' := ⟨h.1, h.2.1, fun hz k hk => by
  rw [h.2.2.2 21 k (by unfold DA DPm DK DF; omega)]
  exact hz k hk⟩
theorem cp_OAt {hm o p : Nat} {σ σ' : Mem} {A : Rw} (h : CP DA o p σ σ') (hO : OAt σ p A) (hI : RowOK hm A) : OAt σ' o A := by
  have n4 := r_NZ hI
  have n5 := r_NC hI
  have n6 := r_NK hI
  have n11 := r_NP hI
  have hD : ∀ c j, DA c j → rd σ' o c j = rd σ p c j := h.2.2.1
  have U : ∀ c j, ((c = 0 ∧ 3 ≤ j ∧ j ≤ 5) ∨ ((c = 17 ∧ j = 0) ∨ (18 ≤ c ∧ c ≤ 20 ∧ j < 30)) ∨ ((c = 6 ∧ j ≤ 1) ∨ (7 ≤ c ∧ c ≤ 16 ∧ j < 16)) ∨ ((c = 1 ∧ (j ≤ 4 ∨ j = 8)) ∨ (c = 2 ∧ j < 4) ∨ ((c = 3 ∨ c = 4) ∧ j < 24) ∨ (c = 5 ∧ j < 6))) → rd σ' o c j = rd σ p c j := hD
  obtain ⟨⟨a1, a2, a3⟩, ⟨b1, b2, b3, b4, b5, b6⟩, z, q, ⟨f1, f2⟩, kk, p1, p2⟩ := hO
  refine ⟨⟨(U _ _ (by omega)).trans a1, (U _ _ (by omega)).trans a2, (U _ _ (by omega)).trans a3⟩, ⟨(U _ _ (by omega)).trans b1, (U _ _ (by omega)).trans b2, (U _ _ (by omega)).trans b3, (U _ _ (by omega)).trans b4, (U _ _ (by omega)).trans b5, (U _ _ (by omega)).trans b6⟩, fun i hi => ?_, fun c hc => (U _ _ (by omega)).trans (q c hc), ⟨(U _ _ (by omega)).trans f1, (U _ _ (by omega)).trans f2⟩, fun k hk => ?_, (U _ _ (by omega)).trans p1, fun i hi => ?_⟩
  · have g := z i hi
    have g2 := r_ZC hI hi
    refine ⟨(U _ _ (by omega)).trans g.1, fun j hj => ⟨(U _ _ (by omega)).trans (g.2 j hj).1, (U _ _ (by omega)).trans (g.2 j hj).2⟩⟩
  · obtain ⟨k1, k2, k3, k4, k5, k6, k7, k8, k9, k10⟩ := kk k hk
    exact ⟨(U _ _ (by omega)).trans k1, (U _ _ (by omega)).trans k2, (U _ _ (by omega)).trans k3, (U _ _ (by omega)).trans k4, (U _ _ (by omega)).trans k5, (U _ _ (by omega)).trans k6, (U _ _ (by omega)).trans k7, (U _ _ (by omega)).trans k8, (U _ _ (by omega)).trans k9, (U _ _ (by omega)).trans k10⟩
  · obtain ⟨k1, k2, k3⟩ := p2 i hi
    exact ⟨(U _ _ (by omega)).trans k1, (U _ _ (by omega)).trans k2, (U _ _ (by omega)).trans k3⟩
/-- another office than the one that has changed -/
theorem OAt_fr {o p : Nat} {σ σ' : Mem} {A : Rw} (h : ∀ c, rd σ' p c = rd σ p c) (hO : OAt σ p A) : OAt σ' p A := by
  unfold OAt
  simp only [h]
  exact hO
theorem FrO_at {o p : Nat} {σ σ' : Mem} {A : Rw} (h : FrO o σ σ') (hp : p ≠ o) (hO : OAt σ p A) : OAt σ' p A := OAt_fr (o := o) (fun c => h.1 p c hp) hO
