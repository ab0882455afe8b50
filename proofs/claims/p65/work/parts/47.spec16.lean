/-! ===== the grammar of a script ===== -/
noncomputable def verbT (t : Nat → Nat) (L p : Nat) : Nat :=
  @ite _ (wordT wLAUNCH t L p) (Classical.propDecidable _) 1 (@ite _ (wordT wLAND t L p) (Classical.propDecidable _) 2 (@ite _ (wordT wHOURS t L p) (Classical.propDecidable _) 3 (@ite _ (wordT wPERMIT t L p) (Classical.propDecidable _) 4
  (@ite _ (wordT wCANCEL t L p) (Classical.propDecidable _) 5 (@ite _ (wordT wTIE t L p) (Classical.propDecidable _) 6 (@ite _ (wordT wREPAIR t L p) (Classical.propDecidable _) 7 (@ite _ (wordT wPAY t L p) (Classical.propDecidable _) 8 0)))))))
abbrev Cmd : Type := Nat × Nat × Nat × Nat
def needY (v : Nat) : Prop := v = 4 ∨ v = 6 ∨ v = 8
/-- the numbers of a command -/
noncomputable def pCmd (t : Nat → Nat) (L v a : Nat) : Flt ⊕ (Nat × Nat × Nat × Nat) :=
  if v = 3 then bnd (pNum t L 1 48 a) (fun r => .inr (r.1, r.2, 0, 0)) else
  bnd (pNum t L 0 15 a) (fun r0 => if v = 4 then bnd (pNum t L 0 999999 r0.1) (fun r1 => bnd (pNum t L 1 24 r1.1) (fun r2 => .inr (r2.1, r0.2, r1.2, r2.2))) else
    if v = 6 then bnd (pNum t L 0 9 r0.1) (fun r1 => .inr (r1.1, r0.2, r1.2, 0)) else if v = 8 then bnd (pNum t L 1 999 r0.1) (fun r1 => .inr (r1.1, r0.2, r1.2, 0)) else .inr (r0.1, r0.2, 0, 0))
def cmdOK (v : Nat) (c : Nat × Nat × Nat) : Prop := (v = 3 → 1 ≤ c.1 ∧ c.1 ≤ 48) ∧ (v ≠ 3 → c.1 ≤ 15) ∧ (v = 4 → c.2.1 ≤ 999999 ∧ 1 ≤ c.2.2 ∧ c.2.2 ≤ 24) ∧ (v = 6 → c.2.1 ≤ 9) ∧ (v = 8 → 1 ≤ c.2.1 ∧ c.2.1 ≤ 999)
/-- changes to the numbers from n on, and those of a reading -/
def PN7 (n : Nat) (σ σ' : Mem) : Prop := (∀ o c j, ¬ PFx o c j → ¬ (o = 13 ∧ c = 7 ∧ n ≤ j ∧ j < n + 3) → rd σ' o c j = rd σ o c j) ∧ ∀ j, 1 ≤ j → rdL σ' j = rdL σ j
theorem PN7_rf {n : Nat} {σ : Mem} : PN7 n σ σ := ⟨fun _ _ _ _ _ => rfl, fun _ _ => rfl⟩
theorem PN7_st {n k : Nat} {σ τ τ2 : Mem} {x : Int32} (h : PN7 n σ τ) (hk : n ≤ k ∧ k < n + 3) (h2 : PF (wr τ 13 7 k x) τ2) : PN7 n σ τ2 :=
  ⟨fun o c j q1 q2 => (h2.1 o c j q1).trans (by rw [rd_wr, if_neg (by omega)]; exact h.1 o c j q1 q2), fun j hj => (h2.2 j hj).trans (h.2 j hj)⟩
theorem PN7_PG {n : Nat} {σ τ : Mem} (h : PN7 n σ τ) : PG σ τ := ⟨fun o c j q => h.1 o c j (fun z => q (Or.inl z)) (fun z => q (Or.inr (Or.inl ⟨z.1, Or.inr z.2.1⟩))), h.2⟩
theorem PN7_PE {n : Nat} {σ τ τ2 : Mem} {e : Nat × Nat} (h : PN7 n σ τ) (h2 : PE τ τ2 e) : PE σ τ2 e := PE_tr (PN7_PG h) h2
def updC (C : Nat → Cmd) (k : Nat) (c : Cmd) : Nat → Cmd := fun i => if i = k then c else C i
noncomputable def pScript (t : Nat → Nat) (L : Nat) : Nat → (Nat → Cmd) → Nat → Nat → Flt ⊕ ((Nat → Cmd) × Nat)
  | 0, _, _, _ => .inl (0, 0)
  | f + 1, C, k, a => if kdT t L (skip t L a) = 0 then .inr (C, k) else if verbT t L (skip t L a) = 0 then .inl (1, skip t L a) else if k = 20 then .inl (3, skip t L a) else
      bnd (pCmd t L (verbT t L (skip t L a)) (endT t L (skip t L a))) (fun r => bnd (pEnd t L r.1) (fun b => pScript t L f (updC C k (verbT t L (skip t L a), r.2)) (k + 1) b))
theorem verbT_le (t : Nat → Nat) (L p : Nat) : verbT t L p ≤ 8 := by
  unfold verbT
  repeat (first | omega | (split; omega))
/-- the commands in the reference's memory -/
def CM (σ : Mem) (C : Nat → Cmd) (k : Nat) : Prop := ∀ i, i < k → rd σ 13 6 i = nI ((C i).1 - 1) ∧ (1 ≤ (C i).1 ∧ (C i).1 ≤ 8) ∧ (rd σ 13 7 (3 * i) = nI (C i).2.1 ∧ (needY (C i).1 → rd σ 13 7 (3 * i + 1) = nI (C i).2.2.1) ∧ ((C i).1 = 4 → rd σ 13 7 (3 * i + 2) = nI (C i).2.2.2)) ∧ cmdOK (C i).1 (C i).2
theorem CM_PF {σ τ : Mem} {C : Nat → Cmd} {k : Nat} (h : CM σ C k) (hp : PF σ τ) : CM τ C k := by
  unfold CM
  rw [PF_6 hp, PF_7 hp]
  exact h
theorem CM_new {τ1 τ2 : Mem} {C : Nat → Cmd} {k v : Nat} {c : Nat × Nat × Nat} {x : Int32} (h : CM τ1 C k) (hN : PN7 (3 * k) (wr (wr τ1 13 0 14 x) 13 6 k (nI v)) τ2) (hv : v < 8)
    (hw : rd τ2 13 7 (3 * k + 0) = nI c.1 ∧ (needY (v + 1) → rd τ2 13 7 (3 * k + 1) = nI c.2.1) ∧ (v + 1 = 4 → rd τ2 13 7 (3 * k + 2) = nI c.2.2)) (hc : cmdOK (v + 1) c) : CM τ2 (updC C k (v + 1, c)) (k + 1) := by
  intro i hi
  unfold updC
  by_cases hik : i = k
  · subst hik
    rw [if_pos rfl]
    refine ⟨?_, ⟨by show 1 ≤ v + 1; omega, by show v + 1 ≤ 8; omega⟩, hw, hc⟩
    rw [hN.1 13 6 i (by unfold PFx; omega) (by omega), rd_wr_s]
    rfl
  · rw [if_neg hik]
    obtain ⟨h1, h2, h3, h4⟩ := h i (by omega)
    have e7 : ∀ j, j < 3 * k → rd τ2 13 7 j = rd τ1 13 7 j := fun j hj => by rw [hN.1 13 7 j (by unfold PFx; omega) (by omega), rd_wr_c (by decide), rd_wr_c (by decide)]
    refine ⟨?_, h2, ⟨(e7 _ (by omega)).trans h3.1, fun q => (e7 _ (by omega)).trans (h3.2.1 q), fun q => (e7 _ (by omega)).trans (h3.2.2 q)⟩, h4⟩
    rw [hN.1 13 6 i (by unfold PFx; omega) (by omega), rd_wr_j hik, rd_wr_c (by decide)]
    exact h1
section PS
variable {t : Nat → Nat} {L f k a : Nat} {C : Nat → Cmd}
theorem pS_0 (hf : 1 ≤ f) (h0 : kdT t L (skip t L a) = 0) : pScript t L f C k a = .inr (C, k) := by
  obtain ⟨g, rfl⟩ : ∃ g, f = g + 1 := ⟨f - 1, by omega⟩
  exact if_pos h0
theorem pS_v (hf : 1 ≤ f) (h0 : ¬ kdT t L (skip t L a) = 0) (hv : verbT t L (skip t L a) = 0) : pScript t L f C k a = .inl (1, skip t L a) := by
  obtain ⟨g, rfl⟩ : ∃ g, f = g + 1 := ⟨f - 1, by omega⟩
  exact (if_neg h0).trans (if_pos hv)
theorem pS_20 (hf : 1 ≤ f) (h0 : ¬ kdT t L (skip t L a) = 0) (hv : ¬ verbT t L (skip t L a) = 0) (hk : k = 20) : pScript t L f C k a = .inl (3, skip t L a) := by
  obtain ⟨g, rfl⟩ : ∃ g, f = g + 1 := ⟨f - 1, by omega⟩
  exact (if_neg h0).trans ((if_neg hv).trans (if_pos hk))
theorem pS_s (hf : 1 ≤ f) (h0 : ¬ kdT t L (skip t L a) = 0) (hv : ¬ verbT t L (skip t L a) = 0) (hk : ¬ k = 20) : pScript t L f C k a = bnd (pCmd t L (verbT t L (skip t L a)) (endT t L (skip t L a))) (fun r => bnd (pEnd t L r.1) (fun b => pScript t L (f - 1) (updC C k (verbT t L (skip t L a), r.2)) (k + 1) b)) := by
  obtain ⟨g, rfl⟩ : ∃ g, f = g + 1 := ⟨f - 1, by omega⟩
  exact (if_neg h0).trans ((if_neg hv).trans (if_neg hk))
end PS
