/-! ===== the class's reader of texts ===== -/
def TXc (σ : Mem) (t : Nat → Nat) (L : Nat) : Prop := (∀ j, j < L → t j < 256 ∧ rd σ 12 6 j = nI (t j)) ∧ rd σ 12 5 1 = nI L ∧ L ≤ 500
/-- a reader's step changes its own numbers alone -/
def FrI (σ σ' : Mem) : Prop := (∀ a c j, ¬ (a = 12 ∧ c = 5 ∧ 2 ≤ j) → rd σ' a c j = rd σ a c j) ∧ ∀ j, rdL σ' j = rdL σ j
theorem FrI_refl {σ : Mem} : FrI σ σ := ⟨fun _ _ _ _ => rfl, fun _ => rfl⟩
theorem FrI_trans {a b c : Mem} (h1 : FrI a b) (h2 : FrI b c) : FrI a c := ⟨fun o d j q => (h2.1 o d j q).trans (h1.1 o d j q), fun j => (h2.2 j).trans (h1.2 j)⟩
theorem FrI_wr {σ σ' : Mem} {j : Nat} {v : Int32} (h : FrI σ σ') (hj : 2 ≤ j) : FrI σ (wr σ' 12 5 j v) := ⟨fun a c i q => by
  rw [rd_wr, if_neg (fun g => q ⟨g.1, g.2.1, by omega⟩)]
  exact h.1 a c i q, fun i => h.2 i⟩
theorem FrI_TX {σ σ' : Mem} {t : Nat → Nat} {L : Nat} (h : FrI σ σ') (hX : TXc σ t L) : TXc σ' t L := ⟨fun j hj => ⟨(hX.1 j hj).1, (h.1 12 6 j (by omega)).trans (hX.1 j hj).2⟩, (h.1 12 5 1 (by omega)).trans hX.2.1, hX.2.2⟩
/-- a token's step: the fault stays as it is -/
def FrT (σ σ' : Mem) : Prop := (∀ a c j, ¬ (a = 12 ∧ c = 5 ∧ 4 ≤ j) → rd σ' a c j = rd σ a c j) ∧ ∀ j, rdL σ' j = rdL σ j
theorem FrT_refl {σ : Mem} : FrT σ σ := ⟨fun _ _ _ _ => rfl, fun _ => rfl⟩
theorem FrT_trans {a b c : Mem} (h1 : FrT a b) (h2 : FrT b c) : FrT a c := ⟨fun o d j q => (h2.1 o d j q).trans (h1.1 o d j q), fun j => (h2.2 j).trans (h1.2 j)⟩
theorem FrT_wr {σ σ' : Mem} {j : Nat} {v : Int32} (h : FrT σ σ') (hj : 4 ≤ j) : FrT σ (wr σ' 12 5 j v) := ⟨fun a c i q => by
  rw [rd_wr, if_neg (fun g => q ⟨g.1, g.2.1, by omega⟩)]
  exact h.1 a c i q, fun i => h.2 i⟩
theorem FrT_I {σ σ' : Mem} (h : FrT σ σ') : FrI σ σ' := ⟨fun a c j q => h.1 a c j (by omega), h.2⟩
def curC (σ : Mem) (t : Nat → Nat) (L p : Nat) : Prop := rd σ 12 5 4 = nI (kdT t L p) ∧ rd σ 12 5 5 = nI p ∧ rd σ 12 5 6 = nI (endT t L p) ∧ (kdT t L p = 2 → rd σ 12 5 7 = nI (numT t L p))
/-- where the reader stands: at a fault, or before the token behind a -/
def StC (σ : Mem) (t : Nat → Nat) (L : Nat) (s : Flt ⊕ Nat) : Prop := match s with
  | .inl e => rd σ 12 5 2 = nI e.1 ∧ rd σ 12 5 3 = nI e.2 ∧ 1 ≤ e.1 ∧ e.1 ≤ 3 ∧ e.2 ≤ 500
  | .inr a => a ≤ L ∧ rd σ 12 5 2 = nI 0 ∧ rd σ 12 5 3 = -1 ∧ curC σ t L (skip t L a)
theorem StC_fr {σ σ' : Mem} {t : Nat → Nat} {L : Nat} {s : Flt ⊕ Nat} (h : ∀ j, 2 ≤ j → rd σ' 12 5 j = rd σ 12 5 j) (hS : StC σ t L s) : StC σ' t L s := by
  cases s with
  | inl e => exact ⟨(h 2 (by omega)).trans hS.1, (h 3 (by omega)).trans hS.2.1, hS.2.2⟩
  | inr a => exact ⟨hS.1, (h 2 (by omega)).trans hS.2.1, (h 3 (by omega)).trans hS.2.2.1, (h 4 (by omega)).trans hS.2.2.2.1, (h 5 (by omega)).trans hS.2.2.2.2.1, (h 6 (by omega)).trans hS.2.2.2.2.2.1, fun q => (h 7 (by omega)).trans (hS.2.2.2.2.2.2 q)⟩
/-- the steps -/
noncomputable def sFail (t : Nat → Nat) (L c : Nat) (s : Flt ⊕ Nat) : Flt ⊕ Nat := bnd s (fun a => (.inl (c, skip t L a) : Flt ⊕ Nat))
noncomputable def sWord (W : List Nat) (t : Nat → Nat) (L : Nat) (s : Flt ⊕ Nat) : Flt ⊕ Nat := bnd s (fun a => @ite _ (wordT W t L (skip t L a)) (Classical.propDecidable _) (.inr (endT t L (skip t L a))) (.inl (1, skip t L a)))
noncomputable def sSemi (t : Nat → Nat) (L : Nat) (s : Flt ⊕ Nat) : Flt ⊕ Nat := bnd s (pEnd t L)
noncomputable def sNum (t : Nat → Nat) (L lo hi : Nat) (s : Flt ⊕ Nat) : Flt ⊕ Nat := bnd s (fun a => bnd (pNum t L lo hi a) (fun r => .inr r.1))
noncomputable def vNum (t : Nat → Nat) (L lo hi : Nat) (s : Flt ⊕ Nat) : Nat := match s with
  | .inl _ => lo
  | .inr a => match pNum t L lo hi a with
    | .inl _ => lo
    | .inr r => r.2
noncomputable def sTail (t : Nat → Nat) (L : Nat) (s : Flt ⊕ Nat) : Flt ⊕ Nat := bnd s (fun a => if kdT t L (skip t L a) = 0 then .inr a else .inl (1, skip t L a))
def atW (W : List Nat) (t : Nat → Nat) (L : Nat) (s : Flt ⊕ Nat) : Prop := ∃ a, s = .inr a ∧ wordT W t L (skip t L a)
def atN (t : Nat → Nat) (L : Nat) (s : Flt ⊕ Nat) : Prop := ∃ a, s = .inr a ∧ kdT t L (skip t L a) = 2
def atE (t : Nat → Nat) (L : Nat) (s : Flt ⊕ Nat) : Prop := (∃ e, s = .inl e) ∨ ∃ a, s = .inr a ∧ kdT t L (skip t L a) = 0
theorem vNum_rng {t : Nat → Nat} {L lo hi : Nat} (h : lo ≤ hi) (s : Flt ⊕ Nat) : lo ≤ vNum t L lo hi s ∧ vNum t L lo hi s ≤ hi := by
  cases s with
  | inl e => exact ⟨Nat.le_refl _, h⟩
  | inr a =>
    show lo ≤ (match pNum t L lo hi a with | .inl _ => lo | .inr r => r.2) ∧ (match pNum t L lo hi a with | .inl _ => lo | .inr r => r.2) ≤ hi
    by_cases h1 : kdT t L (skip t L a) = 2
    · by_cases h2 : lo ≤ numT t L (skip t L a) ∧ numT t L (skip t L a) ≤ hi
      · rw [pNum_3 h1 h2]; exact h2
      · rw [pNum_2 h1 h2]; exact ⟨Nat.le_refl _, h⟩
    · rw [pNum_1 h1]; exact ⟨Nat.le_refl _, h⟩
theorem skip_500 {t : Nat → Nat} {L a : Nat} (hL : L ≤ 500) (ha : a ≤ L) : skip t L a ≤ L ∧ skip t L a ≤ 500 ∧ endT t L (skip t L a) ≤ L := by
  have h := skip_le (t := t) ha
  have h2 := endT_le (t := t) h.2
  omega
theorem numT_le (t : Nat → Nat) (L p : Nat) : numT t L p ≤ 1000000 := val_le _ _ _ _
theorem word_nil {W : List Nat} {t : Nat → Nat} {L p : Nat} (h : ¬ kdT t L p = 1) : ¬ wordT W t L p := fun q => h q.1
theorem TXc_at {σ : Mem} {t : Nat → Nat} {L j : Nat} (h : TXc σ t L) (hj : j < L) : rd σ 12 6 j = nI (t j) := (h.1 j hj).2
