/-! ===== the class's scripts ===== -/
/-- the commands in the class's memory -/
def CMc (σ : Mem) (C : Nat → Cmd) (k : Nat) : Prop := ∀ i, i < k → rd σ 12 8 i = nI (C i).1 ∧ (1 ≤ (C i).1 ∧ (C i).1 ≤ 8) ∧ (rd σ 12 9 i = nI (C i).2.1 ∧ (needY (C i).1 → rd σ 12 10 i = nI (C i).2.2.1) ∧ ((C i).1 = 4 → rd σ 12 11 i = nI (C i).2.2.2)) ∧ cmdOK (C i).1 (C i).2
/-- the reader's numbers and the k-th command change -/
def FrC (k : Nat) (σ σ' : Mem) : Prop := (∀ a c j, ¬ (a = 12 ∧ c = 5 ∧ 2 ≤ j) → ¬ (a = 12 ∧ 8 ≤ c ∧ c ≤ 11 ∧ j = k) → rd σ' a c j = rd σ a c j) ∧ ∀ j, rdL σ' j = rdL σ j
theorem FrC_trans {k : Nat} {a b c : Mem} (h1 : FrC k a b) (h2 : FrC k b c) : FrC k a c := ⟨fun o d j q q2 => (h2.1 o d j q q2).trans (h1.1 o d j q q2), fun j => (h2.2 j).trans (h1.2 j)⟩
theorem FrI_C {k : Nat} {σ σ' : Mem} (h : FrI σ σ') : FrC k σ σ' := ⟨fun a c j q _ => h.1 a c j q, h.2⟩
theorem FrC_wr {k c : Nat} {σ σ' : Mem} {v : Int32} (h : FrC k σ σ') (hc : 8 ≤ c ∧ c ≤ 11) : FrC k σ (wr σ' 12 c k v) := ⟨fun a d i q q2 => by
  rw [rd_wr, if_neg (fun g => q2 ⟨g.1, by omega, by omega, g.2.2⟩)]
  exact h.1 a d i q q2, fun i => h.2 i⟩
theorem TXc_wr {σ : Mem} {t : Nat → Nat} {L c j : Nat} {v : Int32} (hc : c ≠ 5 ∧ c ≠ 6) (hX : TXc σ t L) : TXc (wr σ 12 c j v) t L := ⟨fun i hi => ⟨(hX.1 i hi).1, (rd_wr_c (Ne.symm hc.2)).trans (hX.1 i hi).2⟩, (rd_wr_c (Ne.symm hc.1)).trans hX.2.1, hX.2.2⟩
theorem StC_wr {σ : Mem} {t : Nat → Nat} {L c j : Nat} {v : Int32} {s : Flt ⊕ Nat} (hc : c ≠ 5) (hS : StC σ t L s) : StC (wr σ 12 c j v) t L s := StC_fr (fun _ _ => rd_wr_c (Ne.symm hc)) hS
noncomputable def cmdV (t : Nat → Nat) (L a : Nat) : Flt ⊕ (Cmd × Nat) := if verbT t L (skip t L a) = 0 then .inl (1, skip t L a) else bnd (pCmd t L (verbT t L (skip t L a)) (endT t L (skip t L a))) (fun r => bnd (pEnd t L r.1) (fun b => .inr ((verbT t L (skip t L a), r.2), b)))
def sC {α : Type} (Y : Flt ⊕ (α × Nat)) : Flt ⊕ Nat := bnd Y (fun r => .inr r.2)
theorem pNum_in {t : Nat → Nat} {L lo hi a : Nat} {r : Nat × Nat} (h : pNum t L lo hi a = .inr r) : lo ≤ r.2 ∧ r.2 ≤ hi := by
  by_cases h1 : kdT t L (skip t L a) = 2
  · by_cases h2 : lo ≤ numT t L (skip t L a) ∧ numT t L (skip t L a) ≤ hi
    · rw [pNum_3 h1 h2] at h
      have e := Sum.inr.inj h
      rw [← e]
      exact h2
    · rw [pNum_2 h1 h2] at h; cases h
  · rw [pNum_1 h1] at h; cases h
theorem pCmd_ok {t : Nat → Nat} {L v a : Nat} {r : Nat × Nat × Nat × Nat} (h8 : 1 ≤ v ∧ v ≤ 8) (h : pCmd t L v a = .inr r) : cmdOK v r.2 := by
  unfold pCmd at h
  by_cases e3 : v = 3
  · rw [if_pos e3] at h
    cases h1 : pNum t L 1 48 a with
    | inl e => rw [h1] at h; cases h
    | inr q =>
      rw [h1] at h
      have e := Sum.inr.inj h
      have g := pNum_in h1
      subst e e3
      exact ⟨fun _ => g, fun q => absurd rfl q, fun q => absurd q (by decide), fun q => absurd q (by decide), fun q => absurd q (by decide)⟩
  · rw [if_neg e3] at h
    cases h1 : pNum t L 0 15 a with
    | inl e => rw [h1] at h; cases h
    | inr q =>
      rw [h1] at h
      have g := pNum_in h1
      change (if v = 4 then _ else _) = _ at h
      by_cases e4 : v = 4
      · rw [if_pos e4] at h
        cases h2 : pNum t L 0 999999 q.1 with
        | inl e => rw [h2] at h; cases h
        | inr q2 =>
          rw [h2] at h
          have g2 := pNum_in h2
          change bnd (pNum t L 1 24 q2.1) _ = _ at h
          cases h3 : pNum t L 1 24 q2.1 with
          | inl e => rw [h3] at h; cases h
          | inr q3 =>
            rw [h3] at h
            have g3 := pNum_in h3
            have e := Sum.inr.inj h
            subst e e4
            exact ⟨fun q => absurd q (by decide), fun _ => g.2, fun _ => ⟨g2.2, g3⟩, fun q => absurd q (by decide), fun q => absurd q (by decide)⟩
      · rw [if_neg e4] at h
        by_cases e6 : v = 6
        · rw [if_pos e6] at h
          cases h2 : pNum t L 0 9 q.1 with
          | inl e => rw [h2] at h; cases h
          | inr q2 =>
            rw [h2] at h
            have g2 := pNum_in h2
            have e := Sum.inr.inj h
            subst e e6
            exact ⟨fun q => absurd q (by decide), fun _ => g.2, fun q => absurd q (by decide), fun _ => g2.2, fun q => absurd q (by decide)⟩
        · rw [if_neg e6] at h
          by_cases e8 : v = 8
          · rw [if_pos e8] at h
            cases h2 : pNum t L 1 999 q.1 with
            | inl e => rw [h2] at h; cases h
            | inr q2 =>
              rw [h2] at h
              have g2 := pNum_in h2
              have e := Sum.inr.inj h
              subst e e8
              exact ⟨fun q => absurd q (by decide), fun _ => g.2, fun q => absurd q (by decide), fun q => absurd q (by decide), fun _ => g2⟩
          · rw [if_neg e8] at h
            have e := Sum.inr.inj h
            subst e
            exact ⟨fun q => absurd q e3, fun _ => g.2, fun q => absurd q e4, fun q => absurd q e6, fun q => absurd q e8⟩
section CV
variable {t : Nat → Nat} {L a : Nat}
theorem cmdV_3 (hv : verbT t L (skip t L a) = 3) : sC (cmdV t L a) = sSemi t L (sNum t L 1 48 (.inr (endT t L (skip t L a)))) ∧ ∀ c b, cmdV t L a = .inr (c, b) → c = (3, vNum t L 1 48 (.inr (endT t L (skip t L a))), 0, 0) := by
  unfold cmdV pCmd
  rw [hv, if_neg (by decide), if_pos rfl]
  cases h1 : pNum t L 1 48 (endT t L (skip t L a)) with
  | inl e => simp [sC, sNum, sSemi, bnd, h1]
  | inr r =>
    cases h2 : pEnd t L r.1 with
    | inl e => simp [sC, sNum, sSemi, bnd, h1, h2]
    | inr b => simp [sC, sNum, sSemi, vNum, bnd, h1, h2]
theorem cmdV_4 (hv : verbT t L (skip t L a) = 4) : sC (cmdV t L a) = sSemi t L (sNum t L 1 24 (sNum t L 0 999999 (sNum t L 0 15 (.inr (endT t L (skip t L a)))))) ∧ ∀ c b, cmdV t L a = .inr (c, b) → c = (4, vNum t L 0 15 (.inr (endT t L (skip t L a))), vNum t L 0 999999 (sNum t L 0 15 (.inr (endT t L (skip t L a)))), vNum t L 1 24 (sNum t L 0 999999 (sNum t L 0 15 (.inr (endT t L (skip t L a)))))) := by
  unfold cmdV pCmd
  rw [hv, if_neg (by decide), if_neg (by decide)]
  cases h1 : pNum t L 0 15 (endT t L (skip t L a)) with
  | inl e => simp [sC, sNum, sSemi, bnd, h1]
  | inr r =>
    cases h2 : pNum t L 0 999999 r.1 with
    | inl e => simp [sC, sNum, sSemi, bnd, h1, h2]
    | inr r2 =>
      cases h3 : pNum t L 1 24 r2.1 with
      | inl e => simp [sC, sNum, sSemi, bnd, h1, h2, h3]
      | inr r3 =>
        cases h4 : pEnd t L r3.1 with
        | inl e => simp [sC, sNum, sSemi, bnd, h1, h2, h3, h4]
        | inr b => simp [sC, sNum, sSemi, vNum, bnd, h1, h2, h3, h4]
theorem cmdV_6 (hv : verbT t L (skip t L a) = 6) : sC (cmdV t L a) = sSemi t L (sNum t L 0 9 (sNum t L 0 15 (.inr (endT t L (skip t L a))))) ∧ ∀ c b, cmdV t L a = .inr (c, b) → c = (6, vNum t L 0 15 (.inr (endT t L (skip t L a))), vNum t L 0 9 (sNum t L 0 15 (.inr (endT t L (skip t L a)))), 0) := by
  unfold cmdV pCmd
  rw [hv, if_neg (by decide), if_neg (by decide)]
  cases h1 : pNum t L 0 15 (endT t L (skip t L a)) with
  | inl e => simp [sC, sNum, sSemi, bnd, h1]
  | inr r =>
    cases h2 : pNum t L 0 9 r.1 with
    | inl e => simp [sC, sNum, sSemi, bnd, h1, h2]
    | inr r2 =>
      cases h4 : pEnd t L r2.1 with
      | inl e => simp [sC, sNum, sSemi, bnd, h1, h2, h4]
      | inr b => simp [sC, sNum, sSemi, vNum, bnd, h1, h2, h4]
theorem cmdV_8 (hv : verbT t L (skip t L a) = 8) : sC (cmdV t L a) = sSemi t L (sNum t L 1 999 (sNum t L 0 15 (.inr (endT t L (skip t L a))))) ∧ ∀ c b, cmdV t L a = .inr (c, b) → c = (8, vNum t L 0 15 (.inr (endT t L (skip t L a))), vNum t L 1 999 (sNum t L 0 15 (.inr (endT t L (skip t L a)))), 0) := by
  unfold cmdV pCmd
  rw [hv, if_neg (by decide), if_neg (by decide)]
  cases h1 : pNum t L 0 15 (endT t L (skip t L a)) with
  | inl e => simp [sC, sNum, sSemi, bnd, h1]
  | inr r =>
    cases h2 : pNum t L 1 999 r.1 with
    | inl e => simp [sC, sNum, sSemi, bnd, h1, h2]
    | inr r2 =>
      cases h4 : pEnd t L r2.1 with
      | inl e => simp [sC, sNum, sSemi, bnd, h1, h2, h4]
      | inr b => simp [sC, sNum, sSemi, vNum, bnd, h1, h2, h4]
theorem cmdV_o {v : Nat} (hv : verbT t L (skip t L a) = v) (h0 : v ≠ 0) (h3 : v ≠ 3) (h4 : v ≠ 4) (h6 : v ≠ 6) (h8 : v ≠ 8) : sC (cmdV t L a) = sSemi t L (sNum t L 0 15 (.inr (endT t L (skip t L a)))) ∧ ∀ c b, cmdV t L a = .inr (c, b) → c = (v, vNum t L 0 15 (.inr (endT t L (skip t L a))), 0, 0) := by
  unfold cmdV pCmd
  rw [hv, if_neg h0, if_neg h3]
  cases h1 : pNum t L 0 15 (endT t L (skip t L a)) with
  | inl e => simp [sC, sNum, sSemi, bnd, h1]
  | inr r =>
    simp only [bnd, if_neg h4, if_neg h6, if_neg h8]
    cases h5 : pEnd t L r.1 with
    | inl e => simp [sC, sNum, sSemi, bnd, h1, h5]
    | inr b => simp [sC, sNum, sSemi, vNum, bnd, h1, h5]
end CV
/-- what a command's reading leaves at its place -/
def CMk (σ : Mem) (k : Nat) (c : Cmd) : Prop := rd σ 12 8 k = nI c.1 ∧ rd σ 12 9 k = nI c.2.1 ∧ (needY c.1 → rd σ 12 10 k = nI c.2.2.1) ∧ (c.1 = 4 → rd σ 12 11 k = nI c.2.2.2)
theorem cmdV_ok {t : Nat → Nat} {L a : Nat} {c : Cmd} {b : Nat} (h : cmdV t L a = .inr (c, b)) : (1 ≤ c.1 ∧ c.1 ≤ 8) ∧ cmdOK c.1 c.2 := by
  have hv := verbT_le t L (skip t L a)
  unfold cmdV at h
  by_cases h0 : verbT t L (skip t L a) = 0
  · rw [if_pos h0] at h; cases h
  · rw [if_neg h0] at h
    cases h1 : pCmd t L (verbT t L (skip t L a)) (endT t L (skip t L a)) with
    | inl e => rw [h1] at h; cases h
    | inr r =>
      rw [h1] at h
      change bnd (pEnd t L r.1) _ = _ at h
      cases h2 : pEnd t L r.1 with
      | inl e => rw [h2] at h; cases h
      | inr b2 =>
        rw [h2] at h
        have e := congrArg Prod.fst (Sum.inr.inj h)
        have g := pCmd_ok (by omega) h1
        dsimp only at e
        rw [← e]
        exact ⟨by dsimp only; omega, g⟩
noncomputable def yC (t : Nat → Nat) (L k : Nat) (C : Nat → Cmd) (a : Nat) : Flt ⊕ ((Nat → Cmd) × Nat) := bnd (cmdV t L a) (fun r => .inr (updC C k r.1, r.2))
theorem yC_s {t : Nat → Nat} {L k a : Nat} {C : Nat → Cmd} : sC (yC t L k C a) = sC (cmdV t L a) := by
  unfold yC
  cases cmdV t L a <;> rfl
noncomputable def sF (t : Nat → Nat) (L k : Nat) (Y : Flt ⊕ ((Nat → Cmd) × Nat)) : Flt ⊕ ((Nat → Cmd) × Nat) := bnd Y (fun r => pScript t L (21 - k) r.1 k r.2)
theorem script_step {t : Nat → Nat} {L k a : Nat} {C : Nat → Cmd} (hk : k < 20) (h0 : ¬ kdT t L (skip t L a) = 0) : sF t L (k + 1) (yC t L k C a) = sF t L k (.inr (C, a)) := by
  show _ = pScript t L (21 - k) C k a
  unfold yC cmdV
  by_cases hv : verbT t L (skip t L a) = 0
  · rw [if_pos hv, pS_v (by omega) h0 hv]
    rfl
  · rw [if_neg hv, pS_s (by omega) h0 hv (by omega)]
    cases h1 : pCmd t L (verbT t L (skip t L a)) (endT t L (skip t L a)) with
    | inl e => rfl
    | inr r =>
      cases h2 : pEnd t L r.1 with
      | inl e => simp [sF, bnd, h2]
      | inr b => simp [sF, bnd, h2, show 21 - k - 1 = 21 - (k + 1) by omega]
theorem CMc_step {σ σ' : Mem} {C : Nat → Cmd} {k b : Nat} {t : Nat → Nat} {L a : Nat} {C' : Nat → Cmd} (h : CMc σ C k) (hF : FrC k σ σ') (hM : ∀ c b, cmdV t L a = .inr (c, b) → CMk σ' k c) (e : yC t L k C a = .inr (C', b)) : CMc σ' C' (k + 1) := by
  unfold yC at e
  cases h1 : cmdV t L a with
  | inl f => rw [h1] at e; cases e
  | inr r =>
    rw [h1] at e
    obtain ⟨c, b2⟩ := r
    have e2 : updC C k c = C' := congrArg Prod.fst (Sum.inr.inj e)
    subst e2
    intro i hi
    unfold updC
    by_cases hik : i = k
    · subst hik
      rw [if_pos rfl]
      have g := hM c b2 h1
      have g2 := cmdV_ok h1
      exact ⟨g.1, g2.1, ⟨g.2.1, g.2.2.1, g.2.2.2⟩, g2.2⟩
    · rw [if_neg hik]
      obtain ⟨q1, q2, q3, q4⟩ := h i (by omega)
      have R : ∀ c, c ≠ 5 → rd σ' 12 c i = rd σ 12 c i := fun c hc => hF.1 12 c i (by omega) (by omega)
      exact ⟨(R 8 (by decide)).trans q1, q2, ⟨(R 9 (by decide)).trans q3.1, fun q => (R 10 (by decide)).trans (q3.2.1 q), fun q => (R 11 (by decide)).trans (q3.2.2 q)⟩, q4⟩
