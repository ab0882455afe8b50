/-! ===== a setup as a whole ===== -/
theorem OAt_field {σ : Mem} {o : Nat} {A : Rw} {a b c d : Int32} (hA : ∀ j, j < 304 → A j = nI 0) (h03 : rd σ o 0 3 = nI 0) (h04 : rd σ o 0 4 = nI 0) (h05 : rd σ o 0 5 = nI 0) (h10 : rd σ o 1 0 = a) (h11 : rd σ o 1 1 = b) (h12 : rd σ o 1 2 = c) (h13 : rd σ o 1 3 = d) (h14 : rd σ o 1 4 = nI 0) (h18 : rd σ o 1 8 = nI 0) (h60 : rd σ o 6 0 = nI 0) (h61 : rd σ o 6 1 = nI 0) (h17 : rd σ o 17 0 = nI 0) : OAt σ o (fieldA A a b c d) := by
  have e : ∀ j, 4 ≤ j → j < 304 → fieldA A a b c d j = nI 0 := fun j h1 h2 => by
    unfold fieldA
    rw [upd_n (by omega), upd_n (by omega), upd_n (by omega), upd_n (by omega)]
    exact hA j h2
  have e0 : fieldA A a b c d 0 = a := by unfold fieldA; rw [upd_n (by omega), upd_n (by omega), upd_n (by omega), upd_s]
  have e1 : fieldA A a b c d 1 = b := by unfold fieldA; rw [upd_n (by omega), upd_n (by omega), upd_s]
  have e2 : fieldA A a b c d 2 = c := by unfold fieldA; rw [upd_n (by omega), upd_s]
  have e3 : fieldA A a b c d 3 = d := by unfold fieldA; rw [upd_s]
  have z : ∀ j, 4 ≤ j → j < 304 → nv (fieldA A a b c d) j = 0 := fun j h1 h2 => nv_of (e j h1 h2) (by omega)
  refine ⟨⟨h03.trans (e 7 (by omega) (by omega)).symm, h04.trans (e 9 (by omega) (by omega)).symm, h05.trans (e 10 (by omega) (by omega)).symm⟩, ⟨h10.trans e0.symm, h11.trans e1.symm, h12.trans e2.symm, h13.trans e3.symm, h14.trans (e 4 (by omega) (by omega)).symm, h18.trans (e 5 (by omega) (by omega)).symm⟩, fun i hi => ?_, fun i hi => ?_, ⟨h60.trans (e 6 (by omega) (by omega)).symm, h61.trans (e 8 (by omega) (by omega)).symm⟩, fun i hi => ?_, h17.trans (e 11 (by omega) (by omega)).symm, fun i hi => ?_⟩
  · rw [z 4 (by omega) (by omega)] at hi; exact absurd hi (Nat.not_lt_zero i)
  · rw [z 5 (by omega) (by omega)] at hi; exact absurd hi (Nat.not_lt_zero i)
  · rw [z 6 (by omega) (by omega)] at hi; exact absurd hi (Nat.not_lt_zero i)
  · rw [z 11 (by omega) (by omega)] at hi; exact absurd hi (Nat.not_lt_zero i)
theorem setup_eq {t : Nat → Nat} {L : Nat} {A : Rw} : pSetup t L A = bnd (kF t L 0 (cF t L 0 (zF t L 0 (pField t L A 0)))) (fun r => if kdT t L (skip t L r.2) = 0 then .inr r.1 else .inl (1, skip t L r.2)) := by
  unfold pSetup
  cases h1 : pField t L A 0 with
  | inl e => rfl
  | inr r1 =>
    by_cases w1 : wordT wZONE t L (skip t L r1.2)
    · have e1 : zF t L 0 (.inr r1) = pZones t L 6 r1.1 r1.2 := if_neg (fun q => q.2 w1)
      rw [e1]
      show @ite _ (wordT wZONE t L (skip t L r1.2)) (Classical.propDecidable _) _ _ = _
      rw [if_pos w1]
      cases h2 : pZones t L 6 r1.1 r1.2 with
      | inl e => rfl
      | inr r2 =>
        by_cases w2 : wordT wCOLOUR t L (skip t L r2.2)
        · have e2 : cF t L 0 (.inr r2) = pColours t L 8 r2.1 r2.2 := if_neg (fun q => q.2 w2)
          rw [e2]
          show @ite _ (wordT wCOLOUR t L (skip t L r2.2)) (Classical.propDecidable _) _ _ = _
          rw [if_pos w2]
          cases h3 : pColours t L 8 r2.1 r2.2 with
          | inl e => rfl
          | inr r3 => rfl
        · have e2 : cF t L 0 (.inr r2) = .inl (1, skip t L r2.2) := if_pos ⟨rfl, w2⟩
          rw [e2]
          show @ite _ (wordT wCOLOUR t L (skip t L r2.2)) (Classical.propDecidable _) _ _ = _
          rw [if_neg w2]
          rfl
    · have e1 : zF t L 0 (.inr r1) = .inl (1, skip t L r1.2) := if_pos ⟨rfl, w1⟩
      rw [e1]
      show @ite _ (wordT wZONE t L (skip t L r1.2)) (Classical.propDecidable _) _ _ = _
      rw [if_neg w1]
      rfl
theorem en_sf {σ : Mem} {o nz nc nk : Nat} {x y z l c k p : Int32} (hsf : Sf σ o nz nc nk) (hk : nk < 16) : SfE (enM σ o nk x y z l c k p) o := by
  obtain ⟨g1, g2, g3, g4, g5, g6, g7⟩ := hsf
  have R := fun a j q => en_rd (σ := σ) (o := o) (n := nk) (x := x) (y := y) (z := z) (l := l) (c := c) (k := k) (p := p) a j q
  refine ⟨nz, nc, nk + 1, (R 1 4 (by omega)).trans g1, g2, fun i hi => ?_, (R 1 8 (by omega)).trans g4, g5, en_new.2.2.2.2.2.2.2.2.2.2.1, by omega⟩
  obtain ⟨m, m1, m2⟩ := g3 i hi
  exact ⟨m, (R 2 i (by omega)).trans m1, m2⟩
def DKt (c j : Nat) : Prop := (7 ≤ c ∧ c ≤ 16) ∨ (c = 6 ∧ j = 0) ∨ (c = 0 ∧ j = 5)
theorem en_D {σ : Mem} {o n : Nat} {x y z l c k p : Int32} : FrD DKt o σ (enM σ o n x y z l c k p) := by
  unfold enM
  exact FrD_wr (FrD_wr (FrD_wr (FrD_wr (FrD_wr (FrD_wr (FrD_wr (FrD_wr (FrD_wr (FrD_wr (FrD_wr (FrD_wr FrD_refl (Or.inl (by decide))) (Or.inl (by decide))) (Or.inl (by decide))) (Or.inl (by decide))) (Or.inl (by decide))) (Or.inl (by decide))) (Or.inl (by decide))) (Or.inl (by decide))) (Or.inl (by decide))) (Or.inl (by decide))) (Or.inr (Or.inl ⟨rfl, rfl⟩))) (Or.inr (Or.inr ⟨rfl, rfl⟩))
theorem en_12 {σ : Mem} {o n : Nat} {x y z l c k p : Int32} (ho : o < 12) (a j : Nat) : rd (enM σ o n x y z l c k p) 12 a j = rd σ 12 a j := congrFun (FrO_en (σ := σ) (o := o) (n := n) (x := x) (y := y) (z := z) (l := l) (c := c) (k := k) (p := p) |>.1 12 a (show (12 : Nat) ≠ o by omega)) j
theorem Bd_Pst {A : Rw} {nz nc nk : Nat} (h : Pst nz nc nk A) : Bd A := by
  obtain ⟨h1, h2, h3, h4, h5, h6, h7⟩ := h
  have e4 : nv A 4 = nz := nv_of h2.1 (by omega)
  refine ⟨by omega, fun z hz => (h3 z (by omega)).1.2.2, ?_, ?_⟩
  · rw [nv_of h4.1 (by omega)]; exact h4.2
  · rw [nv_of h6.1 (by omega)]; exact h6.2
