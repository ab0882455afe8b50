/-! ===== steps of the class's reading of a setup ===== -/
def SfE (σ : Mem) (o : Nat) : Prop := ∃ nz nc nk, Sf σ o nz nc nk
noncomputable def windY (t : Nat → Nat) (L : Nat) (Y : BX) : BX := bnd Y (fun r => bnd (pNum t L 0 7 r.2) (fun r0 => bnd (pNum t L 0 9 r0.1) (fun r1 => .inr (windA r.1 (nI r0.2) (nI r1.2), r1.1))))
/-! zones -/
noncomputable def zF (t : Nat → Nat) (L z : Nat) (Y : BX) : BX := bnd Y (fun r => @ite _ (z = 0 ∧ ¬ wordT wZONE t L (skip t L r.2)) (Classical.propDecidable _) (.inl (1, skip t L r.2)) (pZones t L (6 - z) r.1 r.2))
noncomputable def zX (t : Nat → Nat) (L : Nat) (Y : BX) : BX := bnd Y (fun r => @ite _ (wordT wZONE t L (skip t L r.2)) (Classical.propDecidable _) (.inr (zoneA r.1, endT t L (skip t L r.2))) (.inl (1, skip t L r.2)))
noncomputable def eX (t : Nat → Nat) (L : Nat) (Y : BX) : BX := bnd Y (fun r => bnd (pEnd t L r.2) (fun b => .inr (r.1, b)))
/-! colours -/
noncomputable def cF (t : Nat → Nat) (L z : Nat) (Y : BX) : BX := bnd Y (fun r => @ite _ (z = 0 ∧ ¬ wordT wCOLOUR t L (skip t L r.2)) (Classical.propDecidable _) (.inl (1, skip t L r.2)) (pColours t L (8 - z) r.1 r.2))
noncomputable def cX (t : Nat → Nat) (L : Nat) (Y : BX) : BX := bnd Y (fun r => @ite _ (wordT wCOLOUR t L (skip t L r.2)) (Classical.propDecidable _) (bnd (pNum t L 0 9 (endT t L (skip t L r.2))) (fun q => .inr (colourA r.1 (nI q.2), q.1))) (.inl (1, skip t L r.2)))
/-! kites -/
noncomputable def kF (t : Nat → Nat) (L k : Nat) (Y : BX) : BX := bnd Y (fun r => pKites t L (18 - k) r.1 r.2)
theorem kite_step {t : Nat → Nat} {L k a : Nat} {A : Rw} (hk : k < 16) (h6 : nv A 6 = k) (hw : wordT wKITE t L (skip t L a)) : kF t L (k + 1) (pKite t L A (endT t L (skip t L a))) = kF t L k (.inr (A, a)) := by
  show _ = pKites t L (18 - k) A a
  rw [show 18 - k = (18 - (k + 1)) + 1 by omega]
  show _ = @ite _ (wordT wKITE t L (skip t L a)) (Classical.propDecidable _) (if nv A 6 = 16 then _ else _) _
  rw [if_pos hw, if_neg (by omega)]
  rfl
