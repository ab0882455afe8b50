/-! ===== a setup, in continuations ===== -/
noncomputable def kE (t : Nat → Nat) (L : Nat) (r : Rw × Nat) : Flt ⊕ Rw := if kdT t L (skip t L r.2) = 0 then .inr r.1 else .inl (1, skip t L r.2)
noncomputable def kK (t : Nat → Nat) (L : Nat) (r : Rw × Nat) : Flt ⊕ Rw := bnd (pKites t L 18 r.1 r.2) (kE t L)
noncomputable def kC (t : Nat → Nat) (L : Nat) (r : Rw × Nat) : Flt ⊕ Rw := @ite _ (wordT wCOLOUR t L (skip t L r.2)) (Classical.propDecidable _) (bnd (pColours t L 8 r.1 r.2) (kK t L)) (.inl (1, skip t L r.2))
noncomputable def kZ (t : Nat → Nat) (L : Nat) (r : Rw × Nat) : Flt ⊕ Rw := @ite _ (wordT wZONE t L (skip t L r.2)) (Classical.propDecidable _) (bnd (pZones t L 6 r.1 r.2) (kC t L)) (.inl (1, skip t L r.2))
theorem pSetup_k {t : Nat → Nat} {L : Nat} {A : Rw} : pSetup t L A = bnd (pField t L A 0) (kZ t L) := rfl
section GR
variable {t : Nat → Nat} {L f a : Nat} {A : Rw}
theorem pZ_end (h : ¬ wordT wZONE t L (skip t L a)) : pZones t L (f + 1) A a = .inr (A, a) := if_neg h
theorem pZ_4 (h : wordT wZONE t L (skip t L a)) (h4 : nv A 4 = 4) : pZones t L (f + 1) A a = .inl (3, skip t L a) := (if_pos h).trans (if_pos h4)
theorem pZ_s (h : wordT wZONE t L (skip t L a)) (h4 : ¬ nv A 4 = 4) : pZones t L (f + 1) A a = bnd (pWinds t L 8 (zoneA A) (endT t L (skip t L a)) 0) (fun r => pZones t L f r.1 r.2) := (if_pos h).trans (if_neg h4)
theorem pC_end (h : ¬ wordT wCOLOUR t L (skip t L a)) : pColours t L (f + 1) A a = .inr (A, a) := if_neg h
theorem pC_6 (h : wordT wCOLOUR t L (skip t L a)) (h4 : nv A 5 = 6) : pColours t L (f + 1) A a = .inl (3, skip t L a) := (if_pos h).trans (if_pos h4)
theorem pC_s (h : wordT wCOLOUR t L (skip t L a)) (h4 : ¬ nv A 5 = 6) : pColours t L (f + 1) A a = bnd (pNum t L 0 9 (endT t L (skip t L a))) (fun r => bnd (pEnd t L r.1) (fun b => pColours t L f (colourA A (nI r.2)) b)) := (if_pos h).trans (if_neg h4)
theorem pK_end (h : ¬ wordT wKITE t L (skip t L a)) : pKites t L (f + 1) A a = .inr (A, a) := if_neg h
theorem pK_16 (h : wordT wKITE t L (skip t L a)) (h4 : nv A 6 = 16) : pKites t L (f + 1) A a = .inl (3, skip t L a) := (if_pos h).trans (if_pos h4)
theorem pK_s (h : wordT wKITE t L (skip t L a)) (h4 : ¬ nv A 6 = 16) : pKites t L (f + 1) A a = bnd (pKite t L A (endT t L (skip t L a))) (fun r => pKites t L f r.1 r.2) := (if_pos h).trans (if_neg h4)
theorem kZ_n {r : Rw × Nat} (h : ¬ wordT wZONE t L (skip t L r.2)) : kZ t L r = .inl (1, skip t L r.2) := if_neg h
theorem kZ_y {r : Rw × Nat} (h : wordT wZONE t L (skip t L r.2)) : kZ t L r = bnd (pZones t L 6 r.1 r.2) (kC t L) := if_pos h
theorem kC_n {r : Rw × Nat} (h : ¬ wordT wCOLOUR t L (skip t L r.2)) : kC t L r = .inl (1, skip t L r.2) := if_neg h
theorem kC_y {r : Rw × Nat} (h : wordT wCOLOUR t L (skip t L r.2)) : kC t L r = bnd (pColours t L 8 r.1 r.2) (kK t L) := if_pos h
theorem kE_y {r : Rw × Nat} (h : kdT t L (skip t L r.2) = 0) : kE t L r = .inr r.1 := if_pos h
theorem kE_n {r : Rw × Nat} (h : ¬ kdT t L (skip t L r.2) = 0) : kE t L r = .inl (1, skip t L r.2) := if_neg h
end GR
theorem clr0_0 {A : Rw} : ∀ j, j < 304 → clr0 A j = nI 0 := fun j hj => if_pos hj
