/-! ===== steps of the class's reading of a setup ===== -/
def SfE (σ : Mem) (o : Nat) : Prop := ∃ nz nc nk, Sf σ o nz nc nk
def SS (σ : Mem) (o : Nat) (t : Nat → Nat) (L : Nat) (X : BX) : Prop := SfE σ o ∧ StC σ t L (sOf X) ∧ OX σ o X
noncomputable def windY (t : Nat → Nat) (L : Nat) (Y : BX) : BX := bnd Y (fun r => bnd (pNum t L 0 7 r.2) (fun r0 => bnd (pNum t L 0 9 r0.1) (fun r1 => .inr (windA r.1 (nI r0.2) (nI r1.2), r1.1))))
theorem wind_end {t : Nat → Nat} {L m : Nat} {Y : BX} (hm : m ≤ 6) (h : m = 6 ∨ (m ≠ 0 ∧ ¬ atN t L (sOf Y))) :
    (∀ A a, Y = .inr (A, a) → kdT t L (skip t L a) = 2 → bnd Y (fun r => pWindsC t L (8 - m) r.1 r.2 m) = .inl ((if 7 < numT t L (skip t L a) then 2 else 3), skip t L a)) ∧ (¬ atN t L (sOf Y) → bnd Y (fun r => pWindsC t L (8 - m) r.1 r.2 m) = Y) := by
  have eC : ∀ A a, pWindsC t L (8 - m) A a m = if kdT t L (skip t L a) = 2 then (if ¬ numT t L (skip t L a) ≤ 7 then .inl (2, skip t L a) else if m = 6 then .inl (3, skip t L a) else bnd (pNum t L 0 9 (endT t L (skip t L a))) (fun r => pWindsC t L (8 - (m + 1)) (windA A (nI (numT t L (skip t L a))) (nI r.2)) r.1 (m + 1))) else if m ≠ 0 then .inr (A, a) else .inl (1, skip t L a) := fun A a => by
    rw [show 8 - m = (8 - (m + 1)) + 1 by omega]
    rfl
  refine ⟨fun A a e hk => ?_, fun hn => ?_⟩
  · subst e
    have h6 : m = 6 := by
      rcases h with h | ⟨_, h⟩
      · exact h
      · exact absurd ⟨a, rfl, hk⟩ h
    show pWindsC t L (8 - m) A a m = _
    rw [eC, if_pos hk]
    by_cases h7 : numT t L (skip t L a) ≤ 7
    · have e7 : ¬ ¬ numT t L (skip t L a) ≤ 7 := fun q => q h7
      rw [if_neg e7, if_pos h6, if_neg (by omega)]
    · rw [if_pos h7, if_pos (by omega)]
  · cases Y with
    | inl e => rfl
    | inr r =>
      obtain ⟨A, a⟩ := r
      show pWindsC t L (8 - m) A a m = _
      rw [eC, if_neg (fun q => hn ⟨a, rfl, q⟩), if_pos (by omega)]
/-! zones -/
noncomputable def zF (t : Nat → Nat) (L z : Nat) (Y : BX) : BX := bnd Y (fun r => @ite _ (z = 0 ∧ ¬ wordT wZONE t L (skip t L r.2)) (Classical.propDecidable _) (.inl (1, skip t L r.2)) (pZones t L (6 - z) r.1 r.2))
noncomputable def zX (t : Nat → Nat) (L : Nat) (Y : BX) : BX := bnd Y (fun r => @ite _ (wordT wZONE t L (skip t L r.2)) (Classical.propDecidable _) (.inr (zoneA r.1, endT t L (skip t L r.2))) (.inl (1, skip t L r.2)))
noncomputable def eX (t : Nat → Nat) (L : Nat) (Y : BX) : BX := bnd Y (fun r => bnd (pEnd t L r.2) (fun b => .inr (r.1, b)))
theorem zone_step {t : Nat → Nat} {L z : Nat} {Y : BX} (hz : z < 4) (hY : ∀ A a, Y = .inr (A, a) → nv A 4 = z) (h : z = 0 ∨ atW wZONE t L (sOf Y)) : zF t L (z + 1) (eX t L (bnd (zX t L Y) (fun r => pWindsC t L 8 r.1 r.2 0))) = zF t L z Y := by
  cases Y with
  | inl e => rfl
  | inr r =>
    obtain ⟨A, a⟩ := r
    have h4 := hY A a rfl
    by_cases hw : wordT wZONE t L (skip t L a)
    · have e1 : zX t L (.inr (A, a)) = .inr (zoneA A, endT t L (skip t L a)) := if_pos hw
      have e2 : zF t L z (.inr (A, a)) = bnd (pWinds t L 8 (zoneA A) (endT t L (skip t L a)) 0) (fun r => pZones t L (6 - (z + 1)) r.1 r.2) := by
        show @ite _ (z = 0 ∧ ¬ wordT wZONE t L (skip t L a)) (Classical.propDecidable _) _ (pZones t L (6 - z) A a) = _
        rw [if_neg (fun q => q.2 hw), show 6 - z = (6 - (z + 1)) + 1 by omega]
        show @ite _ (wordT wZONE t L (skip t L a)) (Classical.propDecidable _) (if nv A 4 = 4 then _ else _) _ = _
        rw [if_pos hw, if_neg (by omega)]
      rw [e1, e2, pWinds_C]
      show bnd (eX t L (pWindsC t L 8 (zoneA A) (endT t L (skip t L a)) 0)) _ = _
      unfold eX
      congr 1
      funext r
      rw [if_neg (fun q => absurd q.1 (by omega))]
    · have e1 : zX t L (.inr (A, a)) = .inl (1, skip t L a) := if_neg hw
      have h0 : z = 0 := by
        rcases h with h | ⟨b, h, h2⟩
        · exact h
        · have e : a = b := Sum.inr.inj h
          subst e
          exact absurd h2 hw
      rw [e1]
      show _ = @ite _ (z = 0 ∧ ¬ wordT wZONE t L (skip t L a)) (Classical.propDecidable _) _ _
      rw [if_pos ⟨h0, hw⟩]
      rfl
theorem zone_end {t : Nat → Nat} {L z : Nat} {Y : BX} (hz : z ≤ 4) (hY : ∀ A a, Y = .inr (A, a) → nv A 4 = z) (h : z = 4 ∨ (z ≠ 0 ∧ ¬ atW wZONE t L (sOf Y))) : (atW wZONE t L (sOf Y) → ∃ a, sOf Y = .inr a ∧ zF t L z Y = .inl (3, skip t L a)) ∧ (¬ atW wZONE t L (sOf Y) → zF t L z Y = Y) := by
  cases Y with
  | inl e => exact ⟨fun ⟨b, h, _⟩ => (by cases h), fun _ => rfl⟩
  | inr r =>
    obtain ⟨A, a⟩ := r
    have h4 := hY A a rfl
    have e0 : zF t L z (.inr (A, a)) = pZones t L (6 - z) A a := if_neg (fun q => by omega)
    rw [e0, show 6 - z = (6 - (z + 1)) + 1 by omega]
    refine ⟨fun ⟨b, hb, hw⟩ => ?_, fun hn => ?_⟩
    · have e : a = b := Sum.inr.inj hb
      subst e
      have hz4 : z = 4 := by
        rcases h with h | h
        · exact h
        · exact absurd ⟨a, rfl, hw⟩ h.2
      refine ⟨a, rfl, ?_⟩
      show @ite _ (wordT wZONE t L (skip t L a)) (Classical.propDecidable _) (if nv A 4 = 4 then _ else _) _ = _
      rw [if_pos hw, if_pos (by omega)]
    · show @ite _ (wordT wZONE t L (skip t L a)) (Classical.propDecidable _) _ _ = _
      rw [if_neg (fun q => hn ⟨a, rfl, q⟩)]
/-! colours -/
noncomputable def cF (t : Nat → Nat) (L z : Nat) (Y : BX) : BX := bnd Y (fun r => @ite _ (z = 0 ∧ ¬ wordT wCOLOUR t L (skip t L r.2)) (Classical.propDecidable _) (.inl (1, skip t L r.2)) (pColours t L (8 - z) r.1 r.2))
noncomputable def cX (t : Nat → Nat) (L : Nat) (Y : BX) : BX := bnd Y (fun r => @ite _ (wordT wCOLOUR t L (skip t L r.2)) (Classical.propDecidable _) (bnd (pNum t L 0 9 (endT t L (skip t L r.2))) (fun q => .inr (colourA r.1 (nI q.2), q.1))) (.inl (1, skip t L r.2)))
theorem colour_step {t : Nat → Nat} {L z : Nat} {Y : BX} (hz : z < 6) (hY : ∀ A a, Y = .inr (A, a) → nv A 5 = z) (h : z = 0 ∨ atW wCOLOUR t L (sOf Y)) : cF t L (z + 1) (eX t L (cX t L Y)) = cF t L z Y := by
  cases Y with
  | inl e => rfl
  | inr r =>
    obtain ⟨A, a⟩ := r
    have h4 := hY A a rfl
    by_cases hw : wordT wCOLOUR t L (skip t L a)
    · have e1 : cX t L (.inr (A, a)) = bnd (pNum t L 0 9 (endT t L (skip t L a))) (fun q => .inr (colourA A (nI q.2), q.1)) := if_pos hw
      have e2 : cF t L z (.inr (A, a)) = bnd (pNum t L 0 9 (endT t L (skip t L a))) (fun r => bnd (pEnd t L r.1) (fun b => pColours t L (8 - (z + 1)) (colourA A (nI r.2)) b)) := by
        show @ite _ (z = 0 ∧ ¬ wordT wCOLOUR t L (skip t L a)) (Classical.propDecidable _) _ (pColours t L (8 - z) A a) = _
        rw [if_neg (fun q => q.2 hw), show 8 - z = (8 - (z + 1)) + 1 by omega]
        show @ite _ (wordT wCOLOUR t L (skip t L a)) (Classical.propDecidable _) (if nv A 5 = 6 then _ else _) _ = _
        rw [if_pos hw, if_neg (by omega)]
      rw [e1, e2]
      cases h1 : pNum t L 0 9 (endT t L (skip t L a)) with
      | inl e => rfl
      | inr q =>
        show cF t L (z + 1) (bnd (pEnd t L q.1) (fun b => .inr (colourA A (nI q.2), b))) = bnd (pEnd t L q.1) _
        cases h2 : pEnd t L q.1 with
        | inl e => rfl
        | inr b => exact if_neg (fun q => absurd q.1 (by omega))
    · have e1 : cX t L (.inr (A, a)) = .inl (1, skip t L a) := if_neg hw
      have h0 : z = 0 := by
        rcases h with h | ⟨b, h, h2⟩
        · exact h
        · have e : a = b := Sum.inr.inj h
          subst e
          exact absurd h2 hw
      rw [e1]
      show _ = @ite _ (z = 0 ∧ ¬ wordT wCOLOUR t L (skip t L a)) (Classical.propDecidable _) _ _
      rw [if_pos ⟨h0, hw⟩]
      rfl
theorem colour_end {t : Nat → Nat} {L z : Nat} {Y : BX} (hz : z ≤ 6) (hY : ∀ A a, Y = .inr (A, a) → nv A 5 = z) (h : z = 6 ∨ (z ≠ 0 ∧ ¬ atW wCOLOUR t L (sOf Y))) : (atW wCOLOUR t L (sOf Y) → ∃ a, sOf Y = .inr a ∧ cF t L z Y = .inl (3, skip t L a)) ∧ (¬ atW wCOLOUR t L (sOf Y) → cF t L z Y = Y) := by
  cases Y with
  | inl e => exact ⟨fun ⟨b, h, _⟩ => (by cases h), fun _ => rfl⟩
  | inr r =>
    obtain ⟨A, a⟩ := r
    have h4 := hY A a rfl
    have e0 : cF t L z (.inr (A, a)) = pColours t L (8 - z) A a := if_neg (fun q => by omega)
    rw [e0, show 8 - z = (8 - (z + 1)) + 1 by omega]
    refine ⟨fun ⟨b, hb, hw⟩ => ?_, fun hn => ?_⟩
    · have e : a = b := Sum.inr.inj hb
      subst e
      have hz4 : z = 6 := by
        rcases h with h | h
        · exact h
        · exact absurd ⟨a, rfl, hw⟩ h.2
      refine ⟨a, rfl, ?_⟩
      show @ite _ (wordT wCOLOUR t L (skip t L a)) (Classical.propDecidable _) (if nv A 5 = 6 then _ else _) _ = _
      rw [if_pos hw, if_pos (by omega)]
    · show @ite _ (wordT wCOLOUR t L (skip t L a)) (Classical.propDecidable _) _ _ = _
      rw [if_neg (fun q => hn ⟨a, rfl, q⟩)]
/-! kites -/
noncomputable def kF (t : Nat → Nat) (L k : Nat) (Y : BX) : BX := bnd Y (fun r => pKites t L (18 - k) r.1 r.2)
theorem kite_step {t : Nat → Nat} {L k a : Nat} {A : Rw} (hk : k < 16) (h6 : nv A 6 = k) (hw : wordT wKITE t L (skip t L a)) : kF t L (k + 1) (pKite t L A (endT t L (skip t L a))) = kF t L k (.inr (A, a)) := by
  show _ = pKites t L (18 - k) A a
  rw [show 18 - k = (18 - (k + 1)) + 1 by omega]
  show _ = @ite _ (wordT wKITE t L (skip t L a)) (Classical.propDecidable _) (if nv A 6 = 16 then _ else _) _
  rw [if_pos hw, if_neg (by omega)]
  rfl
theorem kite_end {t : Nat → Nat} {L k : Nat} {Y : BX} (hk : k ≤ 16) (hY : ∀ A a, Y = .inr (A, a) → nv A 6 = k) (h : k = 16 ∨ ¬ atW wKITE t L (sOf Y)) : (atW wKITE t L (sOf Y) → ∃ a, sOf Y = .inr a ∧ kF t L k Y = .inl (3, skip t L a)) ∧ (¬ atW wKITE t L (sOf Y) → kF t L k Y = Y) := by
  cases Y with
  | inl e => exact ⟨fun ⟨b, h, _⟩ => (by cases h), fun _ => rfl⟩
  | inr r =>
    obtain ⟨A, a⟩ := r
    have h4 := hY A a rfl
    have e0 : kF t L k (.inr (A, a)) = pKites t L (18 - k) A a := rfl
    rw [e0, show 18 - k = (18 - (k + 1)) + 1 by omega]
    refine ⟨fun ⟨b, hb, hw⟩ => ?_, fun hn => ?_⟩
    · have e : a = b := Sum.inr.inj hb
      subst e
      have hz4 : k = 16 := by
        rcases h with h | h
        · exact h
        · exact absurd ⟨a, rfl, hw⟩ h
      refine ⟨a, rfl, ?_⟩
      show @ite _ (wordT wKITE t L (skip t L a)) (Classical.propDecidable _) (if nv A 6 = 16 then _ else _) _ = _
      rw [if_pos hw, if_pos (by omega)]
    · show @ite _ (wordT wKITE t L (skip t L a)) (Classical.propDecidable _) _ _ = _
      rw [if_neg (fun q => hn ⟨a, rfl, q⟩)]
