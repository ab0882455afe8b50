/-! ===== the relation at the start ===== -/
set_option maxRecDepth 100000 in
theorem rs_ok : RowOK 0 (rd mO14 13 1) := by
  unfold RowOK isN
  exact ⟨by decide +kernel, by decide +kernel, by decide +kernel, by decide +kernel, by decide +kernel, by decide +kernel, by decide +kernel, by decide +kernel, by decide +kernel, by decide +kernel, by decide +kernel, by decide +kernel, by decide +kernel⟩
set_option maxRecDepth 100000 in
theorem oa_ok : OAt mO14 0 (rd mO14 13 1) := by
  unfold OAt
  decide +kernel
set_option maxRecDepth 100000 in
theorem REL_start : REL 0 mO14 0 0 := by
  refine ⟨⟨rs_ok, oa_ok, by decide +kernel, by decide +kernel⟩, ⟨⟨by decide +kernel, by decide +kernel, by decide, by decide⟩, by decide +kernel, by decide +kernel, fun i hi => absurd hi (Nat.not_lt_zero _)⟩, fun s hs => ?_, TxtR_0 (by decide +kernel) (by decide +kernel), ⟨by decide +kernel, by decide +kernel⟩, ⟨0, by decide, by decide +kernel, by decide +kernel, fun j hj => absurd hj (Nat.not_lt_zero _)⟩⟩
  rcases (show s = 0 ∨ s = 1 by omega) with rfl | rfl
  · exact ⟨by decide +kernel, Or.inl (by decide +kernel), fun h => absurd h (by decide +kernel)⟩
  · exact ⟨by decide +kernel, Or.inl (by decide +kernel), fun h => absurd h (by decide +kernel)⟩
theorem REL_le {hm hm' : Nat} {σ : Mem} {f u : Nat} (h : REL hm σ f u) (hb : hm ≤ hm') : REL hm' σ f u := REL_fr h hb (fun _ _ _ _ _ _ _ _ _ => rfl) h.1.2.2.2
theorem and63 (x : Int32) : ∃ c, c < 64 ∧ x &&& nI 63 = nI c := by
  have h1 : (x &&& nI 63).toBitVec.toNat = x.toBitVec.toNat % 2 ^ 6 := by
    rw [Int32.toBitVec_and, BitVec.toNat_and, show (nI 63).toBitVec.toNat = 2 ^ 6 - 1 from by decide, Nat.and_two_pow_sub_one_eq_mod]
  refine ⟨x.toBitVec.toNat % 64, by omega, ?_⟩
  have e : (nI (x.toBitVec.toNat % 64)).toBitVec.toNat = x.toBitVec.toNat % 64 := by
    show (BitVec.ofNat 32 _).toNat = _
    rw [BitVec.toNat_ofNat]
    exact Nat.mod_eq_of_lt (by omega)
  apply Int32.toBitVec_inj.mp
  apply BitVec.eq_of_toNat_eq
  rw [e]
  exact h1
theorem tgK_in {c j : Nat} {t : Nat × Nat} (h : tgK c j = some t) : (t.1 < 12 ∧ t.2 = 0) ∨ (t.1 = 12 ∧ t.2 < 14) := by
  unfold tgK at h
  by_cases e0 : c = 0
  · rw [if_pos e0] at h
    split at h <;> cases h <;> decide
  rw [if_neg e0] at h
  by_cases e1 : c = 1
  · rw [if_pos e1] at h
    split at h <;> cases h <;> decide
  rw [if_neg e1] at h
  by_cases e2 : c = 2
  · rw [if_pos e2] at h
    by_cases hj : j < 8
    · rw [if_pos hj] at h
      cases h
      exact Or.inl ⟨by dsimp only; omega, rfl⟩
    · rw [if_neg hj] at h
      cases h
  rw [if_neg e2] at h
  by_cases e3 : c = 3
  · rw [if_pos e3] at h
    by_cases hj : j < 2
    · rw [if_pos hj] at h
      cases h
      exact Or.inl ⟨by dsimp only; omega, rfl⟩
    · rw [if_neg hj] at h
      cases h
  rw [if_neg e3] at h
  by_cases e5 : c = 5
  · rw [if_pos e5] at h
    split at h <;> cases h <;> decide
  rw [if_neg e5] at h
  by_cases e7 : c = 7
  · rw [if_pos e7] at h
    split at h <;> cases h <;> decide
  rw [if_neg e7] at h
  by_cases e12 : c = 12
  · rw [if_pos e12] at h
    split at h <;> cases h <;> decide
  rw [if_neg e12] at h
  cases h
theorem tgM_lt {j t : Nat} (h : tgM j = some t) : t < 9 := by
  unfold tgM at h
  split at h <;> cases h <;> decide
theorem LK_keep {S : Nat → Nat → Prop} {R : Nat → Nat → Nat → Prop} {w w' : Lay} (h : LK w) (hO : ∀ o, o < 12 → LO w o) (hX : XT S R w w') (hR : ∀ y i, ¬ R 12 y i) : LK w' :=
  ⟨fun c hc => (hX.1 _ _).mpr (Or.inl (h.1 c hc)), fun c j t e => by
    rw [hX.2.2 _ _ _ (hR c j), h.2 c j t e]
    congr 1
    refine (hX.2.1 _ _ ?_).symm
    rcases tgK_in e with ⟨h1, h2⟩ | ⟨h1, h2⟩
    · rw [h2]
      exact (hO _ h1).2.1 0 (by decide)
    · rw [h1]
      exact h.1 _ h2⟩
