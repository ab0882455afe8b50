/-! ===== small facts about the numbers ===== -/
theorem imin_n {a b : Nat} (ha : a < 2 ^ 31) (hb : b < 2 ^ 31) : imin (nI a) (nI b) = nI (min a b) := by
  unfold imin
  by_cases h : b < a
  · rw [if_pos ((nI_ltI hb ha).mpr h), Nat.min_eq_right (Nat.le_of_lt h)]
  · rw [if_neg (fun q => h ((nI_ltI hb ha).mp q)), Nat.min_eq_left (by omega)]
theorem imax_n {a b : Nat} (ha : a < 2 ^ 31) (hb : b < 2 ^ 31) : imax (nI a) (nI b) = nI (max a b) := by
  unfold imax
  by_cases h : a < b
  · rw [if_pos ((nI_ltI ha hb).mpr h), Nat.max_eq_right (Nat.le_of_lt h)]
  · rw [if_neg (fun q => h ((nI_ltI ha hb).mp q)), Nat.max_eq_left (by omega)]
theorem imin_z {a b : Int} (ha : -2147483648 ≤ a ∧ a < 2147483648) (hb : -2147483648 ≤ b ∧ b < 2147483648) : imin (iI a) (iI b) = iI (min a b) := by
  unfold imin
  by_cases h : b < a
  · rw [if_pos ((iI_lt hb ha).mpr h), Int.min_eq_right (Int.le_of_lt h)]
  · rw [if_neg (fun q => h ((iI_lt hb ha).mp q)), Int.min_eq_left (by omega)]
theorem imax_z {a b : Int} (ha : -2147483648 ≤ a ∧ a < 2147483648) (hb : -2147483648 ≤ b ∧ b < 2147483648) : imax (iI a) (iI b) = iI (max a b) := by
  unfold imax
  by_cases h : a < b
  · rw [if_pos ((iI_lt ha hb).mpr h), Int.max_eq_right (Int.le_of_lt h)]
  · rw [if_neg (fun q => h ((iI_lt ha hb).mp q)), Int.max_eq_left (by omega)]
theorem imin_alt (a b : Int32) : (a < b → imin a b = a) ∧ (¬ a < b → imin a b = b) := by
  unfold imin
  refine ⟨fun h => if_neg (fun q => ?_), fun h => ?_⟩
  · rw [Int32.lt_iff_toInt_lt] at h q; omega
  · by_cases q : b < a
    · exact if_pos q
    · rw [if_neg q]
      apply Int32.toInt_inj.mp
      rw [Int32.lt_iff_toInt_lt] at h q
      omega
theorem imax_alt (a b : Int32) : (b < a → imax a b = a) ∧ (¬ b < a → imax a b = b) := by
  unfold imax
  refine ⟨fun h => if_neg (fun q => ?_), fun h => ?_⟩
  · rw [Int32.lt_iff_toInt_lt] at h q; omega
  · by_cases q : a < b
    · exact if_pos q
    · rw [if_neg q]
      apply Int32.toInt_inj.mp
      rw [Int32.lt_iff_toInt_lt] at h q
      omega
theorem tI_n {n : Nat} (h : n < 2 ^ 31) : (nI n).toInt = (n : Int) := nI_toInt h
theorem tI_z {z : Int} (h : -2147483648 ≤ z ∧ z < 2147483648) : (iI z).toInt = z := iI_toInt h.1 h.2
theorem dX_a : ∀ d, d < 8 → (d = 0 ∨ d = 4) → dX d = 0 := by decide
theorem dX_b : ∀ d, d < 8 → (¬ d = 0 ∧ d < 4) → dX d = 1 := by decide
theorem dX_c : ∀ d, d < 8 → 4 < d → dX d = -1 := by decide
theorem dY_a : ∀ d, d < 8 → (d = 2 ∨ d = 6) → dY d = 0 := by decide
theorem dY_b : ∀ d, d < 8 → (d < 2 ∨ d = 7) → dY d = 1 := by decide
theorem dY_c : ∀ d, d < 8 → (2 < d ∧ ¬ d = 6 ∧ d < 7) → dY d = -1 := by decide
theorem mul_rng {u v M : Int} (hu : -M ≤ u ∧ u ≤ M) (hv : -M ≤ v ∧ v ≤ M) : -(M * M) ≤ u * v ∧ u * v ≤ M * M := by
  have hM : 0 ≤ M := by omega
  have h1 : (M - u) * (M + v) ≥ 0 := Int.mul_nonneg (by omega) (by omega)
  have h2 : (M + u) * (M - v) ≥ 0 := Int.mul_nonneg (by omega) (by omega)
  have h3 : (M - u) * (M - v) ≥ 0 := Int.mul_nonneg (by omega) (by omega)
  have h4 : (M + u) * (M + v) ≥ 0 := Int.mul_nonneg (by omega) (by omega)
  simp only [Int.sub_mul, Int.add_mul, Int.mul_sub, Int.mul_add] at h1 h2 h3 h4
  have c1 : M * v = v * M := Int.mul_comm _ _
  have c2 : u * M = M * u := Int.mul_comm _ _
  omega
theorem sideI_neg {a b c d x y : Int} (h : (c - a) * (y - b) - (d - b) * (x - a) < 0) : sideI a b c d x y = -1 := if_pos h
theorem sideI_pos {a b c d x y : Int} (h : 0 < (c - a) * (y - b) - (d - b) * (x - a)) : sideI a b c d x y = 1 := by
  unfold sideI
  show (if (c - a) * (y - b) - (d - b) * (x - a) < 0 then (-1 : Int) else if 0 < (c - a) * (y - b) - (d - b) * (x - a) then 1 else 0) = 1
  rw [if_neg (by omega), if_pos h]
theorem sideI_zero {a b c d x y : Int} (h : (c - a) * (y - b) - (d - b) * (x - a) = 0) : sideI a b c d x y = 0 := by
  unfold sideI
  show (if (c - a) * (y - b) - (d - b) * (x - a) < 0 then (-1 : Int) else if 0 < (c - a) * (y - b) - (d - b) * (x - a) then 1 else 0) = 0
  rw [if_neg (by omega), if_neg (by omega)]
theorem sideI_rng (a b c d x y : Int) : -1 ≤ sideI a b c d x y ∧ sideI a b c d x y ≤ 1 := by
  by_cases h1 : (c - a) * (y - b) - (d - b) * (x - a) < 0
  · rw [sideI_neg h1]; decide
  · by_cases h2 : 0 < (c - a) * (y - b) - (d - b) * (x - a)
    · rw [sideI_pos h2]; decide
    · rw [sideI_zero (by omega)]; decide
theorem min_rng {a b : Int} (ha : -2147483648 ≤ a ∧ a < 2147483648) (hb : -2147483648 ≤ b ∧ b < 2147483648) : -2147483648 ≤ min a b ∧ min a b < 2147483648 := by omega
theorem max_rng {a b : Int} (ha : -2147483648 ≤ a ∧ a < 2147483648) (hb : -2147483648 ≤ b ∧ b < 2147483648) : -2147483648 ≤ max a b ∧ max a b < 2147483648 := by omega
theorem leastI_spec (P : Nat → Prop) : (∃ i : Nat, leastI P = (i : Int) ∧ P i ∧ ∀ j, j < i → ¬ P j) ∨ (leastI P = -1 ∧ ∀ i, ¬ P i) := by
  rcases Classical.em (∃ i, P i) with h | h
  · obtain ⟨i, h1, h2⟩ := pk_least P h
    exact Or.inl ⟨i, leastI_some h1 h2, h1, h2⟩
  · have h2 : ∀ i, ¬ P i := fun i hi => h ⟨i, hi⟩
    exact Or.inr ⟨leastI_none h2, h2⟩
theorem leastI_rng {P : Nat → Prop} {n : Nat} (h : ∀ i, P i → i < n) : -1 ≤ leastI P ∧ leastI P < n := by
  rcases leastI_spec P with ⟨i, h1, h2, -⟩ | ⟨h1, -⟩
  · rw [h1]; have := h i h2; omega
  · rw [h1]; omega
theorem leastI_or {P R : Nat → Prop} : leastI (fun i => P i ∨ R i) = if leastI R < 0 then leastI P else if leastI P < 0 then leastI R else if leastI R < leastI P then leastI R else leastI P := by
  rcases leastI_spec P with ⟨i, h1, h2, h3⟩ | ⟨h1, h3⟩ <;> rcases leastI_spec R with ⟨j, g1, g2, g3⟩ | ⟨g1, g3⟩
  · rw [h1, g1, if_neg (by omega), if_neg (by omega)]
    by_cases hij : j < i
    · rw [if_pos (by omega)]
      exact leastI_some (Or.inr g2) (fun k hk q => q.elim (h3 k (by omega)) (g3 k hk))
    · rw [if_neg (by omega)]
      exact leastI_some (Or.inl h2) (fun k hk q => q.elim (h3 k hk) (g3 k (by omega)))
  · rw [g1, if_pos (by decide), h1]
    exact leastI_some (Or.inl h2) (fun k hk q => q.elim (h3 k hk) (g3 k))
  · rw [h1, g1, if_neg (by omega), if_pos (by decide)]
    exact leastI_some (Or.inr g2) (fun k hk q => q.elim (h3 k) (g3 k hk))
  · rw [h1, g1, if_pos (by decide)]
    exact leastI_none (fun i q => q.elim (h3 i) (g3 i))
