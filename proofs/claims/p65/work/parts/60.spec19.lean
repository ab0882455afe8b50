/-! ===== the least, found permit by permit ===== -/
theorem leastI_alt (R : Nat → Prop) : (leastI R = -1 ∧ ∀ i, ¬ R i) ∨ (∃ n : Nat, leastI R = n ∧ R n ∧ ∀ j, j < n → ¬ R j) := by
  rcases Classical.em (∃ i, R i) with h | h
  · obtain ⟨n, h1, h2⟩ := pk_least R h
    exact Or.inr ⟨n, leastI_some h1 (fun j hj => h2 j hj), h1, fun j hj => h2 j hj⟩
  · exact Or.inl ⟨leastI_none (fun i hi => h ⟨i, hi⟩), fun i hi => h ⟨i, hi⟩⟩
theorem leastI_add {R R' : Nat → Prop} {v : Nat} (h : ∀ i, R' i ↔ R i ∨ i = v) : leastI R' = if leastI R = -1 ∨ (v : Int) < leastI R then (v : Int) else leastI R := by
  rcases leastI_alt R with ⟨h1, h2⟩ | ⟨n, h1, h2, h3⟩
  · rw [if_pos (Or.inl h1)]
    exact leastI_some ((h v).mpr (Or.inr rfl)) (fun j hj q => by
      rcases (h j).mp q with g | g
      · exact h2 j g
      · omega)
  · by_cases hv : (v : Int) < leastI R
    · rw [if_pos (Or.inr hv)]
      exact leastI_some ((h v).mpr (Or.inr rfl)) (fun j hj q => by
        rcases (h j).mp q with g | g
        · exact h3 j (by omega) g
        · omega)
    · rw [if_neg (by omega), h1]
      exact leastI_some ((h n).mpr (Or.inl h2)) (fun j hj q => by
        rcases (h j).mp q with g | g
        · exact h3 j hj g
        · omega)
/-- the kites seen among the first j permits -/
def fcP (A : Rw) (k b e j i : Nat) : Prop := ∃ p, p < j ∧ nv A (214 + 3 * p) = i ∧ i ≠ k ∧ ∃ t, b ≤ t ∧ t < e ∧ covN A p t ∧ crossN A k i t
theorem fcP_y {A : Rw} {k b e j : Nat} (hk : nv A (214 + 3 * j) ≠ k) (hw : ∃ t, b ≤ t ∧ t < e ∧ covN A j t ∧ crossN A k (nv A (214 + 3 * j)) t) (i : Nat) : fcP A k b e (j + 1) i ↔ fcP A k b e j i ∨ i = nv A (214 + 3 * j) := by
  constructor
  · rintro ⟨p, h1, h2, h3, h4⟩
    by_cases hp : p = j
    · subst hp; exact Or.inr h2.symm
    · exact Or.inl ⟨p, by omega, h2, h3, h4⟩
  · rintro (⟨p, h1, h2⟩ | h)
    · exact ⟨p, by omega, h2⟩
    · subst h; exact ⟨j, by omega, rfl, hk, hw⟩
theorem fcP_n {A : Rw} {k b e j : Nat} (h : ¬ (nv A (214 + 3 * j) ≠ k ∧ ∃ t, b ≤ t ∧ t < e ∧ covN A j t ∧ crossN A k (nv A (214 + 3 * j)) t)) (i : Nat) : fcP A k b e (j + 1) i ↔ fcP A k b e j i := by
  constructor
  · rintro ⟨p, h1, h2, h3, h4⟩
    by_cases hp : p = j
    · subst hp
      subst h2
      exact absurd ⟨h3, h4⟩ h
    · exact ⟨p, by omega, h2, h3, h4⟩
  · rintro ⟨p, h1, h2⟩
    exact ⟨p, by omega, h2⟩
/-- a permit whose kite comes no earlier than one found changes nothing -/
theorem fcP_late {A : Rw} {k b e j : Nat} (h : ¬ leastI (fcP A k b e j) = -1) (h2 : ¬ ((nv A (214 + 3 * j) : Nat) : Int) < leastI (fcP A k b e j)) : leastI (fcP A k b e (j + 1)) = leastI (fcP A k b e j) := by
  by_cases hc : nv A (214 + 3 * j) ≠ k ∧ ∃ t, b ≤ t ∧ t < e ∧ covN A j t ∧ crossN A k (nv A (214 + 3 * j)) t
  · rw [leastI_add (fcP_y hc.1 hc.2), if_neg (by omega)]
  · exact leastI_congr (fcP_n hc)
theorem cnt_pos {P : Nat → Prop} : ∀ {n : Nat}, 0 < cnt P n ↔ ∃ i, i < n ∧ P i
  | 0 => ⟨fun h => absurd h (Nat.lt_irrefl 0), fun ⟨i, h, _⟩ => absurd h (Nat.not_lt_zero i)⟩
  | n + 1 => by
    have ih := cnt_pos (P := P) (n := n)
    by_cases hp : P n
    · rw [cnt_tt hp]
      exact ⟨fun _ => ⟨n, by omega, hp⟩, fun _ => by omega⟩
    · rw [cnt_ff hp, ih]
      constructor
      · rintro ⟨i, h1, h2⟩; exact ⟨i, by omega, h2⟩
      · rintro ⟨i, h1, h2⟩
        by_cases hi : i = n
        · subst hi; exact absurd h2 hp
        · exact ⟨i, by omega, h2⟩
theorem fc_inWay {hm : Nat} {A : Rw} (hI : RowOK hm A) (k s d : Nat) : leastI (fcP A k s (s + d) (nv A 11)) = inWay A k s d := by
  unfold inWay
  refine leastI_congr (fun i => ⟨?_, ?_⟩)
  · rintro ⟨p, h1, rfl, h3, t, h4, h5, h6, h7⟩
    exact ⟨t, h4, h5, (r_PK hI h1).2, h3, ⟨p, h1, rfl, h6⟩, h7⟩
  · rintro ⟨t, h4, h5, h1, h3, ⟨p, p1, p2, p3⟩, h7⟩
    exact ⟨p, p1, p2, h3, t, h4, h5, p3, h7⟩
theorem cross_cnt {A : Rw} {k p b e : Nat} : 0 < cnt (fun i => crossN A k (nv A (214 + 3 * p)) (max b (nv A (214 + 3 * p + 1)) + i)) (min e (nv A (214 + 3 * p + 1) + nv A (214 + 3 * p + 2)) - max b (nv A (214 + 3 * p + 1))) ↔ ∃ t, b ≤ t ∧ t < e ∧ covN A p t ∧ crossN A k (nv A (214 + 3 * p)) t := by
  rw [cnt_pos]
  unfold covN
  constructor
  · rintro ⟨i, h1, h2⟩
    exact ⟨_, by omega, by omega, ⟨by omega, by omega⟩, h2⟩
  · rintro ⟨t, h1, h2, ⟨h3, h4⟩, h5⟩
    refine ⟨t - max b (nv A (214 + 3 * p + 1)), by omega, ?_⟩
    rw [show max b (nv A (214 + 3 * p + 1)) + (t - max b (nv A (214 + 3 * p + 1))) = t by omega]
    exact h5
