/-! ===== when two strings meet ===== -/
/-- the tests of the two ways, over the linear forms; p, q: the second anchor seen from the first -/
def opp (r u v : Int) : Prop := 0 < r ∧ ((u < 0 ∧ 0 < v) ∨ (0 < u ∧ v < 0))
def one1 (r u v : Int) : Prop := 0 < r ∧ ((0 < u ∧ 0 < v) ∨ (u < 0 ∧ v < 0))
def rmeet (u v : Int) (s t : Int) : Prop := min u v ≤ max s t ∧ min s t ≤ max u v
def inb (u v x : Int) : Prop := min u v ≤ x ∧ x ≤ max u v
def segP (r s p q dx dy ex ey : Int) : Prop :=
  rmeet 0 (r * dx) p (p + s * ex) ∧ rmeet 0 (r * dy) q (q + s * ey) ∧ ¬ one1 r (dx * q - dy * p) (dx * (q + s * ey) - dy * (p + s * ex)) ∧ ¬ one1 s (ey * p - ex * q) (ey * (p - r * dx) - ex * (q - r * dy))
def segQ (r s p q dx dy ex ey : Int) : Prop :=
  (opp r (dx * q - dy * p) (dx * (q + s * ey) - dy * (p + s * ex)) ∧ opp s (ey * p - ex * q) (ey * (p - r * dx) - ex * (q - r * dy))) ∨
  ((r = 0 ∨ dx * q - dy * p = 0) ∧ inb 0 (r * dx) p ∧ inb 0 (r * dy) q) ∨ ((r = 0 ∨ dx * (q + s * ey) - dy * (p + s * ex) = 0) ∧ inb 0 (r * dx) (p + s * ex) ∧ inb 0 (r * dy) (q + s * ey)) ∨
  ((s = 0 ∨ ey * p - ex * q = 0) ∧ inb p (p + s * ex) 0 ∧ inb q (q + s * ey) 0) ∨ ((s = 0 ∨ ey * (p - r * dx) - ex * (q - r * dy) = 0) ∧ inb p (p + s * ex) (r * dx) ∧ inb q (q + s * ey) (r * dy))
set_option maxHeartbeats 4000000 in
theorem seg_0_0 {r s p q : Int} (hr : 0 ≤ r) (hs : 0 ≤ s) : segP r s p q 0 1 0 1 ↔ segQ r s p q 0 1 0 1 := by
  have m1 : min 0 (r * 0) = 0 := by omega
  have m2 : max 0 (r * 0) = 0 := by omega
  have m3 : min 0 (r * 1) = 0 := by omega
  have m4 : max 0 (r * 1) = r := by omega
  have m5 : min p (p + s * 0) = p := by omega
  have m6 : max p (p + s * 0) = p := by omega
  have m7 : min q (q + s * 1) = q := by omega
  have m8 : max q (q + s * 1) = q + s := by omega
  unfold segP segQ opp one1 rmeet inb
  rw [m1, m2, m3, m4, m5, m6, m7, m8]
  constructor
  · rintro ⟨h1, h2, h3, h4⟩
    by_cases r0 : r = 0
    · exact Or.inr (Or.inr (Or.inr (Or.inl (by omega))))
    by_cases s0 : s = 0
    · exact Or.inr (Or.inl (by omega))
    have l1 : 0 * q - 1 * p = 0 := by omega
    by_cases i1 : (0 ≤ p ∧ p ≤ 0) ∧ (0 ≤ q ∧ q ≤ r)
    · exact Or.inr (Or.inl (by omega))
    by_cases i2 : (0 ≤ p + s * 0 ∧ p + s * 0 ≤ 0) ∧ (0 ≤ q + s * 1 ∧ q + s * 1 ≤ r)
    · exact Or.inr (Or.inr (Or.inl (by omega)))
    exact Or.inr (Or.inr (Or.inr (Or.inl (by omega))))
  · rintro (⟨h1, h2⟩ | ⟨h1, h2, h3⟩ | ⟨h1, h2, h3⟩ | ⟨h1, h2, h3⟩ | ⟨h1, h2, h3⟩) <;> refine ⟨by omega, by omega, by omega, by omega⟩
set_option maxHeartbeats 4000000 in
theorem seg_0_1 {r s p q : Int} (hr : 0 ≤ r) (hs : 0 ≤ s) : segP r s p q 0 1 1 1 ↔ segQ r s p q 0 1 1 1 := by
  have m1 : min 0 (r * 0) = 0 := by omega
  have m2 : max 0 (r * 0) = 0 := by omega
  have m3 : min 0 (r * 1) = 0 := by omega
  have m4 : max 0 (r * 1) = r := by omega
  have m5 : min p (p + s * 1) = p := by omega
  have m6 : max p (p + s * 1) = p + s := by omega
  have m7 : min q (q + s * 1) = q := by omega
  have m8 : max q (q + s * 1) = q + s := by omega
  unfold segP segQ opp one1 rmeet inb
  rw [m1, m2, m3, m4, m5, m6, m7, m8]
  constructor
  · rintro ⟨h1, h2, h3, h4⟩
    by_cases r0 : r = 0
    · exact Or.inr (Or.inr (Or.inr (Or.inl (by omega))))
    by_cases s0 : s = 0
    · exact Or.inr (Or.inl (by omega))
    by_cases l1 : 0 * q - 1 * p = 0
    · exact Or.inr (Or.inl (by omega))
    by_cases l2 : 0 * (q + s * 1) - 1 * (p + s * 1) = 0
    · exact Or.inr (Or.inr (Or.inl (by omega)))
    by_cases l3 : 1 * p - 1 * q = 0
    · exact Or.inr (Or.inr (Or.inr (Or.inl (by omega))))
    by_cases l4 : 1 * (p - r * 0) - 1 * (q - r * 1) = 0
    · exact Or.inr (Or.inr (Or.inr (Or.inr (by omega))))
    exact Or.inl (by omega)
  · rintro (⟨h1, h2⟩ | ⟨h1, h2, h3⟩ | ⟨h1, h2, h3⟩ | ⟨h1, h2, h3⟩ | ⟨h1, h2, h3⟩) <;> refine ⟨by omega, by omega, by omega, by omega⟩
set_option maxHeartbeats 4000000 in
theorem seg_0_2 {r s p q : Int} (hr : 0 ≤ r) (hs : 0 ≤ s) : segP r s p q 0 1 1 0 ↔ segQ r s p q 0 1 1 0 := by
  have m1 : min 0 (r * 0) = 0 := by omega
  have m2 : max 0 (r * 0) = 0 := by omega
  have m3 : min 0 (r * 1) = 0 := by omega
  have m4 : max 0 (r * 1) = r := by omega
  have m5 : min p (p + s * 1) = p := by omega
  have m6 : max p (p + s * 1) = p + s := by omega
  have m7 : min q (q + s * 0) = q := by omega
  have m8 : max q (q + s * 0) = q := by omega
  unfold segP segQ opp one1 rmeet inb
  rw [m1, m2, m3, m4, m5, m6, m7, m8]
  constructor
  · rintro ⟨h1, h2, h3, h4⟩
    by_cases r0 : r = 0
    · exact Or.inr (Or.inr (Or.inr (Or.inl (by omega))))
    by_cases s0 : s = 0
    · exact Or.inr (Or.inl (by omega))
    by_cases l1 : 0 * q - 1 * p = 0
    · exact Or.inr (Or.inl (by omega))
    by_cases l2 : 0 * (q + s * 0) - 1 * (p + s * 1) = 0
    · exact Or.inr (Or.inr (Or.inl (by omega)))
    by_cases l3 : 0 * p - 1 * q = 0
    · exact Or.inr (Or.inr (Or.inr (Or.inl (by omega))))
    by_cases l4 : 0 * (p - r * 0) - 1 * (q - r * 1) = 0
    · exact Or.inr (Or.inr (Or.inr (Or.inr (by omega))))
    exact Or.inl (by omega)
  · rintro (⟨h1, h2⟩ | ⟨h1, h2, h3⟩ | ⟨h1, h2, h3⟩ | ⟨h1, h2, h3⟩ | ⟨h1, h2, h3⟩) <;> refine ⟨by omega, by omega, by omega, by omega⟩
set_option maxHeartbeats 4000000 in
theorem seg_0_3 {r s p q : Int} (hr : 0 ≤ r) (hs : 0 ≤ s) : segP r s p q 0 1 1 (-1) ↔ segQ r s p q 0 1 1 (-1) := by
  have m1 : min 0 (r * 0) = 0 := by omega
  have m2 : max 0 (r * 0) = 0 := by omega
  have m3 : min 0 (r * 1) = 0 := by omega
  have m4 : max 0 (r * 1) = r := by omega
  have m5 : min p (p + s * 1) = p := by omega
  have m6 : max p (p + s * 1) = p + s := by omega
  have m7 : min q (q + s * (-1)) = q - s := by omega
  have m8 : max q (q + s * (-1)) = q := by omega
  unfold segP segQ opp one1 rmeet inb
  rw [m1, m2, m3, m4, m5, m6, m7, m8]
  constructor
  · rintro ⟨h1, h2, h3, h4⟩
    by_cases r0 : r = 0
    · exact Or.inr (Or.inr (Or.inr (Or.inl (by omega))))
    by_cases s0 : s = 0
    · exact Or.inr (Or.inl (by omega))
    by_cases l1 : 0 * q - 1 * p = 0
    · exact Or.inr (Or.inl (by omega))
    by_cases l2 : 0 * (q + s * (-1)) - 1 * (p + s * 1) = 0
    · exact Or.inr (Or.inr (Or.inl (by omega)))
    by_cases l3 : (-1) * p - 1 * q = 0
    · exact Or.inr (Or.inr (Or.inr (Or.inl (by omega))))
    by_cases l4 : (-1) * (p - r * 0) - 1 * (q - r * 1) = 0
    · exact Or.inr (Or.inr (Or.inr (Or.inr (by omega))))
    exact Or.inl (by omega)
  · rintro (⟨h1, h2⟩ | ⟨h1, h2, h3⟩ | ⟨h1, h2, h3⟩ | ⟨h1, h2, h3⟩ | ⟨h1, h2, h3⟩) <;> refine ⟨by omega, by omega, by omega, by omega⟩
set_option maxHeartbeats 4000000 in
theorem seg_0_4 {r s p q : Int} (hr : 0 ≤ r) (hs : 0 ≤ s) : segP r s p q 0 1 0 (-1) ↔ segQ r s p q 0 1 0 (-1) := by
  have m1 : min 0 (r * 0) = 0 := by omega
  have m2 : max 0 (r * 0) = 0 := by omega
  have m3 : min 0 (r * 1) = 0 := by omega
  have m4 : max 0 (r * 1) = r := by omega
  have m5 : min p (p + s * 0) = p := by omega
  have m6 : max p (p + s * 0) = p := by omega
  have m7 : min q (q + s * (-1)) = q - s := by omega
  have m8 : max q (q + s * (-1)) = q := by omega
  unfold segP segQ opp one1 rmeet inb
  rw [m1, m2, m3, m4, m5, m6, m7, m8]
  constructor
  · rintro ⟨h1, h2, h3, h4⟩
    by_cases r0 : r = 0
    · exact Or.inr (Or.inr (Or.inr (Or.inl (by omega))))
    by_cases s0 : s = 0
    · exact Or.inr (Or.inl (by omega))
    have l1 : 0 * q - 1 * p = 0 := by omega
    by_cases i1 : (0 ≤ p ∧ p ≤ 0) ∧ (0 ≤ q ∧ q ≤ r)
    · exact Or.inr (Or.inl (by omega))
    by_cases i2 : (0 ≤ p + s * 0 ∧ p + s * 0 ≤ 0) ∧ (0 ≤ q + s * (-1) ∧ q + s * (-1) ≤ r)
    · exact Or.inr (Or.inr (Or.inl (by omega)))
    exact Or.inr (Or.inr (Or.inr (Or.inl (by omega))))
  · rintro (⟨h1, h2⟩ | ⟨h1, h2, h3⟩ | ⟨h1, h2, h3⟩ | ⟨h1, h2, h3⟩ | ⟨h1, h2, h3⟩) <;> refine ⟨by omega, by omega, by omega, by omega⟩
set_option maxHeartbeats 4000000 in
theorem seg_0_5 {r s p q : Int} (hr : 0 ≤ r) (hs : 0 ≤ s) : segP r s p q 0 1 (-1) (-1) ↔ segQ r s p q 0 1 (-1) (-1) := by
  have m1 : min 0 (r * 0) = 0 := by omega
  have m2 : max 0 (r * 0) = 0 := by omega
  have m3 : min 0 (r * 1) = 0 := by omega
  have m4 : max 0 (r * 1) = r := by omega
  have m5 : min p (p + s * (-1)) = p - s := by omega
  have m6 : max p (p + s * (-1)) = p := by omega
  have m7 : min q (q + s * (-1)) = q - s := by omega
  have m8 : max q (q + s * (-1)) = q := by omega
  unfold segP segQ opp one1 rmeet inb
  rw [m1, m2, m3, m4, m5, m6, m7, m8]
  constructor
  · rintro ⟨h1, h2, h3, h4⟩
    by_cases r0 : r = 0
    · exact Or.inr (Or.inr (Or.inr (Or.inl (by omega))))
    by_cases s0 : s = 0
    · exact Or.inr (Or.inl (by omega))
    by_cases l1 : 0 * q - 1 * p = 0
    · exact Or.inr (Or.inl (by omega))
    by_cases l2 : 0 * (q + s * (-1)) - 1 * (p + s * (-1)) = 0
    · exact Or.inr (Or.inr (Or.inl (by omega)))
    by_cases l3 : (-1) * p - (-1) * q = 0
    · exact Or.inr (Or.inr (Or.inr (Or.inl (by omega))))
    by_cases l4 : (-1) * (p - r * 0) - (-1) * (q - r * 1) = 0
    · exact Or.inr (Or.inr (Or.inr (Or.inr (by omega))))
    exact Or.inl (by omega)
  · rintro (⟨h1, h2⟩ | ⟨h1, h2, h3⟩ | ⟨h1, h2, h3⟩ | ⟨h1, h2, h3⟩ | ⟨h1, h2, h3⟩) <;> refine ⟨by omega, by omega, by omega, by omega⟩
set_option maxHeartbeats 4000000 in
theorem seg_0_6 {r s p q : Int} (hr : 0 ≤ r) (hs : 0 ≤ s) : segP r s p q 0 1 (-1) 0 ↔ segQ r s p q 0 1 (-1) 0 := by
  have m1 : min 0 (r * 0) = 0 := by omega
  have m2 : max 0 (r * 0) = 0 := by omega
  have m3 : min 0 (r * 1) = 0 := by omega
  have m4 : max 0 (r * 1) = r := by omega
  have m5 : min p (p + s * (-1)) = p - s := by omega
  have m6 : max p (p + s * (-1)) = p := by omega
  have m7 : min q (q + s * 0) = q := by omega
  have m8 : max q (q + s * 0) = q := by omega
  unfold segP segQ opp one1 rmeet inb
  rw [m1, m2, m3, m4, m5, m6, m7, m8]
  constructor
  · rintro ⟨h1, h2, h3, h4⟩
    by_cases r0 : r = 0
    · exact Or.inr (Or.inr (Or.inr (Or.inl (by omega))))
    by_cases s0 : s = 0
    · exact Or.inr (Or.inl (by omega))
    by_cases l1 : 0 * q - 1 * p = 0
    · exact Or.inr (Or.inl (by omega))
    by_cases l2 : 0 * (q + s * 0) - 1 * (p + s * (-1)) = 0
    · exact Or.inr (Or.inr (Or.inl (by omega)))
    by_cases l3 : 0 * p - (-1) * q = 0
    · exact Or.inr (Or.inr (Or.inr (Or.inl (by omega))))
    by_cases l4 : 0 * (p - r * 0) - (-1) * (q - r * 1) = 0
    · exact Or.inr (Or.inr (Or.inr (Or.inr (by omega))))
    exact Or.inl (by omega)
  · rintro (⟨h1, h2⟩ | ⟨h1, h2, h3⟩ | ⟨h1, h2, h3⟩ | ⟨h1, h2, h3⟩ | ⟨h1, h2, h3⟩) <;> refine ⟨by omega, by omega, by omega, by omega⟩
set_option maxHeartbeats 4000000 in
theorem seg_0_7 {r s p q : Int} (hr : 0 ≤ r) (hs : 0 ≤ s) : segP r s p q 0 1 (-1) 1 ↔ segQ r s p q 0 1 (-1) 1 := by
  have m1 : min 0 (r * 0) = 0 := by omega
  have m2 : max 0 (r * 0) = 0 := by omega
  have m3 : min 0 (r * 1) = 0 := by omega
  have m4 : max 0 (r * 1) = r := by omega
  have m5 : min p (p + s * (-1)) = p - s := by omega
  have m6 : max p (p + s * (-1)) = p := by omega
  have m7 : min q (q + s * 1) = q := by omega
  have m8 : max q (q + s * 1) = q + s := by omega
  unfold segP segQ opp one1 rmeet inb
  rw [m1, m2, m3, m4, m5, m6, m7, m8]
  constructor
  · rintro ⟨h1, h2, h3, h4⟩
    by_cases r0 : r = 0
    · exact Or.inr (Or.inr (Or.inr (Or.inl (by omega))))
    by_cases s0 : s = 0
    · exact Or.inr (Or.inl (by omega))
    by_cases l1 : 0 * q - 1 * p = 0
    · exact Or.inr (Or.inl (by omega))
    by_cases l2 : 0 * (q + s * 1) - 1 * (p + s * (-1)) = 0
    · exact Or.inr (Or.inr (Or.inl (by omega)))
    by_cases l3 : 1 * p - (-1) * q = 0
    · exact Or.inr (Or.inr (Or.inr (Or.inl (by omega))))
    by_cases l4 : 1 * (p - r * 0) - (-1) * (q - r * 1) = 0
    · exact Or.inr (Or.inr (Or.inr (Or.inr (by omega))))
    exact Or.inl (by omega)
  · rintro (⟨h1, h2⟩ | ⟨h1, h2, h3⟩ | ⟨h1, h2, h3⟩ | ⟨h1, h2, h3⟩ | ⟨h1, h2, h3⟩) <;> refine ⟨by omega, by omega, by omega, by omega⟩
set_option maxHeartbeats 4000000 in
theorem seg_1_0 {r s p q : Int} (hr : 0 ≤ r) (hs : 0 ≤ s) : segP r s p q 1 1 0 1 ↔ segQ r s p q 1 1 0 1 := by
  have m1 : min 0 (r * 1) = 0 := by omega
  have m2 : max 0 (r * 1) = r := by omega
  have m3 : min p (p + s * 0) = p := by omega
  have m4 : max p (p + s * 0) = p := by omega
  have m5 : min q (q + s * 1) = q := by omega
  have m6 : max q (q + s * 1) = q + s := by omega
  unfold segP segQ opp one1 rmeet inb
  rw [m1, m2, m3, m4, m5, m6]
  constructor
  · rintro ⟨h1, h2, h3, h4⟩
    by_cases r0 : r = 0
    · exact Or.inr (Or.inr (Or.inr (Or.inl (by omega))))
    by_cases s0 : s = 0
    · exact Or.inr (Or.inl (by omega))
    by_cases l1 : 1 * q - 1 * p = 0
    · exact Or.inr (Or.inl (by omega))
    by_cases l2 : 1 * (q + s * 1) - 1 * (p + s * 0) = 0
    · exact Or.inr (Or.inr (Or.inl (by omega)))
    by_cases l3 : 1 * p - 0 * q = 0
    · exact Or.inr (Or.inr (Or.inr (Or.inl (by omega))))
    by_cases l4 : 1 * (p - r * 1) - 0 * (q - r * 1) = 0
    · exact Or.inr (Or.inr (Or.inr (Or.inr (by omega))))
    exact Or.inl (by omega)
  · rintro (⟨h1, h2⟩ | ⟨h1, h2, h3⟩ | ⟨h1, h2, h3⟩ | ⟨h1, h2, h3⟩ | ⟨h1, h2, h3⟩) <;> refine ⟨by omega, by omega, by omega, by omega⟩
set_option maxHeartbeats 4000000 in
theorem seg_1_1 {r s p q : Int} (hr : 0 ≤ r) (hs : 0 ≤ s) : segP r s p q 1 1 1 1 ↔ segQ r s p q 1 1 1 1 := by
  have m1 : min 0 (r * 1) = 0 := by omega
  have m2 : max 0 (r * 1) = r := by omega
  have m3 : min p (p + s * 1) = p := by omega
  have m4 : max p (p + s * 1) = p + s := by omega
  have m5 : min q (q + s * 1) = q := by omega
  have m6 : max q (q + s * 1) = q + s := by omega
  unfold segP segQ opp one1 rmeet inb
  rw [m1, m2, m3, m4, m5, m6]
  constructor
  · rintro ⟨h1, h2, h3, h4⟩
    by_cases r0 : r = 0
    · exact Or.inr (Or.inr (Or.inr (Or.inl (by omega))))
    by_cases s0 : s = 0
    · exact Or.inr (Or.inl (by omega))
    have l1 : 1 * q - 1 * p = 0 := by omega
    by_cases i1 : (0 ≤ p ∧ p ≤ r) ∧ (0 ≤ q ∧ q ≤ r)
    · exact Or.inr (Or.inl (by omega))
    by_cases i2 : (0 ≤ p + s * 1 ∧ p + s * 1 ≤ r) ∧ (0 ≤ q + s * 1 ∧ q + s * 1 ≤ r)
    · exact Or.inr (Or.inr (Or.inl (by omega)))
    exact Or.inr (Or.inr (Or.inr (Or.inl (by omega))))
  · rintro (⟨h1, h2⟩ | ⟨h1, h2, h3⟩ | ⟨h1, h2, h3⟩ | ⟨h1, h2, h3⟩ | ⟨h1, h2, h3⟩) <;> refine ⟨by omega, by omega, by omega, by omega⟩
set_option maxHeartbeats 4000000 in
theorem seg_1_2 {r s p q : Int} (hr : 0 ≤ r) (hs : 0 ≤ s) : segP r s p q 1 1 1 0 ↔ segQ r s p q 1 1 1 0 := by
  have m1 : min 0 (r * 1) = 0 := by omega
  have m2 : max 0 (r * 1) = r := by omega
  have m3 : min p (p + s * 1) = p := by omega
  have m4 : max p (p + s * 1) = p + s := by omega
  have m5 : min q (q + s * 0) = q := by omega
  have m6 : max q (q + s * 0) = q := by omega
  unfold segP segQ opp one1 rmeet inb
  rw [m1, m2, m3, m4, m5, m6]
  constructor
  · rintro ⟨h1, h2, h3, h4⟩
    by_cases r0 : r = 0
    · exact Or.inr (Or.inr (Or.inr (Or.inl (by omega))))
    by_cases s0 : s = 0
    · exact Or.inr (Or.inl (by omega))
    by_cases l1 : 1 * q - 1 * p = 0
    · exact Or.inr (Or.inl (by omega))
    by_cases l2 : 1 * (q + s * 0) - 1 * (p + s * 1) = 0
    · exact Or.inr (Or.inr (Or.inl (by omega)))
    by_cases l3 : 0 * p - 1 * q = 0
    · exact Or.inr (Or.inr (Or.inr (Or.inl (by omega))))
    by_cases l4 : 0 * (p - r * 1) - 1 * (q - r * 1) = 0
    · exact Or.inr (Or.inr (Or.inr (Or.inr (by omega))))
    exact Or.inl (by omega)
  · rintro (⟨h1, h2⟩ | ⟨h1, h2, h3⟩ | ⟨h1, h2, h3⟩ | ⟨h1, h2, h3⟩ | ⟨h1, h2, h3⟩) <;> refine ⟨by omega, by omega, by omega, by omega⟩
set_option maxHeartbeats 4000000 in
theorem seg_1_3 {r s p q : Int} (hr : 0 ≤ r) (hs : 0 ≤ s) : segP r s p q 1 1 1 (-1) ↔ segQ r s p q 1 1 1 (-1) := by
  have m1 : min 0 (r * 1) = 0 := by omega
  have m2 : max 0 (r * 1) = r := by omega
  have m3 : min p (p + s * 1) = p := by omega
  have m4 : max p (p + s * 1) = p + s := by omega
  have m5 : min q (q + s * (-1)) = q - s := by omega
  have m6 : max q (q + s * (-1)) = q := by omega
  unfold segP segQ opp one1 rmeet inb
  rw [m1, m2, m3, m4, m5, m6]
  constructor
  · rintro ⟨h1, h2, h3, h4⟩
    by_cases r0 : r = 0
    · exact Or.inr (Or.inr (Or.inr (Or.inl (by omega))))
    by_cases s0 : s = 0
    · exact Or.inr (Or.inl (by omega))
    by_cases l1 : 1 * q - 1 * p = 0
    · exact Or.inr (Or.inl (by omega))
    by_cases l2 : 1 * (q + s * (-1)) - 1 * (p + s * 1) = 0
    · exact Or.inr (Or.inr (Or.inl (by omega)))
    by_cases l3 : (-1) * p - 1 * q = 0
    · exact Or.inr (Or.inr (Or.inr (Or.inl (by omega))))
    by_cases l4 : (-1) * (p - r * 1) - 1 * (q - r * 1) = 0
    · exact Or.inr (Or.inr (Or.inr (Or.inr (by omega))))
    exact Or.inl (by omega)
  · rintro (⟨h1, h2⟩ | ⟨h1, h2, h3⟩ | ⟨h1, h2, h3⟩ | ⟨h1, h2, h3⟩ | ⟨h1, h2, h3⟩) <;> refine ⟨by omega, by omega, by omega, by omega⟩
set_option maxHeartbeats 4000000 in
theorem seg_1_4 {r s p q : Int} (hr : 0 ≤ r) (hs : 0 ≤ s) : segP r s p q 1 1 0 (-1) ↔ segQ r s p q 1 1 0 (-1) := by
  have m1 : min 0 (r * 1) = 0 := by omega
  have m2 : max 0 (r * 1) = r := by omega
  have m3 : min p (p + s * 0) = p := by omega
  have m4 : max p (p + s * 0) = p := by omega
  have m5 : min q (q + s * (-1)) = q - s := by omega
  have m6 : max q (q + s * (-1)) = q := by omega
  unfold segP segQ opp one1 rmeet inb
  rw [m1, m2, m3, m4, m5, m6]
  constructor
  · rintro ⟨h1, h2, h3, h4⟩
    by_cases r0 : r = 0
    · exact Or.inr (Or.inr (Or.inr (Or.inl (by omega))))
    by_cases s0 : s = 0
    · exact Or.inr (Or.inl (by omega))
    by_cases l1 : 1 * q - 1 * p = 0
    · exact Or.inr (Or.inl (by omega))
    by_cases l2 : 1 * (q + s * (-1)) - 1 * (p + s * 0) = 0
    · exact Or.inr (Or.inr (Or.inl (by omega)))
    by_cases l3 : (-1) * p - 0 * q = 0
    · exact Or.inr (Or.inr (Or.inr (Or.inl (by omega))))
    by_cases l4 : (-1) * (p - r * 1) - 0 * (q - r * 1) = 0
    · exact Or.inr (Or.inr (Or.inr (Or.inr (by omega))))
    exact Or.inl (by omega)
  · rintro (⟨h1, h2⟩ | ⟨h1, h2, h3⟩ | ⟨h1, h2, h3⟩ | ⟨h1, h2, h3⟩ | ⟨h1, h2, h3⟩) <;> refine ⟨by omega, by omega, by omega, by omega⟩
set_option maxHeartbeats 4000000 in
theorem seg_1_5 {r s p q : Int} (hr : 0 ≤ r) (hs : 0 ≤ s) : segP r s p q 1 1 (-1) (-1) ↔ segQ r s p q 1 1 (-1) (-1) := by
  have m1 : min 0 (r * 1) = 0 := by omega
  have m2 : max 0 (r * 1) = r := by omega
  have m3 : min p (p + s * (-1)) = p - s := by omega
  have m4 : max p (p + s * (-1)) = p := by omega
  have m5 : min q (q + s * (-1)) = q - s := by omega
  have m6 : max q (q + s * (-1)) = q := by omega
  unfold segP segQ opp one1 rmeet inb
  rw [m1, m2, m3, m4, m5, m6]
  constructor
  · rintro ⟨h1, h2, h3, h4⟩
    by_cases r0 : r = 0
    · exact Or.inr (Or.inr (Or.inr (Or.inl (by omega))))
    by_cases s0 : s = 0
    · exact Or.inr (Or.inl (by omega))
    have l1 : 1 * q - 1 * p = 0 := by omega
    by_cases i1 : (0 ≤ p ∧ p ≤ r) ∧ (0 ≤ q ∧ q ≤ r)
    · exact Or.inr (Or.inl (by omega))
    by_cases i2 : (0 ≤ p + s * (-1) ∧ p + s * (-1) ≤ r) ∧ (0 ≤ q + s * (-1) ∧ q + s * (-1) ≤ r)
    · exact Or.inr (Or.inr (Or.inl (by omega)))
    exact Or.inr (Or.inr (Or.inr (Or.inl (by omega))))
  · rintro (⟨h1, h2⟩ | ⟨h1, h2, h3⟩ | ⟨h1, h2, h3⟩ | ⟨h1, h2, h3⟩ | ⟨h1, h2, h3⟩) <;> refine ⟨by omega, by omega, by omega, by omega⟩
set_option maxHeartbeats 4000000 in
theorem seg_1_6 {r s p q : Int} (hr : 0 ≤ r) (hs : 0 ≤ s) : segP r s p q 1 1 (-1) 0 ↔ segQ r s p q 1 1 (-1) 0 := by
  have m1 : min 0 (r * 1) = 0 := by omega
  have m2 : max 0 (r * 1) = r := by omega
  have m3 : min p (p + s * (-1)) = p - s := by omega
  have m4 : max p (p + s * (-1)) = p := by omega
  have m5 : min q (q + s * 0) = q := by omega
  have m6 : max q (q + s * 0) = q := by omega
  unfold segP segQ opp one1 rmeet inb
  rw [m1, m2, m3, m4, m5, m6]
  constructor
  · rintro ⟨h1, h2, h3, h4⟩
    by_cases r0 : r = 0
    · exact Or.inr (Or.inr (Or.inr (Or.inl (by omega))))
    by_cases s0 : s = 0
    · exact Or.inr (Or.inl (by omega))
    by_cases l1 : 1 * q - 1 * p = 0
    · exact Or.inr (Or.inl (by omega))
    by_cases l2 : 1 * (q + s * 0) - 1 * (p + s * (-1)) = 0
    · exact Or.inr (Or.inr (Or.inl (by omega)))
    by_cases l3 : 0 * p - (-1) * q = 0
    · exact Or.inr (Or.inr (Or.inr (Or.inl (by omega))))
    by_cases l4 : 0 * (p - r * 1) - (-1) * (q - r * 1) = 0
    · exact Or.inr (Or.inr (Or.inr (Or.inr (by omega))))
    exact Or.inl (by omega)
  · rintro (⟨h1, h2⟩ | ⟨h1, h2, h3⟩ | ⟨h1, h2, h3⟩ | ⟨h1, h2, h3⟩ | ⟨h1, h2, h3⟩) <;> refine ⟨by omega, by omega, by omega, by omega⟩
set_option maxHeartbeats 4000000 in
theorem seg_1_7 {r s p q : Int} (hr : 0 ≤ r) (hs : 0 ≤ s) : segP r s p q 1 1 (-1) 1 ↔ segQ r s p q 1 1 (-1) 1 := by
  have m1 : min 0 (r * 1) = 0 := by omega
  have m2 : max 0 (r * 1) = r := by omega
  have m3 : min p (p + s * (-1)) = p - s := by omega
  have m4 : max p (p + s * (-1)) = p := by omega
  have m5 : min q (q + s * 1) = q := by omega
  have m6 : max q (q + s * 1) = q + s := by omega
  unfold segP segQ opp one1 rmeet inb
  rw [m1, m2, m3, m4, m5, m6]
  constructor
  · rintro ⟨h1, h2, h3, h4⟩
    by_cases r0 : r = 0
    · exact Or.inr (Or.inr (Or.inr (Or.inl (by omega))))
    by_cases s0 : s = 0
    · exact Or.inr (Or.inl (by omega))
    by_cases l1 : 1 * q - 1 * p = 0
    · exact Or.inr (Or.inl (by omega))
    by_cases l2 : 1 * (q + s * 1) - 1 * (p + s * (-1)) = 0
    · exact Or.inr (Or.inr (Or.inl (by omega)))
    by_cases l3 : 1 * p - (-1) * q = 0
    · exact Or.inr (Or.inr (Or.inr (Or.inl (by omega))))
    by_cases l4 : 1 * (p - r * 1) - (-1) * (q - r * 1) = 0
    · exact Or.inr (Or.inr (Or.inr (Or.inr (by omega))))
    exact Or.inl (by omega)
  · rintro (⟨h1, h2⟩ | ⟨h1, h2, h3⟩ | ⟨h1, h2, h3⟩ | ⟨h1, h2, h3⟩ | ⟨h1, h2, h3⟩) <;> refine ⟨by omega, by omega, by omega, by omega⟩
set_option maxHeartbeats 4000000 in
theorem seg_2_0 {r s p q : Int} (hr : 0 ≤ r) (hs : 0 ≤ s) : segP r s p q 1 0 0 1 ↔ segQ r s p q 1 0 0 1 := by
  have m1 : min 0 (r * 1) = 0 := by omega
  have m2 : max 0 (r * 1) = r := by omega
  have m3 : min 0 (r * 0) = 0 := by omega
  have m4 : max 0 (r * 0) = 0 := by omega
  have m5 : min p (p + s * 0) = p := by omega
  have m6 : max p (p + s * 0) = p := by omega
  have m7 : min q (q + s * 1) = q := by omega
  have m8 : max q (q + s * 1) = q + s := by omega
  unfold segP segQ opp one1 rmeet inb
  rw [m1, m2, m3, m4, m5, m6, m7, m8]
  constructor
  · rintro ⟨h1, h2, h3, h4⟩
    by_cases r0 : r = 0
    · exact Or.inr (Or.inr (Or.inr (Or.inl (by omega))))
    by_cases s0 : s = 0
    · exact Or.inr (Or.inl (by omega))
    by_cases l1 : 1 * q - 0 * p = 0
    · exact Or.inr (Or.inl (by omega))
    by_cases l2 : 1 * (q + s * 1) - 0 * (p + s * 0) = 0
    · exact Or.inr (Or.inr (Or.inl (by omega)))
    by_cases l3 : 1 * p - 0 * q = 0
    · exact Or.inr (Or.inr (Or.inr (Or.inl (by omega))))
    by_cases l4 : 1 * (p - r * 1) - 0 * (q - r * 0) = 0
    · exact Or.inr (Or.inr (Or.inr (Or.inr (by omega))))
    exact Or.inl (by omega)
  · rintro (⟨h1, h2⟩ | ⟨h1, h2, h3⟩ | ⟨h1, h2, h3⟩ | ⟨h1, h2, h3⟩ | ⟨h1, h2, h3⟩) <;> refine ⟨by omega, by omega, by omega, by omega⟩
set_option maxHeartbeats 4000000 in
theorem seg_2_1 {r s p q : Int} (hr : 0 ≤ r) (hs : 0 ≤ s) : segP r s p q 1 0 1 1 ↔ segQ r s p q 1 0 1 1 := by
  have m1 : min 0 (r * 1) = 0 := by omega
  have m2 : max 0 (r * 1) = r := by omega
  have m3 : min 0 (r * 0) = 0 := by omega
  have m4 : max 0 (r * 0) = 0 := by omega
  have m5 : min p (p + s * 1) = p := by omega
  have m6 : max p (p + s * 1) = p + s := by omega
  have m7 : min q (q + s * 1) = q := by omega
  have m8 : max q (q + s * 1) = q + s := by omega
  unfold segP segQ opp one1 rmeet inb
  rw [m1, m2, m3, m4, m5, m6, m7, m8]
  constructor
  · rintro ⟨h1, h2, h3, h4⟩
    by_cases r0 : r = 0
    · exact Or.inr (Or.inr (Or.inr (Or.inl (by omega))))
    by_cases s0 : s = 0
    · exact Or.inr (Or.inl (by omega))
    by_cases l1 : 1 * q - 0 * p = 0
    · exact Or.inr (Or.inl (by omega))
    by_cases l2 : 1 * (q + s * 1) - 0 * (p + s * 1) = 0
    · exact Or.inr (Or.inr (Or.inl (by omega)))
    by_cases l3 : 1 * p - 1 * q = 0
    · exact Or.inr (Or.inr (Or.inr (Or.inl (by omega))))
    by_cases l4 : 1 * (p - r * 1) - 1 * (q - r * 0) = 0
    · exact Or.inr (Or.inr (Or.inr (Or.inr (by omega))))
    exact Or.inl (by omega)
  · rintro (⟨h1, h2⟩ | ⟨h1, h2, h3⟩ | ⟨h1, h2, h3⟩ | ⟨h1, h2, h3⟩ | ⟨h1, h2, h3⟩) <;> refine ⟨by omega, by omega, by omega, by omega⟩
set_option maxHeartbeats 4000000 in
theorem seg_2_2 {r s p q : Int} (hr : 0 ≤ r) (hs : 0 ≤ s) : segP r s p q 1 0 1 0 ↔ segQ r s p q 1 0 1 0 := by
  have m1 : min 0 (r * 1) = 0 := by omega
  have m2 : max 0 (r * 1) = r := by omega
  have m3 : min 0 (r * 0) = 0 := by omega
  have m4 : max 0 (r * 0) = 0 := by omega
  have m5 : min p (p + s * 1) = p := by omega
  have m6 : max p (p + s * 1) = p + s := by omega
  have m7 : min q (q + s * 0) = q := by omega
  have m8 : max q (q + s * 0) = q := by omega
  unfold segP segQ opp one1 rmeet inb
  rw [m1, m2, m3, m4, m5, m6, m7, m8]
  constructor
  · rintro ⟨h1, h2, h3, h4⟩
    by_cases r0 : r = 0
    · exact Or.inr (Or.inr (Or.inr (Or.inl (by omega))))
    by_cases s0 : s = 0
    · exact Or.inr (Or.inl (by omega))
    have l1 : 1 * q - 0 * p = 0 := by omega
    by_cases i1 : (0 ≤ p ∧ p ≤ r) ∧ (0 ≤ q ∧ q ≤ 0)
    · exact Or.inr (Or.inl (by omega))
    by_cases i2 : (0 ≤ p + s * 1 ∧ p + s * 1 ≤ r) ∧ (0 ≤ q + s * 0 ∧ q + s * 0 ≤ 0)
    · exact Or.inr (Or.inr (Or.inl (by omega)))
    exact Or.inr (Or.inr (Or.inr (Or.inl (by omega))))
  · rintro (⟨h1, h2⟩ | ⟨h1, h2, h3⟩ | ⟨h1, h2, h3⟩ | ⟨h1, h2, h3⟩ | ⟨h1, h2, h3⟩) <;> refine ⟨by omega, by omega, by omega, by omega⟩
set_option maxHeartbeats 4000000 in
theorem seg_2_3 {r s p q : Int} (hr : 0 ≤ r) (hs : 0 ≤ s) : segP r s p q 1 0 1 (-1) ↔ segQ r s p q 1 0 1 (-1) := by
  have m1 : min 0 (r * 1) = 0 := by omega
  have m2 : max 0 (r * 1) = r := by omega
  have m3 : min 0 (r * 0) = 0 := by omega
  have m4 : max 0 (r * 0) = 0 := by omega
  have m5 : min p (p + s * 1) = p := by omega
  have m6 : max p (p + s * 1) = p + s := by omega
  have m7 : min q (q + s * (-1)) = q - s := by omega
  have m8 : max q (q + s * (-1)) = q := by omega
  unfold segP segQ opp one1 rmeet inb
  rw [m1, m2, m3, m4, m5, m6, m7, m8]
  constructor
  · rintro ⟨h1, h2, h3, h4⟩
    by_cases r0 : r = 0
    · exact Or.inr (Or.inr (Or.inr (Or.inl (by omega))))
    by_cases s0 : s = 0
    · exact Or.inr (Or.inl (by omega))
    by_cases l1 : 1 * q - 0 * p = 0
    · exact Or.inr (Or.inl (by omega))
    by_cases l2 : 1 * (q + s * (-1)) - 0 * (p + s * 1) = 0
    · exact Or.inr (Or.inr (Or.inl (by omega)))
    by_cases l3 : (-1) * p - 1 * q = 0
    · exact Or.inr (Or.inr (Or.inr (Or.inl (by omega))))
    by_cases l4 : (-1) * (p - r * 1) - 1 * (q - r * 0) = 0
    · exact Or.inr (Or.inr (Or.inr (Or.inr (by omega))))
    exact Or.inl (by omega)
  · rintro (⟨h1, h2⟩ | ⟨h1, h2, h3⟩ | ⟨h1, h2, h3⟩ | ⟨h1, h2, h3⟩ | ⟨h1, h2, h3⟩) <;> refine ⟨by omega, by omega, by omega, by omega⟩
set_option maxHeartbeats 4000000 in
theorem seg_2_4 {r s p q : Int} (hr : 0 ≤ r) (hs : 0 ≤ s) : segP r s p q 1 0 0 (-1) ↔ segQ r s p q 1 0 0 (-1) := by
  have m1 : min 0 (r * 1) = 0 := by omega
  have m2 : max 0 (r * 1) = r := by omega
  have m3 : min 0 (r * 0) = 0 := by omega
  have m4 : max 0 (r * 0) = 0 := by omega
  have m5 : min p (p + s * 0) = p := by omega
  have m6 : max p (p + s * 0) = p := by omega
  have m7 : min q (q + s * (-1)) = q - s := by omega
  have m8 : max q (q + s * (-1)) = q := by omega
  unfold segP segQ opp one1 rmeet inb
  rw [m1, m2, m3, m4, m5, m6, m7, m8]
  constructor
  · rintro ⟨h1, h2, h3, h4⟩
    by_cases r0 : r = 0
    · exact Or.inr (Or.inr (Or.inr (Or.inl (by omega))))
    by_cases s0 : s = 0
    · exact Or.inr (Or.inl (by omega))
    by_cases l1 : 1 * q - 0 * p = 0
    · exact Or.inr (Or.inl (by omega))
    by_cases l2 : 1 * (q + s * (-1)) - 0 * (p + s * 0) = 0
    · exact Or.inr (Or.inr (Or.inl (by omega)))
    by_cases l3 : (-1) * p - 0 * q = 0
    · exact Or.inr (Or.inr (Or.inr (Or.inl (by omega))))
    by_cases l4 : (-1) * (p - r * 1) - 0 * (q - r * 0) = 0
    · exact Or.inr (Or.inr (Or.inr (Or.inr (by omega))))
    exact Or.inl (by omega)
  · rintro (⟨h1, h2⟩ | ⟨h1, h2, h3⟩ | ⟨h1, h2, h3⟩ | ⟨h1, h2, h3⟩ | ⟨h1, h2, h3⟩) <;> refine ⟨by omega, by omega, by omega, by omega⟩
set_option maxHeartbeats 4000000 in
theorem seg_2_5 {r s p q : Int} (hr : 0 ≤ r) (hs : 0 ≤ s) : segP r s p q 1 0 (-1) (-1) ↔ segQ r s p q 1 0 (-1) (-1) := by
  have m1 : min 0 (r * 1) = 0 := by omega
  have m2 : max 0 (r * 1) = r := by omega
  have m3 : min 0 (r * 0) = 0 := by omega
  have m4 : max 0 (r * 0) = 0 := by omega
  have m5 : min p (p + s * (-1)) = p - s := by omega
  have m6 : max p (p + s * (-1)) = p := by omega
  have m7 : min q (q + s * (-1)) = q - s := by omega
  have m8 : max q (q + s * (-1)) = q := by omega
  unfold segP segQ opp one1 rmeet inb
  rw [m1, m2, m3, m4, m5, m6, m7, m8]
  constructor
  · rintro ⟨h1, h2, h3, h4⟩
    by_cases r0 : r = 0
    · exact Or.inr (Or.inr (Or.inr (Or.inl (by omega))))
    by_cases s0 : s = 0
    · exact Or.inr (Or.inl (by omega))
    by_cases l1 : 1 * q - 0 * p = 0
    · exact Or.inr (Or.inl (by omega))
    by_cases l2 : 1 * (q + s * (-1)) - 0 * (p + s * (-1)) = 0
    · exact Or.inr (Or.inr (Or.inl (by omega)))
    by_cases l3 : (-1) * p - (-1) * q = 0
    · exact Or.inr (Or.inr (Or.inr (Or.inl (by omega))))
    by_cases l4 : (-1) * (p - r * 1) - (-1) * (q - r * 0) = 0
    · exact Or.inr (Or.inr (Or.inr (Or.inr (by omega))))
    exact Or.inl (by omega)
  · rintro (⟨h1, h2⟩ | ⟨h1, h2, h3⟩ | ⟨h1, h2, h3⟩ | ⟨h1, h2, h3⟩ | ⟨h1, h2, h3⟩) <;> refine ⟨by omega, by omega, by omega, by omega⟩
set_option maxHeartbeats 4000000 in
theorem seg_2_6 {r s p q : Int} (hr : 0 ≤ r) (hs : 0 ≤ s) : segP r s p q 1 0 (-1) 0 ↔ segQ r s p q 1 0 (-1) 0 := by
  have m1 : min 0 (r * 1) = 0 := by omega
  have m2 : max 0 (r * 1) = r := by omega
  have m3 : min 0 (r * 0) = 0 := by omega
  have m4 : max 0 (r * 0) = 0 := by omega
  have m5 : min p (p + s * (-1)) = p - s := by omega
  have m6 : max p (p + s * (-1)) = p := by omega
  have m7 : min q (q + s * 0) = q := by omega
  have m8 : max q (q + s * 0) = q := by omega
  unfold segP segQ opp one1 rmeet inb
  rw [m1, m2, m3, m4, m5, m6, m7, m8]
  constructor
  · rintro ⟨h1, h2, h3, h4⟩
    by_cases r0 : r = 0
    · exact Or.inr (Or.inr (Or.inr (Or.inl (by omega))))
    by_cases s0 : s = 0
    · exact Or.inr (Or.inl (by omega))
    have l1 : 1 * q - 0 * p = 0 := by omega
    by_cases i1 : (0 ≤ p ∧ p ≤ r) ∧ (0 ≤ q ∧ q ≤ 0)
    · exact Or.inr (Or.inl (by omega))
    by_cases i2 : (0 ≤ p + s * (-1) ∧ p + s * (-1) ≤ r) ∧ (0 ≤ q + s * 0 ∧ q + s * 0 ≤ 0)
    · exact Or.inr (Or.inr (Or.inl (by omega)))
    exact Or.inr (Or.inr (Or.inr (Or.inl (by omega))))
  · rintro (⟨h1, h2⟩ | ⟨h1, h2, h3⟩ | ⟨h1, h2, h3⟩ | ⟨h1, h2, h3⟩ | ⟨h1, h2, h3⟩) <;> refine ⟨by omega, by omega, by omega, by omega⟩
set_option maxHeartbeats 4000000 in
theorem seg_2_7 {r s p q : Int} (hr : 0 ≤ r) (hs : 0 ≤ s) : segP r s p q 1 0 (-1) 1 ↔ segQ r s p q 1 0 (-1) 1 := by
  have m1 : min 0 (r * 1) = 0 := by omega
  have m2 : max 0 (r * 1) = r := by omega
  have m3 : min 0 (r * 0) = 0 := by omega
  have m4 : max 0 (r * 0) = 0 := by omega
  have m5 : min p (p + s * (-1)) = p - s := by omega
  have m6 : max p (p + s * (-1)) = p := by omega
  have m7 : min q (q + s * 1) = q := by omega
  have m8 : max q (q + s * 1) = q + s := by omega
  unfold segP segQ opp one1 rmeet inb
  rw [m1, m2, m3, m4, m5, m6, m7, m8]
  constructor
  · rintro ⟨h1, h2, h3, h4⟩
    by_cases r0 : r = 0
    · exact Or.inr (Or.inr (Or.inr (Or.inl (by omega))))
    by_cases s0 : s = 0
    · exact Or.inr (Or.inl (by omega))
    by_cases l1 : 1 * q - 0 * p = 0
    · exact Or.inr (Or.inl (by omega))
    by_cases l2 : 1 * (q + s * 1) - 0 * (p + s * (-1)) = 0
    · exact Or.inr (Or.inr (Or.inl (by omega)))
    by_cases l3 : 1 * p - (-1) * q = 0
    · exact Or.inr (Or.inr (Or.inr (Or.inl (by omega))))
    by_cases l4 : 1 * (p - r * 1) - (-1) * (q - r * 0) = 0
    · exact Or.inr (Or.inr (Or.inr (Or.inr (by omega))))
    exact Or.inl (by omega)
  · rintro (⟨h1, h2⟩ | ⟨h1, h2, h3⟩ | ⟨h1, h2, h3⟩ | ⟨h1, h2, h3⟩ | ⟨h1, h2, h3⟩) <;> refine ⟨by omega, by omega, by omega, by omega⟩
set_option maxHeartbeats 4000000 in
theorem seg_3_0 {r s p q : Int} (hr : 0 ≤ r) (hs : 0 ≤ s) : segP r s p q 1 (-1) 0 1 ↔ segQ r s p q 1 (-1) 0 1 := by
  have m1 : min 0 (r * 1) = 0 := by omega
  have m2 : max 0 (r * 1) = r := by omega
  have m3 : min 0 (r * (-1)) = -r := by omega
  have m4 : max 0 (r * (-1)) = 0 := by omega
  have m5 : min p (p + s * 0) = p := by omega
  have m6 : max p (p + s * 0) = p := by omega
  have m7 : min q (q + s * 1) = q := by omega
  have m8 : max q (q + s * 1) = q + s := by omega
  unfold segP segQ opp one1 rmeet inb
  rw [m1, m2, m3, m4, m5, m6, m7, m8]
  constructor
  · rintro ⟨h1, h2, h3, h4⟩
    by_cases r0 : r = 0
    · exact Or.inr (Or.inr (Or.inr (Or.inl (by omega))))
    by_cases s0 : s = 0
    · exact Or.inr (Or.inl (by omega))
    by_cases l1 : 1 * q - (-1) * p = 0
    · exact Or.inr (Or.inl (by omega))
    by_cases l2 : 1 * (q + s * 1) - (-1) * (p + s * 0) = 0
    · exact Or.inr (Or.inr (Or.inl (by omega)))
    by_cases l3 : 1 * p - 0 * q = 0
    · exact Or.inr (Or.inr (Or.inr (Or.inl (by omega))))
    by_cases l4 : 1 * (p - r * 1) - 0 * (q - r * (-1)) = 0
    · exact Or.inr (Or.inr (Or.inr (Or.inr (by omega))))
    exact Or.inl (by omega)
  · rintro (⟨h1, h2⟩ | ⟨h1, h2, h3⟩ | ⟨h1, h2, h3⟩ | ⟨h1, h2, h3⟩ | ⟨h1, h2, h3⟩) <;> refine ⟨by omega, by omega, by omega, by omega⟩
set_option maxHeartbeats 4000000 in
theorem seg_3_1 {r s p q : Int} (hr : 0 ≤ r) (hs : 0 ≤ s) : segP r s p q 1 (-1) 1 1 ↔ segQ r s p q 1 (-1) 1 1 := by
  have m1 : min 0 (r * 1) = 0 := by omega
  have m2 : max 0 (r * 1) = r := by omega
  have m3 : min 0 (r * (-1)) = -r := by omega
  have m4 : max 0 (r * (-1)) = 0 := by omega
  have m5 : min p (p + s * 1) = p := by omega
  have m6 : max p (p + s * 1) = p + s := by omega
  have m7 : min q (q + s * 1) = q := by omega
  have m8 : max q (q + s * 1) = q + s := by omega
  unfold segP segQ opp one1 rmeet inb
  rw [m1, m2, m3, m4, m5, m6, m7, m8]
  constructor
  · rintro ⟨h1, h2, h3, h4⟩
    by_cases r0 : r = 0
    · exact Or.inr (Or.inr (Or.inr (Or.inl (by omega))))
    by_cases s0 : s = 0
    · exact Or.inr (Or.inl (by omega))
    by_cases l1 : 1 * q - (-1) * p = 0
    · exact Or.inr (Or.inl (by omega))
    by_cases l2 : 1 * (q + s * 1) - (-1) * (p + s * 1) = 0
    · exact Or.inr (Or.inr (Or.inl (by omega)))
    by_cases l3 : 1 * p - 1 * q = 0
    · exact Or.inr (Or.inr (Or.inr (Or.inl (by omega))))
    by_cases l4 : 1 * (p - r * 1) - 1 * (q - r * (-1)) = 0
    · exact Or.inr (Or.inr (Or.inr (Or.inr (by omega))))
    exact Or.inl (by omega)
  · rintro (⟨h1, h2⟩ | ⟨h1, h2, h3⟩ | ⟨h1, h2, h3⟩ | ⟨h1, h2, h3⟩ | ⟨h1, h2, h3⟩) <;> refine ⟨by omega, by omega, by omega, by omega⟩
set_option maxHeartbeats 4000000 in
theorem seg_3_2 {r s p q : Int} (hr : 0 ≤ r) (hs : 0 ≤ s) : segP r s p q 1 (-1) 1 0 ↔ segQ r s p q 1 (-1) 1 0 := by
  have m1 : min 0 (r * 1) = 0 := by omega
  have m2 : max 0 (r * 1) = r := by omega
  have m3 : min 0 (r * (-1)) = -r := by omega
  have m4 : max 0 (r * (-1)) = 0 := by omega
  have m5 : min p (p + s * 1) = p := by omega
  have m6 : max p (p + s * 1) = p + s := by omega
  have m7 : min q (q + s * 0) = q := by omega
  have m8 : max q (q + s * 0) = q := by omega
  unfold segP segQ opp one1 rmeet inb
  rw [m1, m2, m3, m4, m5, m6, m7, m8]
  constructor
  · rintro ⟨h1, h2, h3, h4⟩
    by_cases r0 : r = 0
    · exact Or.inr (Or.inr (Or.inr (Or.inl (by omega))))
    by_cases s0 : s = 0
    · exact Or.inr (Or.inl (by omega))
    by_cases l1 : 1 * q - (-1) * p = 0
    · exact Or.inr (Or.inl (by omega))
    by_cases l2 : 1 * (q + s * 0) - (-1) * (p + s * 1) = 0
    · exact Or.inr (Or.inr (Or.inl (by omega)))
    by_cases l3 : 0 * p - 1 * q = 0
    · exact Or.inr (Or.inr (Or.inr (Or.inl (by omega))))
    by_cases l4 : 0 * (p - r * 1) - 1 * (q - r * (-1)) = 0
    · exact Or.inr (Or.inr (Or.inr (Or.inr (by omega))))
    exact Or.inl (by omega)
  · rintro (⟨h1, h2⟩ | ⟨h1, h2, h3⟩ | ⟨h1, h2, h3⟩ | ⟨h1, h2, h3⟩ | ⟨h1, h2, h3⟩) <;> refine ⟨by omega, by omega, by omega, by omega⟩
set_option maxHeartbeats 4000000 in
theorem seg_3_3 {r s p q : Int} (hr : 0 ≤ r) (hs : 0 ≤ s) : segP r s p q 1 (-1) 1 (-1) ↔ segQ r s p q 1 (-1) 1 (-1) := by
  have m1 : min 0 (r * 1) = 0 := by omega
  have m2 : max 0 (r * 1) = r := by omega
  have m3 : min 0 (r * (-1)) = -r := by omega
  have m4 : max 0 (r * (-1)) = 0 := by omega
  have m5 : min p (p + s * 1) = p := by omega
  have m6 : max p (p + s * 1) = p + s := by omega
  have m7 : min q (q + s * (-1)) = q - s := by omega
  have m8 : max q (q + s * (-1)) = q := by omega
  unfold segP segQ opp one1 rmeet inb
  rw [m1, m2, m3, m4, m5, m6, m7, m8]
  constructor
  · rintro ⟨h1, h2, h3, h4⟩
    by_cases r0 : r = 0
    · exact Or.inr (Or.inr (Or.inr (Or.inl (by omega))))
    by_cases s0 : s = 0
    · exact Or.inr (Or.inl (by omega))
    have l1 : 1 * q - (-1) * p = 0 := by omega
    by_cases i1 : (0 ≤ p ∧ p ≤ r) ∧ (-r ≤ q ∧ q ≤ 0)
    · exact Or.inr (Or.inl (by omega))
    by_cases i2 : (0 ≤ p + s * 1 ∧ p + s * 1 ≤ r) ∧ (-r ≤ q + s * (-1) ∧ q + s * (-1) ≤ 0)
    · exact Or.inr (Or.inr (Or.inl (by omega)))
    exact Or.inr (Or.inr (Or.inr (Or.inl (by omega))))
  · rintro (⟨h1, h2⟩ | ⟨h1, h2, h3⟩ | ⟨h1, h2, h3⟩ | ⟨h1, h2, h3⟩ | ⟨h1, h2, h3⟩) <;> refine ⟨by omega, by omega, by omega, by omega⟩
set_option maxHeartbeats 4000000 in
theorem seg_3_4 {r s p q : Int} (hr : 0 ≤ r) (hs : 0 ≤ s) : segP r s p q 1 (-1) 0 (-1) ↔ segQ r s p q 1 (-1) 0 (-1) := by
  have m1 : min 0 (r * 1) = 0 := by omega
  have m2 : max 0 (r * 1) = r := by omega
  have m3 : min 0 (r * (-1)) = -r := by omega
  have m4 : max 0 (r * (-1)) = 0 := by omega
  have m5 : min p (p + s * 0) = p := by omega
  have m6 : max p (p + s * 0) = p := by omega
  have m7 : min q (q + s * (-1)) = q - s := by omega
  have m8 : max q (q + s * (-1)) = q := by omega
  unfold segP segQ opp one1 rmeet inb
  rw [m1, m2, m3, m4, m5, m6, m7, m8]
  constructor
  · rintro ⟨h1, h2, h3, h4⟩
    by_cases r0 : r = 0
    · exact Or.inr (Or.inr (Or.inr (Or.inl (by omega))))
    by_cases s0 : s = 0
    · exact Or.inr (Or.inl (by omega))
    by_cases l1 : 1 * q - (-1) * p = 0
    · exact Or.inr (Or.inl (by omega))
    by_cases l2 : 1 * (q + s * (-1)) - (-1) * (p + s * 0) = 0
    · exact Or.inr (Or.inr (Or.inl (by omega)))
    by_cases l3 : (-1) * p - 0 * q = 0
    · exact Or.inr (Or.inr (Or.inr (Or.inl (by omega))))
    by_cases l4 : (-1) * (p - r * 1) - 0 * (q - r * (-1)) = 0
    · exact Or.inr (Or.inr (Or.inr (Or.inr (by omega))))
    exact Or.inl (by omega)
  · rintro (⟨h1, h2⟩ | ⟨h1, h2, h3⟩ | ⟨h1, h2, h3⟩ | ⟨h1, h2, h3⟩ | ⟨h1, h2, h3⟩) <;> refine ⟨by omega, by omega, by omega, by omega⟩
set_option maxHeartbeats 4000000 in
theorem seg_3_5 {r s p q : Int} (hr : 0 ≤ r) (hs : 0 ≤ s) : segP r s p q 1 (-1) (-1) (-1) ↔ segQ r s p q 1 (-1) (-1) (-1) := by
  have m1 : min 0 (r * 1) = 0 := by omega
  have m2 : max 0 (r * 1) = r := by omega
  have m3 : min 0 (r * (-1)) = -r := by omega
  have m4 : max 0 (r * (-1)) = 0 := by omega
  have m5 : min p (p + s * (-1)) = p - s := by omega
  have m6 : max p (p + s * (-1)) = p := by omega
  have m7 : min q (q + s * (-1)) = q - s := by omega
  have m8 : max q (q + s * (-1)) = q := by omega
  unfold segP segQ opp one1 rmeet inb
  rw [m1, m2, m3, m4, m5, m6, m7, m8]
  constructor
  · rintro ⟨h1, h2, h3, h4⟩
    by_cases r0 : r = 0
    · exact Or.inr (Or.inr (Or.inr (Or.inl (by omega))))
    by_cases s0 : s = 0
    · exact Or.inr (Or.inl (by omega))
    by_cases l1 : 1 * q - (-1) * p = 0
    · exact Or.inr (Or.inl (by omega))
    by_cases l2 : 1 * (q + s * (-1)) - (-1) * (p + s * (-1)) = 0
    · exact Or.inr (Or.inr (Or.inl (by omega)))
    by_cases l3 : (-1) * p - (-1) * q = 0
    · exact Or.inr (Or.inr (Or.inr (Or.inl (by omega))))
    by_cases l4 : (-1) * (p - r * 1) - (-1) * (q - r * (-1)) = 0
    · exact Or.inr (Or.inr (Or.inr (Or.inr (by omega))))
    exact Or.inl (by omega)
  · rintro (⟨h1, h2⟩ | ⟨h1, h2, h3⟩ | ⟨h1, h2, h3⟩ | ⟨h1, h2, h3⟩ | ⟨h1, h2, h3⟩) <;> refine ⟨by omega, by omega, by omega, by omega⟩
set_option maxHeartbeats 4000000 in
theorem seg_3_6 {r s p q : Int} (hr : 0 ≤ r) (hs : 0 ≤ s) : segP r s p q 1 (-1) (-1) 0 ↔ segQ r s p q 1 (-1) (-1) 0 := by
  have m1 : min 0 (r * 1) = 0 := by omega
  have m2 : max 0 (r * 1) = r := by omega
  have m3 : min 0 (r * (-1)) = -r := by omega
  have m4 : max 0 (r * (-1)) = 0 := by omega
  have m5 : min p (p + s * (-1)) = p - s := by omega
  have m6 : max p (p + s * (-1)) = p := by omega
  have m7 : min q (q + s * 0) = q := by omega
  have m8 : max q (q + s * 0) = q := by omega
  unfold segP segQ opp one1 rmeet inb
  rw [m1, m2, m3, m4, m5, m6, m7, m8]
  constructor
  · rintro ⟨h1, h2, h3, h4⟩
    by_cases r0 : r = 0
    · exact Or.inr (Or.inr (Or.inr (Or.inl (by omega))))
    by_cases s0 : s = 0
    · exact Or.inr (Or.inl (by omega))
    by_cases l1 : 1 * q - (-1) * p = 0
    · exact Or.inr (Or.inl (by omega))
    by_cases l2 : 1 * (q + s * 0) - (-1) * (p + s * (-1)) = 0
    · exact Or.inr (Or.inr (Or.inl (by omega)))
    by_cases l3 : 0 * p - (-1) * q = 0
    · exact Or.inr (Or.inr (Or.inr (Or.inl (by omega))))
    by_cases l4 : 0 * (p - r * 1) - (-1) * (q - r * (-1)) = 0
    · exact Or.inr (Or.inr (Or.inr (Or.inr (by omega))))
    exact Or.inl (by omega)
  · rintro (⟨h1, h2⟩ | ⟨h1, h2, h3⟩ | ⟨h1, h2, h3⟩ | ⟨h1, h2, h3⟩ | ⟨h1, h2, h3⟩) <;> refine ⟨by omega, by omega, by omega, by omega⟩
set_option maxHeartbeats 4000000 in
theorem seg_3_7 {r s p q : Int} (hr : 0 ≤ r) (hs : 0 ≤ s) : segP r s p q 1 (-1) (-1) 1 ↔ segQ r s p q 1 (-1) (-1) 1 := by
  have m1 : min 0 (r * 1) = 0 := by omega
  have m2 : max 0 (r * 1) = r := by omega
  have m3 : min 0 (r * (-1)) = -r := by omega
  have m4 : max 0 (r * (-1)) = 0 := by omega
  have m5 : min p (p + s * (-1)) = p - s := by omega
  have m6 : max p (p + s * (-1)) = p := by omega
  have m7 : min q (q + s * 1) = q := by omega
  have m8 : max q (q + s * 1) = q + s := by omega
  unfold segP segQ opp one1 rmeet inb
  rw [m1, m2, m3, m4, m5, m6, m7, m8]
  constructor
  · rintro ⟨h1, h2, h3, h4⟩
    by_cases r0 : r = 0
    · exact Or.inr (Or.inr (Or.inr (Or.inl (by omega))))
    by_cases s0 : s = 0
    · exact Or.inr (Or.inl (by omega))
    have l1 : 1 * q - (-1) * p = 0 := by omega
    by_cases i1 : (0 ≤ p ∧ p ≤ r) ∧ (-r ≤ q ∧ q ≤ 0)
    · exact Or.inr (Or.inl (by omega))
    by_cases i2 : (0 ≤ p + s * (-1) ∧ p + s * (-1) ≤ r) ∧ (-r ≤ q + s * 1 ∧ q + s * 1 ≤ 0)
    · exact Or.inr (Or.inr (Or.inl (by omega)))
    exact Or.inr (Or.inr (Or.inr (Or.inl (by omega))))
  · rintro (⟨h1, h2⟩ | ⟨h1, h2, h3⟩ | ⟨h1, h2, h3⟩ | ⟨h1, h2, h3⟩ | ⟨h1, h2, h3⟩) <;> refine ⟨by omega, by omega, by omega, by omega⟩
set_option maxHeartbeats 4000000 in
theorem seg_4_0 {r s p q : Int} (hr : 0 ≤ r) (hs : 0 ≤ s) : segP r s p q 0 (-1) 0 1 ↔ segQ r s p q 0 (-1) 0 1 := by
  have m1 : min 0 (r * 0) = 0 := by omega
  have m2 : max 0 (r * 0) = 0 := by omega
  have m3 : min 0 (r * (-1)) = -r := by omega
  have m4 : max 0 (r * (-1)) = 0 := by omega
  have m5 : min p (p + s * 0) = p := by omega
  have m6 : max p (p + s * 0) = p := by omega
  have m7 : min q (q + s * 1) = q := by omega
  have m8 : max q (q + s * 1) = q + s := by omega
  unfold segP segQ opp one1 rmeet inb
  rw [m1, m2, m3, m4, m5, m6, m7, m8]
  constructor
  · rintro ⟨h1, h2, h3, h4⟩
    by_cases r0 : r = 0
    · exact Or.inr (Or.inr (Or.inr (Or.inl (by omega))))
    by_cases s0 : s = 0
    · exact Or.inr (Or.inl (by omega))
    have l1 : 0 * q - (-1) * p = 0 := by omega
    by_cases i1 : (0 ≤ p ∧ p ≤ 0) ∧ (-r ≤ q ∧ q ≤ 0)
    · exact Or.inr (Or.inl (by omega))
    by_cases i2 : (0 ≤ p + s * 0 ∧ p + s * 0 ≤ 0) ∧ (-r ≤ q + s * 1 ∧ q + s * 1 ≤ 0)
    · exact Or.inr (Or.inr (Or.inl (by omega)))
    exact Or.inr (Or.inr (Or.inr (Or.inl (by omega))))
  · rintro (⟨h1, h2⟩ | ⟨h1, h2, h3⟩ | ⟨h1, h2, h3⟩ | ⟨h1, h2, h3⟩ | ⟨h1, h2, h3⟩) <;> refine ⟨by omega, by omega, by omega, by omega⟩
set_option maxHeartbeats 4000000 in
theorem seg_4_1 {r s p q : Int} (hr : 0 ≤ r) (hs : 0 ≤ s) : segP r s p q 0 (-1) 1 1 ↔ segQ r s p q 0 (-1) 1 1 := by
  have m1 : min 0 (r * 0) = 0 := by omega
  have m2 : max 0 (r * 0) = 0 := by omega
  have m3 : min 0 (r * (-1)) = -r := by omega
  have m4 : max 0 (r * (-1)) = 0 := by omega
  have m5 : min p (p + s * 1) = p := by omega
  have m6 : max p (p + s * 1) = p + s := by omega
  have m7 : min q (q + s * 1) = q := by omega
  have m8 : max q (q + s * 1) = q + s := by omega
  unfold segP segQ opp one1 rmeet inb
  rw [m1, m2, m3, m4, m5, m6, m7, m8]
  constructor
  · rintro ⟨h1, h2, h3, h4⟩
    by_cases r0 : r = 0
    · exact Or.inr (Or.inr (Or.inr (Or.inl (by omega))))
    by_cases s0 : s = 0
    · exact Or.inr (Or.inl (by omega))
    by_cases l1 : 0 * q - (-1) * p = 0
    · exact Or.inr (Or.inl (by omega))
    by_cases l2 : 0 * (q + s * 1) - (-1) * (p + s * 1) = 0
    · exact Or.inr (Or.inr (Or.inl (by omega)))
    by_cases l3 : 1 * p - 1 * q = 0
    · exact Or.inr (Or.inr (Or.inr (Or.inl (by omega))))
    by_cases l4 : 1 * (p - r * 0) - 1 * (q - r * (-1)) = 0
    · exact Or.inr (Or.inr (Or.inr (Or.inr (by omega))))
    exact Or.inl (by omega)
  · rintro (⟨h1, h2⟩ | ⟨h1, h2, h3⟩ | ⟨h1, h2, h3⟩ | ⟨h1, h2, h3⟩ | ⟨h1, h2, h3⟩) <;> refine ⟨by omega, by omega, by omega, by omega⟩
set_option maxHeartbeats 4000000 in
theorem seg_4_2 {r s p q : Int} (hr : 0 ≤ r) (hs : 0 ≤ s) : segP r s p q 0 (-1) 1 0 ↔ segQ r s p q 0 (-1) 1 0 := by
  have m1 : min 0 (r * 0) = 0 := by omega
  have m2 : max 0 (r * 0) = 0 := by omega
  have m3 : min 0 (r * (-1)) = -r := by omega
  have m4 : max 0 (r * (-1)) = 0 := by omega
  have m5 : min p (p + s * 1) = p := by omega
  have m6 : max p (p + s * 1) = p + s := by omega
  have m7 : min q (q + s * 0) = q := by omega
  have m8 : max q (q + s * 0) = q := by omega
  unfold segP segQ opp one1 rmeet inb
  rw [m1, m2, m3, m4, m5, m6, m7, m8]
  constructor
  · rintro ⟨h1, h2, h3, h4⟩
    by_cases r0 : r = 0
    · exact Or.inr (Or.inr (Or.inr (Or.inl (by omega))))
    by_cases s0 : s = 0
    · exact Or.inr (Or.inl (by omega))
    by_cases l1 : 0 * q - (-1) * p = 0
    · exact Or.inr (Or.inl (by omega))
    by_cases l2 : 0 * (q + s * 0) - (-1) * (p + s * 1) = 0
    · exact Or.inr (Or.inr (Or.inl (by omega)))
    by_cases l3 : 0 * p - 1 * q = 0
    · exact Or.inr (Or.inr (Or.inr (Or.inl (by omega))))
    by_cases l4 : 0 * (p - r * 0) - 1 * (q - r * (-1)) = 0
    · exact Or.inr (Or.inr (Or.inr (Or.inr (by omega))))
    exact Or.inl (by omega)
  · rintro (⟨h1, h2⟩ | ⟨h1, h2, h3⟩ | ⟨h1, h2, h3⟩ | ⟨h1, h2, h3⟩ | ⟨h1, h2, h3⟩) <;> refine ⟨by omega, by omega, by omega, by omega⟩
set_option maxHeartbeats 4000000 in
theorem seg_4_3 {r s p q : Int} (hr : 0 ≤ r) (hs : 0 ≤ s) : segP r s p q 0 (-1) 1 (-1) ↔ segQ r s p q 0 (-1) 1 (-1) := by
  have m1 : min 0 (r * 0) = 0 := by omega
  have m2 : max 0 (r * 0) = 0 := by omega
  have m3 : min 0 (r * (-1)) = -r := by omega
  have m4 : max 0 (r * (-1)) = 0 := by omega
  have m5 : min p (p + s * 1) = p := by omega
  have m6 : max p (p + s * 1) = p + s := by omega
  have m7 : min q (q + s * (-1)) = q - s := by omega
  have m8 : max q (q + s * (-1)) = q := by omega
  unfold segP segQ opp one1 rmeet inb
  rw [m1, m2, m3, m4, m5, m6, m7, m8]
  constructor
  · rintro ⟨h1, h2, h3, h4⟩
    by_cases r0 : r = 0
    · exact Or.inr (Or.inr (Or.inr (Or.inl (by omega))))
    by_cases s0 : s = 0
    · exact Or.inr (Or.inl (by omega))
    by_cases l1 : 0 * q - (-1) * p = 0
    · exact Or.inr (Or.inl (by omega))
    by_cases l2 : 0 * (q + s * (-1)) - (-1) * (p + s * 1) = 0
    · exact Or.inr (Or.inr (Or.inl (by omega)))
    by_cases l3 : (-1) * p - 1 * q = 0
    · exact Or.inr (Or.inr (Or.inr (Or.inl (by omega))))
    by_cases l4 : (-1) * (p - r * 0) - 1 * (q - r * (-1)) = 0
    · exact Or.inr (Or.inr (Or.inr (Or.inr (by omega))))
    exact Or.inl (by omega)
  · rintro (⟨h1, h2⟩ | ⟨h1, h2, h3⟩ | ⟨h1, h2, h3⟩ | ⟨h1, h2, h3⟩ | ⟨h1, h2, h3⟩) <;> refine ⟨by omega, by omega, by omega, by omega⟩
set_option maxHeartbeats 4000000 in
theorem seg_4_4 {r s p q : Int} (hr : 0 ≤ r) (hs : 0 ≤ s) : segP r s p q 0 (-1) 0 (-1) ↔ segQ r s p q 0 (-1) 0 (-1) := by
  have m1 : min 0 (r * 0) = 0 := by omega
  have m2 : max 0 (r * 0) = 0 := by omega
  have m3 : min 0 (r * (-1)) = -r := by omega
  have m4 : max 0 (r * (-1)) = 0 := by omega
  have m5 : min p (p + s * 0) = p := by omega
  have m6 : max p (p + s * 0) = p := by omega
  have m7 : min q (q + s * (-1)) = q - s := by omega
  have m8 : max q (q + s * (-1)) = q := by omega
  unfold segP segQ opp one1 rmeet inb
  rw [m1, m2, m3, m4, m5, m6, m7, m8]
  constructor
  · rintro ⟨h1, h2, h3, h4⟩
    by_cases r0 : r = 0
    · exact Or.inr (Or.inr (Or.inr (Or.inl (by omega))))
    by_cases s0 : s = 0
    · exact Or.inr (Or.inl (by omega))
    have l1 : 0 * q - (-1) * p = 0 := by omega
    by_cases i1 : (0 ≤ p ∧ p ≤ 0) ∧ (-r ≤ q ∧ q ≤ 0)
    · exact Or.inr (Or.inl (by omega))
    by_cases i2 : (0 ≤ p + s * 0 ∧ p + s * 0 ≤ 0) ∧ (-r ≤ q + s * (-1) ∧ q + s * (-1) ≤ 0)
    · exact Or.inr (Or.inr (Or.inl (by omega)))
    exact Or.inr (Or.inr (Or.inr (Or.inl (by omega))))
  · rintro (⟨h1, h2⟩ | ⟨h1, h2, h3⟩ | ⟨h1, h2, h3⟩ | ⟨h1, h2, h3⟩ | ⟨h1, h2, h3⟩) <;> refine ⟨by omega, by omega, by omega, by omega⟩
set_option maxHeartbeats 4000000 in
theorem seg_4_5 {r s p q : Int} (hr : 0 ≤ r) (hs : 0 ≤ s) : segP r s p q 0 (-1) (-1) (-1) ↔ segQ r s p q 0 (-1) (-1) (-1) := by
  have m1 : min 0 (r * 0) = 0 := by omega
  have m2 : max 0 (r * 0) = 0 := by omega
  have m3 : min 0 (r * (-1)) = -r := by omega
  have m4 : max 0 (r * (-1)) = 0 := by omega
  have m5 : min p (p + s * (-1)) = p - s := by omega
  have m6 : max p (p + s * (-1)) = p := by omega
  have m7 : min q (q + s * (-1)) = q - s := by omega
  have m8 : max q (q + s * (-1)) = q := by omega
  unfold segP segQ opp one1 rmeet inb
  rw [m1, m2, m3, m4, m5, m6, m7, m8]
  constructor
  · rintro ⟨h1, h2, h3, h4⟩
    by_cases r0 : r = 0
    · exact Or.inr (Or.inr (Or.inr (Or.inl (by omega))))
    by_cases s0 : s = 0
    · exact Or.inr (Or.inl (by omega))
    by_cases l1 : 0 * q - (-1) * p = 0
    · exact Or.inr (Or.inl (by omega))
    by_cases l2 : 0 * (q + s * (-1)) - (-1) * (p + s * (-1)) = 0
    · exact Or.inr (Or.inr (Or.inl (by omega)))
    by_cases l3 : (-1) * p - (-1) * q = 0
    · exact Or.inr (Or.inr (Or.inr (Or.inl (by omega))))
    by_cases l4 : (-1) * (p - r * 0) - (-1) * (q - r * (-1)) = 0
    · exact Or.inr (Or.inr (Or.inr (Or.inr (by omega))))
    exact Or.inl (by omega)
  · rintro (⟨h1, h2⟩ | ⟨h1, h2, h3⟩ | ⟨h1, h2, h3⟩ | ⟨h1, h2, h3⟩ | ⟨h1, h2, h3⟩) <;> refine ⟨by omega, by omega, by omega, by omega⟩
set_option maxHeartbeats 4000000 in
theorem seg_4_6 {r s p q : Int} (hr : 0 ≤ r) (hs : 0 ≤ s) : segP r s p q 0 (-1) (-1) 0 ↔ segQ r s p q 0 (-1) (-1) 0 := by
  have m1 : min 0 (r * 0) = 0 := by omega
  have m2 : max 0 (r * 0) = 0 := by omega
  have m3 : min 0 (r * (-1)) = -r := by omega
  have m4 : max 0 (r * (-1)) = 0 := by omega
  have m5 : min p (p + s * (-1)) = p - s := by omega
  have m6 : max p (p + s * (-1)) = p := by omega
  have m7 : min q (q + s * 0) = q := by omega
  have m8 : max q (q + s * 0) = q := by omega
  unfold segP segQ opp one1 rmeet inb
  rw [m1, m2, m3, m4, m5, m6, m7, m8]
  constructor
  · rintro ⟨h1, h2, h3, h4⟩
    by_cases r0 : r = 0
    · exact Or.inr (Or.inr (Or.inr (Or.inl (by omega))))
    by_cases s0 : s = 0
    · exact Or.inr (Or.inl (by omega))
    by_cases l1 : 0 * q - (-1) * p = 0
    · exact Or.inr (Or.inl (by omega))
    by_cases l2 : 0 * (q + s * 0) - (-1) * (p + s * (-1)) = 0
    · exact Or.inr (Or.inr (Or.inl (by omega)))
    by_cases l3 : 0 * p - (-1) * q = 0
    · exact Or.inr (Or.inr (Or.inr (Or.inl (by omega))))
    by_cases l4 : 0 * (p - r * 0) - (-1) * (q - r * (-1)) = 0
    · exact Or.inr (Or.inr (Or.inr (Or.inr (by omega))))
    exact Or.inl (by omega)
  · rintro (⟨h1, h2⟩ | ⟨h1, h2, h3⟩ | ⟨h1, h2, h3⟩ | ⟨h1, h2, h3⟩ | ⟨h1, h2, h3⟩) <;> refine ⟨by omega, by omega, by omega, by omega⟩
set_option maxHeartbeats 4000000 in
theorem seg_4_7 {r s p q : Int} (hr : 0 ≤ r) (hs : 0 ≤ s) : segP r s p q 0 (-1) (-1) 1 ↔ segQ r s p q 0 (-1) (-1) 1 := by
  have m1 : min 0 (r * 0) = 0 := by omega
  have m2 : max 0 (r * 0) = 0 := by omega
  have m3 : min 0 (r * (-1)) = -r := by omega
  have m4 : max 0 (r * (-1)) = 0 := by omega
  have m5 : min p (p + s * (-1)) = p - s := by omega
  have m6 : max p (p + s * (-1)) = p := by omega
  have m7 : min q (q + s * 1) = q := by omega
  have m8 : max q (q + s * 1) = q + s := by omega
  unfold segP segQ opp one1 rmeet inb
  rw [m1, m2, m3, m4, m5, m6, m7, m8]
  constructor
  · rintro ⟨h1, h2, h3, h4⟩
    by_cases r0 : r = 0
    · exact Or.inr (Or.inr (Or.inr (Or.inl (by omega))))
    by_cases s0 : s = 0
    · exact Or.inr (Or.inl (by omega))
    by_cases l1 : 0 * q - (-1) * p = 0
    · exact Or.inr (Or.inl (by omega))
    by_cases l2 : 0 * (q + s * 1) - (-1) * (p + s * (-1)) = 0
    · exact Or.inr (Or.inr (Or.inl (by omega)))
    by_cases l3 : 1 * p - (-1) * q = 0
    · exact Or.inr (Or.inr (Or.inr (Or.inl (by omega))))
    by_cases l4 : 1 * (p - r * 0) - (-1) * (q - r * (-1)) = 0
    · exact Or.inr (Or.inr (Or.inr (Or.inr (by omega))))
    exact Or.inl (by omega)
  · rintro (⟨h1, h2⟩ | ⟨h1, h2, h3⟩ | ⟨h1, h2, h3⟩ | ⟨h1, h2, h3⟩ | ⟨h1, h2, h3⟩) <;> refine ⟨by omega, by omega, by omega, by omega⟩
set_option maxHeartbeats 4000000 in
theorem seg_5_0 {r s p q : Int} (hr : 0 ≤ r) (hs : 0 ≤ s) : segP r s p q (-1) (-1) 0 1 ↔ segQ r s p q (-1) (-1) 0 1 := by
  have m1 : min 0 (r * (-1)) = -r := by omega
  have m2 : max 0 (r * (-1)) = 0 := by omega
  have m3 : min p (p + s * 0) = p := by omega
  have m4 : max p (p + s * 0) = p := by omega
  have m5 : min q (q + s * 1) = q := by omega
  have m6 : max q (q + s * 1) = q + s := by omega
  unfold segP segQ opp one1 rmeet inb
  rw [m1, m2, m3, m4, m5, m6]
  constructor
  · rintro ⟨h1, h2, h3, h4⟩
    by_cases r0 : r = 0
    · exact Or.inr (Or.inr (Or.inr (Or.inl (by omega))))
    by_cases s0 : s = 0
    · exact Or.inr (Or.inl (by omega))
    by_cases l1 : (-1) * q - (-1) * p = 0
    · exact Or.inr (Or.inl (by omega))
    by_cases l2 : (-1) * (q + s * 1) - (-1) * (p + s * 0) = 0
    · exact Or.inr (Or.inr (Or.inl (by omega)))
    by_cases l3 : 1 * p - 0 * q = 0
    · exact Or.inr (Or.inr (Or.inr (Or.inl (by omega))))
    by_cases l4 : 1 * (p - r * (-1)) - 0 * (q - r * (-1)) = 0
    · exact Or.inr (Or.inr (Or.inr (Or.inr (by omega))))
    exact Or.inl (by omega)
  · rintro (⟨h1, h2⟩ | ⟨h1, h2, h3⟩ | ⟨h1, h2, h3⟩ | ⟨h1, h2, h3⟩ | ⟨h1, h2, h3⟩) <;> refine ⟨by omega, by omega, by omega, by omega⟩
set_option maxHeartbeats 4000000 in
theorem seg_5_1 {r s p q : Int} (hr : 0 ≤ r) (hs : 0 ≤ s) : segP r s p q (-1) (-1) 1 1 ↔ segQ r s p q (-1) (-1) 1 1 := by
  have m1 : min 0 (r * (-1)) = -r := by omega
  have m2 : max 0 (r * (-1)) = 0 := by omega
  have m3 : min p (p + s * 1) = p := by omega
  have m4 : max p (p + s * 1) = p + s := by omega
  have m5 : min q (q + s * 1) = q := by omega
  have m6 : max q (q + s * 1) = q + s := by omega
  unfold segP segQ opp one1 rmeet inb
  rw [m1, m2, m3, m4, m5, m6]
  constructor
  · rintro ⟨h1, h2, h3, h4⟩
    by_cases r0 : r = 0
    · exact Or.inr (Or.inr (Or.inr (Or.inl (by omega))))
    by_cases s0 : s = 0
    · exact Or.inr (Or.inl (by omega))
    have l1 : (-1) * q - (-1) * p = 0 := by omega
    by_cases i1 : (-r ≤ p ∧ p ≤ 0) ∧ (-r ≤ q ∧ q ≤ 0)
    · exact Or.inr (Or.inl (by omega))
    by_cases i2 : (-r ≤ p + s * 1 ∧ p + s * 1 ≤ 0) ∧ (-r ≤ q + s * 1 ∧ q + s * 1 ≤ 0)
    · exact Or.inr (Or.inr (Or.inl (by omega)))
    exact Or.inr (Or.inr (Or.inr (Or.inl (by omega))))
  · rintro (⟨h1, h2⟩ | ⟨h1, h2, h3⟩ | ⟨h1, h2, h3⟩ | ⟨h1, h2, h3⟩ | ⟨h1, h2, h3⟩) <;> refine ⟨by omega, by omega, by omega, by omega⟩
set_option maxHeartbeats 4000000 in
theorem seg_5_2 {r s p q : Int} (hr : 0 ≤ r) (hs : 0 ≤ s) : segP r s p q (-1) (-1) 1 0 ↔ segQ r s p q (-1) (-1) 1 0 := by
  have m1 : min 0 (r * (-1)) = -r := by omega
  have m2 : max 0 (r * (-1)) = 0 := by omega
  have m3 : min p (p + s * 1) = p := by omega
  have m4 : max p (p + s * 1) = p + s := by omega
  have m5 : min q (q + s * 0) = q := by omega
  have m6 : max q (q + s * 0) = q := by omega
  unfold segP segQ opp one1 rmeet inb
  rw [m1, m2, m3, m4, m5, m6]
  constructor
  · rintro ⟨h1, h2, h3, h4⟩
    by_cases r0 : r = 0
    · exact Or.inr (Or.inr (Or.inr (Or.inl (by omega))))
    by_cases s0 : s = 0
    · exact Or.inr (Or.inl (by omega))
    by_cases l1 : (-1) * q - (-1) * p = 0
    · exact Or.inr (Or.inl (by omega))
    by_cases l2 : (-1) * (q + s * 0) - (-1) * (p + s * 1) = 0
    · exact Or.inr (Or.inr (Or.inl (by omega)))
    by_cases l3 : 0 * p - 1 * q = 0
    · exact Or.inr (Or.inr (Or.inr (Or.inl (by omega))))
    by_cases l4 : 0 * (p - r * (-1)) - 1 * (q - r * (-1)) = 0
    · exact Or.inr (Or.inr (Or.inr (Or.inr (by omega))))
    exact Or.inl (by omega)
  · rintro (⟨h1, h2⟩ | ⟨h1, h2, h3⟩ | ⟨h1, h2, h3⟩ | ⟨h1, h2, h3⟩ | ⟨h1, h2, h3⟩) <;> refine ⟨by omega, by omega, by omega, by omega⟩
set_option maxHeartbeats 4000000 in
theorem seg_5_3 {r s p q : Int} (hr : 0 ≤ r) (hs : 0 ≤ s) : segP r s p q (-1) (-1) 1 (-1) ↔ segQ r s p q (-1) (-1) 1 (-1) := by
  have m1 : min 0 (r * (-1)) = -r := by omega
  have m2 : max 0 (r * (-1)) = 0 := by omega
  have m3 : min p (p + s * 1) = p := by omega
  have m4 : max p (p + s * 1) = p + s := by omega
  have m5 : min q (q + s * (-1)) = q - s := by omega
  have m6 : max q (q + s * (-1)) = q := by omega
  unfold segP segQ opp one1 rmeet inb
  rw [m1, m2, m3, m4, m5, m6]
  constructor
  · rintro ⟨h1, h2, h3, h4⟩
    by_cases r0 : r = 0
    · exact Or.inr (Or.inr (Or.inr (Or.inl (by omega))))
    by_cases s0 : s = 0
    · exact Or.inr (Or.inl (by omega))
    by_cases l1 : (-1) * q - (-1) * p = 0
    · exact Or.inr (Or.inl (by omega))
    by_cases l2 : (-1) * (q + s * (-1)) - (-1) * (p + s * 1) = 0
    · exact Or.inr (Or.inr (Or.inl (by omega)))
    by_cases l3 : (-1) * p - 1 * q = 0
    · exact Or.inr (Or.inr (Or.inr (Or.inl (by omega))))
    by_cases l4 : (-1) * (p - r * (-1)) - 1 * (q - r * (-1)) = 0
    · exact Or.inr (Or.inr (Or.inr (Or.inr (by omega))))
    exact Or.inl (by omega)
  · rintro (⟨h1, h2⟩ | ⟨h1, h2, h3⟩ | ⟨h1, h2, h3⟩ | ⟨h1, h2, h3⟩ | ⟨h1, h2, h3⟩) <;> refine ⟨by omega, by omega, by omega, by omega⟩
set_option maxHeartbeats 4000000 in
theorem seg_5_4 {r s p q : Int} (hr : 0 ≤ r) (hs : 0 ≤ s) : segP r s p q (-1) (-1) 0 (-1) ↔ segQ r s p q (-1) (-1) 0 (-1) := by
  have m1 : min 0 (r * (-1)) = -r := by omega
  have m2 : max 0 (r * (-1)) = 0 := by omega
  have m3 : min p (p + s * 0) = p := by omega
  have m4 : max p (p + s * 0) = p := by omega
  have m5 : min q (q + s * (-1)) = q - s := by omega
  have m6 : max q (q + s * (-1)) = q := by omega
  unfold segP segQ opp one1 rmeet inb
  rw [m1, m2, m3, m4, m5, m6]
  constructor
  · rintro ⟨h1, h2, h3, h4⟩
    by_cases r0 : r = 0
    · exact Or.inr (Or.inr (Or.inr (Or.inl (by omega))))
    by_cases s0 : s = 0
    · exact Or.inr (Or.inl (by omega))
    by_cases l1 : (-1) * q - (-1) * p = 0
    · exact Or.inr (Or.inl (by omega))
    by_cases l2 : (-1) * (q + s * (-1)) - (-1) * (p + s * 0) = 0
    · exact Or.inr (Or.inr (Or.inl (by omega)))
    by_cases l3 : (-1) * p - 0 * q = 0
    · exact Or.inr (Or.inr (Or.inr (Or.inl (by omega))))
    by_cases l4 : (-1) * (p - r * (-1)) - 0 * (q - r * (-1)) = 0
    · exact Or.inr (Or.inr (Or.inr (Or.inr (by omega))))
    exact Or.inl (by omega)
  · rintro (⟨h1, h2⟩ | ⟨h1, h2, h3⟩ | ⟨h1, h2, h3⟩ | ⟨h1, h2, h3⟩ | ⟨h1, h2, h3⟩) <;> refine ⟨by omega, by omega, by omega, by omega⟩
set_option maxHeartbeats 4000000 in
theorem seg_5_5 {r s p q : Int} (hr : 0 ≤ r) (hs : 0 ≤ s) : segP r s p q (-1) (-1) (-1) (-1) ↔ segQ r s p q (-1) (-1) (-1) (-1) := by
  have m1 : min 0 (r * (-1)) = -r := by omega
  have m2 : max 0 (r * (-1)) = 0 := by omega
  have m3 : min p (p + s * (-1)) = p - s := by omega
  have m4 : max p (p + s * (-1)) = p := by omega
  have m5 : min q (q + s * (-1)) = q - s := by omega
  have m6 : max q (q + s * (-1)) = q := by omega
  unfold segP segQ opp one1 rmeet inb
  rw [m1, m2, m3, m4, m5, m6]
  constructor
  · rintro ⟨h1, h2, h3, h4⟩
    by_cases r0 : r = 0
    · exact Or.inr (Or.inr (Or.inr (Or.inl (by omega))))
    by_cases s0 : s = 0
    · exact Or.inr (Or.inl (by omega))
    have l1 : (-1) * q - (-1) * p = 0 := by omega
    by_cases i1 : (-r ≤ p ∧ p ≤ 0) ∧ (-r ≤ q ∧ q ≤ 0)
    · exact Or.inr (Or.inl (by omega))
    by_cases i2 : (-r ≤ p + s * (-1) ∧ p + s * (-1) ≤ 0) ∧ (-r ≤ q + s * (-1) ∧ q + s * (-1) ≤ 0)
    · exact Or.inr (Or.inr (Or.inl (by omega)))
    exact Or.inr (Or.inr (Or.inr (Or.inl (by omega))))
  · rintro (⟨h1, h2⟩ | ⟨h1, h2, h3⟩ | ⟨h1, h2, h3⟩ | ⟨h1, h2, h3⟩ | ⟨h1, h2, h3⟩) <;> refine ⟨by omega, by omega, by omega, by omega⟩
set_option maxHeartbeats 4000000 in
theorem seg_5_6 {r s p q : Int} (hr : 0 ≤ r) (hs : 0 ≤ s) : segP r s p q (-1) (-1) (-1) 0 ↔ segQ r s p q (-1) (-1) (-1) 0 := by
  have m1 : min 0 (r * (-1)) = -r := by omega
  have m2 : max 0 (r * (-1)) = 0 := by omega
  have m3 : min p (p + s * (-1)) = p - s := by omega
  have m4 : max p (p + s * (-1)) = p := by omega
  have m5 : min q (q + s * 0) = q := by omega
  have m6 : max q (q + s * 0) = q := by omega
  unfold segP segQ opp one1 rmeet inb
  rw [m1, m2, m3, m4, m5, m6]
  constructor
  · rintro ⟨h1, h2, h3, h4⟩
    by_cases r0 : r = 0
    · exact Or.inr (Or.inr (Or.inr (Or.inl (by omega))))
    by_cases s0 : s = 0
    · exact Or.inr (Or.inl (by omega))
    by_cases l1 : (-1) * q - (-1) * p = 0
    · exact Or.inr (Or.inl (by omega))
    by_cases l2 : (-1) * (q + s * 0) - (-1) * (p + s * (-1)) = 0
    · exact Or.inr (Or.inr (Or.inl (by omega)))
    by_cases l3 : 0 * p - (-1) * q = 0
    · exact Or.inr (Or.inr (Or.inr (Or.inl (by omega))))
    by_cases l4 : 0 * (p - r * (-1)) - (-1) * (q - r * (-1)) = 0
    · exact Or.inr (Or.inr (Or.inr (Or.inr (by omega))))
    exact Or.inl (by omega)
  · rintro (⟨h1, h2⟩ | ⟨h1, h2, h3⟩ | ⟨h1, h2, h3⟩ | ⟨h1, h2, h3⟩ | ⟨h1, h2, h3⟩) <;> refine ⟨by omega, by omega, by omega, by omega⟩
set_option maxHeartbeats 4000000 in
theorem seg_5_7 {r s p q : Int} (hr : 0 ≤ r) (hs : 0 ≤ s) : segP r s p q (-1) (-1) (-1) 1 ↔ segQ r s p q (-1) (-1) (-1) 1 := by
  have m1 : min 0 (r * (-1)) = -r := by omega
  have m2 : max 0 (r * (-1)) = 0 := by omega
  have m3 : min p (p + s * (-1)) = p - s := by omega
  have m4 : max p (p + s * (-1)) = p := by omega
  have m5 : min q (q + s * 1) = q := by omega
  have m6 : max q (q + s * 1) = q + s := by omega
  unfold segP segQ opp one1 rmeet inb
  rw [m1, m2, m3, m4, m5, m6]
  constructor
  · rintro ⟨h1, h2, h3, h4⟩
    by_cases r0 : r = 0
    · exact Or.inr (Or.inr (Or.inr (Or.inl (by omega))))
    by_cases s0 : s = 0
    · exact Or.inr (Or.inl (by omega))
    by_cases l1 : (-1) * q - (-1) * p = 0
    · exact Or.inr (Or.inl (by omega))
    by_cases l2 : (-1) * (q + s * 1) - (-1) * (p + s * (-1)) = 0
    · exact Or.inr (Or.inr (Or.inl (by omega)))
    by_cases l3 : 1 * p - (-1) * q = 0
    · exact Or.inr (Or.inr (Or.inr (Or.inl (by omega))))
    by_cases l4 : 1 * (p - r * (-1)) - (-1) * (q - r * (-1)) = 0
    · exact Or.inr (Or.inr (Or.inr (Or.inr (by omega))))
    exact Or.inl (by omega)
  · rintro (⟨h1, h2⟩ | ⟨h1, h2, h3⟩ | ⟨h1, h2, h3⟩ | ⟨h1, h2, h3⟩ | ⟨h1, h2, h3⟩) <;> refine ⟨by omega, by omega, by omega, by omega⟩
set_option maxHeartbeats 4000000 in
theorem seg_6_0 {r s p q : Int} (hr : 0 ≤ r) (hs : 0 ≤ s) : segP r s p q (-1) 0 0 1 ↔ segQ r s p q (-1) 0 0 1 := by
  have m1 : min 0 (r * (-1)) = -r := by omega
  have m2 : max 0 (r * (-1)) = 0 := by omega
  have m3 : min 0 (r * 0) = 0 := by omega
  have m4 : max 0 (r * 0) = 0 := by omega
  have m5 : min p (p + s * 0) = p := by omega
  have m6 : max p (p + s * 0) = p := by omega
  have m7 : min q (q + s * 1) = q := by omega
  have m8 : max q (q + s * 1) = q + s := by omega
  unfold segP segQ opp one1 rmeet inb
  rw [m1, m2, m3, m4, m5, m6, m7, m8]
  constructor
  · rintro ⟨h1, h2, h3, h4⟩
    by_cases r0 : r = 0
    · exact Or.inr (Or.inr (Or.inr (Or.inl (by omega))))
    by_cases s0 : s = 0
    · exact Or.inr (Or.inl (by omega))
    by_cases l1 : (-1) * q - 0 * p = 0
    · exact Or.inr (Or.inl (by omega))
    by_cases l2 : (-1) * (q + s * 1) - 0 * (p + s * 0) = 0
    · exact Or.inr (Or.inr (Or.inl (by omega)))
    by_cases l3 : 1 * p - 0 * q = 0
    · exact Or.inr (Or.inr (Or.inr (Or.inl (by omega))))
    by_cases l4 : 1 * (p - r * (-1)) - 0 * (q - r * 0) = 0
    · exact Or.inr (Or.inr (Or.inr (Or.inr (by omega))))
    exact Or.inl (by omega)
  · rintro (⟨h1, h2⟩ | ⟨h1, h2, h3⟩ | ⟨h1, h2, h3⟩ | ⟨h1, h2, h3⟩ | ⟨h1, h2, h3⟩) <;> refine ⟨by omega, by omega, by omega, by omega⟩
set_option maxHeartbeats 4000000 in
theorem seg_6_1 {r s p q : Int} (hr : 0 ≤ r) (hs : 0 ≤ s) : segP r s p q (-1) 0 1 1 ↔ segQ r s p q (-1) 0 1 1 := by
  have m1 : min 0 (r * (-1)) = -r := by omega
  have m2 : max 0 (r * (-1)) = 0 := by omega
  have m3 : min 0 (r * 0) = 0 := by omega
  have m4 : max 0 (r * 0) = 0 := by omega
  have m5 : min p (p + s * 1) = p := by omega
  have m6 : max p (p + s * 1) = p + s := by omega
  have m7 : min q (q + s * 1) = q := by omega
  have m8 : max q (q + s * 1) = q + s := by omega
  unfold segP segQ opp one1 rmeet inb
  rw [m1, m2, m3, m4, m5, m6, m7, m8]
  constructor
  · rintro ⟨h1, h2, h3, h4⟩
    by_cases r0 : r = 0
    · exact Or.inr (Or.inr (Or.inr (Or.inl (by omega))))
    by_cases s0 : s = 0
    · exact Or.inr (Or.inl (by omega))
    by_cases l1 : (-1) * q - 0 * p = 0
    · exact Or.inr (Or.inl (by omega))
    by_cases l2 : (-1) * (q + s * 1) - 0 * (p + s * 1) = 0
    · exact Or.inr (Or.inr (Or.inl (by omega)))
    by_cases l3 : 1 * p - 1 * q = 0
    · exact Or.inr (Or.inr (Or.inr (Or.inl (by omega))))
    by_cases l4 : 1 * (p - r * (-1)) - 1 * (q - r * 0) = 0
    · exact Or.inr (Or.inr (Or.inr (Or.inr (by omega))))
    exact Or.inl (by omega)
  · rintro (⟨h1, h2⟩ | ⟨h1, h2, h3⟩ | ⟨h1, h2, h3⟩ | ⟨h1, h2, h3⟩ | ⟨h1, h2, h3⟩) <;> refine ⟨by omega, by omega, by omega, by omega⟩
set_option maxHeartbeats 4000000 in
theorem seg_6_2 {r s p q : Int} (hr : 0 ≤ r) (hs : 0 ≤ s) : segP r s p q (-1) 0 1 0 ↔ segQ r s p q (-1) 0 1 0 := by
  have m1 : min 0 (r * (-1)) = -r := by omega
  have m2 : max 0 (r * (-1)) = 0 := by omega
  have m3 : min 0 (r * 0) = 0 := by omega
  have m4 : max 0 (r * 0) = 0 := by omega
  have m5 : min p (p + s * 1) = p := by omega
  have m6 : max p (p + s * 1) = p + s := by omega
  have m7 : min q (q + s * 0) = q := by omega
  have m8 : max q (q + s * 0) = q := by omega
  unfold segP segQ opp one1 rmeet inb
  rw [m1, m2, m3, m4, m5, m6, m7, m8]
  constructor
  · rintro ⟨h1, h2, h3, h4⟩
    by_cases r0 : r = 0
    · exact Or.inr (Or.inr (Or.inr (Or.inl (by omega))))
    by_cases s0 : s = 0
    · exact Or.inr (Or.inl (by omega))
    have l1 : (-1) * q - 0 * p = 0 := by omega
    by_cases i1 : (-r ≤ p ∧ p ≤ 0) ∧ (0 ≤ q ∧ q ≤ 0)
    · exact Or.inr (Or.inl (by omega))
    by_cases i2 : (-r ≤ p + s * 1 ∧ p + s * 1 ≤ 0) ∧ (0 ≤ q + s * 0 ∧ q + s * 0 ≤ 0)
    · exact Or.inr (Or.inr (Or.inl (by omega)))
    exact Or.inr (Or.inr (Or.inr (Or.inl (by omega))))
  · rintro (⟨h1, h2⟩ | ⟨h1, h2, h3⟩ | ⟨h1, h2, h3⟩ | ⟨h1, h2, h3⟩ | ⟨h1, h2, h3⟩) <;> refine ⟨by omega, by omega, by omega, by omega⟩
set_option maxHeartbeats 4000000 in
theorem seg_6_3 {r s p q : Int} (hr : 0 ≤ r) (hs : 0 ≤ s) : segP r s p q (-1) 0 1 (-1) ↔ segQ r s p q (-1) 0 1 (-1) := by
  have m1 : min 0 (r * (-1)) = -r := by omega
  have m2 : max 0 (r * (-1)) = 0 := by omega
  have m3 : min 0 (r * 0) = 0 := by omega
  have m4 : max 0 (r * 0) = 0 := by omega
  have m5 : min p (p + s * 1) = p := by omega
  have m6 : max p (p + s * 1) = p + s := by omega
  have m7 : min q (q + s * (-1)) = q - s := by omega
  have m8 : max q (q + s * (-1)) = q := by omega
  unfold segP segQ opp one1 rmeet inb
  rw [m1, m2, m3, m4, m5, m6, m7, m8]
  constructor
  · rintro ⟨h1, h2, h3, h4⟩
    by_cases r0 : r = 0
    · exact Or.inr (Or.inr (Or.inr (Or.inl (by omega))))
    by_cases s0 : s = 0
    · exact Or.inr (Or.inl (by omega))
    by_cases l1 : (-1) * q - 0 * p = 0
    · exact Or.inr (Or.inl (by omega))
    by_cases l2 : (-1) * (q + s * (-1)) - 0 * (p + s * 1) = 0
    · exact Or.inr (Or.inr (Or.inl (by omega)))
    by_cases l3 : (-1) * p - 1 * q = 0
    · exact Or.inr (Or.inr (Or.inr (Or.inl (by omega))))
    by_cases l4 : (-1) * (p - r * (-1)) - 1 * (q - r * 0) = 0
    · exact Or.inr (Or.inr (Or.inr (Or.inr (by omega))))
    exact Or.inl (by omega)
  · rintro (⟨h1, h2⟩ | ⟨h1, h2, h3⟩ | ⟨h1, h2, h3⟩ | ⟨h1, h2, h3⟩ | ⟨h1, h2, h3⟩) <;> refine ⟨by omega, by omega, by omega, by omega⟩
set_option maxHeartbeats 4000000 in
theorem seg_6_4 {r s p q : Int} (hr : 0 ≤ r) (hs : 0 ≤ s) : segP r s p q (-1) 0 0 (-1) ↔ segQ r s p q (-1) 0 0 (-1) := by
  have m1 : min 0 (r * (-1)) = -r := by omega
  have m2 : max 0 (r * (-1)) = 0 := by omega
  have m3 : min 0 (r * 0) = 0 := by omega
  have m4 : max 0 (r * 0) = 0 := by omega
  have m5 : min p (p + s * 0) = p := by omega
  have m6 : max p (p + s * 0) = p := by omega
  have m7 : min q (q + s * (-1)) = q - s := by omega
  have m8 : max q (q + s * (-1)) = q := by omega
  unfold segP segQ opp one1 rmeet inb
  rw [m1, m2, m3, m4, m5, m6, m7, m8]
  constructor
  · rintro ⟨h1, h2, h3, h4⟩
    by_cases r0 : r = 0
    · exact Or.inr (Or.inr (Or.inr (Or.inl (by omega))))
    by_cases s0 : s = 0
    · exact Or.inr (Or.inl (by omega))
    by_cases l1 : (-1) * q - 0 * p = 0
    · exact Or.inr (Or.inl (by omega))
    by_cases l2 : (-1) * (q + s * (-1)) - 0 * (p + s * 0) = 0
    · exact Or.inr (Or.inr (Or.inl (by omega)))
    by_cases l3 : (-1) * p - 0 * q = 0
    · exact Or.inr (Or.inr (Or.inr (Or.inl (by omega))))
    by_cases l4 : (-1) * (p - r * (-1)) - 0 * (q - r * 0) = 0
    · exact Or.inr (Or.inr (Or.inr (Or.inr (by omega))))
    exact Or.inl (by omega)
  · rintro (⟨h1, h2⟩ | ⟨h1, h2, h3⟩ | ⟨h1, h2, h3⟩ | ⟨h1, h2, h3⟩ | ⟨h1, h2, h3⟩) <;> refine ⟨by omega, by omega, by omega, by omega⟩
set_option maxHeartbeats 4000000 in
theorem seg_6_5 {r s p q : Int} (hr : 0 ≤ r) (hs : 0 ≤ s) : segP r s p q (-1) 0 (-1) (-1) ↔ segQ r s p q (-1) 0 (-1) (-1) := by
  have m1 : min 0 (r * (-1)) = -r := by omega
  have m2 : max 0 (r * (-1)) = 0 := by omega
  have m3 : min 0 (r * 0) = 0 := by omega
  have m4 : max 0 (r * 0) = 0 := by omega
  have m5 : min p (p + s * (-1)) = p - s := by omega
  have m6 : max p (p + s * (-1)) = p := by omega
  have m7 : min q (q + s * (-1)) = q - s := by omega
  have m8 : max q (q + s * (-1)) = q := by omega
  unfold segP segQ opp one1 rmeet inb
  rw [m1, m2, m3, m4, m5, m6, m7, m8]
  constructor
  · rintro ⟨h1, h2, h3, h4⟩
    by_cases r0 : r = 0
    · exact Or.inr (Or.inr (Or.inr (Or.inl (by omega))))
    by_cases s0 : s = 0
    · exact Or.inr (Or.inl (by omega))
    by_cases l1 : (-1) * q - 0 * p = 0
    · exact Or.inr (Or.inl (by omega))
    by_cases l2 : (-1) * (q + s * (-1)) - 0 * (p + s * (-1)) = 0
    · exact Or.inr (Or.inr (Or.inl (by omega)))
    by_cases l3 : (-1) * p - (-1) * q = 0
    · exact Or.inr (Or.inr (Or.inr (Or.inl (by omega))))
    by_cases l4 : (-1) * (p - r * (-1)) - (-1) * (q - r * 0) = 0
    · exact Or.inr (Or.inr (Or.inr (Or.inr (by omega))))
    exact Or.inl (by omega)
  · rintro (⟨h1, h2⟩ | ⟨h1, h2, h3⟩ | ⟨h1, h2, h3⟩ | ⟨h1, h2, h3⟩ | ⟨h1, h2, h3⟩) <;> refine ⟨by omega, by omega, by omega, by omega⟩
set_option maxHeartbeats 4000000 in
theorem seg_6_6 {r s p q : Int} (hr : 0 ≤ r) (hs : 0 ≤ s) : segP r s p q (-1) 0 (-1) 0 ↔ segQ r s p q (-1) 0 (-1) 0 := by
  have m1 : min 0 (r * (-1)) = -r := by omega
  have m2 : max 0 (r * (-1)) = 0 := by omega
  have m3 : min 0 (r * 0) = 0 := by omega
  have m4 : max 0 (r * 0) = 0 := by omega
  have m5 : min p (p + s * (-1)) = p - s := by omega
  have m6 : max p (p + s * (-1)) = p := by omega
  have m7 : min q (q + s * 0) = q := by omega
  have m8 : max q (q + s * 0) = q := by omega
  unfold segP segQ opp one1 rmeet inb
  rw [m1, m2, m3, m4, m5, m6, m7, m8]
  constructor
  · rintro ⟨h1, h2, h3, h4⟩
    by_cases r0 : r = 0
    · exact Or.inr (Or.inr (Or.inr (Or.inl (by omega))))
    by_cases s0 : s = 0
    · exact Or.inr (Or.inl (by omega))
    have l1 : (-1) * q - 0 * p = 0 := by omega
    by_cases i1 : (-r ≤ p ∧ p ≤ 0) ∧ (0 ≤ q ∧ q ≤ 0)
    · exact Or.inr (Or.inl (by omega))
    by_cases i2 : (-r ≤ p + s * (-1) ∧ p + s * (-1) ≤ 0) ∧ (0 ≤ q + s * 0 ∧ q + s * 0 ≤ 0)
    · exact Or.inr (Or.inr (Or.inl (by omega)))
    exact Or.inr (Or.inr (Or.inr (Or.inl (by omega))))
  · rintro (⟨h1, h2⟩ | ⟨h1, h2, h3⟩ | ⟨h1, h2, h3⟩ | ⟨h1, h2, h3⟩ | ⟨h1, h2, h3⟩) <;> refine ⟨by omega, by omega, by omega, by omega⟩
set_option maxHeartbeats 4000000 in
theorem seg_6_7 {r s p q : Int} (hr : 0 ≤ r) (hs : 0 ≤ s) : segP r s p q (-1) 0 (-1) 1 ↔ segQ r s p q (-1) 0 (-1) 1 := by
  have m1 : min 0 (r * (-1)) = -r := by omega
  have m2 : max 0 (r * (-1)) = 0 := by omega
  have m3 : min 0 (r * 0) = 0 := by omega
  have m4 : max 0 (r * 0) = 0 := by omega
  have m5 : min p (p + s * (-1)) = p - s := by omega
  have m6 : max p (p + s * (-1)) = p := by omega
  have m7 : min q (q + s * 1) = q := by omega
  have m8 : max q (q + s * 1) = q + s := by omega
  unfold segP segQ opp one1 rmeet inb
  rw [m1, m2, m3, m4, m5, m6, m7, m8]
  constructor
  · rintro ⟨h1, h2, h3, h4⟩
    by_cases r0 : r = 0
    · exact Or.inr (Or.inr (Or.inr (Or.inl (by omega))))
    by_cases s0 : s = 0
    · exact Or.inr (Or.inl (by omega))
    by_cases l1 : (-1) * q - 0 * p = 0
    · exact Or.inr (Or.inl (by omega))
    by_cases l2 : (-1) * (q + s * 1) - 0 * (p + s * (-1)) = 0
    · exact Or.inr (Or.inr (Or.inl (by omega)))
    by_cases l3 : 1 * p - (-1) * q = 0
    · exact Or.inr (Or.inr (Or.inr (Or.inl (by omega))))
    by_cases l4 : 1 * (p - r * (-1)) - (-1) * (q - r * 0) = 0
    · exact Or.inr (Or.inr (Or.inr (Or.inr (by omega))))
    exact Or.inl (by omega)
  · rintro (⟨h1, h2⟩ | ⟨h1, h2, h3⟩ | ⟨h1, h2, h3⟩ | ⟨h1, h2, h3⟩ | ⟨h1, h2, h3⟩) <;> refine ⟨by omega, by omega, by omega, by omega⟩
set_option maxHeartbeats 4000000 in
theorem seg_7_0 {r s p q : Int} (hr : 0 ≤ r) (hs : 0 ≤ s) : segP r s p q (-1) 1 0 1 ↔ segQ r s p q (-1) 1 0 1 := by
  have m1 : min 0 (r * (-1)) = -r := by omega
  have m2 : max 0 (r * (-1)) = 0 := by omega
  have m3 : min 0 (r * 1) = 0 := by omega
  have m4 : max 0 (r * 1) = r := by omega
  have m5 : min p (p + s * 0) = p := by omega
  have m6 : max p (p + s * 0) = p := by omega
  have m7 : min q (q + s * 1) = q := by omega
  have m8 : max q (q + s * 1) = q + s := by omega
  unfold segP segQ opp one1 rmeet inb
  rw [m1, m2, m3, m4, m5, m6, m7, m8]
  constructor
  · rintro ⟨h1, h2, h3, h4⟩
    by_cases r0 : r = 0
    · exact Or.inr (Or.inr (Or.inr (Or.inl (by omega))))
    by_cases s0 : s = 0
    · exact Or.inr (Or.inl (by omega))
    by_cases l1 : (-1) * q - 1 * p = 0
    · exact Or.inr (Or.inl (by omega))
    by_cases l2 : (-1) * (q + s * 1) - 1 * (p + s * 0) = 0
    · exact Or.inr (Or.inr (Or.inl (by omega)))
    by_cases l3 : 1 * p - 0 * q = 0
    · exact Or.inr (Or.inr (Or.inr (Or.inl (by omega))))
    by_cases l4 : 1 * (p - r * (-1)) - 0 * (q - r * 1) = 0
    · exact Or.inr (Or.inr (Or.inr (Or.inr (by omega))))
    exact Or.inl (by omega)
  · rintro (⟨h1, h2⟩ | ⟨h1, h2, h3⟩ | ⟨h1, h2, h3⟩ | ⟨h1, h2, h3⟩ | ⟨h1, h2, h3⟩) <;> refine ⟨by omega, by omega, by omega, by omega⟩
set_option maxHeartbeats 4000000 in
theorem seg_7_1 {r s p q : Int} (hr : 0 ≤ r) (hs : 0 ≤ s) : segP r s p q (-1) 1 1 1 ↔ segQ r s p q (-1) 1 1 1 := by
  have m1 : min 0 (r * (-1)) = -r := by omega
  have m2 : max 0 (r * (-1)) = 0 := by omega
  have m3 : min 0 (r * 1) = 0 := by omega
  have m4 : max 0 (r * 1) = r := by omega
  have m5 : min p (p + s * 1) = p := by omega
  have m6 : max p (p + s * 1) = p + s := by omega
  have m7 : min q (q + s * 1) = q := by omega
  have m8 : max q (q + s * 1) = q + s := by omega
  unfold segP segQ opp one1 rmeet inb
  rw [m1, m2, m3, m4, m5, m6, m7, m8]
  constructor
  · rintro ⟨h1, h2, h3, h4⟩
    by_cases r0 : r = 0
    · exact Or.inr (Or.inr (Or.inr (Or.inl (by omega))))
    by_cases s0 : s = 0
    · exact Or.inr (Or.inl (by omega))
    by_cases l1 : (-1) * q - 1 * p = 0
    · exact Or.inr (Or.inl (by omega))
    by_cases l2 : (-1) * (q + s * 1) - 1 * (p + s * 1) = 0
    · exact Or.inr (Or.inr (Or.inl (by omega)))
    by_cases l3 : 1 * p - 1 * q = 0
    · exact Or.inr (Or.inr (Or.inr (Or.inl (by omega))))
    by_cases l4 : 1 * (p - r * (-1)) - 1 * (q - r * 1) = 0
    · exact Or.inr (Or.inr (Or.inr (Or.inr (by omega))))
    exact Or.inl (by omega)
  · rintro (⟨h1, h2⟩ | ⟨h1, h2, h3⟩ | ⟨h1, h2, h3⟩ | ⟨h1, h2, h3⟩ | ⟨h1, h2, h3⟩) <;> refine ⟨by omega, by omega, by omega, by omega⟩
set_option maxHeartbeats 4000000 in
theorem seg_7_2 {r s p q : Int} (hr : 0 ≤ r) (hs : 0 ≤ s) : segP r s p q (-1) 1 1 0 ↔ segQ r s p q (-1) 1 1 0 := by
  have m1 : min 0 (r * (-1)) = -r := by omega
  have m2 : max 0 (r * (-1)) = 0 := by omega
  have m3 : min 0 (r * 1) = 0 := by omega
  have m4 : max 0 (r * 1) = r := by omega
  have m5 : min p (p + s * 1) = p := by omega
  have m6 : max p (p + s * 1) = p + s := by omega
  have m7 : min q (q + s * 0) = q := by omega
  have m8 : max q (q + s * 0) = q := by omega
  unfold segP segQ opp one1 rmeet inb
  rw [m1, m2, m3, m4, m5, m6, m7, m8]
  constructor
  · rintro ⟨h1, h2, h3, h4⟩
    by_cases r0 : r = 0
    · exact Or.inr (Or.inr (Or.inr (Or.inl (by omega))))
    by_cases s0 : s = 0
    · exact Or.inr (Or.inl (by omega))
    by_cases l1 : (-1) * q - 1 * p = 0
    · exact Or.inr (Or.inl (by omega))
    by_cases l2 : (-1) * (q + s * 0) - 1 * (p + s * 1) = 0
    · exact Or.inr (Or.inr (Or.inl (by omega)))
    by_cases l3 : 0 * p - 1 * q = 0
    · exact Or.inr (Or.inr (Or.inr (Or.inl (by omega))))
    by_cases l4 : 0 * (p - r * (-1)) - 1 * (q - r * 1) = 0
    · exact Or.inr (Or.inr (Or.inr (Or.inr (by omega))))
    exact Or.inl (by omega)
  · rintro (⟨h1, h2⟩ | ⟨h1, h2, h3⟩ | ⟨h1, h2, h3⟩ | ⟨h1, h2, h3⟩ | ⟨h1, h2, h3⟩) <;> refine ⟨by omega, by omega, by omega, by omega⟩
set_option maxHeartbeats 4000000 in
theorem seg_7_3 {r s p q : Int} (hr : 0 ≤ r) (hs : 0 ≤ s) : segP r s p q (-1) 1 1 (-1) ↔ segQ r s p q (-1) 1 1 (-1) := by
  have m1 : min 0 (r * (-1)) = -r := by omega
  have m2 : max 0 (r * (-1)) = 0 := by omega
  have m3 : min 0 (r * 1) = 0 := by omega
  have m4 : max 0 (r * 1) = r := by omega
  have m5 : min p (p + s * 1) = p := by omega
  have m6 : max p (p + s * 1) = p + s := by omega
  have m7 : min q (q + s * (-1)) = q - s := by omega
  have m8 : max q (q + s * (-1)) = q := by omega
  unfold segP segQ opp one1 rmeet inb
  rw [m1, m2, m3, m4, m5, m6, m7, m8]
  constructor
  · rintro ⟨h1, h2, h3, h4⟩
    by_cases r0 : r = 0
    · exact Or.inr (Or.inr (Or.inr (Or.inl (by omega))))
    by_cases s0 : s = 0
    · exact Or.inr (Or.inl (by omega))
    have l1 : (-1) * q - 1 * p = 0 := by omega
    by_cases i1 : (-r ≤ p ∧ p ≤ 0) ∧ (0 ≤ q ∧ q ≤ r)
    · exact Or.inr (Or.inl (by omega))
    by_cases i2 : (-r ≤ p + s * 1 ∧ p + s * 1 ≤ 0) ∧ (0 ≤ q + s * (-1) ∧ q + s * (-1) ≤ r)
    · exact Or.inr (Or.inr (Or.inl (by omega)))
    exact Or.inr (Or.inr (Or.inr (Or.inl (by omega))))
  · rintro (⟨h1, h2⟩ | ⟨h1, h2, h3⟩ | ⟨h1, h2, h3⟩ | ⟨h1, h2, h3⟩ | ⟨h1, h2, h3⟩) <;> refine ⟨by omega, by omega, by omega, by omega⟩
set_option maxHeartbeats 4000000 in
theorem seg_7_4 {r s p q : Int} (hr : 0 ≤ r) (hs : 0 ≤ s) : segP r s p q (-1) 1 0 (-1) ↔ segQ r s p q (-1) 1 0 (-1) := by
  have m1 : min 0 (r * (-1)) = -r := by omega
  have m2 : max 0 (r * (-1)) = 0 := by omega
  have m3 : min 0 (r * 1) = 0 := by omega
  have m4 : max 0 (r * 1) = r := by omega
  have m5 : min p (p + s * 0) = p := by omega
  have m6 : max p (p + s * 0) = p := by omega
  have m7 : min q (q + s * (-1)) = q - s := by omega
  have m8 : max q (q + s * (-1)) = q := by omega
  unfold segP segQ opp one1 rmeet inb
  rw [m1, m2, m3, m4, m5, m6, m7, m8]
  constructor
  · rintro ⟨h1, h2, h3, h4⟩
    by_cases r0 : r = 0
    · exact Or.inr (Or.inr (Or.inr (Or.inl (by omega))))
    by_cases s0 : s = 0
    · exact Or.inr (Or.inl (by omega))
    by_cases l1 : (-1) * q - 1 * p = 0
    · exact Or.inr (Or.inl (by omega))
    by_cases l2 : (-1) * (q + s * (-1)) - 1 * (p + s * 0) = 0
    · exact Or.inr (Or.inr (Or.inl (by omega)))
    by_cases l3 : (-1) * p - 0 * q = 0
    · exact Or.inr (Or.inr (Or.inr (Or.inl (by omega))))
    by_cases l4 : (-1) * (p - r * (-1)) - 0 * (q - r * 1) = 0
    · exact Or.inr (Or.inr (Or.inr (Or.inr (by omega))))
    exact Or.inl (by omega)
  · rintro (⟨h1, h2⟩ | ⟨h1, h2, h3⟩ | ⟨h1, h2, h3⟩ | ⟨h1, h2, h3⟩ | ⟨h1, h2, h3⟩) <;> refine ⟨by omega, by omega, by omega, by omega⟩
set_option maxHeartbeats 4000000 in
theorem seg_7_5 {r s p q : Int} (hr : 0 ≤ r) (hs : 0 ≤ s) : segP r s p q (-1) 1 (-1) (-1) ↔ segQ r s p q (-1) 1 (-1) (-1) := by
  have m1 : min 0 (r * (-1)) = -r := by omega
  have m2 : max 0 (r * (-1)) = 0 := by omega
  have m3 : min 0 (r * 1) = 0 := by omega
  have m4 : max 0 (r * 1) = r := by omega
  have m5 : min p (p + s * (-1)) = p - s := by omega
  have m6 : max p (p + s * (-1)) = p := by omega
  have m7 : min q (q + s * (-1)) = q - s := by omega
  have m8 : max q (q + s * (-1)) = q := by omega
  unfold segP segQ opp one1 rmeet inb
  rw [m1, m2, m3, m4, m5, m6, m7, m8]
  constructor
  · rintro ⟨h1, h2, h3, h4⟩
    by_cases r0 : r = 0
    · exact Or.inr (Or.inr (Or.inr (Or.inl (by omega))))
    by_cases s0 : s = 0
    · exact Or.inr (Or.inl (by omega))
    by_cases l1 : (-1) * q - 1 * p = 0
    · exact Or.inr (Or.inl (by omega))
    by_cases l2 : (-1) * (q + s * (-1)) - 1 * (p + s * (-1)) = 0
    · exact Or.inr (Or.inr (Or.inl (by omega)))
    by_cases l3 : (-1) * p - (-1) * q = 0
    · exact Or.inr (Or.inr (Or.inr (Or.inl (by omega))))
    by_cases l4 : (-1) * (p - r * (-1)) - (-1) * (q - r * 1) = 0
    · exact Or.inr (Or.inr (Or.inr (Or.inr (by omega))))
    exact Or.inl (by omega)
  · rintro (⟨h1, h2⟩ | ⟨h1, h2, h3⟩ | ⟨h1, h2, h3⟩ | ⟨h1, h2, h3⟩ | ⟨h1, h2, h3⟩) <;> refine ⟨by omega, by omega, by omega, by omega⟩
set_option maxHeartbeats 4000000 in
theorem seg_7_6 {r s p q : Int} (hr : 0 ≤ r) (hs : 0 ≤ s) : segP r s p q (-1) 1 (-1) 0 ↔ segQ r s p q (-1) 1 (-1) 0 := by
  have m1 : min 0 (r * (-1)) = -r := by omega
  have m2 : max 0 (r * (-1)) = 0 := by omega
  have m3 : min 0 (r * 1) = 0 := by omega
  have m4 : max 0 (r * 1) = r := by omega
  have m5 : min p (p + s * (-1)) = p - s := by omega
  have m6 : max p (p + s * (-1)) = p := by omega
  have m7 : min q (q + s * 0) = q := by omega
  have m8 : max q (q + s * 0) = q := by omega
  unfold segP segQ opp one1 rmeet inb
  rw [m1, m2, m3, m4, m5, m6, m7, m8]
  constructor
  · rintro ⟨h1, h2, h3, h4⟩
    by_cases r0 : r = 0
    · exact Or.inr (Or.inr (Or.inr (Or.inl (by omega))))
    by_cases s0 : s = 0
    · exact Or.inr (Or.inl (by omega))
    by_cases l1 : (-1) * q - 1 * p = 0
    · exact Or.inr (Or.inl (by omega))
    by_cases l2 : (-1) * (q + s * 0) - 1 * (p + s * (-1)) = 0
    · exact Or.inr (Or.inr (Or.inl (by omega)))
    by_cases l3 : 0 * p - (-1) * q = 0
    · exact Or.inr (Or.inr (Or.inr (Or.inl (by omega))))
    by_cases l4 : 0 * (p - r * (-1)) - (-1) * (q - r * 1) = 0
    · exact Or.inr (Or.inr (Or.inr (Or.inr (by omega))))
    exact Or.inl (by omega)
  · rintro (⟨h1, h2⟩ | ⟨h1, h2, h3⟩ | ⟨h1, h2, h3⟩ | ⟨h1, h2, h3⟩ | ⟨h1, h2, h3⟩) <;> refine ⟨by omega, by omega, by omega, by omega⟩
set_option maxHeartbeats 4000000 in
theorem seg_7_7 {r s p q : Int} (hr : 0 ≤ r) (hs : 0 ≤ s) : segP r s p q (-1) 1 (-1) 1 ↔ segQ r s p q (-1) 1 (-1) 1 := by
  have m1 : min 0 (r * (-1)) = -r := by omega
  have m2 : max 0 (r * (-1)) = 0 := by omega
  have m3 : min 0 (r * 1) = 0 := by omega
  have m4 : max 0 (r * 1) = r := by omega
  have m5 : min p (p + s * (-1)) = p - s := by omega
  have m6 : max p (p + s * (-1)) = p := by omega
  have m7 : min q (q + s * 1) = q := by omega
  have m8 : max q (q + s * 1) = q + s := by omega
  unfold segP segQ opp one1 rmeet inb
  rw [m1, m2, m3, m4, m5, m6, m7, m8]
  constructor
  · rintro ⟨h1, h2, h3, h4⟩
    by_cases r0 : r = 0
    · exact Or.inr (Or.inr (Or.inr (Or.inl (by omega))))
    by_cases s0 : s = 0
    · exact Or.inr (Or.inl (by omega))
    have l1 : (-1) * q - 1 * p = 0 := by omega
    by_cases i1 : (-r ≤ p ∧ p ≤ 0) ∧ (0 ≤ q ∧ q ≤ r)
    · exact Or.inr (Or.inl (by omega))
    by_cases i2 : (-r ≤ p + s * (-1) ∧ p + s * (-1) ≤ 0) ∧ (0 ≤ q + s * 1 ∧ q + s * 1 ≤ r)
    · exact Or.inr (Or.inr (Or.inl (by omega)))
    exact Or.inr (Or.inr (Or.inr (Or.inl (by omega))))
  · rintro (⟨h1, h2⟩ | ⟨h1, h2, h3⟩ | ⟨h1, h2, h3⟩ | ⟨h1, h2, h3⟩ | ⟨h1, h2, h3⟩) <;> refine ⟨by omega, by omega, by omega, by omega⟩
