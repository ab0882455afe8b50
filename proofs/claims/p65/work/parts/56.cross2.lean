/-! ===== two strings meet: the class's way and the reference's ===== -/
def turn (a b c d x y : Int) : Int := (c - a) * (y - b) - (d - b) * (x - a)
def oneS (u v : Int) : Prop := (0 < u ∧ 0 < v) ∨ (u < 0 ∧ v < 0)
def meetI (a b c d e f g h : Int) : Prop := rmeet a c e g ∧ rmeet b d f h ∧ ¬ oneS (turn a b c d e f) (turn a b c d g h) ∧ ¬ oneS (turn e f g h a b) (turn e f g h c d)
theorem turn_rng {a b c d x y : Int} (ha : -1000 ≤ a ∧ a ≤ 1000) (hb : -1000 ≤ b ∧ b ≤ 1000) (hc : -1000 ≤ c ∧ c ≤ 1000) (hd : -1000 ≤ d ∧ d ≤ 1000) (hx : -1000 ≤ x ∧ x ≤ 1000) (hy : -1000 ≤ y ∧ y ≤ 1000) : -1000000000 ≤ turn a b c d x y ∧ turn a b c d x y ≤ 1000000000 := by
  have m1 := mul_rng (M := 2000) (u := c - a) (v := y - b) (by omega) (by omega)
  have m2 := mul_rng (M := 2000) (u := d - b) (v := x - a) (by omega) (by omega)
  unfold turn
  omega
theorem sgn_mul {r L : Int} (hr : 0 ≤ r) : (0 < r * L ↔ 0 < r ∧ 0 < L) ∧ (r * L < 0 ↔ 0 < r ∧ L < 0) ∧ (r * L = 0 ↔ r = 0 ∨ L = 0) := by
  by_cases h0 : r = 0
  · subst h0
    rw [Int.zero_mul]
    omega
  · have h1 : 0 < r := by omega
    rcases Int.lt_trichotomy L 0 with h2 | h2 | h2
    · have := Int.mul_neg_of_pos_of_neg h1 h2
      omega
    · subst h2
      rw [Int.mul_zero]
      omega
    · have := Int.mul_pos h1 h2
      omega
theorem side_prod {a b c d e f g h : Int} : sideI a b c d e f * sideI a b c d g h < 0 ↔ (turn a b c d e f < 0 ∧ 0 < turn a b c d g h) ∨ (0 < turn a b c d e f ∧ turn a b c d g h < 0) := by
  unfold sideI turn
  dsimp only
  split <;> split <;> (try split) <;> (try split) <;> omega
theorem side_zero {a b c d e f : Int} : sideI a b c d e f = 0 ↔ turn a b c d e f = 0 := by
  unfold sideI turn
  dsimp only
  split
  · omega
  · split <;> omega
theorem lin_eq (r dx dy X Y : Int) : r * dx * Y - r * dy * X = r * (dx * Y - dy * X) := by
  rw [Int.mul_sub, Int.mul_assoc, Int.mul_assoc]
theorem turn_1 {a b r dx dy x y : Int} : turn a b (a + r * dx) (b + r * dy) x y = r * (dx * (y - b) - dy * (x - a)) := by
  unfold turn
  rw [show a + r * dx - a = r * dx by omega, show b + r * dy - b = r * dy by omega]
  exact lin_eq _ _ _ _ _
theorem neg_lin (ex ey u v : Int) : ex * (-u) - ey * (-v) = ey * v - ex * u := by
  rw [Int.mul_neg, Int.mul_neg]
  omega
theorem cross_seg {a b e f r s dx dy ex ey : Int} (hr : 0 ≤ r) (hs : 0 ≤ s) (heq : segP r s (e - a) (f - b) dx dy ex ey ↔ segQ r s (e - a) (f - b) dx dy ex ey) :
    meetI a b (a + r * dx) (b + r * dy) e f (e + s * ex) (f + s * ey) ↔ crossI a b (a + r * dx) (b + r * dy) e f (e + s * ex) (f + s * ey) := by
  have t1 : turn a b (a + r * dx) (b + r * dy) e f = r * (dx * (f - b) - dy * (e - a)) := turn_1
  have t2 : turn a b (a + r * dx) (b + r * dy) (e + s * ex) (f + s * ey) = r * (dx * (f - b + s * ey) - dy * (e - a + s * ex)) := by
    rw [turn_1, show f + s * ey - b = f - b + s * ey by omega, show e + s * ex - a = e - a + s * ex by omega]
  have t3 : turn e f (e + s * ex) (f + s * ey) a b = s * (ey * (e - a) - ex * (f - b)) := by
    rw [turn_1, show b - f = -(f - b) by omega, show a - e = -(e - a) by omega, neg_lin]
  have t4 : turn e f (e + s * ex) (f + s * ey) (a + r * dx) (b + r * dy) = s * (ey * (e - a - r * dx) - ex * (f - b - r * dy)) := by
    rw [turn_1, show b + r * dy - f = -(f - b - r * dy) by omega, show a + r * dx - e = -(e - a - r * dx) by omega, neg_lin]
  have q1 := sgn_mul (r := r) (L := dx * (f - b) - dy * (e - a)) hr
  have q2 := sgn_mul (r := r) (L := dx * (f - b + s * ey) - dy * (e - a + s * ex)) hr
  have q3 := sgn_mul (r := s) (L := ey * (e - a) - ex * (f - b)) hs
  have q4 := sgn_mul (r := s) (L := ey * (e - a - r * dx) - ex * (f - b - r * dy)) hs
  rw [← t1] at q1
  rw [← t2] at q2
  rw [← t3] at q3
  rw [← t4] at q4
  have hP : meetI a b (a + r * dx) (b + r * dy) e f (e + s * ex) (f + s * ey) ↔ segP r s (e - a) (f - b) dx dy ex ey := by
    unfold meetI segP
    refine and_congr ?_ (and_congr ?_ (and_congr (not_congr ?_) (not_congr ?_)))
    · unfold rmeet; omega
    · unfold rmeet; omega
    · unfold oneS one1; rw [q1.1, q1.2.1, q2.1, q2.2.1]
      constructor
      · rintro (⟨⟨h1, h2⟩, h3, h4⟩ | ⟨⟨h1, h2⟩, h3, h4⟩)
        · exact ⟨h1, Or.inl ⟨h2, h4⟩⟩
        · exact ⟨h1, Or.inr ⟨h2, h4⟩⟩
      · rintro ⟨h1, ⟨h2, h3⟩ | ⟨h2, h3⟩⟩
        · exact Or.inl ⟨⟨h1, h2⟩, h1, h3⟩
        · exact Or.inr ⟨⟨h1, h2⟩, h1, h3⟩
    · unfold oneS one1; rw [q3.1, q3.2.1, q4.1, q4.2.1]
      constructor
      · rintro (⟨⟨h1, h2⟩, h3, h4⟩ | ⟨⟨h1, h2⟩, h3, h4⟩)
        · exact ⟨h1, Or.inl ⟨h2, h4⟩⟩
        · exact ⟨h1, Or.inr ⟨h2, h4⟩⟩
      · rintro ⟨h1, ⟨h2, h3⟩ | ⟨h2, h3⟩⟩
        · exact Or.inl ⟨⟨h1, h2⟩, h1, h3⟩
        · exact Or.inr ⟨⟨h1, h2⟩, h1, h3⟩
  have hQ : crossI a b (a + r * dx) (b + r * dy) e f (e + s * ex) (f + s * ey) ↔ segQ r s (e - a) (f - b) dx dy ex ey := by
    unfold crossI segQ
    refine or_congr (and_congr ?_ ?_) (or_congr (and_congr ?_ ?_) (or_congr (and_congr ?_ ?_) (or_congr (and_congr ?_ ?_) (and_congr ?_ ?_))))
    · rw [side_prod]; unfold opp; rw [q1.1, q1.2.1, q2.1, q2.2.1]
      constructor
      · rintro (⟨⟨h1, h2⟩, h3, h4⟩ | ⟨⟨h1, h2⟩, h3, h4⟩)
        · exact ⟨h1, Or.inl ⟨h2, h4⟩⟩
        · exact ⟨h1, Or.inr ⟨h2, h4⟩⟩
      · rintro ⟨h1, ⟨h2, h3⟩ | ⟨h2, h3⟩⟩
        · exact Or.inl ⟨⟨h1, h2⟩, h1, h3⟩
        · exact Or.inr ⟨⟨h1, h2⟩, h1, h3⟩
    · rw [side_prod]; unfold opp; rw [q3.1, q3.2.1, q4.1, q4.2.1]
      constructor
      · rintro (⟨⟨h1, h2⟩, h3, h4⟩ | ⟨⟨h1, h2⟩, h3, h4⟩)
        · exact ⟨h1, Or.inl ⟨h2, h4⟩⟩
        · exact ⟨h1, Or.inr ⟨h2, h4⟩⟩
      · rintro ⟨h1, ⟨h2, h3⟩ | ⟨h2, h3⟩⟩
        · exact Or.inl ⟨⟨h1, h2⟩, h1, h3⟩
        · exact Or.inr ⟨⟨h1, h2⟩, h1, h3⟩
    · rw [side_zero]; exact q1.2.2
    · unfold boxP inb; omega
    · rw [side_zero]; exact q2.2.2
    · unfold boxP inb; omega
    · rw [side_zero]; exact q3.2.2
    · unfold boxP inb; omega
    · rw [side_zero]; exact q4.2.2
    · unfold boxP inb; omega
  rw [hP, hQ]
  exact heq
theorem seg_all {r s p q : Int} (hr : 0 ≤ r) (hs : 0 ≤ s) : ∀ (d1 d2 : Nat), d1 < 8 → d2 < 8 → (segP r s p q (dX d1) (dY d1) (dX d2) (dY d2) ↔ segQ r s p q (dX d1) (dY d1) (dX d2) (dY d2))
  | 0, 0, _, _ => seg_0_0 hr hs
  | 0, 1, _, _ => seg_0_1 hr hs
  | 0, 2, _, _ => seg_0_2 hr hs
  | 0, 3, _, _ => seg_0_3 hr hs
  | 0, 4, _, _ => seg_0_4 hr hs
  | 0, 5, _, _ => seg_0_5 hr hs
  | 0, 6, _, _ => seg_0_6 hr hs
  | 0, 7, _, _ => seg_0_7 hr hs
  | 1, 0, _, _ => seg_1_0 hr hs
  | 1, 1, _, _ => seg_1_1 hr hs
  | 1, 2, _, _ => seg_1_2 hr hs
  | 1, 3, _, _ => seg_1_3 hr hs
  | 1, 4, _, _ => seg_1_4 hr hs
  | 1, 5, _, _ => seg_1_5 hr hs
  | 1, 6, _, _ => seg_1_6 hr hs
  | 1, 7, _, _ => seg_1_7 hr hs
  | 2, 0, _, _ => seg_2_0 hr hs
  | 2, 1, _, _ => seg_2_1 hr hs
  | 2, 2, _, _ => seg_2_2 hr hs
  | 2, 3, _, _ => seg_2_3 hr hs
  | 2, 4, _, _ => seg_2_4 hr hs
  | 2, 5, _, _ => seg_2_5 hr hs
  | 2, 6, _, _ => seg_2_6 hr hs
  | 2, 7, _, _ => seg_2_7 hr hs
  | 3, 0, _, _ => seg_3_0 hr hs
  | 3, 1, _, _ => seg_3_1 hr hs
  | 3, 2, _, _ => seg_3_2 hr hs
  | 3, 3, _, _ => seg_3_3 hr hs
  | 3, 4, _, _ => seg_3_4 hr hs
  | 3, 5, _, _ => seg_3_5 hr hs
  | 3, 6, _, _ => seg_3_6 hr hs
  | 3, 7, _, _ => seg_3_7 hr hs
  | 4, 0, _, _ => seg_4_0 hr hs
  | 4, 1, _, _ => seg_4_1 hr hs
  | 4, 2, _, _ => seg_4_2 hr hs
  | 4, 3, _, _ => seg_4_3 hr hs
  | 4, 4, _, _ => seg_4_4 hr hs
  | 4, 5, _, _ => seg_4_5 hr hs
  | 4, 6, _, _ => seg_4_6 hr hs
  | 4, 7, _, _ => seg_4_7 hr hs
  | 5, 0, _, _ => seg_5_0 hr hs
  | 5, 1, _, _ => seg_5_1 hr hs
  | 5, 2, _, _ => seg_5_2 hr hs
  | 5, 3, _, _ => seg_5_3 hr hs
  | 5, 4, _, _ => seg_5_4 hr hs
  | 5, 5, _, _ => seg_5_5 hr hs
  | 5, 6, _, _ => seg_5_6 hr hs
  | 5, 7, _, _ => seg_5_7 hr hs
  | 6, 0, _, _ => seg_6_0 hr hs
  | 6, 1, _, _ => seg_6_1 hr hs
  | 6, 2, _, _ => seg_6_2 hr hs
  | 6, 3, _, _ => seg_6_3 hr hs
  | 6, 4, _, _ => seg_6_4 hr hs
  | 6, 5, _, _ => seg_6_5 hr hs
  | 6, 6, _, _ => seg_6_6 hr hs
  | 6, 7, _, _ => seg_6_7 hr hs
  | 7, 0, _, _ => seg_7_0 hr hs
  | 7, 1, _, _ => seg_7_1 hr hs
  | 7, 2, _, _ => seg_7_2 hr hs
  | 7, 3, _, _ => seg_7_3 hr hs
  | 7, 4, _, _ => seg_7_4 hr hs
  | 7, 5, _, _ => seg_7_5 hr hs
  | 7, 6, _, _ => seg_7_6 hr hs
  | 7, 7, _, _ => seg_7_7 hr hs
  | n + 8, _, h, _ => absurd h (by omega)
  | _, n + 8, _, h => absurd h (by omega)
theorem meet_crossN {hm : Nat} {A : Rw} {k i h : Nat} (hI : RowOK hm A) (hk : k < nv A 6) (hi : i < nv A 6) :
    meetI (nv A (70 + 9 * k)) (nv A (70 + 9 * k + 1)) (xAf A k (reachN A k h) h) (yAf A k (reachN A k h) h) (nv A (70 + 9 * i)) (nv A (70 + 9 * i + 1)) (xAf A i (reachN A i h) h) (yAf A i (reachN A i h) h) ↔ crossN A k i h := by
  unfold crossN xAf yAf
  exact cross_seg (Int.natCast_nonneg _) (Int.natCast_nonneg _) (seg_all (Int.natCast_nonneg _) (Int.natCast_nonneg _) _ _ (dirN_lt hI (zoneN_lt hI hk) h) (dirN_lt hI (zoneN_lt hI hi) h))
