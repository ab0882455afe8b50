/-! ===== more of what is answered ===== -/
noncomputable def stN (A : Nat → Int32) (st : Nat) : Nat := cnt (fun k => nv A (70 + 9 * k + 6) = st) (nv A 6)
noncomputable def guiltN (A : Nat → Int32) (k i : Nat) : Nat :=
  @ite Nat (permN A k (nv A 7) ∧ ¬ permN A i (nv A 7)) (Classical.propDecidable _) i (@ite Nat (¬ permN A k (nv A 7) ∧ permN A i (nv A 7)) (Classical.propDecidable _) k (if A (70 + 9 * i + 8) < A (70 + 9 * k + 8) then k else i))
def canL (A : Nat → Int32) (k : Nat) : Prop := nv A (70 + 9 * k + 6) = 0 ∧ fliesN A k (nv A 7)
def canR (A : Nat → Int32) (k : Nat) : Prop := nv A (70 + 9 * k + 6) = 2 ∧ nI (2 * nv A (70 + 9 * k + 4)) ≤ A (70 + 9 * k + 5)
theorem inWay_rng {hm : Nat} {A : Nat → Int32} (h : RowOK hm A) (k s d : Nat) : -1 ≤ inWay A k s d ∧ inWay A k s d < 16 := by
  have h1 := r_NK h
  exact leastI_rng (n := 16) (fun i ⟨_, _, _, hi⟩ => by have := hi.1; omega)
theorem refuse_le (A : Nat → Int32) (k s d : Nat) : refuse A k s d ≤ 7 := by
  unfold refuse
  repeat' split
  all_goals omega
theorem Qn {Q : Lay → Option Value → Mem → Prop} {w : Lay} {σ : Mem} {a b : Nat} (e : a = b) (h : Q w (some (.int (nI a))) σ) : Q w (some (.int (nI b))) σ := e ▸ h
theorem guiltN_a {A : Nat → Int32} {k i : Nat} (p : permN A k (nv A 7)) (q : ¬ permN A i (nv A 7)) : guiltN A k i = i := by
  unfold guiltN
  exact if_pos ⟨p, q⟩
theorem guiltN_b {A : Nat → Int32} {k i : Nat} (p : ¬ permN A k (nv A 7)) (q : permN A i (nv A 7)) : guiltN A k i = k := by
  unfold guiltN
  rw [if_neg (fun h => p h.1), if_pos ⟨p, q⟩]
theorem guiltN_c {A : Nat → Int32} {k i : Nat} (p : permN A k (nv A 7) ↔ permN A i (nv A 7)) (q : ¬ A (70 + 9 * k + 8) ≤ A (70 + 9 * i + 8)) : guiltN A k i = k := by
  unfold guiltN
  rw [if_neg (fun h => h.2 (p.mp h.1)), if_neg (fun h => h.1 (p.mpr h.2)), if_pos (by rw [Int32.lt_iff_toInt_lt]; rw [Int32.le_iff_toInt_le] at q; omega)]
theorem guiltN_d {A : Nat → Int32} {k i : Nat} (p : permN A k (nv A 7) ↔ permN A i (nv A 7)) (q : A (70 + 9 * k + 8) ≤ A (70 + 9 * i + 8)) : guiltN A k i = i := by
  unfold guiltN
  rw [if_neg (fun h => h.2 (p.mp h.1)), if_neg (fun h => h.1 (p.mpr h.2)), if_neg (by rw [Int32.lt_iff_toInt_lt]; rw [Int32.le_iff_toInt_le] at q; omega)]
theorem guiltN_or (A : Nat → Int32) (k i : Nat) : guiltN A k i = k ∨ guiltN A k i = i := by
  unfold guiltN
  repeat' split
  all_goals first | exact Or.inl rfl | exact Or.inr rfl
