/-! ===== the output text ===== -/
theorem b8 {n : Nat} (h : n < 128) : (nI n).toInt8.toInt32 = nI n := by
  have e : (nI n).toInt8.toInt32.toInt = (nI n).toInt := by
    rw [Int8.toInt_toInt32, Int32.toInt_toInt8, nI_toInt (by omega)]
    show Int.bmod (n : Int) (2 ^ 8) = n
    rw [Int.bmod_eq_of_le (by omega) (by omega)]
  exact Int32.toInt_inj.mp e
/-- the bytes, and how many -/
abbrev Ob : Type := Rw × Nat
def putB (S : Ob) (b : Nat) : Ob := (upd S.1 S.2 (nI b), S.2 + 1)
def powF (n : Nat) : Nat → Nat → Nat
  | 0, p => p
  | f + 1, p => if 9 < n / p then powF n f (p * 10) else p
def digF (n : Nat) : Nat → Ob → Nat → Ob
  | 0, S, _ => S
  | f + 1, S, p => if 0 < p then digF n f (putB S (48 + n / p % 10)) (p / 10) else S
def numB (S : Ob) (n : Nat) : Ob := digF n 7 S (powF n 7 1)
def wpB (A : Rw) (k : Nat) (S : Ob) : Ob :=
  numB (putB (numB (putB (numB (if 0 < k then putB S 32 else S) (nv A (214 + 3 * k))) 58) (nv A (214 + 3 * k + 1))) 43) (nv A (214 + 3 * k + 2))
def wpF (A : Rw) (S : Ob) : Nat → Ob
  | 0 => S
  | k + 1 => wpB A k (wpF A S k)
theorem pow_cases {n : Nat} (h : n ≤ 999999) : (n < 10 ∧ powF n 7 1 = 1) ∨ (10 ≤ n ∧ n < 100 ∧ powF n 7 1 = 10) ∨ (100 ≤ n ∧ n < 1000 ∧ powF n 7 1 = 100) ∨ (1000 ≤ n ∧ n < 10000 ∧ powF n 7 1 = 1000) ∨ (10000 ≤ n ∧ n < 100000 ∧ powF n 7 1 = 10000) ∨ (100000 ≤ n ∧ powF n 7 1 = 100000) := by
  have st : ∀ f p, powF n (f + 1) p = if 9 < n / p then powF n f (p * 10) else p := fun _ _ => rfl
  by_cases h1 : n < 10
  · exact Or.inl ⟨h1, by rw [st, if_neg (by omega)]⟩
  refine Or.inr ?_
  by_cases h2 : n < 100
  · exact Or.inl ⟨by omega, h2, by rw [st, if_pos (by omega), st, if_neg (by omega)]⟩
  refine Or.inr ?_
  by_cases h3 : n < 1000
  · exact Or.inl ⟨by omega, h3, by rw [st, if_pos (by omega), st, if_pos (by omega), st, if_neg (by omega)]⟩
  refine Or.inr ?_
  by_cases h4 : n < 10000
  · exact Or.inl ⟨by omega, h4, by rw [st, if_pos (by omega), st, if_pos (by omega), st, if_pos (by omega), st, if_neg (by omega)]⟩
  refine Or.inr ?_
  by_cases h5 : n < 100000
  · exact Or.inl ⟨by omega, h5, by rw [st, if_pos (by omega), st, if_pos (by omega), st, if_pos (by omega), st, if_pos (by omega), st, if_neg (by omega)]⟩
  exact Or.inr ⟨by omega, by rw [st, if_pos (by omega), st, if_pos (by omega), st, if_pos (by omega), st, if_pos (by omega), st, if_pos (by omega), st, if_neg (by omega)]⟩
theorem dig_s (n f : Nat) (S : Ob) (p : Nat) (h : 0 < p) : digF n (f + 1) S p = digF n f (putB S (48 + n / p % 10)) (p / 10) := if_pos h
theorem dig_0 (n f : Nat) (S : Ob) : digF n f S 0 = S := by
  cases f with
  | zero => rfl
  | succ f => exact if_neg (by omega)
theorem num_len {n : Nat} (h : n ≤ 999999) (S : Ob) : S.2 + 1 ≤ (numB S n).2 ∧ (numB S n).2 ≤ S.2 + 6 ∧ (n < 100 → (numB S n).2 ≤ S.2 + 2) := by
  unfold numB
  have l : ∀ b, (putB S b).2 = S.2 + 1 := fun _ => rfl
  have l2 : ∀ (T : Ob) b, (putB T b).2 = T.2 + 1 := fun _ _ => rfl
  rcases pow_cases h with ⟨h1, e⟩ | ⟨h1, h2, e⟩ | ⟨h1, h2, e⟩ | ⟨h1, h2, e⟩ | ⟨h1, h2, e⟩ | ⟨h1, e⟩ <;> rw [e]
  · rw [dig_s _ _ _ _ (by decide), show 1 / 10 = 0 from rfl, dig_0]; simp only [l2]; omega
  · rw [dig_s _ _ _ _ (by decide), show 10 / 10 = 1 from rfl, dig_s _ _ _ _ (by decide), show 1 / 10 = 0 from rfl, dig_0]; simp only [l2]; omega
  · rw [dig_s _ _ _ _ (by decide), show 100 / 10 = 10 from rfl, dig_s _ _ _ _ (by decide), show 10 / 10 = 1 from rfl, dig_s _ _ _ _ (by decide), show 1 / 10 = 0 from rfl, dig_0]; simp only [l2]; omega
  · rw [dig_s _ _ _ _ (by decide), show 1000 / 10 = 100 from rfl, dig_s _ _ _ _ (by decide), show 100 / 10 = 10 from rfl, dig_s _ _ _ _ (by decide), show 10 / 10 = 1 from rfl, dig_s _ _ _ _ (by decide), show 1 / 10 = 0 from rfl, dig_0]; simp only [l2]; omega
  · rw [dig_s _ _ _ _ (by decide), show 10000 / 10 = 1000 from rfl, dig_s _ _ _ _ (by decide), show 1000 / 10 = 100 from rfl, dig_s _ _ _ _ (by decide), show 100 / 10 = 10 from rfl, dig_s _ _ _ _ (by decide), show 10 / 10 = 1 from rfl, dig_s _ _ _ _ (by decide), show 1 / 10 = 0 from rfl, dig_0]; simp only [l2]; omega
  · rw [dig_s _ _ _ _ (by decide), show 100000 / 10 = 10000 from rfl, dig_s _ _ _ _ (by decide), show 10000 / 10 = 1000 from rfl, dig_s _ _ _ _ (by decide), show 1000 / 10 = 100 from rfl, dig_s _ _ _ _ (by decide), show 100 / 10 = 10 from rfl, dig_s _ _ _ _ (by decide), show 10 / 10 = 1 from rfl, dig_s _ _ _ _ (by decide), show 1 / 10 = 0 from rfl, dig_0]; simp only [l2]; omega
/-- the reference's output -/
def setO (σ : Mem) (S : Ob) : Mem := wr (wrC σ 13 5 S.1) 13 0 11 (nI S.2)
theorem setO_id {σ : Mem} {O : Nat} (h : rd σ 13 0 11 = nI O) : setO σ (rd σ 13 5, O) = σ := by
  unfold setO
  rw [wrC_id]
  exact wr_id h
theorem setO_rd0 {σ : Mem} {S : Ob} : rd (setO σ S) 13 0 11 = nI S.2 := rd_wr_s
theorem setO_row {σ : Mem} {S : Ob} : rd (setO σ S) 13 1 = rd σ 13 1 := by
  unfold setO
  rw [rd_wr_cell (by decide), rd_wrC_cell (by decide)]
theorem setO_put {σ : Mem} {S : Ob} {b : Nat} : wr (wr (setO σ S) 13 0 11 (nI (S.2 + 1))) 13 5 S.2 (nI b) = setO σ (putB S b) := by
  refine mem_ext (fun a c d => ?_) (fun _ => rfl)
  unfold setO putB upd
  simp only [rd_wr, rd_wrC]
  by_cases h1 : a = 13 ∧ c = 5
  · obtain ⟨rfl, rfl⟩ := h1
    by_cases h2 : d = S.2
    · subst h2; simp
    · simp [h2]
  · rw [if_neg (fun q => h1 ⟨q.1, q.2.1⟩), if_neg h1, if_neg h1]
    by_cases h2 : a = 13 ∧ c = 0 ∧ d = 11
    · rw [if_pos h2, if_pos h2]
    · rw [if_neg h2, if_neg h2, if_neg h2]
theorem setO_putC {σ : Mem} {S : Ob} {b : Nat} (hb : b < 128) : wr (wr (setO σ S) 13 0 11 (nI (S.2 + 1))) 13 5 S.2 (nI b).toInt8.toInt32 = setO σ (putB S b) := by rw [b8 hb]; exact setO_put
theorem setO_putD {σ : Mem} {S : Ob} {b : Nat} (hb : b < 128) : wr (wr (setO σ S) 13 0 11 (nI (S.2 + 1))) 13 5 S.2 (nI b).toInt8.toInt32.toInt8.toInt32 = setO σ (putB S b) := by rw [b8 hb, b8 hb]; exact setO_put
theorem wpB_len {hm : Nat} {A : Rw} (h : RowOK hm A) {k : Nat} (hk : k < nv A 11) (S : Ob) : (wpB A k S).2 ≤ S.2 + 13 := by
  have h1 := (r_PK h hk).2
  have h2 := (r_NK h).2
  have h3 := r_PS h hk
  have h4 := r_PD h hk
  have l2 : ∀ (T : Ob) b, (putB T b).2 = T.2 + 1 := fun _ _ => rfl
  have q0 : (if 0 < k then putB S 32 else S).2 ≤ S.2 + 1 := by
    split
    · exact Nat.le_refl _
    · exact Nat.le_succ _
  have q1 := num_len (n := nv A (214 + 3 * k)) (by omega) (if 0 < k then putB S 32 else S)
  have q2 := num_len (n := nv A (214 + 3 * k + 1)) (by omega) (putB (numB (if 0 < k then putB S 32 else S) (nv A (214 + 3 * k))) 58)
  have q3 := num_len (n := nv A (214 + 3 * k + 2)) (by omega) (putB (numB (putB (numB (if 0 < k then putB S 32 else S) (nv A (214 + 3 * k))) 58) (nv A (214 + 3 * k + 1))) 43)
  unfold wpB
  simp only [l2] at q2 q3
  have e1 := q1.2.2 (by omega)
  have e3 := q3.2.2 (by omega)
  omega
theorem wpF_len {hm : Nat} {A : Rw} (h : RowOK hm A) (S : Ob) : ∀ k, k ≤ nv A 11 → (wpF A S k).2 ≤ S.2 + 13 * k
  | 0, _ => Nat.le_refl _
  | k + 1, hk => by
    have h1 := wpF_len h S k (by omega)
    have h2 := wpB_len h (k := k) (by omega) (wpF A S k)
    show (wpB A k (wpF A S k)).2 ≤ _
    omega
theorem pow_st {n g p : Nat} (h : 9 < n / p) : powF n (g + 1) p = powF n g (p * 10) := if_pos h
theorem pow_en {n f p : Nat} (h : ¬ 9 < n / p) : powF n f p = p := by
  cases f with
  | zero => rfl
  | succ f => exact if_neg h
theorem div9 {n p : Nat} (hp : 0 < p) (h : 9 < n / p) : p * 10 ≤ n := by
  have := (Nat.le_div_iff_mul_le hp).mp (show 10 ≤ n / p from h)
  omega
