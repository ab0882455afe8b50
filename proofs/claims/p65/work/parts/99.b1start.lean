/-! ===== p65: the row of the first office, and what the law holds of the memory ===== -/
def L65 : List Nat := [40, 30, 2, 10, 2, 2, 4, 0, 0, 0, 120, 0, 2, 2, 3, 0, 5, 0, 0, 0, 0, 0, 0, 0, 0, 1, 6, 4, 0, 0, 0, 0, 0, 0, 0, 0, 0, 0, 0, 0, 0, 0, 0, 0, 0, 0, 0, 0, 0, 0, 0, 0, 0, 0, 0, 0, 0, 0, 0, 0, 0, 0, 0, 0, 2, 1, 0, 0, 0, 0,
  5, 10, 10, 0, 0, 50, 0, 0, 0, 15, 8, 10, 0, 1, 40, 0, 0, 0, 34, 10, 15, 1, 1, 30, 0, 0, 0, 22, 10, 20, 0, 0, 0, 0, 0, 0]
def A65 : Nat → Int32 := fun j => nI (L65.getD j 0)
def M65 : Mem := wr fO12 12 5 3 (-1)
set_option maxRecDepth 100000 in
theorem a65_ok : RowOK 0 A65 := by
  unfold RowOK isN
  exact ⟨by decide +kernel, by decide +kernel, by decide +kernel, by decide +kernel, by decide +kernel, by decide +kernel, by decide +kernel, by decide +kernel, by decide +kernel, by decide +kernel, by decide +kernel, by decide +kernel, by decide +kernel⟩
set_option maxRecDepth 100000 in
theorem a65_at : OAt M65 0 A65 := by
  unfold OAt
  decide +kernel
theorem a65_6 : nv A65 6 = 4 := by decide +kernel
theorem a65_11 : nv A65 11 = 0 := by decide +kernel
set_option maxRecDepth 100000 in
theorem a65_st : ∀ k, k < 4 → nv A65 (70 + 9 * k + 6) = 0 := by decide +kernel
set_option maxRecDepth 100000 in
theorem a65_inv : SInv 120 0 A65 := by
  refine ⟨a65_ok, ?_, ?_, ?_, fun k hk => ?_, ⟨fun p hp => ?_, fun p q hpq hq => ?_, fun c hc h hh => ?_⟩, fun p hp => ?_⟩
  · unfold FixI
    decide +kernel
  · unfold CoinI
    exact ⟨by decide +kernel, by decide +kernel, by decide +kernel, by decide +kernel, by decide +kernel⟩
  · unfold TangI
    decide +kernel
  · rw [a65_6] at hk
    rw [a65_st k hk]
    exact ⟨fun q => by omega, fun q => by omega⟩
  · rw [a65_11] at hp
    omega
  · rw [a65_11] at hq
    omega
  · unfold usedN
    rw [a65_11]
    exact Nat.zero_le _
  · rw [a65_11] at hp
    omega
def LAY5 (w : Lay) : Prop := LK w ∧ ∀ o, o < 12 → LO w o
/-- the memory between two calls: the row, the ring's place and count, nobody caught -/
def LSt (σ : Mem) (c hm : Nat) (A : Nat → Int32) (px u : Nat) : Prop := OAt σ 0 A ∧ SInv c hm A ∧ px < 8 ∧ u ≤ 8 ∧ rd σ 12 1 2 = nI px ∧ rd σ 12 1 1 = nI u ∧ ∀ k, k < 16 → rd σ 0 21 k = 0
theorem LSt_ch {σ σ' : Mem} {c hm c' hm' px u : Nat} {A B : Nat → Int32} (h : LSt σ c hm A px u) (hc : ChR σ σ' px u B) (hB : SInv c' hm' B) : LSt σ' c' hm' B ((px + 1) % 8) (min (u + 1) 8) := by
  obtain ⟨h1, h2, h3, h4, h5, h6, h7⟩ := h
  obtain ⟨τ, t1, t2, t3⟩ := hc
  refine ⟨t3, hB, Nat.mod_lt _ (by decide), by omega, ?_, ?_, t2.2.2 ?_⟩
  · rw [t2.1 12 1 (by decide)]
    exact t1.2.2.2.1
  · rw [t2.1 12 1 (by decide)]
    exact t1.2.2.2.2.1
  · rw [Hst_21 t1]
    exact h7
set_option maxRecDepth 100000 in
theorem LSt_start : LSt M65 120 0 A65 0 0 := ⟨a65_at, a65_inv, by decide, by decide, by decide +kernel, by decide +kernel, by decide +kernel⟩
