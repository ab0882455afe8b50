/-! ===== steps of the grammar; what a reading changes, step by step ===== -/
theorem PF_wr2 {a b : Mem} {o c j : Nat} {v : Int32} (h : PF a b) : PF (wr a o c j v) (wr b o c j v) := ⟨fun o' c' j' q => by
  rw [rd_wr, rd_wr]
  split
  · rfl
  · exact h.1 o' c' j' q, h.2⟩
theorem PG_step {σ τ τ2 : Mem} {B B' : Rw} (h : PG (setA σ B) τ) (h2 : PG (setA τ B') τ2) : PG (setA σ B') τ2 := by
  have h3 := PG_setA (A := B') h
  rw [setA_setA] at h3
  exact PG_tr h3 h2
theorem PG_row {σ τ : Mem} {B : Rw} (h : PG (setA σ B) τ) : rd τ 13 1 = B := (PG_1 h).trans rd_setA
theorem atR_setA {σ : Mem} {A : Rw} {a : Nat} (h : atR σ a) : atR (setA σ A) a := (congrFun (rd_setA_ne (by decide)) 16).trans h
theorem h17_setA {σ : Mem} {A : Rw} {x : Int32} (h : rd σ 13 0 17 = x) : rd (setA σ A) 13 0 17 = x := (congrFun (rd_setA_ne (by decide)) 17).trans h
theorem pW_2a {t : Nat → Nat} {L m a : Nat} {A : Rw} (hm : m ≤ 6) (h2 : kdT t L (skip t L a) = 2) (h7 : ¬ numT t L (skip t L a) ≤ 7) : pWinds t L (8 - m) A a m = .inl (2, skip t L a) := by
  rw [show 8 - m = (7 - m) + 1 by omega]
  unfold pWinds
  rw [if_pos h2, if_pos h7]
theorem pW_2b {t : Nat → Nat} {L m a : Nat} {A : Rw} (hm : m = 6) (h2 : kdT t L (skip t L a) = 2) (h7 : numT t L (skip t L a) ≤ 7) : pWinds t L (8 - m) A a m = .inl (3, skip t L a) := by
  rw [show 8 - m = (7 - m) + 1 by omega]
  unfold pWinds
  rw [if_pos h2, if_neg (fun q => q h7), if_pos hm]
theorem pW_2c {t : Nat → Nat} {L m a : Nat} {A : Rw} (hm : m < 6) (h2 : kdT t L (skip t L a) = 2) (h7 : numT t L (skip t L a) ≤ 7) :
    pWinds t L (8 - m) A a m = bnd (pNum t L 0 9 (endT t L (skip t L a))) (fun r => pWinds t L (8 - (m + 1)) (windA A (nI (numT t L (skip t L a))) (nI r.2)) r.1 (m + 1)) := by
  rw [show 8 - m = (8 - (m + 1)) + 1 by omega]
  show (if _ then _ else _) = _
  rw [if_pos h2, if_neg (fun q => q h7), if_neg (by omega)]
theorem pW_3 {t : Nat → Nat} {L m a : Nat} {A : Rw} (hm : m ≤ 6) (hm0 : m ≠ 0) (h3 : kdT t L (skip t L a) = 3) : pWinds t L (8 - m) A a m = .inr (A, endT t L (skip t L a)) := by
  rw [show 8 - m = (7 - m) + 1 by omega]
  unfold pWinds
  rw [if_neg (by omega), if_pos ⟨hm0, h3⟩]
theorem pW_1 {t : Nat → Nat} {L m a : Nat} {A : Rw} (hm : m ≤ 6) (h2 : ¬ kdT t L (skip t L a) = 2) (h3 : ¬ (m ≠ 0 ∧ kdT t L (skip t L a) = 3)) : pWinds t L (8 - m) A a m = .inl (1, skip t L a) := by
  rw [show 8 - m = (7 - m) + 1 by omega]
  unfold pWinds
  rw [if_neg h2, if_neg h3]
def clr0 (A : Rw) : Rw := fun j => if j < 304 then 0 else A j
theorem clrP_set {σ : Mem} : clrP σ 304 = setA σ (clr0 (rd σ 13 1)) := rfl
