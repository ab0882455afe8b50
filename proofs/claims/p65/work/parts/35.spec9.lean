/-! ===== ring, snapshots, text ===== -/
theorem takeP_rd0 {σ : Mem} {r k : Nat} : rd (takeP σ r k) 13 0 = rd σ 13 0 := rd_wrC_cell (by decide)
theorem takeP_rd1 {σ : Mem} {r k j : Nat} (h : j < k) : rd (takeP σ r k) 13 1 j = rowOf σ r j := by
  unfold takeP
  rw [rd_wrC_s, if_pos h]
  rfl
theorem rowOf_act {σ : Mem} {f u r j : Nat} (hr : 8 ≤ r) : rowOf (actM σ f u) r j = rowOf σ r j := by
  unfold rowOf actM putP
  have h8 : (f + u) % 8 < 8 := Nat.mod_lt _ (by decide)
  rw [rd_wrC_s, if_neg (by omega), rd_wr_cell (by decide), rd_wr_cell (by decide)]
theorem rowOf_put {σ : Mem} {r j : Nat} (hj : j < 304) : rowOf (putP σ r 304) r j = rd σ 13 1 j := by
  unfold rowOf putP
  rw [rd_wrC_s, if_pos (by omega), show r * 304 + j - r * 304 = j by omega]
theorem rowOf_put_ne {σ : Mem} {r r' j : Nat} (hj : j < 304) (h : r' ≠ r) : rowOf (putP σ r 304) r' j = rowOf σ r' j := by
  unfold rowOf putP
  rw [rd_wrC_s, if_neg ?_]
  rcases Nat.lt_or_ge r' r with g | g
  · have : (r' + 1) * 304 ≤ r * 304 := Nat.mul_le_mul_right _ g
    omega
  · have : (r + 1) * 304 ≤ r' * 304 := Nat.mul_le_mul_right _ (by omega)
    omega
theorem putP_rd8 {σ : Mem} {r k : Nat} : rd (putP σ r k) 13 8 = rd σ 13 8 := rd_wrC_cell (by decide)
/-- four bytes -/
def bt (v : Int32) (i : Nat) : Int32 := (v.toUInt32 >>> ((iI (24 - 8 * (i : Int))).toUInt32 &&& Int32.toUInt32 31)).toInt32.toInt8.toInt32.toInt8.toInt32
def fourP (σ : Mem) (v : Int32) (L i : Nat) : Mem := wr (wrC σ 13 4 (fun j => if L ≤ j ∧ j < L + i then bt v (j - L) else rd σ 13 4 j)) 13 0 6 (nI (L + i))
theorem fourP_0 {σ : Mem} {v : Int32} {L : Nat} (h : rd σ 13 0 6 = nI L) : fourP σ v L 0 = σ := by
  unfold fourP
  rw [wrC_self (fun j => if_neg (by omega))]
  exact wr_id h
theorem fourP_s {σ : Mem} {v : Int32} {L i : Nat} : wr (wr (fourP σ v L i) 13 0 6 (nI (L + i + 1))) 13 4 (L + i) (bt v i) = fourP σ v L (i + 1) := by
  refine mem_ext (fun a b d => ?_) (fun _ => rfl)
  unfold fourP
  simp only [rd_wr, rd_wrC]
  by_cases h1 : a = 13 ∧ b = 4 ∧ d = L + i
  · obtain ⟨rfl, rfl, rfl⟩ := h1
    simp [show L ≤ L + i ∧ L + i < L + (i + 1) by omega]
  · rw [if_neg h1]
    by_cases h2 : a = 13 ∧ b = 0 ∧ d = 6
    · rw [if_pos h2, if_pos h2]
      rfl
    · rw [if_neg h2, if_neg h2, if_neg h2]
      by_cases h3 : a = 13 ∧ b = 4
      · rw [if_pos h3, if_pos h3]
        obtain ⟨rfl, rfl⟩ := h3
        by_cases h4 : L ≤ d ∧ d < L + i
        · rw [if_pos h4, if_pos (by omega)]
        · rw [if_neg h4, if_neg (by omega)]
      · rw [if_neg h3, if_neg h3]
theorem fourP_6 {σ : Mem} {v : Int32} {L i : Nat} : rd (fourP σ v L i) 13 0 6 = nI (L + i) := rd_wr_s
noncomputable def aAp (L : Nat) : Nat × Int32 := chk (L + 20 ≤ 500) 1 (0, nI (L + 20))
def appM (σ : Mem) (L : Nat) (a b c d e : Int32) : Mem := fourP (fourP (fourP (fourP (fourP σ a L 4) b (L + 4) 4) c (L + 8) 4) d (L + 12) 4) e (L + 16) 4
noncomputable def aTr (L : Nat) (x : Int32) : Nat × Int32 := chk (okN 0 L x) 1 (0, x)
noncomputable def aOB (O : Nat) (B : Nat → Int32) (x : Int32) : Int32 := @ite _ (∃ k : Nat, x = nI k ∧ k < O) (Classical.propDecidable _) (B (cl x)) (-1)
theorem aOB_t {O : Nat} {B : Nat → Int32} {k : Nat} (hk : k < O) (h31 : k < 2 ^ 31) : aOB O B (nI k) = B k := by
  unfold aOB
  rw [if_pos ⟨k, rfl, hk⟩, cl_n h31]
theorem aOB_f {O : Nat} {B : Nat → Int32} {x : Int32} (h : ¬ ∃ k : Nat, x = nI k ∧ k < O) : aOB O B x = -1 := by
  unfold aOB
  rw [if_neg h]
theorem fourP_r {σ : Mem} {v : Int32} {L i : Nat} : wr (wr (fourP σ v L i) 13 0 6 (nI (L + i + 1))) 13 4 (L + i) (v.toUInt32 >>> ((iI (24 - 8 * (i : Int))).toUInt32 &&& Int32.toUInt32 31)).toInt32.toInt8.toInt32.toInt8.toInt32 = fourP σ v L (i + 1) := fourP_s
