/-! ===== an office of the class holds a row ===== -/
def OAt (σ : Mem) (o : Nat) (A : Rw) : Prop :=
  (rd σ o 0 3 = A 7 ∧ rd σ o 0 4 = A 9 ∧ rd σ o 0 5 = A 10) ∧
  (rd σ o 1 0 = A 0 ∧ rd σ o 1 1 = A 1 ∧ rd σ o 1 2 = A 2 ∧ rd σ o 1 3 = A 3 ∧ rd σ o 1 4 = A 4 ∧ rd σ o 1 8 = A 5) ∧
  (∀ z, z < nv A 4 → rd σ o 2 z = A (12 + 13 * z) ∧ ∀ j, j < nv A (12 + 13 * z) → rd σ o 3 (z * 6 + j) = A (12 + 13 * z + 1 + 2 * j) ∧ rd σ o 4 (z * 6 + j) = A (12 + 13 * z + 2 + 2 * j)) ∧
  (∀ c, c < nv A 5 → rd σ o 5 c = A (64 + c)) ∧ (rd σ o 6 0 = A 6 ∧ rd σ o 6 1 = A 8) ∧
  (∀ k, k < nv A 6 → rd σ o 7 k = A (70 + 9 * k) ∧ rd σ o 8 k = A (70 + 9 * k + 1) ∧ rd σ o 9 k = nI (zoneN A k) ∧ rd σ o 10 k = A (70 + 9 * k + 2) ∧ rd σ o 11 k = A (70 + 9 * k + 3) ∧ rd σ o 12 k = A (70 + 9 * k + 4) ∧ rd σ o 13 k = A (70 + 9 * k + 5) ∧ rd σ o 14 k = A (70 + 9 * k + 6) ∧ rd σ o 15 k = A (70 + 9 * k + 8) ∧ rd σ o 16 k = A (70 + 9 * k + 7)) ∧
  rd σ o 17 0 = A 11 ∧ (∀ p, p < nv A 11 → rd σ o 18 p = A (214 + 3 * p) ∧ rd σ o 19 p = A (214 + 3 * p + 1) ∧ rd σ o 20 p = A (214 + 3 * p + 2))
section OA
variable {σ : Mem} {o : Nat} {A : Rw} {hm : Nat}
theorem o_HOUR (h : OAt σ o A) (hI : RowOK hm A) : rd σ o 0 3 = nI (nv A 7) := h.1.1.trans (r_HOUR hI).1
theorem o_W (h : OAt σ o A) (hI : RowOK hm A) : rd σ o 1 0 = nI (nv A 0) := h.2.1.1.trans (r_W hI).1
theorem o_H (h : OAt σ o A) (hI : RowOK hm A) : rd σ o 1 1 = nI (nv A 1) := h.2.1.2.1.trans (r_H hI).1
theorem o_FEE (h : OAt σ o A) (hI : RowOK hm A) : rd σ o 1 2 = nI (nv A 2) := h.2.1.2.2.1.trans (r_FEE hI).1
theorem o_FINE (h : OAt σ o A) (hI : RowOK hm A) : rd σ o 1 3 = nI (nv A 3) := h.2.1.2.2.2.1.trans (r_FINE hI).1
theorem o_NZ (h : OAt σ o A) (hI : RowOK hm A) : rd σ o 1 4 = nI (nv A 4) := h.2.1.2.2.2.2.1.trans (r_NZ hI).1
theorem o_NC (h : OAt σ o A) (hI : RowOK hm A) : rd σ o 1 8 = nI (nv A 5) := h.2.1.2.2.2.2.2.trans (r_NC hI).1
theorem o_ZC (h : OAt σ o A) (hI : RowOK hm A) {z : Nat} (hz : z < nv A 4) : rd σ o 2 z = nI (nv A (12 + 13 * z)) := (h.2.2.1 z hz).1.trans (r_ZC hI hz).1
theorem o_D (h : OAt σ o A) (hI : RowOK hm A) {z : Nat} (hz : z < nv A 4) (t : Nat) : rd σ o 3 (z * 6 + widx A z t) = nI (dirN A z t) := ((h.2.2.1 z hz).2 _ (widx_lt hI hz t)).1.trans (r_D hI hz (widx_lt hI hz t)).1
theorem o_F (h : OAt σ o A) (hI : RowOK hm A) {z : Nat} (hz : z < nv A 4) (t : Nat) : rd σ o 4 (z * 6 + widx A z t) = nI (frcN A z t) := ((h.2.2.1 z hz).2 _ (widx_lt hI hz t)).2.trans (r_F hI hz (widx_lt hI hz t)).1
theorem o_Q (h : OAt σ o A) (hI : RowOK hm A) {c : Nat} (hc : c < nv A 5) : rd σ o 5 c = nI (nv A (64 + c)) := (h.2.2.2.1 c hc).trans (r_Q hI hc).1
theorem o_NK (h : OAt σ o A) (hI : RowOK hm A) : rd σ o 6 0 = nI (nv A 6) := h.2.2.2.2.1.1.trans (r_NK hI).1
theorem o_X (h : OAt σ o A) (hI : RowOK hm A) {k : Nat} (hk : k < nv A 6) : rd σ o 7 k = nI (nv A (70 + 9 * k)) := (h.2.2.2.2.2.1 k hk).1.trans (r_KX hI hk).1
theorem o_Y (h : OAt σ o A) (hI : RowOK hm A) {k : Nat} (hk : k < nv A 6) : rd σ o 8 k = nI (nv A (70 + 9 * k + 1)) := (h.2.2.2.2.2.1 k hk).2.1.trans (r_KY hI hk).1
theorem o_Z (h : OAt σ o A) {k : Nat} (hk : k < nv A 6) : rd σ o 9 k = nI (zoneN A k) := (h.2.2.2.2.2.1 k hk).2.2.1
theorem o_L (h : OAt σ o A) (hI : RowOK hm A) {k : Nat} (hk : k < nv A 6) : rd σ o 10 k = nI (nv A (70 + 9 * k + 2)) := (h.2.2.2.2.2.1 k hk).2.2.2.1.trans (r_KL hI hk).1
theorem o_C (h : OAt σ o A) (hI : RowOK hm A) {k : Nat} (hk : k < nv A 6) : rd σ o 11 k = nI (nv A (70 + 9 * k + 3)) := (h.2.2.2.2.2.1 k hk).2.2.2.2.1.trans (r_KC hI hk).1
theorem o_N (h : OAt σ o A) (hI : RowOK hm A) {k : Nat} (hk : k < nv A 6) : rd σ o 12 k = nI (nv A (70 + 9 * k + 4)) := (h.2.2.2.2.2.1 k hk).2.2.2.2.2.1.trans (r_KN hI hk).1
theorem o_P (h : OAt σ o A) {k : Nat} (hk : k < nv A 6) : rd σ o 13 k = A (70 + 9 * k + 5) := (h.2.2.2.2.2.1 k hk).2.2.2.2.2.2.1
theorem o_S (h : OAt σ o A) (hI : RowOK hm A) {k : Nat} (hk : k < nv A 6) : rd σ o 14 k = nI (nv A (70 + 9 * k + 6)) := (h.2.2.2.2.2.1 k hk).2.2.2.2.2.2.2.1.trans (r_KS hI hk).1
theorem o_LN (h : OAt σ o A) {k : Nat} (hk : k < nv A 6) : rd σ o 15 k = A (70 + 9 * k + 8) := (h.2.2.2.2.2.1 k hk).2.2.2.2.2.2.2.2.1
theorem o_T (h : OAt σ o A) {k : Nat} (hk : k < nv A 6) : rd σ o 16 k = A (70 + 9 * k + 7) := (h.2.2.2.2.2.1 k hk).2.2.2.2.2.2.2.2.2
theorem o_NP (h : OAt σ o A) (hI : RowOK hm A) : rd σ o 17 0 = nI (nv A 11) := h.2.2.2.2.2.2.1.trans (r_NP hI).1
theorem o_PK (h : OAt σ o A) (hI : RowOK hm A) {p : Nat} (hp : p < nv A 11) : rd σ o 18 p = nI (nv A (214 + 3 * p)) := (h.2.2.2.2.2.2.2 p hp).1.trans (r_PK hI hp).1
theorem o_PS (h : OAt σ o A) (hI : RowOK hm A) {p : Nat} (hp : p < nv A 11) : rd σ o 19 p = nI (nv A (214 + 3 * p + 1)) := (h.2.2.2.2.2.2.2 p hp).2.1.trans (r_PS hI hp).1
theorem o_PD (h : OAt σ o A) (hI : RowOK hm A) {p : Nat} (hp : p < nv A 11) : rd σ o 20 p = nI (nv A (214 + 3 * p + 2)) := (h.2.2.2.2.2.2.2 p hp).2.2.trans (r_PD hI hp).1
end OA
/-- the place of a wind among the winds of the field -/
def wi (A : Rw) (z t : Nat) : Nat := z * 6 + widx A z t
def fliesR (A : Rw) (k r t : Nat) : Prop := 1 ≤ r ∧ 0 ≤ xAf A k r t ∧ xAf A k r t ≤ (nv A 0 : Int) - 1 ∧ 0 ≤ yAf A k r t ∧ yAf A k r t ≤ (nv A 1 : Int) - 1
theorem wi_lt {hm : Nat} {A : Rw} (hI : RowOK hm A) {z : Nat} (hz : z < nv A 4) (t : Nat) : wi A z t < 24 := by
  have h1 := widx_lt hI hz t
  have h2 := r_ZC hI hz
  have h3 := r_NZ hI
  unfold wi
  omega
