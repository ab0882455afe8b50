/-! ===== the row of numbers that is the state, as the reference holds it; what the methods answer of it ===== -/
def nv (A : Nat → Int32) (j : Nat) : Nat := (A j).toNatClampNeg
/-- the place j holds a number from a to b -/
def isN (A : Nat → Int32) (j a b : Nat) : Prop := A j = nI (nv A j) ∧ a ≤ nv A j ∧ nv A j ≤ b
/-- what a row holds between two calls; hm bounds the hour -/
def RowOK (hm : Nat) (A : Nat → Int32) : Prop :=
  isN A 0 10 100 ∧ isN A 1 10 100 ∧ isN A 2 0 20 ∧ isN A 3 0 50 ∧ isN A 4 1 4 ∧ isN A 5 1 6 ∧ isN A 6 0 16 ∧ isN A 7 0 hm ∧ isN A 11 0 30 ∧
  (∀ z, z < nv A 4 → isN A (12 + 13 * z) 1 6 ∧ ∀ j, j < nv A (12 + 13 * z) → isN A (12 + 13 * z + 1 + 2 * j) 0 7 ∧ isN A (12 + 13 * z + 2 + 2 * j) 0 9) ∧
  (∀ c, c < nv A 5 → isN A (64 + c) 0 9) ∧
  (∀ k, k < nv A 6 → isN A (70 + 9 * k) 0 (nv A 0 - 1) ∧ isN A (70 + 9 * k + 1) 0 (nv A 1 - 1) ∧ isN A (70 + 9 * k + 2) 1 60 ∧ isN A (70 + 9 * k + 3) 0 (nv A 5 - 1) ∧ isN A (70 + 9 * k + 4) 0 9 ∧ isN A (70 + 9 * k + 6) 0 2) ∧
  (∀ p, p < nv A 11 → isN A (214 + 3 * p) 0 (nv A 6 - 1) ∧ 0 < nv A 6 ∧ isN A (214 + 3 * p + 1) 0 999999 ∧ isN A (214 + 3 * p + 2) 1 24)
theorem nv_of {A : Nat → Int32} {j n : Nat} (h : A j = nI n) (hn : n < 2 ^ 31) : nv A j = n := by unfold nv; rw [h, nI_clamp hn]
theorem r_W {hm : Nat} {A : Nat → Int32} (h : RowOK hm A) : A 0 = nI (nv A 0) ∧ 10 ≤ nv A 0 ∧ nv A 0 ≤ 100 := h.1
theorem r_H {hm : Nat} {A : Nat → Int32} (h : RowOK hm A) : A 1 = nI (nv A 1) ∧ 10 ≤ nv A 1 ∧ nv A 1 ≤ 100 := h.2.1
theorem r_FEE {hm : Nat} {A : Nat → Int32} (h : RowOK hm A) : A 2 = nI (nv A 2) ∧ nv A 2 ≤ 20 := ⟨h.2.2.1.1, h.2.2.1.2.2⟩
theorem r_FINE {hm : Nat} {A : Nat → Int32} (h : RowOK hm A) : A 3 = nI (nv A 3) ∧ nv A 3 ≤ 50 := ⟨h.2.2.2.1.1, h.2.2.2.1.2.2⟩
theorem r_NZ {hm : Nat} {A : Nat → Int32} (h : RowOK hm A) : A 4 = nI (nv A 4) ∧ 1 ≤ nv A 4 ∧ nv A 4 ≤ 4 := h.2.2.2.2.1
theorem r_NC {hm : Nat} {A : Nat → Int32} (h : RowOK hm A) : A 5 = nI (nv A 5) ∧ 1 ≤ nv A 5 ∧ nv A 5 ≤ 6 := h.2.2.2.2.2.1
theorem r_NK {hm : Nat} {A : Nat → Int32} (h : RowOK hm A) : A 6 = nI (nv A 6) ∧ nv A 6 ≤ 16 := ⟨h.2.2.2.2.2.2.1.1, h.2.2.2.2.2.2.1.2.2⟩
theorem r_HOUR {hm : Nat} {A : Nat → Int32} (h : RowOK hm A) : A 7 = nI (nv A 7) ∧ nv A 7 ≤ hm := ⟨h.2.2.2.2.2.2.2.1.1, h.2.2.2.2.2.2.2.1.2.2⟩
theorem r_NP {hm : Nat} {A : Nat → Int32} (h : RowOK hm A) : A 11 = nI (nv A 11) ∧ nv A 11 ≤ 30 := ⟨h.2.2.2.2.2.2.2.2.1.1, h.2.2.2.2.2.2.2.2.1.2.2⟩
theorem r_ZC {hm : Nat} {A : Nat → Int32} (h : RowOK hm A) {z : Nat} (hz : z < nv A 4) : A (12 + 13 * z) = nI (nv A (12 + 13 * z)) ∧ 1 ≤ nv A (12 + 13 * z) ∧ nv A (12 + 13 * z) ≤ 6 := (h.2.2.2.2.2.2.2.2.2.1 z hz).1
theorem r_D {hm : Nat} {A : Nat → Int32} (h : RowOK hm A) {z j : Nat} (hz : z < nv A 4) (hj : j < nv A (12 + 13 * z)) : A (12 + 13 * z + 1 + 2 * j) = nI (nv A (12 + 13 * z + 1 + 2 * j)) ∧ nv A (12 + 13 * z + 1 + 2 * j) ≤ 7 := by
  have q := ((h.2.2.2.2.2.2.2.2.2.1 z hz).2 j hj).1
  exact ⟨q.1, q.2.2⟩
theorem r_F {hm : Nat} {A : Nat → Int32} (h : RowOK hm A) {z j : Nat} (hz : z < nv A 4) (hj : j < nv A (12 + 13 * z)) : A (12 + 13 * z + 2 + 2 * j) = nI (nv A (12 + 13 * z + 2 + 2 * j)) ∧ nv A (12 + 13 * z + 2 + 2 * j) ≤ 9 := by
  have q := ((h.2.2.2.2.2.2.2.2.2.1 z hz).2 j hj).2
  exact ⟨q.1, q.2.2⟩
theorem r_Q {hm : Nat} {A : Nat → Int32} (h : RowOK hm A) {c : Nat} (hc : c < nv A 5) : A (64 + c) = nI (nv A (64 + c)) ∧ nv A (64 + c) ≤ 9 := ⟨(h.2.2.2.2.2.2.2.2.2.2.1 c hc).1, (h.2.2.2.2.2.2.2.2.2.2.1 c hc).2.2⟩
theorem r_KX {hm : Nat} {A : Nat → Int32} (h : RowOK hm A) {k : Nat} (hk : k < nv A 6) : A (70 + 9 * k) = nI (nv A (70 + 9 * k)) ∧ nv A (70 + 9 * k) < nv A 0 := by
  have q := (h.2.2.2.2.2.2.2.2.2.2.2.1 k hk).1
  have w := r_W h
  exact ⟨q.1, by have := q.2.2; omega⟩
theorem r_KY {hm : Nat} {A : Nat → Int32} (h : RowOK hm A) {k : Nat} (hk : k < nv A 6) : A (70 + 9 * k + 1) = nI (nv A (70 + 9 * k + 1)) ∧ nv A (70 + 9 * k + 1) < nv A 1 := by
  have q := (h.2.2.2.2.2.2.2.2.2.2.2.1 k hk).2.1
  have w := r_H h
  exact ⟨q.1, by have := q.2.2; omega⟩
theorem r_KL {hm : Nat} {A : Nat → Int32} (h : RowOK hm A) {k : Nat} (hk : k < nv A 6) : A (70 + 9 * k + 2) = nI (nv A (70 + 9 * k + 2)) ∧ 1 ≤ nv A (70 + 9 * k + 2) ∧ nv A (70 + 9 * k + 2) ≤ 60 := (h.2.2.2.2.2.2.2.2.2.2.2.1 k hk).2.2.1
theorem r_KC {hm : Nat} {A : Nat → Int32} (h : RowOK hm A) {k : Nat} (hk : k < nv A 6) : A (70 + 9 * k + 3) = nI (nv A (70 + 9 * k + 3)) ∧ nv A (70 + 9 * k + 3) < nv A 5 := by
  have q := (h.2.2.2.2.2.2.2.2.2.2.2.1 k hk).2.2.2.1
  have w := r_NC h
  exact ⟨q.1, by have := q.2.2; omega⟩
theorem r_KN {hm : Nat} {A : Nat → Int32} (h : RowOK hm A) {k : Nat} (hk : k < nv A 6) : A (70 + 9 * k + 4) = nI (nv A (70 + 9 * k + 4)) ∧ nv A (70 + 9 * k + 4) ≤ 9 := ⟨(h.2.2.2.2.2.2.2.2.2.2.2.1 k hk).2.2.2.2.1.1, (h.2.2.2.2.2.2.2.2.2.2.2.1 k hk).2.2.2.2.1.2.2⟩
theorem r_KS {hm : Nat} {A : Nat → Int32} (h : RowOK hm A) {k : Nat} (hk : k < nv A 6) : A (70 + 9 * k + 6) = nI (nv A (70 + 9 * k + 6)) ∧ nv A (70 + 9 * k + 6) ≤ 2 := ⟨(h.2.2.2.2.2.2.2.2.2.2.2.1 k hk).2.2.2.2.2.1, (h.2.2.2.2.2.2.2.2.2.2.2.1 k hk).2.2.2.2.2.2.2⟩
theorem r_PK {hm : Nat} {A : Nat → Int32} (h : RowOK hm A) {p : Nat} (hp : p < nv A 11) : A (214 + 3 * p) = nI (nv A (214 + 3 * p)) ∧ nv A (214 + 3 * p) < nv A 6 := by
  have q := h.2.2.2.2.2.2.2.2.2.2.2.2 p hp
  exact ⟨q.1.1, by have := q.1.2.2; have := q.2.1; omega⟩
theorem r_PS {hm : Nat} {A : Nat → Int32} (h : RowOK hm A) {p : Nat} (hp : p < nv A 11) : A (214 + 3 * p + 1) = nI (nv A (214 + 3 * p + 1)) ∧ nv A (214 + 3 * p + 1) ≤ 999999 := ⟨(h.2.2.2.2.2.2.2.2.2.2.2.2 p hp).2.2.1.1, (h.2.2.2.2.2.2.2.2.2.2.2.2 p hp).2.2.1.2.2⟩
theorem r_PD {hm : Nat} {A : Nat → Int32} (h : RowOK hm A) {p : Nat} (hp : p < nv A 11) : A (214 + 3 * p + 2) = nI (nv A (214 + 3 * p + 2)) ∧ 1 ≤ nv A (214 + 3 * p + 2) ∧ nv A (214 + 3 * p + 2) ≤ 24 := (h.2.2.2.2.2.2.2.2.2.2.2.2 p hp).2.2.2
/-- the answers -/
def zoneN (A : Nat → Int32) (k : Nat) : Nat := nv A (70 + 9 * k) * nv A 4 / nv A 0
def widx (A : Nat → Int32) (z h : Nat) : Nat := h % nv A (12 + 13 * z)
def dirN (A : Nat → Int32) (z h : Nat) : Nat := nv A (12 + 13 * z + 1 + 2 * widx A z h)
def frcN (A : Nat → Int32) (z h : Nat) : Nat := nv A (12 + 13 * z + 2 + 2 * widx A z h)
def reachW (A : Nat → Int32) (k kn h : Nat) : Nat := nv A (70 + 9 * k + 2) * min (frcN A (zoneN A k) h - kn) 5 / 5
def reachN (A : Nat → Int32) (k h : Nat) : Nat := reachW A k (nv A (70 + 9 * k + 4)) h
def dX (d : Nat) : Int := match d with | 0 => 0 | 1 => 1 | 2 => 1 | 3 => 1 | 4 => 0 | 5 => -1 | 6 => -1 | _ => -1
def dY (d : Nat) : Int := match d with | 0 => 1 | 1 => 1 | 2 => 0 | 3 => -1 | 4 => -1 | 5 => -1 | 6 => 0 | _ => 1
theorem stepX_dX : ∀ d : Nat, stepX d = iI (dX d)
  | 0 => rfl | 1 => rfl | 2 => rfl | 3 => rfl | 4 => rfl | 5 => rfl | 6 => rfl | _ + 7 => rfl
theorem stepY_dY : ∀ d : Nat, stepY d = iI (dY d)
  | 0 => rfl | 1 => rfl | 2 => rfl | 3 => rfl | 4 => rfl | 5 => rfl | 6 => rfl | _ + 7 => rfl
theorem dX_rng (d : Nat) : -1 ≤ dX d ∧ dX d ≤ 1 := by unfold dX; split <;> decide
theorem dY_rng (d : Nat) : -1 ≤ dY d ∧ dY d ≤ 1 := by unfold dY; split <;> decide
def xAf (A : Nat → Int32) (k r h : Nat) : Int := (nv A (70 + 9 * k) : Int) + (r : Int) * dX (dirN A (zoneN A k) h)
def yAf (A : Nat → Int32) (k r h : Nat) : Int := (nv A (70 + 9 * k + 1) : Int) + (r : Int) * dY (dirN A (zoneN A k) h)
def fliesW (A : Nat → Int32) (k kn h : Nat) : Prop := 1 ≤ reachW A k kn h ∧ 0 ≤ xAf A k (reachW A k kn h) h ∧ xAf A k (reachW A k kn h) h ≤ (nv A 0 : Int) - 1 ∧ 0 ≤ yAf A k (reachW A k kn h) h ∧ yAf A k (reachW A k kn h) h ≤ (nv A 1 : Int) - 1
def fliesN (A : Nat → Int32) (k h : Nat) : Prop := fliesW A k (nv A (70 + 9 * k + 4)) h
theorem zoneN_lt {hm : Nat} {A : Nat → Int32} (h : RowOK hm A) {k : Nat} (hk : k < nv A 6) : zoneN A k < nv A 4 := by
  have h1 := r_KX h hk
  have h2 := r_NZ h
  unfold zoneN
  have h3 : nv A (70 + 9 * k) * nv A 4 < nv A 4 * nv A 0 := by
    rw [Nat.mul_comm (nv A 4)]
    exact Nat.mul_lt_mul_of_pos_right h1.2 (by omega)
  exact Nat.div_lt_of_lt_mul (by rw [Nat.mul_comm (nv A 0)]; exact h3)
theorem widx_lt {hm : Nat} {A : Nat → Int32} (h : RowOK hm A) {z : Nat} (hz : z < nv A 4) (t : Nat) : widx A z t < nv A (12 + 13 * z) := Nat.mod_lt _ (by have := r_ZC h hz; omega)
theorem dirN_lt {hm : Nat} {A : Nat → Int32} (h : RowOK hm A) {z : Nat} (hz : z < nv A 4) (t : Nat) : dirN A z t < 8 := by
  have := r_D h hz (widx_lt h hz t)
  unfold dirN
  omega
theorem frcN_le {hm : Nat} {A : Nat → Int32} (h : RowOK hm A) {z : Nat} (hz : z < nv A 4) (t : Nat) : frcN A z t ≤ 9 := (r_F h hz (widx_lt h hz t)).2
theorem reachW_le {hm : Nat} {A : Nat → Int32} (h : RowOK hm A) {k : Nat} (hk : k < nv A 6) (kn t : Nat) : reachW A k kn t ≤ 60 := by
  have h1 := r_KL h hk
  unfold reachW
  have h2 : nv A (70 + 9 * k + 2) * min (frcN A (zoneN A k) t - kn) 5 ≤ 60 * 5 := Nat.mul_le_mul h1.2.2 (Nat.min_le_right _ _)
  omega
theorem mul_step (r : Nat) {s : Int} (h : -1 ≤ s ∧ s ≤ 1) : -(r : Int) ≤ (r : Int) * s ∧ (r : Int) * s ≤ r := by
  have h3 : s = -1 ∨ s = 0 ∨ s = 1 := by omega
  rcases h3 with rfl | rfl | rfl <;> omega
theorem xAf_rng {hm : Nat} {A : Nat → Int32} (h : RowOK hm A) {k : Nat} (hk : k < nv A 6) {r : Nat} (hr : r ≤ 60) (t : Nat) : -100 ≤ xAf A k r t ∧ xAf A k r t ≤ 200 := by
  have h1 := r_KX h hk
  have h2 := r_W h
  have h3 := mul_step r (dX_rng (dirN A (zoneN A k) t))
  unfold xAf
  omega
theorem yAf_rng {hm : Nat} {A : Nat → Int32} (h : RowOK hm A) {k : Nat} (hk : k < nv A 6) {r : Nat} (hr : r ≤ 60) (t : Nat) : -100 ≤ yAf A k r t ∧ yAf A k r t ≤ 200 := by
  have h1 := r_KY h hk
  have h2 := r_H h
  have h3 := mul_step r (dY_rng (dirN A (zoneN A k) t))
  unfold yAf
  omega
/-- on which side a point lies: -1, 0, 1 -/
def sideI (a b c d x y : Int) : Int := let t := (c - a) * (y - b) - (d - b) * (x - a); if t < 0 then -1 else if 0 < t then 1 else 0
def boxP (a b c d x y : Int) : Prop := (min a c ≤ x ∧ x ≤ max a c) ∧ (min b d ≤ y ∧ y ≤ max b d)
/-- the reference's way to see whether two strings cross -/
def crossI (a b c d e f g h : Int) : Prop :=
  (sideI a b c d e f * sideI a b c d g h < 0 ∧ sideI e f g h a b * sideI e f g h c d < 0) ∨ (sideI a b c d e f = 0 ∧ boxP a b c d e f) ∨ (sideI a b c d g h = 0 ∧ boxP a b c d g h) ∨ (sideI e f g h a b = 0 ∧ boxP e f g h a b) ∨ (sideI e f g h c d = 0 ∧ boxP e f g h c d)
def crossN (A : Nat → Int32) (k i h : Nat) : Prop :=
  crossI (nv A (70 + 9 * k)) (nv A (70 + 9 * k + 1)) (xAf A k (reachN A k h) h) (yAf A k (reachN A k h) h) (nv A (70 + 9 * i)) (nv A (70 + 9 * i + 1)) (xAf A i (reachN A i h) h) (yAf A i (reachN A i h) h)
def covN (A : Nat → Int32) (p h : Nat) : Prop := nv A (214 + 3 * p + 1) ≤ h ∧ h < nv A (214 + 3 * p + 1) + nv A (214 + 3 * p + 2)
def permN (A : Nat → Int32) (k h : Nat) : Prop := ∃ p, p < nv A 11 ∧ nv A (214 + 3 * p) = k ∧ covN A p h
/-- 1 where it holds, 0 where not -/
noncomputable def ct (p : Prop) : Nat := @ite Nat p (Classical.propDecidable p) 1 0
theorem ct_t {p : Prop} (h : p) : ct p = 1 := by unfold ct; exact if_pos h
theorem ct_f {p : Prop} (h : ¬ p) : ct p = 0 := by unfold ct; exact if_neg h
theorem ct_congr {p q : Prop} (h : p ↔ q) : ct p = ct q := by rw [propext h]
theorem ct_le (p : Prop) : ct p ≤ 1 := by
  rcases Classical.em p with h | h
  · rw [ct_t h]; exact Nat.le_refl 1
  · rw [ct_f h]; exact Nat.zero_le 1
/-- how many of the first n -/
noncomputable def cnt (P : Nat → Prop) : Nat → Nat
  | 0 => 0
  | n + 1 => cnt P n + ct (P n)
theorem cnt_le (P : Nat → Prop) : ∀ n, cnt P n ≤ n
  | 0 => Nat.le_refl 0
  | n + 1 => Nat.add_le_add (cnt_le P n) (ct_le _)
theorem cnt_congr {P R : Nat → Prop} : ∀ {n : Nat}, (∀ i, i < n → (P i ↔ R i)) → cnt P n = cnt R n
  | 0, _ => rfl
  | n + 1, h => by
    show cnt P n + ct (P n) = cnt R n + ct (R n)
    rw [cnt_congr (fun i hi => h i (Nat.lt_succ_of_lt hi)), ct_congr (h n (Nat.lt_succ_self n))]
noncomputable def usedN (A : Nat → Int32) (c h : Nat) : Nat := cnt (fun p => nv A (70 + 9 * nv A (214 + 3 * p) + 3) = c ∧ covN A p h) (nv A 11)
/-- kite i (not k) stands in the way of k in hour h -/
def wayN (A : Nat → Int32) (k h i : Nat) : Prop := i < nv A 6 ∧ i ≠ k ∧ permN A i h ∧ crossN A k i h
/-- the least of those for which it holds, as a number; -1 without one -/
noncomputable def leastI (P : Nat → Prop) : Int := @dite Int (∃ i, P i) (Classical.propDecidable _) (fun h => ((pk_least P h).choose : Int)) (fun _ => -1)
theorem leastI_some {P : Nat → Prop} {i : Nat} (h : P i) (hl : ∀ j, j < i → ¬ P j) : leastI P = i := by
  unfold leastI
  have hx : ∃ i, P i := ⟨i, h⟩
  rw [dif_pos hx]
  have hc := (pk_least P hx).choose_spec
  have h1 : ¬ (pk_least P hx).choose < i := fun q => hl _ q hc.1
  have h2 : ¬ i < (pk_least P hx).choose := fun q => hc.2 _ q h
  omega
theorem leastI_none {P : Nat → Prop} (h : ∀ i, ¬ P i) : leastI P = -1 := by
  unfold leastI
  rw [dif_neg (fun ⟨i, hi⟩ => h i hi)]
theorem leastI_congr {P R : Nat → Prop} (h : ∀ i, P i ↔ R i) : leastI P = leastI R := by
  rw [show P = R from funext fun i => propext (h i)]
noncomputable def crossedIn (A : Nat → Int32) (k h : Nat) : Int := leastI (wayN A k h)
noncomputable def inWay (A : Nat → Int32) (k s d : Nat) : Int := leastI (fun i => ∃ h, s ≤ h ∧ h < s + d ∧ wayN A k h i)
/-- why a permit is refused -/
noncomputable def refuse (A : Nat → Int32) (k s d : Nat) : Nat :=
  @ite Nat (s < nv A 7) (Classical.propDecidable _) 1 (@ite Nat (nv A 11 = 30) (Classical.propDecidable _) 2 (@ite Nat (∃ h, s ≤ h ∧ h < s + d ∧ permN A k h) (Classical.propDecidable _) 3
  (@ite Nat (∃ h, s ≤ h ∧ h < s + d ∧ nv A (64 + nv A (70 + 9 * k + 3)) ≤ usedN A (nv A (70 + 9 * k + 3)) h) (Classical.propDecidable _) 4 (@ite Nat (∃ h, s ≤ h ∧ h < s + d ∧ ¬ fliesN A k h) (Classical.propDecidable _) 5
  (@ite Nat (0 ≤ inWay A k s d) (Classical.propDecidable _) 6 (@ite Nat (A (70 + 9 * k + 5) < nI (nv A 2 * d)) (Classical.propDecidable _) 7 0))))))
