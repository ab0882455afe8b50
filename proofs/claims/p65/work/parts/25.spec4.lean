/-! ===== what the geometry reads ===== -/
/-- the places that field, winds, anchors and knots stand at -/
def geoEq (A B : Nat → Int32) : Prop := ∀ j, (j < 7 ∨ (12 ≤ j ∧ j < 70) ∨ ∃ k r, j = 70 + 9 * k + r ∧ r < 5 ∧ k < 16) → B j = A j
theorem geo_zoneN {hm : Nat} {A B : Nat → Int32} (h : RowOK hm A) (e : geoEq A B) {k : Nat} (hk : k < nv A 6) : zoneN B k = zoneN A k := by
  have h6 := r_NK h
  unfold zoneN
  rw [nv_congr (e (70 + 9 * k) (Or.inr (Or.inr ⟨k, 0, by omega⟩))), nv_congr (e 4 (by omega)), nv_congr (e 0 (by omega))]
theorem geo_widx {hm : Nat} {A B : Nat → Int32} (h : RowOK hm A) (e : geoEq A B) {z : Nat} (hz : z < nv A 4) (t : Nat) : widx B z t = widx A z t := by
  have h4 := r_NZ h
  unfold widx
  rw [nv_congr (e (12 + 13 * z) (by omega))]
theorem geo_dirN {hm : Nat} {A B : Nat → Int32} (h : RowOK hm A) (e : geoEq A B) {z : Nat} (hz : z < nv A 4) (t : Nat) : dirN B z t = dirN A z t := by
  have h4 := r_NZ h
  have hc := r_ZC h hz
  have hw := widx_lt h hz t
  unfold dirN
  rw [geo_widx h e hz, nv_congr (e _ (by omega))]
theorem geo_frcN {hm : Nat} {A B : Nat → Int32} (h : RowOK hm A) (e : geoEq A B) {z : Nat} (hz : z < nv A 4) (t : Nat) : frcN B z t = frcN A z t := by
  have h4 := r_NZ h
  have hc := r_ZC h hz
  have hw := widx_lt h hz t
  unfold frcN
  rw [geo_widx h e hz, nv_congr (e _ (by omega))]
theorem geo_reachW {hm : Nat} {A B : Nat → Int32} (h : RowOK hm A) (e : geoEq A B) {k : Nat} (hk : k < nv A 6) (kn t : Nat) : reachW B k kn t = reachW A k kn t := by
  have h6 := r_NK h
  unfold reachW
  rw [geo_zoneN h e hk, geo_frcN h e (zoneN_lt h hk), nv_congr (e (70 + 9 * k + 2) (Or.inr (Or.inr ⟨k, 2, by omega⟩)))]
theorem geo_reachN {hm : Nat} {A B : Nat → Int32} (h : RowOK hm A) (e : geoEq A B) {k : Nat} (hk : k < nv A 6) (t : Nat) : reachN B k t = reachN A k t := by
  have h6 := r_NK h
  unfold reachN
  rw [geo_reachW h e hk, nv_congr (e (70 + 9 * k + 4) (Or.inr (Or.inr ⟨k, 4, by omega⟩)))]
theorem geo_xAf {hm : Nat} {A B : Nat → Int32} (h : RowOK hm A) (e : geoEq A B) {k : Nat} (hk : k < nv A 6) (r t : Nat) : xAf B k r t = xAf A k r t := by
  have h6 := r_NK h
  unfold xAf
  rw [geo_zoneN h e hk, geo_dirN h e (zoneN_lt h hk), nv_congr (e (70 + 9 * k) (Or.inr (Or.inr ⟨k, 0, by omega⟩)))]
theorem geo_yAf {hm : Nat} {A B : Nat → Int32} (h : RowOK hm A) (e : geoEq A B) {k : Nat} (hk : k < nv A 6) (r t : Nat) : yAf B k r t = yAf A k r t := by
  have h6 := r_NK h
  unfold yAf
  rw [geo_zoneN h e hk, geo_dirN h e (zoneN_lt h hk), nv_congr (e (70 + 9 * k + 1) (Or.inr (Or.inr ⟨k, 1, by omega⟩)))]
theorem geo_fliesN {hm : Nat} {A B : Nat → Int32} (h : RowOK hm A) (e : geoEq A B) {k : Nat} (hk : k < nv A 6) (t : Nat) : fliesN B k t ↔ fliesN A k t := by
  have h6 := r_NK h
  unfold fliesN fliesW
  rw [nv_congr (e (70 + 9 * k + 4) (Or.inr (Or.inr ⟨k, 4, by omega⟩))), geo_reachW h e hk, geo_xAf h e hk, geo_yAf h e hk, nv_congr (e 0 (by omega)), nv_congr (e 1 (by omega))]
theorem geo_crossN {hm : Nat} {A B : Nat → Int32} (h : RowOK hm A) (e : geoEq A B) {k i : Nat} (hk : k < nv A 6) (hi : i < nv A 6) (t : Nat) : crossN B k i t ↔ crossN A k i t := by
  have h6 := r_NK h
  unfold crossN
  rw [geo_reachN h e hk, geo_reachN h e hi, geo_xAf h e hk, geo_yAf h e hk, geo_xAf h e hi, geo_yAf h e hi, nv_congr (e (70 + 9 * k) (Or.inr (Or.inr ⟨k, 0, by omega⟩))), nv_congr (e (70 + 9 * k + 1) (Or.inr (Or.inr ⟨k, 1, by omega⟩))), nv_congr (e (70 + 9 * i) (Or.inr (Or.inr ⟨i, 0, by omega⟩))), nv_congr (e (70 + 9 * i + 1) (Or.inr (Or.inr ⟨i, 1, by omega⟩)))]
theorem geo_refl (A : Nat → Int32) : geoEq A A := fun _ _ => rfl
theorem geo_trans {A B C : Nat → Int32} (h1 : geoEq A B) (h2 : geoEq B C) : geoEq A C := fun j hj => (h2 j hj).trans (h1 j hj)
theorem geo_upd {A : Nat → Int32} {j : Nat} {x : Int32} (h : ¬ (j < 7 ∨ (12 ≤ j ∧ j < 70) ∨ ∃ k r, j = 70 + 9 * k + r ∧ r < 5 ∧ k < 16)) : geoEq A (upd A j x) := fun i hi => upd_n (fun e => h (e ▸ hi))
theorem geo_hi {A : Nat → Int32} {k r : Nat} {x : Int32} (hr : 5 ≤ r ∧ r < 9) : geoEq A (upd A (70 + 9 * k + r) x) := geo_upd (by
  rintro (h | h | ⟨k', r', h, h2, h3⟩) <;> omega)
theorem geo_lo {A : Nat → Int32} {j : Nat} {x : Int32} (hr : 7 ≤ j ∧ j < 12) : geoEq A (upd A j x) := geo_upd (by
  rintro (h | h | ⟨k', r', h, h2, h3⟩) <;> omega)
theorem geo_launch (A : Nat → Int32) (k : Nat) : geoEq A (launchA A k) := geo_trans (geo_trans (geo_hi (by omega)) (geo_lo (by omega))) (geo_hi (by omega))
theorem geo_state (A : Nat → Int32) (k v : Nat) : geoEq A (stateA A k v) := geo_hi (by omega)
def remS (A : Nat → Int32) (p j : Nat) : Nat → Int32 := fun i => if i = 11 then nI (nv A 11 - 1) else if 214 + 3 * p ≤ i ∧ i < j then A (i + 3) else A i
theorem remS_0 (A : Nat → Int32) (p : Nat) : upd A 11 (nI (nv A 11 - 1)) = remS A p (214 + 3 * p) := by
  funext i
  unfold upd remS
  by_cases h : i = 11
  · rw [if_pos h, if_pos h]
  · rw [if_neg h, if_neg h, if_neg (by omega)]
theorem remS_s {A : Nat → Int32} {p j : Nat} (hj : 214 + 3 * p ≤ j) : upd (remS A p j) j (A (j + 3)) = remS A p (j + 1) := by
  funext i
  unfold upd remS
  by_cases h : i = j
  · subst h
    rw [if_pos rfl, if_neg (by omega), if_pos (by omega)]
  · rw [if_neg h]
    by_cases h2 : i = 11
    · rw [if_pos h2, if_pos h2]
    · rw [if_neg h2, if_neg h2]
      by_cases h3 : 214 + 3 * p ≤ i ∧ i < j
      · rw [if_pos h3, if_pos (by omega)]
      · rw [if_neg h3, if_neg (by omega)]
theorem remS_hi {A : Nat → Int32} {p j i : Nat} (h : j ≤ i) (h2 : i ≠ 11) : remS A p j i = A i := by
  unfold remS
  rw [if_neg h2, if_neg (by omega)]
