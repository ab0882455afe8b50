/-! ===== an office that a setup builds ===== -/
/-- what holds in any state of the building, also behind a fault -/
def Sf (σ : Mem) (o : Nat) (nz nc nk : Nat) : Prop := rd σ o 1 4 = nI nz ∧ nz ≤ 4 ∧ (∀ z, z < nz → ∃ m, rd σ o 2 z = nI m ∧ m ≤ 6) ∧ rd σ o 1 8 = nI nc ∧ nc ≤ 6 ∧ rd σ o 6 0 = nI nk ∧ nk ≤ 16
/-- only the reader's numbers and the places D of the office o change -/
def FrD (D : Nat → Nat → Prop) (o : Nat) (σ σ' : Mem) : Prop := (∀ a c j, ¬ (a = 12 ∧ c = 5 ∧ 2 ≤ j) → ¬ (a = o ∧ D c j) → rd σ' a c j = rd σ a c j) ∧ ∀ j, rdL σ' j = rdL σ j
theorem FrD_refl {D : Nat → Nat → Prop} {o : Nat} {σ : Mem} : FrD D o σ σ := ⟨fun _ _ _ _ _ => rfl, fun _ => rfl⟩
theorem FrD_trans {D : Nat → Nat → Prop} {o : Nat} {a b c : Mem} (h1 : FrD D o a b) (h2 : FrD D o b c) : FrD D o a c := ⟨fun x d j q q2 => (h2.1 x d j q q2).trans (h1.1 x d j q q2), fun j => (h2.2 j).trans (h1.2 j)⟩
theorem FrD_mono {D D' : Nat → Nat → Prop} {o : Nat} {a b : Mem} (h : FrD D o a b) (hD : ∀ c j, D c j → D' c j) : FrD D' o a b := ⟨fun x d j q q2 => h.1 x d j q (fun g => q2 ⟨g.1, hD _ _ g.2⟩), h.2⟩
theorem FrD_wr {D : Nat → Nat → Prop} {o c j : Nat} {σ σ' : Mem} {v : Int32} (h : FrD D o σ σ') (hD : D c j) : FrD D o σ (wr σ' o c j v) := ⟨fun a d i q q2 => by
  rw [rd_wr, if_neg (fun g => q2 ⟨g.1, by rw [g.2.1, g.2.2]; exact hD⟩)]
  exact h.1 a d i q q2, fun i => h.2 i⟩
theorem FrD_wrI {D : Nat → Nat → Prop} {o j : Nat} {σ σ' : Mem} {v : Int32} (h : FrD D o σ σ') (hj : 2 ≤ j) : FrD D o σ (wr σ' 12 5 j v) := ⟨fun a d i q q2 => by
  rw [rd_wr, if_neg (fun g => q ⟨g.1, g.2.1, by omega⟩)]
  exact h.1 a d i q q2, fun i => h.2 i⟩
/-- the office's places -/
def DO (c _j : Nat) : Prop := c ≠ 21
theorem FrD_O {o : Nat} {σ σ' : Mem} (h : FrD DO o σ σ') {p c j : Nat} (hp : p ≠ o) (hp2 : ¬ (p = 12 ∧ c = 5 ∧ 2 ≤ j)) : rd σ' p c j = rd σ p c j := h.1 p c j hp2 (fun g => hp g.1)
theorem FrD_21 {o : Nat} {σ σ' : Mem} (ho : o < 12) (h : FrD DO o σ σ') : rd σ' o 21 = rd σ o 21 := funext fun j => h.1 o 21 j (by omega) (fun g => g.2 rfl)
theorem Sf_fr {σ σ' : Mem} {o nz nc nk : Nat} (h : ∀ c, rd σ' o c = rd σ o c) (hS : Sf σ o nz nc nk) : Sf σ' o nz nc nk := by
  unfold Sf
  simp only [h]
  exact hS
/-- where a building stands: at a fault, or with a row, before the token behind a -/
abbrev BX : Type := Flt ⊕ (Rw × Nat)
def sOf (X : BX) : Flt ⊕ Nat := bnd X (fun r => .inr r.2)
theorem sOf_l {e : Flt} : sOf (.inl e) = .inl e := rfl
theorem sOf_r {A : Rw} {a : Nat} : sOf (.inr (A, a)) = .inr a := rfl
def OX (σ : Mem) (o : Nat) (X : BX) : Prop := ∀ A a, X = .inr (A, a) → OAt σ o A
theorem OX_fr {σ σ' : Mem} {o : Nat} {X : BX} (h : ∀ c, rd σ' o c = rd σ o c) (hO : OX σ o X) : OX σ' o X := fun A a e => OAt_fr (o := 0) h (hO A a e)
/-! rows that grow -/
theorem OAt_zone {σ : Mem} {o nz : Nat} {A : Rw} (h : OAt σ o A) (hP : Pst nz 0 0 A) (hz : nz < 4) : OAt (wr (wr σ o 2 nz (nI 0)) o 1 4 (nI (nz + 1))) o (zoneA A) := by
  obtain ⟨h1, h2, h3, h4, -, h6, -⟩ := hP
  have e4 : nv A 4 = nz := nv_of h2.1 (by omega)
  have e5 : nv A 5 = 0 := nv_of h4.1 (by omega)
  have e6 : nv A 6 = 0 := nv_of h6.1 (by omega)
  have e11 : nv A 11 = 0 := nv_of h1.2.2.2.2.2 (by omega)
  have u : ∀ j, j ≠ 4 → j ≠ 12 + 13 * nz → zoneA A j = A j := fun j a b => by unfold zoneA; rw [e4, upd_n b, upd_n a]
  have u4 : zoneA A 4 = nI (nz + 1) := by unfold zoneA; rw [e4, upd_n (by omega), upd_s]
  have uz : zoneA A (12 + 13 * nz) = nI 0 := by unfold zoneA; rw [e4, upd_s]
  have R : ∀ c j, ¬ (c = 1 ∧ j = 4) → ¬ (c = 2 ∧ j = nz) → rd (wr (wr σ o 2 nz (nI 0)) o 1 4 (nI (nz + 1))) o c j = rd σ o c j := fun c j a b => by
    rw [rd_wr, if_neg (fun q => a q.2), rd_wr, if_neg (fun q => b q.2)]
  obtain ⟨⟨a1, a2, a3⟩, ⟨b1, b2, b3, b4, b5, b6⟩, z, q, ⟨f1, f2⟩, kk, p1, p2⟩ := h
  refine ⟨⟨?_, ?_, ?_⟩, ⟨?_, ?_, ?_, ?_, ?_, ?_⟩, fun i hi => ?_, fun i hi => ?_, ⟨?_, ?_⟩, fun i hi => ?_, ?_, fun i hi => ?_⟩
  · rw [R _ _ (by omega) (by omega), u _ (by omega) (by omega)]; exact a1
  · rw [R _ _ (by omega) (by omega), u _ (by omega) (by omega)]; exact a2
  · rw [R _ _ (by omega) (by omega), u _ (by omega) (by omega)]; exact a3
  · rw [R _ _ (by omega) (by omega), u _ (by omega) (by omega)]; exact b1
  · rw [R _ _ (by omega) (by omega), u _ (by omega) (by omega)]; exact b2
  · rw [R _ _ (by omega) (by omega), u _ (by omega) (by omega)]; exact b3
  · rw [R _ _ (by omega) (by omega), u _ (by omega) (by omega)]; exact b4
  · rw [rd_wr_s, u4]
  · rw [R _ _ (by omega) (by omega), u _ (by omega) (by omega)]; exact b6
  · rw [nv_of u4 (by omega)] at hi
    by_cases e : i = nz
    · subst e
      rw [nv_of uz (by omega), uz, rd_wr_c (by decide), rd_wr_s]
      exact ⟨rfl, fun j hj => absurd hj (Nat.not_lt_zero j)⟩
    · have g := z i (by omega)
      have g2 := (h3 i (by omega)).1.2.2
      rw [R 2 i (by omega) (by omega), u (12 + 13 * i) (by omega) (by omega), nv_congr (u (12 + 13 * i) (by omega) (by omega))]
      refine ⟨g.1, fun j hj => ?_⟩
      rw [R 3 _ (by omega) (by omega), R 4 _ (by omega) (by omega), u _ (by omega) (by omega), u _ (by omega) (by omega)]
      exact g.2 j hj
  · rw [nv_congr (u 5 (by omega) (by omega)), e5] at hi
    exact absurd hi (Nat.not_lt_zero i)
  · rw [R _ _ (by omega) (by omega), u _ (by omega) (by omega)]; exact f1
  · rw [R _ _ (by omega) (by omega), u _ (by omega) (by omega)]; exact f2
  · rw [nv_congr (u 6 (by omega) (by omega)), e6] at hi
    exact absurd hi (Nat.not_lt_zero i)
  · rw [R _ _ (by omega) (by omega), u _ (by omega) (by omega)]; exact p1
  · rw [nv_congr (u 11 (by omega) (by omega)), e11] at hi
    exact absurd hi (Nat.not_lt_zero i)
def awM (σ : Mem) (o nz m : Nat) (d f : Int32) : Mem := wr (wr (wr σ o 3 (nz * 6 + m) d) o 4 (nz * 6 + m) f) o 2 nz (nI (m + 1))
theorem OAt_wind {σ : Mem} {o nz m d f : Nat} {A : Rw} (h : OAt σ o A) (hP : Zin nz m A) (hm : m < 6) : OAt (awM σ o nz m (nI d) (nI f)) o (windA A (nI d) (nI f)) := by
  obtain ⟨eP, eM⟩ := Zin_P hP
  obtain ⟨h1, h2, h3, h4, h5, h6, h7⟩ := hP
  have hz := h2.2
  have e4 : nv A 4 = nz + 1 := nv_of h2.1 (by omega)
  have e5 : nv A 5 = 0 := nv_of h6 (by omega)
  have e6 : nv A 6 = 0 := nv_of h7 (by omega)
  have e11 : nv A 11 = 0 := nv_of h1.2.2.2.2.2 (by omega)
  have uD : windA A (nI d) (nI f) = upd (upd (upd A (12 + 13 * nz) (nI (m + 1))) (12 + 13 * nz + 1 + 2 * m) (nI d)) (12 + 13 * nz + 2 + 2 * m) (nI f) := by unfold windA; rw [eM, eP]
  rw [uD]
  have u : ∀ j, j ≠ 12 + 13 * nz → j ≠ 12 + 13 * nz + 1 + 2 * m → j ≠ 12 + 13 * nz + 2 + 2 * m → upd (upd (upd A (12 + 13 * nz) (nI (m + 1))) (12 + 13 * nz + 1 + 2 * m) (nI d)) (12 + 13 * nz + 2 + 2 * m) (nI f) j = A j := fun j a b c => by rw [upd_n c, upd_n b, upd_n a]
  have uz : upd (upd (upd A (12 + 13 * nz) (nI (m + 1))) (12 + 13 * nz + 1 + 2 * m) (nI d)) (12 + 13 * nz + 2 + 2 * m) (nI f) (12 + 13 * nz) = nI (m + 1) := by rw [upd_n (by omega), upd_n (by omega), upd_s]
  have ud : upd (upd (upd A (12 + 13 * nz) (nI (m + 1))) (12 + 13 * nz + 1 + 2 * m) (nI d)) (12 + 13 * nz + 2 + 2 * m) (nI f) (12 + 13 * nz + 1 + 2 * m) = nI d := by rw [upd_n (by omega), upd_s]
  have uf : upd (upd (upd A (12 + 13 * nz) (nI (m + 1))) (12 + 13 * nz + 1 + 2 * m) (nI d)) (12 + 13 * nz + 2 + 2 * m) (nI f) (12 + 13 * nz + 2 + 2 * m) = nI f := upd_s
  generalize upd (upd (upd A (12 + 13 * nz) (nI (m + 1))) (12 + 13 * nz + 1 + 2 * m) (nI d)) (12 + 13 * nz + 2 + 2 * m) (nI f) = B at u uz ud uf ⊢
  have R : ∀ c j, ¬ (c = 2 ∧ j = nz) → ¬ ((c = 3 ∨ c = 4) ∧ j = nz * 6 + m) → rd (awM σ o nz m (nI d) (nI f)) o c j = rd σ o c j := fun c j a b => by
    unfold awM
    rw [rd_wr, if_neg (fun q => a q.2), rd_wr, if_neg (fun q => b ⟨Or.inr q.2.1, q.2.2⟩), rd_wr, if_neg (fun q => b ⟨Or.inl q.2.1, q.2.2⟩)]
  have R2 : rd (awM σ o nz m (nI d) (nI f)) o 2 nz = nI (m + 1) := rd_wr_s
  have R3 : rd (awM σ o nz m (nI d) (nI f)) o 3 (nz * 6 + m) = nI d := by unfold awM; rw [rd_wr_c (by decide), rd_wr_c (by decide), rd_wr_s]
  have R4 : rd (awM σ o nz m (nI d) (nI f)) o 4 (nz * 6 + m) = nI f := by unfold awM; rw [rd_wr_c (by decide), rd_wr_s]
  obtain ⟨⟨a1, a2, a3⟩, ⟨b1, b2, b3, b4, b5, b6⟩, z, q, ⟨f1, f2⟩, kk, p1, p2⟩ := h
  refine ⟨⟨?_, ?_, ?_⟩, ⟨?_, ?_, ?_, ?_, ?_, ?_⟩, fun i hi => ?_, fun i hi => ?_, ⟨?_, ?_⟩, fun i hi => ?_, ?_, fun i hi => ?_⟩
  · rw [R _ _ (by omega) (by omega), u _ (by omega) (by omega) (by omega)]; exact a1
  · rw [R _ _ (by omega) (by omega), u _ (by omega) (by omega) (by omega)]; exact a2
  · rw [R _ _ (by omega) (by omega), u _ (by omega) (by omega) (by omega)]; exact a3
  · rw [R _ _ (by omega) (by omega), u _ (by omega) (by omega) (by omega)]; exact b1
  · rw [R _ _ (by omega) (by omega), u _ (by omega) (by omega) (by omega)]; exact b2
  · rw [R _ _ (by omega) (by omega), u _ (by omega) (by omega) (by omega)]; exact b3
  · rw [R _ _ (by omega) (by omega), u _ (by omega) (by omega) (by omega)]; exact b4
  · rw [R _ _ (by omega) (by omega), u _ (by omega) (by omega) (by omega)]; exact b5
  · rw [R _ _ (by omega) (by omega), u _ (by omega) (by omega) (by omega)]; exact b6
  · rw [nv_congr (u 4 (by omega) (by omega) (by omega)), e4] at hi
    by_cases e : i = nz
    · subst e
      rw [nv_of uz (by omega), uz, R2]
      refine ⟨rfl, fun j hj => ?_⟩
      by_cases ej : j = m
      · subst ej
        rw [R3, R4, ud, uf]
        exact ⟨rfl, rfl⟩
      · rw [R 3 _ (by omega) (by omega), R 4 _ (by omega) (by omega), u _ (by omega) (by omega) (by omega), u _ (by omega) (by omega) (by omega)]
        have g := z i (by omega)
        rw [nv_of h4.1 (by omega)] at g
        exact g.2 j (by omega)
    · have g := z i (by omega)
      have g2 := (h3 i (by omega)).1.2.2
      rw [R 2 i (by omega) (by omega), u (12 + 13 * i) (by omega) (by omega) (by omega), nv_congr (u (12 + 13 * i) (by omega) (by omega) (by omega))]
      refine ⟨g.1, fun j hj => ?_⟩
      rw [R 3 _ (by omega) (by omega), R 4 _ (by omega) (by omega), u _ (by omega) (by omega) (by omega), u _ (by omega) (by omega) (by omega)]
      exact g.2 j hj
  · rw [nv_congr (u 5 (by omega) (by omega) (by omega)), e5] at hi
    exact absurd hi (Nat.not_lt_zero i)
  · rw [R _ _ (by omega) (by omega), u _ (by omega) (by omega) (by omega)]; exact f1
  · rw [R _ _ (by omega) (by omega), u _ (by omega) (by omega) (by omega)]; exact f2
  · rw [nv_congr (u 6 (by omega) (by omega) (by omega)), e6] at hi
    exact absurd hi (Nat.not_lt_zero i)
  · rw [R _ _ (by omega) (by omega), u _ (by omega) (by omega) (by omega)]; exact p1
  · rw [nv_congr (u 11 (by omega) (by omega) (by omega)), e11] at hi
    exact absurd hi (Nat.not_lt_zero i)
def acM (σ : Mem) (o nc : Nat) (q : Int32) : Mem := wr (wr σ o 5 nc q) o 1 8 (nI (nc + 1))
theorem OAt_colour {σ : Mem} {o nz nc v : Nat} {A : Rw} (h : OAt σ o A) (hP : Pst nz nc 0 A) (hc : nc < 6) : OAt (acM σ o nc (nI v)) o (colourA A (nI v)) := by
  obtain ⟨h1, h2, h3, h4, -, h6, -⟩ := hP
  have e4 : nv A 4 = nz := nv_of h2.1 (by omega)
  have e5 : nv A 5 = nc := nv_of h4.1 (by omega)
  have e6 : nv A 6 = 0 := nv_of h6.1 (by omega)
  have e11 : nv A 11 = 0 := nv_of h1.2.2.2.2.2 (by omega)
  have u : ∀ j, j ≠ 5 → j ≠ 64 + nc → colourA A (nI v) j = A j := fun j a b => by unfold colourA; rw [e5, upd_n b, upd_n a]
  have u5 : colourA A (nI v) 5 = nI (nc + 1) := by unfold colourA; rw [e5, upd_n (by omega), upd_s]
  have uc : colourA A (nI v) (64 + nc) = nI v := by unfold colourA; rw [e5, upd_s]
  have R : ∀ c j, ¬ (c = 1 ∧ j = 8) → ¬ (c = 5 ∧ j = nc) → rd (acM σ o nc (nI v)) o c j = rd σ o c j := fun c j a b => by
    unfold acM
    rw [rd_wr, if_neg (fun q => a q.2), rd_wr, if_neg (fun q => b q.2)]
  obtain ⟨⟨a1, a2, a3⟩, ⟨b1, b2, b3, b4, b5, b6⟩, z, q, ⟨f1, f2⟩, kk, p1, p2⟩ := h
  refine ⟨⟨?_, ?_, ?_⟩, ⟨?_, ?_, ?_, ?_, ?_, ?_⟩, fun i hi => ?_, fun i hi => ?_, ⟨?_, ?_⟩, fun i hi => ?_, ?_, fun i hi => ?_⟩
  · rw [R _ _ (by omega) (by omega), u _ (by omega) (by omega)]; exact a1
  · rw [R _ _ (by omega) (by omega), u _ (by omega) (by omega)]; exact a2
  · rw [R _ _ (by omega) (by omega), u _ (by omega) (by omega)]; exact a3
  · rw [R _ _ (by omega) (by omega), u _ (by omega) (by omega)]; exact b1
  · rw [R _ _ (by omega) (by omega), u _ (by omega) (by omega)]; exact b2
  · rw [R _ _ (by omega) (by omega), u _ (by omega) (by omega)]; exact b3
  · rw [R _ _ (by omega) (by omega), u _ (by omega) (by omega)]; exact b4
  · rw [R _ _ (by omega) (by omega), u _ (by omega) (by omega)]; exact b5
  · unfold acM
    rw [rd_wr_s, u5]
  · rw [nv_congr (u 4 (by omega) (by omega)), e4] at hi
    have g := z i (by omega)
    have g2 := (h3 i (by omega)).1.2.2
    rw [R 2 i (by omega) (by omega), u (12 + 13 * i) (by omega) (by omega), nv_congr (u (12 + 13 * i) (by omega) (by omega))]
    refine ⟨g.1, fun j hj => ?_⟩
    rw [R 3 _ (by omega) (by omega), R 4 _ (by omega) (by omega), u _ (by omega) (by omega), u _ (by omega) (by omega)]
    exact g.2 j hj
  · rw [nv_of u5 (by omega)] at hi
    by_cases e : i = nc
    · subst e
      unfold acM
      rw [rd_wr_c (by decide), rd_wr_s, uc]
    · rw [R 5 _ (by omega) (by omega), u _ (by omega) (by omega)]
      exact q i (by omega)
  · rw [R _ _ (by omega) (by omega), u _ (by omega) (by omega)]; exact f1
  · rw [R _ _ (by omega) (by omega), u _ (by omega) (by omega)]; exact f2
  · rw [nv_congr (u 6 (by omega) (by omega)), e6] at hi
    exact absurd hi (Nat.not_lt_zero i)
  · rw [R _ _ (by omega) (by omega), u _ (by omega) (by omega)]; exact p1
  · rw [nv_congr (u 11 (by omega) (by omega)), e11] at hi
    exact absurd hi (Nat.not_lt_zero i)
/-! the winds of a zone without their semicolon -/
noncomputable def pWindsC (t : Nat → Nat) (L : Nat) : Nat → Rw → Nat → Nat → BX
  | 0, _, _, _ => .inl (0, 0)
  | f + 1, A, a, m =>
    if kdT t L (skip t L a) = 2 then
      (if ¬ numT t L (skip t L a) ≤ 7 then .inl (2, skip t L a) else if m = 6 then .inl (3, skip t L a) else
        bnd (pNum t L 0 9 (endT t L (skip t L a))) (fun r => pWindsC t L f (windA A (nI (numT t L (skip t L a))) (nI r.2)) r.1 (m + 1)))
    else if m ≠ 0 then .inr (A, a) else .inl (1, skip t L a)
theorem bnd_assoc {α β γ : Type} (x : Flt ⊕ α) (f : α → Flt ⊕ β) (g : β → Flt ⊕ γ) : bnd (bnd x f) g = bnd x (fun v => bnd (f v) g) := by cases x <;> rfl
theorem pWinds_C {t : Nat → Nat} {L : Nat} : ∀ (f : Nat) (A : Rw) (a m : Nat), pWinds t L f A a m = bnd (pWindsC t L f A a m) (fun r => bnd (pEnd t L r.2) (fun b => .inr (r.1, b)))
  | 0, _, _, _ => rfl
  | f + 1, A, a, m => by
    unfold pWinds pWindsC
    by_cases h : kdT t L (skip t L a) = 2
    · rw [if_pos h, if_pos h]
      by_cases h7 : numT t L (skip t L a) ≤ 7
      · have e7 : ¬ ¬ numT t L (skip t L a) ≤ 7 := fun q => q h7
        rw [if_neg e7, if_neg e7]
        by_cases h6 : m = 6
        · rw [if_pos h6, if_pos h6]
          rfl
        · rw [if_neg h6, if_neg h6, bnd_assoc]
          congr 1
          funext r
          exact pWinds_C f _ _ _
      · rw [if_pos h7, if_pos h7]
        rfl
    · rw [if_neg h, if_neg h]
      by_cases hm : m = 0
      · rw [if_neg (fun q => q.1 hm), if_neg (fun q => q hm)]
        rfl
      · rw [if_pos hm]
        show _ = bnd (pEnd t L a) (fun b => .inr (A, b))
        by_cases h3 : kdT t L (skip t L a) = 3
        · rw [if_pos ⟨hm, h3⟩, pEnd_2 h3]
          rfl
        · rw [if_neg (fun q => h3 q.2), pEnd_1 h3]
          rfl
