/-! ===== the grammar of a setup ===== -/
abbrev Rw : Type := Nat → Int32
abbrev Flt : Type := Nat × Nat
def bnd {α β : Type} (x : Flt ⊕ α) (f : α → Flt ⊕ β) : Flt ⊕ β := match x with
  | .inl e => .inl e
  | .inr v => f v
theorem bnd_l {α β : Type} {x : Flt ⊕ α} {f : α → Flt ⊕ β} {e : Flt} (h : x = .inl e) : bnd x f = .inl e := by subst h; rfl
theorem bnd_r {α β : Type} {x : Flt ⊕ α} {f : α → Flt ⊕ β} {v : α} (h : x = .inr v) : bnd x f = f v := by subst h; rfl
noncomputable def pWinds (t : Nat → Nat) (L : Nat) : Nat → Rw → Nat → Nat → Flt ⊕ (Rw × Nat)
  | 0, _, _, _ => .inl (0, 0)
  | f + 1, A, a, m =>
    if kdT t L (skip t L a) = 2 then
      (if ¬ numT t L (skip t L a) ≤ 7 then .inl (2, skip t L a) else if m = 6 then .inl (3, skip t L a) else
        bnd (pNum t L 0 9 (endT t L (skip t L a))) (fun r => pWinds t L f (windA A (nI (numT t L (skip t L a))) (nI r.2)) r.1 (m + 1)))
    else if m ≠ 0 ∧ kdT t L (skip t L a) = 3 then .inr (A, endT t L (skip t L a)) else .inl (1, skip t L a)
noncomputable def pZones (t : Nat → Nat) (L : Nat) : Nat → Rw → Nat → Flt ⊕ (Rw × Nat)
  | 0, _, _ => .inl (0, 0)
  | f + 1, A, a => @ite _ (wordT wZONE t L (skip t L a)) (Classical.propDecidable _)
      (if nv A 4 = 4 then .inl (3, skip t L a) else bnd (pWinds t L 8 (zoneA A) (endT t L (skip t L a)) 0) (fun r => pZones t L f r.1 r.2)) (.inr (A, a))
noncomputable def pColours (t : Nat → Nat) (L : Nat) : Nat → Rw → Nat → Flt ⊕ (Rw × Nat)
  | 0, _, _ => .inl (0, 0)
  | f + 1, A, a => @ite _ (wordT wCOLOUR t L (skip t L a)) (Classical.propDecidable _)
      (if nv A 5 = 6 then .inl (3, skip t L a) else bnd (pNum t L 0 9 (endT t L (skip t L a))) (fun r => bnd (pEnd t L r.1) (fun b => pColours t L f (colourA A (nI r.2)) b))) (.inr (A, a))
noncomputable def pKite (t : Nat → Nat) (L : Nat) (A : Rw) (a : Nat) : Flt ⊕ (Rw × Nat) :=
  bnd (pNum t L 0 (nv A 0 - 1) a) (fun r0 => bnd (pNum t L 0 (nv A 1 - 1) r0.1) (fun r1 => bnd (pNum t L 1 60 r1.1) (fun r2 => bnd (pNum t L 0 (nv A 5 - 1) r2.1) (fun r3 => bnd (pNum t L 0 9 r3.1) (fun r4 =>
    bnd (pNum t L 0 999 r4.1) (fun r5 => bnd (pEnd t L r5.1) (fun b => .inr (kiteA A (nI r0.2) (nI r1.2) (nI r2.2) (nI r3.2) (nI r4.2) (nI r5.2), b))))))))
noncomputable def pKites (t : Nat → Nat) (L : Nat) : Nat → Rw → Nat → Flt ⊕ (Rw × Nat)
  | 0, _, _ => .inl (0, 0)
  | f + 1, A, a => @ite _ (wordT wKITE t L (skip t L a)) (Classical.propDecidable _)
      (if nv A 6 = 16 then .inl (3, skip t L a) else bnd (pKite t L A (endT t L (skip t L a))) (fun r => pKites t L f r.1 r.2)) (.inr (A, a))
noncomputable def pField (t : Nat → Nat) (L : Nat) (A : Rw) (a : Nat) : Flt ⊕ (Rw × Nat) :=
  @ite _ (wordT wFIELD t L (skip t L a)) (Classical.propDecidable _)
    (bnd (pNum t L 10 100 (endT t L (skip t L a))) (fun r0 => bnd (pNum t L 10 100 r0.1) (fun r1 => bnd (pNum t L 0 20 r1.1) (fun r2 => bnd (pNum t L 0 50 r2.1) (fun r3 =>
      bnd (pEnd t L r3.1) (fun b => .inr (fieldA A (nI r0.2) (nI r1.2) (nI r2.2) (nI r3.2), b))))))) (.inl (1, skip t L a))
noncomputable def pSetup (t : Nat → Nat) (L : Nat) (A : Rw) : Flt ⊕ Rw :=
  bnd (pField t L A 0) (fun r => @ite _ (wordT wZONE t L (skip t L r.2)) (Classical.propDecidable _)
    (bnd (pZones t L 6 r.1 r.2) (fun r => @ite _ (wordT wCOLOUR t L (skip t L r.2)) (Classical.propDecidable _)
      (bnd (pColours t L 8 r.1 r.2) (fun r => bnd (pKites t L 18 r.1 r.2) (fun r => if kdT t L (skip t L r.2) = 0 then .inr r.1 else .inl (1, skip t L r.2)))) (.inl (1, skip t L r.2)))) (.inl (1, skip t L r.2)))
/-! what holds on the way -/
def F4 (A : Rw) : Prop := isN A 0 10 100 ∧ isN A 1 10 100 ∧ isN A 2 0 20 ∧ isN A 3 0 50 ∧ A 7 = nI 0 ∧ A 11 = nI 0
def zOK (A : Rw) (z m : Nat) : Prop := ∀ j, j < m → isN A (12 + 13 * z + 1 + 2 * j) 0 7 ∧ isN A (12 + 13 * z + 2 + 2 * j) 0 9
def Z4 (A : Rw) (n : Nat) : Prop := ∀ z, z < n → isN A (12 + 13 * z) 1 6 ∧ zOK A z (nv A (12 + 13 * z))
def C4 (A : Rw) (n : Nat) : Prop := ∀ c, c < n → isN A (64 + c) 0 9
def K4 (A : Rw) (nc n : Nat) : Prop := ∀ k, k < n → isN A (70 + 9 * k) 0 (nv A 0 - 1) ∧ isN A (70 + 9 * k + 1) 0 (nv A 1 - 1) ∧ isN A (70 + 9 * k + 2) 1 60 ∧ isN A (70 + 9 * k + 3) 0 (nc - 1) ∧ isN A (70 + 9 * k + 4) 0 9 ∧ isN A (70 + 9 * k + 6) 0 2
def Pst (nz nc nk : Nat) (A : Rw) : Prop := F4 A ∧ (A 4 = nI nz ∧ nz ≤ 4) ∧ Z4 A nz ∧ (A 5 = nI nc ∧ nc ≤ 6) ∧ C4 A nc ∧ (A 6 = nI nk ∧ nk ≤ 16) ∧ K4 A nc nk
def Zin (nz m : Nat) (A : Rw) : Prop := F4 A ∧ (A 4 = nI (nz + 1) ∧ nz < 4) ∧ Z4 A nz ∧ (A (12 + 13 * nz) = nI m ∧ m ≤ 6) ∧ zOK A nz m ∧ A 5 = nI 0 ∧ A 6 = nI 0
theorem F4_congr {A B : Rw} (h : F4 A) (e : ∀ j, j < 4 ∨ j = 7 ∨ j = 11 → B j = A j) : F4 B :=
  ⟨isN_congr (e 0 (by omega)) h.1, isN_congr (e 1 (by omega)) h.2.1, isN_congr (e 2 (by omega)) h.2.2.1, isN_congr (e 3 (by omega)) h.2.2.2.1, (e 7 (by omega)).trans h.2.2.2.2.1, (e 11 (by omega)).trans h.2.2.2.2.2⟩
theorem zOK_congr {A B : Rw} {z m : Nat} (h : zOK A z m) (hm : m ≤ 6) (e : ∀ j, 12 + 13 * z < j → j < 12 + 13 * z + 13 → B j = A j) : zOK B z m := fun j hj =>
  ⟨isN_congr (e _ (by omega) (by omega)) (h j hj).1, isN_congr (e _ (by omega) (by omega)) (h j hj).2⟩
theorem Z4_congr {A B : Rw} {n : Nat} (h : Z4 A n) (e : ∀ j, 12 ≤ j → j < 12 + 13 * n → B j = A j) : Z4 B n := fun z hz => by
  have h1 := h z hz
  have h2 := h1.1.2.2
  refine ⟨isN_congr (e _ (by omega) (by omega)) h1.1, ?_⟩
  rw [nv_congr (e (12 + 13 * z) (by omega) (by omega))]
  exact zOK_congr h1.2 h2 (fun j h3 h4 => e j (by omega) (by omega))
theorem C4_congr {A B : Rw} {n : Nat} (h : C4 A n) (e : ∀ j, 64 ≤ j → j < 64 + n → B j = A j) : C4 B n := fun c hc => isN_congr (e _ (by omega) (by omega)) (h c hc)
theorem K4_congr {A B : Rw} {nc n : Nat} (h : K4 A nc n) (e0 : B 0 = A 0) (e1 : B 1 = A 1) (e : ∀ j, 70 ≤ j → j < 70 + 9 * n → B j = A j) : K4 B nc n := fun k hk => by
  obtain ⟨a1, a2, a3, a4, a5, a6⟩ := h k hk
  rw [nv_congr e0, nv_congr e1]
  exact ⟨isN_congr (e _ (by omega) (by omega)) a1, isN_congr (e _ (by omega) (by omega)) a2, isN_congr (e _ (by omega) (by omega)) a3, isN_congr (e _ (by omega) (by omega)) a4, isN_congr (e _ (by omega) (by omega)) a5, isN_congr (e _ (by omega) (by omega)) a6⟩
theorem Pst_field {A : Rw} (h : ∀ j, j < 304 → A j = nI 0) {a b c d : Nat} (ha : 10 ≤ a ∧ a ≤ 100) (hb : 10 ≤ b ∧ b ≤ 100) (hc : c ≤ 20) (hd : d ≤ 50) : Pst 0 0 0 (fieldA A (nI a) (nI b) (nI c) (nI d)) := by
  have e : ∀ j, 4 ≤ j → j < 304 → fieldA A (nI a) (nI b) (nI c) (nI d) j = nI 0 := fun j h1 h2 => by
    unfold fieldA
    rw [upd_n (by omega), upd_n (by omega), upd_n (by omega), upd_n (by omega)]
    exact h j h2
  have e0 : fieldA A (nI a) (nI b) (nI c) (nI d) 0 = nI a := by unfold fieldA; rw [upd_n (by omega), upd_n (by omega), upd_n (by omega), upd_s]
  have e1 : fieldA A (nI a) (nI b) (nI c) (nI d) 1 = nI b := by unfold fieldA; rw [upd_n (by omega), upd_n (by omega), upd_s]
  have e2 : fieldA A (nI a) (nI b) (nI c) (nI d) 2 = nI c := by unfold fieldA; rw [upd_n (by omega), upd_s]
  have e3 : fieldA A (nI a) (nI b) (nI c) (nI d) 3 = nI d := by unfold fieldA; rw [upd_s]
  exact ⟨⟨isN_of e0 ha.1 ha.2 (by omega), isN_of e1 hb.1 hb.2 (by omega), isN_of e2 (by omega) hc (by omega), isN_of e3 (by omega) hd (by omega), e 7 (by omega) (by omega), e 11 (by omega) (by omega)⟩,
    ⟨e 4 (by omega) (by omega), by omega⟩, fun z hz => absurd hz (Nat.not_lt_zero z), ⟨e 5 (by omega) (by omega), by omega⟩, fun z hz => absurd hz (Nat.not_lt_zero z), ⟨e 6 (by omega) (by omega), by omega⟩, fun z hz => absurd hz (Nat.not_lt_zero z)⟩
theorem Zin_zone {A : Rw} {nz : Nat} (h : Pst nz 0 0 A) (hz : nz < 4) : Zin nz 0 (zoneA A) := by
  obtain ⟨h1, h2, h3, h4, -, h6, -⟩ := h
  have e4 : nv A 4 = nz := nv_of h2.1 (by omega)
  unfold zoneA
  rw [e4]
  refine ⟨F4_congr h1 (fun j hj => by rw [upd_n (by omega), upd_n (by omega)]), ⟨by rw [upd_n (by omega), upd_s], hz⟩, Z4_congr h3 (fun j g1 g2 => by rw [upd_n (by omega), upd_n (by omega)]), ⟨upd_s, by omega⟩,
    fun j hj => absurd hj (Nat.not_lt_zero j), by rw [upd_n (by omega), upd_n (by omega)]; exact h4.1, by rw [upd_n (by omega), upd_n (by omega)]; exact h6.1⟩
theorem Zin_P {A : Rw} {nz m : Nat} (h : Zin nz m A) : windP A = 12 + 13 * nz ∧ nv A (windP A) = m := by
  have e4 : nv A 4 = nz + 1 := nv_of h.2.1.1 (by have := h.2.1.2; omega)
  have e : windP A = 12 + 13 * nz := by unfold windP; rw [e4]; omega
  rw [e]
  exact ⟨rfl, nv_of h.2.2.2.1.1 (by have := h.2.2.2.1.2; omega)⟩
theorem Zin_wind {A : Rw} {nz m d f : Nat} (h : Zin nz m A) (hm : m < 6) (hd : d ≤ 7) (hf : f ≤ 9) : Zin nz (m + 1) (windA A (nI d) (nI f)) := by
  obtain ⟨eP, eM⟩ := Zin_P h
  obtain ⟨h1, h2, h3, h4, h5, h6, h7⟩ := h
  unfold windA
  rw [eM, eP]
  have hz := h2.2
  refine ⟨F4_congr h1 (fun j hj => by rw [upd_n (by omega), upd_n (by omega), upd_n (by omega)]), ⟨by rw [upd_n (by omega), upd_n (by omega), upd_n (by omega)]; exact h2.1, hz⟩,
    Z4_congr h3 (fun j g1 g2 => by rw [upd_n (by omega), upd_n (by omega), upd_n (by omega)]), ⟨by rw [upd_n (by omega), upd_n (by omega), upd_s], by omega⟩, fun j hj => ?_,
    by rw [upd_n (by omega), upd_n (by omega), upd_n (by omega)]; exact h6, by rw [upd_n (by omega), upd_n (by omega), upd_n (by omega)]; exact h7⟩
  by_cases hjm : j = m
  · subst hjm
    exact ⟨isN_of (n := d) (by rw [upd_n (by omega), upd_s]) (by omega) hd (by omega), isN_of (n := f) upd_s (by omega) hf (by omega)⟩
  · have hj2 : j < m := by omega
    exact ⟨isN_congr (by rw [upd_n (by omega), upd_n (by omega), upd_n (by omega)]) (h5 j hj2).1, isN_congr (by rw [upd_n (by omega), upd_n (by omega), upd_n (by omega)]) (h5 j hj2).2⟩
theorem Pst_zin {A : Rw} {nz m : Nat} (h : Zin nz m A) (hm : 1 ≤ m) : Pst (nz + 1) 0 0 A := by
  obtain ⟨h1, h2, h3, h4, h5, h6, h7⟩ := h
  refine ⟨h1, ⟨h2.1, by omega⟩, fun z hz => ?_, ⟨h6, by omega⟩, fun z hz => absurd hz (Nat.not_lt_zero z), ⟨h7, by omega⟩, fun z hz => absurd hz (Nat.not_lt_zero z)⟩
  by_cases hzn : z = nz
  · subst hzn
    refine ⟨isN_of h4.1 hm h4.2 (by omega), ?_⟩
    rw [nv_of h4.1 (by omega)]
    exact h5
  · exact h3 z (by omega)
theorem Pst_colour {A : Rw} {nz nc v : Nat} (h : Pst nz nc 0 A) (hc : nc < 6) (hv : v ≤ 9) : Pst nz (nc + 1) 0 (colourA A (nI v)) := by
  obtain ⟨h1, h2, h3, h4, h5, h6, -⟩ := h
  have e5 : nv A 5 = nc := nv_of h4.1 (by omega)
  unfold colourA
  rw [e5]
  refine ⟨F4_congr h1 (fun j hj => by rw [upd_n (by omega), upd_n (by omega)]), ⟨by rw [upd_n (by omega), upd_n (by omega)]; exact h2.1, h2.2⟩, Z4_congr h3 (fun j g1 g2 => by rw [upd_n (by omega), upd_n (by omega)]),
    ⟨by rw [upd_n (by omega), upd_s], by omega⟩, fun c hc2 => ?_, ⟨by rw [upd_n (by omega), upd_n (by omega)]; exact h6.1, by omega⟩, fun z hz => absurd hz (Nat.not_lt_zero z)⟩
  by_cases hcn : c = nc
  · subst hcn
    exact isN_of upd_s (by omega) hv (by omega)
  · exact isN_congr (by rw [upd_n (by omega), upd_n (by omega)]) (h5 c (by omega))
theorem kiteA_lo {A : Rw} {a b c d e f : Int32} {j : Nat} (h1 : j < 70 + 9 * nv A 6) (h2 : j ≠ 6) (h3 : j ≠ 10) : kiteA A a b c d e f j = A j := by
  unfold kiteA
  rw [upd_n h2, upd_n h3, upd_n (by omega), upd_n (by omega), upd_n (by omega), upd_n (by omega), upd_n (by omega), upd_n (by omega), upd_n (by omega), upd_n (by omega), upd_n (by omega)]
theorem Pst_kite {A : Rw} {nz nc nk : Nat} (h : Pst nz nc nk A) (hk : nk < 16) {a b c d e f : Nat} (ha : a ≤ nv A 0 - 1) (hb : b ≤ nv A 1 - 1) (hc : 1 ≤ c ∧ c ≤ 60) (hd : d ≤ nc - 1) (he : e ≤ 9) : Pst nz nc (nk + 1) (kiteA A (nI a) (nI b) (nI c) (nI d) (nI e) (nI f)) := by
  obtain ⟨h1, h2, h3, h4, h5, h6, h7⟩ := h
  have e6 : nv A 6 = nk := nv_of h6.1 (by omega)
  have lo : ∀ j, j < 70 + 9 * nk → j ≠ 6 → j ≠ 10 → kiteA A (nI a) (nI b) (nI c) (nI d) (nI e) (nI f) j = A j := fun j g1 g2 g3 => kiteA_lo (by omega) g2 g3
  have w0 := h1.1.2.2
  have w1 := h1.2.1.2.2
  refine ⟨F4_congr h1 (fun j hj => lo j (by omega) (by omega) (by omega)), ⟨(lo 4 (by omega) (by omega) (by omega)).trans h2.1, h2.2⟩, Z4_congr h3 (fun j g1 g2 => lo j (by omega) (by omega) (by omega)),
    ⟨(lo 5 (by omega) (by omega) (by omega)).trans h4.1, h4.2⟩, C4_congr h5 (fun j g1 g2 => lo j (by omega) (by omega) (by omega)), ⟨by unfold kiteA; rw [upd_s, e6], by omega⟩, fun k hk2 => ?_⟩
  by_cases hkn : k = nk
  · subst hkn
    rw [nv_congr (lo 0 (by omega) (by omega) (by omega)), nv_congr (lo 1 (by omega) (by omega) (by omega))]
    unfold kiteA
    rw [e6]
    refine ⟨isN_of (n := a) ?_ (by omega) ha (by omega), isN_of (n := b) ?_ (by omega) hb (by omega), isN_of (n := c) ?_ hc.1 hc.2 (by omega), isN_of (n := d) ?_ (by omega) hd (by omega), isN_of (n := e) ?_ (by omega) he (by omega), isN_of (n := 0) ?_ (by omega) (by omega) (by omega)⟩ <;>
      (repeat rw [upd_n (by omega)]) <;> exact upd_s
  · exact K4_congr h7 (lo 0 (by omega) (by omega) (by omega)) (lo 1 (by omega) (by omega) (by omega)) (fun j g1 g2 => lo j (by omega) (by omega) (by omega)) k (by omega)
theorem Pst_RowOK {A : Rw} {nz nc nk hm : Nat} (h : Pst nz nc nk A) (hz : 1 ≤ nz) (hc : 1 ≤ nc) (hm31 : hm < 2 ^ 31) : RowOK hm A := by
  obtain ⟨h1, h2, h3, h4, h5, h6, h7⟩ := h
  have e4 : nv A 4 = nz := nv_of h2.1 (by omega)
  have e5 : nv A 5 = nc := nv_of h4.1 (by omega)
  have e6 : nv A 6 = nk := nv_of h6.1 (by omega)
  have e11 : nv A 11 = 0 := nv_of h1.2.2.2.2.2 (by omega)
  refine ⟨h1.1, h1.2.1, h1.2.2.1, h1.2.2.2.1, isN_of h2.1 hz h2.2 (by omega), isN_of h4.1 hc h4.2 (by omega), isN_of h6.1 (by omega) h6.2 (by omega), isN_of h1.2.2.2.2.1 (by omega) (by omega) hm31, isN_of h1.2.2.2.2.2 (by omega) (by omega) (by omega), ?_, ?_, ?_, ?_⟩
  · rw [e4]; exact h3
  · rw [e5]; exact h5
  · rw [e6, e5]; exact h7
  · rw [e11]; exact fun p hp => absurd hp (Nat.not_lt_zero p)
