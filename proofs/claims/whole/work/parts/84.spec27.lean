/-! ===== what the class's steps of a setup leave in memory ===== -/
theorem sOf_inr {Y : BX} {a : Nat} (h : sOf Y = .inr a) : ∃ A, Y = .inr (A, a) := by
  cases Y with
  | inl e => cases h
  | inr r =>
    obtain ⟨A, b⟩ := r
    have e : b = a := Sum.inr.inj h
    exact ⟨A, by rw [e]⟩
def WR (σ σ' : Mem) (o nz : Nat) (d f : Int32) : Prop := (∃ z m, nz = z + 1 ∧ rd σ o 2 z = nI m ∧ m < 6 ∧ σ' = awM σ o z m d f) ∨ ((nz = 0 ∧ σ' = σ) ∨ ∃ z, nz = z + 1 ∧ rd σ o 2 z = nI 6 ∧ σ' = σ)
theorem nI_inj {a b : Nat} (h : nI a = nI b) (ha : a < 2 ^ 31) (hb : b < 2 ^ 31) : a = b := (nI_eq ha hb).mp h
theorem wind_mem {σ σ' : Mem} {o nz m nz9 nc9 nk9 v0 v1 : Nat} {A : Rw} (hO : OAt σ o A) (hZ : Zin nz m A) (hm : m < 6) (hsf : Sf σ o nz9 nc9 nk9) (h : WR σ σ' o nz9 (nI v0) (nI v1)) : OAt σ' o (windA A (nI v0) (nI v1)) := by
  have hz4 := hsf.2.1
  have e1 : nz9 = nz + 1 := nI_inj (hsf.1.symm.trans (hO.2.1.2.2.2.2.1.trans hZ.2.1.1)) (by omega) (by have := hZ.2.1.2; omega)
  have e2 : rd σ o 2 nz = nI m := (hO.2.2.1 nz (by rw [nv_of hZ.2.1.1 (by have := hZ.2.1.2; omega)]; omega)).1.trans hZ.2.2.2.1.1
  rcases h with ⟨z, m9, h1, h2, h3, rfl⟩ | ⟨h1, _⟩ | ⟨z, h1, h2, _⟩
  · have ez : z = nz := by omega
    subst ez
    have em : m9 = m := nI_inj (h2.symm.trans e2) (by omega) (by omega)
    subst em
    exact OAt_wind hO hZ hm
  · omega
  · have ez : z = nz := by omega
    subst ez
    have em : 6 = m := nI_inj (h2.symm.trans e2) (by omega) (by omega)
    omega
theorem wind_sf {σ σ' : Mem} {o nz nc nk : Nat} {d f : Int32} (hsf : Sf σ o nz nc nk) (h : WR σ σ' o nz d f) : SfE σ' o ∧ FrD (fun c _ => c = 2 ∨ c = 3 ∨ c = 4) o σ σ' := by
  rcases h with ⟨z, m, h1, h2, h3, rfl⟩ | ⟨h1, rfl⟩ | ⟨z, h1, h2, rfl⟩
  · refine ⟨⟨nz, nc, nk, ?_⟩, FrD_wr (FrD_wr (FrD_wr FrD_refl (by omega)) (by omega)) (by omega)⟩
    obtain ⟨g1, g2, g3, g4, g5, g6, g7⟩ := hsf
    have R : ∀ c j, c ≠ 2 → c ≠ 3 → c ≠ 4 → rd (awM σ o z m d f) o c j = rd σ o c j := fun c j a b e => by
      unfold awM
      rw [rd_wr_c a, rd_wr_c e, rd_wr_c b]
    refine ⟨(R 1 4 (by decide) (by decide) (by decide)).trans g1, g2, fun i hi => ?_, (R 1 8 (by decide) (by decide) (by decide)).trans g4, g5, (R 6 0 (by decide) (by decide) (by decide)).trans g6, g7⟩
    by_cases e : i = z
    · subst e
      exact ⟨m + 1, rd_wr_s, by omega⟩
    · obtain ⟨k, k1, k2⟩ := g3 i hi
      refine ⟨k, ?_, k2⟩
      unfold awM
      rw [rd_wr_j e, rd_wr_c (by decide), rd_wr_c (by decide)]
      exact k1
  · exact ⟨⟨nz, nc, nk, hsf⟩, FrD_refl⟩
  · exact ⟨⟨nz, nc, nk, hsf⟩, FrD_refl⟩
def ZR (σ σ' : Mem) (o nz : Nat) : Prop := (nz < 4 ∧ σ' = wr (wr σ o 2 nz (nI 0)) o 1 4 (nI (nz + 1))) ∨ (nz = 4 ∧ σ' = σ)
theorem zone_mem {σ σ' : Mem} {o z nz nc nk : Nat} {A : Rw} (hO : OAt σ o A) (hP : Pst z 0 0 A) (hz : z < 4) (hsf : Sf σ o nz nc nk) (h : ZR σ σ' o nz) : OAt σ' o (zoneA A) := by
  have e1 : nz = z := nI_inj (hsf.1.symm.trans (hO.2.1.2.2.2.2.1.trans hP.2.1.1)) (by have := hsf.2.1; omega) (by omega)
  subst e1
  rcases h with ⟨_, rfl⟩ | ⟨h, _⟩
  · exact OAt_zone hO hP hz
  · omega
theorem zone_sf {σ σ' : Mem} {o nz nc nk : Nat} (hsf : Sf σ o nz nc nk) (h : ZR σ σ' o nz) : SfE σ' o ∧ FrD (fun c j => c = 2 ∨ (c = 1 ∧ j = 4)) o σ σ' := by
  rcases h with ⟨h1, rfl⟩ | ⟨h1, rfl⟩
  · refine ⟨⟨nz + 1, nc, nk, ?_⟩, FrD_wr (FrD_wr FrD_refl (Or.inl rfl)) (Or.inr ⟨rfl, rfl⟩)⟩
    obtain ⟨g1, g2, g3, g4, g5, g6, g7⟩ := hsf
    refine ⟨rd_wr_s, by omega, fun i hi => ?_, (rd_wr_j (by decide)).trans ((rd_wr_c (by decide)).trans g4), g5, (rd_wr_c (by decide)).trans ((rd_wr_c (by decide)).trans g6), g7⟩
    by_cases e : i = nz
    · subst e
      exact ⟨0, (rd_wr_c (by decide)).trans rd_wr_s, by omega⟩
    · obtain ⟨k, k1, k2⟩ := g3 i (by omega)
      exact ⟨k, (rd_wr_c (by decide)).trans ((rd_wr_j e).trans k1), k2⟩
  · exact ⟨⟨nz, nc, nk, hsf⟩, FrD_refl⟩
def CR (σ σ' : Mem) (o nc : Nat) (v : Int32) : Prop := (nc < 6 ∧ σ' = acM σ o nc v) ∨ (nc = 6 ∧ σ' = σ)
theorem colour_mem {σ σ' : Mem} {o z c nz nc nk v : Nat} {A : Rw} (hO : OAt σ o A) (hP : Pst z c 0 A) (hc : c < 6) (hsf : Sf σ o nz nc nk) (h : CR σ σ' o nc (nI v)) : OAt σ' o (colourA A (nI v)) := by
  have e1 : nc = c := nI_inj (hsf.2.2.2.1.symm.trans (hO.2.1.2.2.2.2.2.trans hP.2.2.2.1.1)) (by have := hsf.2.2.2.2.1; omega) (by omega)
  subst e1
  rcases h with ⟨_, rfl⟩ | ⟨h, _⟩
  · exact OAt_colour hO hP hc
  · omega
theorem colour_sf {σ σ' : Mem} {o nz nc nk : Nat} {v : Int32} (hsf : Sf σ o nz nc nk) (h : CR σ σ' o nc v) : SfE σ' o ∧ FrD (fun c j => c = 5 ∨ (c = 1 ∧ j = 8)) o σ σ' := by
  rcases h with ⟨h1, rfl⟩ | ⟨h1, rfl⟩
  · refine ⟨⟨nz, nc + 1, nk, ?_⟩, FrD_wr (FrD_wr FrD_refl (Or.inl rfl)) (Or.inr ⟨rfl, rfl⟩)⟩
    obtain ⟨g1, g2, g3, g4, g5, g6, g7⟩ := hsf
    refine ⟨(rd_wr_j (by decide)).trans ((rd_wr_c (by decide)).trans g1), g2, fun i hi => ?_, rd_wr_s, by omega, (rd_wr_c (by decide)).trans ((rd_wr_c (by decide)).trans g6), g7⟩
    obtain ⟨k, k1, k2⟩ := g3 i hi
    exact ⟨k, (rd_wr_c (by decide)).trans ((rd_wr_c (by decide)).trans k1), k2⟩
  · exact ⟨⟨nz, nc, nk, hsf⟩, FrD_refl⟩
theorem StC_D {D : Nat → Nat → Prop} {o : Nat} {σ σ' : Mem} {t : Nat → Nat} {L : Nat} {s : Flt ⊕ Nat} (h : ∀ c j, rd σ' 12 c j = rd σ 12 c j) (hS : StC σ t L s) : StC σ' t L s := StC_fr (fun j _ => h 5 j) hS
theorem WR_12 {σ σ' : Mem} {o nz : Nat} {d f : Int32} (ho : o < 12) (h : WR σ σ' o nz d f) (c j : Nat) : rd σ' 12 c j = rd σ 12 c j := by
  rcases h with ⟨z, m, _, _, _, rfl⟩ | ⟨_, rfl⟩ | ⟨z, _, _, rfl⟩
  · unfold awM
    rw [rd_wr_o (by omega), rd_wr_o (by omega), rd_wr_o (by omega)]
  · rfl
  · rfl
theorem ZR_12 {σ σ' : Mem} {o nz : Nat} (ho : o < 12) (h : ZR σ σ' o nz) (c j : Nat) : rd σ' 12 c j = rd σ 12 c j := by
  rcases h with ⟨_, rfl⟩ | ⟨_, rfl⟩
  · rw [rd_wr_o (by omega), rd_wr_o (by omega)]
  · rfl
theorem CR_12 {σ σ' : Mem} {o nc : Nat} {v : Int32} (ho : o < 12) (h : CR σ σ' o nc v) (c j : Nat) : rd σ' 12 c j = rd σ 12 c j := by
  rcases h with ⟨_, rfl⟩ | ⟨_, rfl⟩
  · unfold acM
    rw [rd_wr_o (by omega), rd_wr_o (by omega)]
  · rfl
theorem TXc_12 {σ σ' : Mem} {t : Nat → Nat} {L : Nat} (h : ∀ c j, rd σ' 12 c j = rd σ 12 c j) (hX : TXc σ t L) : TXc σ' t L := ⟨fun j hj => ⟨(hX.1 j hj).1, (h 6 j).trans (hX.1 j hj).2⟩, (h 5 1).trans hX.2.1, hX.2.2⟩
theorem SfE_fr {σ σ' : Mem} {o : Nat} (h : ∀ c, rd σ' o c = rd σ o c) (hS : SfE σ o) : SfE σ' o := by
  obtain ⟨a, b, c, hs⟩ := hS
  exact ⟨a, b, c, Sf_fr h hs⟩
