/-! ===== an office changes ===== -/
/-- only the office o has changed, and nobody is caught in it between calls -/
def FrO (o : Nat) (σ σ' : Mem) : Prop := (∀ a c, a ≠ o → rd σ' a c = rd σ a c) ∧ (∀ j, rdL σ' j = rdL σ j) ∧ ((∀ k, k < 16 → rd σ o 21 k = 0) → ∀ k, k < 16 → rd σ' o 21 k = 0)
theorem FrO_refl {o : Nat} {σ : Mem} : FrO o σ σ := ⟨fun _ _ _ => rfl, fun _ => rfl, fun h => h⟩
theorem FrO_trans {o : Nat} {σ σ' σ'' : Mem} (h1 : FrO o σ σ') (h2 : FrO o σ' σ'') : FrO o σ σ'' := ⟨fun a c h => (h2.1 a c h).trans (h1.1 a c h), fun j => (h2.2.1 j).trans (h1.2.1 j), fun h => h2.2.2 (h1.2.2 h)⟩
theorem FrO_wr {o c j : Nat} {σ σ' : Mem} {v : Int32} (h : FrO o σ σ') (hc : c ≠ 21) : FrO o σ (wr σ' o c j v) :=
  ⟨fun a b ha => (rd_wr_cell (fun q => ha q.1)).trans (h.1 a b ha), fun i => h.2.1 i, fun hz k hk => by
    rw [rd_wr_c (Ne.symm hc)]
    exact h.2.2 hz k hk⟩
theorem FrO_wrC {o c : Nat} {σ σ' : Mem} {f : Nat → Int32} (h : FrO o σ σ') (hc : c ≠ 21) : FrO o σ (wrC σ' o c f) :=
  ⟨fun a b ha => (rd_wrC_cell (fun q => ha q.1)).trans (h.1 a b ha), fun i => h.2.1 i, fun hz k hk => by
    rw [rd_wrC_c (Ne.symm hc)]
    exact h.2.2 hz k hk⟩
/-- an office's picture, out of equal places -/
theorem OAt_cong {hm : Nat} {σ σ' : Mem} {o : Nat} {A B : Rw} (h : OAt σ o A) (hI : RowOK hm A) (h0 : ∀ i, i < 214 → (i = 4 ∨ i = 0 ∨ i = 5 ∨ i = 6 ∨ i = 11 ∨ (12 ≤ i ∧ i < 64)) → B i = A i) (h9 : ∀ k, k < 16 → B (70 + 9 * k) = A (70 + 9 * k))
    (hN : ∀ c j i, (c = 0 ∧ j = 3 ∧ i = 7) ∨ (c = 0 ∧ j = 4 ∧ i = 9) ∨ (c = 0 ∧ j = 5 ∧ i = 10) ∨ (c = 1 ∧ j = 0 ∧ i = 0) ∨ (c = 1 ∧ j = 1 ∧ i = 1) ∨ (c = 1 ∧ j = 2 ∧ i = 2) ∨ (c = 1 ∧ j = 3 ∧ i = 3) ∨ (c = 1 ∧ j = 4 ∧ i = 4) ∨ (c = 1 ∧ j = 8 ∧ i = 5) ∨ (c = 6 ∧ j = 0 ∧ i = 6) ∨ (c = 6 ∧ j = 1 ∧ i = 8) ∨ (c = 17 ∧ j = 0 ∧ i = 11) → rd σ o c j = A i → rd σ' o c j = B i)
    (hZ : ∀ j, j < 4 → rd σ o 2 j = A (12 + 13 * j) → rd σ' o 2 j = B (12 + 13 * j)) (hQ : ∀ j, j < 6 → rd σ o 5 j = A (64 + j) → rd σ' o 5 j = B (64 + j))
    (hK : ∀ k c r, k < 16 → (c = 7 ∧ r = 0) ∨ (c = 8 ∧ r = 1) ∨ (c = 10 ∧ r = 2) ∨ (c = 11 ∧ r = 3) ∨ (c = 12 ∧ r = 4) ∨ (c = 13 ∧ r = 5) ∨ (c = 14 ∧ r = 6) ∨ (c = 15 ∧ r = 8) ∨ (c = 16 ∧ r = 7) → rd σ o c k = A (70 + 9 * k + r) → rd σ' o c k = B (70 + 9 * k + r))
    (hP : ∀ p c r, p < 30 → (c = 18 ∧ r = 0) ∨ (c = 19 ∧ r = 1) ∨ (c = 20 ∧ r = 2) → rd σ o c p = A (214 + 3 * p + r) → rd σ' o c p = B (214 + 3 * p + r))
    (hw : ∀ j, rd σ' o 3 j = rd σ o 3 j ∧ rd σ' o 4 j = rd σ o 4 j) (hz : ∀ k, rd σ' o 9 k = rd σ o 9 k) : OAt σ' o B := by
  have n4 := r_NZ hI
  have n5 := r_NC hI
  have n6 := r_NK hI
  have n11 := r_NP hI
  have e4 : nv B 4 = nv A 4 := nv_congr (h0 4 (by omega) (by omega))
  have e5 : nv B 5 = nv A 5 := nv_congr (h0 5 (by omega) (by omega))
  have e6 : nv B 6 = nv A 6 := nv_congr (h0 6 (by omega) (by omega))
  have e11 : nv B 11 = nv A 11 := nv_congr (h0 11 (by omega) (by omega))
  have ez : ∀ k, k < 16 → zoneN B k = zoneN A k := fun k hk => by
    unfold zoneN
    rw [e4, nv_congr (h0 0 (by omega) (by omega)), nv_congr (h9 k hk)]
  obtain ⟨⟨a1, a2, a3⟩, ⟨b1, b2, b3, b4, b5, b6⟩, z, q, ⟨f1, f2⟩, kk, p1, p2⟩ := h
  refine ⟨⟨hN _ _ _ (by decide) a1, hN _ _ _ (by decide) a2, hN _ _ _ (by decide) a3⟩, ⟨hN _ _ _ (by decide) b1, hN _ _ _ (by decide) b2, hN _ _ _ (by decide) b3, hN _ _ _ (by decide) b4, hN _ _ _ (by decide) b5, hN _ _ _ (by decide) b6⟩, fun i hi => ?_, fun c hc => ?_, ⟨hN _ _ _ (by decide) f1, hN _ _ _ (by decide) f2⟩, fun k hk => ?_, hN _ _ _ (by decide) p1, fun p hp => ?_⟩
  · rw [e4] at hi
    have g := z i hi
    have g2 := r_ZC hI hi
    have e12 : nv B (12 + 13 * i) = nv A (12 + 13 * i) := nv_congr (h0 _ (by omega) (by omega))
    refine ⟨hZ _ (by omega) g.1, fun j hj => ?_⟩
    rw [e12] at hj
    have g3 := g.2 j hj
    rw [(hw _).1, (hw _).2, h0 (12 + 13 * i + 1 + 2 * j) (by omega) (by omega), h0 (12 + 13 * i + 2 + 2 * j) (by omega) (by omega)]
    exact g3
  · rw [e5] at hc
    exact hQ _ (by omega) (q c hc)
  · rw [e6] at hk
    obtain ⟨k1, k2, k3, k4, k5, k6, k7, k8, k9, k10⟩ := kk k hk
    have k16 : k < 16 := by omega
    exact ⟨hK k 7 0 k16 (by decide) k1, hK k 8 1 k16 (by decide) k2, by rw [hz k, ez k k16]; exact k3, hK k 10 2 k16 (by decide) k4, hK k 11 3 k16 (by decide) k5, hK k 12 4 k16 (by decide) k6, hK k 13 5 k16 (by decide) k7, hK k 14 6 k16 (by decide) k8, hK k 15 8 k16 (by decide) k9, hK k 16 7 k16 (by decide) k10⟩
  · rw [e11] at hp
    obtain ⟨k1, k2, k3⟩ := p2 p hp
    have k16 : p < 30 := by omega
    exact ⟨hP p 18 0 k16 (by decide) k1, hP p 19 1 k16 (by decide) k2, hP p 20 2 k16 (by decide) k3⟩
/-- a column of the kites -/
theorem OAt_k {hm : Nat} {σ : Mem} {o : Nat} {A : Rw} {k c r : Nat} {v : Int32} (h : OAt σ o A) (hI : RowOK hm A) (hr : (c = 12 ∧ r = 4) ∨ (c = 13 ∧ r = 5) ∨ (c = 14 ∧ r = 6) ∨ (c = 16 ∧ r = 7) ∨ (c = 15 ∧ r = 8)) (hk : k < 16) : OAt (wr σ o c k v) o (upd A (70 + 9 * k + r) v) := by
  refine OAt_cong h hI (fun i hi hi2 => upd_n (by omega)) (fun i hi => upd_n (by omega)) (fun c' j i hs hh => ?_) (fun j hj hh => ?_) (fun j hj hh => ?_) (fun j c' r' hj hs hh => ?_) (fun j c' r' hj hs hh => ?_) (fun j => ⟨rd_wr_c (by omega), rd_wr_c (by omega)⟩) (fun j => rd_wr_c (by omega))
  · rw [rd_wr_c (by omega), upd_n (by omega)]; exact hh
  · rw [rd_wr_c (by omega), upd_n (by omega)]; exact hh
  · rw [rd_wr_c (by omega), upd_n (by omega)]; exact hh
  · by_cases e : c' = c ∧ j = k
    · obtain ⟨rfl, rfl⟩ := e
      have e2 : r' = r := by omega
      rw [e2, rd_wr_s, upd_s]
    · have e2 : 70 + 9 * j + r' ≠ 70 + 9 * k + r := by omega
      rw [rd_wr, if_neg (fun q => e q.2), upd_n e2]
      exact hh
  · rw [rd_wr_c (by omega), upd_n (by omega)]; exact hh
/-- the hour, the coins, the launches -/
theorem OAt_n {hm : Nat} {σ : Mem} {o : Nat} {A : Rw} {k c r : Nat} {v : Int32} (h : OAt σ o A) (hI : RowOK hm A) (hr : (c = 0 ∧ k = 3 ∧ r = 7) ∨ (c = 0 ∧ k = 4 ∧ r = 9) ∨ (c = 0 ∧ k = 5 ∧ r = 10) ∨ (c = 6 ∧ k = 1 ∧ r = 8)) : OAt (wr σ o c k v) o (upd A r v) := by
  refine OAt_cong h hI (fun i hi hi2 => upd_n (by omega)) (fun i hi => upd_n (by omega)) (fun c' j i hs hh => ?_) (fun j hj hh => ?_) (fun j hj hh => ?_) (fun j c' r' hj hs hh => ?_) (fun j c' r' hj hs hh => ?_) (fun j => ⟨rd_wr_c (by omega), rd_wr_c (by omega)⟩) (fun j => rd_wr_c (by omega))
  · by_cases e : c' = c ∧ j = k
    · obtain ⟨rfl, rfl⟩ := e
      have e2 : i = r := by omega
      rw [e2, rd_wr_s, upd_s]
    · have e2 : i ≠ r := by omega
      rw [rd_wr, if_neg (fun q => e q.2), upd_n e2]
      exact hh
  · rw [rd_wr_c (by omega), upd_n (by omega)]; exact hh
  · rw [rd_wr_c (by omega), upd_n (by omega)]; exact hh
  · rw [rd_wr_c (by omega), upd_n (by omega)]; exact hh
  · rw [rd_wr_c (by omega), upd_n (by omega)]; exact hh
/-- another list of permits -/
theorem OAt_pl {hm : Nat} {σ σ' : Mem} {o : Nat} {A B : Rw} (h : OAt σ o A) (hI : RowOK hm A) (e : ∀ j, j < 214 → j ≠ 11 → B j = A j) (f : ∀ c, c < 17 → rd σ' o c = rd σ o c) (h1 : rd σ' o 17 0 = B 11) (h2 : ∀ p, p < nv B 11 → rd σ' o 18 p = B (214 + 3 * p) ∧ rd σ' o 19 p = B (214 + 3 * p + 1) ∧ rd σ' o 20 p = B (214 + 3 * p + 2)) : OAt σ' o B := by
  have n4 := r_NZ hI
  have n5 := r_NC hI
  have n6 := r_NK hI
  have en : ∀ j, j < 214 → j ≠ 11 → nv B j = nv A j := fun j a b => nv_congr (e j a b)
  have ez : ∀ k, k < 16 → zoneN B k = zoneN A k := fun k hk => by
    unfold zoneN
    rw [en 4 (by omega) (by omega), en 0 (by omega) (by omega), en (70 + 9 * k) (by omega) (by omega)]
  obtain ⟨⟨a1, a2, a3⟩, ⟨b1, b2, b3, b4, b5, b6⟩, z, q, ⟨f1, f2⟩, kk, p1, p2⟩ := h
  refine ⟨⟨?_, ?_, ?_⟩, ⟨?_, ?_, ?_, ?_, ?_, ?_⟩, fun i hi => ?_, fun c hc => ?_, ⟨?_, ?_⟩, fun k hk => ?_, h1, h2⟩
  · rw [f _ (by omega), e _ (by omega) (by omega)]; exact a1
  · rw [f _ (by omega), e _ (by omega) (by omega)]; exact a2
  · rw [f _ (by omega), e _ (by omega) (by omega)]; exact a3
  · rw [f _ (by omega), e _ (by omega) (by omega)]; exact b1
  · rw [f _ (by omega), e _ (by omega) (by omega)]; exact b2
  · rw [f _ (by omega), e _ (by omega) (by omega)]; exact b3
  · rw [f _ (by omega), e _ (by omega) (by omega)]; exact b4
  · rw [f _ (by omega), e _ (by omega) (by omega)]; exact b5
  · rw [f _ (by omega), e _ (by omega) (by omega)]; exact b6
  · rw [en 4 (by omega) (by omega)] at hi
    have g2 := r_ZC hI hi
    have g := z i hi
    rw [f 2 (by omega), f 3 (by omega), f 4 (by omega), e _ (by omega) (by omega), en _ (by omega) (by omega)]
    refine ⟨g.1, fun j hj => ?_⟩
    rw [e _ (by omega) (by omega), e _ (by omega) (by omega)]
    exact g.2 j hj
  · rw [en 5 (by omega) (by omega)] at hc
    rw [f _ (by omega), e _ (by omega) (by omega)]
    exact q c hc
  · rw [f _ (by omega), e _ (by omega) (by omega)]; exact f1
  · rw [f _ (by omega), e _ (by omega) (by omega)]; exact f2
  · rw [en 6 (by omega) (by omega)] at hk
    rw [f 7 (by omega), f 8 (by omega), f 9 (by omega), f 10 (by omega), f 11 (by omega), f 12 (by omega), f 13 (by omega), f 14 (by omega), f 15 (by omega), f 16 (by omega), ez k (by omega)]
    rw [e (70 + 9 * k) (by omega) (by omega), e (70 + 9 * k + 1) (by omega) (by omega), e (70 + 9 * k + 2) (by omega) (by omega), e (70 + 9 * k + 3) (by omega) (by omega), e (70 + 9 * k + 4) (by omega) (by omega), e (70 + 9 * k + 5) (by omega) (by omega), e (70 + 9 * k + 6) (by omega) (by omega), e (70 + 9 * k + 7) (by omega) (by omega), e (70 + 9 * k + 8) (by omega) (by omega)]
    exact kk k hk
/-- a permit moves to another place -/
def mvM (σ : Mem) (o p m : Nat) : Mem := wr (wr (wr σ o 18 m (rd σ o 18 p)) o 19 m (rd σ o 19 p)) o 20 m (rd σ o 20 p)
theorem mv_18 {σ : Mem} {o p m j : Nat} : rd (mvM σ o p m) o 18 j = if j = m then rd σ o 18 p else rd σ o 18 j := by
  unfold mvM
  rw [rd_wr_c (by decide), rd_wr_c (by decide), rd_wr]
  by_cases h : j = m
  · rw [if_pos ⟨rfl, rfl, h⟩, if_pos h]
  · rw [if_neg (fun q => h q.2.2), if_neg h]
theorem mv_19 {σ : Mem} {o p m j : Nat} : rd (mvM σ o p m) o 19 j = if j = m then rd σ o 19 p else rd σ o 19 j := by
  unfold mvM
  rw [rd_wr_c (by decide), rd_wr]
  by_cases h : j = m
  · rw [if_pos ⟨rfl, rfl, h⟩, if_pos h]
  · rw [if_neg (fun q => h q.2.2), if_neg h, rd_wr_c (by decide)]
theorem mv_20 {σ : Mem} {o p m j : Nat} : rd (mvM σ o p m) o 20 j = if j = m then rd σ o 20 p else rd σ o 20 j := by
  unfold mvM
  rw [rd_wr]
  by_cases h : j = m
  · rw [if_pos ⟨rfl, rfl, h⟩, if_pos h]
  · rw [if_neg (fun q => h q.2.2), if_neg h, rd_wr_c (by decide), rd_wr_c (by decide)]
theorem mv_o {σ : Mem} {o p m a c : Nat} (h : ¬ (a = o ∧ 18 ≤ c ∧ c ≤ 20)) : rd (mvM σ o p m) a c = rd σ a c := by
  unfold mvM
  rw [rd_wr_cell (by omega), rd_wr_cell (by omega), rd_wr_cell (by omega)]
theorem FrO_mv {o p m : Nat} {σ σ' : Mem} (h : FrO o σ σ') : FrO o σ (mvM σ' o p m) := FrO_wr (FrO_wr (FrO_wr h (by decide)) (by decide)) (by decide)
/-- the class's list of n permits, looked at up to p and kept up to m; the reference's row is B -/
def PI (σ : Mem) (o : Nat) (B : Rw) (p m n : Nat) : Prop := m ≤ p ∧ p ≤ n ∧ nv B 11 + p = n + m ∧
  (∀ j, j < m → rd σ o 18 j = B (214 + 3 * j) ∧ rd σ o 19 j = B (214 + 3 * j + 1) ∧ rd σ o 20 j = B (214 + 3 * j + 2)) ∧
  (∀ t, p + t < n → rd σ o 18 (p + t) = B (214 + 3 * (m + t)) ∧ rd σ o 19 (p + t) = B (214 + 3 * (m + t) + 1) ∧ rd σ o 20 (p + t) = B (214 + 3 * (m + t) + 2))
theorem PI_0 {σ : Mem} {o : Nat} {A : Rw} (h : OAt σ o A) : PI σ o A 0 0 (nv A 11) := by
  refine ⟨by omega, by omega, by omega, fun j hj => absurd hj (Nat.not_lt_zero j), fun t ht => ?_⟩
  rw [Nat.zero_add] at ht ⊢
  exact h.2.2.2.2.2.2.2 t ht
theorem PI_at {σ : Mem} {o : Nat} {B : Rw} {p m n : Nat} (h : PI σ o B p m n) (hp : p < n) : rd σ o 18 p = B (214 + 3 * m) ∧ rd σ o 19 p = B (214 + 3 * m + 1) ∧ rd σ o 20 p = B (214 + 3 * m + 2) := h.2.2.2.2 0 hp
theorem PI_keep {σ : Mem} {o : Nat} {B : Rw} {p m n : Nat} (h : PI σ o B p m n) (hp : p < n) : PI (mvM σ o p m) o B (p + 1) (m + 1) n := by
  have g := PI_at h hp
  obtain ⟨h1, h2, h3, h4, h5⟩ := h
  refine ⟨by omega, by omega, by omega, fun j hj => ?_, fun t ht => ?_⟩
  · rw [mv_18, mv_19, mv_20]
    by_cases e : j = m
    · subst e
      rw [if_pos rfl, if_pos rfl, if_pos rfl]
      exact g
    · rw [if_neg e, if_neg e, if_neg e]
      exact h4 j (by omega)
  · rw [mv_18, mv_19, mv_20, if_neg (by omega), if_neg (by omega), if_neg (by omega)]
    have g2 := h5 (t + 1) (by omega)
    rw [show p + (t + 1) = p + 1 + t by omega, show m + (t + 1) = m + 1 + t by omega] at g2
    exact g2
theorem PI_drop {σ : Mem} {o : Nat} {B : Rw} {p m n : Nat} (h : PI σ o B p m n) (hp : p < n) (hb : nv B 11 ≤ 30) : PI σ o (removeA B m) (p + 1) m n := by
  obtain ⟨h1, h2, h3, h4, h5⟩ := h
  have hq : ∀ i, i < nv B 11 - 1 → removeA B m (214 + 3 * i) = (if i < m then B (214 + 3 * i) else B (214 + 3 * (i + 1))) := fun i hi => removeA_at (r := 0) (by omega) hi
  refine ⟨by omega, by omega, by rw [nv_remove hb]; omega, fun j hj => ?_, fun t ht => ?_⟩
  · rw [hq j (by omega), removeA_at (r := 1) (by omega) (by omega), removeA_at (r := 2) (by omega) (by omega), if_pos hj, if_pos hj, if_pos hj]
    exact h4 j hj
  · rw [hq (m + t) (by omega), removeA_at (r := 1) (by omega) (by omega), removeA_at (r := 2) (by omega) (by omega), if_neg (by omega), if_neg (by omega), if_neg (by omega)]
    have g2 := h5 (t + 1) (by omega)
    rw [show p + (t + 1) = p + 1 + t by omega, show m + (t + 1) = m + t + 1 by omega] at g2
    exact g2
/-- what is left of the memory while permits move -/
def FrP (o : Nat) (σ σ' : Mem) : Prop := (∀ a c, ¬ (a = o ∧ 18 ≤ c ∧ c ≤ 20) → rd σ' a c = rd σ a c) ∧ ∀ j, rdL σ' j = rdL σ j
theorem FrP_refl {o : Nat} {σ : Mem} : FrP o σ σ := ⟨fun _ _ _ => rfl, fun _ => rfl⟩
theorem FrP_mv {o p m : Nat} {σ σ' : Mem} (h : FrP o σ σ') : FrP o σ (mvM σ' o p m) := ⟨fun a c q => (mv_o q).trans (h.1 a c q), fun j => h.2 j⟩
theorem FrP_O {o : Nat} {σ σ' : Mem} (h : FrP o σ σ') : FrO o σ σ' := ⟨fun a c q => h.1 a c (by omega), h.2, fun hz k hk => by
  rw [h.1 o 21 (by omega)]
  exact hz k hk⟩
theorem PI_end {hm hm' : Nat} {σ σ' : Mem} {o : Nat} {A B : Rw} {m : Nat} (hO : OAt σ o A) (hI : RowOK hm A) (hB : RowOK hm' B) (e : ∀ j, j < 214 → j ≠ 11 → B j = A j) (hF : FrP o σ σ') (h : PI σ' o B (nv A 11) m (nv A 11)) : OAt (wr σ' o 17 0 (nI m)) o B := by
  obtain ⟨h1, h2, h3, h4, h5⟩ := h
  have e11 : nv B 11 = m := by omega
  refine OAt_pl hO hI e (fun c hc => (rd_wr_cell (by omega)).trans (hF.1 o c (by omega))) ?_ (fun p hp => ?_)
  · rw [rd_wr_s, (r_NP hB).1, e11]
  · rw [rd_wr_c (by omega), rd_wr_c (by omega), rd_wr_c (by omega)]
    exact h4 p (by omega)
theorem rmF_done {P : Int32 → Int32 → Int32 → Prop} {f : Nat} {A : Rw} {k n : Nat} (h : ¬ k < nv A 11) : rmF P f A k n = (A, n) := by
  cases f with
  | zero => rfl
  | succ f =>
    unfold rmF
    rw [if_neg h]
theorem rmF_t {P : Int32 → Int32 → Int32 → Prop} {f : Nat} {A : Rw} {k n : Nat} (h : k < nv A 11) (hp : P (A (214 + 3 * k)) (A (214 + 3 * k + 1)) (A (214 + 3 * k + 2))) : rmF P (f + 1) A k n = rmF P f (removeA A k) k (n + 1) := by
  rw [rmF, if_pos h, if_pos hp]
theorem rmF_f {P : Int32 → Int32 → Int32 → Prop} {f : Nat} {A : Rw} {k n : Nat} (h : k < nv A 11) (hp : ¬ P (A (214 + 3 * k)) (A (214 + 3 * k + 1)) (A (214 + 3 * k + 2))) : rmF P (f + 1) A k n = rmF P f A (k + 1) n := by
  rw [rmF, if_pos h, if_neg hp]
/-! removal does not mind what stands below the permits -/
theorem removeA_upd {A : Rw} {p j : Nat} {v : Int32} (h : j < 214) (h2 : j ≠ 11) : removeA (upd A j v) p = upd (removeA A p) j v := by
  funext i
  unfold removeA
  rw [nv_n (fun q => h2 q.symm)]
  by_cases hi : i = j
  · subst hi
    rw [upd_s, if_neg h2, if_neg (by omega), upd_s]
  · rw [upd_n hi, upd_n hi]
    by_cases h3 : i = 11
    · rw [if_pos h3, if_pos h3]
    · rw [if_neg h3, if_neg h3]
      by_cases h4 : 214 + 3 * p ≤ i ∧ i < 214 + 3 * (nv A 11 - 1)
      · rw [if_pos h4, if_pos h4, upd_n (by omega)]
      · rw [if_neg h4, if_neg h4]
theorem rmF_upd {P : Int32 → Int32 → Int32 → Prop} {j : Nat} {v : Int32} (h : j < 214) (h2 : j ≠ 11) : ∀ (f : Nat) (A : Rw) (k n : Nat), rmF P f (upd A j v) k n = (upd (rmF P f A k n).1 j v, (rmF P f A k n).2)
  | 0, A, k, n => rfl
  | f + 1, A, k, n => by
    unfold rmF
    rw [nv_n (fun q => h2 q.symm), upd_n (by omega), upd_n (by omega), upd_n (by omega), removeA_upd h h2]
    by_cases hk : k < nv A 11
    · rw [if_pos hk, if_pos hk]
      by_cases hp : P (A (214 + 3 * k)) (A (214 + 3 * k + 1)) (A (214 + 3 * k + 2))
      · rw [if_pos hp, if_pos hp]
        exact rmF_upd h h2 f _ _ _
      · rw [if_neg hp, if_neg hp]
        exact rmF_upd h h2 f _ _ _
    · rw [if_neg hk, if_neg hk]
theorem cancel_upd {A : Rw} {k j : Nat} {v : Int32} (h : j < 214) (h2 : j ≠ 11) : cancelR (upd A j v) k = (upd (cancelR A k).1 j v, (cancelR A k).2) := rmF_upd h h2 _ _ _ _
/-- the permits of a grant, put behind the payment -/
def addA (A : Rw) (k s d : Nat) : Rw := upd (upd (upd (upd A 11 (nI (nv A 11 + 1))) (214 + 3 * nv A 11) (nI k)) (214 + 3 * nv A 11 + 1) (nI s)) (214 + 3 * nv A 11 + 2) (nI d)
def payA (A : Rw) (k : Nat) (c : Int32) : Rw := upd (upd A (70 + 9 * k + 5) (A (70 + 9 * k + 5) - c)) 9 (A 9 + c)
theorem upd_comm {A : Rw} {i j : Nat} {x y : Int32} (h : i ≠ j) : upd (upd A i x) j y = upd (upd A j y) i x := by
  funext l
  by_cases h1 : l = i
  · subst h1
    rw [upd_n h, upd_s, upd_s]
  · by_cases h2 : l = j
    · subst h2
      rw [upd_s, upd_n h1, upd_s]
    · rw [upd_n h2, upd_n h1, upd_n h1, upd_n h2]
theorem grant_eq {A : Rw} {k s d : Nat} (hk : k < 16) : addA (payA A k (nI (nv A 2 * d))) k s d = grantA A k s d := by
  unfold addA payA grantA
  have e : nv (upd (upd A (70 + 9 * k + 5) (A (70 + 9 * k + 5) - nI (nv A 2 * d))) 9 (A 9 + nI (nv A 2 * d))) 11 = nv A 11 := by rw [nv_n (by omega), nv_n (by omega)]
  rw [e]
  generalize A (70 + 9 * k + 5) - nI (nv A 2 * d) = x
  generalize A 9 + nI (nv A 2 * d) = y
  funext l
  unfold upd
  by_cases h1 : l = 214 + 3 * nv A 11 + 2
  · rw [if_pos h1, if_neg (by omega), if_neg (by omega), if_pos h1]
  by_cases h2 : l = 214 + 3 * nv A 11 + 1
  · rw [if_neg h1, if_pos h2, if_neg (by omega), if_neg (by omega), if_neg h1, if_pos h2]
  by_cases h3 : l = 214 + 3 * nv A 11
  · rw [if_neg h1, if_neg h2, if_pos h3, if_neg (by omega), if_neg (by omega), if_neg h1, if_neg h2, if_pos h3]
  by_cases h4 : l = 11
  · rw [if_neg h1, if_neg h2, if_neg h3, if_pos h4, if_neg (by omega), if_neg (by omega), if_neg h1, if_neg h2, if_neg h3, if_pos h4]
  · rw [if_neg h1, if_neg h2, if_neg h3, if_neg h4, if_neg h1, if_neg h2, if_neg h3, if_neg h4]
theorem OAt_add {hm : Nat} {σ : Mem} {o : Nat} {A : Rw} {k s d : Nat} (h : OAt σ o A) (hI : RowOK hm A) (hp : nv A 11 < 30) : OAt (wr (wr (wr (wr σ o 18 (nv A 11) (nI k)) o 19 (nv A 11) (nI s)) o 20 (nv A 11) (nI d)) o 17 0 (nI (nv A 11 + 1))) o (addA A k s d) := by
  have e11 : addA A k s d 11 = nI (nv A 11 + 1) := by
    unfold addA
    rw [upd_n (by omega), upd_n (by omega), upd_n (by omega), upd_s]
  refine OAt_pl h hI (fun j h1 h2 => ?_) (fun c hc => ?_) ?_ (fun p hp2 => ?_)
  · unfold addA
    rw [upd_n (by omega), upd_n (by omega), upd_n (by omega), upd_n h2]
  · rw [rd_wr_cell (by omega), rd_wr_cell (by omega), rd_wr_cell (by omega), rd_wr_cell (by omega)]
  · rw [rd_wr_s, e11]
  · rw [nv_of e11 (by omega)] at hp2
    by_cases e : p = nv A 11
    · subst e
      unfold addA
      refine ⟨?_, ?_, ?_⟩
      · rw [rd_wr_c (by decide), rd_wr_c (by decide), rd_wr_c (by decide), rd_wr_s, upd_n (by omega), upd_n (by omega), upd_s]
      · rw [rd_wr_c (by decide), rd_wr_c (by decide), rd_wr_s, upd_n (by omega), upd_s]
      · rw [rd_wr_c (by decide), rd_wr_s, upd_s]
    · have g := h.2.2.2.2.2.2.2 p (by omega)
      unfold addA
      refine ⟨?_, ?_, ?_⟩
      · rw [rd_wr_c (by decide), rd_wr_c (by decide), rd_wr_c (by decide), rd_wr_j e, upd_n (by omega), upd_n (by omega), upd_n (by omega), upd_n (by omega)]; exact g.1
      · rw [rd_wr_c (by decide), rd_wr_c (by decide), rd_wr_j e, rd_wr_c (by decide), upd_n (by omega), upd_n (by omega), upd_n (by omega), upd_n (by omega)]; exact g.2.1
      · rw [rd_wr_c (by decide), rd_wr_j e, rd_wr_c (by decide), rd_wr_c (by decide), upd_n (by omega), upd_n (by omega), upd_n (by omega), upd_n (by omega)]; exact g.2.2
