/-! ===== p65: what holds of an office between two calls of the law ===== -/
section INV
variable {hm : Nat} {A B : Nat → Int32}
/-- what the geometry of one kite reads -/
def geoK (A B : Nat → Int32) (k : Nat) : Prop := (∀ j, (j < 6 ∨ (12 ≤ j ∧ j < 70)) → B j = A j) ∧ ∀ r, r < 5 → B (70 + 9 * k + r) = A (70 + 9 * k + r)
theorem gk_0 {k : Nat} (e : geoK A B k) : nv B (70 + 9 * k) = nv A (70 + 9 * k) := nv_congr (e.2 0 (by omega))
theorem gk_zoneN {k : Nat} (e : geoK A B k) : zoneN B k = zoneN A k := by
  unfold zoneN
  rw [gk_0 e, nv_congr (e.1 4 (by omega)), nv_congr (e.1 0 (by omega))]
theorem gk_widx (h : RowOK hm A) {k : Nat} (e : geoK A B k) {z : Nat} (hz : z < nv A 4) (t : Nat) : widx B z t = widx A z t := by
  have h4 := r_NZ h
  unfold widx
  rw [nv_congr (e.1 (12 + 13 * z) (by omega))]
theorem gk_dirN (h : RowOK hm A) {k : Nat} (e : geoK A B k) {z : Nat} (hz : z < nv A 4) (t : Nat) : dirN B z t = dirN A z t := by
  have h4 := r_NZ h
  have hc := r_ZC h hz
  have hw := widx_lt h hz t
  unfold dirN
  rw [gk_widx h e hz, nv_congr (e.1 _ (by omega))]
theorem gk_frcN (h : RowOK hm A) {k : Nat} (e : geoK A B k) {z : Nat} (hz : z < nv A 4) (t : Nat) : frcN B z t = frcN A z t := by
  have h4 := r_NZ h
  have hc := r_ZC h hz
  have hw := widx_lt h hz t
  unfold frcN
  rw [gk_widx h e hz, nv_congr (e.1 _ (by omega))]
theorem gk_reachW (h : RowOK hm A) {k : Nat} (e : geoK A B k) (hk : k < nv A 6) (kn t : Nat) : reachW B k kn t = reachW A k kn t := by
  unfold reachW
  rw [gk_zoneN e, gk_frcN h e (zoneN_lt h hk), nv_congr (e.2 2 (by omega))]
theorem gk_reachN (h : RowOK hm A) {k : Nat} (e : geoK A B k) (hk : k < nv A 6) (t : Nat) : reachN B k t = reachN A k t := by
  unfold reachN
  rw [gk_reachW h e hk, nv_congr (e.2 4 (by omega))]
theorem gk_xAf (h : RowOK hm A) {k : Nat} (e : geoK A B k) (hk : k < nv A 6) (r t : Nat) : xAf B k r t = xAf A k r t := by
  unfold xAf
  rw [gk_zoneN e, gk_dirN h e (zoneN_lt h hk), gk_0 e]
theorem gk_yAf (h : RowOK hm A) {k : Nat} (e : geoK A B k) (hk : k < nv A 6) (r t : Nat) : yAf B k r t = yAf A k r t := by
  unfold yAf
  rw [gk_zoneN e, gk_dirN h e (zoneN_lt h hk), nv_congr (e.2 1 (by omega))]
theorem gk_fliesN (h : RowOK hm A) {k : Nat} (e : geoK A B k) (hk : k < nv A 6) (t : Nat) : fliesN B k t ↔ fliesN A k t := by
  unfold fliesN fliesW
  rw [nv_congr (e.2 4 (by omega)), gk_reachW h e hk, gk_xAf h e hk, gk_yAf h e hk, nv_congr (e.1 0 (by omega)), nv_congr (e.1 1 (by omega))]
theorem gk_crossN (h : RowOK hm A) {k i : Nat} (e : geoK A B k) (e2 : geoK A B i) (hk : k < nv A 6) (hi : i < nv A 6) (t : Nat) : crossN B k i t ↔ crossN A k i t := by
  unfold crossN
  rw [gk_reachN h e hk, gk_reachN h e2 hi, gk_xAf h e hk, gk_yAf h e hk, gk_xAf h e2 hi, gk_yAf h e2 hi, gk_0 e, gk_0 e2, nv_congr (e.2 1 (by omega)), nv_congr (e2.2 1 (by omega))]
theorem crossI_symm {a b c d e f g h : Int} : crossI a b c d e f g h → crossI e f g h a b c d := by
  unfold crossI
  rintro (⟨x, y⟩ | x | x | x | x)
  · exact Or.inl ⟨y, x⟩
  · exact Or.inr (Or.inr (Or.inr (Or.inl x)))
  · exact Or.inr (Or.inr (Or.inr (Or.inr x)))
  · exact Or.inr (Or.inl x)
  · exact Or.inr (Or.inr (Or.inl x))
theorem crossN_symm {k i t : Nat} (h : crossN A k i t) : crossN A i k t := crossI_symm h
/-! sums and counts -/
theorem sumN_ge {f : Nat → Nat} : ∀ {n k : Nat}, k < n → f k ≤ sumN f n
  | 0, _, h => absurd h (Nat.not_lt_zero _)
  | n + 1, k, h => by
    rw [sumN_s]
    by_cases e : k = n
    · subst e; omega
    · have := sumN_ge (f := f) (n := n) (k := k) (by omega)
      omega
theorem sumN_zero {f : Nat → Nat} : ∀ {n : Nat}, (∀ k, k < n → f k = 0) → sumN f n = 0
  | 0, _ => rfl
  | n + 1, h => by
    rw [sumN_s, sumN_zero (fun k hk => h k (by omega)), h n (by omega)]
theorem sumN_one {f g : Nat → Nat} {k : Nat} : ∀ {n : Nat}, k < n → (∀ i, i < n → i ≠ k → g i = f i) → sumN g n + f k = sumN f n + g k
  | 0, h, _ => absurd h (Nat.not_lt_zero _)
  | n + 1, h, e => by
    rw [sumN_s, sumN_s]
    by_cases q : k = n
    · subst q
      rw [sumN_congr (f := g) (g := f) (fun i hi => e i (by omega) (by omega))]
      omega
    · have h1 := sumN_one (f := f) (g := g) (k := k) (n := n) (by omega) (fun i hi => e i (by omega))
      have h2 := e n (by omega) (fun q2 => q q2.symm)
      omega
theorem cnt_zero {P : Nat → Prop} : ∀ {n : Nat}, (∀ i, i < n → ¬ P i) → cnt P n = 0
  | 0, _ => rfl
  | n + 1, h => by
    rw [cnt_ff (h n (by omega))]
    exact cnt_zero (fun i hi => h i (by omega))
theorem cnt_skip {P : Nat → Prop} {p : Nat} : ∀ n, p ≤ n → cnt (fun i => P (if i < p then i else i + 1)) n ≤ cnt P (n + 1)
  | 0, _ => Nat.zero_le _
  | n + 1, h => by
    show cnt (fun i => P (if i < p then i else i + 1)) n + ct (P (if n < p then n else n + 1)) ≤ cnt P (n + 1) + ct (P (n + 1))
    by_cases q : p ≤ n
    · have := cnt_skip (P := P) n q
      rw [if_neg (by omega)]
      omega
    · rw [if_pos (by omega), cnt_congr (P := fun i => P (if i < p then i else i + 1)) (R := P) (n := n) (fun i hi => by rw [if_pos (by omega)])]
      show cnt P n + ct (P n) ≤ cnt P n + ct (P n) + ct (P (n + 1))
      omega
/-! the words of what holds -/
def CoinI (c : Nat) (A : Nat → Int32) : Prop := (∀ k, k < nv A 6 → A (70 + 9 * k + 5) = nI (nv A (70 + 9 * k + 5))) ∧ A 9 = nI (nv A 9) ∧ A 10 = nI (nv A 10) ∧ nv A 10 = nv A 9 + sumN (fun k => nv A (70 + 9 * k + 5)) (nv A 6) ∧ nv A 10 ≤ c
def TangI (t : Nat) (A : Nat → Int32) : Prop := ∀ k, k < nv A 6 → A (70 + 9 * k + 7) = nI (nv A (70 + 9 * k + 7)) ∧ nv A (70 + 9 * k + 7) ≤ t
def FlyI (H : Nat) (A : Nat → Int32) : Prop := ∀ k, k < nv A 6 → (nv A (70 + 9 * k + 6) = 1 → fliesN A k H) ∧ (nv A (70 + 9 * k + 6) = 2 → 1 ≤ nv A (70 + 9 * k + 7))
def PermI (h0 : Nat) (A : Nat → Int32) : Prop :=
  (∀ p, p < nv A 11 → ∀ h, h0 ≤ h → covN A p h → fliesN A (nv A (214 + 3 * p)) h) ∧
  (∀ p q, p < q → q < nv A 11 → ∀ h, h0 ≤ h → covN A p h → covN A q h → nv A (214 + 3 * p) ≠ nv A (214 + 3 * q) ∧ ¬ crossN A (nv A (214 + 3 * q)) (nv A (214 + 3 * p)) h) ∧
  (∀ c, c < nv A 5 → ∀ h, h0 ≤ h → usedN A c h ≤ nv A (64 + c))
def EndI (A : Nat → Int32) : Prop := ∀ p, p < nv A 11 → nv A 7 < nv A (214 + 3 * p + 1) + nv A (214 + 3 * p + 2) ∧ nv A (214 + 3 * p + 1) ≤ 900000
def FixI (A : Nat → Int32) : Prop := nv A 0 = 40 ∧ nv A 1 = 30 ∧ nv A 5 = 2 ∧ 1 ≤ nv A 6
/-- what holds behind r rounds -/
def LInv (r : Nat) (A : Nat → Int32) : Prop := RowOK (5 * r) A ∧ FixI A ∧ CoinI (120 + 90 * r) A ∧ TangI (1000 * nv A 7) A ∧ FlyI (nv A 7) A ∧ PermI (nv A 7) A ∧ EndI A
theorem PermI_mono {h0 h1 : Nat} (hh : h0 ≤ h1) (h : PermI h0 A) : PermI h1 A :=
  ⟨fun p hp t ht => h.1 p hp t (by omega), fun p q hpq hq t ht => h.2.1 p q hpq hq t (by omega), fun c hc t ht => h.2.2 c hc t (by omega)⟩
theorem cov_congr {p q t : Nat} (h1 : B (214 + 3 * p + 1) = A (214 + 3 * q + 1)) (h2 : B (214 + 3 * p + 2) = A (214 + 3 * q + 2)) : covN B p t ↔ covN A q t := by
  unfold covN
  rw [show nv B (214 + 3 * p + 1) = nv A (214 + 3 * q + 1) by unfold nv; rw [h1], show nv B (214 + 3 * p + 2) = nv A (214 + 3 * q + 2) by unfold nv; rw [h2]]
theorem PermI_congr {h0 : Nat} (hI : RowOK hm A) (h : PermI h0 A) (e5 : nv B 5 = nv A 5) (e64 : ∀ c, c < nv A 5 → nv B (64 + c) = nv A (64 + c)) (e11 : nv B 11 = nv A 11) (er : ∀ j, 214 ≤ j → B j = A j) (eg : ∀ p, p < nv A 11 → geoK A B (nv A (214 + 3 * p))) : PermI h0 B := by
  have hk : ∀ p, nv B (214 + 3 * p) = nv A (214 + 3 * p) := fun p => nv_congr (er _ (by omega))
  have hc : ∀ p t, covN B p t ↔ covN A p t := fun p t => cov_congr (er _ (by omega)) (er _ (by omega))
  refine ⟨fun p hp t ht hcv => ?_, fun p q hpq hq t ht h1 h2 => ?_, fun c hc5 t ht => ?_⟩
  · rw [e11] at hp
    rw [hk, gk_fliesN hI (eg p hp) (r_PK hI hp).2]
    exact h.1 p hp t ht ((hc p t).mp hcv)
  · rw [e11] at hq
    have hp : p < nv A 11 := by omega
    have g := h.2.1 p q hpq hq t ht ((hc p t).mp h1) ((hc q t).mp h2)
    rw [hk, hk, gk_crossN hI (eg q hq) (eg p hp) (r_PK hI hq).2 (r_PK hI hp).2]
    exact g
  · rw [e5] at hc5
    rw [e64 c hc5]
    refine Nat.le_trans (Nat.le_of_eq ?_) (h.2.2 c hc5 t ht)
    unfold usedN
    rw [e11]
    refine cnt_congr (fun i hi => ?_)
    rw [hk, nv_congr ((eg i hi).2 3 (by omega)), hc]
/-- the places that geometry, permits and the clock read -/
def core (j : Nat) : Prop := j < 8 ∨ j = 11 ∨ (12 ≤ j ∧ j < 70) ∨ 214 ≤ j ∨ ∃ k r, j = 70 + 9 * k + r ∧ r < 5 ∧ k < 16
def same (A B : Nat → Int32) : Prop := ∀ j, core j → B j = A j
theorem same_geoK (e : same A B) {k : Nat} (hk : k < 16) : geoK A B k := ⟨fun j hj => e j (by rcases hj with g | g; exact Or.inl (by omega); exact Or.inr (Or.inr (Or.inl g))), fun r hr => e _ (Or.inr (Or.inr (Or.inr (Or.inr ⟨k, r, rfl, hr, hk⟩))))⟩
theorem same_n (e : same A B) {j : Nat} (h : j < 8 ∨ j = 11 ∨ (12 ≤ j ∧ j < 70) ∨ 214 ≤ j) : nv B j = nv A j := nv_congr (e j (by rcases h with g | g | g | g; exact Or.inl g; exact Or.inr (Or.inl g); exact Or.inr (Or.inr (Or.inl g)); exact Or.inr (Or.inr (Or.inr (Or.inl g)))))
theorem same_rf : same A A := fun _ _ => rfl
theorem same_tr {C : Nat → Int32} (h1 : same A B) (h2 : same B C) : same A C := fun j hj => (h2 j hj).trans (h1 j hj)
theorem same_upd {j : Nat} {x : Int32} (h : ¬ core j) : same A (upd A j x) := fun i hi => upd_n (fun e => h (e ▸ hi))
theorem ncore_k {k r : Nat} (hk : k < 16) (hr : 5 ≤ r ∧ r < 9) : ¬ core (70 + 9 * k + r) := by
  rintro (h | h | h | h | ⟨k', r', h, h2, h3⟩) <;> omega
theorem ncore_n {j : Nat} (hj : j = 8 ∨ j = 9 ∨ j = 10) : ¬ core j := by
  rintro (h | h | h | h | ⟨k', r', h, h2, h3⟩) <;> omega
theorem PermI_same {h0 : Nat} (hI : RowOK hm A) (e : same A B) (h : PermI h0 A) : PermI h0 B := by
  have h5 := r_NC hI
  have h6 := r_NK hI
  exact PermI_congr hI h (same_n e (by omega)) (fun c hc => same_n e (by omega)) (same_n e (by omega)) (fun j hj => e j (Or.inr (Or.inr (Or.inr (Or.inl hj))))) (fun p hp => same_geoK e (by have := (r_PK hI hp).2; omega))
theorem EndI_same (e : same A B) (h : EndI A) : EndI B := by
  intro p hp
  rw [same_n e (by omega)] at hp
  rw [same_n e (by omega), same_n e (by omega), same_n e (by omega)]
  exact h p hp
theorem FixI_same (e : same A B) (h : FixI A) : FixI B := by
  unfold FixI
  rw [same_n e (by omega), same_n e (by omega), same_n e (by omega), same_n e (by omega)]
  exact h
theorem CoinI_congr {c c' : Nat} (h : CoinI c A) (hc : c ≤ c') (e6 : nv B 6 = nv A 6) (e9 : B 9 = A 9) (e10 : B 10 = A 10) (ep : ∀ k, k < nv A 6 → B (70 + 9 * k + 5) = A (70 + 9 * k + 5)) : CoinI c' B := by
  obtain ⟨h1, h2, h3, h4, h5⟩ := h
  refine ⟨fun k hk => ?_, ?_, ?_, ?_, ?_⟩
  · rw [e6] at hk
    rw [nv_congr (ep k hk), ep k hk]
    exact h1 k hk
  · rw [nv_congr e9, e9]; exact h2
  · rw [nv_congr e10, e10]; exact h3
  · rw [nv_congr e9, nv_congr e10, e6, sumN_congr (fun k hk => nv_congr (ep k hk))]
    exact h4
  · rw [nv_congr e10]; omega
theorem TangI_congr {t t' : Nat} (h : TangI t A) (ht : t ≤ t') (e6 : nv B 6 = nv A 6) (ep : ∀ k, k < nv A 6 → B (70 + 9 * k + 7) = A (70 + 9 * k + 7)) : TangI t' B := by
  intro k hk
  rw [e6] at hk
  rw [nv_congr (ep k hk), ep k hk]
  exact ⟨(h k hk).1, by have := (h k hk).2; omega⟩
/-! a coin moves: from the office, from a purse to the office, from a purse to another -/
theorem coin_purse {c : Nat} (h : CoinI c A) {k : Nat} (hk : k < nv A 6) : nv A (70 + 9 * k + 5) ≤ c := by
  have := sumN_ge (f := fun k => nv A (70 + 9 * k + 5)) hk
  have h4 := h.2.2.2.1
  have h5 := h.2.2.2.2
  omega
theorem coin_office {c : Nat} (h : CoinI c A) : nv A 9 ≤ c := by
  have h4 := h.2.2.2.1
  have h5 := h.2.2.2.2
  omega
theorem CoinI_pay {c k v : Nat} (h : CoinI c A) (hk : k < nv A 6) (h16 : nv A 6 ≤ 16) (hc : c < 2 ^ 30) (hv : v ≤ nv A (70 + 9 * k + 5)) : CoinI c (payA A k (nI v)) := by
  have hp := coin_purse h hk
  have ho := coin_office h
  have hs := sumN_ge (f := fun k => nv A (70 + 9 * k + 5)) hk
  obtain ⟨h1, h2, h3, h4, h5⟩ := h
  have e5 : payA A k (nI v) (70 + 9 * k + 5) = nI (nv A (70 + 9 * k + 5) - v) := by
    unfold payA
    rw [upd_n (by omega), upd_s, h1 k hk]
    rw [nI_iI, nI_iI, iI_sub, nI_iI]
    congr 1
    omega
  have e9 : payA A k (nI v) 9 = nI (nv A 9 + v) := by
    unfold payA
    rw [upd_s, h2, nI_add]
  have en : ∀ j, j ≠ 9 → j ≠ 70 + 9 * k + 5 → payA A k (nI v) j = A j := fun j q1 q2 => by
    unfold payA
    rw [upd_n q1, upd_n q2]
  have n5 := nv_of e5 (by omega)
  have n9 := nv_of e9 (by omega)
  have n6 : nv (payA A k (nI v)) 6 = nv A 6 := nv_congr (en 6 (by omega) (by omega))
  have n10 : nv (payA A k (nI v)) 10 = nv A 10 := nv_congr (en 10 (by omega) (by omega))
  refine ⟨fun i hi => ?_, ?_, ?_, ?_, ?_⟩
  · rw [n6] at hi
    by_cases e : i = k
    · subst e
      rw [n5]; exact e5
    · rw [nv_congr (en _ (by omega) (by omega)), en _ (by omega) (by omega)]
      exact h1 i hi
  · rw [n9]; exact e9
  · rw [n10, en 10 (by omega) (by omega)]; exact h3
  · have q := sumN_one (f := fun k => nv A (70 + 9 * k + 5)) (g := fun i => nv (payA A k (nI v)) (70 + 9 * i + 5)) hk (fun i hi hik => nv_congr (en _ (by omega) (by omega)))
    have q : sumN (fun i => nv (payA A k (nI v)) (70 + 9 * i + 5)) (nv A 6) + nv A (70 + 9 * k + 5) = sumN (fun k => nv A (70 + 9 * k + 5)) (nv A 6) + nv (payA A k (nI v)) (70 + 9 * k + 5) := q
    rw [n6, n9, n10]
    rw [n5] at q
    omega
  · rw [n10]; exact h5
theorem CoinI_move {c g e v : Nat} (h : CoinI c A) (hg : g < nv A 6) (he : e < nv A 6) (hne : g ≠ e) (h16 : nv A 6 ≤ 16) (hc : c < 2 ^ 30) (hv : v ≤ nv A (70 + 9 * g + 5)) : CoinI c (upd (upd A (70 + 9 * g + 5) (A (70 + 9 * g + 5) - nI v)) (70 + 9 * e + 5) (A (70 + 9 * e + 5) + nI v)) := by
  have hp := coin_purse h hg
  have hp2 := coin_purse h he
  obtain ⟨h1, h2, h3, h4, h5⟩ := h
  generalize hB : upd (upd A (70 + 9 * g + 5) (A (70 + 9 * g + 5) - nI v)) (70 + 9 * e + 5) (A (70 + 9 * e + 5) + nI v) = B
  have e5 : B (70 + 9 * g + 5) = nI (nv A (70 + 9 * g + 5) - v) := by
    rw [← hB, upd_n (by omega), upd_s, h1 g hg]
    rw [nI_iI, nI_iI, iI_sub, nI_iI]
    congr 1
    omega
  have f5 : B (70 + 9 * e + 5) = nI (nv A (70 + 9 * e + 5) + v) := by
    rw [← hB, upd_s, h1 e he, nI_add]
  have en : ∀ j, j ≠ 70 + 9 * e + 5 → j ≠ 70 + 9 * g + 5 → B j = A j := fun j q1 q2 => by
    rw [← hB, upd_n q1, upd_n q2]
  have n5 := nv_of e5 (by omega)
  have m5 := nv_of f5 (by omega)
  have n6 : nv B 6 = nv A 6 := nv_congr (en 6 (by omega) (by omega))
  have n9 : nv B 9 = nv A 9 := nv_congr (en 9 (by omega) (by omega))
  have n10 : nv B 10 = nv A 10 := nv_congr (en 10 (by omega) (by omega))
  refine ⟨fun i hi => ?_, ?_, ?_, ?_, ?_⟩
  · rw [n6] at hi
    by_cases q : i = g
    · subst q
      rw [n5]; exact e5
    · by_cases q2 : i = e
      · subst q2
        rw [m5]; exact f5
      · rw [nv_congr (en _ (by omega) (by omega)), en _ (by omega) (by omega)]
        exact h1 i hi
  · rw [n9, en 9 (by omega) (by omega)]; exact h2
  · rw [n10, en 10 (by omega) (by omega)]; exact h3
  · have q1 : sumN (fun i => if i = g then nv A (70 + 9 * g + 5) - v else nv A (70 + 9 * i + 5)) (nv A 6) + nv A (70 + 9 * g + 5) = sumN (fun k => nv A (70 + 9 * k + 5)) (nv A 6) + (if g = g then nv A (70 + 9 * g + 5) - v else nv A (70 + 9 * g + 5)) := sumN_one (f := fun k => nv A (70 + 9 * k + 5)) (g := fun i => if i = g then nv A (70 + 9 * g + 5) - v else nv A (70 + 9 * i + 5)) hg (fun i hi hik => if_neg hik)
    have q2 : sumN (fun i => nv B (70 + 9 * i + 5)) (nv A 6) + (if e = g then nv A (70 + 9 * g + 5) - v else nv A (70 + 9 * e + 5)) = sumN (fun i => if i = g then nv A (70 + 9 * g + 5) - v else nv A (70 + 9 * i + 5)) (nv A 6) + nv B (70 + 9 * e + 5) := sumN_one (f := fun i => if i = g then nv A (70 + 9 * g + 5) - v else nv A (70 + 9 * i + 5)) (g := fun i => nv B (70 + 9 * i + 5)) he (fun i hi hik => by
      show nv B (70 + 9 * i + 5) = if i = g then nv A (70 + 9 * g + 5) - v else nv A (70 + 9 * i + 5)
      by_cases q : i = g
      · subst q
        rw [if_pos rfl]; exact n5
      · rw [if_neg q]
        exact nv_congr (en _ (by omega) (by omega)))
    rw [if_pos rfl] at q1
    rw [if_neg (fun q => hne q.symm), m5] at q2
    rw [n6, n9, n10]
    omega
  · rw [n10]; exact h5
theorem psum_n : ∀ {n : Nat}, (∀ k, k < n → A (70 + 9 * k + 5) = nI (nv A (70 + 9 * k + 5))) → psum A n = nI (sumN (fun k => nv A (70 + 9 * k + 5)) n)
  | 0, _ => rfl
  | n + 1, h => by
    rw [psum_s, psum_n (n := n) (fun k hk => h k (by omega)), h n (by omega), nI_add]
    rfl
theorem coinE_0 {c : Nat} (h : CoinI c A) : coinE A = 0 := by
  obtain ⟨h1, h2, h3, h4, h5⟩ := h
  unfold coinE
  rw [psum_n h1, h2, h3, h4, nI_iI, nI_iI, nI_iI, iI_sub, iI_sub]
  rw [show ((nv A 9 + sumN (fun k => nv A (70 + 9 * k + 5)) (nv A 6) : Nat) : Int) - (nv A 9 : Int) - ((sumN (fun k => nv A (70 + 9 * k + 5)) (nv A 6) : Nat) : Int) = 0 by omega]
  rfl
end INV
