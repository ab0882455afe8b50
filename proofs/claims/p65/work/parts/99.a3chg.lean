/-! ===== p65: permits come and go ===== -/
section CHP
variable {hm c : Nat} {A : Nat → Int32}
theorem refuse_0 {k s d : Nat} (h : refuse A k s d = 0) : nv A 7 ≤ s ∧ nv A 11 ≠ 30 ∧ (∀ t, s ≤ t → t < s + d → ¬ permN A k t) ∧ (∀ t, s ≤ t → t < s + d → usedN A (nv A (70 + 9 * k + 3)) t < nv A (64 + nv A (70 + 9 * k + 3))) ∧ (∀ t, s ≤ t → t < s + d → fliesN A k t) ∧ inWay A k s d < 0 ∧ ¬ A (70 + 9 * k + 5) < nI (nv A 2 * d) := by
  unfold refuse at h
  by_cases h1 : s < nv A 7
  · rw [if_pos h1] at h; omega
  rw [if_neg h1] at h
  by_cases h2 : nv A 11 = 30
  · rw [if_pos h2] at h; omega
  rw [if_neg h2] at h
  by_cases h3 : ∃ t, s ≤ t ∧ t < s + d ∧ permN A k t
  · rw [if_pos h3] at h; omega
  rw [if_neg h3] at h
  by_cases h4 : ∃ t, s ≤ t ∧ t < s + d ∧ nv A (64 + nv A (70 + 9 * k + 3)) ≤ usedN A (nv A (70 + 9 * k + 3)) t
  · rw [if_pos h4] at h; omega
  rw [if_neg h4] at h
  by_cases h5 : ∃ t, s ≤ t ∧ t < s + d ∧ ¬ fliesN A k t
  · rw [if_pos h5] at h; omega
  rw [if_neg h5] at h
  by_cases h6 : 0 ≤ inWay A k s d
  · rw [if_pos h6] at h; omega
  rw [if_neg h6] at h
  by_cases h7 : A (70 + 9 * k + 5) < nI (nv A 2 * d)
  · rw [if_pos h7] at h; omega
  exact ⟨by omega, h2, fun t a b q => h3 ⟨t, a, b, q⟩, fun t a b => Nat.lt_of_not_le (fun q => h4 ⟨t, a, b, q⟩), fun t a b => Classical.byContradiction (fun q => h5 ⟨t, a, b, q⟩), by omega, h7⟩
theorem refuse_6 {k s d : Nat} (h : refuse A k s d = 6) : 0 ≤ inWay A k s d := by
  unfold refuse at h
  by_cases h1 : s < nv A 7
  · rw [if_pos h1] at h; omega
  rw [if_neg h1] at h
  by_cases h2 : nv A 11 = 30
  · rw [if_pos h2] at h; omega
  rw [if_neg h2] at h
  by_cases h3 : ∃ t, s ≤ t ∧ t < s + d ∧ permN A k t
  · rw [if_pos h3] at h; omega
  rw [if_neg h3] at h
  by_cases h4 : ∃ t, s ≤ t ∧ t < s + d ∧ nv A (64 + nv A (70 + 9 * k + 3)) ≤ usedN A (nv A (70 + 9 * k + 3)) t
  · rw [if_pos h4] at h; omega
  rw [if_neg h4] at h
  by_cases h5 : ∃ t, s ≤ t ∧ t < s + d ∧ ¬ fliesN A k t
  · rw [if_pos h5] at h; omega
  rw [if_neg h5] at h
  by_cases h6 : 0 ≤ inWay A k s d
  · exact h6
  rw [if_neg h6] at h
  by_cases h7 : A (70 + 9 * k + 5) < nI (nv A 2 * d)
  · rw [if_pos h7] at h; omega
  rw [if_neg h7] at h
  omega
theorem grantA_lo {k s d j : Nat} (a : j ≠ 11) (b : j ≠ 9) (q : j ≠ 70 + 9 * k + 5) (e0 : j ≠ 214 + 3 * nv A 11) (e1 : j ≠ 214 + 3 * nv A 11 + 1) (e2 : j ≠ 214 + 3 * nv A 11 + 2) : grantA A k s d j = A j := by
  unfold grantA
  rw [upd_n b, upd_n q, upd_n e2, upd_n e1, upd_n e0, upd_n a]
theorem grantA_11 {k s d : Nat} (hk : k < 16) : grantA A k s d 11 = nI (nv A 11 + 1) := by
  unfold grantA
  rw [upd_n (by omega), upd_n (by omega), upd_n (by omega), upd_n (by omega), upd_n (by omega), upd_s]
theorem grantA_k {k s d : Nat} (hk : k < 16) : grantA A k s d (214 + 3 * nv A 11) = nI k := by
  unfold grantA
  rw [upd_n (by omega), upd_n (by omega), upd_n (by omega), upd_n (by omega), upd_s]
theorem grantA_b {k s d : Nat} (hk : k < 16) : grantA A k s d (214 + 3 * nv A 11 + 1) = nI s := by
  unfold grantA
  rw [upd_n (by omega), upd_n (by omega), upd_n (by omega), upd_s]
theorem grantA_d {k s d : Nat} (hk : k < 16) : grantA A k s d (214 + 3 * nv A 11 + 2) = nI d := by
  unfold grantA
  rw [upd_n (by omega), upd_n (by omega), upd_s]
theorem PermI_grant {k s d : Nat} (hI : RowOK hm A) (hP : PermI (nv A 7) A) (hk : k < nv A 6) (hs : s ≤ 999999) (hd : d ≤ 24) (h : refuse A k s d = 0) : PermI (nv A 7) (grantA A k s d) := by
  obtain ⟨g1, g2, g3, g4, g5, g6, g7⟩ := refuse_0 h
  have hn := r_NP hI
  have h6 := r_NK hI
  have hw : ∀ i t, s ≤ t → t < s + d → ¬ wayN A k t i := by
    unfold inWay at g6
    rcases leastI_spec (fun i => ∃ h, s ≤ h ∧ h < s + d ∧ wayN A k h i) with ⟨i, e, _⟩ | ⟨e, hno⟩
    · rw [e] at g6
      omega
    · exact fun i t a b q => hno i ⟨t, a, b, q⟩
  have h5c := r_NC hI
  have hkc := r_KC hI hk
  have hk16 : k < 16 := by omega
  have lo : ∀ j, j ≠ 11 → j ≠ 9 → j ≠ 70 + 9 * k + 5 → j ≠ 214 + 3 * nv A 11 → j ≠ 214 + 3 * nv A 11 + 1 → j ≠ 214 + 3 * nv A 11 + 2 → grantA A k s d j = A j := fun j a b q e0 e1 e2 => grantA_lo a b q e0 e1 e2
  have b11 := nv_of (grantA_11 (A := A) (s := s) (d := d) hk16) (by omega)
  have bk := nv_of (grantA_k (A := A) (s := s) (d := d) hk16) (by omega)
  have bs := nv_of (grantA_b (A := A) (s := s) (d := d) hk16) (by omega)
  have bd := nv_of (grantA_d (A := A) (s := s) (d := d) hk16) (by omega)
  generalize grantA A k s d = B at lo b11 bk bs bd ⊢
  have geo : ∀ i, i < 16 → geoK A B i := fun i hi => ⟨fun j hj => lo j (by omega) (by omega) (by omega) (by omega) (by omega) (by omega), fun r hr => lo _ (by omega) (by omega) (by omega) (by omega) (by omega) (by omega)⟩
  have rk : ∀ p, p < nv A 11 → nv B (214 + 3 * p) = nv A (214 + 3 * p) := fun p hp => nv_congr (lo _ (by omega) (by omega) (by omega) (by omega) (by omega) (by omega))
  have rc : ∀ p t, p < nv A 11 → (covN B p t ↔ covN A p t) := fun p t hp => cov_congr (lo _ (by omega) (by omega) (by omega) (by omega) (by omega) (by omega)) (lo _ (by omega) (by omega) (by omega) (by omega) (by omega) (by omega))
  have nc : ∀ t, covN B (nv A 11) t ↔ s ≤ t ∧ t < s + d := fun t => by
    unfold covN
    rw [bs, bd]
  have kk : ∀ p, p < nv A 11 → nv A (214 + 3 * p) < nv A 6 := fun p hp => (r_PK hI hp).2
  refine ⟨fun p hp t ht hcv => ?_, fun p q hpq hq t ht q1 q2 => ?_, fun o ho t ht => ?_⟩
  · rw [b11] at hp
    by_cases e : p = nv A 11
    · subst e
      rw [bk, gk_fliesN hI (geo k hk16) hk]
      have g := (nc t).mp hcv
      exact g5 t g.1 g.2
    · have hp2 : p < nv A 11 := by omega
      have := kk p hp2
      rw [rk p hp2, gk_fliesN hI (geo _ (by omega)) (by omega)]
      exact hP.1 p hp2 t ht ((rc p t hp2).mp hcv)
  · rw [b11] at hq
    have hp2 : p < nv A 11 := by omega
    have hkp := kk p hp2
    have q1' := (rc p t hp2).mp q1
    by_cases e : q = nv A 11
    · subst e
      have g := (nc t).mp q2
      rw [rk p hp2, bk, gk_crossN hI (geo k hk16) (geo _ (by omega)) hk hkp]
      have ne : nv A (214 + 3 * p) ≠ k := fun q => g3 t g.1 g.2 ⟨p, hp2, q, q1'⟩
      exact ⟨ne, fun q => hw _ t g.1 g.2 ⟨hkp, ne, ⟨p, hp2, rfl, q1'⟩, q⟩⟩
    · have hq2 : q < nv A 11 := by omega
      have hkq := kk q hq2
      rw [rk p hp2, rk q hq2, gk_crossN hI (geo _ (by omega)) (geo _ (by omega)) hkq hkp]
      exact hP.2.1 p q hpq hq2 t ht q1' ((rc q t hq2).mp q2)
  · have e5 : nv B 5 = nv A 5 := nv_congr (lo 5 (by omega) (by omega) (by omega) (by omega) (by omega) (by omega))
    rw [e5] at ho
    have e64 : nv B (64 + o) = nv A (64 + o) := nv_congr (lo _ (by omega) (by omega) (by omega) (by omega) (by omega) (by omega))
    have e : usedN B o t = cnt (fun p => nv B (70 + 9 * nv B (214 + 3 * p) + 3) = o ∧ covN B p t) (nv A 11) + ct (nv B (70 + 9 * nv B (214 + 3 * nv A 11) + 3) = o ∧ covN B (nv A 11) t) := by
      unfold usedN
      rw [b11]
      rfl
    have e1 : cnt (fun p => nv B (70 + 9 * nv B (214 + 3 * p) + 3) = o ∧ covN B p t) (nv A 11) = usedN A o t := by
      unfold usedN
      refine cnt_congr (fun i hi => ?_)
      have := kk i hi
      rw [rk i hi, nv_congr ((geo (nv A (214 + 3 * i)) (by omega)).2 3 (by omega)), rc i t hi]
    have e3 : nv B (70 + 9 * nv B (214 + 3 * nv A 11) + 3) = nv A (70 + 9 * k + 3) := by
      rw [bk]
      exact nv_congr ((geo k hk16).2 3 (by omega))
    rw [e, e1, e64, e3]
    have old := hP.2.2 o ho t ht
    by_cases q : nv A (70 + 9 * k + 3) = o ∧ covN B (nv A 11) t
    · rw [ct_t q]
      have g := (nc t).mp q.2
      have g4t := g4 t g.1 g.2
      rw [q.1] at g4t
      omega
    · rw [ct_f q]
      omega
theorem SInv_grant {k s d : Nat} (h : SInv c hm A) (hc : c < 2 ^ 30) (hk : k < nv A 6) (hs : s ≤ 900000) (hd : 1 ≤ d ∧ d ≤ 24) (h0 : refuse A k s d = 0) : SInv c hm (grantA A k s d) := by
  obtain ⟨h1, h2, h3, h4, h5, h6, h7⟩ := h
  obtain ⟨g1, g2, g3, g4, g5, g6, g7⟩ := refuse_0 h0
  have hn := r_NP h1
  have h16 := r_NK h1
  have hfee := r_FEE h1
  have hp := coin_purse h3 hk
  have hk16 : k < 16 := by omega
  have hv : nv A 2 * d ≤ nv A (70 + 9 * k + 5) := by
    have q1 : nv A 2 * d ≤ 20 * 24 := Nat.mul_le_mul hfee.2 hd.2
    rw [h3.1 k hk, nI_ltI (by omega) (by omega)] at g7
    omega
  have hC := CoinI_pay h3 hk h16.2 hc hv
  have lo : ∀ j, j ≠ 11 → j ≠ 9 → j ≠ 70 + 9 * k + 5 → j ≠ 214 + 3 * nv A 11 → j ≠ 214 + 3 * nv A 11 + 1 → j ≠ 214 + 3 * nv A 11 + 2 → grantA A k s d j = A j := fun j a b q e0 e1 e2 => grantA_lo a b q e0 e1 e2
  have lo2 : ∀ j, j < 214 → j ≠ 11 → grantA A k s d j = payA A k (nI (nv A 2 * d)) j := fun j a b => by
    rw [← grant_eq hk16]
    unfold addA
    have e11 : nv (payA A k (nI (nv A 2 * d))) 11 = nv A 11 := nv_congr (by unfold payA; rw [upd_n (by omega), upd_n (by omega)])
    rw [e11, upd_n (by omega), upd_n (by omega), upd_n (by omega), upd_n b]
  have n7 : nv (grantA A k s d) 7 = nv A 7 := nv_congr (lo 7 (by omega) (by omega) (by omega) (by omega) (by omega) (by omega))
  have n6 : nv (grantA A k s d) 6 = nv A 6 := nv_congr (lo 6 (by omega) (by omega) (by omega) (by omega) (by omega) (by omega))
  refine ⟨RowOK_grant h1 hk (by omega) hd (by omega), ?_, ?_, ?_, ?_, ?_, ?_⟩
  · unfold FixI
    rw [n6, nv_congr (lo 0 (by omega) (by omega) (by omega) (by omega) (by omega) (by omega)), nv_congr (lo 1 (by omega) (by omega) (by omega) (by omega) (by omega) (by omega)), nv_congr (lo 5 (by omega) (by omega) (by omega) (by omega) (by omega) (by omega))]
    exact h2
  · have p6 : nv (payA A k (nI (nv A 2 * d))) 6 = nv A 6 := nv_congr (by unfold payA; rw [upd_n (by omega), upd_n (by omega)])
    refine CoinI_congr hC (Nat.le_refl _) (nv_congr (lo2 6 (by omega) (by omega))) (lo2 9 (by omega) (by omega)) (lo2 10 (by omega) (by omega)) (fun i hi => ?_)
    rw [p6] at hi
    exact lo2 _ (by omega) (by omega)
  · rw [n7]
    exact TangI_congr h4 (Nat.le_refl _) n6 (fun i hi => lo _ (by omega) (by omega) (by omega) (by omega) (by omega) (by omega))
  · rw [n7]
    intro i hi
    rw [n6] at hi
    rw [nv_congr (lo (70 + 9 * i + 6) (by omega) (by omega) (by omega) (by omega) (by omega) (by omega)), nv_congr (lo (70 + 9 * i + 7) (by omega) (by omega) (by omega) (by omega) (by omega) (by omega)), gk_fliesN h1 (A := A) ⟨fun j hj => lo j (by omega) (by omega) (by omega) (by omega) (by omega) (by omega), fun r hr => lo _ (by omega) (by omega) (by omega) (by omega) (by omega) (by omega)⟩ hi]
    exact h5 i hi
  · rw [n7]
    exact PermI_grant h1 h6 hk (by omega) hd.2 h0
  · intro p hp
    rw [nv_of (grantA_11 (A := A) (s := s) (d := d) hk16) (by omega)] at hp
    rw [n7]
    by_cases e : p = nv A 11
    · subst e
      rw [nv_of (grantA_b (A := A) (s := s) (d := d) hk16) (by omega), nv_of (grantA_d (A := A) (s := s) (d := d) hk16) (by omega)]
      omega
    · rw [nv_congr (lo (214 + 3 * p + 1) (by omega) (by omega) (by omega) (by omega) (by omega) (by omega)), nv_congr (lo (214 + 3 * p + 2) (by omega) (by omega) (by omega) (by omega) (by omega) (by omega))]
      exact h7 p (by omega)
/-! a permit is taken away -/
theorem rem_row {p i x : Nat} (hx : x < 3) (hi : i < nv A 11 - 1) : removeA A p (214 + 3 * i + x) = A (214 + 3 * (if i < p then i else i + 1) + x) := by
  rw [removeA_at hx hi]
  by_cases e : i < p
  · rw [if_pos e, if_pos e]
  · rw [if_neg e, if_neg e]
theorem PermI_remove {h0 p : Nat} (hI : RowOK hm A) (hP : PermI h0 A) (hp : p < nv A 11) : PermI h0 (removeA A p) := by
  have hn := r_NP hI
  have h6 := r_NK hI
  have h5c := r_NC hI
  have b11 := nv_remove (A := A) (p := p) hn.2
  have lo : ∀ j, j < 214 → j ≠ 11 → removeA A p j = A j := fun j a b => removeA_lo a b
  have row : ∀ i x, x < 3 → i < nv A 11 - 1 → removeA A p (214 + 3 * i + x) = A (214 + 3 * (if i < p then i else i + 1) + x) := fun i x hx hi => rem_row hx hi
  generalize removeA A p = B at b11 lo row ⊢
  have geo : ∀ i, i < 16 → geoK A B i := fun i hi => ⟨fun j hj => lo j (by omega) (by omega), fun r hr => lo _ (by omega) (by omega)⟩
  have rk : ∀ i, i < nv A 11 - 1 → nv B (214 + 3 * i) = nv A (214 + 3 * (if i < p then i else i + 1)) := fun i hi => by
    have q := row i 0 (by omega) hi
    unfold nv
    rw [show B (214 + 3 * i) = A (214 + 3 * (if i < p then i else i + 1)) from q]
  have rc : ∀ i t, i < nv A 11 - 1 → (covN B i t ↔ covN A (if i < p then i else i + 1) t) := fun i t hi => cov_congr (row i 1 (by omega) hi) (row i 2 (by omega) hi)
  have kk : ∀ i, i < nv A 11 → nv A (214 + 3 * i) < nv A 6 := fun i hi => (r_PK hI hi).2
  have fl : ∀ i, i < nv A 11 - 1 → (if i < p then i else i + 1) < nv A 11 := fun i hi => by split <;> omega
  refine ⟨fun i hi t ht hcv => ?_, fun i j hij hj t ht q1 q2 => ?_, fun o ho t ht => ?_⟩
  · rw [b11] at hi
    have := kk _ (fl i hi)
    rw [rk i hi, gk_fliesN hI (geo _ (by omega)) (by omega)]
    exact hP.1 _ (fl i hi) t ht ((rc i t hi).mp hcv)
  · rw [b11] at hj
    have hi : i < nv A 11 - 1 := by omega
    have k1 := kk _ (fl i hi)
    have k2 := kk _ (fl j hj)
    rw [rk i hi, rk j hj, gk_crossN hI (geo _ (by omega)) (geo _ (by omega)) k2 k1]
    exact hP.2.1 _ _ (by split <;> split <;> omega) (fl j hj) t ht ((rc i t hi).mp q1) ((rc j t hj).mp q2)
  · have e5 : nv B 5 = nv A 5 := nv_congr (lo 5 (by omega) (by omega))
    rw [e5] at ho
    rw [show nv B (64 + o) = nv A (64 + o) from nv_congr (lo _ (by omega) (by omega))]
    refine Nat.le_trans ?_ (hP.2.2 o ho t ht)
    unfold usedN
    rw [b11]
    have e1 : cnt (fun i => nv B (70 + 9 * nv B (214 + 3 * i) + 3) = o ∧ covN B i t) (nv A 11 - 1) = cnt (fun i => (fun i => nv A (70 + 9 * nv A (214 + 3 * i) + 3) = o ∧ covN A i t) (if i < p then i else i + 1)) (nv A 11 - 1) := by
      refine cnt_congr (fun i hi => ?_)
      have := kk _ (fl i hi)
      rw [rk i hi, nv_congr ((geo (nv A (214 + 3 * (if i < p then i else i + 1))) (by omega)).2 3 (by omega)), rc i t hi]
    rw [e1]
    have e2 := cnt_skip (P := fun i => nv A (70 + 9 * nv A (214 + 3 * i) + 3) = o ∧ covN A i t) (p := p) (nv A 11 - 1) (by omega)
    rw [show nv A 11 - 1 + 1 = nv A 11 by omega] at e2
    exact e2
theorem rmF_none {P : Int32 → Int32 → Int32 → Prop} : ∀ (f : Nat) (A : Nat → Int32) (k n : Nat), nv A 11 ≤ k + f → nv A 11 ≤ 30 → (∀ i, i < k → i < nv A 11 → ¬ P (A (214 + 3 * i)) (A (214 + 3 * i + 1)) (A (214 + 3 * i + 2))) → ∀ i, i < nv (rmF P f A k n).1 11 → ¬ P ((rmF P f A k n).1 (214 + 3 * i)) ((rmF P f A k n).1 (214 + 3 * i + 1)) ((rmF P f A k n).1 (214 + 3 * i + 2))
  | 0, A, k, n, h, _, hk => fun i hi => hk i (by show i < k; have hi : i < nv A 11 := hi; omega) hi
  | f + 1, A, k, n, h, h30, hk => by
    by_cases g : k < nv A 11
    · by_cases q : P (A (214 + 3 * k)) (A (214 + 3 * k + 1)) (A (214 + 3 * k + 2))
      · rw [rmF_t g q]
        have e := nv_remove (A := A) (p := k) h30
        refine rmF_none f _ k _ (by omega) (by omega) (fun i hi hi2 => ?_)
        have r0 := rem_row (A := A) (p := k) (i := i) (x := 0) (by omega) (by omega)
        have r1 := rem_row (A := A) (p := k) (i := i) (x := 1) (by omega) (by omega)
        have r2 := rem_row (A := A) (p := k) (i := i) (x := 2) (by omega) (by omega)
        rw [if_pos hi] at r0 r1 r2
        rw [show removeA A k (214 + 3 * i) = A (214 + 3 * i) from r0, r1, r2]
        exact hk i hi (by omega)
      · rw [rmF_f g q]
        refine rmF_none f A (k + 1) n (by omega) h30 (fun i hi hi2 => ?_)
        by_cases e : i = k
        · subst e; exact q
        · exact hk i (by omega) hi2
    · rw [rmF_done g]
      exact fun i hi => hk i (by have hi : i < nv A 11 := hi; omega) hi
/-- what a row of removals keeps -/
def KeepI (hm h0 : Nat) (A : Nat → Int32) : Prop := RowOK hm A ∧ PermI h0 A ∧ ∀ p, p < nv A 11 → nv A (214 + 3 * p + 1) ≤ 900000
theorem KeepI_remove {h0 p : Nat} (h : KeepI hm h0 A) (hp : p < nv A 11) : KeepI hm h0 (removeA A p) := by
  have hn := r_NP h.1
  refine ⟨RowOK_remove h.1 hp, PermI_remove h.1 h.2.1 hp, fun i hi => ?_⟩
  rw [nv_remove hn.2] at hi
  have q := rem_row (A := A) (p := p) (i := i) (x := 1) (by omega) hi
  unfold nv
  rw [q]
  exact h.2.2 _ (by split <;> omega)
theorem KeepI_rmF {h0 : Nat} {P : Int32 → Int32 → Int32 → Prop} (h : KeepI hm h0 A) (f k n : Nat) : KeepI hm h0 (rmF P f A k n).1 := rmF_inv (I := KeepI hm h0) (fun _ _ h1 h2 => KeepI_remove h1 h2) f A k n h
/-! a tail is tied anew: its kite's permits go -/
theorem cancel_none {k : Nat} (hI : RowOK hm A) (hk : k < 2 ^ 31) : ∀ i, i < nv (cancelR A k).1 11 → nv ((cancelR A k).1) (214 + 3 * i) ≠ k := by
  intro i hi e
  have hn := r_NP hI
  have h1 : RowOK hm (cancelR A k).1 := RowOK_rmF hI _ _ _
  have q := rmF_none (P := fun a _ _ => a = nI k) 40 A 0 0 (by omega) hn.2 (fun i hi => absurd hi (Nat.not_lt_zero _)) i hi
  refine q ?_
  have z := (r_PK h1 hi).1
  rw [e] at z
  exact z
theorem tieA_lo {k v j : Nat} (h1 : j < 214) (h2 : j ≠ 11) (h3 : j ≠ 70 + 9 * k + 4) : tieA A k v j = A j := (upd_n h3).trans (rmF_lo _ _ _ h1 h2)
theorem tie_perm {k v t : Nat} (hI : RowOK hm A) (hk : k < 16) : ¬ permN (tieA A k v) k t := by
  rintro ⟨p, hp, e, _⟩
  unfold tieA at hp e
  rw [nv_n (by omega)] at hp e
  exact cancel_none hI (by omega) p hp e
theorem SInv_tie {k v : Nat} (h : SInv c hm A) (hk : k < nv A 6) (hv : v ≤ 9) (h0 : A (70 + 9 * k + 6) = nI 0) : SInv c hm (tieA A k v) := by
  obtain ⟨h1, h2, h3, h4, h5, h6, h7⟩ := h
  have hn := r_NP h1
  have h16 := r_NK h1
  have hk16 : k < 16 := by omega
  have h5c := r_NC h1
  have lo : ∀ j, j < 214 → j ≠ 11 → j ≠ 70 + 9 * k + 4 → tieA A k v j = A j := fun j a b q => tieA_lo a b q
  have hK : KeepI hm (nv A 7) (cancelR A k).1 := KeepI_rmF ⟨h1, h6, fun p hp => (h7 p hp).2⟩ _ _ _
  have hno := cancel_none h1 (k := k) (by omega)
  have hcl : ∀ j, j < 214 → j ≠ 11 → (cancelR A k).1 j = A j := fun j a b => rmF_lo _ _ _ a b
  have tl : ∀ j, j ≠ 70 + 9 * k + 4 → tieA A k v j = (cancelR A k).1 j := fun j a => upd_n a
  have n6 : nv (tieA A k v) 6 = nv A 6 := nv_congr (lo 6 (by omega) (by omega) (by omega))
  have n7 : nv (tieA A k v) 7 = nv A 7 := nv_congr (lo 7 (by omega) (by omega) (by omega))
  have c7 : nv (cancelR A k).1 7 = nv A 7 := nv_congr (hcl 7 (by omega) (by omega))
  have c5 : nv (cancelR A k).1 5 = nv A 5 := nv_congr (hcl 5 (by omega) (by omega))
  have c6 : nv (cancelR A k).1 6 = nv A 6 := nv_congr (hcl 6 (by omega) (by omega))
  refine ⟨RowOK_tie h1 hk16 hv, ?_, ?_, ?_, ?_, ?_, ?_⟩
  · unfold FixI
    rw [n6, nv_congr (lo 0 (by omega) (by omega) (by omega)), nv_congr (lo 1 (by omega) (by omega) (by omega)), nv_congr (lo 5 (by omega) (by omega) (by omega))]
    exact h2
  · exact CoinI_congr h3 (Nat.le_refl _) n6 (lo 9 (by omega) (by omega) (by omega)) (lo 10 (by omega) (by omega) (by omega)) (fun i hi => lo _ (by omega) (by omega) (by omega))
  · rw [n7]
    exact TangI_congr h4 (Nat.le_refl _) n6 (fun i hi => lo _ (by omega) (by omega) (by omega))
  · rw [n7]
    intro i hi
    rw [n6] at hi
    rw [nv_congr (lo (70 + 9 * i + 6) (by omega) (by omega) (by omega)), nv_congr (lo (70 + 9 * i + 7) (by omega) (by omega) (by omega))]
    by_cases e : i = k
    · subst e
      rw [nv_of h0 (by omega)]
      exact ⟨fun q => by omega, fun q => by omega⟩
    · rw [gk_fliesN h1 (A := A) ⟨fun j hj => lo j (by omega) (by omega) (by omega), fun r hr => lo _ (by omega) (by omega) (by omega)⟩ hi]
      exact h5 i hi
  · rw [n7]
    refine PermI_congr (A := (cancelR A k).1) hK.1 hK.2.1 (nv_congr (tl 5 (by omega))) (fun j hj => nv_congr (tl _ (by omega))) (nv_congr (tl 11 (by omega))) (fun j hj => tl j (by omega)) (fun p hp => ⟨fun j hj => tl j (by omega), fun r hr => tl _ ?_⟩)
    have q1 := hno p hp
    have q2 := (r_PK hK.1 hp).2
    rw [c6] at q2
    omega
  · intro p hp
    rw [nv_congr (tl 11 (by omega))] at hp
    rw [n7, nv_congr (tl (214 + 3 * p + 1) (by omega)), nv_congr (tl (214 + 3 * p + 2) (by omega))]
    refine ⟨?_, hK.2.2 p hp⟩
    have hE : ∀ (B : Nat → Int32), (fun B : Nat → Int32 => nv B 11 ≤ 30 ∧ ∀ i, i < nv B 11 → nv A 7 < nv B (214 + 3 * i + 1) + nv B (214 + 3 * i + 2)) B → ∀ q, q < nv B 11 → (fun B : Nat → Int32 => nv B 11 ≤ 30 ∧ ∀ i, i < nv B 11 → nv A 7 < nv B (214 + 3 * i + 1) + nv B (214 + 3 * i + 2)) (removeA B q) := fun B hB q hq => by
      obtain ⟨hB0, hB⟩ := hB
      have e := nv_remove (A := B) (p := q) hB0
      refine ⟨by omega, fun i hi => ?_⟩
      rw [e] at hi
      have r1 := rem_row (A := B) (p := q) (i := i) (x := 1) (by omega) hi
      have r2 := rem_row (A := B) (p := q) (i := i) (x := 2) (by omega) hi
      have q3 := hB (if i < q then i else i + 1) (by split <;> omega)
      unfold nv at q3 ⊢
      rw [r1, r2]
      exact q3
    exact (rmF_inv (P := fun a _ _ => a = nI k) (I := fun B : Nat → Int32 => nv B 11 ≤ 30 ∧ ∀ i, i < nv B 11 → nv A 7 < nv B (214 + 3 * i + 1) + nv B (214 + 3 * i + 2)) (fun B q hB hq => hE B hB q hq) 40 A 0 0 ⟨hn.2, fun i hi => (h7 i hi).1⟩).2 p hp
end CHP
