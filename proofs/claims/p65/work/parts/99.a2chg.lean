/-! ===== p65: what holds stays over each change ===== -/
section CHG
variable {hm c : Nat} {A : Nat → Int32}
def SInv (c hm : Nat) (A : Nat → Int32) : Prop := RowOK hm A ∧ FixI A ∧ CoinI c A ∧ TangI (1000 * nv A 7) A ∧ FlyI (nv A 7) A ∧ PermI (nv A 7) A ∧ EndI A
theorem SInv_mono {c' hm' : Nat} (h : SInv c hm A) (hc : c ≤ c') (hh : hm ≤ hm') : SInv c' hm' A := by
  obtain ⟨h1, h2, h3, h4, h5, h6, h7⟩ := h
  exact ⟨RowOK_mono h1 hh, h2, CoinI_congr h3 hc rfl rfl rfl (fun _ _ => rfl), h4, h5, h6, h7⟩
/-- a change of places that neither geometry nor permits read -/
theorem SInv_same {c' : Nat} {B : Nat → Int32} (h : SInv c hm A) (e : same A B) (hI : RowOK hm B) (hC : CoinI c' B) (hT : ∀ k, k < nv A 6 → B (70 + 9 * k + 7) = A (70 + 9 * k + 7)) (hF : ∀ k, k < nv A 6 → (nv B (70 + 9 * k + 6) = 1 → fliesN A k (nv A 7)) ∧ (nv B (70 + 9 * k + 6) = 2 → 1 ≤ nv A (70 + 9 * k + 7))) : SInv c' hm B := by
  obtain ⟨h1, h2, h3, h4, h5, h6, h7⟩ := h
  have n6 : nv B 6 = nv A 6 := same_n e (by omega)
  have n7 : nv B 7 = nv A 7 := same_n e (by omega)
  have h16 := r_NK h1
  refine ⟨hI, FixI_same e h2, hC, ?_, ?_, ?_, EndI_same e h7⟩
  · rw [n7]; exact TangI_congr h4 (Nat.le_refl _) n6 hT
  · rw [n7]
    intro k hk
    rw [n6] at hk
    rw [gk_fliesN h1 (same_geoK e (by omega)) hk, nv_congr (hT k hk)]
    exact hF k hk
  · rw [n7]; exact PermI_same h1 e h6
theorem SInv_launch {k : Nat} (h : SInv c hm A) (hk : k < nv A 6) (hc : canL A k) : SInv c hm (launchA A k) := by
  have h16 := r_NK h.1
  have hn : ∀ j, j ≠ 8 → j ≠ 70 + 9 * k + 6 → j ≠ 70 + 9 * k + 8 → launchA A k j = A j := fun j a b d => by
    unfold launchA
    rw [upd_n d, upd_n a, upd_n b]
  refine SInv_same h (same_tr (same_tr (same_upd (ncore_k (by omega) (by omega))) (same_upd (ncore_n (by omega)))) (same_upd (ncore_k (by omega) (by omega)))) (RowOK_launch h.1 (by omega)) ?_ (fun i hi => hn _ (by omega) (by omega) (by omega)) (fun i hi => ?_)
  · exact CoinI_congr h.2.2.1 (Nat.le_refl _) (nv_congr (hn 6 (by omega) (by omega) (by omega))) (hn 9 (by omega) (by omega) (by omega)) (hn 10 (by omega) (by omega) (by omega)) (fun i hi => hn _ (by omega) (by omega) (by omega))
  · by_cases e : i = k
    · subst e
      have e6 : nv (launchA A i) (70 + 9 * i + 6) = 1 := nv_of (by unfold launchA; rw [upd_n (by omega), upd_n (by omega), upd_s]) (by omega)
      exact ⟨fun _ => hc.2, fun q => by omega⟩
    · rw [nv_congr (hn (70 + 9 * i + 6) (by omega) (by omega) (by omega))]
      exact h.2.2.2.2.1 i hi
theorem SInv_land {k : Nat} (h : SInv c hm A) (hk : k < nv A 6) : SInv c hm (stateA A k 0) := by
  have h16 := r_NK h.1
  have hn : ∀ j, j ≠ 70 + 9 * k + 6 → stateA A k 0 j = A j := fun j a => upd_n a
  refine SInv_same h (same_upd (ncore_k (by omega) (by omega))) (RowOK_state h.1 (by omega) (by omega)) ?_ (fun i hi => hn _ (by omega)) (fun i hi => ?_)
  · exact CoinI_congr h.2.2.1 (Nat.le_refl _) (nv_congr (hn 6 (by omega))) (hn 9 (by omega)) (hn 10 (by omega)) (fun i hi => hn _ (by omega))
  · by_cases e : i = k
    · subst e
      have e6 : nv (stateA A i 0) (70 + 9 * i + 6) = 0 := nv_of upd_s (by omega)
      exact ⟨fun q => by omega, fun q => by omega⟩
    · rw [nv_congr (hn (70 + 9 * i + 6) (by omega))]
      exact h.2.2.2.2.1 i hi
theorem SInv_rep {k : Nat} (h : SInv c hm A) (hc : c < 2 ^ 30) (hk : k < nv A 6) (hr : canR A k) : SInv c hm (repA A k) := by
  have h16 := r_NK h.1
  have hkn := r_KN h.1 hk
  have hp := coin_purse h.2.2.1 hk
  have hv : 2 * nv A (70 + 9 * k + 4) ≤ nv A (70 + 9 * k + 5) := by
    have q := hr.2
    rw [h.2.2.1.1 k hk] at q
    exact (nI_leI (by omega) (by omega)).mp q
  have hC := CoinI_pay h.2.2.1 hk h16.2 hc hv
  have hn : ∀ j, j ≠ 9 → j ≠ 70 + 9 * k + 5 → j ≠ 70 + 9 * k + 6 → repA A k j = A j := fun j a b d => by
    unfold repA
    rw [upd_n d, upd_n a, upd_n b]
  refine SInv_same h (same_tr (same_tr (same_upd (ncore_k (by omega) (by omega))) (same_upd (ncore_n (by omega)))) (same_upd (ncore_k (by omega) (by omega)))) (RowOK_rep h.1 (by omega)) ?_ (fun i hi => hn _ (by omega) (by omega) (by omega)) (fun i hi => ?_)
  · refine CoinI_congr (A := payA A k (nI (2 * nv A (70 + 9 * k + 4)))) hC (Nat.le_refl _) ?_ ?_ ?_ (fun i hi => ?_)
    · exact nv_congr (upd_n (by omega))
    · exact upd_n (by omega)
    · exact upd_n (by omega)
    · exact upd_n (by omega)
  · by_cases e : i = k
    · subst e
      have e6 : nv (repA A i) (70 + 9 * i + 6) = 0 := nv_of upd_s (by omega)
      exact ⟨fun q => by omega, fun q => by omega⟩
    · rw [nv_congr (hn (70 + 9 * i + 6) (by omega) (by omega) (by omega))]
      exact h.2.2.2.2.1 i hi
theorem CoinI_fund {c' k v : Nat} (h : CoinI c A) (hk : k < nv A 6) (h16 : nv A 6 ≤ 16) (hc : c + v ≤ c') (hc2 : c' < 2 ^ 30) : CoinI c' (upd (upd A (70 + 9 * k + 5) (A (70 + 9 * k + 5) + nI v)) 10 (A 10 + nI v)) := by
  have hp := coin_purse h hk
  obtain ⟨h1, h2, h3, h4, h5⟩ := h
  generalize hB : upd (upd A (70 + 9 * k + 5) (A (70 + 9 * k + 5) + nI v)) 10 (A 10 + nI v) = B
  have e5 : B (70 + 9 * k + 5) = nI (nv A (70 + 9 * k + 5) + v) := by
    rw [← hB, upd_n (by omega), upd_s, h1 k hk, nI_add]
  have e10 : B 10 = nI (nv A 10 + v) := by
    rw [← hB, upd_s, h3, nI_add]
  have en : ∀ j, j ≠ 10 → j ≠ 70 + 9 * k + 5 → B j = A j := fun j q1 q2 => by
    rw [← hB, upd_n q1, upd_n q2]
  have n5 := nv_of e5 (by omega)
  have n10 := nv_of e10 (by omega)
  have n6 : nv B 6 = nv A 6 := nv_congr (en 6 (by omega) (by omega))
  have n9 : nv B 9 = nv A 9 := nv_congr (en 9 (by omega) (by omega))
  refine ⟨fun i hi => ?_, ?_, ?_, ?_, ?_⟩
  · rw [n6] at hi
    by_cases e : i = k
    · subst e
      rw [n5]; exact e5
    · rw [nv_congr (en _ (by omega) (by omega)), en _ (by omega) (by omega)]
      exact h1 i hi
  · rw [n9, en 9 (by omega) (by omega)]; exact h2
  · rw [n10]; exact e10
  · have q : sumN (fun i => nv B (70 + 9 * i + 5)) (nv A 6) + nv A (70 + 9 * k + 5) = sumN (fun k => nv A (70 + 9 * k + 5)) (nv A 6) + nv B (70 + 9 * k + 5) := sumN_one (f := fun k => nv A (70 + 9 * k + 5)) (g := fun i => nv B (70 + 9 * i + 5)) hk (fun i hi hik => nv_congr (en _ (by omega) (by omega)))
    rw [n6, n9, n10]
    rw [n5] at q
    omega
  · rw [n10]; omega
theorem fundV_n {k v : Nat} (h : CoinI c A) (hc : c < 2 ^ 30) (hk : k < nv A 6) (hv : v < 2 ^ 30) : ∃ x, x ≤ v ∧ fundV A k (nI v) = nI x := by
  have hp := coin_purse h hk
  have e := h.1 k hk
  unfold fundV
  rw [e]
  by_cases g : nv A (70 + 9 * k + 5) ≤ 99999
  · have e2 : nI 99999 - nI (nv A (70 + 9 * k + 5)) = nI (99999 - nv A (70 + 9 * k + 5)) := by
      rw [nI_iI, nI_iI, iI_sub, nI_iI]
      congr 1
      omega
    rw [e2, if_neg (nI_pos (by omega)), imin_n (by omega) (by omega)]
    exact ⟨_, Nat.min_le_right _ _, rfl⟩
  · have e2 : nI 99999 - nI (nv A (70 + 9 * k + 5)) < 0 := by
      rw [nI_iI, nI_iI, iI_sub, show (0 : Int32) = iI 0 from rfl]
      exact (iI_lt (by omega) (by omega)).mpr (by omega)
    rw [if_pos e2]
    exact ⟨0, Nat.zero_le _, rfl⟩
theorem SInv_fund {c' k v : Nat} (h : SInv c hm A) (hk : k < nv A 6) (hc : c + v ≤ c') (hc2 : c' < 2 ^ 30) : SInv c' hm (fundA A k (nI v)) := by
  have h16 := r_NK h.1
  obtain ⟨x, hx, ex⟩ := fundV_n (v := v) h.2.2.1 (by omega) hk (by omega)
  have hn : ∀ j, j ≠ 10 → j ≠ 70 + 9 * k + 5 → fundA A k (nI v) j = A j := fun j a b => by
    unfold fundA
    rw [upd_n a, upd_n b]
  refine SInv_same h (same_tr (same_upd (ncore_k (by omega) (by omega))) (same_upd (ncore_n (by omega)))) (RowOK_fund h.1 (by omega)) ?_ (fun i hi => hn _ (by omega) (by omega)) (fun i hi => ?_)
  · unfold fundA
    rw [ex]
    exact CoinI_fund h.2.2.1 hk h16.2 (by omega) hc2
  · rw [nv_congr (hn (70 + 9 * i + 6) (by omega) (by omega))]
    exact h.2.2.2.2.1 i hi
/-! a new kite -/
theorem CoinI_kite {c' p : Nat} {x y l o k : Int32} (h : CoinI c A) (hn : nv A 6 < 16) (hc : c + p ≤ c') (hc2 : c' < 2 ^ 30) : CoinI c' (kiteA A x y l o k (nI p)) := by
  have hN := kiteA_new (A := A) (x := x) (y := y) (l := l) (c := o) (k := k) (p := nI p)
  have lo : ∀ j, j < 70 + 9 * nv A 6 → j ≠ 6 → j ≠ 10 → kiteA A x y l o k (nI p) j = A j := fun j h1 h2 h3 => kiteA_lo h1 h2 h3
  have b6 : kiteA A x y l o k (nI p) 6 = nI (nv A 6 + 1) := upd_s
  have b10 : kiteA A x y l o k (nI p) 10 = A 10 + nI p := (upd_n (by omega)).trans upd_s
  generalize kiteA A x y l o k (nI p) = B at hN lo b6 b10 ⊢
  have e5 := hN.2.2.2.2.2.1
  obtain ⟨h1, h2, h3, h4, h5⟩ := h
  rw [h3, nI_add] at b10
  have n6 := nv_of b6 (by omega)
  have n10 := nv_of b10 (by omega)
  have n5 := nv_of e5 (by omega)
  have n9 : nv B 9 = nv A 9 := nv_congr (lo 9 (by omega) (by omega) (by omega))
  refine ⟨fun i hi => ?_, ?_, ?_, ?_, ?_⟩
  · rw [n6] at hi
    by_cases e : i = nv A 6
    · subst e
      rw [n5]; exact e5
    · rw [nv_congr (lo _ (by omega) (by omega) (by omega)), lo _ (by omega) (by omega) (by omega)]
      exact h1 i (by omega)
  · rw [n9, lo 9 (by omega) (by omega) (by omega)]; exact h2
  · rw [n10]; exact b10
  · rw [n6, n9, n10, sumN_s, sumN_congr (f := fun i => nv B (70 + 9 * i + 5)) (g := fun i => nv A (70 + 9 * i + 5)) (fun i hi => nv_congr (lo _ (by omega) (by omega) (by omega)))]
    rw [n5]
    omega
  · rw [n10]; omega
theorem SInv_kite {c' x y l o v p : Nat} (h : SInv c hm A) (hn : nv A 6 < 16) (hx : x ≤ nv A 0 - 1) (hy : y ≤ nv A 1 - 1) (hl : 1 ≤ l ∧ l ≤ 60) (ho : o < nv A 5) (hv : v ≤ 9) (hc : c + p ≤ c') (hc2 : c' < 2 ^ 30) : SInv c' hm (kiteA A (nI x) (nI y) (nI l) (nI o) (nI v) (nI p)) := by
  obtain ⟨h1, h2, h3, h4, h5, h6, h7⟩ := h
  have hI := RowOK_addK (p := nI p) h1 hn hx hy hl ho hv
  have hC := CoinI_kite (x := nI x) (y := nI y) (l := nI l) (o := nI o) (k := nI v) h3 hn hc hc2
  have hN := kiteA_new (A := A) (x := nI x) (y := nI y) (l := nI l) (c := nI o) (k := nI v) (p := nI p)
  have lo : ∀ j, j < 70 + 9 * nv A 6 → j ≠ 6 → j ≠ 10 → kiteA A (nI x) (nI y) (nI l) (nI o) (nI v) (nI p) j = A j := fun j h1 h2 h3 => kiteA_lo h1 h2 h3
  have hi : ∀ j, 70 + 9 * nv A 6 + 9 ≤ j → kiteA A (nI x) (nI y) (nI l) (nI o) (nI v) (nI p) j = A j := fun j h1 => kiteA_hi h1
  have b6 : kiteA A (nI x) (nI y) (nI l) (nI o) (nI v) (nI p) 6 = nI (nv A 6 + 1) := upd_s
  generalize kiteA A (nI x) (nI y) (nI l) (nI o) (nI v) (nI p) = B at hI hC hN lo hi b6 ⊢
  have n6 := nv_of b6 (by omega)
  have n7 : nv B 7 = nv A 7 := nv_congr (lo 7 (by omega) (by omega) (by omega))
  have n11 : nv B 11 = nv A 11 := nv_congr (lo 11 (by omega) (by omega) (by omega))
  have h5c := r_NC h1
  have geo : ∀ i, i < nv A 6 → geoK A B i := fun i hi => ⟨fun j hj => lo j (by omega) (by omega) (by omega), fun r hr => lo _ (by omega) (by omega) (by omega)⟩
  have e7 := nv_of hN.2.2.2.2.2.2.2.1 (by omega)
  have e6 := nv_of hN.2.2.2.2.2.2.1 (by omega)
  refine ⟨hI, ?_, hC, ?_, ?_, ?_, ?_⟩
  · obtain ⟨a, b, d, e⟩ := h2
    exact ⟨(nv_congr (lo 0 (by omega) (by omega) (by omega))).trans a, (nv_congr (lo 1 (by omega) (by omega) (by omega))).trans b, (nv_congr (lo 5 (by omega) (by omega) (by omega))).trans d, by omega⟩
  · rw [n7]
    intro i hi2
    rw [n6] at hi2
    by_cases e : i = nv A 6
    · subst e
      rw [e7]
      exact ⟨hN.2.2.2.2.2.2.2.1, by omega⟩
    · rw [nv_congr (lo (70 + 9 * i + 7) (by omega) (by omega) (by omega)), lo _ (by omega) (by omega) (by omega)]
      exact h4 i (by omega)
  · rw [n7]
    intro i hi2
    rw [n6] at hi2
    by_cases e : i = nv A 6
    · subst e
      rw [e6]
      exact ⟨fun q => by omega, fun q => by omega⟩
    · rw [nv_congr (lo (70 + 9 * i + 7) (by omega) (by omega) (by omega)), nv_congr (lo (70 + 9 * i + 6) (by omega) (by omega) (by omega)), gk_fliesN h1 (geo i (by omega)) (by omega)]
      exact h5 i (by omega)
  · rw [n7]
    exact PermI_congr h1 h6 (nv_congr (lo 5 (by omega) (by omega) (by omega))) (fun j hj => nv_congr (lo _ (by omega) (by omega) (by omega))) n11 (fun j hj => hi j (by omega)) (fun p hp => geo _ (r_PK h1 hp).2)
  · intro p hp
    rw [n11] at hp
    rw [n7, nv_congr (hi (214 + 3 * p + 1) (by omega)), nv_congr (hi (214 + 3 * p + 2) (by omega))]
    exact h7 p hp
end CHG
