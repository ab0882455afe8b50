/-! ===== p65: an hour that passes keeps what holds ===== -/
section CHH
variable {hm c : Nat} {A : Nat → Int32}
/-- during the verdicts: n kites, at most t tangles each, A0 the row before the first verdict -/
def JI (hm n c t : Nat) (A0 : Nat → Int32) (S : JS) : Prop := judI hm A0 S ∧ CoinI c S.1 ∧ ∀ k, k < n → S.1 (70 + 9 * k + 7) = nI (nv S.1 (70 + 9 * k + 7)) ∧ nv A0 (70 + 9 * k + 7) ≤ nv S.1 (70 + 9 * k + 7) ∧ nv S.1 (70 + 9 * k + 7) ≤ t ∧ (¬ S.2.1 k = 0 → 1 ≤ nv S.1 (70 + 9 * k + 7))
theorem JI_mono {n t t' : Nat} {A0 : Nat → Int32} {S : JS} (h : JI hm n c t A0 S) (ht : t ≤ t') : JI hm n c t' A0 S :=
  ⟨h.1, h.2.1, fun k hk => ⟨(h.2.2 k hk).1, (h.2.2 k hk).2.1, Nat.le_trans (h.2.2 k hk).2.2.1 ht, (h.2.2 k hk).2.2.2⟩⟩
theorem JI_step {n t H k i : Nat} {A0 : Nat → Int32} {S : JS} (hc : c < 2 ^ 30) (ht : t < 2 ^ 30) (hn : nv A0 6 = n) (hn16 : n ≤ 16) (hki : k < i) (hi : i < n) (h : JI hm n c t A0 S) : JI hm n c (t + 1) A0 (jstep H S k i) := by
  by_cases q : nv S.1 (70 + 9 * k + 6) = 1 ∧ nv S.1 (70 + 9 * i + 6) = 1 ∧ crossN S.1 k i H
  · have hJ := judI_step (H := H) (k := k) (i := i) (by omega) (by omega) h.1
    rw [jstep_hit q] at hJ ⊢
    obtain ⟨h1, h2, h3⟩ := h
    have n6 : nv S.1 6 = n := by rw [← hn]; exact nv_congr (h1.2 6 (Or.inl (by omega)))
    have hf := r_FINE h1.1
    generalize hg : guiltN S.1 k i = g at *
    have hgo : g = k ∨ g = i := by rw [← hg]; exact guiltN_or S.1 k i
    obtain ⟨e, he, heg, hen⟩ : ∃ e, (if g = k then i else k) = e ∧ g ≠ e ∧ e < n := by
      by_cases z : g = k
      · exact ⟨i, if_pos z, by omega, hi⟩
      · exact ⟨k, if_neg z, z, by omega⟩
    have hgn : g < n := by omega
    have hv : imin (S.1 3) (S.1 (70 + 9 * g + 5)) = nI (min (nv S.1 3) (nv S.1 (70 + 9 * g + 5))) := by
      have hp := coin_purse h2 (k := g) (by omega)
      have e3 := h2.1 g (by omega)
      exact (congrArg (fun x => imin x (S.1 (70 + 9 * g + 5))) hf.1).trans ((congrArg (imin (nI (nv S.1 3))) e3).trans (imin_n (by omega) (by omega)))
    have hE := verdA_eq (A := S.1) (k := k) (i := i) (e := e) (by rw [hg]; exact he)
    rw [hg, hv] at hE
    have hM := CoinI_move (g := g) (e := e) (v := min (nv S.1 3) (nv S.1 (70 + 9 * g + 5))) h2 (by omega) (by omega) heg (by omega) hc (Nat.min_le_right _ _)
    generalize hV : verdA S.1 k i = V at *
    generalize hMM : upd (upd S.1 (70 + 9 * g + 5) (S.1 (70 + 9 * g + 5) - nI (min (nv S.1 3) (nv S.1 (70 + 9 * g + 5))))) (70 + 9 * e + 5) (S.1 (70 + 9 * e + 5) + nI (min (nv S.1 3) (nv S.1 (70 + 9 * g + 5)))) = M at hE hM
    have mn : ∀ j, j ≠ 70 + 9 * g + 5 → j ≠ 70 + 9 * e + 5 → M j = S.1 j := fun j a b => by
      rw [← hMM, upd_n b, upd_n a]
    have vn : ∀ j, j ≠ 70 + 9 * k + 7 → j ≠ 70 + 9 * i + 7 → V j = M j := fun j a b => by
      rw [hE, upd_n b, upd_n a]
    have v6 : nv V 6 = nv M 6 := nv_congr (vn 6 (by omega) (by omega))
    have m6 : nv M 6 = n := by rw [← n6]; exact nv_congr (mn 6 (by omega) (by omega))
    refine ⟨hJ, CoinI_congr hM (Nat.le_refl _) v6 (vn 9 (by omega) (by omega)) (vn 10 (by omega) (by omega)) (fun x hx => vn _ (by omega) (by omega)), fun x hx => ?_⟩
    show V (70 + 9 * x + 7) = nI (nv V (70 + 9 * x + 7)) ∧ nv A0 (70 + 9 * x + 7) ≤ nv V (70 + 9 * x + 7) ∧ nv V (70 + 9 * x + 7) ≤ t + 1 ∧ (¬ upd (upd S.2.1 k (nI 1)) i (nI 1) x = 0 → 1 ≤ nv V (70 + 9 * x + 7))
    have z := h3 x hx
    by_cases hit : x = k ∨ x = i
    · have ev : V (70 + 9 * x + 7) = nI (nv S.1 (70 + 9 * x + 7) + 1) := by
        rcases hit with w | w
        · subst w
          rw [hE, upd_n (by omega), upd_s, z.1, nI_add]
        · subst w
          rw [hE, upd_s, z.1, nI_add]
      have nvv := nv_of ev (by omega)
      rw [nvv]
      exact ⟨ev, by omega, by omega, fun _ => by omega⟩
    · have ev : V (70 + 9 * x + 7) = S.1 (70 + 9 * x + 7) := by
        rw [hE, upd_n (by omega), upd_n (by omega), mn _ (by omega) (by omega)]
      rw [nv_congr ev, ev, upd_n (by omega), upd_n (by omega)]
      exact ⟨z.1, z.2.1, by omega, z.2.2.2⟩
  · rw [jstep_skip q]
    exact JI_mono h (by omega)
theorem jrun_ind {n H : Nat} {I : Nat → JS → Prop} (mono : ∀ t S, I t S → I (t + 1) S) (step : ∀ t S k i, k < i → i < n → I t S → I (t + 1) (jstep H S k i)) : ∀ (f k i t : Nat) (S : JS), k < i → I t S → I (t + f) (jrun n H f k i S)
  | 0, k, i, t, S, hki, h => h
  | f + 1, k, i, t, S, hki, h => by
    by_cases a : k < n
    · by_cases b : i < n
      · rw [jrun_step a b, show t + (f + 1) = t + 1 + f by omega]
        exact jrun_ind mono step f k (i + 1) (t + 1) _ (by omega) (step t S k i hki b h)
      · rw [jrun_next a b, show t + (f + 1) = t + 1 + f by omega]
        exact jrun_ind mono step f (k + 1) (k + 2) (t + 1) _ (by omega) (mono t S h)
    · rw [jrun_done a]
      have : ∀ x, I (t + x) S := fun x => by
        induction x with
        | zero => exact h
        | succ x ih => exact mono _ _ ih
      exact this (f + 1)
theorem SInv_pass {K : Nat → Int32} (h : SInv c hm A) (hc : c < 2 ^ 30) (hb : hm < 1000) : SInv c (hm + 1) (passR A K).1 ∧ nv (passR A K).1 7 = nv A 7 + 1 := by
  obtain ⟨h1, h2, h3, h4, h5, h6, h7⟩ := h
  have hn := r_NP h1
  have h16 := r_NK h1
  have h5c := r_NC h1
  have hH := r_HOUR h1
  have hP0 : KeepI (hm + 1) (nv A 7) (upd A 7 (nI (nv A 7 + 1))) := by
    refine ⟨RowOK_hour h1 (by omega) (by omega), PermI_congr h1 h6 (nv_n (by omega)) (fun j hj => nv_n (by omega)) (nv_n (by omega)) (fun j hj => upd_n (by omega)) (fun p hp => ⟨fun j hj => upd_n (by omega), fun r hr => upd_n (by omega)⟩), fun p hp => ?_⟩
    rw [nv_n (by omega)] at hp
    rw [nv_n (by omega)]
    exact (h7 p hp).2
  have hE0 : KeepI (hm + 1) (nv A 7) (endR A).1 := by
    unfold endR
    exact KeepI_rmF hP0 _ _ _
  have hEnd : ∀ p, p < nv (endR A).1 11 → nv A 7 + 1 < nv (endR A).1 (214 + 3 * p + 1) + nv (endR A).1 (214 + 3 * p + 2) := by
    intro p hp
    have q := rmF_none (P := fun _ s d => ¬ (nI (nv A 7 + 1) < s + d)) 40 (upd A 7 (nI (nv A 7 + 1))) 0 0 (by rw [nv_n (by omega)]; omega) (by rw [nv_n (by omega)]; omega) (fun i hi => absurd hi (Nat.not_lt_zero _)) p hp
    have s1 := r_PS hE0.1 hp
    have d1 := r_PD hE0.1 hp
    have q2 : nI (nv A 7 + 1) < (endR A).1 (214 + 3 * p + 1) + (endR A).1 (214 + 3 * p + 2) := Classical.byContradiction q
    rw [s1.1, d1.1, nI_add, nI_ltI (by omega) (by omega)] at q2
    exact q2
  have elo : ∀ j, j < 214 → j ≠ 11 → j ≠ 7 → (endR A).1 j = A j := fun j a b d => endR_lo a b d
  have e7 : nv (endR A).1 7 = nv A 7 + 1 := nv_of endR_7 (by omega)
  have hPk := passR_ok (K := K) h1 (by omega)
  have hR : judR A K = jrun (nv A 6) (nv A 7 + 1) 1000 0 1 (grA (endR A).1 (nv A 7 + 1) (nv A 6), clrK K (nv A 6), 0) := rfl
  have hQ : (passR A K).1 = tgA (judR A K).1 (judR A K).2.1 (nv A 6) := rfl
  rw [hQ] at hPk ⊢
  rw [hR] at hPk ⊢
  generalize (endR A).1 = E at *
  have n6 : nv E 6 = nv A 6 := nv_congr (elo 6 (by omega) (by omega) (by omega))
  have hG := RowOK_gr (H := nv A 7 + 1) (m := nv A 6) hE0.1 h16.2
  have gE : ∀ j, (∀ k, k < 16 → j ≠ 70 + 9 * k + 6) → grA E (nv A 7 + 1) (nv A 6) j = E j := fun j hj => grA_lo (fun k hk => hj k (by omega))
  have gst : ∀ k, k < nv A 6 → (nv (grA E (nv A 7 + 1) (nv A 6)) (70 + 9 * k + 6) = 1 → fliesN E k (nv A 7 + 1)) ∧ (nv (grA E (nv A 7 + 1) (nv A 6)) (70 + 9 * k + 6) = 2 → nv E (70 + 9 * k + 6) = 2) := by
    intro k hk
    by_cases q : ∃ i, i < nv A 6 ∧ 70 + 9 * k + 6 = 70 + 9 * i + 6 ∧ nv E (70 + 9 * k + 6) = 1 ∧ ¬ fliesN E i (nv A 7 + 1)
    · have z : nv (grA E (nv A 7 + 1) (nv A 6)) (70 + 9 * k + 6) = 0 := nv_of (n := 0) (if_pos q) (by omega)
      rw [z]
      exact ⟨fun w => by omega, fun w => by omega⟩
    · have z : nv (grA E (nv A 7 + 1) (nv A 6)) (70 + 9 * k + 6) = nv E (70 + 9 * k + 6) := nv_congr (if_neg q)
      rw [z]
      exact ⟨fun w => Classical.byContradiction (fun w2 => q ⟨k, hk, rfl, w, w2⟩), id⟩
  generalize grA E (nv A 7 + 1) (nv A 6) = G at *
  have gs : same E G := fun j hj => gE j (fun k hk e => by
    subst e
    exact ncore_k hk (by omega) hj)
  have glo : ∀ j, (∀ k, k < 16 → j ≠ 70 + 9 * k + 6) → j < 214 → j ≠ 11 → j ≠ 7 → G j = A j := fun j a b d e => (gE j a).trans (elo j b d e)
  have g6 : nv G 6 = nv A 6 := nv_congr (glo 6 (fun k hk => by omega) (by omega) (by omega) (by omega))
  have g7 : ∀ k, k < 16 → G (70 + 9 * k + 7) = A (70 + 9 * k + 7) := fun k hk => glo _ (fun i hi => by omega) (by omega) (by omega) (by omega)
  have hCG : CoinI c G := CoinI_congr h3 (Nat.le_refl _) g6 (glo 9 (fun k hk => by omega) (by omega) (by omega) (by omega)) (glo 10 (fun k hk => by omega) (by omega) (by omega) (by omega)) (fun i hi => glo _ (fun k hk => by omega) (by omega) (by omega) (by omega))
  have J0 : JI (hm + 1) (nv A 6) c (1000 * nv A 7) G (G, clrK K (nv A 6), 0) := by
    refine ⟨⟨hG, fun _ _ => rfl⟩, hCG, fun k hk => ?_⟩
    show G (70 + 9 * k + 7) = nI (nv G (70 + 9 * k + 7)) ∧ nv G (70 + 9 * k + 7) ≤ nv G (70 + 9 * k + 7) ∧ nv G (70 + 9 * k + 7) ≤ 1000 * nv A 7 ∧ (¬ clrK K (nv A 6) k = 0 → 1 ≤ nv G (70 + 9 * k + 7))
    rw [nv_congr (g7 k (by omega)), g7 k (by omega)]
    refine ⟨(h4 k hk).1, Nat.le_refl _, (h4 k hk).2, fun q => absurd ?_ q⟩
    unfold clrK
    rw [if_pos hk]
    exact nI_0
  have J1 := jrun_ind (n := nv A 6) (H := nv A 7 + 1) (I := fun t S => t ≤ 2000000 → JI (hm + 1) (nv A 6) c t G S) (fun t S h ht => JI_mono (h (by omega)) (by omega)) (fun t S k i hki hi h ht => JI_step hc (by omega) g6 h16.2 hki hi (h (by omega))) 1000 0 1 (1000 * nv A 7) _ (by omega) (fun _ => J0) (by omega)
  generalize jrun (nv A 6) (nv A 7 + 1) 1000 0 1 (G, clrK K (nv A 6), 0) = S at *
  obtain ⟨j1, j2, j3⟩ := J1
  have s1 : same G S.1 := fun j hj => j1.2 j (by
    rcases hj with q | q | q | q | ⟨k, r, q, q2, q3⟩
    · exact Or.inl (by omega)
    · exact Or.inl (by omega)
    · exact Or.inl (by omega)
    · exact Or.inr (Or.inl q)
    · exact Or.inr (Or.inr ⟨k, r, q, by omega, by omega, by omega⟩))
  have tl : ∀ j, (∀ k, k < 16 → j ≠ 70 + 9 * k + 6) → tgA S.1 S.2.1 (nv A 6) j = S.1 j := fun j hj => tgA_lo (fun k hk => hj k (by omega))
  have s2 : same S.1 (tgA S.1 S.2.1 (nv A 6)) := fun j hj => tl j (fun k hk e => by
    subst e
    exact ncore_k hk (by omega) hj)
  have sEP := same_tr gs (same_tr s1 s2)
  have p6 : nv (tgA S.1 S.2.1 (nv A 6)) 6 = nv A 6 := (same_n sEP (by omega)).trans n6
  have p7 : nv (tgA S.1 S.2.1 (nv A 6)) 7 = nv A 7 + 1 := (same_n sEP (by omega)).trans e7
  have t7 : ∀ k, k < 16 → tgA S.1 S.2.1 (nv A 6) (70 + 9 * k + 7) = S.1 (70 + 9 * k + 7) := fun k hk => tl _ (fun i hi => by omega)
  have s6 : nv S.1 6 = nv A 6 := (same_n s1 (by omega)).trans g6
  have FE : FixI E := by
    unfold FixI
    rw [n6, nv_congr (elo 0 (by omega) (by omega) (by omega)), nv_congr (elo 1 (by omega) (by omega) (by omega)), nv_congr (elo 5 (by omega) (by omega) (by omega))]
    exact h2
  have EE : EndI E := fun p hp => by
    rw [e7]
    exact ⟨hEnd p hp, hE0.2.2 p hp⟩
  refine ⟨⟨hPk, FixI_same sEP FE, ?_, ?_, ?_, ?_, EndI_same sEP EE⟩, p7⟩
  · exact CoinI_congr j2 (Nat.le_refl _) (p6.trans s6.symm) (tl 9 (fun k hk => by omega)) (tl 10 (fun k hk => by omega)) (fun i hi => tl _ (fun k hk => by omega))
  · rw [p7]
    intro k hk
    rw [p6] at hk
    have z := j3 k hk
    rw [nv_congr (t7 k (by omega)), t7 k (by omega)]
    exact ⟨z.1, by have := z.2.2.1; omega⟩
  · rw [p7]
    intro k hk
    rw [p6] at hk
    have z := j3 k hk
    rw [nv_congr (t7 k (by omega)), gk_fliesN hE0.1 (same_geoK sEP (by omega)) (by omega)]
    by_cases q : ∃ i, i < nv A 6 ∧ 70 + 9 * k + 6 = 70 + 9 * i + 6 ∧ ¬ S.2.1 i = 0
    · have z2 : nv (tgA S.1 S.2.1 (nv A 6)) (70 + 9 * k + 6) = 2 := nv_of (n := 2) (if_pos q) (by omega)
      rw [z2]
      obtain ⟨i, q1, q2, q3⟩ := q
      have e : i = k := by omega
      subst e
      exact ⟨fun w => by omega, fun _ => z.2.2.2 q3⟩
    · have z2 : nv (tgA S.1 S.2.1 (nv A 6)) (70 + 9 * k + 6) = nv S.1 (70 + 9 * k + 6) := nv_congr (if_neg q)
      have z3 : nv S.1 (70 + 9 * k + 6) = nv G (70 + 9 * k + 6) := nv_congr (j1.2 _ (Or.inr (Or.inr ⟨k, 6, rfl, by omega, by omega, by omega⟩)))
      rw [z2, z3]
      refine ⟨(gst k hk).1, fun w => ?_⟩
      have w2 := (gst k hk).2 w
      rw [nv_congr (elo (70 + 9 * k + 6) (by omega) (by omega) (by omega))] at w2
      have w3 := (h5 k hk).2 w2
      have w4 := z.2.1
      rw [nv_congr (g7 k (by omega))] at w4
      omega
  · rw [p7]
    exact PermI_same hE0.1 sEP (PermI_mono (by omega) hE0.2.1)
theorem SInv_passed {K : Nat → Int32} (h : SInv c hm A) (hc : c < 2 ^ 30) : ∀ (n : Nat), hm + n ≤ 1000 → SInv c (hm + n) (passed n (A, K, 0)).1 ∧ nv (passed n (A, K, 0)).1 7 = nv A 7 + n
  | 0, _ => ⟨h, rfl⟩
  | n + 1, hb => by
    obtain ⟨h1, h2⟩ := SInv_passed (K := K) h hc n (by omega)
    have q := SInv_pass (K := (passed n (A, K, 0)).2.1) h1 hc (by omega)
    exact ⟨q.1, by rw [show nv A 7 + (n + 1) = nv A 7 + n + 1 by omega, ← h2]; exact q.2⟩
end CHH
