/-! ===== an hour that passes, whatever stood in the list of the caught ===== -/
def FrX (o : Nat) (σ σ' : Mem) : Prop := (∀ a c, a ≠ o → rd σ' a c = rd σ a c) ∧ ∀ j, rdL σ' j = rdL σ j
theorem FrX_refl {o : Nat} {σ : Mem} : FrX o σ σ := ⟨fun _ _ _ => rfl, fun _ => rfl⟩
theorem FrX_trans {o : Nat} {σ σ' σ'' : Mem} (h1 : FrX o σ σ') (h2 : FrX o σ' σ'') : FrX o σ σ'' := ⟨fun a c h => (h2.1 a c h).trans (h1.1 a c h), fun j => (h2.2 j).trans (h1.2 j)⟩
theorem FrX_wr {o c j : Nat} {σ σ' : Mem} {v : Int32} (h : FrX o σ σ') : FrX o σ (wr σ' o c j v) := ⟨fun a b ha => (rd_wr_cell (fun q => ha q.1)).trans (h.1 a b ha), fun i => h.2 i⟩
theorem FrO_X {o : Nat} {σ σ' : Mem} (h : FrO o σ σ') : FrX o σ σ' := ⟨h.1, h.2.1⟩
theorem OAt_21 {hm : Nat} {σ : Mem} {o : Nat} {A : Rw} {k : Nat} {v : Int32} (h : OAt σ o A) (hI : RowOK hm A) : OAt (wr σ o 21 k v) o A := by
  have e : ∀ c j, c ≠ 21 → rd (wr σ o 21 k v) o c j = rd σ o c j := fun c j q => rd_wr_c q
  exact OAt_cong h hI (fun _ _ _ => rfl) (fun _ _ => rfl) (fun c' j i hs hh => (e c' j (by omega)).trans hh) (fun j _ hh => (e 2 j (by omega)).trans hh) (fun j _ hh => (e 5 j (by omega)).trans hh) (fun j c' r hj hs hh => (e c' j (by omega)).trans hh) (fun j c' r hj hs hh => (e c' j (by omega)).trans hh) (fun j => ⟨e 3 j (by omega), e 4 j (by omega)⟩) (fun j => e 9 j (by omega))
theorem verdA_eq {A : Rw} {k i e : Nat} (he : (if guiltN A k i = k then i else k) = e) : verdA A k i = upd (upd (upd (upd A (70 + 9 * guiltN A k i + 5) (A (70 + 9 * guiltN A k i + 5) - imin (A 3) (A (70 + 9 * guiltN A k i + 5)))) (70 + 9 * e + 5) (A (70 + 9 * e + 5) + imin (A 3) (A (70 + 9 * guiltN A k i + 5)))) (70 + 9 * k + 7) (A (70 + 9 * k + 7) + nI 1)) (70 + 9 * i + 7) (A (70 + 9 * i + 7) + nI 1) := by
  subst he
  rfl
def JE (n : Nat) (S S' : JS) : Prop := S.1 = S'.1 ∧ S.2.2 = S'.2.2 ∧ ∀ j, j < n → S.2.1 j = S'.2.1 j
theorem jstep_JE {n H k i : Nat} {S S' : JS} (h : JE n S S') : JE n (jstep H S k i) (jstep H S' k i) := by
  obtain ⟨h1, h2, h3⟩ := h
  by_cases hc : nv S.1 (70 + 9 * k + 6) = 1 ∧ nv S.1 (70 + 9 * i + 6) = 1 ∧ crossN S.1 k i H
  · rw [jstep_hit hc, jstep_hit (S := S') (by rw [← h1]; exact hc)]
    refine ⟨by rw [h1], by rw [h2], fun j hj => ?_⟩
    show upd (upd S.2.1 k (nI 1)) i (nI 1) j = upd (upd S'.2.1 k (nI 1)) i (nI 1) j
    unfold upd
    rw [h3 j hj]
  · rw [jstep_skip hc, jstep_skip (S := S') (by rw [← h1]; exact hc)]
    exact ⟨h1, h2, h3⟩
theorem jrun_JE {n H m : Nat} : ∀ (f k i : Nat) (S S' : JS), JE m S S' → JE m (jrun n H f k i S) (jrun n H f k i S')
  | 0, _, _, _, _, h => h
  | f + 1, k, i, S, S', h => by
    by_cases hk : k < n
    · by_cases hi : i < n
      · rw [jrun_step hk hi, jrun_step hk hi]
        exact jrun_JE f _ _ _ _ (jstep_JE h)
      · rw [jrun_next hk hi, jrun_next hk hi]
        exact jrun_JE f _ _ _ _ h
    · rw [jrun_done hk, jrun_done hk]
      exact h
theorem judR_JE (A K K' : Rw) : JE (nv A 6) (judR A K) (judR A K') := jrun_JE _ _ _ _ _ ⟨rfl, rfl, fun j hj => by
  show clrK K (nv A 6) j = clrK K' (nv A 6) j
  unfold clrK
  rw [if_pos hj, if_pos hj]⟩
theorem tgA_K {A K K' : Rw} {m : Nat} (h : ∀ k, k < m → K k = K' k) : tgA A K m = tgA A K' m := by
  funext j
  unfold tgA
  have e : (∃ k, k < m ∧ j = 70 + 9 * k + 6 ∧ ¬ K k = 0) ↔ ∃ k, k < m ∧ j = 70 + 9 * k + 6 ∧ ¬ K' k = 0 := by
    constructor
    · rintro ⟨k, a, b, c⟩
      exact ⟨k, a, b, by rw [← h k a]; exact c⟩
    · rintro ⟨k, a, b, c⟩
      exact ⟨k, a, b, by rw [h k a]; exact c⟩
  by_cases g : ∃ k, k < m ∧ j = 70 + 9 * k + 6 ∧ ¬ K k = 0
  · rw [if_pos g, if_pos (e.mp g)]
  · rw [if_neg g, if_neg (fun q => g (e.mpr q))]
theorem passR_K (A K K' : Rw) : (passR A K).1 = (passR A K').1 ∧ (passR A K).2.2 = (passR A K').2.2 := by
  obtain ⟨h1, h2, h3⟩ := judR_JE A K K'
  refine ⟨?_, h2⟩
  show tgA (judR A K).1 (judR A K).2.1 (nv A 6) = tgA (judR A K').1 (judR A K').2.1 (nv A 6)
  rw [h1]
  exact tgA_K h3
theorem passed_K (A K K' : Rw) (n : Nat) : ∀ h, (passed h (A, K, n)).1 = (passed h (A, K', n)).1 ∧ (passed h (A, K, n)).2.2 = (passed h (A, K', n)).2.2
  | 0 => ⟨rfl, rfl⟩
  | h + 1 => by
    obtain ⟨h1, h2⟩ := passed_K A K K' n h
    have g := passR_K (passed h (A, K, n)).1 (passed h (A, K, n)).2.1 (passed h (A, K', n)).2.1
    refine ⟨?_, ?_⟩
    · show (passR (passed h (A, K, n)).1 (passed h (A, K, n)).2.1).1 = (passR (passed h (A, K', n)).1 (passed h (A, K', n)).2.1).1
      rw [g.1, h1]
    · show (passed h (A, K, n)).2.2 + (passR (passed h (A, K, n)).1 (passed h (A, K, n)).2.1).2.2 = (passed h (A, K', n)).2.2 + (passR (passed h (A, K', n)).1 (passed h (A, K', n)).2.1).2.2
      rw [g.2, h1, h2]
theorem jrun_hi {n H : Nat} : ∀ (f k i : Nat) (S : JS) (j : Nat), n ≤ j → (jrun n H f k i S).2.1 j = S.2.1 j
  | 0, _, _, _, _, _ => rfl
  | f + 1, k, i, S, j, hj => by
    by_cases hk : k < n
    · by_cases hi : i < n
      · rw [jrun_step hk hi, jrun_hi f _ _ _ j hj]
        by_cases hc : nv S.1 (70 + 9 * k + 6) = 1 ∧ nv S.1 (70 + 9 * i + 6) = 1 ∧ crossN S.1 k i H
        · rw [jstep_hit hc]
          show upd (upd S.2.1 k (nI 1)) i (nI 1) j = S.2.1 j
          rw [upd_n (by omega), upd_n (by omega)]
        · rw [jstep_skip hc]
      · rw [jrun_next hk hi, jrun_hi f _ _ _ j hj]
    · rw [jrun_done hk]
/-- the class's verdicts of an hour are the reference's -/
theorem jud_eq {hm : Nat} {B K : Rw} (hI : RowOK hm B) (hb : hm + 1 < 2 ^ 31) (hK : ∀ k, k < 16 → K k = 0) :
    jrun (nv (grA (endR B).1 (nv (endR B).1 7) (nv (endR B).1 6)) 6) (nv (grA (endR B).1 (nv (endR B).1 7) (nv (endR B).1 6)) 7) 1000 0 1 (grA (endR B).1 (nv (endR B).1 7) (nv (endR B).1 6), K, 0) = judR B K := by
  have n6 := r_NK hI
  have n7 := r_HOUR hI
  have e6 : nv (endR B).1 6 = nv B 6 := nv_congr (endR_lo (by omega) (by omega) (by omega))
  have e7 : nv (endR B).1 7 = nv B 7 + 1 := nv_of endR_7 (by omega)
  rw [e6, e7]
  have g6 : nv (grA (endR B).1 (nv B 7 + 1) (nv B 6)) 6 = nv B 6 := (nv_congr (grA_lo (by omega))).trans e6
  have g7 : nv (grA (endR B).1 (nv B 7 + 1) (nv B 6)) 7 = nv B 7 + 1 := (nv_congr (grA_lo (by omega))).trans e7
  rw [g6, g7]
  have eK : K = clrK K (nv B 6) := by
    funext j
    unfold clrK
    by_cases h : j < nv B 6
    · rw [if_pos h, hK j (by omega)]
      rfl
    · rw [if_neg h]
  unfold judR
  rw [← eK]
theorem judR_hi {hm : Nat} {B K : Rw} (hI : RowOK hm B) {j : Nat} (hj : nv B 6 ≤ j) (hz : K j = 0) : (judR B K).2.1 j = 0 := by
  unfold judR
  rw [jrun_hi _ _ _ _ j hj]
  show clrK K (nv B 6) j = 0
  unfold clrK
  rw [if_neg (by omega)]
  exact hz
/-! ===== the crossings of permits, counted in another way ===== -/
theorem cnt_window {X : Nat → Prop} {b s t : Nat} : ∀ n, cnt (fun i => (s ≤ b + i ∧ b + i < t) ∧ X (b + i)) n = cnt (fun i => X (max b s + i)) (min (b + n) t - max b s)
  | 0 => by
    rw [show min (b + 0) t - max b s = 0 by omega]
    rfl
  | n + 1 => by
    have ih := cnt_window (X := X) (b := b) (s := s) (t := t) n
    by_cases h : s ≤ b + n ∧ b + n < t
    · rw [show min (b + (n + 1)) t - max b s = (min (b + n) t - max b s) + 1 by omega]
      have e : max b s + (min (b + n) t - max b s) = b + n := by omega
      by_cases hx : X (b + n)
      · rw [cnt_tt ⟨h, hx⟩, cnt_tt (by show X (max b s + (min (b + n) t - max b s)); rw [e]; exact hx), ih]
      · rw [cnt_ff (fun q => hx q.2), cnt_ff (by show ¬ X (max b s + (min (b + n) t - max b s)); rw [e]; exact hx), ih]
    · rw [cnt_ff (fun q => h q.1), ih, show min (b + (n + 1)) t - max b s = min (b + n) t - max b s by omega]
theorem crs_cc {A : Rw} {p q : Nat} (h : ¬ nv A (214 + 3 * p) = nv A (214 + 3 * q)) : crs A p q = cnt (fun i => crossN A (nv A (214 + 3 * p)) (nv A (214 + 3 * q)) (max (crsB A p) (nv A (214 + 3 * q + 1)) + i)) (min (crsE A p) (nv A (214 + 3 * q + 1) + nv A (214 + 3 * q + 2)) - max (crsB A p) (nv A (214 + 3 * q + 1))) := by
  rw [crs_ne h]
  refine (cnt_congr (R := fun i => (nv A (214 + 3 * q + 1) ≤ crsB A p + i ∧ crsB A p + i < nv A (214 + 3 * q + 1) + nv A (214 + 3 * q + 2)) ∧ crossN A (nv A (214 + 3 * p)) (nv A (214 + 3 * q)) (crsB A p + i)) (fun i _ => Iff.rfl)).trans ?_
  rw [cnt_window (X := fun j => crossN A (nv A (214 + 3 * p)) (nv A (214 + 3 * q)) j)]
  by_cases g : crsB A p ≤ crsE A p
  · rw [show crsB A p + (crsE A p - crsB A p) = crsE A p by omega]
  · rw [show min (crsB A p + (crsE A p - crsB A p)) (nv A (214 + 3 * q + 1) + nv A (214 + 3 * q + 2)) - max (crsB A p) (nv A (214 + 3 * q + 1)) = 0 by omega, show min (crsE A p) (nv A (214 + 3 * q + 1) + nv A (214 + 3 * q + 2)) - max (crsB A p) (nv A (214 + 3 * q + 1)) = 0 by omega]
