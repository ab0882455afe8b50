/-! ===== an hour that passes ===== -/
def setAK (σ : Mem) (A K : Nat → Int32) : Mem := wrC (setA σ A) 13 8 K
theorem rd_AK_A {σ : Mem} {A K : Nat → Int32} : rd (setAK σ A K) 13 1 = A := (rd_wrC_cell (by omega)).trans rd_setA
theorem rd_AK_K {σ : Mem} {A K : Nat → Int32} : rd (setAK σ A K) 13 8 = K := funext fun _ => rd_wrC_s
theorem rd_AK_ne {σ : Mem} {A K : Nat → Int32} {o c : Nat} (h1 : ¬ (o = 13 ∧ c = 1)) (h2 : ¬ (o = 13 ∧ c = 8)) : rd (setAK σ A K) o c = rd σ o c := (rd_wrC_cell h2).trans (rd_setA_ne h1)
theorem AK_id {σ : Mem} : setAK σ (rd σ 13 1) (rd σ 13 8) = σ := by
  unfold setAK
  rw [setA_id]
  exact wrC_id
theorem wrC_comm {σ : Mem} {o c o' c' : Nat} {f g : Nat → Int32} (h : ¬ (o = o' ∧ c = c')) : wrC (wrC σ o c f) o' c' g = wrC (wrC σ o' c' g) o c f := by
  refine mem_ext (fun a b d => ?_) (fun _ => rfl)
  rw [rd_wrC, rd_wrC]
  by_cases h1 : a = o' ∧ b = c'
  · rw [if_pos h1, rd_wrC, if_neg (fun q => h ⟨q.1.symm.trans h1.1, q.2.symm.trans h1.2⟩), rd_wrC, if_pos h1]
  · rw [if_neg h1]
    by_cases h2 : a = o ∧ b = c
    · rw [if_pos h2, rd_wrC, if_pos h2]
    · rw [if_neg h2, rd_wrC, if_neg h2, rd_wrC, if_neg h1]
theorem wr_AK_A {σ : Mem} {A K : Nat → Int32} {j : Nat} {v : Int32} : wr (setAK σ A K) 13 1 j v = setAK σ (upd A j v) K := by
  rw [wr_wrC, rd_AK_A]
  unfold setAK
  rw [wrC_comm (by omega)]
  congr 1
  exact wrC_wrC
theorem wr_AK_K {σ : Mem} {A K : Nat → Int32} {j : Nat} {v : Int32} : wr (setAK σ A K) 13 8 j v = setAK σ A (upd K j v) := by
  rw [wr_wrC, rd_AK_K]
  exact wrC_wrC
theorem setA_AK {σ : Mem} {A K B : Nat → Int32} : setA (setAK σ A K) B = setAK σ B K := by
  unfold setAK setA
  rw [wrC_comm (by omega), wrC_wrC]
theorem AK_AK {σ : Mem} {A K B L : Nat → Int32} : setAK (setAK σ A K) B L = setAK σ B L := by
  show wrC (setA (setAK σ A K) B) 13 8 L = _
  rw [setA_AK]
  exact wrC_wrC
noncomputable def grA (A : Nat → Int32) (H m : Nat) : Nat → Int32 := fun j => @ite _ (∃ k, k < m ∧ j = 70 + 9 * k + 6 ∧ nv A j = 1 ∧ ¬ fliesN A k H) (Classical.propDecidable _) (nI 0) (A j)
def clrK (K : Nat → Int32) (m : Nat) : Nat → Int32 := fun j => if j < m then nI 0 else K j
noncomputable def tgA (A K : Nat → Int32) (m : Nat) : Nat → Int32 := fun j => @ite _ (∃ k, k < m ∧ j = 70 + 9 * k + 6 ∧ ¬ K k = 0) (Classical.propDecidable _) (nI 2) (A j)
abbrev JS : Type := (Nat → Int32) × (Nat → Int32) × Nat
noncomputable def jstep (H : Nat) (S : JS) (k i : Nat) : JS := @ite _ (nv S.1 (70 + 9 * k + 6) = 1 ∧ nv S.1 (70 + 9 * i + 6) = 1 ∧ crossN S.1 k i H) (Classical.propDecidable _) (verdA S.1 k i, upd (upd S.2.1 k (nI 1)) i (nI 1), S.2.2 + 1) S
noncomputable def jrun (n H : Nat) : Nat → Nat → Nat → JS → JS
  | 0, _, _, S => S
  | f + 1, k, i, S => if k < n then (if i < n then jrun n H f k (i + 1) (jstep H S k i) else jrun n H f (k + 1) (k + 2) S) else S
noncomputable def endR (A : Nat → Int32) : (Nat → Int32) × Nat := rmF (fun _ s d => ¬ (nI (nv A 7 + 1) < s + d)) 40 (upd A 7 (nI (nv A 7 + 1))) 0 0
noncomputable def judR (A K : Nat → Int32) : JS := jrun (nv A 6) (nv A 7 + 1) 1000 0 1 (grA (endR A).1 (nv A 7 + 1) (nv A 6), clrK K (nv A 6), 0)
noncomputable def passR (A K : Nat → Int32) : JS := (tgA (judR A K).1 (judR A K).2.1 (nv A 6), (judR A K).2.1, (judR A K).2.2)
noncomputable def passed : Nat → JS → JS
  | 0, S => S
  | h + 1, S => let T := passed h S; let U := passR T.1 T.2.1; (U.1, U.2.1, T.2.2 + U.2.2)
theorem grA_lo {A : Nat → Int32} {H m j : Nat} (h : ∀ k, k < m → j ≠ 70 + 9 * k + 6) : grA A H m j = A j := if_neg (fun ⟨k, h1, h2, _⟩ => h k h1 h2)
theorem grA_0 {A : Nat → Int32} {H : Nat} : grA A H 0 = A := funext fun _ => grA_lo (fun _ h => absurd h (Nat.not_lt_zero _))
theorem grA_skip {A : Nat → Int32} {H m : Nat} (h : ¬ (nv A (70 + 9 * m + 6) = 1 ∧ ¬ fliesN A m H)) : grA A H (m + 1) = grA A H m := by
  funext j
  unfold grA
  by_cases g : ∃ k, k < m ∧ j = 70 + 9 * k + 6 ∧ nv A j = 1 ∧ ¬ fliesN A k H
  · have g1 : ∃ k, k < m + 1 ∧ j = 70 + 9 * k + 6 ∧ nv A j = 1 ∧ ¬ fliesN A k H := by
      obtain ⟨k, a, b⟩ := g
      exact ⟨k, by omega, b⟩
    rw [if_pos g1, if_pos g]
  · rw [if_neg g, if_neg]
    rintro ⟨k, a, b, c, d⟩
    rcases Nat.lt_or_ge k m with q | q
    · exact g ⟨k, q, b, c, d⟩
    · have e : k = m := by omega
      subst e
      exact h ⟨by rw [← b]; exact c, d⟩
theorem grA_hit {A : Nat → Int32} {H m : Nat} (h : nv A (70 + 9 * m + 6) = 1) (hf : ¬ fliesN A m H) : upd (grA A H m) (70 + 9 * m + 6) (nI 0) = grA A H (m + 1) := by
  funext j
  unfold upd
  by_cases g : j = 70 + 9 * m + 6
  · rw [if_pos g]
    unfold grA
    rw [if_pos ⟨m, by omega, g, by rw [g]; exact h, hf⟩]
  · rw [if_neg g]
    unfold grA
    by_cases g2 : ∃ k, k < m ∧ j = 70 + 9 * k + 6 ∧ nv A j = 1 ∧ ¬ fliesN A k H
    · have g1 : ∃ k, k < m + 1 ∧ j = 70 + 9 * k + 6 ∧ nv A j = 1 ∧ ¬ fliesN A k H := by
        obtain ⟨k, a, b⟩ := g2
        exact ⟨k, by omega, b⟩
      rw [if_pos g2, if_pos g1]
    · rw [if_neg g2, if_neg]
      rintro ⟨k, a, b, c, d⟩
      exact g2 ⟨k, by omega, b, c, d⟩
theorem clrK_s {K : Nat → Int32} {m : Nat} : upd (clrK K m) m (nI 0) = clrK K (m + 1) := by
  funext j
  unfold upd clrK
  by_cases h : j = m
  · rw [if_pos h, if_pos (by omega)]
  · rw [if_neg h]
    by_cases h2 : j < m
    · rw [if_pos h2, if_pos (by omega)]
    · rw [if_neg h2, if_neg (by omega)]
theorem clrK_0 {K : Nat → Int32} : clrK K 0 = K := funext fun _ => if_neg (Nat.not_lt_zero _)
theorem tgA_lo {A K : Nat → Int32} {m j : Nat} (h : ∀ k, k < m → j ≠ 70 + 9 * k + 6) : tgA A K m j = A j := if_neg (fun ⟨k, h1, h2, _⟩ => h k h1 h2)
theorem tgA_0 {A K : Nat → Int32} : tgA A K 0 = A := funext fun _ => tgA_lo (fun _ h => absurd h (Nat.not_lt_zero _))
theorem tgA_skip {A K : Nat → Int32} {m : Nat} (h : K m = 0) : tgA A K (m + 1) = tgA A K m := by
  funext j
  unfold tgA
  by_cases g : ∃ k, k < m ∧ j = 70 + 9 * k + 6 ∧ ¬ K k = 0
  · have g1 : ∃ k, k < m + 1 ∧ j = 70 + 9 * k + 6 ∧ ¬ K k = 0 := by
      obtain ⟨k, a, b⟩ := g
      exact ⟨k, by omega, b⟩
    rw [if_pos g1, if_pos g]
  · rw [if_neg g, if_neg]
    rintro ⟨k, a, b, c⟩
    rcases Nat.lt_or_ge k m with q | q
    · exact g ⟨k, q, b, c⟩
    · have e : k = m := by omega
      subst e
      exact c h
theorem tgA_hit {A K : Nat → Int32} {m : Nat} (h : ¬ K m = 0) : upd (tgA A K m) (70 + 9 * m + 6) (nI 2) = tgA A K (m + 1) := by
  funext j
  unfold upd
  by_cases g : j = 70 + 9 * m + 6
  · rw [if_pos g]
    unfold tgA
    rw [if_pos ⟨m, by omega, g, h⟩]
  · rw [if_neg g]
    unfold tgA
    by_cases g2 : ∃ k, k < m ∧ j = 70 + 9 * k + 6 ∧ ¬ K k = 0
    · have g1 : ∃ k, k < m + 1 ∧ j = 70 + 9 * k + 6 ∧ ¬ K k = 0 := by
        obtain ⟨k, a, b⟩ := g2
        exact ⟨k, by omega, b⟩
      rw [if_pos g2, if_pos g1]
    · rw [if_neg g2, if_neg]
      rintro ⟨k, a, b, c⟩
      exact g2 ⟨k, by omega, b, c⟩
theorem RowOK_states {hm : Nat} {A B : Nat → Int32} (h : RowOK hm A) (e : ∀ j, (∀ k, k < 16 → j ≠ 70 + 9 * k + 6) → B j = A j) (hs : ∀ k, k < nv A 6 → isN B (70 + 9 * k + 6) 0 2) : RowOK hm B := by
  have n0 : nv B 0 = nv A 0 := nv_congr (e 0 (by omega))
  have n1 : nv B 1 = nv A 1 := nv_congr (e 1 (by omega))
  have n4 : nv B 4 = nv A 4 := nv_congr (e 4 (by omega))
  have n5 : nv B 5 = nv A 5 := nv_congr (e 5 (by omega))
  have n6 : nv B 6 = nv A 6 := nv_congr (e 6 (by omega))
  have n11 : nv B 11 = nv A 11 := nv_congr (e 11 (by omega))
  have hz4 := r_NZ h
  have hnk := r_NK h
  obtain ⟨h0, h1, h2, h3, h4, h5, h6, h7, h8, h9, h10, h11, h12⟩ := h
  refine ⟨isN_congr (e 0 (by omega)) h0, isN_congr (e 1 (by omega)) h1, isN_congr (e 2 (by omega)) h2, isN_congr (e 3 (by omega)) h3, isN_congr (e 4 (by omega)) h4, isN_congr (e 5 (by omega)) h5, isN_congr (e 6 (by omega)) h6, isN_congr (e 7 (by omega)) h7, isN_congr (e 11 (by omega)) h8, ?_, ?_, ?_, ?_⟩
  · intro z hz
    rw [n4] at hz
    have hc := (h9 z hz).1
    have e1 : nv B (12 + 13 * z) = nv A (12 + 13 * z) := nv_congr (e _ (by omega))
    refine ⟨isN_congr (e _ (by omega)) hc, fun j hj => ?_⟩
    rw [e1] at hj
    have hc2 := hc.2.2
    exact ⟨isN_congr (e _ (by omega)) ((h9 z hz).2 j hj).1, isN_congr (e _ (by omega)) ((h9 z hz).2 j hj).2⟩
  · intro c hc
    rw [n5] at hc
    have := h5.2.2
    exact isN_congr (e _ (by omega)) (h10 c hc)
  · intro i hi
    rw [n6] at hi
    rw [n0, n1, n5]
    obtain ⟨a1, a2, a3, a4, a5, a6⟩ := h11 i hi
    exact ⟨isN_congr (e _ (by omega)) a1, isN_congr (e _ (by omega)) a2, isN_congr (e _ (by omega)) a3, isN_congr (e _ (by omega)) a4, isN_congr (e _ (by omega)) a5, hs i hi⟩
  · intro p hp
    rw [n11] at hp
    rw [n6]
    obtain ⟨a1, a2, a3, a4⟩ := h12 p hp
    exact ⟨isN_congr (e _ (by omega)) a1, a2, isN_congr (e _ (by omega)) a3, isN_congr (e _ (by omega)) a4⟩
theorem RowOK_gr {hm : Nat} {A : Nat → Int32} (h : RowOK hm A) {H m : Nat} (hm16 : m ≤ 16) : RowOK hm (grA A H m) := by
  refine RowOK_states h (fun j hj => grA_lo (fun k hk => hj k (by omega))) (fun k hk => ?_)
  rcases Classical.em (∃ i, i < m ∧ 70 + 9 * k + 6 = 70 + 9 * i + 6 ∧ nv A (70 + 9 * k + 6) = 1 ∧ ¬ fliesN A i H) with g | g
  · exact isN_of (n := 0) (if_pos g) (by omega) (by omega) (by omega)
  · have q := r_KS h hk
    exact isN_of (n := nv A (70 + 9 * k + 6)) ((if_neg g).trans q.1) (by omega) q.2 (by omega)
theorem RowOK_tg {hm : Nat} {A K : Nat → Int32} (h : RowOK hm A) {m : Nat} (hm16 : m ≤ 16) : RowOK hm (tgA A K m) := by
  refine RowOK_states h (fun j hj => tgA_lo (fun k hk => hj k (by omega))) (fun k hk => ?_)
  rcases Classical.em (∃ i, i < m ∧ 70 + 9 * k + 6 = 70 + 9 * i + 6 ∧ ¬ K i = 0) with g | g
  · exact isN_of (n := 2) (if_pos g) (by omega) (by omega) (by omega)
  · have q := r_KS h hk
    exact isN_of (n := nv A (70 + 9 * k + 6)) ((if_neg g).trans q.1) (by omega) q.2 (by omega)
theorem geo_gr (A : Nat → Int32) (H m : Nat) : geoEq A (grA A H m) := fun j hj => grA_lo (fun k hk e => by
  subst e
  rcases hj with h | h | ⟨k', r', h, h2, h3⟩ <;> omega)
theorem verdA_lo {A : Nat → Int32} {k i j : Nat} (h : j < 70 ∨ 214 ≤ j ∨ ∃ m r, j = 70 + 9 * m + r ∧ r < 9 ∧ r ≠ 5 ∧ r ≠ 7) (hk : k < 16) (hi : i < 16) : verdA A k i j = A j := by
  have hg : guiltN A k i < 16 := by rcases guiltN_or A k i with e | e <;> omega
  have he : (if guiltN A k i = k then i else k) < 16 := by split <;> assumption
  show upd (upd (upd (upd A (70 + 9 * guiltN A k i + 5) _) (70 + 9 * (if guiltN A k i = k then i else k) + 5) _) (70 + 9 * k + 7) _) (70 + 9 * i + 7) _ j = A j
  generalize (if guiltN A k i = k then i else k) = e at he ⊢
  generalize guiltN A k i = g at hg ⊢
  rcases h with h | h | ⟨m, r, h, h2⟩ <;> rw [upd_n (by omega), upd_n (by omega), upd_n (by omega), upd_n (by omega)]
theorem jstep_hit {H : Nat} {S : JS} {k i : Nat} (h : nv S.1 (70 + 9 * k + 6) = 1 ∧ nv S.1 (70 + 9 * i + 6) = 1 ∧ crossN S.1 k i H) : jstep H S k i = (verdA S.1 k i, upd (upd S.2.1 k (nI 1)) i (nI 1), S.2.2 + 1) := if_pos h
theorem jstep_skip {H : Nat} {S : JS} {k i : Nat} (h : ¬ (nv S.1 (70 + 9 * k + 6) = 1 ∧ nv S.1 (70 + 9 * i + 6) = 1 ∧ crossN S.1 k i H)) : jstep H S k i = S := if_neg h
theorem jrun_done {n H f k i : Nat} {S : JS} (h : ¬ k < n) : jrun n H f k i S = S := by
  cases f with
  | zero => rfl
  | succ f => unfold jrun; exact if_neg h
theorem jrun_step {n H f k i : Nat} {S : JS} (h : k < n) (h2 : i < n) : jrun n H (f + 1) k i S = jrun n H f k (i + 1) (jstep H S k i) := by
  show (if k < n then _ else _) = _
  rw [if_pos h, if_pos h2]
theorem jrun_next {n H f k i : Nat} {S : JS} (h : k < n) (h2 : ¬ i < n) : jrun n H (f + 1) k i S = jrun n H f (k + 1) (k + 2) S := by
  show (if k < n then _ else _) = _
  rw [if_pos h, if_neg h2]
/-- what the verdicts leave as it is -/
def judI (hm : Nat) (A : Nat → Int32) (S : JS) : Prop := RowOK hm S.1 ∧ ∀ j, (j < 70 ∨ 214 ≤ j ∨ ∃ m r, j = 70 + 9 * m + r ∧ r < 9 ∧ r ≠ 5 ∧ r ≠ 7) → S.1 j = A j
theorem judI_step {hm H : Nat} {A : Nat → Int32} {S : JS} {k i : Nat} (hk : k < 16) (hi : i < 16) (h : judI hm A S) : judI hm A (jstep H S k i) := by
  unfold jstep
  split
  · exact ⟨RowOK_verd h.1 hk hi, fun j hj => (verdA_lo hj hk hi).trans (h.2 j hj)⟩
  · exact h
theorem judI_run {hm n H : Nat} {A : Nat → Int32} (hn : n ≤ 16) : ∀ (f k i : Nat) (S : JS), judI hm A S → judI hm A (jrun n H f k i S)
  | 0, _, _, _, h => h
  | f + 1, k, i, S, h => by
    show judI hm A (if k < n then (if i < n then jrun n H f k (i + 1) (jstep H S k i) else jrun n H f (k + 1) (k + 2) S) else S)
    split
    · split
      · exact judI_run hn f _ _ _ (judI_step (by omega) (by omega) h)
      · exact judI_run hn f _ _ _ h
    · exact h
theorem endR_ok {hm : Nat} {A : Nat → Int32} (h : RowOK hm A) (hb : hm + 1 < 2 ^ 31) : RowOK (hm + 1) (endR A).1 := RowOK_rmF (RowOK_hour h (by have := r_HOUR h; omega) hb) _ _ _
theorem endR_lo {A : Nat → Int32} {j : Nat} (h1 : j < 214) (h2 : j ≠ 11) (h3 : j ≠ 7) : (endR A).1 j = A j := (rmF_lo _ _ _ h1 h2).trans (upd_n h3)
theorem endR_7 {A : Nat → Int32} : (endR A).1 7 = nI (nv A 7 + 1) := (rmF_lo _ _ _ (by omega) (by omega)).trans upd_s
theorem judR_I {hm : Nat} {A K : Nat → Int32} (h : RowOK hm A) (hb : hm + 1 < 2 ^ 31) : judI (hm + 1) (grA (endR A).1 (nv A 7 + 1) (nv A 6)) (judR A K) := by
  have h6 := r_NK h
  exact judI_run h6.2 _ _ _ _ ⟨RowOK_gr (endR_ok h hb) h6.2, fun _ _ => rfl⟩
theorem passR_ok {hm : Nat} {A K : Nat → Int32} (h : RowOK hm A) (hb : hm + 1 < 2 ^ 31) : RowOK (hm + 1) (passR A K).1 := RowOK_tg (judR_I h hb).1 (r_NK h).2
