/-! ===== what is changed: rows out of rows ===== -/
def setA (σ : Mem) (A : Nat → Int32) : Mem := wrC σ 13 1 A
theorem mem_ext {σ τ : Mem} (h1 : ∀ o c j, rd σ o c j = rd τ o c j) (h2 : ∀ j, rdL σ j = rdL τ j) : σ = τ := by
  obtain ⟨a, b⟩ := σ
  obtain ⟨a', b'⟩ := τ
  have e1 : a = a' := funext fun o => funext fun c => funext fun j => h1 o c j
  have e2 : b = b' := funext fun j => h2 j
  rw [e1, e2]
theorem rd_setA {σ : Mem} {A : Nat → Int32} : rd (setA σ A) 13 1 = A := funext fun _ => rd_wrC_s
theorem rd_setA_ne {σ : Mem} {A : Nat → Int32} {o c : Nat} (h : ¬ (o = 13 ∧ c = 1)) : rd (setA σ A) o c = rd σ o c := rd_wrC_cell h
theorem rdL_setA {σ : Mem} {A : Nat → Int32} {j : Nat} : rdL (setA σ A) j = rdL σ j := rfl
theorem wrC_wrC {σ : Mem} {o c : Nat} {f g : Nat → Int32} : wrC (wrC σ o c f) o c g = wrC σ o c g := by
  refine mem_ext (fun a b d => ?_) (fun _ => rfl)
  rw [rd_wrC]
  by_cases h : a = o ∧ b = c
  · rw [if_pos h, rd_wrC, if_pos h]
  · rw [if_neg h, rd_wrC, if_neg h, rd_wrC, if_neg h]
theorem wrC_id {σ : Mem} {o c : Nat} : wrC σ o c (rd σ o c) = σ := by
  refine mem_ext (fun a b d => ?_) (fun _ => rfl)
  rw [rd_wrC]
  by_cases h : a = o ∧ b = c
  · rw [if_pos h, h.1, h.2]
  · rw [if_neg h]
theorem wr_wrC {σ : Mem} {o c j : Nat} {v : Int32} : wr σ o c j v = wrC σ o c (upd (rd σ o c) j v) := by
  refine mem_ext (fun a b d => ?_) (fun _ => rfl)
  rw [rd_wr, rd_wrC]
  by_cases h : a = o ∧ b = c
  · rw [if_pos h]
    unfold upd
    by_cases hd : d = j
    · rw [if_pos ⟨h.1, h.2, hd⟩, if_pos hd]
    · rw [if_neg (fun q => hd q.2.2), if_neg hd, h.1, h.2]
  · rw [if_neg h, if_neg (fun q => h ⟨q.1, q.2.1⟩)]
theorem wr_setA1 {σ : Mem} {j : Nat} {v : Int32} : wr σ 13 1 j v = setA σ (upd (rd σ 13 1) j v) := wr_wrC
theorem wr_setA2 {σ : Mem} {A : Nat → Int32} {j : Nat} {v : Int32} : wr (setA σ A) 13 1 j v = setA σ (upd A j v) := by
  rw [wr_setA1, rd_setA]
  exact wrC_wrC
theorem setA_setA {σ : Mem} {A B : Nat → Int32} : setA (setA σ A) B = setA σ B := wrC_wrC
theorem setA_id {σ : Mem} : setA σ (rd σ 13 1) = σ := wrC_id
theorem upd_s {f : Nat → Int32} {j : Nat} {x : Int32} : upd f j x j = x := if_pos rfl
theorem upd_n {f : Nat → Int32} {i j : Nat} {x : Int32} (h : i ≠ j) : upd f j x i = f i := if_neg h
theorem nv_s {f : Nat → Int32} {j n : Nat} (h : n < 2 ^ 31) : nv (upd f j (nI n)) j = n := nv_of upd_s h
theorem nv_n {f : Nat → Int32} {i j : Nat} {x : Int32} (h : i ≠ j) : nv (upd f j x) i = nv f i := by unfold nv; rw [upd_n h]
theorem nv_congr {A B : Nat → Int32} {j : Nat} (h : B j = A j) : nv B j = nv A j := by unfold nv; rw [h]
theorem isN_congr {A B : Nat → Int32} {j a b : Nat} (h : B j = A j) : isN A j a b → isN B j a b := by
  unfold isN
  rw [nv_congr h, h]
  exact id
theorem isN_of {A : Nat → Int32} {j a b n : Nat} (h : A j = nI n) (h1 : a ≤ n) (h2 : n ≤ b) (h3 : b < 2 ^ 31) : isN A j a b := by
  have e := nv_of h (by omega)
  exact ⟨by rw [e]; exact h, by omega, by omega⟩
/-- places that RowOK doesn't speak of: coins, tangles, launches -/
def quiet (j : Nat) : Prop := j = 8 ∨ j = 9 ∨ j = 10 ∨ ∃ k, k < 16 ∧ (j = 70 + 9 * k + 5 ∨ j = 70 + 9 * k + 7 ∨ j = 70 + 9 * k + 8)
theorem RowOK_quiet {hm : Nat} {A B : Nat → Int32} (h : RowOK hm A) (e : ∀ j, ¬ quiet j → B j = A j) : RowOK hm B := by
  have nq : ∀ j, (j < 8 ∨ j = 11 ∨ (12 ≤ j ∧ j < 70) ∨ 214 ≤ j ∨ ∃ k r, j = 70 + 9 * k + r ∧ r < 9 ∧ r ≠ 5 ∧ r ≠ 7 ∧ r ≠ 8) → B j = A j := by
    intro j hj
    apply e
    rintro (q | q | q | ⟨k, hk, q⟩)
    · rcases hj with g | g | g | g | ⟨k', r, g, g2⟩ <;> omega
    · rcases hj with g | g | g | g | ⟨k', r, g, g2⟩ <;> omega
    · rcases hj with g | g | g | g | ⟨k', r, g, g2⟩ <;> omega
    · rcases hj with g | g | g | g | ⟨k', r, g, g2⟩ <;> omega
  have n0 : nv B 0 = nv A 0 := nv_congr (nq 0 (by omega))
  have n1 : nv B 1 = nv A 1 := nv_congr (nq 1 (by omega))
  have n4 : nv B 4 = nv A 4 := nv_congr (nq 4 (by omega))
  have n5 : nv B 5 = nv A 5 := nv_congr (nq 5 (by omega))
  have n6 : nv B 6 = nv A 6 := nv_congr (nq 6 (by omega))
  have n11 : nv B 11 = nv A 11 := nv_congr (nq 11 (by omega))
  have hz4 := r_NZ h
  obtain ⟨h0, h1, h2, h3, h4, h5, h6, h7, h8, h9, h10, h11, h12⟩ := h
  refine ⟨isN_congr (nq 0 (by omega)) h0, isN_congr (nq 1 (by omega)) h1, isN_congr (nq 2 (by omega)) h2, isN_congr (nq 3 (by omega)) h3, isN_congr (nq 4 (by omega)) h4, isN_congr (nq 5 (by omega)) h5, isN_congr (nq 6 (by omega)) h6, isN_congr (nq 7 (by omega)) h7, isN_congr (nq 11 (by omega)) h8, ?_, ?_, ?_, ?_⟩
  · intro z hz
    rw [n4] at hz
    have hc := (h9 z hz).1
    have e1 : nv B (12 + 13 * z) = nv A (12 + 13 * z) := nv_congr (nq _ (by omega))
    refine ⟨isN_congr (nq _ (by omega)) hc, fun j hj => ?_⟩
    rw [e1] at hj
    have hc2 := hc.2.2
    exact ⟨isN_congr (nq _ (by omega)) ((h9 z hz).2 j hj).1, isN_congr (nq _ (by omega)) ((h9 z hz).2 j hj).2⟩
  · intro c hc
    rw [n5] at hc
    have := h5.2.2
    exact isN_congr (nq _ (by omega)) (h10 c hc)
  · intro k hk
    rw [n6] at hk
    rw [n0, n1, n5]
    obtain ⟨a1, a2, a3, a4, a5, a6⟩ := h11 k hk
    exact ⟨isN_congr (nq _ (Or.inr (Or.inr (Or.inr (Or.inr ⟨k, 0, by omega⟩))))) a1, isN_congr (nq _ (Or.inr (Or.inr (Or.inr (Or.inr ⟨k, 1, by omega⟩))))) a2, isN_congr (nq _ (Or.inr (Or.inr (Or.inr (Or.inr ⟨k, 2, by omega⟩))))) a3, isN_congr (nq _ (Or.inr (Or.inr (Or.inr (Or.inr ⟨k, 3, by omega⟩))))) a4, isN_congr (nq _ (Or.inr (Or.inr (Or.inr (Or.inr ⟨k, 4, by omega⟩))))) a5, isN_congr (nq _ (Or.inr (Or.inr (Or.inr (Or.inr ⟨k, 6, by omega⟩))))) a6⟩
  · intro p hp
    rw [n11] at hp
    rw [n6]
    obtain ⟨a1, a2, a3, a4⟩ := h12 p hp
    exact ⟨isN_congr (nq _ (by omega)) a1, a2, isN_congr (nq _ (by omega)) a3, isN_congr (nq _ (by omega)) a4⟩
/-- a kite's state or its knots change -/
theorem RowOK_kite {hm : Nat} {A : Nat → Int32} (h : RowOK hm A) {k r v : Nat} (hk : k < 16) (hr : (r = 4 ∧ v ≤ 9) ∨ (r = 6 ∧ v ≤ 2)) : RowOK hm (upd A (70 + 9 * k + r) (nI v)) := by
  have n0 : nv (upd A (70 + 9 * k + r) (nI v)) 0 = nv A 0 := nv_n (by omega)
  have n1 : nv (upd A (70 + 9 * k + r) (nI v)) 1 = nv A 1 := nv_n (by omega)
  have n4 : nv (upd A (70 + 9 * k + r) (nI v)) 4 = nv A 4 := nv_n (by omega)
  have n5 : nv (upd A (70 + 9 * k + r) (nI v)) 5 = nv A 5 := nv_n (by omega)
  have n6 : nv (upd A (70 + 9 * k + r) (nI v)) 6 = nv A 6 := nv_n (by omega)
  have n11 : nv (upd A (70 + 9 * k + r) (nI v)) 11 = nv A 11 := nv_n (by omega)
  have hz4 := r_NZ h
  obtain ⟨h0, h1, h2, h3, h4, h5, h6, h7, h8, h9, h10, h11, h12⟩ := h
  refine ⟨isN_congr (upd_n (by omega)) h0, isN_congr (upd_n (by omega)) h1, isN_congr (upd_n (by omega)) h2, isN_congr (upd_n (by omega)) h3, isN_congr (upd_n (by omega)) h4, isN_congr (upd_n (by omega)) h5, isN_congr (upd_n (by omega)) h6, isN_congr (upd_n (by omega)) h7, isN_congr (upd_n (by omega)) h8, ?_, ?_, ?_, ?_⟩
  · intro z hz
    rw [n4] at hz
    have hc := (h9 z hz).1
    have e1 : nv (upd A (70 + 9 * k + r) (nI v)) (12 + 13 * z) = nv A (12 + 13 * z) := nv_n (by omega)
    refine ⟨isN_congr (upd_n (by omega)) hc, fun j hj => ?_⟩
    rw [e1] at hj
    have hc2 := hc.2.2
    exact ⟨isN_congr (upd_n (by omega)) ((h9 z hz).2 j hj).1, isN_congr (upd_n (by omega)) ((h9 z hz).2 j hj).2⟩
  · intro c hc
    rw [n5] at hc
    have := h5.2.2
    exact isN_congr (upd_n (by omega)) (h10 c hc)
  · intro i hi
    rw [n6] at hi
    rw [n0, n1, n5]
    obtain ⟨a1, a2, a3, a4, a5, a6⟩ := h11 i hi
    refine ⟨isN_congr (upd_n (by omega)) a1, isN_congr (upd_n (by omega)) a2, isN_congr (upd_n (by omega)) a3, isN_congr (upd_n (by omega)) a4, ?_, ?_⟩
    · by_cases hx : 70 + 9 * i + 4 = 70 + 9 * k + r
      · exact isN_of (n := v) (by rw [hx]; exact upd_s) (by omega) (by omega) (by omega)
      · exact isN_congr (upd_n hx) a5
    · by_cases hx : 70 + 9 * i + 6 = 70 + 9 * k + r
      · exact isN_of (n := v) (by rw [hx]; exact upd_s) (by omega) (by omega) (by omega)
      · exact isN_congr (upd_n hx) a6
  · intro p hp
    rw [n11] at hp
    rw [n6]
    obtain ⟨a1, a2, a3, a4⟩ := h12 p hp
    exact ⟨isN_congr (upd_n (by omega)) a1, a2, isN_congr (upd_n (by omega)) a3, isN_congr (upd_n (by omega)) a4⟩
/-- the hour grows -/
theorem RowOK_hour {hm hm' : Nat} {A : Nat → Int32} (h : RowOK hm A) {v : Nat} (hv : v ≤ hm') (hb : hm' < 2 ^ 31) : RowOK hm' (upd A 7 (nI v)) := by
  have n0 : nv (upd A 7 (nI v)) 0 = nv A 0 := nv_n (by omega)
  have n1 : nv (upd A 7 (nI v)) 1 = nv A 1 := nv_n (by omega)
  have n4 : nv (upd A 7 (nI v)) 4 = nv A 4 := nv_n (by omega)
  have n5 : nv (upd A 7 (nI v)) 5 = nv A 5 := nv_n (by omega)
  have n6 : nv (upd A 7 (nI v)) 6 = nv A 6 := nv_n (by omega)
  have n11 : nv (upd A 7 (nI v)) 11 = nv A 11 := nv_n (by omega)
  obtain ⟨h0, h1, h2, h3, h4, h5, h6, h7, h8, h9, h10, h11, h12⟩ := h
  refine ⟨isN_congr (upd_n (by omega)) h0, isN_congr (upd_n (by omega)) h1, isN_congr (upd_n (by omega)) h2, isN_congr (upd_n (by omega)) h3, isN_congr (upd_n (by omega)) h4, isN_congr (upd_n (by omega)) h5, isN_congr (upd_n (by omega)) h6, isN_of (n := v) upd_s (by omega) hv hb, isN_congr (upd_n (by omega)) h8, ?_, ?_, ?_, ?_⟩
  · intro z hz
    rw [n4] at hz
    have e1 : nv (upd A 7 (nI v)) (12 + 13 * z) = nv A (12 + 13 * z) := nv_n (by omega)
    refine ⟨isN_congr (upd_n (by omega)) (h9 z hz).1, fun j hj => ?_⟩
    rw [e1] at hj
    exact ⟨isN_congr (upd_n (by omega)) ((h9 z hz).2 j hj).1, isN_congr (upd_n (by omega)) ((h9 z hz).2 j hj).2⟩
  · intro c hc
    rw [n5] at hc
    exact isN_congr (upd_n (by omega)) (h10 c hc)
  · intro i hi
    rw [n6] at hi
    rw [n0, n1, n5]
    obtain ⟨a1, a2, a3, a4, a5, a6⟩ := h11 i hi
    exact ⟨isN_congr (upd_n (by omega)) a1, isN_congr (upd_n (by omega)) a2, isN_congr (upd_n (by omega)) a3, isN_congr (upd_n (by omega)) a4, isN_congr (upd_n (by omega)) a5, isN_congr (upd_n (by omega)) a6⟩
  · intro p hp
    rw [n11] at hp
    rw [n6]
    obtain ⟨a1, a2, a3, a4⟩ := h12 p hp
    exact ⟨isN_congr (upd_n (by omega)) a1, a2, isN_congr (upd_n (by omega)) a3, isN_congr (upd_n (by omega)) a4⟩
theorem RowOK_mono {hm hm' : Nat} {A : Nat → Int32} (h : RowOK hm A) (hb : hm ≤ hm') : RowOK hm' A := by
  obtain ⟨h0, h1, h2, h3, h4, h5, h6, h7, h8, hr⟩ := h
  exact ⟨h0, h1, h2, h3, h4, h5, h6, ⟨h7.1, h7.2.1, Nat.le_trans h7.2.2 hb⟩, h8, hr⟩
/-- the list of permits changes -/
theorem RowOK_perm {hm : Nat} {A B : Nat → Int32} (h : RowOK hm A) (e : ∀ j, j < 214 → j ≠ 11 → B j = A j) {m : Nat} (h11 : B 11 = nI m) (hm30 : m ≤ 30)
    (hp : ∀ p, p < m → isN B (214 + 3 * p) 0 (nv A 6 - 1) ∧ 0 < nv A 6 ∧ isN B (214 + 3 * p + 1) 0 999999 ∧ isN B (214 + 3 * p + 2) 1 24) : RowOK hm B := by
  have hz4 := r_NZ h
  have hnk := r_NK h
  have n0 : nv B 0 = nv A 0 := nv_congr (e 0 (by omega) (by omega))
  have n1 : nv B 1 = nv A 1 := nv_congr (e 1 (by omega) (by omega))
  have n4 : nv B 4 = nv A 4 := nv_congr (e 4 (by omega) (by omega))
  have n5 : nv B 5 = nv A 5 := nv_congr (e 5 (by omega) (by omega))
  have n6 : nv B 6 = nv A 6 := nv_congr (e 6 (by omega) (by omega))
  have n11 : nv B 11 = m := nv_of h11 (by omega)
  obtain ⟨h0, h1, h2, h3, h4, h5, h6, h7, h8, h9, h10, hk, -⟩ := h
  refine ⟨isN_congr (e 0 (by omega) (by omega)) h0, isN_congr (e 1 (by omega) (by omega)) h1, isN_congr (e 2 (by omega) (by omega)) h2, isN_congr (e 3 (by omega) (by omega)) h3, isN_congr (e 4 (by omega) (by omega)) h4, isN_congr (e 5 (by omega) (by omega)) h5, isN_congr (e 6 (by omega) (by omega)) h6, isN_congr (e 7 (by omega) (by omega)) h7, isN_of h11 (by omega) hm30 (by omega), ?_, ?_, ?_, ?_⟩
  · intro z hz
    rw [n4] at hz
    have hc := (h9 z hz).1
    have e1 : nv B (12 + 13 * z) = nv A (12 + 13 * z) := nv_congr (e _ (by omega) (by omega))
    refine ⟨isN_congr (e _ (by omega) (by omega)) hc, fun j hj => ?_⟩
    rw [e1] at hj
    have hc2 := hc.2.2
    exact ⟨isN_congr (e _ (by omega) (by omega)) ((h9 z hz).2 j hj).1, isN_congr (e _ (by omega) (by omega)) ((h9 z hz).2 j hj).2⟩
  · intro c hc
    rw [n5] at hc
    have := h5.2.2
    exact isN_congr (e _ (by omega) (by omega)) (h10 c hc)
  · intro i hi
    rw [n6] at hi
    rw [n0, n1, n5]
    obtain ⟨a1, a2, a3, a4, a5, a6⟩ := hk i hi
    exact ⟨isN_congr (e _ (by omega) (by omega)) a1, isN_congr (e _ (by omega) (by omega)) a2, isN_congr (e _ (by omega) (by omega)) a3, isN_congr (e _ (by omega) (by omega)) a4, isN_congr (e _ (by omega) (by omega)) a5, isN_congr (e _ (by omega) (by omega)) a6⟩
  · intro p hp2
    rw [n11] at hp2
    rw [n6]
    exact hp p hp2
/-! the changes -/
def grantA (A : Nat → Int32) (k s d : Nat) : Nat → Int32 :=
  upd (upd (upd (upd (upd (upd A 11 (nI (nv A 11 + 1))) (214 + 3 * nv A 11) (nI k)) (214 + 3 * nv A 11 + 1) (nI s)) (214 + 3 * nv A 11 + 2) (nI d)) (70 + 9 * k + 5) (A (70 + 9 * k + 5) - nI (nv A 2 * d))) 9 (A 9 + nI (nv A 2 * d))
def removeA (A : Nat → Int32) (p : Nat) : Nat → Int32 := fun j => if j = 11 then nI (nv A 11 - 1) else if 214 + 3 * p ≤ j ∧ j < 214 + 3 * (nv A 11 - 1) then A (j + 3) else A j
noncomputable def rmF (P : Int32 → Int32 → Int32 → Prop) : Nat → (Nat → Int32) → Nat → Nat → (Nat → Int32) × Nat
  | 0, A, _, n => (A, n)
  | f + 1, A, k, n => if k < nv A 11 then @ite _ (P (A (214 + 3 * k)) (A (214 + 3 * k + 1)) (A (214 + 3 * k + 2))) (Classical.propDecidable _) (rmF P f (removeA A k) k (n + 1)) (rmF P f A (k + 1) n) else (A, n)
noncomputable def cancelR (A : Nat → Int32) (k : Nat) : (Nat → Int32) × Nat := rmF (fun a _ _ => a = nI k) 40 A 0 0
def launchA (A : Nat → Int32) (k : Nat) : Nat → Int32 := upd (upd (upd A (70 + 9 * k + 6) (nI 1)) 8 (A 8 + nI 1)) (70 + 9 * k + 8) (A 8 + nI 1)
def stateA (A : Nat → Int32) (k v : Nat) : Nat → Int32 := upd A (70 + 9 * k + 6) (nI v)
noncomputable def verdA (A : Nat → Int32) (k i : Nat) : Nat → Int32 :=
  let g := guiltN A k i
  let e := if g = k then i else k
  let paid := imin (A 3) (A (70 + 9 * g + 5))
  upd (upd (upd (upd A (70 + 9 * g + 5) (A (70 + 9 * g + 5) - paid)) (70 + 9 * e + 5) (A (70 + 9 * e + 5) + paid)) (70 + 9 * k + 7) (A (70 + 9 * k + 7) + nI 1)) (70 + 9 * i + 7) (A (70 + 9 * i + 7) + nI 1)
noncomputable def tieA (A : Nat → Int32) (k v : Nat) : Nat → Int32 := upd (cancelR A k).1 (70 + 9 * k + 4) (nI v)
def repA (A : Nat → Int32) (k : Nat) : Nat → Int32 := upd (upd (upd A (70 + 9 * k + 5) (A (70 + 9 * k + 5) - nI (2 * nv A (70 + 9 * k + 4)))) 9 (A 9 + nI (2 * nv A (70 + 9 * k + 4)))) (70 + 9 * k + 6) (nI 0)
def fundV (A : Nat → Int32) (k : Nat) (c : Int32) : Int32 := if nI 99999 - A (70 + 9 * k + 5) < 0 then 0 else imin (nI 99999 - A (70 + 9 * k + 5)) c
def fundA (A : Nat → Int32) (k : Nat) (c : Int32) : Nat → Int32 := upd (upd A (70 + 9 * k + 5) (A (70 + 9 * k + 5) + fundV A k c)) 10 (A 10 + fundV A k c)
theorem quiet_kite {k r : Nat} (hk : k < 16) (hr : r = 5 ∨ r = 7 ∨ r = 8) : quiet (70 + 9 * k + r) := Or.inr (Or.inr (Or.inr ⟨k, hk, by omega⟩))
theorem upd_quiet {A : Nat → Int32} {j : Nat} {x : Int32} (h : quiet j) : ∀ i, ¬ quiet i → upd A j x i = A i := fun i hi => upd_n (fun e => hi (e ▸ h))
theorem RowOK_updq {hm : Nat} {A : Nat → Int32} (h : RowOK hm A) {j : Nat} {x : Int32} (hj : quiet j) : RowOK hm (upd A j x) := RowOK_quiet h (upd_quiet hj)
theorem q8 : quiet 8 := Or.inl rfl
theorem q9 : quiet 9 := Or.inr (Or.inl rfl)
theorem q10 : quiet 10 := Or.inr (Or.inr (Or.inl rfl))
theorem RowOK_launch {hm : Nat} {A : Nat → Int32} (h : RowOK hm A) {k : Nat} (hk : k < 16) : RowOK hm (launchA A k) := RowOK_updq (RowOK_updq (RowOK_kite h hk (Or.inr ⟨rfl, by omega⟩)) q8) (quiet_kite hk (by omega))
theorem RowOK_state {hm : Nat} {A : Nat → Int32} (h : RowOK hm A) {k v : Nat} (hk : k < 16) (hv : v ≤ 2) : RowOK hm (stateA A k v) := RowOK_kite h hk (Or.inr ⟨rfl, hv⟩)
theorem RowOK_rep {hm : Nat} {A : Nat → Int32} (h : RowOK hm A) {k : Nat} (hk : k < 16) : RowOK hm (repA A k) := RowOK_kite (RowOK_updq (RowOK_updq h (quiet_kite hk (by omega))) q9) hk (Or.inr ⟨rfl, by omega⟩)
theorem RowOK_fund {hm : Nat} {A : Nat → Int32} (h : RowOK hm A) {k : Nat} {c : Int32} (hk : k < 16) : RowOK hm (fundA A k c) := RowOK_updq (RowOK_updq h (quiet_kite hk (by omega))) q10
theorem RowOK_verd {hm : Nat} {A : Nat → Int32} (h : RowOK hm A) {k i : Nat} (hk : k < 16) (hi : i < 16) : RowOK hm (verdA A k i) := by
  have hg : guiltN A k i < 16 := by rcases guiltN_or A k i with e | e <;> omega
  have he : (if guiltN A k i = k then i else k) < 16 := by split <;> assumption
  exact RowOK_updq (RowOK_updq (RowOK_updq (RowOK_updq h (quiet_kite hg (by omega))) (quiet_kite he (by omega))) (quiet_kite hk (by omega))) (quiet_kite hi (by omega))
theorem RowOK_grant {hm : Nat} {A : Nat → Int32} (h : RowOK hm A) {k s d : Nat} (hk : k < nv A 6) (hs : s ≤ 999999) (hd : 1 ≤ d ∧ d ≤ 24) (hp : nv A 11 < 30) : RowOK hm (grantA A k s d) := by
  have hnk := r_NK h
  refine RowOK_updq (RowOK_updq ?_ (quiet_kite (by omega) (by omega))) q9
  refine RowOK_perm h (m := nv A 11 + 1) (fun j h1 h2 => ?_) ?_ (by omega) (fun p hp2 => ?_)
  · rw [upd_n (by omega), upd_n (by omega), upd_n (by omega), upd_n h2]
  · rw [upd_n (by omega), upd_n (by omega), upd_n (by omega), upd_s]
  · rcases Nat.lt_or_ge p (nv A 11) with g | g
    · obtain ⟨a1, a2, a3, a4⟩ := h.2.2.2.2.2.2.2.2.2.2.2.2 p g
      refine ⟨isN_congr ?_ a1, a2, isN_congr ?_ a3, isN_congr ?_ a4⟩ <;> rw [upd_n (by omega), upd_n (by omega), upd_n (by omega), upd_n (by omega)]
    · have e : p = nv A 11 := by omega
      subst e
      refine ⟨isN_of (n := k) ?_ (by omega) (by omega) (by omega), by omega, isN_of (n := s) ?_ (by omega) hs (by omega), isN_of (n := d) ?_ hd.1 hd.2 (by omega)⟩
      · rw [upd_n (by omega), upd_n (by omega), upd_s]
      · rw [upd_n (by omega), upd_s]
      · rw [upd_s]
theorem removeA_lo {A : Nat → Int32} {p j : Nat} (h : j < 214) (h2 : j ≠ 11) : removeA A p j = A j := by
  unfold removeA
  rw [if_neg h2, if_neg (by omega)]
theorem removeA_11 {A : Nat → Int32} {p : Nat} : removeA A p 11 = nI (nv A 11 - 1) := if_pos rfl
theorem removeA_at {A : Nat → Int32} {p i r : Nat} (hr : r < 3) (hi : i < nv A 11 - 1) : removeA A p (214 + 3 * i + r) = if i < p then A (214 + 3 * i + r) else A (214 + 3 * (i + 1) + r) := by
  unfold removeA
  rw [if_neg (by omega)]
  by_cases h : i < p
  · rw [if_pos h, if_neg (by omega)]
  · rw [if_neg h, if_pos (by omega)]
    congr 1
    omega
theorem nv_remove {A : Nat → Int32} {p : Nat} (h : nv A 11 ≤ 30) : nv (removeA A p) 11 = nv A 11 - 1 := nv_of removeA_11 (by omega)
theorem RowOK_remove {hm : Nat} {A : Nat → Int32} (h : RowOK hm A) {p : Nat} (hp : p < nv A 11) : RowOK hm (removeA A p) := by
  have hnp := r_NP h
  refine RowOK_perm h (m := nv A 11 - 1) (fun j h1 h2 => removeA_lo h1 h2) removeA_11 (by omega) (fun i hi => ?_)
  have key : ∀ r, r < 3 → ∃ q, q < nv A 11 ∧ removeA A p (214 + 3 * i + r) = A (214 + 3 * q + r) ∧ (q = if i < p then i else i + 1) := by
    intro r hr
    rw [removeA_at hr hi]
    by_cases g : i < p
    · exact ⟨i, by omega, by rw [if_pos g], by rw [if_pos g]⟩
    · exact ⟨i + 1, by omega, by rw [if_neg g], by rw [if_neg g]⟩
  obtain ⟨q0, b1, b2, b3⟩ := key 0 (by omega)
  obtain ⟨q1, c1, c2, c3⟩ := key 1 (by omega)
  obtain ⟨q2, d1, d2, d3⟩ := key 2 (by omega)
  have e1 : q1 = q0 := by omega
  have e2 : q2 = q0 := by omega
  subst e1; subst e2
  obtain ⟨a1, a2, a3, a4⟩ := h.2.2.2.2.2.2.2.2.2.2.2.2 _ b1
  have tr : ∀ {j i' a b : Nat}, removeA A p j = A i' → isN A i' a b → isN (removeA A p) j a b := by
    intro j i' a b hx hy
    have e : nv (removeA A p) j = nv A i' := by unfold nv; rw [hx]
    exact ⟨by rw [e, hx]; exact hy.1, by rw [e]; exact hy.2.1, by rw [e]; exact hy.2.2⟩
  exact ⟨tr b2 a1, a2, tr c2 a3, tr d2 a4⟩
theorem rmF_inv {P : Int32 → Int32 → Int32 → Prop} {I : (Nat → Int32) → Prop} (hI : ∀ A p, I A → p < nv A 11 → I (removeA A p)) : ∀ (f : Nat) (A : Nat → Int32) (k n : Nat), I A → I (rmF P f A k n).1
  | 0, A, k, n, h => h
  | f + 1, A, k, n, h => by
    unfold rmF
    split
    · next hk =>
      split
      · exact rmF_inv hI f _ _ _ (hI A k h hk)
      · exact rmF_inv hI f _ _ _ h
    · exact h
theorem RowOK_rmF {hm : Nat} {P : Int32 → Int32 → Int32 → Prop} {A : Nat → Int32} (h : RowOK hm A) (f k n : Nat) : RowOK hm (rmF P f A k n).1 := rmF_inv (I := RowOK hm) (fun _ _ h1 h2 => RowOK_remove h1 h2) f A k n h
theorem rmF_lo {P : Int32 → Int32 → Int32 → Prop} {A : Nat → Int32} (f k n : Nat) {j : Nat} (h1 : j < 214) (h2 : j ≠ 11) : (rmF P f A k n).1 j = A j := rmF_inv (I := fun B => B j = A j) (fun _ _ h _ => (removeA_lo h1 h2).trans h) f A k n rfl
theorem RowOK_tie {hm : Nat} {A : Nat → Int32} (h : RowOK hm A) {k v : Nat} (hk : k < 16) (hv : v ≤ 9) : RowOK hm (tieA A k v) := RowOK_kite (RowOK_rmF h _ _ _) hk (Or.inl ⟨rfl, hv⟩)
