/-! ===== the changes: answers with codes; the ring ===== -/
theorem rd_act1 {σ : Mem} {f u : Nat} : rd (actM σ f u) 13 1 = rd σ 13 1 := by
  unfold actM
  rw [putP_rd1, rd_wr_cell (by decide), rd_wr_cell (by decide)]
theorem rd_act8 {σ : Mem} {f u : Nat} : rd (actM σ f u) 13 8 = rd σ 13 8 := by
  unfold actM putP
  rw [rd_wrC_cell (by decide), rd_wr_cell (by decide), rd_wr_cell (by decide)]
theorem ring_thr {σ : Mem} {c f u : Nat} (h : ringOK σ f u) : ringOK (thr σ c) f u := ⟨(rd_wr_j (by decide)).trans h.1, (rd_wr_j (by decide)).trans h.2.1, h.2.2⟩
noncomputable def aLa (A : Nat → Int32) (k : Int32) : Nat × Int32 := chk (okK A k) 1 (chk (canL A (cl k)) 2 (0, nI (reachN A (cl k) (nv A 7))))
noncomputable def aLd (A : Nat → Int32) (k : Int32) : Nat × Int32 := chk (okK A k) 1 (chk (A (70 + 9 * cl k + 6) = nI 1) 2 (0, nI (stN (stateA A (cl k) 0) 1)))
noncomputable def aPH (A K : Nat → Int32) (h : Int32) : Nat × Int32 := chk (okN 1 48 h) 1 (0, nI (passed (cl h) (A, K, 0)).2.2)
noncomputable def aPe (A : Nat → Int32) (k s d : Int32) : Nat × Int32 := chk (okK A k) 1 (chk (okN 0 999999 s) 2 (chk (okN 1 24 d) 2 (chk (refuse A (cl k) (cl s) (cl d) = 0) 3 (0, nI (nv A 11 + 1)))))
noncomputable def aCa (A : Nat → Int32) (k : Int32) : Nat × Int32 := chk (okK A k) 1 (0, nI (cancelR A (cl k)).2)
noncomputable def aTi (A : Nat → Int32) (k v : Int32) : Nat × Int32 := chk (okK A k) 1 (chk (okN 0 9 v) 2 (chk (A (70 + 9 * cl k + 6) = nI 0) 3 (0, nI (nv A (70 + 9 * cl k + 4)))))
noncomputable def aRp (A : Nat → Int32) (k : Int32) : Nat × Int32 := chk (okK A k) 1 (chk (canR A (cl k)) 2 (0, nI (2 * nv A (70 + 9 * cl k + 4))))
noncomputable def aFu (A : Nat → Int32) (k c : Int32) : Nat × Int32 := chk (okK A k) 1 (chk (okN 1 999 c) 2 (0, A (70 + 9 * cl k + 5) + fundV A (cl k) c))
noncomputable def aAK (A : Nat → Int32) (x y l c v p : Int32) : Nat × Int32 :=
  chk (okC A c) 1 (chk (okN 0 (nv A 0 - 1) x) 2 (chk (okN 0 (nv A 1 - 1) y) 2 (chk (okN 1 60 l) 2 (chk (okN 0 9 v) 2 (chk (okN 0 999 p) 2 (chk (nv A 6 ≠ 16) 3 (0, nI (nv A 6))))))))
noncomputable def aVI (A K : Nat → Int32) (h : Int32) : Nat × Int32 := chk (okN 0 100 h) 1 (0, nI (passed (cl h) (A, K, 0)).2.2)
noncomputable def aUn (u : Nat) : Nat × Int32 := chk (u ≠ 0) 1 (0, nI (u - 1))
noncomputable def aSS (s : Int32) : Nat × Int32 := chk (okN 0 1 s) 1 (0, 0)
noncomputable def aRS (F : Nat → Int32) (B : Nat → Nat → Int32) (s : Int32) : Nat × Int32 := chk (okN 0 1 s) 1 (chk (F (cl s) = nI 1) 2 (0, B (cl s) 7))
/-- a row of the rows -/
def rowOf (σ : Mem) (r : Nat) : Nat → Int32 := fun j => rd σ 13 2 (r * 304 + j)
theorem est_hit {A : Nat → Int32} {k d j : Nat} (hj : j ≤ 60) (h : refuse A k (nv A 7 + j) d = 0) : estF A k d (61 - j) j = ((nv A 7 + j : Nat) : Int) := by
  rw [show 61 - j = (60 - j) + 1 by omega]
  exact if_pos h
theorem est_miss {A : Nat → Int32} {k d j : Nat} (hj : j ≤ 60) (h : ¬ refuse A k (nv A 7 + j) d = 0) : estF A k d (61 - j) j = estF A k d (61 - (j + 1)) (j + 1) := by
  rw [show 61 - j = (61 - (j + 1)) + 1 by omega]
  exact if_neg h
theorem bk_hit {A : Nat → Int32} {k h j : Nat} {b : Int} (hj : j < 10) (hp : bkP A k h j b) : bkF A k h (10 - j) j b = bkF A k h (10 - (j + 1)) (j + 1) j := by
  rw [show 10 - j = (10 - (j + 1)) + 1 by omega]
  show bkF A k h (10 - (j + 1)) (j + 1) (@ite _ (bkP A k h j b) (Classical.propDecidable _) (j : Int) b) = _
  rw [if_pos hp]
theorem bk_miss {A : Nat → Int32} {k h j : Nat} {b : Int} (hj : j < 10) (hp : ¬ bkP A k h j b) : bkF A k h (10 - j) j b = bkF A k h (10 - (j + 1)) (j + 1) b := by
  rw [show 10 - j = (10 - (j + 1)) + 1 by omega]
  show bkF A k h (10 - (j + 1)) (j + 1) (@ite _ (bkP A k h j b) (Classical.propDecidable _) (j : Int) b) = _
  rw [if_neg hp]
theorem crs_ne {A : Nat → Int32} {p q : Nat} (h : ¬ nv A (214 + 3 * p) = nv A (214 + 3 * q)) : crs A p q = cnt (fun i => crsP A p q (crsB A p + i)) (crsE A p - crsB A p) := if_neg h
theorem crs_eq {A : Nat → Int32} {p q : Nat} (h : nv A (214 + 3 * p) = nv A (214 + 3 * q)) : crs A p q = 0 := if_pos h
theorem sumN_s {f : Nat → Nat} {n : Nat} : sumN f (n + 1) = sumN f n + f n := rfl
theorem psum_s {A : Nat → Int32} {n : Nat} : psum A (n + 1) = psum A n + A (70 + 9 * n + 5) := rfl
theorem refuse_np {hm : Nat} {A : Nat → Int32} (hI : RowOK hm A) {k s d : Nat} (h : refuse A k s d = 0) : nv A 11 < 30 := by
  have h9 := r_NP hI
  unfold refuse at h
  by_cases h1 : s < nv A 7
  · rw [if_pos h1] at h
    omega
  · rw [if_neg h1] at h
    by_cases h2 : nv A 11 = 30
    · rw [if_pos h2] at h
      omega
    · omega
