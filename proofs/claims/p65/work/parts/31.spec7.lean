/-! ===== the questions: answers with codes ===== -/
theorem cl_n {k : Nat} (h : k < 2 ^ 31) : cl (nI k) = k := nI_clamp h
noncomputable def aWD (A : Nat → Int32) (z h : Int32) : Nat × Int32 := chk (okZ A z) 1 (chk (okN 0 999999 h) 2 (0, nI (dirN A (cl z) (cl h))))
noncomputable def aWF (A : Nat → Int32) (z h : Int32) : Nat × Int32 := chk (okZ A z) 1 (chk (okN 0 999999 h) 2 (0, nI (frcN A (cl z) (cl h))))
noncomputable def aQ (A : Nat → Int32) (c : Int32) : Nat × Int32 := chk (okC A c) 1 (0, A (64 + cl c))
noncomputable def aQU (A : Nat → Int32) (c h : Int32) : Nat × Int32 := chk (okC A c) 1 (chk (okN 0 999999 h) 2 (0, nI (usedN A (cl c) (cl h))))
noncomputable def aOf (j : Nat) (A : Nat → Int32) (k : Int32) : Nat × Int32 := chk (okK A k) 1 (0, A (70 + 9 * cl k + j))
noncomputable def aZO (A : Nat → Int32) (k : Int32) : Nat × Int32 := chk (okK A k) 1 (0, nI (zoneN A (cl k)))
noncomputable def aRe (A : Nat → Int32) (k h : Int32) : Nat × Int32 := chk (okK A k) 1 (chk (okN 0 999999 h) 2 (0, nI (reachN A (cl k) (cl h))))
noncomputable def aEX (A : Nat → Int32) (k h : Int32) : Nat × Int32 := chk (okK A k) 1 (chk (okN 0 999999 h) 2 (0, iI (xAf A (cl k) (reachN A (cl k) (cl h)) (cl h))))
noncomputable def aEY (A : Nat → Int32) (k h : Int32) : Nat × Int32 := chk (okK A k) 1 (chk (okN 0 999999 h) 2 (0, iI (yAf A (cl k) (reachN A (cl k) (cl h)) (cl h))))
noncomputable def aCF (A : Nat → Int32) (k h : Int32) : Nat × Int32 := chk (okK A k) 1 (chk (okN 0 999999 h) 2 (0, nI (ct (fliesN A (cl k) (cl h)))))
noncomputable def aDC (A : Nat → Int32) (k i h : Int32) : Nat × Int32 := chk (okK A k) 1 (chk (okK A i) 1 (chk (k ≠ i) 2 (chk (okN 0 999999 h) 2 (0, nI (ct (crossN A (cl k) (cl i) (cl h)))))))
noncomputable def aPf (j : Nat) (A : Nat → Int32) (p : Int32) : Nat × Int32 := chk (okP A p) 1 (0, A (214 + 3 * cl p + j))
noncomputable def aHP (A : Nat → Int32) (k h : Int32) : Nat × Int32 := chk (okK A k) 1 (chk (okN 0 999999 h) 2 (0, nI (ct (permN A (cl k) (cl h)))))
noncomputable def aWN (A : Nat → Int32) (k s d : Int32) : Nat × Int32 := chk (okK A k) 1 (chk (okN 0 999999 s) 2 (chk (okN 1 24 d) 2 (0, nI (refuse A (cl k) (cl s) (cl d)))))
noncomputable def aKW (A : Nat → Int32) (k s d : Int32) : Nat × Int32 := chk (okK A k) 1 (chk (okN 0 999999 s) 2 (chk (okN 1 24 d) 2 (0, iI (inWay A (cl k) (cl s) (cl d)))))
noncomputable def estF (A : Nat → Int32) (k d : Nat) : Nat → Nat → Int
  | 0, _ => -1
  | f + 1, j => if refuse A k (nv A 7 + j) d = 0 then ((nv A 7 + j : Nat) : Int) else estF A k d f (j + 1)
noncomputable def aES (A : Nat → Int32) (k d : Int32) : Nat × Int32 := chk (okK A k) 1 (chk (okN 1 24 d) 2 (0, iI (estF A (cl k) (cl d) 61 0)))
def bkP (A : Nat → Int32) (k h j : Nat) (b : Int) : Prop := fliesW A k j h ∧ (b < 0 ∨ reachW A k b.toNat h < reachW A k j h)
noncomputable def bkF (A : Nat → Int32) (k h : Nat) : Nat → Nat → Int → Int
  | 0, _, b => b
  | f + 1, j, b => bkF A k h f (j + 1) (@ite _ (bkP A k h j b) (Classical.propDecidable _) (j : Int) b)
noncomputable def aBK (A : Nat → Int32) (k h : Int32) : Nat × Int32 := chk (okK A k) 1 (chk (okN 0 999999 h) 2 (0, iI (bkF A (cl k) (cl h) 10 0 (-1))))
noncomputable def aGK (A : Nat → Int32) (k i : Int32) : Nat × Int32 := chk (okK A k) 1 (chk (okK A i) 1 (chk (k ≠ i) 2 (chk (A (70 + 9 * cl k + 6) = nI 1) 3 (chk (A (70 + 9 * cl i + 6) = nI 1) 3 (0, nI (guiltN A (cl k) (cl i)))))))
def sumN (f : Nat → Nat) : Nat → Nat
  | 0 => 0
  | n + 1 => sumN f n + f n
theorem sumN_le {f : Nat → Nat} {b : Nat} : ∀ {n : Nat}, (∀ i, i < n → f i ≤ b) → sumN f n ≤ n * b
  | 0, _ => Nat.zero_le _
  | n + 1, h => by
    show sumN f n + f n ≤ (n + 1) * b
    rw [Nat.succ_mul]
    exact Nat.add_le_add (sumN_le (fun i hi => h i (Nat.lt_succ_of_lt hi))) (h n (Nat.lt_succ_self n))
theorem sumN_congr {f g : Nat → Nat} : ∀ {n : Nat}, (∀ i, i < n → f i = g i) → sumN f n = sumN g n
  | 0, _ => rfl
  | n + 1, h => by
    show sumN f n + f n = sumN g n + g n
    rw [sumN_congr (fun i hi => h i (Nat.lt_succ_of_lt hi)), h n (Nat.lt_succ_self n)]
/-- the hours in which two permits meet and the strings cross -/
def crsB (A : Nat → Int32) (p : Nat) : Nat := max (nv A 7) (nv A (214 + 3 * p + 1))
def crsE (A : Nat → Int32) (p : Nat) : Nat := nv A (214 + 3 * p + 1) + nv A (214 + 3 * p + 2)
def crsP (A : Nat → Int32) (p q h : Nat) : Prop := covN A q h ∧ crossN A (nv A (214 + 3 * p)) (nv A (214 + 3 * q)) h
noncomputable def crs (A : Nat → Int32) (p q : Nat) : Nat := if nv A (214 + 3 * p) = nv A (214 + 3 * q) then 0 else cnt (fun i => crsP A p q (crsB A p + i)) (crsE A p - crsB A p)
noncomputable def pcr (A : Nat → Int32) : Nat := sumN (fun k => sumN (fun j => crs A k (k + 1 + j)) (nv A 11 - (k + 1))) (nv A 11)
def psum (A : Nat → Int32) : Nat → Int32
  | 0 => 0
  | n + 1 => psum A n + A (70 + 9 * n + 5)
def coinE (A : Nat → Int32) : Int32 := A 10 - A 9 - psum A (nv A 6)
noncomputable def flyR (A : Nat → Int32) : Nat := sumN (fun k => if A (70 + 9 * k + 6) = nI 1 then reachN A k (nv A 7) else 0) (nv A 6)
theorem crs_le (A : Nat → Int32) (p q : Nat) : crs A p q ≤ crsE A p := by
  unfold crs
  split
  · exact Nat.zero_le _
  · exact Nat.le_trans (cnt_le _ _) (by omega)
theorem cnt_ff {P : Nat → Prop} {n : Nat} (h : ¬ P n) : cnt P (n + 1) = cnt P n := by show cnt P n + ct (P n) = _; rw [ct_f h]; rfl
theorem cnt_tt {P : Nat → Prop} {n : Nat} (h : P n) : cnt P (n + 1) = cnt P n + 1 := by show cnt P n + ct (P n) = _; rw [ct_t h]
theorem i32_sub (a b c : Int32) : a - b - c = a - (b + c) := by
  rw [Int32_iI a, Int32_iI b, Int32_iI c, iI_sub, iI_sub, iI_add, iI_sub]
  congr 1
  omega
theorem i32_sub0 (a : Int32) : a - 0 = a := by
  rw [Int32_iI a, show (0 : Int32) = iI 0 from rfl, iI_sub]
  congr 1
  omega
