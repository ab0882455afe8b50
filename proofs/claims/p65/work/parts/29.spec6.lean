/-! ===== the reference's rows, its ring, its answers with the code that says what was thrown ===== -/
def thr (σ : Mem) (c : Nat) : Mem := wr σ 13 0 9 (nI c)
theorem wr_wr {σ : Mem} {o c j : Nat} {u v : Int32} : wr (wr σ o c j u) o c j v = wr σ o c j v := by
  refine mem_ext (fun a b d => ?_) (fun _ => rfl)
  rw [rd_wr, rd_wr, rd_wr]
  split <;> rfl
theorem thr_thr {σ : Mem} {c d : Nat} : wr (thr σ c) 13 0 9 (nI d) = thr σ d := wr_wr
theorem rd_thr1 {σ : Mem} {c : Nat} : rd (thr σ c) 13 1 = rd σ 13 1 := rd_wr_cell (by decide)
theorem rd_thr8 {σ : Mem} {c : Nat} : rd (thr σ c) 13 8 = rd σ 13 8 := rd_wr_cell (by decide)
/-- the conditions on arguments -/
def okZ (A : Nat → Int32) (x : Int32) : Prop := ∃ k : Nat, x = nI k ∧ k < nv A 4
def okC (A : Nat → Int32) (x : Int32) : Prop := ∃ k : Nat, x = nI k ∧ k < nv A 5
def okK (A : Nat → Int32) (x : Int32) : Prop := ∃ k : Nat, x = nI k ∧ k < nv A 6
def okP (A : Nat → Int32) (x : Int32) : Prop := ∃ k : Nat, x = nI k ∧ k < nv A 11
def okN (a b : Nat) (x : Int32) : Prop := ∃ k : Nat, x = nI k ∧ a ≤ k ∧ k ≤ b
theorem okN_iff {a b : Nat} {x : Int32} (hb : b < 2 ^ 31) : okN a b x ↔ ((a : Int) ≤ x.toInt ∧ x.toInt ≤ b) := by
  constructor
  · rintro ⟨k, rfl, h1, h2⟩
    rw [tI_n (by omega)]
    omega
  · rintro ⟨h1, h2⟩
    obtain ⟨k, hk1, hk2⟩ := nI_of (x := x) (by rw [Int32.lt_iff_toInt_lt]; show ¬ x.toInt < 0; omega)
    subst hk2
    rw [tI_n hk1] at h1 h2
    exact ⟨k, rfl, by omega, by omega⟩
abbrev cl (x : Int32) : Nat := x.toNatClampNeg
/-- a check, with the code that is given where it fails -/
noncomputable def chk (P : Prop) (c : Nat) (r : Nat × Int32) : Nat × Int32 := @ite _ P (Classical.propDecidable P) r (c, 0)
theorem chk_t {P : Prop} {c : Nat} {r : Nat × Int32} (h : P) : chk P c r = r := by unfold chk; exact if_pos h
theorem chk_f {P : Prop} {c : Nat} {r : Nat × Int32} (h : ¬ P) : chk P c r = (c, 0) := by unfold chk; exact if_neg h
/-- put and take -/
def putP (σ : Mem) (r k : Nat) : Mem := wrC σ 13 2 (fun j => if r * 304 ≤ j ∧ j < r * 304 + k then rd σ 13 1 (j - r * 304) else rd σ 13 2 j)
def takeP (σ : Mem) (r k : Nat) : Mem := wrC σ 13 1 (fun j => if j < k then rd σ 13 2 (r * 304 + j) else rd σ 13 1 j)
def clrP (σ : Mem) (k : Nat) : Mem := wrC σ 13 1 (fun j => if j < k then 0 else rd σ 13 1 j)
theorem wrC_self {σ : Mem} {o c : Nat} {f : Nat → Int32} (h : ∀ j, f j = rd σ o c j) : wrC σ o c f = σ := by
  rw [show f = rd σ o c from funext h]
  exact wrC_id
theorem wr_wrC_to {σ : Mem} {o c j : Nat} {f g : Nat → Int32} {v : Int32} (h : ∀ i, (if i = j then v else f i) = g i) : wr (wrC σ o c f) o c j v = wrC σ o c g := by
  rw [wr_wrC, wrC_wrC]
  have h2 : upd (rd (wrC σ o c f) o c) j v = g := funext fun i => by
    rw [← h i]
    unfold upd
    rw [rd_wrC_s]
  rw [h2]
theorem putP_0 {σ : Mem} {r : Nat} : putP σ r 0 = σ := wrC_self (fun j => if_neg (by omega))
theorem putP_rd1 {σ : Mem} {r k : Nat} : rd (putP σ r k) 13 1 = rd σ 13 1 := rd_wrC_cell (by decide)
theorem putP_s {σ : Mem} {r k : Nat} : wr (putP σ r k) 13 2 (r * 304 + k) (rd (putP σ r k) 13 1 k) = putP σ r (k + 1) := by
  rw [putP_rd1]
  refine wr_wrC_to (fun i => ?_)
  by_cases h : i = r * 304 + k
  · subst h
    rw [if_pos rfl, if_pos (by omega), show r * 304 + k - r * 304 = k by omega]
  · rw [if_neg h]
    by_cases h2 : r * 304 ≤ i ∧ i < r * 304 + k
    · rw [if_pos h2, if_pos (by omega)]
    · rw [if_neg h2, if_neg (by omega)]
theorem takeP_0 {σ : Mem} {r : Nat} : takeP σ r 0 = σ := wrC_self (fun j => if_neg (by omega))
theorem takeP_rd2 {σ : Mem} {r k : Nat} : rd (takeP σ r k) 13 2 = rd σ 13 2 := rd_wrC_cell (by decide)
theorem takeP_s {σ : Mem} {r k : Nat} : wr (takeP σ r k) 13 1 k (rd (takeP σ r k) 13 2 (r * 304 + k)) = takeP σ r (k + 1) := by
  rw [takeP_rd2]
  refine wr_wrC_to (fun i => ?_)
  by_cases h : i = k
  · subst h
    rw [if_pos rfl, if_pos (by omega)]
  · rw [if_neg h]
    by_cases h2 : i < k
    · rw [if_pos h2, if_pos (by omega)]
    · rw [if_neg h2, if_neg (by omega)]
theorem clrP_0 {σ : Mem} : clrP σ 0 = σ := wrC_self (fun j => if_neg (by omega))
theorem clrP_s {σ : Mem} {k : Nat} : wr (clrP σ k) 13 1 k (nI 0) = clrP σ (k + 1) := by
  refine wr_wrC_to (fun i => ?_)
  by_cases h : i = k
  · subst h
    rw [if_pos rfl, if_pos (by omega)]
    rfl
  · rw [if_neg h]
    by_cases h2 : i < k
    · rw [if_pos h2, if_pos (by omega)]
    · rw [if_neg h2, if_neg (by omega)]
/-- the ring: u states, the first at f -/
def ringOK (σ : Mem) (f u : Nat) : Prop := rd σ 13 0 3 = nI f ∧ rd σ 13 0 4 = nI u ∧ f < 8 ∧ u ≤ 8
/-- where the ring begins and how long it is, after one more -/
def rF (f u : Nat) : Nat := if u = 8 then (f + 1) % 8 else f
def rU (u : Nat) : Nat := if u = 8 then 8 else u + 1
def actM (σ : Mem) (f u : Nat) : Mem := putP (wr (wr σ 13 0 3 (nI (rF f u))) 13 0 4 (nI (rU u))) ((f + u) % 8) 304
/-! the row of a setup -/
def fieldA (A : Nat → Int32) (a b c d : Int32) : Nat → Int32 := upd (upd (upd (upd A 0 a) 1 b) 2 c) 3 d
def zoneA (A : Nat → Int32) : Nat → Int32 := upd (upd A 4 (nI (nv A 4 + 1))) (12 + 13 * nv A 4) (nI 0)
def windP (A : Nat → Int32) : Nat := 12 + 13 * (nv A 4 - 1)
def windA (A : Nat → Int32) (d f : Int32) : Nat → Int32 := upd (upd (upd A (windP A) (nI (nv A (windP A) + 1))) (windP A + 1 + 2 * nv A (windP A)) d) (windP A + 2 + 2 * nv A (windP A)) f
def colourA (A : Nat → Int32) (q : Int32) : Nat → Int32 := upd (upd A 5 (nI (nv A 5 + 1))) (64 + nv A 5) q
def kiteA (A : Nat → Int32) (x y l c n p : Int32) : Nat → Int32 :=
  upd (upd (upd (upd (upd (upd (upd (upd (upd (upd (upd A (70 + 9 * nv A 6) x) (70 + 9 * nv A 6 + 1) y) (70 + 9 * nv A 6 + 2) l) (70 + 9 * nv A 6 + 3) c) (70 + 9 * nv A 6 + 4) n) (70 + 9 * nv A 6 + 5) p) (70 + 9 * nv A 6 + 6) (nI 0)) (70 + 9 * nv A 6 + 7) (nI 0)) (70 + 9 * nv A 6 + 8) (nI 0)) 10 (A 10 + p)) 6 (nI (nv A 6 + 1))
