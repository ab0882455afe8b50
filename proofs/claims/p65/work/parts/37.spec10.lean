/-! ===== texts: tokens, as functions of the bytes ===== -/
def sg (n : Nat) : Int := if n < 128 then (n : Int) else (n : Int) - 256
def lett (n : Nat) : Prop := 97 ≤ n ∧ n ≤ 122
def digi (n : Nat) : Prop := 48 ≤ n ∧ n ≤ 57
def spac (n : Nat) : Prop := n = 32
theorem sg_rng {n : Nat} (h : n < 256) : -128 ≤ sg n ∧ sg n ≤ 127 := by unfold sg; split <;> omega
theorem sg_eq {n m : Nat} (h : n < 256) (hm : m < 128) : sg n = m ↔ n = m := by unfold sg; split <;> omega
theorem sg_lett {n : Nat} (h : n < 256) : lett n ↔ (97 ≤ sg n ∧ sg n ≤ 122) := by unfold lett sg; split <;> omega
theorem sg_digi {n : Nat} (h : n < 256) : digi n ↔ (48 ≤ sg n ∧ sg n ≤ 57) := by unfold digi sg; split <;> omega
/-- the end of a run -/
noncomputable def runF (P : Nat → Prop) (t : Nat → Nat) (L : Nat) : Nat → Nat → Nat
  | 0, a => a
  | f + 1, a => @ite _ (a < L ∧ P (t a)) (Classical.propDecidable _) (runF P t L f (a + 1)) a
noncomputable def run (P : Nat → Prop) (t : Nat → Nat) (L a : Nat) : Nat := runF P t L (L - a) a
theorem run_go {P : Nat → Prop} {t : Nat → Nat} {L a : Nat} (h : a < L) (hp : P (t a)) : run P t L a = run P t L (a + 1) := by
  unfold run
  rw [show L - a = (L - (a + 1)) + 1 by omega]
  show @ite _ (a < L ∧ P (t a)) (Classical.propDecidable _) _ _ = _
  rw [if_pos ⟨h, hp⟩]
theorem run_end {P : Nat → Prop} {t : Nat → Nat} {L a : Nat} (h : ¬ (a < L ∧ P (t a))) : run P t L a = a := by
  unfold run
  cases hd : L - a with
  | zero => rfl
  | succ f =>
    show @ite _ (a < L ∧ P (t a)) (Classical.propDecidable _) _ _ = _
    rw [if_neg h]
theorem run_ge {P : Nat → Prop} {t : Nat → Nat} {L : Nat} : ∀ (f a : Nat), a ≤ runF P t L f a
  | 0, a => Nat.le_refl a
  | f + 1, a => by
    show a ≤ @ite _ (a < L ∧ P (t a)) (Classical.propDecidable _) _ _
    split
    · exact Nat.le_trans (Nat.le_succ a) (run_ge f (a + 1))
    · exact Nat.le_refl a
theorem run_le {P : Nat → Prop} {t : Nat → Nat} {L : Nat} : ∀ (f a : Nat), a ≤ L → runF P t L f a ≤ L
  | 0, a, h => h
  | f + 1, a, h => by
    show @ite _ (a < L ∧ P (t a)) (Classical.propDecidable _) _ _ ≤ L
    split
    · next q => exact run_le f (a + 1) q.1
    · exact h
theorem run_in {P : Nat → Prop} {t : Nat → Nat} {L : Nat} : ∀ (f a j : Nat), a ≤ j → j < runF P t L f a → P (t j)
  | 0, a, j, h1, h2 => absurd h2 (by show ¬ j < a; omega)
  | f + 1, a, j, h1, h2 => by
    change j < @ite _ (a < L ∧ P (t a)) (Classical.propDecidable _) _ _ at h2
    split at h2
    · next q =>
      by_cases hj : j = a
      · subst hj; exact q.2
      · exact run_in f (a + 1) j (by omega) h2
    · exact absurd h2 (by omega)
noncomputable def skip (t : Nat → Nat) (L a : Nat) : Nat := run spac t L a
theorem skip_le {t : Nat → Nat} {L a : Nat} (h : a ≤ L) : a ≤ skip t L a ∧ skip t L a ≤ L := ⟨run_ge _ _, run_le _ _ h⟩
/-- the kind of the token at p: 0 the end, 1 a word, 2 a number, 3 a semicolon, 4 no token -/
noncomputable def kdT (t : Nat → Nat) (L p : Nat) : Nat :=
  if ¬ p < L then 0 else @ite _ (lett (t p)) (Classical.propDecidable _) 1 (@ite _ (digi (t p)) (Classical.propDecidable _) 2 (if t p = 59 then 3 else 4))
noncomputable def endT (t : Nat → Nat) (L p : Nat) : Nat :=
  if ¬ p < L then p else @ite _ (lett (t p)) (Classical.propDecidable _) (run lett t L p) (@ite _ (digi (t p)) (Classical.propDecidable _) (run digi t L p) (p + 1))
theorem kdT_0 {t : Nat → Nat} {L p : Nat} (h : ¬ p < L) : kdT t L p = 0 := if_pos h
theorem kdT_1 {t : Nat → Nat} {L p : Nat} (h : p < L) (hl : lett (t p)) : kdT t L p = 1 := by unfold kdT; rw [if_neg (fun q => q h), if_pos hl]
theorem kdT_2 {t : Nat → Nat} {L p : Nat} (h : p < L) (hl : ¬ lett (t p)) (hd : digi (t p)) : kdT t L p = 2 := by unfold kdT; rw [if_neg (fun q => q h), if_neg hl, if_pos hd]
theorem kdT_3 {t : Nat → Nat} {L p : Nat} (h : p < L) (hs : t p = 59) : kdT t L p = 3 := by
  unfold kdT
  rw [if_neg (fun q => q h), if_neg (by unfold lett; omega), if_neg (by unfold digi; omega), if_pos hs]
theorem kdT_4 {t : Nat → Nat} {L p : Nat} (h : p < L) (hl : ¬ lett (t p)) (hd : ¬ digi (t p)) (hs : ¬ t p = 59) : kdT t L p = 4 := by unfold kdT; rw [if_neg (fun q => q h), if_neg hl, if_neg hd, if_neg hs]
theorem endT_0 {t : Nat → Nat} {L p : Nat} (h : ¬ p < L) : endT t L p = p := if_pos h
theorem endT_1 {t : Nat → Nat} {L p : Nat} (h : p < L) (hl : lett (t p)) : endT t L p = run lett t L p := by unfold endT; rw [if_neg (fun q => q h), if_pos hl]
theorem endT_2 {t : Nat → Nat} {L p : Nat} (h : p < L) (hl : ¬ lett (t p)) (hd : digi (t p)) : endT t L p = run digi t L p := by unfold endT; rw [if_neg (fun q => q h), if_neg hl, if_pos hd]
theorem endT_3 {t : Nat → Nat} {L p : Nat} (h : p < L) (hl : ¬ lett (t p)) (hd : ¬ digi (t p)) : endT t L p = p + 1 := by unfold endT; rw [if_neg (fun q => q h), if_neg hl, if_neg hd]
theorem endT_le {t : Nat → Nat} {L p : Nat} (h : p ≤ L) : p ≤ endT t L p ∧ endT t L p ≤ L := by
  by_cases h1 : p < L
  · by_cases h2 : lett (t p)
    · rw [endT_1 h1 h2]; exact ⟨run_ge _ _, run_le _ _ h⟩
    · by_cases h3 : digi (t p)
      · rw [endT_2 h1 h2 h3]; exact ⟨run_ge _ _, run_le _ _ h⟩
      · rw [endT_3 h1 h2 h3]; omega
  · rw [endT_0 h1]; omega
theorem kdT_ne1 {t : Nat → Nat} {L p : Nat} (h : kdT t L p = 1) : p < L ∧ lett (t p) := by
  by_cases h1 : p < L
  · by_cases h2 : lett (t p)
    · exact ⟨h1, h2⟩
    · by_cases h3 : digi (t p)
      · rw [kdT_2 h1 h2 h3] at h; omega
      · by_cases h4 : t p = 59
        · rw [kdT_3 h1 h4] at h; omega
        · rw [kdT_4 h1 h2 h3 h4] at h; omega
  · rw [kdT_0 h1] at h; omega
theorem kdT_le {t : Nat → Nat} {L p : Nat} : kdT t L p ≤ 4 := by
  by_cases h1 : p < L
  · by_cases h2 : lett (t p)
    · rw [kdT_1 h1 h2]; omega
    · by_cases h3 : digi (t p)
      · rw [kdT_2 h1 h2 h3]; omega
      · by_cases h4 : t p = 59
        · rw [kdT_3 h1 h4]; omega
        · rw [kdT_4 h1 h2 h3 h4]; omega
  · rw [kdT_0 h1]; omega
/-- the number of n digits from p on, with a cap -/
def val (C : Nat) (t : Nat → Nat) (p : Nat) : Nat → Nat
  | 0 => 0
  | n + 1 => min (10 * val C t p n + (t (p + n) - 48)) C
theorem val_le (C : Nat) (t : Nat → Nat) (p n : Nat) : val C t p n ≤ C := by
  cases n with
  | zero => exact Nat.zero_le _
  | succ n => exact Nat.min_le_right _ _
theorem val_min {t : Nat → Nat} {p : Nat} : ∀ n, val 1000000 t p n = min (val 10000000 t p n) 1000000
  | 0 => rfl
  | n + 1 => by
    show min (10 * val 1000000 t p n + (t (p + n) - 48)) 1000000 = min (min (10 * val 10000000 t p n + (t (p + n) - 48)) 10000000) 1000000
    rw [val_min n]
    omega
noncomputable def numT (t : Nat → Nat) (L p : Nat) : Nat := val 1000000 t p (endT t L p - p)
/-- the reference's number of a word -/
def codeI (t : Nat → Nat) (p : Nat) : Nat → Int64
  | 0 => 0
  | n + 1 => 32 * codeI t p n + (iI (sg (t (p + n)))).toInt64 - 96
/-- what a text is in the reference's memory -/
def TX (σ : Mem) (t : Nat → Nat) (L : Nat) : Prop := (∀ j, j < L → t j < 256 ∧ rd σ 13 4 j = iI (sg (t j))) ∧ rd σ 13 0 6 = nI L ∧ L ≤ 500
/-- what a reading changes -/
def PFx (o c j : Nat) : Prop := o = 13 ∧ c = 0 ∧ (j = 16 ∨ j = 17 ∨ j = 18 ∨ j = 19)
def PF (σ σ' : Mem) : Prop := (∀ o c j, ¬ PFx o c j → rd σ' o c j = rd σ o c j) ∧ ∀ j, 1 ≤ j → rdL σ' j = rdL σ j
theorem PF_rf {σ : Mem} : PF σ σ := ⟨fun _ _ _ _ => rfl, fun _ _ => rfl⟩
theorem PF_tr {a b c : Mem} (h1 : PF a b) (h2 : PF b c) : PF a c := ⟨fun o d j h => (h2.1 o d j h).trans (h1.1 o d j h), fun j h => (h2.2 j h).trans (h1.2 j h)⟩
theorem PF_wr {σ : Mem} {o c j : Nat} {v : Int32} (h : PFx o c j) : PF σ (wr σ o c j v) := ⟨fun a b d hn => by rw [rd_wr, if_neg (fun q => hn (by rw [q.1, q.2.1, q.2.2]; exact h))], fun _ _ => rfl⟩
theorem PF_wrL {σ : Mem} {v : Int64} : PF σ (wrL σ 0 v) := ⟨fun _ _ _ _ => rfl, fun j hj => by rw [rdL_wrL, if_neg (by omega)]⟩
theorem PFx0 {j : Nat} (h : j = 16 ∨ j = 17 ∨ j = 18 ∨ j = 19) : PFx 13 0 j := ⟨rfl, rfl, h⟩
theorem TX_PF {σ σ' : Mem} {t : Nat → Nat} {L : Nat} (h : TX σ t L) (hp : PF σ σ') : TX σ' t L :=
  ⟨fun j hj => ⟨(h.1 j hj).1, (hp.1 13 4 j (by unfold PFx; omega)).trans (h.1 j hj).2⟩, (hp.1 13 0 6 (by unfold PFx; omega)).trans h.2.1, h.2.2⟩
def atR (σ : Mem) (a : Nat) : Prop := rd σ 13 0 16 = nI a
/-- the reference's current token -/
def curR (σ : Mem) (t : Nat → Nat) (L p : Nat) : Prop := rd σ 13 0 17 = nI p ∧ rd σ 13 0 18 = nI (kdT t L p) ∧ atR σ (endT t L p) ∧ (kdT t L p = 2 → rd σ 13 0 19 = nI (val 10000000 t p (endT t L p - p))) ∧ (kdT t L p = 1 → rdL σ 0 = codeI t p (min (endT t L p - p) 7))
theorem PF_1 {σ σ' : Mem} (h : PF σ σ') : rd σ' 13 1 = rd σ 13 1 := funext fun j => h.1 13 1 j (by unfold PFx; omega)
/-! the long cells alone -/
theorem kd_no2 {a b : Nat} (h : ¬ (a = 13 ∧ b = 0)) (h5 : (kd a b).1 = 5) : 2 ∉ fk (kd a b).2 := by
  unfold kd at h5 ⊢
  by_cases h1 : a < 12
  · rw [if_pos h1] at h5 ⊢
    unfold kdO at h5 ⊢
    split at h5 <;> first | decide | exact absurd h5 (by decide)
  · rw [if_neg h1] at h5 ⊢
    by_cases h2 : a = 12
    · rw [if_pos h2] at h5 ⊢
      unfold kdK at h5 ⊢
      split at h5 <;> first | decide | exact absurd h5 (by decide)
    · rw [if_neg h2] at h5 ⊢
      by_cases h3 : a = 13
      · rw [if_pos h3] at h5 ⊢
        have hb : b ≠ 0 := fun q => h ⟨h3, q⟩
        unfold kdM at h5 ⊢
        split at h5 <;> first | exact absurd rfl hb | exact absurd h5 (by decide)
      · rw [if_neg h3] at h5
        exact absurd h5 (by decide)
theorem kd_no3 {a b : Nat} (h : ¬ (a = 13 ∧ 9 ≤ b)) : (kd a b).1 ≠ 3 := by
  intro h5
  unfold kd at h5
  by_cases h1 : a < 12
  · rw [if_pos h1] at h5
    unfold kdO at h5
    split at h5 <;> exact absurd h5 (by decide)
  · rw [if_neg h1] at h5
    by_cases h2 : a = 12
    · rw [if_pos h2] at h5
      unfold kdK at h5
      split at h5 <;> exact absurd h5 (by decide)
    · rw [if_neg h2] at h5
      by_cases h3 : a = 13
      · rw [if_pos h3] at h5
        have hb : b < 9 := by omega
        have hb2 : b = 0 ∨ b = 1 ∨ b = 2 ∨ b = 3 ∨ b = 4 ∨ b = 5 ∨ b = 6 ∨ b = 7 ∨ b = 8 := by omega
        rcases hb2 with rfl | rfl | rfl | rfl | rfl | rfl | rfl | rfl | rfl <;> exact absurd h5 (by decide)
      · rw [if_neg h3] at h5
        exact absurd h5 (by decide)
theorem fvals_no2 {w : Lay} {σ σ' : Mem} {o c : Nat} {ks : List Nat} (h1 : rd σ' o c = rd σ o c) (h2 : 2 ∉ ks) (h3 : ∀ k ∈ ks, k = 0 ∨ k = 1 ∨ k = 2) : fvals w σ' o c ks = fvals w σ o c ks := by
  unfold fvals
  refine List.map_congr_left (fun q hq => ?_)
  have hm : q.1 ∈ ks := List.fst_mem_of_mem_zipIdx hq
  have h4 := h3 _ hm
  have h5 : q.1 ≠ 2 := fun e => h2 (e ▸ hm)
  unfold fval
  rw [h1]
  rcases h4 with e | e | e
  · rw [if_pos e, if_pos e]
  · have n0 : ¬ q.1 = 0 := fun z => by rw [e] at z; exact absurd z (by decide)
    rw [if_neg n0, if_pos e, if_neg n0, if_pos e]
  · exact absurd e h5
theorem fk_012 (ci : Nat) : ∀ k ∈ fk ci, k = 0 ∨ k = 1 ∨ k = 2 := by
  unfold fk
  split <;> decide
theorem enc_wrL0 {G : GC} {w : Lay} {σ : Mem} {x : Int64} {a b : Nat} (h : ¬ (a = 13 ∧ b = 0)) : enc G w (wrL σ 0 x) a b = enc G w σ a b := by
  unfold enc
  by_cases h5 : (kd a b).1 = 5
  · rw [if_pos h5, if_pos h5, fvals_no2 (σ := σ) (σ' := wrL σ 0 x) rfl (kd_no2 h h5) (fk_012 _)]
  · rw [if_neg h5, if_neg h5]
    have e : ∀ j, rdL (wrL σ 0 x) (1 + j) = rdL σ (1 + j) := fun j => by rw [rdL_wrL, if_neg (by omega)]
    simp only [e]
    rfl
theorem val_step {C : Nat} {t : Nat → Nat} {p a : Nat} (h : p ≤ a) : val C t p (a + 1 - p) = min (10 * val C t p (a - p) + (t a - 48)) C := by
  rw [show a + 1 - p = (a - p) + 1 by omega]
  show min (10 * val C t p (a - p) + (t (p + (a - p)) - 48)) C = _
  rw [show p + (a - p) = a by omega]
