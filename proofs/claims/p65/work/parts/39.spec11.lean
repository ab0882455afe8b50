/-! ===== words and their numbers ===== -/
def codeN (t : Nat → Nat) (p : Nat) : Nat → Nat
  | 0 => 0
  | n + 1 => 32 * codeN t p n + (t (p + n) - 96)
theorem codeN_inj {t s : Nat → Nat} {p q : Nat} : ∀ (n m : Nat), (∀ i, i < n → lett (t (p + i))) → (∀ i, i < m → lett (s (q + i))) → codeN t p n = codeN s q m → n = m ∧ ∀ i, i < n → t (p + i) = s (q + i)
  | 0, 0, _, _, _ => ⟨rfl, fun i hi => absurd hi (Nat.not_lt_zero i)⟩
  | 0, m + 1, _, h2, h => by
    have g := h2 m (Nat.lt_succ_self m)
    unfold lett at g
    have h3 : 0 = 32 * codeN s q m + (s (q + m) - 96) := h
    omega
  | n + 1, 0, h1, _, h => by
    have g := h1 n (Nat.lt_succ_self n)
    unfold lett at g
    have h3 : 32 * codeN t p n + (t (p + n) - 96) = 0 := h
    omega
  | n + 1, m + 1, h1, h2, h => by
    have g1 := h1 n (Nat.lt_succ_self n)
    have g2 := h2 m (Nat.lt_succ_self m)
    unfold lett at g1 g2
    have h3 : 32 * codeN t p n + (t (p + n) - 96) = 32 * codeN s q m + (s (q + m) - 96) := h
    have h4 : codeN t p n = codeN s q m := by omega
    have h5 := codeN_inj n m (fun i hi => h1 i (Nat.lt_succ_of_lt hi)) (fun i hi => h2 i (Nat.lt_succ_of_lt hi)) h4
    obtain ⟨rfl, h6⟩ := h5
    refine ⟨rfl, fun i hi => ?_⟩
    by_cases hn : i = n
    · subst hn
      omega
    · exact h6 i (by omega)
def lI (z : Int) : Int64 := Int64.ofInt z
theorem lI_toInt {z : Int} (h1 : -9223372036854775808 ≤ z) (h2 : z < 9223372036854775808) : (lI z).toInt = z := Int64.toInt_ofInt_of_le h1 h2
theorem lI_add (a b : Int) : lI a + lI b = lI (a + b) := (Int64.ofInt_add a b).symm
theorem lI_sub (a b : Int) : lI a - lI b = lI (a - b) := (Int64.ofInt_sub a b).symm
theorem lI_mul (a b : Int) : lI a * lI b = lI (a * b) := (Int64.ofInt_mul a b).symm
theorem toInt64_lI (x : Int32) : x.toInt64 = lI x.toInt := by
  have h := toInt_rng x
  apply Int64.toInt_inj.mp
  rw [Int32.toInt_toInt64, lI_toInt (by omega) (by omega)]
theorem lI_inj {a b : Int} (h : lI a = lI b) (ha : -9223372036854775808 ≤ a ∧ a < 9223372036854775808) (hb : -9223372036854775808 ≤ b ∧ b < 9223372036854775808) : a = b := by
  have h2 := congrArg Int64.toInt h
  rw [lI_toInt ha.1 ha.2, lI_toInt hb.1 hb.2] at h2
  exact h2
theorem codeI_lI {t : Nat → Nat} {p : Nat} : ∀ n, (∀ i, i < n → lett (t (p + i))) → codeI t p n = lI (codeN t p n)
  | 0, _ => rfl
  | n + 1, h => by
    have g := h n (Nat.lt_succ_self n)
    unfold lett at g
    show 32 * codeI t p n + (iI (sg (t (p + n)))).toInt64 - 96 = lI ((32 * codeN t p n + (t (p + n) - 96) : Nat) : Int)
    rw [codeI_lI n (fun i hi => h i (Nat.lt_succ_of_lt hi)), toInt64_lI, show sg (t (p + n)) = ((t (p + n) : Nat) : Int) from by unfold sg; rw [if_pos (by omega)], iI_toInt (by omega) (by omega),
      show (32 : Int64) = lI 32 from rfl, show (96 : Int64) = lI 96 from rfl, lI_mul, lI_add, lI_sub]
    congr 1
    omega
theorem codeN_lt {t : Nat → Nat} {p : Nat} : ∀ n, (∀ i, i < n → lett (t (p + i))) → codeN t p n < 32 ^ n
  | 0, _ => by show 0 < 1; omega
  | n + 1, h => by
    have g := h n (Nat.lt_succ_self n)
    unfold lett at g
    have h2 := codeN_lt n (fun i hi => h i (Nat.lt_succ_of_lt hi))
    show 32 * codeN t p n + (t (p + n) - 96) < 32 ^ (n + 1)
    rw [Nat.pow_succ]
    omega
/-- a list as a row of bytes -/
def lF (W : List Nat) (i : Nat) : Nat := W.getD i 0
def wordT (W : List Nat) (t : Nat → Nat) (L p : Nat) : Prop := kdT t L p = 1 ∧ endT t L p - p = W.length ∧ ∀ i, i < W.length → t (p + i) = lF W i
def okW (W : List Nat) (c : Int64) : Prop := W.length ≤ 6 ∧ (∀ i, i < W.length → lett (lF W (0 + i))) ∧ c = lI (codeN (lF W) 0 W.length)
def wFIELD : List Nat := [102, 105, 101, 108, 100]
def wZONE : List Nat := [122, 111, 110, 101]
def wCOLOUR : List Nat := [99, 111, 108, 111, 117, 114]
def wKITE : List Nat := [107, 105, 116, 101]
def wLAUNCH : List Nat := [108, 97, 117, 110, 99, 104]
def wLAND : List Nat := [108, 97, 110, 100]
def wHOURS : List Nat := [104, 111, 117, 114, 115]
def wPERMIT : List Nat := [112, 101, 114, 109, 105, 116]
def wCANCEL : List Nat := [99, 97, 110, 99, 101, 108]
def wTIE : List Nat := [116, 105, 101]
def wREPAIR : List Nat := [114, 101, 112, 97, 105, 114]
def wPAY : List Nat := [112, 97, 121]
theorem lett_all {W : List Nat} (h : W.all (fun n => decide (97 ≤ n) && decide (n ≤ 122)) = true) : ∀ i, i < W.length → lett (lF W (0 + i)) := by
  intro i hi
  rw [Nat.zero_add]
  unfold lF lett
  have e : W.getD i 0 = W[i] := by rw [List.getD_eq_getElem?_getD, List.getElem?_eq_getElem hi]; rfl
  rw [e]
  have h2 := List.all_eq_true.mp h W[i] (List.getElem_mem hi)
  simpa using h2
theorem okW_FIELD : okW wFIELD 6591876 := ⟨by decide, lett_all (by decide), rfl⟩
theorem okW_ZONE : okW wZONE 867781 := ⟨by decide, lett_all (by decide), rfl⟩
theorem okW_COLOUR : okW wCOLOUR 116801202 := ⟨by decide, lett_all (by decide), rfl⟩
theorem okW_KITE : okW wKITE 370309 := ⟨by decide, lett_all (by decide), rfl⟩
theorem okW_LAUNCH : okW wLAUNCH 404404328 := ⟨by decide, lett_all (by decide), rfl⟩
theorem okW_LAND : okW wLAND 394692 := ⟨by decide, lett_all (by decide), rfl⟩
theorem okW_HOURS : okW wHOURS 8902227 := ⟨by decide, lett_all (by decide), rfl⟩
theorem okW_PERMIT : okW wPERMIT 542717236 := ⟨by decide, lett_all (by decide), rfl⟩
theorem okW_CANCEL : okW wCANCEL 102173868 := ⟨by decide, lett_all (by decide), rfl⟩
theorem okW_TIE : okW wTIE 20773 := ⟨by decide, lett_all (by decide), rfl⟩
theorem okW_REPAIR : okW wREPAIR 609748274 := ⟨by decide, lett_all (by decide), rfl⟩
theorem okW_PAY : okW wPAY 16441 := ⟨by decide, lett_all (by decide), rfl⟩
theorem word_code {W : List Nat} {c : Int64} (hW : okW W c) {t : Nat → Nat} {L p : Nat} (hk : kdT t L p = 1) (h8 : endT t L p - p < 8) : codeI t p (min (endT t L p - p) 7) = c ↔ wordT W t L p := by
  have h0 := kdT_ne1 hk
  have he := endT_1 h0.1 h0.2
  have hl : ∀ i, i < endT t L p - p → lett (t (p + i)) := fun i hi => by
    rw [he] at hi
    exact run_in (P := lett) (L := L) (L - p) p (p + i) (by omega) (by unfold run at hi; omega)
  obtain ⟨hw1, hw2, rfl⟩ := hW
  have hb1 := codeN_lt _ hl
  have hb2 := codeN_lt _ hw2
  have p7 : ∀ n, n ≤ 7 → 32 ^ n ≤ 34359738368 := fun n hn => Nat.le_trans (Nat.pow_le_pow_right (by decide) hn) (by decide)
  have q1 := p7 (endT t L p - p) (by omega)
  have q2 := p7 W.length (by omega)
  rw [show min (endT t L p - p) 7 = endT t L p - p by omega, codeI_lI _ hl]
  constructor
  · intro h
    have h2 := lI_inj h (by omega) (by omega)
    have h3 := codeN_inj _ _ hl hw2 (by omega)
    exact ⟨hk, h3.1, fun i hi => by have := h3.2 i (by omega); rw [Nat.zero_add] at this; exact this⟩
  · rintro ⟨-, h2, h3⟩
    have h4 : codeN t p (endT t L p - p) = codeN (lF W) 0 W.length := by
      rw [h2]
      have : ∀ n, n ≤ W.length → codeN t p n = codeN (lF W) 0 n := by
        intro n
        induction n with
        | zero => intro _; rfl
        | succ n ih =>
          intro hn
          show 32 * codeN t p n + (t (p + n) - 96) = 32 * codeN (lF W) 0 n + (lF W (0 + n) - 96)
          rw [ih (by omega), h3 n (by omega), Nat.zero_add]
      exact this _ (Nat.le_refl _)
    rw [h4]
/-! what a longer reading changes: the numbers and the commands too; what an error changes -/
def PGx (o c j : Nat) : Prop := PFx o c j ∨ (o = 13 ∧ (c = 6 ∨ c = 7)) ∨ (o = 13 ∧ c = 0 ∧ j = 14)
def PG (σ σ' : Mem) : Prop := (∀ o c j, ¬ PGx o c j → rd σ' o c j = rd σ o c j) ∧ ∀ j, 1 ≤ j → rdL σ' j = rdL σ j
theorem PG_rf {σ : Mem} : PG σ σ := ⟨fun _ _ _ _ => rfl, fun _ _ => rfl⟩
theorem PG_tr {a b c : Mem} (h1 : PG a b) (h2 : PG b c) : PG a c := ⟨fun o d j h => (h2.1 o d j h).trans (h1.1 o d j h), fun j h => (h2.2 j h).trans (h1.2 j h)⟩
theorem PG_of {a b : Mem} (h : PF a b) : PG a b := ⟨fun o c j q => h.1 o c j (fun z => q (Or.inl z)), h.2⟩
theorem PG_wr {σ : Mem} {o c j : Nat} {v : Int32} (h : PGx o c j) : PG σ (wr σ o c j v) := ⟨fun a b d hn => by rw [rd_wr, if_neg (fun q => hn (by rw [q.1, q.2.1, q.2.2]; exact h))], fun _ _ => rfl⟩
theorem PG_setA {a b : Mem} {A : Nat → Int32} (h : PG a b) : PG (setA a A) (setA b A) := ⟨fun o c j q => by
  unfold setA
  rw [rd_wrC, rd_wrC]
  split
  · rfl
  · exact h.1 o c j q, h.2⟩
def PEx (o c j : Nat) : Prop := PGx o c j ∨ (o = 13 ∧ c = 0 ∧ (j = 7 ∨ j = 8))
def PRx (o c j : Nat) : Prop := PEx o c j ∨ (o = 13 ∧ c = 1)
/-- a reading that failed: the code and the position -/
def PE (σ σ' : Mem) (e : Nat × Nat) : Prop := (∀ o c j, ¬ PEx o c j → rd σ' o c j = rd σ o c j) ∧ (∀ j, 1 ≤ j → rdL σ' j = rdL σ j) ∧ rd σ' 13 0 7 = nI e.1 ∧ rd σ' 13 0 8 = nI e.2
theorem PE_tr {a b c : Mem} {e : Nat × Nat} (h1 : PG a b) (h2 : PE b c e) : PE a c e := ⟨fun o d j h => (h2.1 o d j h).trans (h1.1 o d j (fun q => h (Or.inl q))), fun j h => (h2.2.1 j h).trans (h1.2 j h), h2.2.2⟩
/-- so too, and the row may have changed -/
def PR (σ σ' : Mem) (e : Nat × Nat) : Prop := (∀ o c j, ¬ PRx o c j → rd σ' o c j = rd σ o c j) ∧ (∀ j, 1 ≤ j → rdL σ' j = rdL σ j) ∧ rd σ' 13 0 7 = nI e.1 ∧ rd σ' 13 0 8 = nI e.2
theorem PR_of {a b : Mem} {e : Nat × Nat} (h : PE a b e) : PR a b e := ⟨fun o c j q => h.1 o c j (fun z => q (Or.inl z)), h.2⟩
theorem PR_tr {a b c : Mem} {e : Nat × Nat} (h1 : PG a b) (h2 : PR b c e) : PR a c e := ⟨fun o d j h => (h2.1 o d j h).trans (h1.1 o d j (fun q => h (Or.inl (Or.inl q)))), fun j h => (h2.2.1 j h).trans (h1.2 j h), h2.2.2⟩
theorem PR_setA {a b : Mem} {A : Nat → Int32} {e : Nat × Nat} (h2 : PR (setA a A) b e) : PR a b e := ⟨fun o d j h => (h2.1 o d j h).trans (by
  unfold setA
  rw [rd_wrC, if_neg (fun q => h (Or.inr q))]), fun j h => h2.2.1 j h, h2.2.2⟩
theorem PE_setA {a b : Mem} {A : Nat → Int32} {e : Nat × Nat} (h2 : PE (setA a A) b e) : PR a b e := PR_setA (PR_of h2)
theorem PE_1 {a b : Mem} {e : Nat × Nat} (h : PE a b e) : rd b 13 1 = rd a 13 1 := funext fun j => h.1 13 1 j (by unfold PEx PGx PFx; omega)
theorem TX_PG {σ σ' : Mem} {t : Nat → Nat} {L : Nat} (h : TX σ t L) (hp : PG σ σ') : TX σ' t L :=
  ⟨fun j hj => ⟨(h.1 j hj).1, (hp.1 13 4 j (by unfold PGx PFx; omega)).trans (h.1 j hj).2⟩, (hp.1 13 0 6 (by unfold PGx PFx; omega)).trans h.2.1, h.2.2⟩
theorem TX_setA {σ : Mem} {A : Nat → Int32} {t : Nat → Nat} {L : Nat} (h : TX σ t L) : TX (setA σ A) t L :=
  ⟨fun j hj => ⟨(h.1 j hj).1, (congrFun (rd_setA_ne (by decide)) j).trans (h.1 j hj).2⟩, (congrFun (rd_setA_ne (by decide)) 6).trans h.2.1, h.2.2⟩
theorem PG_1 {σ σ' : Mem} (h : PG σ σ') : rd σ' 13 1 = rd σ 13 1 := funext fun j => h.1 13 1 j (by unfold PGx PFx; omega)
theorem PF_7 {σ σ' : Mem} (h : PF σ σ') : rd σ' 13 7 = rd σ 13 7 := funext fun j => h.1 13 7 j (by unfold PFx; omega)
theorem PF_6 {σ σ' : Mem} (h : PF σ σ') : rd σ' 13 6 = rd σ 13 6 := funext fun j => h.1 13 6 j (by unfold PFx; omega)
/-! the grammar's small pieces: a fault (code, position), or where it goes on and what was read -/
noncomputable def pNum (t : Nat → Nat) (L lo hi a : Nat) : (Nat × Nat) ⊕ (Nat × Nat) :=
  if kdT t L (skip t L a) = 2 then (if lo ≤ numT t L (skip t L a) ∧ numT t L (skip t L a) ≤ hi then .inr (endT t L (skip t L a), numT t L (skip t L a)) else .inl (2, skip t L a)) else .inl (1, skip t L a)
noncomputable def pEnd (t : Nat → Nat) (L a : Nat) : (Nat × Nat) ⊕ Nat :=
  if kdT t L (skip t L a) = 3 then .inr (endT t L (skip t L a)) else .inl (1, skip t L a)
theorem pNum_1 {t : Nat → Nat} {L lo hi a : Nat} (h : ¬ kdT t L (skip t L a) = 2) : pNum t L lo hi a = .inl (1, skip t L a) := if_neg h
theorem pNum_2 {t : Nat → Nat} {L lo hi a : Nat} (h : kdT t L (skip t L a) = 2) (h2 : ¬ (lo ≤ numT t L (skip t L a) ∧ numT t L (skip t L a) ≤ hi)) : pNum t L lo hi a = .inl (2, skip t L a) := by unfold pNum; rw [if_pos h, if_neg h2]
theorem pNum_3 {t : Nat → Nat} {L lo hi a : Nat} (h : kdT t L (skip t L a) = 2) (h2 : lo ≤ numT t L (skip t L a) ∧ numT t L (skip t L a) ≤ hi) : pNum t L lo hi a = .inr (endT t L (skip t L a), numT t L (skip t L a)) := by unfold pNum; rw [if_pos h, if_pos h2]
theorem pEnd_1 {t : Nat → Nat} {L a : Nat} (h : ¬ kdT t L (skip t L a) = 3) : pEnd t L a = .inl (1, skip t L a) := if_neg h
theorem pEnd_2 {t : Nat → Nat} {L a : Nat} (h : kdT t L (skip t L a) = 3) : pEnd t L a = .inr (endT t L (skip t L a)) := if_pos h
theorem lg_cmp_0 {x y : Int64} : lg_cmp x y = 0 ↔ x = y := by
  unfold lg_cmp
  split
  · next h =>
    constructor
    · intro q; exact absurd q (by decide)
    · intro q; subst q; exact absurd h Int64.lt_irrefl
  · split
    · next h => exact ⟨fun _ => h, fun _ => rfl⟩
    · next h => exact ⟨fun q => absurd q (by decide), fun q => absurd q h⟩
