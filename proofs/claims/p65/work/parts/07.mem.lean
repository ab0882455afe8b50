/-! ===== the memory: numbers by office (0 to 11; 12: the face's own, 13: the reference's), cell and place ===== -/
abbrev Mem : Type := (Nat → Nat → Nat → Int32) × (Nat → Int64)
/-- where the cells lie: which are there, their addresses, what their reference fields and places hold -/
abbrev Lay : Type := List (Nat × Nat) × (Nat → Nat → Nat) × (Nat → Nat → Nat → Option Nat)
/-- what stays for a whole run: the launch, the classes' numbers, the array classes', the heap's size at the start, addresses of statics and texts -/
abbrev GC : Type := Launch × va_G × (Nat → ClassId) × Nat × (Nat → Nat)
def rd (σ : Mem) (o c j : Nat) : Int32 := σ.1 o c j
def rdL (σ : Mem) (j : Nat) : Int64 := σ.2 j
def wr (σ : Mem) (o c j : Nat) (v : Int32) : Mem := (fun a b d => if a = o ∧ b = c ∧ d = j then v else σ.1 a b d, σ.2)
def wrL (σ : Mem) (j : Nat) (v : Int64) : Mem := (σ.1, fun d => if d = j then v else σ.2 d)
/-- a whole cell gets new contents -/
def wrC (σ : Mem) (o c : Nat) (f : Nat → Int32) : Mem := (fun a b d => if a = o ∧ b = c then f d else σ.1 a b d, σ.2)
theorem rd_wr {σ : Mem} {o c j : Nat} {v : Int32} {a b d : Nat} : rd (wr σ o c j v) a b d = if a = o ∧ b = c ∧ d = j then v else rd σ a b d := rfl
theorem rd_wr_s {σ : Mem} {o c j : Nat} {v : Int32} : rd (wr σ o c j v) o c j = v := by rw [rd_wr, if_pos ⟨rfl, rfl, rfl⟩]
theorem rd_wr_o {σ : Mem} {o c j : Nat} {v : Int32} {a b d : Nat} (h : a ≠ o) : rd (wr σ o c j v) a b d = rd σ a b d := by rw [rd_wr, if_neg (fun q => h q.1)]
theorem rd_wr_c {σ : Mem} {o c j : Nat} {v : Int32} {a b d : Nat} (h : b ≠ c) : rd (wr σ o c j v) a b d = rd σ a b d := by rw [rd_wr, if_neg (fun q => h q.2.1)]
theorem rd_wr_j {σ : Mem} {o c j : Nat} {v : Int32} {a b d : Nat} (h : d ≠ j) : rd (wr σ o c j v) a b d = rd σ a b d := by rw [rd_wr, if_neg (fun q => h q.2.2)]
theorem rd_wrL {σ : Mem} {j : Nat} {v : Int64} {a b d : Nat} : rd (wrL σ j v) a b d = rd σ a b d := rfl
theorem rdL_wr {σ : Mem} {o c j : Nat} {v : Int32} {d : Nat} : rdL (wr σ o c j v) d = rdL σ d := rfl
theorem rdL_wrC {σ : Mem} {o c : Nat} {f : Nat → Int32} {d : Nat} : rdL (wrC σ o c f) d = rdL σ d := rfl
theorem rdL_wrL {σ : Mem} {j : Nat} {v : Int64} {d : Nat} : rdL (wrL σ j v) d = if d = j then v else rdL σ d := rfl
theorem rd_wrC {σ : Mem} {o c : Nat} {f : Nat → Int32} {a b d : Nat} : rd (wrC σ o c f) a b d = if a = o ∧ b = c then f d else rd σ a b d := rfl
theorem rd_wrC_s {σ : Mem} {o c : Nat} {f : Nat → Int32} {d : Nat} : rd (wrC σ o c f) o c d = f d := by rw [rd_wrC, if_pos ⟨rfl, rfl⟩]
theorem rd_wrC_o {σ : Mem} {o c : Nat} {f : Nat → Int32} {a b d : Nat} (h : a ≠ o) : rd (wrC σ o c f) a b d = rd σ a b d := by rw [rd_wrC, if_neg (fun q => h q.1)]
theorem rd_wrC_c {σ : Mem} {o c : Nat} {f : Nat → Int32} {a b d : Nat} (h : b ≠ c) : rd (wrC σ o c f) a b d = rd σ a b d := by rw [rd_wrC, if_neg (fun q => h q.2)]
/-- the kinds of the cells: (5, class), (0, ints), (1, booleans), (2, bytes), (3, longs), (4, offices) -/
def kdO (c : Nat) : Nat × Nat := match c with
  | 0 => (5, 4) | 1 => (5, 0) | 2 => (0, 4) | 3 => (0, 24) | 4 => (0, 24) | 5 => (0, 6) | 6 => (5, 1)
  | 17 => (5, 6) | 18 => (0, 30) | 19 => (0, 30) | 20 => (0, 30) | 21 => (1, 16) | _ => (0, 16)
def kdK (c : Nat) : Nat × Nat := match c with
  | 0 => (5, 8) | 1 => (5, 2) | 2 => (4, 8) | 3 => (4, 2) | 4 => (1, 2) | 5 => (5, 3) | 6 => (0, 500) | 7 => (5, 7) | 12 => (5, 5) | 13 => (0, 390) | _ => (0, 20)
def kdM (c : Nat) : Nat × Nat := match c with
  | 0 => (5, 9) | 1 => (0, 304) | 2 => (0, 3648) | 3 => (1, 2) | 4 => (2, 500) | 5 => (2, 420) | 6 => (0, 20) | 7 => (0, 60) | 8 => (1, 16) | _ => (3, 1)
def kd (o c : Nat) : Nat × Nat := if o < 12 then kdO c else if o = 12 then kdK c else if o = 13 then kdM c else (0, 0)
theorem kd_o {o c : Nat} (h : o < 12) : kd o c = kdO c := if_pos h
/-- the kinds of a class's fields: 0 a number, 1 a reference, 2 a long -/
def fk (ci : Nat) : List Nat := match ci with
  | 0 => [0, 0, 0, 0, 0, 1, 1, 1, 0, 1]
  | 1 => [0, 0, 1, 1, 1, 1, 1, 1, 1, 1, 1, 1]
  | 2 => [1, 0, 0]
  | 3 => [1, 0, 0, 0, 0, 0, 0, 0]
  | 4 => [1, 1, 1, 0, 0, 0, 1]
  | 5 => [1, 0]
  | 6 => [0, 1, 1, 1]
  | 7 => [0, 1, 1, 1, 1]
  | 8 => [1, 1, 1, 1, 1, 1, 1, 1]
  | _ => [1, 1, 1, 0, 0, 1, 0, 0, 0, 0, 1, 0, 1, 1, 0, 1, 0, 0, 0, 0, 2]
def fval (w : Lay) (σ : Mem) (o c k j : Nat) : Value := if k = 0 then .int (rd σ o c j) else if k = 1 then va_rf (w.2.2 o c j) else .long (rdL σ 0)
def fvals (w : Lay) (σ : Mem) (o c : Nat) (ks : List Nat) : List Value := ks.zipIdx.map (fun q => fval w σ o c q.1 q.2)
def enc (G : GC) (w : Lay) (σ : Mem) (o c : Nat) : va_E :=
  if (kd o c).1 = 5 then .inr ((kd o c).2, fvals w σ o c (fk (kd o c).2))
  else if (kd o c).1 = 3 then .inl (G.2.2.1 3, (kd o c).2, .inr (.inl (fun j => rdL σ (1 + j))))
  else if (kd o c).1 = 4 then .inl (G.2.2.1 4, (kd o c).2, .inr (.inr (.inr (.inr (w.2.2 o c)))))
  else .inl (G.2.2.1 (kd o c).1, (kd o c).2, .inl (rd σ o c))
def wsOf (G : GC) (w : Lay) (σ : Mem) : va_W := w.1.map (fun q => (w.2.1 q.1 q.2, enc G w σ q.1 q.2))
theorem enc_obj {G : GC} {w : Lay} {σ : Mem} {o c ci : Nat} (h : kd o c = (5, ci)) : enc G w σ o c = .inr (ci, fvals w σ o c (fk ci)) := by
  unfold enc; rw [h]; rfl
theorem enc_int {G : GC} {w : Lay} {σ : Mem} {o c n : Nat} (h : kd o c = (0, n)) : enc G w σ o c = .inl (G.2.2.1 0, n, .inl (rd σ o c)) := by
  unfold enc; rw [h]; rfl
theorem enc_bool {G : GC} {w : Lay} {σ : Mem} {o c n : Nat} (h : kd o c = (1, n)) : enc G w σ o c = .inl (G.2.2.1 1, n, .inl (rd σ o c)) := by
  unfold enc; rw [h]; rfl
theorem enc_byte {G : GC} {w : Lay} {σ : Mem} {o c n : Nat} (h : kd o c = (2, n)) : enc G w σ o c = .inl (G.2.2.1 2, n, .inl (rd σ o c)) := by
  unfold enc; rw [h]; rfl
theorem enc_long {G : GC} {w : Lay} {σ : Mem} {o c n : Nat} (h : kd o c = (3, n)) : enc G w σ o c = .inl (G.2.2.1 3, n, .inr (.inl (fun j => rdL σ (1 + j)))) := by
  unfold enc; rw [h]; rfl
theorem enc_refs {G : GC} {w : Lay} {σ : Mem} {o c n : Nat} (h : kd o c = (4, n)) : enc G w σ o c = .inl (G.2.2.1 4, n, .inr (.inr (.inr (.inr (w.2.2 o c))))) := by
  unfold enc; rw [h]; rfl
theorem ws_get {G : GC} {w : Lay} {σ : Mem} {o c : Nat} (h : (o, c) ∈ w.1) : ∃ p : Nat, (wsOf G w σ)[p]? = some (w.2.1 o c, enc G w σ o c) ∧ w.1[p]? = some (o, c) := by
  obtain ⟨p, hp⟩ := List.getElem?_of_mem h
  exact ⟨p, by unfold wsOf; rw [List.getElem?_map, hp]; rfl, hp⟩
theorem ws_set {G : GC} {w : Lay} {σ σ' : Mem} {A : Nat → Prop} {o c p : Nat} {e : va_E} (hD : va_D A (wsOf G w σ)) (hp : w.1[p]? = some (o, c)) (he : enc G w σ' o c = e) (ho : ∀ a b, ¬ (a = o ∧ b = c) → enc G w σ' a b = enc G w σ a b) :
    (wsOf G w σ).set p (w.2.1 o c, e) = wsOf G w σ' := by
  have hpw : (wsOf G w σ)[p]? = some (w.2.1 o c, enc G w σ o c) := by unfold wsOf; rw [List.getElem?_map, hp]; rfl
  have hl : p < (wsOf G w σ).length := (List.getElem?_eq_some_iff.mp hpw).1
  apply List.ext_getElem?
  intro i
  by_cases hi : i = p
  · subst hi
    rw [List.getElem?_set_self hl]
    unfold wsOf
    rw [List.getElem?_map, hp]
    show _ = some (w.2.1 o c, enc G w σ' o c)
    rw [he]
  · rw [List.getElem?_set_ne (Ne.symm hi)]
    unfold wsOf
    rw [List.getElem?_map, List.getElem?_map]
    cases hq : w.1[i]? with
    | none => rfl
    | some q =>
      obtain ⟨a, b⟩ := q
      show some (w.2.1 a b, enc G w σ a b) = some (w.2.1 a b, enc G w σ' a b)
      rw [ho a b]
      rintro ⟨rfl, rfl⟩
      have hiw : (wsOf G w σ)[i]? = some (w.2.1 a b, enc G w σ a b) := by unfold wsOf; rw [List.getElem?_map, hq]; rfl
      exact hi (hD.1 i p _ _ hiw hpw rfl)
theorem rd_wr_cell {σ : Mem} {o c j : Nat} {v : Int32} {a b : Nat} (h : ¬ (a = o ∧ b = c)) : rd (wr σ o c j v) a b = rd σ a b := by
  funext d
  rw [rd_wr, if_neg (fun q => h ⟨q.1, q.2.1⟩)]
theorem fvals_congr {w : Lay} {σ σ' : Mem} {o c : Nat} {ks : List Nat} (h1 : rd σ' o c = rd σ o c) (h2 : rdL σ' 0 = rdL σ 0) : fvals w σ' o c ks = fvals w σ o c ks := by
  unfold fvals fval
  rw [h1, h2]
theorem enc_congr {G : GC} {w : Lay} {σ σ' : Mem} {o c : Nat} (h1 : rd σ' o c = rd σ o c) (h2 : ∀ j, rdL σ' j = rdL σ j) : enc G w σ' o c = enc G w σ o c := by
  unfold enc
  rw [fvals_congr h1 (h2 0), h1]
  simp only [h2]
theorem enc_wr_ne {G : GC} {w : Lay} {σ : Mem} {o c j : Nat} {v : Int32} {a b : Nat} (h : ¬ (a = o ∧ b = c)) : enc G w (wr σ o c j v) a b = enc G w σ a b := enc_congr (rd_wr_cell h) (fun _ => rdL_wr)
theorem rd_wrC_cell {σ : Mem} {o c : Nat} {f : Nat → Int32} {a b : Nat} (h : ¬ (a = o ∧ b = c)) : rd (wrC σ o c f) a b = rd σ a b := by
  funext d
  rw [rd_wrC, if_neg h]
theorem enc_wrC_ne {G : GC} {w : Lay} {σ : Mem} {o c : Nat} {f : Nat → Int32} {a b : Nat} (h : ¬ (a = o ∧ b = c)) : enc G w (wrC σ o c f) a b = enc G w σ a b := enc_congr (rd_wrC_cell h) (fun _ => rdL_wrC)
theorem rd_wr_upd {σ : Mem} {o c j : Nat} {v : Int32} : rd (wr σ o c j v) o c = upd (rd σ o c) j v := by
  funext d
  rw [rd_wr]
  unfold upd
  by_cases h : d = j
  · rw [if_pos ⟨rfl, rfl, h⟩, if_pos h]
  · rw [if_neg (fun q => h q.2.2), if_neg h]
theorem fvals_get {w : Lay} {σ : Mem} {o c j k : Nat} {ks : List Nat} (h : ks[j]? = some k) : (fvals w σ o c ks)[j]? = some (fval w σ o c k j) := by
  unfold fvals
  rw [List.getElem?_map, List.getElem?_zipIdx, h]
  simp
theorem fvals_len {w : Lay} {σ : Mem} {o c : Nat} {ks : List Nat} : (fvals w σ o c ks).length = ks.length := by
  unfold fvals
  rw [List.length_map, List.length_zipIdx]
theorem fvals_set {w : Lay} {σ : Mem} {o c j : Nat} {v : Int32} {ks : List Nat} (h : ks[j]? = some 0) : fvals w (wr σ o c j v) o c ks = (fvals w σ o c ks).set j (.int v) := by
  have hl : j < (fvals w σ o c ks).length := by rw [fvals_len]; exact (List.getElem?_eq_some_iff.mp h).1
  apply List.ext_getElem?
  intro i
  by_cases hi : i = j
  · subst hi
    rw [List.getElem?_set_self hl, fvals_get h]
    unfold fval
    rw [if_pos rfl, rd_wr_s]
  · rw [List.getElem?_set_ne (Ne.symm hi)]
    cases hk : ks[i]? with
    | none =>
      rw [List.getElem?_eq_none (by rw [fvals_len]; exact List.getElem?_eq_none_iff.mp hk), List.getElem?_eq_none (by rw [fvals_len]; exact List.getElem?_eq_none_iff.mp hk)]
    | some k =>
      rw [fvals_get hk, fvals_get hk]
      unfold fval
      rw [rd_wr_j hi, rdL_wr]
theorem fvals_setL {w : Lay} {σ : Mem} {o c j : Nat} {v : Int64} {ks : List Nat} (h : ks[j]? = some 2) (hu : ∀ i : Nat, ks[i]? = some 2 → i = j) (hk2 : ∀ i k : Nat, ks[i]? = some k → k = 0 ∨ k = 1 ∨ k = 2) : fvals w (wrL σ 0 v) o c ks = (fvals w σ o c ks).set j (.long v) := by
  have hl : j < (fvals w σ o c ks).length := by rw [fvals_len]; exact (List.getElem?_eq_some_iff.mp h).1
  apply List.ext_getElem?
  intro i
  by_cases hi : i = j
  · subst hi
    rw [List.getElem?_set_self hl, fvals_get h]
    unfold fval
    rw [if_neg (by decide), if_neg (by decide), rdL_wrL, if_pos rfl]
  · rw [List.getElem?_set_ne (Ne.symm hi)]
    cases hk : ks[i]? with
    | none =>
      rw [List.getElem?_eq_none (by rw [fvals_len]; exact List.getElem?_eq_none_iff.mp hk), List.getElem?_eq_none (by rw [fvals_len]; exact List.getElem?_eq_none_iff.mp hk)]
    | some k =>
      rw [fvals_get hk, fvals_get hk]
      unfold fval
      rw [rd_wrL]
      rcases hk2 i k hk with rfl | rfl | rfl
      · rw [if_pos rfl, if_pos rfl]
      · rw [if_neg (by decide), if_pos rfl, if_neg (by decide), if_pos rfl]
      · exact absurd (hu i hk) hi
