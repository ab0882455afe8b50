/-! ===== switches; commands that are done ===== -/
theorem J_tableIn {G : GC} {E : Ctx} {cc : ByteArray} {own : String} {nL : Nat} {R0 : Room} {w : Lay} {kc ks pc : Nat} {ls : List (Option Value)} {st : List Value} {σ : Mem} (C : Cx G E cc own nL R0) {x : Int32} {dflt lo hi off : Int} {offs : Array Int} {len tgt : Nat} (hd : decode cc pc = .ok (.tableswitch dflt lo hi offs, len)) (h1 : ¬ x.toInt < lo) (h2 : ¬ hi < x.toInt) (ho : offs[(x.toInt - lo).toNat]? = some off) (ht : (pc : Int) + off = (tgt : Int)) (h : J G E w kc ks tgt ls st σ) : J G E w kc ks pc ls (.int x :: st) σ := by
  obtain ⟨p, e, R, s, m, args, below, meth, c, Q⟩ := E
  intro H locs la g1 g2 g3 g4
  exact lv_tableIn C.1 C.2.1 hd h1 h2 ho ht (h H locs la g1 g2 g3 g4)
theorem J_tableOut {G : GC} {E : Ctx} {cc : ByteArray} {own : String} {nL : Nat} {R0 : Room} {w : Lay} {kc ks pc : Nat} {ls : List (Option Value)} {st : List Value} {σ : Mem} (C : Cx G E cc own nL R0) {x : Int32} {dflt lo hi : Int} {offs : Array Int} {len tgt : Nat} (hd : decode cc pc = .ok (.tableswitch dflt lo hi offs, len)) (h1 : x.toInt < lo ∨ hi < x.toInt) (ht : (pc : Int) + dflt = (tgt : Int)) (h : J G E w kc ks tgt ls st σ) : J G E w kc ks pc ls (.int x :: st) σ := by
  obtain ⟨p, e, R, s, m, args, below, meth, c, Q⟩ := E
  intro H locs la g1 g2 g3 g4
  exact lv_tableOut C.1 C.2.1 hd h1 ht (h H locs la g1 g2 g3 g4)
/-- a command can be done -/
def doOK (A : Rw) (c : Cmd) : Prop := c.1 = 3 ∨ (c.2.1 < nv A 6 ∧ (c.1 = 1 → canL A c.2.1) ∧ (c.1 = 2 → A (70 + 9 * c.2.1 + 6) = nI 1) ∧ (c.1 = 4 → refuse A c.2.1 c.2.2.1 c.2.2.2 = 0) ∧ (c.1 = 6 → A (70 + 9 * c.2.1 + 6) = nI 0) ∧ (c.1 = 7 → canR A c.2.1))
/-- what it does -/
noncomputable def doR (A K : Rw) (c : Cmd) : Rw × Rw :=
  if c.1 = 3 then ((passed c.2.1 (A, K, 0)).1, (passed c.2.1 (A, K, 0)).2.1) else
  (if c.1 = 1 then launchA A c.2.1 else if c.1 = 2 then stateA A c.2.1 0 else if c.1 = 4 then grantA A c.2.1 c.2.2.1 c.2.2.2 else if c.1 = 5 then (cancelR A c.2.1).1 else
    if c.1 = 6 then tieA A c.2.1 c.2.2.1 else if c.1 = 7 then repA A c.2.1 else fundA A c.2.1 (nI c.2.2.1), K)
theorem passed_ok {hm : Nat} {A K : Rw} (h : RowOK hm A) : ∀ (n : Nat), hm + n < 2 ^ 31 → RowOK (hm + n) (passed n (A, K, 0)).1
  | 0, _ => h
  | n + 1, hb => passR_ok (passed_ok h n (by omega)) (by omega)
theorem doR_ok {hm : Nat} {A K : Rw} {c : Cmd} (h : RowOK hm A) (hc : cmdOK c.1 c.2) (h8 : 1 ≤ c.1 ∧ c.1 ≤ 8) (hd : doOK A c) (hb : hm + 48 < 2 ^ 31) : RowOK (hm + 48) (doR A K c).1 := by
  have hk := r_NK h
  obtain ⟨c1, c2, c3, c4, c5⟩ := hc
  unfold doR
  by_cases e3 : c.1 = 3
  · rw [if_pos e3]
    exact RowOK_mono (passed_ok h c.2.1 (by have := c1 e3; omega)) (by have := c1 e3; omega)
  · rw [if_neg e3]
    obtain ⟨d1, d2, d3, d4, d5, d6⟩ := hd.resolve_left e3
    have hk16 : c.2.1 < 16 := by omega
    refine RowOK_mono (hm := hm) ?_ (by omega)
    show RowOK hm (if c.1 = 1 then _ else _)
    by_cases e1 : c.1 = 1
    · rw [if_pos e1]; exact RowOK_launch h hk16
    rw [if_neg e1]
    by_cases e2 : c.1 = 2
    · rw [if_pos e2]; exact RowOK_state h hk16 (by omega)
    rw [if_neg e2]
    by_cases e4 : c.1 = 4
    · rw [if_pos e4]; exact RowOK_grant h d1 (c3 e4).1 (c3 e4).2 (refuse_np h (d4 e4))
    rw [if_neg e4]
    by_cases e5 : c.1 = 5
    · rw [if_pos e5]; exact RowOK_rmF h _ _ _
    rw [if_neg e5]
    by_cases e6 : c.1 = 6
    · rw [if_pos e6]; exact RowOK_tie h hk16 (c4 e6)
    rw [if_neg e6]
    by_cases e7 : c.1 = 7
    · rw [if_pos e7]; exact RowOK_rep h hk16
    rw [if_neg e7]
    exact RowOK_fund h hk16
noncomputable def exN (C : Nat → Cmd) (n : Nat) : Nat → Rw × Rw → Nat → (Rw × Rw) × Nat
  | 0, s, k => (s, k)
  | f + 1, s, k => @ite _ (k < n ∧ doOK s.1 (C k)) (Classical.propDecidable _) (exN C n f (doR s.1 s.2 (C k)) (k + 1)) (s, k)
theorem ex_go {C : Nat → Cmd} {n f k : Nat} {s : Rw × Rw} (hf : 1 ≤ f) (h1 : k < n) (h2 : doOK s.1 (C k)) : exN C n f s k = exN C n (f - 1) (doR s.1 s.2 (C k)) (k + 1) := by
  obtain ⟨g, rfl⟩ : ∃ g, f = g + 1 := ⟨f - 1, by omega⟩
  exact if_pos ⟨h1, h2⟩
theorem ex_end {C : Nat → Cmd} {n f k : Nat} {s : Rw × Rw} (h : ¬ (k < n ∧ doOK s.1 (C k))) : exN C n f s k = (s, k) := by
  cases f with
  | zero => rfl
  | succ g => exact if_neg h
theorem setA_K {σ : Mem} {B : Rw} : setA σ B = setAK σ B (rd σ 13 8) := by
  have h := setA_AK (σ := σ) (A := rd σ 13 1) (K := rd σ 13 8) (B := B)
  rw [AK_id] at h
  exact h
theorem KEEP_AK {σ : Mem} {A K : Rw} : KEEP σ (setAK σ A K) := ⟨fun o c i h => congrFun (rd_AK_ne (by omega) (by omega)) i, fun i => congrFun (rd_AK_ne (by decide) (by decide)) i, fun i => congrFun (rd_AK_ne (by decide) (by decide)) i, congrFun (rd_AK_ne (by decide) (by decide)) 11, fun _ _ => rfl⟩
theorem rowOf_AK {σ : Mem} {A K : Rw} : rowOf (setAK σ A K) = rowOf σ := funext fun r => funext fun i => congrFun (rd_AK_ne (by decide) (by decide)) _
theorem run_ok {σ τ : Mem} {f u : Nat} (hr : ringOK σ f u) (hG : PG (wr (thr σ 0) 13 0 16 (nI 0)) τ) :
    ringOK (wr (wr (wr τ 13 0 6 (nI 0)) 13 0 7 (nI 0)) 13 0 8 (-1)) f u ∧ rd (actM (wr (wr (wr τ 13 0 6 (nI 0)) 13 0 7 (nI 0)) 13 0 8 (-1)) f u) 13 1 = rd σ 13 1 ∧ rd (actM (wr (wr (wr τ 13 0 6 (nI 0)) 13 0 7 (nI 0)) 13 0 8 (-1)) f u) 13 8 = rd σ 13 8 ∧
    ∀ A' K', LSok σ (setAK (actM (wr (wr (wr τ 13 0 6 (nI 0)) 13 0 7 (nI 0)) 13 0 8 (-1)) f u) A' K') A' f u := by
  have z0 : ∀ j, j ≠ 16 → j ≠ 17 → j ≠ 18 → j ≠ 19 → j ≠ 14 → j ≠ 9 → rd τ 13 0 j = rd σ 13 0 j := fun j a b c d e g => by
    rw [hG.1 13 0 j (by unfold PGx PFx; omega), rd_wr_j a]
    exact rd_wr_j g
  have z9 : rd τ 13 0 9 = nI 0 := by
    rw [hG.1 13 0 9 (by unfold PGx PFx; omega), rd_wr_j (by decide)]
    exact rd_wr_s
  have r0 : rowOf τ = rowOf σ := by
    rw [rowOf_PG hG, rowOf_wr (by decide)]
    exact rowOf_wr (by decide)
  have r1 : rd τ 13 1 = rd σ 13 1 := by
    rw [PG_1 hG, rd_wr_cell (by decide)]
    exact rd_thr1
  have r8 : rd τ 13 8 = rd σ 13 8 := by
    have : rd τ 13 8 = rd (wr (thr σ 0) 13 0 16 (nI 0)) 13 8 := funext fun j => hG.1 13 8 j (by unfold PGx PFx; omega)
    rw [this, rd_wr_cell (by decide)]
    exact rd_thr8
  have q : ringOK (wr (wr (wr τ 13 0 6 (nI 0)) 13 0 7 (nI 0)) 13 0 8 (-1)) f u := ring_0 hr (by rw [rd_wr_j (by decide), rd_wr_j (by decide), rd_wr_j (by decide)]; exact z0 3 (by decide) (by decide) (by decide) (by decide) (by decide) (by decide)) (by rw [rd_wr_j (by decide), rd_wr_j (by decide), rd_wr_j (by decide)]; exact z0 4 (by decide) (by decide) (by decide) (by decide) (by decide) (by decide))
  refine ⟨q, ?_, ?_, fun A' K' => ⟨fun j hj => congrFun rd_AK_A j, ?_, fun j hj => ?_, fun r j hr2 hj hne => ?_, ?_, ?_, ?_, ?_, ?_⟩⟩
  · rw [rd_act1, rd_wr_cell (by decide), rd_wr_cell (by decide), rd_wr_cell (by decide), r1]
  · rw [rd_act8, rd_wr_cell (by decide), rd_wr_cell (by decide), rd_wr_cell (by decide), r8]
  · exact ring_0 (ring_act q) (by rw [rd_AK_ne (by decide) (by decide)]) (by rw [rd_AK_ne (by decide) (by decide)])
  · rw [rowOf_AK, rowOf_actE hj, rd_wr_c (by decide), rd_wr_c (by decide), rd_wr_c (by decide), r1]
  · rw [rowOf_AK, rowOf_actN hj hne, rowOf_wr (by decide), rowOf_wr (by decide), rowOf_wr (by decide), r0]
  · rw [rd_AK_ne (by decide) (by decide), rd_actM0 (by decide) (by decide), rd_wr_j (by decide), rd_wr_j (by decide)]
    exact rd_wr_s
  · rw [rd_AK_ne (by decide) (by decide), rd_actM0 (by decide) (by decide), rd_wr_j (by decide)]
    exact rd_wr_s
  · rw [rd_AK_ne (by decide) (by decide), rd_actM0 (by decide) (by decide)]
    exact rd_wr_s
  · rw [rd_AK_ne (by decide) (by decide), rd_actM0 (by decide) (by decide), rd_wr_j (by decide), rd_wr_j (by decide), rd_wr_j (by decide)]
    exact z9
  · exact KEEP_tr (KEEP_tr (KEEP_tr (KEEP_tr (KEEP_tr (KEEP_tr (KEEP_tr (KEEP_wr (by decide)) (KEEP_wr (by decide))) (KEEP_PG hG)) (KEEP_wr (by decide))) (KEEP_wr (by decide))) (KEEP_wr (by decide))) KEEP_act) KEEP_AK
theorem run_no {σ τ : Mem} {e : Nat × Nat} {f u : Nat} (hr : ringOK σ f u) (hE : PE (wr (thr σ 0) 13 0 16 (nI 0)) τ e)   : LSno σ (thr (wr τ 13 0 6 (nI 0)) 1) e f u := by
  have z0 : ∀ j, j ≠ 16 → j ≠ 17 → j ≠ 18 → j ≠ 19 → j ≠ 14 → j ≠ 9 → j ≠ 7 → j ≠ 8 → rd τ 13 0 j = rd σ 13 0 j := fun j a b c d e g h i => by
    rw [hE.1 13 0 j (by unfold PEx PGx PFx; omega), rd_wr_j a]
    exact rd_wr_j g
  unfold thr
  refine ⟨fun j hj => ?_, ?_, fun r j hr2 hj => ?_, ?_, ?_, ?_, rd_wr_s, ?_⟩
  · rw [rd_wr_c (by decide), rd_wr_c (by decide), PE_1 hE, rd_wr_c (by decide)]
    exact congrFun rd_thr1 j
  · exact ring_0 hr (by rw [rd_wr_j (by decide), rd_wr_j (by decide)]; exact z0 3 (by decide) (by decide) (by decide) (by decide) (by decide) (by decide) (by decide) (by decide)) (by rw [rd_wr_j (by decide), rd_wr_j (by decide)]; exact z0 4 (by decide) (by decide) (by decide) (by decide) (by decide) (by decide) (by decide) (by decide))
  · rw [rowOf_wr (by decide), rowOf_wr (by decide), rowOf_PE (PR_of hE), rowOf_wr (by decide)]
    exact congrFun (congrFun (rowOf_wr (by decide)) r) j
  · rw [rd_wr_j (by decide)]
    exact rd_wr_s
  · rw [rd_wr_j (by decide), rd_wr_j (by decide)]
    exact hE.2.2.1
  · rw [rd_wr_j (by decide), rd_wr_j (by decide)]
    exact hE.2.2.2
  · exact KEEP_tr (KEEP_tr (KEEP_tr (KEEP_tr (KEEP_wr (by decide)) (KEEP_wr (by decide))) (KEEP_PE (PR_of hE))) (KEEP_wr (by decide))) (KEEP_wr (by decide))
