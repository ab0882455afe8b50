/-! ===== the relation of the class's memory and the reference's ===== -/
theorem RowOK_ext {hm : Nat} {A B : Rw} (e : ∀ j, j < 304 → B j = A j) (h : RowOK hm A) : RowOK hm B := by
  have nn : ∀ j, j < 304 → nv B j = nv A j := fun j hj => by unfold nv; rw [e j hj]
  have ii : ∀ j a b, j < 304 → isN A j a b → isN B j a b := fun j a b hj q => by unfold isN at q ⊢; rw [nn j hj, e j hj]; exact q
  obtain ⟨h0, h1, h2, h3, h4, h5, h6, h7, h11, hz, hc, hk, hp⟩ := h
  refine ⟨ii _ _ _ (by omega) h0, ii _ _ _ (by omega) h1, ii _ _ _ (by omega) h2, ii _ _ _ (by omega) h3, ii _ _ _ (by omega) h4, ii _ _ _ (by omega) h5, ii _ _ _ (by omega) h6, ii _ _ _ (by omega) h7, ii _ _ _ (by omega) h11, fun z hz' => ?_, fun c hc' => ?_, fun k hk' => ?_, fun p hp' => ?_⟩
  · rw [nn 4 (by omega)] at hz'
    have b4 := h4.2.2
    have q := hz z hz'
    have b6 := q.1.2.2
    refine ⟨ii _ _ _ (by omega) q.1, fun j hj => ?_⟩
    rw [nn _ (by omega)] at hj
    exact ⟨ii _ _ _ (by omega) (q.2 j hj).1, ii _ _ _ (by omega) (q.2 j hj).2⟩
  · rw [nn 5 (by omega)] at hc'
    have b5 := h5.2.2
    exact ii _ _ _ (by omega) (hc c hc')
  · rw [nn 6 (by omega)] at hk'
    have b6 := h6.2.2
    have q := hk k hk'
    rw [nn 0 (by omega), nn 1 (by omega), nn 5 (by omega)]
    exact ⟨ii _ _ _ (by omega) q.1, ii _ _ _ (by omega) q.2.1, ii _ _ _ (by omega) q.2.2.1, ii _ _ _ (by omega) q.2.2.2.1, ii _ _ _ (by omega) q.2.2.2.2.1, ii _ _ _ (by omega) q.2.2.2.2.2⟩
  · rw [nn 11 (by omega)] at hp'
    have b11 := h11.2.2
    have q := hp p hp'
    rw [nn 6 (by omega)]
    exact ⟨ii _ _ _ (by omega) q.1, q.2.1, ii _ _ _ (by omega) q.2.2.1, ii _ _ _ (by omega) q.2.2.2⟩
theorem OAt_ext {hm : Nat} {A B : Rw} {σ : Mem} {o : Nat} (hI : RowOK hm A) (e : ∀ j, j < 304 → B j = A j) (h : OAt σ o A) : OAt σ o B := by
  have nn : ∀ j, j < 304 → nv B j = nv A j := fun j hj => by unfold nv; rw [e j hj]
  have h4 := r_NZ hI
  have h5 := r_NC hI
  have h6 := r_NK hI
  have h11 := r_NP hI
  obtain ⟨⟨a1, a2, a3⟩, ⟨b1, b2, b3, b4, b5, b6⟩, hz, hc, ⟨c1, c2⟩, hk, d1, hp⟩ := h
  refine ⟨⟨a1.trans (e _ (by omega)).symm, a2.trans (e _ (by omega)).symm, a3.trans (e _ (by omega)).symm⟩, ⟨b1.trans (e _ (by omega)).symm, b2.trans (e _ (by omega)).symm, b3.trans (e _ (by omega)).symm, b4.trans (e _ (by omega)).symm, b5.trans (e _ (by omega)).symm, b6.trans (e _ (by omega)).symm⟩, fun z hz' => ?_, fun c hc' => ?_, ⟨c1.trans (e _ (by omega)).symm, c2.trans (e _ (by omega)).symm⟩, fun k hk' => ?_, d1.trans (e _ (by omega)).symm, fun p hp' => ?_⟩
  · rw [nn 4 (by omega)] at hz'
    have q := hz z hz'
    have b6 := (r_ZC hI hz').2.2
    refine ⟨q.1.trans (e _ (by omega)).symm, fun j hj => ?_⟩
    rw [nn _ (by omega)] at hj
    exact ⟨(q.2 j hj).1.trans (e _ (by omega)).symm, (q.2 j hj).2.trans (e _ (by omega)).symm⟩
  · rw [nn 5 (by omega)] at hc'
    exact (hc c hc').trans (e _ (by omega)).symm
  · rw [nn 6 (by omega)] at hk'
    have q := hk k hk'
    have ez : zoneN B k = zoneN A k := by unfold zoneN; rw [nn _ (by omega), nn 4 (by omega), nn 0 (by omega)]
    rw [ez]
    exact ⟨q.1.trans (e _ (by omega)).symm, q.2.1.trans (e _ (by omega)).symm, q.2.2.1, q.2.2.2.1.trans (e _ (by omega)).symm, q.2.2.2.2.1.trans (e _ (by omega)).symm, q.2.2.2.2.2.1.trans (e _ (by omega)).symm, q.2.2.2.2.2.2.1.trans (e _ (by omega)).symm, q.2.2.2.2.2.2.2.1.trans (e _ (by omega)).symm, q.2.2.2.2.2.2.2.2.1.trans (e _ (by omega)).symm, q.2.2.2.2.2.2.2.2.2.trans (e _ (by omega)).symm⟩
  · rw [nn 11 (by omega)] at hp'
    have q := hp p hp'
    exact ⟨q.1.trans (e _ (by omega)).symm, q.2.1.trans (e _ (by omega)).symm, q.2.2.trans (e _ (by omega)).symm⟩
theorem RowOK_addK {hm : Nat} {A : Rw} (h : RowOK hm A) {x y l c v : Nat} {p : Int32} (hn : nv A 6 < 16) (hx : x ≤ nv A 0 - 1) (hy : y ≤ nv A 1 - 1) (hl : 1 ≤ l ∧ l ≤ 60) (hc0 : c < nv A 5) (hv : v ≤ 9) : RowOK hm (kiteA A (nI x) (nI y) (nI l) (nI c) (nI v) p) := by
  have hN := kiteA_new (A := A) (x := nI x) (y := nI y) (l := nI l) (c := nI c) (k := nI v) (p := p)
  have lo : ∀ j, j < 70 + 9 * nv A 6 → j ≠ 6 → j ≠ 10 → kiteA A (nI x) (nI y) (nI l) (nI c) (nI v) p j = A j := fun j h1 h2 h3 => kiteA_lo h1 h2 h3
  have hi : ∀ j, 70 + 9 * nv A 6 + 9 ≤ j → kiteA A (nI x) (nI y) (nI l) (nI c) (nI v) p j = A j := fun j h1 => kiteA_hi h1
  have h6' : kiteA A (nI x) (nI y) (nI l) (nI c) (nI v) p 6 = nI (nv A 6 + 1) := upd_s
  have hW := (r_W h).2
  have hH := (r_H h).2
  have hC5 := (r_NC h).2
  generalize kiteA A (nI x) (nI y) (nI l) (nI c) (nI v) p = B at hN lo hi h6' ⊢
  have nn : ∀ j, B j = A j → nv B j = nv A j := fun j hj => by unfold nv; rw [hj]
  have ii : ∀ j a b, B j = A j → isN A j a b → isN B j a b := fun j a b hj q => by unfold isN at q ⊢; rw [nn j hj, hj]; exact q
  have iv : ∀ j a b m, B j = nI m → m < 2 ^ 31 → a ≤ m → m ≤ b → isN B j a b := fun j a b m hj hm h1 h2 => by unfold isN; rw [nv_of hj hm]; exact ⟨hj, h1, h2⟩
  have e6 : nv B 6 = nv A 6 + 1 := nv_of h6' (by omega)
  have b11 := (r_NP h).2
  obtain ⟨h0, h1, h2, h3, h4, h5, h6, h7, h11, hz, hc, hk, hp⟩ := h
  have e0 := nn 0 (lo 0 (by omega) (by omega) (by omega))
  have e1 := nn 1 (lo 1 (by omega) (by omega) (by omega))
  have e4 := nn 4 (lo 4 (by omega) (by omega) (by omega))
  have e5 := nn 5 (lo 5 (by omega) (by omega) (by omega))
  have e11 := nn 11 (lo 11 (by omega) (by omega) (by omega))
  refine ⟨ii _ _ _ (lo _ (by omega) (by omega) (by omega)) h0, ii _ _ _ (lo _ (by omega) (by omega) (by omega)) h1, ii _ _ _ (lo _ (by omega) (by omega) (by omega)) h2, ii _ _ _ (lo _ (by omega) (by omega) (by omega)) h3, ii _ _ _ (lo _ (by omega) (by omega) (by omega)) h4, ii _ _ _ (lo _ (by omega) (by omega) (by omega)) h5, iv 6 0 16 _ h6' (by omega) (by omega) (by omega), ii _ _ _ (lo _ (by omega) (by omega) (by omega)) h7, ii _ _ _ (lo _ (by omega) (by omega) (by omega)) h11, fun z hz' => ?_, fun c9 hc' => ?_, fun k hk' => ?_, fun p9 hp' => ?_⟩
  · rw [e4] at hz'
    have b4 := h4.2.2
    have q := hz z hz'
    have b6 := q.1.2.2
    have ez := lo (12 + 13 * z) (by omega) (by omega) (by omega)
    refine ⟨ii _ _ _ ez q.1, fun j hj => ?_⟩
    rw [nn _ ez] at hj
    exact ⟨ii _ _ _ (lo _ (by omega) (by omega) (by omega)) (q.2 j hj).1, ii _ _ _ (lo _ (by omega) (by omega) (by omega)) (q.2 j hj).2⟩
  · rw [e5] at hc'
    have b5 := h5.2.2
    exact ii _ _ _ (lo _ (by omega) (by omega) (by omega)) (hc c9 hc')
  · rw [e6] at hk'
    rw [e0, e1, e5]
    by_cases hkn : k < nv A 6
    · have q := hk k hkn
      exact ⟨ii _ _ _ (lo _ (by omega) (by omega) (by omega)) q.1, ii _ _ _ (lo _ (by omega) (by omega) (by omega)) q.2.1, ii _ _ _ (lo _ (by omega) (by omega) (by omega)) q.2.2.1, ii _ _ _ (lo _ (by omega) (by omega) (by omega)) q.2.2.2.1, ii _ _ _ (lo _ (by omega) (by omega) (by omega)) q.2.2.2.2.1, ii _ _ _ (lo _ (by omega) (by omega) (by omega)) q.2.2.2.2.2⟩
    · have ek : k = nv A 6 := by omega
      subst ek
      exact ⟨iv _ _ _ x hN.1 (by omega) (by omega) hx, iv _ _ _ y hN.2.1 (by omega) (by omega) hy, iv _ _ _ l hN.2.2.1 (by omega) hl.1 hl.2, iv _ _ _ c hN.2.2.2.1 (by omega) (by omega) (by omega), iv _ _ _ v hN.2.2.2.2.1 (by omega) (by omega) hv, iv _ _ _ 0 hN.2.2.2.2.2.2.1 (by omega) (by omega) (by omega)⟩
  · rw [e11] at hp'
    have q := hp p9 hp'
    have g1 := q.1.2.2
    have g2 := q.2.1
    have f1 := ii _ _ _ (hi (214 + 3 * p9) (by omega)) q.1
    rw [e6]
    exact ⟨⟨f1.1, f1.2.1, Nat.le_trans f1.2.2 (by omega)⟩, by omega, ii _ _ _ (hi _ (by omega)) q.2.2.1, ii _ _ _ (hi _ (by omega)) q.2.2.2⟩
theorem exN_ok {C : Nat → Cmd} {n : Nat} (hc : ∀ i, i < n → (1 ≤ (C i).1 ∧ (C i).1 ≤ 8) ∧ cmdOK (C i).1 (C i).2) : ∀ (f : Nat) (hm : Nat) (S : Rw × Rw) (k : Nat), RowOK hm S.1 → hm + 48 * f < 2 ^ 31 → RowOK (hm + 48 * f) (exN C n f S k).1.1
  | 0, hm, S, k, h, _ => h
  | f + 1, hm, S, k, h, hb => by
    by_cases h1 : k < n ∧ doOK S.1 (C k)
    · have e : exN C n (f + 1) S k = exN C n f (doR S.1 S.2 (C k)) (k + 1) := ex_go (by omega) h1.1 h1.2
      rw [e]
      exact RowOK_mono (exN_ok hc f (hm + 48) _ _ (doR_ok h (hc k h1.1).2 (hc k h1.1).1 h1.2 (by omega)) (by omega)) (by omega)
    · rw [ex_end h1]
      exact RowOK_mono h (by omega)
theorem chk_0 {P : Prop} {c : Nat} {r : Nat × Int32} (hc : c ≠ 0) (h : (chk P c r).1 = 0) : P ∧ r.1 = 0 := by
  by_cases hp : P
  · rw [chk_t hp] at h
    exact ⟨hp, h⟩
  · rw [chk_f hp] at h
    exact absurd h hc
/-- the parts of the relation -/
def CurR (hm : Nat) (σ : Mem) : Prop := RowOK hm (rd σ 13 1) ∧ OAt σ 0 (rd σ 13 1) ∧ (∀ k, k < 16 → rd σ 0 21 k = 0) ∧ (∀ k, k < 16 → rd σ 1 21 k = 0)
def HisR (hm : Nat) (σ : Mem) (f u : Nat) : Prop := ringOK σ f u ∧ rd σ 12 1 2 = nI ((f + u) % 8) ∧ rd σ 12 1 1 = nI u ∧ ∀ i, i < u → OAt σ (2 + (f + i) % 8) (rowOf σ ((f + i) % 8)) ∧ RowOK hm (rowOf σ ((f + i) % 8))
def SnpR (hm : Nat) (σ : Mem) : Prop := ∀ s, s < 2 → rd σ 12 4 s = rd σ 13 3 s ∧ (rd σ 12 4 s = 0 ∨ rd σ 12 4 s = nI 1) ∧ (rd σ 12 4 s = nI 1 → OAt σ (10 + s) (rowOf σ (8 + s)) ∧ RowOK hm (rowOf σ (8 + s)))
def ErrR (σ : Mem) : Prop := rd σ 12 5 2 = rd σ 13 0 7 ∧ rd σ 12 5 3 = rd σ 13 0 8
def OutR (σ : Mem) : Prop := ∃ O, O ≤ 390 ∧ rd σ 12 12 1 = nI O ∧ rd σ 13 0 11 = nI O ∧ ∀ j, j < O → rd σ 12 13 j = rd σ 13 5 j
theorem CurR_of {hm : Nat} {σ : Mem} {B : Rw} (hI : RowOK hm B) (hO : OAt σ 0 B) (e : ∀ j, j < 304 → rd σ 13 1 j = B j) (z0 : ∀ k, k < 16 → rd σ 0 21 k = 0) (z1 : ∀ k, k < 16 → rd σ 1 21 k = 0) : CurR hm σ := ⟨RowOK_ext e hI, OAt_ext hI e hO, z0, z1⟩
theorem HisR_fr {hm hm' : Nat} {σ σ' : Mem} {f u : Nat} (h : HisR hm σ f u) (hb : hm ≤ hm') (e3 : rd σ' 13 0 3 = rd σ 13 0 3) (e4 : rd σ' 13 0 4 = rd σ 13 0 4) (e1 : rd σ' 12 1 1 = rd σ 12 1 1) (e2 : rd σ' 12 1 2 = rd σ 12 1 2) (eo : ∀ r, r < 8 → ∀ c, rd σ' (2 + r) c = rd σ (2 + r) c) (er : ∀ r j, r < 8 → j < 304 → rowOf σ' r j = rowOf σ r j) : HisR hm' σ' f u :=
  ⟨ring_0 h.1 e3 e4, e2.trans h.2.1, e1.trans h.2.2.1, fun i hi => by
    have q := h.2.2.2 i hi
    have h8 : (f + i) % 8 < 8 := Nat.mod_lt _ (by decide)
    exact ⟨OAt_ext q.2 (fun j hj => er _ j h8 hj) (OAt_fr (o := 0) (fun c => eo _ h8 c) q.1), RowOK_mono (RowOK_ext (fun j hj => er _ j h8 hj) q.2) hb⟩⟩
theorem SnpR_fr {hm hm' : Nat} {σ σ' : Mem} (h : SnpR hm σ) (hb : hm ≤ hm') (e4 : ∀ s, s < 2 → rd σ' 12 4 s = rd σ 12 4 s) (e3 : ∀ s, s < 2 → rd σ' 13 3 s = rd σ 13 3 s) (eo : ∀ s, s < 2 → ∀ c, rd σ' (10 + s) c = rd σ (10 + s) c) (er : ∀ s j, s < 2 → j < 304 → rowOf σ' (8 + s) j = rowOf σ (8 + s) j) : SnpR hm' σ' := fun s hs => by
  have q := h s hs
  rw [e4 s hs, e3 s hs]
  refine ⟨q.1, q.2.1, fun g => ?_⟩
  have q2 := q.2.2 g
  exact ⟨OAt_ext q2.2 (fun j hj => er s j hs hj) (OAt_fr (o := 0) (fun c => eo s hs c) q2.1), RowOK_mono (RowOK_ext (fun j hj => er s j hs hj) q2.2) hb⟩
theorem OutR_fr {σ σ' : Mem} (h : OutR σ) (e1 : rd σ' 12 12 1 = rd σ 12 12 1) (e2 : ∀ j, rd σ' 12 13 j = rd σ 12 13 j) (m5 : ∀ j, rd σ' 13 5 j = rd σ 13 5 j) (m0 : rd σ' 13 0 11 = rd σ 13 0 11) : OutR σ' := by
  obtain ⟨O, h1, h2, h3, h4⟩ := h
  exact ⟨O, h1, e1.trans h2, m0.trans h3, fun j hj => (e2 j).trans ((h4 j hj).trans (m5 j).symm)⟩
/-- what may change without the relation's notice -/
def SamR (σ σ' : Mem) : Prop := ∀ a c j, ¬ (a = 1) → ¬ (a = 12 ∧ c = 5 ∧ 4 ≤ j) → ¬ (a = 12 ∧ 7 ≤ c ∧ c ≤ 11) → ¬ (a = 13 ∧ ((c = 0 ∧ j ≠ 3 ∧ j ≠ 4 ∧ j ≠ 6 ∧ j ≠ 7 ∧ j ≠ 8 ∧ j ≠ 11) ∨ 6 ≤ c)) → ¬ (a = 13 ∧ c = 1 ∧ 304 ≤ j) → ¬ (a = 13 ∧ c = 2 ∧ 3040 ≤ j) → rd σ' a c j = rd σ a c j
theorem SamR_thr {σ : Mem} {c : Nat} : SamR σ (thr σ c) := fun a b j _ _ _ h _ _ => by
  unfold thr
  rw [rd_wr, if_neg (by omega)]
/-- the ring after a change -/
theorem ring_c {f u i : Nat} (hf : f < 8) (hu : u ≤ 8) (hi : i < rU u) : (rF f u + i) % 8 = (f + u) % 8 ∨ ∃ i', i' < u ∧ (rF f u + i) % 8 = (f + i') % 8 ∧ (f + i') % 8 ≠ (f + u) % 8 := by
  unfold rU at hi
  unfold rF
  by_cases h8 : u = 8
  · rw [if_pos h8] at hi
    rw [if_pos h8]
    subst h8
    by_cases h7 : i = 7
    · left; omega
    · right; exact ⟨i + 1, by omega, by omega, by omega⟩
  · rw [if_neg h8] at hi
    rw [if_neg h8]
    by_cases h7 : i = u
    · left; rw [h7]
    · right; exact ⟨i, by omega, rfl, by omega⟩
theorem ring_n {f u : Nat} (hf : f < 8) (hu : u ≤ 8) : ((f + u) % 8 + 1) % 8 = (rF f u + rU u) % 8 ∧ min (u + 1) 8 = rU u := by
  unfold rF rU
  by_cases h8 : u = 8
  · rw [if_pos h8, if_pos h8]; omega
  · rw [if_neg h8, if_neg h8]; omega
theorem ChR_use {hm : Nat} {σ σ1 : Mem} {x u : Nat} {A B : Rw} (hx : x < 8) (h : ChR σ σ1 x u B) (hI : RowOK hm A) (hO : OAt σ 0 A) (z0 : ∀ k, k < 16 → rd σ 0 21 k = 0) : (∀ a c, a ≠ 0 → a ≠ 2 + x → ¬ (a = 12 ∧ c = 1) → rd σ1 a c = rd σ a c) ∧ OAt σ1 0 B ∧ OAt σ1 (2 + x) A ∧ rd σ1 12 1 2 = nI ((x + 1) % 8) ∧ rd σ1 12 1 1 = nI (min (u + 1) 8) ∧ (∀ k, k < 16 → rd σ1 0 21 k = 0) := by
  obtain ⟨τ0, hH, hF, hO1⟩ := h
  refine ⟨fun a c h1 h2 h3 => (hF.1 a c h1).trans (hH.1 a c h2 h3), hO1, OAt_fr (o := 0) (fun c => hF.1 (2 + x) c (by omega)) (hH.2.2.1 hm A hI hO), ?_, ?_, hF.2.2 (by rw [Hst_21 hH]; exact z0)⟩
  · rw [hF.1 12 1 (by omega)]; exact hH.2.2.2.1
  · rw [hF.1 12 1 (by omega)]; exact hH.2.2.2.2.1
/-- the reference's side of a change -/
def LSch (τ σ2 : Mem) (B : Rw) (f u : Nat) : Prop := (∀ j, j < 304 → rd σ2 13 1 j = B j) ∧ ringOK σ2 (rF f u) (rU u) ∧ (∀ j, j < 304 → rowOf σ2 ((f + u) % 8) j = rd τ 13 1 j) ∧
  (∀ r j, r < 10 → j < 304 → r ≠ (f + u) % 8 → rowOf σ2 r j = rowOf τ r j) ∧ (∀ a c j, a ≠ 13 → rd σ2 a c j = rd τ a c j) ∧ (∀ c j, 3 ≤ c → c < 6 → c ≠ 4 → rd σ2 13 c j = rd τ 13 c j) ∧ rd σ2 13 0 11 = rd τ 13 0 11
def LStx (τ σ2 : Mem) : Prop := (∀ j, rd σ2 13 4 j = rd τ 13 4 j) ∧ rd σ2 13 0 6 = rd τ 13 0 6 ∧ rd σ2 13 0 7 = rd τ 13 0 7 ∧ rd σ2 13 0 8 = rd τ 13 0 8
