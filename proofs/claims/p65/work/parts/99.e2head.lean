/-! THE CLAIM OUT OF ONE WALK OF THE LAW'S BODY. Your part is whole_start (and what it stands on); all else here is the same for every law, but numbers. -/
def R_law : String := "KitePermitsLaw"
def lw_P (b : Addr) (xs : List Int32) (args : Array Value) (s : State) : Prop := args = #[.ref b] ∧ s.IntsAt b xs ∧ xs.length ≤ 260 ∧ (Jvm.Cond.and given_1 narrow_1).before args s = true
def lw_Q (_ : Array Value) (s : State) (o : Outcome) (t : State) : Prop := o = .returned (some (.int 1)) ∧ Framed s o t [] 600074 7301550
def lw_Z (below : List Frame) (a : Array Value) (s : State) : State → Prop := fun t => ∃ o, t.status = .running ∧ Ended t below o ∧ lw_Q a s o t
/-- the law's own end, with 1 on the stack, nothing written that was there before, its room as the claim has it -/
theorem lw_ret {p : Program} {l : Launch} {e : Env} {s : State} {m : MethodId} {below : List Frame} {meth : Method} {c : Code} {b : Nat} (hx : p.tables.exec = Jvm.exec) (hb : c.code = code) (hr : meth.sig.returnType = ret) (hlocks : meth.locks = false) {pc : Nat} {H : Heap} {ls : Array Slot} (hdg : decode code pc = .ok (.ireturn, 1)) : W p l e room_1 s m #[Value.ref b] below meth c H [] 600074 7301550 (lw_Z below #[Value.ref b] s) (F0 m pc ls [.int 1]) := by
  intro T hT X
  obtain ⟨fs, hret, hrun, hended, hW, hframe⟩ := X.leave (v := some (.int 1)) (hlocks := hlocks) (fun h => by rw [hr] at h; cases h)
  have hmeth' : T.vm.method? m = some meth := X.method'
  refine ⟨T.setFrames fs, ?_, .returned (some (.int 1)), hrun, hended, rfl, ⟨_, rfl⟩, hW, hframe⟩
  jvm_step X.here [X.here.top, hx, hb, hdg, hmeth', hr, ret, narrow_b1]
  (try refine ⟨rfl, ?_⟩); (try refine ⟨rfl, ?_⟩)
  first | (intro acts; rw [hret _ acts rfl rfl rfl]) | rw [hret _ _ rfl rfl rfl]
  exact Steps.refl _
/-- what holds at the law's entry: the machine, the code, the tables' words (any of lw_tbl by 'hts w (by decide +kernel)'), the script of L ints xs at the cell b, what the Statement gives of the start (any of its parts by flat_of_before) -/
def lw_At (p : Program) (s : State) (m : MethodId) (meth : Method) (c : Code) (b L : Nat) (xs : Nat → Int32) : Prop :=
  p.tables.exec = Jvm.exec ∧ c.code = code ∧ meth.sig.returnType = ret ∧ c.maxLocals = 11 ∧ s.vm.findClass R_law = some m.cls ∧ (∀ w ∈ lw_tbl, w.before #[Value.ref b] s = true) ∧ va_X b L xs s s.heap ∧ b < s.heap.size ∧ meth.locks = false ∧ (Jvm.Cond.and given_1 narrow_1).before #[Value.ref b] s = true
/-! ===== the law's loop, its head, its start ===== -/
set_option maxHeartbeats 4000000 in
theorem law_loop {G : GC} {E : Ctx} {w : Lay} (C : Cx G E cL_law RL 11 room_1) (hW : LAY5 w) (hend : ∀ (kc ks : Nat) (σ : Mem) (ls : List (Option Value)), ls.length = 11 → kc ≤ 600074 → ks ≤ 7301550 → J G E w kc ks 488 ls [] σ) : ∀ (dd r kc ks px u : Nat) (σ : Mem) (A : Nat → Int32), 36 - r < dd → r ≤ 36 → LSt σ (120 + 90 * r) (5 * r) A px u → kc ≤ 1000 + 200 * r → ks ≤ 10000 + 1200 * r → J G E w kc ks 10 [some (.ref (G.2.2.2.2 2)), some (.ref (w.2.1 12 0)), some (.int (nI r)), none, none, none, none, none, none, none, none] [] σ := by
  intro dd
  induction dd with
  | zero =>
    intro r kc ks px u σ A h
    exact absurd h (Nat.not_lt_zero _)
  | succ dd ih =>
    intro r kc ks px u σ A hdd hr hS hkc hks
    refine J_iload_n C dL_law_10 rfl rfl ?_
    refine J_bipush (v := nI 36) C dL_law_11 (by decide) ?_
    refine J_icmp_ge_n C (by omega) (by omega) (tgt := 488) dL_law_13 rfl (fun _ => hend _ _ _ _ rfl (by omega) (by omega)) (fun h36 => ?_)
    refine law_round C hW hS (by omega) (by omega) h36 (by omega) (by omega) (fun σ2 B px2 u2 hS2 => ?_)
    exact ih (r + 1) _ _ px2 u2 σ2 B (by omega) (by omega) (by rw [show 120 + 90 * (r + 1) = 120 + 90 * r + 90 by omega, show 5 * (r + 1) = 5 * r + 5 by omega]; exact hS2) (by omega) (by omega)
set_option maxHeartbeats 4000000 in
set_option maxRecDepth 100000 in
theorem law_head {G : GC} {E : Ctx} (C : Cx G E cL_law RL 11 room_1) (hAO : AOf E) (hend : ∀ (w : Lay) (kc ks : Nat) (σ : Mem) (ls : List (Option Value)), ls.length = 11 → kc ≤ 600074 → ks ≤ 7301550 → J G E w kc ks 488 ls [] σ) : J G E ([], fun _ _ => 0, fun _ _ _ => none) 0 0 0 [some (.ref (G.2.2.2.2 2)), none, none, none, none, none, none, none, none, none, none] [] Z0 := by
  refine J_newO C (o := 12) (c := 0) (w := ([], fun _ _ => 0, fun _ _ _ => none)) List.not_mem_nil rfl rfl inA9 tyX9_ok q1_25 q1_26 q1_1 (fun j => rfl) (fun j => rfl) rfl (by decide) ⟨by decide +kernel, by decide +kernel⟩ dL_law_0 (fun w1 hX1 => ?_)
  have hm1 : (12, 0) ∈ w1.1 := (hX1.1 _ _).mpr (Or.inr ⟨rfl, rfl⟩)
  refine J_dup C dL_law_3 rfl ?_
  refine J_invI (y := yX9_init) (rm := rnX9_init) C hAO rfl q1_29 q1_28 q1_1 qn1_20 rfl ⟨mdnX9_init.1, mdnX9_init.2.1, mdnX9_init.2.2⟩ rfl rfl ⟨by decide +kernel, by decide +kernel⟩ ⟨by decide +kernel, by decide +kernel⟩ (Nat.le_of_ble_eq_true rfl) dL_law_4 ?_
  refine c_X9_init hm1 (fun x y h g => ((hX1.1 _ _).mp g).elim (fun g => absurd g List.not_mem_nil) (fun q => by first | omega | (dsimp only at q; omega))) (fun x y j h => hX1.2.2 _ _ _ (fun q => by first | omega | (dsimp only at q; omega))) (fun w2 hX2 hK2 hO2 => ?_)
  dsimp only [Option.toList_none, List.nil_append]
  rw [← hX2.2.1 _ _ hm1]
  refine J_astore_n C dL_law_7 rfl (Nat.le_of_ble_eq_true rfl) rfl ?_
  dsimp only [List.set]
  refine J_iconst (v := nI 0) C dL_law_8 (by decide) ?_
  refine J_istore_n C dL_law_9 rfl (Nat.le_of_ble_eq_true rfl) rfl ?_
  dsimp only [List.set]
  exact law_loop C ⟨hK2, hO2⟩ (hend w2) 37 0 _ _ 0 0 _ _ (by omega) (by omega) LSt_start (by decide +kernel) (by decide +kernel)
set_option maxHeartbeats 4000000 in
theorem law_end {G : GC} {p : Program} {e : Env} {s : State} {m : MethodId} {below : List Frame} {meth : Method} {c : Code} {b : Nat} (C : Cx G (p, e, room_1, s, m, #[Value.ref b], below, meth, c, lw_Z below #[Value.ref b] s) cL_law RL 11 room_1) (hsz : G.2.2.2.1 = s.heap.size) (hx : p.tables.exec = Jvm.exec) (hb : c.code = code) (hr : meth.sig.returnType = ret) (hlocks : meth.locks = false) : ∀ (w : Lay) (kc ks : Nat) (σ : Mem) (ls : List (Option Value)), ls.length = 11 → kc ≤ 600074 → ks ≤ 7301550 → J G (p, e, room_1, s, m, #[Value.ref b], below, meth, c, lw_Z below #[Value.ref b] s) w kc ks 488 ls [] σ := by
  intro w kc ks σ ls hln h1 h2
  refine J_iconst (v := 1) C dL_law_488 (by decide) ?_
  intro H locs la g1 g2 g3 g4
  refine va_forget (fun q hq => ?_) ?_
  · have h3 : G.2.2.2.1 ≤ q.base := g4.2.2 q hq
    rw [hsz] at h3
    exact h3
  · refine W.widen (k := 600074) (n := 7301550) h1 h2 ?_
    exact lw_ret (l := G.1) hx hb hr hlocks dL_law_489
theorem law_ent (b : Nat) : ent [.ref b] 11 = [some (.ref b), none, none, none, none, none, none, none, none, none, none] := rfl
theorem whole_start {p : Program} {e : Env} {s : State} {m : MethodId} {below : List Frame} {meth : Method} {c : Code} (l : Launch) (hflags : l.flags = flags0) {b L : Nat} {xs : Nat → Int32} (hL : L ≤ 260) (C0 : lw_At p s m meth c b L xs) : W p l e room_1 s m #[Value.ref b] below meth c s.heap [] 0 0 (lw_Z below #[Value.ref b] s) (entryFrame m ([Value.ref b] : List Value).toArray 11) := by
  obtain ⟨hx, hb, hr, hml, hown, hts, hX, hbl, hlocks, hgv⟩ := id C0
  obtain ⟨G, hG1, hG2, hG3, hEn⟩ := envt_of l hflags hts hgv hX hbl hL
  subst hG1
  have C : Cx G (p, e, room_1, s, m, #[Value.ref b], below, meth, c, lw_Z below #[Value.ref b] s) cL_law RL 11 room_1 := ⟨hx, hb, hml, hown, fun w h => hts w (allw_tbl w h), rfl, hlocks, hEn⟩
  have hAO : AOf (p, e, room_1, s, m, #[Value.ref b], below, meth, c, lw_Z below #[Value.ref b] s) := va_AO.of (hts (.arrayOver (.object "KitePermits$Office")) (qm1 (List.mem_of_getElem? (i := 227) (by decide +kernel))))
  have h := law_head C hAO (law_end C hG2 hx hb hr hlocks)
  rw [hG3, ← law_ent b] at h
  rw [lg_entry_eq]
  have hl := lv_entry [Value.ref b] (n := 11) (Nat.le_of_ble_eq_true rfl)
  refine h s.heap [] _ ⟨hl.1.trans (ent_len [.ref b] 11 (Nat.le_of_ble_eq_true rfl)).symm, hl.2.1, fun i v hi => ?_⟩ (fun k q hq => by simp [wsOf] at hq) ⟨fun i j p q hp => by simp [wsOf] at hp, fun k q hq => by simp [wsOf] at hq⟩ va_S.rf
  have h3 := hl.2.2 _ (ent_get [.ref b] 11 0 i v (Nat.le_of_ble_eq_true rfl) hi)
  rw [Nat.zero_add] at h3
  exact h3
