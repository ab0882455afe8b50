/-! ===== methods that catch ===== -/
def cww (y : MethodName) (cc : ByteArray) (n : Nat) (ret : Option FieldType) (hh : List (Nat × Nat × Nat × Nat)) : List Cond := Cond.codeWith y cc n ret hh :: ALLW
def Tab (E : Ctx) (hh : List (Nat × Nat × Nat × Nat)) : Prop := match E with
  | (_, _, _, _, _, _, _, _, c, _) => c.exceptionTable.toList = tableOf hh
theorem mt_startW {G : GC} {y : MethodName} {cc : ByteArray} {nL : Nat} {ret : Option FieldType} {hh : List (Nat × Nat × Nat × Nat)} {rm : Room} {mc ms : Nat} {w : Lay} {σ : Mem} {As : List Value} {Q : Lay → Option Value → Mem → Prop} {Qx : Lay → String → Mem → Prop} {own : String}
    (hy : plainName y.cls = true) (hown : y.cls = own) (hsz : (lg_sl As).length ≤ nL)
    (body : ∀ E : Ctx, Cx G E cc own nL rm → RetC G E Q Qx mc ms ret → Tab E hh → J G E w 0 0 0 (ent As nL) [] σ) : MT G y (cww y cc nL ret hh) rm mc ms w σ As Q Qx := by
  refine vx_ofWH (cc := cc) (maxL := nL) (ret := ret) (hh := hh) hy rfl ?_
  intro p e s m args below meth c s₁ B hml hp
  obtain ⟨rfl, hP, hD, hE⟩ := hp
  have hts : ∀ w ∈ cww y cc nL ret hh, w.before As.toArray s = true := atoms_spec (ws := cww y cc nL ret hh) B.pre
  have hown' : s.vm.findClass own = some m.cls := by rw [← hown]; exact findClass_of_methodNamed B.named
  have htab : c.exceptionTable.toList = tableOf hh := vx_table (x := y) B (hts _ List.mem_cons_self)
  have h := body (p, e, rm, s, m, As.toArray, below, meth, c, vx_MQ below (QcMT G Q) (XcMT G Qx) As.toArray s mc ms (Asz G)) ⟨B.exec, B.bytes, hml, hown', fun w hw => hts w (List.mem_cons_of_mem _ hw), rfl, B.notSynchronized, hE⟩ ⟨B.returns, rfl⟩ htab
  rw [lg_entry_eq]
  have hl := lv_entry As (n := nL) hsz
  refine h s.heap [] _ ⟨hl.1.trans (ent_len As nL hsz).symm, hl.2.1, fun i v hi => ?_⟩ hP hD va_S.rf
  have h3 := hl.2.2 _ (ent_get As nL 0 i v hsz hi)
  rw [Nat.zero_add] at h3
  exact h3
section JW
variable {G : GC} {E : Ctx} {cc : ByteArray} {own : String} {nL : Nat} {R0 : Room} {w : Lay} {kc ks pc : Nat} {ls : List (Option Value)} {st : List Value} {σ : Mem}
theorem JX_catch (C : Cx G E cc own nL R0) {hh hpre hsuf : List (Nat × Nat × Nat × Nat)} {a b hp ct : Nat} {X : String} (hT : Tab E hh) (hs : hh = hpre ++ (a, b, hp, ct) :: hsuf)
    (hpass : ∀ q ∈ hpre, q.2.2.2 ≠ 0 ∧ ∃ nm : String, Cond.classLink own q.2.2.2 nm ∈ ALLW ∧ (X, nm) ∈ NCL) (hcov : covers ⟨a, b, hp, ct⟩ pc = true) (h0 : ct ≠ 0) (hlink : Cond.classLink own ct X ∈ ALLW) (hcast : Cond.castable X X ∈ BADW)
    (k : ∀ q : Nat, J G E w kc ks hp ls [.ref q] σ) : JX G E w kc ks pc ls st σ X := by
  obtain ⟨p, e, R, s, m, args, below, meth, c, Qf⟩ := E
  intro H locs la q ce h1 h2 h3 h4 h5 h6 h7
  obtain ⟨c1, c2, c3, c4, c5, c6, c7, c8⟩ := C
  have hsp : c.exceptionTable.toList = tableOf hpre ++ ⟨a, b, hp, ct⟩ :: tableOf hsuf := by
    have h9 : c.exceptionTable.toList = tableOf hh := hT
    rw [h9, hs]
    unfold tableOf
    rw [List.map_append, List.map_cons]
  refine vx_catch c4 (tableOf hpre) ⟨a, b, hp, ct⟩ (tableOf hsuf) hsp (fun z hz => ?_) hcov h0 (c5 _ hlink) (va_Nw.use rfl (c8.2.2.2.1 _ hcast)) h5 h6 h7 (k q H locs la h1 h2 h3 h4)
  unfold tableOf at hz
  obtain ⟨y, hy, rfl⟩ := List.mem_map.mp hz
  obtain ⟨g1, nm, g2, g3⟩ := hpass y hy
  exact Or.inr ⟨g1, nm, c5 _ g2, c8.2.2.2.2.2.2.2.2.2.2.2.2.2.1 _ g3⟩
theorem ws_set' {σ' : Mem} {A : Nat → Prop} {o c p : Nat} {e : va_E} (hD : va_D A (wsOf G w σ)) (hp : w.1[p]? = some (o, c)) (he : enc G w σ' o c = e) (ho : ∀ q ∈ w.1, ¬ (q.1 = o ∧ q.2 = c) → enc G w σ' q.1 q.2 = enc G w σ q.1 q.2) :
    (wsOf G w σ).set p (w.2.1 o c, e) = wsOf G w σ' := by
  have hpw : (wsOf G w σ)[p]? = some (w.2.1 o c, enc G w σ o c) := by unfold wsOf; rw [List.getElem?_map, hp]; rfl
  have hl : p < (wsOf G w σ).length := (List.getElem?_eq_some_iff.mp hpw).1
  apply List.ext_getElem?
  intro i
  by_cases hi : i = p
  · subst hi
    rw [List.getElem?_set_self hl]
    unfold wsOf
    rw [List.getElem?_map, hp]
    show _ = some (w.2.1 o c, enc G w σ' o c)
    rw [he]
  · rw [List.getElem?_set_ne (Ne.symm hi)]
    unfold wsOf
    rw [List.getElem?_map, List.getElem?_map]
    cases hq : w.1[i]? with
    | none => rfl
    | some q =>
      obtain ⟨a, b⟩ := q
      show some (w.2.1 a b, enc G w σ a b) = some (w.2.1 a b, enc G w σ' a b)
      rw [ho (a, b) (List.mem_of_getElem? hq)]
      rintro ⟨h1, h2⟩
      have h1 : a = o := h1
      have h2 : b = c := h2
      subst h1; subst h2
      have hiw : (wsOf G w σ)[i]? = some (w.2.1 a b, enc G w σ a b) := by unfold wsOf; rw [List.getElem?_map, hq]; rfl
      exact hi (hD.1 i p _ _ hiw hpw rfl)
theorem enc_wrL1 {k : Nat} {x : Int64} {a b : Nat} (h : a = 13 → b < 10) (hn : ¬ (a = 13 ∧ b = 9)) : enc G w (wrL σ (1 + k) x) a b = enc G w σ a b := by
  have hk : (kd a b).1 ≠ 3 := by
    unfold kd
    by_cases h1 : a < 12
    · rw [if_pos h1]
      unfold kdO
      split <;> decide
    rw [if_neg h1]
    by_cases h2 : a = 12
    · rw [if_pos h2]
      unfold kdK
      split <;> decide
    rw [if_neg h2]
    by_cases h3 : a = 13
    · rw [if_pos h3]
      have h4 := h h3
      have h5 : b = 0 ∨ b = 1 ∨ b = 2 ∨ b = 3 ∨ b = 4 ∨ b = 5 ∨ b = 6 ∨ b = 7 ∨ b = 8 := by omega
      rcases h5 with rfl | rfl | rfl | rfl | rfl | rfl | rfl | rfl | rfl <;> decide
    · rw [if_neg h3]
      decide
  unfold enc
  have hf : fvals w (wrL σ (1 + k) x) a b (fk (kd a b).2) = fvals w σ a b (fk (kd a b).2) := fvals_congr rfl (by rw [rdL_wrL, if_neg (by omega)])
  rw [hf, if_neg hk, if_neg hk]
  rfl
theorem goodSX {idx : Nat} {y : MethodName} {cy : ByteArray} {n : Nat} {ret : Option FieldType} {hh : List (Nat × Nat × Nat × Nat)} (a : Cond.methodLink own idx y ∈ ALLW) (b : Cond.static y ∈ ALLW) (d : Cond.initialized y.cls ∈ ALLW) (e : Cond.codeWith y cy n ret hh ∈ ALLW) : GoodIn ALLW (va_wsS own idx y (cww y cy n ret hh)) := by
  intro w hw
  have hm : w ∈ ALLW := by
    rcases List.mem_append.mp hw with h | h
    · rcases List.mem_cons.mp h with h | h
      · rw [h]; exact a
      rcases List.mem_cons.mp h with h | h
      · rw [h]; exact b
      rcases List.mem_cons.mp h with h | h
      · rw [h]; exact d
      cases h
    · rcases List.mem_cons.mp h with h | h
      · rw [h]; exact e
      · exact h
  exact ⟨hm, allw_good w hm⟩
theorem J_invSX (C : Cx G E cc own nL R0) (hls : ls.length = nL) {y : MethodName} {cy : ByteArray} {maxL n idx mc ms : Nat} {ret : Option FieldType} {hh : List (Nat × Nat × Nat × Nat)} {rm : Room} {As stk : List Value} (hstk : stk = As.reverse ++ st)
    (hlk : GoodIn ALLW (va_wsS own idx y (cww y cy maxL ret hh)))
    (hy : y.cls ≠ "java/lang/invoke/MethodHandle" ∧ y.cls ≠ "java/lang/invoke/VarHandle" ∧ (parseMethodDescriptor y.desc).map (fun d => d.parameters.length) = some n) (hrc : rm.cells = mc) (hrs : rm.slots = ms) (hroom : rm.frames + 1 ≤ R0.frames ∧ 8 + (maxL + 11) + rm.locals ≤ R0.locals)
    (hn : As.length = n) (hcs : kc + mc ≤ R0.cells ∧ ks + ms ≤ R0.slots) (hst : (st.map fun v => v.category).sum ≤ 8) (hd : decode cc pc = .ok (.invokestatic idx, 3))
    (hM : MT G y (cww y cy maxL ret hh) rm mc ms w σ As (fun w' r σ' => J G E w' (kc + mc) (ks + ms) (pc + 3) ls (r.toList ++ st) σ') (fun w' X σ' => JX G E w' (kc + mc) (ks + ms) pc ls st σ' X)) : J G E w kc ks pc ls stk σ := by
  obtain ⟨p, e, R, s, m, args, below, meth, cm, Q⟩ := E
  subst hstk
  intro H locs la h1 h2 h3 h4
  obtain ⟨c1, c2, c3, c4, c5, rfl, c7, c8⟩ := C
  have hr := vx_runSX (H := H) (locs := locs) (below := below) (meth := meth) (p := p) (l := G.1) (e := e) (cells := kc) (slots := ks) (g := F0 m pc la (As.reverse ++ st)) (rest := st) ⟨c1, c2, c3, c4, c5⟩ hM (vx_cwSW n c5 hlk rfl hrc hrs hy hroom)
    ⟨pre_blind, fun U hU hW => ⟨rfl, by rw [hU]; exact h2, h3, Envt.warm hW (by rw [hU]; exact h4.1) (by rw [hU]; exact h4.2.1) c8⟩⟩ rfl hn (h1.1.trans hls) rfl (lv_room hst) hd hcs
  intro T hT X
  rcases hr T hT X with ⟨v, st₀, t, T', L, h0, X', hL, e1, e2, ⟨⟨w', r, σ', hv, hq', hP', hD'⟩, hF⟩, hst'⟩ | ⟨q, st₀, t, T', L, X9, ce, h0, X', hL, e1, e2, ⟨⟨w', σ', hq', hP', hD'⟩, hF⟩, hce, hcv, hcl', hst'⟩
  · cases hv
    obtain ⟨k1, k2, k3⟩ := vx_keep h0 e1 h4 (fun q _ h => h) (fun q h => h) hL hF
    obtain ⟨t2, a1, b1⟩ := hq' T'.heap (locs ++ L) la h1 (by rw [e1]; exact hP') hD' k3 T' rfl X'
    exact ⟨t2, hst' t2 a1, b1⟩
  · obtain ⟨k1, k2, k3⟩ := vx_keep h0 e1 h4 (fun q _ h => h) (fun q h => h) hL hF
    obtain ⟨t2, a1, b1⟩ := hq' T'.heap (locs ++ L) la q ce h1 (by rw [e1]; exact hP') hD' k3 (by rw [e1]; exact hce) hcv hcl' T' rfl X'
    exact ⟨t2, hst'.trans a1, b1⟩
end JW
/-- what a wrapper leaves: the answer a, the memory after a call that went well (P), or threw (PX) -/
def LR (P PX : Mem → Prop) (a : Nat × Int32) (σ' : Mem) : Prop := (a.1 = 0 ∧ ∃ σ1, P σ1 ∧ σ' = wrL σ1 1 a.2.toInt64) ∨ ((a.1 ≠ 0 ∧ a.1 ≤ 3) ∧ PX σ')
def LRv (P PX : Mem → Prop) (a : Nat × Int32) (σ' : Mem) : Prop := (a.1 = 0 ∧ P σ') ∨ ((a.1 ≠ 0 ∧ a.1 ≤ 3) ∧ PX σ')
