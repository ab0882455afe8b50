/-! ===== a frame at an instruction, over the memory: J; a method's contract: MT ===== -/
abbrev Ctx : Type := Program × Env × Room × State × MethodId × Array Value × List Frame × Method × Code × (State → Prop)
def lvs (ls : List (Option Value)) (la : Array Slot) : Prop := la.size = ls.length ∧ lv_wf la ∧ ∀ (i : Nat) (v : Value), ls[i]? = some (some v) → la[i]? = some (.val v)
def J (G : GC) (E : Ctx) (w : Lay) (kc ks pc : Nat) (ls : List (Option Value)) (st : List Value) (σ : Mem) : Prop :=
  match E with
  | (p, e, R, s, m, args, below, meth, c, Q) => ∀ (H : Heap) (locs : List Loc) (la : Array Slot), lvs ls la → va_P G.2.1 vwCl (wsOf G w σ) H → va_D (Asz G) (wsOf G w σ) → va_S (Asz G) s.heap H locs → W p G.1 e R s m args below meth c H locs kc ks Q (F0 m pc la st)
/-- the frame with an exception of the class X thrown over it -/
def JX (G : GC) (E : Ctx) (w : Lay) (kc ks pc : Nat) (ls : List (Option Value)) (st : List Value) (σ : Mem) (X : String) : Prop :=
  match E with
  | (p, e, R, s, m, args, below, meth, c, Q) => ∀ (H : Heap) (locs : List Loc) (la : Array Slot) (q : Nat) (ce : Cell), lvs ls la → va_P G.2.1 vwCl (wsOf G w σ) H → va_D (Asz G) (wsOf G w σ) → va_S (Asz G) s.heap H locs → H[q]? = some ce → ce.vm = .none → s.vm.findClass X = some ce.cls → vx_W p G.1 e R s m args below meth c H locs kc ks Q (F0 m pc la st) q
def Cx (G : GC) (E : Ctx) (cc : ByteArray) (own : String) (nL : Nat) (R0 : Room) : Prop :=
  match E with
  | (p, _, R, s, m, args, _, meth, c, _) => p.tables.exec = Jvm.exec ∧ c.code = cc ∧ c.maxLocals = nL ∧ s.vm.findClass own = some m.cls ∧ (∀ w ∈ ALLW, w.before args s = true) ∧ R = R0 ∧ meth.locks = false ∧ Envt G s
def QcMT (G : GC) (Q : Lay → Option Value → Mem → Prop) : Array Value → State → Outcome → State → Prop := fun _ st o t =>
  (∃ (w : Lay) (r : Option Value) (σ : Mem), o = .returned r ∧ Q w r σ ∧ va_P G.2.1 vwCl (wsOf G w σ) t.heap ∧ va_D (Asz G) (wsOf G w σ)) ∧ va_F (Asz G) st t
def XcMT (G : GC) (Qx : Lay → String → Mem → Prop) : String → State → State → Prop := fun X st t =>
  (∃ (w : Lay) (σ : Mem), Qx w X σ ∧ va_P G.2.1 vwCl (wsOf G w σ) t.heap ∧ va_D (Asz G) (wsOf G w σ)) ∧ va_F (Asz G) st t
def PreMT (G : GC) (w : Lay) (σ : Mem) (As : List Value) : Array Value → State → Prop := fun v U =>
  v = As.toArray ∧ va_P G.2.1 vwCl (wsOf G w σ) U.heap ∧ va_D (Asz G) (wsOf G w σ) ∧ Envt G U
/-- a method's words: its own code, and all the good ones -/
def cw (y : MethodName) (cc : ByteArray) (n : Nat) (ret : Option FieldType) : List Cond := Cond.code y cc n ret :: ALLW
def MT (G : GC) (y : MethodName) (ws : List Cond) (rm : Room) (mc ms : Nat) (w : Lay) (σ : Mem) (As : List Value) (Q : Lay → Option Value → Mem → Prop) (Qx : Lay → String → Mem → Prop) : Prop :=
  vx_Met G.1 y ws rm (PreMT G w σ As) (QcMT G Q) (XcMT G Qx) mc ms (Asz G)
def RetC (G : GC) (E : Ctx) (Q : Lay → Option Value → Mem → Prop) (Qx : Lay → String → Mem → Prop) (mc ms : Nat) (ret : Option FieldType) : Prop :=
  match E with
  | (_, _, _, s, _, args, below, meth, _, Qf) => meth.sig.returnType = ret ∧ Qf = vx_MQ below (QcMT G Q) (XcMT G Qx) args s mc ms (Asz G)
def NoTab (E : Ctx) : Prop := match E with
  | (_, _, _, _, _, _, _, _, c, _) => ∀ x ∈ c.exceptionTable.toList, False
/-- the locals at a method's entry -/
def ent : List Value → Nat → List (Option Value)
  | [], n => List.replicate n none
  | v :: vs, n => if v.category = 2 then some v :: none :: ent vs (n - 2) else some v :: ent vs (n - 1)
theorem ent_len : ∀ (vs : List Value) (n : Nat), (lg_sl vs).length ≤ n → (ent vs n).length = n
  | [], n, _ => by unfold ent; exact List.length_replicate
  | v :: vs, n, h => by
    unfold ent
    unfold lg_sl at h
    rw [List.flatMap_cons, List.length_append] at h
    by_cases hc : v.category = 2
    · rw [if_pos hc] at h ⊢
      have h1 : (lg_sl vs).length ≤ n - 2 := by unfold lg_sl; simp at h ⊢; omega
      rw [List.length_cons, List.length_cons, ent_len vs (n - 2) h1]
      simp at h
      omega
    · rw [if_neg hc] at h ⊢
      have h1 : (lg_sl vs).length ≤ n - 1 := by unfold lg_sl; simp at h ⊢; omega
      rw [List.length_cons, ent_len vs (n - 1) h1]
      simp at h
      omega
theorem ent_get : ∀ (vs : List Value) (n k i : Nat) (v : Value), (lg_sl vs).length ≤ n → (ent vs n)[i]? = some (some v) → (k + i, v) ∈ lv_args k vs
  | [], n, k, i, v, _, h => by
    unfold ent at h
    rw [List.getElem?_replicate] at h
    split at h <;> cases h
  | u :: vs, n, k, i, v, hn, h => by
    unfold ent at h
    unfold lg_sl at hn
    rw [List.flatMap_cons, List.length_append] at hn
    by_cases hc : u.category = 2
    · rw [if_pos hc] at h hn
      have h1 : (lg_sl vs).length ≤ n - 2 := by unfold lg_sl; simp at hn ⊢; omega
      simp only [lv_args, if_pos hc]
      match i, h with
      | 0, h => simp at h; rw [h]; exact List.mem_cons_self
      | 1, h => simp at h
      | i + 2, h =>
        have h2 : (ent vs (n - 2))[i]? = some (some v) := by simpa using h
        have h3 := ent_get vs (n - 2) (k + 2) i v h1 h2
        rw [show k + (i + 2) = k + 2 + i by omega]
        exact List.mem_cons_of_mem _ h3
    · rw [if_neg hc] at h hn
      have h1 : (lg_sl vs).length ≤ n - 1 := by unfold lg_sl; simp at hn ⊢; omega
      simp only [lv_args, if_neg hc]
      match i, h with
      | 0, h => simp at h; rw [h]; exact List.mem_cons_self
      | i + 1, h =>
        have h2 : (ent vs (n - 1))[i]? = some (some v) := by simpa using h
        have h3 := ent_get vs (n - 1) (k + 1) i v h1 h2
        rw [show k + (i + 1) = k + 1 + i by omega]
        exact List.mem_cons_of_mem _ h3
theorem mt_start {G : GC} {y : MethodName} {cc : ByteArray} {nL : Nat} {ret : Option FieldType} {rm : Room} {mc ms : Nat} {w : Lay} {σ : Mem} {As : List Value} {Q : Lay → Option Value → Mem → Prop} {Qx : Lay → String → Mem → Prop} {own : String}
    (hy : plainName y.cls = true) (hown : y.cls = own) (hsz : (lg_sl As).length ≤ nL)
    (body : ∀ E : Ctx, Cx G E cc own nL rm → RetC G E Q Qx mc ms ret → NoTab E → J G E w 0 0 0 (ent As nL) [] σ) : MT G y (cw y cc nL ret) rm mc ms w σ As Q Qx := by
  refine vx_ofW (cc := cc) (maxL := nL) (ret := ret) hy rfl ?_
  intro p e s m args below meth c s₁ B hml ht hp
  obtain ⟨rfl, hP, hD, hE⟩ := hp
  have hts : ∀ w ∈ cw y cc nL ret, w.before As.toArray s = true := atoms_spec (ws := cw y cc nL ret) B.pre
  have hown' : s.vm.findClass own = some m.cls := by rw [← hown]; exact findClass_of_methodNamed B.named
  have h := body (p, e, rm, s, m, As.toArray, below, meth, c, vx_MQ below (QcMT G Q) (XcMT G Qx) As.toArray s mc ms (Asz G)) ⟨B.exec, B.bytes, hml, hown', fun w hw => hts w (List.mem_cons_of_mem _ hw), rfl, B.notSynchronized, hE⟩ ⟨B.returns, rfl⟩ ht
  rw [lg_entry_eq]
  have hl := lv_entry As (n := nL) hsz
  refine h s.heap [] _ ⟨hl.1.trans (ent_len As nL hsz).symm, hl.2.1, fun i v hi => ?_⟩ hP hD va_S.rf
  have h3 := hl.2.2 _ (ent_get As nL 0 i v hsz hi)
  rw [Nat.zero_add] at h3
  exact h3
section JR
variable {G : GC} {E : Ctx} {cc : ByteArray} {own : String} {nL : Nat} {R0 : Room} {w : Lay} {kc ks pc : Nat} {ls : List (Option Value)} {st : List Value} {σ : Mem}
theorem lvs_get {la : Array Slot} (hl : lvs ls la) {i : Nat} {v : Value} (h : ls[i]? = some (some v)) : la[i]? = some (.val v) := hl.2.2 i v h
/-- storing there cuts no long in two -/
def okst (ls : List (Option Value)) : Nat → Bool
  | 0 => true
  | j + 1 => match ls[j]? with
    | some (some v) => v.category != 2
    | _ => true
def al (ls : List (Option Value)) : List (Nat × Value) := ls.zipIdx.filterMap (fun q => q.1.map (fun v => (q.2, v)))
theorem al_mem {i : Nat} {v : Value} : (i, v) ∈ al ls ↔ ls[i]? = some (some v) := by
  unfold al
  rw [List.mem_filterMap]
  constructor
  · rintro ⟨⟨o, k⟩, h1, h2⟩
    have h3 := List.mem_zipIdx' h1
    cases o with
    | none => cases h2
    | some x =>
      simp only [Option.map_some, Option.some.injEq, Prod.mk.injEq] at h2
      obtain ⟨rfl, rfl⟩ := h2
      rw [List.getElem?_eq_getElem h3.1, ← h3.2]
  · intro h
    obtain ⟨hi, he⟩ := List.getElem?_eq_some_iff.mp h
    refine ⟨(some v, i), ?_, rfl⟩
    have h4 : (ls.zipIdx)[i]? = some (some v, i) := by rw [List.getElem?_zipIdx, h]; simp
    exact List.mem_of_getElem? h4
theorem lvs_has {la : Array Slot} (hl : lvs ls la) : lv_has la ls.length (al ls) := ⟨hl.1, hl.2.1, fun q hq => hl.2.2 q.1 q.2 (al_mem.mp hq)⟩
theorem lvs_of {la' : Array Slot} {i : Nat} {v : Value} (hi : i < ls.length) (ho : okst ls i = true) (h : lv_has la' ls.length ((i, v) :: (al ls).filter (fun q => !(q.1 == i) && !(q.1 + 1 == i && q.2.category == 2)))) : lvs (ls.set i (some v)) la' := by
  refine ⟨h.1.trans List.length_set.symm, h.2.1, fun j u hj => ?_⟩
  by_cases hji : j = i
  · subst hji
    rw [List.getElem?_set_self hi] at hj
    cases hj
    exact h.2.2 _ List.mem_cons_self
  · rw [List.getElem?_set_ne (Ne.symm hji)] at hj
    refine h.2.2 (j, u) (List.mem_cons_of_mem _ (List.mem_filter.mpr ⟨al_mem.mpr hj, ?_⟩))
    have h1 : (j == i) = false := by rw [beq_eq_false_iff_ne]; exact hji
    show (!(j == i) && !(j + 1 == i && u.category == 2)) = true
    rw [h1]
    by_cases h2 : j + 1 = i
    · subst h2
      have ho2 : (match ls[j]? with | some (some v) => v.category != 2 | _ => true) = true := ho
      rw [hj] at ho2
      have h3 : (u.category == 2) = false := by simpa using ho2
      rw [h3]
      simp
    · have h3 : (j + 1 == i) = false := by rw [beq_eq_false_iff_ne]; exact h2
      rw [h3]
      rfl
theorem J_iload_n (C : Cx G E cc own nL R0) {k : Fin 4} {i : Nat} {x : Int32} (hd : decode cc pc = .ok (.iload_n k, 1)) (hi : (k : Nat) = i) (hl : ls[i]? = some (some (.int x))) (h : J G E w kc ks (pc + 1) ls (.int x :: st) σ) : J G E w kc ks pc ls st σ := by
  obtain ⟨p, e, R, s, m, args, below, meth, c, Q⟩ := E
  intro H locs la h1 h2 h3 h4
  exact lv_iload_n C.1 C.2.1 hd hi (lvs_get h1 hl) (h H locs la h1 h2 h3 h4)
theorem J_iload (C : Cx G E cc own nL R0) {i : Nat} {x : Int32} (hd : decode cc pc = .ok (.iload i, 2)) (hl : ls[i]? = some (some (.int x))) (h : J G E w kc ks (pc + 2) ls (.int x :: st) σ) : J G E w kc ks pc ls st σ := by
  obtain ⟨p, e, R, s, m, args, below, meth, c, Q⟩ := E
  intro H locs la h1 h2 h3 h4
  exact lv_iload C.1 C.2.1 hd (lvs_get h1 hl) (h H locs la h1 h2 h3 h4)
theorem J_aload_n (C : Cx G E cc own nL R0) {k : Fin 4} {i x : Nat} (hd : decode cc pc = .ok (.aload_n k, 1)) (hi : (k : Nat) = i) (hl : ls[i]? = some (some (.ref x))) (h : J G E w kc ks (pc + 1) ls (.ref x :: st) σ) : J G E w kc ks pc ls st σ := by
  obtain ⟨p, e, R, s, m, args, below, meth, c, Q⟩ := E
  intro H locs la h1 h2 h3 h4
  exact lv_aload_n C.1 C.2.1 hd hi (lvs_get h1 hl) (h H locs la h1 h2 h3 h4)
theorem J_aload (C : Cx G E cc own nL R0) {i x : Nat} (hd : decode cc pc = .ok (.aload i, 2)) (hl : ls[i]? = some (some (.ref x))) (h : J G E w kc ks (pc + 2) ls (.ref x :: st) σ) : J G E w kc ks pc ls st σ := by
  obtain ⟨p, e, R, s, m, args, below, meth, c, Q⟩ := E
  intro H locs la h1 h2 h3 h4
  exact lv_aload C.1 C.2.1 hd (lvs_get h1 hl) (h H locs la h1 h2 h3 h4)
theorem J_istore_n (C : Cx G E cc own nL R0) {k : Fin 4} {i : Nat} {x : Int32} (hd : decode cc pc = .ok (.istore_n k, 1)) (hi : (k : Nat) = i) (hn : i < ls.length) (ho : okst ls i = true) (h : J G E w kc ks (pc + 1) (ls.set i (some (.int x))) st σ) : J G E w kc ks pc ls (.int x :: st) σ := by
  obtain ⟨p, e, R, s, m, args, below, meth, c, Q⟩ := E
  intro H locs la h1 h2 h3 h4
  exact lv_istore_n C.1 C.2.1 hd hi (lvs_has h1) hn rfl (fun la' h' => h H locs la' (lvs_of hn ho h') h2 h3 h4)
theorem J_istore (C : Cx G E cc own nL R0) {i : Nat} {x : Int32} (hd : decode cc pc = .ok (.istore i, 2)) (hn : i < ls.length) (ho : okst ls i = true) (h : J G E w kc ks (pc + 2) (ls.set i (some (.int x))) st σ) : J G E w kc ks pc ls (.int x :: st) σ := by
  obtain ⟨p, e, R, s, m, args, below, meth, c, Q⟩ := E
  intro H locs la h1 h2 h3 h4
  exact lv_istore C.1 C.2.1 hd (lvs_has h1) hn rfl (fun la' h' => h H locs la' (lvs_of hn ho h') h2 h3 h4)
theorem J_astore_n (C : Cx G E cc own nL R0) {k : Fin 4} {i x : Nat} (hd : decode cc pc = .ok (.astore_n k, 1)) (hi : (k : Nat) = i) (hn : i < ls.length) (ho : okst ls i = true) (h : J G E w kc ks (pc + 1) (ls.set i (some (.ref x))) st σ) : J G E w kc ks pc ls (.ref x :: st) σ := by
  obtain ⟨p, e, R, s, m, args, below, meth, c, Q⟩ := E
  intro H locs la h1 h2 h3 h4
  exact lv_astore_n C.1 C.2.1 hd hi (lvs_has h1) hn rfl (fun la' h' => h H locs la' (lvs_of hn ho h') h2 h3 h4)
theorem J_astore (C : Cx G E cc own nL R0) {i x : Nat} (hd : decode cc pc = .ok (.astore i, 2)) (hn : i < ls.length) (ho : okst ls i = true) (h : J G E w kc ks (pc + 2) (ls.set i (some (.ref x))) st σ) : J G E w kc ks pc ls (.ref x :: st) σ := by
  obtain ⟨p, e, R, s, m, args, below, meth, c, Q⟩ := E
  intro H locs la h1 h2 h3 h4
  exact lv_astore C.1 C.2.1 hd (lvs_has h1) hn rfl (fun la' h' => h H locs la' (lvs_of hn ho h') h2 h3 h4)
theorem J_iinc (C : Cx G E cc own nL R0) {i : Nat} {n : Int} {x v : Int32} (hd : decode cc pc = .ok (.iinc i n, 3)) (hl : ls[i]? = some (some (.int x))) (hv : x + Int32.ofInt n = v) (hn : i < ls.length) (ho : okst ls i = true) (h : J G E w kc ks (pc + 3) (ls.set i (some (.int v))) st σ) : J G E w kc ks pc ls st σ := by
  obtain ⟨p, e, R, s, m, args, below, meth, c, Q⟩ := E
  intro H locs la h1 h2 h3 h4
  obtain ⟨k, hk⟩ := List.getElem?_of_mem (al_mem.mpr hl)
  exact lv_iinc C.1 C.2.1 hd (lvs_has h1) hk hv hn rfl (fun la' h' => h H locs la' (lvs_of hn ho h') h2 h3 h4)
theorem J_iconst (C : Cx G E cc own nL R0) {n : Int} {v : Int32} (hd : decode cc pc = .ok (.iconst n, 1)) (hv : Int32.ofInt n = v) (h : J G E w kc ks (pc + 1) ls (.int v :: st) σ) : J G E w kc ks pc ls (st) σ := by
  obtain ⟨p, e, R, s, m, args, below, meth, c, Q⟩ := E
  intro H locs la h1 h2 h3 h4
  exact lv_iconst C.1 C.2.1 hd hv (h H locs la h1 h2 h3 h4)
theorem J_bipush (C : Cx G E cc own nL R0) {n : Int} {v : Int32} (hd : decode cc pc = .ok (.bipush n, 2)) (hv : (Int8.ofInt n).toInt32 = v) (h : J G E w kc ks (pc + 2) ls (.int v :: st) σ) : J G E w kc ks pc ls (st) σ := by
  obtain ⟨p, e, R, s, m, args, below, meth, c, Q⟩ := E
  intro H locs la h1 h2 h3 h4
  exact lv_bipush C.1 C.2.1 hd hv (h H locs la h1 h2 h3 h4)
theorem J_sipush (C : Cx G E cc own nL R0) {n : Int} {v : Int32} (hd : decode cc pc = .ok (.sipush n, 3)) (hv : (Int16.ofInt n).toInt32 = v) (h : J G E w kc ks (pc + 3) ls (.int v :: st) σ) : J G E w kc ks pc ls (st) σ := by
  obtain ⟨p, e, R, s, m, args, below, meth, c, Q⟩ := E
  intro H locs la h1 h2 h3 h4
  exact lv_sipush C.1 C.2.1 hd hv (h H locs la h1 h2 h3 h4)
theorem J_iadd (C : Cx G E cc own nL R0) {x y : Int32} (hd : decode cc pc = .ok (.iadd, 1)) (h : J G E w kc ks (pc + 1) ls (.int (x + y) :: st) σ) : J G E w kc ks pc ls (.int y :: .int x :: st) σ := by
  obtain ⟨p, e, R, s, m, args, below, meth, c, Q⟩ := E
  intro H locs la h1 h2 h3 h4
  exact lv_iadd C.1 C.2.1 hd (h H locs la h1 h2 h3 h4)
theorem J_isub (C : Cx G E cc own nL R0) {x y : Int32} (hd : decode cc pc = .ok (.isub, 1)) (h : J G E w kc ks (pc + 1) ls (.int (x - y) :: st) σ) : J G E w kc ks pc ls (.int y :: .int x :: st) σ := by
  obtain ⟨p, e, R, s, m, args, below, meth, c, Q⟩ := E
  intro H locs la h1 h2 h3 h4
  exact lv_isub C.1 C.2.1 hd (h H locs la h1 h2 h3 h4)
theorem J_imul (C : Cx G E cc own nL R0) {x y : Int32} (hd : decode cc pc = .ok (.imul, 1)) (h : J G E w kc ks (pc + 1) ls (.int (x * y) :: st) σ) : J G E w kc ks pc ls (.int y :: .int x :: st) σ := by
  obtain ⟨p, e, R, s, m, args, below, meth, c, Q⟩ := E
  intro H locs la h1 h2 h3 h4
  exact lv_imul C.1 C.2.1 hd (h H locs la h1 h2 h3 h4)
theorem J_iand (C : Cx G E cc own nL R0) {x y : Int32} (hd : decode cc pc = .ok (.iand, 1)) (h : J G E w kc ks (pc + 1) ls (.int (x &&& y) :: st) σ) : J G E w kc ks pc ls (.int y :: .int x :: st) σ := by
  obtain ⟨p, e, R, s, m, args, below, meth, c, Q⟩ := E
  intro H locs la h1 h2 h3 h4
  exact lv_iand C.1 C.2.1 hd (h H locs la h1 h2 h3 h4)
theorem J_ior (C : Cx G E cc own nL R0) {x y : Int32} (hd : decode cc pc = .ok (.ior, 1)) (h : J G E w kc ks (pc + 1) ls (.int (x ||| y) :: st) σ) : J G E w kc ks pc ls (.int y :: .int x :: st) σ := by
  obtain ⟨p, e, R, s, m, args, below, meth, c, Q⟩ := E
  intro H locs la h1 h2 h3 h4
  exact lv_ior C.1 C.2.1 hd (h H locs la h1 h2 h3 h4)
theorem J_idiv (C : Cx G E cc own nL R0) {x y : Int32} (hd : decode cc pc = .ok (.idiv, 1)) (hne : ¬ y = 0) (h : J G E w kc ks (pc + 1) ls (.int (x / y) :: st) σ) : J G E w kc ks pc ls (.int y :: .int x :: st) σ := by
  obtain ⟨p, e, R, s, m, args, below, meth, c, Q⟩ := E
  intro H locs la h1 h2 h3 h4
  exact lv_idiv C.1 C.2.1 hd hne (h H locs la h1 h2 h3 h4)
theorem J_irem (C : Cx G E cc own nL R0) {x y : Int32} (hd : decode cc pc = .ok (.irem, 1)) (hne : ¬ y = 0) (h : J G E w kc ks (pc + 1) ls (.int (x - x / y * y) :: st) σ) : J G E w kc ks pc ls (.int y :: .int x :: st) σ := by
  obtain ⟨p, e, R, s, m, args, below, meth, c, Q⟩ := E
  intro H locs la h1 h2 h3 h4
  exact lv_irem C.1 C.2.1 hd hne (h H locs la h1 h2 h3 h4)
theorem J_ladd (C : Cx G E cc own nL R0) {x y : Int64} (hd : decode cc pc = .ok (.ladd, 1)) (h : J G E w kc ks (pc + 1) ls (.long (x + y) :: st) σ) : J G E w kc ks pc ls (.long y :: .long x :: st) σ := by
  obtain ⟨p, e, R, s, m, args, below, meth, c, Q⟩ := E
  intro H locs la h1 h2 h3 h4
  exact lv_ladd C.1 C.2.1 hd (h H locs la h1 h2 h3 h4)
theorem J_lsub (C : Cx G E cc own nL R0) {x y : Int64} (hd : decode cc pc = .ok (.lsub, 1)) (h : J G E w kc ks (pc + 1) ls (.long (x - y) :: st) σ) : J G E w kc ks pc ls (.long y :: .long x :: st) σ := by
  obtain ⟨p, e, R, s, m, args, below, meth, c, Q⟩ := E
  intro H locs la h1 h2 h3 h4
  exact lv_lsub C.1 C.2.1 hd (h H locs la h1 h2 h3 h4)
theorem J_lmul (C : Cx G E cc own nL R0) {x y : Int64} (hd : decode cc pc = .ok (.lmul, 1)) (h : J G E w kc ks (pc + 1) ls (.long (x * y) :: st) σ) : J G E w kc ks pc ls (.long y :: .long x :: st) σ := by
  obtain ⟨p, e, R, s, m, args, below, meth, c, Q⟩ := E
  intro H locs la h1 h2 h3 h4
  exact lv_lmul C.1 C.2.1 hd (h H locs la h1 h2 h3 h4)
theorem J_i2l (C : Cx G E cc own nL R0) {x : Int32} (hd : decode cc pc = .ok (.i2l, 1)) (h : J G E w kc ks (pc + 1) ls (.long x.toInt64 :: st) σ) : J G E w kc ks pc ls (.int x :: st) σ := by
  obtain ⟨p, e, R, s, m, args, below, meth, c, Q⟩ := E
  intro H locs la h1 h2 h3 h4
  exact lv_i2l C.1 C.2.1 hd rfl (h H locs la h1 h2 h3 h4)
theorem J_i2b (C : Cx G E cc own nL R0) {x : Int32} (hd : decode cc pc = .ok (.i2b, 1)) (h : J G E w kc ks (pc + 1) ls (.int x.toInt8.toInt32 :: st) σ) : J G E w kc ks pc ls (.int x :: st) σ := by
  obtain ⟨p, e, R, s, m, args, below, meth, c, Q⟩ := E
  intro H locs la h1 h2 h3 h4
  exact lv_i2b C.1 C.2.1 hd rfl (h H locs la h1 h2 h3 h4)
theorem J_dup (C : Cx G E cc own nL R0) {v : Value} (hd : decode cc pc = .ok (.dup, 1)) (hv : v.category = 1) (h : J G E w kc ks (pc + 1) ls (v :: v :: st) σ) : J G E w kc ks pc ls (v :: st) σ := by
  obtain ⟨p, e, R, s, m, args, below, meth, c, Q⟩ := E
  intro H locs la h1 h2 h3 h4
  exact lv_dup C.1 C.2.1 hd hv (h H locs la h1 h2 h3 h4)
theorem J_pop (C : Cx G E cc own nL R0) {v : Value} (hd : decode cc pc = .ok (.pop, 1)) (hv : v.category = 1) (h : J G E w kc ks (pc + 1) ls (st) σ) : J G E w kc ks pc ls (v :: st) σ := by
  obtain ⟨p, e, R, s, m, args, below, meth, c, Q⟩ := E
  intro H locs la h1 h2 h3 h4
  exact lv_pop C.1 C.2.1 hd hv (h H locs la h1 h2 h3 h4)
theorem J_dup_x1 (C : Cx G E cc own nL R0) {v u : Value} (hd : decode cc pc = .ok (.dup_x1, 1)) (hv : v.category = 1) (hu : u.category = 1) (h : J G E w kc ks (pc + 1) ls (v :: u :: v :: st) σ) : J G E w kc ks pc ls (v :: u :: st) σ := by
  obtain ⟨p, e, R, s, m, args, below, meth, c, Q⟩ := E
  intro H locs la h1 h2 h3 h4
  exact lv_dup_x1 C.1 C.2.1 hd hv hu (h H locs la h1 h2 h3 h4)
theorem J_dup_x2 (C : Cx G E cc own nL R0) {v u t : Value} (hd : decode cc pc = .ok (.dup_x2, 1)) (hv : v.category = 1) (hu : u.category = 1) (ht : t.category = 1) (h : J G E w kc ks (pc + 1) ls (v :: u :: t :: v :: st) σ) : J G E w kc ks pc ls (v :: u :: t :: st) σ := by
  obtain ⟨p, e, R, s, m, args, below, meth, c, Q⟩ := E
  intro H locs la h1 h2 h3 h4
  exact lv_dup_x2 C.1 C.2.1 hd hv hu ht (h H locs la h1 h2 h3 h4)
theorem J_dup2 (C : Cx G E cc own nL R0) {v u : Value} (hd : decode cc pc = .ok (.dup2, 1)) (hv : v.category = 1) (hu : u.category = 1) (h : J G E w kc ks (pc + 1) ls (v :: u :: v :: u :: st) σ) : J G E w kc ks pc ls (v :: u :: st) σ := by
  obtain ⟨p, e, R, s, m, args, below, meth, c, Q⟩ := E
  intro H locs la h1 h2 h3 h4
  exact lv_dup2_11 C.1 C.2.1 hd hv hu (h H locs la h1 h2 h3 h4)
theorem J_lconst (C : Cx G E cc own nL R0) {n : Fin 2} {v : Int64} (hd : decode cc pc = .ok (.lconst n, 1)) (hv : Int64.ofNat (n : Nat) = v) (h : J G E w kc ks (pc + 1) ls (.long v :: st) σ) : J G E w kc ks pc ls (st) σ := by
  obtain ⟨p, e, R, s, m, args, below, meth, c, Q⟩ := E
  intro H locs la h1 h2 h3 h4
  exact lv_lconst C.1 C.2.1 hd hv (h H locs la h1 h2 h3 h4)
theorem J_ishr (C : Cx G E cc own nL R0) {x y : Int32} (hd : decode cc pc = .ok (.ishr, 1)) (h : J G E w kc ks (pc + 1) ls (.int (x >>> (y &&& 31)) :: st) σ) : J G E w kc ks pc ls (.int y :: .int x :: st) σ := by
  obtain ⟨p, e, R, s, m, args, below, meth, c, Q⟩ := E
  intro H locs la h1 h2 h3 h4
  exact lv_ishr C.1 C.2.1 hd (h H locs la h1 h2 h3 h4)
theorem J_ishl (C : Cx G E cc own nL R0) {x y : Int32} (hd : decode cc pc = .ok (.ishl, 1)) (h : J G E w kc ks (pc + 1) ls (.int (x <<< (y &&& 31)) :: st) σ) : J G E w kc ks pc ls (.int y :: .int x :: st) σ := by
  obtain ⟨p, e, R, s, m, args, below, meth, c, Q⟩ := E
  intro H locs la h1 h2 h3 h4
  exact lv_ishl C.1 C.2.1 hd (h H locs la h1 h2 h3 h4)
theorem J_iushr (C : Cx G E cc own nL R0) {x y : Int32} (hd : decode cc pc = .ok (.iushr, 1)) (h : J G E w kc ks (pc + 1) ls (.int (x.toUInt32 >>> (y.toUInt32 &&& Int32.toUInt32 31)).toInt32 :: st) σ) : J G E w kc ks pc ls (.int y :: .int x :: st) σ := by
  obtain ⟨p, e, R, s, m, args, below, meth, c, Q⟩ := E
  intro H locs la h1 h2 h3 h4
  exact lv_iushr C.1 C.2.1 hd rfl (h H locs la h1 h2 h3 h4)
theorem J_lcmp (C : Cx G E cc own nL R0) {x y : Int64} (hd : decode cc pc = .ok (.lcmp, 1)) (h : J G E w kc ks (pc + 1) ls (.int (lg_cmp x y) :: st) σ) : J G E w kc ks pc ls (.long y :: .long x :: st) σ := by
  obtain ⟨p, e, R, s, m, args, below, meth, c, Q⟩ := E
  intro H locs la h1 h2 h3 h4
  exact W.lcmp C.1 C.2.1 hd (h H locs la h1 h2 h3 h4)
theorem J_ineg (C : Cx G E cc own nL R0) {x : Int32} (hd : decode cc pc = .ok (.ineg, 1)) (h : J G E w kc ks (pc + 1) ls (.int (-x) :: st) σ) : J G E w kc ks pc ls (.int x :: st) σ := by
  obtain ⟨p, e, R, s, m, args, below, meth, c, Q⟩ := E
  intro H locs la h1 h2 h3 h4
  exact lv_ineg C.1 C.2.1 hd (h H locs la h1 h2 h3 h4)
theorem J_lload_n (C : Cx G E cc own nL R0) {k : Fin 4} {i : Nat} {x : Int64} (hd : decode cc pc = .ok (.lload_n k, 1)) (hi : (k : Nat) = i) (hl : ls[i]? = some (some (.long x))) (h : J G E w kc ks (pc + 1) ls (.long x :: st) σ) : J G E w kc ks pc ls st σ := by
  obtain ⟨p, e, R, s, m, args, below, meth, c, Q⟩ := E
  intro H locs la h1 h2 h3 h4
  exact lv_lload_n C.1 C.2.1 hd hi (lvs_get h1 hl) (h H locs la h1 h2 h3 h4)
theorem J_ldc (C : Cx G E cc own nL R0) {idx : Nat} {v : Int32} (hd : decode cc pc = .ok (.ldc idx, 2)) (hc : Cond.constant own idx v ∈ ALLW) (h : J G E w kc ks (pc + 2) ls (.int v :: st) σ) : J G E w kc ks pc ls st σ := by
  obtain ⟨p, e, R, s, m, args, below, meth, c, Q⟩ := E
  intro H locs la h1 h2 h3 h4
  exact lv_ldc C.1 C.2.1 C.2.2.2.1 (C.2.2.2.2.1 _ hc) hd (h H locs la h1 h2 h3 h4)
theorem J_ldc2 (C : Cx G E cc own nL R0) {idx : Nat} {v : Int64} (hd : decode cc pc = .ok (.ldc2_w idx, 3)) (hc : Cond.constantLong own idx v ∈ ALLW) (h : J G E w kc ks (pc + 3) ls (.long v :: st) σ) : J G E w kc ks pc ls st σ := by
  obtain ⟨p, e, R, s, m, args, below, meth, c, Q⟩ := E
  intro H locs la h1 h2 h3 h4
  exact lv_ldc2 C.1 C.2.1 C.2.2.2.1 (C.2.2.2.2.1 _ hc) hd (h H locs la h1 h2 h3 h4)
theorem J_goto (C : Cx G E cc own nL R0) {off : Int} {tgt : Nat} (hd : decode cc pc = .ok (.goto off, 3)) (ht : (pc : Int) + off = (tgt : Int)) (h : J G E w kc ks tgt ls st σ) : J G E w kc ks pc ls st σ := by
  obtain ⟨p, e, R, s, m, args, below, meth, c, Q⟩ := E
  intro H locs la h1 h2 h3 h4
  exact lv_goto C.1 C.2.1 hd ht (h H locs la h1 h2 h3 h4)
theorem J_if_eq (C : Cx G E cc own nL R0) {x : Int32} {off : Int} {tgt : Nat} (hd : decode cc pc = .ok (.ifCond .eq off, 3)) (ht : (pc : Int) + off = (tgt : Int)) (kt : x = 0 → J G E w kc ks tgt ls st σ) (kf : ¬ x = 0 → J G E w kc ks (pc + 3) ls st σ) : J G E w kc ks pc ls (.int x :: st) σ := by
  obtain ⟨p, e, R, s, m, args, below, meth, c, Q⟩ := E
  intro H locs la h1 h2 h3 h4
  exact lv_if_eq C.1 C.2.1 hd ht (fun q => kt q H locs la h1 h2 h3 h4) (fun q => kf q H locs la h1 h2 h3 h4)
theorem J_icmp_eq (C : Cx G E cc own nL R0) {x y : Int32} {off : Int} {tgt : Nat} (hd : decode cc pc = .ok (.if_icmp .eq off, 3)) (ht : (pc : Int) + off = (tgt : Int)) (kt : x = y → J G E w kc ks tgt ls st σ) (kf : ¬ x = y → J G E w kc ks (pc + 3) ls st σ) : J G E w kc ks pc ls (.int y :: .int x :: st) σ := by
  obtain ⟨p, e, R, s, m, args, below, meth, c, Q⟩ := E
  intro H locs la h1 h2 h3 h4
  exact lv_icmp_eq C.1 C.2.1 hd ht (fun q => kt q H locs la h1 h2 h3 h4) (fun q => kf q H locs la h1 h2 h3 h4)
theorem J_if_ne (C : Cx G E cc own nL R0) {x : Int32} {off : Int} {tgt : Nat} (hd : decode cc pc = .ok (.ifCond .ne off, 3)) (ht : (pc : Int) + off = (tgt : Int)) (kt : ¬ x = 0 → J G E w kc ks tgt ls st σ) (kf : x = 0 → J G E w kc ks (pc + 3) ls st σ) : J G E w kc ks pc ls (.int x :: st) σ := by
  obtain ⟨p, e, R, s, m, args, below, meth, c, Q⟩ := E
  intro H locs la h1 h2 h3 h4
  exact lv_if_ne C.1 C.2.1 hd ht (fun q => kt q H locs la h1 h2 h3 h4) (fun q => kf q H locs la h1 h2 h3 h4)
theorem J_icmp_ne (C : Cx G E cc own nL R0) {x y : Int32} {off : Int} {tgt : Nat} (hd : decode cc pc = .ok (.if_icmp .ne off, 3)) (ht : (pc : Int) + off = (tgt : Int)) (kt : ¬ x = y → J G E w kc ks tgt ls st σ) (kf : x = y → J G E w kc ks (pc + 3) ls st σ) : J G E w kc ks pc ls (.int y :: .int x :: st) σ := by
  obtain ⟨p, e, R, s, m, args, below, meth, c, Q⟩ := E
  intro H locs la h1 h2 h3 h4
  exact lv_icmp_ne C.1 C.2.1 hd ht (fun q => kt q H locs la h1 h2 h3 h4) (fun q => kf q H locs la h1 h2 h3 h4)
theorem J_if_lt (C : Cx G E cc own nL R0) {x : Int32} {off : Int} {tgt : Nat} (hd : decode cc pc = .ok (.ifCond .lt off, 3)) (ht : (pc : Int) + off = (tgt : Int)) (kt : x < 0 → J G E w kc ks tgt ls st σ) (kf : ¬ x < 0 → J G E w kc ks (pc + 3) ls st σ) : J G E w kc ks pc ls (.int x :: st) σ := by
  obtain ⟨p, e, R, s, m, args, below, meth, c, Q⟩ := E
  intro H locs la h1 h2 h3 h4
  exact lv_if_lt C.1 C.2.1 hd ht (fun q => kt q H locs la h1 h2 h3 h4) (fun q => kf q H locs la h1 h2 h3 h4)
theorem J_icmp_lt (C : Cx G E cc own nL R0) {x y : Int32} {off : Int} {tgt : Nat} (hd : decode cc pc = .ok (.if_icmp .lt off, 3)) (ht : (pc : Int) + off = (tgt : Int)) (kt : x < y → J G E w kc ks tgt ls st σ) (kf : ¬ x < y → J G E w kc ks (pc + 3) ls st σ) : J G E w kc ks pc ls (.int y :: .int x :: st) σ := by
  obtain ⟨p, e, R, s, m, args, below, meth, c, Q⟩ := E
  intro H locs la h1 h2 h3 h4
  exact lv_icmp_lt C.1 C.2.1 hd ht (fun q => kt q H locs la h1 h2 h3 h4) (fun q => kf q H locs la h1 h2 h3 h4)
theorem J_if_ge (C : Cx G E cc own nL R0) {x : Int32} {off : Int} {tgt : Nat} (hd : decode cc pc = .ok (.ifCond .ge off, 3)) (ht : (pc : Int) + off = (tgt : Int)) (kt : 0 ≤ x → J G E w kc ks tgt ls st σ) (kf : ¬ 0 ≤ x → J G E w kc ks (pc + 3) ls st σ) : J G E w kc ks pc ls (.int x :: st) σ := by
  obtain ⟨p, e, R, s, m, args, below, meth, c, Q⟩ := E
  intro H locs la h1 h2 h3 h4
  exact lv_if_ge C.1 C.2.1 hd ht (fun q => kt q H locs la h1 h2 h3 h4) (fun q => kf q H locs la h1 h2 h3 h4)
theorem J_icmp_ge (C : Cx G E cc own nL R0) {x y : Int32} {off : Int} {tgt : Nat} (hd : decode cc pc = .ok (.if_icmp .ge off, 3)) (ht : (pc : Int) + off = (tgt : Int)) (kt : y ≤ x → J G E w kc ks tgt ls st σ) (kf : ¬ y ≤ x → J G E w kc ks (pc + 3) ls st σ) : J G E w kc ks pc ls (.int y :: .int x :: st) σ := by
  obtain ⟨p, e, R, s, m, args, below, meth, c, Q⟩ := E
  intro H locs la h1 h2 h3 h4
  exact lv_icmp_ge C.1 C.2.1 hd ht (fun q => kt q H locs la h1 h2 h3 h4) (fun q => kf q H locs la h1 h2 h3 h4)
theorem J_if_gt (C : Cx G E cc own nL R0) {x : Int32} {off : Int} {tgt : Nat} (hd : decode cc pc = .ok (.ifCond .gt off, 3)) (ht : (pc : Int) + off = (tgt : Int)) (kt : 0 < x → J G E w kc ks tgt ls st σ) (kf : ¬ 0 < x → J G E w kc ks (pc + 3) ls st σ) : J G E w kc ks pc ls (.int x :: st) σ := by
  obtain ⟨p, e, R, s, m, args, below, meth, c, Q⟩ := E
  intro H locs la h1 h2 h3 h4
  exact lv_if_gt C.1 C.2.1 hd ht (fun q => kt q H locs la h1 h2 h3 h4) (fun q => kf q H locs la h1 h2 h3 h4)
theorem J_icmp_gt (C : Cx G E cc own nL R0) {x y : Int32} {off : Int} {tgt : Nat} (hd : decode cc pc = .ok (.if_icmp .gt off, 3)) (ht : (pc : Int) + off = (tgt : Int)) (kt : y < x → J G E w kc ks tgt ls st σ) (kf : ¬ y < x → J G E w kc ks (pc + 3) ls st σ) : J G E w kc ks pc ls (.int y :: .int x :: st) σ := by
  obtain ⟨p, e, R, s, m, args, below, meth, c, Q⟩ := E
  intro H locs la h1 h2 h3 h4
  exact lv_icmp_gt C.1 C.2.1 hd ht (fun q => kt q H locs la h1 h2 h3 h4) (fun q => kf q H locs la h1 h2 h3 h4)
theorem J_if_le (C : Cx G E cc own nL R0) {x : Int32} {off : Int} {tgt : Nat} (hd : decode cc pc = .ok (.ifCond .le off, 3)) (ht : (pc : Int) + off = (tgt : Int)) (kt : x ≤ 0 → J G E w kc ks tgt ls st σ) (kf : ¬ x ≤ 0 → J G E w kc ks (pc + 3) ls st σ) : J G E w kc ks pc ls (.int x :: st) σ := by
  obtain ⟨p, e, R, s, m, args, below, meth, c, Q⟩ := E
  intro H locs la h1 h2 h3 h4
  exact lv_if_le C.1 C.2.1 hd ht (fun q => kt q H locs la h1 h2 h3 h4) (fun q => kf q H locs la h1 h2 h3 h4)
theorem J_icmp_le (C : Cx G E cc own nL R0) {x y : Int32} {off : Int} {tgt : Nat} (hd : decode cc pc = .ok (.if_icmp .le off, 3)) (ht : (pc : Int) + off = (tgt : Int)) (kt : x ≤ y → J G E w kc ks tgt ls st σ) (kf : ¬ x ≤ y → J G E w kc ks (pc + 3) ls st σ) : J G E w kc ks pc ls (.int y :: .int x :: st) σ := by
  obtain ⟨p, e, R, s, m, args, below, meth, c, Q⟩ := E
  intro H locs la h1 h2 h3 h4
  exact lv_icmp_le C.1 C.2.1 hd ht (fun q => kt q H locs la h1 h2 h3 h4) (fun q => kf q H locs la h1 h2 h3 h4)
theorem J_cong {pc' : Nat} {ls' : List (Option Value)} {st' : List Value} {σ' : Mem} (h : J G E w kc ks pc' ls' st' σ') (h1 : pc = pc' := by rfl) (h2 : ls = ls' := by rfl) (h3 : st = st' := by rfl) (h4 : σ = σ' := by rfl) : J G E w kc ks pc ls st σ := by
  subst h1; subst h2; subst h3; subst h4; exact h
/-- fewer locals are known -/
def lsub : List (Option Value) → List (Option Value) → Prop
  | [], [] => True
  | a :: l, b :: l' => (b = none ∨ a = b) ∧ lsub l l'
  | _, _ => False
theorem lsub_len : ∀ {l l' : List (Option Value)}, lsub l l' → l.length = l'.length
  | [], [], _ => rfl
  | _ :: _, _ :: _, h => by rw [List.length_cons, List.length_cons, lsub_len h.2]
  | [], _ :: _, h => h.elim
  | _ :: _, [], h => h.elim
theorem lsub_get : ∀ {l l' : List (Option Value)}, lsub l l' → ∀ {i : Nat} {v : Value}, l'[i]? = some (some v) → l[i]? = some (some v)
  | [], [], _, _, _, h => h
  | a :: l, b :: l', hs, 0, v, h => by
    simp at h ⊢
    rcases hs.1 with h1 | h1
    · rw [h1] at h; cases h
    · rw [h1]; exact h
  | a :: l, b :: l', hs, i + 1, v, h => by
    simp at h ⊢
    exact lsub_get hs.2 h
  | [], _ :: _, hs, _, _, _ => hs.elim
  | _ :: _, [], hs, _, _, _ => hs.elim
theorem J_less {ls' : List (Option Value)} (hs : lsub ls ls') (h : J G E w kc ks pc ls' st σ) : J G E w kc ks pc ls st σ := by
  obtain ⟨p, e, R, s, m, args, below, meth, c, Q⟩ := E
  intro H locs la h1 h2 h3 h4
  exact h H locs la ⟨h1.1.trans (lsub_len hs), h1.2.1, fun i v hi => h1.2.2 i v (lsub_get hs hi)⟩ h2 h3 h4
theorem J_widen {k n : Nat} (h1 : kc ≤ k) (h2 : ks ≤ n) (h : J G E w k n pc ls st σ) : J G E w kc ks pc ls st σ := by
  obtain ⟨p, e, R, s, m, args, below, meth, c, Q⟩ := E
  intro H locs la q1 q2 q3 q4
  exact W.widen h1 h2 (h H locs la q1 q2 q3 q4)
-- returns
variable {Q : Lay → Option Value → Mem → Prop} {Qx : Lay → String → Mem → Prop} {mc ms : Nat}
theorem J_ireturn (C : Cx G E cc own nL R0) (hR : RetC G E Q Qx mc ms (some .int)) {x : Int32} (hd : decode cc pc = .ok (.ireturn, 1)) (hc : kc ≤ mc) (hs : ks ≤ ms) (h : Q w (some (.int x)) σ) : J G E w kc ks pc ls [.int x] σ := by
  obtain ⟨p, e, R, s, m, args, below, meth, c, Qf⟩ := E
  obtain ⟨hr, rfl⟩ := hR
  intro H locs la h1 h2 h3 h4
  exact W.widen hc hs (vx_ret (W.iret C.1 C.2.1 hr (fun t ht hW => ⟨⟨w, _, σ, rfl, h, by rw [ht]; exact h2, h3⟩, h4.F ht⟩) h4.2.2 hd C.2.2.2.2.2.2.1))
theorem J_zreturn (C : Cx G E cc own nL R0) (hR : RetC G E Q Qx mc ms (some .boolean)) {x : Int32} (hd : decode cc pc = .ok (.ireturn, 1)) (hc : kc ≤ mc) (hs : ks ≤ ms) (hx : x = 0 ∨ x = 1) (h : Q w (some (.int x)) σ) : J G E w kc ks pc ls [.int x] σ := by
  obtain ⟨p, e, R, s, m, args, below, meth, c, Qf⟩ := E
  obtain ⟨hr, rfl⟩ := hR
  intro H locs la h1 h2 h3 h4
  refine W.widen hc hs (vx_ret (W.zret C.1 C.2.1 hr ?_ (fun t ht hW => ⟨⟨w, _, σ, rfl, h, by rw [ht]; exact h2, h3⟩, h4.F ht⟩) h4.2.2 hd C.2.2.2.2.2.2.1))
  rcases hx with rfl | rfl <;> rfl
theorem J_creturn (C : Cx G E cc own nL R0) {ty : FieldType} (hR : RetC G E Q Qx mc ms (some ty)) {x : Int32} (hd : decode cc pc = .ok (.ireturn, 1)) (hc : kc ≤ mc) (hs : ks ≤ ms) (hx : narrow ty (.int x) = .int x) (h : Q w (some (.int x)) σ) : J G E w kc ks pc ls [.int x] σ := by
  obtain ⟨p, e, R, s, m, args, below, meth, c, Qf⟩ := E
  obtain ⟨hr, rfl⟩ := hR
  intro H locs la h1 h2 h3 h4
  exact W.widen hc hs (vx_ret (W.zret C.1 C.2.1 hr hx (fun t ht hW => ⟨⟨w, _, σ, rfl, h, by rw [ht]; exact h2, h3⟩, h4.F ht⟩) h4.2.2 hd C.2.2.2.2.2.2.1))
theorem J_return (C : Cx G E cc own nL R0) (hR : RetC G E Q Qx mc ms none) (hd : decode cc pc = .ok (.return_, 1)) (hc : kc ≤ mc) (hs : ks ≤ ms) (h : Q w none σ) : J G E w kc ks pc ls [] σ := by
  obtain ⟨p, e, R, s, m, args, below, meth, c, Qf⟩ := E
  obtain ⟨hr, rfl⟩ := hR
  intro H locs la h1 h2 h3 h4
  exact W.widen hc hs (vx_ret (W.vret C.1 C.2.1 hr (fun t ht hW => ⟨⟨w, _, σ, rfl, h, by rw [ht]; exact h2, h3⟩, h4.F ht⟩) h4.2.2 hd C.2.2.2.2.2.2.1))
theorem J_areturn (C : Cx G E cc own nL R0) {cn : String} (hR : RetC G E Q Qx mc ms (some (.object cn))) {x : Nat} (hd : decode cc pc = .ok (.areturn, 1)) (hc : kc ≤ mc) (hs : ks ≤ ms) (h : Q w (some (.ref x)) σ) : J G E w kc ks pc ls [.ref x] σ := by
  obtain ⟨p, e, R, s, m, args, below, meth, c, Qf⟩ := E
  obtain ⟨hr, rfl⟩ := hR
  intro H locs la h1 h2 h3 h4
  exact W.widen hc hs (vx_ret (W.aret C.1 C.2.1 hr (Or.inl ⟨_, rfl⟩) (Or.inr ⟨_, rfl⟩) (fun t ht hW => ⟨⟨w, _, σ, rfl, h, by rw [ht]; exact h2, h3⟩, h4.F ht⟩) h4.2.2 hd C.2.2.2.2.2.2.1))
/-- an exception that nobody here takes -/
theorem JX_out {ret : Option FieldType} (C : Cx G E cc own nL R0) (hR : RetC G E Q Qx mc ms ret) (hN : NoTab E) {X : String} (hc : kc ≤ mc) (hs : ks ≤ ms) (h : Qx w X σ) : JX G E w kc ks pc ls st σ X := by
  obtain ⟨p, e, R, s, m, args, below, meth, c, Qf⟩ := E
  obtain ⟨hr, rfl⟩ := hR
  intro H locs la q ce h1 h2 h3 h4 h5 h6 h7
  exact vx_out (fun x hx => (hN x hx).elim) C.2.2.2.2.2.2.1 h5 h6 h7 (fun t ht hA => ⟨⟨w, σ, h, by rw [ht]; exact h2, h3⟩, h4.F ht⟩) h4.2.2 hc hs
end JR
