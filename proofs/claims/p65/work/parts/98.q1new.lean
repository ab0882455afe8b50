/-! ===== BEGIN a constructor that throws (launches without stack traces) ===== -/
section VXIA
variable {p : Program} {l : Launch} {e : Env} {R : Room} {s : State} {m : MethodId} {args : Array Value} {below : List Frame} {meth : Method} {c : Code} {T : State} {locs : List Loc} {cells slots : Nat}
theorem vx_callI (X : Stand p l e R s m args below meth c T locs cells slots) (hexec : p.tables.exec = Jvm.exec) {own : String} {index : Nat} {y : MethodName} {bytes : ByteArray} {maxL : Nat}
    (hown : s.vm.findClass own = some m.cls) (hy1 : y.name = "<init>") (hlink : (Cond.methodLink own index y).before args s = true) (hinst : (Cond.instanceMethod y).before args s = true)
    (hcode : (Cond.code y bytes maxL none).before args s = true) (hy : y.cls ≠ "java/lang/invoke/MethodHandle" ∧ y.cls ≠ "java/lang/invoke/VarHandle")
    {W9 : Nat} {Pre : Pt → Array Value → Prop} {Post : Pt → Array Value → Option Value → Pt → Prop} {PostX : Pt → Array Value → Addr → Pt → Prop} (hK : vx_Back l R p e below s args y 3 W9 Pre Post PostX)
    {g : JFrame} (hg : g.method = m) (hsize : g.locals.size = c.maxLocals) {a : Addr} {argsL rest : List Value} (hlen : ∀ sig, parseMethodDescriptor y.desc = some sig → argsL.length = sig.parameters.length)
    (hstack : g.stack = argsL.reverse ++ .ref a :: rest) (hW : 2 * g.monitorRoom + (rest.map fun v => v.category).sum ≤ W9) (hdg : decode c.code g.pc = .ok (.invokespecial index, 3))
    (hpre : ∀ vm₁, s.WarmedH vm₁ → Pre ⟨T.setVm vm₁, locs, cells, slots⟩ (Value.ref a :: argsL).toArray) :
    (∃ (v : Option Value) (vm₁ : Vm) (B : Pt), s.WarmedH vm₁ ∧ Stand p l e R s m args below meth c B.U B.locs B.cells B.slots ∧ Post ⟨T.setVm vm₁, locs, cells, slots⟩ (Value.ref a :: argsL).toArray v B ∧
      ∀ target, Steps p.tables e below (B.U.setTop { g with pc := g.pc + 3, stack := v.toList ++ rest }) target → Steps p.tables e below (T.setTop g) target) ∨
    (∃ (q : Addr) (vm₁ : Vm) (B : Pt), s.WarmedH vm₁ ∧ Stand p l e R s m args below meth c B.U B.locs B.cells B.slots ∧ PostX ⟨T.setVm vm₁, locs, cells, slots⟩ (Value.ref a :: argsL).toArray q B ∧
      Steps p.tables e below (T.setTop g) ((B.U.setTop { g with stack := rest }).pushFrame (.throwing q))) := by
  subst hg
  have hpl : e.platform.magicAccessors = ({} : Platform).magicAccessors := by rw [X.admits.platform]
  obtain ⟨mk, methM, cM, kP, vm₁, hnamed, hmethM, hcodeM, -, hlocalsM, -, hkP, -, hW₁, hstep₁⟩ := Steps.initColdArgs (e := e) X.here hexec X.warmed hpl hown hy1 hy hlink hinst hcode (f := g) rfl hlen hstack hdg
  have X₁ := X.noted hW₁
  rcases hK g.method meth c ⟨T.setVm vm₁, locs, cells, slots⟩ { g with stack := rest } (.invokespecial index) mk (Value.ref a :: argsL).toArray X₁ rfl hsize hdg hW (X₁.named hnamed) (hpre vm₁ X₁.warmed) with ⟨v, B, X', hpost, hsteps⟩ | ⟨q, B, X', hpost, hsteps⟩
  · exact Or.inl ⟨v, vm₁, B, X₁.warmed, X', hpost, fun target h => hstep₁ _ fun acts => by rw [doInvoke_state]; exact hsteps.trans h⟩
  · exact Or.inr ⟨q, vm₁, B, X₁.warmed, X', hpost, hstep₁ _ fun acts => by rw [doInvoke_state]; exact hsteps⟩
end VXIA
section VXIB
variable {p : Program} {l : Launch} {e : Env} {R : Room} {s : State} {m : MethodId} {args : Array Value} {below : List Frame} {meth : Method} {c : Code} {H : Heap} {locs : List Loc} {cells slots : Nat}
variable {y : MethodName} {bytes cc : ByteArray} {maxL nL mc ms n index : Nat} {ret : Option FieldType} {ws : List Cond} {rm : Room} {Pc : Array Value → State → Prop} {Qc : Array Value → State → Outcome → State → Prop} {XC : String → State → State → Prop} {free : Addr → Prop} {Ts : List Cond} {own C : String} {b : Addr} {As rest : List Value} {g : JFrame}
theorem vx_runI (S : CallFix p m c cc nL s args Ts own) (hM : vx_Met l y ws rm Pc Qc XC mc ms free) (cw : CallB R s args own index y bytes maxL none ws rm mc ms n ∧ y.name = "<init>" ∧ (Cond.instanceMethod y).before args s = true) (hp : PreS s H Pc (.ref b :: As))
    (hg : g.method = m) (hn : As.length = n) (hsize : g.locals.size = nL) (hstack : g.stack = As.reverse ++ .ref b :: rest) (hW : 2 * g.monitorRoom + (rest.map fun v => v.category).sum ≤ 8) (hdg : decode cc g.pc = .ok (.invokespecial index, 3)) (hf : cells + mc ≤ R.cells ∧ slots + ms ≤ R.slots) :
    vx_Run p l e R s m args below meth c H locs cells slots mc ms g rest (Qc (Value.ref b :: As).toArray) XC free := by
  have hK : vx_Back l R p e below s args y 3 8 (PreOf R mc ms Pc) (PostOf Qc mc ms free) (vx_Post XC mc ms free) := vx_callBack cw.1 hM hp.1
  obtain ⟨⟨-, -, -, -, -, -, hcode, -, hy, hlen, hl⟩, hy1, hin⟩ := cw
  obtain ⟨hx, hb, hml, ho, -⟩ := S
  have hPc := hp.2
  intro T hT X
  rcases vx_callI X hx (bytes := bytes) (maxL := maxL) ho hy1 hl hin hcode hy hK hg (hsize.trans hml.symm) (a := b) (argsL := As) (rest := rest) (fun sig h => hn.trans (hlen sig h)) hstack hW (by rw [hb]; exact hdg)
    (fun vm₁ hW₁ => ⟨hf.1, hf.2, hPc (T.setVm vm₁) hT hW₁⟩) with ⟨v, vm₁, ⟨U', l2, c2, s2⟩, hW₁, X', ⟨g', mk, t, L, e1, e2, hq, h1, hL, h2, h3⟩, st⟩ | ⟨q, vm₁, ⟨U', l2, c2, s2⟩, hW₁, X', ⟨g', mk, t, L, E, ce, e1, e2, hq, hce, hcv, hcl, h1, hL, h2, h3⟩, st⟩
  · dsimp only [Pt.U, Pt.locs, Pt.cells, Pt.slots] at X' e1 e2 h1 h2 h3 st
    subst h1; subst h2; subst h3
    exact Or.inl ⟨v, (T.setVm vm₁).calling g' mk (Value.ref b :: As).toArray, t, U', L, hT, X', hL, e1, e2, hq, st⟩
  · dsimp only [Pt.U, Pt.locs, Pt.cells, Pt.slots] at X' e1 e2 h1 h2 h3 st hcl
    subst h1; subst h2; subst h3
    exact Or.inr ⟨q, (T.setVm vm₁).calling g' mk (Value.ref b :: As).toArray, t, U', L, E, ce, hT, X', hL, e1, e2, hq, hce, hcv, vx_cls hW₁ hcl, st⟩
end VXIB
/-! ===== END ===== -/
/-! ===== BEGIN a private constructor of a nest mate that throws ===== -/
section VXIC
variable {p : Program} {l : Launch} {e : Env} {R : Room} {s : State} {m : MethodId} {args : Array Value} {below : List Frame} {meth : Method} {c : Code} {T : State} {locs : List Loc} {cells slots : Nat}
theorem vx_callIN (X : Stand p l e R s m args below meth c T locs cells slots) (hexec : p.tables.exec = Jvm.exec) {own : String} {index : Nat} {host : String} {y : MethodName} {bytes : ByteArray} {maxL : Nat}
    (hown : s.vm.findClass own = some m.cls) (hy1 : y.name = "<init>") (hlink : (Cond.methodLinkNest own index y host).before args s = true) (hinst : (Cond.instanceMethod y).before args s = true)
    (hcode : (Cond.code y bytes maxL none).before args s = true) (hy : y.cls ≠ "java/lang/invoke/MethodHandle" ∧ y.cls ≠ "java/lang/invoke/VarHandle")
    {W9 : Nat} {Pre : Pt → Array Value → Prop} {Post : Pt → Array Value → Option Value → Pt → Prop} {PostX : Pt → Array Value → Addr → Pt → Prop} (hK : vx_Back l R p e below s args y 3 W9 Pre Post PostX)
    {g : JFrame} (hg : g.method = m) (hsize : g.locals.size = c.maxLocals) {a : Addr} {argsL rest : List Value} (hlen : ∀ sig, parseMethodDescriptor y.desc = some sig → argsL.length = sig.parameters.length)
    (hstack : g.stack = argsL.reverse ++ .ref a :: rest) (hW : 2 * g.monitorRoom + (rest.map fun v => v.category).sum ≤ W9) (hdg : decode c.code g.pc = .ok (.invokespecial index, 3))
    (hpre : ∀ vm₁, s.WarmedH vm₁ → Pre ⟨T.setVm vm₁, locs, cells, slots⟩ (Value.ref a :: argsL).toArray) :
    (∃ (v : Option Value) (vm₁ : Vm) (B : Pt), s.WarmedH vm₁ ∧ Stand p l e R s m args below meth c B.U B.locs B.cells B.slots ∧ Post ⟨T.setVm vm₁, locs, cells, slots⟩ (Value.ref a :: argsL).toArray v B ∧
      ∀ target, Steps p.tables e below (B.U.setTop { g with pc := g.pc + 3, stack := v.toList ++ rest }) target → Steps p.tables e below (T.setTop g) target) ∨
    (∃ (q : Addr) (vm₁ : Vm) (B : Pt), s.WarmedH vm₁ ∧ Stand p l e R s m args below meth c B.U B.locs B.cells B.slots ∧ PostX ⟨T.setVm vm₁, locs, cells, slots⟩ (Value.ref a :: argsL).toArray q B ∧
      Steps p.tables e below (T.setTop g) ((B.U.setTop { g with stack := rest }).pushFrame (.throwing q))) := by
  subst hg
  have hpl : e.platform.magicAccessors = ({} : Platform).magicAccessors := by rw [X.admits.platform]
  obtain ⟨mk, methM, cM, kP, vm₁, hnamed, hmethM, hcodeM, -, hlocalsM, -, hkP, -, hW₁, hstep₁⟩ := Steps.initColdArgsNest (e := e) X.here hexec X.warmed hpl hown hy1 hy hlink hinst hcode (f := g) rfl hlen hstack hdg
  have X₁ := X.noted hW₁
  rcases hK g.method meth c ⟨T.setVm vm₁, locs, cells, slots⟩ { g with stack := rest } (.invokespecial index) mk (Value.ref a :: argsL).toArray X₁ rfl hsize hdg hW (X₁.named hnamed) (hpre vm₁ X₁.warmed) with ⟨v, B, X', hpost, hsteps⟩ | ⟨q, B, X', hpost, hsteps⟩
  · exact Or.inl ⟨v, vm₁, B, X₁.warmed, X', hpost, fun target h => hstep₁ _ fun acts => by rw [doInvoke_state]; exact hsteps.trans h⟩
  · exact Or.inr ⟨q, vm₁, B, X₁.warmed, X', hpost, hstep₁ _ fun acts => by rw [doInvoke_state]; exact hsteps⟩
end VXIC
section VXID
variable {p : Program} {l : Launch} {e : Env} {R : Room} {s : State} {m : MethodId} {args : Array Value} {below : List Frame} {meth : Method} {c : Code} {H : Heap} {locs : List Loc} {cells slots : Nat}
theorem vx_runIN {y : MethodName} {bytes cc : ByteArray} {maxL nL mc ms n index : Nat} {ws : List Cond} {rm : Room} {Pc : Array Value → State → Prop} {Qc : Array Value → State → Outcome → State → Prop} {XC : String → State → State → Prop} {free : Addr → Prop} {Ts : List Cond} {own host : String} {b : Addr} {As rest : List Value} {g : JFrame}
    (S : CallFix p m c cc nL s args Ts own) (hM : vx_Met l y ws rm Pc Qc XC mc ms free) (cw : va_CN R s args own index y host bytes maxL none ws rm mc ms n ∧ y.name = "<init>" ∧ (Cond.instanceMethod y).before args s = true) (hp : PreS s H Pc (.ref b :: As))
    (hg : g.method = m) (hn : As.length = n) (hsize : g.locals.size = nL) (hstack : g.stack = As.reverse ++ .ref b :: rest) (hW : 2 * g.monitorRoom + (rest.map fun v => v.category).sum ≤ 8) (hdg : decode cc g.pc = .ok (.invokespecial index, 3)) (hf : cells + mc ≤ R.cells ∧ slots + ms ≤ R.slots) :
    vx_Run p l e R s m args below meth c H locs cells slots mc ms g rest (Qc (Value.ref b :: As).toArray) XC free := by
  obtain ⟨⟨⟨hrc, hrs, hfr, hlo, hws, hcw⟩, hcode, hini, hy, hlen, hl⟩, hx1, hx2⟩ := cw
  have hK : vx_Back l R p e below s args y 3 8 (PreOf R mc ms Pc) (PostOf Qc mc ms free) (vx_Post XC mc ms free) := vx_back (bytes := bytes) (maxL := maxL) (ret := none) hM hp.1 hrc hrs hfr hlo hws hcw (fun a' U hW => word_at hW (Or.inl (by first | rfl | simp [Cond.onTables, Cond.keeps, Cond.steady])) hini)
  obtain ⟨hx, hb, hml, ho, -⟩ := S
  have hPc := hp.2
  intro T hT X
  rcases vx_callIN X hx (bytes := bytes) (maxL := maxL) ho hx1 hl hx2 hcode hy hK hg (hsize.trans hml.symm) (a := b) (argsL := As) (rest := rest) (fun sig h => hn.trans (hlen sig h)) hstack hW (by rw [hb]; exact hdg)
    (fun vm₁ hW₁ => ⟨hf.1, hf.2, hPc (T.setVm vm₁) hT hW₁⟩) with ⟨v, vm₁, ⟨U', l2, c2, s2⟩, hW₁, X', ⟨g', mk, t, L, e1, e2, hq, h1, hL, h2, h3⟩, st⟩ | ⟨q, vm₁, ⟨U', l2, c2, s2⟩, hW₁, X', ⟨g', mk, t, L, E, ce, e1, e2, hq, hce, hcv, hcl, h1, hL, h2, h3⟩, st⟩
  · dsimp only [Pt.U, Pt.locs, Pt.cells, Pt.slots] at X' e1 e2 h1 h2 h3 st
    subst h1; subst h2; subst h3
    exact Or.inl ⟨v, (T.setVm vm₁).calling g' mk (Value.ref b :: As).toArray, t, U', L, hT, X', hL, e1, e2, hq, st⟩
  · dsimp only [Pt.U, Pt.locs, Pt.cells, Pt.slots] at X' e1 e2 h1 h2 h3 st hcl
    subst h1; subst h2; subst h3
    exact Or.inr ⟨q, (T.setVm vm₁).calling g' mk (Value.ref b :: As).toArray, t, U', L, E, ce, hT, X', hL, e1, e2, hq, hce, hcv, vx_cls hW₁ hcl, st⟩
end VXID
/-! ===== END ===== -/

/-! ===== making objects ===== -/
def IsIn (E : Ctx) : Prop := match E with | (_, _, _, _, _, _, _, meth, _, _) => meth.name = "<init>"
def AOf (E : Ctx) : Prop := match E with | (_, _, _, s, _, _, _, _, _, _) => va_AO "KitePermits$Office" s
def PreMTO (G : GC) (w : Lay) (σ : Mem) (As : List Value) : Array Value → State → Prop := fun v U => PreMT G w σ As v U ∧ va_AO "KitePermits$Office" U
/-- a contract of a method that makes offices -/
def MTO (G : GC) (y : MethodName) (ws : List Cond) (rm : Room) (mc ms : Nat) (w : Lay) (σ : Mem) (As : List Value) (Q : Lay → Option Value → Mem → Prop) (Qx : Lay → String → Mem → Prop) : Prop :=
  vx_Met G.1 y ws rm (PreMTO G w σ As) (QcMT G Q) (XcMT G Qx) mc ms (Asz G)
theorem mt_startO {G : GC} {y : MethodName} {cc : ByteArray} {nL : Nat} {ret : Option FieldType} {rm : Room} {mc ms : Nat} {w : Lay} {σ : Mem} {As : List Value} {Q : Lay → Option Value → Mem → Prop} {Qx : Lay → String → Mem → Prop} {own : String}
    (hy : plainName y.cls = true) (hown : y.cls = own) (hsz : (lg_sl As).length ≤ nL)
    (body : ∀ E : Ctx, Cx G E cc own nL rm → RetC G E Q Qx mc ms ret → NoTab E → AOf E → (y.name = "<init>" → IsIn E) → J G E w 0 0 0 (ent As nL) [] σ) : MTO G y (cw y cc nL ret) rm mc ms w σ As Q Qx := by
  refine vx_ofW (cc := cc) (maxL := nL) (ret := ret) hy rfl ?_
  intro p e s m args below meth c s₁ B hml ht hp
  obtain ⟨⟨rfl, hP, hD, hE⟩, hAO⟩ := hp
  have hts : ∀ w ∈ cw y cc nL ret, w.before As.toArray s = true := atoms_spec (ws := cw y cc nL ret) B.pre
  have hown' : s.vm.findClass own = some m.cls := by rw [← hown]; exact findClass_of_methodNamed B.named
  have h := body (p, e, rm, s, m, As.toArray, below, meth, c, vx_MQ below (QcMT G Q) (XcMT G Qx) As.toArray s mc ms (Asz G)) ⟨B.exec, B.bytes, hml, hown', fun w hw => hts w (List.mem_cons_of_mem _ hw), rfl, B.notSynchronized, hE⟩ ⟨B.returns, rfl⟩ ht hAO (fun q => by
    show meth.name = _
    rw [← q]
    exact (name_of_methodNamed B.named B.method).1)
  rw [lg_entry_eq]
  have hl := lv_entry As (n := nL) hsz
  refine h s.heap [] _ ⟨hl.1.trans (ent_len As nL hsz).symm, hl.2.1, fun i v hi => ?_⟩ hP hD va_S.rf
  have h3 := hl.2.2 _ (ent_get As nL 0 i v hsz hi)
  rw [Nat.zero_add] at h3
  exact h3
/-- a new label; a reference field set -/
def wN (w : Lay) (o c a : Nat) : Lay := (w.1 ++ [(o, c)], fun x y => if x = o ∧ y = c then a else w.2.1 x y, w.2.2)
def wR (w : Lay) (o c j a : Nat) : Lay := (w.1, w.2.1, fun x y i => if x = o ∧ y = c ∧ i = j then some a else w.2.2 x y i)
/-- w' has new cells S, and other references at R alone -/
def XT (S : Nat → Nat → Prop) (R : Nat → Nat → Nat → Prop) (w w' : Lay) : Prop :=
  (∀ x y, (x, y) ∈ w'.1 ↔ (x, y) ∈ w.1 ∨ S x y) ∧ (∀ x y, (x, y) ∈ w.1 → w'.2.1 x y = w.2.1 x y) ∧ ∀ x y i, ¬ R x y i → w'.2.2 x y i = w.2.2 x y i
theorem XT_rf {w : Lay} : XT (fun _ y => y < 0) (fun _ _ i => i < 0) w w := ⟨fun _ _ => ⟨Or.inl, fun h => h.elim id (fun q => absurd q (Nat.not_lt_zero _))⟩, fun _ _ _ => rfl, fun _ _ _ _ => rfl⟩
theorem XT_tr {S S' : Nat → Nat → Prop} {R R' : Nat → Nat → Nat → Prop} {w w1 w2 : Lay} (h : XT S R w w1) (h2 : XT S' R' w1 w2) : XT (fun x y => S x y ∨ S' x y) (fun x y i => R x y i ∨ R' x y i) w w2 :=
  ⟨fun x y => by rw [h2.1, h.1, or_assoc], fun x y q => (h2.2.1 x y ((h.1 x y).mpr (Or.inl q))).trans (h.2.1 x y q), fun x y i q => (h2.2.2 x y i (fun g => q (Or.inr g))).trans (h.2.2 x y i (fun g => q (Or.inl g)))⟩
theorem XT_mono {S S' : Nat → Nat → Prop} {R R' : Nat → Nat → Nat → Prop} {w w' : Lay} (h : XT S R w w') (hS : ∀ x y, S x y ↔ S' x y) (hR : ∀ x y i, R x y i → R' x y i) : XT S' R' w w' :=
  ⟨fun x y => by rw [h.1, hS], h.2.1, fun x y i q => h.2.2 x y i (fun g => q (hR x y i g))⟩
theorem XT_wN {w : Lay} {o c a : Nat} (hf : (o, c) ∉ w.1) : XT (fun x y => x = o ∧ y = c) (fun _ _ i => i < 0) w (wN w o c a) := by
  refine ⟨fun x y => ?_, fun x y q => ?_, fun _ _ _ _ => rfl⟩
  · show (x, y) ∈ w.1 ++ [(o, c)] ↔ _
    rw [List.mem_append, List.mem_singleton, Prod.mk.injEq]
  · show (if x = o ∧ y = c then a else w.2.1 x y) = _
    rw [if_neg (fun g => hf (by rw [← g.1, ← g.2]; exact q))]
theorem XT_wR {w : Lay} {o c j a : Nat} : XT (fun _ y => y < 0) (fun x y i => x = o ∧ y = c ∧ i = j) w (wR w o c j a) :=
  ⟨fun _ _ => ⟨Or.inl, fun h => h.elim id (fun q => absurd q (Nat.not_lt_zero _))⟩, fun _ _ _ => rfl, fun x y i q => if_neg q⟩
/-- a reference field leads to a cell -/
def PT (w : Lay) (o c j o' c' : Nat) : Prop := w.2.2 o c j = some (w.2.1 o' c')
theorem PT_keep {S : Nat → Nat → Prop} {R : Nat → Nat → Nat → Prop} {w w' : Lay} {o c j o' c' : Nat} (h : PT w o c j o' c') (hX : XT S R w w') (hR : ¬ R o c j) (hm : (o', c') ∈ w.1) : PT w' o c j o' c' := by
  unfold PT
  rw [hX.2.2 o c j hR, hX.2.1 o' c' hm]
  exact h
theorem ws_new {G : GC} {w : Lay} {σ : Mem} {o c a : Nat} {e : va_E} (hf : (o, c) ∉ w.1) (he : enc G w σ o c = e) : wsOf G (wN w o c a) σ = wsOf G w σ ++ [(a, e)] := by
  have h1 : ∀ q ∈ w.1, ((wN w o c a).2.1 q.1 q.2, enc G (wN w o c a) σ q.1 q.2) = (w.2.1 q.1 q.2, enc G w σ q.1 q.2) := fun q hq => by
    show ((if q.1 = o ∧ q.2 = c then a else w.2.1 q.1 q.2), enc G w σ q.1 q.2) = _
    rw [if_neg (fun g => hf (by rw [← g.1, ← g.2]; exact hq))]
  unfold wsOf
  show List.map _ (w.1 ++ [(o, c)]) = _
  rw [List.map_append, List.map_congr_left h1]
  congr 1
  show [((if o = o ∧ c = c then a else w.2.1 o c), enc G w σ o c)] = _
  rw [if_pos ⟨rfl, rfl⟩, he]
theorem fvals_wR {w : Lay} {σ : Mem} {o c j a : Nat} {x y : Nat} {ks : List Nat} (h : ¬ (x = o ∧ y = c)) : fvals (wR w o c j a) σ x y ks = fvals w σ x y ks := by
  unfold fvals
  refine List.map_congr_left (fun q _ => ?_)
  unfold fval
  rw [show (wR w o c j a).2.2 x y q.2 = w.2.2 x y q.2 from if_neg (fun g => h ⟨g.1, g.2.1⟩)]
theorem enc_wR_ne {G : GC} {w : Lay} {σ : Mem} {o c j a x y : Nat} (h : ¬ (x = o ∧ y = c)) : enc G (wR w o c j a) σ x y = enc G w σ x y := by
  have e : (wR w o c j a).2.2 x y = w.2.2 x y := funext fun i => if_neg (fun g => h ⟨g.1, g.2.1⟩)
  unfold enc
  rw [fvals_wR h, e]
theorem fvals_setR {w : Lay} {σ : Mem} {o c j a : Nat} {ks : List Nat} (h : ks[j]? = some 1) : fvals (wR w o c j a) σ o c ks = (fvals w σ o c ks).set j (.ref a) := by
  have hl : j < (fvals w σ o c ks).length := by rw [fvals_len]; exact (List.getElem?_eq_some_iff.mp h).1
  apply List.ext_getElem?
  intro i
  by_cases hi : i = j
  · subst hi
    rw [List.getElem?_set_self hl, fvals_get h]
    unfold fval
    rw [if_neg (by decide), if_pos rfl, show (wR w o c i a).2.2 o c i = some a from if_pos ⟨rfl, rfl, rfl⟩]
    rfl
  · rw [List.getElem?_set_ne (Ne.symm hi)]
    cases hk : ks[i]? with
    | none =>
      rw [List.getElem?_eq_none (by rw [fvals_len]; exact List.getElem?_eq_none_iff.mp hk), List.getElem?_eq_none (by rw [fvals_len]; exact List.getElem?_eq_none_iff.mp hk)]
    | some k =>
      rw [fvals_get hk, fvals_get hk]
      unfold fval
      rw [show (wR w o c j a).2.2 o c i = w.2.2 o c i from if_neg (fun g => hi g.2.2)]
theorem ws_ref {G : GC} {w : Lay} {σ : Mem} {A : Nat → Prop} {o c j a p : Nat} {e : va_E} (hD : va_D A (wsOf G w σ)) (hp : w.1[p]? = some (o, c)) (he : enc G (wR w o c j a) σ o c = e) : (wsOf G w σ).set p (w.2.1 o c, e) = wsOf G (wR w o c j a) σ := by
  have hpw : (wsOf G w σ)[p]? = some (w.2.1 o c, enc G w σ o c) := by unfold wsOf; rw [List.getElem?_map, hp]; rfl
  have hl : p < (wsOf G w σ).length := (List.getElem?_eq_some_iff.mp hpw).1
  apply List.ext_getElem?
  intro i
  by_cases hi : i = p
  · subst hi
    rw [List.getElem?_set_self hl]
    unfold wsOf
    rw [List.getElem?_map, show (wR w o c j a).1[i]? = some (o, c) from hp]
    show _ = some (w.2.1 o c, enc G (wR w o c j a) σ o c)
    rw [he]
  · rw [List.getElem?_set_ne (Ne.symm hi)]
    unfold wsOf
    rw [List.getElem?_map, List.getElem?_map]
    show Option.map _ w.1[i]? = Option.map _ w.1[i]?
    cases hq : w.1[i]? with
    | none => rfl
    | some q =>
      obtain ⟨x, y⟩ := q
      show some (w.2.1 x y, enc G w σ x y) = some (w.2.1 x y, enc G (wR w o c j a) σ x y)
      rw [enc_wR_ne]
      rintro ⟨rfl, rfl⟩
      have hiw : (wsOf G w σ)[i]? = some (w.2.1 x y, enc G w σ x y) := by unfold wsOf; rw [List.getElem?_map, hq]; rfl
      exact hi (hD.1 i p _ _ hiw hpw rfl)
def zv (k : Nat) : Value := if k = 0 then .int 0 else if k = 1 then .null else .long 0
theorem fvals_zero {w : Lay} {σ : Mem} {o c : Nat} {ks : List Nat} (hr : ∀ j, w.2.2 o c j = none) (hz : ∀ j, rd σ o c j = 0) (hl : rdL σ 0 = 0) : fvals w σ o c ks = ks.map zv := by
  apply List.ext_getElem?
  intro i
  rw [List.getElem?_map]
  cases hk : ks[i]? with
  | none => rw [List.getElem?_eq_none (by rw [fvals_len]; exact List.getElem?_eq_none_iff.mp hk)]; rfl
  | some k =>
    rw [fvals_get hk]
    unfold fval
    rw [hr, hz, hl]
    rfl
section JO
variable {G : GC} {E : Ctx} {cc : ByteArray} {own : String} {nL : Nat} {R0 : Room} {w : Lay} {kc ks pc : Nat} {ls : List (Option Value)} {st : List Value} {σ : Mem}
theorem J_objI (C : Cx G E cc own nL R0) (hls : ls.length = nL) {idx x : Nat} (hlk : Cond.methodLink own idx Lib.objectInit ∈ ALLW) (hf : 1 ≤ R0.frames) (hlo : 12 ≤ R0.locals) (hd : decode cc pc = .ok (.invokespecial idx, 3)) (h : J G E w kc ks (pc + 3) ls [] σ) : J G E w kc ks pc ls [.ref x] σ := by
  obtain ⟨p, e, R, s, m, args, below, meth, c, Q⟩ := E
  intro H locs la h1 h2 h3 h4
  obtain ⟨c1, c2, c3, c4, c5, rfl, c7, c8⟩ := C
  refine W.objInit (g := F0 m pc la [.ref x]) c1 c2 c4 (c5 _ hlk) (c5 _ q1_31) (c5 _ q1_32) rfl (h1.1.trans (hls.trans c3.symm)) rfl hd hf (by show 2 * 0 + 0 + 12 ≤ _; omega) ?_
  exact W.eq (g2 := F0 m (pc + 3) la []) rfl (h H locs la h1 h2 h3 h4)
theorem J_newO (C : Cx G E cc own nL R0) {o c ci idx N : Nat} {T : u_T} {Cn : String} {ty : Nat → FieldType} (hf : (o, c) ∉ w.1) (hk : kd o c = (5, ci)) (hcl : vwCl[ci]? = some (Cn, T, N)) (hin : ∀ w ∈ u_ws Cn T N, w ∈ ALLW) (hty : ∀ k, k < N → parseFieldDescriptor (T k).2.2.1 = some (ty k))
    (hcls : Cond.classLink own idx Cn ∈ ALLW) (hinst : Cond.instantiable Cn N ∈ ALLW) (hini : Cond.initialized Cn ∈ ALLW) (hr : ∀ j, w.2.2 o c j = none) (hz : ∀ j, rd σ o c j = 0) (hzl : rdL σ 0 = 0) (hfs : ∀ j, j < N → defaultValue (ty j) = vp_V ((fk ci).map zv) j) (hcs : kc + 1 ≤ R0.cells ∧ ks + N ≤ R0.slots)
    (hd : decode cc pc = .ok (.new idx, 3)) (h : ∀ w', XT (fun x y => x = o ∧ y = c) (fun _ _ i => i < 0) w w' → J G E w' (kc + 1) (ks + N) (pc + 3) ls (.ref (w'.2.1 o c) :: st) σ) : J G E w kc ks pc ls st σ := by
  obtain ⟨p, e, R, s, m, args, below, meth, cm, Q⟩ := E
  intro H locs la h1 h2 h3 h4
  obtain ⟨c1, c2, c3, c4, c5, rfl, c7, c8⟩ := C
  have hA : ∀ q : Nat, s.heap.size ≤ q → Asz G q := fun q hq => Nat.le_trans c8.2.1 hq
  refine va_new c1 c2 c5 hin ty hty c4 (c5 _ hcls) (c5 _ hinst) (c5 _ hini) c8.1 h2 h3 h4 hA hcl hfs hcs.1 hcs.2 hd (fun q H1 hP1 hD1 hS1 => ?_)
  have e1 := ws_new (G := G) (w := w) (σ := σ) (a := q) hf ((enc_obj hk).trans (by rw [fvals_zero hr hz hzl]))
  have h9 := h (wN w o c q) (XT_wN hf) H1 locs la h1 (e1 ▸ hP1) (e1 ▸ hD1) hS1
  have e2 : (wN w o c q).2.1 o c = q := if_pos ⟨rfl, rfl⟩
  rw [e2] at h9
  exact h9
theorem J_newA_int (C : Cx G E cc own nL R0) {o c n : Nat} {x : Int32} (hf : (o, c) ∉ w.1) (hk : kd o c = (0, n)) (hx : x = nI n) (hn : n < 10000) (hz : ∀ j, rd σ o c j = 0) (hcs : kc + 1 ≤ R0.cells ∧ ks + n ≤ R0.slots)
    (hd : decode cc pc = .ok (.newarray .int, 2)) (h : ∀ w', XT (fun x y => x = o ∧ y = c) (fun _ _ i => i < 0) w w' → J G E w' (kc + 1) (ks + n) (pc + 2) ls (.ref (w'.2.1 o c) :: st) σ) : J G E w kc ks pc ls (.int x :: st) σ := by
  obtain ⟨p, e, R, s, m, args, below, meth, cm, Q⟩ := E
  intro H locs la h1 h2 h3 h4
  obtain ⟨c1, c2, c3, c4, c5, rfl, c7, c8⟩ := C
  subst hx
  have hA : ∀ q : Nat, s.heap.size ≤ q → Asz G q := fun q hq => Nat.le_trans c8.2.1 hq
  have hb : n * componentBytes .int ≤ 536870912 := by
    have : componentBytes .int ≤ 8 := by decide
    have := Nat.mul_le_mul (Nat.le_of_lt hn) this
    omega
  refine va_newa (atype := .int) (N' := n) (a0 := (n, .inl (fun _ => 0))) c1 c2 (c5 _ q1_100) rfl c8.1 h2 h3 h4 hA (fun cA => rfl) (nI_pos (by omega)) (nI_clamp (by omega)) hb hcs.1 hcs.2 hd (fun q cA H1 hK1 hP1 hD1 hS1 => ?_)
  have hcA : cA = G.2.2.1 0 := Option.some.inj ((va_nm_int (hK1.2 5 (cA, .int) rfl).2).symm.trans (va_nm_int (c8.1.2 0 (G.2.2.1 0, .int) rfl).2))
  subst hcA
  have e1 := ws_new (G := G) (w := w) (σ := σ) (a := q) hf ((enc_int hk).trans (by rw [show rd σ o c = fun _ => 0 from funext hz]))
  have h9 := h (wN w o c q) (XT_wN hf) H1 locs la h1 (e1 ▸ hP1) (e1 ▸ hD1) hS1
  have e2 : (wN w o c q).2.1 o c = q := if_pos ⟨rfl, rfl⟩
  rw [e2] at h9
  exact h9
theorem J_newA_boolean (C : Cx G E cc own nL R0) {o c n : Nat} {x : Int32} (hf : (o, c) ∉ w.1) (hk : kd o c = (1, n)) (hx : x = nI n) (hn : n < 10000) (hz : ∀ j, rd σ o c j = 0) (hcs : kc + 1 ≤ R0.cells ∧ ks + n ≤ R0.slots)
    (hd : decode cc pc = .ok (.newarray .boolean, 2)) (h : ∀ w', XT (fun x y => x = o ∧ y = c) (fun _ _ i => i < 0) w w' → J G E w' (kc + 1) (ks + n) (pc + 2) ls (.ref (w'.2.1 o c) :: st) σ) : J G E w kc ks pc ls (.int x :: st) σ := by
  obtain ⟨p, e, R, s, m, args, below, meth, cm, Q⟩ := E
  intro H locs la h1 h2 h3 h4
  obtain ⟨c1, c2, c3, c4, c5, rfl, c7, c8⟩ := C
  subst hx
  have hA : ∀ q : Nat, s.heap.size ≤ q → Asz G q := fun q hq => Nat.le_trans c8.2.1 hq
  have hb : n * componentBytes .boolean ≤ 536870912 := by
    have : componentBytes .boolean ≤ 8 := by decide
    have := Nat.mul_le_mul (Nat.le_of_lt hn) this
    omega
  refine va_newa (atype := .boolean) (N' := n) (a0 := (n, .inl (fun _ => 0))) c1 c2 (c5 _ q1_225) rfl c8.1 h2 h3 h4 hA (fun cA => rfl) (nI_pos (by omega)) (nI_clamp (by omega)) hb hcs.1 hcs.2 hd (fun q cA H1 hK1 hP1 hD1 hS1 => ?_)
  have hcA : cA = G.2.2.1 1 := Option.some.inj ((va_nm_boolean (hK1.2 5 (cA, .boolean) rfl).2).symm.trans (va_nm_boolean (c8.1.2 1 (G.2.2.1 1, .boolean) rfl).2))
  subst hcA
  have e1 := ws_new (G := G) (w := w) (σ := σ) (a := q) hf ((enc_bool hk).trans (by rw [show rd σ o c = fun _ => 0 from funext hz]))
  have h9 := h (wN w o c q) (XT_wN hf) H1 locs la h1 (e1 ▸ hP1) (e1 ▸ hD1) hS1
  have e2 : (wN w o c q).2.1 o c = q := if_pos ⟨rfl, rfl⟩
  rw [e2] at h9
  exact h9
theorem J_newA_byte (C : Cx G E cc own nL R0) {o c n : Nat} {x : Int32} (hf : (o, c) ∉ w.1) (hk : kd o c = (2, n)) (hx : x = nI n) (hn : n < 10000) (hz : ∀ j, rd σ o c j = 0) (hcs : kc + 1 ≤ R0.cells ∧ ks + n ≤ R0.slots)
    (hd : decode cc pc = .ok (.newarray .byte, 2)) (h : ∀ w', XT (fun x y => x = o ∧ y = c) (fun _ _ i => i < 0) w w' → J G E w' (kc + 1) (ks + n) (pc + 2) ls (.ref (w'.2.1 o c) :: st) σ) : J G E w kc ks pc ls (.int x :: st) σ := by
  obtain ⟨p, e, R, s, m, args, below, meth, cm, Q⟩ := E
  intro H locs la h1 h2 h3 h4
  obtain ⟨c1, c2, c3, c4, c5, rfl, c7, c8⟩ := C
  subst hx
  have hA : ∀ q : Nat, s.heap.size ≤ q → Asz G q := fun q hq => Nat.le_trans c8.2.1 hq
  have hb : n * componentBytes .byte ≤ 536870912 := by
    have : componentBytes .byte ≤ 8 := by decide
    have := Nat.mul_le_mul (Nat.le_of_lt hn) this
    omega
  refine va_newa (atype := .byte) (N' := n) (a0 := (n, .inl (fun _ => 0))) c1 c2 (c5 _ q3_124) rfl c8.1 h2 h3 h4 hA (fun cA => rfl) (nI_pos (by omega)) (nI_clamp (by omega)) hb hcs.1 hcs.2 hd (fun q cA H1 hK1 hP1 hD1 hS1 => ?_)
  have hcA : cA = G.2.2.1 2 := Option.some.inj ((va_nm_byte (hK1.2 5 (cA, .byte) rfl).2).symm.trans (va_nm_byte (c8.1.2 2 (G.2.2.1 2, .byte) rfl).2))
  subst hcA
  have e1 := ws_new (G := G) (w := w) (σ := σ) (a := q) hf ((enc_byte hk).trans (by rw [show rd σ o c = fun _ => 0 from funext hz]))
  have h9 := h (wN w o c q) (XT_wN hf) H1 locs la h1 (e1 ▸ hP1) (e1 ▸ hD1) hS1
  have e2 : (wN w o c q).2.1 o c = q := if_pos ⟨rfl, rfl⟩
  rw [e2] at h9
  exact h9
theorem J_newQ (C : Cx G E cc own nL R0) (hAO : AOf E) {o c n idx : Nat} {x : Int32} (hf : (o, c) ∉ w.1) (hk : kd o c = (4, n)) (hx : x = nI n) (hn : n < 10000) (hr : ∀ j, w.2.2 o c j = none) (hcls : Cond.classLink own idx "KitePermits$Office" ∈ ALLW) (hcs : kc + 1 ≤ R0.cells ∧ ks + n ≤ R0.slots)
    (hd : decode cc pc = .ok (.anewarray idx, 3)) (h : ∀ w', XT (fun x y => x = o ∧ y = c) (fun _ _ i => i < 0) w w' → J G E w' (kc + 1) (ks + n) (pc + 3) ls (.ref (w'.2.1 o c) :: st) σ) : J G E w kc ks pc ls (.int x :: st) σ := by
  obtain ⟨p, e, R, s, m, args, below, meth, cm, Q⟩ := E
  intro H locs la h1 h2 h3 h4
  obtain ⟨c1, c2, c3, c4, c5, rfl, c7, c8⟩ := C
  subst hx
  have hA : ∀ q : Nat, s.heap.size ≤ q → Asz G q := fun q hq => Nat.le_trans c8.2.1 hq
  refine va_newq (N' := n) c1 c2 c4 (c5 _ hcls) hAO c8.1 h2 h3 h4 hA (nI_pos (by omega)) (nI_clamp (by omega)) (by omega) hcs.1 hcs.2 hd (fun q cA H1 hK1 hP1 hD1 hS1 => ?_)
  have hcA : cA = G.2.2.1 4 := Option.some.inj ((va_nmO (hK1.2 5 (cA, .object "KitePermits$Office") rfl).2 rfl).symm.trans (va_nmO (c8.1.2 4 (G.2.2.1 4, .object "KitePermits$Office") rfl).2 rfl))
  subst hcA
  have e1 := ws_new (G := G) (w := w) (σ := σ) (a := q) hf ((enc_refs hk).trans (by rw [show w.2.2 o c = fun _ => none from funext hr]))
  have h9 := h (wN w o c q) (XT_wN hf) H1 locs la h1 (e1 ▸ hP1) (e1 ▸ hD1) hS1
  have e2 : (wN w o c q).2.1 o c = q := if_pos ⟨rfl, rfl⟩
  rw [e2] at h9
  exact h9
theorem J_putR (C : Cx G E cc own nL R0) (hIn : IsIn E) {o c j ci idx N a b : Nat} {T : u_T} {Cn : String} {ty0 : Nat → FieldType} {ty : FieldType} (hm : (o, c) ∈ w.1) (hb : b = w.2.1 o c) (hk : kd o c = (5, ci)) (hcl : vwCl[ci]? = some (Cn, T, N)) (hf : (fk ci)[j]? = some 1) (hj : j < N) (hin : ∀ w ∈ u_ws Cn T N, w ∈ ALLW)
    (hty : ∀ k, k < N → parseFieldDescriptor (T k).2.2.1 = some (ty0 k)) (hnm : ∀ a, a < N → ∀ b, b < N → a ≠ b → (T a).2.1 ≠ (T b).2.1) (hlk : Cond.fieldLink own idx Cn (T j).2.1 (T j).2.2.1 ∈ ALLW) (hrf : (T j).1 = Cn) (hfin : (T j).2.2.2 = true) (hdecl : (T j).1 = own) (hpd : parseFieldDescriptor (T j).2.2.1 = some ty) (hn : narrow ty (.ref a) = .ref a) (hfit : fits ty (.ref a) = true)
    (hd : decode cc pc = .ok (.putfield idx, 3)) (h : ∀ w', XT (fun _ y => y < 0) (fun x y i => x = o ∧ y = c ∧ i = j) w w' → w'.2.2 o c j = some a → J G E w' kc ks (pc + 3) ls st σ) : J G E w kc ks pc ls (.ref a :: .ref b :: st) σ := by
  obtain ⟨p, e, R, s, m, args, below, meth, cm, Q⟩ := E
  intro H locs la h1 h2 h3 h4
  obtain ⟨c1, c2, c3, c4, c5, rfl, c7, c8⟩ := C
  subst hb
  obtain ⟨q, hq, hq2⟩ := ws_get (G := G) (σ := σ) hm
  rw [enc_obj hk] at hq
  have hset := ws_ref (j := j) (a := a) h3 hq2 ((enc_obj hk).trans (by rw [fvals_setR hf]))
  exact va_putF c1 c2 c5 hin ty0 hty hnm c4 c8.1 h2 h3 h4 q hq hcl j hj (c5 _ hlk) (fun x hx => by rw [← hrf]; exact hx) hfin hIn hdecl hpd hn hfit (by rw [fvals_len]; exact (List.getElem?_eq_some_iff.mp hf).1) hd
    (fun H1 locs1 hP1 hD1 hS1 => h (wR w o c j a) XT_wR (if_pos ⟨rfl, rfl, rfl⟩) H1 locs1 la h1 (hset ▸ hP1) (hset ▸ hD1) hS1)
theorem J_aast (C : Cx G E cc own nL R0) {o c n k o2 a b : Nat} {i : Int32} (hm : (o, c) ∈ w.1) (hb : b = w.2.1 o c) (hk : kd o c = (4, n)) (hi : i = nI k) (hkn : k < n) (hn : n < 2 ^ 31) (hm2 : (o2, 0) ∈ w.1) (ho2 : o2 < 12) (ha : a = w.2.1 o2 0) (hd : decode cc pc = .ok (.aastore, 1))
    (h : ∀ w', XT (fun _ y => y < 0) (fun x y i => x = o ∧ y = c ∧ i = k) w w' → w'.2.2 o c k = some a → J G E w' kc ks (pc + 1) ls st σ) : J G E w kc ks pc ls (.ref a :: .int i :: .ref b :: st) σ := by
  obtain ⟨p, e, R, s, m, args, below, meth, cm, Q⟩ := E
  intro H locs la h1 h2 h3 h4
  obtain ⟨c1, c2, c3, c4, c5, rfl, c7, c8⟩ := C
  subst hb
  subst hi
  subst ha
  obtain ⟨q, hq, hq2⟩ := ws_get (G := G) (σ := σ) hm
  obtain ⟨q', hq', -⟩ := ws_get (G := G) (σ := σ) hm2
  rw [enc_refs hk] at hq
  rw [enc_obj (show kd o2 0 = (5, 4) from kd_o ho2)] at hq'
  have hset := ws_ref (j := k) (a := w.2.1 o2 0) h3 hq2 (enc_refs hk)
  refine va_astq (r := (RX4, TX4, 7)) c1 c2 c8.1 h2 h3 h4 q 4 q' 4 hq rfl hq' rfl (vp_in_nI hkn hn) hd (fun H1 locs1 hP1 hD1 hS1 => ?_)
  have e1 : va_up (w.2.2 o c) (nI k).toNatClampNeg (some (w.2.1 o2 0)) = (wR w o c k (w.2.1 o2 0)).2.2 o c := by
    rw [nI_clamp (Nat.lt_trans hkn hn)]
    funext j
    show (if j = k then _ else _) = (if o = o ∧ c = c ∧ j = k then _ else _)
    by_cases hj : j = k
    · rw [if_pos hj, if_pos ⟨rfl, rfl, hj⟩]
    · rw [if_neg hj, if_neg (fun g => hj g.2.2)]
  rw [e1] at hP1 hD1
  exact h (wR w o c k (w.2.1 o2 0)) XT_wR (if_pos ⟨rfl, rfl, rfl⟩) H1 locs1 la h1 (hset ▸ hP1) (hset ▸ hD1) hS1
theorem pre_blindO {As : List Value} : FrameBlind (PreMTO G w σ As) := fun a U g mk hp => ⟨pre_blind a U g mk hp.1, va_AO.moved (u := U) (U := U.calling g mk a) (Vm.Alike.refl _) hp.2⟩
theorem goodC {y : MethodName} {cy : ByteArray} {n : Nat} {ret : Option FieldType} (e : Cond.code y cy n ret ∈ ALLW) : GoodIn ALLW (cw y cy n ret) := by
  intro w hw
  have hm : w ∈ ALLW := by
    rcases List.mem_cons.mp hw with h | h
    · rw [h]; exact e
    · exact h
  exact ⟨hm, allw_good w hm⟩
theorem J_invIN (C : Cx G E cc own nL R0) (hAO : AOf E) (hls : ls.length = nL) {y : MethodName} {cy : ByteArray} {maxL idx mc ms : Nat} {rm : Room} {b : Nat} {host : String} (hcode : Cond.code y cy maxL none ∈ ALLW) (hins : Cond.instanceMethod y ∈ ALLW) (hini : Cond.initialized y.cls ∈ ALLW) (hlk : Cond.methodLinkNest own idx y host ∈ BADW) (hy1 : y.name = "<init>")
    (hy : y.cls ≠ "java/lang/invoke/MethodHandle" ∧ y.cls ≠ "java/lang/invoke/VarHandle" ∧ (parseMethodDescriptor y.desc).map (fun d => d.parameters.length) = some 0) (hrc : rm.cells = mc) (hrs : rm.slots = ms) (hroom : rm.frames + 1 ≤ R0.frames ∧ 8 + (maxL + 11) + rm.locals ≤ R0.locals)
    (hcs : kc + mc ≤ R0.cells ∧ ks + ms ≤ R0.slots) (hst : (st.map fun v => v.category).sum ≤ 8) (hd : decode cc pc = .ok (.invokespecial idx, 3))
    (hM : MTO G y (cw y cy maxL none) rm mc ms w σ [.ref b] (fun w' r σ' => J G E w' (kc + mc) (ks + ms) (pc + 3) ls (r.toList ++ st) σ') (fun w' X σ' => JX G E w' (kc + mc) (ks + ms) pc ls st σ' X)) : J G E w kc ks pc ls (.ref b :: st) σ := by
  obtain ⟨p, e, R, s, m, args, below, meth, cm, Q⟩ := E
  intro H locs la h1 h2 h3 h4
  obtain ⟨c1, c2, c3, c4, c5, rfl, c7, c8⟩ := C
  have hr := vx_runIN (H := H) (locs := locs) (below := below) (meth := meth) (p := p) (l := G.1) (e := e) (cells := kc) (slots := ks) (As := []) (b := b) (g := F0 m pc la (.ref b :: st)) (rest := st) ⟨c1, c2, c3, c4, c5⟩ hM (⟨va_cnB 0 c5 (goodC hcode) rfl hrc hrs (c8.2.2.2.1 _ hlk) (c5 _ hini) hy hroom, hy1, c5 _ hins⟩)
    ⟨pre_blindO, fun U hU hW => ⟨⟨rfl, by rw [hU]; exact h2, h3, Envt.warm hW (by rw [hU]; exact h4.1) (by rw [hU]; exact h4.2.1) c8⟩, va_AO.moved hW.alike hAO⟩⟩ rfl rfl (h1.1.trans hls) rfl (lv_room hst) hd hcs
  intro T hT X
  rcases hr T hT X with ⟨v, st₀, t, T', L, h0, X', hL, e1, e2, ⟨⟨w', r, σ', hv, hq', hP', hD'⟩, hF⟩, hst'⟩ | ⟨q, st₀, t, T', L, X9, ce, h0, X', hL, e1, e2, ⟨⟨w', σ', hq', hP', hD'⟩, hF⟩, hce, hcv, hcl', hst'⟩
  · cases hv
    obtain ⟨k1, k2, k3⟩ := vx_keep h0 e1 h4 (fun q _ h => h) (fun q h => h) hL hF
    obtain ⟨t2, a1, b1⟩ := hq' T'.heap (locs ++ L) la h1 (by rw [e1]; exact hP') hD' k3 T' rfl X'
    exact ⟨t2, hst' t2 a1, b1⟩
  · obtain ⟨k1, k2, k3⟩ := vx_keep h0 e1 h4 (fun q _ h => h) (fun q h => h) hL hF
    obtain ⟨t2, a1, b1⟩ := hq' T'.heap (locs ++ L) la q ce h1 (by rw [e1]; exact hP') hD' k3 (by rw [e1]; exact hce) hcv hcl' T' rfl X'
    exact ⟨t2, hst'.trans a1, b1⟩
theorem J_invI (C : Cx G E cc own nL R0) (hAO : AOf E) (hls : ls.length = nL) {y : MethodName} {cy : ByteArray} {maxL idx mc ms : Nat} {rm : Room} {b : Nat} (hcode : Cond.code y cy maxL none ∈ ALLW) (hins : Cond.instanceMethod y ∈ ALLW) (hini : Cond.initialized y.cls ∈ ALLW) (hlk : Cond.methodLink own idx y ∈ ALLW) (hy1 : y.name = "<init>")
    (hy : y.cls ≠ "java/lang/invoke/MethodHandle" ∧ y.cls ≠ "java/lang/invoke/VarHandle" ∧ (parseMethodDescriptor y.desc).map (fun d => d.parameters.length) = some 0) (hrc : rm.cells = mc) (hrs : rm.slots = ms) (hroom : rm.frames + 1 ≤ R0.frames ∧ 8 + (maxL + 11) + rm.locals ≤ R0.locals)
    (hcs : kc + mc ≤ R0.cells ∧ ks + ms ≤ R0.slots) (hst : (st.map fun v => v.category).sum ≤ 8) (hd : decode cc pc = .ok (.invokespecial idx, 3))
    (hM : MTO G y (cw y cy maxL none) rm mc ms w σ [.ref b] (fun w' r σ' => J G E w' (kc + mc) (ks + ms) (pc + 3) ls (r.toList ++ st) σ') (fun w' X σ' => JX G E w' (kc + mc) (ks + ms) pc ls st σ' X)) : J G E w kc ks pc ls (.ref b :: st) σ := by
  obtain ⟨p, e, R, s, m, args, below, meth, cm, Q⟩ := E
  intro H locs la h1 h2 h3 h4
  obtain ⟨c1, c2, c3, c4, c5, rfl, c7, c8⟩ := C
  have hr := vx_runI (H := H) (locs := locs) (below := below) (meth := meth) (p := p) (l := G.1) (e := e) (cells := kc) (slots := ks) (As := []) (b := b) (g := F0 m pc la (.ref b :: st)) (rest := st) ⟨c1, c2, c3, c4, c5⟩ hM (cwI 0 c5 (goodC hcode) rfl hrc hrs (c5 _ hini) (c5 _ hlk) (c5 _ hins) hy1 hy hroom)
    ⟨pre_blindO, fun U hU hW => ⟨⟨rfl, by rw [hU]; exact h2, h3, Envt.warm hW (by rw [hU]; exact h4.1) (by rw [hU]; exact h4.2.1) c8⟩, va_AO.moved hW.alike hAO⟩⟩ rfl rfl (h1.1.trans hls) rfl (lv_room hst) hd hcs
  intro T hT X
  rcases hr T hT X with ⟨v, st₀, t, T', L, h0, X', hL, e1, e2, ⟨⟨w', r, σ', hv, hq', hP', hD'⟩, hF⟩, hst'⟩ | ⟨q, st₀, t, T', L, X9, ce, h0, X', hL, e1, e2, ⟨⟨w', σ', hq', hP', hD'⟩, hF⟩, hce, hcv, hcl', hst'⟩
  · cases hv
    obtain ⟨k1, k2, k3⟩ := vx_keep h0 e1 h4 (fun q _ h => h) (fun q h => h) hL hF
    obtain ⟨t2, a1, b1⟩ := hq' T'.heap (locs ++ L) la h1 (by rw [e1]; exact hP') hD' k3 T' rfl X'
    exact ⟨t2, hst' t2 a1, b1⟩
  · obtain ⟨k1, k2, k3⟩ := vx_keep h0 e1 h4 (fun q _ h => h) (fun q h => h) hL hF
    obtain ⟨t2, a1, b1⟩ := hq' T'.heap (locs ++ L) la q ce h1 (by rw [e1]; exact hP') hD' k3 (by rw [e1]; exact hce) hcv hcl' T' rfl X'
    exact ⟨t2, hst'.trans a1, b1⟩
theorem J_invSO (C : Cx G E cc own nL R0) (hAO : AOf E) (hls : ls.length = nL) {y : MethodName} {cy : ByteArray} {maxL n idx mc ms : Nat} {ret : Option FieldType} {rm : Room} {As stk : List Value} (hstk : stk = As.reverse ++ st)
    (hlk : GoodIn ALLW (va_wsS own idx y (cw y cy maxL ret)))
    (hy : y.cls ≠ "java/lang/invoke/MethodHandle" ∧ y.cls ≠ "java/lang/invoke/VarHandle" ∧ (parseMethodDescriptor y.desc).map (fun d => d.parameters.length) = some n) (hrc : rm.cells = mc) (hrs : rm.slots = ms) (hroom : rm.frames + 1 ≤ R0.frames ∧ 8 + (maxL + 11) + rm.locals ≤ R0.locals)
    (hn : As.length = n) (hcs : kc + mc ≤ R0.cells ∧ ks + ms ≤ R0.slots) (hst : (st.map fun v => v.category).sum ≤ 8) (hd : decode cc pc = .ok (.invokestatic idx, 3))
    (hM : MTO G y (cw y cy maxL ret) rm mc ms w σ As (fun w' r σ' => J G E w' (kc + mc) (ks + ms) (pc + 3) ls (r.toList ++ st) σ') (fun w' X σ' => JX G E w' (kc + mc) (ks + ms) pc ls st σ' X)) : J G E w kc ks pc ls stk σ := by
  obtain ⟨p, e, R, s, m, args, below, meth, cm, Q⟩ := E
  subst hstk
  intro H locs la h1 h2 h3 h4
  obtain ⟨c1, c2, c3, c4, c5, rfl, c7, c8⟩ := C
  have hr := vx_runS (H := H) (locs := locs) (below := below) (meth := meth) (p := p) (l := G.1) (e := e) (cells := kc) (slots := ks) (g := F0 m pc la (As.reverse ++ st)) (rest := st) ⟨c1, c2, c3, c4, c5⟩ hM (va_cwS n c5 hlk rfl hrc hrs hy hroom)
    ⟨pre_blindO, fun U hU hW => ⟨⟨rfl, by rw [hU]; exact h2, h3, Envt.warm hW (by rw [hU]; exact h4.1) (by rw [hU]; exact h4.2.1) c8⟩, va_AO.moved hW.alike hAO⟩⟩ rfl hn (h1.1.trans hls) rfl (lv_room hst) hd hcs
  intro T hT X
  rcases hr T hT X with ⟨v, st₀, t, T', L, h0, X', hL, e1, e2, ⟨⟨w', r, σ', hv, hq', hP', hD'⟩, hF⟩, hst'⟩ | ⟨q, st₀, t, T', L, X9, ce, h0, X', hL, e1, e2, ⟨⟨w', σ', hq', hP', hD'⟩, hF⟩, hce, hcv, hcl', hst'⟩
  · cases hv
    obtain ⟨k1, k2, k3⟩ := vx_keep h0 e1 h4 (fun q _ h => h) (fun q h => h) hL hF
    obtain ⟨t2, a1, b1⟩ := hq' T'.heap (locs ++ L) la h1 (by rw [e1]; exact hP') hD' k3 T' rfl X'
    exact ⟨t2, hst' t2 a1, b1⟩
  · obtain ⟨k1, k2, k3⟩ := vx_keep h0 e1 h4 (fun q _ h => h) (fun q h => h) hL hF
    obtain ⟨t2, a1, b1⟩ := hq' T'.heap (locs ++ L) la q ce h1 (by rw [e1]; exact hP') hD' k3 (by rw [e1]; exact hce) hcv hcl' T' rfl X'
    exact ⟨t2, hst'.trans a1, b1⟩
end JO
