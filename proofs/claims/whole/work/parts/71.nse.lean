/-! ===== throwing NoSuchElementException: its constructor's link has the place 13, so its words are a list of their own; over the library's laws of Throwable ===== -/
def nxC : String := "java/util/NoSuchElementException"
def nxR : String := "java/lang/RuntimeException"
def nxB : ByteArray := .mk #[0x2a, 0x2b, 0xb7, 0x00, 0x0d, 0xb1]
def nxT : List Cond := [.methodLink "KitePermits" 269 (Bundle.initS nxC), .instantiable nxC 6, .castable nxC nxC, .selects nxC Bundle.tFill0 Bundle.tFill0, .selects nxC Bundle.tFill Bundle.tFill,
  .lays nxC Bundle.tN "cause" "Ljava/lang/Throwable;", .lays nxC Bundle.tN "stackTrace" Bundle.steD, .lays nxC Bundle.tN "suppressedExceptions" Bundle.listD, .lays nxC Bundle.tN "detailMessage" "Ljava/lang/String;",
  .fieldLink Bundle.tN 198 Bundle.tN "backtrace" "Ljava/lang/Object;", .lays Bundle.tN Bundle.tN "backtrace" "Ljava/lang/Object;", .lays nxC Bundle.tN "backtrace" "Ljava/lang/Object;"]
def nxA : List Cond := Bundle.throwableAtoms ++ Bundle.throwableSAtoms ++ Bundle.passSAtoms nxC nxR 13 nxB ++ Bundle.chainSAtoms nxR ["java/lang/Exception"] ++ nxT
def nxS : List Cond := nxA.filter vx_no
section NX
variable {p : Program} {l : Launch} {e : Env} {R : Room} {s : State} {m₀ : MethodId} {args : Array Value} {below : List Frame} {meth : Method} {c : Code} {W0 : State} {locs : List Loc} {cells slots : Nat}
set_option maxHeartbeats 2000000 in
theorem nx_ctor (X : Stand p l e R s m₀ args below meth c W0 locs cells slots) (hexec : p.tables.exec = Jvm.exec) (htr : e.platform.stackTraces = false)
    (hown : s.vm.findClass "KitePermits" = some m₀.cls) (h : ∀ a ∈ nxA, a.before args s = true)
    (hU : (Cond.isRef (.static Bundle.tN "UNASSIGNED_STACK" Bundle.steD)).before args s = true) (hN : (Cond.isRef (.static Bundle.tN "SUPPRESSED_SENTINEL" Bundle.listD)).before args s = true)
    (hlocs : ∀ x ∈ locs, ∀ cell, s.heap[x.base]? = some cell → cell.vm.isStatics = false)
    {a : Addr} {cX : ClassId} {kX : Class} (hfoundX : s.vm.findClass nxC = some cX) (hkX : s.vm.classes[cX]? = some kX) (hcell : W0.heap[a]? = some (freshCell cX kX)) (hnew : s.heap.size ≤ a)
    {msg : Value} (hmsg : msg.isRef = true)
    {g : JFrame} (hg : g.method = m₀) (hsize : g.locals.size = c.maxLocals) (hlocked : g.locked = none) (hentered : g.entered = []) {rest : List Value} (hstack : g.stack = msg :: .ref a :: .ref a :: rest)
    (hd6 : decode c.code g.pc = .ok (.invokespecial 269, 3)) (hd9 : decode c.code (g.pc + 3) = .ok (.athrow, 1)) (hout : ∀ x ∈ c.exceptionTable.toList, covers x (g.pc + 3) = false)
    (hRframes : 5 < R.frames) (hRlocals : 2 * g.monitorRoom + ((Value.ref a :: rest).map fun v => v.category).sum + 81 ≤ R.locals) (hlocks : meth.locks = false) :
    ∃ U : State, Steps p.tables e below (W0.setTop g) U ∧ U.status = .running ∧ Ended U below (.threw a) ∧ s.WarmedH U.vm ∧ s.sameButNew ({ U with vm := s.vm } : State) locs cells slots ∧
      ∃ ce, U.heap[a]? = some ce ∧ s.vm.findClass nxC = some ce.cls ∧ ce.vm = .none := by
  have hpl : e.platform.magicAccessors = ({} : Platform).magicAccessors := by rw [X.admits.platform]
  have hT : ∀ x ∈ Bundle.throwableAtoms, x.before args s = true := fun x hx => h x (by simp [nxA, hx])
  have hS : ∀ x ∈ Bundle.throwableSAtoms, x.before args s = true := fun x hx => h x (by simp [nxA, hx])
  have hP : ∀ x ∈ Bundle.passSAtoms nxC nxR 13 nxB, x.before args s = true := fun x hx => h x (by simp [nxA, hx])
  have hQ : ∀ x ∈ Bundle.chainSAtoms nxR ["java/lang/Exception"], x.before args s = true := fun x hx => h x (by simp only [nxA, List.mem_append]; exact Or.inl (Or.inr hx))
  have hZ : ∀ x ∈ nxT, x.holds args s none s [] = true := fun x hx => h x (by simp [nxA, hx])
  obtain ⟨T, Z0, L, -, Y⟩ := ThrowableC.of_atoms (args := args) (by rw [X.admits.platform]) (by rw [X.admits.platform]) hpl hT
  obtain ⟨Z, M, LZ, LM, hnZ⟩ := Init0T.ofS_atoms (args := args) hpl L Y hS
  -- the chain of constructors: this class's own pass, then those of the classes above
  obtain ⟨P1, L1, hP1m, hP1s⟩ := PassC.ofS_atoms (args := args) (s := s) hpl (X := nxC) (Y := nxR) (index := 13) (bytes := nxB) (by decide +kernel) (by decide +kernel) (by decide +kernel) (by decide +kernel) (by decide +kernel) (by decide +kernel) hP
  obtain ⟨P2, Ps, hlen, L2, hL, hP2m, hlink2, hlink⟩ := Bundle.chainS (args := args) hpl hnZ ["java/lang/Exception"] nxR (by decide +kernel) (by decide +kernel) hQ
  have hsup : P1.sup = P2.m := Option.some.inj (hP1s.symm.trans hP2m)
  have hfound : s.vm.findClass nxC = some P1.m.cls := findClass_of_methodNamed hP1m
  cases Option.some.inj (hfoundX.symm.trans hfound)
  obtain ⟨c1, kX', hc1, hk, hord, -, -, hn6⟩ := Cond.instantiable_spec (hZ (.instantiable nxC 6) (by simp [nxT]))
  cases Option.some.inj (hc1.symm.trans hfound)
  cases Option.some.inj (hkX.symm.trans hk)
  have hsel : ∀ (y : MethodName) (mk : MethodId), s.methodNamed? y = some mk → s.methodFound? y.cls y.name y.desc = some mk → (Cond.selects nxC y y) ∈ nxT → selectMethod e.platform s.vm P1.m.cls mk = .method mk := by
    intro y mk hy hfd hw
    obtain ⟨c2, r2, m2, q1, q2, q3, q4, -⟩ := Cond.selects_spec (hZ _ hw)
    cases Option.some.inj (q1.symm.trans hfound)
    cases Option.some.inj (q2.symm.trans hfd)
    cases Option.some.inj (q3.symm.trans hy)
    rw [Launch.admits_selectMethod X.admits]; exact q4
  have hsel0 := hsel Bundle.tFill0 T.fill0 Y.fill0 (State.methodFound?_of_named Y.fill0 (by decide)) (by simp [nxT])
  have hselF := hsel Bundle.tFill T.fill Y.fill (State.methodFound?_of_named Y.fill (by decide)) (by simp [nxT])
  obtain ⟨cS, hcS, hiss⟩ := Y.statics
  obtain ⟨u0, hu0⟩ := Cond.staticRefV Y.unassigned L.unassignedStatic L.statics hcS hiss hU
  obtain ⟨sen, hsen⟩ := Cond.staticRefV Y.sentinel L.sentinelStatic L.statics hcS hiss hN
  obtain ⟨ci9, i9, fB, b1, b2, b3, hsB, -, hnB, htB, hffB⟩ := Cond.ownField (t := .object "java/lang/Object") Y.found L.cls (by decide +kernel) (hZ (.fieldLink Bundle.tN 198 Bundle.tN "backtrace" "Ljava/lang/Object;") (by simp [nxT])) (hZ (.lays Bundle.tN Bundle.tN "backtrace" "Ljava/lang/Object;") (by simp [nxT])) e.platform hpl
  obtain ⟨cS1, hcS1, heS, -, hkeep⟩ := X.same.2.2.2.2.2 T.aS cS hcS
  have hfar : ∀ i, (⟨T.aS, i⟩ : Loc) ∉ locs := fun i hm => by
    have h9 := hlocs _ hm cS hcS
    rw [hiss] at h9
    cases h9
  have hkn : cS1.vm ≠ .unknown := by
    rw [heS]
    intro hu
    rw [show cS.vm = .unknown from hu] at hiss
    cases hiss
  have hne : T.aS ≠ a := Nat.ne_of_lt (Nat.lt_of_lt_of_le (Array.getElem?_eq_some_iff.mp hcS).1 hnew)
  obtain ⟨iM, hffM⟩ := Y.msg
  obtain ⟨tC, dC, eC, nC⟩ := Cond.laysAt hfound hk Y.cause (hZ (.lays nxC Bundle.tN "cause" "Ljava/lang/Throwable;") (by simp [nxT]))
  obtain ⟨tS, dS, eS, nS⟩ := Cond.laysAt hfound hk Y.stack (hZ (.lays nxC Bundle.tN "stackTrace" Bundle.steD) (by simp [nxT]))
  obtain ⟨tP, dP, eP, nP⟩ := Cond.laysAt hfound hk Y.supp (hZ (.lays nxC Bundle.tN "suppressedExceptions" Bundle.listD) (by simp [nxT]))
  obtain ⟨tM, dM, eM, nM⟩ := Cond.laysAt hfound hk hffM (hZ (.lays nxC Bundle.tN "detailMessage" "Ljava/lang/String;") (by simp [nxT]))
  obtain ⟨tB, dB, eB, nB⟩ := Cond.laysAt hfound hk hffB (hZ (.lays nxC Bundle.tN "backtrace" "Ljava/lang/Object;") (by simp [nxT]))
  have aC := Cond.laysApart eB eC nB nC (by rw [hnB, Y.causeName]; decide)
  have aS := Cond.laysApart eB eS nB nS (by rw [hnB, Y.stackName]; decide)
  have aP := Cond.laysApart eB eP nB nP (by rw [hnB, Y.suppName]; decide)
  have hskip : SkipFacts T e.platform s (fun u => u) u0 ((preparedCellV T.toThrowableT (freshCell P1.m.cls kX) a u0 sen).withEntry W0.cur) :=
    ⟨{ ci198 := ci9, i198 := i9, fBack := fB }, ⟨b1, b2, b3, hsB⟩, by
      have h9 := fresh_default (c := P1.m.cls) tB
      rw [htB] at h9
      simpa [preparedCellV, Cell.setSlot, Cell.withEntry, Array.getElem?_setIfInBounds, aC, aS, aP, aC.symm, aS.symm, aP.symm, defaultValue] using h9, fun _ _ => rfl⟩
  obtain ⟨tm, mC, cdC, kC, vm1, hnC, -, -, -, -, -, -, -, hW1, st1⟩ := Steps.initColdS (tb := p.tables) (e := e) (below := below) (s := s) (U := W0) X.here hexec X.warmed hpl hown (t := Bundle.initS nxC) rfl rfl (by decide +kernel)
    (hZ (.methodLink "KitePermits" 269 (Bundle.initS nxC)) (by simp [nxT])) (hP (.instanceMethod (Bundle.initS nxC)) (by simp [Bundle.passSAtoms])) (bytes := nxB) (maxL := 2) (hP (.code (Bundle.initS nxC) nxB 2 none) (by simp [Bundle.passSAtoms]))
    (f := g) hg (a := a) (msg := msg) (rest := .ref a :: rest) hstack hd6
  cases Option.some.inj (hnC.symm.trans hP1m)
  have X1 := X.noted hW1
  have hl1 : Ps.length = 1 := hlen
  obtain ⟨vm2, X2, st2⟩ := X1.ctorMessageOffV hexec (g := { g with stack := .ref a :: rest }) hg hsize T L Z LZ M LM (P1 :: P2 :: Ps)
    (fun P hP9 => by
      rcases List.mem_cons.mp hP9 with rfl | hP9
      · exact L1
      · rcases List.mem_cons.mp hP9 with rfl | hP9
        · exact L2
        · exact hL P hP9) ⟨hsup, hlink2, hlink⟩ (u0 := u0) (sen := sen) (self := a) hmsg (cell := freshCell P1.m.cls kX) (cellS := cS1)
    hcell (fun _ => by simp) (by simp) rfl rfl hsel0 hselF hcS1 hne hkn (by rw [hkeep _ (hfar _)]; exact hu0) (by rw [hkeep _ (hfar _)]; exact hsen)
    (Takes.of_laid hk hord tC (by rw [Y.causeType]; rfl)) (Takes.of_laid hk hord tS (by rw [Y.stackType]; exact fits_refV_array _ u0)) (Takes.of_laid hk hord tP (by rw [Y.suppType]; exact fits_refV_object _ sen))
    (Takes.of_laid hk hord tM (by rw [Y.msgType]; exact fits_refV_object _ ⟨msg, hmsg⟩)) Y.objLocals hskip htr [] hd6
    (by simp only [List.length_cons, hl1]; omega) (by simp only [List.length_cons, hl1]; exact hRlocals)
  obtain ⟨hwalk, hrun, hended, hWU, hsame⟩ := X2.athrowLeaves hexec (g := { g with stack := .ref a :: rest, pc := g.pc + 3 }) hg hlocked hentered hout (a := a) (rest := rest) rfl hd9
  have hlt : a < ((W0.setVm vm1).setVm vm2).heap.size := (Array.getElem?_eq_some_iff.mp hcell).1
  have hce := heapAt_setCell_self (s := (W0.setVm vm1).setVm vm2) (plainBareV T.toThrowableT (freshCell P1.m.cls kX) a u0 sen msg) hlt
  refine ⟨_, st1 _ (fun acts => ?_), hrun, hended, hWU, hsame.weaken (fun y hy hlt' => ?_) (Nat.le_refl _) (Nat.le_refl _), _, hce, hfound, rfl⟩
  · rw [doInvoke_state]
    exact st2 _ hwalk
  · rcases List.mem_append.mp hy with h1 | h1
    · exact h1
    · exfalso
      have hb : y.base = a := by
        simp only [List.mem_cons, List.not_mem_nil, or_false] at h1
        rcases h1 with rfl | rfl | rfl | rfl | rfl <;> rfl
      rw [hb] at hlt'
      exact Nat.not_lt.mpr hnew hlt'
end NX
section NX2
variable {p : Program} {l : Launch} {e : Env} {R : Room} {s : State} {m : MethodId} {args : Array Value} {below : List Frame} {meth : Method} {c : Code} {H : Heap} {locs : List Loc} {cells slots : Nat}
variable {Qc : Array Value → State → Outcome → State → Prop} {XC : String → State → State → Prop} {free : Addr → Prop} {ls : Array Slot} {rest : List Value}
theorem nx_atS {s : State} {args : Array Value} (h : ∀ w ∈ nxS, w.before args s = true) (h1 : (Cond.laysStatic Bundle.tN "UNASSIGNED_STACK" Bundle.steD).before args s = true) (h2 : (Cond.laysStatic Bundle.tN "SUPPRESSED_SENTINEL" Bundle.listD).before args s = true)
    (h3 : (Cond.isRef (.static Bundle.tN "UNASSIGNED_STACK" Bundle.steD)).before args s = true) (h4 : (Cond.isRef (.static Bundle.tN "SUPPRESSED_SENTINEL" Bundle.listD)).before args s = true) : ∀ w ∈ nxA, w.before args s = true := vx_own (L := nxA) h h3 h4 h1 h2
set_option maxHeartbeats 2000000 in
theorem nx_throw {cc : ByteArray} {pc : Nat} (hexec : p.tables.exec = Jvm.exec) (hb : c.code = cc) (hl : l.stackTraces = false) {text : String} {is mc ms sa : Nat} {A : Nat → Prop}
    (hown : s.vm.findClass "KitePermits" = some m.cls) (hk : (Cond.classLink "KitePermits" 265 nxC).before args s = true) (hini : (Cond.initialized nxC).before args s = true) (hstr : vk_R "KitePermits" is text sa s) (hat : ∀ w ∈ nxS, w.before args s = true)
    (hgood : ∀ w ∈ Cond.classLink "KitePermits" 265 nxC :: Cond.initialized nxC :: nxS, vx_ot w = true)
    (hU : vx_Zq Bundle.tN "UNASSIGNED_STACK" Bundle.steD A s s.heap) (hN : vx_Zq Bundle.tN "SUPPRESSED_SENTINEL" Bundle.listD A s s.heap) (hS : va_S A s.heap H locs) (hsize : ls.size = c.maxLocals)
    (d0 : decode cc pc = .ok (.new 265, 3)) (d3 : decode cc (pc + 3) = .ok (.dup, 1)) (d4 : decode cc (pc + 4) = .ok (.ldc_w is, 3)) (d7 : decode cc (pc + 7) = .ok (.invokespecial 269, 3)) (d10 : decode cc (pc + 10) = .ok (.athrow, 1))
    (hout : ∀ x ∈ c.exceptionTable.toList, covers x (pc + 10) = false)
    (hRframes : 5 < R.frames) (hRlocals : (rest.map fun v => v.category).sum + 82 ≤ R.locals) (hRcells : cells + 1 ≤ R.cells) (hRslots : slots + 6 ≤ R.slots) (hlocks : meth.locks = false)
    (hx : ∀ t : State, s.vm.Alike t.vm → H.size ≤ t.heap.size → (∀ q : Nat, q < H.size → t.heap[q]? = H[q]?) → XC nxC s t)
    (hf : ∀ z ∈ locs, free z.base) (hc : cells + 1 ≤ mc) (hs : slots + 6 ≤ ms) :
    W p l e R s m args below meth c H locs cells slots (vx_MQ below Qc XC args s mc ms free) (F0 m pc ls rest) := by
  intro T hT X
  have htr : e.platform.stackTraces = false := (show e.platform.stackTraces = l.stackTraces by rw [X.admits.platform]).trans hl
  have Y := vx_rebase X (R' := { frames := R.frames, locals := R.locals, cells := 1, slots := 6 }) (Nat.le_refl _) (Nat.le_refl _) hRcells hRslots
  obtain ⟨s', hA⟩ : ∃ z, z = (T.setVm s.vm).setFrames (.invoking m args :: below) := ⟨_, rfl⟩
  rw [← hA] at Y
  have hvm : s'.vm = s.vm := by rw [hA]; rfl
  have hhp : s'.heap = H := by rw [hA]; exact hT
  have hW0 : s.WarmedH s'.vm := by rw [hvm]; exact State.WarmedH.refl s
  have hat' : ∀ w ∈ nxS, w.before args s' = true := fun w hw => vx_ot_at hW0 hvm.symm (hgood w (List.mem_cons_of_mem _ (List.mem_cons_of_mem _ hw))) (hat w hw)
  have hk' := vx_ot_at (a' := args) hW0 hvm.symm (hgood _ List.mem_cons_self) hk
  have hini' := vx_ot_at (a' := args) hW0 hvm.symm (hgood _ (List.mem_cons_of_mem _ List.mem_cons_self)) hini
  have hU' : vx_Zq Bundle.tN "UNASSIGNED_STACK" Bundle.steD A s' s'.heap := by rw [hhp]; exact vx_Zq.moved hW0.alike (hU.kept hS.2.1)
  have hN' : vx_Zq Bundle.tN "SUPPRESSED_SENTINEL" Bundle.listD A s' s'.heap := by rw [hhp]; exact vx_Zq.moved hW0.alike (hN.kept hS.2.1)
  have h : ∀ w ∈ nxA, w.before args s' = true := nx_atS hat' hU'.2.word hN'.2.word (vx_isRefq hU'.1) (vx_isRefq hN'.1)
  have hown' : s'.vm.findClass "KitePermits" = some m.cls := by rw [hvm]; exact hown
  obtain ⟨vm1, cX, kX, hfX, hkX, -, -, X1, st1⟩ := Y.newCold hexec (own := "KitePermits") (C := nxC) (index := 265) (n := 6) hown' hk' (h _ (by simp [nxA, nxT])) hini'
    (g := F0 m pc ls rest) rfl (by rw [hb]; exact d0) (Nat.le_refl _) (Nat.le_refl _)
  generalize hT1 : (T.setVm vm1).pushCell { cls := cX, slots := kX.instanceTypes.map defaultValue, vm := .none } = T1 at X1 st1
  have hcat : (Value.ref T.heap.size).category = 1 := rfl
  have hcell : T1.heap[T.heap.size]? = some (freshCell cX kX) := by rw [← hT1]; exact State.heap_pushCell_size _ _
  have d3' : decode c.code (pc + 3) = .ok (.dup, 1) := by rw [hb]; exact d3
  have d4' : decode c.code (pc + 4) = .ok (.ldc_w is, 3) := by rw [hb]; exact d4
  have hstr' : vk_R "KitePermits" is text sa s' := vk_R.warm hW0 hstr
  obtain ⟨U, hsteps, hrun, hend, hW, hsame, ce, hce, hcl', hcv⟩ := nx_ctor X1 hexec htr hown' h (vx_isRefq hU'.1) (vx_isRefq hN'.1) (fun x hx => nomatch hx) hfX hkX hcell (by rw [hhp, hT]; exact Nat.le_refl _) (msg := .ref sa) rfl
    (g := { method := m, pc := pc + 7, locals := ls, stack := .ref sa :: .ref T.heap.size :: .ref T.heap.size :: rest, locked := none }) rfl hsize rfl rfl (rest := rest) rfl
    (by rw [hb]; exact d7) (by rw [hb]; exact d10) hout hRframes (by simp only [List.map_cons, List.sum_cons, hcat]; omega) hlocks
  obtain ⟨f1, f2⟩ := vx_frame hsame
  rw [hhp] at f1 f2
  have hWs : s.WarmedH U.vm := State.WarmedH.trans hW0 hW
  have hcl : s.vm.findClass nxC = some ce.cls := by rw [hvm] at hcl'; exact hcl'
  have hall : s.sameButNew ({ U with vm := s.vm } : State) locs mc ms := by
    subst hA
    obtain ⟨e1, e2⟩ := hsame
    rw [State.setFrames_setFrames] at e1
    have h2 : (T.setVm s.vm).sameButNew ({ U with vm := s.vm } : State) [] (0 + 1) (0 + 6) := ⟨e1, e2⟩
    have h3 := X.same.trans h2
    rw [List.append_nil] at h3
    exact h3.mono hc hs
  refine ⟨U, ?_, .threw T.heap.size, hrun, hend, Or.inr ⟨T.heap.size, rfl, nxC, ce, locs, hx U hWs.alike f1 (fun q hq => f2 q hq (fun z hz => nomatch hz)), hce, hcv, hcl, hWs, hall, hf⟩⟩
  refine st1 _ ?_
  show Steps p.tables e below (T1.setTop { method := m, pc := pc + 3, locals := ls, stack := .ref T.heap.size :: rest, locked := none }) _
  jvm_step X1.here [X1.here.top, hexec, d3', Value.category]
  exact X1.ldcStringW hexec (own := "KitePermits") (text := text) (index := is) (a := sa) hown' hstr'.1 hstr'.2
    (g := { method := m, pc := pc + 4, locals := ls, stack := .ref T.heap.size :: .ref T.heap.size :: rest, locked := none }) rfl d4' _ hsteps
end NX2
theorem ag0_NSE : ∀ w ∈ nxA, goodWord w = true → vx_no w = true → w ∈ ALLW :=
  List.forall_mem_cons.mpr ⟨fun _ _ => q1_11, List.forall_mem_cons.mpr ⟨fun _ _ => q3_78, List.forall_mem_cons.mpr ⟨fun _ _ => q3_87, List.forall_mem_cons.mpr ⟨fun _ _ => q3_92, List.forall_mem_cons.mpr ⟨fun _ _ => q3_95, List.forall_mem_cons.mpr ⟨fun _ _ => q3_97, List.forall_mem_cons.mpr ⟨fun _ _ => q3_79, List.forall_mem_cons.mpr ⟨fun _ _ => q3_80, List.forall_mem_cons.mpr ⟨fun _ _ => q1_31, List.forall_mem_cons.mpr ⟨fun _ _ => q1_32, List.forall_mem_cons.mpr ⟨fun _ _ => q3_81, List.forall_mem_cons.mpr ⟨fun _ _ => q3_86, List.forall_mem_cons.mpr ⟨fun _ _ => q3_93, List.forall_mem_cons.mpr ⟨fun _ _ => q3_113, List.forall_mem_cons.mpr ⟨fun _ _ => q3_68, List.forall_mem_cons.mpr ⟨fun _ _ => q3_114, List.forall_mem_cons.mpr ⟨fun _ _ => q3_70, List.forall_mem_cons.mpr ⟨fun _ _ => q3_115, List.forall_mem_cons.mpr ⟨fun _ _ => q3_72, List.forall_mem_cons.mpr ⟨fun _ _ => q3_82, List.forall_mem_cons.mpr ⟨fun _ q => absurd q (by decide +kernel), List.forall_mem_cons.mpr ⟨fun _ _ => q3_84, List.forall_mem_cons.mpr ⟨fun _ q => absurd q (by decide +kernel), List.forall_mem_cons.mpr ⟨fun _ _ => q3_74, List.forall_mem_cons.mpr ⟨fun _ _ => q3_109, List.forall_mem_cons.mpr ⟨fun _ _ => q3_110, List.forall_mem_cons.mpr ⟨fun _ _ => q3_112, List.forall_mem_cons.mpr ⟨fun _ _ => q3_74, List.forall_mem_cons.mpr ⟨fun _ _ => q5_151, List.forall_mem_cons.mpr ⟨fun _ _ => q5_152, List.forall_mem_cons.mpr ⟨fun _ _ => q5_153, List.forall_mem_cons.mpr ⟨fun _ _ => q3_103, List.forall_mem_cons.mpr ⟨fun q _ => Bool.noConfusion q, List.forall_mem_cons.mpr ⟨fun _ _ => q3_103, List.forall_mem_cons.mpr ⟨fun _ _ => q3_104, List.forall_mem_cons.mpr ⟨fun _ _ => q3_105, List.forall_mem_cons.mpr ⟨fun _ _ => q3_106, List.forall_mem_cons.mpr ⟨fun q _ => Bool.noConfusion q, List.forall_mem_cons.mpr ⟨fun _ _ => q3_106, List.forall_mem_cons.mpr ⟨fun _ _ => q3_107, List.forall_mem_cons.mpr ⟨fun _ _ => q3_108, List.forall_mem_cons.mpr ⟨fun _ _ => q3_109, List.forall_mem_cons.mpr ⟨fun q _ => Bool.noConfusion q, List.forall_mem_cons.mpr ⟨fun _ _ => q5_150, List.forall_mem_cons.mpr ⟨fun _ _ => q5_141, List.forall_mem_cons.mpr ⟨fun q _ => Bool.noConfusion q, List.forall_mem_cons.mpr ⟨fun _ _ => q5_143, List.forall_mem_cons.mpr ⟨fun _ _ => q3_91, List.forall_mem_cons.mpr ⟨fun _ _ => q5_144, List.forall_mem_cons.mpr ⟨fun _ _ => q5_145, List.forall_mem_cons.mpr ⟨fun _ _ => q5_146, List.forall_mem_cons.mpr ⟨fun _ _ => q5_147, List.forall_mem_cons.mpr ⟨fun _ _ => q3_77, List.forall_mem_cons.mpr ⟨fun _ _ => q3_76, List.forall_mem_cons.mpr ⟨fun _ _ => q5_148, fun _ h => nomatch h⟩⟩⟩⟩⟩⟩⟩⟩⟩⟩⟩⟩⟩⟩⟩⟩⟩⟩⟩⟩⟩⟩⟩⟩⟩⟩⟩⟩⟩⟩⟩⟩⟩⟩⟩⟩⟩⟩⟩⟩⟩⟩⟩⟩⟩⟩⟩⟩⟩⟩⟩⟩⟩⟩⟩
theorem ag_NSE : ∀ w ∈ nxS.filter goodWord, w ∈ ALLW := fun w hw => by
  obtain ⟨h1, h2⟩ := List.mem_filter.mp hw
  obtain ⟨h3, h4⟩ := List.mem_filter.mp h1
  exact ag0_NSE w h3 h2 h4
theorem ab_NSE : ∀ w ∈ nxS.filter (fun w => !goodWord w), w ∈ BADW := by decide +kernel
theorem ot_NSE : ∀ w ∈ Cond.classLink "KitePermits" 265 nxC :: Cond.initialized nxC :: nxS, vx_ot w = true := List.all_eq_true.mp (by decide +kernel)
section NX3
variable {G : GC} {E : Ctx} {cc : ByteArray} {own : String} {nL : Nat} {R0 : Room} {w : Lay} {kc ks pc : Nat} {ls : List (Option Value)} {st : List Value} {σ : Mem}
variable {Q : Lay → Option Value → Mem → Prop} {Qx : Lay → String → Mem → Prop} {mc ms : Nat} {ret : Option FieldType}
theorem thSW_NSE (C : Cx G E cc "KitePermits" nL R0) (hR : RetC G E Q Qx mc ms ret) (hN : NoTab E) (hls : ls.length = nL) {is k : Nat} {text : String} (hstr : STRL[k]? = some ("KitePermits", is, text)) (d0 : decode cc pc = .ok (.new 265, 3)) (d3 : decode cc (pc + 3) = .ok (.dup, 1)) (d4 : decode cc (pc + 4) = .ok (.ldc_w is, 3)) (d6 : decode cc (pc + 7) = .ok (.invokespecial 269, 3)) (d9 : decode cc (pc + 10) = .ok (.athrow, 1)) (hf : 5 < R0.frames) (hlo : (st.map fun v => v.category).sum + 82 ≤ R0.locals) (hrc : kc + 1 ≤ R0.cells) (hrs : ks + 6 ≤ R0.slots) (hc : kc + 1 ≤ mc) (hs : ks + 6 ≤ ms) (h : Qx w "java/util/NoSuchElementException" σ) : J G E w kc ks pc ls st σ := by
  obtain ⟨p, e, R, s, m, args, below, meth, cm, Qf⟩ := E
  obtain ⟨hr, rfl⟩ := hR
  intro H locs la h1 h2 h3 h4
  obtain ⟨c1, c2, c3, c4, c5, rfl, c7, c8⟩ := C
  obtain ⟨-, hsz, htr, e1, e2, -, -, -, -, -, -, e9, e10, -⟩ := c8
  have hat : ∀ w ∈ nxS, w.before args s = true := vx_hat (fun w hw => c5 w (ag_NSE w hw)) ab_NSE (fun w hw => by
    have hz := e1 w hw
    have hf := badw_form w hw
    cases w <;> first | exact va_Nw.use rfl hz | cases hf)
  exact nx_throw c1 c2 htr c4 (c5 _ q5_140) (c5 _ q1_24) (e2 k _ hstr) hat ot_NSE e9 e10 h4 (h1.1.trans (hls.trans c3.symm)) d0 d3 d4 d6 d9 (fun x hx => (hN x hx).elim) hf hlo hrc hrs c7 (fun t hA hz hq => ⟨⟨w, σ, h, h2.kept (fun k q hk => hq q.1 (h2 k q hk).lt), h3⟩, by
    refine ⟨Nat.le_trans h4.1 hz, fun q hq1 hq2 => ?_⟩
    rw [hq q (Nat.lt_of_lt_of_le hq1 h4.1)]
    exact h4.2.1 q hq1 hq2⟩) h4.2.2 hc hs
end NX3
