/-! ===== what holds of the world outside, at every method's start ===== -/
def Asz (G : GC) : Nat → Prop := fun q => G.2.2.2.1 ≤ q
def tysOf (G : GC) : List (ClassId × FieldType) := [(G.2.2.1 0, .int), (G.2.2.1 1, .boolean), (G.2.2.1 2, .byte), (G.2.2.1 0, .int), (G.2.2.1 4, .object "KitePermits$Office")]
def stepX (j : Nat) : Int32 := match j with | 0 => 0 | 1 => 1 | 2 => 1 | 3 => 1 | 4 => 0 | 5 => -1 | 6 => -1 | _ => -1
def stepY (j : Nat) : Int32 := match j with | 0 => 1 | 1 => 1 | 2 => 0 | 3 => -1 | 4 => -1 | 5 => -1 | 6 => 0 | _ => 1
/-- the words that are kept beside the good ones -/
def BADW : List Cond := [(Jvm.Cond.methodLinkNest "KitePermits" (19 : Nat) ({ cls := "KitePermits$Office", name := "<init>", desc := "()V" } : Jvm.MethodName) "KitePermits"),
  (Jvm.Cond.methodLinkNest "KitePermits$Office" (11 : Nat) ({ cls := "KitePermits$Field", name := "<init>", desc := "()V" } : Jvm.MethodName) "KitePermits"),
  (Jvm.Cond.methodLinkNest "KitePermits$Office" (20 : Nat) ({ cls := "KitePermits$Fleet", name := "<init>", desc := "()V" } : Jvm.MethodName) "KitePermits"),
  (Jvm.Cond.methodLinkNest "KitePermits$Office" (27 : Nat) ({ cls := "KitePermits$PermitList", name := "<init>", desc := "()V" } : Jvm.MethodName) "KitePermits"),
  (Jvm.Cond.methodLinkNest "KitePermits$History" (17 : Nat) ({ cls := "KitePermits$Office", name := "<init>", desc := "()V" } : Jvm.MethodName) "KitePermits"),
  (Jvm.Cond.methodLinkNest "KitePermits" (40 : Nat) ({ cls := "KitePermits$InputText", name := "<init>", desc := "()V" } : Jvm.MethodName) "KitePermits"),
  (Jvm.Cond.methodLinkNest "KitePermits" (47 : Nat) ({ cls := "KitePermits$Script", name := "<init>", desc := "()V" } : Jvm.MethodName) "KitePermits"),
  (Jvm.Cond.methodLinkNest "KitePermits" (54 : Nat) ({ cls := "KitePermits$OutputText", name := "<init>", desc := "()V" } : Jvm.MethodName) "KitePermits"),
  (Jvm.Cond.castable "java/lang/IllegalArgumentException" "java/lang/IllegalArgumentException"),
  (Jvm.Cond.declares ({ cls := "java/lang/RuntimeException", name := "<init>", desc := "()V" } : Jvm.MethodName)),
  (Jvm.Cond.declares ({ cls := "java/lang/RuntimeException", name := "<init>", desc := "(Ljava/lang/String;)V" } : Jvm.MethodName)),
  (Jvm.Cond.declares ({ cls := "java/lang/Exception", name := "<init>", desc := "()V" } : Jvm.MethodName)),
  (Jvm.Cond.declares ({ cls := "java/lang/Exception", name := "<init>", desc := "(Ljava/lang/String;)V" } : Jvm.MethodName)),
  (Jvm.Cond.declares ({ cls := "java/lang/Throwable", name := "<init>", desc := "()V" } : Jvm.MethodName)),
  (Jvm.Cond.declares ({ cls := "java/lang/Throwable", name := "<init>", desc := "(Ljava/lang/String;)V" } : Jvm.MethodName)),
  (Jvm.Cond.castable "java/lang/IndexOutOfBoundsException" "java/lang/IndexOutOfBoundsException"),
  (Jvm.Cond.castable "java/lang/IllegalStateException" "java/lang/IllegalStateException")]
def badForm (w : Cond) : Bool := match w with | .castable _ _ => true | .declares _ => true | .methodLinkNest _ _ _ _ => true | _ => false
theorem badw_form : ∀ w ∈ BADW, badForm w = true := fun w h => List.all_eq_true.mp (show BADW.all badForm = true by decide +kernel) w h
/-- the String constants -/
def STRL : List (String × Nat × String) := [("KitePermits", 390, "an argument is out of range"), ("KitePermits", 399, "the kite does not exist"), ("KitePermits", 393, "the hour is out of range"), ("KitePermits", 232, "the kite cannot be launched"), ("KitePermits", 402, "the kite is in another state"), ("KitePermits", 256, "the kite cannot be repaired"), ("KitePermits", 406, "the colour does not exist"), ("KitePermits", 227, "there are 16 kites"), ("KitePermits", 408, "the permit does not exist"), ("KitePermits", 395, "both kites are the same"), ("KitePermits", 250, "the permit is refused")]
def slen : List Nat := [27, 23, 24, 27, 28, 27, 25, 18, 25, 23, 21]
def sbyt : List (List Int32) := [[97, 110, 32, 97, 114, 103, 117, 109, 101, 110, 116, 32, 105, 115, 32, 111, 117, 116, 32, 111, 102, 32, 114, 97, 110, 103, 101], [116, 104, 101, 32, 107, 105, 116, 101, 32, 100, 111, 101, 115, 32, 110, 111, 116, 32, 101, 120, 105, 115, 116], [116, 104, 101, 32, 104, 111, 117, 114, 32, 105, 115, 32, 111, 117, 116, 32, 111, 102, 32, 114, 97, 110, 103, 101], [116, 104, 101, 32, 107, 105, 116, 101, 32, 99, 97, 110, 110, 111, 116, 32, 98, 101, 32, 108, 97, 117, 110, 99, 104, 101, 100], [116, 104, 101, 32, 107, 105, 116, 101, 32, 105, 115, 32, 105, 110, 32, 97, 110, 111, 116, 104, 101, 114, 32, 115, 116, 97, 116, 101], [116, 104, 101, 32, 107, 105, 116, 101, 32, 99, 97, 110, 110, 111, 116, 32, 98, 101, 32, 114, 101, 112, 97, 105, 114, 101, 100], [116, 104, 101, 32, 99, 111, 108, 111, 117, 114, 32, 100, 111, 101, 115, 32, 110, 111, 116, 32, 101, 120, 105, 115, 116], [116, 104, 101, 114, 101, 32, 97, 114, 101, 32, 49, 54, 32, 107, 105, 116, 101, 115], [116, 104, 101, 32, 112, 101, 114, 109, 105, 116, 32, 100, 111, 101, 115, 32, 110, 111, 116, 32, 101, 120, 105, 115, 116], [98, 111, 116, 104, 32, 107, 105, 116, 101, 115, 32, 97, 114, 101, 32, 116, 104, 101, 32, 115, 97, 109, 101], [116, 104, 101, 32, 112, 101, 114, 109, 105, 116, 32, 105, 115, 32, 114, 101, 102, 117, 115, 101, 100]]
def NCL : List (String × String) := [("java/lang/IndexOutOfBoundsException", "java/lang/IllegalStateException"), ("java/lang/IllegalArgumentException", "java/lang/IllegalStateException")]
/-- the script, out of the numbers in G: place 2 its address, 3 its length, 1000 + j its j-th int -/
def scr (G : GC) (j : Nat) : Int32 := (UInt32.ofNat (G.2.2.2.2 (1000 + j))).toInt32
def Ext (G : GC) (U : State) (H : Heap) : Prop :=
  (∀ w ∈ BADW, va_Nw w U) ∧ (∀ (k : Nat) (q : String × Nat × String), STRL[k]? = some q → vk_R q.1 q.2.1 q.2.2 (G.2.2.2.2 (100 + k)) U) ∧
  vk_S 11 slen sbyt (fun k => G.2.2.2.2 (100 + k)) (fun k => G.2.2.2.2 (200 + k)) (Asz G) U H ∧
  va_Z "KitePermits$Field" "STEP_X" "[I" (.ref (G.2.2.2.2 0)) (Asz G) U H ∧ va_T .int (G.2.2.2.2 0) 8 (fun j => .int (stepX j)) (Asz G) U H ∧
  va_Z "KitePermits$Field" "STEP_Y" "[I" (.ref (G.2.2.2.2 1)) (Asz G) U H ∧ va_T .int (G.2.2.2.2 1) 8 (fun j => .int (stepY j)) (Asz G) U H ∧
  va_T .int (G.2.2.2.2 2) (G.2.2.2.2 3) (fun j => .int (scr G j)) (Asz G) U H ∧
  vx_Zq Bundle.tN "UNASSIGNED_STACK" Bundle.steD (Asz G) U H ∧ vx_Zq Bundle.tN "SUPPRESSED_SENTINEL" Bundle.listD (Asz G) U H ∧ (∀ q ∈ NCL, va_Nc q.1 q.2 U) ∧ G.2.2.2.2 3 ≤ 260
def Envt (G : GC) (U : State) : Prop := va_K G.2.1 vwCl (tysOf G) U ∧ G.2.2.2.1 ≤ U.heap.size ∧ G.1.stackTraces = false ∧ Ext G U U.heap
theorem badw_same {w : Cond} (hb : badForm w = true) {u U : State} (h : u.vm = U.vm) (hZ : va_Nw w u) : va_Nw w U := by
  cases w <;> first | exact va_Nw.same rfl h hZ | cases hb
theorem badw_warm {w : Cond} (hb : badForm w = true) {s U : State} (hW : s.WarmedH U.vm) (hZ : va_Nw w s) : va_Nw w U := by
  cases w <;> first | exact va_Nw.warmC hW hZ | exact va_Nw.warmD hW hZ | exact va_Nw.warmM hW hZ | cases hb
theorem Ext.warm {G : GC} {s U : State} {H H1 : Heap} (hW : s.WarmedH U.vm) (hq : ∀ a : Nat, a < H.size → ¬ Asz G a → H1[a]? = H[a]?) (h : Ext G s H) : Ext G U H1 := by
  obtain ⟨h1, h2, h3, h4, h5, h6, h7, h8, h9, h10, h11, h12⟩ := h
  have hA := hW.alike
  exact ⟨fun w hw => badw_warm (badw_form w hw) hW (h1 w hw), fun k q hk => vk_R.warm hW (h2 k q hk), vk_S.kept (vk_S.moved hA h3) hq, va_Z.kept (va_Z.moved hA h4) hq, va_T.kept (va_T.moved hA h5) hq, va_Z.kept (va_Z.moved hA h6) hq, va_T.kept (va_T.moved hA h7) hq, va_T.kept (va_T.moved hA h8) hq, vx_Zq.kept (vx_Zq.moved hA h9) hq, vx_Zq.kept (vx_Zq.moved hA h10) hq, fun q hq9 => va_Nc.moved hA (h11 q hq9), h12⟩
theorem Ext.same {G : GC} {u U : State} {H : Heap} (hv : u.vm = U.vm) (h : Ext G u H) : Ext G U H := by
  obtain ⟨h1, h2, h3, h4, h5, h6, h7, h8, h9, h10, h11, h12⟩ := h
  have hA : u.vm.Alike U.vm := by rw [hv]; exact Vm.Alike.refl _
  exact ⟨fun w hw => badw_same (badw_form w hw) hv (h1 w hw), fun k q hk => vk_R.same hv.symm (h2 k q hk), vk_S.moved hA h3, va_Z.moved hA h4, va_T.moved hA h5, va_Z.moved hA h6, va_T.moved hA h7, va_T.moved hA h8, vx_Zq.moved hA h9, vx_Zq.moved hA h10, fun q hq9 => va_Nc.moved hA (h11 q hq9), h12⟩
theorem Envt.warm {G : GC} {s U : State} (hW : s.WarmedH U.vm) (hz : s.heap.size ≤ U.heap.size) (hq : ∀ a : Nat, a < s.heap.size → ¬ Asz G a → U.heap[a]? = s.heap[a]?) (h : Envt G s) : Envt G U :=
  ⟨va_K.moved hW.alike h.1, Nat.le_trans h.2.1 hz, h.2.2.1, Ext.warm hW hq h.2.2.2⟩
theorem Envt.same {G : GC} {u U : State} (hv : u.vm = U.vm) (hh : u.heap = U.heap) (h : Envt G u) : Envt G U :=
  ⟨va_K.moved (by rw [hv]; exact Vm.Alike.refl _) h.1, by rw [← hh]; exact h.2.1, h.2.2.1, by rw [← hh]; exact Ext.same hv h.2.2.2⟩
