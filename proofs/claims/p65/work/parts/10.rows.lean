/-! ===== rows over the memory: fields, arrays, calls, throws ===== -/
section JM
variable {G : GC} {E : Ctx} {cc : ByteArray} {own : String} {nL : Nat} {R0 : Room} {w : Lay} {kc ks pc : Nat} {ls : List (Option Value)} {st : List Value} {σ : Mem}
theorem J_getI (C : Cx G E cc own nL R0) {o c j ci idx N : Nat} {T : u_T} {Cn ref : String} (hm : (o, c) ∈ w.1) (hk : kd o c = (5, ci)) (hcl : vwCl[ci]? = some (Cn, T, N)) (hf : (fk ci)[j]? = some 0) (hj : j < N) (hin : ∀ w ∈ u_ws Cn T N, w ∈ ALLW) (hlk : Cond.fieldLink own idx ref (T j).2.1 (T j).2.2.1 ∈ ALLW) (hrf : (T j).1 = ref)
    (hd : decode cc pc = .ok (.getfield idx, 3)) (h : J G E w kc ks (pc + 3) ls (.int (rd σ o c j) :: st) σ) : J G E w kc ks pc ls (.ref (w.2.1 o c) :: st) σ := by
  obtain ⟨p, e, R, s, m, args, below, meth, cm, Q⟩ := E
  intro H locs la h1 h2 h3 h4
  obtain ⟨q, hq, -⟩ := ws_get (G := G) (σ := σ) hm
  rw [enc_obj hk] at hq
  exact va_get C.1 C.2.1 C.2.2.2.2.1 hin C.2.2.2.1 C.2.2.2.2.2.2.2.1 h2 q hq hcl j hj (C.2.2.2.2.1 _ hlk) (fun x hx => by rw [← hrf]; exact hx) (v := .int (rd σ o c j)) (by rw [fvals_get hf]; rfl) hd (h H locs la h1 h2 h3 h4)
theorem J_getR (C : Cx G E cc own nL R0) {o c j ci idx N a : Nat} {T : u_T} {Cn ref : String} (hm : (o, c) ∈ w.1) (hk : kd o c = (5, ci)) (hcl : vwCl[ci]? = some (Cn, T, N)) (hf : (fk ci)[j]? = some 1) (hj : j < N) (hin : ∀ w ∈ u_ws Cn T N, w ∈ ALLW) (hlk : Cond.fieldLink own idx ref (T j).2.1 (T j).2.2.1 ∈ ALLW) (hrf : (T j).1 = ref) (ha : w.2.2 o c j = some a)
    (hd : decode cc pc = .ok (.getfield idx, 3)) (h : J G E w kc ks (pc + 3) ls (.ref a :: st) σ) : J G E w kc ks pc ls (.ref (w.2.1 o c) :: st) σ := by
  obtain ⟨p, e, R, s, m, args, below, meth, cm, Q⟩ := E
  intro H locs la h1 h2 h3 h4
  obtain ⟨q, hq, -⟩ := ws_get (G := G) (σ := σ) hm
  rw [enc_obj hk] at hq
  exact va_get C.1 C.2.1 C.2.2.2.2.1 hin C.2.2.2.1 C.2.2.2.2.2.2.2.1 h2 q hq hcl j hj (C.2.2.2.2.1 _ hlk) (fun x hx => by rw [← hrf]; exact hx) (v := .ref a) (by rw [fvals_get hf]; unfold fval; rw [if_neg (by decide), if_pos rfl, ha]; rfl) hd (h H locs la h1 h2 h3 h4)
theorem J_getL (C : Cx G E cc own nL R0) {o c j ci idx N : Nat} {T : u_T} {Cn ref : String} (hm : (o, c) ∈ w.1) (hk : kd o c = (5, ci)) (hcl : vwCl[ci]? = some (Cn, T, N)) (hf : (fk ci)[j]? = some 2) (hj : j < N) (hin : ∀ w ∈ u_ws Cn T N, w ∈ ALLW) (hlk : Cond.fieldLink own idx ref (T j).2.1 (T j).2.2.1 ∈ ALLW) (hrf : (T j).1 = ref)
    (hd : decode cc pc = .ok (.getfield idx, 3)) (h : J G E w kc ks (pc + 3) ls (.long (rdL σ 0) :: st) σ) : J G E w kc ks pc ls (.ref (w.2.1 o c) :: st) σ := by
  obtain ⟨p, e, R, s, m, args, below, meth, cm, Q⟩ := E
  intro H locs la h1 h2 h3 h4
  obtain ⟨q, hq, -⟩ := ws_get (G := G) (σ := σ) hm
  rw [enc_obj hk] at hq
  exact va_get C.1 C.2.1 C.2.2.2.2.1 hin C.2.2.2.1 C.2.2.2.2.2.2.2.1 h2 q hq hcl j hj (C.2.2.2.2.1 _ hlk) (fun x hx => by rw [← hrf]; exact hx) (v := .long (rdL σ 0)) (by rw [fvals_get hf]; rfl) hd (h H locs la h1 h2 h3 h4)
theorem J_putI (C : Cx G E cc own nL R0) {o c j ci idx N : Nat} {T : u_T} {Cn ref : String} {x : Int32} {ty0 : Nat → FieldType} (hm : (o, c) ∈ w.1) (hk : kd o c = (5, ci)) (hcl : vwCl[ci]? = some (Cn, T, N)) (hf : (fk ci)[j]? = some 0) (hj : j < N) (hin : ∀ w ∈ u_ws Cn T N, w ∈ ALLW)
    (hty : ∀ k, k < N → parseFieldDescriptor (T k).2.2.1 = some (ty0 k)) (hnm : ∀ a, a < N → ∀ b, b < N → a ≠ b → (T a).2.1 ≠ (T b).2.1) (hlk : Cond.fieldLink own idx ref (T j).2.1 (T j).2.2.1 ∈ ALLW) (hrf : (T j).1 = ref) (hfin : (T j).2.2.2 = false) (hint : parseFieldDescriptor (T j).2.2.1 = some .int)
    (hd : decode cc pc = .ok (.putfield idx, 3)) (h : J G E w kc ks (pc + 3) ls st (wr σ o c j x)) : J G E w kc ks pc ls (.int x :: .ref (w.2.1 o c) :: st) σ := by
  obtain ⟨p, e, R, s, m, args, below, meth, cm, Q⟩ := E
  intro H locs la h1 h2 h3 h4
  obtain ⟨q, hq, hq2⟩ := ws_get (G := G) (σ := σ) hm
  rw [enc_obj hk] at hq
  have hset := ws_set (σ' := wr σ o c j x) h3 hq2 ((enc_obj hk).trans (by rw [fvals_set hf])) (fun a b hab => enc_wr_ne hab)
  exact va_put C.1 C.2.1 C.2.2.2.2.1 hin ty0 hty hnm C.2.2.2.1 C.2.2.2.2.2.2.2.1 h2 h3 h4 q hq hcl j hj (C.2.2.2.2.1 _ hlk) (fun x hx => by rw [← hrf]; exact hx) hfin hint (v := .int x) (vp_nar_int x) rfl (by rw [fvals_len]; exact (List.getElem?_eq_some_iff.mp hf).1) hd
    (fun H1 locs1 hP1 hD1 hS1 => h H1 locs1 la h1 (hset ▸ hP1) (hset ▸ hD1) hS1)
theorem J_putL (C : Cx G E cc own nL R0) {o c j ci idx N : Nat} {T : u_T} {Cn ref : String} {x : Int64} {ty0 : Nat → FieldType} (hm : (o, c) ∈ w.1) (hk : kd o c = (5, ci)) (hcl : vwCl[ci]? = some (Cn, T, N)) (hf : (fk ci)[j]? = some 2) (hj : j < N) (hin : ∀ w ∈ u_ws Cn T N, w ∈ ALLW)
    (hu : ∀ i : Nat, (fk ci)[i]? = some 2 → i = j) (hk2 : ∀ i k : Nat, (fk ci)[i]? = some k → k = 0 ∨ k = 1 ∨ k = 2) (hother : ∀ a b, ¬ (a = o ∧ b = c) → enc G w (wrL σ 0 x) a b = enc G w σ a b)
    (hty : ∀ k, k < N → parseFieldDescriptor (T k).2.2.1 = some (ty0 k)) (hnm : ∀ a, a < N → ∀ b, b < N → a ≠ b → (T a).2.1 ≠ (T b).2.1) (hlk : Cond.fieldLink own idx ref (T j).2.1 (T j).2.2.1 ∈ ALLW) (hrf : (T j).1 = ref) (hfin : (T j).2.2.2 = false) (hint : parseFieldDescriptor (T j).2.2.1 = some .long)
    (hd : decode cc pc = .ok (.putfield idx, 3)) (h : J G E w kc ks (pc + 3) ls st (wrL σ 0 x)) : J G E w kc ks pc ls (.long x :: .ref (w.2.1 o c) :: st) σ := by
  obtain ⟨p, e, R, s, m, args, below, meth, cm, Q⟩ := E
  intro H locs la h1 h2 h3 h4
  obtain ⟨q, hq, hq2⟩ := ws_get (G := G) (σ := σ) hm
  rw [enc_obj hk] at hq
  have hset := ws_set (σ' := wrL σ 0 x) h3 hq2 ((enc_obj hk).trans (by rw [fvals_setL hf hu hk2])) hother
  exact va_put C.1 C.2.1 C.2.2.2.2.1 hin ty0 hty hnm C.2.2.2.1 C.2.2.2.2.2.2.2.1 h2 h3 h4 q hq hcl j hj (C.2.2.2.2.1 _ hlk) (fun x hx => by rw [← hrf]; exact hx) hfin hint (v := .long x) rfl rfl (by rw [fvals_len]; exact (List.getElem?_eq_some_iff.mp hf).1) hd
    (fun H1 locs1 hP1 hD1 hS1 => h H1 locs1 la h1 (hset ▸ hP1) (hset ▸ hD1) hS1)
theorem J_iaload (C : Cx G E cc own nL R0) {o c n k : Nat} {i : Int32} (hm : (o, c) ∈ w.1) (hk : kd o c = (0, n)) (hi : i = nI k) (hkn : k < n) (hn : n < 2 ^ 31) (hd : decode cc pc = .ok (.iaload, 1)) (h : J G E w kc ks (pc + 1) ls (.int (rd σ o c k) :: st) σ) : J G E w kc ks pc ls (.int i :: .ref (w.2.1 o c) :: st) σ := by
  obtain ⟨p, e, R, s, m, args, below, meth, cm, Q⟩ := E
  intro H locs la h1 h2 h3 h4
  obtain ⟨q, hq, -⟩ := ws_get (G := G) (σ := σ) hm
  rw [enc_int hk] at hq
  subst hi
  refine va_iald C.1 C.2.1 C.2.2.2.2.2.2.2.1 h2 q 0 hq rfl (vp_in_nI hkn hn) hd ?_
  rw [nI_clamp (Nat.lt_trans hkn hn)]
  exact h H locs la h1 h2 h3 h4
theorem J_zaload (C : Cx G E cc own nL R0) {o c n k : Nat} {i : Int32} (hm : (o, c) ∈ w.1) (hk : kd o c = (1, n)) (hi : i = nI k) (hkn : k < n) (hn : n < 2 ^ 31) (hd : decode cc pc = .ok (.baload, 1)) (h : J G E w kc ks (pc + 1) ls (.int (rd σ o c k) :: st) σ) : J G E w kc ks pc ls (.int i :: .ref (w.2.1 o c) :: st) σ := by
  obtain ⟨p, e, R, s, m, args, below, meth, cm, Q⟩ := E
  intro H locs la h1 h2 h3 h4
  obtain ⟨q, hq, -⟩ := ws_get (G := G) (σ := σ) hm
  rw [enc_bool hk] at hq
  subst hi
  refine va_zald C.1 C.2.1 C.2.2.2.2.2.2.2.1 h2 q 1 hq rfl (vp_in_nI hkn hn) hd ?_
  rw [nI_clamp (Nat.lt_trans hkn hn)]
  exact h H locs la h1 h2 h3 h4
theorem J_baload (C : Cx G E cc own nL R0) {o c n k : Nat} {i : Int32} (hm : (o, c) ∈ w.1) (hk : kd o c = (2, n)) (hi : i = nI k) (hkn : k < n) (hn : n < 2 ^ 31) (hd : decode cc pc = .ok (.baload, 1)) (h : J G E w kc ks (pc + 1) ls (.int (rd σ o c k) :: st) σ) : J G E w kc ks pc ls (.int i :: .ref (w.2.1 o c) :: st) σ := by
  obtain ⟨p, e, R, s, m, args, below, meth, cm, Q⟩ := E
  intro H locs la h1 h2 h3 h4
  obtain ⟨q, hq, -⟩ := ws_get (G := G) (σ := σ) hm
  rw [enc_byte hk] at hq
  subst hi
  refine va_bald C.1 C.2.1 C.2.2.2.2.2.2.2.1 h2 q 2 hq rfl (vp_in_nI hkn hn) hd ?_
  rw [nI_clamp (Nat.lt_trans hkn hn)]
  exact h H locs la h1 h2 h3 h4
theorem J_aaload (C : Cx G E cc own nL R0) {o c n k a : Nat} {i : Int32} (hm : (o, c) ∈ w.1) (hk : kd o c = (4, n)) (hi : i = nI k) (hkn : k < n) (hn : n < 2 ^ 31) (ha : w.2.2 o c k = some a) (hd : decode cc pc = .ok (.aaload, 1)) (h : J G E w kc ks (pc + 1) ls (.ref a :: st) σ) : J G E w kc ks pc ls (.int i :: .ref (w.2.1 o c) :: st) σ := by
  obtain ⟨p, e, R, s, m, args, below, meth, cm, Q⟩ := E
  intro H locs la h1 h2 h3 h4
  obtain ⟨q, hq, -⟩ := ws_get (G := G) (σ := σ) hm
  rw [enc_refs hk] at hq
  subst hi
  refine va_aldq C.1 C.2.1 C.2.2.2.2.2.2.2.1 h2 q 4 hq rfl (vp_in_nI hkn hn) hd ?_
  rw [nI_clamp (Nat.lt_trans hkn hn), ha]
  exact h H locs la h1 h2 h3 h4
theorem J_iastore (C : Cx G E cc own nL R0) {o c n k : Nat} {i x : Int32} (hm : (o, c) ∈ w.1) (hk : kd o c = (0, n)) (hi : i = nI k) (hkn : k < n) (hn : n < 2 ^ 31) (hd : decode cc pc = .ok (.iastore, 1)) (h : J G E w kc ks (pc + 1) ls st (wr σ o c k x)) : J G E w kc ks pc ls (.int x :: .int i :: .ref (w.2.1 o c) :: st) σ := by
  obtain ⟨p, e, R, s, m, args, below, meth, cm, Q⟩ := E
  intro H locs la h1 h2 h3 h4
  obtain ⟨q, hq, hq2⟩ := ws_get (G := G) (σ := σ) hm
  rw [enc_int hk] at hq
  subst hi
  have hset := ws_set (σ' := wr σ o c k x) h3 hq2 ((enc_int hk).trans (by rw [rd_wr_upd])) (fun a b hab => enc_wr_ne hab)
  refine va_iast C.1 C.2.1 C.2.2.2.2.2.2.2.1 h2 h3 h4 q 0 hq rfl (vp_in_nI hkn hn) hd (fun H1 locs1 hP1 hD1 hS1 => ?_)
  rw [nI_clamp (Nat.lt_trans hkn hn)] at hP1 hD1
  exact h H1 locs1 la h1 (hset ▸ hP1) (hset ▸ hD1) hS1
theorem J_zastore (C : Cx G E cc own nL R0) {o c n k : Nat} {i x : Int32} (hm : (o, c) ∈ w.1) (hk : kd o c = (1, n)) (hi : i = nI k) (hkn : k < n) (hn : n < 2 ^ 31) (hx : x = 0 ∨ x = 1) (hd : decode cc pc = .ok (.bastore, 1)) (h : J G E w kc ks (pc + 1) ls st (wr σ o c k x)) : J G E w kc ks pc ls (.int x :: .int i :: .ref (w.2.1 o c) :: st) σ := by
  obtain ⟨p, e, R, s, m, args, below, meth, cm, Q⟩ := E
  intro H locs la h1 h2 h3 h4
  obtain ⟨q, hq, hq2⟩ := ws_get (G := G) (σ := σ) hm
  rw [enc_bool hk] at hq
  subst hi
  have hset := ws_set (σ' := wr σ o c k x) h3 hq2 ((enc_bool hk).trans (by rw [rd_wr_upd])) (fun a b hab => enc_wr_ne hab)
  have hnar : vp_nar .boolean x = x := by rcases hx with rfl | rfl <;> rfl
  refine va_zast C.1 C.2.1 C.2.2.2.2.2.2.2.1 h2 h3 h4 q 1 hq rfl (vp_in_nI hkn hn) hd (fun H1 locs1 hP1 hD1 hS1 => ?_)
  rw [nI_clamp (Nat.lt_trans hkn hn), hnar] at hP1 hD1
  exact h H1 locs1 la h1 (hset ▸ hP1) (hset ▸ hD1) hS1
theorem J_bastore (C : Cx G E cc own nL R0) {o c n k : Nat} {i x : Int32} (hm : (o, c) ∈ w.1) (hk : kd o c = (2, n)) (hi : i = nI k) (hkn : k < n) (hn : n < 2 ^ 31) (hd : decode cc pc = .ok (.bastore, 1)) (h : J G E w kc ks (pc + 1) ls st (wr σ o c k x.toInt8.toInt32)) : J G E w kc ks pc ls (.int x :: .int i :: .ref (w.2.1 o c) :: st) σ := by
  obtain ⟨p, e, R, s, m, args, below, meth, cm, Q⟩ := E
  intro H locs la h1 h2 h3 h4
  obtain ⟨q, hq, hq2⟩ := ws_get (G := G) (σ := σ) hm
  rw [enc_byte hk] at hq
  subst hi
  have hset := ws_set (σ' := wr σ o c k x.toInt8.toInt32) h3 hq2 ((enc_byte hk).trans (by rw [rd_wr_upd])) (fun a b hab => enc_wr_ne hab)
  refine va_bast C.1 C.2.1 C.2.2.2.2.2.2.2.1 h2 h3 h4 q 2 hq rfl (vp_in_nI hkn hn) hd (fun H1 locs1 hP1 hD1 hS1 => ?_)
  rw [nI_clamp (Nat.lt_trans hkn hn), vp_nar_byte] at hP1 hD1
  exact h H1 locs1 la h1 (hset ▸ hP1) (hset ▸ hD1) hS1
theorem pre_blind {As : List Value} : FrameBlind (PreMT G w σ As) := fun a U g mk hp => ⟨hp.1, hp.2.1, hp.2.2.1, Envt.same (u := U) (U := U.calling g mk a) rfl rfl hp.2.2.2⟩
/-- the words of a call of an instance method -/
theorem goodV {idx : Nat} {y : MethodName} {Cn : String} {cy : ByteArray} {n : Nat} {ret : Option FieldType} (a : Cond.methodLink own idx y ∈ ALLW) (b : Cond.instanceMethod y ∈ ALLW) (c : Cond.selects Cn y y ∈ ALLW) (d : Cond.initialized Cn ∈ ALLW) (e : Cond.code y cy n ret ∈ ALLW) : GoodIn ALLW (wsV own idx Cn y (cw y cy n ret)) := by
  intro w hw
  have hm : w ∈ ALLW := by
    rcases List.mem_append.mp hw with h | h
    · rcases List.mem_cons.mp h with h | h
      · rw [h]; exact a
      rcases List.mem_cons.mp h with h | h
      · rw [h]; exact b
      rcases List.mem_cons.mp h with h | h
      · rw [h]; exact c
      rcases List.mem_cons.mp h with h | h
      · rw [h]; exact d
      cases h
    · rcases List.mem_cons.mp h with h | h
      · rw [h]; exact e
      · exact h
  exact ⟨hm, allw_good w hm⟩
theorem goodS {idx : Nat} {y : MethodName} {cy : ByteArray} {n : Nat} {ret : Option FieldType} (a : Cond.methodLink own idx y ∈ ALLW) (b : Cond.static y ∈ ALLW) (d : Cond.initialized y.cls ∈ ALLW) (e : Cond.code y cy n ret ∈ ALLW) : GoodIn ALLW (va_wsS own idx y (cw y cy n ret)) := by
  intro w hw
  have hm : w ∈ ALLW := by
    rcases List.mem_append.mp hw with h | h
    · rcases List.mem_cons.mp h with h | h
      · rw [h]; exact a
      rcases List.mem_cons.mp h with h | h
      · rw [h]; exact b
      rcases List.mem_cons.mp h with h | h
      · rw [h]; exact d
      cases h
    · rcases List.mem_cons.mp h with h | h
      · rw [h]; exact e
      · exact h
  exact ⟨hm, allw_good w hm⟩
theorem J_invV (C : Cx G E cc own nL R0) (hls : ls.length = nL) {y : MethodName} {cy : ByteArray} {maxL n idx mc ms o c ci N : Nat} {ret : Option FieldType} {rm : Room} {Cn : String} {T : u_T} {As stk : List Value} (hstk : stk = As.reverse ++ .ref (w.2.1 o c) :: st)
    (hm : (o, c) ∈ w.1) (hk : kd o c = (5, ci)) (hcl : vwCl[ci]? = some (Cn, T, N)) (hlk : GoodIn ALLW (wsV own idx Cn y (cw y cy maxL ret)))
    (hy : y.cls = Cn ∧ y.cls ≠ "java/lang/invoke/MethodHandle" ∧ y.cls ≠ "java/lang/invoke/VarHandle" ∧ (parseMethodDescriptor y.desc).map (fun d => d.parameters.length) = some n) (hrc : rm.cells = mc) (hrs : rm.slots = ms) (hroom : rm.frames + 1 ≤ R0.frames ∧ 8 + (maxL + 11) + rm.locals ≤ R0.locals)
    (hn : As.length = n) (hcs : kc + mc ≤ R0.cells ∧ ks + ms ≤ R0.slots) (hst : (st.map fun v => v.category).sum ≤ 8) (hd : decode cc pc = .ok (.invokevirtual idx, 3))
    (hM : MT G y (cw y cy maxL ret) rm mc ms w σ (.ref (w.2.1 o c) :: As) (fun w' r σ' => J G E w' (kc + mc) (ks + ms) (pc + 3) ls (r.toList ++ st) σ') (fun w' X σ' => JX G E w' (kc + mc) (ks + ms) pc ls st σ' X)) : J G E w kc ks pc ls stk σ := by
  obtain ⟨p, e, R, s, m, args, below, meth, cm, Q⟩ := E
  subst hstk
  intro H locs la h1 h2 h3 h4
  obtain ⟨c1, c2, c3, c4, c5, rfl, c7, c8⟩ := C
  obtain ⟨q, hq, -⟩ := ws_get (G := G) (σ := σ) hm
  rw [enc_obj hk] at hq
  have hr := vx_runV (H := H) (locs := locs) (below := below) (meth := meth) (p := p) (l := G.1) (e := e) (cells := kc) (slots := ks) (g := F0 m pc la (As.reverse ++ .ref (w.2.1 o c) :: st)) (rest := st) ⟨c1, c2, c3, c4, c5⟩ hM (cwV n c5 hlk rfl hrc hrs hy hroom)
    ⟨pre_blind, va_recv c8.1 h2 hcl hq, fun U hU hW => ⟨rfl, by rw [hU]; exact h2, h3, Envt.warm hW (by rw [hU]; exact h4.1) (by rw [hU]; exact h4.2.1) c8⟩⟩ rfl hn (h1.1.trans hls) rfl (lv_room hst) hd hcs
  intro T hT X
  rcases hr T hT X with ⟨v, st₀, t, T', L, h0, X', hL, e1, e2, ⟨⟨w', r, σ', hv, hq', hP', hD'⟩, hF⟩, hst'⟩ | ⟨q, st₀, t, T', L, X9, ce, h0, X', hL, e1, e2, ⟨⟨w', σ', hq', hP', hD'⟩, hF⟩, hce, hcv, hcl', hst'⟩
  · cases hv
    obtain ⟨k1, k2, k3⟩ := vx_keep h0 e1 h4 (fun q _ h => h) (fun q h => h) hL hF
    obtain ⟨t2, a1, b1⟩ := hq' T'.heap (locs ++ L) la h1 (by rw [e1]; exact hP') hD' k3 T' rfl X'
    exact ⟨t2, hst' t2 a1, b1⟩
  · obtain ⟨k1, k2, k3⟩ := vx_keep h0 e1 h4 (fun q _ h => h) (fun q h => h) hL hF
    obtain ⟨t2, a1, b1⟩ := hq' T'.heap (locs ++ L) la q ce h1 (by rw [e1]; exact hP') hD' k3 (by rw [e1]; exact hce) hcv hcl' T' rfl X'
    exact ⟨t2, hst'.trans a1, b1⟩
theorem J_invS (C : Cx G E cc own nL R0) (hls : ls.length = nL) {y : MethodName} {cy : ByteArray} {maxL n idx mc ms : Nat} {ret : Option FieldType} {rm : Room} {As stk : List Value} (hstk : stk = As.reverse ++ st)
    (hlk : GoodIn ALLW (va_wsS own idx y (cw y cy maxL ret)))
    (hy : y.cls ≠ "java/lang/invoke/MethodHandle" ∧ y.cls ≠ "java/lang/invoke/VarHandle" ∧ (parseMethodDescriptor y.desc).map (fun d => d.parameters.length) = some n) (hrc : rm.cells = mc) (hrs : rm.slots = ms) (hroom : rm.frames + 1 ≤ R0.frames ∧ 8 + (maxL + 11) + rm.locals ≤ R0.locals)
    (hn : As.length = n) (hcs : kc + mc ≤ R0.cells ∧ ks + ms ≤ R0.slots) (hst : (st.map fun v => v.category).sum ≤ 8) (hd : decode cc pc = .ok (.invokestatic idx, 3))
    (hM : MT G y (cw y cy maxL ret) rm mc ms w σ As (fun w' r σ' => J G E w' (kc + mc) (ks + ms) (pc + 3) ls (r.toList ++ st) σ') (fun w' X σ' => JX G E w' (kc + mc) (ks + ms) pc ls st σ' X)) : J G E w kc ks pc ls stk σ := by
  obtain ⟨p, e, R, s, m, args, below, meth, cm, Q⟩ := E
  subst hstk
  intro H locs la h1 h2 h3 h4
  obtain ⟨c1, c2, c3, c4, c5, rfl, c7, c8⟩ := C
  have hr := vx_runS (H := H) (locs := locs) (below := below) (meth := meth) (p := p) (l := G.1) (e := e) (cells := kc) (slots := ks) (g := F0 m pc la (As.reverse ++ st)) (rest := st) ⟨c1, c2, c3, c4, c5⟩ hM (va_cwS n c5 hlk rfl hrc hrs hy hroom)
    ⟨pre_blind, fun U hU hW => ⟨rfl, by rw [hU]; exact h2, h3, Envt.warm hW (by rw [hU]; exact h4.1) (by rw [hU]; exact h4.2.1) c8⟩⟩ rfl hn (h1.1.trans hls) rfl (lv_room hst) hd hcs
  intro T hT X
  rcases hr T hT X with ⟨v, st₀, t, T', L, h0, X', hL, e1, e2, ⟨⟨w', r, σ', hv, hq', hP', hD'⟩, hF⟩, hst'⟩ | ⟨q, st₀, t, T', L, X9, ce, h0, X', hL, e1, e2, ⟨⟨w', σ', hq', hP', hD'⟩, hF⟩, hce, hcv, hcl', hst'⟩
  · cases hv
    obtain ⟨k1, k2, k3⟩ := vx_keep h0 e1 h4 (fun q _ h => h) (fun q h => h) hL hF
    obtain ⟨t2, a1, b1⟩ := hq' T'.heap (locs ++ L) la h1 (by rw [e1]; exact hP') hD' k3 T' rfl X'
    exact ⟨t2, hst' t2 a1, b1⟩
  · obtain ⟨k1, k2, k3⟩ := vx_keep h0 e1 h4 (fun q _ h => h) (fun q h => h) hL hF
    obtain ⟨t2, a1, b1⟩ := hq' T'.heap (locs ++ L) la q ce h1 (by rw [e1]; exact hP') hD' k3 (by rw [e1]; exact hce) hcv hcl' T' rfl X'
    exact ⟨t2, hst'.trans a1, b1⟩
end JM
