/-! ===== rows: statics, copies, Math, throws ===== -/
def imin (x y : Int32) : Int32 := if y < x then y else x
def imax (x y : Int32) : Int32 := if x < y then y else x
theorem kMin1 : Cond.static Lib.Math.min.name ∈ ALLW := q2_204
theorem kMin2 : Cond.code Lib.Math.min.name Lib.Math.min.code 2 (some .int) ∈ ALLW := q2_205
theorem kMax1 : Cond.static Lib.Math.max.name ∈ ALLW := q2_193
theorem kMax2 : Cond.code Lib.Math.max.name Lib.Math.max.code 2 (some .int) ∈ ALLW := q2_194
theorem kMath : Cond.initialized "java/lang/Math" ∈ ALLW := q1_17
theorem kCopy1 : Cond.native arraycopyName ∈ ALLW := q4_80
theorem kCopy2 : Cond.static arraycopyName ∈ ALLW := q4_79
theorem kSys : Cond.initialized "java/lang/System" ∈ ALLW := q1_22
section JN
variable {G : GC} {E : Ctx} {cc : ByteArray} {own : String} {nL : Nat} {R0 : Room} {w : Lay} {kc ks pc : Nat} {ls : List (Option Value)} {st : List Value} {σ : Mem}
theorem J_getsX (C : Cx G E cc own nL R0) {idx : Nat} (hlk : Cond.fieldLink own idx "KitePermits$Field" "STEP_X" "[I" ∈ ALLW) (hd : decode cc pc = .ok (.getstatic idx, 3)) (h : J G E w kc ks (pc + 3) ls (.ref (G.2.2.2.2 0) :: st) σ) : J G E w kc ks pc ls st σ := by
  obtain ⟨p, e, R, s, m, args, below, meth, cm, Q⟩ := E
  intro H locs la h1 h2 h3 h4
  exact va_gets C.1 C.2.1 C.2.2.2.2.2.2.2.2.2.2.2.2.2.1 h4 C.2.2.2.1 (C.2.2.2.2.1 _ hlk) (fun x hx => hx) hd (h H locs la h1 h2 h3 h4)
theorem J_getsY (C : Cx G E cc own nL R0) {idx : Nat} (hlk : Cond.fieldLink own idx "KitePermits$Field" "STEP_Y" "[I" ∈ ALLW) (hd : decode cc pc = .ok (.getstatic idx, 3)) (h : J G E w kc ks (pc + 3) ls (.ref (G.2.2.2.2 1) :: st) σ) : J G E w kc ks pc ls st σ := by
  obtain ⟨p, e, R, s, m, args, below, meth, cm, Q⟩ := E
  intro H locs la h1 h2 h3 h4
  exact va_gets C.1 C.2.1 C.2.2.2.2.2.2.2.2.2.2.2.2.2.2.2.1 h4 C.2.2.2.1 (C.2.2.2.2.1 _ hlk) (fun x hx => hx) hd (h H locs la h1 h2 h3 h4)
theorem J_stepX (C : Cx G E cc own nL R0) {k : Nat} {i : Int32} (hi : i = nI k) (hk : k < 8) (hd : decode cc pc = .ok (.iaload, 1)) (h : J G E w kc ks (pc + 1) ls (.int (stepX k) :: st) σ) : J G E w kc ks pc ls (.int i :: .ref (G.2.2.2.2 0) :: st) σ := by
  obtain ⟨p, e, R, s, m, args, below, meth, cm, Q⟩ := E
  intro H locs la h1 h2 h3 h4
  subst hi
  exact va_ti C.1 C.2.1 C.2.2.2.2.2.2.2.2.2.2.2.2.2.2.1 h4 (vp_in_nI hk (by decide)) (v := .int (stepX k)) (by rw [nI_clamp (Nat.lt_trans hk (by decide))]) hd (h H locs la h1 h2 h3 h4)
theorem J_stepY (C : Cx G E cc own nL R0) {k : Nat} {i : Int32} (hi : i = nI k) (hk : k < 8) (hd : decode cc pc = .ok (.iaload, 1)) (h : J G E w kc ks (pc + 1) ls (.int (stepY k) :: st) σ) : J G E w kc ks pc ls (.int i :: .ref (G.2.2.2.2 1) :: st) σ := by
  obtain ⟨p, e, R, s, m, args, below, meth, cm, Q⟩ := E
  intro H locs la h1 h2 h3 h4
  subst hi
  exact va_ti C.1 C.2.1 C.2.2.2.2.2.2.2.2.2.2.2.2.2.2.2.2.1 h4 (vp_in_nI hk (by decide)) (v := .int (stepY k)) (by rw [nI_clamp (Nat.lt_trans hk (by decide))]) hd (h H locs la h1 h2 h3 h4)
theorem J_min (C : Cx G E cc own nL R0) (hls : ls.length = nL) {idx : Nat} {x y : Int32} (hlk : Cond.methodLink own idx Lib.Math.min.name ∈ ALLW) (hf : 1 ≤ R0.frames) (hlo : (st.map fun v => v.category).sum + 13 ≤ R0.locals) (hc : kc ≤ R0.cells) (hs : ks ≤ R0.slots)
    (hd : decode cc pc = .ok (.invokestatic idx, 3)) (h : J G E w kc ks (pc + 3) ls (.int (imin x y) :: st) σ) : J G E w kc ks pc ls (.int y :: .int x :: st) σ := by
  obtain ⟨p, e, R, s, m, args, below, meth, cm, Q⟩ := E
  intro H locs la h1 h2 h3 h4
  obtain ⟨c1, c2, c3, c4, c5, rfl, c7, c8⟩ := C
  exact va_mmin c1 c2 (c3.trans (h1.1.trans hls).symm) c4 (c5 _ hlk) (c5 _ kMin1) (c5 _ kMath) (c5 _ kMin2) hf hlo hc hs hd (h H locs la h1 h2 h3 h4)
theorem J_max (C : Cx G E cc own nL R0) (hls : ls.length = nL) {idx : Nat} {x y : Int32} (hlk : Cond.methodLink own idx Lib.Math.max.name ∈ ALLW) (hf : 1 ≤ R0.frames) (hlo : (st.map fun v => v.category).sum + 13 ≤ R0.locals) (hc : kc ≤ R0.cells) (hs : ks ≤ R0.slots)
    (hd : decode cc pc = .ok (.invokestatic idx, 3)) (h : J G E w kc ks (pc + 3) ls (.int (imax x y) :: st) σ) : J G E w kc ks pc ls (.int y :: .int x :: st) σ := by
  obtain ⟨p, e, R, s, m, args, below, meth, cm, Q⟩ := E
  intro H locs la h1 h2 h3 h4
  obtain ⟨c1, c2, c3, c4, c5, rfl, c7, c8⟩ := C
  exact va_mmax c1 c2 (c3.trans (h1.1.trans hls).symm) c4 (c5 _ hlk) (c5 _ kMax1) (c5 _ kMath) (c5 _ kMax2) hf hlo hc hs hd (h H locs la h1 h2 h3 h4)
/-- System.arraycopy of n ints from the start of a row to the start of another -/
theorem J_copy (C : Cx G E cc own nL R0) (hls : ls.length = nL) {idx o c o' c' n m n' : Nat} {x : Int32} (hlk : Cond.methodLink own idx arraycopyName ∈ ALLW) (hm : (o, c) ∈ w.1) (hm' : (o', c') ∈ w.1) (hk : kd o c = (0, n)) (hk' : kd o' c' = (0, n')) (hx : x = nI m) (hn : m ≤ n) (hn' : m ≤ n') (hb : m < 2 ^ 31) (hf : 1 ≤ R0.frames) (hlo : (st.map fun v => v.category).sum + (nativeFrameWords "java/lang/System" "arraycopy" 5 + 11) ≤ R0.locals)
    (hd : decode cc pc = .ok (.invokestatic idx, 3)) (h : J G E w kc ks (pc + 3) ls st (wrC σ o c (va_cpy (rd σ o' c') (rd σ o c) 0 0 m))) : J G E w kc ks pc ls (.int x :: .int 0 :: .ref (w.2.1 o c) :: .int 0 :: .ref (w.2.1 o' c') :: st) σ := by
  obtain ⟨p, e, R, s, mm, args, below, meth, cm, Q⟩ := E
  intro H locs la h1 h2 h3 h4
  obtain ⟨c1, c2, c3, c4, c5, rfl, c7, c8⟩ := C
  obtain ⟨q, hq, hq2⟩ := ws_get (G := G) (σ := σ) hm
  obtain ⟨q', hq', -⟩ := ws_get (G := G) (σ := σ) hm'
  rw [enc_int hk] at hq
  rw [enc_int hk'] at hq'
  subst hx
  have hcl : (nI m).toNatClampNeg = m := nI_clamp hb
  have hset := ws_set (σ' := wrC σ o c (va_cpy (rd σ o' c') (rd σ o c) 0 0 m)) h3 hq2 ((enc_int hk).trans (by rw [show rd (wrC σ o c (va_cpy (rd σ o' c') (rd σ o c) 0 0 m)) o c = va_cpy (rd σ o' c') (rd σ o c) 0 0 m from funext fun d => rd_wrC_s])) (fun a b hab => enc_wrC_ne hab)
  refine va_copyi c1 c2 (c3.trans (h1.1.trans hls).symm) c4 (c5 _ hlk) (c5 _ kCopy1) (c5 _ kCopy2) (c5 _ kSys) c8.1 h2 h3 h4 q' q 0 0 hq' hq rfl rfl rfl (by decide) (by decide) (nI_pos hb) (by rw [hcl]; simpa using hn') (by rw [hcl]; simpa using hn) (fun _ _ => rfl) hf hlo hd (fun H1 locs1 hP1 hD1 hS1 => ?_)
  rw [hcl] at hP1 hD1
  exact h H1 locs1 la h1 (hset ▸ hP1) (hset ▸ hD1) hS1
variable {Q : Lay → Option Value → Mem → Prop} {Qx : Lay → String → Mem → Prop} {mc ms : Nat} {ret : Option FieldType}
/-- throw new X("text") -/
theorem J_throwS (C : Cx G E cc own nL R0) (hR : RetC G E Q Qx mc ms ret) (hN : NoTab E) (hls : ls.length = nL) {cls text : String} {names : List String} {ik is ic k : Nat} (hcls : Bundle.fit cls = true) (hnames : ∀ n ∈ names, Bundle.fit n = true)
    (hkl : Cond.classLink own ik cls ∈ ALLW) (hini : Cond.initialized cls ∈ ALLW) (hstr : STRL[k]? = some (own, is, text)) (hag : ∀ w ∈ (vx_atS own ic cls names).filter goodWord, w ∈ ALLW) (hab : ∀ w ∈ (vx_atS own ic cls names).filter (fun w => !goodWord w), w ∈ BADW)
    (hot : ∀ w ∈ Cond.classLink own ik cls :: Cond.initialized cls :: vx_atS own ic cls names, vx_ot w = true)
    (d0 : decode cc pc = .ok (.new ik, 3)) (d3 : decode cc (pc + 3) = .ok (.dup, 1)) (d4 : decode cc (pc + 4) = .ok (.ldc is, 2)) (d6 : decode cc (pc + 6) = .ok (.invokespecial ic, 3)) (d9 : decode cc (pc + 9) = .ok (.athrow, 1))
    (hf : names.length + 3 < R0.frames) (hlo : (st.map fun v => v.category).sum + (13 * (names.length + 1) + 43) ≤ R0.locals) (hrc : kc + 1 ≤ R0.cells) (hrs : ks + 6 ≤ R0.slots) (hc : kc + 1 ≤ mc) (hs : ks + 6 ≤ ms) (h : Qx w cls σ) : J G E w kc ks pc ls st σ := by
  obtain ⟨p, e, R, s, m, args, below, meth, cm, Qf⟩ := E
  obtain ⟨hr, rfl⟩ := hR
  intro H locs la h1 h2 h3 h4
  obtain ⟨c1, c2, c3, c4, c5, rfl, c7, c8⟩ := C
  obtain ⟨-, hsz, htr, e1, e2, -, -, -, -, -, -, e9, e10, -⟩ := c8
  have hat : ∀ w ∈ vx_atS own ic cls names, w.before args s = true := vx_hat (fun w hw => c5 w (hag w hw)) hab (fun w hw => by
    have hz := e1 w hw
    have hf := badw_form w hw
    cases w <;> first | exact va_Nw.use rfl hz | cases hf)
  exact vx_throwS c1 c2 htr c4 hcls hnames (c5 _ hkl) (c5 _ hini) (e2 k _ hstr) hat hot e9 e10 h4 (h1.1.trans (hls.trans c3.symm)) d0 d3 d4 d6 d9 (fun x hx => (hN x hx).elim) hf hlo hrc hrs c7 (fun t hA hz hq => ⟨⟨w, σ, h, h2.kept (fun k q hk => hq q.1 (h2 k q hk).lt), h3⟩, by
    refine ⟨Nat.le_trans h4.1 hz, fun q hq1 hq2 => ?_⟩
    rw [hq q (Nat.lt_of_lt_of_le hq1 h4.1)]
    exact h4.2.1 q hq1 hq2⟩) h4.2.2 hc hs
end JN
