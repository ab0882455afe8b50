/-! ===== String constants: rows, and the methods that are asked of them ===== -/
section JStr
variable {G : GC} {E : Ctx} {cc : ByteArray} {own : String} {nL : Nat} {R0 : Room} {w : Lay} {kc ks pc : Nat} {ls : List (Option Value)} {st : List Value} {σ : Mem}
theorem J_ldcS (C : Cx G E cc own nL R0) {idx k : Nat} {tx : String} (hk : STRL[k]? = some (own, idx, tx)) (hd : decode cc pc = .ok (.ldc idx, 2)) (h : J G E w kc ks (pc + 2) ls (.ref (G.2.2.2.2 (100 + k)) :: st) σ) : J G E w kc ks pc ls st σ := by
  obtain ⟨p, e, R, s, m, args, below, meth, c, Q⟩ := E
  intro H locs la h1 h2 h3 h4
  exact va_ldcS C.1 C.2.1 C.2.2.2.1 (C.2.2.2.2.2.2.2.2.2.2.2.1 k _ hk) hd (h H locs la h1 h2 h3 h4)
theorem J_getV (C : Cx G E cc own nL R0) {idx i : Nat} (hi : i < 29) (hlk : Cond.fieldLink own idx "java/lang/String" "value" "[B" ∈ ALLW) (hd : decode cc pc = .ok (.getfield idx, 3)) (h : J G E w kc ks (pc + 3) ls (.ref (G.2.2.2.2 (200 + i)) :: st) σ) : J G E w kc ks pc ls (.ref (G.2.2.2.2 (100 + i)) :: st) σ := by
  obtain ⟨p, e, R, s, m, args, below, meth, c, Q⟩ := E
  intro H locs la h1 h2 h3 h4
  exact vk_getf C.1 C.2.1 (C.2.2.2.2.2.2.2.2.2.2.2.2.1.1 i hi).2.2.1 h4 C.2.2.2.1 (C.2.2.2.2.1 _ hlk) (fun x hx => hx) hd (h H locs la h1 h2 h3 h4)
theorem J_getCd (C : Cx G E cc own nL R0) {idx i : Nat} (hi : i < 29) (hlk : Cond.fieldLink own idx "java/lang/String" "coder" "B" ∈ ALLW) (hd : decode cc pc = .ok (.getfield idx, 3)) (h : J G E w kc ks (pc + 3) ls (.int 0 :: st) σ) : J G E w kc ks pc ls (.ref (G.2.2.2.2 (100 + i)) :: st) σ := by
  obtain ⟨p, e, R, s, m, args, below, meth, c, Q⟩ := E
  intro H locs la h1 h2 h3 h4
  exact vk_getf C.1 C.2.1 (C.2.2.2.2.2.2.2.2.2.2.2.2.1.1 i hi).2.1 h4 C.2.2.2.1 (C.2.2.2.2.1 _ hlk) (fun x hx => hx) hd (h H locs la h1 h2 h3 h4)
theorem J_alenS (C : Cx G E cc own nL R0) {i : Nat} (hi : i < 29) (hd : decode cc pc = .ok (.arraylength, 1)) (h : J G E w kc ks (pc + 1) ls (.int (nI (slen.getD i 0)) :: st) σ) : J G E w kc ks pc ls (.ref (G.2.2.2.2 (200 + i)) :: st) σ := by
  obtain ⟨p, e, R, s, m, args, below, meth, c, Q⟩ := E
  intro H locs la h1 h2 h3 h4
  exact va_tlen C.1 C.2.1 (C.2.2.2.2.2.2.2.2.2.2.2.2.1.1 i hi).2.2.2 h4 (v := nI (slen.getD i 0)) rfl hd (h H locs la h1 h2 h3 h4)
theorem J_baldS (C : Cx G E cc own nL R0) {i k : Nat} (hi : i < 29) (hk : k < slen.getD i 0) (hk2 : k < 2 ^ 31) (hd : decode cc pc = .ok (.baload, 1)) (h : J G E w kc ks (pc + 1) ls (.int ((sbyt.getD i []).getD k 0) :: st) σ) : J G E w kc ks pc ls (.int (nI k) :: .ref (G.2.2.2.2 (200 + i)) :: st) σ := by
  obtain ⟨p, e, R, s, m, args, below, meth, c, Q⟩ := E
  intro H locs la h1 h2 h3 h4
  have hl : slen.getD i 0 < 2 ^ 31 := (show ∀ i, i < 29 → slen.getD i 0 < 2 ^ 31 by decide +kernel) i hi
  exact va_tb C.1 C.2.1 (C.2.2.2.2.2.2.2.2.2.2.2.2.1.1 i hi).2.2.2 h4 (vp_in_nI hk hl) (v := .int ((sbyt.getD i []).getD k 0)) (by rw [nI_clamp hk2]) hd (h H locs la h1 h2 h3 h4)
theorem J_getCS (C : Cx G E cc own nL R0) {idx : Nat} (hlk : Cond.fieldLink own idx "java/lang/String" "COMPACT_STRINGS" "Z" ∈ ALLW) (hd : decode cc pc = .ok (.getstatic idx, 3)) (h : J G E w kc ks (pc + 3) ls (.int (nI 1) :: st) σ) : J G E w kc ks pc ls st σ := by
  obtain ⟨p, e, R, s, m, args, below, meth, c, Q⟩ := E
  intro H locs la h1 h2 h3 h4
  exact va_gets C.1 C.2.1 C.2.2.2.2.2.2.2.2.2.2.2.2.2.2.2.2.2.1 h4 C.2.2.2.1 (C.2.2.2.2.1 _ hlk) (fun x hx => hx) hd (h H locs la h1 h2 h3 h4)
theorem J_getFm (C : Cx G E cc own nL R0) {idx : Nat} (hlk : Cond.fieldLink own idx "jdk/internal/util/Preconditions" "SIOOBE_FORMATTER" "Ljava/util/function/BiFunction;" ∈ ALLW) (hd : decode cc pc = .ok (.getstatic idx, 3)) (h : ∀ v : Value, v.category = 1 → J G E w kc ks (pc + 3) ls (v :: st) σ) : J G E w kc ks pc ls st σ := by
  obtain ⟨p, e, R, s, m, args, below, meth, c, Q⟩ := E
  intro H locs la h1 h2 h3 h4
  rcases C.2.2.2.2.2.2.2.2.2.2.2.2.2.2.2.2.2.2.2.2.2.1 with hz | ⟨t, hz⟩
  · exact va_gets C.1 C.2.1 hz h4 C.2.2.2.1 (C.2.2.2.2.1 _ hlk) (fun x hx => hx) hd (h .null rfl H locs la h1 h2 h3 h4)
  · exact va_gets C.1 C.2.1 hz h4 C.2.2.2.1 (C.2.2.2.2.1 _ hlk) (fun x hx => hx) hd (h (.ref t) rfl H locs la h1 h2 h3 h4)
theorem J_i2c (C : Cx G E cc own nL R0) {x v : Int32} (hv : (x.toUInt32 % 65536).toInt32 = v) (hd : decode cc pc = .ok (.i2c, 1)) (h : J G E w kc ks (pc + 1) ls (.int v :: st) σ) : J G E w kc ks pc ls (.int x :: st) σ := by
  obtain ⟨p, e, R, s, m, args, below, meth, c, Q⟩ := E
  intro H locs la h1 h2 h3 h4
  exact lv_i2c C.1 C.2.1 hd hv (h H locs la h1 h2 h3 h4)
theorem J_invE (C : Cx G E cc own nL R0) (hls : ls.length = nL) {y : MethodName} {cy : ByteArray} {maxL n idx mc ms i : Nat} {ret : Option FieldType} {rm : Room} {Cn : String} {As stk : List Value} (hstk : stk = As.reverse ++ .ref (G.2.2.2.2 (100 + i)) :: st)
    (hi : i < 29) (hCn : Cn = "java/lang/String") (hlk : GoodIn ALLW (wsV own idx Cn y (cw y cy maxL ret)))
    (hy : y.cls = Cn ∧ y.cls ≠ "java/lang/invoke/MethodHandle" ∧ y.cls ≠ "java/lang/invoke/VarHandle" ∧ (parseMethodDescriptor y.desc).map (fun d => d.parameters.length) = some n) (hrc : rm.cells = mc) (hrs : rm.slots = ms) (hroom : rm.frames + 1 ≤ R0.frames ∧ 8 + (maxL + 11) + rm.locals ≤ R0.locals)
    (hn : As.length = n) (hcs : kc + mc ≤ R0.cells ∧ ks + ms ≤ R0.slots) (hst : (st.map fun v => v.category).sum ≤ 8) (hd : decode cc pc = .ok (.invokevirtual idx, 3))
    (hM : MT G y (cw y cy maxL ret) rm mc ms w σ (.ref (G.2.2.2.2 (100 + i)) :: As) (fun w' r σ' => J G E w' (kc + mc) (ks + ms) (pc + 3) ls (r.toList ++ st) σ') (fun w' X σ' => JX G E w' (kc + mc) (ks + ms) pc ls st σ' X)) : J G E w kc ks pc ls stk σ := by
  obtain ⟨p, e, R, s, m, args, below, meth, cm, Q⟩ := E
  subst hstk
  intro H locs la h1 h2 h3 h4
  obtain ⟨c1, c2, c3, c4, c5, rfl, c7, c8⟩ := C
  subst hCn
  have hr := vx_runV (H := H) (locs := locs) (below := below) (meth := meth) (p := p) (l := G.1) (e := e) (cells := kc) (slots := ks) (g := F0 m pc la (As.reverse ++ .ref (G.2.2.2.2 (100 + i)) :: st)) (rest := st) ⟨c1, c2, c3, c4, c5⟩ hM (cwV n c5 hlk rfl hrc hrs hy hroom)
    ⟨pre_blind, vk_recv c8.2.2.2.2.2.1 hi h4, fun U hU hW => ⟨rfl, by rw [hU]; exact h2, h3, Envt.warm hW (by rw [hU]; exact h4.1) (by rw [hU]; exact h4.2.1) c8⟩⟩ rfl hn (h1.1.trans hls) rfl (lv_room hst) hd hcs
  intro T hT X
  rcases hr T hT X with ⟨v, st₀, t, T', L, h0, X', hL, e1, e2, ⟨⟨w', r, σ', hv, hq', hP', hD'⟩, hF⟩, hst'⟩ | ⟨q, st₀, t, T', L, X9, ce, h0, X', hL, e1, e2, ⟨⟨w', σ', hq', hP', hD'⟩, hF⟩, hce, hcv, hcl', hst'⟩
  · cases hv
    obtain ⟨k1, k2, k3⟩ := vx_keep h0 e1 h4 (fun q _ h => h) (fun q h => h) hL hF
    obtain ⟨t2, a1, b1⟩ := hq' T'.heap (locs ++ L) la h1 (by rw [e1]; exact hP') hD' k3 T' rfl X'
    exact ⟨t2, hst' t2 a1, b1⟩
  · obtain ⟨k1, k2, k3⟩ := vx_keep h0 e1 h4 (fun q _ h => h) (fun q h => h) hL hF
    obtain ⟨t2, a1, b1⟩ := hq' T'.heap (locs ++ L) la q ce h1 (by rw [e1]; exact hP') hD' k3 (by rw [e1]; exact hce) hcv hcl' T' rfl X'
    exact ⟨t2, hst'.trans a1, b1⟩
end JStr
section JStr2
variable {G : GC} {E : Ctx} {cc : ByteArray} {own : String} {nL : Nat} {R0 : Room} {w : Lay} {kc ks pc : Nat} {ls : List (Option Value)} {st : List Value} {σ : Mem}
theorem iX3s_64 (C : Cx G E cc RX3 nL R0) {i : Nat} (hi : i < 29) (hls : ls.length = nL) (hroom : rmJ0_length_8abf5.frames + 1 ≤ R0.frames ∧ 8 + (1 + 11) + rmJ0_length_8abf5.locals ≤ R0.locals) (hcs : kc + 0 ≤ R0.cells ∧ ks + 0 ≤ R0.slots) (hst : (st.map fun v => v.category).sum ≤ 8) (hd : decode cc pc = .ok (.invokevirtual 64, 3)) (hM : MJ0_length_8abf5 G w σ [.ref (G.2.2.2.2 (100 + i))] (fun w' r σ' => J G E w' (kc + 0) (ks + 0) (pc + 3) ls (r.toList ++ st) σ') (fun w' X σ' => JX G E w' (kc + 0) (ks + 0) pc ls st σ' X)) : J G E w kc ks pc ls (.ref (G.2.2.2.2 (100 + i)) :: st) σ :=
  J_invE C hls (As := []) rfl hi rfl (goodV q3_210 q3_211 q3_212 q1_18 q3_213) mdJ0_length_8abf5 rfl rfl hroom rfl hcs hst hd hM
theorem iX3s_69 (C : Cx G E cc RX3 nL R0) {i : Nat} (hi : i < 29) {a1 : Value} (hls : ls.length = nL) (hroom : rmJ0_charAt_5068e.frames + 1 ≤ R0.frames ∧ 8 + (2 + 11) + rmJ0_charAt_5068e.locals ≤ R0.locals) (hcs : kc + 0 ≤ R0.cells ∧ ks + 0 ≤ R0.slots) (hst : (st.map fun v => v.category).sum ≤ 8) (hd : decode cc pc = .ok (.invokevirtual 69, 3)) (hM : MJ0_charAt_5068e G w σ [.ref (G.2.2.2.2 (100 + i)), a1] (fun w' r σ' => J G E w' (kc + 0) (ks + 0) (pc + 3) ls (r.toList ++ st) σ') (fun w' X σ' => JX G E w' (kc + 0) (ks + 0) pc ls st σ' X)) : J G E w kc ks pc ls (a1 :: .ref (G.2.2.2.2 (100 + i)) :: st) σ :=
  J_invE C hls (As := [a1]) rfl hi rfl (goodV q3_220 q3_221 q3_222 q1_18 q3_223) mdJ0_charAt_5068e rfl rfl hroom rfl hcs hst hd hM
theorem iJ0_335 (C : Cx G E cc RJ0 nL R0) {i : Nat} (hi : i < 29) (hls : ls.length = nL) (hroom : rmJ0_coder_7d493.frames + 1 ≤ R0.frames ∧ 8 + (1 + 11) + rmJ0_coder_7d493.locals ≤ R0.locals) (hcs : kc + 0 ≤ R0.cells ∧ ks + 0 ≤ R0.slots) (hst : (st.map fun v => v.category).sum ≤ 8) (hd : decode cc pc = .ok (.invokevirtual 335, 3)) (hM : MJ0_coder_7d493 G w σ [.ref (G.2.2.2.2 (100 + i))] (fun w' r σ' => J G E w' (kc + 0) (ks + 0) (pc + 3) ls (r.toList ++ st) σ') (fun w' X σ' => JX G E w' (kc + 0) (ks + 0) pc ls st σ' X)) : J G E w kc ks pc ls (.ref (G.2.2.2.2 (100 + i)) :: st) σ :=
  J_invE C hls (As := []) rfl hi rfl (goodV q3_214 q3_215 q3_216 q1_18 q3_217) mdJ0_coder_7d493 rfl rfl hroom rfl hcs hst hd hM
theorem iJ0_492 (C : Cx G E cc RJ0 nL R0) {i : Nat} (hi : i < 29) (hls : ls.length = nL) (hroom : rmJ0_isLatin1_aae02.frames + 1 ≤ R0.frames ∧ 8 + (1 + 11) + rmJ0_isLatin1_aae02.locals ≤ R0.locals) (hcs : kc + 0 ≤ R0.cells ∧ ks + 0 ≤ R0.slots) (hst : (st.map fun v => v.category).sum ≤ 8) (hd : decode cc pc = .ok (.invokevirtual 492, 3)) (hM : MJ0_isLatin1_aae02 G w σ [.ref (G.2.2.2.2 (100 + i))] (fun w' r σ' => J G E w' (kc + 0) (ks + 0) (pc + 3) ls (r.toList ++ st) σ') (fun w' X σ' => JX G E w' (kc + 0) (ks + 0) pc ls st σ' X)) : J G E w kc ks pc ls (.ref (G.2.2.2.2 (100 + i)) :: st) σ :=
  J_invE C hls (As := []) rfl hi rfl (goodV q3_224 q3_225 q3_226 q1_18 q3_227) mdJ0_isLatin1_aae02 rfl rfl hroom rfl hcs hst hd hM
theorem iJ0_495 (C : Cx G E cc RJ0 nL R0) {a1 a2 : Value} (hls : ls.length = nL) (hroom : rmJ1_charAt_3b067.frames + 1 ≤ R0.frames ∧ 8 + (2 + 11) + rmJ1_charAt_3b067.locals ≤ R0.locals) (hcs : kc + 0 ≤ R0.cells ∧ ks + 0 ≤ R0.slots) (hst : (st.map fun v => v.category).sum ≤ 8) (hd : decode cc pc = .ok (.invokestatic 495, 3)) (hM : MJ1_charAt_3b067 G w σ [a1, a2] (fun w' r σ' => J G E w' (kc + 0) (ks + 0) (pc + 3) ls (r.toList ++ st) σ') (fun w' X σ' => JX G E w' (kc + 0) (ks + 0) pc ls st σ' X)) : J G E w kc ks pc ls (a2 :: a1 :: st) σ :=
  J_invS C hls (As := [a1, a2]) rfl (goodS q3_228 q3_229 q1_19 q3_230) mdJ1_charAt_3b067.2 rfl rfl hroom rfl hcs hst hd hM
theorem iJ1_9 (C : Cx G E cc RJ1 nL R0) {a1 a2 : Value} (hls : ls.length = nL) (hroom : rmJ0_checkIndex_df160.frames + 1 ≤ R0.frames ∧ 8 + (2 + 11) + rmJ0_checkIndex_df160.locals ≤ R0.locals) (hcs : kc + 0 ≤ R0.cells ∧ ks + 0 ≤ R0.slots) (hst : (st.map fun v => v.category).sum ≤ 8) (hd : decode cc pc = .ok (.invokestatic 9, 3)) (hM : MJ0_checkIndex_df160 G w σ [a1, a2] (fun w' r σ' => J G E w' (kc + 0) (ks + 0) (pc + 3) ls (r.toList ++ st) σ') (fun w' X σ' => JX G E w' (kc + 0) (ks + 0) pc ls st σ' X)) : J G E w kc ks pc ls (a2 :: a1 :: st) σ :=
  J_invS C hls (As := [a1, a2]) rfl (goodS q3_231 q3_232 q1_18 q3_233) mdJ0_checkIndex_df160.2 rfl rfl hroom rfl hcs hst hd hM
theorem iJ0_1059 (C : Cx G E cc RJ0 nL R0) {a1 a2 a3 : Value} (hls : ls.length = nL) (hroom : rmJ3_checkIndex_8e157.frames + 1 ≤ R0.frames ∧ 8 + (3 + 11) + rmJ3_checkIndex_8e157.locals ≤ R0.locals) (hcs : kc + 0 ≤ R0.cells ∧ ks + 0 ≤ R0.slots) (hst : (st.map fun v => v.category).sum ≤ 8) (hd : decode cc pc = .ok (.invokestatic 1059, 3)) (hM : MJ3_checkIndex_8e157 G w σ [a1, a2, a3] (fun w' r σ' => J G E w' (kc + 0) (ks + 0) (pc + 3) ls (r.toList ++ st) σ') (fun w' X σ' => JX G E w' (kc + 0) (ks + 0) pc ls st σ' X)) : J G E w kc ks pc ls (a3 :: a2 :: a1 :: st) σ :=
  J_invS C hls (As := [a1, a2, a3]) rfl (goodS q3_236 q3_237 q1_20 q3_238) mdJ3_checkIndex_8e157.2 rfl rfl hroom rfl hcs hst hd hM
end JStr2
set_option maxHeartbeats 1000000 in
theorem c_coder {G : GC} {w : Lay} {σ : Mem} {Q : Lay → Option Value → Mem → Prop} {Qx : Lay → String → Mem → Prop} {i : Nat} (hi : i < 29) (hq : Q w (some (.int 0)) σ) : MJ0_coder_7d493 G w σ [.ref (G.2.2.2.2 (100 + i))] Q Qx := by
  refine mt_start (by decide) rfl (Nat.le_of_ble_eq_true rfl) (fun E hC hR hN => ?_)
  show J G E w 0 0 0 [some (.ref (G.2.2.2.2 (100 + i)))] [] σ
  refine J_getCS hC q3_218 dJ0_coder_7d493_0 ?_
  refine J_if_eq_n hC (by decide) (tgt := 13) dJ0_coder_7d493_3 rfl (fun q => absurd q (by decide)) (fun _ => ?_)
  refine J_aload_n hC dJ0_coder_7d493_6 rfl rfl ?_
  refine J_getCd hC hi q9_103 dJ0_coder_7d493_7 ?_
  refine J_goto (tgt := 14) hC dJ0_coder_7d493_10 rfl ?_
  refine J_creturn hC hR dJ0_coder_7d493_14 (by decide) (by decide) rfl ?_
  exact hq
set_option maxHeartbeats 1000000 in
theorem c_isLatin1 {G : GC} {w : Lay} {σ : Mem} {Q : Lay → Option Value → Mem → Prop} {Qx : Lay → String → Mem → Prop} {i : Nat} (hi : i < 29) (hq : Q w (some (.int (nI 1))) σ) : MJ0_isLatin1_aae02 G w σ [.ref (G.2.2.2.2 (100 + i))] Q Qx := by
  refine mt_start (by decide) rfl (Nat.le_of_ble_eq_true rfl) (fun E hC hR hN => ?_)
  show J G E w 0 0 0 [some (.ref (G.2.2.2.2 (100 + i)))] [] σ
  refine J_getCS hC q3_218 dJ0_isLatin1_aae02_0 ?_
  refine J_if_eq_n hC (by decide) (tgt := 17) dJ0_isLatin1_aae02_3 rfl (fun q => absurd q (by decide)) (fun _ => ?_)
  refine J_aload_n hC dJ0_isLatin1_aae02_6 rfl rfl ?_
  refine J_getCd hC hi q9_103 dJ0_isLatin1_aae02_7 ?_
  refine J_if_ne hC (tgt := 17) dJ0_isLatin1_aae02_10 rfl (fun q => absurd rfl q) (fun _ => ?_)
  refine J_iconst (v := nI 1) hC dJ0_isLatin1_aae02_13 (by decide) ?_
  refine J_goto (tgt := 18) hC dJ0_isLatin1_aae02_14 rfl ?_
  refine J_zreturn hC hR dJ0_isLatin1_aae02_18 (by decide) (by decide) (by decide) ?_
  exact hq
theorem shr_0 (x : Int32) : x >>> ((0 : Int32) &&& 31) = x := by
  rw [show ((0 : Int32) &&& 31) = 0 from rfl]
  apply Int32.toBitVec_inj.mp
  simp
set_option maxHeartbeats 1000000 in
theorem c_length {G : GC} {w : Lay} {σ : Mem} {Q : Lay → Option Value → Mem → Prop} {Qx : Lay → String → Mem → Prop} {i : Nat} (hi : i < 29) (hq : Q w (some (.int (nI (slen.getD i 0)))) σ) : MJ0_length_8abf5 G w σ [.ref (G.2.2.2.2 (100 + i))] Q Qx := by
  refine mt_start (by decide) rfl (Nat.le_of_ble_eq_true rfl) (fun E hC hR hN => ?_)
  show J G E w 0 0 0 [some (.ref (G.2.2.2.2 (100 + i)))] [] σ
  refine J_aload_n hC dJ0_length_8abf5_0 rfl rfl ?_
  refine J_getV hC hi q9_102 dJ0_length_8abf5_1 ?_
  refine J_alenS hC hi dJ0_length_8abf5_4 ?_
  refine J_aload_n hC dJ0_length_8abf5_5 rfl rfl ?_
  refine iJ0_335 hC hi rfl ⟨by decide, by decide⟩ ⟨by decide, by decide⟩ (Nat.le_of_ble_eq_true rfl) dJ0_length_8abf5_6 ?_
  refine c_coder hi ?_
  dsimp only [Option.toList_some, Option.toList_none, List.cons_append, List.nil_append]
  refine J_ishr hC dJ0_length_8abf5_9 ?_
  rw [shr_0]
  refine J_ireturn hC hR dJ0_length_8abf5_10 (by decide) (by decide) ?_
  exact hq
set_option maxHeartbeats 1000000 in
theorem c_checkIndex3 {G : GC} {w : Lay} {σ : Mem} {Q : Lay → Option Value → Mem → Prop} {Qx : Lay → String → Mem → Prop} {v : Value} {a b : Nat} (hv : v.category = 1) (ha : a < b) (hb : b < 2 ^ 31) (hq : Q w (some (.int (nI a))) σ) : MJ3_checkIndex_8e157 G w σ [.int (nI a), .int (nI b), v] Q Qx := by
  refine mt_start (by decide) rfl (by have e1 : (Value.int (nI a)).category = 1 := rfl; have e2 : (Value.int (nI b)).category = 1 := rfl; unfold lg_sl; simp [hv, e1, e2]) (fun E hC hR hN => ?_)
  refine J_cong (ls' := [some (.int (nI a)), some (.int (nI b)), some v]) ?_ (h2 := by
    show some _ :: some _ :: ent [v] 1 = _
    unfold ent
    rw [if_neg (by rw [hv]; decide)]
    rfl)
  refine J_iload_n hC dJ3_checkIndex_8e157_0 rfl rfl ?_
  refine J_if_lt_n hC (by omega) (tgt := 9) dJ3_checkIndex_8e157_1 rfl (fun q => absurd q (by omega)) (fun _ => ?_)
  refine J_iload_n hC dJ3_checkIndex_8e157_4 rfl rfl ?_
  refine J_iload_n hC dJ3_checkIndex_8e157_5 rfl rfl ?_
  refine J_icmp_lt_n hC (by omega) (by omega) (tgt := 16) dJ3_checkIndex_8e157_6 rfl (fun _ => ?_) (fun q => absurd q (by omega))
  refine J_iload_n hC dJ3_checkIndex_8e157_16 rfl rfl ?_
  refine J_ireturn hC hR dJ3_checkIndex_8e157_17 (by decide) (by decide) ?_
  exact hq
set_option maxHeartbeats 1000000 in
theorem c_checkIndex0 {G : GC} {w : Lay} {σ : Mem} {Q : Lay → Option Value → Mem → Prop} {Qx : Lay → String → Mem → Prop} {a b : Nat} (ha : a < b) (hb : b < 2 ^ 31) (hq : Q w none σ) : MJ0_checkIndex_df160 G w σ [.int (nI a), .int (nI b)] Q Qx := by
  refine mt_start (by decide) rfl (Nat.le_of_ble_eq_true rfl) (fun E hC hR hN => ?_)
  show J G E w 0 0 0 [some (.int (nI a)), some (.int (nI b))] [] σ
  refine J_iload_n hC dJ0_checkIndex_df160_0 rfl rfl ?_
  refine J_iload_n hC dJ0_checkIndex_df160_1 rfl rfl ?_
  refine J_getFm hC q3_234 dJ0_checkIndex_df160_2 (fun v hv => ?_)
  refine iJ0_1059 hC rfl ⟨by decide, by decide⟩ ⟨by decide, by decide⟩ (Nat.le_of_ble_eq_true rfl) dJ0_checkIndex_df160_5 ?_
  refine c_checkIndex3 hv ha hb ?_
  dsimp only [Option.toList_some, Option.toList_none, List.cons_append, List.nil_append]
  refine J_pop hC dJ0_checkIndex_df160_8 rfl ?_
  refine J_return hC hR dJ0_checkIndex_df160_9 (by decide) (by decide) ?_
  exact hq
/-- a constant's text, as numbers -/
def sW (i : Nat) : List Nat := (sbyt.getD i []).map (fun b => b.toNatClampNeg)
theorem sW_len : ∀ i, i < 29 → (sW i).length = slen.getD i 0 := by decide +kernel
theorem sW_b : ∀ i, i < 29 → ∀ k, k < slen.getD i 0 → (((sbyt.getD i []).getD k 0 &&& nI 255).toUInt32 % 65536).toInt32 = nI (lF (sW i) k) ∧ lF (sW i) k < 128 := by decide +kernel
theorem char_nar {n : Nat} (h : n < 65536) : narrow .char (.int (nI n)) = .int (nI n) := by
  show Value.int ((nI n).toUInt32 % 65536).toInt32 = .int (nI n)
  congr 1
  apply Int32.toBitVec_inj.mp
  apply BitVec.eq_of_toNat_eq
  show ((BitVec.ofNat 32 n).umod 65536#32).toNat = (BitVec.ofNat 32 n).toNat
  simp
  omega
set_option maxHeartbeats 1000000 in
theorem c_charAt1 {G : GC} {w : Lay} {σ : Mem} {Q : Lay → Option Value → Mem → Prop} {Qx : Lay → String → Mem → Prop} {i k : Nat} (hi : i < 29) (hk : k < slen.getD i 0) (hq : Q w (some (.int (nI (lF (sW i) k)))) σ) : MJ1_charAt_3b067 G w σ [.ref (G.2.2.2.2 (200 + i)), .int (nI k)] Q Qx := by
  refine mt_start (by decide) rfl (Nat.le_of_ble_eq_true rfl) (fun E hC hR hN => ?_)
  show J G E w 0 0 0 [some (.ref (G.2.2.2.2 (200 + i))), some (.int (nI k))] [] σ
  have hl : slen.getD i 0 < 2 ^ 31 := (show ∀ i, i < 29 → slen.getD i 0 < 2 ^ 31 by decide +kernel) i hi
  have hb := sW_b i hi k hk
  refine J_iload_n hC dJ1_charAt_3b067_0 rfl rfl ?_
  refine J_aload_n hC dJ1_charAt_3b067_1 rfl rfl ?_
  refine J_alenS hC hi dJ1_charAt_3b067_2 ?_
  refine iJ1_9 hC rfl ⟨by decide, by decide⟩ ⟨by decide, by decide⟩ (Nat.le_of_ble_eq_true rfl) dJ1_charAt_3b067_3 ?_
  refine c_checkIndex0 hk hl ?_
  dsimp only [Option.toList_some, Option.toList_none, List.cons_append, List.nil_append]
  refine J_aload_n hC dJ1_charAt_3b067_6 rfl rfl ?_
  refine J_iload_n hC dJ1_charAt_3b067_7 rfl rfl ?_
  refine J_baldS hC hi hk (by omega) dJ1_charAt_3b067_8 ?_
  refine J_sipush (v := nI 255) hC dJ1_charAt_3b067_9 (by decide) ?_
  refine J_iand hC dJ1_charAt_3b067_12 ?_
  refine J_i2c hC hb.1 dJ1_charAt_3b067_13 ?_
  refine J_creturn hC hR dJ1_charAt_3b067_14 (by decide) (by decide) (char_nar (by omega)) ?_
  exact hq
set_option maxHeartbeats 1000000 in
theorem c_charAt {G : GC} {w : Lay} {σ : Mem} {Q : Lay → Option Value → Mem → Prop} {Qx : Lay → String → Mem → Prop} {i k : Nat} (hi : i < 29) (hk : k < slen.getD i 0) (hq : Q w (some (.int (nI (lF (sW i) k)))) σ) : MJ0_charAt_5068e G w σ [.ref (G.2.2.2.2 (100 + i)), .int (nI k)] Q Qx := by
  refine mt_start (by decide) rfl (Nat.le_of_ble_eq_true rfl) (fun E hC hR hN => ?_)
  show J G E w 0 0 0 [some (.ref (G.2.2.2.2 (100 + i))), some (.int (nI k))] [] σ
  have hb := sW_b i hi k hk
  refine J_aload_n hC dJ0_charAt_5068e_0 rfl rfl ?_
  refine iJ0_492 hC hi rfl ⟨by decide, by decide⟩ ⟨by decide, by decide⟩ (Nat.le_of_ble_eq_true rfl) dJ0_charAt_5068e_1 ?_
  refine c_isLatin1 hi ?_
  dsimp only [Option.toList_some, Option.toList_none, List.cons_append, List.nil_append]
  refine J_if_eq_n hC (by decide) (tgt := 16) dJ0_charAt_5068e_4 rfl (fun q => absurd q (by decide)) (fun _ => ?_)
  refine J_aload_n hC dJ0_charAt_5068e_7 rfl rfl ?_
  refine J_getV hC hi q9_102 dJ0_charAt_5068e_8 ?_
  refine J_iload_n hC dJ0_charAt_5068e_11 rfl rfl ?_
  refine iJ0_495 hC rfl ⟨by decide, by decide⟩ ⟨by decide, by decide⟩ (Nat.le_of_ble_eq_true rfl) dJ0_charAt_5068e_12 ?_
  refine c_charAt1 hi hk ?_
  dsimp only [Option.toList_some, Option.toList_none, List.cons_append, List.nil_append]
  refine J_creturn hC hR dJ0_charAt_5068e_15 (by decide) (by decide) (char_nar (by omega)) ?_
  exact hq
