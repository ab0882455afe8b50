/-! ===== the law's body ===== -/
def LawX (G : GC) (E : Ctx) (b L : Nat) (xs : Nat → Int32) : Prop := match E with
  | (_, _, _, s, _, _, _, _, _, _) => va_X b L xs s s.heap ∧ b < s.heap.size ∧ ¬ Asz G b
section JL
variable {G : GC} {E : Ctx} {cc : ByteArray} {own : String} {nL : Nat} {R0 : Room} {w : Lay} {kc ks pc : Nat} {ls : List (Option Value)} {st : List Value} {σ : Mem}
theorem J_sld (C : Cx G E cc own nL R0) {b L : Nat} {xs : Nat → Int32} (hX : LawX G E b L xs) {i : Int32} {k : Nat} (hi : i = nI k) (hk : k < L) (hL : L ≤ 3584) (hd : decode cc pc = .ok (.iaload, 1)) (h : J G E w kc ks (pc + 1) ls (.int (xs k) :: st) σ) : J G E w kc ks pc ls (.int i :: .ref b :: st) σ := by
  obtain ⟨p, e, R, s, m, args, below, meth, cm, Q⟩ := E
  intro H locs la h1 h2 h3 h4
  obtain ⟨c1, c2, c3, c4, c5, rfl, c7, c8⟩ := C
  subst hi
  refine va_sld c1 c2 hX.1 hX.2.1 hX.2.2 h4 (vp_in_nI hk (by omega)) hd ?_
  rw [nI_clamp (by omega)]
  exact h H locs la h1 h2 h3 h4
theorem J_slen (C : Cx G E cc own nL R0) {b L : Nat} {xs : Nat → Int32} (hX : LawX G E b L xs) (hd : decode cc pc = .ok (.arraylength, 1)) (h : J G E w kc ks (pc + 1) ls (.int (nI L) :: st) σ) : J G E w kc ks pc ls (.ref b :: st) σ := by
  obtain ⟨p, e, R, s, m, args, below, meth, cm, Q⟩ := E
  intro H locs la h1 h2 h3 h4
  obtain ⟨c1, c2, c3, c4, c5, rfl, c7, c8⟩ := C
  exact va_slen c1 c2 hX.1 hX.2.1 hX.2.2 h4 hd (h H locs la h1 h2 h3 h4)
theorem lvs_of2 {la' : Array Slot} {i : Nat} {v : Value} (hi : i + 1 < ls.length) (ho : okst ls i = true) (h : lv_has la' ls.length ((i, v) :: (al ls).filter (fun q => !(q.1 == i) && (!(q.1 == i + 1) && !(q.1 + 1 == i && q.2.category == 2))))) : lvs ((ls.set i (some v)).set (i + 1) none) la' := by
  refine ⟨h.1.trans (by rw [List.length_set, List.length_set]), h.2.1, fun j u hj => ?_⟩
  by_cases hj1 : j = i + 1
  · subst hj1
    rw [List.getElem?_set_self (by rw [List.length_set]; exact hi)] at hj
    cases hj
  rw [List.getElem?_set_ne (Ne.symm hj1)] at hj
  by_cases hji : j = i
  · subst hji
    rw [List.getElem?_set_self (by omega)] at hj
    cases hj
    exact h.2.2 _ List.mem_cons_self
  · rw [List.getElem?_set_ne (Ne.symm hji)] at hj
    refine h.2.2 (j, u) (List.mem_cons_of_mem _ (List.mem_filter.mpr ⟨al_mem.mpr hj, ?_⟩))
    have h1 : (j == i) = false := by rw [beq_eq_false_iff_ne]; exact hji
    have h5 : (j == i + 1) = false := by rw [beq_eq_false_iff_ne]; exact hj1
    show (!(j == i) && (!(j == i + 1) && !(j + 1 == i && u.category == 2))) = true
    rw [h1, h5]
    by_cases h2 : j + 1 = i
    · subst h2
      have ho2 : (match ls[j]? with | some (some v) => v.category != 2 | _ => true) = true := ho
      rw [hj] at ho2
      have h3 : (u.category == 2) = false := by simpa using ho2
      rw [h3]
      simp
    · have h3 : (j + 1 == i) = false := by rw [beq_eq_false_iff_ne]; exact h2
      rw [h3]
      rfl
theorem J_dstore (C : Cx G E cc own nL R0) {i : Nat} {x : UInt64} (hd : decode cc pc = .ok (.dstore i, 2)) (hn : i + 1 < ls.length) (ho : okst ls i = true) (h : J G E w kc ks (pc + 2) ((ls.set i (some (.double x))).set (i + 1) none) st σ) : J G E w kc ks pc ls (.double x :: st) σ := by
  obtain ⟨p, e, R, s, m, args, below, meth, c, Q⟩ := E
  intro H locs la h1 h2 h3 h4
  exact lv_dstore C.1 C.2.1 hd (lvs_has h1) hn rfl (fun la' h' => h H locs la' (lvs_of2 hn ho h') h2 h3 h4)
theorem J_dload (C : Cx G E cc own nL R0) {i : Nat} {x : UInt64} (hd : decode cc pc = .ok (.dload i, 2)) (hl : ls[i]? = some (some (.double x))) (h : J G E w kc ks (pc + 2) ls (.double x :: st) σ) : J G E w kc ks pc ls st σ := by
  obtain ⟨p, e, R, s, m, args, below, meth, c, Q⟩ := E
  intro H locs la h1 h2 h3 h4
  exact lv_dload C.1 C.2.1 hd (lvs_get h1 hl) (h H locs la h1 h2 h3 h4)
theorem J_dcmp (C : Cx G E cc own nL R0) {x y : UInt64} {op : CmpOp} (hd : decode cc pc = .ok (.dcmp op, 1)) (h : J G E w kc ks (pc + 1) ls (.int (Op.cmpValue (FP.dcmp x y) op) :: st) σ) : J G E w kc ks pc ls (.double y :: .double x :: st) σ := by
  obtain ⟨p, e, R, s, m, args, below, meth, c, Q⟩ := E
  intro H locs la h1 h2 h3 h4
  exact lv_dcmp C.1 C.2.1 hd (h H locs la h1 h2 h3 h4)
/-- one of the script's numbers, by a small constant -/
theorem J_arg1 (C : Cx G E cc own nL R0) {b L i : Nat} {xs : Nat → Int32} (hX : LawX G E b L xs) {k : Nat} {n : Int} (h0 : ls[0]? = some (some (.ref b))) (h4 : ls[4]? = some (some (.int (nI i)))) (hk : i + k < L) (hL : L ≤ 3584) (d0 : decode cc pc = .ok (.aload_n 0, 1)) (d1 : decode cc (pc + 1) = .ok (.iload 4, 2)) (d2 : decode cc (pc + 3) = .ok (.iconst n, 1)) (hn : Int32.ofInt n = nI k) (d3 : decode cc (pc + 4) = .ok (.iadd, 1)) (d4 : decode cc (pc + 5) = .ok (.iaload, 1)) (h : J G E w kc ks (pc + 6) ls (.int (xs (i + k)) :: st) σ) : J G E w kc ks pc ls st σ := by
  refine J_aload_n C d0 rfl h0 ?_
  refine J_iload C d1 h4 ?_
  refine J_iconst C d2 hn ?_
  refine J_iadd_n C d3 ?_
  exact J_sld C hX rfl hk hL d4 h
theorem J_arg2 (C : Cx G E cc own nL R0) {b L i : Nat} {xs : Nat → Int32} (hX : LawX G E b L xs) {k : Nat} {n : Int} (h0 : ls[0]? = some (some (.ref b))) (h4 : ls[4]? = some (some (.int (nI i)))) (hk : i + k < L) (hL : L ≤ 3584) (d0 : decode cc pc = .ok (.aload_n 0, 1)) (d1 : decode cc (pc + 1) = .ok (.iload 4, 2)) (d2 : decode cc (pc + 3) = .ok (.bipush n, 2)) (hn : (Int8.ofInt n).toInt32 = nI k) (d3 : decode cc (pc + 5) = .ok (.iadd, 1)) (d4 : decode cc (pc + 6) = .ok (.iaload, 1)) (h : J G E w kc ks (pc + 7) ls (.int (xs (i + k)) :: st) σ) : J G E w kc ks pc ls st σ := by
  refine J_aload_n C d0 rfl h0 ?_
  refine J_iload C d1 h4 ?_
  refine J_bipush C d2 hn ?_
  refine J_iadd_n C d3 ?_
  exact J_sld C hX rfl hk hL d4 h
end JL
theorem cmp_self {x : Int64} : lg_cmp x x = 0 := lg_cmp_0.mpr rfl
section JT
variable {G : GC} {E : Ctx} {cc : ByteArray} {R0 : Room} {w : Lay} {kc ks pc : Nat} {l0 l1 l2 l3 l4 l7 l8 : Option Value} {σ : Mem}
/-- the answers compared: an int -/
theorem tail_I (C : Cx G E cc RL 9 R0) (hM : LM w) {hm : Nat} {a : Nat × Int32} {bb : Int32} (hl2 : l2 = some (.ref (w.2.1 13 0))) (hl3 : l3 = some (.ref (w.2.1 13 9))) {off : Int} (hP : PAR hm a bb σ) (hroom : rmX10_thrown.frames + 1 ≤ R0.frames ∧ 8 + (1 + 11) + rmX10_thrown.locals ≤ R0.locals) (hcs : kc + 0 ≤ R0.cells ∧ ks + 0 ≤ R0.slots)
    (d1 : decode cc pc = .ok (.istore 6, 2)) (d2 : decode cc (pc + 2) = .ok (.aload_n 2, 1)) (d3 : decode cc (pc + 3) = .ok (.invokevirtual 168, 3)) (d4 : decode cc (pc + 6) = .ok (.iload 5, 2)) (d5 : decode cc (pc + 8) = .ok (.if_icmp .eq 5, 3)) (d6 : decode cc (pc + 13) = .ok (.iload 5, 2)) (d7 : decode cc (pc + 15) = .ok (.ifCond .ne 15, 3))
    (d8 : decode cc (pc + 18) = .ok (.aload_n 3, 1)) (d9 : decode cc (pc + 19) = .ok (.iconst 0, 1)) (d10 : decode cc (pc + 20) = .ok (.laload, 1)) (d11 : decode cc (pc + 21) = .ok (.iload 6, 2)) (d12 : decode cc (pc + 23) = .ok (.i2l, 1)) (d13 : decode cc (pc + 24) = .ok (.lcmp, 1)) (d14 : decode cc (pc + 25) = .ok (.ifCond .eq 5, 3)) (d15 : decode cc (pc + 30) = .ok (.goto off, 3)) (ht : ((pc + 30 : Nat) : Int) + off = 3399)
    (hk : ∀ f u, REL hm σ f u → J G E w kc ks 3399 [l0, l1, l2, l3, l4, none, none, none, none] [] σ) : J G E w kc ks pc [l0, l1, l2, l3, l4, some (.int (nI a.1)), none, l7, l8] [.int bb] σ := by
  subst hl2
  subst hl3
  obtain ⟨p1, p2, p3, f, u, p4⟩ := hP
  have hfin : ∀ l, J G E w kc ks (pc + 30) [l0, l1, some (.ref (w.2.1 13 0)), some (.ref (w.2.1 13 9)), l4, some (.int (nI a.1)), l, l7, l8] [] σ := fun l => by
    refine J_goto (tgt := 3399) C d15 ht ?_
    exact J_less (ls' := [l0, l1, some (.ref (w.2.1 13 0)), some (.ref (w.2.1 13 9)), l4, none, none, none, none]) ⟨Or.inr rfl, Or.inr rfl, Or.inr rfl, Or.inr rfl, Or.inr rfl, Or.inl rfl, Or.inl rfl, Or.inl rfl, Or.inl rfl, trivial⟩ (hk f u p4)
  refine J_istore C d1 (Nat.le_of_ble_eq_true rfl) rfl ?_
  dsimp only [List.set]
  refine J_aload_n C d2 rfl rfl ?_
  refine iL_168 C hM rfl hroom hcs (Nat.le_of_ble_eq_true rfl) d3 ?_
  refine c_X10_thrown hM ?_
  dsimp only [Option.toList_some, List.cons_append, List.nil_append]
  refine J_iload C d4 rfl ?_
  rw [p1]
  refine J_icmp_eq_n C (by omega) (by omega) (tgt := pc + 13) d5 (by omega) (fun _ => ?_) (fun h => absurd rfl h)
  refine J_iload C d6 rfl ?_
  refine J_if_ne_n C (by omega) (tgt := pc + 30) d7 (by omega) (fun _ => hfin _) (fun h0 => ?_)
  obtain ⟨q1, q2⟩ := p3 h0
  refine J_aload_n C d8 rfl rfl ?_
  refine J_iconst (v := nI 0) C d9 (by decide) ?_
  refine J_laload C (hM.1 9 (by decide)) rfl rfl (by decide) (by decide) d10 ?_
  refine J_iload C d11 rfl ?_
  refine J_i2l C d12 ?_
  refine J_lcmp C d13 ?_
  refine J_if_eq C (tgt := pc + 30) d14 (by omega) (fun _ => hfin _) (fun h => absurd ?_ h)
  rw [show rdL σ (1 + 0) = a.2.toInt64 from q2, q1]
  exact cmp_self
/-- the answers compared: a boolean -/
theorem tail_B (C : Cx G E cc RL 9 R0) (hM : LM w) {hm : Nat} {a : Nat × Int32} {bb : Int32} (hl2 : l2 = some (.ref (w.2.1 13 0))) (hl3 : l3 = some (.ref (w.2.1 13 9))) {off : Int} (hP : PAR hm a bb σ) (hab : a.2 = nI 0 ∨ a.2 = nI 1) (hroom : rmX10_thrown.frames + 1 ≤ R0.frames ∧ 8 + (1 + 11) + rmX10_thrown.locals ≤ R0.locals) (hcs : kc + 0 ≤ R0.cells ∧ ks + 0 ≤ R0.slots)
    (d1 : decode cc pc = .ok (.istore 6, 2)) (d2 : decode cc (pc + 2) = .ok (.aload_n 2, 1)) (d3 : decode cc (pc + 3) = .ok (.invokevirtual 168, 3)) (d4 : decode cc (pc + 6) = .ok (.iload 5, 2)) (d5 : decode cc (pc + 8) = .ok (.if_icmp .eq 5, 3)) (d6 : decode cc (pc + 13) = .ok (.iload 5, 2)) (d7 : decode cc (pc + 15) = .ok (.ifCond .ne 22, 3))
    (d8 : decode cc (pc + 18) = .ok (.aload_n 3, 1)) (d9 : decode cc (pc + 19) = .ok (.iconst 0, 1)) (d10 : decode cc (pc + 20) = .ok (.laload, 1)) (d11 : decode cc (pc + 21) = .ok (.iload 6, 2)) (d12 : decode cc (pc + 23) = .ok (.ifCond .eq 7, 3)) (e1 : decode cc (pc + 26) = .ok (.lconst 1, 1)) (e2 : decode cc (pc + 27) = .ok (.goto 4, 3)) (e3 : decode cc (pc + 30) = .ok (.lconst 0, 1)) (d13 : decode cc (pc + 31) = .ok (.lcmp, 1)) (d14 : decode cc (pc + 32) = .ok (.ifCond .eq 5, 3)) (d15 : decode cc (pc + 37) = .ok (.goto off, 3)) (ht : ((pc + 37 : Nat) : Int) + off = 3399)
    (hk : ∀ f u, REL hm σ f u → J G E w kc ks 3399 [l0, l1, l2, l3, l4, none, none, none, none] [] σ) : J G E w kc ks pc [l0, l1, l2, l3, l4, some (.int (nI a.1)), none, l7, l8] [.int bb] σ := by
  subst hl2
  subst hl3
  obtain ⟨p1, p2, p3, f, u, p4⟩ := hP
  have hfin : ∀ l, J G E w kc ks (pc + 37) [l0, l1, some (.ref (w.2.1 13 0)), some (.ref (w.2.1 13 9)), l4, some (.int (nI a.1)), l, l7, l8] [] σ := fun l => by
    refine J_goto (tgt := 3399) C d15 ht ?_
    exact J_less (ls' := [l0, l1, some (.ref (w.2.1 13 0)), some (.ref (w.2.1 13 9)), l4, none, none, none, none]) ⟨Or.inr rfl, Or.inr rfl, Or.inr rfl, Or.inr rfl, Or.inr rfl, Or.inl rfl, Or.inl rfl, Or.inl rfl, Or.inl rfl, trivial⟩ (hk f u p4)
  refine J_istore C d1 (Nat.le_of_ble_eq_true rfl) rfl ?_
  dsimp only [List.set]
  refine J_aload_n C d2 rfl rfl ?_
  refine iL_168 C hM rfl hroom hcs (Nat.le_of_ble_eq_true rfl) d3 ?_
  refine c_X10_thrown hM ?_
  dsimp only [Option.toList_some, List.cons_append, List.nil_append]
  refine J_iload C d4 rfl ?_
  rw [p1]
  refine J_icmp_eq_n C (by omega) (by omega) (tgt := pc + 13) d5 (by omega) (fun _ => ?_) (fun h => absurd rfl h)
  refine J_iload C d6 rfl ?_
  refine J_if_ne_n C (by omega) (tgt := pc + 37) d7 (by omega) (fun _ => hfin _) (fun h0 => ?_)
  obtain ⟨q1, q2⟩ := p3 h0
  refine J_aload_n C d8 rfl rfl ?_
  refine J_iconst (v := nI 0) C d9 (by decide) ?_
  refine J_laload C (hM.1 9 (by decide)) rfl rfl (by decide) (by decide) d10 ?_
  refine J_iload C d11 rfl ?_
  rw [show rdL σ (1 + 0) = a.2.toInt64 from q2]
  have hcmp : ∀ v : Int64, a.2.toInt64 = v → J G E w kc ks (pc + 31) [l0, l1, some (.ref (w.2.1 13 0)), some (.ref (w.2.1 13 9)), l4, some (.int (nI a.1)), some (.int bb), l7, l8] [.long v, .long a.2.toInt64] σ := fun v hv => by
    refine J_lcmp C d13 ?_
    refine J_if_eq C (tgt := pc + 37) d14 (by omega) (fun _ => hfin _) (fun h => absurd ?_ h)
    rw [hv]
    exact cmp_self
  refine J_if_eq C (tgt := pc + 30) d12 (by omega) (fun h => ?_) (fun h => ?_)
  · refine J_lconst (v := 0) C e3 (by decide) ?_
    refine hcmp 0 ?_
    rw [← q1, h]
    decide
  · refine J_lconst (v := 1) C e1 (by decide) ?_
    refine J_goto (tgt := pc + 31) C e2 (by omega) ?_
    refine hcmp 1 ?_
    rw [q1] at h
    rcases hab with e | e
    · rw [e] at h
      exact absurd (by decide) h
    · rw [e]
      decide
/-- two doubles that are the same -/
theorem tail_D (C : Cx G E cc RL 9 R0) {x : UInt64} {off : Int} (d1 : decode cc pc = .ok (.dload 5, 2)) (d2 : decode cc (pc + 2) = .ok (.dload 7, 2)) (d3 : decode cc (pc + 4) = .ok (.dcmp .l, 1)) (d4 : decode cc (pc + 5) = .ok (.ifCond .eq 21, 3)) (d5 : decode cc (pc + 8) = .ok (.dload 5, 2)) (d6 : decode cc (pc + 10) = .ok (.dload 5, 2)) (d7 : decode cc (pc + 12) = .ok (.dcmp .l, 1)) (d8 : decode cc (pc + 13) = .ok (.ifCond .eq 11, 3))
    (d9 : decode cc (pc + 16) = .ok (.dload 7, 2)) (d10 : decode cc (pc + 18) = .ok (.dload 7, 2)) (d11 : decode cc (pc + 20) = .ok (.dcmp .l, 1)) (d12 : decode cc (pc + 21) = .ok (.ifCond .ne 5, 3)) (d15 : decode cc (pc + 26) = .ok (.goto off, 3)) (ht : ((pc + 26 : Nat) : Int) + off = 3399)
    (hk : J G E w kc ks 3399 [l0, l1, l2, l3, l4, none, none, none, none] [] σ) : J G E w kc ks pc [l0, l1, l2, l3, l4, some (.double x), none, some (.double x), none] [] σ := by
  have hfin : J G E w kc ks (pc + 26) [l0, l1, l2, l3, l4, some (.double x), none, some (.double x), none] [] σ := by
    refine J_goto (tgt := 3399) C d15 ht ?_
    exact J_less (ls' := [l0, l1, l2, l3, l4, none, none, none, none]) ⟨Or.inr rfl, Or.inr rfl, Or.inr rfl, Or.inr rfl, Or.inr rfl, Or.inl rfl, Or.inl rfl, Or.inl rfl, Or.inl rfl, trivial⟩ hk
  refine J_dload C d1 rfl ?_
  refine J_dload C d2 rfl ?_
  refine J_dcmp C d3 ?_
  refine J_if_eq C (tgt := pc + 26) d4 (by omega) (fun _ => hfin) (fun h => ?_)
  refine J_dload C d5 rfl ?_
  refine J_dload C d6 rfl ?_
  refine J_dcmp C d7 ?_
  refine J_if_eq C (tgt := pc + 24) d8 (by omega) (fun h9 => absurd h9 h) (fun _ => ?_)
  refine J_dload C d9 rfl ?_
  refine J_dload C d10 rfl ?_
  refine J_dcmp C d11 ?_
  exact J_if_ne C (tgt := pc + 26) d12 (by omega) (fun _ => hfin) (fun h9 => absurd h9 h)
end JT
