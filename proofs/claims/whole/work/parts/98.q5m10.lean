/-! ===== the reference is made ===== -/
def LM9 (w : Lay) : Prop := (∀ c, c < 9 → (13, c) ∈ w.1) ∧ ∀ j t, tgM j = some t → w.2.2 13 0 j = some (w.2.1 13 t)
section JP9
variable {G : GC} {E : Ctx} {cc : ByteArray} {own : String} {nL : Nat} {R0 : Room} {w : Lay} {kc ks pc : Nat} {ls : List (Option Value)} {st : List Value} {σ : Mem}
theorem g9X10_7 (C : Cx G E cc RX10 nL R0) (hw : LM9 w) (hd : decode cc pc = .ok (.getfield 7, 3)) (h : J G E w kc ks (pc + 3) ls (.ref (w.2.1 13 1) :: st) σ) : J G E w kc ks pc ls (.ref (w.2.1 13 0) :: st) σ := J_getR (j := 0) C (hw.1 0 (by decide)) rfl rfl rfl (by decide) inA10 q6_187 rfl (hw.2 0 _ rfl) hd h
theorem i9X10_40 (C : Cx G E cc RX10 nL R0) (hw : LM9 w) (hls : ls.length = nL) (hroom : rmX10_clear.frames + 1 ≤ R0.frames ∧ 8 + (2 + 11) + rmX10_clear.locals ≤ R0.locals) (hcs : kc + 0 ≤ R0.cells ∧ ks + 0 ≤ R0.slots) (hst : (st.map fun v => v.category).sum ≤ 8) (hd : decode cc pc = .ok (.invokevirtual 40, 3)) (hM : MX10_clear G w σ [.ref (w.2.1 13 0)] (fun w' r σ' => J G E w' (kc + 0) (ks + 0) (pc + 3) ls (r.toList ++ st) σ') (fun w' X σ' => JX G E w' (kc + 0) (ks + 0) pc ls st σ' X)) : J G E w kc ks pc ls (.ref (w.2.1 13 0) :: st) σ :=
  J_invV C hls (As := []) rfl (hw.1 0 (by decide)) rfl rfl (goodV q6_163 q6_165 qp_23 q1_10 q6_166) mdX10_clear rfl rfl hroom rfl hcs hst hd hM
theorem i9X10_43 (C : Cx G E cc RX10 nL R0) (hw : LM9 w) {a1 a2 a3 a4 : Value} (hls : ls.length = nL) (hroom : rmX10_field.frames + 1 ≤ R0.frames ∧ 8 + (5 + 11) + rmX10_field.locals ≤ R0.locals) (hcs : kc + 0 ≤ R0.cells ∧ ks + 0 ≤ R0.slots) (hst : (st.map fun v => v.category).sum ≤ 8) (hd : decode cc pc = .ok (.invokevirtual 43, 3)) (hM : MX10_field G w σ [.ref (w.2.1 13 0), a1, a2, a3, a4] (fun w' r σ' => J G E w' (kc + 0) (ks + 0) (pc + 3) ls (r.toList ++ st) σ') (fun w' X σ' => JX G E w' (kc + 0) (ks + 0) pc ls st σ' X)) : J G E w kc ks pc ls (a4 :: a3 :: a2 :: a1 :: .ref (w.2.1 13 0) :: st) σ :=
  J_invV C hls (As := [a1, a2, a3, a4]) rfl (hw.1 0 (by decide)) rfl rfl (goodV q6_167 q6_169 qp_24 q1_10 q6_170) mdX10_field rfl rfl hroom rfl hcs hst hd hM
theorem i9X10_47 (C : Cx G E cc RX10 nL R0) (hw : LM9 w) (hls : ls.length = nL) (hroom : rmX10_zone.frames + 1 ≤ R0.frames ∧ 8 + (1 + 11) + rmX10_zone.locals ≤ R0.locals) (hcs : kc + 0 ≤ R0.cells ∧ ks + 0 ≤ R0.slots) (hst : (st.map fun v => v.category).sum ≤ 8) (hd : decode cc pc = .ok (.invokevirtual 47, 3)) (hM : MX10_zone G w σ [.ref (w.2.1 13 0)] (fun w' r σ' => J G E w' (kc + 0) (ks + 0) (pc + 3) ls (r.toList ++ st) σ') (fun w' X σ' => JX G E w' (kc + 0) (ks + 0) pc ls st σ' X)) : J G E w kc ks pc ls (.ref (w.2.1 13 0) :: st) σ :=
  J_invV C hls (As := []) rfl (hw.1 0 (by decide)) rfl rfl (goodV q6_171 q6_173 qp_25 q1_10 q6_174) mdX10_zone rfl rfl hroom rfl hcs hst hd hM
theorem i9X10_50 (C : Cx G E cc RX10 nL R0) (hw : LM9 w) {a1 a2 : Value} (hls : ls.length = nL) (hroom : rmX10_wind.frames + 1 ≤ R0.frames ∧ 8 + (5 + 11) + rmX10_wind.locals ≤ R0.locals) (hcs : kc + 0 ≤ R0.cells ∧ ks + 0 ≤ R0.slots) (hst : (st.map fun v => v.category).sum ≤ 8) (hd : decode cc pc = .ok (.invokevirtual 50, 3)) (hM : MX10_wind G w σ [.ref (w.2.1 13 0), a1, a2] (fun w' r σ' => J G E w' (kc + 0) (ks + 0) (pc + 3) ls (r.toList ++ st) σ') (fun w' X σ' => JX G E w' (kc + 0) (ks + 0) pc ls st σ' X)) : J G E w kc ks pc ls (a2 :: a1 :: .ref (w.2.1 13 0) :: st) σ :=
  J_invV C hls (As := [a1, a2]) rfl (hw.1 0 (by decide)) rfl rfl (goodV q6_175 q6_177 qp_26 q1_10 q6_178) mdX10_wind rfl rfl hroom rfl hcs hst hd hM
theorem i9X10_54 (C : Cx G E cc RX10 nL R0) (hw : LM9 w) {a1 : Value} (hls : ls.length = nL) (hroom : rmX10_colour.frames + 1 ≤ R0.frames ∧ 8 + (2 + 11) + rmX10_colour.locals ≤ R0.locals) (hcs : kc + 0 ≤ R0.cells ∧ ks + 0 ≤ R0.slots) (hst : (st.map fun v => v.category).sum ≤ 8) (hd : decode cc pc = .ok (.invokevirtual 54, 3)) (hM : MX10_colour G w σ [.ref (w.2.1 13 0), a1] (fun w' r σ' => J G E w' (kc + 0) (ks + 0) (pc + 3) ls (r.toList ++ st) σ') (fun w' X σ' => JX G E w' (kc + 0) (ks + 0) pc ls st σ' X)) : J G E w kc ks pc ls (a1 :: .ref (w.2.1 13 0) :: st) σ :=
  J_invV C hls (As := [a1]) rfl (hw.1 0 (by decide)) rfl rfl (goodV q6_179 q6_181 qp_27 q1_10 q6_182) mdX10_colour rfl rfl hroom rfl hcs hst hd hM
theorem i9X10_58 (C : Cx G E cc RX10 nL R0) (hw : LM9 w) {a1 a2 a3 a4 a5 a6 : Value} (hls : ls.length = nL) (hroom : rmX10_kite.frames + 1 ≤ R0.frames ∧ 8 + (8 + 11) + rmX10_kite.locals ≤ R0.locals) (hcs : kc + 0 ≤ R0.cells ∧ ks + 0 ≤ R0.slots) (hst : (st.map fun v => v.category).sum ≤ 8) (hd : decode cc pc = .ok (.invokevirtual 58, 3)) (hM : MX10_kite G w σ [.ref (w.2.1 13 0), a1, a2, a3, a4, a5, a6] (fun w' r σ' => J G E w' (kc + 0) (ks + 0) (pc + 3) ls (r.toList ++ st) σ') (fun w' X σ' => JX G E w' (kc + 0) (ks + 0) pc ls st σ' X)) : J G E w kc ks pc ls (a6 :: a5 :: a4 :: a3 :: a2 :: a1 :: .ref (w.2.1 13 0) :: st) σ :=
  J_invV C hls (As := [a1, a2, a3, a4, a5, a6]) rfl (hw.1 0 (by decide)) rfl rfl (goodV q6_183 q6_185 qp_28 q1_10 q6_186) mdX10_kite rfl rfl hroom rfl hcs hst hd hM
end JP9
theorem c9_X10_clear {G : GC} {w : Lay} {σ : Mem} {Q : Lay → Option Value → Mem → Prop} {Qx : Lay → String → Mem → Prop} (hM : LM9 w) (hq : Q w none (clrP σ 304)) : MX10_clear G w σ [.ref (w.2.1 13 0)] Q Qx := by
  refine mt_start (by decide) rfl (Nat.le_of_ble_eq_true rfl) (fun E hC hR hN => ?_)
  show J G E w 0 0 0 [some (.ref (w.2.1 13 0)), none] [] σ
  have lp : ∀ (dd : Nat) (k : Nat), 304 - k < dd → (k ≤ 304) →  J G E w 0 0 2 [some (.ref (w.2.1 13 0)), some (.int (nI k))] [] (clrP σ k) := by
    intro dd
    induction dd with
    | zero =>
      intro k hdd
      exact absurd hdd (Nat.not_lt_zero _)
    | succ dd ih =>
      intro k hdd hk
      refine J_iload_n hC dX10_clear_2 rfl rfl ?_
      refine J_sipush (v := nI 304) hC dX10_clear_3 (by decide) ?_
      refine J_icmp_ge_n hC (by omega) (by decide) (tgt := 22) dX10_clear_6 rfl (fun hb0 => ?_) (fun hb0 => ?_)
      · refine J_return hC hR dX10_clear_22 (by decide) (by decide) ?_
        have e : k = 304 := by omega
        subst e
        exact hq
      · refine J_aload_n hC dX10_clear_9 rfl rfl ?_
        refine g9X10_7 hC hM dX10_clear_10 ?_
        refine J_iload_n hC dX10_clear_13 rfl rfl ?_
        refine J_iconst (v := nI 0) hC dX10_clear_14 (by decide) ?_
        refine J_iastore hC (hM.1 1 (by decide)) rfl rfl (by omega) (by decide) dX10_clear_15 ?_
        rw [clrP_s]
        refine J_iinc_n (m := 1) hC (by decide) dX10_clear_16 rfl (Nat.le_of_ble_eq_true rfl) rfl ?_
        dsimp only [List.set]
        refine J_goto (tgt := 2) hC dX10_clear_19 rfl ?_
        exact ih (k + 1) (by omega) (by omega)
  refine J_iconst (v := nI 0) hC dX10_clear_0 (by decide) ?_
  refine J_istore_n hC dX10_clear_1 rfl (Nat.le_of_ble_eq_true rfl) rfl ?_
  dsimp only [List.set]
  exact J_cong (lp 305 0 (by omega) (by omega)) (h4 := clrP_0.symm)
theorem c9_X10_field {G : GC} {w : Lay} {σ : Mem} {Q : Lay → Option Value → Mem → Prop} {Qx : Lay → String → Mem → Prop} (hM : LM9 w) {a b c d : Int32} (hq : Q w none (setA σ (fieldA (rd σ 13 1) a b c d))) : MX10_field G w σ [.ref (w.2.1 13 0), .int a, .int b, .int c, .int d] Q Qx := by
  refine mt_start (by decide) rfl (Nat.le_of_ble_eq_true rfl) (fun E hC hR hN => ?_)
  show J G E w 0 0 0 [some (.ref (w.2.1 13 0)), some (.int a), some (.int b), some (.int c), some (.int d)] [] σ
  refine J_cong (σ' := setA σ (rd σ 13 1)) ?_ (h4 := setA_id.symm)
  refine J_aload_n hC dX10_field_0 rfl rfl ?_
  refine g9X10_7 hC hM dX10_field_1 ?_
  refine J_iconst (v := nI 0) hC dX10_field_4 (by decide) ?_
  refine J_iload_n hC dX10_field_5 rfl rfl ?_
  refine J_iastore hC (hM.1 1 (by decide)) rfl rfl (by omega) (by decide) dX10_field_6 ?_
  rw [wr_setA2]
  refine J_aload_n hC dX10_field_7 rfl rfl ?_
  refine g9X10_7 hC hM dX10_field_8 ?_
  refine J_iconst (v := nI 1) hC dX10_field_11 (by decide) ?_
  refine J_iload_n hC dX10_field_12 rfl rfl ?_
  refine J_iastore hC (hM.1 1 (by decide)) rfl rfl (by omega) (by decide) dX10_field_13 ?_
  rw [wr_setA2]
  refine J_aload_n hC dX10_field_14 rfl rfl ?_
  refine g9X10_7 hC hM dX10_field_15 ?_
  refine J_iconst (v := nI 2) hC dX10_field_18 (by decide) ?_
  refine J_iload_n hC dX10_field_19 rfl rfl ?_
  refine J_iastore hC (hM.1 1 (by decide)) rfl rfl (by omega) (by decide) dX10_field_20 ?_
  rw [wr_setA2]
  refine J_aload_n hC dX10_field_21 rfl rfl ?_
  refine g9X10_7 hC hM dX10_field_22 ?_
  refine J_iconst (v := nI 3) hC dX10_field_25 (by decide) ?_
  refine J_iload hC dX10_field_26 rfl ?_
  refine J_iastore hC (hM.1 1 (by decide)) rfl rfl (by omega) (by decide) dX10_field_28 ?_
  rw [wr_setA2]
  refine J_return hC hR dX10_field_29 (by decide) (by decide) ?_
  exact hq
theorem c9_X10_zone {G : GC} {w : Lay} {σ : Mem} {Q : Lay → Option Value → Mem → Prop} {Qx : Lay → String → Mem → Prop} (hM : LM9 w) (h4 : (rd σ 13 1) 4 = nI (nv (rd σ 13 1) 4)) (hz : nv (rd σ 13 1) 4 < 4) (hq : Q w none (setA σ (zoneA (rd σ 13 1)))) : MX10_zone G w σ [.ref (w.2.1 13 0)] Q Qx := by
  refine mt_start (by decide) rfl (Nat.le_of_ble_eq_true rfl) (fun E hC hR hN => ?_)
  show J G E w 0 0 0 [some (.ref (w.2.1 13 0))] [] σ
  refine J_cong (σ' := setA σ (rd σ 13 1)) ?_ (h4 := setA_id.symm)
  refine J_aload_n hC dX10_zone_0 rfl rfl ?_
  refine g9X10_7 hC hM dX10_zone_1 ?_
  refine J_bipush (v := nI 12) hC dX10_zone_4 (by decide) ?_
  refine J_bipush (v := nI 13) hC dX10_zone_6 (by decide) ?_
  refine J_aload_n hC dX10_zone_8 rfl rfl ?_
  refine g9X10_7 hC hM dX10_zone_9 ?_
  refine J_iconst (v := nI 4) hC dX10_zone_12 (by decide) ?_
  refine J_dup2 hC dX10_zone_13 rfl rfl ?_
  refine J_iaload hC (hM.1 1 (by decide)) rfl rfl (by omega) (by decide) dX10_zone_14 ?_
  refine J_top (show _ = nI (nv (rd σ 13 1) 4) from by rw [rd_setA]; exact h4) ?_
  refine J_dup_x2 hC dX10_zone_15 rfl rfl rfl ?_
  refine J_iconst (v := nI 1) hC dX10_zone_16 (by decide) ?_
  refine J_iadd_n hC dX10_zone_17 ?_
  refine J_iastore hC (hM.1 1 (by decide)) rfl rfl (by omega) (by decide) dX10_zone_18 ?_
  rw [wr_setA2]
  refine J_imul_n hC dX10_zone_19 ?_
  refine J_iadd_n hC dX10_zone_20 ?_
  refine J_iconst (v := nI 0) hC dX10_zone_21 (by decide) ?_
  refine J_iastore hC (hM.1 1 (by decide)) rfl rfl (by omega) (by decide) dX10_zone_22 ?_
  rw [wr_setA2]
  refine J_return hC hR dX10_zone_23 (by decide) (by decide) ?_
  exact hq
theorem c9_X10_wind {G : GC} {w : Lay} {σ : Mem} {Q : Lay → Option Value → Mem → Prop} {Qx : Lay → String → Mem → Prop} (hM : LM9 w) {d f : Int32} (h4 : (rd σ 13 1) 4 = nI (nv (rd σ 13 1) 4)) (hz : 1 ≤ nv (rd σ 13 1) 4 ∧ nv (rd σ 13 1) 4 ≤ 4) (hk : (rd σ 13 1) (windP (rd σ 13 1)) = nI (nv (rd σ 13 1) (windP (rd σ 13 1)))) (hk6 : nv (rd σ 13 1) (windP (rd σ 13 1)) < 6) (hq : Q w none (setA σ (windA (rd σ 13 1) d f))) : MX10_wind G w σ [.ref (w.2.1 13 0), .int d, .int f] Q Qx := by
  refine mt_start (by decide) rfl (Nat.le_of_ble_eq_true rfl) (fun E hC hR hN => ?_)
  show J G E w 0 0 0 [some (.ref (w.2.1 13 0)), some (.int d), some (.int f), none, none] [] σ
  refine J_cong (σ' := setA σ (rd σ 13 1)) ?_ (h4 := setA_id.symm)
  have hP : windP (rd σ 13 1) = 12 + 13 * (nv (rd σ 13 1) 4 - 1) := rfl
  refine J_bipush (v := nI 12) hC dX10_wind_0 (by decide) ?_
  refine J_bipush (v := nI 13) hC dX10_wind_2 (by decide) ?_
  refine J_aload_n hC dX10_wind_4 rfl rfl ?_
  refine g9X10_7 hC hM dX10_wind_5 ?_
  refine J_iconst (v := nI 4) hC dX10_wind_8 (by decide) ?_
  refine J_iaload hC (hM.1 1 (by decide)) rfl rfl (by omega) (by decide) dX10_wind_9 ?_
  refine J_top (show _ = nI (nv (rd σ 13 1) 4) from by rw [rd_setA]; exact h4) ?_
  refine J_iconst (v := nI 1) hC dX10_wind_10 (by decide) ?_
  refine J_isub_n hC (by omega) dX10_wind_11 ?_
  refine J_imul_n hC dX10_wind_12 ?_
  refine J_iadd_n hC dX10_wind_13 ?_
  refine J_istore_n hC dX10_wind_14 rfl (Nat.le_of_ble_eq_true rfl) rfl ?_
  dsimp only [List.set]
  refine J_aload_n hC dX10_wind_15 rfl rfl ?_
  refine g9X10_7 hC hM dX10_wind_16 ?_
  refine J_iload_n hC dX10_wind_19 rfl rfl ?_
  refine J_dup2 hC dX10_wind_20 rfl rfl ?_
  refine J_iaload hC (hM.1 1 (by decide)) rfl rfl (by omega) (by decide) dX10_wind_21 ?_
  refine J_top (show _ = nI (nv (rd σ 13 1) (windP (rd σ 13 1))) from by rw [rd_setA]; exact hk) ?_
  refine J_dup_x2 hC dX10_wind_22 rfl rfl rfl ?_
  refine J_iconst (v := nI 1) hC dX10_wind_23 (by decide) ?_
  refine J_iadd_n hC dX10_wind_24 ?_
  refine J_iastore hC (hM.1 1 (by decide)) rfl rfl (by omega) (by decide) dX10_wind_25 ?_
  rw [wr_setA2]
  refine J_istore hC dX10_wind_26 (Nat.le_of_ble_eq_true rfl) rfl ?_
  dsimp only [List.set]
  refine J_aload_n hC dX10_wind_28 rfl rfl ?_
  refine g9X10_7 hC hM dX10_wind_29 ?_
  refine J_iload_n hC dX10_wind_32 rfl rfl ?_
  refine J_iconst (v := nI 1) hC dX10_wind_33 (by decide) ?_
  refine J_iadd_n hC dX10_wind_34 ?_
  refine J_iconst (v := nI 2) hC dX10_wind_35 (by decide) ?_
  refine J_iload hC dX10_wind_36 rfl ?_
  refine J_imul_n hC dX10_wind_38 ?_
  refine J_iadd_n hC dX10_wind_39 ?_
  refine J_iload_n hC dX10_wind_40 rfl rfl ?_
  refine J_iastore hC (hM.1 1 (by decide)) rfl rfl (by omega) (by decide) dX10_wind_41 ?_
  rw [wr_setA2]
  refine J_aload_n hC dX10_wind_42 rfl rfl ?_
  refine g9X10_7 hC hM dX10_wind_43 ?_
  refine J_iload_n hC dX10_wind_46 rfl rfl ?_
  refine J_iconst (v := nI 2) hC dX10_wind_47 (by decide) ?_
  refine J_iadd_n hC dX10_wind_48 ?_
  refine J_iconst (v := nI 2) hC dX10_wind_49 (by decide) ?_
  refine J_iload hC dX10_wind_50 rfl ?_
  refine J_imul_n hC dX10_wind_52 ?_
  refine J_iadd_n hC dX10_wind_53 ?_
  refine J_iload_n hC dX10_wind_54 rfl rfl ?_
  refine J_iastore hC (hM.1 1 (by decide)) rfl rfl (by omega) (by decide) dX10_wind_55 ?_
  rw [wr_setA2]
  refine J_return hC hR dX10_wind_56 (by decide) (by decide) ?_
  exact hq
theorem c9_X10_colour {G : GC} {w : Lay} {σ : Mem} {Q : Lay → Option Value → Mem → Prop} {Qx : Lay → String → Mem → Prop} (hM : LM9 w) {q : Int32} (h5 : (rd σ 13 1) 5 = nI (nv (rd σ 13 1) 5)) (hc : nv (rd σ 13 1) 5 < 6) (hq : Q w none (setA σ (colourA (rd σ 13 1) q))) : MX10_colour G w σ [.ref (w.2.1 13 0), .int q] Q Qx := by
  refine mt_start (by decide) rfl (Nat.le_of_ble_eq_true rfl) (fun E hC hR hN => ?_)
  show J G E w 0 0 0 [some (.ref (w.2.1 13 0)), some (.int q)] [] σ
  refine J_cong (σ' := setA σ (rd σ 13 1)) ?_ (h4 := setA_id.symm)
  refine J_aload_n hC dX10_colour_0 rfl rfl ?_
  refine g9X10_7 hC hM dX10_colour_1 ?_
  refine J_bipush (v := nI 64) hC dX10_colour_4 (by decide) ?_
  refine J_aload_n hC dX10_colour_6 rfl rfl ?_
  refine g9X10_7 hC hM dX10_colour_7 ?_
  refine J_iconst (v := nI 5) hC dX10_colour_10 (by decide) ?_
  refine J_dup2 hC dX10_colour_11 rfl rfl ?_
  refine J_iaload hC (hM.1 1 (by decide)) rfl rfl (by omega) (by decide) dX10_colour_12 ?_
  refine J_top (show _ = nI (nv (rd σ 13 1) 5) from by rw [rd_setA]; exact h5) ?_
  refine J_dup_x2 hC dX10_colour_13 rfl rfl rfl ?_
  refine J_iconst (v := nI 1) hC dX10_colour_14 (by decide) ?_
  refine J_iadd_n hC dX10_colour_15 ?_
  refine J_iastore hC (hM.1 1 (by decide)) rfl rfl (by omega) (by decide) dX10_colour_16 ?_
  rw [wr_setA2]
  refine J_iadd_n hC dX10_colour_17 ?_
  refine J_iload_n hC dX10_colour_18 rfl rfl ?_
  refine J_iastore hC (hM.1 1 (by decide)) rfl rfl (by omega) (by decide) dX10_colour_19 ?_
  rw [wr_setA2]
  refine J_return hC hR dX10_colour_20 (by decide) (by decide) ?_
  exact hq
theorem c9_X10_kite {G : GC} {w : Lay} {σ : Mem} {Q : Lay → Option Value → Mem → Prop} {Qx : Lay → String → Mem → Prop} (hM : LM9 w) {a b c d e f : Int32} (h6 : (rd σ 13 1) 6 = nI (nv (rd σ 13 1) 6)) (hk : nv (rd σ 13 1) 6 < 16) (hq : Q w (some (.int (nI (nv (rd σ 13 1) 6)))) (setA σ (kiteA (rd σ 13 1) a b c d e f))) : MX10_kite G w σ [.ref (w.2.1 13 0), .int a, .int b, .int c, .int d, .int e, .int f] Q Qx := by
  refine mt_start (by decide) rfl (Nat.le_of_ble_eq_true rfl) (fun E hC hR hN => ?_)
  show J G E w 0 0 0 [some (.ref (w.2.1 13 0)), some (.int a), some (.int b), some (.int c), some (.int d), some (.int e), some (.int f), none] [] σ
  refine J_cong (σ' := setA σ (rd σ 13 1)) ?_ (h4 := setA_id.symm)
  refine J_bipush (v := nI 70) hC dX10_kite_0 (by decide) ?_
  refine J_bipush (v := nI 9) hC dX10_kite_2 (by decide) ?_
  refine J_aload_n hC dX10_kite_4 rfl rfl ?_
  refine g9X10_7 hC hM dX10_kite_5 ?_
  refine J_bipush (v := nI 6) hC dX10_kite_8 (by decide) ?_
  refine J_iaload hC (hM.1 1 (by decide)) rfl rfl (by omega) (by decide) dX10_kite_10 ?_
  refine J_top (show _ = nI (nv (rd σ 13 1) 6) from by rw [rd_setA]; exact h6) ?_
  refine J_imul_n hC dX10_kite_11 ?_
  refine J_iadd_n hC dX10_kite_12 ?_
  refine J_istore hC dX10_kite_13 (Nat.le_of_ble_eq_true rfl) rfl ?_
  dsimp only [List.set]
  refine J_aload_n hC dX10_kite_15 rfl rfl ?_
  refine g9X10_7 hC hM dX10_kite_16 ?_
  refine J_iload hC dX10_kite_19 rfl ?_
  refine J_iload_n hC dX10_kite_21 rfl rfl ?_
  refine J_iastore hC (hM.1 1 (by decide)) rfl rfl (by omega) (by decide) dX10_kite_22 ?_
  rw [wr_setA2]
  refine J_aload_n hC dX10_kite_23 rfl rfl ?_
  refine g9X10_7 hC hM dX10_kite_24 ?_
  refine J_iload hC dX10_kite_27 rfl ?_
  refine J_iconst (v := nI 1) hC dX10_kite_29 (by decide) ?_
  refine J_iadd_n hC dX10_kite_30 ?_
  refine J_iload_n hC dX10_kite_31 rfl rfl ?_
  refine J_iastore hC (hM.1 1 (by decide)) rfl rfl (by omega) (by decide) dX10_kite_32 ?_
  rw [wr_setA2]
  refine J_aload_n hC dX10_kite_33 rfl rfl ?_
  refine g9X10_7 hC hM dX10_kite_34 ?_
  refine J_iload hC dX10_kite_37 rfl ?_
  refine J_iconst (v := nI 2) hC dX10_kite_39 (by decide) ?_
  refine J_iadd_n hC dX10_kite_40 ?_
  refine J_iload_n hC dX10_kite_41 rfl rfl ?_
  refine J_iastore hC (hM.1 1 (by decide)) rfl rfl (by omega) (by decide) dX10_kite_42 ?_
  rw [wr_setA2]
  refine J_aload_n hC dX10_kite_43 rfl rfl ?_
  refine g9X10_7 hC hM dX10_kite_44 ?_
  refine J_iload hC dX10_kite_47 rfl ?_
  refine J_iconst (v := nI 3) hC dX10_kite_49 (by decide) ?_
  refine J_iadd_n hC dX10_kite_50 ?_
  refine J_iload hC dX10_kite_51 rfl ?_
  refine J_iastore hC (hM.1 1 (by decide)) rfl rfl (by omega) (by decide) dX10_kite_53 ?_
  rw [wr_setA2]
  refine J_aload_n hC dX10_kite_54 rfl rfl ?_
  refine g9X10_7 hC hM dX10_kite_55 ?_
  refine J_iload hC dX10_kite_58 rfl ?_
  refine J_iconst (v := nI 4) hC dX10_kite_60 (by decide) ?_
  refine J_iadd_n hC dX10_kite_61 ?_
  refine J_iload hC dX10_kite_62 rfl ?_
  refine J_iastore hC (hM.1 1 (by decide)) rfl rfl (by omega) (by decide) dX10_kite_64 ?_
  rw [wr_setA2]
  refine J_aload_n hC dX10_kite_65 rfl rfl ?_
  refine g9X10_7 hC hM dX10_kite_66 ?_
  refine J_iload hC dX10_kite_69 rfl ?_
  refine J_iconst (v := nI 5) hC dX10_kite_71 (by decide) ?_
  refine J_iadd_n hC dX10_kite_72 ?_
  refine J_iload hC dX10_kite_73 rfl ?_
  refine J_iastore hC (hM.1 1 (by decide)) rfl rfl (by omega) (by decide) dX10_kite_75 ?_
  rw [wr_setA2]
  refine J_aload_n hC dX10_kite_76 rfl rfl ?_
  refine g9X10_7 hC hM dX10_kite_77 ?_
  refine J_iload hC dX10_kite_80 rfl ?_
  refine J_bipush (v := nI 6) hC dX10_kite_82 (by decide) ?_
  refine J_iadd_n hC dX10_kite_84 ?_
  refine J_iconst (v := nI 0) hC dX10_kite_85 (by decide) ?_
  refine J_iastore hC (hM.1 1 (by decide)) rfl rfl (by omega) (by decide) dX10_kite_86 ?_
  rw [wr_setA2]
  refine J_aload_n hC dX10_kite_87 rfl rfl ?_
  refine g9X10_7 hC hM dX10_kite_88 ?_
  refine J_iload hC dX10_kite_91 rfl ?_
  refine J_bipush (v := nI 7) hC dX10_kite_93 (by decide) ?_
  refine J_iadd_n hC dX10_kite_95 ?_
  refine J_iconst (v := nI 0) hC dX10_kite_96 (by decide) ?_
  refine J_iastore hC (hM.1 1 (by decide)) rfl rfl (by omega) (by decide) dX10_kite_97 ?_
  rw [wr_setA2]
  refine J_aload_n hC dX10_kite_98 rfl rfl ?_
  refine g9X10_7 hC hM dX10_kite_99 ?_
  refine J_iload hC dX10_kite_102 rfl ?_
  refine J_bipush (v := nI 8) hC dX10_kite_104 (by decide) ?_
  refine J_iadd_n hC dX10_kite_106 ?_
  refine J_iconst (v := nI 0) hC dX10_kite_107 (by decide) ?_
  refine J_iastore hC (hM.1 1 (by decide)) rfl rfl (by omega) (by decide) dX10_kite_108 ?_
  rw [wr_setA2]
  refine J_aload_n hC dX10_kite_109 rfl rfl ?_
  refine g9X10_7 hC hM dX10_kite_110 ?_
  refine J_bipush (v := nI 10) hC dX10_kite_113 (by decide) ?_
  refine J_dup2 hC dX10_kite_115 rfl rfl ?_
  refine J_iaload hC (hM.1 1 (by decide)) rfl rfl (by omega) (by decide) dX10_kite_116 ?_
  refine J_top (show _ = (rd σ 13 1) 10 from by rw [rd_setA]; repeat rw [upd_n (by omega)]) ?_
  refine J_iload hC dX10_kite_117 rfl ?_
  refine J_iadd hC dX10_kite_119 ?_
  refine J_iastore hC (hM.1 1 (by decide)) rfl rfl (by omega) (by decide) dX10_kite_120 ?_
  rw [wr_setA2]
  refine J_aload_n hC dX10_kite_121 rfl rfl ?_
  refine g9X10_7 hC hM dX10_kite_122 ?_
  refine J_bipush (v := nI 6) hC dX10_kite_125 (by decide) ?_
  refine J_dup2 hC dX10_kite_127 rfl rfl ?_
  refine J_iaload hC (hM.1 1 (by decide)) rfl rfl (by omega) (by decide) dX10_kite_128 ?_
  refine J_top (show _ = nI (nv (rd σ 13 1) 6) from by rw [rd_setA]; (repeat rw [upd_n (by omega)]); exact h6) ?_
  refine J_dup_x2 hC dX10_kite_129 rfl rfl rfl ?_
  refine J_iconst (v := nI 1) hC dX10_kite_130 (by decide) ?_
  refine J_iadd_n hC dX10_kite_131 ?_
  refine J_iastore hC (hM.1 1 (by decide)) rfl rfl (by omega) (by decide) dX10_kite_132 ?_
  rw [wr_setA2]
  refine J_ireturn hC hR dX10_kite_133 (by decide) (by decide) ?_
  exact hq
def mO0 : Mem := wr fO12 12 5 3 (-1)
def mO1 : Mem := wr mO0 13 0 8 (-1)
def mO2 : Mem := clrP mO1 304
def mO3 : Mem := setA mO2 (fieldA (rd mO2 13 1) (nI 40) (nI 30) (nI 2) (nI 10))
def mO4 : Mem := setA mO3 (zoneA (rd mO3 13 1))
def mO5 : Mem := setA mO4 (windA (rd mO4 13 1) (nI 2) (nI 3))
def mO6 : Mem := setA mO5 (windA (rd mO5 13 1) (nI 0) (nI 5))
def mO7 : Mem := setA mO6 (zoneA (rd mO6 13 1))
def mO8 : Mem := setA mO7 (windA (rd mO7 13 1) (nI 6) (nI 4))
def mO9 : Mem := setA mO8 (colourA (rd mO8 13 1) (nI 2))
def mO10 : Mem := setA mO9 (colourA (rd mO9 13 1) (nI 1))
def mO11 : Mem := setA mO10 (kiteA (rd mO10 13 1) (nI 5) (nI 10) (nI 10) (nI 0) (nI 0) (nI 50))
def mO12 : Mem := setA mO11 (kiteA (rd mO11 13 1) (nI 15) (nI 8) (nI 10) (nI 0) (nI 1) (nI 40))
def mO13 : Mem := setA mO12 (kiteA (rd mO12 13 1) (nI 34) (nI 10) (nI 15) (nI 1) (nI 1) (nI 30))
def mO14 : Mem := setA mO13 (kiteA (rd mO13 13 1) (nI 22) (nI 10) (nI 20) (nI 0) (nI 0) (nI 0))
theorem rd_mO013 (c j : Nat) : rd mO0 13 c j = 0 := by
  unfold mO0
  rw [rd_wr_o (by decide)]
  exact rd_fO12 _ _ _ (by decide)
abbrev rnX10_init : Room := { frames := 1, cells := 8, slots := 4970, locals := 27 }
theorem mdnX10_init : yX10_init.cls ≠ "java/lang/invoke/MethodHandle" ∧ yX10_init.cls ≠ "java/lang/invoke/VarHandle" ∧ (parseMethodDescriptor yX10_init.desc).map (fun d => d.parameters.length) = some 0 := by decide +kernel
set_option maxHeartbeats 16000000 in
set_option maxRecDepth 100000 in
theorem c_X10_init {G : GC} {w : Lay} {Q : Lay → Option Value → Mem → Prop} {Qx : Lay → String → Mem → Prop} (hm : (13, 0) ∈ w.1) (hf : ∀ y, 1 ≤ y → y ≤ 8 → (13, y) ∉ w.1) (hr : ∀ y j, 1 ≤ y → y ≤ 8 → w.2.2 13 y j = none) (hq : ∀ w', XT (fun x y => x = 13 ∧ 1 ≤ y ∧ y ≤ 8) (fun x y i => x = 13 ∧ y = 0) w w' → LM9 w' → Q w' none mO14) : MTO G yX10_init (cw yX10_init cX10_init 1 none) rnX10_init 8 4970 w mO0 [.ref (w.2.1 13 0)] Q Qx := by
  refine mt_startO (by decide) rfl (Nat.le_of_ble_eq_true rfl) (fun E hC hR hN hAO hIn0 => ?_)
  have hIn := hIn0 rfl
  have hz : ∀ y j, 1 ≤ y → y ≤ 8 → rd mO0 13 y j = 0 := fun y j _ _ => rd_mO013 y j
  show J G E w 0 0 0 [some (.ref (w.2.1 13 0))] [] mO0
  have hA0 := XT_mono (S' := fun x y => x = 13 ∧ y < 0) (R' := fun x y i => x = 13 ∧ y < 0) (XT_rf (w := w)) (fun x y => by first | omega | (dsimp only; omega)) (fun x y i => by first | omega | (dsimp only; omega))
  refine J_aload_n hC dX10_init_0 rfl rfl ?_
  refine J_objI hC rfl q6_162 (by decide) (by decide) dX10_init_1 ?_
  refine J_aload_n hC dX10_init_4 rfl rfl ?_
  refine J_sipush (v := nI 304) hC dX10_init_5 (by decide) ?_
  refine J_newA_int hC (o := 13) (c := 1) (n := 304) (fun g => ((hA0.1 _ _).mp g).elim (hf 1 (by omega) (by omega)) (fun q => by first | omega | (dsimp only at q; omega))) rfl rfl (by decide) (fun j => hz 1 j (by omega) (by omega)) ⟨by decide, by decide⟩ dX10_init_8 (fun w1 hX1 => ?_)
  have hA1 := XT_mono (S' := fun x y => x = 13 ∧ ((1 ≤ y ∧ y ≤ 1))) (R' := fun x y i => x = 13 ∧ (y < 0)) (XT_tr hA0 hX1) (fun x y => by first | omega | (dsimp only; omega)) (fun x y i => by first | omega | (dsimp only; omega))
  refine rX10_7 hC hIn ((hA1.1 _ _).mpr (Or.inl hm)) (hA1.2.1 _ _ hm).symm dX10_init_10 (fun w2 hX2 hP2 => ?_)
  have hp2 : PT w2 13 0 0 13 1 := by
    unfold PT
    rw [hP2, hX2.2.1 _ _ ((hA1.1 _ _).mpr (Or.inr (by first | omega | (dsimp only; omega))))]
  have hA2 := XT_mono (S' := fun x y => x = 13 ∧ ((1 ≤ y ∧ y ≤ 1))) (R' := fun x y i => x = 13 ∧ (y = 0)) (XT_tr hA1 hX2) (fun x y => by first | omega | (dsimp only; omega)) (fun x y i => by first | omega | (dsimp only; omega))
  refine J_aload_n hC dX10_init_13 rfl rfl ?_
  refine J_sipush (v := nI 3648) hC dX10_init_14 (by decide) ?_
  refine J_newA_int hC (o := 13) (c := 2) (n := 3648) (fun g => ((hA2.1 _ _).mp g).elim (hf 2 (by omega) (by omega)) (fun q => by first | omega | (dsimp only at q; omega))) rfl rfl (by decide) (fun j => hz 2 j (by omega) (by omega)) ⟨by decide, by decide⟩ dX10_init_17 (fun w3 hX3 => ?_)
  have hA3 := XT_mono (S' := fun x y => x = 13 ∧ ((1 ≤ y ∧ y ≤ 1) ∨ (2 ≤ y ∧ y ≤ 2))) (R' := fun x y i => x = 13 ∧ (y = 0)) (XT_tr hA2 hX3) (fun x y => by first | omega | (dsimp only; omega)) (fun x y i => by first | omega | (dsimp only; omega))
  refine rX10_13 hC hIn ((hA3.1 _ _).mpr (Or.inl hm)) (hA3.2.1 _ _ hm).symm dX10_init_19 (fun w4 hX4 hP4 => ?_)
  have hp4 : PT w4 13 0 1 13 2 := by
    unfold PT
    rw [hP4, hX4.2.1 _ _ ((hA3.1 _ _).mpr (Or.inr (by first | omega | (dsimp only; omega))))]
  have hA4 := XT_mono (S' := fun x y => x = 13 ∧ ((1 ≤ y ∧ y ≤ 1) ∨ (2 ≤ y ∧ y ≤ 2))) (R' := fun x y i => x = 13 ∧ (y = 0)) (XT_tr hA3 hX4) (fun x y => by first | omega | (dsimp only; omega)) (fun x y i => by first | omega | (dsimp only; omega))
  refine J_aload_n hC dX10_init_22 rfl rfl ?_
  refine J_iconst (v := nI 2) hC dX10_init_23 (by decide) ?_
  refine J_newA_boolean hC (o := 13) (c := 3) (n := 2) (fun g => ((hA4.1 _ _).mp g).elim (hf 3 (by omega) (by omega)) (fun q => by first | omega | (dsimp only at q; omega))) rfl rfl (by decide) (fun j => hz 3 j (by omega) (by omega)) ⟨by decide, by decide⟩ dX10_init_24 (fun w5 hX5 => ?_)
  have hA5 := XT_mono (S' := fun x y => x = 13 ∧ ((1 ≤ y ∧ y ≤ 1) ∨ (2 ≤ y ∧ y ≤ 2) ∨ (3 ≤ y ∧ y ≤ 3))) (R' := fun x y i => x = 13 ∧ (y = 0)) (XT_tr hA4 hX5) (fun x y => by first | omega | (dsimp only; omega)) (fun x y i => by first | omega | (dsimp only; omega))
  refine rX10_16 hC hIn ((hA5.1 _ _).mpr (Or.inl hm)) (hA5.2.1 _ _ hm).symm dX10_init_26 (fun w6 hX6 hP6 => ?_)
  have hp6 : PT w6 13 0 2 13 3 := by
    unfold PT
    rw [hP6, hX6.2.1 _ _ ((hA5.1 _ _).mpr (Or.inr (by first | omega | (dsimp only; omega))))]
  have hA6 := XT_mono (S' := fun x y => x = 13 ∧ ((1 ≤ y ∧ y ≤ 1) ∨ (2 ≤ y ∧ y ≤ 2) ∨ (3 ≤ y ∧ y ≤ 3))) (R' := fun x y i => x = 13 ∧ (y = 0)) (XT_tr hA5 hX6) (fun x y => by first | omega | (dsimp only; omega)) (fun x y i => by first | omega | (dsimp only; omega))
  refine J_aload_n hC dX10_init_29 rfl rfl ?_
  refine J_sipush (v := nI 500) hC dX10_init_30 (by decide) ?_
  refine J_newA_byte hC (o := 13) (c := 4) (n := 500) (fun g => ((hA6.1 _ _).mp g).elim (hf 4 (by omega) (by omega)) (fun q => by first | omega | (dsimp only at q; omega))) rfl rfl (by decide) (fun j => hz 4 j (by omega) (by omega)) ⟨by decide, by decide⟩ dX10_init_33 (fun w7 hX7 => ?_)
  have hA7 := XT_mono (S' := fun x y => x = 13 ∧ ((1 ≤ y ∧ y ≤ 1) ∨ (2 ≤ y ∧ y ≤ 2) ∨ (3 ≤ y ∧ y ≤ 3) ∨ (4 ≤ y ∧ y ≤ 4))) (R' := fun x y i => x = 13 ∧ (y = 0)) (XT_tr hA6 hX7) (fun x y => by first | omega | (dsimp only; omega)) (fun x y i => by first | omega | (dsimp only; omega))
  refine rX10_20 hC hIn ((hA7.1 _ _).mpr (Or.inl hm)) (hA7.2.1 _ _ hm).symm dX10_init_35 (fun w8 hX8 hP8 => ?_)
  have hp8 : PT w8 13 0 5 13 4 := by
    unfold PT
    rw [hP8, hX8.2.1 _ _ ((hA7.1 _ _).mpr (Or.inr (by first | omega | (dsimp only; omega))))]
  have hA8 := XT_mono (S' := fun x y => x = 13 ∧ ((1 ≤ y ∧ y ≤ 1) ∨ (2 ≤ y ∧ y ≤ 2) ∨ (3 ≤ y ∧ y ≤ 3) ∨ (4 ≤ y ∧ y ≤ 4))) (R' := fun x y i => x = 13 ∧ (y = 0)) (XT_tr hA7 hX8) (fun x y => by first | omega | (dsimp only; omega)) (fun x y i => by first | omega | (dsimp only; omega))
  refine J_aload_n hC dX10_init_38 rfl rfl ?_
  refine J_iconst (v := -1) hC dX10_init_39 (by decide) ?_
  have hzz : ∀ y j, 1 ≤ y → y ≤ 8 → rd mO1 13 y j = 0 := fun y j h1 h2 => by
    unfold mO1
    rw [rd_wr_c (by omega)]
    exact rd_mO013 y j
  clear hz
  have hz := hzz
  rw [show w.2.1 13 0 = w8.2.1 13 0 from (hA8.2.1 _ _ hm).symm]
  refine J_putI (j := 8) hC ((hA8.1 _ _).mpr (Or.inl hm)) rfl rfl rfl (by decide) inA10 tyX10_ok nmX10 q6_195 rfl rfl (by decide +kernel) dX10_init_40 ?_
  show J G E _ _ _ _ _ _ mO1
  rw [show w8.2.1 13 0 = w.2.1 13 0 from hA8.2.1 _ _ hm]
  refine J_aload_n hC dX10_init_43 rfl rfl ?_
  refine J_sipush (v := nI 420) hC dX10_init_44 (by decide) ?_
  refine J_newA_byte hC (o := 13) (c := 5) (n := 420) (fun g => ((hA8.1 _ _).mp g).elim (hf 5 (by omega) (by omega)) (fun q => by first | omega | (dsimp only at q; omega))) rfl rfl (by decide) (fun j => hz 5 j (by omega) (by omega)) ⟨by decide, by decide⟩ dX10_init_47 (fun w9 hX9 => ?_)
  have hA9 := XT_mono (S' := fun x y => x = 13 ∧ ((1 ≤ y ∧ y ≤ 1) ∨ (2 ≤ y ∧ y ≤ 2) ∨ (3 ≤ y ∧ y ≤ 3) ∨ (4 ≤ y ∧ y ≤ 4) ∨ (5 ≤ y ∧ y ≤ 5))) (R' := fun x y i => x = 13 ∧ (y = 0)) (XT_tr hA8 hX9) (fun x y => by first | omega | (dsimp only; omega)) (fun x y i => by first | omega | (dsimp only; omega))
  refine rX10_28 hC hIn ((hA9.1 _ _).mpr (Or.inl hm)) (hA9.2.1 _ _ hm).symm dX10_init_49 (fun w10 hX10 hP10 => ?_)
  have hp10 : PT w10 13 0 10 13 5 := by
    unfold PT
    rw [hP10, hX10.2.1 _ _ ((hA9.1 _ _).mpr (Or.inr (by first | omega | (dsimp only; omega))))]
  have hA10 := XT_mono (S' := fun x y => x = 13 ∧ ((1 ≤ y ∧ y ≤ 1) ∨ (2 ≤ y ∧ y ≤ 2) ∨ (3 ≤ y ∧ y ≤ 3) ∨ (4 ≤ y ∧ y ≤ 4) ∨ (5 ≤ y ∧ y ≤ 5))) (R' := fun x y i => x = 13 ∧ (y = 0)) (XT_tr hA9 hX10) (fun x y => by first | omega | (dsimp only; omega)) (fun x y i => by first | omega | (dsimp only; omega))
  refine J_aload_n hC dX10_init_52 rfl rfl ?_
  refine J_bipush (v := nI 20) hC dX10_init_53 (by decide) ?_
  refine J_newA_int hC (o := 13) (c := 6) (n := 20) (fun g => ((hA10.1 _ _).mp g).elim (hf 6 (by omega) (by omega)) (fun q => by first | omega | (dsimp only at q; omega))) rfl rfl (by decide) (fun j => hz 6 j (by omega) (by omega)) ⟨by decide, by decide⟩ dX10_init_55 (fun w11 hX11 => ?_)
  have hA11 := XT_mono (S' := fun x y => x = 13 ∧ ((1 ≤ y ∧ y ≤ 1) ∨ (2 ≤ y ∧ y ≤ 2) ∨ (3 ≤ y ∧ y ≤ 3) ∨ (4 ≤ y ∧ y ≤ 4) ∨ (5 ≤ y ∧ y ≤ 5) ∨ (6 ≤ y ∧ y ≤ 6))) (R' := fun x y i => x = 13 ∧ (y = 0)) (XT_tr hA10 hX11) (fun x y => by first | omega | (dsimp only; omega)) (fun x y i => by first | omega | (dsimp only; omega))
  refine rX10_31 hC hIn ((hA11.1 _ _).mpr (Or.inl hm)) (hA11.2.1 _ _ hm).symm dX10_init_57 (fun w12 hX12 hP12 => ?_)
  have hp12 : PT w12 13 0 12 13 6 := by
    unfold PT
    rw [hP12, hX12.2.1 _ _ ((hA11.1 _ _).mpr (Or.inr (by first | omega | (dsimp only; omega))))]
  have hA12 := XT_mono (S' := fun x y => x = 13 ∧ ((1 ≤ y ∧ y ≤ 1) ∨ (2 ≤ y ∧ y ≤ 2) ∨ (3 ≤ y ∧ y ≤ 3) ∨ (4 ≤ y ∧ y ≤ 4) ∨ (5 ≤ y ∧ y ≤ 5) ∨ (6 ≤ y ∧ y ≤ 6))) (R' := fun x y i => x = 13 ∧ (y = 0)) (XT_tr hA11 hX12) (fun x y => by first | omega | (dsimp only; omega)) (fun x y i => by first | omega | (dsimp only; omega))
  refine J_aload_n hC dX10_init_60 rfl rfl ?_
  refine J_bipush (v := nI 60) hC dX10_init_61 (by decide) ?_
  refine J_newA_int hC (o := 13) (c := 7) (n := 60) (fun g => ((hA12.1 _ _).mp g).elim (hf 7 (by omega) (by omega)) (fun q => by first | omega | (dsimp only at q; omega))) rfl rfl (by decide) (fun j => hz 7 j (by omega) (by omega)) ⟨by decide, by decide⟩ dX10_init_63 (fun w13 hX13 => ?_)
  have hA13 := XT_mono (S' := fun x y => x = 13 ∧ ((1 ≤ y ∧ y ≤ 1) ∨ (2 ≤ y ∧ y ≤ 2) ∨ (3 ≤ y ∧ y ≤ 3) ∨ (4 ≤ y ∧ y ≤ 4) ∨ (5 ≤ y ∧ y ≤ 5) ∨ (6 ≤ y ∧ y ≤ 6) ∨ (7 ≤ y ∧ y ≤ 7))) (R' := fun x y i => x = 13 ∧ (y = 0)) (XT_tr hA12 hX13) (fun x y => by first | omega | (dsimp only; omega)) (fun x y i => by first | omega | (dsimp only; omega))
  refine rX10_34 hC hIn ((hA13.1 _ _).mpr (Or.inl hm)) (hA13.2.1 _ _ hm).symm dX10_init_65 (fun w14 hX14 hP14 => ?_)
  have hp14 : PT w14 13 0 13 13 7 := by
    unfold PT
    rw [hP14, hX14.2.1 _ _ ((hA13.1 _ _).mpr (Or.inr (by first | omega | (dsimp only; omega))))]
  have hA14 := XT_mono (S' := fun x y => x = 13 ∧ ((1 ≤ y ∧ y ≤ 1) ∨ (2 ≤ y ∧ y ≤ 2) ∨ (3 ≤ y ∧ y ≤ 3) ∨ (4 ≤ y ∧ y ≤ 4) ∨ (5 ≤ y ∧ y ≤ 5) ∨ (6 ≤ y ∧ y ≤ 6) ∨ (7 ≤ y ∧ y ≤ 7))) (R' := fun x y i => x = 13 ∧ (y = 0)) (XT_tr hA13 hX14) (fun x y => by first | omega | (dsimp only; omega)) (fun x y i => by first | omega | (dsimp only; omega))
  refine J_aload_n hC dX10_init_68 rfl rfl ?_
  refine J_bipush (v := nI 16) hC dX10_init_69 (by decide) ?_
  refine J_newA_boolean hC (o := 13) (c := 8) (n := 16) (fun g => ((hA14.1 _ _).mp g).elim (hf 8 (by omega) (by omega)) (fun q => by first | omega | (dsimp only at q; omega))) rfl rfl (by decide) (fun j => hz 8 j (by omega) (by omega)) ⟨by decide, by decide⟩ dX10_init_71 (fun w15 hX15 => ?_)
  have hA15 := XT_mono (S' := fun x y => x = 13 ∧ ((1 ≤ y ∧ y ≤ 1) ∨ (2 ≤ y ∧ y ≤ 2) ∨ (3 ≤ y ∧ y ≤ 3) ∨ (4 ≤ y ∧ y ≤ 4) ∨ (5 ≤ y ∧ y ≤ 5) ∨ (6 ≤ y ∧ y ≤ 6) ∨ (7 ≤ y ∧ y ≤ 7) ∨ (8 ≤ y ∧ y ≤ 8))) (R' := fun x y i => x = 13 ∧ (y = 0)) (XT_tr hA14 hX15) (fun x y => by first | omega | (dsimp only; omega)) (fun x y i => by first | omega | (dsimp only; omega))
  refine rX10_37 hC hIn ((hA15.1 _ _).mpr (Or.inl hm)) (hA15.2.1 _ _ hm).symm dX10_init_73 (fun w16 hX16 hP16 => ?_)
  have hp16 : PT w16 13 0 15 13 8 := by
    unfold PT
    rw [hP16, hX16.2.1 _ _ ((hA15.1 _ _).mpr (Or.inr (by first | omega | (dsimp only; omega))))]
  have hA16 := XT_mono (S' := fun x y => x = 13 ∧ ((1 ≤ y ∧ y ≤ 1) ∨ (2 ≤ y ∧ y ≤ 2) ∨ (3 ≤ y ∧ y ≤ 3) ∨ (4 ≤ y ∧ y ≤ 4) ∨ (5 ≤ y ∧ y ≤ 5) ∨ (6 ≤ y ∧ y ≤ 6) ∨ (7 ≤ y ∧ y ≤ 7) ∨ (8 ≤ y ∧ y ≤ 8))) (R' := fun x y i => x = 13 ∧ (y = 0)) (XT_tr hA15 hX16) (fun x y => by first | omega | (dsimp only; omega)) (fun x y i => by first | omega | (dsimp only; omega))
  have hb : w.2.1 13 0 = w16.2.1 13 0 := (hA16.2.1 _ _ hm).symm
  rw [hb]
  have hL : LM9 w16 := by
    refine ⟨fun c hc => ?_, fun j t h => ?_⟩
    · by_cases hc0 : c = 0
      · subst hc0
        exact (hA16.1 _ _).mpr (Or.inl hm)
      · exact (hA16.1 _ _).mpr (Or.inr (by first | omega | (dsimp only; omega)))
    · unfold tgM at h
      split at h
      · cases h; exact (PT_keep (PT_keep (PT_keep (PT_keep (PT_keep (PT_keep (PT_keep (PT_keep (PT_keep (PT_keep (PT_keep (PT_keep (PT_keep (PT_keep hp2 hX3 (by first | omega | (dsimp only; omega)) ((hA2.1 _ _).mpr (Or.inr (by first | omega | (dsimp only; omega))))) hX4 (by first | omega | (dsimp only; omega)) ((hA3.1 _ _).mpr (Or.inr (by first | omega | (dsimp only; omega))))) hX5 (by first | omega | (dsimp only; omega)) ((hA4.1 _ _).mpr (Or.inr (by first | omega | (dsimp only; omega))))) hX6 (by first | omega | (dsimp only; omega)) ((hA5.1 _ _).mpr (Or.inr (by first | omega | (dsimp only; omega))))) hX7 (by first | omega | (dsimp only; omega)) ((hA6.1 _ _).mpr (Or.inr (by first | omega | (dsimp only; omega))))) hX8 (by first | omega | (dsimp only; omega)) ((hA7.1 _ _).mpr (Or.inr (by first | omega | (dsimp only; omega))))) hX9 (by first | omega | (dsimp only; omega)) ((hA8.1 _ _).mpr (Or.inr (by first | omega | (dsimp only; omega))))) hX10 (by first | omega | (dsimp only; omega)) ((hA9.1 _ _).mpr (Or.inr (by first | omega | (dsimp only; omega))))) hX11 (by first | omega | (dsimp only; omega)) ((hA10.1 _ _).mpr (Or.inr (by first | omega | (dsimp only; omega))))) hX12 (by first | omega | (dsimp only; omega)) ((hA11.1 _ _).mpr (Or.inr (by first | omega | (dsimp only; omega))))) hX13 (by first | omega | (dsimp only; omega)) ((hA12.1 _ _).mpr (Or.inr (by first | omega | (dsimp only; omega))))) hX14 (by first | omega | (dsimp only; omega)) ((hA13.1 _ _).mpr (Or.inr (by first | omega | (dsimp only; omega))))) hX15 (by first | omega | (dsimp only; omega)) ((hA14.1 _ _).mpr (Or.inr (by first | omega | (dsimp only; omega))))) hX16 (by first | omega | (dsimp only; omega)) ((hA15.1 _ _).mpr (Or.inr (by first | omega | (dsimp only; omega)))))
      · cases h; exact (PT_keep (PT_keep (PT_keep (PT_keep (PT_keep (PT_keep (PT_keep (PT_keep (PT_keep (PT_keep (PT_keep (PT_keep hp4 hX5 (by first | omega | (dsimp only; omega)) ((hA4.1 _ _).mpr (Or.inr (by first | omega | (dsimp only; omega))))) hX6 (by first | omega | (dsimp only; omega)) ((hA5.1 _ _).mpr (Or.inr (by first | omega | (dsimp only; omega))))) hX7 (by first | omega | (dsimp only; omega)) ((hA6.1 _ _).mpr (Or.inr (by first | omega | (dsimp only; omega))))) hX8 (by first | omega | (dsimp only; omega)) ((hA7.1 _ _).mpr (Or.inr (by first | omega | (dsimp only; omega))))) hX9 (by first | omega | (dsimp only; omega)) ((hA8.1 _ _).mpr (Or.inr (by first | omega | (dsimp only; omega))))) hX10 (by first | omega | (dsimp only; omega)) ((hA9.1 _ _).mpr (Or.inr (by first | omega | (dsimp only; omega))))) hX11 (by first | omega | (dsimp only; omega)) ((hA10.1 _ _).mpr (Or.inr (by first | omega | (dsimp only; omega))))) hX12 (by first | omega | (dsimp only; omega)) ((hA11.1 _ _).mpr (Or.inr (by first | omega | (dsimp only; omega))))) hX13 (by first | omega | (dsimp only; omega)) ((hA12.1 _ _).mpr (Or.inr (by first | omega | (dsimp only; omega))))) hX14 (by first | omega | (dsimp only; omega)) ((hA13.1 _ _).mpr (Or.inr (by first | omega | (dsimp only; omega))))) hX15 (by first | omega | (dsimp only; omega)) ((hA14.1 _ _).mpr (Or.inr (by first | omega | (dsimp only; omega))))) hX16 (by first | omega | (dsimp only; omega)) ((hA15.1 _ _).mpr (Or.inr (by first | omega | (dsimp only; omega)))))
      · cases h; exact (PT_keep (PT_keep (PT_keep (PT_keep (PT_keep (PT_keep (PT_keep (PT_keep (PT_keep (PT_keep hp6 hX7 (by first | omega | (dsimp only; omega)) ((hA6.1 _ _).mpr (Or.inr (by first | omega | (dsimp only; omega))))) hX8 (by first | omega | (dsimp only; omega)) ((hA7.1 _ _).mpr (Or.inr (by first | omega | (dsimp only; omega))))) hX9 (by first | omega | (dsimp only; omega)) ((hA8.1 _ _).mpr (Or.inr (by first | omega | (dsimp only; omega))))) hX10 (by first | omega | (dsimp only; omega)) ((hA9.1 _ _).mpr (Or.inr (by first | omega | (dsimp only; omega))))) hX11 (by first | omega | (dsimp only; omega)) ((hA10.1 _ _).mpr (Or.inr (by first | omega | (dsimp only; omega))))) hX12 (by first | omega | (dsimp only; omega)) ((hA11.1 _ _).mpr (Or.inr (by first | omega | (dsimp only; omega))))) hX13 (by first | omega | (dsimp only; omega)) ((hA12.1 _ _).mpr (Or.inr (by first | omega | (dsimp only; omega))))) hX14 (by first | omega | (dsimp only; omega)) ((hA13.1 _ _).mpr (Or.inr (by first | omega | (dsimp only; omega))))) hX15 (by first | omega | (dsimp only; omega)) ((hA14.1 _ _).mpr (Or.inr (by first | omega | (dsimp only; omega))))) hX16 (by first | omega | (dsimp only; omega)) ((hA15.1 _ _).mpr (Or.inr (by first | omega | (dsimp only; omega)))))
      · cases h; exact (PT_keep (PT_keep (PT_keep (PT_keep (PT_keep (PT_keep (PT_keep (PT_keep hp8 hX9 (by first | omega | (dsimp only; omega)) ((hA8.1 _ _).mpr (Or.inr (by first | omega | (dsimp only; omega))))) hX10 (by first | omega | (dsimp only; omega)) ((hA9.1 _ _).mpr (Or.inr (by first | omega | (dsimp only; omega))))) hX11 (by first | omega | (dsimp only; omega)) ((hA10.1 _ _).mpr (Or.inr (by first | omega | (dsimp only; omega))))) hX12 (by first | omega | (dsimp only; omega)) ((hA11.1 _ _).mpr (Or.inr (by first | omega | (dsimp only; omega))))) hX13 (by first | omega | (dsimp only; omega)) ((hA12.1 _ _).mpr (Or.inr (by first | omega | (dsimp only; omega))))) hX14 (by first | omega | (dsimp only; omega)) ((hA13.1 _ _).mpr (Or.inr (by first | omega | (dsimp only; omega))))) hX15 (by first | omega | (dsimp only; omega)) ((hA14.1 _ _).mpr (Or.inr (by first | omega | (dsimp only; omega))))) hX16 (by first | omega | (dsimp only; omega)) ((hA15.1 _ _).mpr (Or.inr (by first | omega | (dsimp only; omega)))))
      · cases h; exact (PT_keep (PT_keep (PT_keep (PT_keep (PT_keep (PT_keep hp10 hX11 (by first | omega | (dsimp only; omega)) ((hA10.1 _ _).mpr (Or.inr (by first | omega | (dsimp only; omega))))) hX12 (by first | omega | (dsimp only; omega)) ((hA11.1 _ _).mpr (Or.inr (by first | omega | (dsimp only; omega))))) hX13 (by first | omega | (dsimp only; omega)) ((hA12.1 _ _).mpr (Or.inr (by first | omega | (dsimp only; omega))))) hX14 (by first | omega | (dsimp only; omega)) ((hA13.1 _ _).mpr (Or.inr (by first | omega | (dsimp only; omega))))) hX15 (by first | omega | (dsimp only; omega)) ((hA14.1 _ _).mpr (Or.inr (by first | omega | (dsimp only; omega))))) hX16 (by first | omega | (dsimp only; omega)) ((hA15.1 _ _).mpr (Or.inr (by first | omega | (dsimp only; omega)))))
      · cases h; exact (PT_keep (PT_keep (PT_keep (PT_keep hp12 hX13 (by first | omega | (dsimp only; omega)) ((hA12.1 _ _).mpr (Or.inr (by first | omega | (dsimp only; omega))))) hX14 (by first | omega | (dsimp only; omega)) ((hA13.1 _ _).mpr (Or.inr (by first | omega | (dsimp only; omega))))) hX15 (by first | omega | (dsimp only; omega)) ((hA14.1 _ _).mpr (Or.inr (by first | omega | (dsimp only; omega))))) hX16 (by first | omega | (dsimp only; omega)) ((hA15.1 _ _).mpr (Or.inr (by first | omega | (dsimp only; omega)))))
      · cases h; exact (PT_keep (PT_keep hp14 hX15 (by first | omega | (dsimp only; omega)) ((hA14.1 _ _).mpr (Or.inr (by first | omega | (dsimp only; omega))))) hX16 (by first | omega | (dsimp only; omega)) ((hA15.1 _ _).mpr (Or.inr (by first | omega | (dsimp only; omega)))))
      · cases h; exact hp16
      · cases h
  refine J_aload_n hC dX10_init_76 rfl rfl ?_
  refine i9X10_40 hC hL rfl ⟨by decide, by decide⟩ ⟨by decide, by decide⟩ (Nat.le_of_ble_eq_true rfl) dX10_init_77 ?_
  refine c9_X10_clear hL ?_
  dsimp only [Option.toList_none, Option.toList_some, List.cons_append, List.nil_append]
  show J G E _ _ _ _ _ _ mO2
  refine J_aload_n hC dX10_init_80 rfl rfl ?_
  refine J_bipush (v := nI 40) hC dX10_init_81 (by decide) ?_
  refine J_bipush (v := nI 30) hC dX10_init_83 (by decide) ?_
  refine J_iconst (v := nI 2) hC dX10_init_85 (by decide) ?_
  refine J_bipush (v := nI 10) hC dX10_init_86 (by decide) ?_
  refine i9X10_43 hC hL rfl ⟨by decide, by decide⟩ ⟨by decide, by decide⟩ (Nat.le_of_ble_eq_true rfl) dX10_init_88 ?_
  refine c9_X10_field hL ?_
  dsimp only [Option.toList_none, Option.toList_some, List.cons_append, List.nil_append]
  show J G E _ _ _ _ _ _ mO3
  refine J_aload_n hC dX10_init_91 rfl rfl ?_
  refine i9X10_47 hC hL rfl ⟨by decide, by decide⟩ ⟨by decide, by decide⟩ (Nat.le_of_ble_eq_true rfl) dX10_init_92 ?_
  refine c9_X10_zone hL (by decide +kernel) (by decide +kernel) ?_
  dsimp only [Option.toList_none, Option.toList_some, List.cons_append, List.nil_append]
  show J G E _ _ _ _ _ _ mO4
  refine J_aload_n hC dX10_init_95 rfl rfl ?_
  refine J_iconst (v := nI 2) hC dX10_init_96 (by decide) ?_
  refine J_iconst (v := nI 3) hC dX10_init_97 (by decide) ?_
  refine i9X10_50 hC hL rfl ⟨by decide, by decide⟩ ⟨by decide, by decide⟩ (Nat.le_of_ble_eq_true rfl) dX10_init_98 ?_
  refine c9_X10_wind hL (by decide +kernel) (by decide +kernel) (by decide +kernel) (by decide +kernel) ?_
  dsimp only [Option.toList_none, Option.toList_some, List.cons_append, List.nil_append]
  show J G E _ _ _ _ _ _ mO5
  refine J_aload_n hC dX10_init_101 rfl rfl ?_
  refine J_iconst (v := nI 0) hC dX10_init_102 (by decide) ?_
  refine J_iconst (v := nI 5) hC dX10_init_103 (by decide) ?_
  refine i9X10_50 hC hL rfl ⟨by decide, by decide⟩ ⟨by decide, by decide⟩ (Nat.le_of_ble_eq_true rfl) dX10_init_104 ?_
  refine c9_X10_wind hL (by decide +kernel) (by decide +kernel) (by decide +kernel) (by decide +kernel) ?_
  dsimp only [Option.toList_none, Option.toList_some, List.cons_append, List.nil_append]
  show J G E _ _ _ _ _ _ mO6
  refine J_aload_n hC dX10_init_107 rfl rfl ?_
  refine i9X10_47 hC hL rfl ⟨by decide, by decide⟩ ⟨by decide, by decide⟩ (Nat.le_of_ble_eq_true rfl) dX10_init_108 ?_
  refine c9_X10_zone hL (by decide +kernel) (by decide +kernel) ?_
  dsimp only [Option.toList_none, Option.toList_some, List.cons_append, List.nil_append]
  show J G E _ _ _ _ _ _ mO7
  refine J_aload_n hC dX10_init_111 rfl rfl ?_
  refine J_bipush (v := nI 6) hC dX10_init_112 (by decide) ?_
  refine J_iconst (v := nI 4) hC dX10_init_114 (by decide) ?_
  refine i9X10_50 hC hL rfl ⟨by decide, by decide⟩ ⟨by decide, by decide⟩ (Nat.le_of_ble_eq_true rfl) dX10_init_115 ?_
  refine c9_X10_wind hL (by decide +kernel) (by decide +kernel) (by decide +kernel) (by decide +kernel) ?_
  dsimp only [Option.toList_none, Option.toList_some, List.cons_append, List.nil_append]
  show J G E _ _ _ _ _ _ mO8
  refine J_aload_n hC dX10_init_118 rfl rfl ?_
  refine J_iconst (v := nI 2) hC dX10_init_119 (by decide) ?_
  refine i9X10_54 hC hL rfl ⟨by decide, by decide⟩ ⟨by decide, by decide⟩ (Nat.le_of_ble_eq_true rfl) dX10_init_120 ?_
  refine c9_X10_colour hL (by decide +kernel) (by decide +kernel) ?_
  dsimp only [Option.toList_none, Option.toList_some, List.cons_append, List.nil_append]
  show J G E _ _ _ _ _ _ mO9
  refine J_aload_n hC dX10_init_123 rfl rfl ?_
  refine J_iconst (v := nI 1) hC dX10_init_124 (by decide) ?_
  refine i9X10_54 hC hL rfl ⟨by decide, by decide⟩ ⟨by decide, by decide⟩ (Nat.le_of_ble_eq_true rfl) dX10_init_125 ?_
  refine c9_X10_colour hL (by decide +kernel) (by decide +kernel) ?_
  dsimp only [Option.toList_none, Option.toList_some, List.cons_append, List.nil_append]
  show J G E _ _ _ _ _ _ mO10
  refine J_aload_n hC dX10_init_128 rfl rfl ?_
  refine J_iconst (v := nI 5) hC dX10_init_129 (by decide) ?_
  refine J_bipush (v := nI 10) hC dX10_init_130 (by decide) ?_
  refine J_bipush (v := nI 10) hC dX10_init_132 (by decide) ?_
  refine J_iconst (v := nI 0) hC dX10_init_134 (by decide) ?_
  refine J_iconst (v := nI 0) hC dX10_init_135 (by decide) ?_
  refine J_bipush (v := nI 50) hC dX10_init_136 (by decide) ?_
  refine i9X10_58 hC hL rfl ⟨by decide, by decide⟩ ⟨by decide, by decide⟩ (Nat.le_of_ble_eq_true rfl) dX10_init_138 ?_
  refine c9_X10_kite hL (by decide +kernel) (by decide +kernel) ?_
  dsimp only [Option.toList_none, Option.toList_some, List.cons_append, List.nil_append]
  show J G E _ _ _ _ _ _ mO11
  refine J_pop hC dX10_init_141 rfl ?_
  refine J_aload_n hC dX10_init_142 rfl rfl ?_
  refine J_bipush (v := nI 15) hC dX10_init_143 (by decide) ?_
  refine J_bipush (v := nI 8) hC dX10_init_145 (by decide) ?_
  refine J_bipush (v := nI 10) hC dX10_init_147 (by decide) ?_
  refine J_iconst (v := nI 0) hC dX10_init_149 (by decide) ?_
  refine J_iconst (v := nI 1) hC dX10_init_150 (by decide) ?_
  refine J_bipush (v := nI 40) hC dX10_init_151 (by decide) ?_
  refine i9X10_58 hC hL rfl ⟨by decide, by decide⟩ ⟨by decide, by decide⟩ (Nat.le_of_ble_eq_true rfl) dX10_init_153 ?_
  refine c9_X10_kite hL (by decide +kernel) (by decide +kernel) ?_
  dsimp only [Option.toList_none, Option.toList_some, List.cons_append, List.nil_append]
  show J G E _ _ _ _ _ _ mO12
  refine J_pop hC dX10_init_156 rfl ?_
  refine J_aload_n hC dX10_init_157 rfl rfl ?_
  refine J_bipush (v := nI 34) hC dX10_init_158 (by decide) ?_
  refine J_bipush (v := nI 10) hC dX10_init_160 (by decide) ?_
  refine J_bipush (v := nI 15) hC dX10_init_162 (by decide) ?_
  refine J_iconst (v := nI 1) hC dX10_init_164 (by decide) ?_
  refine J_iconst (v := nI 1) hC dX10_init_165 (by decide) ?_
  refine J_bipush (v := nI 30) hC dX10_init_166 (by decide) ?_
  refine i9X10_58 hC hL rfl ⟨by decide, by decide⟩ ⟨by decide, by decide⟩ (Nat.le_of_ble_eq_true rfl) dX10_init_168 ?_
  refine c9_X10_kite hL (by decide +kernel) (by decide +kernel) ?_
  dsimp only [Option.toList_none, Option.toList_some, List.cons_append, List.nil_append]
  show J G E _ _ _ _ _ _ mO13
  refine J_pop hC dX10_init_171 rfl ?_
  refine J_aload_n hC dX10_init_172 rfl rfl ?_
  refine J_bipush (v := nI 22) hC dX10_init_173 (by decide) ?_
  refine J_bipush (v := nI 10) hC dX10_init_175 (by decide) ?_
  refine J_bipush (v := nI 20) hC dX10_init_177 (by decide) ?_
  refine J_iconst (v := nI 0) hC dX10_init_179 (by decide) ?_
  refine J_iconst (v := nI 0) hC dX10_init_180 (by decide) ?_
  refine J_iconst (v := nI 0) hC dX10_init_181 (by decide) ?_
  refine i9X10_58 hC hL rfl ⟨by decide, by decide⟩ ⟨by decide, by decide⟩ (Nat.le_of_ble_eq_true rfl) dX10_init_182 ?_
  refine c9_X10_kite hL (by decide +kernel) (by decide +kernel) ?_
  dsimp only [Option.toList_none, Option.toList_some, List.cons_append, List.nil_append]
  show J G E _ _ _ _ _ _ mO14
  refine J_pop hC dX10_init_185 rfl ?_
  exact J_return hC hR dX10_init_186 (by decide) (by decide) (hq _ (XT_mono hA16 (fun x y => by first | omega | (dsimp only; omega)) (fun x y i => by first | omega | (dsimp only; omega))) hL)
