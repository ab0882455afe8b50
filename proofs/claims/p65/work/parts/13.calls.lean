/-! ===== rooms; contracts under their names; rows of the calls ===== -/
abbrev rmX0_init : Room := { frames := 1, cells := 0, slots := 0, locals := 20 }
abbrev MX0_init (G : GC) (w : Lay) (σ : Mem) (As : List Value) (Q : Lay → Option Value → Mem → Prop) (Qx : Lay → String → Mem → Prop) : Prop := MT G yX0_init (cw yX0_init cX0_init 1 (none)) rmX0_init 0 0 w σ As Q Qx
theorem mdX0_init : yX0_init.cls = "KitePermits$Field" ∧ yX0_init.cls ≠ "java/lang/invoke/MethodHandle" ∧ yX0_init.cls ≠ "java/lang/invoke/VarHandle" ∧ (parseMethodDescriptor yX0_init.desc).map (fun d => d.parameters.length) = some 0 := by decide +kernel
abbrev rmX0_copyFrom : Room := { frames := 1, cells := 0, slots := 0, locals := 48 }
abbrev MX0_copyFrom (G : GC) (w : Lay) (σ : Mem) (As : List Value) (Q : Lay → Option Value → Mem → Prop) (Qx : Lay → String → Mem → Prop) : Prop := MT G yX0_copyFrom (cw yX0_copyFrom cX0_copyFrom 2 (none)) rmX0_copyFrom 0 0 w σ As Q Qx
theorem mdX0_copyFrom : yX0_copyFrom.cls = "KitePermits$Field" ∧ yX0_copyFrom.cls ≠ "java/lang/invoke/MethodHandle" ∧ yX0_copyFrom.cls ≠ "java/lang/invoke/VarHandle" ∧ (parseMethodDescriptor yX0_copyFrom.desc).map (fun d => d.parameters.length) = some 1 := by decide +kernel
abbrev rmX0_openZone : Room := { frames := 0, cells := 0, slots := 0, locals := 0 }
abbrev MX0_openZone (G : GC) (w : Lay) (σ : Mem) (As : List Value) (Q : Lay → Option Value → Mem → Prop) (Qx : Lay → String → Mem → Prop) : Prop := MT G yX0_openZone (cw yX0_openZone cX0_openZone 1 (none)) rmX0_openZone 0 0 w σ As Q Qx
theorem mdX0_openZone : yX0_openZone.cls = "KitePermits$Field" ∧ yX0_openZone.cls ≠ "java/lang/invoke/MethodHandle" ∧ yX0_openZone.cls ≠ "java/lang/invoke/VarHandle" ∧ (parseMethodDescriptor yX0_openZone.desc).map (fun d => d.parameters.length) = some 0 := by decide +kernel
abbrev rmX0_addWind : Room := { frames := 0, cells := 0, slots := 0, locals := 0 }
abbrev MX0_addWind (G : GC) (w : Lay) (σ : Mem) (As : List Value) (Q : Lay → Option Value → Mem → Prop) (Qx : Lay → String → Mem → Prop) : Prop := MT G yX0_addWind (cw yX0_addWind cX0_addWind 5 (none)) rmX0_addWind 0 0 w σ As Q Qx
theorem mdX0_addWind : yX0_addWind.cls = "KitePermits$Field" ∧ yX0_addWind.cls ≠ "java/lang/invoke/MethodHandle" ∧ yX0_addWind.cls ≠ "java/lang/invoke/VarHandle" ∧ (parseMethodDescriptor yX0_addWind.desc).map (fun d => d.parameters.length) = some 2 := by decide +kernel
abbrev rmX0_addColour : Room := { frames := 0, cells := 0, slots := 0, locals := 0 }
abbrev MX0_addColour (G : GC) (w : Lay) (σ : Mem) (As : List Value) (Q : Lay → Option Value → Mem → Prop) (Qx : Lay → String → Mem → Prop) : Prop := MT G yX0_addColour (cw yX0_addColour cX0_addColour 2 (none)) rmX0_addColour 0 0 w σ As Q Qx
theorem mdX0_addColour : yX0_addColour.cls = "KitePermits$Field" ∧ yX0_addColour.cls ≠ "java/lang/invoke/MethodHandle" ∧ yX0_addColour.cls ≠ "java/lang/invoke/VarHandle" ∧ (parseMethodDescriptor yX0_addColour.desc).map (fun d => d.parameters.length) = some 1 := by decide +kernel
abbrev rmX0_zoneAt : Room := { frames := 0, cells := 0, slots := 0, locals := 0 }
abbrev MX0_zoneAt (G : GC) (w : Lay) (σ : Mem) (As : List Value) (Q : Lay → Option Value → Mem → Prop) (Qx : Lay → String → Mem → Prop) : Prop := MT G yX0_zoneAt (cw yX0_zoneAt cX0_zoneAt 2 (some .int)) rmX0_zoneAt 0 0 w σ As Q Qx
theorem mdX0_zoneAt : yX0_zoneAt.cls = "KitePermits$Field" ∧ yX0_zoneAt.cls ≠ "java/lang/invoke/MethodHandle" ∧ yX0_zoneAt.cls ≠ "java/lang/invoke/VarHandle" ∧ (parseMethodDescriptor yX0_zoneAt.desc).map (fun d => d.parameters.length) = some 1 := by decide +kernel
abbrev rmX0_windIndex : Room := { frames := 0, cells := 0, slots := 0, locals := 0 }
abbrev MX0_windIndex (G : GC) (w : Lay) (σ : Mem) (As : List Value) (Q : Lay → Option Value → Mem → Prop) (Qx : Lay → String → Mem → Prop) : Prop := MT G yX0_windIndex (cw yX0_windIndex cX0_windIndex 4 (some .int)) rmX0_windIndex 0 0 w σ As Q Qx
theorem mdX0_windIndex : yX0_windIndex.cls = "KitePermits$Field" ∧ yX0_windIndex.cls ≠ "java/lang/invoke/MethodHandle" ∧ yX0_windIndex.cls ≠ "java/lang/invoke/VarHandle" ∧ (parseMethodDescriptor yX0_windIndex.desc).map (fun d => d.parameters.length) = some 2 := by decide +kernel
abbrev rmX0_contains : Room := { frames := 0, cells := 0, slots := 0, locals := 0 }
abbrev MX0_contains (G : GC) (w : Lay) (σ : Mem) (As : List Value) (Q : Lay → Option Value → Mem → Prop) (Qx : Lay → String → Mem → Prop) : Prop := MT G yX0_contains (cw yX0_contains cX0_contains 3 (some .boolean)) rmX0_contains 0 0 w σ As Q Qx
theorem mdX0_contains : yX0_contains.cls = "KitePermits$Field" ∧ yX0_contains.cls ≠ "java/lang/invoke/MethodHandle" ∧ yX0_contains.cls ≠ "java/lang/invoke/VarHandle" ∧ (parseMethodDescriptor yX0_contains.desc).map (fun d => d.parameters.length) = some 2 := by decide +kernel
abbrev rmX1_init : Room := { frames := 1, cells := 0, slots := 0, locals := 20 }
abbrev MX1_init (G : GC) (w : Lay) (σ : Mem) (As : List Value) (Q : Lay → Option Value → Mem → Prop) (Qx : Lay → String → Mem → Prop) : Prop := MT G yX1_init (cw yX1_init cX1_init 1 (none)) rmX1_init 0 0 w σ As Q Qx
theorem mdX1_init : yX1_init.cls = "KitePermits$Fleet" ∧ yX1_init.cls ≠ "java/lang/invoke/MethodHandle" ∧ yX1_init.cls ≠ "java/lang/invoke/VarHandle" ∧ (parseMethodDescriptor yX1_init.desc).map (fun d => d.parameters.length) = some 0 := by decide +kernel
abbrev rmX1_copyFrom : Room := { frames := 1, cells := 0, slots := 0, locals := 48 }
abbrev MX1_copyFrom (G : GC) (w : Lay) (σ : Mem) (As : List Value) (Q : Lay → Option Value → Mem → Prop) (Qx : Lay → String → Mem → Prop) : Prop := MT G yX1_copyFrom (cw yX1_copyFrom cX1_copyFrom 2 (none)) rmX1_copyFrom 0 0 w σ As Q Qx
theorem mdX1_copyFrom : yX1_copyFrom.cls = "KitePermits$Fleet" ∧ yX1_copyFrom.cls ≠ "java/lang/invoke/MethodHandle" ∧ yX1_copyFrom.cls ≠ "java/lang/invoke/VarHandle" ∧ (parseMethodDescriptor yX1_copyFrom.desc).map (fun d => d.parameters.length) = some 1 := by decide +kernel
abbrev rmX1_countInState : Room := { frames := 0, cells := 0, slots := 0, locals := 0 }
abbrev MX1_countInState (G : GC) (w : Lay) (σ : Mem) (As : List Value) (Q : Lay → Option Value → Mem → Prop) (Qx : Lay → String → Mem → Prop) : Prop := MT G yX1_countInState (cw yX1_countInState cX1_countInState 4 (some .int)) rmX1_countInState 0 0 w σ As Q Qx
theorem mdX1_countInState : yX1_countInState.cls = "KitePermits$Fleet" ∧ yX1_countInState.cls ≠ "java/lang/invoke/MethodHandle" ∧ yX1_countInState.cls ≠ "java/lang/invoke/VarHandle" ∧ (parseMethodDescriptor yX1_countInState.desc).map (fun d => d.parameters.length) = some 1 := by decide +kernel
abbrev rmX1_pursesTogether : Room := { frames := 0, cells := 0, slots := 0, locals := 0 }
abbrev MX1_pursesTogether (G : GC) (w : Lay) (σ : Mem) (As : List Value) (Q : Lay → Option Value → Mem → Prop) (Qx : Lay → String → Mem → Prop) : Prop := MT G yX1_pursesTogether (cw yX1_pursesTogether cX1_pursesTogether 3 (some .int)) rmX1_pursesTogether 0 0 w σ As Q Qx
theorem mdX1_pursesTogether : yX1_pursesTogether.cls = "KitePermits$Fleet" ∧ yX1_pursesTogether.cls ≠ "java/lang/invoke/MethodHandle" ∧ yX1_pursesTogether.cls ≠ "java/lang/invoke/VarHandle" ∧ (parseMethodDescriptor yX1_pursesTogether.desc).map (fun d => d.parameters.length) = some 0 := by decide +kernel
abbrev rmX2_init : Room := { frames := 3, cells := 0, slots := 0, locals := 60 }
abbrev MX2_init (G : GC) (w : Lay) (σ : Mem) (As : List Value) (Q : Lay → Option Value → Mem → Prop) (Qx : Lay → String → Mem → Prop) : Prop := MT G yX2_init (cw yX2_init cX2_init 2 (none)) rmX2_init 0 0 w σ As Q Qx
theorem mdX2_init : yX2_init.cls = "KitePermits$History" ∧ yX2_init.cls ≠ "java/lang/invoke/MethodHandle" ∧ yX2_init.cls ≠ "java/lang/invoke/VarHandle" ∧ (parseMethodDescriptor yX2_init.desc).map (fun d => d.parameters.length) = some 0 := by decide +kernel
abbrev rmX2_remember : Room := { frames := 3, cells := 0, slots := 0, locals := 90 }
abbrev MX2_remember (G : GC) (w : Lay) (σ : Mem) (As : List Value) (Q : Lay → Option Value → Mem → Prop) (Qx : Lay → String → Mem → Prop) : Prop := MT G yX2_remember (cw yX2_remember cX2_remember 2 (none)) rmX2_remember 0 0 w σ As Q Qx
theorem mdX2_remember : yX2_remember.cls = "KitePermits$History" ∧ yX2_remember.cls ≠ "java/lang/invoke/MethodHandle" ∧ yX2_remember.cls ≠ "java/lang/invoke/VarHandle" ∧ (parseMethodDescriptor yX2_remember.desc).map (fun d => d.parameters.length) = some 1 := by decide +kernel
abbrev rmX2_bringBack : Room := { frames := 3, cells := 0, slots := 0, locals := 90 }
abbrev rmX3_init : Room := { frames := 1, cells := 0, slots := 0, locals := 20 }
abbrev MX3_init (G : GC) (w : Lay) (σ : Mem) (As : List Value) (Q : Lay → Option Value → Mem → Prop) (Qx : Lay → String → Mem → Prop) : Prop := MT G yX3_init (cw yX3_init cX3_init 1 (none)) rmX3_init 0 0 w σ As Q Qx
theorem mdX3_init : yX3_init.cls = "KitePermits$InputText" ∧ yX3_init.cls ≠ "java/lang/invoke/MethodHandle" ∧ yX3_init.cls ≠ "java/lang/invoke/VarHandle" ∧ (parseMethodDescriptor yX3_init.desc).map (fun d => d.parameters.length) = some 0 := by decide +kernel
abbrev rmX3_hasRoomForRow : Room := { frames := 0, cells := 0, slots := 0, locals := 0 }
abbrev rmX3_putFourBytes : Room := { frames := 0, cells := 0, slots := 0, locals := 0 }
abbrev rmX3_beginReading : Room := { frames := 3, cells := 0, slots := 0, locals := 61 }
abbrev rmX3_hasFault : Room := { frames := 0, cells := 0, slots := 0, locals := 0 }
abbrev rmX3_fail : Room := { frames := 0, cells := 0, slots := 0, locals := 0 }
abbrev rmX3_readToken : Room := { frames := 2, cells := 0, slots := 0, locals := 41 }
abbrev rmX3_readWord : Room := { frames := 1, cells := 0, slots := 0, locals := 20 }
abbrev rmX3_readNumber : Room := { frames := 1, cells := 0, slots := 0, locals := 21 }
abbrev rmX3_isLetter : Room := { frames := 0, cells := 0, slots := 0, locals := 0 }
abbrev rmX3_isDigit : Room := { frames := 0, cells := 0, slots := 0, locals := 0 }
abbrev rmX3_isAtEnd : Room := { frames := 1, cells := 0, slots := 0, locals := 20 }
abbrev rmX3_isAtNumber : Room := { frames := 1, cells := 0, slots := 0, locals := 20 }
abbrev rmX3_isAtWord : Room := { frames := 5, cells := 0, slots := 0, locals := 106 }
abbrev rmX3_takeWord : Room := { frames := 6, cells := 0, slots := 0, locals := 128 }
abbrev rmX3_takeSemicolon : Room := { frames := 3, cells := 0, slots := 0, locals := 61 }
abbrev rmX3_takeNumber : Room := { frames := 3, cells := 0, slots := 0, locals := 61 }
abbrev rmX3_takeEnd : Room := { frames := 2, cells := 0, slots := 0, locals := 40 }
abbrev rmX4_init : Room := { frames := 2, cells := 0, slots := 0, locals := 40 }
abbrev MX4_init (G : GC) (w : Lay) (σ : Mem) (As : List Value) (Q : Lay → Option Value → Mem → Prop) (Qx : Lay → String → Mem → Prop) : Prop := MT G yX4_init (cw yX4_init cX4_init 1 (none)) rmX4_init 0 0 w σ As Q Qx
theorem mdX4_init : yX4_init.cls = "KitePermits$Office" ∧ yX4_init.cls ≠ "java/lang/invoke/MethodHandle" ∧ yX4_init.cls ≠ "java/lang/invoke/VarHandle" ∧ (parseMethodDescriptor yX4_init.desc).map (fun d => d.parameters.length) = some 0 := by decide +kernel
abbrev rmX4_copyFrom : Room := { frames := 2, cells := 0, slots := 0, locals := 69 }
abbrev MX4_copyFrom (G : GC) (w : Lay) (σ : Mem) (As : List Value) (Q : Lay → Option Value → Mem → Prop) (Qx : Lay → String → Mem → Prop) : Prop := MT G yX4_copyFrom (cw yX4_copyFrom cX4_copyFrom 2 (none)) rmX4_copyFrom 0 0 w σ As Q Qx
theorem mdX4_copyFrom : yX4_copyFrom.cls = "KitePermits$Office" ∧ yX4_copyFrom.cls ≠ "java/lang/invoke/MethodHandle" ∧ yX4_copyFrom.cls ≠ "java/lang/invoke/VarHandle" ∧ (parseMethodDescriptor yX4_copyFrom.desc).map (fun d => d.parameters.length) = some 1 := by decide +kernel
abbrev rmX4_clear : Room := { frames := 0, cells := 0, slots := 0, locals := 0 }
abbrev rmX4_hasKite : Room := { frames := 0, cells := 0, slots := 0, locals := 0 }
abbrev MX4_hasKite (G : GC) (w : Lay) (σ : Mem) (As : List Value) (Q : Lay → Option Value → Mem → Prop) (Qx : Lay → String → Mem → Prop) : Prop := MT G yX4_hasKite (cw yX4_hasKite cX4_hasKite 2 (some .boolean)) rmX4_hasKite 0 0 w σ As Q Qx
theorem mdX4_hasKite : yX4_hasKite.cls = "KitePermits$Office" ∧ yX4_hasKite.cls ≠ "java/lang/invoke/MethodHandle" ∧ yX4_hasKite.cls ≠ "java/lang/invoke/VarHandle" ∧ (parseMethodDescriptor yX4_hasKite.desc).map (fun d => d.parameters.length) = some 1 := by decide +kernel
abbrev rmX4_enterKite : Room := { frames := 1, cells := 0, slots := 0, locals := 21 }
abbrev MX4_enterKite (G : GC) (w : Lay) (σ : Mem) (As : List Value) (Q : Lay → Option Value → Mem → Prop) (Qx : Lay → String → Mem → Prop) : Prop := MT G yX4_enterKite (cw yX4_enterKite cX4_enterKite 8 (some .int)) rmX4_enterKite 0 0 w σ As Q Qx
theorem mdX4_enterKite : yX4_enterKite.cls = "KitePermits$Office" ∧ yX4_enterKite.cls ≠ "java/lang/invoke/MethodHandle" ∧ yX4_enterKite.cls ≠ "java/lang/invoke/VarHandle" ∧ (parseMethodDescriptor yX4_enterKite.desc).map (fun d => d.parameters.length) = some 6 := by decide +kernel
abbrev rmX4_windAt : Room := { frames := 1, cells := 0, slots := 0, locals := 23 }
abbrev MX4_windAt (G : GC) (w : Lay) (σ : Mem) (As : List Value) (Q : Lay → Option Value → Mem → Prop) (Qx : Lay → String → Mem → Prop) : Prop := MT G yX4_windAt (cw yX4_windAt cX4_windAt 3 (some .int)) rmX4_windAt 0 0 w σ As Q Qx
theorem mdX4_windAt : yX4_windAt.cls = "KitePermits$Office" ∧ yX4_windAt.cls ≠ "java/lang/invoke/MethodHandle" ∧ yX4_windAt.cls ≠ "java/lang/invoke/VarHandle" ∧ (parseMethodDescriptor yX4_windAt.desc).map (fun d => d.parameters.length) = some 2 := by decide +kernel
abbrev rmX4_reachIn : Room := { frames := 1, cells := 0, slots := 0, locals := 21 }
abbrev MX4_reachIn (G : GC) (w : Lay) (σ : Mem) (As : List Value) (Q : Lay → Option Value → Mem → Prop) (Qx : Lay → String → Mem → Prop) : Prop := MT G yX4_reachIn (cw yX4_reachIn cX4_reachIn 5 (some .int)) rmX4_reachIn 0 0 w σ As Q Qx
theorem mdX4_reachIn : yX4_reachIn.cls = "KitePermits$Office" ∧ yX4_reachIn.cls ≠ "java/lang/invoke/MethodHandle" ∧ yX4_reachIn.cls ≠ "java/lang/invoke/VarHandle" ∧ (parseMethodDescriptor yX4_reachIn.desc).map (fun d => d.parameters.length) = some 3 := by decide +kernel
abbrev rmX4_endXIn : Room := { frames := 0, cells := 0, slots := 0, locals := 0 }
abbrev MX4_endXIn (G : GC) (w : Lay) (σ : Mem) (As : List Value) (Q : Lay → Option Value → Mem → Prop) (Qx : Lay → String → Mem → Prop) : Prop := MT G yX4_endXIn (cw yX4_endXIn cX4_endXIn 4 (some .int)) rmX4_endXIn 0 0 w σ As Q Qx
theorem mdX4_endXIn : yX4_endXIn.cls = "KitePermits$Office" ∧ yX4_endXIn.cls ≠ "java/lang/invoke/MethodHandle" ∧ yX4_endXIn.cls ≠ "java/lang/invoke/VarHandle" ∧ (parseMethodDescriptor yX4_endXIn.desc).map (fun d => d.parameters.length) = some 3 := by decide +kernel
abbrev rmX4_endYIn : Room := { frames := 0, cells := 0, slots := 0, locals := 0 }
abbrev MX4_endYIn (G : GC) (w : Lay) (σ : Mem) (As : List Value) (Q : Lay → Option Value → Mem → Prop) (Qx : Lay → String → Mem → Prop) : Prop := MT G yX4_endYIn (cw yX4_endYIn cX4_endYIn 4 (some .int)) rmX4_endYIn 0 0 w σ As Q Qx
theorem mdX4_endYIn : yX4_endYIn.cls = "KitePermits$Office" ∧ yX4_endYIn.cls ≠ "java/lang/invoke/MethodHandle" ∧ yX4_endYIn.cls ≠ "java/lang/invoke/VarHandle" ∧ (parseMethodDescriptor yX4_endYIn.desc).map (fun d => d.parameters.length) = some 3 := by decide +kernel
abbrev rmX4_fliesIn : Room := { frames := 1, cells := 0, slots := 0, locals := 23 }
abbrev MX4_fliesIn (G : GC) (w : Lay) (σ : Mem) (As : List Value) (Q : Lay → Option Value → Mem → Prop) (Qx : Lay → String → Mem → Prop) : Prop := MT G yX4_fliesIn (cw yX4_fliesIn cX4_fliesIn 4 (some .boolean)) rmX4_fliesIn 0 0 w σ As Q Qx
theorem mdX4_fliesIn : yX4_fliesIn.cls = "KitePermits$Office" ∧ yX4_fliesIn.cls ≠ "java/lang/invoke/MethodHandle" ∧ yX4_fliesIn.cls ≠ "java/lang/invoke/VarHandle" ∧ (parseMethodDescriptor yX4_fliesIn.desc).map (fun d => d.parameters.length) = some 3 := by decide +kernel
abbrev rmX4_reachAt : Room := { frames := 2, cells := 0, slots := 0, locals := 45 }
abbrev MX4_reachAt (G : GC) (w : Lay) (σ : Mem) (As : List Value) (Q : Lay → Option Value → Mem → Prop) (Qx : Lay → String → Mem → Prop) : Prop := MT G yX4_reachAt (cw yX4_reachAt cX4_reachAt 3 (some .int)) rmX4_reachAt 0 0 w σ As Q Qx
theorem mdX4_reachAt : yX4_reachAt.cls = "KitePermits$Office" ∧ yX4_reachAt.cls ≠ "java/lang/invoke/MethodHandle" ∧ yX4_reachAt.cls ≠ "java/lang/invoke/VarHandle" ∧ (parseMethodDescriptor yX4_reachAt.desc).map (fun d => d.parameters.length) = some 2 := by decide +kernel
abbrev rmX4_fliesAt : Room := { frames := 2, cells := 0, slots := 0, locals := 46 }
abbrev MX4_fliesAt (G : GC) (w : Lay) (σ : Mem) (As : List Value) (Q : Lay → Option Value → Mem → Prop) (Qx : Lay → String → Mem → Prop) : Prop := MT G yX4_fliesAt (cw yX4_fliesAt cX4_fliesAt 4 (some .boolean)) rmX4_fliesAt 0 0 w σ As Q Qx
theorem mdX4_fliesAt : yX4_fliesAt.cls = "KitePermits$Office" ∧ yX4_fliesAt.cls ≠ "java/lang/invoke/MethodHandle" ∧ yX4_fliesAt.cls ≠ "java/lang/invoke/VarHandle" ∧ (parseMethodDescriptor yX4_fliesAt.desc).map (fun d => d.parameters.length) = some 2 := by decide +kernel
abbrev rmX4_stringsCross : Room := { frames := 2, cells := 0, slots := 0, locals := 45 }
abbrev MX4_stringsCross (G : GC) (w : Lay) (σ : Mem) (As : List Value) (Q : Lay → Option Value → Mem → Prop) (Qx : Lay → String → Mem → Prop) : Prop := MT G yX4_stringsCross (cw yX4_stringsCross cX4_stringsCross 16 (some .boolean)) rmX4_stringsCross 0 0 w σ As Q Qx
theorem mdX4_stringsCross : yX4_stringsCross.cls = "KitePermits$Office" ∧ yX4_stringsCross.cls ≠ "java/lang/invoke/MethodHandle" ∧ yX4_stringsCross.cls ≠ "java/lang/invoke/VarHandle" ∧ (parseMethodDescriptor yX4_stringsCross.desc).map (fun d => d.parameters.length) = some 3 := by decide +kernel
abbrev rmX4_rangesMeet : Room := { frames := 1, cells := 0, slots := 0, locals := 21 }
abbrev MX4_rangesMeet (G : GC) (w : Lay) (σ : Mem) (As : List Value) (Q : Lay → Option Value → Mem → Prop) (Qx : Lay → String → Mem → Prop) : Prop := MT G yX4_rangesMeet (cw yX4_rangesMeet cX4_rangesMeet 4 (some .boolean)) rmX4_rangesMeet 0 0 w σ As Q Qx
theorem mdX4_rangesMeet : yX4_rangesMeet.cls = "KitePermits$Office" ∧ yX4_rangesMeet.cls ≠ "java/lang/invoke/MethodHandle" ∧ yX4_rangesMeet.cls ≠ "java/lang/invoke/VarHandle" ∧ (parseMethodDescriptor yX4_rangesMeet.desc).map (fun d => d.parameters.length) = some 4 := by decide +kernel
abbrev rmX4_sideOf : Room := { frames := 0, cells := 0, slots := 0, locals := 0 }
abbrev MX4_sideOf (G : GC) (w : Lay) (σ : Mem) (As : List Value) (Q : Lay → Option Value → Mem → Prop) (Qx : Lay → String → Mem → Prop) : Prop := MT G yX4_sideOf (cw yX4_sideOf cX4_sideOf 6 (some .int)) rmX4_sideOf 0 0 w σ As Q Qx
theorem mdX4_sideOf : yX4_sideOf.cls = "KitePermits$Office" ∧ yX4_sideOf.cls ≠ "java/lang/invoke/MethodHandle" ∧ yX4_sideOf.cls ≠ "java/lang/invoke/VarHandle" ∧ (parseMethodDescriptor yX4_sideOf.desc).map (fun d => d.parameters.length) = some 6 := by decide +kernel
abbrev rmX4_onOneSide : Room := { frames := 0, cells := 0, slots := 0, locals := 0 }
abbrev MX4_onOneSide (G : GC) (w : Lay) (σ : Mem) (As : List Value) (Q : Lay → Option Value → Mem → Prop) (Qx : Lay → String → Mem → Prop) : Prop := MT G yX4_onOneSide (cw yX4_onOneSide cX4_onOneSide 2 (some .boolean)) rmX4_onOneSide 0 0 w σ As Q Qx
theorem mdX4_onOneSide : yX4_onOneSide.cls = "KitePermits$Office" ∧ yX4_onOneSide.cls ≠ "java/lang/invoke/MethodHandle" ∧ yX4_onOneSide.cls ≠ "java/lang/invoke/VarHandle" ∧ (parseMethodDescriptor yX4_onOneSide.desc).map (fun d => d.parameters.length) = some 2 := by decide +kernel
abbrev rmX4_countCovering : Room := { frames := 2, cells := 0, slots := 0, locals := 43 }
abbrev MX4_countCovering (G : GC) (w : Lay) (σ : Mem) (As : List Value) (Q : Lay → Option Value → Mem → Prop) (Qx : Lay → String → Mem → Prop) : Prop := MT G yX4_countCovering (cw yX4_countCovering cX4_countCovering 5 (some .int)) rmX4_countCovering 0 0 w σ As Q Qx
theorem mdX4_countCovering : yX4_countCovering.cls = "KitePermits$Office" ∧ yX4_countCovering.cls ≠ "java/lang/invoke/MethodHandle" ∧ yX4_countCovering.cls ≠ "java/lang/invoke/VarHandle" ∧ (parseMethodDescriptor yX4_countCovering.desc).map (fun d => d.parameters.length) = some 2 := by decide +kernel
abbrev rmX4_refusalReason : Room := { frames := 5, cells := 0, slots := 0, locals := 134 }
abbrev MX4_refusalReason (G : GC) (w : Lay) (σ : Mem) (As : List Value) (Q : Lay → Option Value → Mem → Prop) (Qx : Lay → String → Mem → Prop) : Prop := MT G yX4_refusalReason (cw yX4_refusalReason cX4_refusalReason 5 (some .int)) rmX4_refusalReason 0 0 w σ As Q Qx
theorem mdX4_refusalReason : yX4_refusalReason.cls = "KitePermits$Office" ∧ yX4_refusalReason.cls ≠ "java/lang/invoke/MethodHandle" ∧ yX4_refusalReason.cls ≠ "java/lang/invoke/VarHandle" ∧ (parseMethodDescriptor yX4_refusalReason.desc).map (fun d => d.parameters.length) = some 3 := by decide +kernel
abbrev rmX4_isQuotaUsedUp : Room := { frames := 3, cells := 0, slots := 0, locals := 67 }
abbrev MX4_isQuotaUsedUp (G : GC) (w : Lay) (σ : Mem) (As : List Value) (Q : Lay → Option Value → Mem → Prop) (Qx : Lay → String → Mem → Prop) : Prop := MT G yX4_isQuotaUsedUp (cw yX4_isQuotaUsedUp cX4_isQuotaUsedUp 5 (some .boolean)) rmX4_isQuotaUsedUp 0 0 w σ As Q Qx
theorem mdX4_isQuotaUsedUp : yX4_isQuotaUsedUp.cls = "KitePermits$Office" ∧ yX4_isQuotaUsedUp.cls ≠ "java/lang/invoke/MethodHandle" ∧ yX4_isQuotaUsedUp.cls ≠ "java/lang/invoke/VarHandle" ∧ (parseMethodDescriptor yX4_isQuotaUsedUp.desc).map (fun d => d.parameters.length) = some 3 := by decide +kernel
abbrev rmX4_fliesAllHours : Room := { frames := 3, cells := 0, slots := 0, locals := 69 }
abbrev MX4_fliesAllHours (G : GC) (w : Lay) (σ : Mem) (As : List Value) (Q : Lay → Option Value → Mem → Prop) (Qx : Lay → String → Mem → Prop) : Prop := MT G yX4_fliesAllHours (cw yX4_fliesAllHours cX4_fliesAllHours 5 (some .boolean)) rmX4_fliesAllHours 0 0 w σ As Q Qx
theorem mdX4_fliesAllHours : yX4_fliesAllHours.cls = "KitePermits$Office" ∧ yX4_fliesAllHours.cls ≠ "java/lang/invoke/MethodHandle" ∧ yX4_fliesAllHours.cls ≠ "java/lang/invoke/VarHandle" ∧ (parseMethodDescriptor yX4_fliesAllHours.desc).map (fun d => d.parameters.length) = some 3 := by decide +kernel
abbrev rmX4_firstCrossedKite : Room := { frames := 4, cells := 0, slots := 0, locals := 107 }
abbrev MX4_firstCrossedKite (G : GC) (w : Lay) (σ : Mem) (As : List Value) (Q : Lay → Option Value → Mem → Prop) (Qx : Lay → String → Mem → Prop) : Prop := MT G yX4_firstCrossedKite (cw yX4_firstCrossedKite cX4_firstCrossedKite 8 (some .int)) rmX4_firstCrossedKite 0 0 w σ As Q Qx
theorem mdX4_firstCrossedKite : yX4_firstCrossedKite.cls = "KitePermits$Office" ∧ yX4_firstCrossedKite.cls ≠ "java/lang/invoke/MethodHandle" ∧ yX4_firstCrossedKite.cls ≠ "java/lang/invoke/VarHandle" ∧ (parseMethodDescriptor yX4_firstCrossedKite.desc).map (fun d => d.parameters.length) = some 3 := by decide +kernel
abbrev rmX4_countCrossings : Room := { frames := 3, cells := 0, slots := 0, locals := 80 }
abbrev MX4_countCrossings (G : GC) (w : Lay) (σ : Mem) (As : List Value) (Q : Lay → Option Value → Mem → Prop) (Qx : Lay → String → Mem → Prop) : Prop := MT G yX4_countCrossings (cw yX4_countCrossings cX4_countCrossings 8 (some .int)) rmX4_countCrossings 0 0 w σ As Q Qx
theorem mdX4_countCrossings : yX4_countCrossings.cls = "KitePermits$Office" ∧ yX4_countCrossings.cls ≠ "java/lang/invoke/MethodHandle" ∧ yX4_countCrossings.cls ≠ "java/lang/invoke/VarHandle" ∧ (parseMethodDescriptor yX4_countCrossings.desc).map (fun d => d.parameters.length) = some 4 := by decide +kernel
abbrev rmX4_countPermittedCrossings : Room := { frames := 4, cells := 0, slots := 0, locals := 107 }
abbrev MX4_countPermittedCrossings (G : GC) (w : Lay) (σ : Mem) (As : List Value) (Q : Lay → Option Value → Mem → Prop) (Qx : Lay → String → Mem → Prop) : Prop := MT G yX4_countPermittedCrossings (cw yX4_countPermittedCrossings cX4_countPermittedCrossings 6 (some .int)) rmX4_countPermittedCrossings 0 0 w σ As Q Qx
theorem mdX4_countPermittedCrossings : yX4_countPermittedCrossings.cls = "KitePermits$Office" ∧ yX4_countPermittedCrossings.cls ≠ "java/lang/invoke/MethodHandle" ∧ yX4_countPermittedCrossings.cls ≠ "java/lang/invoke/VarHandle" ∧ (parseMethodDescriptor yX4_countPermittedCrossings.desc).map (fun d => d.parameters.length) = some 0 := by decide +kernel
abbrev rmX4_grant : Room := { frames := 1, cells := 0, slots := 0, locals := 23 }
abbrev MX4_grant (G : GC) (w : Lay) (σ : Mem) (As : List Value) (Q : Lay → Option Value → Mem → Prop) (Qx : Lay → String → Mem → Prop) : Prop := MT G yX4_grant (cw yX4_grant cX4_grant 4 (none)) rmX4_grant 0 0 w σ As Q Qx
theorem mdX4_grant : yX4_grant.cls = "KitePermits$Office" ∧ yX4_grant.cls ≠ "java/lang/invoke/MethodHandle" ∧ yX4_grant.cls ≠ "java/lang/invoke/VarHandle" ∧ (parseMethodDescriptor yX4_grant.desc).map (fun d => d.parameters.length) = some 3 := by decide +kernel
abbrev rmX4_payOffice : Room := { frames := 0, cells := 0, slots := 0, locals := 0 }
abbrev MX4_payOffice (G : GC) (w : Lay) (σ : Mem) (As : List Value) (Q : Lay → Option Value → Mem → Prop) (Qx : Lay → String → Mem → Prop) : Prop := MT G yX4_payOffice (cw yX4_payOffice cX4_payOffice 3 (none)) rmX4_payOffice 0 0 w σ As Q Qx
theorem mdX4_payOffice : yX4_payOffice.cls = "KitePermits$Office" ∧ yX4_payOffice.cls ≠ "java/lang/invoke/MethodHandle" ∧ yX4_payOffice.cls ≠ "java/lang/invoke/VarHandle" ∧ (parseMethodDescriptor yX4_payOffice.desc).map (fun d => d.parameters.length) = some 2 := by decide +kernel
abbrev rmX4_isLaunchable : Room := { frames := 3, cells := 0, slots := 0, locals := 69 }
abbrev MX4_isLaunchable (G : GC) (w : Lay) (σ : Mem) (As : List Value) (Q : Lay → Option Value → Mem → Prop) (Qx : Lay → String → Mem → Prop) : Prop := MT G yX4_isLaunchable (cw yX4_isLaunchable cX4_isLaunchable 2 (some .boolean)) rmX4_isLaunchable 0 0 w σ As Q Qx
theorem mdX4_isLaunchable : yX4_isLaunchable.cls = "KitePermits$Office" ∧ yX4_isLaunchable.cls ≠ "java/lang/invoke/MethodHandle" ∧ yX4_isLaunchable.cls ≠ "java/lang/invoke/VarHandle" ∧ (parseMethodDescriptor yX4_isLaunchable.desc).map (fun d => d.parameters.length) = some 1 := by decide +kernel
abbrev rmX4_sendUp : Room := { frames := 0, cells := 0, slots := 0, locals := 0 }
abbrev MX4_sendUp (G : GC) (w : Lay) (σ : Mem) (As : List Value) (Q : Lay → Option Value → Mem → Prop) (Qx : Lay → String → Mem → Prop) : Prop := MT G yX4_sendUp (cw yX4_sendUp cX4_sendUp 2 (none)) rmX4_sendUp 0 0 w σ As Q Qx
theorem mdX4_sendUp : yX4_sendUp.cls = "KitePermits$Office" ∧ yX4_sendUp.cls ≠ "java/lang/invoke/MethodHandle" ∧ yX4_sendUp.cls ≠ "java/lang/invoke/VarHandle" ∧ (parseMethodDescriptor yX4_sendUp.desc).map (fun d => d.parameters.length) = some 1 := by decide +kernel
abbrev rmX4_bringDown : Room := { frames := 0, cells := 0, slots := 0, locals := 0 }
abbrev MX4_bringDown (G : GC) (w : Lay) (σ : Mem) (As : List Value) (Q : Lay → Option Value → Mem → Prop) (Qx : Lay → String → Mem → Prop) : Prop := MT G yX4_bringDown (cw yX4_bringDown cX4_bringDown 2 (none)) rmX4_bringDown 0 0 w σ As Q Qx
theorem mdX4_bringDown : yX4_bringDown.cls = "KitePermits$Office" ∧ yX4_bringDown.cls ≠ "java/lang/invoke/MethodHandle" ∧ yX4_bringDown.cls ≠ "java/lang/invoke/VarHandle" ∧ (parseMethodDescriptor yX4_bringDown.desc).map (fun d => d.parameters.length) = some 1 := by decide +kernel
abbrev rmX4_flyingReach : Room := { frames := 3, cells := 0, slots := 0, locals := 67 }
abbrev rmX4_letHoursPass : Room := { frames := 5, cells := 0, slots := 0, locals := 118 }
abbrev MX4_letHoursPass (G : GC) (w : Lay) (σ : Mem) (As : List Value) (Q : Lay → Option Value → Mem → Prop) (Qx : Lay → String → Mem → Prop) : Prop := MT G yX4_letHoursPass (cw yX4_letHoursPass cX4_letHoursPass 4 (some .int)) rmX4_letHoursPass 0 0 w σ As Q Qx
theorem mdX4_letHoursPass : yX4_letHoursPass.cls = "KitePermits$Office" ∧ yX4_letHoursPass.cls ≠ "java/lang/invoke/MethodHandle" ∧ yX4_letHoursPass.cls ≠ "java/lang/invoke/VarHandle" ∧ (parseMethodDescriptor yX4_letHoursPass.desc).map (fun d => d.parameters.length) = some 1 := by decide +kernel
abbrev rmX4_groundBecalmedKites : Room := { frames := 3, cells := 0, slots := 0, locals := 69 }
abbrev MX4_groundBecalmedKites (G : GC) (w : Lay) (σ : Mem) (As : List Value) (Q : Lay → Option Value → Mem → Prop) (Qx : Lay → String → Mem → Prop) : Prop := MT G yX4_groundBecalmedKites (cw yX4_groundBecalmedKites cX4_groundBecalmedKites 2 (none)) rmX4_groundBecalmedKites 0 0 w σ As Q Qx
theorem mdX4_groundBecalmedKites : yX4_groundBecalmedKites.cls = "KitePermits$Office" ∧ yX4_groundBecalmedKites.cls ≠ "java/lang/invoke/MethodHandle" ∧ yX4_groundBecalmedKites.cls ≠ "java/lang/invoke/VarHandle" ∧ (parseMethodDescriptor yX4_groundBecalmedKites.desc).map (fun d => d.parameters.length) = some 0 := by decide +kernel
abbrev rmX4_judgeCrossings : Room := { frames := 4, cells := 0, slots := 0, locals := 94 }
abbrev MX4_judgeCrossings (G : GC) (w : Lay) (σ : Mem) (As : List Value) (Q : Lay → Option Value → Mem → Prop) (Qx : Lay → String → Mem → Prop) : Prop := MT G yX4_judgeCrossings (cw yX4_judgeCrossings cX4_judgeCrossings 5 (some .int)) rmX4_judgeCrossings 0 0 w σ As Q Qx
theorem mdX4_judgeCrossings : yX4_judgeCrossings.cls = "KitePermits$Office" ∧ yX4_judgeCrossings.cls ≠ "java/lang/invoke/MethodHandle" ∧ yX4_judgeCrossings.cls ≠ "java/lang/invoke/VarHandle" ∧ (parseMethodDescriptor yX4_judgeCrossings.desc).map (fun d => d.parameters.length) = some 0 := by decide +kernel
abbrev rmX4_giveVerdict : Room := { frames := 3, cells := 0, slots := 0, locals := 69 }
abbrev MX4_giveVerdict (G : GC) (w : Lay) (σ : Mem) (As : List Value) (Q : Lay → Option Value → Mem → Prop) (Qx : Lay → String → Mem → Prop) : Prop := MT G yX4_giveVerdict (cw yX4_giveVerdict cX4_giveVerdict 6 (none)) rmX4_giveVerdict 0 0 w σ As Q Qx
theorem mdX4_giveVerdict : yX4_giveVerdict.cls = "KitePermits$Office" ∧ yX4_giveVerdict.cls ≠ "java/lang/invoke/MethodHandle" ∧ yX4_giveVerdict.cls ≠ "java/lang/invoke/VarHandle" ∧ (parseMethodDescriptor yX4_giveVerdict.desc).map (fun d => d.parameters.length) = some 2 := by decide +kernel
abbrev rmX4_guiltyOf : Room := { frames := 2, cells := 0, slots := 0, locals := 45 }
abbrev MX4_guiltyOf (G : GC) (w : Lay) (σ : Mem) (As : List Value) (Q : Lay → Option Value → Mem → Prop) (Qx : Lay → String → Mem → Prop) : Prop := MT G yX4_guiltyOf (cw yX4_guiltyOf cX4_guiltyOf 5 (some .int)) rmX4_guiltyOf 0 0 w σ As Q Qx
theorem mdX4_guiltyOf : yX4_guiltyOf.cls = "KitePermits$Office" ∧ yX4_guiltyOf.cls ≠ "java/lang/invoke/MethodHandle" ∧ yX4_guiltyOf.cls ≠ "java/lang/invoke/VarHandle" ∧ (parseMethodDescriptor yX4_guiltyOf.desc).map (fun d => d.parameters.length) = some 2 := by decide +kernel
abbrev rmX4_tangleCaughtKites : Room := { frames := 0, cells := 0, slots := 0, locals := 0 }
abbrev MX4_tangleCaughtKites (G : GC) (w : Lay) (σ : Mem) (As : List Value) (Q : Lay → Option Value → Mem → Prop) (Qx : Lay → String → Mem → Prop) : Prop := MT G yX4_tangleCaughtKites (cw yX4_tangleCaughtKites cX4_tangleCaughtKites 2 (none)) rmX4_tangleCaughtKites 0 0 w σ As Q Qx
theorem mdX4_tangleCaughtKites : yX4_tangleCaughtKites.cls = "KitePermits$Office" ∧ yX4_tangleCaughtKites.cls ≠ "java/lang/invoke/MethodHandle" ∧ yX4_tangleCaughtKites.cls ≠ "java/lang/invoke/VarHandle" ∧ (parseMethodDescriptor yX4_tangleCaughtKites.desc).map (fun d => d.parameters.length) = some 0 := by decide +kernel
abbrev rmX4_retie : Room := { frames := 2, cells := 0, slots := 0, locals := 45 }
abbrev MX4_retie (G : GC) (w : Lay) (σ : Mem) (As : List Value) (Q : Lay → Option Value → Mem → Prop) (Qx : Lay → String → Mem → Prop) : Prop := MT G yX4_retie (cw yX4_retie cX4_retie 3 (none)) rmX4_retie 0 0 w σ As Q Qx
theorem mdX4_retie : yX4_retie.cls = "KitePermits$Office" ∧ yX4_retie.cls ≠ "java/lang/invoke/MethodHandle" ∧ yX4_retie.cls ≠ "java/lang/invoke/VarHandle" ∧ (parseMethodDescriptor yX4_retie.desc).map (fun d => d.parameters.length) = some 2 := by decide +kernel
abbrev rmX4_repairPrice : Room := { frames := 0, cells := 0, slots := 0, locals := 0 }
abbrev MX4_repairPrice (G : GC) (w : Lay) (σ : Mem) (As : List Value) (Q : Lay → Option Value → Mem → Prop) (Qx : Lay → String → Mem → Prop) : Prop := MT G yX4_repairPrice (cw yX4_repairPrice cX4_repairPrice 2 (some .int)) rmX4_repairPrice 0 0 w σ As Q Qx
theorem mdX4_repairPrice : yX4_repairPrice.cls = "KitePermits$Office" ∧ yX4_repairPrice.cls ≠ "java/lang/invoke/MethodHandle" ∧ yX4_repairPrice.cls ≠ "java/lang/invoke/VarHandle" ∧ (parseMethodDescriptor yX4_repairPrice.desc).map (fun d => d.parameters.length) = some 1 := by decide +kernel
abbrev rmX4_isRepairable : Room := { frames := 1, cells := 0, slots := 0, locals := 21 }
abbrev MX4_isRepairable (G : GC) (w : Lay) (σ : Mem) (As : List Value) (Q : Lay → Option Value → Mem → Prop) (Qx : Lay → String → Mem → Prop) : Prop := MT G yX4_isRepairable (cw yX4_isRepairable cX4_isRepairable 2 (some .boolean)) rmX4_isRepairable 0 0 w σ As Q Qx
theorem mdX4_isRepairable : yX4_isRepairable.cls = "KitePermits$Office" ∧ yX4_isRepairable.cls ≠ "java/lang/invoke/MethodHandle" ∧ yX4_isRepairable.cls ≠ "java/lang/invoke/VarHandle" ∧ (parseMethodDescriptor yX4_isRepairable.desc).map (fun d => d.parameters.length) = some 1 := by decide +kernel
abbrev rmX4_mend : Room := { frames := 1, cells := 0, slots := 0, locals := 22 }
abbrev MX4_mend (G : GC) (w : Lay) (σ : Mem) (As : List Value) (Q : Lay → Option Value → Mem → Prop) (Qx : Lay → String → Mem → Prop) : Prop := MT G yX4_mend (cw yX4_mend cX4_mend 2 (none)) rmX4_mend 0 0 w σ As Q Qx
theorem mdX4_mend : yX4_mend.cls = "KitePermits$Office" ∧ yX4_mend.cls ≠ "java/lang/invoke/MethodHandle" ∧ yX4_mend.cls ≠ "java/lang/invoke/VarHandle" ∧ (parseMethodDescriptor yX4_mend.desc).map (fun d => d.parameters.length) = some 1 := by decide +kernel
abbrev rmX4_putCoins : Room := { frames := 1, cells := 0, slots := 0, locals := 21 }
abbrev MX4_putCoins (G : GC) (w : Lay) (σ : Mem) (As : List Value) (Q : Lay → Option Value → Mem → Prop) (Qx : Lay → String → Mem → Prop) : Prop := MT G yX4_putCoins (cw yX4_putCoins cX4_putCoins 5 (none)) rmX4_putCoins 0 0 w σ As Q Qx
theorem mdX4_putCoins : yX4_putCoins.cls = "KitePermits$Office" ∧ yX4_putCoins.cls ≠ "java/lang/invoke/MethodHandle" ∧ yX4_putCoins.cls ≠ "java/lang/invoke/VarHandle" ∧ (parseMethodDescriptor yX4_putCoins.desc).map (fun d => d.parameters.length) = some 2 := by decide +kernel
abbrev rmX5_init : Room := { frames := 1, cells := 0, slots := 0, locals := 20 }
abbrev MX5_init (G : GC) (w : Lay) (σ : Mem) (As : List Value) (Q : Lay → Option Value → Mem → Prop) (Qx : Lay → String → Mem → Prop) : Prop := MT G yX5_init (cw yX5_init cX5_init 1 (none)) rmX5_init 0 0 w σ As Q Qx
theorem mdX5_init : yX5_init.cls = "KitePermits$OutputText" ∧ yX5_init.cls ≠ "java/lang/invoke/MethodHandle" ∧ yX5_init.cls ≠ "java/lang/invoke/VarHandle" ∧ (parseMethodDescriptor yX5_init.desc).map (fun d => d.parameters.length) = some 0 := by decide +kernel
abbrev rmX5_write : Room := { frames := 2, cells := 0, slots := 0, locals := 43 }
abbrev rmX5_putByte : Room := { frames := 0, cells := 0, slots := 0, locals := 0 }
abbrev rmX5_putNumber : Room := { frames := 1, cells := 0, slots := 0, locals := 21 }
abbrev rmX6_init : Room := { frames := 1, cells := 0, slots := 0, locals := 20 }
abbrev MX6_init (G : GC) (w : Lay) (σ : Mem) (As : List Value) (Q : Lay → Option Value → Mem → Prop) (Qx : Lay → String → Mem → Prop) : Prop := MT G yX6_init (cw yX6_init cX6_init 1 (none)) rmX6_init 0 0 w σ As Q Qx
theorem mdX6_init : yX6_init.cls = "KitePermits$PermitList" ∧ yX6_init.cls ≠ "java/lang/invoke/MethodHandle" ∧ yX6_init.cls ≠ "java/lang/invoke/VarHandle" ∧ (parseMethodDescriptor yX6_init.desc).map (fun d => d.parameters.length) = some 0 := by decide +kernel
abbrev rmX6_copyFrom : Room := { frames := 1, cells := 0, slots := 0, locals := 48 }
abbrev MX6_copyFrom (G : GC) (w : Lay) (σ : Mem) (As : List Value) (Q : Lay → Option Value → Mem → Prop) (Qx : Lay → String → Mem → Prop) : Prop := MT G yX6_copyFrom (cw yX6_copyFrom cX6_copyFrom 2 (none)) rmX6_copyFrom 0 0 w σ As Q Qx
theorem mdX6_copyFrom : yX6_copyFrom.cls = "KitePermits$PermitList" ∧ yX6_copyFrom.cls ≠ "java/lang/invoke/MethodHandle" ∧ yX6_copyFrom.cls ≠ "java/lang/invoke/VarHandle" ∧ (parseMethodDescriptor yX6_copyFrom.desc).map (fun d => d.parameters.length) = some 1 := by decide +kernel
abbrev rmX6_add : Room := { frames := 0, cells := 0, slots := 0, locals := 0 }
abbrev MX6_add (G : GC) (w : Lay) (σ : Mem) (As : List Value) (Q : Lay → Option Value → Mem → Prop) (Qx : Lay → String → Mem → Prop) : Prop := MT G yX6_add (cw yX6_add cX6_add 4 (none)) rmX6_add 0 0 w σ As Q Qx
theorem mdX6_add : yX6_add.cls = "KitePermits$PermitList" ∧ yX6_add.cls ≠ "java/lang/invoke/MethodHandle" ∧ yX6_add.cls ≠ "java/lang/invoke/VarHandle" ∧ (parseMethodDescriptor yX6_add.desc).map (fun d => d.parameters.length) = some 3 := by decide +kernel
abbrev rmX6_endOf : Room := { frames := 0, cells := 0, slots := 0, locals := 0 }
abbrev MX6_endOf (G : GC) (w : Lay) (σ : Mem) (As : List Value) (Q : Lay → Option Value → Mem → Prop) (Qx : Lay → String → Mem → Prop) : Prop := MT G yX6_endOf (cw yX6_endOf cX6_endOf 2 (some .int)) rmX6_endOf 0 0 w σ As Q Qx
theorem mdX6_endOf : yX6_endOf.cls = "KitePermits$PermitList" ∧ yX6_endOf.cls ≠ "java/lang/invoke/MethodHandle" ∧ yX6_endOf.cls ≠ "java/lang/invoke/VarHandle" ∧ (parseMethodDescriptor yX6_endOf.desc).map (fun d => d.parameters.length) = some 1 := by decide +kernel
abbrev rmX6_covers : Room := { frames := 1, cells := 0, slots := 0, locals := 21 }
abbrev MX6_covers (G : GC) (w : Lay) (σ : Mem) (As : List Value) (Q : Lay → Option Value → Mem → Prop) (Qx : Lay → String → Mem → Prop) : Prop := MT G yX6_covers (cw yX6_covers cX6_covers 3 (some .boolean)) rmX6_covers 0 0 w σ As Q Qx
theorem mdX6_covers : yX6_covers.cls = "KitePermits$PermitList" ∧ yX6_covers.cls ≠ "java/lang/invoke/MethodHandle" ∧ yX6_covers.cls ≠ "java/lang/invoke/VarHandle" ∧ (parseMethodDescriptor yX6_covers.desc).map (fun d => d.parameters.length) = some 2 := by decide +kernel
abbrev rmX6_coverAny : Room := { frames := 1, cells := 0, slots := 0, locals := 21 }
abbrev MX6_coverAny (G : GC) (w : Lay) (σ : Mem) (As : List Value) (Q : Lay → Option Value → Mem → Prop) (Qx : Lay → String → Mem → Prop) : Prop := MT G yX6_coverAny (cw yX6_coverAny cX6_coverAny 5 (some .boolean)) rmX6_coverAny 0 0 w σ As Q Qx
theorem mdX6_coverAny : yX6_coverAny.cls = "KitePermits$PermitList" ∧ yX6_coverAny.cls ≠ "java/lang/invoke/MethodHandle" ∧ yX6_coverAny.cls ≠ "java/lang/invoke/VarHandle" ∧ (parseMethodDescriptor yX6_coverAny.desc).map (fun d => d.parameters.length) = some 3 := by decide +kernel
abbrev rmX6_removeOf : Room := { frames := 1, cells := 0, slots := 0, locals := 22 }
abbrev MX6_removeOf (G : GC) (w : Lay) (σ : Mem) (As : List Value) (Q : Lay → Option Value → Mem → Prop) (Qx : Lay → String → Mem → Prop) : Prop := MT G yX6_removeOf (cw yX6_removeOf cX6_removeOf 4 (some .int)) rmX6_removeOf 0 0 w σ As Q Qx
theorem mdX6_removeOf : yX6_removeOf.cls = "KitePermits$PermitList" ∧ yX6_removeOf.cls ≠ "java/lang/invoke/MethodHandle" ∧ yX6_removeOf.cls ≠ "java/lang/invoke/VarHandle" ∧ (parseMethodDescriptor yX6_removeOf.desc).map (fun d => d.parameters.length) = some 1 := by decide +kernel
abbrev rmX6_removeEnded : Room := { frames := 1, cells := 0, slots := 0, locals := 22 }
abbrev MX6_removeEnded (G : GC) (w : Lay) (σ : Mem) (As : List Value) (Q : Lay → Option Value → Mem → Prop) (Qx : Lay → String → Mem → Prop) : Prop := MT G yX6_removeEnded (cw yX6_removeEnded cX6_removeEnded 4 (none)) rmX6_removeEnded 0 0 w σ As Q Qx
theorem mdX6_removeEnded : yX6_removeEnded.cls = "KitePermits$PermitList" ∧ yX6_removeEnded.cls ≠ "java/lang/invoke/MethodHandle" ∧ yX6_removeEnded.cls ≠ "java/lang/invoke/VarHandle" ∧ (parseMethodDescriptor yX6_removeEnded.desc).map (fun d => d.parameters.length) = some 1 := by decide +kernel
abbrev rmX6_move : Room := { frames := 0, cells := 0, slots := 0, locals := 0 }
abbrev MX6_move (G : GC) (w : Lay) (σ : Mem) (As : List Value) (Q : Lay → Option Value → Mem → Prop) (Qx : Lay → String → Mem → Prop) : Prop := MT G yX6_move (cw yX6_move cX6_move 3 (none)) rmX6_move 0 0 w σ As Q Qx
theorem mdX6_move : yX6_move.cls = "KitePermits$PermitList" ∧ yX6_move.cls ≠ "java/lang/invoke/MethodHandle" ∧ yX6_move.cls ≠ "java/lang/invoke/VarHandle" ∧ (parseMethodDescriptor yX6_move.desc).map (fun d => d.parameters.length) = some 2 := by decide +kernel
abbrev rmX7_init : Room := { frames := 1, cells := 0, slots := 0, locals := 20 }
abbrev MX7_init (G : GC) (w : Lay) (σ : Mem) (As : List Value) (Q : Lay → Option Value → Mem → Prop) (Qx : Lay → String → Mem → Prop) : Prop := MT G yX7_init (cw yX7_init cX7_init 1 (none)) rmX7_init 0 0 w σ As Q Qx
theorem mdX7_init : yX7_init.cls = "KitePermits$Script" ∧ yX7_init.cls ≠ "java/lang/invoke/MethodHandle" ∧ yX7_init.cls ≠ "java/lang/invoke/VarHandle" ∧ (parseMethodDescriptor yX7_init.desc).map (fun d => d.parameters.length) = some 0 := by decide +kernel
abbrev rmX7_readFrom : Room := { frames := 8, cells := 0, slots := 0, locals := 170 }
abbrev rmX7_readCommand : Room := { frames := 7, cells := 0, slots := 0, locals := 148 }
abbrev rmX7_commandAt : Room := { frames := 6, cells := 0, slots := 0, locals := 128 }
abbrev rmX8_readInto : Room := { frames := 8, cells := 0, slots := 0, locals := 177 }
abbrev rmX8_readField : Room := { frames := 7, cells := 0, slots := 0, locals := 149 }
abbrev rmX8_readZones : Room := { frames := 7, cells := 0, slots := 0, locals := 149 }
abbrev rmX8_readWinds : Room := { frames := 4, cells := 0, slots := 0, locals := 84 }
abbrev rmX8_readColours : Room := { frames := 7, cells := 0, slots := 0, locals := 149 }
abbrev rmX8_readKites : Room := { frames := 7, cells := 0, slots := 0, locals := 149 }
abbrev rmX9_init : Room := { frames := 4, cells := 0, slots := 0, locals := 81 }
abbrev MX9_init (G : GC) (w : Lay) (σ : Mem) (As : List Value) (Q : Lay → Option Value → Mem → Prop) (Qx : Lay → String → Mem → Prop) : Prop := MT G yX9_init (cw yX9_init cX9_init 2 (none)) rmX9_init 0 0 w σ As Q Qx
theorem mdX9_init : yX9_init.cls = "KitePermits" ∧ yX9_init.cls ≠ "java/lang/invoke/MethodHandle" ∧ yX9_init.cls ≠ "java/lang/invoke/VarHandle" ∧ (parseMethodDescriptor yX9_init.desc).map (fun d => d.parameters.length) = some 0 := by decide +kernel
abbrev rmX9_firstOffice : Room := { frames := 3, cells := 0, slots := 0, locals := 60 }
abbrev MX9_firstOffice (G : GC) (w : Lay) (σ : Mem) (As : List Value) (Q : Lay → Option Value → Mem → Prop) (Qx : Lay → String → Mem → Prop) : Prop := MT G yX9_firstOffice (cw yX9_firstOffice cX9_firstOffice 1 (some (.object "KitePermits$Office"))) rmX9_firstOffice 0 0 w σ As Q Qx
theorem mdX9_firstOffice : yX9_firstOffice.cls = "KitePermits" ∧ yX9_firstOffice.cls ≠ "java/lang/invoke/MethodHandle" ∧ yX9_firstOffice.cls ≠ "java/lang/invoke/VarHandle" ∧ (parseMethodDescriptor yX9_firstOffice.desc).map (fun d => d.parameters.length) = some 0 := by decide +kernel
abbrev rmX9_append : Room := { frames := 6, cells := 1, slots := 6, locals := 90 }
abbrev rmX9_truncate : Room := { frames := 7, cells := 1, slots := 6, locals := 112 }
abbrev rmX9_errorCode : Room := { frames := 0, cells := 0, slots := 0, locals := 0 }
abbrev rmX9_errorPosition : Room := { frames := 0, cells := 0, slots := 0, locals := 0 }
abbrev rmX9_loadSetup : Room := { frames := 9, cells := 1, slots := 6, locals := 198 }
abbrev rmX9_runScript : Room := { frames := 9, cells := 1, slots := 6, locals := 191 }
abbrev rmX9_isExecutable : Room := { frames := 6, cells := 0, slots := 0, locals := 158 }
abbrev rmX9_execute : Room := { frames := 6, cells := 0, slots := 0, locals := 141 }
abbrev rmX9_addKite : Room := { frames := 7, cells := 7, slots := 42, locals := 112 }
abbrev MX9_addKite (G : GC) (w : Lay) (σ : Mem) (As : List Value) (Q : Lay → Option Value → Mem → Prop) (Qx : Lay → String → Mem → Prop) : Prop := MT G yX9_addKite (cw yX9_addKite cX9_addKite 7 (some .int)) rmX9_addKite 7 42 w σ As Q Qx
theorem mdX9_addKite : yX9_addKite.cls = "KitePermits" ∧ yX9_addKite.cls ≠ "java/lang/invoke/MethodHandle" ∧ yX9_addKite.cls ≠ "java/lang/invoke/VarHandle" ∧ (parseMethodDescriptor yX9_addKite.desc).map (fun d => d.parameters.length) = some 6 := by decide +kernel
abbrev rmX9_launch : Room := { frames := 7, cells := 2, slots := 12, locals := 111 }
abbrev MX9_launch (G : GC) (w : Lay) (σ : Mem) (As : List Value) (Q : Lay → Option Value → Mem → Prop) (Qx : Lay → String → Mem → Prop) : Prop := MT G yX9_launch (cw yX9_launch cX9_launch 2 (some .int)) rmX9_launch 2 12 w σ As Q Qx
theorem mdX9_launch : yX9_launch.cls = "KitePermits" ∧ yX9_launch.cls ≠ "java/lang/invoke/MethodHandle" ∧ yX9_launch.cls ≠ "java/lang/invoke/VarHandle" ∧ (parseMethodDescriptor yX9_launch.desc).map (fun d => d.parameters.length) = some 1 := by decide +kernel
abbrev rmX9_land : Room := { frames := 7, cells := 2, slots := 12, locals := 112 }
abbrev MX9_land (G : GC) (w : Lay) (σ : Mem) (As : List Value) (Q : Lay → Option Value → Mem → Prop) (Qx : Lay → String → Mem → Prop) : Prop := MT G yX9_land (cw yX9_land cX9_land 2 (some .int)) rmX9_land 2 12 w σ As Q Qx
theorem mdX9_land : yX9_land.cls = "KitePermits" ∧ yX9_land.cls ≠ "java/lang/invoke/MethodHandle" ∧ yX9_land.cls ≠ "java/lang/invoke/VarHandle" ∧ (parseMethodDescriptor yX9_land.desc).map (fun d => d.parameters.length) = some 1 := by decide +kernel
abbrev rmX9_passHours : Room := { frames := 7, cells := 1, slots := 6, locals := 141 }
abbrev MX9_passHours (G : GC) (w : Lay) (σ : Mem) (As : List Value) (Q : Lay → Option Value → Mem → Prop) (Qx : Lay → String → Mem → Prop) : Prop := MT G yX9_passHours (cw yX9_passHours cX9_passHours 2 (some .int)) rmX9_passHours 1 6 w σ As Q Qx
theorem mdX9_passHours : yX9_passHours.cls = "KitePermits" ∧ yX9_passHours.cls ≠ "java/lang/invoke/MethodHandle" ∧ yX9_passHours.cls ≠ "java/lang/invoke/VarHandle" ∧ (parseMethodDescriptor yX9_passHours.desc).map (fun d => d.parameters.length) = some 1 := by decide +kernel
abbrev rmX9_permit : Room := { frames := 8, cells := 4, slots := 24, locals := 158 }
abbrev MX9_permit (G : GC) (w : Lay) (σ : Mem) (As : List Value) (Q : Lay → Option Value → Mem → Prop) (Qx : Lay → String → Mem → Prop) : Prop := MT G yX9_permit (cw yX9_permit cX9_permit 4 (some .int)) rmX9_permit 4 24 w σ As Q Qx
theorem mdX9_permit : yX9_permit.cls = "KitePermits" ∧ yX9_permit.cls ≠ "java/lang/invoke/MethodHandle" ∧ yX9_permit.cls ≠ "java/lang/invoke/VarHandle" ∧ (parseMethodDescriptor yX9_permit.desc).map (fun d => d.parameters.length) = some 3 := by decide +kernel
abbrev rmX9_cancelPermits : Room := { frames := 7, cells := 1, slots := 6, locals := 111 }
abbrev rmX9_tieKnots : Room := { frames := 7, cells := 3, slots := 18, locals := 112 }
abbrev MX9_tieKnots (G : GC) (w : Lay) (σ : Mem) (As : List Value) (Q : Lay → Option Value → Mem → Prop) (Qx : Lay → String → Mem → Prop) : Prop := MT G yX9_tieKnots (cw yX9_tieKnots cX9_tieKnots 4 (some .int)) rmX9_tieKnots 3 18 w σ As Q Qx
theorem mdX9_tieKnots : yX9_tieKnots.cls = "KitePermits" ∧ yX9_tieKnots.cls ≠ "java/lang/invoke/MethodHandle" ∧ yX9_tieKnots.cls ≠ "java/lang/invoke/VarHandle" ∧ (parseMethodDescriptor yX9_tieKnots.desc).map (fun d => d.parameters.length) = some 2 := by decide +kernel
abbrev rmX9_repair : Room := { frames := 7, cells := 2, slots := 12, locals := 111 }
abbrev MX9_repair (G : GC) (w : Lay) (σ : Mem) (As : List Value) (Q : Lay → Option Value → Mem → Prop) (Qx : Lay → String → Mem → Prop) : Prop := MT G yX9_repair (cw yX9_repair cX9_repair 2 (some .int)) rmX9_repair 2 12 w σ As Q Qx
theorem mdX9_repair : yX9_repair.cls = "KitePermits" ∧ yX9_repair.cls ≠ "java/lang/invoke/MethodHandle" ∧ yX9_repair.cls ≠ "java/lang/invoke/VarHandle" ∧ (parseMethodDescriptor yX9_repair.desc).map (fun d => d.parameters.length) = some 1 := by decide +kernel
abbrev rmX9_fund : Room := { frames := 7, cells := 2, slots := 12, locals := 112 }
abbrev MX9_fund (G : GC) (w : Lay) (σ : Mem) (As : List Value) (Q : Lay → Option Value → Mem → Prop) (Qx : Lay → String → Mem → Prop) : Prop := MT G yX9_fund (cw yX9_fund cX9_fund 3 (some .int)) rmX9_fund 2 12 w σ As Q Qx
theorem mdX9_fund : yX9_fund.cls = "KitePermits" ∧ yX9_fund.cls ≠ "java/lang/invoke/MethodHandle" ∧ yX9_fund.cls ≠ "java/lang/invoke/VarHandle" ∧ (parseMethodDescriptor yX9_fund.desc).map (fun d => d.parameters.length) = some 2 := by decide +kernel
abbrev rmX9_undo : Room := { frames := 6, cells := 1, slots := 6, locals := 111 }
abbrev rmX9_saveSnapshot : Room := { frames := 7, cells := 1, slots := 6, locals := 112 }
abbrev rmX9_restoreSnapshot : Room := { frames := 7, cells := 2, slots := 12, locals := 112 }
abbrev rmX9_hour : Room := { frames := 0, cells := 0, slots := 0, locals := 0 }
abbrev MX9_hour (G : GC) (w : Lay) (σ : Mem) (As : List Value) (Q : Lay → Option Value → Mem → Prop) (Qx : Lay → String → Mem → Prop) : Prop := MT G yX9_hour (cw yX9_hour cX9_hour 1 (some .int)) rmX9_hour 0 0 w σ As Q Qx
theorem mdX9_hour : yX9_hour.cls = "KitePermits" ∧ yX9_hour.cls ≠ "java/lang/invoke/MethodHandle" ∧ yX9_hour.cls ≠ "java/lang/invoke/VarHandle" ∧ (parseMethodDescriptor yX9_hour.desc).map (fun d => d.parameters.length) = some 0 := by decide +kernel
abbrev rmX9_width : Room := { frames := 0, cells := 0, slots := 0, locals := 0 }
abbrev rmX9_height : Room := { frames := 0, cells := 0, slots := 0, locals := 0 }
abbrev rmX9_fee : Room := { frames := 0, cells := 0, slots := 0, locals := 0 }
abbrev MX9_fee (G : GC) (w : Lay) (σ : Mem) (As : List Value) (Q : Lay → Option Value → Mem → Prop) (Qx : Lay → String → Mem → Prop) : Prop := MT G yX9_fee (cw yX9_fee cX9_fee 1 (some .int)) rmX9_fee 0 0 w σ As Q Qx
theorem mdX9_fee : yX9_fee.cls = "KitePermits" ∧ yX9_fee.cls ≠ "java/lang/invoke/MethodHandle" ∧ yX9_fee.cls ≠ "java/lang/invoke/VarHandle" ∧ (parseMethodDescriptor yX9_fee.desc).map (fun d => d.parameters.length) = some 0 := by decide +kernel
abbrev rmX9_fine : Room := { frames := 0, cells := 0, slots := 0, locals := 0 }
abbrev rmX9_zoneCount : Room := { frames := 0, cells := 0, slots := 0, locals := 0 }
abbrev rmX9_windDirection : Room := { frames := 7, cells := 2, slots := 12, locals := 111 }
abbrev rmX9_windForce : Room := { frames := 7, cells := 2, slots := 12, locals := 111 }
abbrev rmX9_colourCount : Room := { frames := 0, cells := 0, slots := 0, locals := 0 }
abbrev rmX9_quota : Room := { frames := 7, cells := 1, slots := 6, locals := 111 }
abbrev MX9_quota (G : GC) (w : Lay) (σ : Mem) (As : List Value) (Q : Lay → Option Value → Mem → Prop) (Qx : Lay → String → Mem → Prop) : Prop := MT G yX9_quota (cw yX9_quota cX9_quota 2 (some .int)) rmX9_quota 1 6 w σ As Q Qx
theorem mdX9_quota : yX9_quota.cls = "KitePermits" ∧ yX9_quota.cls ≠ "java/lang/invoke/MethodHandle" ∧ yX9_quota.cls ≠ "java/lang/invoke/VarHandle" ∧ (parseMethodDescriptor yX9_quota.desc).map (fun d => d.parameters.length) = some 1 := by decide +kernel
abbrev rmX9_quotaUsed : Room := { frames := 7, cells := 2, slots := 12, locals := 111 }
abbrev MX9_quotaUsed (G : GC) (w : Lay) (σ : Mem) (As : List Value) (Q : Lay → Option Value → Mem → Prop) (Qx : Lay → String → Mem → Prop) : Prop := MT G yX9_quotaUsed (cw yX9_quotaUsed cX9_quotaUsed 3 (some .int)) rmX9_quotaUsed 2 12 w σ As Q Qx
theorem mdX9_quotaUsed : yX9_quotaUsed.cls = "KitePermits" ∧ yX9_quotaUsed.cls ≠ "java/lang/invoke/MethodHandle" ∧ yX9_quotaUsed.cls ≠ "java/lang/invoke/VarHandle" ∧ (parseMethodDescriptor yX9_quotaUsed.desc).map (fun d => d.parameters.length) = some 2 := by decide +kernel
abbrev rmX9_kiteCount : Room := { frames := 0, cells := 0, slots := 0, locals := 0 }
abbrev MX9_kiteCount (G : GC) (w : Lay) (σ : Mem) (As : List Value) (Q : Lay → Option Value → Mem → Prop) (Qx : Lay → String → Mem → Prop) : Prop := MT G yX9_kiteCount (cw yX9_kiteCount cX9_kiteCount 1 (some .int)) rmX9_kiteCount 0 0 w σ As Q Qx
theorem mdX9_kiteCount : yX9_kiteCount.cls = "KitePermits" ∧ yX9_kiteCount.cls ≠ "java/lang/invoke/MethodHandle" ∧ yX9_kiteCount.cls ≠ "java/lang/invoke/VarHandle" ∧ (parseMethodDescriptor yX9_kiteCount.desc).map (fun d => d.parameters.length) = some 0 := by decide +kernel
abbrev rmX9_anchorX : Room := { frames := 7, cells := 1, slots := 6, locals := 111 }
abbrev rmX9_anchorY : Room := { frames := 7, cells := 1, slots := 6, locals := 111 }
abbrev rmX9_stringLength : Room := { frames := 7, cells := 1, slots := 6, locals := 111 }
abbrev rmX9_colourOf : Room := { frames := 7, cells := 1, slots := 6, locals := 111 }
abbrev MX9_colourOf (G : GC) (w : Lay) (σ : Mem) (As : List Value) (Q : Lay → Option Value → Mem → Prop) (Qx : Lay → String → Mem → Prop) : Prop := MT G yX9_colourOf (cw yX9_colourOf cX9_colourOf 2 (some .int)) rmX9_colourOf 1 6 w σ As Q Qx
theorem mdX9_colourOf : yX9_colourOf.cls = "KitePermits" ∧ yX9_colourOf.cls ≠ "java/lang/invoke/MethodHandle" ∧ yX9_colourOf.cls ≠ "java/lang/invoke/VarHandle" ∧ (parseMethodDescriptor yX9_colourOf.desc).map (fun d => d.parameters.length) = some 1 := by decide +kernel
abbrev rmX9_knots : Room := { frames := 7, cells := 1, slots := 6, locals := 111 }
abbrev MX9_knots (G : GC) (w : Lay) (σ : Mem) (As : List Value) (Q : Lay → Option Value → Mem → Prop) (Qx : Lay → String → Mem → Prop) : Prop := MT G yX9_knots (cw yX9_knots cX9_knots 2 (some .int)) rmX9_knots 1 6 w σ As Q Qx
theorem mdX9_knots : yX9_knots.cls = "KitePermits" ∧ yX9_knots.cls ≠ "java/lang/invoke/MethodHandle" ∧ yX9_knots.cls ≠ "java/lang/invoke/VarHandle" ∧ (parseMethodDescriptor yX9_knots.desc).map (fun d => d.parameters.length) = some 1 := by decide +kernel
abbrev rmX9_purse : Room := { frames := 7, cells := 1, slots := 6, locals := 111 }
abbrev MX9_purse (G : GC) (w : Lay) (σ : Mem) (As : List Value) (Q : Lay → Option Value → Mem → Prop) (Qx : Lay → String → Mem → Prop) : Prop := MT G yX9_purse (cw yX9_purse cX9_purse 2 (some .int)) rmX9_purse 1 6 w σ As Q Qx
theorem mdX9_purse : yX9_purse.cls = "KitePermits" ∧ yX9_purse.cls ≠ "java/lang/invoke/MethodHandle" ∧ yX9_purse.cls ≠ "java/lang/invoke/VarHandle" ∧ (parseMethodDescriptor yX9_purse.desc).map (fun d => d.parameters.length) = some 1 := by decide +kernel
abbrev rmX9_stateOf : Room := { frames := 7, cells := 1, slots := 6, locals := 111 }
abbrev MX9_stateOf (G : GC) (w : Lay) (σ : Mem) (As : List Value) (Q : Lay → Option Value → Mem → Prop) (Qx : Lay → String → Mem → Prop) : Prop := MT G yX9_stateOf (cw yX9_stateOf cX9_stateOf 2 (some .int)) rmX9_stateOf 1 6 w σ As Q Qx
theorem mdX9_stateOf : yX9_stateOf.cls = "KitePermits" ∧ yX9_stateOf.cls ≠ "java/lang/invoke/MethodHandle" ∧ yX9_stateOf.cls ≠ "java/lang/invoke/VarHandle" ∧ (parseMethodDescriptor yX9_stateOf.desc).map (fun d => d.parameters.length) = some 1 := by decide +kernel
abbrev rmX9_zoneOf : Room := { frames := 7, cells := 1, slots := 6, locals := 111 }
abbrev rmX9_tangles : Room := { frames := 7, cells := 1, slots := 6, locals := 111 }
abbrev MX9_tangles (G : GC) (w : Lay) (σ : Mem) (As : List Value) (Q : Lay → Option Value → Mem → Prop) (Qx : Lay → String → Mem → Prop) : Prop := MT G yX9_tangles (cw yX9_tangles cX9_tangles 2 (some .int)) rmX9_tangles 1 6 w σ As Q Qx
theorem mdX9_tangles : yX9_tangles.cls = "KitePermits" ∧ yX9_tangles.cls ≠ "java/lang/invoke/MethodHandle" ∧ yX9_tangles.cls ≠ "java/lang/invoke/VarHandle" ∧ (parseMethodDescriptor yX9_tangles.desc).map (fun d => d.parameters.length) = some 1 := by decide +kernel
abbrev rmX9_reach : Room := { frames := 7, cells := 2, slots := 12, locals := 111 }
abbrev MX9_reach (G : GC) (w : Lay) (σ : Mem) (As : List Value) (Q : Lay → Option Value → Mem → Prop) (Qx : Lay → String → Mem → Prop) : Prop := MT G yX9_reach (cw yX9_reach cX9_reach 3 (some .int)) rmX9_reach 2 12 w σ As Q Qx
theorem mdX9_reach : yX9_reach.cls = "KitePermits" ∧ yX9_reach.cls ≠ "java/lang/invoke/MethodHandle" ∧ yX9_reach.cls ≠ "java/lang/invoke/VarHandle" ∧ (parseMethodDescriptor yX9_reach.desc).map (fun d => d.parameters.length) = some 2 := by decide +kernel
abbrev rmX9_endX : Room := { frames := 7, cells := 2, slots := 12, locals := 111 }
abbrev rmX9_endY : Room := { frames := 7, cells := 2, slots := 12, locals := 111 }
abbrev rmX9_canFly : Room := { frames := 7, cells := 2, slots := 12, locals := 111 }
abbrev MX9_canFly (G : GC) (w : Lay) (σ : Mem) (As : List Value) (Q : Lay → Option Value → Mem → Prop) (Qx : Lay → String → Mem → Prop) : Prop := MT G yX9_canFly (cw yX9_canFly cX9_canFly 3 (some .boolean)) rmX9_canFly 2 12 w σ As Q Qx
theorem mdX9_canFly : yX9_canFly.cls = "KitePermits" ∧ yX9_canFly.cls ≠ "java/lang/invoke/MethodHandle" ∧ yX9_canFly.cls ≠ "java/lang/invoke/VarHandle" ∧ (parseMethodDescriptor yX9_canFly.desc).map (fun d => d.parameters.length) = some 2 := by decide +kernel
abbrev rmX9_doCross : Room := { frames := 7, cells := 4, slots := 24, locals := 111 }
abbrev MX9_doCross (G : GC) (w : Lay) (σ : Mem) (As : List Value) (Q : Lay → Option Value → Mem → Prop) (Qx : Lay → String → Mem → Prop) : Prop := MT G yX9_doCross (cw yX9_doCross cX9_doCross 4 (some .boolean)) rmX9_doCross 4 24 w σ As Q Qx
theorem mdX9_doCross : yX9_doCross.cls = "KitePermits" ∧ yX9_doCross.cls ≠ "java/lang/invoke/MethodHandle" ∧ yX9_doCross.cls ≠ "java/lang/invoke/VarHandle" ∧ (parseMethodDescriptor yX9_doCross.desc).map (fun d => d.parameters.length) = some 3 := by decide +kernel
abbrev rmX9_permitCount : Room := { frames := 0, cells := 0, slots := 0, locals := 0 }
abbrev MX9_permitCount (G : GC) (w : Lay) (σ : Mem) (As : List Value) (Q : Lay → Option Value → Mem → Prop) (Qx : Lay → String → Mem → Prop) : Prop := MT G yX9_permitCount (cw yX9_permitCount cX9_permitCount 1 (some .int)) rmX9_permitCount 0 0 w σ As Q Qx
theorem mdX9_permitCount : yX9_permitCount.cls = "KitePermits" ∧ yX9_permitCount.cls ≠ "java/lang/invoke/MethodHandle" ∧ yX9_permitCount.cls ≠ "java/lang/invoke/VarHandle" ∧ (parseMethodDescriptor yX9_permitCount.desc).map (fun d => d.parameters.length) = some 0 := by decide +kernel
abbrev rmX9_permitKite : Room := { frames := 7, cells := 1, slots := 6, locals := 111 }
abbrev MX9_permitKite (G : GC) (w : Lay) (σ : Mem) (As : List Value) (Q : Lay → Option Value → Mem → Prop) (Qx : Lay → String → Mem → Prop) : Prop := MT G yX9_permitKite (cw yX9_permitKite cX9_permitKite 2 (some .int)) rmX9_permitKite 1 6 w σ As Q Qx
theorem mdX9_permitKite : yX9_permitKite.cls = "KitePermits" ∧ yX9_permitKite.cls ≠ "java/lang/invoke/MethodHandle" ∧ yX9_permitKite.cls ≠ "java/lang/invoke/VarHandle" ∧ (parseMethodDescriptor yX9_permitKite.desc).map (fun d => d.parameters.length) = some 1 := by decide +kernel
abbrev rmX9_permitStart : Room := { frames := 7, cells := 1, slots := 6, locals := 111 }
abbrev MX9_permitStart (G : GC) (w : Lay) (σ : Mem) (As : List Value) (Q : Lay → Option Value → Mem → Prop) (Qx : Lay → String → Mem → Prop) : Prop := MT G yX9_permitStart (cw yX9_permitStart cX9_permitStart 2 (some .int)) rmX9_permitStart 1 6 w σ As Q Qx
theorem mdX9_permitStart : yX9_permitStart.cls = "KitePermits" ∧ yX9_permitStart.cls ≠ "java/lang/invoke/MethodHandle" ∧ yX9_permitStart.cls ≠ "java/lang/invoke/VarHandle" ∧ (parseMethodDescriptor yX9_permitStart.desc).map (fun d => d.parameters.length) = some 1 := by decide +kernel
abbrev rmX9_permitDuration : Room := { frames := 7, cells := 1, slots := 6, locals := 111 }
abbrev MX9_permitDuration (G : GC) (w : Lay) (σ : Mem) (As : List Value) (Q : Lay → Option Value → Mem → Prop) (Qx : Lay → String → Mem → Prop) : Prop := MT G yX9_permitDuration (cw yX9_permitDuration cX9_permitDuration 2 (some .int)) rmX9_permitDuration 1 6 w σ As Q Qx
theorem mdX9_permitDuration : yX9_permitDuration.cls = "KitePermits" ∧ yX9_permitDuration.cls ≠ "java/lang/invoke/MethodHandle" ∧ yX9_permitDuration.cls ≠ "java/lang/invoke/VarHandle" ∧ (parseMethodDescriptor yX9_permitDuration.desc).map (fun d => d.parameters.length) = some 1 := by decide +kernel
abbrev rmX9_hasPermit : Room := { frames := 7, cells := 2, slots := 12, locals := 111 }
abbrev MX9_hasPermit (G : GC) (w : Lay) (σ : Mem) (As : List Value) (Q : Lay → Option Value → Mem → Prop) (Qx : Lay → String → Mem → Prop) : Prop := MT G yX9_hasPermit (cw yX9_hasPermit cX9_hasPermit 3 (some .boolean)) rmX9_hasPermit 2 12 w σ As Q Qx
theorem mdX9_hasPermit : yX9_hasPermit.cls = "KitePermits" ∧ yX9_hasPermit.cls ≠ "java/lang/invoke/MethodHandle" ∧ yX9_hasPermit.cls ≠ "java/lang/invoke/VarHandle" ∧ (parseMethodDescriptor yX9_hasPermit.desc).map (fun d => d.parameters.length) = some 2 := by decide +kernel
abbrev rmX9_whyNotPermit : Room := { frames := 8, cells := 3, slots := 18, locals := 158 }
abbrev MX9_whyNotPermit (G : GC) (w : Lay) (σ : Mem) (As : List Value) (Q : Lay → Option Value → Mem → Prop) (Qx : Lay → String → Mem → Prop) : Prop := MT G yX9_whyNotPermit (cw yX9_whyNotPermit cX9_whyNotPermit 4 (some .int)) rmX9_whyNotPermit 3 18 w σ As Q Qx
theorem mdX9_whyNotPermit : yX9_whyNotPermit.cls = "KitePermits" ∧ yX9_whyNotPermit.cls ≠ "java/lang/invoke/MethodHandle" ∧ yX9_whyNotPermit.cls ≠ "java/lang/invoke/VarHandle" ∧ (parseMethodDescriptor yX9_whyNotPermit.desc).map (fun d => d.parameters.length) = some 3 := by decide +kernel
abbrev rmX9_kiteInTheWay : Room := { frames := 8, cells := 3, slots := 18, locals := 135 }
abbrev MX9_kiteInTheWay (G : GC) (w : Lay) (σ : Mem) (As : List Value) (Q : Lay → Option Value → Mem → Prop) (Qx : Lay → String → Mem → Prop) : Prop := MT G yX9_kiteInTheWay (cw yX9_kiteInTheWay cX9_kiteInTheWay 4 (some .int)) rmX9_kiteInTheWay 3 18 w σ As Q Qx
theorem mdX9_kiteInTheWay : yX9_kiteInTheWay.cls = "KitePermits" ∧ yX9_kiteInTheWay.cls ≠ "java/lang/invoke/MethodHandle" ∧ yX9_kiteInTheWay.cls ≠ "java/lang/invoke/VarHandle" ∧ (parseMethodDescriptor yX9_kiteInTheWay.desc).map (fun d => d.parameters.length) = some 3 := by decide +kernel
abbrev rmX9_earliestStart : Room := { frames := 7, cells := 2, slots := 12, locals := 158 }
abbrev rmX9_bestKnots : Room := { frames := 7, cells := 2, slots := 12, locals := 111 }
abbrev rmX9_guiltyKite : Room := { frames := 7, cells := 5, slots := 30, locals := 112 }
abbrev rmX9_verdictsIn : Room := { frames := 7, cells := 1, slots := 6, locals := 141 }
abbrev rmX9_officeCoins : Room := { frames := 0, cells := 0, slots := 0, locals := 0 }
abbrev MX9_officeCoins (G : GC) (w : Lay) (σ : Mem) (As : List Value) (Q : Lay → Option Value → Mem → Prop) (Qx : Lay → String → Mem → Prop) : Prop := MT G yX9_officeCoins (cw yX9_officeCoins cX9_officeCoins 1 (some .int)) rmX9_officeCoins 0 0 w σ As Q Qx
theorem mdX9_officeCoins : yX9_officeCoins.cls = "KitePermits" ∧ yX9_officeCoins.cls ≠ "java/lang/invoke/MethodHandle" ∧ yX9_officeCoins.cls ≠ "java/lang/invoke/VarHandle" ∧ (parseMethodDescriptor yX9_officeCoins.desc).map (fun d => d.parameters.length) = some 0 := by decide +kernel
abbrev rmX9_coinError : Room := { frames := 1, cells := 0, slots := 0, locals := 22 }
abbrev MX9_coinError (G : GC) (w : Lay) (σ : Mem) (As : List Value) (Q : Lay → Option Value → Mem → Prop) (Qx : Lay → String → Mem → Prop) : Prop := MT G yX9_coinError (cw yX9_coinError cX9_coinError 1 (some .int)) rmX9_coinError 0 0 w σ As Q Qx
theorem mdX9_coinError : yX9_coinError.cls = "KitePermits" ∧ yX9_coinError.cls ≠ "java/lang/invoke/MethodHandle" ∧ yX9_coinError.cls ≠ "java/lang/invoke/VarHandle" ∧ (parseMethodDescriptor yX9_coinError.desc).map (fun d => d.parameters.length) = some 0 := by decide +kernel
abbrev rmX9_permittedCrossings : Room := { frames := 5, cells := 0, slots := 0, locals := 132 }
abbrev MX9_permittedCrossings (G : GC) (w : Lay) (σ : Mem) (As : List Value) (Q : Lay → Option Value → Mem → Prop) (Qx : Lay → String → Mem → Prop) : Prop := MT G yX9_permittedCrossings (cw yX9_permittedCrossings cX9_permittedCrossings 1 (some .int)) rmX9_permittedCrossings 0 0 w σ As Q Qx
theorem mdX9_permittedCrossings : yX9_permittedCrossings.cls = "KitePermits" ∧ yX9_permittedCrossings.cls ≠ "java/lang/invoke/MethodHandle" ∧ yX9_permittedCrossings.cls ≠ "java/lang/invoke/VarHandle" ∧ (parseMethodDescriptor yX9_permittedCrossings.desc).map (fun d => d.parameters.length) = some 0 := by decide +kernel
abbrev rmX9_meanReach : Room := { frames := 4, cells := 0, slots := 0, locals := 89 }
abbrev rmX9_tangledShare : Room := { frames := 1, cells := 0, slots := 0, locals := 23 }
abbrev rmX9_writePermits : Room := { frames := 3, cells := 0, slots := 0, locals := 65 }
abbrev rmX9_outputByte : Room := { frames := 0, cells := 0, slots := 0, locals := 0 }
abbrev rmX9_requireBetween : Room := { frames := 6, cells := 1, slots := 6, locals := 90 }
abbrev MX9_requireBetween (G : GC) (w : Lay) (σ : Mem) (As : List Value) (Q : Lay → Option Value → Mem → Prop) (Qx : Lay → String → Mem → Prop) : Prop := MT G yX9_requireBetween (cw yX9_requireBetween cX9_requireBetween 3 (none)) rmX9_requireBetween 1 6 w σ As Q Qx
theorem mdX9_requireBetween : yX9_requireBetween.cls = "KitePermits" ∧ yX9_requireBetween.cls ≠ "java/lang/invoke/MethodHandle" ∧ yX9_requireBetween.cls ≠ "java/lang/invoke/VarHandle" ∧ (parseMethodDescriptor yX9_requireBetween.desc).map (fun d => d.parameters.length) = some 3 := by decide +kernel
abbrev rmX9_requireHour : Room := { frames := 6, cells := 1, slots := 6, locals := 90 }
abbrev MX9_requireHour (G : GC) (w : Lay) (σ : Mem) (As : List Value) (Q : Lay → Option Value → Mem → Prop) (Qx : Lay → String → Mem → Prop) : Prop := MT G yX9_requireHour (cw yX9_requireHour cX9_requireHour 1 (none)) rmX9_requireHour 1 6 w σ As Q Qx
theorem mdX9_requireHour : yX9_requireHour.cls = "KitePermits" ∧ yX9_requireHour.cls ≠ "java/lang/invoke/MethodHandle" ∧ yX9_requireHour.cls ≠ "java/lang/invoke/VarHandle" ∧ (parseMethodDescriptor yX9_requireHour.desc).map (fun d => d.parameters.length) = some 1 := by decide +kernel
abbrev rmX9_requireDifferent : Room := { frames := 6, cells := 1, slots := 6, locals := 90 }
abbrev MX9_requireDifferent (G : GC) (w : Lay) (σ : Mem) (As : List Value) (Q : Lay → Option Value → Mem → Prop) (Qx : Lay → String → Mem → Prop) : Prop := MT G yX9_requireDifferent (cw yX9_requireDifferent cX9_requireDifferent 2 (none)) rmX9_requireDifferent 1 6 w σ As Q Qx
theorem mdX9_requireDifferent : yX9_requireDifferent.cls = "KitePermits" ∧ yX9_requireDifferent.cls ≠ "java/lang/invoke/MethodHandle" ∧ yX9_requireDifferent.cls ≠ "java/lang/invoke/VarHandle" ∧ (parseMethodDescriptor yX9_requireDifferent.desc).map (fun d => d.parameters.length) = some 2 := by decide +kernel
abbrev rmX9_requireKite : Room := { frames := 6, cells := 1, slots := 6, locals := 90 }
abbrev MX9_requireKite (G : GC) (w : Lay) (σ : Mem) (As : List Value) (Q : Lay → Option Value → Mem → Prop) (Qx : Lay → String → Mem → Prop) : Prop := MT G yX9_requireKite (cw yX9_requireKite cX9_requireKite 2 (none)) rmX9_requireKite 1 6 w σ As Q Qx
theorem mdX9_requireKite : yX9_requireKite.cls = "KitePermits" ∧ yX9_requireKite.cls ≠ "java/lang/invoke/MethodHandle" ∧ yX9_requireKite.cls ≠ "java/lang/invoke/VarHandle" ∧ (parseMethodDescriptor yX9_requireKite.desc).map (fun d => d.parameters.length) = some 1 := by decide +kernel
abbrev rmX9_requireState : Room := { frames := 6, cells := 1, slots := 6, locals := 90 }
abbrev MX9_requireState (G : GC) (w : Lay) (σ : Mem) (As : List Value) (Q : Lay → Option Value → Mem → Prop) (Qx : Lay → String → Mem → Prop) : Prop := MT G yX9_requireState (cw yX9_requireState cX9_requireState 3 (none)) rmX9_requireState 1 6 w σ As Q Qx
theorem mdX9_requireState : yX9_requireState.cls = "KitePermits" ∧ yX9_requireState.cls ≠ "java/lang/invoke/MethodHandle" ∧ yX9_requireState.cls ≠ "java/lang/invoke/VarHandle" ∧ (parseMethodDescriptor yX9_requireState.desc).map (fun d => d.parameters.length) = some 2 := by decide +kernel
abbrev rmX9_requireZone : Room := { frames := 6, cells := 1, slots := 6, locals := 90 }
abbrev rmX9_requireColour : Room := { frames := 6, cells := 1, slots := 6, locals := 90 }
abbrev MX9_requireColour (G : GC) (w : Lay) (σ : Mem) (As : List Value) (Q : Lay → Option Value → Mem → Prop) (Qx : Lay → String → Mem → Prop) : Prop := MT G yX9_requireColour (cw yX9_requireColour cX9_requireColour 2 (none)) rmX9_requireColour 1 6 w σ As Q Qx
theorem mdX9_requireColour : yX9_requireColour.cls = "KitePermits" ∧ yX9_requireColour.cls ≠ "java/lang/invoke/MethodHandle" ∧ yX9_requireColour.cls ≠ "java/lang/invoke/VarHandle" ∧ (parseMethodDescriptor yX9_requireColour.desc).map (fun d => d.parameters.length) = some 1 := by decide +kernel
abbrev rmX9_requirePermit : Room := { frames := 6, cells := 1, slots := 6, locals := 90 }
abbrev MX9_requirePermit (G : GC) (w : Lay) (σ : Mem) (As : List Value) (Q : Lay → Option Value → Mem → Prop) (Qx : Lay → String → Mem → Prop) : Prop := MT G yX9_requirePermit (cw yX9_requirePermit cX9_requirePermit 2 (none)) rmX9_requirePermit 1 6 w σ As Q Qx
theorem mdX9_requirePermit : yX9_requirePermit.cls = "KitePermits" ∧ yX9_requirePermit.cls ≠ "java/lang/invoke/MethodHandle" ∧ yX9_requirePermit.cls ≠ "java/lang/invoke/VarHandle" ∧ (parseMethodDescriptor yX9_requirePermit.desc).map (fun d => d.parameters.length) = some 1 := by decide +kernel
abbrev rmX9_requirePermitArguments : Room := { frames := 7, cells := 3, slots := 18, locals := 112 }
abbrev MX9_requirePermitArguments (G : GC) (w : Lay) (σ : Mem) (As : List Value) (Q : Lay → Option Value → Mem → Prop) (Qx : Lay → String → Mem → Prop) : Prop := MT G yX9_requirePermitArguments (cw yX9_requirePermitArguments cX9_requirePermitArguments 4 (none)) rmX9_requirePermitArguments 3 18 w σ As Q Qx
theorem mdX9_requirePermitArguments : yX9_requirePermitArguments.cls = "KitePermits" ∧ yX9_requirePermitArguments.cls ≠ "java/lang/invoke/MethodHandle" ∧ yX9_requirePermitArguments.cls ≠ "java/lang/invoke/VarHandle" ∧ (parseMethodDescriptor yX9_requirePermitArguments.desc).map (fun d => d.parameters.length) = some 3 := by decide +kernel
abbrev rmX10_init : Room := { frames := 1, cells := 0, slots := 0, locals := 27 }
abbrev rmX10_clear : Room := { frames := 0, cells := 0, slots := 0, locals := 0 }
abbrev rmX10_field : Room := { frames := 0, cells := 0, slots := 0, locals := 0 }
abbrev rmX10_zone : Room := { frames := 0, cells := 0, slots := 0, locals := 0 }
abbrev rmX10_wind : Room := { frames := 0, cells := 0, slots := 0, locals := 0 }
abbrev rmX10_colour : Room := { frames := 0, cells := 0, slots := 0, locals := 0 }
abbrev rmX10_kite : Room := { frames := 0, cells := 0, slots := 0, locals := 0 }
abbrev rmX10_thrown : Room := { frames := 0, cells := 0, slots := 0, locals := 0 }
abbrev rmX10_put : Room := { frames := 0, cells := 0, slots := 0, locals := 0 }
abbrev rmX10_take : Room := { frames := 0, cells := 0, slots := 0, locals := 0 }
abbrev rmX10_act : Room := { frames := 1, cells := 0, slots := 0, locals := 22 }
abbrev rmX10_fail : Room := { frames := 0, cells := 0, slots := 0, locals := 0 }
abbrev rmX10_not : Room := { frames := 0, cells := 0, slots := 0, locals := 0 }
abbrev rmX10_in : Room := { frames := 0, cells := 0, slots := 0, locals := 0 }
abbrev rmX10_less : Room := { frames := 0, cells := 0, slots := 0, locals := 0 }
abbrev rmX10_more : Room := { frames := 0, cells := 0, slots := 0, locals := 0 }
abbrev rmX10_isHour : Room := { frames := 1, cells := 0, slots := 0, locals := 22 }
abbrev rmX10_isZ : Room := { frames := 1, cells := 0, slots := 0, locals := 22 }
abbrev rmX10_isC : Room := { frames := 1, cells := 0, slots := 0, locals := 22 }
abbrev rmX10_isK : Room := { frames := 1, cells := 0, slots := 0, locals := 22 }
abbrev rmX10_isP : Room := { frames := 1, cells := 0, slots := 0, locals := 22 }
abbrev rmX10_of : Room := { frames := 0, cells := 0, slots := 0, locals := 0 }
abbrev rmX10_zoneAt : Room := { frames := 1, cells := 0, slots := 0, locals := 22 }
abbrev rmX10_direction : Room := { frames := 0, cells := 0, slots := 0, locals := 0 }
abbrev rmX10_force : Room := { frames := 0, cells := 0, slots := 0, locals := 0 }
abbrev rmX10_dx : Room := { frames := 0, cells := 0, slots := 0, locals := 0 }
abbrev rmX10_dy : Room := { frames := 0, cells := 0, slots := 0, locals := 0 }
abbrev rmX10_reachWith : Room := { frames := 2, cells := 0, slots := 0, locals := 43 }
abbrev rmX10_reachOf : Room := { frames := 3, cells := 0, slots := 0, locals := 67 }
abbrev rmX10_xAfter : Room := { frames := 2, cells := 0, slots := 0, locals := 43 }
abbrev rmX10_yAfter : Room := { frames := 2, cells := 0, slots := 0, locals := 43 }
abbrev rmX10_xEnd : Room := { frames := 4, cells := 0, slots := 0, locals := 89 }
abbrev rmX10_yEnd : Room := { frames := 4, cells := 0, slots := 0, locals := 89 }
abbrev rmX10_fliesWith : Room := { frames := 3, cells := 0, slots := 0, locals := 67 }
abbrev rmX10_flies : Room := { frames := 4, cells := 0, slots := 0, locals := 91 }
abbrev rmX10_side : Room := { frames := 0, cells := 0, slots := 0, locals := 0 }
abbrev rmX10_inBox : Room := { frames := 1, cells := 0, slots := 0, locals := 22 }
abbrev rmX10_cross : Room := { frames := 5, cells := 0, slots := 0, locals := 111 }
abbrev rmX10_covers : Room := { frames := 1, cells := 0, slots := 0, locals := 22 }
abbrev rmX10_permitted : Room := { frames := 2, cells := 0, slots := 0, locals := 45 }
abbrev rmX10_used : Room := { frames := 2, cells := 0, slots := 0, locals := 45 }
abbrev rmX10_crossedIn : Room := { frames := 6, cells := 0, slots := 0, locals := 146 }
abbrev rmX10_inTheWay : Room := { frames := 7, cells := 0, slots := 0, locals := 169 }
abbrev rmX10_refusal : Room := { frames := 8, cells := 0, slots := 0, locals := 195 }
abbrev rmX10_granted : Room := { frames := 0, cells := 0, slots := 0, locals := 0 }
abbrev rmX10_remove : Room := { frames := 0, cells := 0, slots := 0, locals := 0 }
abbrev rmX10_cancelled : Room := { frames := 1, cells := 0, slots := 0, locals := 22 }
abbrev rmX10_canLaunch : Room := { frames := 5, cells := 0, slots := 0, locals := 113 }
abbrev rmX10_launched : Room := { frames := 4, cells := 0, slots := 0, locals := 89 }
abbrev rmX10_count : Room := { frames := 1, cells := 0, slots := 0, locals := 22 }
abbrev rmX10_landed : Room := { frames := 2, cells := 0, slots := 0, locals := 45 }
abbrev rmX10_guilty : Room := { frames := 3, cells := 0, slots := 0, locals := 68 }
abbrev rmX10_verdict : Room := { frames := 4, cells := 0, slots := 0, locals := 92 }
abbrev rmX10_pass : Room := { frames := 6, cells := 0, slots := 0, locals := 146 }
abbrev rmX10_passed : Room := { frames := 7, cells := 0, slots := 0, locals := 170 }
abbrev rmX10_tied : Room := { frames := 2, cells := 0, slots := 0, locals := 45 }
abbrev rmX10_canRepair : Room := { frames := 1, cells := 0, slots := 0, locals := 22 }
abbrev rmX10_repaired : Room := { frames := 1, cells := 0, slots := 0, locals := 22 }
abbrev rmX10_funded : Room := { frames := 1, cells := 0, slots := 0, locals := 22 }
abbrev rmX10_next : Room := { frames := 1, cells := 0, slots := 0, locals := 21 }
abbrev rmX10_letter : Room := { frames := 0, cells := 0, slots := 0, locals := 0 }
abbrev rmX10_digit : Room := { frames := 0, cells := 0, slots := 0, locals := 0 }
abbrev rmX10_isWord : Room := { frames := 0, cells := 0, slots := 0, locals := 0 }
abbrev rmX10_wrong : Room := { frames := 0, cells := 0, slots := 0, locals := 0 }
abbrev rmX10_numeral : Room := { frames := 2, cells := 0, slots := 0, locals := 41 }
abbrev rmX10_ends : Room := { frames := 2, cells := 0, slots := 0, locals := 41 }
abbrev rmX10_one : Room := { frames := 3, cells := 0, slots := 0, locals := 63 }
abbrev rmX10_zoneText : Room := { frames := 3, cells := 0, slots := 0, locals := 63 }
abbrev rmX10_colourText : Room := { frames := 3, cells := 0, slots := 0, locals := 63 }
abbrev rmX10_kiteText : Room := { frames := 4, cells := 0, slots := 0, locals := 86 }
abbrev rmX10_fieldText : Room := { frames := 4, cells := 0, slots := 0, locals := 86 }
abbrev rmX10_setup : Room := { frames := 5, cells := 0, slots := 0, locals := 106 }
abbrev rmX10_verb : Room := { frames := 1, cells := 0, slots := 0, locals := 22 }
abbrev rmX10_rest : Room := { frames := 4, cells := 0, slots := 0, locals := 86 }
abbrev rmX10_script : Room := { frames := 5, cells := 0, slots := 0, locals := 108 }
abbrev rmX10_does : Room := { frames := 9, cells := 0, slots := 0, locals := 221 }
abbrev rmX10_four : Room := { frames := 0, cells := 0, slots := 0, locals := 0 }
abbrev rmX10_append : Room := { frames := 1, cells := 0, slots := 0, locals := 22 }
abbrev rmX10_truncate : Room := { frames := 1, cells := 0, slots := 0, locals := 22 }
abbrev rmX10_errorCode : Room := { frames := 0, cells := 0, slots := 0, locals := 0 }
abbrev rmX10_errorPosition : Room := { frames := 0, cells := 0, slots := 0, locals := 0 }
abbrev rmX10_right : Room := { frames := 0, cells := 0, slots := 0, locals := 0 }
abbrev rmX10_loadSetup : Room := { frames := 6, cells := 0, slots := 0, locals := 126 }
abbrev rmX10_runScript : Room := { frames := 10, cells := 0, slots := 0, locals := 245 }
abbrev rmX10_addKite : Room := { frames := 2, cells := 0, slots := 0, locals := 43 }
abbrev rmX10_launch : Room := { frames := 6, cells := 0, slots := 0, locals := 134 }
abbrev rmX10_land : Room := { frames := 3, cells := 0, slots := 0, locals := 66 }
abbrev rmX10_passHours : Room := { frames := 8, cells := 0, slots := 0, locals := 193 }
abbrev rmX10_permit : Room := { frames := 9, cells := 0, slots := 0, locals := 221 }
abbrev rmX10_cancelPermits : Room := { frames := 2, cells := 0, slots := 0, locals := 45 }
abbrev rmX10_tieKnots : Room := { frames := 3, cells := 0, slots := 0, locals := 68 }
abbrev rmX10_repair : Room := { frames := 2, cells := 0, slots := 0, locals := 44 }
abbrev rmX10_fund : Room := { frames := 2, cells := 0, slots := 0, locals := 46 }
abbrev rmX10_undo : Room := { frames := 1, cells := 0, slots := 0, locals := 22 }
abbrev rmX10_saveSnapshot : Room := { frames := 1, cells := 0, slots := 0, locals := 22 }
abbrev rmX10_restoreSnapshot : Room := { frames := 2, cells := 0, slots := 0, locals := 42 }
abbrev rmX10_hour : Room := { frames := 0, cells := 0, slots := 0, locals := 0 }
abbrev rmX10_width : Room := { frames := 0, cells := 0, slots := 0, locals := 0 }
abbrev rmX10_height : Room := { frames := 0, cells := 0, slots := 0, locals := 0 }
abbrev rmX10_fee : Room := { frames := 0, cells := 0, slots := 0, locals := 0 }
abbrev rmX10_fine : Room := { frames := 0, cells := 0, slots := 0, locals := 0 }
abbrev rmX10_zoneCount : Room := { frames := 0, cells := 0, slots := 0, locals := 0 }
abbrev rmX10_windDirection : Room := { frames := 2, cells := 0, slots := 0, locals := 43 }
abbrev rmX10_windForce : Room := { frames := 2, cells := 0, slots := 0, locals := 43 }
abbrev rmX10_colourCount : Room := { frames := 0, cells := 0, slots := 0, locals := 0 }
abbrev rmX10_quota : Room := { frames := 2, cells := 0, slots := 0, locals := 43 }
abbrev rmX10_quotaUsed : Room := { frames := 3, cells := 0, slots := 0, locals := 69 }
abbrev rmX10_kiteCount : Room := { frames := 0, cells := 0, slots := 0, locals := 0 }
abbrev rmX10_anchorX : Room := { frames := 2, cells := 0, slots := 0, locals := 43 }
abbrev rmX10_anchorY : Room := { frames := 2, cells := 0, slots := 0, locals := 43 }
abbrev rmX10_stringLength : Room := { frames := 2, cells := 0, slots := 0, locals := 43 }
abbrev rmX10_colourOf : Room := { frames := 2, cells := 0, slots := 0, locals := 43 }
abbrev rmX10_knots : Room := { frames := 2, cells := 0, slots := 0, locals := 43 }
abbrev rmX10_purse : Room := { frames := 2, cells := 0, slots := 0, locals := 43 }
abbrev rmX10_stateOf : Room := { frames := 2, cells := 0, slots := 0, locals := 43 }
abbrev rmX10_zoneOf : Room := { frames := 2, cells := 0, slots := 0, locals := 43 }
abbrev rmX10_tangles : Room := { frames := 2, cells := 0, slots := 0, locals := 43 }
abbrev rmX10_asks : Room := { frames := 2, cells := 0, slots := 0, locals := 43 }
abbrev rmX10_reach : Room := { frames := 4, cells := 0, slots := 0, locals := 89 }
abbrev rmX10_endX : Room := { frames := 5, cells := 0, slots := 0, locals := 111 }
abbrev rmX10_endY : Room := { frames := 5, cells := 0, slots := 0, locals := 111 }
abbrev rmX10_canFly : Room := { frames := 5, cells := 0, slots := 0, locals := 113 }
abbrev rmX10_doCross : Room := { frames := 6, cells := 0, slots := 0, locals := 146 }
abbrev rmX10_permitCount : Room := { frames := 0, cells := 0, slots := 0, locals := 0 }
abbrev rmX10_permitKite : Room := { frames := 2, cells := 0, slots := 0, locals := 43 }
abbrev rmX10_permitStart : Room := { frames := 2, cells := 0, slots := 0, locals := 43 }
abbrev rmX10_permitDuration : Room := { frames := 2, cells := 0, slots := 0, locals := 43 }
abbrev rmX10_hasPermit : Room := { frames := 3, cells := 0, slots := 0, locals := 68 }
abbrev rmX10_whyNotPermit : Room := { frames := 9, cells := 0, slots := 0, locals := 221 }
abbrev rmX10_kiteInTheWay : Room := { frames := 8, cells := 0, slots := 0, locals := 195 }
abbrev rmX10_earliestStart : Room := { frames := 9, cells := 0, slots := 0, locals := 221 }
abbrev rmX10_bestKnots : Room := { frames := 4, cells := 0, slots := 0, locals := 91 }
abbrev rmX10_guiltyKite : Room := { frames := 4, cells := 0, slots := 0, locals := 92 }
abbrev rmX10_verdictsIn : Room := { frames := 8, cells := 0, slots := 0, locals := 193 }
abbrev rmX10_officeCoins : Room := { frames := 0, cells := 0, slots := 0, locals := 0 }
abbrev rmX10_coinError : Room := { frames := 1, cells := 0, slots := 0, locals := 22 }
abbrev rmX10_crossings : Room := { frames := 6, cells := 0, slots := 0, locals := 146 }
abbrev rmX10_permittedCrossings : Room := { frames := 7, cells := 0, slots := 0, locals := 172 }
abbrev rmX10_meanReach : Room := { frames := 4, cells := 0, slots := 0, locals := 89 }
abbrev rmX10_tangledShare : Room := { frames := 2, cells := 0, slots := 0, locals := 45 }
abbrev rmX10_write : Room := { frames := 0, cells := 0, slots := 0, locals := 0 }
abbrev rmX10_writePermits : Room := { frames := 1, cells := 0, slots := 0, locals := 22 }
abbrev rmX10_outputByte : Room := { frames := 1, cells := 0, slots := 0, locals := 22 }
abbrev rmJ9_max_7cf53 : Room := { frames := 0, cells := 0, slots := 0, locals := 0 }
abbrev MJ9_max_7cf53 (G : GC) (w : Lay) (σ : Mem) (As : List Value) (Q : Lay → Option Value → Mem → Prop) (Qx : Lay → String → Mem → Prop) : Prop := MT G yJ9_max_7cf53 (cw yJ9_max_7cf53 cJ9_max_7cf53 2 (some .int)) rmJ9_max_7cf53 0 0 w σ As Q Qx
theorem mdJ9_max_7cf53 : yJ9_max_7cf53.cls = "java/lang/Math" ∧ yJ9_max_7cf53.cls ≠ "java/lang/invoke/MethodHandle" ∧ yJ9_max_7cf53.cls ≠ "java/lang/invoke/VarHandle" ∧ (parseMethodDescriptor yJ9_max_7cf53.desc).map (fun d => d.parameters.length) = some 2 := by decide +kernel
abbrev rmJ9_min_7cf53 : Room := { frames := 0, cells := 0, slots := 0, locals := 0 }
abbrev MJ9_min_7cf53 (G : GC) (w : Lay) (σ : Mem) (As : List Value) (Q : Lay → Option Value → Mem → Prop) (Qx : Lay → String → Mem → Prop) : Prop := MT G yJ9_min_7cf53 (cw yJ9_min_7cf53 cJ9_min_7cf53 2 (some .int)) rmJ9_min_7cf53 0 0 w σ As Q Qx
theorem mdJ9_min_7cf53 : yJ9_min_7cf53.cls = "java/lang/Math" ∧ yJ9_min_7cf53.cls ≠ "java/lang/invoke/MethodHandle" ∧ yJ9_min_7cf53.cls ≠ "java/lang/invoke/VarHandle" ∧ (parseMethodDescriptor yJ9_min_7cf53.desc).map (fun d => d.parameters.length) = some 2 := by decide +kernel
abbrev rmJ0_length_8abf5 : Room := { frames := 1, cells := 0, slots := 0, locals := 20 }
abbrev rmJ0_charAt_5068e : Room := { frames := 4, cells := 0, slots := 0, locals := 85 }
abbrev rmJ0_coder_7d493 : Room := { frames := 0, cells := 0, slots := 0, locals := 0 }
abbrev rmJ0_isLatin1_aae02 : Room := { frames := 0, cells := 0, slots := 0, locals := 0 }
abbrev rmJ0_checkIndex_df160 : Room := { frames := 1, cells := 0, slots := 0, locals := 22 }
abbrev rmJ1_charAt_3b067 : Room := { frames := 2, cells := 0, slots := 0, locals := 43 }
abbrev rmJ2_getChar_3b067 : Room := { frames := 1, cells := 0, slots := 0, locals := 20 }
abbrev rmJ2_length_9d52b : Room := { frames := 0, cells := 0, slots := 0, locals := 0 }
abbrev rmJ2_charAt_3b067 : Room := { frames := 3, cells := 0, slots := 0, locals := 64 }
abbrev rmJ2_checkIndex_2214a : Room := { frames := 2, cells := 0, slots := 0, locals := 43 }
abbrev rmJ3_checkIndex_8e157 : Room := { frames := 0, cells := 0, slots := 0, locals := 0 }
section JI
variable {G : GC} {E : Ctx} {cc : ByteArray} {nL : Nat} {R0 : Room} {w : Lay} {kc ks pc : Nat} {ls : List (Option Value)} {st : List Value} {σ : Mem} {o : Nat}
theorem iX2_22 (C : Cx G E cc RX2 nL R0) (hw : LO w o) {a1 : Value} (hls : ls.length = nL) (hroom : rmX4_copyFrom.frames + 1 ≤ R0.frames ∧ 8 + (2 + 11) + rmX4_copyFrom.locals ≤ R0.locals) (hcs : kc + 0 ≤ R0.cells ∧ ks + 0 ≤ R0.slots) (hst : (st.map fun v => v.category).sum ≤ 8) (hd : decode cc pc = .ok (.invokevirtual 22, 3)) (hM : MX4_copyFrom G w σ [.ref (w.2.1 o 0), a1] (fun w' r σ' => J G E w' (kc + 0) (ks + 0) (pc + 3) ls (r.toList ++ st) σ') (fun w' X σ' => JX G E w' (kc + 0) (ks + 0) pc ls st σ' X)) : J G E w kc ks pc ls (a1 :: .ref (w.2.1 o 0) :: st) σ :=
  J_invV C hls (As := [a1]) rfl (hw.2.1 0 (by decide)) (kd_o hw.1) rfl (goodV q4_70 q4_71 q4_72 q1_2 q4_73) mdX4_copyFrom rfl rfl hroom rfl hcs hst hd hM
theorem iX4_36 (C : Cx G E cc RX4 nL R0) (hw : LO w o) {a1 : Value} (hls : ls.length = nL) (hroom : rmX0_copyFrom.frames + 1 ≤ R0.frames ∧ 8 + (2 + 11) + rmX0_copyFrom.locals ≤ R0.locals) (hcs : kc + 0 ≤ R0.cells ∧ ks + 0 ≤ R0.slots) (hst : (st.map fun v => v.category).sum ≤ 8) (hd : decode cc pc = .ok (.invokevirtual 36, 3)) (hM : MX0_copyFrom G w σ [.ref (w.2.1 o 1), a1] (fun w' r σ' => J G E w' (kc + 0) (ks + 0) (pc + 3) ls (r.toList ++ st) σ') (fun w' X σ' => JX G E w' (kc + 0) (ks + 0) pc ls st σ' X)) : J G E w kc ks pc ls (a1 :: .ref (w.2.1 o 1) :: st) σ :=
  J_invV C hls (As := [a1]) rfl (hw.2.1 1 (by decide)) (kd_o hw.1) rfl (goodV q4_74 q4_75 q4_76 q1_3 q4_77) mdX0_copyFrom rfl rfl hroom rfl hcs hst hd hM
theorem iX4_40 (C : Cx G E cc RX4 nL R0) (hw : LO w o) {a1 : Value} (hls : ls.length = nL) (hroom : rmX1_copyFrom.frames + 1 ≤ R0.frames ∧ 8 + (2 + 11) + rmX1_copyFrom.locals ≤ R0.locals) (hcs : kc + 0 ≤ R0.cells ∧ ks + 0 ≤ R0.slots) (hst : (st.map fun v => v.category).sum ≤ 8) (hd : decode cc pc = .ok (.invokevirtual 40, 3)) (hM : MX1_copyFrom G w σ [.ref (w.2.1 o 6), a1] (fun w' r σ' => J G E w' (kc + 0) (ks + 0) (pc + 3) ls (r.toList ++ st) σ') (fun w' X σ' => JX G E w' (kc + 0) (ks + 0) pc ls st σ' X)) : J G E w kc ks pc ls (a1 :: .ref (w.2.1 o 6) :: st) σ :=
  J_invV C hls (As := [a1]) rfl (hw.2.1 6 (by decide)) (kd_o hw.1) rfl (goodV q4_81 q4_82 q4_83 q1_4 q4_84) mdX1_copyFrom rfl rfl hroom rfl hcs hst hd hM
theorem iX4_43 (C : Cx G E cc RX4 nL R0) (hw : LO w o) {a1 : Value} (hls : ls.length = nL) (hroom : rmX6_copyFrom.frames + 1 ≤ R0.frames ∧ 8 + (2 + 11) + rmX6_copyFrom.locals ≤ R0.locals) (hcs : kc + 0 ≤ R0.cells ∧ ks + 0 ≤ R0.slots) (hst : (st.map fun v => v.category).sum ≤ 8) (hd : decode cc pc = .ok (.invokevirtual 43, 3)) (hM : MX6_copyFrom G w σ [.ref (w.2.1 o 17), a1] (fun w' r σ' => J G E w' (kc + 0) (ks + 0) (pc + 3) ls (r.toList ++ st) σ') (fun w' X σ' => JX G E w' (kc + 0) (ks + 0) pc ls st σ' X)) : J G E w kc ks pc ls (a1 :: .ref (w.2.1 o 17) :: st) σ :=
  J_invV C hls (As := [a1]) rfl (hw.2.1 17 (by decide)) (kd_o hw.1) rfl (goodV q4_86 q4_87 q4_88 q1_5 q4_89) mdX6_copyFrom rfl rfl hroom rfl hcs hst hd hM
theorem iX4_79 (C : Cx G E cc RX4 nL R0) (hw : LO w o) {a1 : Value} (hls : ls.length = nL) (hroom : rmX0_zoneAt.frames + 1 ≤ R0.frames ∧ 8 + (2 + 11) + rmX0_zoneAt.locals ≤ R0.locals) (hcs : kc + 0 ≤ R0.cells ∧ ks + 0 ≤ R0.slots) (hst : (st.map fun v => v.category).sum ≤ 8) (hd : decode cc pc = .ok (.invokevirtual 79, 3)) (hM : MX0_zoneAt G w σ [.ref (w.2.1 o 1), a1] (fun w' r σ' => J G E w' (kc + 0) (ks + 0) (pc + 3) ls (r.toList ++ st) σ') (fun w' X σ' => JX G E w' (kc + 0) (ks + 0) pc ls st σ' X)) : J G E w kc ks pc ls (a1 :: .ref (w.2.1 o 1) :: st) σ :=
  J_invV C hls (As := [a1]) rfl (hw.2.1 1 (by decide)) (kd_o hw.1) rfl (goodV q2_2 q2_3 q2_4 q1_3 q2_5) mdX0_zoneAt rfl rfl hroom rfl hcs hst hd hM
theorem iX4_104 (C : Cx G E cc RX4 nL R0) (hw : LO w o) {a1 a2 : Value} (hls : ls.length = nL) (hroom : rmX0_windIndex.frames + 1 ≤ R0.frames ∧ 8 + (4 + 11) + rmX0_windIndex.locals ≤ R0.locals) (hcs : kc + 0 ≤ R0.cells ∧ ks + 0 ≤ R0.slots) (hst : (st.map fun v => v.category).sum ≤ 8) (hd : decode cc pc = .ok (.invokevirtual 104, 3)) (hM : MX0_windIndex G w σ [.ref (w.2.1 o 1), a1, a2] (fun w' r σ' => J G E w' (kc + 0) (ks + 0) (pc + 3) ls (r.toList ++ st) σ') (fun w' X σ' => JX G E w' (kc + 0) (ks + 0) pc ls st σ' X)) : J G E w kc ks pc ls (a2 :: a1 :: .ref (w.2.1 o 1) :: st) σ :=
  J_invV C hls (As := [a1, a2]) rfl (hw.2.1 1 (by decide)) (kd_o hw.1) rfl (goodV q2_214 q2_215 q2_216 q1_3 q2_217) mdX0_windIndex rfl rfl hroom rfl hcs hst hd hM
theorem iX4_125 (C : Cx G E cc RX4 nL R0) (hw : LO w o) {a1 a2 a3 : Value} (hls : ls.length = nL) (hroom : rmX4_endXIn.frames + 1 ≤ R0.frames ∧ 8 + (4 + 11) + rmX4_endXIn.locals ≤ R0.locals) (hcs : kc + 0 ≤ R0.cells ∧ ks + 0 ≤ R0.slots) (hst : (st.map fun v => v.category).sum ≤ 8) (hd : decode cc pc = .ok (.invokevirtual 125, 3)) (hM : MX4_endXIn G w σ [.ref (w.2.1 o 0), a1, a2, a3] (fun w' r σ' => J G E w' (kc + 0) (ks + 0) (pc + 3) ls (r.toList ++ st) σ') (fun w' X σ' => JX G E w' (kc + 0) (ks + 0) pc ls st σ' X)) : J G E w kc ks pc ls (a3 :: a2 :: a1 :: .ref (w.2.1 o 0) :: st) σ :=
  J_invV C hls (As := [a1, a2, a3]) rfl (hw.2.1 0 (by decide)) (kd_o hw.1) rfl (goodV q2_222 q2_223 q2_224 q1_2 q2_225) mdX4_endXIn rfl rfl hroom rfl hcs hst hd hM
theorem iX4_129 (C : Cx G E cc RX4 nL R0) (hw : LO w o) {a1 a2 a3 : Value} (hls : ls.length = nL) (hroom : rmX4_endYIn.frames + 1 ≤ R0.frames ∧ 8 + (4 + 11) + rmX4_endYIn.locals ≤ R0.locals) (hcs : kc + 0 ≤ R0.cells ∧ ks + 0 ≤ R0.slots) (hst : (st.map fun v => v.category).sum ≤ 8) (hd : decode cc pc = .ok (.invokevirtual 129, 3)) (hM : MX4_endYIn G w σ [.ref (w.2.1 o 0), a1, a2, a3] (fun w' r σ' => J G E w' (kc + 0) (ks + 0) (pc + 3) ls (r.toList ++ st) σ') (fun w' X σ' => JX G E w' (kc + 0) (ks + 0) pc ls st σ' X)) : J G E w kc ks pc ls (a3 :: a2 :: a1 :: .ref (w.2.1 o 0) :: st) σ :=
  J_invV C hls (As := [a1, a2, a3]) rfl (hw.2.1 0 (by decide)) (kd_o hw.1) rfl (goodV q2_228 q2_229 q2_230 q1_2 q2_231) mdX4_endYIn rfl rfl hroom rfl hcs hst hd hM
theorem iX4_132 (C : Cx G E cc RX4 nL R0) (hw : LO w o) {a1 a2 : Value} (hls : ls.length = nL) (hroom : rmX0_contains.frames + 1 ≤ R0.frames ∧ 8 + (3 + 11) + rmX0_contains.locals ≤ R0.locals) (hcs : kc + 0 ≤ R0.cells ∧ ks + 0 ≤ R0.slots) (hst : (st.map fun v => v.category).sum ≤ 8) (hd : decode cc pc = .ok (.invokevirtual 132, 3)) (hM : MX0_contains G w σ [.ref (w.2.1 o 1), a1, a2] (fun w' r σ' => J G E w' (kc + 0) (ks + 0) (pc + 3) ls (r.toList ++ st) σ') (fun w' X σ' => JX G E w' (kc + 0) (ks + 0) pc ls st σ' X)) : J G E w kc ks pc ls (a2 :: a1 :: .ref (w.2.1 o 1) :: st) σ :=
  J_invV C hls (As := [a1, a2]) rfl (hw.2.1 1 (by decide)) (kd_o hw.1) rfl (goodV q4_148 q4_149 q4_150 q1_3 q4_151) mdX0_contains rfl rfl hroom rfl hcs hst hd hM
theorem iX4_136 (C : Cx G E cc RX4 nL R0) (hw : LO w o) {a1 a2 : Value} (hls : ls.length = nL) (hroom : rmX4_windAt.frames + 1 ≤ R0.frames ∧ 8 + (3 + 11) + rmX4_windAt.locals ≤ R0.locals) (hcs : kc + 0 ≤ R0.cells ∧ ks + 0 ≤ R0.slots) (hst : (st.map fun v => v.category).sum ≤ 8) (hd : decode cc pc = .ok (.invokevirtual 136, 3)) (hM : MX4_windAt G w σ [.ref (w.2.1 o 0), a1, a2] (fun w' r σ' => J G E w' (kc + 0) (ks + 0) (pc + 3) ls (r.toList ++ st) σ') (fun w' X σ' => JX G E w' (kc + 0) (ks + 0) pc ls st σ' X)) : J G E w kc ks pc ls (a2 :: a1 :: .ref (w.2.1 o 0) :: st) σ :=
  J_invV C hls (As := [a1, a2]) rfl (hw.2.1 0 (by decide)) (kd_o hw.1) rfl (goodV q2_210 q2_211 q2_212 q1_2 q2_213) mdX4_windAt rfl rfl hroom rfl hcs hst hd hM
theorem iX4_139 (C : Cx G E cc RX4 nL R0) (hw : LO w o) {a1 a2 a3 : Value} (hls : ls.length = nL) (hroom : rmX4_reachIn.frames + 1 ≤ R0.frames ∧ 8 + (5 + 11) + rmX4_reachIn.locals ≤ R0.locals) (hcs : kc + 0 ≤ R0.cells ∧ ks + 0 ≤ R0.slots) (hst : (st.map fun v => v.category).sum ≤ 8) (hd : decode cc pc = .ok (.invokevirtual 139, 3)) (hM : MX4_reachIn G w σ [.ref (w.2.1 o 0), a1, a2, a3] (fun w' r σ' => J G E w' (kc + 0) (ks + 0) (pc + 3) ls (r.toList ++ st) σ') (fun w' X σ' => JX G E w' (kc + 0) (ks + 0) pc ls st σ' X)) : J G E w kc ks pc ls (a3 :: a2 :: a1 :: .ref (w.2.1 o 0) :: st) σ :=
  J_invV C hls (As := [a1, a2, a3]) rfl (hw.2.1 0 (by decide)) (kd_o hw.1) rfl (goodV q2_218 q2_219 q2_220 q1_2 q2_221) mdX4_reachIn rfl rfl hroom rfl hcs hst hd hM
theorem iX4_142 (C : Cx G E cc RX4 nL R0) (hw : LO w o) {a1 a2 a3 : Value} (hls : ls.length = nL) (hroom : rmX4_fliesIn.frames + 1 ≤ R0.frames ∧ 8 + (4 + 11) + rmX4_fliesIn.locals ≤ R0.locals) (hcs : kc + 0 ≤ R0.cells ∧ ks + 0 ≤ R0.slots) (hst : (st.map fun v => v.category).sum ≤ 8) (hd : decode cc pc = .ok (.invokevirtual 142, 3)) (hM : MX4_fliesIn G w σ [.ref (w.2.1 o 0), a1, a2, a3] (fun w' r σ' => J G E w' (kc + 0) (ks + 0) (pc + 3) ls (r.toList ++ st) σ') (fun w' X σ' => JX G E w' (kc + 0) (ks + 0) pc ls st σ' X)) : J G E w kc ks pc ls (a3 :: a2 :: a1 :: .ref (w.2.1 o 0) :: st) σ :=
  J_invV C hls (As := [a1, a2, a3]) rfl (hw.2.1 0 (by decide)) (kd_o hw.1) rfl (goodV q4_144 q4_145 q4_146 q1_2 q4_147) mdX4_fliesIn rfl rfl hroom rfl hcs hst hd hM
theorem iX4_146 (C : Cx G E cc RX4 nL R0) {a1 a2 a3 a4 : Value} (hls : ls.length = nL) (hroom : rmX4_rangesMeet.frames + 1 ≤ R0.frames ∧ 8 + (4 + 11) + rmX4_rangesMeet.locals ≤ R0.locals) (hcs : kc + 0 ≤ R0.cells ∧ ks + 0 ≤ R0.slots) (hst : (st.map fun v => v.category).sum ≤ 8) (hd : decode cc pc = .ok (.invokestatic 146, 3)) (hM : MX4_rangesMeet G w σ [a1, a2, a3, a4] (fun w' r σ' => J G E w' (kc + 0) (ks + 0) (pc + 3) ls (r.toList ++ st) σ') (fun w' X σ' => JX G E w' (kc + 0) (ks + 0) pc ls st σ' X)) : J G E w kc ks pc ls (a4 :: a3 :: a2 :: a1 :: st) σ :=
  J_invS C hls (As := [a1, a2, a3, a4]) rfl (goodS q2_234 q2_235 q1_2 q2_236) mdX4_rangesMeet.2 rfl rfl hroom rfl hcs hst hd hM
theorem iX4_150 (C : Cx G E cc RX4 nL R0) {a1 a2 a3 a4 a5 a6 : Value} (hls : ls.length = nL) (hroom : rmX4_sideOf.frames + 1 ≤ R0.frames ∧ 8 + (6 + 11) + rmX4_sideOf.locals ≤ R0.locals) (hcs : kc + 0 ≤ R0.cells ∧ ks + 0 ≤ R0.slots) (hst : (st.map fun v => v.category).sum ≤ 8) (hd : decode cc pc = .ok (.invokestatic 150, 3)) (hM : MX4_sideOf G w σ [a1, a2, a3, a4, a5, a6] (fun w' r σ' => J G E w' (kc + 0) (ks + 0) (pc + 3) ls (r.toList ++ st) σ') (fun w' X σ' => JX G E w' (kc + 0) (ks + 0) pc ls st σ' X)) : J G E w kc ks pc ls (a6 :: a5 :: a4 :: a3 :: a2 :: a1 :: st) σ :=
  J_invS C hls (As := [a1, a2, a3, a4, a5, a6]) rfl (goodS q2_237 q2_238 q1_2 q2_239) mdX4_sideOf.2 rfl rfl hroom rfl hcs hst hd hM
theorem iX4_154 (C : Cx G E cc RX4 nL R0) {a1 a2 : Value} (hls : ls.length = nL) (hroom : rmX4_onOneSide.frames + 1 ≤ R0.frames ∧ 8 + (2 + 11) + rmX4_onOneSide.locals ≤ R0.locals) (hcs : kc + 0 ≤ R0.cells ∧ ks + 0 ≤ R0.slots) (hst : (st.map fun v => v.category).sum ≤ 8) (hd : decode cc pc = .ok (.invokestatic 154, 3)) (hM : MX4_onOneSide G w σ [a1, a2] (fun w' r σ' => J G E w' (kc + 0) (ks + 0) (pc + 3) ls (r.toList ++ st) σ') (fun w' X σ' => JX G E w' (kc + 0) (ks + 0) pc ls st σ' X)) : J G E w kc ks pc ls (a2 :: a1 :: st) σ :=
  J_invS C hls (As := [a1, a2]) rfl (goodS q3_0 q3_1 q1_2 q3_2) mdX4_onOneSide.2 rfl rfl hroom rfl hcs hst hd hM
theorem iX4_163 (C : Cx G E cc RX4 nL R0) (hw : LO w o) {a1 a2 : Value} (hls : ls.length = nL) (hroom : rmX6_covers.frames + 1 ≤ R0.frames ∧ 8 + (3 + 11) + rmX6_covers.locals ≤ R0.locals) (hcs : kc + 0 ≤ R0.cells ∧ ks + 0 ≤ R0.slots) (hst : (st.map fun v => v.category).sum ≤ 8) (hd : decode cc pc = .ok (.invokevirtual 163, 3)) (hM : MX6_covers G w σ [.ref (w.2.1 o 17), a1, a2] (fun w' r σ' => J G E w' (kc + 0) (ks + 0) (pc + 3) ls (r.toList ++ st) σ') (fun w' X σ' => JX G E w' (kc + 0) (ks + 0) pc ls st σ' X)) : J G E w kc ks pc ls (a2 :: a1 :: .ref (w.2.1 o 17) :: st) σ :=
  J_invV C hls (As := [a1, a2]) rfl (hw.2.1 17 (by decide)) (kd_o hw.1) rfl (goodV q4_169 q4_170 q4_171 q1_5 q4_172) mdX6_covers rfl rfl hroom rfl hcs hst hd hM
theorem iX4_166 (C : Cx G E cc RX4 nL R0) (hw : LO w o) {a1 a2 a3 : Value} (hls : ls.length = nL) (hroom : rmX6_coverAny.frames + 1 ≤ R0.frames ∧ 8 + (5 + 11) + rmX6_coverAny.locals ≤ R0.locals) (hcs : kc + 0 ≤ R0.cells ∧ ks + 0 ≤ R0.slots) (hst : (st.map fun v => v.category).sum ≤ 8) (hd : decode cc pc = .ok (.invokevirtual 166, 3)) (hM : MX6_coverAny G w σ [.ref (w.2.1 o 17), a1, a2, a3] (fun w' r σ' => J G E w' (kc + 0) (ks + 0) (pc + 3) ls (r.toList ++ st) σ') (fun w' X σ' => JX G E w' (kc + 0) (ks + 0) pc ls st σ' X)) : J G E w kc ks pc ls (a3 :: a2 :: a1 :: .ref (w.2.1 o 17) :: st) σ :=
  J_invV C hls (As := [a1, a2, a3]) rfl (hw.2.1 17 (by decide)) (kd_o hw.1) rfl (goodV q4_156 q4_157 q4_158 q1_5 q4_159) mdX6_coverAny rfl rfl hroom rfl hcs hst hd hM
theorem iX4_169 (C : Cx G E cc RX4 nL R0) (hw : LO w o) {a1 a2 a3 : Value} (hls : ls.length = nL) (hroom : rmX4_isQuotaUsedUp.frames + 1 ≤ R0.frames ∧ 8 + (5 + 11) + rmX4_isQuotaUsedUp.locals ≤ R0.locals) (hcs : kc + 0 ≤ R0.cells ∧ ks + 0 ≤ R0.slots) (hst : (st.map fun v => v.category).sum ≤ 8) (hd : decode cc pc = .ok (.invokevirtual 169, 3)) (hM : MX4_isQuotaUsedUp G w σ [.ref (w.2.1 o 0), a1, a2, a3] (fun w' r σ' => J G E w' (kc + 0) (ks + 0) (pc + 3) ls (r.toList ++ st) σ') (fun w' X σ' => JX G E w' (kc + 0) (ks + 0) pc ls st σ' X)) : J G E w kc ks pc ls (a3 :: a2 :: a1 :: .ref (w.2.1 o 0) :: st) σ :=
  J_invV C hls (As := [a1, a2, a3]) rfl (hw.2.1 0 (by decide)) (kd_o hw.1) rfl (goodV q4_161 q4_163 qp_8 q1_2 q4_164) mdX4_isQuotaUsedUp rfl rfl hroom rfl hcs hst hd hM
theorem iX4_172 (C : Cx G E cc RX4 nL R0) (hw : LO w o) {a1 a2 a3 : Value} (hls : ls.length = nL) (hroom : rmX4_fliesAllHours.frames + 1 ≤ R0.frames ∧ 8 + (5 + 11) + rmX4_fliesAllHours.locals ≤ R0.locals) (hcs : kc + 0 ≤ R0.cells ∧ ks + 0 ≤ R0.slots) (hst : (st.map fun v => v.category).sum ≤ 8) (hd : decode cc pc = .ok (.invokevirtual 172, 3)) (hM : MX4_fliesAllHours G w σ [.ref (w.2.1 o 0), a1, a2, a3] (fun w' r σ' => J G E w' (kc + 0) (ks + 0) (pc + 3) ls (r.toList ++ st) σ') (fun w' X σ' => JX G E w' (kc + 0) (ks + 0) pc ls st σ' X)) : J G E w kc ks pc ls (a3 :: a2 :: a1 :: .ref (w.2.1 o 0) :: st) σ :=
  J_invV C hls (As := [a1, a2, a3]) rfl (hw.2.1 0 (by decide)) (kd_o hw.1) rfl (goodV q4_173 q4_175 qp_9 q1_2 q4_176) mdX4_fliesAllHours rfl rfl hroom rfl hcs hst hd hM
theorem iX4_175 (C : Cx G E cc RX4 nL R0) (hw : LO w o) {a1 a2 a3 : Value} (hls : ls.length = nL) (hroom : rmX4_firstCrossedKite.frames + 1 ≤ R0.frames ∧ 8 + (8 + 11) + rmX4_firstCrossedKite.locals ≤ R0.locals) (hcs : kc + 0 ≤ R0.cells ∧ ks + 0 ≤ R0.slots) (hst : (st.map fun v => v.category).sum ≤ 8) (hd : decode cc pc = .ok (.invokevirtual 175, 3)) (hM : MX4_firstCrossedKite G w σ [.ref (w.2.1 o 0), a1, a2, a3] (fun w' r σ' => J G E w' (kc + 0) (ks + 0) (pc + 3) ls (r.toList ++ st) σ') (fun w' X σ' => JX G E w' (kc + 0) (ks + 0) pc ls st σ' X)) : J G E w kc ks pc ls (a3 :: a2 :: a1 :: .ref (w.2.1 o 0) :: st) σ :=
  J_invV C hls (As := [a1, a2, a3]) rfl (hw.2.1 0 (by decide)) (kd_o hw.1) rfl (goodV q4_177 q4_178 q4_179 q1_2 q4_180) mdX4_firstCrossedKite rfl rfl hroom rfl hcs hst hd hM
theorem iX4_181 (C : Cx G E cc RX4 nL R0) (hw : LO w o) {a1 a2 : Value} (hls : ls.length = nL) (hroom : rmX4_countCovering.frames + 1 ≤ R0.frames ∧ 8 + (5 + 11) + rmX4_countCovering.locals ≤ R0.locals) (hcs : kc + 0 ≤ R0.cells ∧ ks + 0 ≤ R0.slots) (hst : (st.map fun v => v.category).sum ≤ 8) (hd : decode cc pc = .ok (.invokevirtual 181, 3)) (hM : MX4_countCovering G w σ [.ref (w.2.1 o 0), a1, a2] (fun w' r σ' => J G E w' (kc + 0) (ks + 0) (pc + 3) ls (r.toList ++ st) σ') (fun w' X σ' => JX G E w' (kc + 0) (ks + 0) pc ls st σ' X)) : J G E w kc ks pc ls (a2 :: a1 :: .ref (w.2.1 o 0) :: st) σ :=
  J_invV C hls (As := [a1, a2]) rfl (hw.2.1 0 (by decide)) (kd_o hw.1) rfl (goodV q4_165 q4_166 q4_167 q1_2 q4_168) mdX4_countCovering rfl rfl hroom rfl hcs hst hd hM
theorem iX4_187 (C : Cx G E cc RX4 nL R0) (hw : LO w o) {a1 a2 : Value} (hls : ls.length = nL) (hroom : rmX4_fliesAt.frames + 1 ≤ R0.frames ∧ 8 + (4 + 11) + rmX4_fliesAt.locals ≤ R0.locals) (hcs : kc + 0 ≤ R0.cells ∧ ks + 0 ≤ R0.slots) (hst : (st.map fun v => v.category).sum ≤ 8) (hd : decode cc pc = .ok (.invokevirtual 187, 3)) (hM : MX4_fliesAt G w σ [.ref (w.2.1 o 0), a1, a2] (fun w' r σ' => J G E w' (kc + 0) (ks + 0) (pc + 3) ls (r.toList ++ st) σ') (fun w' X σ' => JX G E w' (kc + 0) (ks + 0) pc ls st σ' X)) : J G E w kc ks pc ls (a2 :: a1 :: .ref (w.2.1 o 0) :: st) σ :=
  J_invV C hls (As := [a1, a2]) rfl (hw.2.1 0 (by decide)) (kd_o hw.1) rfl (goodV q4_140 q4_141 q4_142 q1_2 q4_143) mdX4_fliesAt rfl rfl hroom rfl hcs hst hd hM
theorem iX4_190 (C : Cx G E cc RX4 nL R0) (hw : LO w o) {a1 a2 a3 a4 : Value} (hls : ls.length = nL) (hroom : rmX4_countCrossings.frames + 1 ≤ R0.frames ∧ 8 + (8 + 11) + rmX4_countCrossings.locals ≤ R0.locals) (hcs : kc + 0 ≤ R0.cells ∧ ks + 0 ≤ R0.slots) (hst : (st.map fun v => v.category).sum ≤ 8) (hd : decode cc pc = .ok (.invokevirtual 190, 3)) (hM : MX4_countCrossings G w σ [.ref (w.2.1 o 0), a1, a2, a3, a4] (fun w' r σ' => J G E w' (kc + 0) (ks + 0) (pc + 3) ls (r.toList ++ st) σ') (fun w' X σ' => JX G E w' (kc + 0) (ks + 0) pc ls st σ' X)) : J G E w kc ks pc ls (a4 :: a3 :: a2 :: a1 :: .ref (w.2.1 o 0) :: st) σ :=
  J_invV C hls (As := [a1, a2, a3, a4]) rfl (hw.2.1 0 (by decide)) (kd_o hw.1) rfl (goodV q2_199 q2_201 qp_0 q1_2 q2_202) mdX4_countCrossings rfl rfl hroom rfl hcs hst hd hM
theorem iX4_194 (C : Cx G E cc RX4 nL R0) (hw : LO w o) {a1 : Value} (hls : ls.length = nL) (hroom : rmX6_endOf.frames + 1 ≤ R0.frames ∧ 8 + (2 + 11) + rmX6_endOf.locals ≤ R0.locals) (hcs : kc + 0 ≤ R0.cells ∧ ks + 0 ≤ R0.slots) (hst : (st.map fun v => v.category).sum ≤ 8) (hd : decode cc pc = .ok (.invokevirtual 194, 3)) (hM : MX6_endOf G w σ [.ref (w.2.1 o 17), a1] (fun w' r σ' => J G E w' (kc + 0) (ks + 0) (pc + 3) ls (r.toList ++ st) σ') (fun w' X σ' => JX G E w' (kc + 0) (ks + 0) pc ls st σ' X)) : J G E w kc ks pc ls (a1 :: .ref (w.2.1 o 17) :: st) σ :=
  J_invV C hls (As := [a1]) rfl (hw.2.1 17 (by decide)) (kd_o hw.1) rfl (goodV q2_195 q2_196 q2_197 q1_5 q2_198) mdX6_endOf rfl rfl hroom rfl hcs hst hd hM
theorem iX4_200 (C : Cx G E cc RX4 nL R0) (hw : LO w o) {a1 a2 a3 : Value} (hls : ls.length = nL) (hroom : rmX4_stringsCross.frames + 1 ≤ R0.frames ∧ 8 + (16 + 11) + rmX4_stringsCross.locals ≤ R0.locals) (hcs : kc + 0 ≤ R0.cells ∧ ks + 0 ≤ R0.slots) (hst : (st.map fun v => v.category).sum ≤ 8) (hd : decode cc pc = .ok (.invokevirtual 200, 3)) (hM : MX4_stringsCross G w σ [.ref (w.2.1 o 0), a1, a2, a3] (fun w' r σ' => J G E w' (kc + 0) (ks + 0) (pc + 3) ls (r.toList ++ st) σ') (fun w' X σ' => JX G E w' (kc + 0) (ks + 0) pc ls st σ' X)) : J G E w kc ks pc ls (a3 :: a2 :: a1 :: .ref (w.2.1 o 0) :: st) σ :=
  J_invV C hls (As := [a1, a2, a3]) rfl (hw.2.1 0 (by decide)) (kd_o hw.1) rfl (goodV q2_206 q2_207 q2_208 q1_2 q2_209) mdX4_stringsCross rfl rfl hroom rfl hcs hst hd hM
theorem iX4_203 (C : Cx G E cc RX4 nL R0) (hw : LO w o) {a1 a2 : Value} (hls : ls.length = nL) (hroom : rmX4_payOffice.frames + 1 ≤ R0.frames ∧ 8 + (3 + 11) + rmX4_payOffice.locals ≤ R0.locals) (hcs : kc + 0 ≤ R0.cells ∧ ks + 0 ≤ R0.slots) (hst : (st.map fun v => v.category).sum ≤ 8) (hd : decode cc pc = .ok (.invokevirtual 203, 3)) (hM : MX4_payOffice G w σ [.ref (w.2.1 o 0), a1, a2] (fun w' r σ' => J G E w' (kc + 0) (ks + 0) (pc + 3) ls (r.toList ++ st) σ') (fun w' X σ' => JX G E w' (kc + 0) (ks + 0) pc ls st σ' X)) : J G E w kc ks pc ls (a2 :: a1 :: .ref (w.2.1 o 0) :: st) σ :=
  J_invV C hls (As := [a1, a2]) rfl (hw.2.1 0 (by decide)) (kd_o hw.1) rfl (goodV q4_237 q4_239 qp_16 q1_2 q5_0) mdX4_payOffice rfl rfl hroom rfl hcs hst hd hM
theorem iX4_207 (C : Cx G E cc RX4 nL R0) (hw : LO w o) {a1 a2 a3 : Value} (hls : ls.length = nL) (hroom : rmX6_add.frames + 1 ≤ R0.frames ∧ 8 + (4 + 11) + rmX6_add.locals ≤ R0.locals) (hcs : kc + 0 ≤ R0.cells ∧ ks + 0 ≤ R0.slots) (hst : (st.map fun v => v.category).sum ≤ 8) (hd : decode cc pc = .ok (.invokevirtual 207, 3)) (hM : MX6_add G w σ [.ref (w.2.1 o 17), a1, a2, a3] (fun w' r σ' => J G E w' (kc + 0) (ks + 0) (pc + 3) ls (r.toList ++ st) σ') (fun w' X σ' => JX G E w' (kc + 0) (ks + 0) pc ls st σ' X)) : J G E w kc ks pc ls (a3 :: a2 :: a1 :: .ref (w.2.1 o 17) :: st) σ :=
  J_invV C hls (As := [a1, a2, a3]) rfl (hw.2.1 17 (by decide)) (kd_o hw.1) rfl (goodV q5_1 q5_2 q5_3 q1_5 q5_4) mdX6_add rfl rfl hroom rfl hcs hst hd hM
theorem iX4_214 (C : Cx G E cc RX4 nL R0) (hw : LO w o) {a1 : Value} (hls : ls.length = nL) (hroom : rmX6_removeEnded.frames + 1 ≤ R0.frames ∧ 8 + (4 + 11) + rmX6_removeEnded.locals ≤ R0.locals) (hcs : kc + 0 ≤ R0.cells ∧ ks + 0 ≤ R0.slots) (hst : (st.map fun v => v.category).sum ≤ 8) (hd : decode cc pc = .ok (.invokevirtual 214, 3)) (hM : MX6_removeEnded G w σ [.ref (w.2.1 o 17), a1] (fun w' r σ' => J G E w' (kc + 0) (ks + 0) (pc + 3) ls (r.toList ++ st) σ') (fun w' X σ' => JX G E w' (kc + 0) (ks + 0) pc ls st σ' X)) : J G E w kc ks pc ls (a1 :: .ref (w.2.1 o 17) :: st) σ :=
  J_invV C hls (As := [a1]) rfl (hw.2.1 17 (by decide)) (kd_o hw.1) rfl (goodV q4_205 q4_206 q4_207 q1_5 q4_208) mdX6_removeEnded rfl rfl hroom rfl hcs hst hd hM
theorem iX4_218 (C : Cx G E cc RX4 nL R0) (hw : LO w o) (hls : ls.length = nL) (hroom : rmX4_groundBecalmedKites.frames + 1 ≤ R0.frames ∧ 8 + (2 + 11) + rmX4_groundBecalmedKites.locals ≤ R0.locals) (hcs : kc + 0 ≤ R0.cells ∧ ks + 0 ≤ R0.slots) (hst : (st.map fun v => v.category).sum ≤ 8) (hd : decode cc pc = .ok (.invokevirtual 218, 3)) (hM : MX4_groundBecalmedKites G w σ [.ref (w.2.1 o 0)] (fun w' r σ' => J G E w' (kc + 0) (ks + 0) (pc + 3) ls (r.toList ++ st) σ') (fun w' X σ' => JX G E w' (kc + 0) (ks + 0) pc ls st σ' X)) : J G E w kc ks pc ls (.ref (w.2.1 o 0) :: st) σ :=
  J_invV C hls (As := []) rfl (hw.2.1 0 (by decide)) (kd_o hw.1) rfl (goodV q4_213 q4_215 qp_12 q1_2 q4_216) mdX4_groundBecalmedKites rfl rfl hroom rfl hcs hst hd hM
theorem iX4_221 (C : Cx G E cc RX4 nL R0) (hw : LO w o) (hls : ls.length = nL) (hroom : rmX4_judgeCrossings.frames + 1 ≤ R0.frames ∧ 8 + (5 + 11) + rmX4_judgeCrossings.locals ≤ R0.locals) (hcs : kc + 0 ≤ R0.cells ∧ ks + 0 ≤ R0.slots) (hst : (st.map fun v => v.category).sum ≤ 8) (hd : decode cc pc = .ok (.invokevirtual 221, 3)) (hM : MX4_judgeCrossings G w σ [.ref (w.2.1 o 0)] (fun w' r σ' => J G E w' (kc + 0) (ks + 0) (pc + 3) ls (r.toList ++ st) σ') (fun w' X σ' => JX G E w' (kc + 0) (ks + 0) pc ls st σ' X)) : J G E w kc ks pc ls (.ref (w.2.1 o 0) :: st) σ :=
  J_invV C hls (As := []) rfl (hw.2.1 0 (by decide)) (kd_o hw.1) rfl (goodV q4_217 q4_219 qp_13 q1_2 q4_220) mdX4_judgeCrossings rfl rfl hroom rfl hcs hst hd hM
theorem iX4_225 (C : Cx G E cc RX4 nL R0) (hw : LO w o) (hls : ls.length = nL) (hroom : rmX4_tangleCaughtKites.frames + 1 ≤ R0.frames ∧ 8 + (2 + 11) + rmX4_tangleCaughtKites.locals ≤ R0.locals) (hcs : kc + 0 ≤ R0.cells ∧ ks + 0 ≤ R0.slots) (hst : (st.map fun v => v.category).sum ≤ 8) (hd : decode cc pc = .ok (.invokevirtual 225, 3)) (hM : MX4_tangleCaughtKites G w σ [.ref (w.2.1 o 0)] (fun w' r σ' => J G E w' (kc + 0) (ks + 0) (pc + 3) ls (r.toList ++ st) σ') (fun w' X σ' => JX G E w' (kc + 0) (ks + 0) pc ls st σ' X)) : J G E w kc ks pc ls (.ref (w.2.1 o 0) :: st) σ :=
  J_invV C hls (As := []) rfl (hw.2.1 0 (by decide)) (kd_o hw.1) rfl (goodV q4_229 q4_231 qp_15 q1_2 q4_232) mdX4_tangleCaughtKites rfl rfl hroom rfl hcs hst hd hM
theorem iX4_228 (C : Cx G E cc RX4 nL R0) (hw : LO w o) {a1 a2 : Value} (hls : ls.length = nL) (hroom : rmX4_giveVerdict.frames + 1 ≤ R0.frames ∧ 8 + (6 + 11) + rmX4_giveVerdict.locals ≤ R0.locals) (hcs : kc + 0 ≤ R0.cells ∧ ks + 0 ≤ R0.slots) (hst : (st.map fun v => v.category).sum ≤ 8) (hd : decode cc pc = .ok (.invokevirtual 228, 3)) (hM : MX4_giveVerdict G w σ [.ref (w.2.1 o 0), a1, a2] (fun w' r σ' => J G E w' (kc + 0) (ks + 0) (pc + 3) ls (r.toList ++ st) σ') (fun w' X σ' => JX G E w' (kc + 0) (ks + 0) pc ls st σ' X)) : J G E w kc ks pc ls (a2 :: a1 :: .ref (w.2.1 o 0) :: st) σ :=
  J_invV C hls (As := [a1, a2]) rfl (hw.2.1 0 (by decide)) (kd_o hw.1) rfl (goodV q4_221 q4_223 qp_14 q1_2 q4_224) mdX4_giveVerdict rfl rfl hroom rfl hcs hst hd hM
theorem iX4_231 (C : Cx G E cc RX4 nL R0) (hw : LO w o) {a1 a2 : Value} (hls : ls.length = nL) (hroom : rmX4_guiltyOf.frames + 1 ≤ R0.frames ∧ 8 + (5 + 11) + rmX4_guiltyOf.locals ≤ R0.locals) (hcs : kc + 0 ≤ R0.cells ∧ ks + 0 ≤ R0.slots) (hst : (st.map fun v => v.category).sum ≤ 8) (hd : decode cc pc = .ok (.invokevirtual 231, 3)) (hM : MX4_guiltyOf G w σ [.ref (w.2.1 o 0), a1, a2] (fun w' r σ' => J G E w' (kc + 0) (ks + 0) (pc + 3) ls (r.toList ++ st) σ') (fun w' X σ' => JX G E w' (kc + 0) (ks + 0) pc ls st σ' X)) : J G E w kc ks pc ls (a2 :: a1 :: .ref (w.2.1 o 0) :: st) σ :=
  J_invV C hls (As := [a1, a2]) rfl (hw.2.1 0 (by decide)) (kd_o hw.1) rfl (goodV q4_225 q4_226 q4_227 q1_2 q4_228) mdX4_guiltyOf rfl rfl hroom rfl hcs hst hd hM
theorem iX4_237 (C : Cx G E cc RX4 nL R0) (hw : LO w o) {a1 : Value} (hls : ls.length = nL) (hroom : rmX6_removeOf.frames + 1 ≤ R0.frames ∧ 8 + (4 + 11) + rmX6_removeOf.locals ≤ R0.locals) (hcs : kc + 0 ≤ R0.cells ∧ ks + 0 ≤ R0.slots) (hst : (st.map fun v => v.category).sum ≤ 8) (hd : decode cc pc = .ok (.invokevirtual 237, 3)) (hM : MX6_removeOf G w σ [.ref (w.2.1 o 17), a1] (fun w' r σ' => J G E w' (kc + 0) (ks + 0) (pc + 3) ls (r.toList ++ st) σ') (fun w' X σ' => JX G E w' (kc + 0) (ks + 0) pc ls st σ' X)) : J G E w kc ks pc ls (a1 :: .ref (w.2.1 o 17) :: st) σ :=
  J_invV C hls (As := [a1]) rfl (hw.2.1 17 (by decide)) (kd_o hw.1) rfl (goodV q5_13 q5_6 q5_7 q1_5 q5_8) mdX6_removeOf rfl rfl hroom rfl hcs hst hd hM
theorem iX4_240 (C : Cx G E cc RX4 nL R0) (hw : LO w o) {a1 : Value} (hls : ls.length = nL) (hroom : rmX4_repairPrice.frames + 1 ≤ R0.frames ∧ 8 + (2 + 11) + rmX4_repairPrice.locals ≤ R0.locals) (hcs : kc + 0 ≤ R0.cells ∧ ks + 0 ≤ R0.slots) (hst : (st.map fun v => v.category).sum ≤ 8) (hd : decode cc pc = .ok (.invokevirtual 240, 3)) (hM : MX4_repairPrice G w σ [.ref (w.2.1 o 0), a1] (fun w' r σ' => J G E w' (kc + 0) (ks + 0) (pc + 3) ls (r.toList ++ st) σ') (fun w' X σ' => JX G E w' (kc + 0) (ks + 0) pc ls st σ' X)) : J G E w kc ks pc ls (a1 :: .ref (w.2.1 o 0) :: st) σ :=
  J_invV C hls (As := [a1]) rfl (hw.2.1 0 (by decide)) (kd_o hw.1) rfl (goodV q4_185 q4_186 q4_187 q1_2 q4_188) mdX4_repairPrice rfl rfl hroom rfl hcs hst hd hM
theorem iX6_31 (C : Cx G E cc RX6 nL R0) (hw : LO w o) {a1 : Value} (hls : ls.length = nL) (hroom : rmX6_endOf.frames + 1 ≤ R0.frames ∧ 8 + (2 + 11) + rmX6_endOf.locals ≤ R0.locals) (hcs : kc + 0 ≤ R0.cells ∧ ks + 0 ≤ R0.slots) (hst : (st.map fun v => v.category).sum ≤ 8) (hd : decode cc pc = .ok (.invokevirtual 31, 3)) (hM : MX6_endOf G w σ [.ref (w.2.1 o 17), a1] (fun w' r σ' => J G E w' (kc + 0) (ks + 0) (pc + 3) ls (r.toList ++ st) σ') (fun w' X σ' => JX G E w' (kc + 0) (ks + 0) pc ls st σ' X)) : J G E w kc ks pc ls (a1 :: .ref (w.2.1 o 17) :: st) σ :=
  J_invV C hls (As := [a1]) rfl (hw.2.1 17 (by decide)) (kd_o hw.1) rfl (goodV q4_160 q2_196 q2_197 q1_5 q2_198) mdX6_endOf rfl rfl hroom rfl hcs hst hd hM
theorem iX6_35 (C : Cx G E cc RX6 nL R0) (hw : LO w o) {a1 a2 : Value} (hls : ls.length = nL) (hroom : rmX6_move.frames + 1 ≤ R0.frames ∧ 8 + (3 + 11) + rmX6_move.locals ≤ R0.locals) (hcs : kc + 0 ≤ R0.cells ∧ ks + 0 ≤ R0.slots) (hst : (st.map fun v => v.category).sum ≤ 8) (hd : decode cc pc = .ok (.invokevirtual 35, 3)) (hM : MX6_move G w σ [.ref (w.2.1 o 17), a1, a2] (fun w' r σ' => J G E w' (kc + 0) (ks + 0) (pc + 3) ls (r.toList ++ st) σ') (fun w' X σ' => JX G E w' (kc + 0) (ks + 0) pc ls st σ' X)) : J G E w kc ks pc ls (a2 :: a1 :: .ref (w.2.1 o 17) :: st) σ :=
  J_invV C hls (As := [a1, a2]) rfl (hw.2.1 17 (by decide)) (kd_o hw.1) rfl (goodV q4_209 q4_211 qp_11 q1_5 q4_212) mdX6_move rfl rfl hroom rfl hcs hst hd hM
theorem iX9_7 (C : Cx G E cc RX9 nL R0) (hls : ls.length = nL) (hroom : rmX9_firstOffice.frames + 1 ≤ R0.frames ∧ 8 + (1 + 11) + rmX9_firstOffice.locals ≤ R0.locals) (hcs : kc + 0 ≤ R0.cells ∧ ks + 0 ≤ R0.slots) (hst : (st.map fun v => v.category).sum ≤ 8) (hd : decode cc pc = .ok (.invokestatic 7, 3)) (hM : MX9_firstOffice G w σ [] (fun w' r σ' => J G E w' (kc + 0) (ks + 0) (pc + 3) ls (r.toList ++ st) σ') (fun w' X σ' => JX G E w' (kc + 0) (ks + 0) pc ls st σ' X)) : J G E w kc ks pc ls (st) σ :=
  J_invS C hls (As := []) rfl (goodS q1_33 q1_34 q1_1 q1_35) mdX9_firstOffice.2 rfl rfl hroom rfl hcs hst hd hM
theorem iX9_78 (C : Cx G E cc RX9 nL R0) (hw : LO w o) (hls : ls.length = nL) (hroom : rmX0_openZone.frames + 1 ≤ R0.frames ∧ 8 + (1 + 11) + rmX0_openZone.locals ≤ R0.locals) (hcs : kc + 0 ≤ R0.cells ∧ ks + 0 ≤ R0.slots) (hst : (st.map fun v => v.category).sum ≤ 8) (hd : decode cc pc = .ok (.invokevirtual 78, 3)) (hM : MX0_openZone G w σ [.ref (w.2.1 o 1)] (fun w' r σ' => J G E w' (kc + 0) (ks + 0) (pc + 3) ls (r.toList ++ st) σ') (fun w' X σ' => JX G E w' (kc + 0) (ks + 0) pc ls st σ' X)) : J G E w kc ks pc ls (.ref (w.2.1 o 1) :: st) σ :=
  J_invV C hls (As := []) rfl (hw.2.1 1 (by decide)) (kd_o hw.1) rfl (goodV q1_226 q1_227 q1_228 q1_3 q1_229) mdX0_openZone rfl rfl hroom rfl hcs hst hd hM
theorem iX9_81 (C : Cx G E cc RX9 nL R0) (hw : LO w o) {a1 a2 : Value} (hls : ls.length = nL) (hroom : rmX0_addWind.frames + 1 ≤ R0.frames ∧ 8 + (5 + 11) + rmX0_addWind.locals ≤ R0.locals) (hcs : kc + 0 ≤ R0.cells ∧ ks + 0 ≤ R0.slots) (hst : (st.map fun v => v.category).sum ≤ 8) (hd : decode cc pc = .ok (.invokevirtual 81, 3)) (hM : MX0_addWind G w σ [.ref (w.2.1 o 1), a1, a2] (fun w' r σ' => J G E w' (kc + 0) (ks + 0) (pc + 3) ls (r.toList ++ st) σ') (fun w' X σ' => JX G E w' (kc + 0) (ks + 0) pc ls st σ' X)) : J G E w kc ks pc ls (a2 :: a1 :: .ref (w.2.1 o 1) :: st) σ :=
  J_invV C hls (As := [a1, a2]) rfl (hw.2.1 1 (by decide)) (kd_o hw.1) rfl (goodV q1_230 q1_231 q1_232 q1_3 q1_233) mdX0_addWind rfl rfl hroom rfl hcs hst hd hM
theorem iX9_85 (C : Cx G E cc RX9 nL R0) (hw : LO w o) {a1 : Value} (hls : ls.length = nL) (hroom : rmX0_addColour.frames + 1 ≤ R0.frames ∧ 8 + (2 + 11) + rmX0_addColour.locals ≤ R0.locals) (hcs : kc + 0 ≤ R0.cells ∧ ks + 0 ≤ R0.slots) (hst : (st.map fun v => v.category).sum ≤ 8) (hd : decode cc pc = .ok (.invokevirtual 85, 3)) (hM : MX0_addColour G w σ [.ref (w.2.1 o 1), a1] (fun w' r σ' => J G E w' (kc + 0) (ks + 0) (pc + 3) ls (r.toList ++ st) σ') (fun w' X σ' => JX G E w' (kc + 0) (ks + 0) pc ls st σ' X)) : J G E w kc ks pc ls (a1 :: .ref (w.2.1 o 1) :: st) σ :=
  J_invV C hls (As := [a1]) rfl (hw.2.1 1 (by decide)) (kd_o hw.1) rfl (goodV q1_234 q1_235 q1_236 q1_3 q1_237) mdX0_addColour rfl rfl hroom rfl hcs hst hd hM
theorem iX9_89 (C : Cx G E cc RX9 nL R0) (hw : LO w o) {a1 a2 a3 a4 a5 a6 : Value} (hls : ls.length = nL) (hroom : rmX4_enterKite.frames + 1 ≤ R0.frames ∧ 8 + (8 + 11) + rmX4_enterKite.locals ≤ R0.locals) (hcs : kc + 0 ≤ R0.cells ∧ ks + 0 ≤ R0.slots) (hst : (st.map fun v => v.category).sum ≤ 8) (hd : decode cc pc = .ok (.invokevirtual 89, 3)) (hM : MX4_enterKite G w σ [.ref (w.2.1 o 0), a1, a2, a3, a4, a5, a6] (fun w' r σ' => J G E w' (kc + 0) (ks + 0) (pc + 3) ls (r.toList ++ st) σ') (fun w' X σ' => JX G E w' (kc + 0) (ks + 0) pc ls st σ' X)) : J G E w kc ks pc ls (a6 :: a5 :: a4 :: a3 :: a2 :: a1 :: .ref (w.2.1 o 0) :: st) σ :=
  J_invV C hls (As := [a1, a2, a3, a4, a5, a6]) rfl (hw.2.1 0 (by decide)) (kd_o hw.1) rfl (goodV q1_238 q1_239 q2_0 q1_2 q2_1) mdX4_enterKite rfl rfl hroom rfl hcs hst hd hM
theorem iX9_110 (C : Cx G E cc RX9 nL R0) {a1 a2 a3 : Value} (hls : ls.length = nL) (hroom : rmX9_requireBetween.frames + 1 ≤ R0.frames ∧ 8 + (3 + 11) + rmX9_requireBetween.locals ≤ R0.locals) (hcs : kc + 1 ≤ R0.cells ∧ ks + 6 ≤ R0.slots) (hst : (st.map fun v => v.category).sum ≤ 8) (hd : decode cc pc = .ok (.invokestatic 110, 3)) (hM : MX9_requireBetween G w σ [a1, a2, a3] (fun w' r σ' => J G E w' (kc + 1) (ks + 6) (pc + 3) ls (r.toList ++ st) σ') (fun w' X σ' => JX G E w' (kc + 1) (ks + 6) pc ls st σ' X)) : J G E w kc ks pc ls (a3 :: a2 :: a1 :: st) σ :=
  J_invS C hls (As := [a1, a2, a3]) rfl (goodS q3_137 q3_138 q1_1 q3_139) mdX9_requireBetween.2 rfl rfl hroom rfl hcs hst hd hM
theorem iX9_134 (C : Cx G E cc RX9 nL R0) (hw : LK w) {a1 : Value} (hls : ls.length = nL) (hroom : rmX2_remember.frames + 1 ≤ R0.frames ∧ 8 + (2 + 11) + rmX2_remember.locals ≤ R0.locals) (hcs : kc + 0 ≤ R0.cells ∧ ks + 0 ≤ R0.slots) (hst : (st.map fun v => v.category).sum ≤ 8) (hd : decode cc pc = .ok (.invokevirtual 134, 3)) (hM : MX2_remember G w σ [.ref (w.2.1 12 1), a1] (fun w' r σ' => J G E w' (kc + 0) (ks + 0) (pc + 3) ls (r.toList ++ st) σ') (fun w' X σ' => JX G E w' (kc + 0) (ks + 0) pc ls st σ' X)) : J G E w kc ks pc ls (a1 :: .ref (w.2.1 12 1) :: st) σ :=
  J_invV C hls (As := [a1]) rfl (hw.1 1 (by decide)) rfl rfl (goodV q4_66 q4_67 q4_68 q1_6 q4_69) mdX2_remember rfl rfl hroom rfl hcs hst hd hM
theorem iX9_171 (C : Cx G E cc RX9 nL R0) (hw : LO w o) {a1 : Value} (hls : ls.length = nL) (hroom : rmX4_hasKite.frames + 1 ≤ R0.frames ∧ 8 + (2 + 11) + rmX4_hasKite.locals ≤ R0.locals) (hcs : kc + 0 ≤ R0.cells ∧ ks + 0 ≤ R0.slots) (hst : (st.map fun v => v.category).sum ≤ 8) (hd : decode cc pc = .ok (.invokevirtual 171, 3)) (hM : MX4_hasKite G w σ [.ref (w.2.1 o 0), a1] (fun w' r σ' => J G E w' (kc + 0) (ks + 0) (pc + 3) ls (r.toList ++ st) σ') (fun w' X σ' => JX G E w' (kc + 0) (ks + 0) pc ls st σ' X)) : J G E w kc ks pc ls (a1 :: .ref (w.2.1 o 0) :: st) σ :=
  J_invV C hls (As := [a1]) rfl (hw.2.1 0 (by decide)) (kd_o hw.1) rfl (goodV q4_132 q4_133 q4_134 q1_2 q4_135) mdX4_hasKite rfl rfl hroom rfl hcs hst hd hM
theorem iX9_174 (C : Cx G E cc RX9 nL R0) (hw : LO w o) {a1 : Value} (hls : ls.length = nL) (hroom : rmX4_isLaunchable.frames + 1 ≤ R0.frames ∧ 8 + (2 + 11) + rmX4_isLaunchable.locals ≤ R0.locals) (hcs : kc + 0 ≤ R0.cells ∧ ks + 0 ≤ R0.slots) (hst : (st.map fun v => v.category).sum ≤ 8) (hd : decode cc pc = .ok (.invokevirtual 174, 3)) (hM : MX4_isLaunchable G w σ [.ref (w.2.1 o 0), a1] (fun w' r σ' => J G E w' (kc + 0) (ks + 0) (pc + 3) ls (r.toList ++ st) σ') (fun w' X σ' => JX G E w' (kc + 0) (ks + 0) pc ls st σ' X)) : J G E w kc ks pc ls (a1 :: .ref (w.2.1 o 0) :: st) σ :=
  J_invV C hls (As := [a1]) rfl (hw.2.1 0 (by decide)) (kd_o hw.1) rfl (goodV q4_136 q4_137 q4_138 q1_2 q4_139) mdX4_isLaunchable rfl rfl hroom rfl hcs hst hd hM
theorem iX9_186 (C : Cx G E cc RX9 nL R0) (hw : LO w o) {a1 a2 a3 : Value} (hls : ls.length = nL) (hroom : rmX4_refusalReason.frames + 1 ≤ R0.frames ∧ 8 + (5 + 11) + rmX4_refusalReason.locals ≤ R0.locals) (hcs : kc + 0 ≤ R0.cells ∧ ks + 0 ≤ R0.slots) (hst : (st.map fun v => v.category).sum ≤ 8) (hd : decode cc pc = .ok (.invokevirtual 186, 3)) (hM : MX4_refusalReason G w σ [.ref (w.2.1 o 0), a1, a2, a3] (fun w' r σ' => J G E w' (kc + 0) (ks + 0) (pc + 3) ls (r.toList ++ st) σ') (fun w' X σ' => JX G E w' (kc + 0) (ks + 0) pc ls st σ' X)) : J G E w kc ks pc ls (a3 :: a2 :: a1 :: .ref (w.2.1 o 0) :: st) σ :=
  J_invV C hls (As := [a1, a2, a3]) rfl (hw.2.1 0 (by decide)) (kd_o hw.1) rfl (goodV q4_152 q4_153 q4_154 q1_2 q4_155) mdX4_refusalReason rfl rfl hroom rfl hcs hst hd hM
theorem iX9_190 (C : Cx G E cc RX9 nL R0) (hw : LO w o) {a1 : Value} (hls : ls.length = nL) (hroom : rmX4_isRepairable.frames + 1 ≤ R0.frames ∧ 8 + (2 + 11) + rmX4_isRepairable.locals ≤ R0.locals) (hcs : kc + 0 ≤ R0.cells ∧ ks + 0 ≤ R0.slots) (hst : (st.map fun v => v.category).sum ≤ 8) (hd : decode cc pc = .ok (.invokevirtual 190, 3)) (hM : MX4_isRepairable G w σ [.ref (w.2.1 o 0), a1] (fun w' r σ' => J G E w' (kc + 0) (ks + 0) (pc + 3) ls (r.toList ++ st) σ') (fun w' X σ' => JX G E w' (kc + 0) (ks + 0) pc ls st σ' X)) : J G E w kc ks pc ls (a1 :: .ref (w.2.1 o 0) :: st) σ :=
  J_invV C hls (As := [a1]) rfl (hw.2.1 0 (by decide)) (kd_o hw.1) rfl (goodV q4_181 q4_182 q4_183 q1_2 q4_184) mdX4_isRepairable rfl rfl hroom rfl hcs hst hd hM
theorem iX9_193 (C : Cx G E cc RX9 nL R0) (hw : LO w o) {a1 : Value} (hls : ls.length = nL) (hroom : rmX4_sendUp.frames + 1 ≤ R0.frames ∧ 8 + (2 + 11) + rmX4_sendUp.locals ≤ R0.locals) (hcs : kc + 0 ≤ R0.cells ∧ ks + 0 ≤ R0.slots) (hst : (st.map fun v => v.category).sum ≤ 8) (hd : decode cc pc = .ok (.invokevirtual 193, 3)) (hM : MX4_sendUp G w σ [.ref (w.2.1 o 0), a1] (fun w' r σ' => J G E w' (kc + 0) (ks + 0) (pc + 3) ls (r.toList ++ st) σ') (fun w' X σ' => JX G E w' (kc + 0) (ks + 0) pc ls st σ' X)) : J G E w kc ks pc ls (a1 :: .ref (w.2.1 o 0) :: st) σ :=
  J_invV C hls (As := [a1]) rfl (hw.2.1 0 (by decide)) (kd_o hw.1) rfl (goodV q4_193 q4_194 q4_195 q1_2 q4_196) mdX4_sendUp rfl rfl hroom rfl hcs hst hd hM
theorem iX9_196 (C : Cx G E cc RX9 nL R0) (hw : LO w o) {a1 : Value} (hls : ls.length = nL) (hroom : rmX4_bringDown.frames + 1 ≤ R0.frames ∧ 8 + (2 + 11) + rmX4_bringDown.locals ≤ R0.locals) (hcs : kc + 0 ≤ R0.cells ∧ ks + 0 ≤ R0.slots) (hst : (st.map fun v => v.category).sum ≤ 8) (hd : decode cc pc = .ok (.invokevirtual 196, 3)) (hM : MX4_bringDown G w σ [.ref (w.2.1 o 0), a1] (fun w' r σ' => J G E w' (kc + 0) (ks + 0) (pc + 3) ls (r.toList ++ st) σ') (fun w' X σ' => JX G E w' (kc + 0) (ks + 0) pc ls st σ' X)) : J G E w kc ks pc ls (a1 :: .ref (w.2.1 o 0) :: st) σ :=
  J_invV C hls (As := [a1]) rfl (hw.2.1 0 (by decide)) (kd_o hw.1) rfl (goodV q4_197 q4_198 q4_199 q1_2 q4_200) mdX4_bringDown rfl rfl hroom rfl hcs hst hd hM
theorem iX9_199 (C : Cx G E cc RX9 nL R0) (hw : LO w o) {a1 : Value} (hls : ls.length = nL) (hroom : rmX4_letHoursPass.frames + 1 ≤ R0.frames ∧ 8 + (4 + 11) + rmX4_letHoursPass.locals ≤ R0.locals) (hcs : kc + 0 ≤ R0.cells ∧ ks + 0 ≤ R0.slots) (hst : (st.map fun v => v.category).sum ≤ 8) (hd : decode cc pc = .ok (.invokevirtual 199, 3)) (hM : MX4_letHoursPass G w σ [.ref (w.2.1 o 0), a1] (fun w' r σ' => J G E w' (kc + 0) (ks + 0) (pc + 3) ls (r.toList ++ st) σ') (fun w' X σ' => JX G E w' (kc + 0) (ks + 0) pc ls st σ' X)) : J G E w kc ks pc ls (a1 :: .ref (w.2.1 o 0) :: st) σ :=
  J_invV C hls (As := [a1]) rfl (hw.2.1 0 (by decide)) (kd_o hw.1) rfl (goodV q4_201 q4_202 q4_203 q1_2 q4_204) mdX4_letHoursPass rfl rfl hroom rfl hcs hst hd hM
theorem iX9_203 (C : Cx G E cc RX9 nL R0) (hw : LO w o) {a1 a2 a3 : Value} (hls : ls.length = nL) (hroom : rmX4_grant.frames + 1 ≤ R0.frames ∧ 8 + (4 + 11) + rmX4_grant.locals ≤ R0.locals) (hcs : kc + 0 ≤ R0.cells ∧ ks + 0 ≤ R0.slots) (hst : (st.map fun v => v.category).sum ≤ 8) (hd : decode cc pc = .ok (.invokevirtual 203, 3)) (hM : MX4_grant G w σ [.ref (w.2.1 o 0), a1, a2, a3] (fun w' r σ' => J G E w' (kc + 0) (ks + 0) (pc + 3) ls (r.toList ++ st) σ') (fun w' X σ' => JX G E w' (kc + 0) (ks + 0) pc ls st σ' X)) : J G E w kc ks pc ls (a3 :: a2 :: a1 :: .ref (w.2.1 o 0) :: st) σ :=
  J_invV C hls (As := [a1, a2, a3]) rfl (hw.2.1 0 (by decide)) (kd_o hw.1) rfl (goodV q4_233 q4_234 q4_235 q1_2 q4_236) mdX4_grant rfl rfl hroom rfl hcs hst hd hM
theorem iX9_215 (C : Cx G E cc RX9 nL R0) (hw : LO w o) {a1 a2 : Value} (hls : ls.length = nL) (hroom : rmX4_retie.frames + 1 ≤ R0.frames ∧ 8 + (3 + 11) + rmX4_retie.locals ≤ R0.locals) (hcs : kc + 0 ≤ R0.cells ∧ ks + 0 ≤ R0.slots) (hst : (st.map fun v => v.category).sum ≤ 8) (hd : decode cc pc = .ok (.invokevirtual 215, 3)) (hM : MX4_retie G w σ [.ref (w.2.1 o 0), a1, a2] (fun w' r σ' => J G E w' (kc + 0) (ks + 0) (pc + 3) ls (r.toList ++ st) σ') (fun w' X σ' => JX G E w' (kc + 0) (ks + 0) pc ls st σ' X)) : J G E w kc ks pc ls (a2 :: a1 :: .ref (w.2.1 o 0) :: st) σ :=
  J_invV C hls (As := [a1, a2]) rfl (hw.2.1 0 (by decide)) (kd_o hw.1) rfl (goodV q5_9 q5_10 q5_11 q1_2 q5_12) mdX4_retie rfl rfl hroom rfl hcs hst hd hM
theorem iX9_218 (C : Cx G E cc RX9 nL R0) (hw : LO w o) {a1 : Value} (hls : ls.length = nL) (hroom : rmX4_mend.frames + 1 ≤ R0.frames ∧ 8 + (2 + 11) + rmX4_mend.locals ≤ R0.locals) (hcs : kc + 0 ≤ R0.cells ∧ ks + 0 ≤ R0.slots) (hst : (st.map fun v => v.category).sum ≤ 8) (hd : decode cc pc = .ok (.invokevirtual 218, 3)) (hM : MX4_mend G w σ [.ref (w.2.1 o 0), a1] (fun w' r σ' => J G E w' (kc + 0) (ks + 0) (pc + 3) ls (r.toList ++ st) σ') (fun w' X σ' => JX G E w' (kc + 0) (ks + 0) pc ls st σ' X)) : J G E w kc ks pc ls (a1 :: .ref (w.2.1 o 0) :: st) σ :=
  J_invV C hls (As := [a1]) rfl (hw.2.1 0 (by decide)) (kd_o hw.1) rfl (goodV q5_14 q5_15 q5_16 q1_2 q5_17) mdX4_mend rfl rfl hroom rfl hcs hst hd hM
theorem iX9_221 (C : Cx G E cc RX9 nL R0) (hw : LO w o) {a1 a2 : Value} (hls : ls.length = nL) (hroom : rmX4_putCoins.frames + 1 ≤ R0.frames ∧ 8 + (5 + 11) + rmX4_putCoins.locals ≤ R0.locals) (hcs : kc + 0 ≤ R0.cells ∧ ks + 0 ≤ R0.slots) (hst : (st.map fun v => v.category).sum ≤ 8) (hd : decode cc pc = .ok (.invokevirtual 221, 3)) (hM : MX4_putCoins G w σ [.ref (w.2.1 o 0), a1, a2] (fun w' r σ' => J G E w' (kc + 0) (ks + 0) (pc + 3) ls (r.toList ++ st) σ') (fun w' X σ' => JX G E w' (kc + 0) (ks + 0) pc ls st σ' X)) : J G E w kc ks pc ls (a2 :: a1 :: .ref (w.2.1 o 0) :: st) σ :=
  J_invV C hls (As := [a1, a2]) rfl (hw.2.1 0 (by decide)) (kd_o hw.1) rfl (goodV q5_18 q5_19 q5_20 q1_2 q5_21) mdX4_putCoins rfl rfl hroom rfl hcs hst hd hM
theorem iX9_224 (C : Cx G E cc RX9 nL R0) (hw : LK w) {a1 : Value} (hls : ls.length = nL) (hroom : rmX9_requireColour.frames + 1 ≤ R0.frames ∧ 8 + (2 + 11) + rmX9_requireColour.locals ≤ R0.locals) (hcs : kc + 1 ≤ R0.cells ∧ ks + 6 ≤ R0.slots) (hst : (st.map fun v => v.category).sum ≤ 8) (hd : decode cc pc = .ok (.invokevirtual 224, 3)) (hM : MX9_requireColour G w σ [.ref (w.2.1 12 0), a1] (fun w' r σ' => J G E w' (kc + 1) (ks + 6) (pc + 3) ls (r.toList ++ st) σ') (fun w' X σ' => JX G E w' (kc + 1) (ks + 6) pc ls st σ' X)) : J G E w kc ks pc ls (a1 :: .ref (w.2.1 12 0) :: st) σ :=
  J_invV C hls (As := [a1]) rfl (hw.1 0 (by decide)) rfl rfl (goodV q5_31 q5_33 qp_17 q1_1 q5_34) mdX9_requireColour rfl rfl hroom rfl hcs hst hd hM
theorem iX9_229 (C : Cx G E cc RX9 nL R0) (hw : LK w) {a1 : Value} (hls : ls.length = nL) (hroom : rmX9_requireKite.frames + 1 ≤ R0.frames ∧ 8 + (2 + 11) + rmX9_requireKite.locals ≤ R0.locals) (hcs : kc + 1 ≤ R0.cells ∧ ks + 6 ≤ R0.slots) (hst : (st.map fun v => v.category).sum ≤ 8) (hd : decode cc pc = .ok (.invokevirtual 229, 3)) (hM : MX9_requireKite G w σ [.ref (w.2.1 12 0), a1] (fun w' r σ' => J G E w' (kc + 1) (ks + 6) (pc + 3) ls (r.toList ++ st) σ') (fun w' X σ' => JX G E w' (kc + 1) (ks + 6) pc ls st σ' X)) : J G E w kc ks pc ls (a1 :: .ref (w.2.1 12 0) :: st) σ :=
  J_invV C hls (As := [a1]) rfl (hw.1 0 (by decide)) rfl rfl (goodV q5_59 q5_61 qp_18 q1_1 q5_62) mdX9_requireKite rfl rfl hroom rfl hcs hst hd hM
theorem iX9_237 (C : Cx G E cc RX9 nL R0) (hw : LO w o) {a1 a2 : Value} (hls : ls.length = nL) (hroom : rmX4_reachAt.frames + 1 ≤ R0.frames ∧ 8 + (3 + 11) + rmX4_reachAt.locals ≤ R0.locals) (hcs : kc + 0 ≤ R0.cells ∧ ks + 0 ≤ R0.slots) (hst : (st.map fun v => v.category).sum ≤ 8) (hd : decode cc pc = .ok (.invokevirtual 237, 3)) (hM : MX4_reachAt G w σ [.ref (w.2.1 o 0), a1, a2] (fun w' r σ' => J G E w' (kc + 0) (ks + 0) (pc + 3) ls (r.toList ++ st) σ') (fun w' X σ' => JX G E w' (kc + 0) (ks + 0) pc ls st σ' X)) : J G E w kc ks pc ls (a2 :: a1 :: .ref (w.2.1 o 0) :: st) σ :=
  J_invV C hls (As := [a1, a2]) rfl (hw.2.1 0 (by decide)) (kd_o hw.1) rfl (goodV q5_65 q3_16 q3_17 q1_2 q3_18) mdX4_reachAt rfl rfl hroom rfl hcs hst hd hM
theorem iX9_241 (C : Cx G E cc RX9 nL R0) (hw : LK w) {a1 a2 : Value} (hls : ls.length = nL) (hroom : rmX9_requireState.frames + 1 ≤ R0.frames ∧ 8 + (3 + 11) + rmX9_requireState.locals ≤ R0.locals) (hcs : kc + 1 ≤ R0.cells ∧ ks + 6 ≤ R0.slots) (hst : (st.map fun v => v.category).sum ≤ 8) (hd : decode cc pc = .ok (.invokevirtual 241, 3)) (hM : MX9_requireState G w σ [.ref (w.2.1 12 0), a1, a2] (fun w' r σ' => J G E w' (kc + 1) (ks + 6) (pc + 3) ls (r.toList ++ st) σ') (fun w' X σ' => JX G E w' (kc + 1) (ks + 6) pc ls st σ' X)) : J G E w kc ks pc ls (a2 :: a1 :: .ref (w.2.1 12 0) :: st) σ :=
  J_invV C hls (As := [a1, a2]) rfl (hw.1 0 (by decide)) rfl rfl (goodV q5_73 q5_75 qp_19 q1_1 q5_76) mdX9_requireState rfl rfl hroom rfl hcs hst hd hM
theorem iX9_244 (C : Cx G E cc RX9 nL R0) (hw : LO w o) {a1 : Value} (hls : ls.length = nL) (hroom : rmX1_countInState.frames + 1 ≤ R0.frames ∧ 8 + (4 + 11) + rmX1_countInState.locals ≤ R0.locals) (hcs : kc + 0 ≤ R0.cells ∧ ks + 0 ≤ R0.slots) (hst : (st.map fun v => v.category).sum ≤ 8) (hd : decode cc pc = .ok (.invokevirtual 244, 3)) (hM : MX1_countInState G w σ [.ref (w.2.1 o 6), a1] (fun w' r σ' => J G E w' (kc + 0) (ks + 0) (pc + 3) ls (r.toList ++ st) σ') (fun w' X σ' => JX G E w' (kc + 0) (ks + 0) pc ls st σ' X)) : J G E w kc ks pc ls (a1 :: .ref (w.2.1 o 6) :: st) σ :=
  J_invV C hls (As := [a1]) rfl (hw.2.1 6 (by decide)) (kd_o hw.1) rfl (goodV q3_7 q3_8 q3_9 q1_4 q3_10) mdX1_countInState rfl rfl hroom rfl hcs hst hd hM
theorem iX9_247 (C : Cx G E cc RX9 nL R0) (hw : LK w) {a1 a2 a3 : Value} (hls : ls.length = nL) (hroom : rmX9_requirePermitArguments.frames + 1 ≤ R0.frames ∧ 8 + (4 + 11) + rmX9_requirePermitArguments.locals ≤ R0.locals) (hcs : kc + 3 ≤ R0.cells ∧ ks + 18 ≤ R0.slots) (hst : (st.map fun v => v.category).sum ≤ 8) (hd : decode cc pc = .ok (.invokevirtual 247, 3)) (hM : MX9_requirePermitArguments G w σ [.ref (w.2.1 12 0), a1, a2, a3] (fun w' r σ' => J G E w' (kc + 3) (ks + 18) (pc + 3) ls (r.toList ++ st) σ') (fun w' X σ' => JX G E w' (kc + 3) (ks + 18) pc ls st σ' X)) : J G E w kc ks pc ls (a3 :: a2 :: a1 :: .ref (w.2.1 12 0) :: st) σ :=
  J_invV C hls (As := [a1, a2, a3]) rfl (hw.1 0 (by decide)) rfl rfl (goodV q5_92 q5_94 qp_20 q1_1 q5_95) mdX9_requirePermitArguments rfl rfl hroom rfl hcs hst hd hM
theorem iX9_258 (C : Cx G E cc RX9 nL R0) (hw : LO w o) {a1 : Value} (hls : ls.length = nL) (hroom : rmX4_repairPrice.frames + 1 ≤ R0.frames ∧ 8 + (2 + 11) + rmX4_repairPrice.locals ≤ R0.locals) (hcs : kc + 0 ≤ R0.cells ∧ ks + 0 ≤ R0.slots) (hst : (st.map fun v => v.category).sum ≤ 8) (hd : decode cc pc = .ok (.invokevirtual 258, 3)) (hM : MX4_repairPrice G w σ [.ref (w.2.1 o 0), a1] (fun w' r σ' => J G E w' (kc + 0) (ks + 0) (pc + 3) ls (r.toList ++ st) σ') (fun w' X σ' => JX G E w' (kc + 0) (ks + 0) pc ls st σ' X)) : J G E w kc ks pc ls (a1 :: .ref (w.2.1 o 0) :: st) σ :=
  J_invV C hls (As := [a1]) rfl (hw.2.1 0 (by decide)) (kd_o hw.1) rfl (goodV q5_124 q4_186 q4_187 q1_2 q4_188) mdX4_repairPrice rfl rfl hroom rfl hcs hst hd hM
theorem iX9_281 (C : Cx G E cc RX9 nL R0) {a1 : Value} (hls : ls.length = nL) (hroom : rmX9_requireHour.frames + 1 ≤ R0.frames ∧ 8 + (1 + 11) + rmX9_requireHour.locals ≤ R0.locals) (hcs : kc + 1 ≤ R0.cells ∧ ks + 6 ≤ R0.slots) (hst : (st.map fun v => v.category).sum ≤ 8) (hd : decode cc pc = .ok (.invokestatic 281, 3)) (hM : MX9_requireHour G w σ [a1] (fun w' r σ' => J G E w' (kc + 1) (ks + 6) (pc + 3) ls (r.toList ++ st) σ') (fun w' X σ' => JX G E w' (kc + 1) (ks + 6) pc ls st σ' X)) : J G E w kc ks pc ls (a1 :: st) σ :=
  J_invS C hls (As := [a1]) rfl (goodS q5_96 q5_97 q1_1 q5_98) mdX9_requireHour.2 rfl rfl hroom rfl hcs hst hd hM
theorem iX9_299 (C : Cx G E cc RX9 nL R0) (hw : LO w o) {a1 a2 : Value} (hls : ls.length = nL) (hroom : rmX4_countCovering.frames + 1 ≤ R0.frames ∧ 8 + (5 + 11) + rmX4_countCovering.locals ≤ R0.locals) (hcs : kc + 0 ≤ R0.cells ∧ ks + 0 ≤ R0.slots) (hst : (st.map fun v => v.category).sum ≤ 8) (hd : decode cc pc = .ok (.invokevirtual 299, 3)) (hM : MX4_countCovering G w σ [.ref (w.2.1 o 0), a1, a2] (fun w' r σ' => J G E w' (kc + 0) (ks + 0) (pc + 3) ls (r.toList ++ st) σ') (fun w' X σ' => JX G E w' (kc + 0) (ks + 0) pc ls st σ' X)) : J G E w kc ks pc ls (a2 :: a1 :: .ref (w.2.1 o 0) :: st) σ :=
  J_invV C hls (As := [a1, a2]) rfl (hw.2.1 0 (by decide)) (kd_o hw.1) rfl (goodV q5_209 q4_166 q4_167 q1_2 q4_168) mdX4_countCovering rfl rfl hroom rfl hcs hst hd hM
theorem iX9_328 (C : Cx G E cc RX9 nL R0) (hw : LO w o) {a1 a2 : Value} (hls : ls.length = nL) (hroom : rmX4_fliesAt.frames + 1 ≤ R0.frames ∧ 8 + (4 + 11) + rmX4_fliesAt.locals ≤ R0.locals) (hcs : kc + 0 ≤ R0.cells ∧ ks + 0 ≤ R0.slots) (hst : (st.map fun v => v.category).sum ≤ 8) (hd : decode cc pc = .ok (.invokevirtual 328, 3)) (hM : MX4_fliesAt G w σ [.ref (w.2.1 o 0), a1, a2] (fun w' r σ' => J G E w' (kc + 0) (ks + 0) (pc + 3) ls (r.toList ++ st) σ') (fun w' X σ' => JX G E w' (kc + 0) (ks + 0) pc ls st σ' X)) : J G E w kc ks pc ls (a2 :: a1 :: .ref (w.2.1 o 0) :: st) σ :=
  J_invV C hls (As := [a1, a2]) rfl (hw.2.1 0 (by decide)) (kd_o hw.1) rfl (goodV q6_64 q4_141 q4_142 q1_2 q4_143) mdX4_fliesAt rfl rfl hroom rfl hcs hst hd hM
theorem iX9_332 (C : Cx G E cc RX9 nL R0) {a1 a2 : Value} (hls : ls.length = nL) (hroom : rmX9_requireDifferent.frames + 1 ≤ R0.frames ∧ 8 + (2 + 11) + rmX9_requireDifferent.locals ≤ R0.locals) (hcs : kc + 1 ≤ R0.cells ∧ ks + 6 ≤ R0.slots) (hst : (st.map fun v => v.category).sum ≤ 8) (hd : decode cc pc = .ok (.invokestatic 332, 3)) (hM : MX9_requireDifferent G w σ [a1, a2] (fun w' r σ' => J G E w' (kc + 1) (ks + 6) (pc + 3) ls (r.toList ++ st) σ') (fun w' X σ' => JX G E w' (kc + 1) (ks + 6) pc ls st σ' X)) : J G E w kc ks pc ls (a2 :: a1 :: st) σ :=
  J_invS C hls (As := [a1, a2]) rfl (goodS q6_72 q6_73 q1_1 q6_74) mdX9_requireDifferent.2 rfl rfl hroom rfl hcs hst hd hM
theorem iX9_335 (C : Cx G E cc RX9 nL R0) (hw : LO w o) {a1 a2 a3 : Value} (hls : ls.length = nL) (hroom : rmX4_stringsCross.frames + 1 ≤ R0.frames ∧ 8 + (16 + 11) + rmX4_stringsCross.locals ≤ R0.locals) (hcs : kc + 0 ≤ R0.cells ∧ ks + 0 ≤ R0.slots) (hst : (st.map fun v => v.category).sum ≤ 8) (hd : decode cc pc = .ok (.invokevirtual 335, 3)) (hM : MX4_stringsCross G w σ [.ref (w.2.1 o 0), a1, a2, a3] (fun w' r σ' => J G E w' (kc + 0) (ks + 0) (pc + 3) ls (r.toList ++ st) σ') (fun w' X σ' => JX G E w' (kc + 0) (ks + 0) pc ls st σ' X)) : J G E w kc ks pc ls (a3 :: a2 :: a1 :: .ref (w.2.1 o 0) :: st) σ :=
  J_invV C hls (As := [a1, a2, a3]) rfl (hw.2.1 0 (by decide)) (kd_o hw.1) rfl (goodV q6_76 q2_207 q2_208 q1_2 q2_209) mdX4_stringsCross rfl rfl hroom rfl hcs hst hd hM
theorem iX9_339 (C : Cx G E cc RX9 nL R0) (hw : LK w) {a1 : Value} (hls : ls.length = nL) (hroom : rmX9_requirePermit.frames + 1 ≤ R0.frames ∧ 8 + (2 + 11) + rmX9_requirePermit.locals ≤ R0.locals) (hcs : kc + 1 ≤ R0.cells ∧ ks + 6 ≤ R0.slots) (hst : (st.map fun v => v.category).sum ≤ 8) (hd : decode cc pc = .ok (.invokevirtual 339, 3)) (hM : MX9_requirePermit G w σ [.ref (w.2.1 12 0), a1] (fun w' r σ' => J G E w' (kc + 1) (ks + 6) (pc + 3) ls (r.toList ++ st) σ') (fun w' X σ' => JX G E w' (kc + 1) (ks + 6) pc ls st σ' X)) : J G E w kc ks pc ls (a1 :: .ref (w.2.1 12 0) :: st) σ :=
  J_invV C hls (As := [a1]) rfl (hw.1 0 (by decide)) rfl rfl (goodV q6_84 q6_86 qp_22 q1_1 q6_87) mdX9_requirePermit rfl rfl hroom rfl hcs hst hd hM
theorem iX9_351 (C : Cx G E cc RX9 nL R0) (hw : LO w o) {a1 a2 a3 : Value} (hls : ls.length = nL) (hroom : rmX6_coverAny.frames + 1 ≤ R0.frames ∧ 8 + (5 + 11) + rmX6_coverAny.locals ≤ R0.locals) (hcs : kc + 0 ≤ R0.cells ∧ ks + 0 ≤ R0.slots) (hst : (st.map fun v => v.category).sum ≤ 8) (hd : decode cc pc = .ok (.invokevirtual 351, 3)) (hM : MX6_coverAny G w σ [.ref (w.2.1 o 17), a1, a2, a3] (fun w' r σ' => J G E w' (kc + 0) (ks + 0) (pc + 3) ls (r.toList ++ st) σ') (fun w' X σ' => JX G E w' (kc + 0) (ks + 0) pc ls st σ' X)) : J G E w kc ks pc ls (a3 :: a2 :: a1 :: .ref (w.2.1 o 17) :: st) σ :=
  J_invV C hls (As := [a1, a2, a3]) rfl (hw.2.1 17 (by decide)) (kd_o hw.1) rfl (goodV q6_110 q4_157 q4_158 q1_5 q4_159) mdX6_coverAny rfl rfl hroom rfl hcs hst hd hM
theorem iX9_354 (C : Cx G E cc RX9 nL R0) (hw : LO w o) {a1 a2 a3 : Value} (hls : ls.length = nL) (hroom : rmX4_firstCrossedKite.frames + 1 ≤ R0.frames ∧ 8 + (8 + 11) + rmX4_firstCrossedKite.locals ≤ R0.locals) (hcs : kc + 0 ≤ R0.cells ∧ ks + 0 ≤ R0.slots) (hst : (st.map fun v => v.category).sum ≤ 8) (hd : decode cc pc = .ok (.invokevirtual 354, 3)) (hM : MX4_firstCrossedKite G w σ [.ref (w.2.1 o 0), a1, a2, a3] (fun w' r σ' => J G E w' (kc + 0) (ks + 0) (pc + 3) ls (r.toList ++ st) σ') (fun w' X σ' => JX G E w' (kc + 0) (ks + 0) pc ls st σ' X)) : J G E w kc ks pc ls (a3 :: a2 :: a1 :: .ref (w.2.1 o 0) :: st) σ :=
  J_invV C hls (As := [a1, a2, a3]) rfl (hw.2.1 0 (by decide)) (kd_o hw.1) rfl (goodV q6_125 q4_178 q4_179 q1_2 q4_180) mdX4_firstCrossedKite rfl rfl hroom rfl hcs hst hd hM
theorem iX9_372 (C : Cx G E cc RX9 nL R0) (hw : LO w o) (hls : ls.length = nL) (hroom : rmX1_pursesTogether.frames + 1 ≤ R0.frames ∧ 8 + (3 + 11) + rmX1_pursesTogether.locals ≤ R0.locals) (hcs : kc + 0 ≤ R0.cells ∧ ks + 0 ≤ R0.slots) (hst : (st.map fun v => v.category).sum ≤ 8) (hd : decode cc pc = .ok (.invokevirtual 372, 3)) (hM : MX1_pursesTogether G w σ [.ref (w.2.1 o 6)] (fun w' r σ' => J G E w' (kc + 0) (ks + 0) (pc + 3) ls (r.toList ++ st) σ') (fun w' X σ' => JX G E w' (kc + 0) (ks + 0) pc ls st σ' X)) : J G E w kc ks pc ls (.ref (w.2.1 o 6) :: st) σ :=
  J_invV C hls (As := []) rfl (hw.2.1 6 (by decide)) (kd_o hw.1) rfl (goodV q2_180 q2_181 q2_182 q1_4 q2_183) mdX1_pursesTogether rfl rfl hroom rfl hcs hst hd hM
theorem iX9_376 (C : Cx G E cc RX9 nL R0) (hw : LO w o) (hls : ls.length = nL) (hroom : rmX4_countPermittedCrossings.frames + 1 ≤ R0.frames ∧ 8 + (6 + 11) + rmX4_countPermittedCrossings.locals ≤ R0.locals) (hcs : kc + 0 ≤ R0.cells ∧ ks + 0 ≤ R0.slots) (hst : (st.map fun v => v.category).sum ≤ 8) (hd : decode cc pc = .ok (.invokevirtual 376, 3)) (hM : MX4_countPermittedCrossings G w σ [.ref (w.2.1 o 0)] (fun w' r σ' => J G E w' (kc + 0) (ks + 0) (pc + 3) ls (r.toList ++ st) σ') (fun w' X σ' => JX G E w' (kc + 0) (ks + 0) pc ls st σ' X)) : J G E w kc ks pc ls (.ref (w.2.1 o 0) :: st) σ :=
  J_invV C hls (As := []) rfl (hw.2.1 0 (by decide)) (kd_o hw.1) rfl (goodV q2_188 q2_189 q2_190 q1_2 q2_191) mdX4_countPermittedCrossings rfl rfl hroom rfl hcs hst hd hM
end JI
