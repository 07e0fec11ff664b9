def lsr (x : Int64) (y : Int32) : Int64 := (x.toUInt64 >>> (y.toInt64.toUInt64 &&& Int64.toUInt64 63)).toInt64
def qX0_isSquare (p1 : Int32) : Int32 := (if p1 < 0 then 0 else (if 64 ≤ p1 then 0 else 1))
abbrev rmX0_isSquare : Room := { frames := 0, cells := 0, slots := 0, locals := 0 }
theorem nX0_isSquare : yX0_isSquare.cls ≠ "java/lang/invoke/MethodHandle" ∧ yX0_isSquare.cls ≠ "java/lang/invoke/VarHandle" ∧ (parseMethodDescriptor yX0_isSquare.desc).map (fun d => d.parameters.length) = some 1 := by decide +kernel
set_option maxHeartbeats 4000000 in
set_option maxRecDepth 100000 in
theorem mX0_isSquare (l : Launch) (D : va_G) (p1 : Int32) (r0 : Int32) (hR : r0 = qX0_isSquare p1) : cMi l yX0_isSquare wsX0_isSquare rmX0_isSquare D [] [] [.int p1] r0 [] := by
  intro sz
  refine cMet_of (Qc := fun AA => cQi D [] r0 [] AA) (cc := cX0_isSquare) (maxL := 1) (ret := (some .boolean)) (by decide) rfl (Nat.le_of_ble_eq_true rfl) ?_ sz
  intro p e s m below meth c AA ls hx hb hr hts hown hml hlk hA hK hP hD hS hl
  have hown : s.vm.findClass RX0 = some m.cls := hown
  have hl : lv_has ls 1 [(0, .int p1)] := hl
  rw [qX0_isSquare] at hR
  refine lv_iload_n hx hb dX0_isSquare_0 rfl (lv_at hl 0 rfl) ?_
  refine lv_if_lt (tgt := 14) hx hb dX0_isSquare_1 (by decide) (fun c1 => ?_) (fun c1 => ?_)
  · have hR := hR.trans (if_pos c1)
    refine lv_iconst (v := 0) hx hb dX0_isSquare_14 (by decide) ?_
    exact cRz hx hb hr hlk hK hP hD hS (Or.inl rfl) hR.symm dX0_isSquare_15
  · have hR := hR.trans (if_neg c1)
    refine lv_iload_n hx hb dX0_isSquare_4 rfl (lv_at hl 0 rfl) ?_
    refine lv_bipush (v := 64) hx hb dX0_isSquare_5 (by decide) ?_
    refine lv_icmp_ge (tgt := 14) hx hb dX0_isSquare_7 (by decide) (fun c7 => ?_) (fun c7 => ?_)
    · have hR := hR.trans (if_pos c7)
      refine lv_iconst (v := 0) hx hb dX0_isSquare_14 (by decide) ?_
      exact cRz hx hb hr hlk hK hP hD hS (Or.inl rfl) hR.symm dX0_isSquare_15
    · have hR := hR.trans (if_neg c7)
      refine lv_iconst (v := 1) hx hb dX0_isSquare_10 (by decide) ?_
      refine lv_goto (tgt := 15) hx hb dX0_isSquare_11 (by decide) ?_
      exact cRz hx hb hr hlk hK hP hD hS (Or.inr rfl) hR.symm dX0_isSquare_15
def qX0_fileOf (p1 : Int32) : Int32 := (p1 &&& 7)
abbrev rmX0_fileOf : Room := { frames := 0, cells := 0, slots := 0, locals := 0 }
theorem nX0_fileOf : yX0_fileOf.cls ≠ "java/lang/invoke/MethodHandle" ∧ yX0_fileOf.cls ≠ "java/lang/invoke/VarHandle" ∧ (parseMethodDescriptor yX0_fileOf.desc).map (fun d => d.parameters.length) = some 1 := by decide +kernel
set_option maxHeartbeats 4000000 in
set_option maxRecDepth 100000 in
theorem mX0_fileOf (l : Launch) (D : va_G) (p1 : Int32) (r0 : Int32) (hR : r0 = qX0_fileOf p1) : cMi l yX0_fileOf wsX0_fileOf rmX0_fileOf D [] [] [.int p1] r0 [] := by
  intro sz
  refine cMet_of (Qc := fun AA => cQi D [] r0 [] AA) (cc := cX0_fileOf) (maxL := 1) (ret := (some .int)) (by decide) rfl (Nat.le_of_ble_eq_true rfl) ?_ sz
  intro p e s m below meth c AA ls hx hb hr hts hown hml hlk hA hK hP hD hS hl
  have hown : s.vm.findClass RX0 = some m.cls := hown
  have hl : lv_has ls 1 [(0, .int p1)] := hl
  rw [qX0_fileOf] at hR
  refine lv_iload_n hx hb dX0_fileOf_0 rfl (lv_at hl 0 rfl) ?_
  refine lv_bipush (v := 7) hx hb dX0_fileOf_1 (by decide) ?_
  refine lv_iand hx hb dX0_fileOf_3 ?_
  exact cRi hx hb hr hlk hK hP hD hS hR.symm dX0_fileOf_4
def qX0_rankOf (p1 : Int32) : Int32 := (p1 >>> (3 &&& 31))
abbrev rmX0_rankOf : Room := { frames := 0, cells := 0, slots := 0, locals := 0 }
theorem nX0_rankOf : yX0_rankOf.cls ≠ "java/lang/invoke/MethodHandle" ∧ yX0_rankOf.cls ≠ "java/lang/invoke/VarHandle" ∧ (parseMethodDescriptor yX0_rankOf.desc).map (fun d => d.parameters.length) = some 1 := by decide +kernel
set_option maxHeartbeats 4000000 in
set_option maxRecDepth 100000 in
theorem mX0_rankOf (l : Launch) (D : va_G) (p1 : Int32) (r0 : Int32) (hR : r0 = qX0_rankOf p1) : cMi l yX0_rankOf wsX0_rankOf rmX0_rankOf D [] [] [.int p1] r0 [] := by
  intro sz
  refine cMet_of (Qc := fun AA => cQi D [] r0 [] AA) (cc := cX0_rankOf) (maxL := 1) (ret := (some .int)) (by decide) rfl (Nat.le_of_ble_eq_true rfl) ?_ sz
  intro p e s m below meth c AA ls hx hb hr hts hown hml hlk hA hK hP hD hS hl
  have hown : s.vm.findClass RX0 = some m.cls := hown
  have hl : lv_has ls 1 [(0, .int p1)] := hl
  rw [qX0_rankOf] at hR
  refine lv_iload_n hx hb dX0_rankOf_0 rfl (lv_at hl 0 rfl) ?_
  refine lv_iconst (v := 3) hx hb dX0_rankOf_1 (by decide) ?_
  refine lv_ishr hx hb dX0_rankOf_2 ?_
  exact cRi hx hb hr hlk hK hP hD hS hR.symm dX0_rankOf_3
def qX0_isTwoFilesAway (p1 : Int32) (p2 : Int32) : Int32 := (if ¬ (qX0_rankOf p1) = (qX0_rankOf p2) then 0 else (if ¬ (abI (p2 - p1)) = 2 then 0 else 1))
abbrev rmX0_isTwoFilesAway : Room := { frames := 1, cells := 0, slots := 0, locals := 21 }
theorem nX0_isTwoFilesAway : yX0_isTwoFilesAway.cls ≠ "java/lang/invoke/MethodHandle" ∧ yX0_isTwoFilesAway.cls ≠ "java/lang/invoke/VarHandle" ∧ (parseMethodDescriptor yX0_isTwoFilesAway.desc).map (fun d => d.parameters.length) = some 2 := by decide +kernel
theorem kX0_isTwoFilesAway_0 : Cond.methodLink RX0 240 Lib.Math.abs.name ∈ wsX0_isTwoFilesAway := by decide +kernel
theorem kX0_isTwoFilesAway_1 : Cond.static Lib.Math.abs.name ∈ wsX0_isTwoFilesAway := by decide +kernel
theorem kX0_isTwoFilesAway_2 : Cond.initialized "java/lang/Math" ∈ wsX0_isTwoFilesAway := by decide +kernel
theorem kX0_isTwoFilesAway_3 : Cond.code Lib.Math.abs.name Lib.Math.abs.code 1 (some .int) ∈ wsX0_isTwoFilesAway := by decide +kernel
set_option maxHeartbeats 4000000 in
set_option maxRecDepth 100000 in
theorem mX0_isTwoFilesAway (l : Launch) (D : va_G) (p1 : Int32) (p2 : Int32) (r0 : Int32) (hR : r0 = qX0_isTwoFilesAway p1 p2) : cMi l yX0_isTwoFilesAway wsX0_isTwoFilesAway rmX0_isTwoFilesAway D [] [] [.int p1, .int p2] r0 [] := by
  intro sz
  refine cMet_of (Qc := fun AA => cQi D [] r0 [] AA) (cc := cX0_isTwoFilesAway) (maxL := 2) (ret := (some .boolean)) (by decide) rfl (Nat.le_of_ble_eq_true rfl) ?_ sz
  intro p e s m below meth c AA ls hx hb hr hts hown hml hlk hA hK hP hD hS hl
  have hown : s.vm.findClass RX0 = some m.cls := hown
  have hl : lv_has ls 2 [(0, .int p1), (1, .int p2)] := hl
  rw [qX0_isTwoFilesAway] at hR
  refine lv_iload_n hx hb dX0_isTwoFilesAway_0 rfl (lv_at hl 0 rfl) ?_
  refine cSi ⟨hx, hb, hml, hown, hts⟩ (mX0_rankOf l D p1 _ rfl) (va_cwS 1 hts gX0_isTwoFilesAway_X0_rankOf rfl rfl rfl nX0_rankOf ⟨Nat.le_of_ble_eq_true rfl, Nat.le_of_ble_eq_true rfl⟩) rfl hl.1 rfl (Nat.le_of_ble_eq_true rfl) dX0_isTwoFilesAway_1 ⟨Nat.zero_le _, Nat.zero_le _⟩ hK hP hS hA (fun H locs hP hS => ?_)
  refine lv_iload_n hx hb dX0_isTwoFilesAway_4 rfl (lv_at hl 1 rfl) ?_
  refine cSi ⟨hx, hb, hml, hown, hts⟩ (mX0_rankOf l D p2 _ rfl) (va_cwS 1 hts gX0_isTwoFilesAway_X0_rankOf rfl rfl rfl nX0_rankOf ⟨Nat.le_of_ble_eq_true rfl, Nat.le_of_ble_eq_true rfl⟩) rfl hl.1 rfl (Nat.le_of_ble_eq_true rfl) dX0_isTwoFilesAway_5 ⟨Nat.zero_le _, Nat.zero_le _⟩ hK hP hS hA (fun H locs hP hS => ?_)
  refine lv_icmp_ne (tgt := 25) hx hb dX0_isTwoFilesAway_8 (by decide) (fun c8 => ?_) (fun c8 => ?_)
  · have hR := hR.trans (if_pos c8)
    refine lv_iconst (v := 0) hx hb dX0_isTwoFilesAway_25 (by decide) ?_
    exact cRz hx hb hr hlk hK hP hD hS (Or.inl rfl) hR.symm dX0_isTwoFilesAway_26
  · have hR := hR.trans (if_neg (fun z => z c8))
    refine lv_iload_n hx hb dX0_isTwoFilesAway_11 rfl (lv_at hl 1 rfl) ?_
    refine lv_iload_n hx hb dX0_isTwoFilesAway_12 rfl (lv_at hl 0 rfl) ?_
    refine lv_isub hx hb dX0_isTwoFilesAway_13 ?_
    refine mAbs hx hb (by rw [hml]; exact hl.1.symm) hown hts kX0_isTwoFilesAway_0 kX0_isTwoFilesAway_1 kX0_isTwoFilesAway_2 kX0_isTwoFilesAway_3 (Nat.le_of_ble_eq_true rfl) (Nat.le_of_ble_eq_true rfl) (Nat.zero_le _) (Nat.zero_le _) dX0_isTwoFilesAway_14 ?_
    refine lv_iconst (v := 2) hx hb dX0_isTwoFilesAway_17 (by decide) ?_
    refine lv_icmp_ne (tgt := 25) hx hb dX0_isTwoFilesAway_18 (by decide) (fun c18 => ?_) (fun c18 => ?_)
    · have hR := hR.trans (if_pos c18)
      refine lv_iconst (v := 0) hx hb dX0_isTwoFilesAway_25 (by decide) ?_
      exact cRz hx hb hr hlk hK hP hD hS (Or.inl rfl) hR.symm dX0_isTwoFilesAway_26
    · have hR := hR.trans (if_neg (fun z => z c18))
      refine lv_iconst (v := 1) hx hb dX0_isTwoFilesAway_21 (by decide) ?_
      refine lv_goto (tgt := 26) hx hb dX0_isTwoFilesAway_22 (by decide) ?_
      exact cRz hx hb hr hlk hK hP hD hS (Or.inr rfl) hR.symm dX0_isTwoFilesAway_26
def qX0_cornerBeyond (p1 : Int32) (p2 : Int32) : Int32 := (if p2 ≤ p1 then (p1 - 4) else (p1 + 3))
abbrev rmX0_cornerBeyond : Room := { frames := 0, cells := 0, slots := 0, locals := 0 }
theorem nX0_cornerBeyond : yX0_cornerBeyond.cls ≠ "java/lang/invoke/MethodHandle" ∧ yX0_cornerBeyond.cls ≠ "java/lang/invoke/VarHandle" ∧ (parseMethodDescriptor yX0_cornerBeyond.desc).map (fun d => d.parameters.length) = some 2 := by decide +kernel
set_option maxHeartbeats 4000000 in
set_option maxRecDepth 100000 in
theorem mX0_cornerBeyond (l : Launch) (D : va_G) (p1 : Int32) (p2 : Int32) (r0 : Int32) (hR : r0 = qX0_cornerBeyond p1 p2) : cMi l yX0_cornerBeyond wsX0_cornerBeyond rmX0_cornerBeyond D [] [] [.int p1, .int p2] r0 [] := by
  intro sz
  refine cMet_of (Qc := fun AA => cQi D [] r0 [] AA) (cc := cX0_cornerBeyond) (maxL := 2) (ret := (some .int)) (by decide) rfl (Nat.le_of_ble_eq_true rfl) ?_ sz
  intro p e s m below meth c AA ls hx hb hr hts hown hml hlk hA hK hP hD hS hl
  have hown : s.vm.findClass RX0 = some m.cls := hown
  have hl : lv_has ls 2 [(0, .int p1), (1, .int p2)] := hl
  rw [qX0_cornerBeyond] at hR
  refine lv_iload_n hx hb dX0_cornerBeyond_0 rfl (lv_at hl 1 rfl) ?_
  refine lv_iload_n hx hb dX0_cornerBeyond_1 rfl (lv_at hl 0 rfl) ?_
  refine lv_icmp_le (tgt := 11) hx hb dX0_cornerBeyond_2 (by decide) (fun c2 => ?_) (fun c2 => ?_)
  · have hR := hR.trans (if_pos c2)
    refine lv_iload_n hx hb dX0_cornerBeyond_11 rfl (lv_at hl 0 rfl) ?_
    refine lv_iconst (v := 4) hx hb dX0_cornerBeyond_12 (by decide) ?_
    refine lv_isub hx hb dX0_cornerBeyond_13 ?_
    exact cRi hx hb hr hlk hK hP hD hS hR.symm dX0_cornerBeyond_14
  · have hR := hR.trans (if_neg c2)
    refine lv_iload_n hx hb dX0_cornerBeyond_5 rfl (lv_at hl 0 rfl) ?_
    refine lv_iconst (v := 3) hx hb dX0_cornerBeyond_6 (by decide) ?_
    refine lv_iadd hx hb dX0_cornerBeyond_7 ?_
    refine lv_goto (tgt := 14) hx hb dX0_cornerBeyond_8 (by decide) ?_
    exact cRi hx hb hr hlk hK hP hD hS hR.symm dX0_cornerBeyond_14
def qX0_rightOfCorner (p1 : Int32) : Int32 := (if p1 = 0 then 2 else (if p1 = 7 then 1 else (if p1 = 56 then 8 else (if p1 = 63 then 4 else 0))))
abbrev rmX0_rightOfCorner : Room := { frames := 0, cells := 0, slots := 0, locals := 0 }
theorem nX0_rightOfCorner : yX0_rightOfCorner.cls ≠ "java/lang/invoke/MethodHandle" ∧ yX0_rightOfCorner.cls ≠ "java/lang/invoke/VarHandle" ∧ (parseMethodDescriptor yX0_rightOfCorner.desc).map (fun d => d.parameters.length) = some 1 := by decide +kernel
set_option maxHeartbeats 4000000 in
set_option maxRecDepth 100000 in
theorem mX0_rightOfCorner (l : Launch) (D : va_G) (p1 : Int32) (r0 : Int32) (hR : r0 = qX0_rightOfCorner p1) : cMi l yX0_rightOfCorner wsX0_rightOfCorner rmX0_rightOfCorner D [] [] [.int p1] r0 [] := by
  intro sz
  refine cMet_of (Qc := fun AA => cQi D [] r0 [] AA) (cc := cX0_rightOfCorner) (maxL := 1) (ret := (some .int)) (by decide) rfl (Nat.le_of_ble_eq_true rfl) ?_ sz
  intro p e s m below meth c AA ls hx hb hr hts hown hml hlk hA hK hP hD hS hl
  have hown : s.vm.findClass RX0 = some m.cls := hown
  have hl : lv_has ls 1 [(0, .int p1)] := hl
  rw [qX0_rightOfCorner] at hR
  refine lv_iload_n hx hb dX0_rightOfCorner_0 rfl (lv_at hl 0 rfl) ?_
  by_cases c1_0 : p1 = 0
  · refine lv_lookup (off := 45) (tgt := 46) hx hb dX0_rightOfCorner_1 (by decide) (by rw [c1_0]; decide) (by decide) ?_
    have hR := hR.trans (if_pos c1_0)
    refine lv_iconst (v := 2) hx hb dX0_rightOfCorner_46 (by decide) ?_
    exact cRi hx hb hr hlk hK hP hD hS hR.symm dX0_rightOfCorner_47
  have hR := hR.trans (if_neg c1_0)
  by_cases c1_7 : p1 = 7
  · refine lv_lookup (off := 43) (tgt := 44) hx hb dX0_rightOfCorner_1 (by decide) (by rw [c1_7]; decide) (by decide) ?_
    have hR := hR.trans (if_pos c1_7)
    refine lv_iconst (v := 1) hx hb dX0_rightOfCorner_44 (by decide) ?_
    exact cRi hx hb hr hlk hK hP hD hS hR.symm dX0_rightOfCorner_45
  have hR := hR.trans (if_neg c1_7)
  by_cases c1_56 : p1 = 56
  · refine lv_lookup (off := 49) (tgt := 50) hx hb dX0_rightOfCorner_1 (by decide) (by rw [c1_56]; decide) (by decide) ?_
    have hR := hR.trans (if_pos c1_56)
    refine lv_bipush (v := 8) hx hb dX0_rightOfCorner_50 (by decide) ?_
    exact cRi hx hb hr hlk hK hP hD hS hR.symm dX0_rightOfCorner_52
  have hR := hR.trans (if_neg c1_56)
  by_cases c1_63 : p1 = 63
  · refine lv_lookup (off := 47) (tgt := 48) hx hb dX0_rightOfCorner_1 (by decide) (by rw [c1_63]; decide) (by decide) ?_
    have hR := hR.trans (if_pos c1_63)
    refine lv_iconst (v := 4) hx hb dX0_rightOfCorner_48 (by decide) ?_
    exact cRi hx hb hr hlk hK hP hD hS hR.symm dX0_rightOfCorner_49
  have hR := hR.trans (if_neg c1_63)
  refine lv_lookup (off := 52) (tgt := 53) hx hb dX0_rightOfCorner_1 (by decide) (by show Op.lookupswitch.offset [(0, 45), (7, 43), (56, 49), (63, 47)] _ _ = _; rw [lv_osw (a := 0) c1_0 rfl, lv_osw (a := 7) c1_7 rfl, lv_osw (a := 56) c1_56 rfl, lv_osw (a := 63) c1_63 rfl]; rfl) (by decide) ?_
  refine lv_iconst (v := 0) hx hb dX0_rightOfCorner_53 (by decide) ?_
  exact cRi hx hb hr hlk hK hP hD hS hR.symm dX0_rightOfCorner_54
def qX0_isSide (p1 : Int32) : Int32 := (if p1 = 0 then 1 else (if ¬ p1 = 1 then 0 else 1))
abbrev rmX0_isSide : Room := { frames := 0, cells := 0, slots := 0, locals := 0 }
theorem nX0_isSide : yX0_isSide.cls ≠ "java/lang/invoke/MethodHandle" ∧ yX0_isSide.cls ≠ "java/lang/invoke/VarHandle" ∧ (parseMethodDescriptor yX0_isSide.desc).map (fun d => d.parameters.length) = some 1 := by decide +kernel
set_option maxHeartbeats 4000000 in
set_option maxRecDepth 100000 in
theorem mX0_isSide (l : Launch) (D : va_G) (p1 : Int32) (r0 : Int32) (hR : r0 = qX0_isSide p1) : cMi l yX0_isSide wsX0_isSide rmX0_isSide D [] [] [.int p1] r0 [] := by
  intro sz
  refine cMet_of (Qc := fun AA => cQi D [] r0 [] AA) (cc := cX0_isSide) (maxL := 1) (ret := (some .boolean)) (by decide) rfl (Nat.le_of_ble_eq_true rfl) ?_ sz
  intro p e s m below meth c AA ls hx hb hr hts hown hml hlk hA hK hP hD hS hl
  have hown : s.vm.findClass RX0 = some m.cls := hown
  have hl : lv_has ls 1 [(0, .int p1)] := hl
  rw [qX0_isSide] at hR
  refine lv_iload_n hx hb dX0_isSide_0 rfl (lv_at hl 0 rfl) ?_
  refine lv_if_eq (tgt := 9) hx hb dX0_isSide_1 (by decide) (fun c1 => ?_) (fun c1 => ?_)
  · have hR := hR.trans (if_pos c1)
    refine lv_iconst (v := 1) hx hb dX0_isSide_9 (by decide) ?_
    refine lv_goto (tgt := 14) hx hb dX0_isSide_10 (by decide) ?_
    exact cRz hx hb hr hlk hK hP hD hS (Or.inr rfl) hR.symm dX0_isSide_14
  · have hR := hR.trans (if_neg c1)
    refine lv_iload_n hx hb dX0_isSide_4 rfl (lv_at hl 0 rfl) ?_
    refine lv_iconst (v := 1) hx hb dX0_isSide_5 (by decide) ?_
    refine lv_icmp_ne (tgt := 13) hx hb dX0_isSide_6 (by decide) (fun c6 => ?_) (fun c6 => ?_)
    · have hR := hR.trans (if_pos c6)
      refine lv_iconst (v := 0) hx hb dX0_isSide_13 (by decide) ?_
      exact cRz hx hb hr hlk hK hP hD hS (Or.inl rfl) hR.symm dX0_isSide_14
    · have hR := hR.trans (if_neg (fun z => z c6))
      refine lv_iconst (v := 1) hx hb dX0_isSide_9 (by decide) ?_
      refine lv_goto (tgt := 14) hx hb dX0_isSide_10 (by decide) ?_
      exact cRz hx hb hr hlk hK hP hD hS (Or.inr rfl) hR.symm dX0_isSide_14
def qX0_otherThan (p1 : Int32) : Int32 := (1 - p1)
abbrev rmX0_otherThan : Room := { frames := 0, cells := 0, slots := 0, locals := 0 }
theorem nX0_otherThan : yX0_otherThan.cls ≠ "java/lang/invoke/MethodHandle" ∧ yX0_otherThan.cls ≠ "java/lang/invoke/VarHandle" ∧ (parseMethodDescriptor yX0_otherThan.desc).map (fun d => d.parameters.length) = some 1 := by decide +kernel
set_option maxHeartbeats 4000000 in
set_option maxRecDepth 100000 in
theorem mX0_otherThan (l : Launch) (D : va_G) (p1 : Int32) (r0 : Int32) (hR : r0 = qX0_otherThan p1) : cMi l yX0_otherThan wsX0_otherThan rmX0_otherThan D [] [] [.int p1] r0 [] := by
  intro sz
  refine cMet_of (Qc := fun AA => cQi D [] r0 [] AA) (cc := cX0_otherThan) (maxL := 1) (ret := (some .int)) (by decide) rfl (Nat.le_of_ble_eq_true rfl) ?_ sz
  intro p e s m below meth c AA ls hx hb hr hts hown hml hlk hA hK hP hD hS hl
  have hown : s.vm.findClass RX0 = some m.cls := hown
  have hl : lv_has ls 1 [(0, .int p1)] := hl
  rw [qX0_otherThan] at hR
  refine lv_iconst (v := 1) hx hb dX0_otherThan_0 (by decide) ?_
  refine lv_iload_n hx hb dX0_otherThan_1 rfl (lv_at hl 0 rfl) ?_
  refine lv_isub hx hb dX0_otherThan_2 ?_
  exact cRi hx hb hr hlk hK hP hD hS hR.symm dX0_otherThan_3
def qX0_onward (p1 : Int32) : Int32 := (if ¬ p1 = 0 then (-1) else 1)
abbrev rmX0_onward : Room := { frames := 0, cells := 0, slots := 0, locals := 0 }
theorem nX0_onward : yX0_onward.cls ≠ "java/lang/invoke/MethodHandle" ∧ yX0_onward.cls ≠ "java/lang/invoke/VarHandle" ∧ (parseMethodDescriptor yX0_onward.desc).map (fun d => d.parameters.length) = some 1 := by decide +kernel
set_option maxHeartbeats 4000000 in
set_option maxRecDepth 100000 in
theorem mX0_onward (l : Launch) (D : va_G) (p1 : Int32) (r0 : Int32) (hR : r0 = qX0_onward p1) : cMi l yX0_onward wsX0_onward rmX0_onward D [] [] [.int p1] r0 [] := by
  intro sz
  refine cMet_of (Qc := fun AA => cQi D [] r0 [] AA) (cc := cX0_onward) (maxL := 1) (ret := (some .int)) (by decide) rfl (Nat.le_of_ble_eq_true rfl) ?_ sz
  intro p e s m below meth c AA ls hx hb hr hts hown hml hlk hA hK hP hD hS hl
  have hown : s.vm.findClass RX0 = some m.cls := hown
  have hl : lv_has ls 1 [(0, .int p1)] := hl
  rw [qX0_onward] at hR
  refine lv_iload_n hx hb dX0_onward_0 rfl (lv_at hl 0 rfl) ?_
  refine lv_if_ne (tgt := 8) hx hb dX0_onward_1 (by decide) (fun c1 => ?_) (fun c1 => ?_)
  · have hR := hR.trans (if_pos c1)
    refine lv_iconst (v := (-1)) hx hb dX0_onward_8 (by decide) ?_
    exact cRi hx hb hr hlk hK hP hD hS hR.symm dX0_onward_9
  · have hR := hR.trans (if_neg (fun z => z c1))
    refine lv_iconst (v := 1) hx hb dX0_onward_4 (by decide) ?_
    refine lv_goto (tgt := 9) hx hb dX0_onward_5 (by decide) ?_
    exact cRi hx hb hr hlk hK hP hD hS hR.symm dX0_onward_9
def qX0_secondRankOf (p1 : Int32) : Int32 := (if ¬ p1 = 0 then 6 else 1)
abbrev rmX0_secondRankOf : Room := { frames := 0, cells := 0, slots := 0, locals := 0 }
theorem nX0_secondRankOf : yX0_secondRankOf.cls ≠ "java/lang/invoke/MethodHandle" ∧ yX0_secondRankOf.cls ≠ "java/lang/invoke/VarHandle" ∧ (parseMethodDescriptor yX0_secondRankOf.desc).map (fun d => d.parameters.length) = some 1 := by decide +kernel
set_option maxHeartbeats 4000000 in
set_option maxRecDepth 100000 in
theorem mX0_secondRankOf (l : Launch) (D : va_G) (p1 : Int32) (r0 : Int32) (hR : r0 = qX0_secondRankOf p1) : cMi l yX0_secondRankOf wsX0_secondRankOf rmX0_secondRankOf D [] [] [.int p1] r0 [] := by
  intro sz
  refine cMet_of (Qc := fun AA => cQi D [] r0 [] AA) (cc := cX0_secondRankOf) (maxL := 1) (ret := (some .int)) (by decide) rfl (Nat.le_of_ble_eq_true rfl) ?_ sz
  intro p e s m below meth c AA ls hx hb hr hts hown hml hlk hA hK hP hD hS hl
  have hown : s.vm.findClass RX0 = some m.cls := hown
  have hl : lv_has ls 1 [(0, .int p1)] := hl
  rw [qX0_secondRankOf] at hR
  refine lv_iload_n hx hb dX0_secondRankOf_0 rfl (lv_at hl 0 rfl) ?_
  refine lv_if_ne (tgt := 8) hx hb dX0_secondRankOf_1 (by decide) (fun c1 => ?_) (fun c1 => ?_)
  · have hR := hR.trans (if_pos c1)
    refine lv_bipush (v := 6) hx hb dX0_secondRankOf_8 (by decide) ?_
    exact cRi hx hb hr hlk hK hP hD hS hR.symm dX0_secondRankOf_10
  · have hR := hR.trans (if_neg (fun z => z c1))
    refine lv_iconst (v := 1) hx hb dX0_secondRankOf_4 (by decide) ?_
    refine lv_goto (tgt := 10) hx hb dX0_secondRankOf_5 (by decide) ?_
    exact cRi hx hb hr hlk hK hP hD hS hR.symm dX0_secondRankOf_10
def qX0_lastRankOf (p1 : Int32) : Int32 := (if ¬ p1 = 0 then 0 else 7)
abbrev rmX0_lastRankOf : Room := { frames := 0, cells := 0, slots := 0, locals := 0 }
theorem nX0_lastRankOf : yX0_lastRankOf.cls ≠ "java/lang/invoke/MethodHandle" ∧ yX0_lastRankOf.cls ≠ "java/lang/invoke/VarHandle" ∧ (parseMethodDescriptor yX0_lastRankOf.desc).map (fun d => d.parameters.length) = some 1 := by decide +kernel
set_option maxHeartbeats 4000000 in
set_option maxRecDepth 100000 in
theorem mX0_lastRankOf (l : Launch) (D : va_G) (p1 : Int32) (r0 : Int32) (hR : r0 = qX0_lastRankOf p1) : cMi l yX0_lastRankOf wsX0_lastRankOf rmX0_lastRankOf D [] [] [.int p1] r0 [] := by
  intro sz
  refine cMet_of (Qc := fun AA => cQi D [] r0 [] AA) (cc := cX0_lastRankOf) (maxL := 1) (ret := (some .int)) (by decide) rfl (Nat.le_of_ble_eq_true rfl) ?_ sz
  intro p e s m below meth c AA ls hx hb hr hts hown hml hlk hA hK hP hD hS hl
  have hown : s.vm.findClass RX0 = some m.cls := hown
  have hl : lv_has ls 1 [(0, .int p1)] := hl
  rw [qX0_lastRankOf] at hR
  refine lv_iload_n hx hb dX0_lastRankOf_0 rfl (lv_at hl 0 rfl) ?_
  refine lv_if_ne (tgt := 9) hx hb dX0_lastRankOf_1 (by decide) (fun c1 => ?_) (fun c1 => ?_)
  · have hR := hR.trans (if_pos c1)
    refine lv_iconst (v := 0) hx hb dX0_lastRankOf_9 (by decide) ?_
    exact cRi hx hb hr hlk hK hP hD hS hR.symm dX0_lastRankOf_10
  · have hR := hR.trans (if_neg (fun z => z c1))
    refine lv_bipush (v := 7) hx hb dX0_lastRankOf_4 (by decide) ?_
    refine lv_goto (tgt := 10) hx hb dX0_lastRankOf_6 (by decide) ?_
    exact cRi hx hb hr hlk hK hP hD hS hR.symm dX0_lastRankOf_10
def qX0_homeOfKing (p1 : Int32) : Int32 := (if ¬ p1 = 0 then 60 else 4)
abbrev rmX0_homeOfKing : Room := { frames := 0, cells := 0, slots := 0, locals := 0 }
theorem nX0_homeOfKing : yX0_homeOfKing.cls ≠ "java/lang/invoke/MethodHandle" ∧ yX0_homeOfKing.cls ≠ "java/lang/invoke/VarHandle" ∧ (parseMethodDescriptor yX0_homeOfKing.desc).map (fun d => d.parameters.length) = some 1 := by decide +kernel
set_option maxHeartbeats 4000000 in
set_option maxRecDepth 100000 in
theorem mX0_homeOfKing (l : Launch) (D : va_G) (p1 : Int32) (r0 : Int32) (hR : r0 = qX0_homeOfKing p1) : cMi l yX0_homeOfKing wsX0_homeOfKing rmX0_homeOfKing D [] [] [.int p1] r0 [] := by
  intro sz
  refine cMet_of (Qc := fun AA => cQi D [] r0 [] AA) (cc := cX0_homeOfKing) (maxL := 1) (ret := (some .int)) (by decide) rfl (Nat.le_of_ble_eq_true rfl) ?_ sz
  intro p e s m below meth c AA ls hx hb hr hts hown hml hlk hA hK hP hD hS hl
  have hown : s.vm.findClass RX0 = some m.cls := hown
  have hl : lv_has ls 1 [(0, .int p1)] := hl
  rw [qX0_homeOfKing] at hR
  refine lv_iload_n hx hb dX0_homeOfKing_0 rfl (lv_at hl 0 rfl) ?_
  refine lv_if_ne (tgt := 8) hx hb dX0_homeOfKing_1 (by decide) (fun c1 => ?_) (fun c1 => ?_)
  · have hR := hR.trans (if_pos c1)
    refine lv_bipush (v := 60) hx hb dX0_homeOfKing_8 (by decide) ?_
    exact cRi hx hb hr hlk hK hP hD hS hR.symm dX0_homeOfKing_10
  · have hR := hR.trans (if_neg (fun z => z c1))
    refine lv_iconst (v := 4) hx hb dX0_homeOfKing_4 (by decide) ?_
    refine lv_goto (tgt := 10) hx hb dX0_homeOfKing_5 (by decide) ?_
    exact cRi hx hb hr hlk hK hP hD hS hR.symm dX0_homeOfKing_10
def qX0_pieceOf (p1 : Int32) (p2 : Int32) : Int32 := (p1 + (6 * p2))
abbrev rmX0_pieceOf : Room := { frames := 0, cells := 0, slots := 0, locals := 0 }
theorem nX0_pieceOf : yX0_pieceOf.cls ≠ "java/lang/invoke/MethodHandle" ∧ yX0_pieceOf.cls ≠ "java/lang/invoke/VarHandle" ∧ (parseMethodDescriptor yX0_pieceOf.desc).map (fun d => d.parameters.length) = some 2 := by decide +kernel
set_option maxHeartbeats 4000000 in
set_option maxRecDepth 100000 in
theorem mX0_pieceOf (l : Launch) (D : va_G) (p1 : Int32) (p2 : Int32) (r0 : Int32) (hR : r0 = qX0_pieceOf p1 p2) : cMi l yX0_pieceOf wsX0_pieceOf rmX0_pieceOf D [] [] [.int p1, .int p2] r0 [] := by
  intro sz
  refine cMet_of (Qc := fun AA => cQi D [] r0 [] AA) (cc := cX0_pieceOf) (maxL := 2) (ret := (some .int)) (by decide) rfl (Nat.le_of_ble_eq_true rfl) ?_ sz
  intro p e s m below meth c AA ls hx hb hr hts hown hml hlk hA hK hP hD hS hl
  have hown : s.vm.findClass RX0 = some m.cls := hown
  have hl : lv_has ls 2 [(0, .int p1), (1, .int p2)] := hl
  rw [qX0_pieceOf] at hR
  refine lv_iload_n hx hb dX0_pieceOf_0 rfl (lv_at hl 0 rfl) ?_
  refine lv_bipush (v := 6) hx hb dX0_pieceOf_1 (by decide) ?_
  refine lv_iload_n hx hb dX0_pieceOf_3 rfl (lv_at hl 1 rfl) ?_
  refine lv_imul hx hb dX0_pieceOf_4 ?_
  refine lv_iadd hx hb dX0_pieceOf_5 ?_
  exact cRi hx hb hr hlk hK hP hD hS hR.symm dX0_pieceOf_6
def qX0_typeOf (p1 : Int32) : Int32 := (if p1 ≤ 6 then p1 else (p1 - 6))
abbrev rmX0_typeOf : Room := { frames := 0, cells := 0, slots := 0, locals := 0 }
theorem nX0_typeOf : yX0_typeOf.cls ≠ "java/lang/invoke/MethodHandle" ∧ yX0_typeOf.cls ≠ "java/lang/invoke/VarHandle" ∧ (parseMethodDescriptor yX0_typeOf.desc).map (fun d => d.parameters.length) = some 1 := by decide +kernel
set_option maxHeartbeats 4000000 in
set_option maxRecDepth 100000 in
theorem mX0_typeOf (l : Launch) (D : va_G) (p1 : Int32) (r0 : Int32) (hR : r0 = qX0_typeOf p1) : cMi l yX0_typeOf wsX0_typeOf rmX0_typeOf D [] [] [.int p1] r0 [] := by
  intro sz
  refine cMet_of (Qc := fun AA => cQi D [] r0 [] AA) (cc := cX0_typeOf) (maxL := 1) (ret := (some .int)) (by decide) rfl (Nat.le_of_ble_eq_true rfl) ?_ sz
  intro p e s m below meth c AA ls hx hb hr hts hown hml hlk hA hK hP hD hS hl
  have hown : s.vm.findClass RX0 = some m.cls := hown
  have hl : lv_has ls 1 [(0, .int p1)] := hl
  rw [qX0_typeOf] at hR
  refine lv_iload_n hx hb dX0_typeOf_0 rfl (lv_at hl 0 rfl) ?_
  refine lv_bipush (v := 6) hx hb dX0_typeOf_1 (by decide) ?_
  refine lv_icmp_le (tgt := 13) hx hb dX0_typeOf_3 (by decide) (fun c3 => ?_) (fun c3 => ?_)
  · have hR := hR.trans (if_pos c3)
    refine lv_iload_n hx hb dX0_typeOf_13 rfl (lv_at hl 0 rfl) ?_
    exact cRi hx hb hr hlk hK hP hD hS hR.symm dX0_typeOf_14
  · have hR := hR.trans (if_neg c3)
    refine lv_iload_n hx hb dX0_typeOf_6 rfl (lv_at hl 0 rfl) ?_
    refine lv_bipush (v := 6) hx hb dX0_typeOf_7 (by decide) ?_
    refine lv_isub hx hb dX0_typeOf_9 ?_
    refine lv_goto (tgt := 14) hx hb dX0_typeOf_10 (by decide) ?_
    exact cRi hx hb hr hlk hK hP hD hS hR.symm dX0_typeOf_14
def qX0_sideOf (p1 : Int32) : Int32 := (if ¬ p1 = 0 then (if p1 ≤ 6 then 0 else 1) else (-1))
abbrev rmX0_sideOf : Room := { frames := 0, cells := 0, slots := 0, locals := 0 }
theorem nX0_sideOf : yX0_sideOf.cls ≠ "java/lang/invoke/MethodHandle" ∧ yX0_sideOf.cls ≠ "java/lang/invoke/VarHandle" ∧ (parseMethodDescriptor yX0_sideOf.desc).map (fun d => d.parameters.length) = some 1 := by decide +kernel
set_option maxHeartbeats 4000000 in
set_option maxRecDepth 100000 in
theorem mX0_sideOf (l : Launch) (D : va_G) (p1 : Int32) (r0 : Int32) (hR : r0 = qX0_sideOf p1) : cMi l yX0_sideOf wsX0_sideOf rmX0_sideOf D [] [] [.int p1] r0 [] := by
  intro sz
  refine cMet_of (Qc := fun AA => cQi D [] r0 [] AA) (cc := cX0_sideOf) (maxL := 1) (ret := (some .int)) (by decide) rfl (Nat.le_of_ble_eq_true rfl) ?_ sz
  intro p e s m below meth c AA ls hx hb hr hts hown hml hlk hA hK hP hD hS hl
  have hown : s.vm.findClass RX0 = some m.cls := hown
  have hl : lv_has ls 1 [(0, .int p1)] := hl
  rw [qX0_sideOf] at hR
  refine lv_iload_n hx hb dX0_sideOf_0 rfl (lv_at hl 0 rfl) ?_
  refine lv_if_ne (tgt := 6) hx hb dX0_sideOf_1 (by decide) (fun c1 => ?_) (fun c1 => ?_)
  · have hR := hR.trans (if_pos c1)
    refine lv_iload_n hx hb dX0_sideOf_6 rfl (lv_at hl 0 rfl) ?_
    refine lv_bipush (v := 6) hx hb dX0_sideOf_7 (by decide) ?_
    refine lv_icmp_le (tgt := 16) hx hb dX0_sideOf_9 (by decide) (fun c9 => ?_) (fun c9 => ?_)
    · have hR := hR.trans (if_pos c9)
      refine lv_iconst (v := 0) hx hb dX0_sideOf_16 (by decide) ?_
      exact cRi hx hb hr hlk hK hP hD hS hR.symm dX0_sideOf_17
    · have hR := hR.trans (if_neg c9)
      refine lv_iconst (v := 1) hx hb dX0_sideOf_12 (by decide) ?_
      refine lv_goto (tgt := 17) hx hb dX0_sideOf_13 (by decide) ?_
      exact cRi hx hb hr hlk hK hP hD hS hR.symm dX0_sideOf_17
  · have hR := hR.trans (if_neg (fun z => z c1))
    refine lv_iconst (v := (-1)) hx hb dX0_sideOf_4 (by decide) ?_
    exact cRi hx hb hr hlk hK hP hD hS hR.symm dX0_sideOf_5
def qX0_worthOf (p1 : Int32) : Int32 := (if p1 = 1 then 1 else (if p1 = 2 then 3 else (if p1 = 3 then 3 else (if p1 = 4 then 5 else (if p1 = 5 then 9 else 0)))))
abbrev rmX0_worthOf : Room := { frames := 0, cells := 0, slots := 0, locals := 0 }
theorem nX0_worthOf : yX0_worthOf.cls ≠ "java/lang/invoke/MethodHandle" ∧ yX0_worthOf.cls ≠ "java/lang/invoke/VarHandle" ∧ (parseMethodDescriptor yX0_worthOf.desc).map (fun d => d.parameters.length) = some 1 := by decide +kernel
set_option maxHeartbeats 4000000 in
set_option maxRecDepth 100000 in
theorem mX0_worthOf (l : Launch) (D : va_G) (p1 : Int32) (r0 : Int32) (hR : r0 = qX0_worthOf p1) : cMi l yX0_worthOf wsX0_worthOf rmX0_worthOf D [] [] [.int p1] r0 [] := by
  intro sz
  refine cMet_of (Qc := fun AA => cQi D [] r0 [] AA) (cc := cX0_worthOf) (maxL := 1) (ret := (some .int)) (by decide) rfl (Nat.le_of_ble_eq_true rfl) ?_ sz
  intro p e s m below meth c AA ls hx hb hr hts hown hml hlk hA hK hP hD hS hl
  have hown : s.vm.findClass RX0 = some m.cls := hown
  have hl : lv_has ls 1 [(0, .int p1)] := hl
  rw [qX0_worthOf] at hR
  refine lv_iload_n hx hb dX0_worthOf_0 rfl (lv_at hl 0 rfl) ?_
  by_cases c1_1 : p1 = 1
  · refine lv_tableIn (off := 35) (tgt := 36) hx hb dX0_worthOf_1 (by rw [c1_1]; decide) (by rw [c1_1]; decide) (by rw [c1_1]; rfl) (by decide) ?_
    have hR := hR.trans (if_pos c1_1)
    refine lv_iconst (v := 1) hx hb dX0_worthOf_36 (by decide) ?_
    exact cRi hx hb hr hlk hK hP hD hS hR.symm dX0_worthOf_37
  have hR := hR.trans (if_neg c1_1)
  by_cases c1_2 : p1 = 2
  · refine lv_tableIn (off := 37) (tgt := 38) hx hb dX0_worthOf_1 (by rw [c1_2]; decide) (by rw [c1_2]; decide) (by rw [c1_2]; rfl) (by decide) ?_
    have hR := hR.trans (if_pos c1_2)
    refine lv_iconst (v := 3) hx hb dX0_worthOf_38 (by decide) ?_
    exact cRi hx hb hr hlk hK hP hD hS hR.symm dX0_worthOf_39
  have hR := hR.trans (if_neg c1_2)
  by_cases c1_3 : p1 = 3
  · refine lv_tableIn (off := 37) (tgt := 38) hx hb dX0_worthOf_1 (by rw [c1_3]; decide) (by rw [c1_3]; decide) (by rw [c1_3]; rfl) (by decide) ?_
    have hR := hR.trans (if_pos c1_3)
    refine lv_iconst (v := 3) hx hb dX0_worthOf_38 (by decide) ?_
    exact cRi hx hb hr hlk hK hP hD hS hR.symm dX0_worthOf_39
  have hR := hR.trans (if_neg c1_3)
  by_cases c1_4 : p1 = 4
  · refine lv_tableIn (off := 39) (tgt := 40) hx hb dX0_worthOf_1 (by rw [c1_4]; decide) (by rw [c1_4]; decide) (by rw [c1_4]; rfl) (by decide) ?_
    have hR := hR.trans (if_pos c1_4)
    refine lv_iconst (v := 5) hx hb dX0_worthOf_40 (by decide) ?_
    exact cRi hx hb hr hlk hK hP hD hS hR.symm dX0_worthOf_41
  have hR := hR.trans (if_neg c1_4)
  by_cases c1_5 : p1 = 5
  · refine lv_tableIn (off := 41) (tgt := 42) hx hb dX0_worthOf_1 (by rw [c1_5]; decide) (by rw [c1_5]; decide) (by rw [c1_5]; rfl) (by decide) ?_
    have hR := hR.trans (if_pos c1_5)
    refine lv_bipush (v := 9) hx hb dX0_worthOf_42 (by decide) ?_
    exact cRi hx hb hr hlk hK hP hD hS hR.symm dX0_worthOf_44
  have hR := hR.trans (if_neg c1_5)
  refine lv_tableOut (tgt := 45) hx hb dX0_worthOf_1 (by have z0 := lv_neT (a := 1) c1_1 rfl; have z1 := lv_neT (a := 2) c1_2 rfl; have z2 := lv_neT (a := 3) c1_3 rfl; have z3 := lv_neT (a := 4) c1_4 rfl; have z4 := lv_neT (a := 5) c1_5 rfl; omega) (by decide) ?_
  refine lv_iconst (v := 0) hx hb dX0_worthOf_45 (by decide) ?_
  exact cRi hx hb hr hlk hK hP hD hS hR.symm dX0_worthOf_46
def qX0_rightsOfKing (p1 : Int32) : Int32 := (if (qX0_typeOf p1) = 6 then (if ¬ (qX0_sideOf p1) = 0 then 12 else 3) else 0)
abbrev rmX0_rightsOfKing : Room := { frames := 1, cells := 0, slots := 0, locals := 20 }
theorem nX0_rightsOfKing : yX0_rightsOfKing.cls ≠ "java/lang/invoke/MethodHandle" ∧ yX0_rightsOfKing.cls ≠ "java/lang/invoke/VarHandle" ∧ (parseMethodDescriptor yX0_rightsOfKing.desc).map (fun d => d.parameters.length) = some 1 := by decide +kernel
set_option maxHeartbeats 4000000 in
set_option maxRecDepth 100000 in
theorem mX0_rightsOfKing (l : Launch) (D : va_G) (p1 : Int32) (r0 : Int32) (hR : r0 = qX0_rightsOfKing p1) : cMi l yX0_rightsOfKing wsX0_rightsOfKing rmX0_rightsOfKing D [] [] [.int p1] r0 [] := by
  intro sz
  refine cMet_of (Qc := fun AA => cQi D [] r0 [] AA) (cc := cX0_rightsOfKing) (maxL := 1) (ret := (some .int)) (by decide) rfl (Nat.le_of_ble_eq_true rfl) ?_ sz
  intro p e s m below meth c AA ls hx hb hr hts hown hml hlk hA hK hP hD hS hl
  have hown : s.vm.findClass RX0 = some m.cls := hown
  have hl : lv_has ls 1 [(0, .int p1)] := hl
  rw [qX0_rightsOfKing] at hR
  refine lv_iload_n hx hb dX0_rightsOfKing_0 rfl (lv_at hl 0 rfl) ?_
  refine cSi ⟨hx, hb, hml, hown, hts⟩ (mX0_typeOf l D p1 _ rfl) (va_cwS 1 hts gX0_rightsOfKing_X0_typeOf rfl rfl rfl nX0_typeOf ⟨Nat.le_of_ble_eq_true rfl, Nat.le_of_ble_eq_true rfl⟩) rfl hl.1 rfl (Nat.le_of_ble_eq_true rfl) dX0_rightsOfKing_1 ⟨Nat.zero_le _, Nat.zero_le _⟩ hK hP hS hA (fun H locs hP hS => ?_)
  refine lv_bipush (v := 6) hx hb dX0_rightsOfKing_4 (by decide) ?_
  refine lv_icmp_eq (tgt := 11) hx hb dX0_rightsOfKing_6 (by decide) (fun c6 => ?_) (fun c6 => ?_)
  · have hR := hR.trans (if_pos c6)
    refine lv_iload_n hx hb dX0_rightsOfKing_11 rfl (lv_at hl 0 rfl) ?_
    refine cSi ⟨hx, hb, hml, hown, hts⟩ (mX0_sideOf l D p1 _ rfl) (va_cwS 1 hts gX0_rightsOfKing_X0_sideOf rfl rfl rfl nX0_sideOf ⟨Nat.le_of_ble_eq_true rfl, Nat.le_of_ble_eq_true rfl⟩) rfl hl.1 rfl (Nat.le_of_ble_eq_true rfl) dX0_rightsOfKing_12 ⟨Nat.zero_le _, Nat.zero_le _⟩ hK hP hS hA (fun H locs hP hS => ?_)
    refine lv_if_ne (tgt := 22) hx hb dX0_rightsOfKing_15 (by decide) (fun c15 => ?_) (fun c15 => ?_)
    · have hR := hR.trans (if_pos c15)
      refine lv_bipush (v := 12) hx hb dX0_rightsOfKing_22 (by decide) ?_
      exact cRi hx hb hr hlk hK hP hD hS hR.symm dX0_rightsOfKing_24
    · have hR := hR.trans (if_neg (fun z => z c15))
      refine lv_iconst (v := 3) hx hb dX0_rightsOfKing_18 (by decide) ?_
      refine lv_goto (tgt := 24) hx hb dX0_rightsOfKing_19 (by decide) ?_
      exact cRi hx hb hr hlk hK hP hD hS hR.symm dX0_rightsOfKing_24
  · have hR := hR.trans (if_neg c6)
    refine lv_iconst (v := 0) hx hb dX0_rightsOfKing_9 (by decide) ?_
    exact cRi hx hb hr hlk hK hP hD hS hR.symm dX0_rightsOfKing_10
def qX0_fromOf (p1 : Int32) : Int32 := (p1 &&& 63)
abbrev rmX0_fromOf : Room := { frames := 0, cells := 0, slots := 0, locals := 0 }
theorem nX0_fromOf : yX0_fromOf.cls ≠ "java/lang/invoke/MethodHandle" ∧ yX0_fromOf.cls ≠ "java/lang/invoke/VarHandle" ∧ (parseMethodDescriptor yX0_fromOf.desc).map (fun d => d.parameters.length) = some 1 := by decide +kernel
set_option maxHeartbeats 4000000 in
set_option maxRecDepth 100000 in
theorem mX0_fromOf (l : Launch) (D : va_G) (p1 : Int32) (r0 : Int32) (hR : r0 = qX0_fromOf p1) : cMi l yX0_fromOf wsX0_fromOf rmX0_fromOf D [] [] [.int p1] r0 [] := by
  intro sz
  refine cMet_of (Qc := fun AA => cQi D [] r0 [] AA) (cc := cX0_fromOf) (maxL := 1) (ret := (some .int)) (by decide) rfl (Nat.le_of_ble_eq_true rfl) ?_ sz
  intro p e s m below meth c AA ls hx hb hr hts hown hml hlk hA hK hP hD hS hl
  have hown : s.vm.findClass RX0 = some m.cls := hown
  have hl : lv_has ls 1 [(0, .int p1)] := hl
  rw [qX0_fromOf] at hR
  refine lv_iload_n hx hb dX0_fromOf_0 rfl (lv_at hl 0 rfl) ?_
  refine lv_bipush (v := 63) hx hb dX0_fromOf_1 (by decide) ?_
  refine lv_iand hx hb dX0_fromOf_3 ?_
  exact cRi hx hb hr hlk hK hP hD hS hR.symm dX0_fromOf_4
def qX0_toOf (p1 : Int32) : Int32 := ((p1 >>> (6 &&& 31)) &&& 63)
abbrev rmX0_toOf : Room := { frames := 0, cells := 0, slots := 0, locals := 0 }
theorem nX0_toOf : yX0_toOf.cls ≠ "java/lang/invoke/MethodHandle" ∧ yX0_toOf.cls ≠ "java/lang/invoke/VarHandle" ∧ (parseMethodDescriptor yX0_toOf.desc).map (fun d => d.parameters.length) = some 1 := by decide +kernel
set_option maxHeartbeats 4000000 in
set_option maxRecDepth 100000 in
theorem mX0_toOf (l : Launch) (D : va_G) (p1 : Int32) (r0 : Int32) (hR : r0 = qX0_toOf p1) : cMi l yX0_toOf wsX0_toOf rmX0_toOf D [] [] [.int p1] r0 [] := by
  intro sz
  refine cMet_of (Qc := fun AA => cQi D [] r0 [] AA) (cc := cX0_toOf) (maxL := 1) (ret := (some .int)) (by decide) rfl (Nat.le_of_ble_eq_true rfl) ?_ sz
  intro p e s m below meth c AA ls hx hb hr hts hown hml hlk hA hK hP hD hS hl
  have hown : s.vm.findClass RX0 = some m.cls := hown
  have hl : lv_has ls 1 [(0, .int p1)] := hl
  rw [qX0_toOf] at hR
  refine lv_iload_n hx hb dX0_toOf_0 rfl (lv_at hl 0 rfl) ?_
  refine lv_bipush (v := 6) hx hb dX0_toOf_1 (by decide) ?_
  refine lv_ishr hx hb dX0_toOf_3 ?_
  refine lv_bipush (v := 63) hx hb dX0_toOf_4 (by decide) ?_
  refine lv_iand hx hb dX0_toOf_6 ?_
  exact cRi hx hb hr hlk hK hP hD hS hR.symm dX0_toOf_7
def qX0_kindOf (p1 : Int32) : Int32 := (p1 >>> (12 &&& 31))
abbrev rmX0_kindOf : Room := { frames := 0, cells := 0, slots := 0, locals := 0 }
theorem nX0_kindOf : yX0_kindOf.cls ≠ "java/lang/invoke/MethodHandle" ∧ yX0_kindOf.cls ≠ "java/lang/invoke/VarHandle" ∧ (parseMethodDescriptor yX0_kindOf.desc).map (fun d => d.parameters.length) = some 1 := by decide +kernel
set_option maxHeartbeats 4000000 in
set_option maxRecDepth 100000 in
theorem mX0_kindOf (l : Launch) (D : va_G) (p1 : Int32) (r0 : Int32) (hR : r0 = qX0_kindOf p1) : cMi l yX0_kindOf wsX0_kindOf rmX0_kindOf D [] [] [.int p1] r0 [] := by
  intro sz
  refine cMet_of (Qc := fun AA => cQi D [] r0 [] AA) (cc := cX0_kindOf) (maxL := 1) (ret := (some .int)) (by decide) rfl (Nat.le_of_ble_eq_true rfl) ?_ sz
  intro p e s m below meth c AA ls hx hb hr hts hown hml hlk hA hK hP hD hS hl
  have hown : s.vm.findClass RX0 = some m.cls := hown
  have hl : lv_has ls 1 [(0, .int p1)] := hl
  rw [qX0_kindOf] at hR
  refine lv_iload_n hx hb dX0_kindOf_0 rfl (lv_at hl 0 rfl) ?_
  refine lv_bipush (v := 12) hx hb dX0_kindOf_1 (by decide) ?_
  refine lv_ishr hx hb dX0_kindOf_3 ?_
  exact cRi hx hb hr hlk hK hP hD hS hR.symm dX0_kindOf_4
def qX0_mixed (p1 : Int64) : Int64 := ((((((p1 + (-7046029254386353131)) ^^^ (lsr (p1 + (-7046029254386353131)) 30)) * (-4658895280553007687)) ^^^ (lsr (((p1 + (-7046029254386353131)) ^^^ (lsr (p1 + (-7046029254386353131)) 30)) * (-4658895280553007687)) 27)) * (-7723592293110705685)) ^^^ (lsr (((((p1 + (-7046029254386353131)) ^^^ (lsr (p1 + (-7046029254386353131)) 30)) * (-4658895280553007687)) ^^^ (lsr (((p1 + (-7046029254386353131)) ^^^ (lsr (p1 + (-7046029254386353131)) 30)) * (-4658895280553007687)) 27)) * (-7723592293110705685)) 31))
abbrev rmX0_mixed : Room := { frames := 0, cells := 0, slots := 0, locals := 0 }
theorem nX0_mixed : yX0_mixed.cls ≠ "java/lang/invoke/MethodHandle" ∧ yX0_mixed.cls ≠ "java/lang/invoke/VarHandle" ∧ (parseMethodDescriptor yX0_mixed.desc).map (fun d => d.parameters.length) = some 1 := by decide +kernel
theorem kX0_mixed_0 : Cond.constantLong RX0 259 (-7046029254386353131) ∈ wsX0_mixed := by decide +kernel
theorem kX0_mixed_1 : Cond.constantLong RX0 261 (-4658895280553007687) ∈ wsX0_mixed := by decide +kernel
theorem kX0_mixed_2 : Cond.constantLong RX0 263 (-7723592293110705685) ∈ wsX0_mixed := by decide +kernel
set_option maxHeartbeats 4000000 in
set_option maxRecDepth 100000 in
theorem mX0_mixed (l : Launch) (D : va_G) (p1 : Int64) (r0 : Int64) (hR : r0 = qX0_mixed p1) : cMl l yX0_mixed wsX0_mixed rmX0_mixed D [] [] [.long p1] r0 [] := by
  intro sz
  refine cMet_of (Qc := fun AA => cQl D [] r0 [] AA) (cc := cX0_mixed) (maxL := 2) (ret := (some .long)) (by decide) rfl (Nat.le_of_ble_eq_true rfl) ?_ sz
  intro p e s m below meth c AA ls hx hb hr hts hown hml hlk hA hK hP hD hS hl
  have hown : s.vm.findClass RX0 = some m.cls := hown
  have hl : lv_has ls 2 [(0, .long p1)] := hl
  rw [qX0_mixed] at hR
  refine lv_lload_n hx hb dX0_mixed_0 rfl (lv_at hl 0 rfl) ?_
  refine lv_ldc2 (v := -7046029254386353131) hx hb hown (hts _ kX0_mixed_0) dX0_mixed_1 ?_
  refine lv_ladd hx hb dX0_mixed_4 ?_
  refine lv_lstore_n (lv' := [(0, .long (p1 + (-7046029254386353131)))]) hx hb dX0_mixed_5 rfl hl (by decide) rfl (fun ls hl => ?_)
  refine lv_lload_n hx hb dX0_mixed_6 rfl (lv_at hl 0 rfl) ?_
  refine lv_lload_n hx hb dX0_mixed_7 rfl (lv_at hl 0 rfl) ?_
  refine lv_bipush (v := 30) hx hb dX0_mixed_8 (by decide) ?_
  refine lv_lushr (v := lsr (p1 + (-7046029254386353131)) 30) hx hb dX0_mixed_10 rfl ?_
  refine lv_lxor hx hb dX0_mixed_11 ?_
  refine lv_ldc2 (v := -4658895280553007687) hx hb hown (hts _ kX0_mixed_1) dX0_mixed_12 ?_
  refine lv_lmul hx hb dX0_mixed_15 ?_
  refine lv_lstore_n (lv' := [(0, .long (((p1 + (-7046029254386353131)) ^^^ (lsr (p1 + (-7046029254386353131)) 30)) * (-4658895280553007687)))]) hx hb dX0_mixed_16 rfl hl (by decide) rfl (fun ls hl => ?_)
  refine lv_lload_n hx hb dX0_mixed_17 rfl (lv_at hl 0 rfl) ?_
  refine lv_lload_n hx hb dX0_mixed_18 rfl (lv_at hl 0 rfl) ?_
  refine lv_bipush (v := 27) hx hb dX0_mixed_19 (by decide) ?_
  refine lv_lushr (v := lsr (((p1 + (-7046029254386353131)) ^^^ (lsr (p1 + (-7046029254386353131)) 30)) * (-4658895280553007687)) 27) hx hb dX0_mixed_21 rfl ?_
  refine lv_lxor hx hb dX0_mixed_22 ?_
  refine lv_ldc2 (v := -7723592293110705685) hx hb hown (hts _ kX0_mixed_2) dX0_mixed_23 ?_
  refine lv_lmul hx hb dX0_mixed_26 ?_
  refine lv_lstore_n (lv' := [(0, .long (((((p1 + (-7046029254386353131)) ^^^ (lsr (p1 + (-7046029254386353131)) 30)) * (-4658895280553007687)) ^^^ (lsr (((p1 + (-7046029254386353131)) ^^^ (lsr (p1 + (-7046029254386353131)) 30)) * (-4658895280553007687)) 27)) * (-7723592293110705685)))]) hx hb dX0_mixed_27 rfl hl (by decide) rfl (fun ls hl => ?_)
  refine lv_lload_n hx hb dX0_mixed_28 rfl (lv_at hl 0 rfl) ?_
  refine lv_lload_n hx hb dX0_mixed_29 rfl (lv_at hl 0 rfl) ?_
  refine lv_bipush (v := 31) hx hb dX0_mixed_30 (by decide) ?_
  refine lv_lushr (v := lsr (((((p1 + (-7046029254386353131)) ^^^ (lsr (p1 + (-7046029254386353131)) 30)) * (-4658895280553007687)) ^^^ (lsr (((p1 + (-7046029254386353131)) ^^^ (lsr (p1 + (-7046029254386353131)) 30)) * (-4658895280553007687)) 27)) * (-7723592293110705685)) 31) hx hb dX0_mixed_32 rfl ?_
  refine lv_lxor hx hb dX0_mixed_33 ?_
  exact cRl hx hb hr hlk hK hP hD hS hR.symm dX0_mixed_34
def qX0_pawnAttacks (p1 : Int32) (p2 : Int32) (p3 : Int32) : Int32 := (if ¬ ((qX0_rankOf p3) - (qX0_rankOf p2)) = (qX0_onward p1) then 0 else (if ¬ (abI ((qX0_fileOf p3) - (qX0_fileOf p2))) = 1 then 0 else 1))
abbrev rmX0_pawnAttacks : Room := { frames := 1, cells := 0, slots := 0, locals := 21 }
theorem nX0_pawnAttacks : yX0_pawnAttacks.cls ≠ "java/lang/invoke/MethodHandle" ∧ yX0_pawnAttacks.cls ≠ "java/lang/invoke/VarHandle" ∧ (parseMethodDescriptor yX0_pawnAttacks.desc).map (fun d => d.parameters.length) = some 3 := by decide +kernel
theorem kX0_pawnAttacks_0 : Cond.methodLink RX0 240 Lib.Math.abs.name ∈ wsX0_pawnAttacks := by decide +kernel
theorem kX0_pawnAttacks_1 : Cond.static Lib.Math.abs.name ∈ wsX0_pawnAttacks := by decide +kernel
theorem kX0_pawnAttacks_2 : Cond.initialized "java/lang/Math" ∈ wsX0_pawnAttacks := by decide +kernel
theorem kX0_pawnAttacks_3 : Cond.code Lib.Math.abs.name Lib.Math.abs.code 1 (some .int) ∈ wsX0_pawnAttacks := by decide +kernel
set_option maxHeartbeats 4000000 in
set_option maxRecDepth 100000 in
theorem mX0_pawnAttacks (l : Launch) (D : va_G) (p1 : Int32) (p2 : Int32) (p3 : Int32) (r0 : Int32) (hR : r0 = qX0_pawnAttacks p1 p2 p3) : cMi l yX0_pawnAttacks wsX0_pawnAttacks rmX0_pawnAttacks D [] [] [.int p1, .int p2, .int p3] r0 [] := by
  intro sz
  refine cMet_of (Qc := fun AA => cQi D [] r0 [] AA) (cc := cX0_pawnAttacks) (maxL := 3) (ret := (some .boolean)) (by decide) rfl (Nat.le_of_ble_eq_true rfl) ?_ sz
  intro p e s m below meth c AA ls hx hb hr hts hown hml hlk hA hK hP hD hS hl
  have hown : s.vm.findClass RX0 = some m.cls := hown
  have hl : lv_has ls 3 [(0, .int p1), (1, .int p2), (2, .int p3)] := hl
  rw [qX0_pawnAttacks] at hR
  refine lv_iload_n hx hb dX0_pawnAttacks_0 rfl (lv_at hl 2 rfl) ?_
  refine cSi ⟨hx, hb, hml, hown, hts⟩ (mX0_rankOf l D p3 _ rfl) (va_cwS 1 hts gX0_pawnAttacks_X0_rankOf rfl rfl rfl nX0_rankOf ⟨Nat.le_of_ble_eq_true rfl, Nat.le_of_ble_eq_true rfl⟩) rfl hl.1 rfl (Nat.le_of_ble_eq_true rfl) dX0_pawnAttacks_1 ⟨Nat.zero_le _, Nat.zero_le _⟩ hK hP hS hA (fun H locs hP hS => ?_)
  refine lv_iload_n hx hb dX0_pawnAttacks_4 rfl (lv_at hl 1 rfl) ?_
  refine cSi ⟨hx, hb, hml, hown, hts⟩ (mX0_rankOf l D p2 _ rfl) (va_cwS 1 hts gX0_pawnAttacks_X0_rankOf rfl rfl rfl nX0_rankOf ⟨Nat.le_of_ble_eq_true rfl, Nat.le_of_ble_eq_true rfl⟩) rfl hl.1 rfl (Nat.le_of_ble_eq_true rfl) dX0_pawnAttacks_5 ⟨Nat.zero_le _, Nat.zero_le _⟩ hK hP hS hA (fun H locs hP hS => ?_)
  refine lv_isub hx hb dX0_pawnAttacks_8 ?_
  refine lv_iload_n hx hb dX0_pawnAttacks_9 rfl (lv_at hl 0 rfl) ?_
  refine cSi ⟨hx, hb, hml, hown, hts⟩ (mX0_onward l D p1 _ rfl) (va_cwS 1 hts gX0_pawnAttacks_X0_onward rfl rfl rfl nX0_onward ⟨Nat.le_of_ble_eq_true rfl, Nat.le_of_ble_eq_true rfl⟩) rfl hl.1 rfl (Nat.le_of_ble_eq_true rfl) dX0_pawnAttacks_10 ⟨Nat.zero_le _, Nat.zero_le _⟩ hK hP hS hA (fun H locs hP hS => ?_)
  refine lv_icmp_ne (tgt := 36) hx hb dX0_pawnAttacks_13 (by decide) (fun c13 => ?_) (fun c13 => ?_)
  · have hR := hR.trans (if_pos c13)
    refine lv_iconst (v := 0) hx hb dX0_pawnAttacks_36 (by decide) ?_
    exact cRz hx hb hr hlk hK hP hD hS (Or.inl rfl) hR.symm dX0_pawnAttacks_37
  · have hR := hR.trans (if_neg (fun z => z c13))
    refine lv_iload_n hx hb dX0_pawnAttacks_16 rfl (lv_at hl 2 rfl) ?_
    refine cSi ⟨hx, hb, hml, hown, hts⟩ (mX0_fileOf l D p3 _ rfl) (va_cwS 1 hts gX0_pawnAttacks_X0_fileOf rfl rfl rfl nX0_fileOf ⟨Nat.le_of_ble_eq_true rfl, Nat.le_of_ble_eq_true rfl⟩) rfl hl.1 rfl (Nat.le_of_ble_eq_true rfl) dX0_pawnAttacks_17 ⟨Nat.zero_le _, Nat.zero_le _⟩ hK hP hS hA (fun H locs hP hS => ?_)
    refine lv_iload_n hx hb dX0_pawnAttacks_20 rfl (lv_at hl 1 rfl) ?_
    refine cSi ⟨hx, hb, hml, hown, hts⟩ (mX0_fileOf l D p2 _ rfl) (va_cwS 1 hts gX0_pawnAttacks_X0_fileOf rfl rfl rfl nX0_fileOf ⟨Nat.le_of_ble_eq_true rfl, Nat.le_of_ble_eq_true rfl⟩) rfl hl.1 rfl (Nat.le_of_ble_eq_true rfl) dX0_pawnAttacks_21 ⟨Nat.zero_le _, Nat.zero_le _⟩ hK hP hS hA (fun H locs hP hS => ?_)
    refine lv_isub hx hb dX0_pawnAttacks_24 ?_
    refine mAbs hx hb (by rw [hml]; exact hl.1.symm) hown hts kX0_pawnAttacks_0 kX0_pawnAttacks_1 kX0_pawnAttacks_2 kX0_pawnAttacks_3 (Nat.le_of_ble_eq_true rfl) (Nat.le_of_ble_eq_true rfl) (Nat.zero_le _) (Nat.zero_le _) dX0_pawnAttacks_25 ?_
    refine lv_iconst (v := 1) hx hb dX0_pawnAttacks_28 (by decide) ?_
    refine lv_icmp_ne (tgt := 36) hx hb dX0_pawnAttacks_29 (by decide) (fun c29 => ?_) (fun c29 => ?_)
    · have hR := hR.trans (if_pos c29)
      refine lv_iconst (v := 0) hx hb dX0_pawnAttacks_36 (by decide) ?_
      exact cRz hx hb hr hlk hK hP hD hS (Or.inl rfl) hR.symm dX0_pawnAttacks_37
    · have hR := hR.trans (if_neg (fun z => z c29))
      refine lv_iconst (v := 1) hx hb dX0_pawnAttacks_32 (by decide) ?_
      refine lv_goto (tgt := 37) hx hb dX0_pawnAttacks_33 (by decide) ?_
      exact cRz hx hb hr hlk hK hP hD hS (Or.inr rfl) hR.symm dX0_pawnAttacks_37
def qX0_becomesWhatItMay_j27 (x2 : Int32) (s0 : Int32) : Int32 := (if s0 = 0 then (if ¬ x2 = 0 then 0 else 1) else (if x2 < 2 then 0 else (if 5 < x2 then 0 else 1)))
def qX0_becomesWhatItMay (p1 : Int32) (p2 : Int32) (p3 : Int32) : Int32 := (if ¬ (qX0_typeOf p1) = 1 then (qX0_becomesWhatItMay_j27 p3 0) else (if ¬ (qX0_rankOf p2) = (qX0_lastRankOf (qX0_sideOf p1)) then (qX0_becomesWhatItMay_j27 p3 0) else (qX0_becomesWhatItMay_j27 p3 1)))
abbrev rmX0_becomesWhatItMay : Room := { frames := 1, cells := 0, slots := 0, locals := 20 }
theorem nX0_becomesWhatItMay : yX0_becomesWhatItMay.cls ≠ "java/lang/invoke/MethodHandle" ∧ yX0_becomesWhatItMay.cls ≠ "java/lang/invoke/VarHandle" ∧ (parseMethodDescriptor yX0_becomesWhatItMay.desc).map (fun d => d.parameters.length) = some 3 := by decide +kernel
set_option maxHeartbeats 4000000 in
set_option maxRecDepth 100000 in
theorem mX0_becomesWhatItMay (l : Launch) (D : va_G) (p1 : Int32) (p2 : Int32) (p3 : Int32) (r0 : Int32) (hR : r0 = qX0_becomesWhatItMay p1 p2 p3) : cMi l yX0_becomesWhatItMay wsX0_becomesWhatItMay rmX0_becomesWhatItMay D [] [] [.int p1, .int p2, .int p3] r0 [] := by
  intro sz
  refine cMet_of (Qc := fun AA => cQi D [] r0 [] AA) (cc := cX0_becomesWhatItMay) (maxL := 4) (ret := (some .boolean)) (by decide) rfl (Nat.le_of_ble_eq_true rfl) ?_ sz
  intro p e s m below meth c AA ls hx hb hr hts hown hml hlk hA hK hP hD hS hl
  have hown : s.vm.findClass RX0 = some m.cls := hown
  have hl : lv_has ls 4 [(0, .int p1), (1, .int p2), (2, .int p3)] := hl
  rw [qX0_becomesWhatItMay] at hR
  refine lv_iload_n hx hb dX0_becomesWhatItMay_0 rfl (lv_at hl 0 rfl) ?_
  refine cSi ⟨hx, hb, hml, hown, hts⟩ (mX0_typeOf l D p1 _ rfl) (va_cwS 1 hts gX0_becomesWhatItMay_X0_typeOf rfl rfl rfl nX0_typeOf ⟨Nat.le_of_ble_eq_true rfl, Nat.le_of_ble_eq_true rfl⟩) rfl hl.1 rfl (Nat.le_of_ble_eq_true rfl) dX0_becomesWhatItMay_1 ⟨Nat.zero_le _, Nat.zero_le _⟩ hK hP hS hA (fun H locs hP hS => ?_)
  refine lv_iconst (v := 1) hx hb dX0_becomesWhatItMay_4 (by decide) ?_
  have hj27 : ∀ (s27_0 : Int32) (H : Heap) (locs : List Loc) (ls : Array Slot), va_P D vwCl [] H → va_D AA [] → va_S AA s.heap H locs → lv_has ls 4 [(2, .int p3)] → r0 = qX0_becomesWhatItMay_j27 p3 s27_0 → W p l e rmX0_becomesWhatItMay s m [.int p1, .int p2, .int p3].toArray below meth c H locs 0 0 (MQ below (cQi D [] r0 [] AA) [.int p1, .int p2, .int p3].toArray s 0 0 AA) (F0 m 27 ls [.int s27_0]) := by
    intro s27_0 H locs ls  hP hD hS hl hR
    rw [qX0_becomesWhatItMay_j27] at hR
    refine lv_istore_n (lv' := [(3, .int s27_0), (2, .int p3)]) hx hb dX0_becomesWhatItMay_27 rfl hl (by decide) rfl (fun ls hl => ?_)
    refine lv_iload_n hx hb dX0_becomesWhatItMay_28 rfl (lv_at hl 0 rfl) ?_
    refine lv_if_eq (tgt := 50) hx hb dX0_becomesWhatItMay_29 (by decide) (fun c29 => ?_) (fun c29 => ?_)
    · have hR := hR.trans (if_pos c29)
      refine lv_iload_n hx hb dX0_becomesWhatItMay_50 rfl (lv_at hl 1 rfl) ?_
      refine lv_if_ne (tgt := 58) hx hb dX0_becomesWhatItMay_51 (by decide) (fun c51 => ?_) (fun c51 => ?_)
      · have hR := hR.trans (if_pos c51)
        refine lv_iconst (v := 0) hx hb dX0_becomesWhatItMay_58 (by decide) ?_
        exact cRz hx hb hr hlk hK hP hD hS (Or.inl rfl) hR.symm dX0_becomesWhatItMay_59
      · have hR := hR.trans (if_neg (fun z => z c51))
        refine lv_iconst (v := 1) hx hb dX0_becomesWhatItMay_54 (by decide) ?_
        refine lv_goto (tgt := 59) hx hb dX0_becomesWhatItMay_55 (by decide) ?_
        exact cRz hx hb hr hlk hK hP hD hS (Or.inr rfl) hR.symm dX0_becomesWhatItMay_59
    · have hR := hR.trans (if_neg c29)
      refine lv_iload_n hx hb dX0_becomesWhatItMay_32 rfl (lv_at hl 1 rfl) ?_
      refine lv_iconst (v := 2) hx hb dX0_becomesWhatItMay_33 (by decide) ?_
      refine lv_icmp_lt (tgt := 46) hx hb dX0_becomesWhatItMay_34 (by decide) (fun c34 => ?_) (fun c34 => ?_)
      · have hR := hR.trans (if_pos c34)
        refine lv_iconst (v := 0) hx hb dX0_becomesWhatItMay_46 (by decide) ?_
        refine lv_goto (tgt := 59) hx hb dX0_becomesWhatItMay_47 (by decide) ?_
        exact cRz hx hb hr hlk hK hP hD hS (Or.inl rfl) hR.symm dX0_becomesWhatItMay_59
      · have hR := hR.trans (if_neg c34)
        refine lv_iload_n hx hb dX0_becomesWhatItMay_37 rfl (lv_at hl 1 rfl) ?_
        refine lv_iconst (v := 5) hx hb dX0_becomesWhatItMay_38 (by decide) ?_
        refine lv_icmp_gt (tgt := 46) hx hb dX0_becomesWhatItMay_39 (by decide) (fun c39 => ?_) (fun c39 => ?_)
        · have hR := hR.trans (if_pos c39)
          refine lv_iconst (v := 0) hx hb dX0_becomesWhatItMay_46 (by decide) ?_
          refine lv_goto (tgt := 59) hx hb dX0_becomesWhatItMay_47 (by decide) ?_
          exact cRz hx hb hr hlk hK hP hD hS (Or.inl rfl) hR.symm dX0_becomesWhatItMay_59
        · have hR := hR.trans (if_neg c39)
          refine lv_iconst (v := 1) hx hb dX0_becomesWhatItMay_42 (by decide) ?_
          refine lv_goto (tgt := 59) hx hb dX0_becomesWhatItMay_43 (by decide) ?_
          exact cRz hx hb hr hlk hK hP hD hS (Or.inr rfl) hR.symm dX0_becomesWhatItMay_59
  refine lv_icmp_ne (tgt := 26) hx hb dX0_becomesWhatItMay_5 (by decide) (fun c5 => ?_) (fun c5 => ?_)
  · have hR := hR.trans (if_pos c5)
    refine lv_iconst (v := 0) hx hb dX0_becomesWhatItMay_26 (by decide) ?_
    exact hj27 0 _ _ ls hP hD hS (lv_sub hl [2] rfl) hR
  · have hR := hR.trans (if_neg (fun z => z c5))
    refine lv_iload_n hx hb dX0_becomesWhatItMay_8 rfl (lv_at hl 1 rfl) ?_
    refine cSi ⟨hx, hb, hml, hown, hts⟩ (mX0_rankOf l D p2 _ rfl) (va_cwS 1 hts gX0_becomesWhatItMay_X0_rankOf rfl rfl rfl nX0_rankOf ⟨Nat.le_of_ble_eq_true rfl, Nat.le_of_ble_eq_true rfl⟩) rfl hl.1 rfl (Nat.le_of_ble_eq_true rfl) dX0_becomesWhatItMay_9 ⟨Nat.zero_le _, Nat.zero_le _⟩ hK hP hS hA (fun H locs hP hS => ?_)
    refine lv_iload_n hx hb dX0_becomesWhatItMay_12 rfl (lv_at hl 0 rfl) ?_
    refine cSi ⟨hx, hb, hml, hown, hts⟩ (mX0_sideOf l D p1 _ rfl) (va_cwS 1 hts gX0_becomesWhatItMay_X0_sideOf rfl rfl rfl nX0_sideOf ⟨Nat.le_of_ble_eq_true rfl, Nat.le_of_ble_eq_true rfl⟩) rfl hl.1 rfl (Nat.le_of_ble_eq_true rfl) dX0_becomesWhatItMay_13 ⟨Nat.zero_le _, Nat.zero_le _⟩ hK hP hS hA (fun H locs hP hS => ?_)
    refine cSi ⟨hx, hb, hml, hown, hts⟩ (mX0_lastRankOf l D (qX0_sideOf p1) _ rfl) (va_cwS 1 hts gX0_becomesWhatItMay_X0_lastRankOf rfl rfl rfl nX0_lastRankOf ⟨Nat.le_of_ble_eq_true rfl, Nat.le_of_ble_eq_true rfl⟩) rfl hl.1 rfl (Nat.le_of_ble_eq_true rfl) dX0_becomesWhatItMay_16 ⟨Nat.zero_le _, Nat.zero_le _⟩ hK hP hS hA (fun H locs hP hS => ?_)
    refine lv_icmp_ne (tgt := 26) hx hb dX0_becomesWhatItMay_19 (by decide) (fun c19 => ?_) (fun c19 => ?_)
    · have hR := hR.trans (if_pos c19)
      refine lv_iconst (v := 0) hx hb dX0_becomesWhatItMay_26 (by decide) ?_
      exact hj27 0 _ _ ls hP hD hS (lv_sub hl [2] rfl) hR
    · have hR := hR.trans (if_neg (fun z => z c19))
      refine lv_iconst (v := 1) hx hb dX0_becomesWhatItMay_22 (by decide) ?_
      refine lv_goto (tgt := 27) hx hb dX0_becomesWhatItMay_23 (by decide) ?_
      exact hj27 1 _ _ ls hP hD hS (lv_sub hl [2] rfl) hR
def qX0_isCastling (p1 : Int32) (p2 : Int32) (p3 : Int32) : Int32 := (if ¬ (qX0_typeOf p1) = 6 then 0 else (if (qX0_isTwoFilesAway p2 p3) = 0 then 0 else 1))
abbrev rmX0_isCastling : Room := { frames := 2, cells := 0, slots := 0, locals := 42 }
theorem nX0_isCastling : yX0_isCastling.cls ≠ "java/lang/invoke/MethodHandle" ∧ yX0_isCastling.cls ≠ "java/lang/invoke/VarHandle" ∧ (parseMethodDescriptor yX0_isCastling.desc).map (fun d => d.parameters.length) = some 3 := by decide +kernel
set_option maxHeartbeats 4000000 in
set_option maxRecDepth 100000 in
theorem mX0_isCastling (l : Launch) (D : va_G) (p1 : Int32) (p2 : Int32) (p3 : Int32) (r0 : Int32) (hR : r0 = qX0_isCastling p1 p2 p3) : cMi l yX0_isCastling wsX0_isCastling rmX0_isCastling D [] [] [.int p1, .int p2, .int p3] r0 [] := by
  intro sz
  refine cMet_of (Qc := fun AA => cQi D [] r0 [] AA) (cc := cX0_isCastling) (maxL := 3) (ret := (some .boolean)) (by decide) rfl (Nat.le_of_ble_eq_true rfl) ?_ sz
  intro p e s m below meth c AA ls hx hb hr hts hown hml hlk hA hK hP hD hS hl
  have hown : s.vm.findClass RX0 = some m.cls := hown
  have hl : lv_has ls 3 [(0, .int p1), (1, .int p2), (2, .int p3)] := hl
  rw [qX0_isCastling] at hR
  refine lv_iload_n hx hb dX0_isCastling_0 rfl (lv_at hl 0 rfl) ?_
  refine cSi ⟨hx, hb, hml, hown, hts⟩ (mX0_typeOf l D p1 _ rfl) (va_cwS 1 hts gX0_isCastling_X0_typeOf rfl rfl rfl nX0_typeOf ⟨Nat.le_of_ble_eq_true rfl, Nat.le_of_ble_eq_true rfl⟩) rfl hl.1 rfl (Nat.le_of_ble_eq_true rfl) dX0_isCastling_1 ⟨Nat.zero_le _, Nat.zero_le _⟩ hK hP hS hA (fun H locs hP hS => ?_)
  refine lv_bipush (v := 6) hx hb dX0_isCastling_4 (by decide) ?_
  refine lv_icmp_ne (tgt := 21) hx hb dX0_isCastling_6 (by decide) (fun c6 => ?_) (fun c6 => ?_)
  · have hR := hR.trans (if_pos c6)
    refine lv_iconst (v := 0) hx hb dX0_isCastling_21 (by decide) ?_
    exact cRz hx hb hr hlk hK hP hD hS (Or.inl rfl) hR.symm dX0_isCastling_22
  · have hR := hR.trans (if_neg (fun z => z c6))
    refine lv_iload_n hx hb dX0_isCastling_9 rfl (lv_at hl 1 rfl) ?_
    refine lv_iload_n hx hb dX0_isCastling_10 rfl (lv_at hl 2 rfl) ?_
    refine cSi ⟨hx, hb, hml, hown, hts⟩ (mX0_isTwoFilesAway l D p2 p3 _ rfl) (va_cwS 2 hts gX0_isCastling_X0_isTwoFilesAway rfl rfl rfl nX0_isTwoFilesAway ⟨Nat.le_of_ble_eq_true rfl, Nat.le_of_ble_eq_true rfl⟩) rfl hl.1 rfl (Nat.le_of_ble_eq_true rfl) dX0_isCastling_11 ⟨Nat.zero_le _, Nat.zero_le _⟩ hK hP hS hA (fun H locs hP hS => ?_)
    refine lv_if_eq (tgt := 21) hx hb dX0_isCastling_14 (by decide) (fun c14 => ?_) (fun c14 => ?_)
    · have hR := hR.trans (if_pos c14)
      refine lv_iconst (v := 0) hx hb dX0_isCastling_21 (by decide) ?_
      exact cRz hx hb hr hlk hK hP hD hS (Or.inl rfl) hR.symm dX0_isCastling_22
    · have hR := hR.trans (if_neg c14)
      refine lv_iconst (v := 1) hx hb dX0_isCastling_17 (by decide) ?_
      refine lv_goto (tgt := 22) hx hb dX0_isCastling_18 (by decide) ?_
      exact cRz hx hb hr hlk hK hP hD hS (Or.inr rfl) hR.symm dX0_isCastling_22
def qJ6_compare_7cf53 (p1 : Int32) (p2 : Int32) : Int32 := (if p2 ≤ p1 then (if ¬ p1 = p2 then 1 else 0) else (-1))
abbrev rmJ6_compare_7cf53 : Room := { frames := 0, cells := 0, slots := 0, locals := 0 }
theorem nJ6_compare_7cf53 : yJ6_compare_7cf53.cls ≠ "java/lang/invoke/MethodHandle" ∧ yJ6_compare_7cf53.cls ≠ "java/lang/invoke/VarHandle" ∧ (parseMethodDescriptor yJ6_compare_7cf53.desc).map (fun d => d.parameters.length) = some 2 := by decide +kernel
set_option maxHeartbeats 4000000 in
set_option maxRecDepth 100000 in
theorem mJ6_compare_7cf53 (l : Launch) (D : va_G) (p1 : Int32) (p2 : Int32) (r0 : Int32) (hR : r0 = qJ6_compare_7cf53 p1 p2) : cMi l yJ6_compare_7cf53 wsJ6_compare_7cf53 rmJ6_compare_7cf53 D [] [] [.int p1, .int p2] r0 [] := by
  intro sz
  refine cMet_of (Qc := fun AA => cQi D [] r0 [] AA) (cc := cJ6_compare_7cf53) (maxL := 2) (ret := (some .int)) (by decide) rfl (Nat.le_of_ble_eq_true rfl) ?_ sz
  intro p e s m below meth c AA ls hx hb hr hts hown hml hlk hA hK hP hD hS hl
  have hown : s.vm.findClass RJ6 = some m.cls := hown
  have hl : lv_has ls 2 [(0, .int p1), (1, .int p2)] := hl
  rw [qJ6_compare_7cf53] at hR
  refine lv_iload_n hx hb dJ6_compare_7cf53_0 rfl (lv_at hl 0 rfl) ?_
  refine lv_iload_n hx hb dJ6_compare_7cf53_1 rfl (lv_at hl 1 rfl) ?_
  refine lv_icmp_ge (tgt := 9) hx hb dJ6_compare_7cf53_2 (by decide) (fun c2 => ?_) (fun c2 => ?_)
  · have hR := hR.trans (if_pos c2)
    refine lv_iload_n hx hb dJ6_compare_7cf53_9 rfl (lv_at hl 0 rfl) ?_
    refine lv_iload_n hx hb dJ6_compare_7cf53_10 rfl (lv_at hl 1 rfl) ?_
    refine lv_icmp_ne (tgt := 18) hx hb dJ6_compare_7cf53_11 (by decide) (fun c11 => ?_) (fun c11 => ?_)
    · have hR := hR.trans (if_pos c11)
      refine lv_iconst (v := 1) hx hb dJ6_compare_7cf53_18 (by decide) ?_
      exact cRi hx hb hr hlk hK hP hD hS hR.symm dJ6_compare_7cf53_19
    · have hR := hR.trans (if_neg (fun z => z c11))
      refine lv_iconst (v := 0) hx hb dJ6_compare_7cf53_14 (by decide) ?_
      refine lv_goto (tgt := 19) hx hb dJ6_compare_7cf53_15 (by decide) ?_
      exact cRi hx hb hr hlk hK hP hD hS hR.symm dJ6_compare_7cf53_19
  · have hR := hR.trans (if_neg c2)
    refine lv_iconst (v := (-1)) hx hb dJ6_compare_7cf53_5 (by decide) ?_
    refine lv_goto (tgt := 19) hx hb dJ6_compare_7cf53_6 (by decide) ?_
    exact cRi hx hb hr hlk hK hP hD hS hR.symm dJ6_compare_7cf53_19
def qJ13_bitCount_95d88 (p1 : Int64) : Int32 := ((Int64.toInt32 ((((((((p1 - ((lsr p1 1) &&& 6148914691236517205)) &&& 3689348814741910323) + ((lsr (p1 - ((lsr p1 1) &&& 6148914691236517205)) 2) &&& 3689348814741910323)) + (lsr (((p1 - ((lsr p1 1) &&& 6148914691236517205)) &&& 3689348814741910323) + ((lsr (p1 - ((lsr p1 1) &&& 6148914691236517205)) 2) &&& 3689348814741910323)) 4)) &&& 1085102592571150095) + (lsr (((((p1 - ((lsr p1 1) &&& 6148914691236517205)) &&& 3689348814741910323) + ((lsr (p1 - ((lsr p1 1) &&& 6148914691236517205)) 2) &&& 3689348814741910323)) + (lsr (((p1 - ((lsr p1 1) &&& 6148914691236517205)) &&& 3689348814741910323) + ((lsr (p1 - ((lsr p1 1) &&& 6148914691236517205)) 2) &&& 3689348814741910323)) 4)) &&& 1085102592571150095) 8)) + (lsr ((((((p1 - ((lsr p1 1) &&& 6148914691236517205)) &&& 3689348814741910323) + ((lsr (p1 - ((lsr p1 1) &&& 6148914691236517205)) 2) &&& 3689348814741910323)) + (lsr (((p1 - ((lsr p1 1) &&& 6148914691236517205)) &&& 3689348814741910323) + ((lsr (p1 - ((lsr p1 1) &&& 6148914691236517205)) 2) &&& 3689348814741910323)) 4)) &&& 1085102592571150095) + (lsr (((((p1 - ((lsr p1 1) &&& 6148914691236517205)) &&& 3689348814741910323) + ((lsr (p1 - ((lsr p1 1) &&& 6148914691236517205)) 2) &&& 3689348814741910323)) + (lsr (((p1 - ((lsr p1 1) &&& 6148914691236517205)) &&& 3689348814741910323) + ((lsr (p1 - ((lsr p1 1) &&& 6148914691236517205)) 2) &&& 3689348814741910323)) 4)) &&& 1085102592571150095) 8)) 16)) + (lsr (((((((p1 - ((lsr p1 1) &&& 6148914691236517205)) &&& 3689348814741910323) + ((lsr (p1 - ((lsr p1 1) &&& 6148914691236517205)) 2) &&& 3689348814741910323)) + (lsr (((p1 - ((lsr p1 1) &&& 6148914691236517205)) &&& 3689348814741910323) + ((lsr (p1 - ((lsr p1 1) &&& 6148914691236517205)) 2) &&& 3689348814741910323)) 4)) &&& 1085102592571150095) + (lsr (((((p1 - ((lsr p1 1) &&& 6148914691236517205)) &&& 3689348814741910323) + ((lsr (p1 - ((lsr p1 1) &&& 6148914691236517205)) 2) &&& 3689348814741910323)) + (lsr (((p1 - ((lsr p1 1) &&& 6148914691236517205)) &&& 3689348814741910323) + ((lsr (p1 - ((lsr p1 1) &&& 6148914691236517205)) 2) &&& 3689348814741910323)) 4)) &&& 1085102592571150095) 8)) + (lsr ((((((p1 - ((lsr p1 1) &&& 6148914691236517205)) &&& 3689348814741910323) + ((lsr (p1 - ((lsr p1 1) &&& 6148914691236517205)) 2) &&& 3689348814741910323)) + (lsr (((p1 - ((lsr p1 1) &&& 6148914691236517205)) &&& 3689348814741910323) + ((lsr (p1 - ((lsr p1 1) &&& 6148914691236517205)) 2) &&& 3689348814741910323)) 4)) &&& 1085102592571150095) + (lsr (((((p1 - ((lsr p1 1) &&& 6148914691236517205)) &&& 3689348814741910323) + ((lsr (p1 - ((lsr p1 1) &&& 6148914691236517205)) 2) &&& 3689348814741910323)) + (lsr (((p1 - ((lsr p1 1) &&& 6148914691236517205)) &&& 3689348814741910323) + ((lsr (p1 - ((lsr p1 1) &&& 6148914691236517205)) 2) &&& 3689348814741910323)) 4)) &&& 1085102592571150095) 8)) 16)) 32))) &&& 127)
abbrev rmJ13_bitCount_95d88 : Room := { frames := 0, cells := 0, slots := 0, locals := 0 }
theorem nJ13_bitCount_95d88 : yJ13_bitCount_95d88.cls ≠ "java/lang/invoke/MethodHandle" ∧ yJ13_bitCount_95d88.cls ≠ "java/lang/invoke/VarHandle" ∧ (parseMethodDescriptor yJ13_bitCount_95d88.desc).map (fun d => d.parameters.length) = some 1 := by decide +kernel
theorem kJ13_bitCount_95d88_0 : Cond.constantLong RJ13 314 (6148914691236517205) ∈ wsJ13_bitCount_95d88 := by decide +kernel
theorem kJ13_bitCount_95d88_1 : Cond.constantLong RJ13 316 (3689348814741910323) ∈ wsJ13_bitCount_95d88 := by decide +kernel
theorem kJ13_bitCount_95d88_2 : Cond.constantLong RJ13 318 (1085102592571150095) ∈ wsJ13_bitCount_95d88 := by decide +kernel
set_option maxHeartbeats 4000000 in
set_option maxRecDepth 100000 in
theorem mJ13_bitCount_95d88 (l : Launch) (D : va_G) (p1 : Int64) (r0 : Int32) (hR : r0 = qJ13_bitCount_95d88 p1) : cMi l yJ13_bitCount_95d88 wsJ13_bitCount_95d88 rmJ13_bitCount_95d88 D [] [] [.long p1] r0 [] := by
  intro sz
  refine cMet_of (Qc := fun AA => cQi D [] r0 [] AA) (cc := cJ13_bitCount_95d88) (maxL := 2) (ret := (some .int)) (by decide) rfl (Nat.le_of_ble_eq_true rfl) ?_ sz
  intro p e s m below meth c AA ls hx hb hr hts hown hml hlk hA hK hP hD hS hl
  have hown : s.vm.findClass RJ13 = some m.cls := hown
  have hl : lv_has ls 2 [(0, .long p1)] := hl
  rw [qJ13_bitCount_95d88] at hR
  refine lv_lload_n hx hb dJ13_bitCount_95d88_0 rfl (lv_at hl 0 rfl) ?_
  refine lv_lload_n hx hb dJ13_bitCount_95d88_1 rfl (lv_at hl 0 rfl) ?_
  refine lv_iconst (v := 1) hx hb dJ13_bitCount_95d88_2 (by decide) ?_
  refine lv_lushr (v := lsr p1 1) hx hb dJ13_bitCount_95d88_3 rfl ?_
  refine lv_ldc2 (v := 6148914691236517205) hx hb hown (hts _ kJ13_bitCount_95d88_0) dJ13_bitCount_95d88_4 ?_
  refine lv_land hx hb dJ13_bitCount_95d88_7 ?_
  refine lv_lsub hx hb dJ13_bitCount_95d88_8 ?_
  refine lv_lstore_n (lv' := [(0, .long (p1 - ((lsr p1 1) &&& 6148914691236517205)))]) hx hb dJ13_bitCount_95d88_9 rfl hl (by decide) rfl (fun ls hl => ?_)
  refine lv_lload_n hx hb dJ13_bitCount_95d88_10 rfl (lv_at hl 0 rfl) ?_
  refine lv_ldc2 (v := 3689348814741910323) hx hb hown (hts _ kJ13_bitCount_95d88_1) dJ13_bitCount_95d88_11 ?_
  refine lv_land hx hb dJ13_bitCount_95d88_14 ?_
  refine lv_lload_n hx hb dJ13_bitCount_95d88_15 rfl (lv_at hl 0 rfl) ?_
  refine lv_iconst (v := 2) hx hb dJ13_bitCount_95d88_16 (by decide) ?_
  refine lv_lushr (v := lsr (p1 - ((lsr p1 1) &&& 6148914691236517205)) 2) hx hb dJ13_bitCount_95d88_17 rfl ?_
  refine lv_ldc2 (v := 3689348814741910323) hx hb hown (hts _ kJ13_bitCount_95d88_1) dJ13_bitCount_95d88_18 ?_
  refine lv_land hx hb dJ13_bitCount_95d88_21 ?_
  refine lv_ladd hx hb dJ13_bitCount_95d88_22 ?_
  refine lv_lstore_n (lv' := [(0, .long (((p1 - ((lsr p1 1) &&& 6148914691236517205)) &&& 3689348814741910323) + ((lsr (p1 - ((lsr p1 1) &&& 6148914691236517205)) 2) &&& 3689348814741910323)))]) hx hb dJ13_bitCount_95d88_23 rfl hl (by decide) rfl (fun ls hl => ?_)
  refine lv_lload_n hx hb dJ13_bitCount_95d88_24 rfl (lv_at hl 0 rfl) ?_
  refine lv_lload_n hx hb dJ13_bitCount_95d88_25 rfl (lv_at hl 0 rfl) ?_
  refine lv_iconst (v := 4) hx hb dJ13_bitCount_95d88_26 (by decide) ?_
  refine lv_lushr (v := lsr (((p1 - ((lsr p1 1) &&& 6148914691236517205)) &&& 3689348814741910323) + ((lsr (p1 - ((lsr p1 1) &&& 6148914691236517205)) 2) &&& 3689348814741910323)) 4) hx hb dJ13_bitCount_95d88_27 rfl ?_
  refine lv_ladd hx hb dJ13_bitCount_95d88_28 ?_
  refine lv_ldc2 (v := 1085102592571150095) hx hb hown (hts _ kJ13_bitCount_95d88_2) dJ13_bitCount_95d88_29 ?_
  refine lv_land hx hb dJ13_bitCount_95d88_32 ?_
  refine lv_lstore_n (lv' := [(0, .long (((((p1 - ((lsr p1 1) &&& 6148914691236517205)) &&& 3689348814741910323) + ((lsr (p1 - ((lsr p1 1) &&& 6148914691236517205)) 2) &&& 3689348814741910323)) + (lsr (((p1 - ((lsr p1 1) &&& 6148914691236517205)) &&& 3689348814741910323) + ((lsr (p1 - ((lsr p1 1) &&& 6148914691236517205)) 2) &&& 3689348814741910323)) 4)) &&& 1085102592571150095))]) hx hb dJ13_bitCount_95d88_33 rfl hl (by decide) rfl (fun ls hl => ?_)
  refine lv_lload_n hx hb dJ13_bitCount_95d88_34 rfl (lv_at hl 0 rfl) ?_
  refine lv_lload_n hx hb dJ13_bitCount_95d88_35 rfl (lv_at hl 0 rfl) ?_
  refine lv_bipush (v := 8) hx hb dJ13_bitCount_95d88_36 (by decide) ?_
  refine lv_lushr (v := lsr (((((p1 - ((lsr p1 1) &&& 6148914691236517205)) &&& 3689348814741910323) + ((lsr (p1 - ((lsr p1 1) &&& 6148914691236517205)) 2) &&& 3689348814741910323)) + (lsr (((p1 - ((lsr p1 1) &&& 6148914691236517205)) &&& 3689348814741910323) + ((lsr (p1 - ((lsr p1 1) &&& 6148914691236517205)) 2) &&& 3689348814741910323)) 4)) &&& 1085102592571150095) 8) hx hb dJ13_bitCount_95d88_38 rfl ?_
  refine lv_ladd hx hb dJ13_bitCount_95d88_39 ?_
  refine lv_lstore_n (lv' := [(0, .long ((((((p1 - ((lsr p1 1) &&& 6148914691236517205)) &&& 3689348814741910323) + ((lsr (p1 - ((lsr p1 1) &&& 6148914691236517205)) 2) &&& 3689348814741910323)) + (lsr (((p1 - ((lsr p1 1) &&& 6148914691236517205)) &&& 3689348814741910323) + ((lsr (p1 - ((lsr p1 1) &&& 6148914691236517205)) 2) &&& 3689348814741910323)) 4)) &&& 1085102592571150095) + (lsr (((((p1 - ((lsr p1 1) &&& 6148914691236517205)) &&& 3689348814741910323) + ((lsr (p1 - ((lsr p1 1) &&& 6148914691236517205)) 2) &&& 3689348814741910323)) + (lsr (((p1 - ((lsr p1 1) &&& 6148914691236517205)) &&& 3689348814741910323) + ((lsr (p1 - ((lsr p1 1) &&& 6148914691236517205)) 2) &&& 3689348814741910323)) 4)) &&& 1085102592571150095) 8)))]) hx hb dJ13_bitCount_95d88_40 rfl hl (by decide) rfl (fun ls hl => ?_)
  refine lv_lload_n hx hb dJ13_bitCount_95d88_41 rfl (lv_at hl 0 rfl) ?_
  refine lv_lload_n hx hb dJ13_bitCount_95d88_42 rfl (lv_at hl 0 rfl) ?_
  refine lv_bipush (v := 16) hx hb dJ13_bitCount_95d88_43 (by decide) ?_
  refine lv_lushr (v := lsr ((((((p1 - ((lsr p1 1) &&& 6148914691236517205)) &&& 3689348814741910323) + ((lsr (p1 - ((lsr p1 1) &&& 6148914691236517205)) 2) &&& 3689348814741910323)) + (lsr (((p1 - ((lsr p1 1) &&& 6148914691236517205)) &&& 3689348814741910323) + ((lsr (p1 - ((lsr p1 1) &&& 6148914691236517205)) 2) &&& 3689348814741910323)) 4)) &&& 1085102592571150095) + (lsr (((((p1 - ((lsr p1 1) &&& 6148914691236517205)) &&& 3689348814741910323) + ((lsr (p1 - ((lsr p1 1) &&& 6148914691236517205)) 2) &&& 3689348814741910323)) + (lsr (((p1 - ((lsr p1 1) &&& 6148914691236517205)) &&& 3689348814741910323) + ((lsr (p1 - ((lsr p1 1) &&& 6148914691236517205)) 2) &&& 3689348814741910323)) 4)) &&& 1085102592571150095) 8)) 16) hx hb dJ13_bitCount_95d88_45 rfl ?_
  refine lv_ladd hx hb dJ13_bitCount_95d88_46 ?_
  refine lv_lstore_n (lv' := [(0, .long (((((((p1 - ((lsr p1 1) &&& 6148914691236517205)) &&& 3689348814741910323) + ((lsr (p1 - ((lsr p1 1) &&& 6148914691236517205)) 2) &&& 3689348814741910323)) + (lsr (((p1 - ((lsr p1 1) &&& 6148914691236517205)) &&& 3689348814741910323) + ((lsr (p1 - ((lsr p1 1) &&& 6148914691236517205)) 2) &&& 3689348814741910323)) 4)) &&& 1085102592571150095) + (lsr (((((p1 - ((lsr p1 1) &&& 6148914691236517205)) &&& 3689348814741910323) + ((lsr (p1 - ((lsr p1 1) &&& 6148914691236517205)) 2) &&& 3689348814741910323)) + (lsr (((p1 - ((lsr p1 1) &&& 6148914691236517205)) &&& 3689348814741910323) + ((lsr (p1 - ((lsr p1 1) &&& 6148914691236517205)) 2) &&& 3689348814741910323)) 4)) &&& 1085102592571150095) 8)) + (lsr ((((((p1 - ((lsr p1 1) &&& 6148914691236517205)) &&& 3689348814741910323) + ((lsr (p1 - ((lsr p1 1) &&& 6148914691236517205)) 2) &&& 3689348814741910323)) + (lsr (((p1 - ((lsr p1 1) &&& 6148914691236517205)) &&& 3689348814741910323) + ((lsr (p1 - ((lsr p1 1) &&& 6148914691236517205)) 2) &&& 3689348814741910323)) 4)) &&& 1085102592571150095) + (lsr (((((p1 - ((lsr p1 1) &&& 6148914691236517205)) &&& 3689348814741910323) + ((lsr (p1 - ((lsr p1 1) &&& 6148914691236517205)) 2) &&& 3689348814741910323)) + (lsr (((p1 - ((lsr p1 1) &&& 6148914691236517205)) &&& 3689348814741910323) + ((lsr (p1 - ((lsr p1 1) &&& 6148914691236517205)) 2) &&& 3689348814741910323)) 4)) &&& 1085102592571150095) 8)) 16)))]) hx hb dJ13_bitCount_95d88_47 rfl hl (by decide) rfl (fun ls hl => ?_)
  refine lv_lload_n hx hb dJ13_bitCount_95d88_48 rfl (lv_at hl 0 rfl) ?_
  refine lv_lload_n hx hb dJ13_bitCount_95d88_49 rfl (lv_at hl 0 rfl) ?_
  refine lv_bipush (v := 32) hx hb dJ13_bitCount_95d88_50 (by decide) ?_
  refine lv_lushr (v := lsr (((((((p1 - ((lsr p1 1) &&& 6148914691236517205)) &&& 3689348814741910323) + ((lsr (p1 - ((lsr p1 1) &&& 6148914691236517205)) 2) &&& 3689348814741910323)) + (lsr (((p1 - ((lsr p1 1) &&& 6148914691236517205)) &&& 3689348814741910323) + ((lsr (p1 - ((lsr p1 1) &&& 6148914691236517205)) 2) &&& 3689348814741910323)) 4)) &&& 1085102592571150095) + (lsr (((((p1 - ((lsr p1 1) &&& 6148914691236517205)) &&& 3689348814741910323) + ((lsr (p1 - ((lsr p1 1) &&& 6148914691236517205)) 2) &&& 3689348814741910323)) + (lsr (((p1 - ((lsr p1 1) &&& 6148914691236517205)) &&& 3689348814741910323) + ((lsr (p1 - ((lsr p1 1) &&& 6148914691236517205)) 2) &&& 3689348814741910323)) 4)) &&& 1085102592571150095) 8)) + (lsr ((((((p1 - ((lsr p1 1) &&& 6148914691236517205)) &&& 3689348814741910323) + ((lsr (p1 - ((lsr p1 1) &&& 6148914691236517205)) 2) &&& 3689348814741910323)) + (lsr (((p1 - ((lsr p1 1) &&& 6148914691236517205)) &&& 3689348814741910323) + ((lsr (p1 - ((lsr p1 1) &&& 6148914691236517205)) 2) &&& 3689348814741910323)) 4)) &&& 1085102592571150095) + (lsr (((((p1 - ((lsr p1 1) &&& 6148914691236517205)) &&& 3689348814741910323) + ((lsr (p1 - ((lsr p1 1) &&& 6148914691236517205)) 2) &&& 3689348814741910323)) + (lsr (((p1 - ((lsr p1 1) &&& 6148914691236517205)) &&& 3689348814741910323) + ((lsr (p1 - ((lsr p1 1) &&& 6148914691236517205)) 2) &&& 3689348814741910323)) 4)) &&& 1085102592571150095) 8)) 16)) 32) hx hb dJ13_bitCount_95d88_52 rfl ?_
  refine lv_ladd hx hb dJ13_bitCount_95d88_53 ?_
  refine lv_lstore_n (lv' := [(0, .long ((((((((p1 - ((lsr p1 1) &&& 6148914691236517205)) &&& 3689348814741910323) + ((lsr (p1 - ((lsr p1 1) &&& 6148914691236517205)) 2) &&& 3689348814741910323)) + (lsr (((p1 - ((lsr p1 1) &&& 6148914691236517205)) &&& 3689348814741910323) + ((lsr (p1 - ((lsr p1 1) &&& 6148914691236517205)) 2) &&& 3689348814741910323)) 4)) &&& 1085102592571150095) + (lsr (((((p1 - ((lsr p1 1) &&& 6148914691236517205)) &&& 3689348814741910323) + ((lsr (p1 - ((lsr p1 1) &&& 6148914691236517205)) 2) &&& 3689348814741910323)) + (lsr (((p1 - ((lsr p1 1) &&& 6148914691236517205)) &&& 3689348814741910323) + ((lsr (p1 - ((lsr p1 1) &&& 6148914691236517205)) 2) &&& 3689348814741910323)) 4)) &&& 1085102592571150095) 8)) + (lsr ((((((p1 - ((lsr p1 1) &&& 6148914691236517205)) &&& 3689348814741910323) + ((lsr (p1 - ((lsr p1 1) &&& 6148914691236517205)) 2) &&& 3689348814741910323)) + (lsr (((p1 - ((lsr p1 1) &&& 6148914691236517205)) &&& 3689348814741910323) + ((lsr (p1 - ((lsr p1 1) &&& 6148914691236517205)) 2) &&& 3689348814741910323)) 4)) &&& 1085102592571150095) + (lsr (((((p1 - ((lsr p1 1) &&& 6148914691236517205)) &&& 3689348814741910323) + ((lsr (p1 - ((lsr p1 1) &&& 6148914691236517205)) 2) &&& 3689348814741910323)) + (lsr (((p1 - ((lsr p1 1) &&& 6148914691236517205)) &&& 3689348814741910323) + ((lsr (p1 - ((lsr p1 1) &&& 6148914691236517205)) 2) &&& 3689348814741910323)) 4)) &&& 1085102592571150095) 8)) 16)) + (lsr (((((((p1 - ((lsr p1 1) &&& 6148914691236517205)) &&& 3689348814741910323) + ((lsr (p1 - ((lsr p1 1) &&& 6148914691236517205)) 2) &&& 3689348814741910323)) + (lsr (((p1 - ((lsr p1 1) &&& 6148914691236517205)) &&& 3689348814741910323) + ((lsr (p1 - ((lsr p1 1) &&& 6148914691236517205)) 2) &&& 3689348814741910323)) 4)) &&& 1085102592571150095) + (lsr (((((p1 - ((lsr p1 1) &&& 6148914691236517205)) &&& 3689348814741910323) + ((lsr (p1 - ((lsr p1 1) &&& 6148914691236517205)) 2) &&& 3689348814741910323)) + (lsr (((p1 - ((lsr p1 1) &&& 6148914691236517205)) &&& 3689348814741910323) + ((lsr (p1 - ((lsr p1 1) &&& 6148914691236517205)) 2) &&& 3689348814741910323)) 4)) &&& 1085102592571150095) 8)) + (lsr ((((((p1 - ((lsr p1 1) &&& 6148914691236517205)) &&& 3689348814741910323) + ((lsr (p1 - ((lsr p1 1) &&& 6148914691236517205)) 2) &&& 3689348814741910323)) + (lsr (((p1 - ((lsr p1 1) &&& 6148914691236517205)) &&& 3689348814741910323) + ((lsr (p1 - ((lsr p1 1) &&& 6148914691236517205)) 2) &&& 3689348814741910323)) 4)) &&& 1085102592571150095) + (lsr (((((p1 - ((lsr p1 1) &&& 6148914691236517205)) &&& 3689348814741910323) + ((lsr (p1 - ((lsr p1 1) &&& 6148914691236517205)) 2) &&& 3689348814741910323)) + (lsr (((p1 - ((lsr p1 1) &&& 6148914691236517205)) &&& 3689348814741910323) + ((lsr (p1 - ((lsr p1 1) &&& 6148914691236517205)) 2) &&& 3689348814741910323)) 4)) &&& 1085102592571150095) 8)) 16)) 32)))]) hx hb dJ13_bitCount_95d88_54 rfl hl (by decide) rfl (fun ls hl => ?_)
  refine lv_lload_n hx hb dJ13_bitCount_95d88_55 rfl (lv_at hl 0 rfl) ?_
  refine lv_l2i hx hb dJ13_bitCount_95d88_56 rfl ?_
  refine lv_bipush (v := 127) hx hb dJ13_bitCount_95d88_57 (by decide) ?_
  refine lv_iand hx hb dJ13_bitCount_95d88_59 ?_
  exact cRi hx hb hr hlk hK hP hD hS hR.symm dJ13_bitCount_95d88_60
def qX1_isSquare (p1 : Int32) : Int32 := (if p1 < 0 then 0 else (if 64 ≤ p1 then 0 else 1))
abbrev rmX1_isSquare : Room := { frames := 0, cells := 0, slots := 0, locals := 0 }
theorem nX1_isSquare : yX1_isSquare.cls ≠ "java/lang/invoke/MethodHandle" ∧ yX1_isSquare.cls ≠ "java/lang/invoke/VarHandle" ∧ (parseMethodDescriptor yX1_isSquare.desc).map (fun d => d.parameters.length) = some 1 := by decide +kernel
set_option maxHeartbeats 4000000 in
set_option maxRecDepth 100000 in
theorem mX1_isSquare (l : Launch) (D : va_G) (p1 : Int32) (r0 : Int32) (hR : r0 = qX1_isSquare p1) : cMi l yX1_isSquare wsX1_isSquare rmX1_isSquare D [] [] [.int p1] r0 [] := by
  intro sz
  refine cMet_of (Qc := fun AA => cQi D [] r0 [] AA) (cc := cX1_isSquare) (maxL := 1) (ret := (some .boolean)) (by decide) rfl (Nat.le_of_ble_eq_true rfl) ?_ sz
  intro p e s m below meth c AA ls hx hb hr hts hown hml hlk hA hK hP hD hS hl
  have hown : s.vm.findClass RX1 = some m.cls := hown
  have hl : lv_has ls 1 [(0, .int p1)] := hl
  rw [qX1_isSquare] at hR
  refine lv_iload_n hx hb dX1_isSquare_0 rfl (lv_at hl 0 rfl) ?_
  refine lv_if_lt (tgt := 14) hx hb dX1_isSquare_1 (by decide) (fun c1 => ?_) (fun c1 => ?_)
  · have hR := hR.trans (if_pos c1)
    refine lv_iconst (v := 0) hx hb dX1_isSquare_14 (by decide) ?_
    exact cRz hx hb hr hlk hK hP hD hS (Or.inl rfl) hR.symm dX1_isSquare_15
  · have hR := hR.trans (if_neg c1)
    refine lv_iload_n hx hb dX1_isSquare_4 rfl (lv_at hl 0 rfl) ?_
    refine lv_bipush (v := 64) hx hb dX1_isSquare_5 (by decide) ?_
    refine lv_icmp_ge (tgt := 14) hx hb dX1_isSquare_7 (by decide) (fun c7 => ?_) (fun c7 => ?_)
    · have hR := hR.trans (if_pos c7)
      refine lv_iconst (v := 0) hx hb dX1_isSquare_14 (by decide) ?_
      exact cRz hx hb hr hlk hK hP hD hS (Or.inl rfl) hR.symm dX1_isSquare_15
    · have hR := hR.trans (if_neg c7)
      refine lv_iconst (v := 1) hx hb dX1_isSquare_10 (by decide) ?_
      refine lv_goto (tgt := 15) hx hb dX1_isSquare_11 (by decide) ?_
      exact cRz hx hb hr hlk hK hP hD hS (Or.inr rfl) hR.symm dX1_isSquare_15
def qX1_sideOf (p1 : Int32) : Int32 := (if ¬ p1 = 0 then (if 7 ≤ p1 then 1 else 0) else (-1))
abbrev rmX1_sideOf : Room := { frames := 0, cells := 0, slots := 0, locals := 0 }
theorem nX1_sideOf : yX1_sideOf.cls ≠ "java/lang/invoke/MethodHandle" ∧ yX1_sideOf.cls ≠ "java/lang/invoke/VarHandle" ∧ (parseMethodDescriptor yX1_sideOf.desc).map (fun d => d.parameters.length) = some 1 := by decide +kernel
set_option maxHeartbeats 4000000 in
set_option maxRecDepth 100000 in
theorem mX1_sideOf (l : Launch) (D : va_G) (p1 : Int32) (r0 : Int32) (hR : r0 = qX1_sideOf p1) : cMi l yX1_sideOf wsX1_sideOf rmX1_sideOf D [] [] [.int p1] r0 [] := by
  intro sz
  refine cMet_of (Qc := fun AA => cQi D [] r0 [] AA) (cc := cX1_sideOf) (maxL := 1) (ret := (some .int)) (by decide) rfl (Nat.le_of_ble_eq_true rfl) ?_ sz
  intro p e s m below meth c AA ls hx hb hr hts hown hml hlk hA hK hP hD hS hl
  have hown : s.vm.findClass RX1 = some m.cls := hown
  have hl : lv_has ls 1 [(0, .int p1)] := hl
  rw [qX1_sideOf] at hR
  refine lv_iload_n hx hb dX1_sideOf_0 rfl (lv_at hl 0 rfl) ?_
  refine lv_if_ne (tgt := 8) hx hb dX1_sideOf_1 (by decide) (fun c1 => ?_) (fun c1 => ?_)
  · have hR := hR.trans (if_pos c1)
    refine lv_iload_n hx hb dX1_sideOf_8 rfl (lv_at hl 0 rfl) ?_
    refine lv_bipush (v := 7) hx hb dX1_sideOf_9 (by decide) ?_
    refine lv_icmp_ge (tgt := 18) hx hb dX1_sideOf_11 (by decide) (fun c11 => ?_) (fun c11 => ?_)
    · have hR := hR.trans (if_pos c11)
      refine lv_iconst (v := 1) hx hb dX1_sideOf_18 (by decide) ?_
      exact cRi hx hb hr hlk hK hP hD hS hR.symm dX1_sideOf_19
    · have hR := hR.trans (if_neg c11)
      refine lv_iconst (v := 0) hx hb dX1_sideOf_14 (by decide) ?_
      refine lv_goto (tgt := 19) hx hb dX1_sideOf_15 (by decide) ?_
      exact cRi hx hb hr hlk hK hP hD hS hR.symm dX1_sideOf_19
  · have hR := hR.trans (if_neg (fun z => z c1))
    refine lv_iconst (v := (-1)) hx hb dX1_sideOf_4 (by decide) ?_
    refine lv_goto (tgt := 19) hx hb dX1_sideOf_5 (by decide) ?_
    exact cRi hx hb hr hlk hK hP hD hS hR.symm dX1_sideOf_19
def qX1_kindOf (p1 : Int32) : Int32 := (if 7 ≤ p1 then (p1 - 6) else p1)
abbrev rmX1_kindOf : Room := { frames := 0, cells := 0, slots := 0, locals := 0 }
theorem nX1_kindOf : yX1_kindOf.cls ≠ "java/lang/invoke/MethodHandle" ∧ yX1_kindOf.cls ≠ "java/lang/invoke/VarHandle" ∧ (parseMethodDescriptor yX1_kindOf.desc).map (fun d => d.parameters.length) = some 1 := by decide +kernel
set_option maxHeartbeats 4000000 in
set_option maxRecDepth 100000 in
theorem mX1_kindOf (l : Launch) (D : va_G) (p1 : Int32) (r0 : Int32) (hR : r0 = qX1_kindOf p1) : cMi l yX1_kindOf wsX1_kindOf rmX1_kindOf D [] [] [.int p1] r0 [] := by
  intro sz
  refine cMet_of (Qc := fun AA => cQi D [] r0 [] AA) (cc := cX1_kindOf) (maxL := 1) (ret := (some .int)) (by decide) rfl (Nat.le_of_ble_eq_true rfl) ?_ sz
  intro p e s m below meth c AA ls hx hb hr hts hown hml hlk hA hK hP hD hS hl
  have hown : s.vm.findClass RX1 = some m.cls := hown
  have hl : lv_has ls 1 [(0, .int p1)] := hl
  rw [qX1_kindOf] at hR
  refine lv_iload_n hx hb dX1_kindOf_0 rfl (lv_at hl 0 rfl) ?_
  refine lv_bipush (v := 7) hx hb dX1_kindOf_1 (by decide) ?_
  refine lv_icmp_ge (tgt := 10) hx hb dX1_kindOf_3 (by decide) (fun c3 => ?_) (fun c3 => ?_)
  · have hR := hR.trans (if_pos c3)
    refine lv_iload_n hx hb dX1_kindOf_10 rfl (lv_at hl 0 rfl) ?_
    refine lv_bipush (v := 6) hx hb dX1_kindOf_11 (by decide) ?_
    refine lv_isub hx hb dX1_kindOf_13 ?_
    exact cRi hx hb hr hlk hK hP hD hS hR.symm dX1_kindOf_14
  · have hR := hR.trans (if_neg c3)
    refine lv_iload_n hx hb dX1_kindOf_6 rfl (lv_at hl 0 rfl) ?_
    refine lv_goto (tgt := 14) hx hb dX1_kindOf_7 (by decide) ?_
    exact cRi hx hb hr hlk hK hP hD hS hR.symm dX1_kindOf_14
def qX1_apart (p1 : Int32) (p2 : Int32) : Int32 := (if p1 ≤ p2 then (p2 - p1) else (p1 - p2))
abbrev rmX1_apart : Room := { frames := 0, cells := 0, slots := 0, locals := 0 }
theorem nX1_apart : yX1_apart.cls ≠ "java/lang/invoke/MethodHandle" ∧ yX1_apart.cls ≠ "java/lang/invoke/VarHandle" ∧ (parseMethodDescriptor yX1_apart.desc).map (fun d => d.parameters.length) = some 2 := by decide +kernel
set_option maxHeartbeats 4000000 in
set_option maxRecDepth 100000 in
theorem mX1_apart (l : Launch) (D : va_G) (p1 : Int32) (p2 : Int32) (r0 : Int32) (hR : r0 = qX1_apart p1 p2) : cMi l yX1_apart wsX1_apart rmX1_apart D [] [] [.int p1, .int p2] r0 [] := by
  intro sz
  refine cMet_of (Qc := fun AA => cQi D [] r0 [] AA) (cc := cX1_apart) (maxL := 2) (ret := (some .int)) (by decide) rfl (Nat.le_of_ble_eq_true rfl) ?_ sz
  intro p e s m below meth c AA ls hx hb hr hts hown hml hlk hA hK hP hD hS hl
  have hown : s.vm.findClass RX1 = some m.cls := hown
  have hl : lv_has ls 2 [(0, .int p1), (1, .int p2)] := hl
  rw [qX1_apart] at hR
  refine lv_iload_n hx hb dX1_apart_0 rfl (lv_at hl 0 rfl) ?_
  refine lv_iload_n hx hb dX1_apart_1 rfl (lv_at hl 1 rfl) ?_
  refine lv_icmp_le (tgt := 11) hx hb dX1_apart_2 (by decide) (fun c2 => ?_) (fun c2 => ?_)
  · have hR := hR.trans (if_pos c2)
    refine lv_iload_n hx hb dX1_apart_11 rfl (lv_at hl 1 rfl) ?_
    refine lv_iload_n hx hb dX1_apart_12 rfl (lv_at hl 0 rfl) ?_
    refine lv_isub hx hb dX1_apart_13 ?_
    exact cRi hx hb hr hlk hK hP hD hS hR.symm dX1_apart_14
  · have hR := hR.trans (if_neg c2)
    refine lv_iload_n hx hb dX1_apart_5 rfl (lv_at hl 0 rfl) ?_
    refine lv_iload_n hx hb dX1_apart_6 rfl (lv_at hl 1 rfl) ?_
    refine lv_isub hx hb dX1_apart_7 ?_
    refine lv_goto (tgt := 14) hx hb dX1_apart_8 (by decide) ?_
    exact cRi hx hb hr hlk hK hP hD hS hR.symm dX1_apart_14
def qX1_home (p1 : Int32) : Int32 := (if p1 = 0 then 4 else (if ¬ p1 = 7 then (if p1 = 1 then 2 else (if ¬ p1 = 6 then (if p1 = 2 then 3 else (if ¬ p1 = 5 then (if ¬ p1 = 3 then 6 else 5) else 3)) else 2)) else 4))
abbrev rmX1_home : Room := { frames := 0, cells := 0, slots := 0, locals := 0 }
theorem nX1_home : yX1_home.cls ≠ "java/lang/invoke/MethodHandle" ∧ yX1_home.cls ≠ "java/lang/invoke/VarHandle" ∧ (parseMethodDescriptor yX1_home.desc).map (fun d => d.parameters.length) = some 1 := by decide +kernel
set_option maxHeartbeats 4000000 in
set_option maxRecDepth 100000 in
theorem mX1_home (l : Launch) (D : va_G) (p1 : Int32) (r0 : Int32) (hR : r0 = qX1_home p1) : cMi l yX1_home wsX1_home rmX1_home D [] [] [.int p1] r0 [] := by
  intro sz
  refine cMet_of (Qc := fun AA => cQi D [] r0 [] AA) (cc := cX1_home) (maxL := 1) (ret := (some .int)) (by decide) rfl (Nat.le_of_ble_eq_true rfl) ?_ sz
  intro p e s m below meth c AA ls hx hb hr hts hown hml hlk hA hK hP hD hS hl
  have hown : s.vm.findClass RX1 = some m.cls := hown
  have hl : lv_has ls 1 [(0, .int p1)] := hl
  rw [qX1_home] at hR
  refine lv_iload_n hx hb dX1_home_0 rfl (lv_at hl 0 rfl) ?_
  refine lv_if_eq (tgt := 10) hx hb dX1_home_1 (by decide) (fun c1 => ?_) (fun c1 => ?_)
  · have hR := hR.trans (if_pos c1)
    refine lv_iconst (v := 4) hx hb dX1_home_10 (by decide) ?_
    refine lv_goto (tgt := 54) hx hb dX1_home_11 (by decide) ?_
    exact cRi hx hb hr hlk hK hP hD hS hR.symm dX1_home_54
  · have hR := hR.trans (if_neg c1)
    refine lv_iload_n hx hb dX1_home_4 rfl (lv_at hl 0 rfl) ?_
    refine lv_bipush (v := 7) hx hb dX1_home_5 (by decide) ?_
    refine lv_icmp_ne (tgt := 14) hx hb dX1_home_7 (by decide) (fun c7 => ?_) (fun c7 => ?_)
    · have hR := hR.trans (if_pos c7)
      refine lv_iload_n hx hb dX1_home_14 rfl (lv_at hl 0 rfl) ?_
      refine lv_iconst (v := 1) hx hb dX1_home_15 (by decide) ?_
      refine lv_icmp_eq (tgt := 25) hx hb dX1_home_16 (by decide) (fun c16 => ?_) (fun c16 => ?_)
      · have hR := hR.trans (if_pos c16)
        refine lv_iconst (v := 2) hx hb dX1_home_25 (by decide) ?_
        refine lv_goto (tgt := 54) hx hb dX1_home_26 (by decide) ?_
        exact cRi hx hb hr hlk hK hP hD hS hR.symm dX1_home_54
      · have hR := hR.trans (if_neg c16)
        refine lv_iload_n hx hb dX1_home_19 rfl (lv_at hl 0 rfl) ?_
        refine lv_bipush (v := 6) hx hb dX1_home_20 (by decide) ?_
        refine lv_icmp_ne (tgt := 29) hx hb dX1_home_22 (by decide) (fun c22 => ?_) (fun c22 => ?_)
        · have hR := hR.trans (if_pos c22)
          refine lv_iload_n hx hb dX1_home_29 rfl (lv_at hl 0 rfl) ?_
          refine lv_iconst (v := 2) hx hb dX1_home_30 (by decide) ?_
          refine lv_icmp_eq (tgt := 39) hx hb dX1_home_31 (by decide) (fun c31 => ?_) (fun c31 => ?_)
          · have hR := hR.trans (if_pos c31)
            refine lv_iconst (v := 3) hx hb dX1_home_39 (by decide) ?_
            refine lv_goto (tgt := 54) hx hb dX1_home_40 (by decide) ?_
            exact cRi hx hb hr hlk hK hP hD hS hR.symm dX1_home_54
          · have hR := hR.trans (if_neg c31)
            refine lv_iload_n hx hb dX1_home_34 rfl (lv_at hl 0 rfl) ?_
            refine lv_iconst (v := 5) hx hb dX1_home_35 (by decide) ?_
            refine lv_icmp_ne (tgt := 43) hx hb dX1_home_36 (by decide) (fun c36 => ?_) (fun c36 => ?_)
            · have hR := hR.trans (if_pos c36)
              refine lv_iload_n hx hb dX1_home_43 rfl (lv_at hl 0 rfl) ?_
              refine lv_iconst (v := 3) hx hb dX1_home_44 (by decide) ?_
              refine lv_icmp_ne (tgt := 52) hx hb dX1_home_45 (by decide) (fun c45 => ?_) (fun c45 => ?_)
              · have hR := hR.trans (if_pos c45)
                refine lv_bipush (v := 6) hx hb dX1_home_52 (by decide) ?_
                exact cRi hx hb hr hlk hK hP hD hS hR.symm dX1_home_54
              · have hR := hR.trans (if_neg (fun z => z c45))
                refine lv_iconst (v := 5) hx hb dX1_home_48 (by decide) ?_
                refine lv_goto (tgt := 54) hx hb dX1_home_49 (by decide) ?_
                exact cRi hx hb hr hlk hK hP hD hS hR.symm dX1_home_54
            · have hR := hR.trans (if_neg (fun z => z c36))
              refine lv_iconst (v := 3) hx hb dX1_home_39 (by decide) ?_
              refine lv_goto (tgt := 54) hx hb dX1_home_40 (by decide) ?_
              exact cRi hx hb hr hlk hK hP hD hS hR.symm dX1_home_54
        · have hR := hR.trans (if_neg (fun z => z c22))
          refine lv_iconst (v := 2) hx hb dX1_home_25 (by decide) ?_
          refine lv_goto (tgt := 54) hx hb dX1_home_26 (by decide) ?_
          exact cRi hx hb hr hlk hK hP hD hS hR.symm dX1_home_54
    · have hR := hR.trans (if_neg (fun z => z c7))
      refine lv_iconst (v := 4) hx hb dX1_home_10 (by decide) ?_
      refine lv_goto (tgt := 54) hx hb dX1_home_11 (by decide) ?_
      exact cRi hx hb hr hlk hK hP hD hS hR.symm dX1_home_54
def qX1_corner (p1 : Int32) : Int32 := (if ¬ p1 = 7 then (if ¬ p1 = 0 then (if ¬ p1 = 63 then (if ¬ p1 = 56 then 0 else 8) else 4) else 2) else 1)
abbrev rmX1_corner : Room := { frames := 0, cells := 0, slots := 0, locals := 0 }
theorem nX1_corner : yX1_corner.cls ≠ "java/lang/invoke/MethodHandle" ∧ yX1_corner.cls ≠ "java/lang/invoke/VarHandle" ∧ (parseMethodDescriptor yX1_corner.desc).map (fun d => d.parameters.length) = some 1 := by decide +kernel
set_option maxHeartbeats 4000000 in
set_option maxRecDepth 100000 in
theorem mX1_corner (l : Launch) (D : va_G) (p1 : Int32) (r0 : Int32) (hR : r0 = qX1_corner p1) : cMi l yX1_corner wsX1_corner rmX1_corner D [] [] [.int p1] r0 [] := by
  intro sz
  refine cMet_of (Qc := fun AA => cQi D [] r0 [] AA) (cc := cX1_corner) (maxL := 1) (ret := (some .int)) (by decide) rfl (Nat.le_of_ble_eq_true rfl) ?_ sz
  intro p e s m below meth c AA ls hx hb hr hts hown hml hlk hA hK hP hD hS hl
  have hown : s.vm.findClass RX1 = some m.cls := hown
  have hl : lv_has ls 1 [(0, .int p1)] := hl
  rw [qX1_corner] at hR
  refine lv_iload_n hx hb dX1_corner_0 rfl (lv_at hl 0 rfl) ?_
  refine lv_bipush (v := 7) hx hb dX1_corner_1 (by decide) ?_
  refine lv_icmp_ne (tgt := 10) hx hb dX1_corner_3 (by decide) (fun c3 => ?_) (fun c3 => ?_)
  · have hR := hR.trans (if_pos c3)
    refine lv_iload_n hx hb dX1_corner_10 rfl (lv_at hl 0 rfl) ?_
    refine lv_if_ne (tgt := 18) hx hb dX1_corner_11 (by decide) (fun c11 => ?_) (fun c11 => ?_)
    · have hR := hR.trans (if_pos c11)
      refine lv_iload_n hx hb dX1_corner_18 rfl (lv_at hl 0 rfl) ?_
      refine lv_bipush (v := 63) hx hb dX1_corner_19 (by decide) ?_
      refine lv_icmp_ne (tgt := 28) hx hb dX1_corner_21 (by decide) (fun c21 => ?_) (fun c21 => ?_)
      · have hR := hR.trans (if_pos c21)
        refine lv_iload_n hx hb dX1_corner_28 rfl (lv_at hl 0 rfl) ?_
        refine lv_bipush (v := 56) hx hb dX1_corner_29 (by decide) ?_
        refine lv_icmp_ne (tgt := 39) hx hb dX1_corner_31 (by decide) (fun c31 => ?_) (fun c31 => ?_)
        · have hR := hR.trans (if_pos c31)
          refine lv_iconst (v := 0) hx hb dX1_corner_39 (by decide) ?_
          exact cRi hx hb hr hlk hK hP hD hS hR.symm dX1_corner_40
        · have hR := hR.trans (if_neg (fun z => z c31))
          refine lv_bipush (v := 8) hx hb dX1_corner_34 (by decide) ?_
          refine lv_goto (tgt := 40) hx hb dX1_corner_36 (by decide) ?_
          exact cRi hx hb hr hlk hK hP hD hS hR.symm dX1_corner_40
      · have hR := hR.trans (if_neg (fun z => z c21))
        refine lv_iconst (v := 4) hx hb dX1_corner_24 (by decide) ?_
        refine lv_goto (tgt := 40) hx hb dX1_corner_25 (by decide) ?_
        exact cRi hx hb hr hlk hK hP hD hS hR.symm dX1_corner_40
    · have hR := hR.trans (if_neg (fun z => z c11))
      refine lv_iconst (v := 2) hx hb dX1_corner_14 (by decide) ?_
      refine lv_goto (tgt := 40) hx hb dX1_corner_15 (by decide) ?_
      exact cRi hx hb hr hlk hK hP hD hS hR.symm dX1_corner_40
  · have hR := hR.trans (if_neg (fun z => z c3))
    refine lv_iconst (v := 1) hx hb dX1_corner_6 (by decide) ?_
    refine lv_goto (tgt := 40) hx hb dX1_corner_7 (by decide) ?_
    exact cRi hx hb hr hlk hK hP hD hS hR.symm dX1_corner_40
def qX1_mixed (p1 : Int64) : Int64 := ((((((p1 + (-7046029254386353131)) ^^^ (lsr (p1 + (-7046029254386353131)) 30)) * (-4658895280553007687)) ^^^ (lsr (((p1 + (-7046029254386353131)) ^^^ (lsr (p1 + (-7046029254386353131)) 30)) * (-4658895280553007687)) 27)) * (-7723592293110705685)) ^^^ (lsr (((((p1 + (-7046029254386353131)) ^^^ (lsr (p1 + (-7046029254386353131)) 30)) * (-4658895280553007687)) ^^^ (lsr (((p1 + (-7046029254386353131)) ^^^ (lsr (p1 + (-7046029254386353131)) 30)) * (-4658895280553007687)) 27)) * (-7723592293110705685)) 31))
abbrev rmX1_mixed : Room := { frames := 0, cells := 0, slots := 0, locals := 0 }
theorem nX1_mixed : yX1_mixed.cls ≠ "java/lang/invoke/MethodHandle" ∧ yX1_mixed.cls ≠ "java/lang/invoke/VarHandle" ∧ (parseMethodDescriptor yX1_mixed.desc).map (fun d => d.parameters.length) = some 1 := by decide +kernel
theorem kX1_mixed_0 : Cond.constantLong RX1 103 (-7046029254386353131) ∈ wsX1_mixed := by decide +kernel
theorem kX1_mixed_1 : Cond.constantLong RX1 105 (-4658895280553007687) ∈ wsX1_mixed := by decide +kernel
theorem kX1_mixed_2 : Cond.constantLong RX1 107 (-7723592293110705685) ∈ wsX1_mixed := by decide +kernel
set_option maxHeartbeats 4000000 in
set_option maxRecDepth 100000 in
theorem mX1_mixed (l : Launch) (D : va_G) (p1 : Int64) (r0 : Int64) (hR : r0 = qX1_mixed p1) : cMl l yX1_mixed wsX1_mixed rmX1_mixed D [] [] [.long p1] r0 [] := by
  intro sz
  refine cMet_of (Qc := fun AA => cQl D [] r0 [] AA) (cc := cX1_mixed) (maxL := 4) (ret := (some .long)) (by decide) rfl (Nat.le_of_ble_eq_true rfl) ?_ sz
  intro p e s m below meth c AA ls hx hb hr hts hown hml hlk hA hK hP hD hS hl
  have hown : s.vm.findClass RX1 = some m.cls := hown
  have hl : lv_has ls 4 [(0, .long p1)] := hl
  rw [qX1_mixed] at hR
  refine lv_lload_n hx hb dX1_mixed_0 rfl (lv_at hl 0 rfl) ?_
  refine lv_ldc2 (v := -7046029254386353131) hx hb hown (hts _ kX1_mixed_0) dX1_mixed_1 ?_
  refine lv_ladd hx hb dX1_mixed_4 ?_
  refine lv_lstore_n (lv' := [(2, .long (p1 + (-7046029254386353131))), (0, .long p1)]) hx hb dX1_mixed_5 rfl hl (by decide) rfl (fun ls hl => ?_)
  refine lv_lload_n hx hb dX1_mixed_6 rfl (lv_at hl 0 rfl) ?_
  refine lv_lload_n hx hb dX1_mixed_7 rfl (lv_at hl 0 rfl) ?_
  refine lv_bipush (v := 30) hx hb dX1_mixed_8 (by decide) ?_
  refine lv_lushr (v := lsr (p1 + (-7046029254386353131)) 30) hx hb dX1_mixed_10 rfl ?_
  refine lv_lxor hx hb dX1_mixed_11 ?_
  refine lv_ldc2 (v := -4658895280553007687) hx hb hown (hts _ kX1_mixed_1) dX1_mixed_12 ?_
  refine lv_lmul hx hb dX1_mixed_15 ?_
  refine lv_lstore_n (lv' := [(2, .long (((p1 + (-7046029254386353131)) ^^^ (lsr (p1 + (-7046029254386353131)) 30)) * (-4658895280553007687))), (0, .long p1)]) hx hb dX1_mixed_16 rfl hl (by decide) rfl (fun ls hl => ?_)
  refine lv_lload_n hx hb dX1_mixed_17 rfl (lv_at hl 0 rfl) ?_
  refine lv_lload_n hx hb dX1_mixed_18 rfl (lv_at hl 0 rfl) ?_
  refine lv_bipush (v := 27) hx hb dX1_mixed_19 (by decide) ?_
  refine lv_lushr (v := lsr (((p1 + (-7046029254386353131)) ^^^ (lsr (p1 + (-7046029254386353131)) 30)) * (-4658895280553007687)) 27) hx hb dX1_mixed_21 rfl ?_
  refine lv_lxor hx hb dX1_mixed_22 ?_
  refine lv_ldc2 (v := -7723592293110705685) hx hb hown (hts _ kX1_mixed_2) dX1_mixed_23 ?_
  refine lv_lmul hx hb dX1_mixed_26 ?_
  refine lv_lstore_n (lv' := [(2, .long (((((p1 + (-7046029254386353131)) ^^^ (lsr (p1 + (-7046029254386353131)) 30)) * (-4658895280553007687)) ^^^ (lsr (((p1 + (-7046029254386353131)) ^^^ (lsr (p1 + (-7046029254386353131)) 30)) * (-4658895280553007687)) 27)) * (-7723592293110705685))), (0, .long p1)]) hx hb dX1_mixed_27 rfl hl (by decide) rfl (fun ls hl => ?_)
  refine lv_lload_n hx hb dX1_mixed_28 rfl (lv_at hl 0 rfl) ?_
  refine lv_lload_n hx hb dX1_mixed_29 rfl (lv_at hl 0 rfl) ?_
  refine lv_bipush (v := 31) hx hb dX1_mixed_30 (by decide) ?_
  refine lv_lushr (v := lsr (((((p1 + (-7046029254386353131)) ^^^ (lsr (p1 + (-7046029254386353131)) 30)) * (-4658895280553007687)) ^^^ (lsr (((p1 + (-7046029254386353131)) ^^^ (lsr (p1 + (-7046029254386353131)) 30)) * (-4658895280553007687)) 27)) * (-7723592293110705685)) 31) hx hb dX1_mixed_32 rfl ?_
  refine lv_lxor hx hb dX1_mixed_33 ?_
  exact cRl hx hb hr hlk hK hP hD hS hR.symm dX1_mixed_34
