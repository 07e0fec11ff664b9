def qX0_goes (F : Nat → Int32) (A : Nat → Nat → Int32) (p1 : Int32) (p2 : Int32) : Int32 := (if (qX0_typeOf (A 0 (Int32.toNatClampNeg p1))) = 1 then (if ¬ (qX0_pawnSteps F A p1 p2) = 0 then 1 else (if (qX0_pawnTakes F A p1 p2) = 0 then 0 else 1)) else (if (qX0_typeOf (A 0 (Int32.toNatClampNeg p1))) = 6 then (if ¬ (qX0_attacks F A p1 p2) = 0 then 1 else (if (qX0_castles F A p1 p2) = 0 then 0 else 1)) else (qX0_attacks F A p1 p2)))
abbrev rmX0_goes : Room := { frames := 4, cells := 0, slots := 0, locals := 95 }
theorem nX0_goes : yX0_goes.cls = RX0 ∧ yX0_goes.cls ≠ "java/lang/invoke/MethodHandle" ∧ yX0_goes.cls ≠ "java/lang/invoke/VarHandle" ∧ (parseMethodDescriptor yX0_goes.desc).map (fun d => d.parameters.length) = some 2 := by decide +kernel
theorem in_X0_goes : ∀ w ∈ wsX00, w ∈ wsX0_goes := fun w h => by
  unfold wsX0_goes
  exact List.mem_cons_of_mem _ (List.mem_append_right _ h)
theorem kX0_goes_0 : Cond.fieldLink RX0 9 "Board" "board" "[I" ∈ wsX0_goes := by decide +kernel
set_option maxHeartbeats 4000000 in
set_option maxRecDepth 100000 in
theorem mX0_goes (l : Launch) (D : va_G) (cI : ClassId) (o : Nat) (h : Nat → Nat) (F : Nat → Int32) (A : Nat → Nat → Int32) (p1 : Int32) (p2 : Int32) (h1 : vp_in p1 64) (h2 : vp_in p2 64) (r0 : Int32) (hR : r0 = qX0_goes F A p1 p2) : cMi l yX0_goes wsX0_goes rmX0_goes D [(cI, .int)] (wB cI o h F A) [.ref o, .int p1, .int p2] r0 (wB cI o h F A) := by
  intro sz
  refine cMet_of (Qc := fun AA => cQi D [(cI, .int)] r0 (wB cI o h F A) AA) (cc := cX0_goes) (maxL := 3) (ret := (some .boolean)) (by decide) rfl (Nat.le_of_ble_eq_true rfl) ?_ sz
  intro p e s m below meth c AA ls hx hb hr hts hown hml hlk hA hK hP hD hS hl
  have hown : s.vm.findClass RX0 = some m.cls := hown
  have hl : lv_has ls 3 [(0, .ref o), (1, .int p1), (2, .int p2)] := hl
  rw [qX0_goes] at hR
  refine lv_aload_n hx hb dX0_goes_0 rfl (lv_at hl 0 rfl) ?_
  refine gB hx hb hts in_X0_goes hown hK hP 0 (by decide) rfl kX0_goes_0 dX0_goes_1 ?_
  refine lv_iload_n hx hb dX0_goes_4 rfl (lv_at hl 1 rfl) ?_
  refine va_iald (f := A 0) hx hb hK hP 1 0 rfl rfl h1 dX0_goes_5 ?_
  refine cSi ⟨hx, hb, hml, hown, hts⟩ (mX0_typeOf l D (A 0 (Int32.toNatClampNeg p1)) _ rfl) (va_cwS 1 hts gX0_goes_X0_typeOf rfl rfl rfl nX0_typeOf ⟨Nat.le_of_ble_eq_true rfl, Nat.le_of_ble_eq_true rfl⟩) rfl hl.1 rfl (Nat.le_of_ble_eq_true rfl) dX0_goes_6 ⟨Nat.zero_le _, Nat.zero_le _⟩ hK hP hS hA (fun H locs hP hS => ?_)
  by_cases c9_1 : (qX0_typeOf (A 0 (Int32.toNatClampNeg p1))) = 1
  · refine lv_lookup (off := 27) (tgt := 36) hx hb dX0_goes_9 (by decide) (by rw [c9_1]; decide) (by decide) ?_
    have hR := hR.trans (if_pos c9_1)
    refine lv_aload_n hx hb dX0_goes_36 rfl (lv_at hl 0 rfl) ?_
    refine lv_iload_n hx hb dX0_goes_37 rfl (lv_at hl 1 rfl) ?_
    refine lv_iload_n hx hb dX0_goes_38 rfl (lv_at hl 2 rfl) ?_
    refine cVi ⟨hx, hb, hml, hown, hts⟩ (mX0_pawnSteps l D cI o h F A p1 p2 _ rfl) (cwV 2 hts gX0_goes_X0_pawnSteps rfl rfl rfl nX0_pawnSteps ⟨Nat.le_of_ble_eq_true rfl, Nat.le_of_ble_eq_true rfl⟩) (va_recv hK hP (ci := 0) (q0 := 0) rfl rfl) rfl hl.1 rfl (Nat.le_of_ble_eq_true rfl) dX0_goes_39 ⟨Nat.zero_le _, Nat.zero_le _⟩ hK hP hD hS hA (fun H locs hP hD hS => ?_)
    refine lv_if_ne (tgt := 54) hx hb dX0_goes_42 (by decide) (fun c42 => ?_) (fun c42 => ?_)
    · have hR := hR.trans (if_pos c42)
      refine lv_iconst (v := 1) hx hb dX0_goes_54 (by decide) ?_
      refine lv_goto (tgt := 59) hx hb dX0_goes_55 (by decide) ?_
      exact cRz hx hb hr hlk hK hP hD hS (Or.inr rfl) hR.symm dX0_goes_59
    · have hR := hR.trans (if_neg (fun z => z c42))
      refine lv_aload_n hx hb dX0_goes_45 rfl (lv_at hl 0 rfl) ?_
      refine lv_iload_n hx hb dX0_goes_46 rfl (lv_at hl 1 rfl) ?_
      refine lv_iload_n hx hb dX0_goes_47 rfl (lv_at hl 2 rfl) ?_
      refine cVi ⟨hx, hb, hml, hown, hts⟩ (mX0_pawnTakes l D cI o h F A p1 p2 h2 _ rfl) (cwV 2 hts gX0_goes_X0_pawnTakes rfl rfl rfl nX0_pawnTakes ⟨Nat.le_of_ble_eq_true rfl, Nat.le_of_ble_eq_true rfl⟩) (va_recv hK hP (ci := 0) (q0 := 0) rfl rfl) rfl hl.1 rfl (Nat.le_of_ble_eq_true rfl) dX0_goes_48 ⟨Nat.zero_le _, Nat.zero_le _⟩ hK hP hD hS hA (fun H locs hP hD hS => ?_)
      refine lv_if_eq (tgt := 58) hx hb dX0_goes_51 (by decide) (fun c51 => ?_) (fun c51 => ?_)
      · have hR := hR.trans (if_pos c51)
        refine lv_iconst (v := 0) hx hb dX0_goes_58 (by decide) ?_
        exact cRz hx hb hr hlk hK hP hD hS (Or.inl rfl) hR.symm dX0_goes_59
      · have hR := hR.trans (if_neg c51)
        refine lv_iconst (v := 1) hx hb dX0_goes_54 (by decide) ?_
        refine lv_goto (tgt := 59) hx hb dX0_goes_55 (by decide) ?_
        exact cRz hx hb hr hlk hK hP hD hS (Or.inr rfl) hR.symm dX0_goes_59
  have hR := hR.trans (if_neg c9_1)
  by_cases c9_6 : (qX0_typeOf (A 0 (Int32.toNatClampNeg p1))) = 6
  · refine lv_lookup (off := 51) (tgt := 60) hx hb dX0_goes_9 (by decide) (by rw [c9_6]; decide) (by decide) ?_
    have hR := hR.trans (if_pos c9_6)
    refine lv_aload_n hx hb dX0_goes_60 rfl (lv_at hl 0 rfl) ?_
    refine lv_iload_n hx hb dX0_goes_61 rfl (lv_at hl 1 rfl) ?_
    refine lv_iload_n hx hb dX0_goes_62 rfl (lv_at hl 2 rfl) ?_
    refine cVi ⟨hx, hb, hml, hown, hts⟩ (mX0_attacks l D cI o h F A p1 p2 h1 _ rfl) (cwV 2 hts gX0_goes_X0_attacks rfl rfl rfl nX0_attacks ⟨Nat.le_of_ble_eq_true rfl, Nat.le_of_ble_eq_true rfl⟩) (va_recv hK hP (ci := 0) (q0 := 0) rfl rfl) rfl hl.1 rfl (Nat.le_of_ble_eq_true rfl) dX0_goes_63 ⟨Nat.zero_le _, Nat.zero_le _⟩ hK hP hD hS hA (fun H locs hP hD hS => ?_)
    refine lv_if_ne (tgt := 78) hx hb dX0_goes_66 (by decide) (fun c66 => ?_) (fun c66 => ?_)
    · have hR := hR.trans (if_pos c66)
      refine lv_iconst (v := 1) hx hb dX0_goes_78 (by decide) ?_
      refine lv_goto (tgt := 83) hx hb dX0_goes_79 (by decide) ?_
      exact cRz hx hb hr hlk hK hP hD hS (Or.inr rfl) hR.symm dX0_goes_83
    · have hR := hR.trans (if_neg (fun z => z c66))
      refine lv_aload_n hx hb dX0_goes_69 rfl (lv_at hl 0 rfl) ?_
      refine lv_iload_n hx hb dX0_goes_70 rfl (lv_at hl 1 rfl) ?_
      refine lv_iload_n hx hb dX0_goes_71 rfl (lv_at hl 2 rfl) ?_
      refine cVi ⟨hx, hb, hml, hown, hts⟩ (mX0_castles l D cI o h F A p1 p2 _ rfl) (cwV 2 hts gX0_goes_X0_castles rfl rfl rfl nX0_castles ⟨Nat.le_of_ble_eq_true rfl, Nat.le_of_ble_eq_true rfl⟩) (va_recv hK hP (ci := 0) (q0 := 0) rfl rfl) rfl hl.1 rfl (Nat.le_of_ble_eq_true rfl) dX0_goes_72 ⟨Nat.zero_le _, Nat.zero_le _⟩ hK hP hD hS hA (fun H locs hP hD hS => ?_)
      refine lv_if_eq (tgt := 82) hx hb dX0_goes_75 (by decide) (fun c75 => ?_) (fun c75 => ?_)
      · have hR := hR.trans (if_pos c75)
        refine lv_iconst (v := 0) hx hb dX0_goes_82 (by decide) ?_
        exact cRz hx hb hr hlk hK hP hD hS (Or.inl rfl) hR.symm dX0_goes_83
      · have hR := hR.trans (if_neg c75)
        refine lv_iconst (v := 1) hx hb dX0_goes_78 (by decide) ?_
        refine lv_goto (tgt := 83) hx hb dX0_goes_79 (by decide) ?_
        exact cRz hx hb hr hlk hK hP hD hS (Or.inr rfl) hR.symm dX0_goes_83
  have hR := hR.trans (if_neg c9_6)
  refine lv_lookup (off := 75) (tgt := 84) hx hb dX0_goes_9 (by decide) (by show Op.lookupswitch.offset [(1, 27), (6, 51)] _ _ = _; rw [lv_osw (a := 1) c9_1 rfl, lv_osw (a := 6) c9_6 rfl]; rfl) (by decide) ?_
  refine lv_aload_n hx hb dX0_goes_84 rfl (lv_at hl 0 rfl) ?_
  refine lv_iload_n hx hb dX0_goes_85 rfl (lv_at hl 1 rfl) ?_
  refine lv_iload_n hx hb dX0_goes_86 rfl (lv_at hl 2 rfl) ?_
  refine cVi ⟨hx, hb, hml, hown, hts⟩ (mX0_attacks l D cI o h F A p1 p2 h1 _ rfl) (cwV 2 hts gX0_goes_X0_attacks rfl rfl rfl nX0_attacks ⟨Nat.le_of_ble_eq_true rfl, Nat.le_of_ble_eq_true rfl⟩) (va_recv hK hP (ci := 0) (q0 := 0) rfl rfl) rfl hl.1 rfl (Nat.le_of_ble_eq_true rfl) dX0_goes_87 ⟨Nat.zero_le _, Nat.zero_le _⟩ hK hP hD hS hA (fun H locs hP hD hS => ?_)
  exact cRz hx hb hr hlk hK hP hD hS (bX0_attacks F A p1 p2) hR.symm dX0_goes_90
def qX0_fits (F : Nat → Int32) (A : Nat → Nat → Int32) (p1 : Int32) : Int32 := (if 0 ≤ p1 then (if ¬ (qX0_sideOf (A 0 (Int32.toNatClampNeg (qX0_fromOf p1)))) = (F 1) then 0 else (if (qX0_sideOf (A 0 (Int32.toNatClampNeg (qX0_toOf p1)))) = (F 1) then 0 else (if (qX0_typeOf (A 0 (Int32.toNatClampNeg (qX0_toOf p1)))) = 6 then 0 else (if (qX0_becomesWhatItMay (A 0 (Int32.toNatClampNeg (qX0_fromOf p1))) (qX0_toOf p1) (qX0_kindOf p1)) = 0 then 0 else (if (qX0_goes F A (qX0_fromOf p1) (qX0_toOf p1)) = 0 then 0 else 1))))) else 0)
abbrev rmX0_fits : Room := { frames := 5, cells := 0, slots := 0, locals := 117 }
theorem nX0_fits : yX0_fits.cls = RX0 ∧ yX0_fits.cls ≠ "java/lang/invoke/MethodHandle" ∧ yX0_fits.cls ≠ "java/lang/invoke/VarHandle" ∧ (parseMethodDescriptor yX0_fits.desc).map (fun d => d.parameters.length) = some 1 := by decide +kernel
theorem in_X0_fits : ∀ w ∈ wsX00, w ∈ wsX0_fits := fun w h => by
  unfold wsX0_fits
  exact List.mem_cons_of_mem _ (List.mem_append_right _ h)
theorem kX0_fits_0 : Cond.fieldLink RX0 9 "Board" "board" "[I" ∈ wsX0_fits := by decide +kernel
theorem kX0_fits_1 : Cond.fieldLink RX0 82 "Board" "side" "I" ∈ wsX0_fits := by decide +kernel
set_option maxHeartbeats 4000000 in
set_option maxRecDepth 100000 in
theorem mX0_fits (l : Launch) (D : va_G) (cI : ClassId) (o : Nat) (h : Nat → Nat) (F : Nat → Int32) (A : Nat → Nat → Int32) (p1 : Int32) (r0 : Int32) (hR : r0 = qX0_fits F A p1) : cMi l yX0_fits wsX0_fits rmX0_fits D [(cI, .int)] (wB cI o h F A) [.ref o, .int p1] r0 (wB cI o h F A) := by
  intro sz
  refine cMet_of (Qc := fun AA => cQi D [(cI, .int)] r0 (wB cI o h F A) AA) (cc := cX0_fits) (maxL := 4) (ret := (some .boolean)) (by decide) rfl (Nat.le_of_ble_eq_true rfl) ?_ sz
  intro p e s m below meth c AA ls hx hb hr hts hown hml hlk hA hK hP hD hS hl
  have hown : s.vm.findClass RX0 = some m.cls := hown
  have hl : lv_has ls 4 [(0, .ref o), (1, .int p1)] := hl
  rw [qX0_fits] at hR
  refine lv_iload_n hx hb dX0_fits_0 rfl (lv_at hl 1 rfl) ?_
  refine lv_if_ge (tgt := 6) hx hb dX0_fits_1 (by decide) (fun c1 => ?_) (fun c1 => ?_)
  · have hR := hR.trans (if_pos c1)
    refine lv_iload_n hx hb dX0_fits_6 rfl (lv_at hl 1 rfl) ?_
    refine cSi ⟨hx, hb, hml, hown, hts⟩ (mX0_fromOf l D p1 _ rfl) (va_cwS 1 hts gX0_fits_X0_fromOf rfl rfl rfl nX0_fromOf ⟨Nat.le_of_ble_eq_true rfl, Nat.le_of_ble_eq_true rfl⟩) rfl hl.1 rfl (Nat.le_of_ble_eq_true rfl) dX0_fits_7 ⟨Nat.zero_le _, Nat.zero_le _⟩ hK hP hS hA (fun H locs hP hS => ?_)
    refine lv_istore_n (lv' := [(2, .int (qX0_fromOf p1)), (0, .ref o), (1, .int p1)]) hx hb dX0_fits_10 rfl hl (by decide) rfl (fun ls hl => ?_)
    refine lv_iload_n hx hb dX0_fits_11 rfl (lv_at hl 2 rfl) ?_
    refine cSi ⟨hx, hb, hml, hown, hts⟩ (mX0_toOf l D p1 _ rfl) (va_cwS 1 hts gX0_fits_X0_toOf rfl rfl rfl nX0_toOf ⟨Nat.le_of_ble_eq_true rfl, Nat.le_of_ble_eq_true rfl⟩) rfl hl.1 rfl (Nat.le_of_ble_eq_true rfl) dX0_fits_12 ⟨Nat.zero_le _, Nat.zero_le _⟩ hK hP hS hA (fun H locs hP hS => ?_)
    refine lv_istore_n (lv' := [(3, .int (qX0_toOf p1)), (2, .int (qX0_fromOf p1)), (0, .ref o), (1, .int p1)]) hx hb dX0_fits_15 rfl hl (by decide) rfl (fun ls hl => ?_)
    refine lv_aload_n hx hb dX0_fits_16 rfl (lv_at hl 2 rfl) ?_
    refine gB hx hb hts in_X0_fits hown hK hP 0 (by decide) rfl kX0_fits_0 dX0_fits_17 ?_
    refine lv_iload_n hx hb dX0_fits_20 rfl (lv_at hl 1 rfl) ?_
    refine va_iald (f := A 0) hx hb hK hP 1 0 rfl rfl (in_from p1) dX0_fits_21 ?_
    refine cSi ⟨hx, hb, hml, hown, hts⟩ (mX0_sideOf l D (A 0 (Int32.toNatClampNeg (qX0_fromOf p1))) _ rfl) (va_cwS 1 hts gX0_fits_X0_sideOf rfl rfl rfl nX0_sideOf ⟨Nat.le_of_ble_eq_true rfl, Nat.le_of_ble_eq_true rfl⟩) rfl hl.1 rfl (Nat.le_of_ble_eq_true rfl) dX0_fits_22 ⟨Nat.zero_le _, Nat.zero_le _⟩ hK hP hS hA (fun H locs hP hS => ?_)
    refine lv_aload_n hx hb dX0_fits_25 rfl (lv_at hl 2 rfl) ?_
    refine gB hx hb hts in_X0_fits hown hK hP 1 (by decide) rfl kX0_fits_1 dX0_fits_26 ?_
    refine lv_icmp_ne (tgt := 92) hx hb dX0_fits_29 (by decide) (fun c29 => ?_) (fun c29 => ?_)
    · have hR := hR.trans (if_pos c29)
      refine lv_iconst (v := 0) hx hb dX0_fits_92 (by decide) ?_
      exact cRz hx hb hr hlk hK hP hD hS (Or.inl rfl) hR.symm dX0_fits_93
    · have hR := hR.trans (if_neg (fun z => z c29))
      refine lv_aload_n hx hb dX0_fits_32 rfl (lv_at hl 2 rfl) ?_
      refine gB hx hb hts in_X0_fits hown hK hP 0 (by decide) rfl kX0_fits_0 dX0_fits_33 ?_
      refine lv_iload_n hx hb dX0_fits_36 rfl (lv_at hl 0 rfl) ?_
      refine va_iald (f := A 0) hx hb hK hP 1 0 rfl rfl (in_to p1) dX0_fits_37 ?_
      refine cSi ⟨hx, hb, hml, hown, hts⟩ (mX0_sideOf l D (A 0 (Int32.toNatClampNeg (qX0_toOf p1))) _ rfl) (va_cwS 1 hts gX0_fits_X0_sideOf rfl rfl rfl nX0_sideOf ⟨Nat.le_of_ble_eq_true rfl, Nat.le_of_ble_eq_true rfl⟩) rfl hl.1 rfl (Nat.le_of_ble_eq_true rfl) dX0_fits_38 ⟨Nat.zero_le _, Nat.zero_le _⟩ hK hP hS hA (fun H locs hP hS => ?_)
      refine lv_aload_n hx hb dX0_fits_41 rfl (lv_at hl 2 rfl) ?_
      refine gB hx hb hts in_X0_fits hown hK hP 1 (by decide) rfl kX0_fits_1 dX0_fits_42 ?_
      refine lv_icmp_eq (tgt := 92) hx hb dX0_fits_45 (by decide) (fun c45 => ?_) (fun c45 => ?_)
      · have hR := hR.trans (if_pos c45)
        refine lv_iconst (v := 0) hx hb dX0_fits_92 (by decide) ?_
        exact cRz hx hb hr hlk hK hP hD hS (Or.inl rfl) hR.symm dX0_fits_93
      · have hR := hR.trans (if_neg c45)
        refine lv_aload_n hx hb dX0_fits_48 rfl (lv_at hl 2 rfl) ?_
        refine gB hx hb hts in_X0_fits hown hK hP 0 (by decide) rfl kX0_fits_0 dX0_fits_49 ?_
        refine lv_iload_n hx hb dX0_fits_52 rfl (lv_at hl 0 rfl) ?_
        refine va_iald (f := A 0) hx hb hK hP 1 0 rfl rfl (in_to p1) dX0_fits_53 ?_
        refine cSi ⟨hx, hb, hml, hown, hts⟩ (mX0_typeOf l D (A 0 (Int32.toNatClampNeg (qX0_toOf p1))) _ rfl) (va_cwS 1 hts gX0_fits_X0_typeOf rfl rfl rfl nX0_typeOf ⟨Nat.le_of_ble_eq_true rfl, Nat.le_of_ble_eq_true rfl⟩) rfl hl.1 rfl (Nat.le_of_ble_eq_true rfl) dX0_fits_54 ⟨Nat.zero_le _, Nat.zero_le _⟩ hK hP hS hA (fun H locs hP hS => ?_)
        refine lv_bipush (v := 6) hx hb dX0_fits_57 (by decide) ?_
        refine lv_icmp_eq (tgt := 92) hx hb dX0_fits_59 (by decide) (fun c59 => ?_) (fun c59 => ?_)
        · have hR := hR.trans (if_pos c59)
          refine lv_iconst (v := 0) hx hb dX0_fits_92 (by decide) ?_
          exact cRz hx hb hr hlk hK hP hD hS (Or.inl rfl) hR.symm dX0_fits_93
        · have hR := hR.trans (if_neg c59)
          refine lv_aload_n hx hb dX0_fits_62 rfl (lv_at hl 2 rfl) ?_
          refine gB hx hb hts in_X0_fits hown hK hP 0 (by decide) rfl kX0_fits_0 dX0_fits_63 ?_
          refine lv_iload_n hx hb dX0_fits_66 rfl (lv_at hl 1 rfl) ?_
          refine va_iald (f := A 0) hx hb hK hP 1 0 rfl rfl (in_from p1) dX0_fits_67 ?_
          refine lv_iload_n hx hb dX0_fits_68 rfl (lv_at hl 0 rfl) ?_
          refine lv_iload_n hx hb dX0_fits_69 rfl (lv_at hl 3 rfl) ?_
          refine cSi ⟨hx, hb, hml, hown, hts⟩ (mX0_kindOf l D p1 _ rfl) (va_cwS 1 hts gX0_fits_X0_kindOf rfl rfl rfl nX0_kindOf ⟨Nat.le_of_ble_eq_true rfl, Nat.le_of_ble_eq_true rfl⟩) rfl hl.1 rfl (Nat.le_of_ble_eq_true rfl) dX0_fits_70 ⟨Nat.zero_le _, Nat.zero_le _⟩ hK hP hS hA (fun H locs hP hS => ?_)
          refine cSi ⟨hx, hb, hml, hown, hts⟩ (mX0_becomesWhatItMay l D (A 0 (Int32.toNatClampNeg (qX0_fromOf p1))) (qX0_toOf p1) (qX0_kindOf p1) _ rfl) (va_cwS 3 hts gX0_fits_X0_becomesWhatItMay rfl rfl rfl nX0_becomesWhatItMay ⟨Nat.le_of_ble_eq_true rfl, Nat.le_of_ble_eq_true rfl⟩) rfl hl.1 rfl (Nat.le_of_ble_eq_true rfl) dX0_fits_73 ⟨Nat.zero_le _, Nat.zero_le _⟩ hK hP hS hA (fun H locs hP hS => ?_)
          refine lv_if_eq (tgt := 92) hx hb dX0_fits_76 (by decide) (fun c76 => ?_) (fun c76 => ?_)
          · have hR := hR.trans (if_pos c76)
            refine lv_iconst (v := 0) hx hb dX0_fits_92 (by decide) ?_
            exact cRz hx hb hr hlk hK hP hD hS (Or.inl rfl) hR.symm dX0_fits_93
          · have hR := hR.trans (if_neg c76)
            refine lv_aload_n hx hb dX0_fits_79 rfl (lv_at hl 2 rfl) ?_
            refine lv_iload_n hx hb dX0_fits_80 rfl (lv_at hl 1 rfl) ?_
            refine lv_iload_n hx hb dX0_fits_81 rfl (lv_at hl 0 rfl) ?_
            refine cVi ⟨hx, hb, hml, hown, hts⟩ (mX0_goes l D cI o h F A (qX0_fromOf p1) (qX0_toOf p1) (in_from p1) (in_to p1) _ rfl) (cwV 2 hts gX0_fits_X0_goes rfl rfl rfl nX0_goes ⟨Nat.le_of_ble_eq_true rfl, Nat.le_of_ble_eq_true rfl⟩) (va_recv hK hP (ci := 0) (q0 := 0) rfl rfl) rfl hl.1 rfl (Nat.le_of_ble_eq_true rfl) dX0_fits_82 ⟨Nat.zero_le _, Nat.zero_le _⟩ hK hP hD hS hA (fun H locs hP hD hS => ?_)
            refine lv_if_eq (tgt := 92) hx hb dX0_fits_85 (by decide) (fun c85 => ?_) (fun c85 => ?_)
            · have hR := hR.trans (if_pos c85)
              refine lv_iconst (v := 0) hx hb dX0_fits_92 (by decide) ?_
              exact cRz hx hb hr hlk hK hP hD hS (Or.inl rfl) hR.symm dX0_fits_93
            · have hR := hR.trans (if_neg c85)
              refine lv_iconst (v := 1) hx hb dX0_fits_88 (by decide) ?_
              refine lv_goto (tgt := 93) hx hb dX0_fits_89 (by decide) ?_
              exact cRz hx hb hr hlk hK hP hD hS (Or.inr rfl) hR.symm dX0_fits_93
  · have hR := hR.trans (if_neg c1)
    refine lv_iconst (v := 0) hx hb dX0_fits_4 (by decide) ?_
    exact cRz hx hb hr hlk hK hP hD hS (Or.inl rfl) hR.symm dX0_fits_5
def qX0_squareTaken_j30 (F : Nat → Int32) (A : Nat → Nat → Int32) (x2 : Int32) (s0 : Int32) : Int32 := (if s0 = 0 then x2 else (if (qX0_canBeTakenInPassing F A x2) = 0 then x2 else (qX0_squareBehind F A x2)))
def qX0_squareTaken (F : Nat → Int32) (A : Nat → Nat → Int32) (p1 : Int32) (p2 : Int32) : Int32 := (if ¬ (qX0_typeOf (A 0 (Int32.toNatClampNeg p1))) = 1 then (qX0_squareTaken_j30 F A p2 0) else (if (qX0_pawnAttacks (F 1) p1 p2) = 0 then (qX0_squareTaken_j30 F A p2 0) else (qX0_squareTaken_j30 F A p2 1)))
abbrev rmX0_squareTaken : Room := { frames := 3, cells := 0, slots := 0, locals := 63 }
theorem nX0_squareTaken : yX0_squareTaken.cls = RX0 ∧ yX0_squareTaken.cls ≠ "java/lang/invoke/MethodHandle" ∧ yX0_squareTaken.cls ≠ "java/lang/invoke/VarHandle" ∧ (parseMethodDescriptor yX0_squareTaken.desc).map (fun d => d.parameters.length) = some 2 := by decide +kernel
theorem in_X0_squareTaken : ∀ w ∈ wsX00, w ∈ wsX0_squareTaken := fun w h => by
  unfold wsX0_squareTaken
  exact List.mem_cons_of_mem _ (List.mem_append_right _ h)
theorem kX0_squareTaken_0 : Cond.fieldLink RX0 9 "Board" "board" "[I" ∈ wsX0_squareTaken := by decide +kernel
theorem kX0_squareTaken_1 : Cond.fieldLink RX0 82 "Board" "side" "I" ∈ wsX0_squareTaken := by decide +kernel
set_option maxHeartbeats 4000000 in
set_option maxRecDepth 100000 in
theorem mX0_squareTaken (l : Launch) (D : va_G) (cI : ClassId) (o : Nat) (h : Nat → Nat) (F : Nat → Int32) (A : Nat → Nat → Int32) (p1 : Int32) (p2 : Int32) (h1 : vp_in p1 64) (r0 : Int32) (hR : r0 = qX0_squareTaken F A p1 p2) : cMi l yX0_squareTaken wsX0_squareTaken rmX0_squareTaken D [(cI, .int)] (wB cI o h F A) [.ref o, .int p1, .int p2] r0 (wB cI o h F A) := by
  intro sz
  refine cMet_of (Qc := fun AA => cQi D [(cI, .int)] r0 (wB cI o h F A) AA) (cc := cX0_squareTaken) (maxL := 4) (ret := (some .int)) (by decide) rfl (Nat.le_of_ble_eq_true rfl) ?_ sz
  intro p e s m below meth c AA ls hx hb hr hts hown hml hlk hA hK hP hD hS hl
  have hown : s.vm.findClass RX0 = some m.cls := hown
  have hl : lv_has ls 4 [(0, .ref o), (1, .int p1), (2, .int p2)] := hl
  rw [qX0_squareTaken] at hR
  refine lv_aload_n hx hb dX0_squareTaken_0 rfl (lv_at hl 0 rfl) ?_
  refine gB hx hb hts in_X0_squareTaken hown hK hP 0 (by decide) rfl kX0_squareTaken_0 dX0_squareTaken_1 ?_
  refine lv_iload_n hx hb dX0_squareTaken_4 rfl (lv_at hl 1 rfl) ?_
  refine va_iald (f := A 0) hx hb hK hP 1 0 rfl rfl h1 dX0_squareTaken_5 ?_
  refine cSi ⟨hx, hb, hml, hown, hts⟩ (mX0_typeOf l D (A 0 (Int32.toNatClampNeg p1)) _ rfl) (va_cwS 1 hts gX0_squareTaken_X0_typeOf rfl rfl rfl nX0_typeOf ⟨Nat.le_of_ble_eq_true rfl, Nat.le_of_ble_eq_true rfl⟩) rfl hl.1 rfl (Nat.le_of_ble_eq_true rfl) dX0_squareTaken_6 ⟨Nat.zero_le _, Nat.zero_le _⟩ hK hP hS hA (fun H locs hP hS => ?_)
  refine lv_iconst (v := 1) hx hb dX0_squareTaken_9 (by decide) ?_
  have hj30 : ∀ (s30_0 : Int32) (H : Heap) (locs : List Loc) (ls : Array Slot), va_P D vwCl (wB cI o h F A) H → va_D AA (wB cI o h F A) → va_S AA s.heap H locs → lv_has ls 4 [(0, .ref o), (2, .int p2)] → r0 = qX0_squareTaken_j30 F A p2 s30_0 → W p l e rmX0_squareTaken s m [.ref o, .int p1, .int p2].toArray below meth c H locs 0 0 (MQ below (cQi D [(cI, .int)] r0 (wB cI o h F A) AA) [.ref o, .int p1, .int p2].toArray s 0 0 AA) (F0 m 30 ls [.int s30_0]) := by
    intro s30_0 H locs ls  hP hD hS hl hR
    rw [qX0_squareTaken_j30] at hR
    refine lv_istore_n (lv' := [(3, .int s30_0), (0, .ref o), (2, .int p2)]) hx hb dX0_squareTaken_30 rfl hl (by decide) rfl (fun ls hl => ?_)
    refine lv_iload_n hx hb dX0_squareTaken_31 rfl (lv_at hl 0 rfl) ?_
    refine lv_if_eq (tgt := 51) hx hb dX0_squareTaken_32 (by decide) (fun c32 => ?_) (fun c32 => ?_)
    · have hR := hR.trans (if_pos c32)
      refine lv_iload_n hx hb dX0_squareTaken_51 rfl (lv_at hl 2 rfl) ?_
      exact cRi hx hb hr hlk hK hP hD hS hR.symm dX0_squareTaken_52
    · have hR := hR.trans (if_neg c32)
      refine lv_aload_n hx hb dX0_squareTaken_35 rfl (lv_at hl 1 rfl) ?_
      refine lv_iload_n hx hb dX0_squareTaken_36 rfl (lv_at hl 2 rfl) ?_
      refine cVi ⟨hx, hb, hml, hown, hts⟩ (mX0_canBeTakenInPassing l D cI o h F A p2 _ rfl) (cwV 1 hts gX0_squareTaken_X0_canBeTakenInPassing rfl rfl rfl nX0_canBeTakenInPassing ⟨Nat.le_of_ble_eq_true rfl, Nat.le_of_ble_eq_true rfl⟩) (va_recv hK hP (ci := 0) (q0 := 0) rfl rfl) rfl hl.1 rfl (Nat.le_of_ble_eq_true rfl) dX0_squareTaken_37 ⟨Nat.zero_le _, Nat.zero_le _⟩ hK hP hD hS hA (fun H locs hP hD hS => ?_)
      refine lv_if_eq (tgt := 51) hx hb dX0_squareTaken_40 (by decide) (fun c40 => ?_) (fun c40 => ?_)
      · have hR := hR.trans (if_pos c40)
        refine lv_iload_n hx hb dX0_squareTaken_51 rfl (lv_at hl 2 rfl) ?_
        exact cRi hx hb hr hlk hK hP hD hS hR.symm dX0_squareTaken_52
      · have hR := hR.trans (if_neg c40)
        refine lv_aload_n hx hb dX0_squareTaken_43 rfl (lv_at hl 1 rfl) ?_
        refine lv_iload_n hx hb dX0_squareTaken_44 rfl (lv_at hl 2 rfl) ?_
        refine cVi ⟨hx, hb, hml, hown, hts⟩ (mX0_squareBehind l D cI o h F A p2 _ rfl) (cwV 1 hts gX0_squareTaken_X0_squareBehind rfl rfl rfl nX0_squareBehind ⟨Nat.le_of_ble_eq_true rfl, Nat.le_of_ble_eq_true rfl⟩) (va_recv hK hP (ci := 0) (q0 := 0) rfl rfl) rfl hl.1 rfl (Nat.le_of_ble_eq_true rfl) dX0_squareTaken_45 ⟨Nat.zero_le _, Nat.zero_le _⟩ hK hP hD hS hA (fun H locs hP hD hS => ?_)
        refine lv_goto (tgt := 52) hx hb dX0_squareTaken_48 (by decide) ?_
        exact cRi hx hb hr hlk hK hP hD hS hR.symm dX0_squareTaken_52
  refine lv_icmp_ne (tgt := 29) hx hb dX0_squareTaken_10 (by decide) (fun c10 => ?_) (fun c10 => ?_)
  · have hR := hR.trans (if_pos c10)
    refine lv_iconst (v := 0) hx hb dX0_squareTaken_29 (by decide) ?_
    exact hj30 0 _ _ ls hP hD hS (lv_sub hl [0, 2] rfl) hR
  · have hR := hR.trans (if_neg (fun z => z c10))
    refine lv_aload_n hx hb dX0_squareTaken_13 rfl (lv_at hl 0 rfl) ?_
    refine gB hx hb hts in_X0_squareTaken hown hK hP 1 (by decide) rfl kX0_squareTaken_1 dX0_squareTaken_14 ?_
    refine lv_iload_n hx hb dX0_squareTaken_17 rfl (lv_at hl 1 rfl) ?_
    refine lv_iload_n hx hb dX0_squareTaken_18 rfl (lv_at hl 2 rfl) ?_
    refine cSi ⟨hx, hb, hml, hown, hts⟩ (mX0_pawnAttacks l D (F 1) p1 p2 _ rfl) (va_cwS 3 hts gX0_squareTaken_X0_pawnAttacks rfl rfl rfl nX0_pawnAttacks ⟨Nat.le_of_ble_eq_true rfl, Nat.le_of_ble_eq_true rfl⟩) rfl hl.1 rfl (Nat.le_of_ble_eq_true rfl) dX0_squareTaken_19 ⟨Nat.zero_le _, Nat.zero_le _⟩ hK hP hS hA (fun H locs hP hS => ?_)
    refine lv_if_eq (tgt := 29) hx hb dX0_squareTaken_22 (by decide) (fun c22 => ?_) (fun c22 => ?_)
    · have hR := hR.trans (if_pos c22)
      refine lv_iconst (v := 0) hx hb dX0_squareTaken_29 (by decide) ?_
      exact hj30 0 _ _ ls hP hD hS (lv_sub hl [0, 2] rfl) hR
    · have hR := hR.trans (if_neg c22)
      refine lv_iconst (v := 1) hx hb dX0_squareTaken_25 (by decide) ?_
      refine lv_goto (tgt := 30) hx hb dX0_squareTaken_26 (by decide) ?_
      exact hj30 1 _ _ ls hP hD hS (lv_sub hl [0, 2] rfl) hR
def qX0_passingBehind_w44 (F : Nat → Int32) (A : Nat → Nat → Int32) (x3 : Int32) (x4 : Int32) : Nat → Nat → Int32
  | 0, n => (-1)
  | k + 1, n => (if ¬ (A 0 (Int32.toNatClampNeg (nI n))) = (qX0_pieceOf 1 x4) then (qX0_passingBehind_w44 F A x3 x4 k (n + 1)) else (if (qX0_pawnAttacks x4 (nI n) x3) = 0 then (qX0_passingBehind_w44 F A x3 x4 k (n + 1)) else x3))
def qX0_passingBehind (F : Nat → Int32) (A : Nat → Nat → Int32) (p1 : Int32) (p2 : Int32) : Int32 := (if ¬ (qX0_typeOf (A 0 (Int32.toNatClampNeg p2))) = 1 then (-1) else (if (abI (p2 - p1)) = 16 then (qX0_passingBehind_w44 F A ((p1 + p2) / 2) (qX0_otherThan (F 1)) 64 0) else (-1)))
abbrev rmX0_passingBehind : Room := { frames := 2, cells := 0, slots := 0, locals := 43 }
theorem nX0_passingBehind : yX0_passingBehind.cls = RX0 ∧ yX0_passingBehind.cls ≠ "java/lang/invoke/MethodHandle" ∧ yX0_passingBehind.cls ≠ "java/lang/invoke/VarHandle" ∧ (parseMethodDescriptor yX0_passingBehind.desc).map (fun d => d.parameters.length) = some 2 := by decide +kernel
theorem in_X0_passingBehind : ∀ w ∈ wsX00, w ∈ wsX0_passingBehind := fun w h => by
  unfold wsX0_passingBehind
  exact List.mem_cons_of_mem _ (List.mem_append_right _ h)
theorem kX0_passingBehind_0 : Cond.fieldLink RX0 9 "Board" "board" "[I" ∈ wsX0_passingBehind := by decide +kernel
theorem kX0_passingBehind_1 : Cond.methodLink RX0 240 Lib.Math.abs.name ∈ wsX0_passingBehind := by decide +kernel
theorem kX0_passingBehind_2 : Cond.static Lib.Math.abs.name ∈ wsX0_passingBehind := by decide +kernel
theorem kX0_passingBehind_3 : Cond.initialized "java/lang/Math" ∈ wsX0_passingBehind := by decide +kernel
theorem kX0_passingBehind_4 : Cond.code Lib.Math.abs.name Lib.Math.abs.code 1 (some .int) ∈ wsX0_passingBehind := by decide +kernel
theorem kX0_passingBehind_5 : Cond.fieldLink RX0 82 "Board" "side" "I" ∈ wsX0_passingBehind := by decide +kernel
set_option maxHeartbeats 4000000 in
set_option maxRecDepth 100000 in
theorem mX0_passingBehind (l : Launch) (D : va_G) (cI : ClassId) (o : Nat) (h : Nat → Nat) (F : Nat → Int32) (A : Nat → Nat → Int32) (p1 : Int32) (p2 : Int32) (h2 : vp_in p2 64) (r0 : Int32) (hR : r0 = qX0_passingBehind F A p1 p2) : cMi l yX0_passingBehind wsX0_passingBehind rmX0_passingBehind D [(cI, .int)] (wB cI o h F A) [.ref o, .int p1, .int p2] r0 (wB cI o h F A) := by
  intro sz
  refine cMet_of (Qc := fun AA => cQi D [(cI, .int)] r0 (wB cI o h F A) AA) (cc := cX0_passingBehind) (maxL := 6) (ret := (some .int)) (by decide) rfl (Nat.le_of_ble_eq_true rfl) ?_ sz
  intro p e s m below meth c AA ls hx hb hr hts hown hml hlk hA hK hP hD hS hl
  have hown : s.vm.findClass RX0 = some m.cls := hown
  have hl : lv_has ls 6 [(0, .ref o), (1, .int p1), (2, .int p2)] := hl
  rw [qX0_passingBehind] at hR
  refine lv_aload_n hx hb dX0_passingBehind_0 rfl (lv_at hl 0 rfl) ?_
  refine gB hx hb hts in_X0_passingBehind hown hK hP 0 (by decide) rfl kX0_passingBehind_0 dX0_passingBehind_1 ?_
  refine lv_iload_n hx hb dX0_passingBehind_4 rfl (lv_at hl 2 rfl) ?_
  refine va_iald (f := A 0) hx hb hK hP 1 0 rfl rfl h2 dX0_passingBehind_5 ?_
  refine cSi ⟨hx, hb, hml, hown, hts⟩ (mX0_typeOf l D (A 0 (Int32.toNatClampNeg p2)) _ rfl) (va_cwS 1 hts gX0_passingBehind_X0_typeOf rfl rfl rfl nX0_typeOf ⟨Nat.le_of_ble_eq_true rfl, Nat.le_of_ble_eq_true rfl⟩) rfl hl.1 rfl (Nat.le_of_ble_eq_true rfl) dX0_passingBehind_6 ⟨Nat.zero_le _, Nat.zero_le _⟩ hK hP hS hA (fun H locs hP hS => ?_)
  refine lv_iconst (v := 1) hx hb dX0_passingBehind_9 (by decide) ?_
  refine lv_icmp_ne (tgt := 24) hx hb dX0_passingBehind_10 (by decide) (fun c10 => ?_) (fun c10 => ?_)
  · have hR := hR.trans (if_pos c10)
    refine lv_iconst (v := (-1)) hx hb dX0_passingBehind_24 (by decide) ?_
    exact cRi hx hb hr hlk hK hP hD hS hR.symm dX0_passingBehind_25
  · have hR := hR.trans (if_neg (fun z => z c10))
    refine lv_iload_n hx hb dX0_passingBehind_13 rfl (lv_at hl 2 rfl) ?_
    refine lv_iload_n hx hb dX0_passingBehind_14 rfl (lv_at hl 1 rfl) ?_
    refine lv_isub hx hb dX0_passingBehind_15 ?_
    refine mAbs hx hb (by rw [hml]; exact hl.1.symm) hown hts kX0_passingBehind_1 kX0_passingBehind_2 kX0_passingBehind_3 kX0_passingBehind_4 (Nat.le_of_ble_eq_true rfl) (Nat.le_of_ble_eq_true rfl) (Nat.zero_le _) (Nat.zero_le _) dX0_passingBehind_16 ?_
    refine lv_bipush (v := 16) hx hb dX0_passingBehind_19 (by decide) ?_
    refine lv_icmp_eq (tgt := 26) hx hb dX0_passingBehind_21 (by decide) (fun c21 => ?_) (fun c21 => ?_)
    · have hR := hR.trans (if_pos c21)
      refine lv_iload_n hx hb dX0_passingBehind_26 rfl (lv_at hl 1 rfl) ?_
      refine lv_iload_n hx hb dX0_passingBehind_27 rfl (lv_at hl 2 rfl) ?_
      refine lv_iadd hx hb dX0_passingBehind_28 ?_
      refine lv_iconst (v := 2) hx hb dX0_passingBehind_29 (by decide) ?_
      refine lv_idiv hx hb dX0_passingBehind_30 (by decide) ?_
      refine lv_istore_n (lv' := [(3, .int ((p1 + p2) / 2)), (0, .ref o), (1, .int p1), (2, .int p2)]) hx hb dX0_passingBehind_31 rfl hl (by decide) rfl (fun ls hl => ?_)
      refine lv_aload_n hx hb dX0_passingBehind_32 rfl (lv_at hl 1 rfl) ?_
      refine gB hx hb hts in_X0_passingBehind hown hK hP 1 (by decide) rfl kX0_passingBehind_5 dX0_passingBehind_33 ?_
      refine cSi ⟨hx, hb, hml, hown, hts⟩ (mX0_otherThan l D (F 1) _ rfl) (va_cwS 1 hts gX0_passingBehind_X0_otherThan rfl rfl rfl nX0_otherThan ⟨Nat.le_of_ble_eq_true rfl, Nat.le_of_ble_eq_true rfl⟩) rfl hl.1 rfl (Nat.le_of_ble_eq_true rfl) dX0_passingBehind_36 ⟨Nat.zero_le _, Nat.zero_le _⟩ hK hP hS hA (fun H locs hP hS => ?_)
      refine lv_istore (lv' := [(4, .int (qX0_otherThan (F 1))), (3, .int ((p1 + p2) / 2)), (0, .ref o), (1, .int p1), (2, .int p2)]) hx hb dX0_passingBehind_39 hl (by decide) rfl (fun ls hl => ?_)
      refine lv_iconst (v := 0) hx hb dX0_passingBehind_41 (by decide) ?_
      refine lv_istore (lv' := [(5, .int 0), (4, .int (qX0_otherThan (F 1))), (3, .int ((p1 + p2) / 2)), (0, .ref o), (1, .int p1), (2, .int p2)]) hx hb dX0_passingBehind_42 hl (by decide) rfl (fun ls hl => ?_)
      have hw44 : ∀ (k n44 : Nat) (H : Heap) (locs : List Loc) (ls : Array Slot), n44 + k = 64 → va_P D vwCl (wB cI o h F A) H → va_D AA (wB cI o h F A) → va_S AA s.heap H locs → lv_has ls 6 [(0, .ref o), (3, .int ((p1 + p2) / 2)), (4, .int (qX0_otherThan (F 1))), (5, .int (nI n44))] → r0 = qX0_passingBehind_w44 F A ((p1 + p2) / 2) (qX0_otherThan (F 1)) k n44 → W p l e rmX0_passingBehind s m [.ref o, .int p1, .int p2].toArray below meth c H locs 0 0 (MQ below (cQi D [(cI, .int)] r0 (wB cI o h F A) AA) [.ref o, .int p1, .int p2].toArray s 0 0 AA) (F0 m 44 ls []) := by
        intro k
        induction k with
        | zero =>
          intro n44  H locs ls hn  hP hD hS hl hR
          rw [qX0_passingBehind_w44] at hR
          refine lv_iload hx hb dX0_passingBehind_44 (lv_at hl 3 rfl) ?_
          refine lv_bipush (v := 64) hx hb dX0_passingBehind_46 (by decide) ?_
          refine lv_icmp_ge (tgt := 86) hx hb dX0_passingBehind_48 (by decide) (fun c48 => ?_) (fun c48 => ?_)
          · skip
            refine lv_iconst (v := (-1)) hx hb dX0_passingBehind_86 (by decide) ?_
            exact cRi hx hb hr hlk hK hP hD hS hR.symm dX0_passingBehind_87
          · exact absurd (nI_le (a := 64) (b := n44) (by omega) (by omega)) c48
        | succ k ih =>
          intro n44  H locs ls hn  hP hD hS hl hR
          rw [qX0_passingBehind_w44] at hR
          refine lv_iload hx hb dX0_passingBehind_44 (lv_at hl 3 rfl) ?_
          refine lv_bipush (v := 64) hx hb dX0_passingBehind_46 (by decide) ?_
          refine lv_icmp_ge (tgt := 86) hx hb dX0_passingBehind_48 (by decide) (fun c48 => ?_) (fun c48 => ?_)
          · exact absurd c48 (nI_ge (a := n44) (b := 64) (by omega) (by omega))
          · skip
            refine lv_aload_n hx hb dX0_passingBehind_51 rfl (lv_at hl 0 rfl) ?_
            refine gB hx hb hts in_X0_passingBehind hown hK hP 0 (by decide) rfl kX0_passingBehind_0 dX0_passingBehind_52 ?_
            refine lv_iload hx hb dX0_passingBehind_55 (lv_at hl 3 rfl) ?_
            refine va_iald (f := A 0) hx hb hK hP 1 0 rfl rfl (vp_in_nI (by omega) (by decide)) dX0_passingBehind_57 ?_
            refine lv_iconst (v := 1) hx hb dX0_passingBehind_58 (by decide) ?_
            refine lv_iload hx hb dX0_passingBehind_59 (lv_at hl 2 rfl) ?_
            refine cSi ⟨hx, hb, hml, hown, hts⟩ (mX0_pieceOf l D 1 (qX0_otherThan (F 1)) _ rfl) (va_cwS 2 hts gX0_passingBehind_X0_pieceOf rfl rfl rfl nX0_pieceOf ⟨Nat.le_of_ble_eq_true rfl, Nat.le_of_ble_eq_true rfl⟩) rfl hl.1 rfl (Nat.le_of_ble_eq_true rfl) dX0_passingBehind_61 ⟨Nat.zero_le _, Nat.zero_le _⟩ hK hP hS hA (fun H locs hP hS => ?_)
            refine lv_icmp_ne (tgt := 80) hx hb dX0_passingBehind_64 (by decide) (fun c64 => ?_) (fun c64 => ?_)
            · have hR := hR.trans (if_pos c64)
              refine lv_iinc (v := (nI (n44 + 1))) (lv' := [(5, .int (nI (n44 + 1))), (0, .ref o), (3, .int ((p1 + p2) / 2)), (4, .int (qX0_otherThan (F 1)))]) hx hb dX0_passingBehind_80 hl (k := 3) rfl (nI_1 _) (by decide) rfl (fun ls hl => ?_)
              refine lv_goto (tgt := 44) hx hb dX0_passingBehind_83 (by decide) ?_
              exact ih (n44 + 1) _ _ ls (by omega) hP hD hS (lv_sub hl [1, 2, 3, 0] rfl) hR
            · have hR := hR.trans (if_neg (fun z => z c64))
              refine lv_iload hx hb dX0_passingBehind_67 (lv_at hl 2 rfl) ?_
              refine lv_iload hx hb dX0_passingBehind_69 (lv_at hl 3 rfl) ?_
              refine lv_iload_n hx hb dX0_passingBehind_71 rfl (lv_at hl 1 rfl) ?_
              refine cSi ⟨hx, hb, hml, hown, hts⟩ (mX0_pawnAttacks l D (qX0_otherThan (F 1)) (nI n44) ((p1 + p2) / 2) _ rfl) (va_cwS 3 hts gX0_passingBehind_X0_pawnAttacks rfl rfl rfl nX0_pawnAttacks ⟨Nat.le_of_ble_eq_true rfl, Nat.le_of_ble_eq_true rfl⟩) rfl hl.1 rfl (Nat.le_of_ble_eq_true rfl) dX0_passingBehind_72 ⟨Nat.zero_le _, Nat.zero_le _⟩ hK hP hS hA (fun H locs hP hS => ?_)
              refine lv_if_eq (tgt := 80) hx hb dX0_passingBehind_75 (by decide) (fun c75 => ?_) (fun c75 => ?_)
              · have hR := hR.trans (if_pos c75)
                refine lv_iinc (v := (nI (n44 + 1))) (lv' := [(5, .int (nI (n44 + 1))), (0, .ref o), (3, .int ((p1 + p2) / 2)), (4, .int (qX0_otherThan (F 1)))]) hx hb dX0_passingBehind_80 hl (k := 3) rfl (nI_1 _) (by decide) rfl (fun ls hl => ?_)
                refine lv_goto (tgt := 44) hx hb dX0_passingBehind_83 (by decide) ?_
                exact ih (n44 + 1) _ _ ls (by omega) hP hD hS (lv_sub hl [1, 2, 3, 0] rfl) hR
              · have hR := hR.trans (if_neg c75)
                refine lv_iload_n hx hb dX0_passingBehind_78 rfl (lv_at hl 1 rfl) ?_
                exact cRi hx hb hr hlk hK hP hD hS hR.symm dX0_passingBehind_79
      exact hw44 64 0 _ _ ls (by omega) hP hD hS (lv_sub hl [3, 2, 1, 0] rfl) hR
    · have hR := hR.trans (if_neg c21)
      refine lv_iconst (v := (-1)) hx hb dX0_passingBehind_24 (by decide) ?_
      exact cRi hx hb hr hlk hK hP hD hS hR.symm dX0_passingBehind_25
def qX0_move (F : Nat → Int32) (A : Nat → Nat → Int32) (p1 : Int32) : Int32 := (if p1 < 0 then (-1) else (if (F 6) ≤ p1 then (-1) else (A 7 (Int32.toNatClampNeg p1))))
abbrev rmX0_move : Room := { frames := 0, cells := 0, slots := 0, locals := 0 }
theorem nX0_move : yX0_move.cls = RX0 ∧ yX0_move.cls ≠ "java/lang/invoke/MethodHandle" ∧ yX0_move.cls ≠ "java/lang/invoke/VarHandle" ∧ (parseMethodDescriptor yX0_move.desc).map (fun d => d.parameters.length) = some 1 := by decide +kernel
theorem in_X0_move : ∀ w ∈ wsX00, w ∈ wsX0_move := fun w h => by
  unfold wsX0_move
  exact List.mem_cons_of_mem _ (List.mem_append_right _ h)
theorem kX0_move_0 : Cond.fieldLink RX0 127 "Board" "made" "I" ∈ wsX0_move := by decide +kernel
theorem kX0_move_1 : Cond.fieldLink RX0 13 "Board" "moves" "[I" ∈ wsX0_move := by decide +kernel
set_option maxHeartbeats 4000000 in
set_option maxRecDepth 100000 in
theorem mX0_move (l : Launch) (D : va_G) (cI : ClassId) (o : Nat) (h : Nat → Nat) (F : Nat → Int32) (A : Nat → Nat → Int32) (p1 : Int32) (hm : ∃ k : Nat, k ≤ 600 ∧ F 6 = nI k) (r0 : Int32) (hR : r0 = qX0_move F A p1) : cMi l yX0_move wsX0_move rmX0_move D [(cI, .int)] (wB cI o h F A) [.ref o, .int p1] r0 (wB cI o h F A) := by
  intro sz
  refine cMet_of (Qc := fun AA => cQi D [(cI, .int)] r0 (wB cI o h F A) AA) (cc := cX0_move) (maxL := 2) (ret := (some .int)) (by decide) rfl (Nat.le_of_ble_eq_true rfl) ?_ sz
  intro p e s m below meth c AA ls hx hb hr hts hown hml hlk hA hK hP hD hS hl
  have hown : s.vm.findClass RX0 = some m.cls := hown
  have hl : lv_has ls 2 [(0, .ref o), (1, .int p1)] := hl
  rw [qX0_move] at hR
  refine lv_iload_n hx hb dX0_move_0 rfl (lv_at hl 1 rfl) ?_
  refine lv_if_lt (tgt := 21) hx hb dX0_move_1 (by decide) (fun c1 => ?_) (fun c1 => ?_)
  · have hR := hR.trans (if_pos c1)
    refine lv_iconst (v := (-1)) hx hb dX0_move_21 (by decide) ?_
    exact cRi hx hb hr hlk hK hP hD hS hR.symm dX0_move_22
  · have hR := hR.trans (if_neg c1)
    refine lv_iload_n hx hb dX0_move_4 rfl (lv_at hl 1 rfl) ?_
    refine lv_aload_n hx hb dX0_move_5 rfl (lv_at hl 0 rfl) ?_
    refine gB hx hb hts in_X0_move hown hK hP 6 (by decide) rfl kX0_move_0 dX0_move_6 ?_
    refine lv_icmp_ge (tgt := 21) hx hb dX0_move_9 (by decide) (fun c9 => ?_) (fun c9 => ?_)
    · have hR := hR.trans (if_pos c9)
      refine lv_iconst (v := (-1)) hx hb dX0_move_21 (by decide) ?_
      exact cRi hx hb hr hlk hK hP hD hS hR.symm dX0_move_22
    · have hR := hR.trans (if_neg c9)
      refine lv_aload_n hx hb dX0_move_12 rfl (lv_at hl 0 rfl) ?_
      refine gB hx hb hts in_X0_move hown hK hP 7 (by decide) rfl kX0_move_1 dX0_move_13 ?_
      refine lv_iload_n hx hb dX0_move_16 rfl (lv_at hl 1 rfl) ?_
      refine va_iald (f := A 7) hx hb hK hP 2 0 rfl rfl (inMv hm c1 c9) dX0_move_17 ?_
      refine lv_goto (tgt := 22) hx hb dX0_move_18 (by decide) ?_
      exact cRi hx hb hr hlk hK hP hD hS hR.symm dX0_move_22
def qX0_key_w45 (F : Nat → Int32) (A : Nat → Nat → Int32) : Nat → Nat → (Int64) → Int64
  | 0, n, x1 => x1
  | k + 1, n, x1 => (if (A 0 (Int32.toNatClampNeg (nI n))) = 0 then (qX0_key_w45 F A k (n + 1) x1) else (qX0_key_w45 F A k (n + 1) (x1 ^^^ (qX0_mixed (Int32.toInt64 ((64 * (A 0 (Int32.toNatClampNeg (nI n)))) + (nI n)))))))
def qX0_key_j43 (F : Nat → Int32) (A : Nat → Nat → Int32) (x1 : Int64) : Int64 := (qX0_key_w45 F A 64 0 x1)
def qX0_key (F : Nat → Int32) (A : Nat → Nat → Int32)  : Int64 := (if ¬ (F 1) = 1 then (qX0_key_j43 F A ((qX0_mixed (Int32.toInt64 (900 + (F 2)))) ^^^ (qX0_mixed (Int32.toInt64 (1000 + (F 3)))))) else (qX0_key_j43 F A (((qX0_mixed (Int32.toInt64 (900 + (F 2)))) ^^^ (qX0_mixed (Int32.toInt64 (1000 + (F 3))))) ^^^ (qX0_mixed 2000))))
abbrev rmX0_key : Room := { frames := 1, cells := 0, slots := 0, locals := 21 }
theorem nX0_key : yX0_key.cls = RX0 ∧ yX0_key.cls ≠ "java/lang/invoke/MethodHandle" ∧ yX0_key.cls ≠ "java/lang/invoke/VarHandle" ∧ (parseMethodDescriptor yX0_key.desc).map (fun d => d.parameters.length) = some 0 := by decide +kernel
theorem in_X0_key : ∀ w ∈ wsX00, w ∈ wsX0_key := fun w h => by
  unfold wsX0_key
  exact List.mem_cons_of_mem _ (List.mem_append_right _ h)
theorem kX0_key_0 : Cond.fieldLink RX0 41 "Board" "rights" "I" ∈ wsX0_key := by decide +kernel
theorem kX0_key_1 : Cond.fieldLink RX0 85 "Board" "passing" "I" ∈ wsX0_key := by decide +kernel
theorem kX0_key_2 : Cond.fieldLink RX0 82 "Board" "side" "I" ∈ wsX0_key := by decide +kernel
theorem kX0_key_3 : Cond.constantLong RX0 171 (2000) ∈ wsX0_key := by decide +kernel
theorem kX0_key_4 : Cond.fieldLink RX0 9 "Board" "board" "[I" ∈ wsX0_key := by decide +kernel
set_option maxHeartbeats 4000000 in
set_option maxRecDepth 100000 in
theorem mX0_key (l : Launch) (D : va_G) (cI : ClassId) (o : Nat) (h : Nat → Nat) (F : Nat → Int32) (A : Nat → Nat → Int32)  (r0 : Int64) (hR : r0 = qX0_key F A) : cMl l yX0_key wsX0_key rmX0_key D [(cI, .int)] (wB cI o h F A) [.ref o] r0 (wB cI o h F A) := by
  intro sz
  refine cMet_of (Qc := fun AA => cQl D [(cI, .int)] r0 (wB cI o h F A) AA) (cc := cX0_key) (maxL := 4) (ret := (some .long)) (by decide) rfl (Nat.le_of_ble_eq_true rfl) ?_ sz
  intro p e s m below meth c AA ls hx hb hr hts hown hml hlk hA hK hP hD hS hl
  have hown : s.vm.findClass RX0 = some m.cls := hown
  have hl : lv_has ls 4 [(0, .ref o)] := hl
  rw [qX0_key] at hR
  refine lv_sipush (v := 900) hx hb dX0_key_0 (by decide) ?_
  refine lv_aload_n hx hb dX0_key_3 rfl (lv_at hl 0 rfl) ?_
  refine gB hx hb hts in_X0_key hown hK hP 2 (by decide) rfl kX0_key_0 dX0_key_4 ?_
  refine lv_iadd hx hb dX0_key_7 ?_
  refine lv_i2l hx hb dX0_key_8 rfl ?_
  refine cSl ⟨hx, hb, hml, hown, hts⟩ (mX0_mixed l D (Int32.toInt64 (900 + (F 2))) _ rfl) (va_cwS 1 hts gX0_key_X0_mixed rfl rfl rfl nX0_mixed ⟨Nat.le_of_ble_eq_true rfl, Nat.le_of_ble_eq_true rfl⟩) rfl hl.1 rfl (Nat.le_of_ble_eq_true rfl) dX0_key_9 ⟨Nat.zero_le _, Nat.zero_le _⟩ hK hP hS hA (fun H locs hP hS => ?_)
  refine lv_sipush (v := 1000) hx hb dX0_key_12 (by decide) ?_
  refine lv_aload_n hx hb dX0_key_15 rfl (lv_at hl 0 rfl) ?_
  refine gB hx hb hts in_X0_key hown hK hP 3 (by decide) rfl kX0_key_1 dX0_key_16 ?_
  refine lv_iadd hx hb dX0_key_19 ?_
  refine lv_i2l hx hb dX0_key_20 rfl ?_
  refine cSl ⟨hx, hb, hml, hown, hts⟩ (mX0_mixed l D (Int32.toInt64 (1000 + (F 3))) _ rfl) (va_cwS 1 hts gX0_key_X0_mixed rfl rfl rfl nX0_mixed ⟨Nat.le_of_ble_eq_true rfl, Nat.le_of_ble_eq_true rfl⟩) rfl hl.1 rfl (Nat.le_of_ble_eq_true rfl) dX0_key_21 ⟨Nat.zero_le _, Nat.zero_le _⟩ hK hP hS hA (fun H locs hP hS => ?_)
  refine lv_lxor hx hb dX0_key_24 ?_
  refine lv_lstore_n (lv' := [(1, .long ((qX0_mixed (Int32.toInt64 (900 + (F 2)))) ^^^ (qX0_mixed (Int32.toInt64 (1000 + (F 3)))))), (0, .ref o)]) hx hb dX0_key_25 rfl hl (by decide) rfl (fun ls hl => ?_)
  refine lv_aload_n hx hb dX0_key_26 rfl (lv_at hl 1 rfl) ?_
  refine gB hx hb hts in_X0_key hown hK hP 1 (by decide) rfl kX0_key_2 dX0_key_27 ?_
  refine lv_iconst (v := 1) hx hb dX0_key_30 (by decide) ?_
  have hj43 : ∀ (v43_1 : Int64) (H : Heap) (locs : List Loc) (ls : Array Slot), va_P D vwCl (wB cI o h F A) H → va_D AA (wB cI o h F A) → va_S AA s.heap H locs → lv_has ls 4 [(0, .ref o), (1, .long v43_1)] → r0 = qX0_key_j43 F A v43_1 → W p l e rmX0_key s m [.ref o].toArray below meth c H locs 0 0 (MQ below (cQl D [(cI, .int)] r0 (wB cI o h F A) AA) [.ref o].toArray s 0 0 AA) (F0 m 43 ls []) := by
    intro v43_1 H locs ls  hP hD hS hl hR
    rw [qX0_key_j43] at hR
    refine lv_iconst (v := 0) hx hb dX0_key_43 (by decide) ?_
    refine lv_istore_n (lv' := [(3, .int 0), (0, .ref o), (1, .long v43_1)]) hx hb dX0_key_44 rfl hl (by decide) rfl (fun ls hl => ?_)
    have hw45 : ∀ (k n45 : Nat) (v45_1 : Int64) (H : Heap) (locs : List Loc) (ls : Array Slot), n45 + k = 64 → va_P D vwCl (wB cI o h F A) H → va_D AA (wB cI o h F A) → va_S AA s.heap H locs → lv_has ls 4 [(0, .ref o), (1, .long v45_1), (3, .int (nI n45))] → r0 = qX0_key_w45 F A k n45 v45_1 → W p l e rmX0_key s m [.ref o].toArray below meth c H locs 0 0 (MQ below (cQl D [(cI, .int)] r0 (wB cI o h F A) AA) [.ref o].toArray s 0 0 AA) (F0 m 45 ls []) := by
      intro k
      induction k with
      | zero =>
        intro n45 v45_1 H locs ls hn  hP hD hS hl hR
        rw [qX0_key_w45] at hR
        refine lv_iload_n hx hb dX0_key_45 rfl (lv_at hl 2 rfl) ?_
        refine lv_bipush (v := 64) hx hb dX0_key_46 (by decide) ?_
        refine lv_icmp_ge (tgt := 84) hx hb dX0_key_48 (by decide) (fun c48 => ?_) (fun c48 => ?_)
        · skip
          refine lv_lload_n hx hb dX0_key_84 rfl (lv_at hl 1 rfl) ?_
          exact cRl hx hb hr hlk hK hP hD hS hR.symm dX0_key_85
        · exact absurd (nI_le (a := 64) (b := n45) (by omega) (by omega)) c48
      | succ k ih =>
        intro n45 v45_1 H locs ls hn  hP hD hS hl hR
        rw [qX0_key_w45] at hR
        refine lv_iload_n hx hb dX0_key_45 rfl (lv_at hl 2 rfl) ?_
        refine lv_bipush (v := 64) hx hb dX0_key_46 (by decide) ?_
        refine lv_icmp_ge (tgt := 84) hx hb dX0_key_48 (by decide) (fun c48 => ?_) (fun c48 => ?_)
        · exact absurd c48 (nI_ge (a := n45) (b := 64) (by omega) (by omega))
        · skip
          refine lv_aload_n hx hb dX0_key_51 rfl (lv_at hl 0 rfl) ?_
          refine gB hx hb hts in_X0_key hown hK hP 0 (by decide) rfl kX0_key_4 dX0_key_52 ?_
          refine lv_iload_n hx hb dX0_key_55 rfl (lv_at hl 2 rfl) ?_
          refine va_iald (f := A 0) hx hb hK hP 1 0 rfl rfl (vp_in_nI (by omega) (by decide)) dX0_key_56 ?_
          refine lv_if_eq (tgt := 78) hx hb dX0_key_57 (by decide) (fun c57 => ?_) (fun c57 => ?_)
          · have hR := hR.trans (if_pos c57)
            refine lv_iinc (v := (nI (n45 + 1))) (lv' := [(3, .int (nI (n45 + 1))), (0, .ref o), (1, .long v45_1)]) hx hb dX0_key_78 hl (k := 2) rfl (nI_1 _) (by decide) rfl (fun ls hl => ?_)
            refine lv_goto (tgt := 45) hx hb dX0_key_81 (by decide) ?_
            exact ih (n45 + 1) v45_1 _ _ ls (by omega) hP hD hS (lv_sub hl [1, 2, 0] rfl) hR
          · have hR := hR.trans (if_neg c57)
            refine lv_lload_n hx hb dX0_key_60 rfl (lv_at hl 1 rfl) ?_
            refine lv_bipush (v := 64) hx hb dX0_key_61 (by decide) ?_
            refine lv_aload_n hx hb dX0_key_63 rfl (lv_at hl 0 rfl) ?_
            refine gB hx hb hts in_X0_key hown hK hP 0 (by decide) rfl kX0_key_4 dX0_key_64 ?_
            refine lv_iload_n hx hb dX0_key_67 rfl (lv_at hl 2 rfl) ?_
            refine va_iald (f := A 0) hx hb hK hP 1 0 rfl rfl (vp_in_nI (by omega) (by decide)) dX0_key_68 ?_
            refine lv_imul hx hb dX0_key_69 ?_
            refine lv_iload_n hx hb dX0_key_70 rfl (lv_at hl 2 rfl) ?_
            refine lv_iadd hx hb dX0_key_71 ?_
            refine lv_i2l hx hb dX0_key_72 rfl ?_
            refine cSl ⟨hx, hb, hml, hown, hts⟩ (mX0_mixed l D (Int32.toInt64 ((64 * (A 0 (Int32.toNatClampNeg (nI n45)))) + (nI n45))) _ rfl) (va_cwS 1 hts gX0_key_X0_mixed rfl rfl rfl nX0_mixed ⟨Nat.le_of_ble_eq_true rfl, Nat.le_of_ble_eq_true rfl⟩) rfl hl.1 rfl (Nat.le_of_ble_eq_true rfl) dX0_key_73 ⟨Nat.zero_le _, Nat.zero_le _⟩ hK hP hS hA (fun H locs hP hS => ?_)
            refine lv_lxor hx hb dX0_key_76 ?_
            refine lv_lstore_n (lv' := [(1, .long (v45_1 ^^^ (qX0_mixed (Int32.toInt64 ((64 * (A 0 (Int32.toNatClampNeg (nI n45)))) + (nI n45)))))), (0, .ref o), (3, .int (nI n45))]) hx hb dX0_key_77 rfl hl (by decide) rfl (fun ls hl => ?_)
            refine lv_iinc (v := (nI (n45 + 1))) (lv' := [(3, .int (nI (n45 + 1))), (1, .long (v45_1 ^^^ (qX0_mixed (Int32.toInt64 ((64 * (A 0 (Int32.toNatClampNeg (nI n45)))) + (nI n45)))))), (0, .ref o)]) hx hb dX0_key_78 hl (k := 2) rfl (nI_1 _) (by decide) rfl (fun ls hl => ?_)
            refine lv_goto (tgt := 45) hx hb dX0_key_81 (by decide) ?_
            exact ih (n45 + 1) (v45_1 ^^^ (qX0_mixed (Int32.toInt64 ((64 * (A 0 (Int32.toNatClampNeg (nI n45)))) + (nI n45))))) _ _ ls (by omega) hP hD hS (lv_sub hl [2, 1, 0] rfl) hR
    exact hw45 64 0 v43_1 _ _ ls (by omega) hP hD hS (lv_sub hl [1, 2, 0] rfl) hR
  refine lv_icmp_ne (tgt := 43) hx hb dX0_key_31 (by decide) (fun c31 => ?_) (fun c31 => ?_)
  · have hR := hR.trans (if_pos c31)
    exact hj43 ((qX0_mixed (Int32.toInt64 (900 + (F 2)))) ^^^ (qX0_mixed (Int32.toInt64 (1000 + (F 3))))) _ _ ls hP hD hS (lv_sub hl [1, 0] rfl) hR
  · have hR := hR.trans (if_neg (fun z => z c31))
    refine lv_lload_n hx hb dX0_key_34 rfl (lv_at hl 0 rfl) ?_
    refine lv_ldc2 (v := 2000) hx hb hown (hts _ kX0_key_3) dX0_key_35 ?_
    refine cSl ⟨hx, hb, hml, hown, hts⟩ (mX0_mixed l D 2000 _ rfl) (va_cwS 1 hts gX0_key_X0_mixed rfl rfl rfl nX0_mixed ⟨Nat.le_of_ble_eq_true rfl, Nat.le_of_ble_eq_true rfl⟩) rfl hl.1 rfl (Nat.le_of_ble_eq_true rfl) dX0_key_38 ⟨Nat.zero_le _, Nat.zero_le _⟩ hK hP hS hA (fun H locs hP hS => ?_)
    refine lv_lxor hx hb dX0_key_41 ?_
    refine lv_lstore_n (lv' := [(1, .long (((qX0_mixed (Int32.toInt64 (900 + (F 2)))) ^^^ (qX0_mixed (Int32.toInt64 (1000 + (F 3))))) ^^^ (qX0_mixed 2000))), (0, .ref o)]) hx hb dX0_key_42 rfl hl (by decide) rfl (fun ls hl => ?_)
    exact hj43 (((qX0_mixed (Int32.toInt64 (900 + (F 2)))) ^^^ (qX0_mixed (Int32.toInt64 (1000 + (F 3))))) ^^^ (qX0_mixed 2000)) _ _ ls hP hD hS (lv_sub hl [1, 0] rfl) hR
def qX0_look (F : Nat → Int32) (A : Nat → Nat → Int32) (p1 : Int32) : Int32 := (if p1 = 0 then (F 1) else (if p1 = 1 then (F 2) else (if p1 = 2 then (F 3) else (if p1 = 3 then (F 4) else (if p1 = 4 then (F 5) else (if p1 = 5 then (qX0_piecesOnBoard F A) else (if p1 = 6 then (F 6) else (if p1 = 7 then (qX0_material F A 0) else (if p1 = 8 then (qX0_material F A 1) else (-1))))))))))
abbrev rmX0_look : Room := { frames := 2, cells := 0, slots := 0, locals := 44 }
theorem nX0_look : yX0_look.cls = RX0 ∧ yX0_look.cls ≠ "java/lang/invoke/MethodHandle" ∧ yX0_look.cls ≠ "java/lang/invoke/VarHandle" ∧ (parseMethodDescriptor yX0_look.desc).map (fun d => d.parameters.length) = some 1 := by decide +kernel
theorem in_X0_look : ∀ w ∈ wsX00, w ∈ wsX0_look := fun w h => by
  unfold wsX0_look
  exact List.mem_cons_of_mem _ (List.mem_append_right _ h)
theorem kX0_look_0 : Cond.fieldLink RX0 82 "Board" "side" "I" ∈ wsX0_look := by decide +kernel
theorem kX0_look_1 : Cond.fieldLink RX0 41 "Board" "rights" "I" ∈ wsX0_look := by decide +kernel
theorem kX0_look_2 : Cond.fieldLink RX0 85 "Board" "passing" "I" ∈ wsX0_look := by decide +kernel
theorem kX0_look_3 : Cond.fieldLink RX0 92 "Board" "half" "I" ∈ wsX0_look := by decide +kernel
theorem kX0_look_4 : Cond.fieldLink RX0 95 "Board" "full" "I" ∈ wsX0_look := by decide +kernel
theorem kX0_look_5 : Cond.fieldLink RX0 127 "Board" "made" "I" ∈ wsX0_look := by decide +kernel
set_option maxHeartbeats 4000000 in
set_option maxRecDepth 100000 in
theorem mX0_look (l : Launch) (D : va_G) (cI : ClassId) (o : Nat) (h : Nat → Nat) (F : Nat → Int32) (A : Nat → Nat → Int32) (p1 : Int32) (r0 : Int32) (hR : r0 = qX0_look F A p1) : cMi l yX0_look wsX0_look rmX0_look D [(cI, .int)] (wB cI o h F A) [.ref o, .int p1] r0 (wB cI o h F A) := by
  intro sz
  refine cMet_of (Qc := fun AA => cQi D [(cI, .int)] r0 (wB cI o h F A) AA) (cc := cX0_look) (maxL := 2) (ret := (some .int)) (by decide) rfl (Nat.le_of_ble_eq_true rfl) ?_ sz
  intro p e s m below meth c AA ls hx hb hr hts hown hml hlk hA hK hP hD hS hl
  have hown : s.vm.findClass RX0 = some m.cls := hown
  have hl : lv_has ls 2 [(0, .ref o), (1, .int p1)] := hl
  rw [qX0_look] at hR
  refine lv_iload_n hx hb dX0_look_0 rfl (lv_at hl 1 rfl) ?_
  by_cases c1_0 : p1 = 0
  · refine lv_tableIn (off := 51) (tgt := 52) hx hb dX0_look_1 (by rw [c1_0]; decide) (by rw [c1_0]; decide) (by rw [c1_0]; rfl) (by decide) ?_
    have hR := hR.trans (if_pos c1_0)
    refine lv_aload_n hx hb dX0_look_52 rfl (lv_at hl 0 rfl) ?_
    refine gB hx hb hts in_X0_look hown hK hP 1 (by decide) rfl kX0_look_0 dX0_look_53 ?_
    exact cRi hx hb hr hlk hK hP hD hS hR.symm dX0_look_56
  have hR := hR.trans (if_neg c1_0)
  by_cases c1_1 : p1 = 1
  · refine lv_tableIn (off := 56) (tgt := 57) hx hb dX0_look_1 (by rw [c1_1]; decide) (by rw [c1_1]; decide) (by rw [c1_1]; rfl) (by decide) ?_
    have hR := hR.trans (if_pos c1_1)
    refine lv_aload_n hx hb dX0_look_57 rfl (lv_at hl 0 rfl) ?_
    refine gB hx hb hts in_X0_look hown hK hP 2 (by decide) rfl kX0_look_1 dX0_look_58 ?_
    exact cRi hx hb hr hlk hK hP hD hS hR.symm dX0_look_61
  have hR := hR.trans (if_neg c1_1)
  by_cases c1_2 : p1 = 2
  · refine lv_tableIn (off := 61) (tgt := 62) hx hb dX0_look_1 (by rw [c1_2]; decide) (by rw [c1_2]; decide) (by rw [c1_2]; rfl) (by decide) ?_
    have hR := hR.trans (if_pos c1_2)
    refine lv_aload_n hx hb dX0_look_62 rfl (lv_at hl 0 rfl) ?_
    refine gB hx hb hts in_X0_look hown hK hP 3 (by decide) rfl kX0_look_2 dX0_look_63 ?_
    exact cRi hx hb hr hlk hK hP hD hS hR.symm dX0_look_66
  have hR := hR.trans (if_neg c1_2)
  by_cases c1_3 : p1 = 3
  · refine lv_tableIn (off := 66) (tgt := 67) hx hb dX0_look_1 (by rw [c1_3]; decide) (by rw [c1_3]; decide) (by rw [c1_3]; rfl) (by decide) ?_
    have hR := hR.trans (if_pos c1_3)
    refine lv_aload_n hx hb dX0_look_67 rfl (lv_at hl 0 rfl) ?_
    refine gB hx hb hts in_X0_look hown hK hP 4 (by decide) rfl kX0_look_3 dX0_look_68 ?_
    exact cRi hx hb hr hlk hK hP hD hS hR.symm dX0_look_71
  have hR := hR.trans (if_neg c1_3)
  by_cases c1_4 : p1 = 4
  · refine lv_tableIn (off := 71) (tgt := 72) hx hb dX0_look_1 (by rw [c1_4]; decide) (by rw [c1_4]; decide) (by rw [c1_4]; rfl) (by decide) ?_
    have hR := hR.trans (if_pos c1_4)
    refine lv_aload_n hx hb dX0_look_72 rfl (lv_at hl 0 rfl) ?_
    refine gB hx hb hts in_X0_look hown hK hP 5 (by decide) rfl kX0_look_4 dX0_look_73 ?_
    exact cRi hx hb hr hlk hK hP hD hS hR.symm dX0_look_76
  have hR := hR.trans (if_neg c1_4)
  by_cases c1_5 : p1 = 5
  · refine lv_tableIn (off := 76) (tgt := 77) hx hb dX0_look_1 (by rw [c1_5]; decide) (by rw [c1_5]; decide) (by rw [c1_5]; rfl) (by decide) ?_
    have hR := hR.trans (if_pos c1_5)
    refine lv_aload_n hx hb dX0_look_77 rfl (lv_at hl 0 rfl) ?_
    refine cVi ⟨hx, hb, hml, hown, hts⟩ (mX0_piecesOnBoard l D cI o h F A  _ rfl) (cwV 0 hts gX0_look_X0_piecesOnBoard rfl rfl rfl nX0_piecesOnBoard ⟨Nat.le_of_ble_eq_true rfl, Nat.le_of_ble_eq_true rfl⟩) (va_recv hK hP (ci := 0) (q0 := 0) rfl rfl) rfl hl.1 rfl (Nat.le_of_ble_eq_true rfl) dX0_look_78 ⟨Nat.zero_le _, Nat.zero_le _⟩ hK hP hD hS hA (fun H locs hP hD hS => ?_)
    exact cRi hx hb hr hlk hK hP hD hS hR.symm dX0_look_81
  have hR := hR.trans (if_neg c1_5)
  by_cases c1_6 : p1 = 6
  · refine lv_tableIn (off := 81) (tgt := 82) hx hb dX0_look_1 (by rw [c1_6]; decide) (by rw [c1_6]; decide) (by rw [c1_6]; rfl) (by decide) ?_
    have hR := hR.trans (if_pos c1_6)
    refine lv_aload_n hx hb dX0_look_82 rfl (lv_at hl 0 rfl) ?_
    refine gB hx hb hts in_X0_look hown hK hP 6 (by decide) rfl kX0_look_5 dX0_look_83 ?_
    exact cRi hx hb hr hlk hK hP hD hS hR.symm dX0_look_86
  have hR := hR.trans (if_neg c1_6)
  by_cases c1_7 : p1 = 7
  · refine lv_tableIn (off := 86) (tgt := 87) hx hb dX0_look_1 (by rw [c1_7]; decide) (by rw [c1_7]; decide) (by rw [c1_7]; rfl) (by decide) ?_
    have hR := hR.trans (if_pos c1_7)
    refine lv_aload_n hx hb dX0_look_87 rfl (lv_at hl 0 rfl) ?_
    refine lv_iconst (v := 0) hx hb dX0_look_88 (by decide) ?_
    refine cVi ⟨hx, hb, hml, hown, hts⟩ (mX0_material l D cI o h F A 0 _ rfl) (cwV 1 hts gX0_look_X0_material rfl rfl rfl nX0_material ⟨Nat.le_of_ble_eq_true rfl, Nat.le_of_ble_eq_true rfl⟩) (va_recv hK hP (ci := 0) (q0 := 0) rfl rfl) rfl hl.1 rfl (Nat.le_of_ble_eq_true rfl) dX0_look_89 ⟨Nat.zero_le _, Nat.zero_le _⟩ hK hP hD hS hA (fun H locs hP hD hS => ?_)
    exact cRi hx hb hr hlk hK hP hD hS hR.symm dX0_look_92
  have hR := hR.trans (if_neg c1_7)
  by_cases c1_8 : p1 = 8
  · refine lv_tableIn (off := 92) (tgt := 93) hx hb dX0_look_1 (by rw [c1_8]; decide) (by rw [c1_8]; decide) (by rw [c1_8]; rfl) (by decide) ?_
    have hR := hR.trans (if_pos c1_8)
    refine lv_aload_n hx hb dX0_look_93 rfl (lv_at hl 0 rfl) ?_
    refine lv_iconst (v := 1) hx hb dX0_look_94 (by decide) ?_
    refine cVi ⟨hx, hb, hml, hown, hts⟩ (mX0_material l D cI o h F A 1 _ rfl) (cwV 1 hts gX0_look_X0_material rfl rfl rfl nX0_material ⟨Nat.le_of_ble_eq_true rfl, Nat.le_of_ble_eq_true rfl⟩) (va_recv hK hP (ci := 0) (q0 := 0) rfl rfl) rfl hl.1 rfl (Nat.le_of_ble_eq_true rfl) dX0_look_95 ⟨Nat.zero_le _, Nat.zero_le _⟩ hK hP hD hS hA (fun H locs hP hD hS => ?_)
    exact cRi hx hb hr hlk hK hP hD hS hR.symm dX0_look_98
  have hR := hR.trans (if_neg c1_8)
  refine lv_tableOut (tgt := 99) hx hb dX0_look_1 (by have z0 := lv_neT (a := 0) c1_0 rfl; have z1 := lv_neT (a := 1) c1_1 rfl; have z2 := lv_neT (a := 2) c1_2 rfl; have z3 := lv_neT (a := 3) c1_3 rfl; have z4 := lv_neT (a := 4) c1_4 rfl; have z5 := lv_neT (a := 5) c1_5 rfl; have z6 := lv_neT (a := 6) c1_6 rfl; have z7 := lv_neT (a := 7) c1_7 rfl; have z8 := lv_neT (a := 8) c1_8 rfl; omega) (by decide) ?_
  refine lv_iconst (v := (-1)) hx hb dX0_look_99 (by decide) ?_
  exact cRi hx hb hr hlk hK hP hD hS hR.symm dX0_look_100
