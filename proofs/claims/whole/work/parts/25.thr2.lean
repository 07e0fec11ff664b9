def qX0_begin_w6 (F : Nat → Int32) : Nat → Nat → (Nat → Nat → Int32) → tFA
  | 0, n, A => ((uf F 2 15), A)
  | k + 1, n, A => (qX0_begin_w6 F k (n + 1) (ua (ua (ua (ua A 0 (Int32.toNatClampNeg (nI n)) (qX0_pieceOf (rkF (Int32.toNatClampNeg (nI n))) 0)) 0 (Int32.toNatClampNeg (8 + (nI n))) (qX0_pieceOf 1 0)) 0 (Int32.toNatClampNeg (48 + (nI n))) (qX0_pieceOf 1 1)) 0 (Int32.toNatClampNeg (56 + (nI n))) (qX0_pieceOf (rkF (Int32.toNatClampNeg (nI n))) 1)))
def qX0_begin (F : Nat → Int32) (A : Nat → Nat → Int32)  : tFA := (qX0_begin_w6 ((qX0_setAllAsAtFirst F A).1) 8 0 ((qX0_setAllAsAtFirst F A).2))
abbrev rmX0_begin : Room := { frames := 2, cells := 0, slots := 0, locals := 41 }
theorem nX0_begin : yX0_begin.cls = RX0 ∧ yX0_begin.cls ≠ "java/lang/invoke/MethodHandle" ∧ yX0_begin.cls ≠ "java/lang/invoke/VarHandle" ∧ (parseMethodDescriptor yX0_begin.desc).map (fun d => d.parameters.length) = some 0 := by decide +kernel
theorem in_X0_begin : ∀ w ∈ wsX00, w ∈ wsX0_begin := fun w h => by
  unfold wsX0_begin
  exact List.mem_cons_of_mem _ (List.mem_append_right _ h)
theorem kX0_begin_0 : Cond.fieldLink RX0 34 "Board" "FIRST_RANK" "[I" ∈ wsX0_begin := by decide +kernel
theorem kX0_begin_1 : Cond.fieldLink RX0 41 "Board" "rights" "I" ∈ wsX0_begin := by decide +kernel
theorem kX0_begin_2 : Cond.fieldLink RX0 9 "Board" "board" "[I" ∈ wsX0_begin := by decide +kernel
set_option maxHeartbeats 4000000 in
set_option maxRecDepth 100000 in
theorem mX0_begin (l : Launch) (D : va_G) (cI : ClassId) (o : Nat) (h : Nat → Nat) (F : Nat → Int32) (A : Nat → Nat → Int32)  (r0 : tFA) (hR : r0 = qX0_begin F A) : eMv l yX0_begin wsX0_begin rmX0_begin D [(cI, .int)] (wB cI o h F A) [.ref o] (wB cI o h r0.1 r0.2) := by
  intro sz
  refine eMet_of (Qc := fun AA => cQv D [(cI, .int)] (wB cI o h r0.1 r0.2) AA) (cc := cX0_begin) (maxL := 2) (ret := none) (by decide) rfl (Nat.le_of_ble_eq_true rfl) ?_ sz
  intro p e s m below meth c AA ls hx hb hr hts hown hml hlk hA hK hP hD hS hl hE
  have hown : s.vm.findClass RX0 = some m.cls := hown
  have hl : lv_has ls 2 [(0, .ref o)] := hl
  rw [qX0_begin] at hR
  obtain ⟨tF, hZ, hTF⟩ := hE.2.2.2.2.2.2
  refine lv_aload_n hx hb dX0_begin_0 rfl (lv_at hl 0 rfl) ?_
  refine cVv ⟨hx, hb, hml, hown, hts⟩ (mX0_setAllAsAtFirst l D cI o h F A  _ rfl) (cwV 0 hts gX0_begin_X0_setAllAsAtFirst rfl rfl rfl nX0_setAllAsAtFirst ⟨Nat.le_of_ble_eq_true rfl, Nat.le_of_ble_eq_true rfl⟩) (va_recv hK hP (ci := 0) (q0 := 0) rfl rfl) rfl hl.1 rfl (Nat.le_of_ble_eq_true rfl) dX0_begin_1 ⟨Nat.zero_le _, Nat.zero_le _⟩ hK hP hD hS hA (fun H locs hP hD hS => ?_)
  refine lv_iconst (v := 0) hx hb dX0_begin_4 (by decide) ?_
  refine lv_istore_n (lv' := [(1, .int 0), (0, .ref o)]) hx hb dX0_begin_5 rfl hl (by decide) rfl (fun ls hl => ?_)
  have hw6 : ∀ (k n6 : Nat) (A6 : Nat → Nat → Int32) (H : Heap) (locs : List Loc) (ls : Array Slot), n6 + k = 8 → va_P D vwCl (wB cI o h ((qX0_setAllAsAtFirst F A).1) A6) H → va_D AA (wB cI o h ((qX0_setAllAsAtFirst F A).1) A6) → va_S AA s.heap H locs → lv_has ls 2 [(0, .ref o), (1, .int (nI n6))] → r0 = qX0_begin_w6 ((qX0_setAllAsAtFirst F A).1) k n6 A6 → W p l e rmX0_begin s m [.ref o].toArray below meth c H locs 0 0 (MQ below (cQv D [(cI, .int)] (wB cI o h r0.1 r0.2) AA) [.ref o].toArray s 0 0 AA) (F0 m 6 ls []) := by
    intro k
    induction k with
    | zero =>
      intro n6 A6 H locs ls hn  hP hD hS hl hR
      rw [qX0_begin_w6] at hR
      refine lv_iload_n hx hb dX0_begin_6 rfl (lv_at hl 1 rfl) ?_
      refine va_gets (C := RX0) (ref := "Board") hx hb hZ hS hown (hts _ kX0_begin_0) (fun _ h9 => h9) dX0_begin_7 ?_
      refine va_tlen (v := 8) hx hb hTF hS rfl dX0_begin_10 ?_
      refine lv_icmp_ge (tgt := 81) hx hb dX0_begin_11 (by decide) (fun c11 => ?_) (fun c11 => ?_)
      · skip
        refine lv_aload_n hx hb dX0_begin_81 rfl (lv_at hl 0 rfl) ?_
        refine lv_bipush (v := 15) hx hb dX0_begin_82 (by decide) ?_
        refine pB2 hx hb hts in_X0_begin hown hK hP hD hS kX0_begin_1 dX0_begin_84 (fun H locs hP hD hS => ?_)
        subst hR
        exact cRv hx hb hr hlk hK hP hD hS dX0_begin_87
      · exact absurd (nI_le (a := 8) (b := n6) (by omega) (by omega)) c11
    | succ k ih =>
      intro n6 A6 H locs ls hn  hP hD hS hl hR
      rw [qX0_begin_w6] at hR
      refine lv_iload_n hx hb dX0_begin_6 rfl (lv_at hl 1 rfl) ?_
      refine va_gets (C := RX0) (ref := "Board") hx hb hZ hS hown (hts _ kX0_begin_0) (fun _ h9 => h9) dX0_begin_7 ?_
      refine va_tlen (v := 8) hx hb hTF hS rfl dX0_begin_10 ?_
      refine lv_icmp_ge (tgt := 81) hx hb dX0_begin_11 (by decide) (fun c11 => ?_) (fun c11 => ?_)
      · exact absurd c11 (nI_ge (a := n6) (b := 8) (by omega) (by omega))
      · skip
        refine lv_aload_n hx hb dX0_begin_14 rfl (lv_at hl 0 rfl) ?_
        refine gB hx hb hts in_X0_begin hown hK hP 0 (by decide) rfl kX0_begin_2 dX0_begin_15 ?_
        refine lv_iload_n hx hb dX0_begin_18 rfl (lv_at hl 1 rfl) ?_
        refine va_gets (C := RX0) (ref := "Board") hx hb hZ hS hown (hts _ kX0_begin_0) (fun _ h9 => h9) dX0_begin_19 ?_
        refine lv_iload_n hx hb dX0_begin_22 rfl (lv_at hl 1 rfl) ?_
        refine va_ti (v := .int (rkF (Int32.toNatClampNeg (nI n6)))) hx hb hTF hS (vp_in_nI (by omega) (by decide)) rfl dX0_begin_23 ?_
        refine lv_iconst (v := 0) hx hb dX0_begin_24 (by decide) ?_
        refine cSi ⟨hx, hb, hml, hown, hts⟩ (mX0_pieceOf l D (rkF (Int32.toNatClampNeg (nI n6))) 0 _ rfl) (va_cwS 2 hts gX0_begin_X0_pieceOf rfl rfl rfl nX0_pieceOf ⟨Nat.le_of_ble_eq_true rfl, Nat.le_of_ble_eq_true rfl⟩) rfl hl.1 rfl (Nat.le_of_ble_eq_true rfl) dX0_begin_25 ⟨Nat.zero_le _, Nat.zero_le _⟩ hK hP hS hA (fun H locs hP hS => ?_)
        refine sB0 hx hb hK hP hD hS (vp_in_nI (by omega) (by decide)) dX0_begin_28 (fun H locs hP hD hS => ?_)
        refine lv_aload_n hx hb dX0_begin_29 rfl (lv_at hl 0 rfl) ?_
        refine gB hx hb hts in_X0_begin hown hK hP 0 (by decide) rfl kX0_begin_2 dX0_begin_30 ?_
        refine lv_bipush (v := 8) hx hb dX0_begin_33 (by decide) ?_
        refine lv_iload_n hx hb dX0_begin_35 rfl (lv_at hl 1 rfl) ?_
        refine lv_iadd hx hb dX0_begin_36 ?_
        refine lv_iconst (v := 1) hx hb dX0_begin_37 (by decide) ?_
        refine lv_iconst (v := 0) hx hb dX0_begin_38 (by decide) ?_
        refine cSi ⟨hx, hb, hml, hown, hts⟩ (mX0_pieceOf l D 1 0 _ rfl) (va_cwS 2 hts gX0_begin_X0_pieceOf rfl rfl rfl nX0_pieceOf ⟨Nat.le_of_ble_eq_true rfl, Nat.le_of_ble_eq_true rfl⟩) rfl hl.1 rfl (Nat.le_of_ble_eq_true rfl) dX0_begin_39 ⟨Nat.zero_le _, Nat.zero_le _⟩ hK hP hS hA (fun H locs hP hS => ?_)
        refine sB0 hx hb hK hP hD hS (in8 8 (by omega)) dX0_begin_42 (fun H locs hP hD hS => ?_)
        refine lv_aload_n hx hb dX0_begin_43 rfl (lv_at hl 0 rfl) ?_
        refine gB hx hb hts in_X0_begin hown hK hP 0 (by decide) rfl kX0_begin_2 dX0_begin_44 ?_
        refine lv_bipush (v := 48) hx hb dX0_begin_47 (by decide) ?_
        refine lv_iload_n hx hb dX0_begin_49 rfl (lv_at hl 1 rfl) ?_
        refine lv_iadd hx hb dX0_begin_50 ?_
        refine lv_iconst (v := 1) hx hb dX0_begin_51 (by decide) ?_
        refine lv_iconst (v := 1) hx hb dX0_begin_52 (by decide) ?_
        refine cSi ⟨hx, hb, hml, hown, hts⟩ (mX0_pieceOf l D 1 1 _ rfl) (va_cwS 2 hts gX0_begin_X0_pieceOf rfl rfl rfl nX0_pieceOf ⟨Nat.le_of_ble_eq_true rfl, Nat.le_of_ble_eq_true rfl⟩) rfl hl.1 rfl (Nat.le_of_ble_eq_true rfl) dX0_begin_53 ⟨Nat.zero_le _, Nat.zero_le _⟩ hK hP hS hA (fun H locs hP hS => ?_)
        refine sB0 hx hb hK hP hD hS (in8 48 (by omega)) dX0_begin_56 (fun H locs hP hD hS => ?_)
        refine lv_aload_n hx hb dX0_begin_57 rfl (lv_at hl 0 rfl) ?_
        refine gB hx hb hts in_X0_begin hown hK hP 0 (by decide) rfl kX0_begin_2 dX0_begin_58 ?_
        refine lv_bipush (v := 56) hx hb dX0_begin_61 (by decide) ?_
        refine lv_iload_n hx hb dX0_begin_63 rfl (lv_at hl 1 rfl) ?_
        refine lv_iadd hx hb dX0_begin_64 ?_
        refine va_gets (C := RX0) (ref := "Board") hx hb hZ hS hown (hts _ kX0_begin_0) (fun _ h9 => h9) dX0_begin_65 ?_
        refine lv_iload_n hx hb dX0_begin_68 rfl (lv_at hl 1 rfl) ?_
        refine va_ti (v := .int (rkF (Int32.toNatClampNeg (nI n6)))) hx hb hTF hS (vp_in_nI (by omega) (by decide)) rfl dX0_begin_69 ?_
        refine lv_iconst (v := 1) hx hb dX0_begin_70 (by decide) ?_
        refine cSi ⟨hx, hb, hml, hown, hts⟩ (mX0_pieceOf l D (rkF (Int32.toNatClampNeg (nI n6))) 1 _ rfl) (va_cwS 2 hts gX0_begin_X0_pieceOf rfl rfl rfl nX0_pieceOf ⟨Nat.le_of_ble_eq_true rfl, Nat.le_of_ble_eq_true rfl⟩) rfl hl.1 rfl (Nat.le_of_ble_eq_true rfl) dX0_begin_71 ⟨Nat.zero_le _, Nat.zero_le _⟩ hK hP hS hA (fun H locs hP hS => ?_)
        refine sB0 hx hb hK hP hD hS (in8 56 (by omega)) dX0_begin_74 (fun H locs hP hD hS => ?_)
        refine lv_iinc (v := (nI (n6 + 1))) (lv' := [(1, .int (nI (n6 + 1))), (0, .ref o)]) hx hb dX0_begin_75 hl (k := 1) rfl (nI_1 _) (by decide) rfl (fun ls hl => ?_)
        refine lv_goto (tgt := 6) hx hb dX0_begin_78 (by decide) ?_
        exact ih (n6 + 1) (ua (ua (ua (ua A6 0 (Int32.toNatClampNeg (nI n6)) (qX0_pieceOf (rkF (Int32.toNatClampNeg (nI n6))) 0)) 0 (Int32.toNatClampNeg (8 + (nI n6))) (qX0_pieceOf 1 0)) 0 (Int32.toNatClampNeg (48 + (nI n6))) (qX0_pieceOf 1 1)) 0 (Int32.toNatClampNeg (56 + (nI n6))) (qX0_pieceOf (rkF (Int32.toNatClampNeg (nI n6))) 1)) _ _ ls (by omega) hP hD hS (lv_sub hl [1, 0] rfl) hR
  exact hw6 8 0 ((qX0_setAllAsAtFirst F A).2) _ _ ls (by omega) hP hD hS (lv_sub hl [1, 0] rfl) hR
def qX0_unmake_j109 (F : Nat → Int32) (A : Nat → Nat → Int32) (x1 : Int32) (s0 : Int32) : Int32 × Int32 × tFA := (0, x1, (qX0_carryBack (uf F 5 s0) A x1 (A 8 (Int32.toNatClampNeg (F 6))) (A 9 (Int32.toNatClampNeg (F 6)))).1, (qX0_carryBack (uf F 5 s0) A x1 (A 8 (Int32.toNatClampNeg (F 6))) (A 9 (Int32.toNatClampNeg (F 6)))).2)
def qX0_unmake (F : Nat → Int32) (A : Nat → Nat → Int32)  : Int32 × Int32 × tFA := (if 0 < (F 6) then (if ¬ (qX0_otherThan (F 1)) = 1 then (qX0_unmake_j109 (uf (uf (uf (uf (uf F 6 ((F 6) - 1)) 2 (A 10 (Int32.toNatClampNeg ((F 6) - 1)))) 3 (A 11 (Int32.toNatClampNeg ((F 6) - 1)))) 4 (A 12 (Int32.toNatClampNeg ((F 6) - 1)))) 1 (qX0_otherThan (F 1))) A (A 7 (Int32.toNatClampNeg ((F 6) - 1))) (F 5)) else (qX0_unmake_j109 (uf (uf (uf (uf (uf F 6 ((F 6) - 1)) 2 (A 10 (Int32.toNatClampNeg ((F 6) - 1)))) 3 (A 11 (Int32.toNatClampNeg ((F 6) - 1)))) 4 (A 12 (Int32.toNatClampNeg ((F 6) - 1)))) 1 (qX0_otherThan (F 1))) A (A 7 (Int32.toNatClampNeg ((F 6) - 1))) ((F 5) - 1))) else (3, 0, F, A))
abbrev rmX0_unmake : Room := { frames := 6, cells := 1, slots := 6, locals := 90 }
theorem nX0_unmake : yX0_unmake.cls = RX0 ∧ yX0_unmake.cls ≠ "java/lang/invoke/MethodHandle" ∧ yX0_unmake.cls ≠ "java/lang/invoke/VarHandle" ∧ (parseMethodDescriptor yX0_unmake.desc).map (fun d => d.parameters.length) = some 0 := by decide +kernel
theorem in_X0_unmake : ∀ w ∈ wsX00, w ∈ wsX0_unmake := fun w h => by
  unfold wsX0_unmake
  exact List.mem_cons_of_mem _ (List.mem_append_left _ (List.mem_append_right _ h))
theorem kX0_unmake_0 : Cond.fieldLink RX0 127 "Board" "made" "I" ∈ wsX0_unmake := by decide +kernel
theorem kX0_unmake_1 : Cond.fieldLink RX0 13 "Board" "moves" "[I" ∈ wsX0_unmake := by decide +kernel
theorem kX0_unmake_2 : Cond.fieldLink RX0 22 "Board" "rightsBefore" "[I" ∈ wsX0_unmake := by decide +kernel
theorem kX0_unmake_3 : Cond.fieldLink RX0 41 "Board" "rights" "I" ∈ wsX0_unmake := by decide +kernel
theorem kX0_unmake_4 : Cond.fieldLink RX0 25 "Board" "passingBefore" "[I" ∈ wsX0_unmake := by decide +kernel
theorem kX0_unmake_5 : Cond.fieldLink RX0 85 "Board" "passing" "I" ∈ wsX0_unmake := by decide +kernel
theorem kX0_unmake_6 : Cond.fieldLink RX0 28 "Board" "halfBefore" "[I" ∈ wsX0_unmake := by decide +kernel
theorem kX0_unmake_7 : Cond.fieldLink RX0 92 "Board" "half" "I" ∈ wsX0_unmake := by decide +kernel
theorem kX0_unmake_8 : Cond.fieldLink RX0 82 "Board" "side" "I" ∈ wsX0_unmake := by decide +kernel
theorem kX0_unmake_9 : Cond.fieldLink RX0 95 "Board" "full" "I" ∈ wsX0_unmake := by decide +kernel
theorem kX0_unmake_10 : Cond.fieldLink RX0 16 "Board" "takenPieces" "[I" ∈ wsX0_unmake := by decide +kernel
theorem kX0_unmake_11 : Cond.fieldLink RX0 19 "Board" "takenSquares" "[I" ∈ wsX0_unmake := by decide +kernel
theorem kX0_unmake_12 : Cond.classLink RX0 65 "java/lang/IllegalStateException" ∈ wsX0_unmake := by decide +kernel
theorem kX0_unmake_13 : Cond.initialized "java/lang/IllegalStateException" ∈ wsX0_unmake := by decide +kernel
theorem xinX0_unmake_69 : ∀ w ∈ (vx_atS RX0 69 xIS xNames).filter goodWord, w ∈ wsX0_unmake := fun w h => by
  unfold wsX0_unmake
  exact List.mem_cons_of_mem _ (List.mem_append_right _ h)
set_option maxHeartbeats 4000000 in
set_option maxRecDepth 100000 in
theorem mX0_unmake (l : Launch) (D : va_G) (hst : l.stackTraces = false) (cI : ClassId) (o : Nat) (h : Nat → Nat) (F : Nat → Int32) (A : Nat → Nat → Int32)  (hm : ∃ k : Nat, k ≤ 600 ∧ F 6 = nI k) (hq : ∀ k : Nat, k < 600 → F 6 = nI (k + 1) → vp_in (A 9 k) 64) (r0 : Int32 × Int32 × tFA) (hR : r0 = qX0_unmake F A) : xMi l yX0_unmake wsX0_unmake rmX0_unmake D [(cI, .int)] (wB cI o h F A) [.ref o] r0.1 r0.2.1 (wB cI o h r0.2.2.1 r0.2.2.2) := by
  intro sz
  refine xMet_of (Qc := fun AA => xQi D [(cI, .int)] r0.1 r0.2.1 (wB cI o h r0.2.2.1 r0.2.2.2) AA) (XC := fun AA => xX D [(cI, .int)] r0.1 (wB cI o h F A) AA) (cc := cX0_unmake) (maxL := 2) (ret := (some .int)) (by decide) rfl (Nat.le_of_ble_eq_true rfl) ?_ sz
  intro p e s m below meth c AA ls hx hb hr hts hown hml hlk hA hK hP hD hS hl hno hE
  have hown : s.vm.findClass RX0 = some m.cls := hown
  have hl : lv_has ls 2 [(0, .ref o)] := hl
  rw [qX0_unmake] at hR
  refine lv_aload_n hx hb dX0_unmake_0 rfl (lv_at hl 0 rfl) ?_
  refine gB hx hb hts in_X0_unmake hown hK hP 6 (by decide) rfl kX0_unmake_0 dX0_unmake_1 ?_
  refine lv_if_gt (tgt := 17) hx hb dX0_unmake_4 (by decide) (fun c4 => ?_) (fun c4 => ?_)
  · have hR := hR.trans (if_pos c4)
    obtain ⟨k0, hk0, e6⟩ := mdPos hm c4
    have hmd : ∃ k : Nat, k < 600 ∧ F 6 - 1 = nI k := ⟨k0, hk0, by rw [e6]; exact nI_pred k0⟩
    refine lv_aload_n hx hb dX0_unmake_17 rfl (lv_at hl 0 rfl) ?_
    refine lv_dup hx hb dX0_unmake_18 rfl ?_
    refine gB hx hb hts in_X0_unmake hown hK hP 6 (by decide) rfl kX0_unmake_0 dX0_unmake_19 ?_
    refine lv_iconst (v := 1) hx hb dX0_unmake_22 (by decide) ?_
    refine lv_isub hx hb dX0_unmake_23 ?_
    refine pB6 hx hb hts in_X0_unmake hown hK hP hD hS kX0_unmake_0 dX0_unmake_24 (fun H locs hP hD hS => ?_)
    refine lv_aload_n hx hb dX0_unmake_27 rfl (lv_at hl 0 rfl) ?_
    refine gB hx hb hts in_X0_unmake hown hK hP 7 (by decide) rfl kX0_unmake_1 dX0_unmake_28 ?_
    refine lv_aload_n hx hb dX0_unmake_31 rfl (lv_at hl 0 rfl) ?_
    refine gB hx hb hts in_X0_unmake hown hK hP 6 (by decide) rfl kX0_unmake_0 dX0_unmake_32 ?_
    refine va_iald (f := A 7) hx hb hK hP 2 0 rfl rfl (inMd hmd) dX0_unmake_35 ?_
    refine lv_istore_n (lv' := [(1, .int (A 7 (Int32.toNatClampNeg ((F 6) - 1)))), (0, .ref o)]) hx hb dX0_unmake_36 rfl hl (by decide) rfl (fun ls hl => ?_)
    refine lv_aload_n hx hb dX0_unmake_37 rfl (lv_at hl 1 rfl) ?_
    refine lv_aload_n hx hb dX0_unmake_38 rfl (lv_at hl 1 rfl) ?_
    refine gB hx hb hts in_X0_unmake hown hK hP 10 (by decide) rfl kX0_unmake_2 dX0_unmake_39 ?_
    refine lv_aload_n hx hb dX0_unmake_42 rfl (lv_at hl 1 rfl) ?_
    refine gB hx hb hts in_X0_unmake hown hK hP 6 (by decide) rfl kX0_unmake_0 dX0_unmake_43 ?_
    refine va_iald (f := A 10) hx hb hK hP 5 0 rfl rfl (inMd hmd) dX0_unmake_46 ?_
    refine pB2 hx hb hts in_X0_unmake hown hK hP hD hS kX0_unmake_3 dX0_unmake_47 (fun H locs hP hD hS => ?_)
    refine lv_aload_n hx hb dX0_unmake_50 rfl (lv_at hl 1 rfl) ?_
    refine lv_aload_n hx hb dX0_unmake_51 rfl (lv_at hl 1 rfl) ?_
    refine gB hx hb hts in_X0_unmake hown hK hP 11 (by decide) rfl kX0_unmake_4 dX0_unmake_52 ?_
    refine lv_aload_n hx hb dX0_unmake_55 rfl (lv_at hl 1 rfl) ?_
    refine gB hx hb hts in_X0_unmake hown hK hP 6 (by decide) rfl kX0_unmake_0 dX0_unmake_56 ?_
    refine va_iald (f := A 11) hx hb hK hP 6 0 rfl rfl (inMd hmd) dX0_unmake_59 ?_
    refine pB3 hx hb hts in_X0_unmake hown hK hP hD hS kX0_unmake_5 dX0_unmake_60 (fun H locs hP hD hS => ?_)
    refine lv_aload_n hx hb dX0_unmake_63 rfl (lv_at hl 1 rfl) ?_
    refine lv_aload_n hx hb dX0_unmake_64 rfl (lv_at hl 1 rfl) ?_
    refine gB hx hb hts in_X0_unmake hown hK hP 12 (by decide) rfl kX0_unmake_6 dX0_unmake_65 ?_
    refine lv_aload_n hx hb dX0_unmake_68 rfl (lv_at hl 1 rfl) ?_
    refine gB hx hb hts in_X0_unmake hown hK hP 6 (by decide) rfl kX0_unmake_0 dX0_unmake_69 ?_
    refine va_iald (f := A 12) hx hb hK hP 7 0 rfl rfl (inMd hmd) dX0_unmake_72 ?_
    refine pB4 hx hb hts in_X0_unmake hown hK hP hD hS kX0_unmake_7 dX0_unmake_73 (fun H locs hP hD hS => ?_)
    refine lv_aload_n hx hb dX0_unmake_76 rfl (lv_at hl 1 rfl) ?_
    refine lv_aload_n hx hb dX0_unmake_77 rfl (lv_at hl 1 rfl) ?_
    refine gB hx hb hts in_X0_unmake hown hK hP 1 (by decide) rfl kX0_unmake_8 dX0_unmake_78 ?_
    refine cSi ⟨hx, hb, hml, hown, hts⟩ (mX0_otherThan l D (F 1) _ rfl) (va_cwS 1 hts gX0_unmake_X0_otherThan rfl rfl rfl nX0_otherThan ⟨Nat.le_of_ble_eq_true rfl, Nat.le_of_ble_eq_true rfl⟩) rfl hl.1 rfl (Nat.le_of_ble_eq_true rfl) dX0_unmake_81 ⟨Nat.zero_le _, Nat.zero_le _⟩ hK hP hS hA (fun H locs hP hS => ?_)
    refine pB1 hx hb hts in_X0_unmake hown hK hP hD hS kX0_unmake_8 dX0_unmake_84 (fun H locs hP hD hS => ?_)
    refine lv_aload_n hx hb dX0_unmake_87 rfl (lv_at hl 1 rfl) ?_
    refine lv_aload_n hx hb dX0_unmake_88 rfl (lv_at hl 1 rfl) ?_
    refine gB hx hb hts in_X0_unmake hown hK hP 1 (by decide) rfl kX0_unmake_8 dX0_unmake_89 ?_
    refine lv_iconst (v := 1) hx hb dX0_unmake_92 (by decide) ?_
    have hj109 : ∀ (s109_0 : Int32) (H : Heap) (locs : List Loc) (ls : Array Slot), va_P D vwCl (wB cI o h (uf (uf (uf (uf (uf F 6 ((F 6) - 1)) 2 (A 10 (Int32.toNatClampNeg ((F 6) - 1)))) 3 (A 11 (Int32.toNatClampNeg ((F 6) - 1)))) 4 (A 12 (Int32.toNatClampNeg ((F 6) - 1)))) 1 (qX0_otherThan (F 1))) A) H → va_D AA (wB cI o h (uf (uf (uf (uf (uf F 6 ((F 6) - 1)) 2 (A 10 (Int32.toNatClampNeg ((F 6) - 1)))) 3 (A 11 (Int32.toNatClampNeg ((F 6) - 1)))) 4 (A 12 (Int32.toNatClampNeg ((F 6) - 1)))) 1 (qX0_otherThan (F 1))) A) → va_S AA s.heap H locs → lv_has ls 2 [(0, .ref o), (1, .int (A 7 (Int32.toNatClampNeg ((F 6) - 1))))] → r0 = qX0_unmake_j109 (uf (uf (uf (uf (uf F 6 ((F 6) - 1)) 2 (A 10 (Int32.toNatClampNeg ((F 6) - 1)))) 3 (A 11 (Int32.toNatClampNeg ((F 6) - 1)))) 4 (A 12 (Int32.toNatClampNeg ((F 6) - 1)))) 1 (qX0_otherThan (F 1))) A (A 7 (Int32.toNatClampNeg ((F 6) - 1))) s109_0 → W p l e rmX0_unmake s m [.ref o].toArray below meth c H locs 0 0 (vx_MQ below (xQi D [(cI, .int)] r0.1 r0.2.1 (wB cI o h r0.2.2.1 r0.2.2.2) AA) (xX D [(cI, .int)] r0.1 (wB cI o h F A) AA) [.ref o].toArray s 1 6 AA) (F0 m 109 ls [.int s109_0, .ref o]) := by
      intro s109_0 H locs ls  hP hD hS hl hR
      rw [qX0_unmake_j109] at hR
      refine pB5 hx hb hts in_X0_unmake hown hK hP hD hS kX0_unmake_9 dX0_unmake_109 (fun H locs hP hD hS => ?_)
      refine lv_aload_n hx hb dX0_unmake_112 rfl (lv_at hl 0 rfl) ?_
      refine lv_iload_n hx hb dX0_unmake_113 rfl (lv_at hl 1 rfl) ?_
      refine lv_aload_n hx hb dX0_unmake_114 rfl (lv_at hl 0 rfl) ?_
      refine gB hx hb hts in_X0_unmake hown hK hP 8 (by decide) rfl kX0_unmake_10 dX0_unmake_115 ?_
      refine lv_aload_n hx hb dX0_unmake_118 rfl (lv_at hl 0 rfl) ?_
      refine gB hx hb hts in_X0_unmake hown hK hP 6 (by decide) rfl kX0_unmake_0 dX0_unmake_119 ?_
      refine va_iald (f := A 8) hx hb hK hP 3 0 rfl rfl (inMd hmd) dX0_unmake_122 ?_
      refine lv_aload_n hx hb dX0_unmake_123 rfl (lv_at hl 0 rfl) ?_
      refine gB hx hb hts in_X0_unmake hown hK hP 9 (by decide) rfl kX0_unmake_11 dX0_unmake_124 ?_
      refine lv_aload_n hx hb dX0_unmake_127 rfl (lv_at hl 0 rfl) ?_
      refine gB hx hb hts in_X0_unmake hown hK hP 6 (by decide) rfl kX0_unmake_0 dX0_unmake_128 ?_
      refine va_iald (f := A 9) hx hb hK hP 4 0 rfl rfl (inMd hmd) dX0_unmake_131 ?_
      refine cVv ⟨hx, hb, hml, hown, hts⟩ (mX0_carryBack l D cI o h (uf (uf (uf (uf (uf (uf F 6 ((F 6) - 1)) 2 (A 10 (Int32.toNatClampNeg ((F 6) - 1)))) 3 (A 11 (Int32.toNatClampNeg ((F 6) - 1)))) 4 (A 12 (Int32.toNatClampNeg ((F 6) - 1)))) 1 (qX0_otherThan (F 1))) 5 s109_0) A (A 7 (Int32.toNatClampNeg ((F 6) - 1))) (A 8 (Int32.toNatClampNeg ((F 6) - 1))) (A 9 (Int32.toNatClampNeg ((F 6) - 1))) (by rw [e6, nI_pred, nI_clamp (by omega)]; exact hq k0 hk0 e6) _ rfl) (cwV 3 hts gX0_unmake_X0_carryBack rfl rfl rfl nX0_carryBack ⟨Nat.le_of_ble_eq_true rfl, Nat.le_of_ble_eq_true rfl⟩) (va_recv hK hP (ci := 0) (q0 := 0) rfl rfl) rfl hl.1 rfl (Nat.le_of_ble_eq_true rfl) dX0_unmake_132 ⟨Nat.zero_le _, Nat.zero_le _⟩ hK hP hD hS hA (fun H locs hP hD hS => ?_)
      refine lv_iload_n hx hb dX0_unmake_135 rfl (lv_at hl 1 rfl) ?_
      exact xRiB hx hb hr hlk hK hP hD hS hR dX0_unmake_136
    refine lv_icmp_ne (tgt := 105) hx hb dX0_unmake_93 (by decide) (fun c93 => ?_) (fun c93 => ?_)
    · have hR := hR.trans (if_pos c93)
      refine lv_aload_n hx hb dX0_unmake_105 rfl (lv_at hl 1 rfl) ?_
      refine gB hx hb hts in_X0_unmake hown hK hP 5 (by decide) rfl kX0_unmake_9 dX0_unmake_106 ?_
      exact hj109 (F 5) _ _ ls hP hD hS (lv_sub hl [1, 0] rfl) hR
    · have hR := hR.trans (if_neg (fun z => z c93))
      refine lv_aload_n hx hb dX0_unmake_96 rfl (lv_at hl 1 rfl) ?_
      refine gB hx hb hts in_X0_unmake hown hK hP 5 (by decide) rfl kX0_unmake_9 dX0_unmake_97 ?_
      refine lv_iconst (v := 1) hx hb dX0_unmake_100 (by decide) ?_
      refine lv_isub hx hb dX0_unmake_101 ?_
      refine lv_goto (tgt := 109) hx hb dX0_unmake_102 (by decide) ?_
      exact hj109 ((F 5) - 1) _ _ ls hP hD hS (lv_sub hl [1, 0] rfl) hR
  · have hR := hR.trans (if_neg c4)
    subst hR
    exact xThrow (u := 3) (is := 155) (text := "no move can be taken back") hx hb hst (by rw [hml]; exact hl.1.symm) hts hown hlk hno xTabIS kX0_unmake_12 kX0_unmake_13 xinX0_unmake_69 (by decide) hE dX0_unmake_7 dX0_unmake_10 dX0_unmake_11 dX0_unmake_13 dX0_unmake_16 (Nat.le_of_ble_eq_true rfl) (Nat.le_of_ble_eq_true rfl) (Nat.le_of_ble_eq_true rfl) (Nat.le_of_ble_eq_true rfl) hK hP hD hS (by decide) rfl
