def qX0_isOpen_w55 (F : Nat → Int32) (A : Nat → Nat → Int32) (x1 : Int32) (x5 : Int32) (x6 : Int32) : Nat → Nat → Int32
  | 0, n => 1
  | k + 1, n => (if ¬ (qX0_isFree F A (x1 + ((nI n) * x5))) = 0 then (qX0_isOpen_w55 F A x1 x5 x6 k (n + 1)) else 0)
def qX0_isOpen (F : Nat → Int32) (A : Nat → Nat → Int32) (p1 : Int32) (p2 : Int32) : Int32 := (qX0_isOpen_w55 F A p1 ((qJ6_compare_7cf53 ((qX0_fileOf p2) - (qX0_fileOf p1)) 0) + (8 * (qJ6_compare_7cf53 ((qX0_rankOf p2) - (qX0_rankOf p1)) 0))) (mxI (abI ((qX0_fileOf p2) - (qX0_fileOf p1))) (abI ((qX0_rankOf p2) - (qX0_rankOf p1)))) (Int32.toNatClampNeg (mxI (abI ((qX0_fileOf p2) - (qX0_fileOf p1))) (abI ((qX0_rankOf p2) - (qX0_rankOf p1)))) - 1) 1)
abbrev rmX0_isOpen : Room := { frames := 2, cells := 0, slots := 0, locals := 41 }
theorem nX0_isOpen : yX0_isOpen.cls = RX0 ∧ yX0_isOpen.cls ≠ "java/lang/invoke/MethodHandle" ∧ yX0_isOpen.cls ≠ "java/lang/invoke/VarHandle" ∧ (parseMethodDescriptor yX0_isOpen.desc).map (fun d => d.parameters.length) = some 2 := by decide +kernel
theorem kX0_isOpen_0 : Cond.methodLink RX0 240 Lib.Math.abs.name ∈ wsX0_isOpen := by decide +kernel
theorem kX0_isOpen_1 : Cond.static Lib.Math.abs.name ∈ wsX0_isOpen := by decide +kernel
theorem kX0_isOpen_2 : Cond.initialized "java/lang/Math" ∈ wsX0_isOpen := by decide +kernel
theorem kX0_isOpen_3 : Cond.code Lib.Math.abs.name Lib.Math.abs.code 1 (some .int) ∈ wsX0_isOpen := by decide +kernel
theorem kX0_isOpen_4 : Cond.methodLink RX0 250 Lib.Math.max.name ∈ wsX0_isOpen := by decide +kernel
theorem kX0_isOpen_5 : Cond.static Lib.Math.max.name ∈ wsX0_isOpen := by decide +kernel
theorem kX0_isOpen_6 : Cond.code Lib.Math.max.name Lib.Math.max.code 2 (some .int) ∈ wsX0_isOpen := by decide +kernel
set_option maxHeartbeats 4000000 in
set_option maxRecDepth 100000 in
theorem mX0_isOpen (l : Launch) (D : va_G) (cI : ClassId) (o : Nat) (h : Nat → Nat) (F : Nat → Int32) (A : Nat → Nat → Int32) (p1 : Int32) (p2 : Int32) (r0 : Int32) (hR : r0 = qX0_isOpen F A p1 p2) : cMi l yX0_isOpen wsX0_isOpen rmX0_isOpen D [(cI, .int)] (wB cI o h F A) [.ref o, .int p1, .int p2] r0 (wB cI o h F A) := by
  intro sz
  refine cMet_of (Qc := fun AA => cQi D [(cI, .int)] r0 (wB cI o h F A) AA) (cc := cX0_isOpen) (maxL := 8) (ret := (some .boolean)) (by decide) rfl (Nat.le_of_ble_eq_true rfl) ?_ sz
  intro p e s m below meth c AA ls hx hb hr hts hown hml hlk hA hK hP hD hS hl
  have hown : s.vm.findClass RX0 = some m.cls := hown
  have hl : lv_has ls 8 [(0, .ref o), (1, .int p1), (2, .int p2)] := hl
  rw [qX0_isOpen] at hR
  refine lv_iload_n hx hb dX0_isOpen_0 rfl (lv_at hl 2 rfl) ?_
  refine cSi ⟨hx, hb, hml, hown, hts⟩ (mX0_fileOf l D p2 _ rfl) (va_cwS 1 hts gX0_isOpen_X0_fileOf rfl rfl rfl nX0_fileOf ⟨Nat.le_of_ble_eq_true rfl, Nat.le_of_ble_eq_true rfl⟩) rfl hl.1 rfl (Nat.le_of_ble_eq_true rfl) dX0_isOpen_1 ⟨Nat.zero_le _, Nat.zero_le _⟩ hK hP hS hA (fun H locs hP hS => ?_)
  refine lv_iload_n hx hb dX0_isOpen_4 rfl (lv_at hl 1 rfl) ?_
  refine cSi ⟨hx, hb, hml, hown, hts⟩ (mX0_fileOf l D p1 _ rfl) (va_cwS 1 hts gX0_isOpen_X0_fileOf rfl rfl rfl nX0_fileOf ⟨Nat.le_of_ble_eq_true rfl, Nat.le_of_ble_eq_true rfl⟩) rfl hl.1 rfl (Nat.le_of_ble_eq_true rfl) dX0_isOpen_5 ⟨Nat.zero_le _, Nat.zero_le _⟩ hK hP hS hA (fun H locs hP hS => ?_)
  refine lv_isub hx hb dX0_isOpen_8 ?_
  refine lv_topi (fun y3 ey3 => ?_)
  rw [← ey3] at hR
  refine lv_istore_n (lv' := [(3, .int y3), (0, .ref o), (1, .int p1), (2, .int p2)]) hx hb dX0_isOpen_9 rfl hl (by decide) rfl (fun ls hl => ?_)
  refine lv_iload_n hx hb dX0_isOpen_10 rfl (lv_at hl 3 rfl) ?_
  refine cSi ⟨hx, hb, hml, hown, hts⟩ (mX0_rankOf l D p2 _ rfl) (va_cwS 1 hts gX0_isOpen_X0_rankOf rfl rfl rfl nX0_rankOf ⟨Nat.le_of_ble_eq_true rfl, Nat.le_of_ble_eq_true rfl⟩) rfl hl.1 rfl (Nat.le_of_ble_eq_true rfl) dX0_isOpen_11 ⟨Nat.zero_le _, Nat.zero_le _⟩ hK hP hS hA (fun H locs hP hS => ?_)
  refine lv_iload_n hx hb dX0_isOpen_14 rfl (lv_at hl 2 rfl) ?_
  refine cSi ⟨hx, hb, hml, hown, hts⟩ (mX0_rankOf l D p1 _ rfl) (va_cwS 1 hts gX0_isOpen_X0_rankOf rfl rfl rfl nX0_rankOf ⟨Nat.le_of_ble_eq_true rfl, Nat.le_of_ble_eq_true rfl⟩) rfl hl.1 rfl (Nat.le_of_ble_eq_true rfl) dX0_isOpen_15 ⟨Nat.zero_le _, Nat.zero_le _⟩ hK hP hS hA (fun H locs hP hS => ?_)
  refine lv_isub hx hb dX0_isOpen_18 ?_
  refine lv_topi (fun y4 ey4 => ?_)
  rw [← ey4] at hR
  refine lv_istore (lv' := [(4, .int y4), (3, .int y3), (0, .ref o), (1, .int p1), (2, .int p2)]) hx hb dX0_isOpen_19 hl (by decide) rfl (fun ls hl => ?_)
  refine lv_iload_n hx hb dX0_isOpen_21 rfl (lv_at hl 1 rfl) ?_
  refine lv_iconst (v := 0) hx hb dX0_isOpen_22 (by decide) ?_
  refine cSi ⟨hx, hb, hml, hown, hts⟩ (mJ6_compare_7cf53 l D y3 0 _ rfl) (va_cwS 2 hts gX0_isOpen_J6_compare_7cf53 rfl rfl rfl nJ6_compare_7cf53 ⟨Nat.le_of_ble_eq_true rfl, Nat.le_of_ble_eq_true rfl⟩) rfl hl.1 rfl (Nat.le_of_ble_eq_true rfl) dX0_isOpen_23 ⟨Nat.zero_le _, Nat.zero_le _⟩ hK hP hS hA (fun H locs hP hS => ?_)
  refine lv_bipush (v := 8) hx hb dX0_isOpen_26 (by decide) ?_
  refine lv_iload hx hb dX0_isOpen_28 (lv_at hl 0 rfl) ?_
  refine lv_iconst (v := 0) hx hb dX0_isOpen_30 (by decide) ?_
  refine cSi ⟨hx, hb, hml, hown, hts⟩ (mJ6_compare_7cf53 l D y4 0 _ rfl) (va_cwS 2 hts gX0_isOpen_J6_compare_7cf53 rfl rfl rfl nJ6_compare_7cf53 ⟨Nat.le_of_ble_eq_true rfl, Nat.le_of_ble_eq_true rfl⟩) rfl hl.1 rfl (Nat.le_of_ble_eq_true rfl) dX0_isOpen_31 ⟨Nat.zero_le _, Nat.zero_le _⟩ hK hP hS hA (fun H locs hP hS => ?_)
  refine lv_imul hx hb dX0_isOpen_34 ?_
  refine lv_iadd hx hb dX0_isOpen_35 ?_
  refine lv_topi (fun y5 ey5 => ?_)
  rw [← ey5] at hR
  refine lv_istore (lv' := [(5, .int y5), (4, .int y4), (3, .int y3), (0, .ref o), (1, .int p1), (2, .int p2)]) hx hb dX0_isOpen_36 hl (by decide) rfl (fun ls hl => ?_)
  refine lv_iload_n hx hb dX0_isOpen_38 rfl (lv_at hl 2 rfl) ?_
  refine mAbs hx hb (by rw [hml]; exact hl.1.symm) hown hts kX0_isOpen_0 kX0_isOpen_1 kX0_isOpen_2 kX0_isOpen_3 (Nat.le_of_ble_eq_true rfl) (Nat.le_of_ble_eq_true rfl) (Nat.zero_le _) (Nat.zero_le _) dX0_isOpen_39 ?_
  refine lv_iload hx hb dX0_isOpen_42 (lv_at hl 1 rfl) ?_
  refine mAbs hx hb (by rw [hml]; exact hl.1.symm) hown hts kX0_isOpen_0 kX0_isOpen_1 kX0_isOpen_2 kX0_isOpen_3 (Nat.le_of_ble_eq_true rfl) (Nat.le_of_ble_eq_true rfl) (Nat.zero_le _) (Nat.zero_le _) dX0_isOpen_44 ?_
  refine mMax hx hb (by rw [hml]; exact hl.1.symm) hown hts kX0_isOpen_4 kX0_isOpen_5 kX0_isOpen_2 kX0_isOpen_6 (Nat.le_of_ble_eq_true rfl) (Nat.le_of_ble_eq_true rfl) (Nat.zero_le _) (Nat.zero_le _) dX0_isOpen_47 ?_
  refine lv_topi (fun y6 ey6 => ?_)
  rw [← ey6] at hR
  refine lv_istore (lv' := [(6, .int y6), (5, .int y5), (4, .int y4), (3, .int y3), (0, .ref o), (1, .int p1), (2, .int p2)]) hx hb dX0_isOpen_50 hl (by decide) rfl (fun ls hl => ?_)
  have hSB : Int32.toNatClampNeg y6 < 2147483648 := cl_lt y6
  refine lv_iconst (v := 1) hx hb dX0_isOpen_52 (by decide) ?_
  refine lv_istore (lv' := [(7, .int 1), (6, .int y6), (5, .int y5), (4, .int y4), (3, .int y3), (0, .ref o), (1, .int p1), (2, .int p2)]) hx hb dX0_isOpen_53 hl (by decide) rfl (fun ls hl => ?_)
  have hw55 : ∀ (k n55 : Nat) (H : Heap) (locs : List Loc) (ls : Array Slot), Int32.toNatClampNeg y6 - n55 = k ∧ 1 ≤ n55 ∧ (n55 ≤ Int32.toNatClampNeg y6 ∨ n55 = 1) → va_P D vwCl (wB cI o h F A) H → va_D AA (wB cI o h F A) → va_S AA s.heap H locs → lv_has ls 8 [(0, .ref o), (1, .int p1), (5, .int y5), (6, .int y6), (7, .int (nI n55))] → r0 = qX0_isOpen_w55 F A p1 y5 y6 k n55 → W p l e rmX0_isOpen s m [.ref o, .int p1, .int p2].toArray below meth c H locs 0 0 (MQ below (cQi D [(cI, .int)] r0 (wB cI o h F A) AA) [.ref o, .int p1, .int p2].toArray s 0 0 AA) (F0 m 55 ls []) := by
    intro k
    induction k with
    | zero =>
      intro n55  H locs ls hn  hP hD hS hl hR
      rw [qX0_isOpen_w55] at hR
      refine lv_iload hx hb dX0_isOpen_55 (lv_at hl 4 rfl) ?_
      refine lv_iload hx hb dX0_isOpen_57 (lv_at hl 3 rfl) ?_
      refine lv_icmp_ge (tgt := 84) hx hb dX0_isOpen_59 (by decide) (fun c59 => ?_) (fun c59 => ?_)
      · skip
        refine lv_iconst (v := 1) hx hb dX0_isOpen_84 (by decide) ?_
        exact cRz hx hb hr hlk hK hP hD hS (Or.inr rfl) hR.symm dX0_isOpen_85
      · exact absurd (cl_le (by omega) (by omega)) c59
    | succ k ih =>
      intro n55  H locs ls hn  hP hD hS hl hR
      rw [qX0_isOpen_w55] at hR
      refine lv_iload hx hb dX0_isOpen_55 (lv_at hl 4 rfl) ?_
      refine lv_iload hx hb dX0_isOpen_57 (lv_at hl 3 rfl) ?_
      refine lv_icmp_ge (tgt := 84) hx hb dX0_isOpen_59 (by decide) (fun c59 => ?_) (fun c59 => ?_)
      · exact absurd c59 (cl_nle (by omega))
      · skip
        refine lv_aload_n hx hb dX0_isOpen_62 rfl (lv_at hl 0 rfl) ?_
        refine lv_iload_n hx hb dX0_isOpen_63 rfl (lv_at hl 1 rfl) ?_
        refine lv_iload hx hb dX0_isOpen_64 (lv_at hl 4 rfl) ?_
        refine lv_iload hx hb dX0_isOpen_66 (lv_at hl 2 rfl) ?_
        refine lv_imul hx hb dX0_isOpen_68 ?_
        refine lv_iadd hx hb dX0_isOpen_69 ?_
        refine cVi ⟨hx, hb, hml, hown, hts⟩ (mX0_isFree l D cI o h F A (p1 + ((nI n55) * y5)) _ rfl) (cwV 1 hts gX0_isOpen_X0_isFree rfl rfl rfl nX0_isFree ⟨Nat.le_of_ble_eq_true rfl, Nat.le_of_ble_eq_true rfl⟩) (va_recv hK hP (ci := 0) (q0 := 0) rfl rfl) rfl hl.1 rfl (Nat.le_of_ble_eq_true rfl) dX0_isOpen_70 ⟨Nat.zero_le _, Nat.zero_le _⟩ hK hP hD hS hA (fun H locs hP hD hS => ?_)
        refine lv_if_ne (tgt := 78) hx hb dX0_isOpen_73 (by decide) (fun c73 => ?_) (fun c73 => ?_)
        · have hR := hR.trans (if_pos c73)
          refine lv_iinc (v := (nI (n55 + 1))) (lv' := [(7, .int (nI (n55 + 1))), (0, .ref o), (1, .int p1), (5, .int y5), (6, .int y6)]) hx hb dX0_isOpen_78 hl (k := 4) rfl (nI_1 _) (by decide) rfl (fun ls hl => ?_)
          refine lv_goto (tgt := 55) hx hb dX0_isOpen_81 (by decide) ?_
          exact ih (n55 + 1) _ _ ls (by omega) hP hD hS (lv_sub hl [1, 2, 3, 4, 0] rfl) hR
        · have hR := hR.trans (if_neg (fun z => z c73))
          refine lv_iconst (v := 0) hx hb dX0_isOpen_76 (by decide) ?_
          exact cRz hx hb hr hlk hK hP hD hS (Or.inl rfl) hR.symm dX0_isOpen_77
  exact hw55 (Int32.toNatClampNeg y6 - 1) 1 _ _ ls (by omega) hP hD hS (lv_sub hl [5, 6, 2, 1, 0] rfl) hR
def qX0_attacks_j191 (F : Nat → Int32) (A : Nat → Nat → Int32) (x1 : Int32) (x2 : Int32) : Int32 := (if (qX0_isOpen F A x1 x2) = 0 then 0 else 1)
def qX0_attacks_j71 (F : Nat → Int32) (A : Nat → Nat → Int32) (x1 : Int32) (x2 : Int32) (x3 : Int32) (x4 : Int32) (x5 : Int32) (x6 : Int32) (s0 : Int32) : Int32 := (if (qX0_typeOf x3) = 1 then (qX0_pawnAttacks (qX0_sideOf x3) x1 x2) else (if (qX0_typeOf x3) = 2 then (if ¬ (x4 * x5) = 2 then 0 else 1) else (if (qX0_typeOf x3) = 3 then (if s0 = 0 then 0 else (if (qX0_isOpen F A x1 x2) = 0 then 0 else 1)) else (if (qX0_typeOf x3) = 4 then (if x6 = 0 then 0 else (if (qX0_isOpen F A x1 x2) = 0 then 0 else 1)) else (if (qX0_typeOf x3) = 5 then (if ¬ x6 = 0 then (qX0_attacks_j191 F A x1 x2) else (if s0 = 0 then 0 else (qX0_attacks_j191 F A x1 x2))) else (if (qX0_typeOf x3) = 6 then (if 1 < x4 then 0 else (if 1 < x5 then 0 else 1)) else 0))))))
def qX0_attacks_j57 (F : Nat → Int32) (A : Nat → Nat → Int32) (x1 : Int32) (x2 : Int32) (x3 : Int32) (x4 : Int32) (x5 : Int32) (s0 : Int32) : Int32 := (if ¬ x4 = x5 then (qX0_attacks_j71 F A x1 x2 x3 x4 x5 s0 0) else (qX0_attacks_j71 F A x1 x2 x3 x4 x5 s0 1))
def qX0_attacks (F : Nat → Int32) (A : Nat → Nat → Int32) (p1 : Int32) (p2 : Int32) : Int32 := (if ¬ p1 = p2 then (if (abI ((qX0_fileOf p2) - (qX0_fileOf p1))) = 0 then (qX0_attacks_j57 F A p1 p2 (A 0 (Int32.toNatClampNeg p1)) (abI ((qX0_fileOf p2) - (qX0_fileOf p1))) (abI ((qX0_rankOf p2) - (qX0_rankOf p1))) 1) else (if ¬ (abI ((qX0_rankOf p2) - (qX0_rankOf p1))) = 0 then (qX0_attacks_j57 F A p1 p2 (A 0 (Int32.toNatClampNeg p1)) (abI ((qX0_fileOf p2) - (qX0_fileOf p1))) (abI ((qX0_rankOf p2) - (qX0_rankOf p1))) 0) else (qX0_attacks_j57 F A p1 p2 (A 0 (Int32.toNatClampNeg p1)) (abI ((qX0_fileOf p2) - (qX0_fileOf p1))) (abI ((qX0_rankOf p2) - (qX0_rankOf p1))) 1))) else 0)
abbrev rmX0_attacks : Room := { frames := 3, cells := 0, slots := 0, locals := 68 }
theorem nX0_attacks : yX0_attacks.cls = RX0 ∧ yX0_attacks.cls ≠ "java/lang/invoke/MethodHandle" ∧ yX0_attacks.cls ≠ "java/lang/invoke/VarHandle" ∧ (parseMethodDescriptor yX0_attacks.desc).map (fun d => d.parameters.length) = some 2 := by decide +kernel
theorem in_X0_attacks : ∀ w ∈ wsX00, w ∈ wsX0_attacks := fun w h => by
  unfold wsX0_attacks
  exact List.mem_cons_of_mem _ (List.mem_append_right _ h)
theorem kX0_attacks_0 : Cond.fieldLink RX0 9 "Board" "board" "[I" ∈ wsX0_attacks := by decide +kernel
theorem kX0_attacks_1 : Cond.methodLink RX0 240 Lib.Math.abs.name ∈ wsX0_attacks := by decide +kernel
theorem kX0_attacks_2 : Cond.static Lib.Math.abs.name ∈ wsX0_attacks := by decide +kernel
theorem kX0_attacks_3 : Cond.initialized "java/lang/Math" ∈ wsX0_attacks := by decide +kernel
theorem kX0_attacks_4 : Cond.code Lib.Math.abs.name Lib.Math.abs.code 1 (some .int) ∈ wsX0_attacks := by decide +kernel
set_option maxHeartbeats 4000000 in
set_option maxRecDepth 100000 in
theorem mX0_attacks (l : Launch) (D : va_G) (cI : ClassId) (o : Nat) (h : Nat → Nat) (F : Nat → Int32) (A : Nat → Nat → Int32) (p1 : Int32) (p2 : Int32) (h1 : vp_in p1 64) (r0 : Int32) (hR : r0 = qX0_attacks F A p1 p2) : cMi l yX0_attacks wsX0_attacks rmX0_attacks D [(cI, .int)] (wB cI o h F A) [.ref o, .int p1, .int p2] r0 (wB cI o h F A) := by
  intro sz
  refine cMet_of (Qc := fun AA => cQi D [(cI, .int)] r0 (wB cI o h F A) AA) (cc := cX0_attacks) (maxL := 8) (ret := (some .boolean)) (by decide) rfl (Nat.le_of_ble_eq_true rfl) ?_ sz
  intro p e s m below meth c AA ls hx hb hr hts hown hml hlk hA hK hP hD hS hl
  have hown : s.vm.findClass RX0 = some m.cls := hown
  have hl : lv_has ls 8 [(0, .ref o), (1, .int p1), (2, .int p2)] := hl
  rw [qX0_attacks] at hR
  refine lv_iload_n hx hb dX0_attacks_0 rfl (lv_at hl 1 rfl) ?_
  refine lv_iload_n hx hb dX0_attacks_1 rfl (lv_at hl 2 rfl) ?_
  refine lv_icmp_ne (tgt := 7) hx hb dX0_attacks_2 (by decide) (fun c2 => ?_) (fun c2 => ?_)
  · have hR := hR.trans (if_pos c2)
    refine lv_aload_n hx hb dX0_attacks_7 rfl (lv_at hl 0 rfl) ?_
    refine gB hx hb hts in_X0_attacks hown hK hP 0 (by decide) rfl kX0_attacks_0 dX0_attacks_8 ?_
    refine lv_iload_n hx hb dX0_attacks_11 rfl (lv_at hl 1 rfl) ?_
    refine va_iald (f := A 0) hx hb hK hP 1 0 rfl rfl h1 dX0_attacks_12 ?_
    refine lv_istore_n (lv' := [(3, .int (A 0 (Int32.toNatClampNeg p1))), (0, .ref o), (1, .int p1), (2, .int p2)]) hx hb dX0_attacks_13 rfl hl (by decide) rfl (fun ls hl => ?_)
    refine lv_iload_n hx hb dX0_attacks_14 rfl (lv_at hl 3 rfl) ?_
    refine cSi ⟨hx, hb, hml, hown, hts⟩ (mX0_fileOf l D p2 _ rfl) (va_cwS 1 hts gX0_attacks_X0_fileOf rfl rfl rfl nX0_fileOf ⟨Nat.le_of_ble_eq_true rfl, Nat.le_of_ble_eq_true rfl⟩) rfl hl.1 rfl (Nat.le_of_ble_eq_true rfl) dX0_attacks_15 ⟨Nat.zero_le _, Nat.zero_le _⟩ hK hP hS hA (fun H locs hP hS => ?_)
    refine lv_iload_n hx hb dX0_attacks_18 rfl (lv_at hl 2 rfl) ?_
    refine cSi ⟨hx, hb, hml, hown, hts⟩ (mX0_fileOf l D p1 _ rfl) (va_cwS 1 hts gX0_attacks_X0_fileOf rfl rfl rfl nX0_fileOf ⟨Nat.le_of_ble_eq_true rfl, Nat.le_of_ble_eq_true rfl⟩) rfl hl.1 rfl (Nat.le_of_ble_eq_true rfl) dX0_attacks_19 ⟨Nat.zero_le _, Nat.zero_le _⟩ hK hP hS hA (fun H locs hP hS => ?_)
    refine lv_isub hx hb dX0_attacks_22 ?_
    refine mAbs hx hb (by rw [hml]; exact hl.1.symm) hown hts kX0_attacks_1 kX0_attacks_2 kX0_attacks_3 kX0_attacks_4 (Nat.le_of_ble_eq_true rfl) (Nat.le_of_ble_eq_true rfl) (Nat.zero_le _) (Nat.zero_le _) dX0_attacks_23 ?_
    refine lv_istore (lv' := [(4, .int (abI ((qX0_fileOf p2) - (qX0_fileOf p1)))), (3, .int (A 0 (Int32.toNatClampNeg p1))), (0, .ref o), (1, .int p1), (2, .int p2)]) hx hb dX0_attacks_26 hl (by decide) rfl (fun ls hl => ?_)
    refine lv_iload_n hx hb dX0_attacks_28 rfl (lv_at hl 4 rfl) ?_
    refine cSi ⟨hx, hb, hml, hown, hts⟩ (mX0_rankOf l D p2 _ rfl) (va_cwS 1 hts gX0_attacks_X0_rankOf rfl rfl rfl nX0_rankOf ⟨Nat.le_of_ble_eq_true rfl, Nat.le_of_ble_eq_true rfl⟩) rfl hl.1 rfl (Nat.le_of_ble_eq_true rfl) dX0_attacks_29 ⟨Nat.zero_le _, Nat.zero_le _⟩ hK hP hS hA (fun H locs hP hS => ?_)
    refine lv_iload_n hx hb dX0_attacks_32 rfl (lv_at hl 3 rfl) ?_
    refine cSi ⟨hx, hb, hml, hown, hts⟩ (mX0_rankOf l D p1 _ rfl) (va_cwS 1 hts gX0_attacks_X0_rankOf rfl rfl rfl nX0_rankOf ⟨Nat.le_of_ble_eq_true rfl, Nat.le_of_ble_eq_true rfl⟩) rfl hl.1 rfl (Nat.le_of_ble_eq_true rfl) dX0_attacks_33 ⟨Nat.zero_le _, Nat.zero_le _⟩ hK hP hS hA (fun H locs hP hS => ?_)
    refine lv_isub hx hb dX0_attacks_36 ?_
    refine mAbs hx hb (by rw [hml]; exact hl.1.symm) hown hts kX0_attacks_1 kX0_attacks_2 kX0_attacks_3 kX0_attacks_4 (Nat.le_of_ble_eq_true rfl) (Nat.le_of_ble_eq_true rfl) (Nat.zero_le _) (Nat.zero_le _) dX0_attacks_37 ?_
    refine lv_istore (lv' := [(5, .int (abI ((qX0_rankOf p2) - (qX0_rankOf p1)))), (4, .int (abI ((qX0_fileOf p2) - (qX0_fileOf p1)))), (3, .int (A 0 (Int32.toNatClampNeg p1))), (0, .ref o), (1, .int p1), (2, .int p2)]) hx hb dX0_attacks_40 hl (by decide) rfl (fun ls hl => ?_)
    refine lv_iload hx hb dX0_attacks_42 (lv_at hl 1 rfl) ?_
    have hj57 : ∀ (s57_0 : Int32) (H : Heap) (locs : List Loc) (ls : Array Slot), va_P D vwCl (wB cI o h F A) H → va_D AA (wB cI o h F A) → va_S AA s.heap H locs → lv_has ls 8 [(0, .ref o), (1, .int p1), (2, .int p2), (3, .int (A 0 (Int32.toNatClampNeg p1))), (4, .int (abI ((qX0_fileOf p2) - (qX0_fileOf p1)))), (5, .int (abI ((qX0_rankOf p2) - (qX0_rankOf p1))))] → r0 = qX0_attacks_j57 F A p1 p2 (A 0 (Int32.toNatClampNeg p1)) (abI ((qX0_fileOf p2) - (qX0_fileOf p1))) (abI ((qX0_rankOf p2) - (qX0_rankOf p1))) s57_0 → W p l e rmX0_attacks s m [.ref o, .int p1, .int p2].toArray below meth c H locs 0 0 (MQ below (cQi D [(cI, .int)] r0 (wB cI o h F A) AA) [.ref o, .int p1, .int p2].toArray s 0 0 AA) (F0 m 57 ls [.int s57_0]) := by
      intro s57_0 H locs ls  hP hD hS hl hR
      rw [qX0_attacks_j57] at hR
      refine lv_istore (lv' := [(6, .int s57_0), (0, .ref o), (1, .int p1), (2, .int p2), (3, .int (A 0 (Int32.toNatClampNeg p1))), (4, .int (abI ((qX0_fileOf p2) - (qX0_fileOf p1)))), (5, .int (abI ((qX0_rankOf p2) - (qX0_rankOf p1))))]) hx hb dX0_attacks_57 hl (by decide) rfl (fun ls hl => ?_)
      refine lv_iload hx hb dX0_attacks_59 (lv_at hl 5 rfl) ?_
      refine lv_iload hx hb dX0_attacks_61 (lv_at hl 6 rfl) ?_
      have hj71 : ∀ (s71_0 : Int32) (H : Heap) (locs : List Loc) (ls : Array Slot), va_P D vwCl (wB cI o h F A) H → va_D AA (wB cI o h F A) → va_S AA s.heap H locs → lv_has ls 8 [(0, .ref o), (1, .int p1), (2, .int p2), (3, .int (A 0 (Int32.toNatClampNeg p1))), (4, .int (abI ((qX0_fileOf p2) - (qX0_fileOf p1)))), (5, .int (abI ((qX0_rankOf p2) - (qX0_rankOf p1)))), (6, .int s57_0)] → r0 = qX0_attacks_j71 F A p1 p2 (A 0 (Int32.toNatClampNeg p1)) (abI ((qX0_fileOf p2) - (qX0_fileOf p1))) (abI ((qX0_rankOf p2) - (qX0_rankOf p1))) s57_0 s71_0 → W p l e rmX0_attacks s m [.ref o, .int p1, .int p2].toArray below meth c H locs 0 0 (MQ below (cQi D [(cI, .int)] r0 (wB cI o h F A) AA) [.ref o, .int p1, .int p2].toArray s 0 0 AA) (F0 m 71 ls [.int s71_0]) := by
        intro s71_0 H locs ls  hP hD hS hl hR
        rw [qX0_attacks_j71] at hR
        refine lv_istore (lv' := [(7, .int s71_0), (0, .ref o), (1, .int p1), (2, .int p2), (3, .int (A 0 (Int32.toNatClampNeg p1))), (4, .int (abI ((qX0_fileOf p2) - (qX0_fileOf p1)))), (5, .int (abI ((qX0_rankOf p2) - (qX0_rankOf p1)))), (6, .int s57_0)]) hx hb dX0_attacks_71 hl (by decide) rfl (fun ls hl => ?_)
        refine lv_iload_n hx hb dX0_attacks_73 rfl (lv_at hl 4 rfl) ?_
        refine cSi ⟨hx, hb, hml, hown, hts⟩ (mX0_typeOf l D (A 0 (Int32.toNatClampNeg p1)) _ rfl) (va_cwS 1 hts gX0_attacks_X0_typeOf rfl rfl rfl nX0_typeOf ⟨Nat.le_of_ble_eq_true rfl, Nat.le_of_ble_eq_true rfl⟩) rfl hl.1 rfl (Nat.le_of_ble_eq_true rfl) dX0_attacks_74 ⟨Nat.zero_le _, Nat.zero_le _⟩ hK hP hS hA (fun H locs hP hS => ?_)
        by_cases c77_1 : (qX0_typeOf (A 0 (Int32.toNatClampNeg p1))) = 1
        · refine lv_tableIn (off := 39) (tgt := 116) hx hb dX0_attacks_77 (by rw [c77_1]; decide) (by rw [c77_1]; decide) (by rw [c77_1]; rfl) (by decide) ?_
          have hR := hR.trans (if_pos c77_1)
          refine lv_iload_n hx hb dX0_attacks_116 rfl (lv_at hl 4 rfl) ?_
          refine cSi ⟨hx, hb, hml, hown, hts⟩ (mX0_sideOf l D (A 0 (Int32.toNatClampNeg p1)) _ rfl) (va_cwS 1 hts gX0_attacks_X0_sideOf rfl rfl rfl nX0_sideOf ⟨Nat.le_of_ble_eq_true rfl, Nat.le_of_ble_eq_true rfl⟩) rfl hl.1 rfl (Nat.le_of_ble_eq_true rfl) dX0_attacks_117 ⟨Nat.zero_le _, Nat.zero_le _⟩ hK hP hS hA (fun H locs hP hS => ?_)
          refine lv_iload_n hx hb dX0_attacks_120 rfl (lv_at hl 2 rfl) ?_
          refine lv_iload_n hx hb dX0_attacks_121 rfl (lv_at hl 3 rfl) ?_
          refine cSi ⟨hx, hb, hml, hown, hts⟩ (mX0_pawnAttacks l D (qX0_sideOf (A 0 (Int32.toNatClampNeg p1))) p1 p2 _ rfl) (va_cwS 3 hts gX0_attacks_X0_pawnAttacks rfl rfl rfl nX0_pawnAttacks ⟨Nat.le_of_ble_eq_true rfl, Nat.le_of_ble_eq_true rfl⟩) rfl hl.1 rfl (Nat.le_of_ble_eq_true rfl) dX0_attacks_122 ⟨Nat.zero_le _, Nat.zero_le _⟩ hK hP hS hA (fun H locs hP hS => ?_)
          exact cRz hx hb hr hlk hK hP hD hS (bX0_pawnAttacks (qX0_sideOf (A 0 (Int32.toNatClampNeg p1))) p1 p2) hR.symm dX0_attacks_125
        have hR := hR.trans (if_neg c77_1)
        by_cases c77_2 : (qX0_typeOf (A 0 (Int32.toNatClampNeg p1))) = 2
        · refine lv_tableIn (off := 49) (tgt := 126) hx hb dX0_attacks_77 (by rw [c77_2]; decide) (by rw [c77_2]; decide) (by rw [c77_2]; rfl) (by decide) ?_
          have hR := hR.trans (if_pos c77_2)
          refine lv_iload hx hb dX0_attacks_126 (lv_at hl 5 rfl) ?_
          refine lv_iload hx hb dX0_attacks_128 (lv_at hl 6 rfl) ?_
          refine lv_imul hx hb dX0_attacks_130 ?_
          refine lv_iconst (v := 2) hx hb dX0_attacks_131 (by decide) ?_
          refine lv_icmp_ne (tgt := 139) hx hb dX0_attacks_132 (by decide) (fun c132 => ?_) (fun c132 => ?_)
          · have hR := hR.trans (if_pos c132)
            refine lv_iconst (v := 0) hx hb dX0_attacks_139 (by decide) ?_
            exact cRz hx hb hr hlk hK hP hD hS (Or.inl rfl) hR.symm dX0_attacks_140
          · have hR := hR.trans (if_neg (fun z => z c132))
            refine lv_iconst (v := 1) hx hb dX0_attacks_135 (by decide) ?_
            refine lv_goto (tgt := 140) hx hb dX0_attacks_136 (by decide) ?_
            exact cRz hx hb hr hlk hK hP hD hS (Or.inr rfl) hR.symm dX0_attacks_140
        have hR := hR.trans (if_neg c77_2)
        by_cases c77_3 : (qX0_typeOf (A 0 (Int32.toNatClampNeg p1))) = 3
        · refine lv_tableIn (off := 64) (tgt := 141) hx hb dX0_attacks_77 (by rw [c77_3]; decide) (by rw [c77_3]; decide) (by rw [c77_3]; rfl) (by decide) ?_
          have hR := hR.trans (if_pos c77_3)
          refine lv_iload hx hb dX0_attacks_141 (lv_at hl 0 rfl) ?_
          refine lv_if_eq (tgt := 159) hx hb dX0_attacks_143 (by decide) (fun c143 => ?_) (fun c143 => ?_)
          · have hR := hR.trans (if_pos c143)
            refine lv_iconst (v := 0) hx hb dX0_attacks_159 (by decide) ?_
            exact cRz hx hb hr hlk hK hP hD hS (Or.inl rfl) hR.symm dX0_attacks_160
          · have hR := hR.trans (if_neg c143)
            refine lv_aload_n hx hb dX0_attacks_146 rfl (lv_at hl 1 rfl) ?_
            refine lv_iload_n hx hb dX0_attacks_147 rfl (lv_at hl 2 rfl) ?_
            refine lv_iload_n hx hb dX0_attacks_148 rfl (lv_at hl 3 rfl) ?_
            refine cVi ⟨hx, hb, hml, hown, hts⟩ (mX0_isOpen l D cI o h F A p1 p2 _ rfl) (cwV 2 hts gX0_attacks_X0_isOpen rfl rfl rfl nX0_isOpen ⟨Nat.le_of_ble_eq_true rfl, Nat.le_of_ble_eq_true rfl⟩) (va_recv hK hP (ci := 0) (q0 := 0) rfl rfl) rfl hl.1 rfl (Nat.le_of_ble_eq_true rfl) dX0_attacks_149 ⟨Nat.zero_le _, Nat.zero_le _⟩ hK hP hD hS hA (fun H locs hP hD hS => ?_)
            refine lv_if_eq (tgt := 159) hx hb dX0_attacks_152 (by decide) (fun c152 => ?_) (fun c152 => ?_)
            · have hR := hR.trans (if_pos c152)
              refine lv_iconst (v := 0) hx hb dX0_attacks_159 (by decide) ?_
              exact cRz hx hb hr hlk hK hP hD hS (Or.inl rfl) hR.symm dX0_attacks_160
            · have hR := hR.trans (if_neg c152)
              refine lv_iconst (v := 1) hx hb dX0_attacks_155 (by decide) ?_
              refine lv_goto (tgt := 160) hx hb dX0_attacks_156 (by decide) ?_
              exact cRz hx hb hr hlk hK hP hD hS (Or.inr rfl) hR.symm dX0_attacks_160
        have hR := hR.trans (if_neg c77_3)
        by_cases c77_4 : (qX0_typeOf (A 0 (Int32.toNatClampNeg p1))) = 4
        · refine lv_tableIn (off := 84) (tgt := 161) hx hb dX0_attacks_77 (by rw [c77_4]; decide) (by rw [c77_4]; decide) (by rw [c77_4]; rfl) (by decide) ?_
          have hR := hR.trans (if_pos c77_4)
          refine lv_iload hx hb dX0_attacks_161 (lv_at hl 7 rfl) ?_
          refine lv_if_eq (tgt := 179) hx hb dX0_attacks_163 (by decide) (fun c163 => ?_) (fun c163 => ?_)
          · have hR := hR.trans (if_pos c163)
            refine lv_iconst (v := 0) hx hb dX0_attacks_179 (by decide) ?_
            exact cRz hx hb hr hlk hK hP hD hS (Or.inl rfl) hR.symm dX0_attacks_180
          · have hR := hR.trans (if_neg c163)
            refine lv_aload_n hx hb dX0_attacks_166 rfl (lv_at hl 1 rfl) ?_
            refine lv_iload_n hx hb dX0_attacks_167 rfl (lv_at hl 2 rfl) ?_
            refine lv_iload_n hx hb dX0_attacks_168 rfl (lv_at hl 3 rfl) ?_
            refine cVi ⟨hx, hb, hml, hown, hts⟩ (mX0_isOpen l D cI o h F A p1 p2 _ rfl) (cwV 2 hts gX0_attacks_X0_isOpen rfl rfl rfl nX0_isOpen ⟨Nat.le_of_ble_eq_true rfl, Nat.le_of_ble_eq_true rfl⟩) (va_recv hK hP (ci := 0) (q0 := 0) rfl rfl) rfl hl.1 rfl (Nat.le_of_ble_eq_true rfl) dX0_attacks_169 ⟨Nat.zero_le _, Nat.zero_le _⟩ hK hP hD hS hA (fun H locs hP hD hS => ?_)
            refine lv_if_eq (tgt := 179) hx hb dX0_attacks_172 (by decide) (fun c172 => ?_) (fun c172 => ?_)
            · have hR := hR.trans (if_pos c172)
              refine lv_iconst (v := 0) hx hb dX0_attacks_179 (by decide) ?_
              exact cRz hx hb hr hlk hK hP hD hS (Or.inl rfl) hR.symm dX0_attacks_180
            · have hR := hR.trans (if_neg c172)
              refine lv_iconst (v := 1) hx hb dX0_attacks_175 (by decide) ?_
              refine lv_goto (tgt := 180) hx hb dX0_attacks_176 (by decide) ?_
              exact cRz hx hb hr hlk hK hP hD hS (Or.inr rfl) hR.symm dX0_attacks_180
        have hR := hR.trans (if_neg c77_4)
        by_cases c77_5 : (qX0_typeOf (A 0 (Int32.toNatClampNeg p1))) = 5
        · refine lv_tableIn (off := 104) (tgt := 181) hx hb dX0_attacks_77 (by rw [c77_5]; decide) (by rw [c77_5]; decide) (by rw [c77_5]; rfl) (by decide) ?_
          have hR := hR.trans (if_pos c77_5)
          refine lv_iload hx hb dX0_attacks_181 (lv_at hl 7 rfl) ?_
          have hj191 : ∀ (H : Heap) (locs : List Loc) (ls : Array Slot), va_P D vwCl (wB cI o h F A) H → va_D AA (wB cI o h F A) → va_S AA s.heap H locs → lv_has ls 8 [(0, .ref o), (1, .int p1), (2, .int p2)] → r0 = qX0_attacks_j191 F A p1 p2 → W p l e rmX0_attacks s m [.ref o, .int p1, .int p2].toArray below meth c H locs 0 0 (MQ below (cQi D [(cI, .int)] r0 (wB cI o h F A) AA) [.ref o, .int p1, .int p2].toArray s 0 0 AA) (F0 m 191 ls []) := by
            intro  H locs ls  hP hD hS hl hR
            rw [qX0_attacks_j191] at hR
            refine lv_aload_n hx hb dX0_attacks_191 rfl (lv_at hl 0 rfl) ?_
            refine lv_iload_n hx hb dX0_attacks_192 rfl (lv_at hl 1 rfl) ?_
            refine lv_iload_n hx hb dX0_attacks_193 rfl (lv_at hl 2 rfl) ?_
            refine cVi ⟨hx, hb, hml, hown, hts⟩ (mX0_isOpen l D cI o h F A p1 p2 _ rfl) (cwV 2 hts gX0_attacks_X0_isOpen rfl rfl rfl nX0_isOpen ⟨Nat.le_of_ble_eq_true rfl, Nat.le_of_ble_eq_true rfl⟩) (va_recv hK hP (ci := 0) (q0 := 0) rfl rfl) rfl hl.1 rfl (Nat.le_of_ble_eq_true rfl) dX0_attacks_194 ⟨Nat.zero_le _, Nat.zero_le _⟩ hK hP hD hS hA (fun H locs hP hD hS => ?_)
            refine lv_if_eq (tgt := 204) hx hb dX0_attacks_197 (by decide) (fun c197 => ?_) (fun c197 => ?_)
            · have hR := hR.trans (if_pos c197)
              refine lv_iconst (v := 0) hx hb dX0_attacks_204 (by decide) ?_
              exact cRz hx hb hr hlk hK hP hD hS (Or.inl rfl) hR.symm dX0_attacks_205
            · have hR := hR.trans (if_neg c197)
              refine lv_iconst (v := 1) hx hb dX0_attacks_200 (by decide) ?_
              refine lv_goto (tgt := 205) hx hb dX0_attacks_201 (by decide) ?_
              exact cRz hx hb hr hlk hK hP hD hS (Or.inr rfl) hR.symm dX0_attacks_205
          refine lv_if_ne (tgt := 191) hx hb dX0_attacks_183 (by decide) (fun c183 => ?_) (fun c183 => ?_)
          · have hR := hR.trans (if_pos c183)
            exact hj191 _ _ ls hP hD hS (lv_sub hl [1, 2, 3] rfl) hR
          · have hR := hR.trans (if_neg (fun z => z c183))
            refine lv_iload hx hb dX0_attacks_186 (lv_at hl 0 rfl) ?_
            refine lv_if_eq (tgt := 204) hx hb dX0_attacks_188 (by decide) (fun c188 => ?_) (fun c188 => ?_)
            · have hR := hR.trans (if_pos c188)
              refine lv_iconst (v := 0) hx hb dX0_attacks_204 (by decide) ?_
              exact cRz hx hb hr hlk hK hP hD hS (Or.inl rfl) hR.symm dX0_attacks_205
            · have hR := hR.trans (if_neg c188)
              exact hj191 _ _ ls hP hD hS (lv_sub hl [1, 2, 3] rfl) hR
        have hR := hR.trans (if_neg c77_5)
        by_cases c77_6 : (qX0_typeOf (A 0 (Int32.toNatClampNeg p1))) = 6
        · refine lv_tableIn (off := 129) (tgt := 206) hx hb dX0_attacks_77 (by rw [c77_6]; decide) (by rw [c77_6]; decide) (by rw [c77_6]; rfl) (by decide) ?_
          have hR := hR.trans (if_pos c77_6)
          refine lv_iload hx hb dX0_attacks_206 (lv_at hl 5 rfl) ?_
          refine lv_iconst (v := 1) hx hb dX0_attacks_208 (by decide) ?_
          refine lv_icmp_gt (tgt := 222) hx hb dX0_attacks_209 (by decide) (fun c209 => ?_) (fun c209 => ?_)
          · have hR := hR.trans (if_pos c209)
            refine lv_iconst (v := 0) hx hb dX0_attacks_222 (by decide) ?_
            exact cRz hx hb hr hlk hK hP hD hS (Or.inl rfl) hR.symm dX0_attacks_223
          · have hR := hR.trans (if_neg c209)
            refine lv_iload hx hb dX0_attacks_212 (lv_at hl 6 rfl) ?_
            refine lv_iconst (v := 1) hx hb dX0_attacks_214 (by decide) ?_
            refine lv_icmp_gt (tgt := 222) hx hb dX0_attacks_215 (by decide) (fun c215 => ?_) (fun c215 => ?_)
            · have hR := hR.trans (if_pos c215)
              refine lv_iconst (v := 0) hx hb dX0_attacks_222 (by decide) ?_
              exact cRz hx hb hr hlk hK hP hD hS (Or.inl rfl) hR.symm dX0_attacks_223
            · have hR := hR.trans (if_neg c215)
              refine lv_iconst (v := 1) hx hb dX0_attacks_218 (by decide) ?_
              refine lv_goto (tgt := 223) hx hb dX0_attacks_219 (by decide) ?_
              exact cRz hx hb hr hlk hK hP hD hS (Or.inr rfl) hR.symm dX0_attacks_223
        have hR := hR.trans (if_neg c77_6)
        refine lv_tableOut (tgt := 224) hx hb dX0_attacks_77 (by have z0 := lv_neT (a := 1) c77_1 rfl; have z1 := lv_neT (a := 2) c77_2 rfl; have z2 := lv_neT (a := 3) c77_3 rfl; have z3 := lv_neT (a := 4) c77_4 rfl; have z4 := lv_neT (a := 5) c77_5 rfl; have z5 := lv_neT (a := 6) c77_6 rfl; omega) (by decide) ?_
        refine lv_iconst (v := 0) hx hb dX0_attacks_224 (by decide) ?_
        exact cRz hx hb hr hlk hK hP hD hS (Or.inl rfl) hR.symm dX0_attacks_225
      refine lv_icmp_ne (tgt := 70) hx hb dX0_attacks_63 (by decide) (fun c63 => ?_) (fun c63 => ?_)
      · have hR := hR.trans (if_pos c63)
        refine lv_iconst (v := 0) hx hb dX0_attacks_70 (by decide) ?_
        exact hj71 0 _ _ ls hP hD hS (lv_sub hl [1, 2, 3, 4, 5, 6, 0] rfl) hR
      · have hR := hR.trans (if_neg (fun z => z c63))
        refine lv_iconst (v := 1) hx hb dX0_attacks_66 (by decide) ?_
        refine lv_goto (tgt := 71) hx hb dX0_attacks_67 (by decide) ?_
        exact hj71 1 _ _ ls hP hD hS (lv_sub hl [1, 2, 3, 4, 5, 6, 0] rfl) hR
    refine lv_if_eq (tgt := 52) hx hb dX0_attacks_44 (by decide) (fun c44 => ?_) (fun c44 => ?_)
    · have hR := hR.trans (if_pos c44)
      refine lv_iconst (v := 1) hx hb dX0_attacks_52 (by decide) ?_
      refine lv_goto (tgt := 57) hx hb dX0_attacks_53 (by decide) ?_
      exact hj57 1 _ _ ls hP hD hS (lv_sub hl [3, 4, 5, 2, 1, 0] rfl) hR
    · have hR := hR.trans (if_neg c44)
      refine lv_iload hx hb dX0_attacks_47 (lv_at hl 0 rfl) ?_
      refine lv_if_ne (tgt := 56) hx hb dX0_attacks_49 (by decide) (fun c49 => ?_) (fun c49 => ?_)
      · have hR := hR.trans (if_pos c49)
        refine lv_iconst (v := 0) hx hb dX0_attacks_56 (by decide) ?_
        exact hj57 0 _ _ ls hP hD hS (lv_sub hl [3, 4, 5, 2, 1, 0] rfl) hR
      · have hR := hR.trans (if_neg (fun z => z c49))
        refine lv_iconst (v := 1) hx hb dX0_attacks_52 (by decide) ?_
        refine lv_goto (tgt := 57) hx hb dX0_attacks_53 (by decide) ?_
        exact hj57 1 _ _ ls hP hD hS (lv_sub hl [3, 4, 5, 2, 1, 0] rfl) hR
  · have hR := hR.trans (if_neg (fun z => z c2))
    refine lv_iconst (v := 0) hx hb dX0_attacks_5 (by decide) ?_
    exact cRz hx hb hr hlk hK hP hD hS (Or.inl rfl) hR.symm dX0_attacks_6
def qX0_squareBehind (F : Nat → Int32) (A : Nat → Nat → Int32) (p1 : Int32) : Int32 := (p1 - (8 * (qX0_onward (F 1))))
abbrev rmX0_squareBehind : Room := { frames := 1, cells := 0, slots := 0, locals := 20 }
theorem nX0_squareBehind : yX0_squareBehind.cls = RX0 ∧ yX0_squareBehind.cls ≠ "java/lang/invoke/MethodHandle" ∧ yX0_squareBehind.cls ≠ "java/lang/invoke/VarHandle" ∧ (parseMethodDescriptor yX0_squareBehind.desc).map (fun d => d.parameters.length) = some 1 := by decide +kernel
theorem in_X0_squareBehind : ∀ w ∈ wsX00, w ∈ wsX0_squareBehind := fun w h => by
  unfold wsX0_squareBehind
  exact List.mem_cons_of_mem _ (List.mem_append_right _ h)
theorem kX0_squareBehind_0 : Cond.fieldLink RX0 82 "Board" "side" "I" ∈ wsX0_squareBehind := by decide +kernel
set_option maxHeartbeats 4000000 in
set_option maxRecDepth 100000 in
theorem mX0_squareBehind (l : Launch) (D : va_G) (cI : ClassId) (o : Nat) (h : Nat → Nat) (F : Nat → Int32) (A : Nat → Nat → Int32) (p1 : Int32) (r0 : Int32) (hR : r0 = qX0_squareBehind F A p1) : cMi l yX0_squareBehind wsX0_squareBehind rmX0_squareBehind D [(cI, .int)] (wB cI o h F A) [.ref o, .int p1] r0 (wB cI o h F A) := by
  intro sz
  refine cMet_of (Qc := fun AA => cQi D [(cI, .int)] r0 (wB cI o h F A) AA) (cc := cX0_squareBehind) (maxL := 2) (ret := (some .int)) (by decide) rfl (Nat.le_of_ble_eq_true rfl) ?_ sz
  intro p e s m below meth c AA ls hx hb hr hts hown hml hlk hA hK hP hD hS hl
  have hown : s.vm.findClass RX0 = some m.cls := hown
  have hl : lv_has ls 2 [(0, .ref o), (1, .int p1)] := hl
  rw [qX0_squareBehind] at hR
  refine lv_iload_n hx hb dX0_squareBehind_0 rfl (lv_at hl 1 rfl) ?_
  refine lv_bipush (v := 8) hx hb dX0_squareBehind_1 (by decide) ?_
  refine lv_aload_n hx hb dX0_squareBehind_3 rfl (lv_at hl 0 rfl) ?_
  refine gB hx hb hts in_X0_squareBehind hown hK hP 1 (by decide) rfl kX0_squareBehind_0 dX0_squareBehind_4 ?_
  refine cSi ⟨hx, hb, hml, hown, hts⟩ (mX0_onward l D (F 1) _ rfl) (va_cwS 1 hts gX0_squareBehind_X0_onward rfl rfl rfl nX0_onward ⟨Nat.le_of_ble_eq_true rfl, Nat.le_of_ble_eq_true rfl⟩) rfl hl.1 rfl (Nat.le_of_ble_eq_true rfl) dX0_squareBehind_7 ⟨Nat.zero_le _, Nat.zero_le _⟩ hK hP hS hA (fun H locs hP hS => ?_)
  refine lv_imul hx hb dX0_squareBehind_10 ?_
  refine lv_isub hx hb dX0_squareBehind_11 ?_
  exact cRi hx hb hr hlk hK hP hD hS hR.symm dX0_squareBehind_12
def qX0_canBeTakenInPassing (F : Nat → Int32) (A : Nat → Nat → Int32) (p1 : Int32) : Int32 := (if ¬ p1 = (F 3) then 0 else (if (qX0_isFree F A p1) = 0 then 0 else (if (qX0_holds F A (qX0_squareBehind F A p1) (qX0_pieceOf 1 (qX0_otherThan (F 1)))) = 0 then 0 else 1)))
abbrev rmX0_canBeTakenInPassing : Room := { frames := 2, cells := 0, slots := 0, locals := 42 }
theorem nX0_canBeTakenInPassing : yX0_canBeTakenInPassing.cls = RX0 ∧ yX0_canBeTakenInPassing.cls ≠ "java/lang/invoke/MethodHandle" ∧ yX0_canBeTakenInPassing.cls ≠ "java/lang/invoke/VarHandle" ∧ (parseMethodDescriptor yX0_canBeTakenInPassing.desc).map (fun d => d.parameters.length) = some 1 := by decide +kernel
theorem in_X0_canBeTakenInPassing : ∀ w ∈ wsX00, w ∈ wsX0_canBeTakenInPassing := fun w h => by
  unfold wsX0_canBeTakenInPassing
  exact List.mem_cons_of_mem _ (List.mem_append_right _ h)
theorem kX0_canBeTakenInPassing_0 : Cond.fieldLink RX0 85 "Board" "passing" "I" ∈ wsX0_canBeTakenInPassing := by decide +kernel
theorem kX0_canBeTakenInPassing_1 : Cond.fieldLink RX0 82 "Board" "side" "I" ∈ wsX0_canBeTakenInPassing := by decide +kernel
set_option maxHeartbeats 4000000 in
set_option maxRecDepth 100000 in
theorem mX0_canBeTakenInPassing (l : Launch) (D : va_G) (cI : ClassId) (o : Nat) (h : Nat → Nat) (F : Nat → Int32) (A : Nat → Nat → Int32) (p1 : Int32) (r0 : Int32) (hR : r0 = qX0_canBeTakenInPassing F A p1) : cMi l yX0_canBeTakenInPassing wsX0_canBeTakenInPassing rmX0_canBeTakenInPassing D [(cI, .int)] (wB cI o h F A) [.ref o, .int p1] r0 (wB cI o h F A) := by
  intro sz
  refine cMet_of (Qc := fun AA => cQi D [(cI, .int)] r0 (wB cI o h F A) AA) (cc := cX0_canBeTakenInPassing) (maxL := 2) (ret := (some .boolean)) (by decide) rfl (Nat.le_of_ble_eq_true rfl) ?_ sz
  intro p e s m below meth c AA ls hx hb hr hts hown hml hlk hA hK hP hD hS hl
  have hown : s.vm.findClass RX0 = some m.cls := hown
  have hl : lv_has ls 2 [(0, .ref o), (1, .int p1)] := hl
  rw [qX0_canBeTakenInPassing] at hR
  refine lv_iload_n hx hb dX0_canBeTakenInPassing_0 rfl (lv_at hl 1 rfl) ?_
  refine lv_aload_n hx hb dX0_canBeTakenInPassing_1 rfl (lv_at hl 0 rfl) ?_
  refine gB hx hb hts in_X0_canBeTakenInPassing hown hK hP 3 (by decide) rfl kX0_canBeTakenInPassing_0 dX0_canBeTakenInPassing_2 ?_
  refine lv_icmp_ne (tgt := 43) hx hb dX0_canBeTakenInPassing_5 (by decide) (fun c5 => ?_) (fun c5 => ?_)
  · have hR := hR.trans (if_pos c5)
    refine lv_iconst (v := 0) hx hb dX0_canBeTakenInPassing_43 (by decide) ?_
    exact cRz hx hb hr hlk hK hP hD hS (Or.inl rfl) hR.symm dX0_canBeTakenInPassing_44
  · have hR := hR.trans (if_neg (fun z => z c5))
    refine lv_aload_n hx hb dX0_canBeTakenInPassing_8 rfl (lv_at hl 0 rfl) ?_
    refine lv_iload_n hx hb dX0_canBeTakenInPassing_9 rfl (lv_at hl 1 rfl) ?_
    refine cVi ⟨hx, hb, hml, hown, hts⟩ (mX0_isFree l D cI o h F A p1 _ rfl) (cwV 1 hts gX0_canBeTakenInPassing_X0_isFree rfl rfl rfl nX0_isFree ⟨Nat.le_of_ble_eq_true rfl, Nat.le_of_ble_eq_true rfl⟩) (va_recv hK hP (ci := 0) (q0 := 0) rfl rfl) rfl hl.1 rfl (Nat.le_of_ble_eq_true rfl) dX0_canBeTakenInPassing_10 ⟨Nat.zero_le _, Nat.zero_le _⟩ hK hP hD hS hA (fun H locs hP hD hS => ?_)
    refine lv_if_eq (tgt := 43) hx hb dX0_canBeTakenInPassing_13 (by decide) (fun c13 => ?_) (fun c13 => ?_)
    · have hR := hR.trans (if_pos c13)
      refine lv_iconst (v := 0) hx hb dX0_canBeTakenInPassing_43 (by decide) ?_
      exact cRz hx hb hr hlk hK hP hD hS (Or.inl rfl) hR.symm dX0_canBeTakenInPassing_44
    · have hR := hR.trans (if_neg c13)
      refine lv_aload_n hx hb dX0_canBeTakenInPassing_16 rfl (lv_at hl 0 rfl) ?_
      refine lv_aload_n hx hb dX0_canBeTakenInPassing_17 rfl (lv_at hl 0 rfl) ?_
      refine lv_iload_n hx hb dX0_canBeTakenInPassing_18 rfl (lv_at hl 1 rfl) ?_
      refine cVi ⟨hx, hb, hml, hown, hts⟩ (mX0_squareBehind l D cI o h F A p1 _ rfl) (cwV 1 hts gX0_canBeTakenInPassing_X0_squareBehind rfl rfl rfl nX0_squareBehind ⟨Nat.le_of_ble_eq_true rfl, Nat.le_of_ble_eq_true rfl⟩) (va_recv hK hP (ci := 0) (q0 := 0) rfl rfl) rfl hl.1 rfl (Nat.le_of_ble_eq_true rfl) dX0_canBeTakenInPassing_19 ⟨Nat.zero_le _, Nat.zero_le _⟩ hK hP hD hS hA (fun H locs hP hD hS => ?_)
      refine lv_iconst (v := 1) hx hb dX0_canBeTakenInPassing_22 (by decide) ?_
      refine lv_aload_n hx hb dX0_canBeTakenInPassing_23 rfl (lv_at hl 0 rfl) ?_
      refine gB hx hb hts in_X0_canBeTakenInPassing hown hK hP 1 (by decide) rfl kX0_canBeTakenInPassing_1 dX0_canBeTakenInPassing_24 ?_
      refine cSi ⟨hx, hb, hml, hown, hts⟩ (mX0_otherThan l D (F 1) _ rfl) (va_cwS 1 hts gX0_canBeTakenInPassing_X0_otherThan rfl rfl rfl nX0_otherThan ⟨Nat.le_of_ble_eq_true rfl, Nat.le_of_ble_eq_true rfl⟩) rfl hl.1 rfl (Nat.le_of_ble_eq_true rfl) dX0_canBeTakenInPassing_27 ⟨Nat.zero_le _, Nat.zero_le _⟩ hK hP hS hA (fun H locs hP hS => ?_)
      refine cSi ⟨hx, hb, hml, hown, hts⟩ (mX0_pieceOf l D 1 (qX0_otherThan (F 1)) _ rfl) (va_cwS 2 hts gX0_canBeTakenInPassing_X0_pieceOf rfl rfl rfl nX0_pieceOf ⟨Nat.le_of_ble_eq_true rfl, Nat.le_of_ble_eq_true rfl⟩) rfl hl.1 rfl (Nat.le_of_ble_eq_true rfl) dX0_canBeTakenInPassing_30 ⟨Nat.zero_le _, Nat.zero_le _⟩ hK hP hS hA (fun H locs hP hS => ?_)
      refine cVi ⟨hx, hb, hml, hown, hts⟩ (mX0_holds l D cI o h F A (qX0_squareBehind F A p1) (qX0_pieceOf 1 (qX0_otherThan (F 1))) _ rfl) (cwV 2 hts gX0_canBeTakenInPassing_X0_holds rfl rfl rfl nX0_holds ⟨Nat.le_of_ble_eq_true rfl, Nat.le_of_ble_eq_true rfl⟩) (va_recv hK hP (ci := 0) (q0 := 0) rfl rfl) rfl hl.1 rfl (Nat.le_of_ble_eq_true rfl) dX0_canBeTakenInPassing_33 ⟨Nat.zero_le _, Nat.zero_le _⟩ hK hP hD hS hA (fun H locs hP hD hS => ?_)
      refine lv_if_eq (tgt := 43) hx hb dX0_canBeTakenInPassing_36 (by decide) (fun c36 => ?_) (fun c36 => ?_)
      · have hR := hR.trans (if_pos c36)
        refine lv_iconst (v := 0) hx hb dX0_canBeTakenInPassing_43 (by decide) ?_
        exact cRz hx hb hr hlk hK hP hD hS (Or.inl rfl) hR.symm dX0_canBeTakenInPassing_44
      · have hR := hR.trans (if_neg c36)
        refine lv_iconst (v := 1) hx hb dX0_canBeTakenInPassing_39 (by decide) ?_
        refine lv_goto (tgt := 44) hx hb dX0_canBeTakenInPassing_40 (by decide) ?_
        exact cRz hx hb hr hlk hK hP hD hS (Or.inr rfl) hR.symm dX0_canBeTakenInPassing_44
def qX0_pawnSteps_j66 (F : Nat → Int32) (A : Nat → Nat → Int32) (x2 : Int32) (x3 : Int32) (s0 : Int32) : Int32 := (if x2 = x3 then 1 else (if s0 = 0 then 0 else 1))
def qX0_pawnSteps (F : Nat → Int32) (A : Nat → Nat → Int32) (p1 : Int32) (p2 : Int32) : Int32 := (if (qX0_isFree F A (p1 + (8 * (qX0_onward (F 1))))) = 0 then 0 else (if ¬ (qX0_isFree F A p2) = 0 then (if ¬ (qX0_rankOf p1) = (qX0_secondRankOf (F 1)) then (qX0_pawnSteps_j66 F A p2 (p1 + (8 * (qX0_onward (F 1)))) 0) else (if ¬ p2 = ((p1 + (8 * (qX0_onward (F 1)))) + (8 * (qX0_onward (F 1)))) then (qX0_pawnSteps_j66 F A p2 (p1 + (8 * (qX0_onward (F 1)))) 0) else (qX0_pawnSteps_j66 F A p2 (p1 + (8 * (qX0_onward (F 1)))) 1))) else 0))
abbrev rmX0_pawnSteps : Room := { frames := 2, cells := 0, slots := 0, locals := 41 }
theorem nX0_pawnSteps : yX0_pawnSteps.cls = RX0 ∧ yX0_pawnSteps.cls ≠ "java/lang/invoke/MethodHandle" ∧ yX0_pawnSteps.cls ≠ "java/lang/invoke/VarHandle" ∧ (parseMethodDescriptor yX0_pawnSteps.desc).map (fun d => d.parameters.length) = some 2 := by decide +kernel
theorem in_X0_pawnSteps : ∀ w ∈ wsX00, w ∈ wsX0_pawnSteps := fun w h => by
  unfold wsX0_pawnSteps
  exact List.mem_cons_of_mem _ (List.mem_append_right _ h)
theorem kX0_pawnSteps_0 : Cond.fieldLink RX0 82 "Board" "side" "I" ∈ wsX0_pawnSteps := by decide +kernel
set_option maxHeartbeats 4000000 in
set_option maxRecDepth 100000 in
theorem mX0_pawnSteps (l : Launch) (D : va_G) (cI : ClassId) (o : Nat) (h : Nat → Nat) (F : Nat → Int32) (A : Nat → Nat → Int32) (p1 : Int32) (p2 : Int32) (r0 : Int32) (hR : r0 = qX0_pawnSteps F A p1 p2) : cMi l yX0_pawnSteps wsX0_pawnSteps rmX0_pawnSteps D [(cI, .int)] (wB cI o h F A) [.ref o, .int p1, .int p2] r0 (wB cI o h F A) := by
  intro sz
  refine cMet_of (Qc := fun AA => cQi D [(cI, .int)] r0 (wB cI o h F A) AA) (cc := cX0_pawnSteps) (maxL := 5) (ret := (some .boolean)) (by decide) rfl (Nat.le_of_ble_eq_true rfl) ?_ sz
  intro p e s m below meth c AA ls hx hb hr hts hown hml hlk hA hK hP hD hS hl
  have hown : s.vm.findClass RX0 = some m.cls := hown
  have hl : lv_has ls 5 [(0, .ref o), (1, .int p1), (2, .int p2)] := hl
  rw [qX0_pawnSteps] at hR
  refine lv_iload_n hx hb dX0_pawnSteps_0 rfl (lv_at hl 1 rfl) ?_
  refine lv_bipush (v := 8) hx hb dX0_pawnSteps_1 (by decide) ?_
  refine lv_aload_n hx hb dX0_pawnSteps_3 rfl (lv_at hl 0 rfl) ?_
  refine gB hx hb hts in_X0_pawnSteps hown hK hP 1 (by decide) rfl kX0_pawnSteps_0 dX0_pawnSteps_4 ?_
  refine cSi ⟨hx, hb, hml, hown, hts⟩ (mX0_onward l D (F 1) _ rfl) (va_cwS 1 hts gX0_pawnSteps_X0_onward rfl rfl rfl nX0_onward ⟨Nat.le_of_ble_eq_true rfl, Nat.le_of_ble_eq_true rfl⟩) rfl hl.1 rfl (Nat.le_of_ble_eq_true rfl) dX0_pawnSteps_7 ⟨Nat.zero_le _, Nat.zero_le _⟩ hK hP hS hA (fun H locs hP hS => ?_)
  refine lv_imul hx hb dX0_pawnSteps_10 ?_
  refine lv_iadd hx hb dX0_pawnSteps_11 ?_
  refine lv_istore_n (lv' := [(3, .int (p1 + (8 * (qX0_onward (F 1))))), (0, .ref o), (1, .int p1), (2, .int p2)]) hx hb dX0_pawnSteps_12 rfl hl (by decide) rfl (fun ls hl => ?_)
  refine lv_aload_n hx hb dX0_pawnSteps_13 rfl (lv_at hl 1 rfl) ?_
  refine lv_iload_n hx hb dX0_pawnSteps_14 rfl (lv_at hl 0 rfl) ?_
  refine cVi ⟨hx, hb, hml, hown, hts⟩ (mX0_isFree l D cI o h F A (p1 + (8 * (qX0_onward (F 1)))) _ rfl) (cwV 1 hts gX0_pawnSteps_X0_isFree rfl rfl rfl nX0_isFree ⟨Nat.le_of_ble_eq_true rfl, Nat.le_of_ble_eq_true rfl⟩) (va_recv hK hP (ci := 0) (q0 := 0) rfl rfl) rfl hl.1 rfl (Nat.le_of_ble_eq_true rfl) dX0_pawnSteps_15 ⟨Nat.zero_le _, Nat.zero_le _⟩ hK hP hD hS hA (fun H locs hP hD hS => ?_)
  refine lv_if_eq (tgt := 29) hx hb dX0_pawnSteps_18 (by decide) (fun c18 => ?_) (fun c18 => ?_)
  · have hR := hR.trans (if_pos c18)
    refine lv_iconst (v := 0) hx hb dX0_pawnSteps_29 (by decide) ?_
    exact cRz hx hb hr hlk hK hP hD hS (Or.inl rfl) hR.symm dX0_pawnSteps_30
  · have hR := hR.trans (if_neg c18)
    refine lv_aload_n hx hb dX0_pawnSteps_21 rfl (lv_at hl 1 rfl) ?_
    refine lv_iload_n hx hb dX0_pawnSteps_22 rfl (lv_at hl 3 rfl) ?_
    refine cVi ⟨hx, hb, hml, hown, hts⟩ (mX0_isFree l D cI o h F A p2 _ rfl) (cwV 1 hts gX0_pawnSteps_X0_isFree rfl rfl rfl nX0_isFree ⟨Nat.le_of_ble_eq_true rfl, Nat.le_of_ble_eq_true rfl⟩) (va_recv hK hP (ci := 0) (q0 := 0) rfl rfl) rfl hl.1 rfl (Nat.le_of_ble_eq_true rfl) dX0_pawnSteps_23 ⟨Nat.zero_le _, Nat.zero_le _⟩ hK hP hD hS hA (fun H locs hP hD hS => ?_)
    refine lv_if_ne (tgt := 31) hx hb dX0_pawnSteps_26 (by decide) (fun c26 => ?_) (fun c26 => ?_)
    · have hR := hR.trans (if_pos c26)
      refine lv_iload_n hx hb dX0_pawnSteps_31 rfl (lv_at hl 2 rfl) ?_
      refine cSi ⟨hx, hb, hml, hown, hts⟩ (mX0_rankOf l D p1 _ rfl) (va_cwS 1 hts gX0_pawnSteps_X0_rankOf rfl rfl rfl nX0_rankOf ⟨Nat.le_of_ble_eq_true rfl, Nat.le_of_ble_eq_true rfl⟩) rfl hl.1 rfl (Nat.le_of_ble_eq_true rfl) dX0_pawnSteps_32 ⟨Nat.zero_le _, Nat.zero_le _⟩ hK hP hS hA (fun H locs hP hS => ?_)
      refine lv_aload_n hx hb dX0_pawnSteps_35 rfl (lv_at hl 1 rfl) ?_
      refine gB hx hb hts in_X0_pawnSteps hown hK hP 1 (by decide) rfl kX0_pawnSteps_0 dX0_pawnSteps_36 ?_
      refine cSi ⟨hx, hb, hml, hown, hts⟩ (mX0_secondRankOf l D (F 1) _ rfl) (va_cwS 1 hts gX0_pawnSteps_X0_secondRankOf rfl rfl rfl nX0_secondRankOf ⟨Nat.le_of_ble_eq_true rfl, Nat.le_of_ble_eq_true rfl⟩) rfl hl.1 rfl (Nat.le_of_ble_eq_true rfl) dX0_pawnSteps_39 ⟨Nat.zero_le _, Nat.zero_le _⟩ hK hP hS hA (fun H locs hP hS => ?_)
      have hj66 : ∀ (s66_0 : Int32) (H : Heap) (locs : List Loc) (ls : Array Slot), va_P D vwCl (wB cI o h F A) H → va_D AA (wB cI o h F A) → va_S AA s.heap H locs → lv_has ls 5 [(0, .ref o), (2, .int p2), (3, .int (p1 + (8 * (qX0_onward (F 1)))))] → r0 = qX0_pawnSteps_j66 F A p2 (p1 + (8 * (qX0_onward (F 1)))) s66_0 → W p l e rmX0_pawnSteps s m [.ref o, .int p1, .int p2].toArray below meth c H locs 0 0 (MQ below (cQi D [(cI, .int)] r0 (wB cI o h F A) AA) [.ref o, .int p1, .int p2].toArray s 0 0 AA) (F0 m 66 ls [.int s66_0]) := by
        intro s66_0 H locs ls  hP hD hS hl hR
        rw [qX0_pawnSteps_j66] at hR
        refine lv_istore (lv' := [(4, .int s66_0), (0, .ref o), (2, .int p2), (3, .int (p1 + (8 * (qX0_onward (F 1)))))]) hx hb dX0_pawnSteps_66 hl (by decide) rfl (fun ls hl => ?_)
        refine lv_iload_n hx hb dX0_pawnSteps_68 rfl (lv_at hl 2 rfl) ?_
        refine lv_iload_n hx hb dX0_pawnSteps_69 rfl (lv_at hl 3 rfl) ?_
        refine lv_icmp_eq (tgt := 78) hx hb dX0_pawnSteps_70 (by decide) (fun c70 => ?_) (fun c70 => ?_)
        · have hR := hR.trans (if_pos c70)
          refine lv_iconst (v := 1) hx hb dX0_pawnSteps_78 (by decide) ?_
          refine lv_goto (tgt := 83) hx hb dX0_pawnSteps_79 (by decide) ?_
          exact cRz hx hb hr hlk hK hP hD hS (Or.inr rfl) hR.symm dX0_pawnSteps_83
        · have hR := hR.trans (if_neg c70)
          refine lv_iload hx hb dX0_pawnSteps_73 (lv_at hl 0 rfl) ?_
          refine lv_if_eq (tgt := 82) hx hb dX0_pawnSteps_75 (by decide) (fun c75 => ?_) (fun c75 => ?_)
          · have hR := hR.trans (if_pos c75)
            refine lv_iconst (v := 0) hx hb dX0_pawnSteps_82 (by decide) ?_
            exact cRz hx hb hr hlk hK hP hD hS (Or.inl rfl) hR.symm dX0_pawnSteps_83
          · have hR := hR.trans (if_neg c75)
            refine lv_iconst (v := 1) hx hb dX0_pawnSteps_78 (by decide) ?_
            refine lv_goto (tgt := 83) hx hb dX0_pawnSteps_79 (by decide) ?_
            exact cRz hx hb hr hlk hK hP hD hS (Or.inr rfl) hR.symm dX0_pawnSteps_83
      refine lv_icmp_ne (tgt := 65) hx hb dX0_pawnSteps_42 (by decide) (fun c42 => ?_) (fun c42 => ?_)
      · have hR := hR.trans (if_pos c42)
        refine lv_iconst (v := 0) hx hb dX0_pawnSteps_65 (by decide) ?_
        exact hj66 0 _ _ ls hP hD hS (lv_sub hl [1, 3, 0] rfl) hR
      · have hR := hR.trans (if_neg (fun z => z c42))
        refine lv_iload_n hx hb dX0_pawnSteps_45 rfl (lv_at hl 3 rfl) ?_
        refine lv_iload_n hx hb dX0_pawnSteps_46 rfl (lv_at hl 0 rfl) ?_
        refine lv_bipush (v := 8) hx hb dX0_pawnSteps_47 (by decide) ?_
        refine lv_aload_n hx hb dX0_pawnSteps_49 rfl (lv_at hl 1 rfl) ?_
        refine gB hx hb hts in_X0_pawnSteps hown hK hP 1 (by decide) rfl kX0_pawnSteps_0 dX0_pawnSteps_50 ?_
        refine cSi ⟨hx, hb, hml, hown, hts⟩ (mX0_onward l D (F 1) _ rfl) (va_cwS 1 hts gX0_pawnSteps_X0_onward rfl rfl rfl nX0_onward ⟨Nat.le_of_ble_eq_true rfl, Nat.le_of_ble_eq_true rfl⟩) rfl hl.1 rfl (Nat.le_of_ble_eq_true rfl) dX0_pawnSteps_53 ⟨Nat.zero_le _, Nat.zero_le _⟩ hK hP hS hA (fun H locs hP hS => ?_)
        refine lv_imul hx hb dX0_pawnSteps_56 ?_
        refine lv_iadd hx hb dX0_pawnSteps_57 ?_
        refine lv_icmp_ne (tgt := 65) hx hb dX0_pawnSteps_58 (by decide) (fun c58 => ?_) (fun c58 => ?_)
        · have hR := hR.trans (if_pos c58)
          refine lv_iconst (v := 0) hx hb dX0_pawnSteps_65 (by decide) ?_
          exact hj66 0 _ _ ls hP hD hS (lv_sub hl [1, 3, 0] rfl) hR
        · have hR := hR.trans (if_neg (fun z => z c58))
          refine lv_iconst (v := 1) hx hb dX0_pawnSteps_61 (by decide) ?_
          refine lv_goto (tgt := 66) hx hb dX0_pawnSteps_62 (by decide) ?_
          exact hj66 1 _ _ ls hP hD hS (lv_sub hl [1, 3, 0] rfl) hR
    · have hR := hR.trans (if_neg (fun z => z c26))
      refine lv_iconst (v := 0) hx hb dX0_pawnSteps_29 (by decide) ?_
      exact cRz hx hb hr hlk hK hP hD hS (Or.inl rfl) hR.symm dX0_pawnSteps_30
def qX0_pawnTakes (F : Nat → Int32) (A : Nat → Nat → Int32) (p1 : Int32) (p2 : Int32) : Int32 := (if (qX0_pawnAttacks (F 1) p1 p2) = 0 then 0 else (if (qX0_sideOf (A 0 (Int32.toNatClampNeg p2))) = (qX0_otherThan (F 1)) then 1 else (if (qX0_canBeTakenInPassing F A p2) = 0 then 0 else 1)))
abbrev rmX0_pawnTakes : Room := { frames := 3, cells := 0, slots := 0, locals := 63 }
theorem nX0_pawnTakes : yX0_pawnTakes.cls = RX0 ∧ yX0_pawnTakes.cls ≠ "java/lang/invoke/MethodHandle" ∧ yX0_pawnTakes.cls ≠ "java/lang/invoke/VarHandle" ∧ (parseMethodDescriptor yX0_pawnTakes.desc).map (fun d => d.parameters.length) = some 2 := by decide +kernel
theorem in_X0_pawnTakes : ∀ w ∈ wsX00, w ∈ wsX0_pawnTakes := fun w h => by
  unfold wsX0_pawnTakes
  exact List.mem_cons_of_mem _ (List.mem_append_right _ h)
theorem kX0_pawnTakes_0 : Cond.fieldLink RX0 82 "Board" "side" "I" ∈ wsX0_pawnTakes := by decide +kernel
theorem kX0_pawnTakes_1 : Cond.fieldLink RX0 9 "Board" "board" "[I" ∈ wsX0_pawnTakes := by decide +kernel
set_option maxHeartbeats 4000000 in
set_option maxRecDepth 100000 in
theorem mX0_pawnTakes (l : Launch) (D : va_G) (cI : ClassId) (o : Nat) (h : Nat → Nat) (F : Nat → Int32) (A : Nat → Nat → Int32) (p1 : Int32) (p2 : Int32) (h2 : vp_in p2 64) (r0 : Int32) (hR : r0 = qX0_pawnTakes F A p1 p2) : cMi l yX0_pawnTakes wsX0_pawnTakes rmX0_pawnTakes D [(cI, .int)] (wB cI o h F A) [.ref o, .int p1, .int p2] r0 (wB cI o h F A) := by
  intro sz
  refine cMet_of (Qc := fun AA => cQi D [(cI, .int)] r0 (wB cI o h F A) AA) (cc := cX0_pawnTakes) (maxL := 3) (ret := (some .boolean)) (by decide) rfl (Nat.le_of_ble_eq_true rfl) ?_ sz
  intro p e s m below meth c AA ls hx hb hr hts hown hml hlk hA hK hP hD hS hl
  have hown : s.vm.findClass RX0 = some m.cls := hown
  have hl : lv_has ls 3 [(0, .ref o), (1, .int p1), (2, .int p2)] := hl
  rw [qX0_pawnTakes] at hR
  refine lv_aload_n hx hb dX0_pawnTakes_0 rfl (lv_at hl 0 rfl) ?_
  refine gB hx hb hts in_X0_pawnTakes hown hK hP 1 (by decide) rfl kX0_pawnTakes_0 dX0_pawnTakes_1 ?_
  refine lv_iload_n hx hb dX0_pawnTakes_4 rfl (lv_at hl 1 rfl) ?_
  refine lv_iload_n hx hb dX0_pawnTakes_5 rfl (lv_at hl 2 rfl) ?_
  refine cSi ⟨hx, hb, hml, hown, hts⟩ (mX0_pawnAttacks l D (F 1) p1 p2 _ rfl) (va_cwS 3 hts gX0_pawnTakes_X0_pawnAttacks rfl rfl rfl nX0_pawnAttacks ⟨Nat.le_of_ble_eq_true rfl, Nat.le_of_ble_eq_true rfl⟩) rfl hl.1 rfl (Nat.le_of_ble_eq_true rfl) dX0_pawnTakes_6 ⟨Nat.zero_le _, Nat.zero_le _⟩ hK hP hS hA (fun H locs hP hS => ?_)
  refine lv_if_eq (tgt := 43) hx hb dX0_pawnTakes_9 (by decide) (fun c9 => ?_) (fun c9 => ?_)
  · have hR := hR.trans (if_pos c9)
    refine lv_iconst (v := 0) hx hb dX0_pawnTakes_43 (by decide) ?_
    exact cRz hx hb hr hlk hK hP hD hS (Or.inl rfl) hR.symm dX0_pawnTakes_44
  · have hR := hR.trans (if_neg c9)
    refine lv_aload_n hx hb dX0_pawnTakes_12 rfl (lv_at hl 0 rfl) ?_
    refine gB hx hb hts in_X0_pawnTakes hown hK hP 0 (by decide) rfl kX0_pawnTakes_1 dX0_pawnTakes_13 ?_
    refine lv_iload_n hx hb dX0_pawnTakes_16 rfl (lv_at hl 2 rfl) ?_
    refine va_iald (f := A 0) hx hb hK hP 1 0 rfl rfl h2 dX0_pawnTakes_17 ?_
    refine cSi ⟨hx, hb, hml, hown, hts⟩ (mX0_sideOf l D (A 0 (Int32.toNatClampNeg p2)) _ rfl) (va_cwS 1 hts gX0_pawnTakes_X0_sideOf rfl rfl rfl nX0_sideOf ⟨Nat.le_of_ble_eq_true rfl, Nat.le_of_ble_eq_true rfl⟩) rfl hl.1 rfl (Nat.le_of_ble_eq_true rfl) dX0_pawnTakes_18 ⟨Nat.zero_le _, Nat.zero_le _⟩ hK hP hS hA (fun H locs hP hS => ?_)
    refine lv_aload_n hx hb dX0_pawnTakes_21 rfl (lv_at hl 0 rfl) ?_
    refine gB hx hb hts in_X0_pawnTakes hown hK hP 1 (by decide) rfl kX0_pawnTakes_0 dX0_pawnTakes_22 ?_
    refine cSi ⟨hx, hb, hml, hown, hts⟩ (mX0_otherThan l D (F 1) _ rfl) (va_cwS 1 hts gX0_pawnTakes_X0_otherThan rfl rfl rfl nX0_otherThan ⟨Nat.le_of_ble_eq_true rfl, Nat.le_of_ble_eq_true rfl⟩) rfl hl.1 rfl (Nat.le_of_ble_eq_true rfl) dX0_pawnTakes_25 ⟨Nat.zero_le _, Nat.zero_le _⟩ hK hP hS hA (fun H locs hP hS => ?_)
    refine lv_icmp_eq (tgt := 39) hx hb dX0_pawnTakes_28 (by decide) (fun c28 => ?_) (fun c28 => ?_)
    · have hR := hR.trans (if_pos c28)
      refine lv_iconst (v := 1) hx hb dX0_pawnTakes_39 (by decide) ?_
      refine lv_goto (tgt := 44) hx hb dX0_pawnTakes_40 (by decide) ?_
      exact cRz hx hb hr hlk hK hP hD hS (Or.inr rfl) hR.symm dX0_pawnTakes_44
    · have hR := hR.trans (if_neg c28)
      refine lv_aload_n hx hb dX0_pawnTakes_31 rfl (lv_at hl 0 rfl) ?_
      refine lv_iload_n hx hb dX0_pawnTakes_32 rfl (lv_at hl 2 rfl) ?_
      refine cVi ⟨hx, hb, hml, hown, hts⟩ (mX0_canBeTakenInPassing l D cI o h F A p2 _ rfl) (cwV 1 hts gX0_pawnTakes_X0_canBeTakenInPassing rfl rfl rfl nX0_canBeTakenInPassing ⟨Nat.le_of_ble_eq_true rfl, Nat.le_of_ble_eq_true rfl⟩) (va_recv hK hP (ci := 0) (q0 := 0) rfl rfl) rfl hl.1 rfl (Nat.le_of_ble_eq_true rfl) dX0_pawnTakes_33 ⟨Nat.zero_le _, Nat.zero_le _⟩ hK hP hD hS hA (fun H locs hP hD hS => ?_)
      refine lv_if_eq (tgt := 43) hx hb dX0_pawnTakes_36 (by decide) (fun c36 => ?_) (fun c36 => ?_)
      · have hR := hR.trans (if_pos c36)
        refine lv_iconst (v := 0) hx hb dX0_pawnTakes_43 (by decide) ?_
        exact cRz hx hb hr hlk hK hP hD hS (Or.inl rfl) hR.symm dX0_pawnTakes_44
      · have hR := hR.trans (if_neg c36)
        refine lv_iconst (v := 1) hx hb dX0_pawnTakes_39 (by decide) ?_
        refine lv_goto (tgt := 44) hx hb dX0_pawnTakes_40 (by decide) ?_
        exact cRz hx hb hr hlk hK hP hD hS (Or.inr rfl) hR.symm dX0_pawnTakes_44
def qX0_castles (F : Nat → Int32) (A : Nat → Nat → Int32) (p1 : Int32) (p2 : Int32) : Int32 := (if ¬ p1 = (qX0_homeOfKing (F 1)) then 0 else (if ¬ (qX0_isTwoFilesAway p1 p2) = 0 then (if ((F 2) &&& (qX0_rightOfCorner (qX0_cornerBeyond p1 p2))) = 0 then 0 else (if (qX0_holds F A (qX0_cornerBeyond p1 p2) (qX0_pieceOf 4 (F 1))) = 0 then 0 else (if (qX0_isOpen F A p1 (qX0_cornerBeyond p1 p2)) = 0 then 0 else 1))) else 0))
abbrev rmX0_castles : Room := { frames := 3, cells := 0, slots := 0, locals := 68 }
theorem nX0_castles : yX0_castles.cls = RX0 ∧ yX0_castles.cls ≠ "java/lang/invoke/MethodHandle" ∧ yX0_castles.cls ≠ "java/lang/invoke/VarHandle" ∧ (parseMethodDescriptor yX0_castles.desc).map (fun d => d.parameters.length) = some 2 := by decide +kernel
theorem in_X0_castles : ∀ w ∈ wsX00, w ∈ wsX0_castles := fun w h => by
  unfold wsX0_castles
  exact List.mem_cons_of_mem _ (List.mem_append_right _ h)
theorem kX0_castles_0 : Cond.fieldLink RX0 82 "Board" "side" "I" ∈ wsX0_castles := by decide +kernel
theorem kX0_castles_1 : Cond.fieldLink RX0 41 "Board" "rights" "I" ∈ wsX0_castles := by decide +kernel
set_option maxHeartbeats 4000000 in
set_option maxRecDepth 100000 in
theorem mX0_castles (l : Launch) (D : va_G) (cI : ClassId) (o : Nat) (h : Nat → Nat) (F : Nat → Int32) (A : Nat → Nat → Int32) (p1 : Int32) (p2 : Int32) (r0 : Int32) (hR : r0 = qX0_castles F A p1 p2) : cMi l yX0_castles wsX0_castles rmX0_castles D [(cI, .int)] (wB cI o h F A) [.ref o, .int p1, .int p2] r0 (wB cI o h F A) := by
  intro sz
  refine cMet_of (Qc := fun AA => cQi D [(cI, .int)] r0 (wB cI o h F A) AA) (cc := cX0_castles) (maxL := 4) (ret := (some .boolean)) (by decide) rfl (Nat.le_of_ble_eq_true rfl) ?_ sz
  intro p e s m below meth c AA ls hx hb hr hts hown hml hlk hA hK hP hD hS hl
  have hown : s.vm.findClass RX0 = some m.cls := hown
  have hl : lv_has ls 4 [(0, .ref o), (1, .int p1), (2, .int p2)] := hl
  rw [qX0_castles] at hR
  refine lv_iload_n hx hb dX0_castles_0 rfl (lv_at hl 1 rfl) ?_
  refine lv_aload_n hx hb dX0_castles_1 rfl (lv_at hl 0 rfl) ?_
  refine gB hx hb hts in_X0_castles hown hK hP 1 (by decide) rfl kX0_castles_0 dX0_castles_2 ?_
  refine cSi ⟨hx, hb, hml, hown, hts⟩ (mX0_homeOfKing l D (F 1) _ rfl) (va_cwS 1 hts gX0_castles_X0_homeOfKing rfl rfl rfl nX0_homeOfKing ⟨Nat.le_of_ble_eq_true rfl, Nat.le_of_ble_eq_true rfl⟩) rfl hl.1 rfl (Nat.le_of_ble_eq_true rfl) dX0_castles_5 ⟨Nat.zero_le _, Nat.zero_le _⟩ hK hP hS hA (fun H locs hP hS => ?_)
  refine lv_icmp_ne (tgt := 19) hx hb dX0_castles_8 (by decide) (fun c8 => ?_) (fun c8 => ?_)
  · have hR := hR.trans (if_pos c8)
    refine lv_iconst (v := 0) hx hb dX0_castles_19 (by decide) ?_
    exact cRz hx hb hr hlk hK hP hD hS (Or.inl rfl) hR.symm dX0_castles_20
  · have hR := hR.trans (if_neg (fun z => z c8))
    refine lv_iload_n hx hb dX0_castles_11 rfl (lv_at hl 1 rfl) ?_
    refine lv_iload_n hx hb dX0_castles_12 rfl (lv_at hl 2 rfl) ?_
    refine cSi ⟨hx, hb, hml, hown, hts⟩ (mX0_isTwoFilesAway l D p1 p2 _ rfl) (va_cwS 2 hts gX0_castles_X0_isTwoFilesAway rfl rfl rfl nX0_isTwoFilesAway ⟨Nat.le_of_ble_eq_true rfl, Nat.le_of_ble_eq_true rfl⟩) rfl hl.1 rfl (Nat.le_of_ble_eq_true rfl) dX0_castles_13 ⟨Nat.zero_le _, Nat.zero_le _⟩ hK hP hS hA (fun H locs hP hS => ?_)
    refine lv_if_ne (tgt := 21) hx hb dX0_castles_16 (by decide) (fun c16 => ?_) (fun c16 => ?_)
    · have hR := hR.trans (if_pos c16)
      refine lv_iload_n hx hb dX0_castles_21 rfl (lv_at hl 1 rfl) ?_
      refine lv_iload_n hx hb dX0_castles_22 rfl (lv_at hl 2 rfl) ?_
      refine cSi ⟨hx, hb, hml, hown, hts⟩ (mX0_cornerBeyond l D p1 p2 _ rfl) (va_cwS 2 hts gX0_castles_X0_cornerBeyond rfl rfl rfl nX0_cornerBeyond ⟨Nat.le_of_ble_eq_true rfl, Nat.le_of_ble_eq_true rfl⟩) rfl hl.1 rfl (Nat.le_of_ble_eq_true rfl) dX0_castles_23 ⟨Nat.zero_le _, Nat.zero_le _⟩ hK hP hS hA (fun H locs hP hS => ?_)
      refine lv_istore_n (lv' := [(3, .int (qX0_cornerBeyond p1 p2)), (0, .ref o), (1, .int p1), (2, .int p2)]) hx hb dX0_castles_26 rfl hl (by decide) rfl (fun ls hl => ?_)
      refine lv_aload_n hx hb dX0_castles_27 rfl (lv_at hl 1 rfl) ?_
      refine gB hx hb hts in_X0_castles hown hK hP 2 (by decide) rfl kX0_castles_1 dX0_castles_28 ?_
      refine lv_iload_n hx hb dX0_castles_31 rfl (lv_at hl 0 rfl) ?_
      refine cSi ⟨hx, hb, hml, hown, hts⟩ (mX0_rightOfCorner l D (qX0_cornerBeyond p1 p2) _ rfl) (va_cwS 1 hts gX0_castles_X0_rightOfCorner rfl rfl rfl nX0_rightOfCorner ⟨Nat.le_of_ble_eq_true rfl, Nat.le_of_ble_eq_true rfl⟩) rfl hl.1 rfl (Nat.le_of_ble_eq_true rfl) dX0_castles_32 ⟨Nat.zero_le _, Nat.zero_le _⟩ hK hP hS hA (fun H locs hP hS => ?_)
      refine lv_iand hx hb dX0_castles_35 ?_
      refine lv_if_eq (tgt := 68) hx hb dX0_castles_36 (by decide) (fun c36 => ?_) (fun c36 => ?_)
      · have hR := hR.trans (if_pos c36)
        refine lv_iconst (v := 0) hx hb dX0_castles_68 (by decide) ?_
        exact cRz hx hb hr hlk hK hP hD hS (Or.inl rfl) hR.symm dX0_castles_69
      · have hR := hR.trans (if_neg c36)
        refine lv_aload_n hx hb dX0_castles_39 rfl (lv_at hl 1 rfl) ?_
        refine lv_iload_n hx hb dX0_castles_40 rfl (lv_at hl 0 rfl) ?_
        refine lv_iconst (v := 4) hx hb dX0_castles_41 (by decide) ?_
        refine lv_aload_n hx hb dX0_castles_42 rfl (lv_at hl 1 rfl) ?_
        refine gB hx hb hts in_X0_castles hown hK hP 1 (by decide) rfl kX0_castles_0 dX0_castles_43 ?_
        refine cSi ⟨hx, hb, hml, hown, hts⟩ (mX0_pieceOf l D 4 (F 1) _ rfl) (va_cwS 2 hts gX0_castles_X0_pieceOf rfl rfl rfl nX0_pieceOf ⟨Nat.le_of_ble_eq_true rfl, Nat.le_of_ble_eq_true rfl⟩) rfl hl.1 rfl (Nat.le_of_ble_eq_true rfl) dX0_castles_46 ⟨Nat.zero_le _, Nat.zero_le _⟩ hK hP hS hA (fun H locs hP hS => ?_)
        refine cVi ⟨hx, hb, hml, hown, hts⟩ (mX0_holds l D cI o h F A (qX0_cornerBeyond p1 p2) (qX0_pieceOf 4 (F 1)) _ rfl) (cwV 2 hts gX0_castles_X0_holds rfl rfl rfl nX0_holds ⟨Nat.le_of_ble_eq_true rfl, Nat.le_of_ble_eq_true rfl⟩) (va_recv hK hP (ci := 0) (q0 := 0) rfl rfl) rfl hl.1 rfl (Nat.le_of_ble_eq_true rfl) dX0_castles_49 ⟨Nat.zero_le _, Nat.zero_le _⟩ hK hP hD hS hA (fun H locs hP hD hS => ?_)
        refine lv_if_eq (tgt := 68) hx hb dX0_castles_52 (by decide) (fun c52 => ?_) (fun c52 => ?_)
        · have hR := hR.trans (if_pos c52)
          refine lv_iconst (v := 0) hx hb dX0_castles_68 (by decide) ?_
          exact cRz hx hb hr hlk hK hP hD hS (Or.inl rfl) hR.symm dX0_castles_69
        · have hR := hR.trans (if_neg c52)
          refine lv_aload_n hx hb dX0_castles_55 rfl (lv_at hl 1 rfl) ?_
          refine lv_iload_n hx hb dX0_castles_56 rfl (lv_at hl 2 rfl) ?_
          refine lv_iload_n hx hb dX0_castles_57 rfl (lv_at hl 0 rfl) ?_
          refine cVi ⟨hx, hb, hml, hown, hts⟩ (mX0_isOpen l D cI o h F A p1 (qX0_cornerBeyond p1 p2) _ rfl) (cwV 2 hts gX0_castles_X0_isOpen rfl rfl rfl nX0_isOpen ⟨Nat.le_of_ble_eq_true rfl, Nat.le_of_ble_eq_true rfl⟩) (va_recv hK hP (ci := 0) (q0 := 0) rfl rfl) rfl hl.1 rfl (Nat.le_of_ble_eq_true rfl) dX0_castles_58 ⟨Nat.zero_le _, Nat.zero_le _⟩ hK hP hD hS hA (fun H locs hP hD hS => ?_)
          refine lv_if_eq (tgt := 68) hx hb dX0_castles_61 (by decide) (fun c61 => ?_) (fun c61 => ?_)
          · have hR := hR.trans (if_pos c61)
            refine lv_iconst (v := 0) hx hb dX0_castles_68 (by decide) ?_
            exact cRz hx hb hr hlk hK hP hD hS (Or.inl rfl) hR.symm dX0_castles_69
          · have hR := hR.trans (if_neg c61)
            refine lv_iconst (v := 1) hx hb dX0_castles_64 (by decide) ?_
            refine lv_goto (tgt := 69) hx hb dX0_castles_65 (by decide) ?_
            exact cRz hx hb hr hlk hK hP hD hS (Or.inr rfl) hR.symm dX0_castles_69
    · have hR := hR.trans (if_neg (fun z => z c16))
      refine lv_iconst (v := 0) hx hb dX0_castles_19 (by decide) ?_
      exact cRz hx hb hr hlk hK hP hD hS (Or.inl rfl) hR.symm dX0_castles_20
theorem bX0_attacks (F : Nat → Int32) (A : Nat → Nat → Int32) (a b : Int32) : qX0_attacks F A a b = 0 ∨ qX0_attacks F A a b = 1 := by
  simp only [qX0_attacks, qX0_attacks_j57, qX0_attacks_j71, qX0_attacks_j191]
  repeat' (first | with_reducible refine b_ite ?_ ?_ | with_reducible exact bX0_pawnAttacks _ _ _ | exact Or.inl rfl | exact Or.inr rfl)
