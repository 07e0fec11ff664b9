def qX1_make_j417 (F : Nat → Int32) (A : Nat → Nat → Int32) (x10 : Int32) (s0 : Int32) : Int32 × tFA := (x10, (uf (uf (uf F 5 s0) 6 ((F 6) + (F 2))) 2 (1 - (F 2))), A)
def qX1_make_j393 (F : Nat → Int32) (A : Nat → Nat → Int32) (x6 : Int32) (x10 : Int32) (s0 : Int32) : Int32 × tFA := (if ¬ x6 = 0 then (qX1_make_j417 (uf F 4 s0) A x10 0) else (if x10 ≤ 0 then (qX1_make_j417 (uf F 4 s0) A x10 ((F 5) + 1)) else (qX1_make_j417 (uf F 4 s0) A x10 0)))
def qX1_make_j358 (F : Nat → Int32) (A : Nat → Nat → Int32) (x2 : Int32) (x3 : Int32) (x6 : Int32) (x10 : Int32) (s0 : Int32) : Int32 × tFA := (if s0 = 0 then (qX1_make_j393 F A x6 x10 (-1)) else (if (qX1_pawnAttacks F A ((x2 + x3) / 2) (1 - (F 2))) = 0 then (qX1_make_j393 F A x6 x10 (-1)) else (qX1_make_j393 F A x6 x10 ((x2 + x3) / 2))))
def qX1_make_j308 (F : Nat → Int32) (A : Nat → Nat → Int32) (x2 : Int32) (x3 : Int32) (x6 : Int32) (x10 : Int32) (s0 : Int32) : Int32 × tFA := (if x6 = 0 then (qX1_make_j358 (uf (uf F 3 s0) 3 ((s0 &&& ((qX1_corner x2) ^^^ (-1))) &&& ((qX1_corner x3) ^^^ (-1)))) A x2 x3 x6 x10 0) else (if ¬ (qX1_apart (x2 / 8) (x3 / 8)) = 2 then (qX1_make_j358 (uf (uf F 3 s0) 3 ((s0 &&& ((qX1_corner x2) ^^^ (-1))) &&& ((qX1_corner x3) ^^^ (-1)))) A x2 x3 x6 x10 0) else (qX1_make_j358 (uf (uf F 3 s0) 3 ((s0 &&& ((qX1_corner x2) ^^^ (-1))) &&& ((qX1_corner x3) ^^^ (-1)))) A x2 x3 x6 x10 1)))
def qX1_make_j275 (F : Nat → Int32) (A : Nat → Nat → Int32) (x2 : Int32) (x3 : Int32) (x5 : Int32) (x6 : Int32) (x10 : Int32) : Int32 × tFA := (if ¬ (qX1_kindOf x5) = 6 then (qX1_make_j308 F A x2 x3 x6 x10 (F 3)) else (qX1_make_j308 F A x2 x3 x6 x10 ((F 3) &&& ((3 <<< ((2 * (F 2)) &&& 31)) ^^^ (-1)))))
def qX1_make_j248 (F : Nat → Int32) (A : Nat → Nat → Int32) (x2 : Int32) (x3 : Int32) (x5 : Int32) (x6 : Int32) (x10 : Int32) (s0 : Int32) : Int32 × tFA := (qX1_make_j275 F (ua (ua A 1 (Int32.toNatClampNeg ((x2 + x3) / 2)) (A 1 (Int32.toNatClampNeg s0))) 1 (Int32.toNatClampNeg s0) 0) x2 x3 x5 x6 x10)
def qX1_make_j228 (F : Nat → Int32) (A : Nat → Nat → Int32) (x2 : Int32) (x3 : Int32) (x5 : Int32) (x6 : Int32) (x7 : Int32) (x10 : Int32) (s0 : Int32) (s1 : Int32) : Int32 × tFA := (if x7 = 0 then (qX1_make_j275 F (ua A 1 (Int32.toNatClampNeg s1) s0) x2 x3 x5 x6 x10) else (if x3 ≤ x2 then (qX1_make_j248 F (ua A 1 (Int32.toNatClampNeg s1) s0) x2 x3 x5 x6 x10 (x2 - 4)) else (qX1_make_j248 F (ua A 1 (Int32.toNatClampNeg s1) s0) x2 x3 x5 x6 x10 (x2 + 3))))
def qX1_make_j194 (F : Nat → Int32) (A : Nat → Nat → Int32) (x2 : Int32) (x3 : Int32) (x4 : Int32) (x5 : Int32) (x6 : Int32) (x7 : Int32) (x10 : Int32) (s0 : Int32) : Int32 × tFA := (if x4 ≤ 0 then (qX1_make_j228 F (ua (ua A 1 (Int32.toNatClampNeg s0) 0) 1 (Int32.toNatClampNeg x2) 0) x2 x3 x5 x6 x7 x10 x5 x3) else (qX1_make_j228 F (ua (ua A 1 (Int32.toNatClampNeg s0) 0) 1 (Int32.toNatClampNeg x2) 0) x2 x3 x5 x6 x7 x10 (x4 + (6 * (F 2))) x3))
def qX1_make_j177 (F : Nat → Int32) (A : Nat → Nat → Int32) (x2 : Int32) (x3 : Int32) (x4 : Int32) (x5 : Int32) (x6 : Int32) (x7 : Int32) (x8 : Int32) (x9 : Int32) (s0 : Int32) : Int32 × tFA := (if x8 = 0 then (qX1_make_j194 F A x2 x3 x4 x5 x6 x7 s0 x3) else (qX1_make_j194 F A x2 x3 x4 x5 x6 x7 s0 x9))
def qX1_make_j154 (F : Nat → Int32) (A : Nat → Nat → Int32) (x2 : Int32) (x3 : Int32) (x4 : Int32) (x5 : Int32) (x6 : Int32) (x7 : Int32) (x8 : Int32) (s0 : Int32) : Int32 × tFA := (if x8 = 0 then (qX1_make_j177 F A x2 x3 x4 x5 x6 x7 x8 s0 (A 1 (Int32.toNatClampNeg x3))) else (qX1_make_j177 F A x2 x3 x4 x5 x6 x7 x8 s0 (A 1 (Int32.toNatClampNeg s0))))
def qX1_make_j129 (F : Nat → Int32) (A : Nat → Nat → Int32) (x1 : Int32) (x2 : Int32) (x3 : Int32) (x4 : Int32) (x5 : Int32) (x6 : Int32) (x7 : Int32) (s0 : Int32) : Int32 × tFA := (if ¬ (((qX1_keep F A x1).1) 2) = 0 then (qX1_make_j154 ((qX1_keep F A x1).1) ((qX1_keep F A x1).2) x2 x3 x4 x5 x6 x7 s0 (x3 + 8)) else (qX1_make_j154 ((qX1_keep F A x1).1) ((qX1_keep F A x1).2) x2 x3 x4 x5 x6 x7 s0 (x3 - 8)))
def qX1_make_j108 (F : Nat → Int32) (A : Nat → Nat → Int32) (x1 : Int32) (x2 : Int32) (x3 : Int32) (x4 : Int32) (x5 : Int32) (x6 : Int32) (s0 : Int32) : Int32 × tFA := (if x6 = 0 then (qX1_make_j129 F A x1 x2 x3 x4 x5 x6 s0 0) else (if (qX1_takesPassing F A x2 x3) = 0 then (qX1_make_j129 F A x1 x2 x3 x4 x5 x6 s0 0) else (qX1_make_j129 F A x1 x2 x3 x4 x5 x6 s0 1)))
def qX1_make_j82 (F : Nat → Int32) (A : Nat → Nat → Int32) (x1 : Int32) (x2 : Int32) (x3 : Int32) (x4 : Int32) (x5 : Int32) (s0 : Int32) : Int32 × tFA := (if ¬ (qX1_kindOf x5) = 6 then (qX1_make_j108 F A x1 x2 x3 x4 x5 s0 0) else (if ¬ (qX1_attacks F A x2 x3) = 0 then (qX1_make_j108 F A x1 x2 x3 x4 x5 s0 0) else (qX1_make_j108 F A x1 x2 x3 x4 x5 s0 1)))
def qX1_make_j28 (F : Nat → Int32) (A : Nat → Nat → Int32) (x1 : Int32) (s0 : Int32) : Int32 × tFA := (if s0 ≤ 0 then (if ¬ (qX1_kindOf (A 1 (Int32.toNatClampNeg (x1 - x1 / 64 * 64)))) = 1 then (qX1_make_j82 (uf F 0 s0) A x1 (x1 - x1 / 64 * 64) ((x1 / 64) - (x1 / 64) / 64 * 64) (x1 / 4096) (A 1 (Int32.toNatClampNeg (x1 - x1 / 64 * 64))) 0) else (qX1_make_j82 (uf F 0 s0) A x1 (x1 - x1 / 64 * 64) ((x1 / 64) - (x1 / 64) / 64 * 64) (x1 / 4096) (A 1 (Int32.toNatClampNeg (x1 - x1 / 64 * 64))) 1)) else (0, (uf F 0 s0), A))
def qX1_make (F : Nat → Int32) (A : Nat → Nat → Int32) (p1 : Int32) : Int32 × tFA := (if ¬ (qX1_isMove F A p1) = 0 then (if ¬ (F 7) = 600 then (qX1_make_j28 F A p1 0) else (qX1_make_j28 F A p1 2)) else (qX1_make_j28 F A p1 1))
abbrev rmX1_make : Room := { frames := 5, cells := 0, slots := 0, locals := 124 }
theorem nX1_make : yX1_make.cls = RX1 ∧ yX1_make.cls ≠ "java/lang/invoke/MethodHandle" ∧ yX1_make.cls ≠ "java/lang/invoke/VarHandle" ∧ (parseMethodDescriptor yX1_make.desc).map (fun d => d.parameters.length) = some 1 := by decide +kernel
theorem in_X1_make : ∀ w ∈ wsX10, w ∈ wsX1_make := fun w h => by
  unfold wsX1_make
  exact List.mem_cons_of_mem _ (List.mem_append_right _ h)
theorem kX1_make_0 : Cond.fieldLink RX1 43 "BoardModel" "made" "I" ∈ wsX1_make := by decide +kernel
theorem kX1_make_1 : Cond.fieldLink RX1 31 "BoardModel" "thrown" "I" ∈ wsX1_make := by decide +kernel
theorem kX1_make_2 : Cond.fieldLink RX1 7 "BoardModel" "squares" "[I" ∈ wsX1_make := by decide +kernel
theorem kX1_make_3 : Cond.fieldLink RX1 34 "BoardModel" "side" "I" ∈ wsX1_make := by decide +kernel
theorem kX1_make_4 : Cond.fieldLink RX1 37 "BoardModel" "rights" "I" ∈ wsX1_make := by decide +kernel
theorem kX1_make_5 : Cond.fieldLink RX1 13 "BoardModel" "passing" "I" ∈ wsX1_make := by decide +kernel
theorem kX1_make_6 : Cond.fieldLink RX1 40 "BoardModel" "half" "I" ∈ wsX1_make := by decide +kernel
theorem kX1_make_7 : Cond.fieldLink RX1 17 "BoardModel" "full" "I" ∈ wsX1_make := by decide +kernel
set_option maxHeartbeats 4000000 in
set_option maxRecDepth 100000 in
theorem mX1_make (l : Launch) (D : va_G) (cI cB : ClassId) (o : Nat) (h : Nat → Nat) (F : Nat → Int32) (A : Nat → Nat → Int32) (p1 : Int32) (hm : ∃ k : Nat, k ≤ 600 ∧ F 7 = nI k) (r0 : Int32 × tFA) (hR : r0 = qX1_make F A p1) : cMi l yX1_make wsX1_make rmX1_make D [(cI, .int), (cB, .byte)] (wR cI cB o h F A) [.ref o, .int p1] r0.1 (wR cI cB o h r0.2.1 r0.2.2) := by
  intro sz
  refine cMet_of (Qc := fun AA => cQi D [(cI, .int), (cB, .byte)] r0.1 (wR cI cB o h r0.2.1 r0.2.2) AA) (cc := cX1_make) (maxL := 12) (ret := (some .int)) (by decide) rfl (Nat.le_of_ble_eq_true rfl) ?_ sz
  intro p e s m below meth c AA ls hx hb hr hts hown hml hlk hA hK hP hD hS hl
  have hown : s.vm.findClass RX1 = some m.cls := hown
  have hl : lv_has ls 12 [(0, .ref o), (1, .int p1)] := hl
  rw [qX1_make] at hR
  refine lv_aload_n hx hb dX1_make_0 rfl (lv_at hl 0 rfl) ?_
  refine lv_aload_n hx hb dX1_make_1 rfl (lv_at hl 0 rfl) ?_
  refine lv_iload_n hx hb dX1_make_2 rfl (lv_at hl 1 rfl) ?_
  refine cVi ⟨hx, hb, hml, hown, hts⟩ (mX1_isMove l D cI cB o h F A p1 _ rfl) (cwV 1 hts gX1_make_X1_isMove rfl rfl rfl nX1_isMove ⟨Nat.le_of_ble_eq_true rfl, Nat.le_of_ble_eq_true rfl⟩) (va_recv hK hP (ci := 1) (q0 := 0) rfl rfl) rfl hl.1 rfl (Nat.le_of_ble_eq_true rfl) dX1_make_3 ⟨Nat.zero_le _, Nat.zero_le _⟩ hK hP hD hS hA (fun H locs hP hD hS => ?_)
  have hj28 : ∀ (s28_0 : Int32) (H : Heap) (locs : List Loc) (ls : Array Slot), (s28_0 ≤ 0 → (¬ qX1_isMove F A p1 = 0 ∧ ¬ F 7 = 600)) → va_P D vwCl (wR cI cB o h F A) H → va_D AA (wR cI cB o h F A) → va_S AA s.heap H locs → lv_has ls 12 [(0, .ref o), (1, .int p1)] → r0 = qX1_make_j28 F A p1 s28_0 → W p l e rmX1_make s m [.ref o, .int p1].toArray below meth c H locs 0 0 (MQ below (cQi D [(cI, .int), (cB, .byte)] r0.1 (wR cI cB o h r0.2.1 r0.2.2) AA) [.ref o, .int p1].toArray s 0 0 AA) (F0 m 28 ls [.int s28_0, .ref o]) := by
    intro s28_0 H locs ls h28 hP hD hS hl hR
    rw [qX1_make_j28] at hR
    refine pR0 hx hb hts in_X1_make hown hK hP hD hS kX1_make_1 dX1_make_28 (fun H locs hP hD hS => ?_)
    refine lv_aload_n hx hb dX1_make_31 rfl (lv_at hl 0 rfl) ?_
    refine gR hx hb hts in_X1_make hown hK hP 0 (by decide) rfl kX1_make_1 dX1_make_32 ?_
    refine lv_if_le (tgt := 40) hx hb dX1_make_35 (by decide) (fun c35 => ?_) (fun c35 => ?_)
    · have hR := hR.trans (if_pos c35)
      obtain ⟨hmv, h600⟩ := h28 c35
      have hge : ¬ p1 < 0 := (mvIn hmv).1
      refine lv_iload_n hx hb dX1_make_40 rfl (lv_at hl 1 rfl) ?_
      refine lv_bipush (v := 64) hx hb dX1_make_41 (by decide) ?_
      refine lv_irem hx hb dX1_make_43 (by decide) ?_
      refine lv_topi (fun y2 ey2 => ?_)
      rw [← ey2] at hR
      refine lv_istore_n (lv' := [(2, .int y2), (0, .ref o), (1, .int p1)]) hx hb dX1_make_44 rfl hl (by decide) rfl (fun ls hl => ?_)
      refine lv_iload_n hx hb dX1_make_45 rfl (lv_at hl 2 rfl) ?_
      refine lv_bipush (v := 64) hx hb dX1_make_46 (by decide) ?_
      refine lv_idiv hx hb dX1_make_48 (by decide) ?_
      refine lv_bipush (v := 64) hx hb dX1_make_49 (by decide) ?_
      refine lv_irem hx hb dX1_make_51 (by decide) ?_
      refine lv_topi (fun y3 ey3 => ?_)
      rw [← ey3] at hR
      refine lv_istore_n (lv' := [(3, .int y3), (2, .int y2), (0, .ref o), (1, .int p1)]) hx hb dX1_make_52 rfl hl (by decide) rfl (fun ls hl => ?_)
      refine lv_iload_n hx hb dX1_make_53 rfl (lv_at hl 3 rfl) ?_
      refine lv_sipush (v := 4096) hx hb dX1_make_54 (by decide) ?_
      refine lv_idiv hx hb dX1_make_57 (by decide) ?_
      refine lv_topi (fun y4 ey4 => ?_)
      rw [← ey4] at hR
      refine lv_istore (lv' := [(4, .int y4), (3, .int y3), (2, .int y2), (0, .ref o), (1, .int p1)]) hx hb dX1_make_58 hl (by decide) rfl (fun ls hl => ?_)
      have hy2 : vp_in y2 64 := by rw [ey2]; exact inRem hge
      have hy3 : vp_in y3 64 := by rw [ey3]; exact inRem2 hge
      refine lv_aload_n hx hb dX1_make_60 rfl (lv_at hl 3 rfl) ?_
      refine gR hx hb hts in_X1_make hown hK hP 1 (by decide) rfl kX1_make_2 dX1_make_61 ?_
      refine lv_iload_n hx hb dX1_make_64 rfl (lv_at hl 2 rfl) ?_
      refine va_iald (f := A 1) hx hb hK hP 1 0 rfl rfl hy2 dX1_make_65 ?_
      refine lv_topi (fun y5 ey5 => ?_)
      rw [← ey5] at hR
      refine lv_istore (lv' := [(5, .int y5), (4, .int y4), (3, .int y3), (2, .int y2), (0, .ref o), (1, .int p1)]) hx hb dX1_make_66 hl (by decide) rfl (fun ls hl => ?_)
      refine lv_iload hx hb dX1_make_68 (lv_at hl 0 rfl) ?_
      refine cSi ⟨hx, hb, hml, hown, hts⟩ (mX1_kindOf l D y5 _ rfl) (va_cwS 1 hts gX1_make_X1_kindOf rfl rfl rfl nX1_kindOf ⟨Nat.le_of_ble_eq_true rfl, Nat.le_of_ble_eq_true rfl⟩) rfl hl.1 rfl (Nat.le_of_ble_eq_true rfl) dX1_make_70 ⟨Nat.zero_le _, Nat.zero_le _⟩ hK hP hS hA (fun H locs hP hS => ?_)
      refine lv_iconst (v := 1) hx hb dX1_make_73 (by decide) ?_
      have hj82 : ∀ (s82_0 : Int32) (H : Heap) (locs : List Loc) (ls : Array Slot), va_P D vwCl (wR cI cB o h (uf F 0 s28_0) A) H → va_D AA (wR cI cB o h (uf F 0 s28_0) A) → va_S AA s.heap H locs → lv_has ls 12 [(0, .ref o), (1, .int p1), (2, .int y2), (3, .int y3), (4, .int y4), (5, .int y5)] → r0 = qX1_make_j82 (uf F 0 s28_0) A p1 y2 y3 y4 y5 s82_0 → W p l e rmX1_make s m [.ref o, .int p1].toArray below meth c H locs 0 0 (MQ below (cQi D [(cI, .int), (cB, .byte)] r0.1 (wR cI cB o h r0.2.1 r0.2.2) AA) [.ref o, .int p1].toArray s 0 0 AA) (F0 m 82 ls [.int s82_0]) := by
        intro s82_0 H locs ls  hP hD hS hl hR
        rw [qX1_make_j82] at hR
        refine lv_istore (lv' := [(6, .int s82_0), (0, .ref o), (1, .int p1), (2, .int y2), (3, .int y3), (4, .int y4), (5, .int y5)]) hx hb dX1_make_82 hl (by decide) rfl (fun ls hl => ?_)
        refine lv_iload hx hb dX1_make_84 (lv_at hl 6 rfl) ?_
        refine cSi ⟨hx, hb, hml, hown, hts⟩ (mX1_kindOf l D y5 _ rfl) (va_cwS 1 hts gX1_make_X1_kindOf rfl rfl rfl nX1_kindOf ⟨Nat.le_of_ble_eq_true rfl, Nat.le_of_ble_eq_true rfl⟩) rfl hl.1 rfl (Nat.le_of_ble_eq_true rfl) dX1_make_86 ⟨Nat.zero_le _, Nat.zero_le _⟩ hK hP hS hA (fun H locs hP hS => ?_)
        refine lv_bipush (v := 6) hx hb dX1_make_89 (by decide) ?_
        have hj108 : ∀ (s108_0 : Int32) (H : Heap) (locs : List Loc) (ls : Array Slot), (¬ s108_0 = 0 → (qX1_kindOf y5 = 6 ∧ qX1_attacks (uf F 0 s28_0) A y2 y3 = 0)) → va_P D vwCl (wR cI cB o h (uf F 0 s28_0) A) H → va_D AA (wR cI cB o h (uf F 0 s28_0) A) → va_S AA s.heap H locs → lv_has ls 12 [(0, .ref o), (1, .int p1), (2, .int y2), (3, .int y3), (4, .int y4), (5, .int y5), (6, .int s82_0)] → r0 = qX1_make_j108 (uf F 0 s28_0) A p1 y2 y3 y4 y5 s82_0 s108_0 → W p l e rmX1_make s m [.ref o, .int p1].toArray below meth c H locs 0 0 (MQ below (cQi D [(cI, .int), (cB, .byte)] r0.1 (wR cI cB o h r0.2.1 r0.2.2) AA) [.ref o, .int p1].toArray s 0 0 AA) (F0 m 108 ls [.int s108_0]) := by
          intro s108_0 H locs ls h108 hP hD hS hl hR
          rw [qX1_make_j108] at hR
          refine lv_istore (lv' := [(7, .int s108_0), (0, .ref o), (1, .int p1), (2, .int y2), (3, .int y3), (4, .int y4), (5, .int y5), (6, .int s82_0)]) hx hb dX1_make_108 hl (by decide) rfl (fun ls hl => ?_)
          refine lv_iload hx hb dX1_make_110 (lv_at hl 7 rfl) ?_
          have hj129 : ∀ (s129_0 : Int32) (H : Heap) (locs : List Loc) (ls : Array Slot), (¬ s129_0 = 0 → ¬ qX1_takesPassing (uf F 0 s28_0) A y2 y3 = 0) → va_P D vwCl (wR cI cB o h (uf F 0 s28_0) A) H → va_D AA (wR cI cB o h (uf F 0 s28_0) A) → va_S AA s.heap H locs → lv_has ls 12 [(0, .ref o), (1, .int p1), (2, .int y2), (3, .int y3), (4, .int y4), (5, .int y5), (6, .int s82_0), (7, .int s108_0)] → r0 = qX1_make_j129 (uf F 0 s28_0) A p1 y2 y3 y4 y5 s82_0 s108_0 s129_0 → W p l e rmX1_make s m [.ref o, .int p1].toArray below meth c H locs 0 0 (MQ below (cQi D [(cI, .int), (cB, .byte)] r0.1 (wR cI cB o h r0.2.1 r0.2.2) AA) [.ref o, .int p1].toArray s 0 0 AA) (F0 m 129 ls [.int s129_0]) := by
            intro s129_0 H locs ls h129 hP hD hS hl hR
            rw [qX1_make_j129] at hR
            refine lv_istore (lv' := [(8, .int s129_0), (0, .ref o), (1, .int p1), (2, .int y2), (3, .int y3), (4, .int y4), (5, .int y5), (6, .int s82_0), (7, .int s108_0)]) hx hb dX1_make_129 hl (by decide) rfl (fun ls hl => ?_)
            refine lv_aload_n hx hb dX1_make_131 rfl (lv_at hl 1 rfl) ?_
            refine lv_iload_n hx hb dX1_make_132 rfl (lv_at hl 2 rfl) ?_
            refine cVv ⟨hx, hb, hml, hown, hts⟩ (mX1_keep l D cI cB o h (uf F 0 s28_0) A p1 (mdLt hm h600) _ rfl) (cwV 1 hts gX1_make_X1_keep rfl rfl rfl nX1_keep ⟨Nat.le_of_ble_eq_true rfl, Nat.le_of_ble_eq_true rfl⟩) (va_recv hK hP (ci := 1) (q0 := 0) rfl rfl) rfl hl.1 rfl (Nat.le_of_ble_eq_true rfl) dX1_make_133 ⟨Nat.zero_le _, Nat.zero_le _⟩ hK hP hD hS hA (fun H locs hP hD hS => ?_)
            refine lv_aload_n hx hb dX1_make_136 rfl (lv_at hl 1 rfl) ?_
            refine gR hx hb hts in_X1_make hown hK hP 2 (by decide) rfl kX1_make_3 dX1_make_137 ?_
            have hj154 : ∀ (s154_0 : Int32) (H : Heap) (locs : List Loc) (ls : Array Slot), (((uf F 0 s28_0) 2 = 0 ∧ s154_0 = y3 - 8) ∨ (¬ (uf F 0 s28_0) 2 = 0 ∧ s154_0 = y3 + 8)) → va_P D vwCl (wR cI cB o h ((qX1_keep (uf F 0 s28_0) A p1).1) ((qX1_keep (uf F 0 s28_0) A p1).2)) H → va_D AA (wR cI cB o h ((qX1_keep (uf F 0 s28_0) A p1).1) ((qX1_keep (uf F 0 s28_0) A p1).2)) → va_S AA s.heap H locs → lv_has ls 12 [(0, .ref o), (2, .int y2), (3, .int y3), (4, .int y4), (5, .int y5), (6, .int s82_0), (7, .int s108_0), (8, .int s129_0)] → r0 = qX1_make_j154 ((qX1_keep (uf F 0 s28_0) A p1).1) ((qX1_keep (uf F 0 s28_0) A p1).2) y2 y3 y4 y5 s82_0 s108_0 s129_0 s154_0 → W p l e rmX1_make s m [.ref o, .int p1].toArray below meth c H locs 0 0 (MQ below (cQi D [(cI, .int), (cB, .byte)] r0.1 (wR cI cB o h r0.2.1 r0.2.2) AA) [.ref o, .int p1].toArray s 0 0 AA) (F0 m 154 ls [.int s154_0]) := by
              intro s154_0 H locs ls h154 hP hD hS hl hR
              rw [qX1_make_j154] at hR
              refine lv_istore (lv' := [(9, .int s154_0), (0, .ref o), (2, .int y2), (3, .int y3), (4, .int y4), (5, .int y5), (6, .int s82_0), (7, .int s108_0), (8, .int s129_0)]) hx hb dX1_make_154 hl (by decide) rfl (fun ls hl => ?_)
              refine lv_iload hx hb dX1_make_156 (lv_at hl 8 rfl) ?_
              have hj177 : ∀ (s177_0 : Int32) (H : Heap) (locs : List Loc) (ls : Array Slot), va_P D vwCl (wR cI cB o h ((qX1_keep (uf F 0 s28_0) A p1).1) ((qX1_keep (uf F 0 s28_0) A p1).2)) H → va_D AA (wR cI cB o h ((qX1_keep (uf F 0 s28_0) A p1).1) ((qX1_keep (uf F 0 s28_0) A p1).2)) → va_S AA s.heap H locs → lv_has ls 12 [(0, .ref o), (2, .int y2), (3, .int y3), (4, .int y4), (5, .int y5), (6, .int s82_0), (7, .int s108_0), (8, .int s129_0), (9, .int s154_0)] → r0 = qX1_make_j177 ((qX1_keep (uf F 0 s28_0) A p1).1) ((qX1_keep (uf F 0 s28_0) A p1).2) y2 y3 y4 y5 s82_0 s108_0 s129_0 s154_0 s177_0 → W p l e rmX1_make s m [.ref o, .int p1].toArray below meth c H locs 0 0 (MQ below (cQi D [(cI, .int), (cB, .byte)] r0.1 (wR cI cB o h r0.2.1 r0.2.2) AA) [.ref o, .int p1].toArray s 0 0 AA) (F0 m 177 ls [.int s177_0]) := by
                intro s177_0 H locs ls  hP hD hS hl hR
                rw [qX1_make_j177] at hR
                refine lv_istore (lv' := [(10, .int s177_0), (0, .ref o), (2, .int y2), (3, .int y3), (4, .int y4), (5, .int y5), (6, .int s82_0), (7, .int s108_0), (8, .int s129_0), (9, .int s154_0)]) hx hb dX1_make_177 hl (by decide) rfl (fun ls hl => ?_)
                refine lv_aload_n hx hb dX1_make_179 rfl (lv_at hl 1 rfl) ?_
                refine gR hx hb hts in_X1_make hown hK hP 1 (by decide) rfl kX1_make_2 dX1_make_180 ?_
                refine lv_iload hx hb dX1_make_183 (lv_at hl 8 rfl) ?_
                have hj194 : ∀ (s194_0 : Int32) (H : Heap) (locs : List Loc) (ls : Array Slot), (vp_in s194_0 64) → va_P D vwCl (wR cI cB o h ((qX1_keep (uf F 0 s28_0) A p1).1) ((qX1_keep (uf F 0 s28_0) A p1).2)) H → va_D AA (wR cI cB o h ((qX1_keep (uf F 0 s28_0) A p1).1) ((qX1_keep (uf F 0 s28_0) A p1).2)) → va_S AA s.heap H locs → lv_has ls 12 [(0, .ref o), (2, .int y2), (3, .int y3), (4, .int y4), (5, .int y5), (6, .int s82_0), (7, .int s108_0), (10, .int s177_0)] → r0 = qX1_make_j194 ((qX1_keep (uf F 0 s28_0) A p1).1) ((qX1_keep (uf F 0 s28_0) A p1).2) y2 y3 y4 y5 s82_0 s108_0 s177_0 s194_0 → W p l e rmX1_make s m [.ref o, .int p1].toArray below meth c H locs 0 0 (MQ below (cQi D [(cI, .int), (cB, .byte)] r0.1 (wR cI cB o h r0.2.1 r0.2.2) AA) [.ref o, .int p1].toArray s 0 0 AA) (F0 m 194 ls [.int s194_0, .ref (h 1)]) := by
                  intro s194_0 H locs ls h194 hP hD hS hl hR
                  rw [qX1_make_j194] at hR
                  refine lv_iconst (v := 0) hx hb dX1_make_194 (by decide) ?_
                  refine sR1 hx hb hK hP hD hS h194 dX1_make_195 (fun H locs hP hD hS => ?_)
                  refine lv_aload_n hx hb dX1_make_196 rfl (lv_at hl 0 rfl) ?_
                  refine gR hx hb hts in_X1_make hown hK hP 1 (by decide) rfl kX1_make_2 dX1_make_197 ?_
                  refine lv_iload_n hx hb dX1_make_200 rfl (lv_at hl 1 rfl) ?_
                  refine lv_iconst (v := 0) hx hb dX1_make_201 (by decide) ?_
                  refine sR1 hx hb hK hP hD hS hy2 dX1_make_202 (fun H locs hP hD hS => ?_)
                  refine lv_aload_n hx hb dX1_make_203 rfl (lv_at hl 0 rfl) ?_
                  refine gR hx hb hts in_X1_make hown hK hP 1 (by decide) rfl kX1_make_2 dX1_make_204 ?_
                  refine lv_iload_n hx hb dX1_make_207 rfl (lv_at hl 2 rfl) ?_
                  refine lv_iload hx hb dX1_make_208 (lv_at hl 3 rfl) ?_
                  have hj228 : ∀ (s228_0 : Int32) (H : Heap) (locs : List Loc) (ls : Array Slot), va_P D vwCl (wR cI cB o h ((qX1_keep (uf F 0 s28_0) A p1).1) (ua (ua ((qX1_keep (uf F 0 s28_0) A p1).2) 1 (Int32.toNatClampNeg s194_0) 0) 1 (Int32.toNatClampNeg y2) 0)) H → va_D AA (wR cI cB o h ((qX1_keep (uf F 0 s28_0) A p1).1) (ua (ua ((qX1_keep (uf F 0 s28_0) A p1).2) 1 (Int32.toNatClampNeg s194_0) 0) 1 (Int32.toNatClampNeg y2) 0)) → va_S AA s.heap H locs → lv_has ls 12 [(0, .ref o), (2, .int y2), (3, .int y3), (5, .int y5), (6, .int s82_0), (7, .int s108_0), (10, .int s177_0)] → r0 = qX1_make_j228 ((qX1_keep (uf F 0 s28_0) A p1).1) (ua (ua ((qX1_keep (uf F 0 s28_0) A p1).2) 1 (Int32.toNatClampNeg s194_0) 0) 1 (Int32.toNatClampNeg y2) 0) y2 y3 y5 s82_0 s108_0 s177_0 s228_0 y3 → W p l e rmX1_make s m [.ref o, .int p1].toArray below meth c H locs 0 0 (MQ below (cQi D [(cI, .int), (cB, .byte)] r0.1 (wR cI cB o h r0.2.1 r0.2.2) AA) [.ref o, .int p1].toArray s 0 0 AA) (F0 m 228 ls [.int s228_0, .int y3, .ref (h 1)]) := by
                    intro s228_0 H locs ls  hP hD hS hl hR
                    rw [qX1_make_j228] at hR
                    refine sR1 hx hb hK hP hD hS hy3 dX1_make_228 (fun H locs hP hD hS => ?_)
                    refine lv_iload hx hb dX1_make_229 (lv_at hl 5 rfl) ?_
                    have hj275 : ∀ (A275 : Nat → Nat → Int32) (H : Heap) (locs : List Loc) (ls : Array Slot), va_P D vwCl (wR cI cB o h ((qX1_keep (uf F 0 s28_0) A p1).1) A275) H → va_D AA (wR cI cB o h ((qX1_keep (uf F 0 s28_0) A p1).1) A275) → va_S AA s.heap H locs → lv_has ls 12 [(0, .ref o), (2, .int y2), (3, .int y3), (5, .int y5), (6, .int s82_0), (10, .int s177_0)] → r0 = qX1_make_j275 ((qX1_keep (uf F 0 s28_0) A p1).1) A275 y2 y3 y5 s82_0 s177_0 → W p l e rmX1_make s m [.ref o, .int p1].toArray below meth c H locs 0 0 (MQ below (cQi D [(cI, .int), (cB, .byte)] r0.1 (wR cI cB o h r0.2.1 r0.2.2) AA) [.ref o, .int p1].toArray s 0 0 AA) (F0 m 275 ls []) := by
                      intro A275 H locs ls  hP hD hS hl hR
                      rw [qX1_make_j275] at hR
                      refine lv_aload_n hx hb dX1_make_275 rfl (lv_at hl 0 rfl) ?_
                      refine lv_iload hx hb dX1_make_276 (lv_at hl 3 rfl) ?_
                      refine cSi ⟨hx, hb, hml, hown, hts⟩ (mX1_kindOf l D y5 _ rfl) (va_cwS 1 hts gX1_make_X1_kindOf rfl rfl rfl nX1_kindOf ⟨Nat.le_of_ble_eq_true rfl, Nat.le_of_ble_eq_true rfl⟩) rfl hl.1 rfl (Nat.le_of_ble_eq_true rfl) dX1_make_278 ⟨Nat.zero_le _, Nat.zero_le _⟩ hK hP hS hA (fun H locs hP hS => ?_)
                      refine lv_bipush (v := 6) hx hb dX1_make_281 (by decide) ?_
                      have hj308 : ∀ (s308_0 : Int32) (H : Heap) (locs : List Loc) (ls : Array Slot), va_P D vwCl (wR cI cB o h ((qX1_keep (uf F 0 s28_0) A p1).1) A275) H → va_D AA (wR cI cB o h ((qX1_keep (uf F 0 s28_0) A p1).1) A275) → va_S AA s.heap H locs → lv_has ls 12 [(0, .ref o), (2, .int y2), (3, .int y3), (6, .int s82_0), (10, .int s177_0)] → r0 = qX1_make_j308 ((qX1_keep (uf F 0 s28_0) A p1).1) A275 y2 y3 s82_0 s177_0 s308_0 → W p l e rmX1_make s m [.ref o, .int p1].toArray below meth c H locs 0 0 (MQ below (cQi D [(cI, .int), (cB, .byte)] r0.1 (wR cI cB o h r0.2.1 r0.2.2) AA) [.ref o, .int p1].toArray s 0 0 AA) (F0 m 308 ls [.int s308_0, .ref o]) := by
                        intro s308_0 H locs ls  hP hD hS hl hR
                        rw [qX1_make_j308] at hR
                        refine pR3 hx hb hts in_X1_make hown hK hP hD hS kX1_make_4 dX1_make_308 (fun H locs hP hD hS => ?_)
                        refine lv_aload_n hx hb dX1_make_311 rfl (lv_at hl 0 rfl) ?_
                        refine lv_aload_n hx hb dX1_make_312 rfl (lv_at hl 0 rfl) ?_
                        refine gR hx hb hts in_X1_make hown hK hP 3 (by decide) rfl kX1_make_4 dX1_make_313 ?_
                        refine lv_iload_n hx hb dX1_make_316 rfl (lv_at hl 1 rfl) ?_
                        refine cSi ⟨hx, hb, hml, hown, hts⟩ (mX1_corner l D y2 _ rfl) (va_cwS 1 hts gX1_make_X1_corner rfl rfl rfl nX1_corner ⟨Nat.le_of_ble_eq_true rfl, Nat.le_of_ble_eq_true rfl⟩) rfl hl.1 rfl (Nat.le_of_ble_eq_true rfl) dX1_make_317 ⟨Nat.zero_le _, Nat.zero_le _⟩ hK hP hS hA (fun H locs hP hS => ?_)
                        refine lv_iconst (v := (-1)) hx hb dX1_make_320 (by decide) ?_
                        refine lv_ixor hx hb dX1_make_321 ?_
                        refine lv_iand hx hb dX1_make_322 ?_
                        refine lv_iload_n hx hb dX1_make_323 rfl (lv_at hl 2 rfl) ?_
                        refine cSi ⟨hx, hb, hml, hown, hts⟩ (mX1_corner l D y3 _ rfl) (va_cwS 1 hts gX1_make_X1_corner rfl rfl rfl nX1_corner ⟨Nat.le_of_ble_eq_true rfl, Nat.le_of_ble_eq_true rfl⟩) rfl hl.1 rfl (Nat.le_of_ble_eq_true rfl) dX1_make_324 ⟨Nat.zero_le _, Nat.zero_le _⟩ hK hP hS hA (fun H locs hP hS => ?_)
                        refine lv_iconst (v := (-1)) hx hb dX1_make_327 (by decide) ?_
                        refine lv_ixor hx hb dX1_make_328 ?_
                        refine lv_iand hx hb dX1_make_329 ?_
                        refine pR3 hx hb hts in_X1_make hown hK hP hD hS kX1_make_4 dX1_make_330 (fun H locs hP hD hS => ?_)
                        refine lv_iload hx hb dX1_make_333 (lv_at hl 3 rfl) ?_
                        have hj358 : ∀ (s358_0 : Int32) (H : Heap) (locs : List Loc) (ls : Array Slot), va_P D vwCl (wR cI cB o h (uf (uf ((qX1_keep (uf F 0 s28_0) A p1).1) 3 s308_0) 3 ((s308_0 &&& ((qX1_corner y2) ^^^ (-1))) &&& ((qX1_corner y3) ^^^ (-1)))) A275) H → va_D AA (wR cI cB o h (uf (uf ((qX1_keep (uf F 0 s28_0) A p1).1) 3 s308_0) 3 ((s308_0 &&& ((qX1_corner y2) ^^^ (-1))) &&& ((qX1_corner y3) ^^^ (-1)))) A275) → va_S AA s.heap H locs → lv_has ls 12 [(0, .ref o), (2, .int y2), (3, .int y3), (6, .int s82_0), (10, .int s177_0)] → r0 = qX1_make_j358 (uf (uf ((qX1_keep (uf F 0 s28_0) A p1).1) 3 s308_0) 3 ((s308_0 &&& ((qX1_corner y2) ^^^ (-1))) &&& ((qX1_corner y3) ^^^ (-1)))) A275 y2 y3 s82_0 s177_0 s358_0 → W p l e rmX1_make s m [.ref o, .int p1].toArray below meth c H locs 0 0 (MQ below (cQi D [(cI, .int), (cB, .byte)] r0.1 (wR cI cB o h r0.2.1 r0.2.2) AA) [.ref o, .int p1].toArray s 0 0 AA) (F0 m 358 ls [.int s358_0]) := by
                          intro s358_0 H locs ls  hP hD hS hl hR
                          rw [qX1_make_j358] at hR
                          refine lv_istore (lv' := [(11, .int s358_0), (0, .ref o), (2, .int y2), (3, .int y3), (6, .int s82_0), (10, .int s177_0)]) hx hb dX1_make_358 hl (by decide) rfl (fun ls hl => ?_)
                          refine lv_aload_n hx hb dX1_make_360 rfl (lv_at hl 1 rfl) ?_
                          refine lv_iload hx hb dX1_make_361 (lv_at hl 0 rfl) ?_
                          have hj393 : ∀ (s393_0 : Int32) (H : Heap) (locs : List Loc) (ls : Array Slot), va_P D vwCl (wR cI cB o h (uf (uf ((qX1_keep (uf F 0 s28_0) A p1).1) 3 s308_0) 3 ((s308_0 &&& ((qX1_corner y2) ^^^ (-1))) &&& ((qX1_corner y3) ^^^ (-1)))) A275) H → va_D AA (wR cI cB o h (uf (uf ((qX1_keep (uf F 0 s28_0) A p1).1) 3 s308_0) 3 ((s308_0 &&& ((qX1_corner y2) ^^^ (-1))) &&& ((qX1_corner y3) ^^^ (-1)))) A275) → va_S AA s.heap H locs → lv_has ls 12 [(0, .ref o), (6, .int s82_0), (10, .int s177_0)] → r0 = qX1_make_j393 (uf (uf ((qX1_keep (uf F 0 s28_0) A p1).1) 3 s308_0) 3 ((s308_0 &&& ((qX1_corner y2) ^^^ (-1))) &&& ((qX1_corner y3) ^^^ (-1)))) A275 s82_0 s177_0 s393_0 → W p l e rmX1_make s m [.ref o, .int p1].toArray below meth c H locs 0 0 (MQ below (cQi D [(cI, .int), (cB, .byte)] r0.1 (wR cI cB o h r0.2.1 r0.2.2) AA) [.ref o, .int p1].toArray s 0 0 AA) (F0 m 393 ls [.int s393_0, .ref o]) := by
                            intro s393_0 H locs ls  hP hD hS hl hR
                            rw [qX1_make_j393] at hR
                            refine pR4 hx hb hts in_X1_make hown hK hP hD hS kX1_make_5 dX1_make_393 (fun H locs hP hD hS => ?_)
                            refine lv_aload_n hx hb dX1_make_396 rfl (lv_at hl 0 rfl) ?_
                            refine lv_iload hx hb dX1_make_397 (lv_at hl 1 rfl) ?_
                            have hj417 : ∀ (s417_0 : Int32) (H : Heap) (locs : List Loc) (ls : Array Slot), va_P D vwCl (wR cI cB o h (uf (uf (uf ((qX1_keep (uf F 0 s28_0) A p1).1) 3 s308_0) 3 ((s308_0 &&& ((qX1_corner y2) ^^^ (-1))) &&& ((qX1_corner y3) ^^^ (-1)))) 4 s393_0) A275) H → va_D AA (wR cI cB o h (uf (uf (uf ((qX1_keep (uf F 0 s28_0) A p1).1) 3 s308_0) 3 ((s308_0 &&& ((qX1_corner y2) ^^^ (-1))) &&& ((qX1_corner y3) ^^^ (-1)))) 4 s393_0) A275) → va_S AA s.heap H locs → lv_has ls 12 [(0, .ref o), (10, .int s177_0)] → r0 = qX1_make_j417 (uf (uf (uf ((qX1_keep (uf F 0 s28_0) A p1).1) 3 s308_0) 3 ((s308_0 &&& ((qX1_corner y2) ^^^ (-1))) &&& ((qX1_corner y3) ^^^ (-1)))) 4 s393_0) A275 s177_0 s417_0 → W p l e rmX1_make s m [.ref o, .int p1].toArray below meth c H locs 0 0 (MQ below (cQi D [(cI, .int), (cB, .byte)] r0.1 (wR cI cB o h r0.2.1 r0.2.2) AA) [.ref o, .int p1].toArray s 0 0 AA) (F0 m 417 ls [.int s417_0, .ref o]) := by
                              intro s417_0 H locs ls  hP hD hS hl hR
                              rw [qX1_make_j417] at hR
                              refine pR5 hx hb hts in_X1_make hown hK hP hD hS kX1_make_6 dX1_make_417 (fun H locs hP hD hS => ?_)
                              refine lv_aload_n hx hb dX1_make_420 rfl (lv_at hl 0 rfl) ?_
                              refine lv_dup hx hb dX1_make_421 rfl ?_
                              refine gR hx hb hts in_X1_make hown hK hP 6 (by decide) rfl kX1_make_7 dX1_make_422 ?_
                              refine lv_aload_n hx hb dX1_make_425 rfl (lv_at hl 0 rfl) ?_
                              refine gR hx hb hts in_X1_make hown hK hP 2 (by decide) rfl kX1_make_3 dX1_make_426 ?_
                              refine lv_iadd hx hb dX1_make_429 ?_
                              refine pR6 hx hb hts in_X1_make hown hK hP hD hS kX1_make_7 dX1_make_430 (fun H locs hP hD hS => ?_)
                              refine lv_aload_n hx hb dX1_make_433 rfl (lv_at hl 0 rfl) ?_
                              refine lv_iconst (v := 1) hx hb dX1_make_434 (by decide) ?_
                              refine lv_aload_n hx hb dX1_make_435 rfl (lv_at hl 0 rfl) ?_
                              refine gR hx hb hts in_X1_make hown hK hP 2 (by decide) rfl kX1_make_3 dX1_make_436 ?_
                              refine lv_isub hx hb dX1_make_439 ?_
                              refine pR2 hx hb hts in_X1_make hown hK hP hD hS kX1_make_3 dX1_make_440 (fun H locs hP hD hS => ?_)
                              refine lv_iload hx hb dX1_make_443 (lv_at hl 1 rfl) ?_
                              subst hR
                              exact cRi hx hb hr hlk hK hP hD hS rfl dX1_make_445
                            refine lv_if_ne (tgt := 407) hx hb dX1_make_399 (by decide) (fun c399 => ?_) (fun c399 => ?_)
                            · have hR := hR.trans (if_pos c399)
                              refine lv_iconst (v := 0) hx hb dX1_make_407 (by decide) ?_
                              refine lv_goto (tgt := 417) hx hb dX1_make_408 (by decide) ?_
                              exact hj417 0 _ _ ls hP hD hS (lv_sub hl [0, 2] rfl) hR
                            · have hR := hR.trans (if_neg (fun z => z c399))
                              refine lv_iload hx hb dX1_make_402 (lv_at hl 2 rfl) ?_
                              refine lv_if_le (tgt := 411) hx hb dX1_make_404 (by decide) (fun c404 => ?_) (fun c404 => ?_)
                              · have hR := hR.trans (if_pos c404)
                                refine lv_aload_n hx hb dX1_make_411 rfl (lv_at hl 0 rfl) ?_
                                refine gR hx hb hts in_X1_make hown hK hP 5 (by decide) rfl kX1_make_6 dX1_make_412 ?_
                                refine lv_iconst (v := 1) hx hb dX1_make_415 (by decide) ?_
                                refine lv_iadd hx hb dX1_make_416 ?_
                                exact hj417 ((((qX1_keep (uf F 0 s28_0) A p1).1) 5) + 1) _ _ ls hP hD hS (lv_sub hl [0, 2] rfl) hR
                              · have hR := hR.trans (if_neg c404)
                                refine lv_iconst (v := 0) hx hb dX1_make_407 (by decide) ?_
                                refine lv_goto (tgt := 417) hx hb dX1_make_408 (by decide) ?_
                                exact hj417 0 _ _ ls hP hD hS (lv_sub hl [0, 2] rfl) hR
                          refine lv_if_eq (tgt := 392) hx hb dX1_make_363 (by decide) (fun c363 => ?_) (fun c363 => ?_)
                          · have hR := hR.trans (if_pos c363)
                            refine lv_iconst (v := (-1)) hx hb dX1_make_392 (by decide) ?_
                            exact hj393 (-1) _ _ ls hP hD hS (lv_sub hl [1, 4, 5] rfl) hR
                          · have hR := hR.trans (if_neg c363)
                            refine lv_aload_n hx hb dX1_make_366 rfl (lv_at hl 1 rfl) ?_
                            refine lv_iload_n hx hb dX1_make_367 rfl (lv_at hl 2 rfl) ?_
                            refine lv_iload_n hx hb dX1_make_368 rfl (lv_at hl 3 rfl) ?_
                            refine lv_iadd hx hb dX1_make_369 ?_
                            refine lv_iconst (v := 2) hx hb dX1_make_370 (by decide) ?_
                            refine lv_idiv hx hb dX1_make_371 (by decide) ?_
                            refine lv_iconst (v := 1) hx hb dX1_make_372 (by decide) ?_
                            refine lv_aload_n hx hb dX1_make_373 rfl (lv_at hl 1 rfl) ?_
                            refine gR hx hb hts in_X1_make hown hK hP 2 (by decide) rfl kX1_make_3 dX1_make_374 ?_
                            refine lv_isub hx hb dX1_make_377 ?_
                            refine cVi ⟨hx, hb, hml, hown, hts⟩ (mX1_pawnAttacks l D cI cB o h (uf (uf ((qX1_keep (uf F 0 s28_0) A p1).1) 3 s308_0) 3 ((s308_0 &&& ((qX1_corner y2) ^^^ (-1))) &&& ((qX1_corner y3) ^^^ (-1)))) A275 ((y2 + y3) / 2) (1 - (((qX1_keep (uf F 0 s28_0) A p1).1) 2)) (inMid hy2 hy3) _ rfl) (cwV 2 hts gX1_make_X1_pawnAttacks rfl rfl rfl nX1_pawnAttacks ⟨Nat.le_of_ble_eq_true rfl, Nat.le_of_ble_eq_true rfl⟩) (va_recv hK hP (ci := 1) (q0 := 0) rfl rfl) rfl hl.1 rfl (Nat.le_of_ble_eq_true rfl) dX1_make_378 ⟨Nat.zero_le _, Nat.zero_le _⟩ hK hP hD hS hA (fun H locs hP hD hS => ?_)
                            refine lv_if_eq (tgt := 392) hx hb dX1_make_381 (by decide) (fun c381 => ?_) (fun c381 => ?_)
                            · have hR := hR.trans (if_pos c381)
                              refine lv_iconst (v := (-1)) hx hb dX1_make_392 (by decide) ?_
                              exact hj393 (-1) _ _ ls hP hD hS (lv_sub hl [1, 4, 5] rfl) hR
                            · have hR := hR.trans (if_neg c381)
                              refine lv_iload_n hx hb dX1_make_384 rfl (lv_at hl 2 rfl) ?_
                              refine lv_iload_n hx hb dX1_make_385 rfl (lv_at hl 3 rfl) ?_
                              refine lv_iadd hx hb dX1_make_386 ?_
                              refine lv_iconst (v := 2) hx hb dX1_make_387 (by decide) ?_
                              refine lv_idiv hx hb dX1_make_388 (by decide) ?_
                              refine lv_goto (tgt := 393) hx hb dX1_make_389 (by decide) ?_
                              exact hj393 ((y2 + y3) / 2) _ _ ls hP hD hS (lv_sub hl [1, 4, 5] rfl) hR
                        refine lv_if_eq (tgt := 357) hx hb dX1_make_335 (by decide) (fun c335 => ?_) (fun c335 => ?_)
                        · have hR := hR.trans (if_pos c335)
                          refine lv_iconst (v := 0) hx hb dX1_make_357 (by decide) ?_
                          exact hj358 0 _ _ ls hP hD hS (lv_sub hl [0, 1, 2, 3, 4] rfl) hR
                        · have hR := hR.trans (if_neg c335)
                          refine lv_iload_n hx hb dX1_make_338 rfl (lv_at hl 1 rfl) ?_
                          refine lv_bipush (v := 8) hx hb dX1_make_339 (by decide) ?_
                          refine lv_idiv hx hb dX1_make_341 (by decide) ?_
                          refine lv_iload_n hx hb dX1_make_342 rfl (lv_at hl 2 rfl) ?_
                          refine lv_bipush (v := 8) hx hb dX1_make_343 (by decide) ?_
                          refine lv_idiv hx hb dX1_make_345 (by decide) ?_
                          refine cSi ⟨hx, hb, hml, hown, hts⟩ (mX1_apart l D (y2 / 8) (y3 / 8) _ rfl) (va_cwS 2 hts gX1_make_X1_apart rfl rfl rfl nX1_apart ⟨Nat.le_of_ble_eq_true rfl, Nat.le_of_ble_eq_true rfl⟩) rfl hl.1 rfl (Nat.le_of_ble_eq_true rfl) dX1_make_346 ⟨Nat.zero_le _, Nat.zero_le _⟩ hK hP hS hA (fun H locs hP hS => ?_)
                          refine lv_iconst (v := 2) hx hb dX1_make_349 (by decide) ?_
                          refine lv_icmp_ne (tgt := 357) hx hb dX1_make_350 (by decide) (fun c350 => ?_) (fun c350 => ?_)
                          · have hR := hR.trans (if_pos c350)
                            refine lv_iconst (v := 0) hx hb dX1_make_357 (by decide) ?_
                            exact hj358 0 _ _ ls hP hD hS (lv_sub hl [0, 1, 2, 3, 4] rfl) hR
                          · have hR := hR.trans (if_neg (fun z => z c350))
                            refine lv_iconst (v := 1) hx hb dX1_make_353 (by decide) ?_
                            refine lv_goto (tgt := 358) hx hb dX1_make_354 (by decide) ?_
                            exact hj358 1 _ _ ls hP hD hS (lv_sub hl [0, 1, 2, 3, 4] rfl) hR
                      refine lv_icmp_ne (tgt := 304) hx hb dX1_make_283 (by decide) (fun c283 => ?_) (fun c283 => ?_)
                      · have hR := hR.trans (if_pos c283)
                        refine lv_aload_n hx hb dX1_make_304 rfl (lv_at hl 0 rfl) ?_
                        refine gR hx hb hts in_X1_make hown hK hP 3 (by decide) rfl kX1_make_4 dX1_make_305 ?_
                        exact hj308 (((qX1_keep (uf F 0 s28_0) A p1).1) 3) _ _ ls hP hD hS (lv_sub hl [0, 1, 2, 4, 5] rfl) hR
                      · have hR := hR.trans (if_neg (fun z => z c283))
                        refine lv_aload_n hx hb dX1_make_286 rfl (lv_at hl 0 rfl) ?_
                        refine gR hx hb hts in_X1_make hown hK hP 3 (by decide) rfl kX1_make_4 dX1_make_287 ?_
                        refine lv_iconst (v := 3) hx hb dX1_make_290 (by decide) ?_
                        refine lv_iconst (v := 2) hx hb dX1_make_291 (by decide) ?_
                        refine lv_aload_n hx hb dX1_make_292 rfl (lv_at hl 0 rfl) ?_
                        refine gR hx hb hts in_X1_make hown hK hP 2 (by decide) rfl kX1_make_3 dX1_make_293 ?_
                        refine lv_imul hx hb dX1_make_296 ?_
                        refine lv_ishl hx hb dX1_make_297 ?_
                        refine lv_iconst (v := (-1)) hx hb dX1_make_298 (by decide) ?_
                        refine lv_ixor hx hb dX1_make_299 ?_
                        refine lv_iand hx hb dX1_make_300 ?_
                        refine lv_goto (tgt := 308) hx hb dX1_make_301 (by decide) ?_
                        exact hj308 ((((qX1_keep (uf F 0 s28_0) A p1).1) 3) &&& ((3 <<< ((2 * (((qX1_keep (uf F 0 s28_0) A p1).1) 2)) &&& 31)) ^^^ (-1))) _ _ ls hP hD hS (lv_sub hl [0, 1, 2, 4, 5] rfl) hR
                    refine lv_if_eq (tgt := 275) hx hb dX1_make_231 (by decide) (fun c231 => ?_) (fun c231 => ?_)
                    · have hR := hR.trans (if_pos c231)
                      exact hj275 (ua (ua (ua ((qX1_keep (uf F 0 s28_0) A p1).2) 1 (Int32.toNatClampNeg s194_0) 0) 1 (Int32.toNatClampNeg y2) 0) 1 (Int32.toNatClampNeg y3) s228_0) _ _ ls hP hD hS (lv_sub hl [0, 1, 2, 3, 4, 6] rfl) hR
                    · have hR := hR.trans (if_neg c231)
                      refine lv_iload_n hx hb dX1_make_234 rfl (lv_at hl 2 rfl) ?_
                      refine lv_iload_n hx hb dX1_make_235 rfl (lv_at hl 1 rfl) ?_
                      have hj248 : ∀ (s248_0 : Int32) (H : Heap) (locs : List Loc) (ls : Array Slot), (s248_0 = y2 + 3 ∨ s248_0 = y2 - 4) → va_P D vwCl (wR cI cB o h ((qX1_keep (uf F 0 s28_0) A p1).1) (ua (ua (ua ((qX1_keep (uf F 0 s28_0) A p1).2) 1 (Int32.toNatClampNeg s194_0) 0) 1 (Int32.toNatClampNeg y2) 0) 1 (Int32.toNatClampNeg y3) s228_0)) H → va_D AA (wR cI cB o h ((qX1_keep (uf F 0 s28_0) A p1).1) (ua (ua (ua ((qX1_keep (uf F 0 s28_0) A p1).2) 1 (Int32.toNatClampNeg s194_0) 0) 1 (Int32.toNatClampNeg y2) 0) 1 (Int32.toNatClampNeg y3) s228_0)) → va_S AA s.heap H locs → lv_has ls 12 [(0, .ref o), (2, .int y2), (3, .int y3), (5, .int y5), (6, .int s82_0), (10, .int s177_0)] → r0 = qX1_make_j248 ((qX1_keep (uf F 0 s28_0) A p1).1) (ua (ua (ua ((qX1_keep (uf F 0 s28_0) A p1).2) 1 (Int32.toNatClampNeg s194_0) 0) 1 (Int32.toNatClampNeg y2) 0) 1 (Int32.toNatClampNeg y3) s228_0) y2 y3 y5 s82_0 s177_0 s248_0 → W p l e rmX1_make s m [.ref o, .int p1].toArray below meth c H locs 0 0 (MQ below (cQi D [(cI, .int), (cB, .byte)] r0.1 (wR cI cB o h r0.2.1 r0.2.2) AA) [.ref o, .int p1].toArray s 0 0 AA) (F0 m 248 ls [.int s248_0]) := by
                        intro s248_0 H locs ls h248 hP hD hS hl hR
                        rw [qX1_make_j248] at hR
                        refine lv_istore (lv' := [(11, .int s248_0), (0, .ref o), (2, .int y2), (3, .int y3), (5, .int y5), (6, .int s82_0), (10, .int s177_0)]) hx hb dX1_make_248 hl (by decide) rfl (fun ls hl => ?_)
                        have hrk : vp_in s248_0 64 := inRook (rookIn hmv ey2 ey3 ey5 (h108 c231)) h248
                        refine lv_aload_n hx hb dX1_make_250 rfl (lv_at hl 1 rfl) ?_
                        refine gR hx hb hts in_X1_make hown hK hP 1 (by decide) rfl kX1_make_2 dX1_make_251 ?_
                        refine lv_iload_n hx hb dX1_make_254 rfl (lv_at hl 2 rfl) ?_
                        refine lv_iload_n hx hb dX1_make_255 rfl (lv_at hl 3 rfl) ?_
                        refine lv_iadd hx hb dX1_make_256 ?_
                        refine lv_iconst (v := 2) hx hb dX1_make_257 (by decide) ?_
                        refine lv_idiv hx hb dX1_make_258 (by decide) ?_
                        refine lv_aload_n hx hb dX1_make_259 rfl (lv_at hl 1 rfl) ?_
                        refine gR hx hb hts in_X1_make hown hK hP 1 (by decide) rfl kX1_make_2 dX1_make_260 ?_
                        refine lv_iload hx hb dX1_make_263 (lv_at hl 0 rfl) ?_
                        refine va_iald (f := (ua (ua (ua ((qX1_keep (uf F 0 s28_0) A p1).2) 1 (Int32.toNatClampNeg s194_0) 0) 1 (Int32.toNatClampNeg y2) 0) 1 (Int32.toNatClampNeg y3) s228_0) 1) hx hb hK hP 1 0 rfl rfl hrk dX1_make_265 ?_
                        refine sR1 hx hb hK hP hD hS (inMid hy2 hy3) dX1_make_266 (fun H locs hP hD hS => ?_)
                        refine lv_aload_n hx hb dX1_make_267 rfl (lv_at hl 1 rfl) ?_
                        refine gR hx hb hts in_X1_make hown hK hP 1 (by decide) rfl kX1_make_2 dX1_make_268 ?_
                        refine lv_iload hx hb dX1_make_271 (lv_at hl 0 rfl) ?_
                        refine lv_iconst (v := 0) hx hb dX1_make_273 (by decide) ?_
                        refine sR1 hx hb hK hP hD hS hrk dX1_make_274 (fun H locs hP hD hS => ?_)
                        exact hj275 (ua (ua (ua (ua (ua ((qX1_keep (uf F 0 s28_0) A p1).2) 1 (Int32.toNatClampNeg s194_0) 0) 1 (Int32.toNatClampNeg y2) 0) 1 (Int32.toNatClampNeg y3) s228_0) 1 (Int32.toNatClampNeg ((y2 + y3) / 2)) ((ua (ua (ua ((qX1_keep (uf F 0 s28_0) A p1).2) 1 (Int32.toNatClampNeg s194_0) 0) 1 (Int32.toNatClampNeg y2) 0) 1 (Int32.toNatClampNeg y3) s228_0) 1 (Int32.toNatClampNeg s248_0))) 1 (Int32.toNatClampNeg s248_0) 0) _ _ ls hP hD hS (lv_sub hl [1, 2, 3, 4, 5, 6] rfl) hR
                      refine lv_icmp_le (tgt := 245) hx hb dX1_make_236 (by decide) (fun c236 => ?_) (fun c236 => ?_)
                      · have hR := hR.trans (if_pos c236)
                        refine lv_iload_n hx hb dX1_make_245 rfl (lv_at hl 1 rfl) ?_
                        refine lv_iconst (v := 4) hx hb dX1_make_246 (by decide) ?_
                        refine lv_isub hx hb dX1_make_247 ?_
                        exact hj248 (y2 - 4) _ _ ls (by first | exact Or.inl rfl | exact Or.inr rfl) hP hD hS (lv_sub hl [0, 1, 2, 3, 4, 6] rfl) hR
                      · have hR := hR.trans (if_neg c236)
                        refine lv_iload_n hx hb dX1_make_239 rfl (lv_at hl 1 rfl) ?_
                        refine lv_iconst (v := 3) hx hb dX1_make_240 (by decide) ?_
                        refine lv_iadd hx hb dX1_make_241 ?_
                        refine lv_goto (tgt := 248) hx hb dX1_make_242 (by decide) ?_
                        exact hj248 (y2 + 3) _ _ ls (by first | exact Or.inl rfl | exact Or.inr rfl) hP hD hS (lv_sub hl [0, 1, 2, 3, 4, 6] rfl) hR
                  refine lv_if_le (tgt := 226) hx hb dX1_make_210 (by decide) (fun c210 => ?_) (fun c210 => ?_)
                  · have hR := hR.trans (if_pos c210)
                    refine lv_iload hx hb dX1_make_226 (lv_at hl 4 rfl) ?_
                    exact hj228 y5 _ _ ls hP hD hS (lv_sub hl [0, 1, 2, 4, 5, 6, 7] rfl) hR
                  · have hR := hR.trans (if_neg c210)
                    refine lv_iload hx hb dX1_make_213 (lv_at hl 3 rfl) ?_
                    refine lv_bipush (v := 6) hx hb dX1_make_215 (by decide) ?_
                    refine lv_aload_n hx hb dX1_make_217 rfl (lv_at hl 0 rfl) ?_
                    refine gR hx hb hts in_X1_make hown hK hP 2 (by decide) rfl kX1_make_3 dX1_make_218 ?_
                    refine lv_imul hx hb dX1_make_221 ?_
                    refine lv_iadd hx hb dX1_make_222 ?_
                    refine lv_goto (tgt := 228) hx hb dX1_make_223 (by decide) ?_
                    exact hj228 (y4 + (6 * (((qX1_keep (uf F 0 s28_0) A p1).1) 2))) _ _ ls hP hD hS (lv_sub hl [0, 1, 2, 4, 5, 6, 7] rfl) hR
                refine lv_if_eq (tgt := 193) hx hb dX1_make_185 (by decide) (fun c185 => ?_) (fun c185 => ?_)
                · have hR := hR.trans (if_pos c185)
                  refine lv_iload_n hx hb dX1_make_193 rfl (lv_at hl 3 rfl) ?_
                  exact hj194 y3 _ _ ls (by first | exact inBeh (h129 c185) h154 | exact hy3) hP hD hS (lv_sub hl [1, 2, 3, 4, 5, 6, 7, 0] rfl) hR
                · have hR := hR.trans (if_neg c185)
                  refine lv_iload hx hb dX1_make_188 (lv_at hl 9 rfl) ?_
                  refine lv_goto (tgt := 194) hx hb dX1_make_190 (by decide) ?_
                  exact hj194 s154_0 _ _ ls (by first | exact inBeh (h129 c185) h154 | exact hy3) hP hD hS (lv_sub hl [1, 2, 3, 4, 5, 6, 7, 0] rfl) hR
              refine lv_if_eq (tgt := 171) hx hb dX1_make_158 (by decide) (fun c158 => ?_) (fun c158 => ?_)
              · have hR := hR.trans (if_pos c158)
                refine lv_aload_n hx hb dX1_make_171 rfl (lv_at hl 1 rfl) ?_
                refine gR hx hb hts in_X1_make hown hK hP 1 (by decide) rfl kX1_make_2 dX1_make_172 ?_
                refine lv_iload_n hx hb dX1_make_175 rfl (lv_at hl 3 rfl) ?_
                refine va_iald (f := ((qX1_keep (uf F 0 s28_0) A p1).2) 1) hx hb hK hP 1 0 rfl rfl hy3 dX1_make_176 ?_
                exact hj177 (((qX1_keep (uf F 0 s28_0) A p1).2) 1 (Int32.toNatClampNeg y3)) _ _ ls hP hD hS (lv_sub hl [1, 2, 3, 4, 5, 6, 7, 8, 0] rfl) hR
              · have hR := hR.trans (if_neg c158)
                refine lv_aload_n hx hb dX1_make_161 rfl (lv_at hl 1 rfl) ?_
                refine gR hx hb hts in_X1_make hown hK hP 1 (by decide) rfl kX1_make_2 dX1_make_162 ?_
                refine lv_iload hx hb dX1_make_165 (lv_at hl 0 rfl) ?_
                refine va_iald (f := ((qX1_keep (uf F 0 s28_0) A p1).2) 1) hx hb hK hP 1 0 rfl rfl (inBeh (h129 c158) h154) dX1_make_167 ?_
                refine lv_goto (tgt := 177) hx hb dX1_make_168 (by decide) ?_
                exact hj177 (((qX1_keep (uf F 0 s28_0) A p1).2) 1 (Int32.toNatClampNeg s154_0)) _ _ ls hP hD hS (lv_sub hl [1, 2, 3, 4, 5, 6, 7, 8, 0] rfl) hR
            refine lv_if_ne (tgt := 150) hx hb dX1_make_140 (by decide) (fun c140 => ?_) (fun c140 => ?_)
            · have hR := hR.trans (if_pos c140)
              refine lv_iload_n hx hb dX1_make_150 rfl (lv_at hl 4 rfl) ?_
              refine lv_bipush (v := 8) hx hb dX1_make_151 (by decide) ?_
              refine lv_iadd hx hb dX1_make_153 ?_
              exact hj154 (y3 + 8) _ _ ls (by first | exact Or.inl ⟨keep_2.symm.trans c140, rfl⟩ | exact Or.inr ⟨fun z => c140 (keep_2.trans z), rfl⟩) hP hD hS (lv_sub hl [1, 3, 4, 5, 6, 7, 8, 0] rfl) hR
            · have hR := hR.trans (if_neg (fun z => z c140))
              refine lv_iload_n hx hb dX1_make_143 rfl (lv_at hl 4 rfl) ?_
              refine lv_bipush (v := 8) hx hb dX1_make_144 (by decide) ?_
              refine lv_isub hx hb dX1_make_146 ?_
              refine lv_goto (tgt := 154) hx hb dX1_make_147 (by decide) ?_
              exact hj154 (y3 - 8) _ _ ls (by first | exact Or.inl ⟨keep_2.symm.trans c140, rfl⟩ | exact Or.inr ⟨fun z => c140 (keep_2.trans z), rfl⟩) hP hD hS (lv_sub hl [1, 3, 4, 5, 6, 7, 8, 0] rfl) hR
          refine lv_if_eq (tgt := 128) hx hb dX1_make_112 (by decide) (fun c112 => ?_) (fun c112 => ?_)
          · have hR := hR.trans (if_pos c112)
            refine lv_iconst (v := 0) hx hb dX1_make_128 (by decide) ?_
            exact hj129 0 _ _ ls (by first | (intro z; exact absurd rfl z) | (intro _; exact c121)) hP hD hS (lv_sub hl [1, 2, 3, 4, 5, 6, 7, 0] rfl) hR
          · have hR := hR.trans (if_neg c112)
            refine lv_aload_n hx hb dX1_make_115 rfl (lv_at hl 1 rfl) ?_
            refine lv_iload_n hx hb dX1_make_116 rfl (lv_at hl 3 rfl) ?_
            refine lv_iload_n hx hb dX1_make_117 rfl (lv_at hl 4 rfl) ?_
            refine cVi ⟨hx, hb, hml, hown, hts⟩ (mX1_takesPassing l D cI cB o h (uf F 0 s28_0) A y2 y3 hy2 hy3 _ rfl) (cwV 2 hts gX1_make_X1_takesPassing rfl rfl rfl nX1_takesPassing ⟨Nat.le_of_ble_eq_true rfl, Nat.le_of_ble_eq_true rfl⟩) (va_recv hK hP (ci := 1) (q0 := 0) rfl rfl) rfl hl.1 rfl (Nat.le_of_ble_eq_true rfl) dX1_make_118 ⟨Nat.zero_le _, Nat.zero_le _⟩ hK hP hD hS hA (fun H locs hP hD hS => ?_)
            refine lv_if_eq (tgt := 128) hx hb dX1_make_121 (by decide) (fun c121 => ?_) (fun c121 => ?_)
            · have hR := hR.trans (if_pos c121)
              refine lv_iconst (v := 0) hx hb dX1_make_128 (by decide) ?_
              exact hj129 0 _ _ ls (by first | (intro z; exact absurd rfl z) | (intro _; exact c121)) hP hD hS (lv_sub hl [1, 2, 3, 4, 5, 6, 7, 0] rfl) hR
            · have hR := hR.trans (if_neg c121)
              refine lv_iconst (v := 1) hx hb dX1_make_124 (by decide) ?_
              refine lv_goto (tgt := 129) hx hb dX1_make_125 (by decide) ?_
              exact hj129 1 _ _ ls (by first | (intro z; exact absurd rfl z) | (intro _; exact c121)) hP hD hS (lv_sub hl [1, 2, 3, 4, 5, 6, 7, 0] rfl) hR
        refine lv_icmp_ne (tgt := 107) hx hb dX1_make_91 (by decide) (fun c91 => ?_) (fun c91 => ?_)
        · have hR := hR.trans (if_pos c91)
          refine lv_iconst (v := 0) hx hb dX1_make_107 (by decide) ?_
          exact hj108 0 _ _ ls (by first | (intro z; exact absurd rfl z) | (intro _; exact ⟨c91, c100⟩)) hP hD hS (lv_sub hl [1, 2, 3, 4, 5, 6, 0] rfl) hR
        · have hR := hR.trans (if_neg (fun z => z c91))
          refine lv_aload_n hx hb dX1_make_94 rfl (lv_at hl 1 rfl) ?_
          refine lv_iload_n hx hb dX1_make_95 rfl (lv_at hl 3 rfl) ?_
          refine lv_iload_n hx hb dX1_make_96 rfl (lv_at hl 4 rfl) ?_
          refine cVi ⟨hx, hb, hml, hown, hts⟩ (mX1_attacks l D cI cB o h (uf F 0 s28_0) A y2 y3 hy2 hy3 _ rfl) (cwV 2 hts gX1_make_X1_attacks rfl rfl rfl nX1_attacks ⟨Nat.le_of_ble_eq_true rfl, Nat.le_of_ble_eq_true rfl⟩) (va_recv hK hP (ci := 1) (q0 := 0) rfl rfl) rfl hl.1 rfl (Nat.le_of_ble_eq_true rfl) dX1_make_97 ⟨Nat.zero_le _, Nat.zero_le _⟩ hK hP hD hS hA (fun H locs hP hD hS => ?_)
          refine lv_if_ne (tgt := 107) hx hb dX1_make_100 (by decide) (fun c100 => ?_) (fun c100 => ?_)
          · have hR := hR.trans (if_pos c100)
            refine lv_iconst (v := 0) hx hb dX1_make_107 (by decide) ?_
            exact hj108 0 _ _ ls (by first | (intro z; exact absurd rfl z) | (intro _; exact ⟨c91, c100⟩)) hP hD hS (lv_sub hl [1, 2, 3, 4, 5, 6, 0] rfl) hR
          · have hR := hR.trans (if_neg (fun z => z c100))
            refine lv_iconst (v := 1) hx hb dX1_make_103 (by decide) ?_
            refine lv_goto (tgt := 108) hx hb dX1_make_104 (by decide) ?_
            exact hj108 1 _ _ ls (by first | (intro z; exact absurd rfl z) | (intro _; exact ⟨c91, c100⟩)) hP hD hS (lv_sub hl [1, 2, 3, 4, 5, 6, 0] rfl) hR
      refine lv_icmp_ne (tgt := 81) hx hb dX1_make_74 (by decide) (fun c74 => ?_) (fun c74 => ?_)
      · have hR := hR.trans (if_pos c74)
        refine lv_iconst (v := 0) hx hb dX1_make_81 (by decide) ?_
        exact hj82 0 _ _ ls hP hD hS (lv_sub hl [4, 5, 3, 2, 1, 0] rfl) hR
      · have hR := hR.trans (if_neg (fun z => z c74))
        refine lv_iconst (v := 1) hx hb dX1_make_77 (by decide) ?_
        refine lv_goto (tgt := 82) hx hb dX1_make_78 (by decide) ?_
        exact hj82 1 _ _ ls hP hD hS (lv_sub hl [4, 5, 3, 2, 1, 0] rfl) hR
    · have hR := hR.trans (if_neg c35)
      refine lv_iconst (v := 0) hx hb dX1_make_38 (by decide) ?_
      subst hR
      exact cRi hx hb hr hlk hK hP hD hS rfl dX1_make_39
  refine lv_if_ne (tgt := 13) hx hb dX1_make_6 (by decide) (fun c6 => ?_) (fun c6 => ?_)
  · have hR := hR.trans (if_pos c6)
    refine lv_aload_n hx hb dX1_make_13 rfl (lv_at hl 0 rfl) ?_
    refine gR hx hb hts in_X1_make hown hK hP 7 (by decide) rfl kX1_make_0 dX1_make_14 ?_
    refine lv_sipush (v := 600) hx hb dX1_make_17 (by decide) ?_
    refine lv_icmp_ne (tgt := 27) hx hb dX1_make_20 (by decide) (fun c20 => ?_) (fun c20 => ?_)
    · have hR := hR.trans (if_pos c20)
      refine lv_iconst (v := 0) hx hb dX1_make_27 (by decide) ?_
      exact hj28 0 _ _ ls (by first | (intro z; exact absurd z (by decide)) | (intro _; exact ⟨c6, c20⟩)) hP hD hS (lv_sub hl [0, 1] rfl) hR
    · have hR := hR.trans (if_neg (fun z => z c20))
      refine lv_iconst (v := 2) hx hb dX1_make_23 (by decide) ?_
      refine lv_goto (tgt := 28) hx hb dX1_make_24 (by decide) ?_
      exact hj28 2 _ _ ls (by first | (intro z; exact absurd z (by decide)) | (intro _; exact ⟨c6, c20⟩)) hP hD hS (lv_sub hl [0, 1] rfl) hR
  · have hR := hR.trans (if_neg (fun z => z c6))
    refine lv_iconst (v := 1) hx hb dX1_make_9 (by decide) ?_
    refine lv_goto (tgt := 28) hx hb dX1_make_10 (by decide) ?_
    exact hj28 1 _ _ ls (by first | (intro z; exact absurd z (by decide)) | (intro _; exact ⟨c6, c20⟩)) hP hD hS (lv_sub hl [0, 1] rfl) hR
