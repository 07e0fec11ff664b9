def qX1_isMove_j142 (F : Nat → Int32) (A : Nat → Nat → Int32) (x2 : Int32) (x3 : Int32) (s0 : Int32) (s1 : Int32) : Int32 := (if s1 = s0 then (if ¬ (qX1_kindOf (A 1 (Int32.toNatClampNeg x2))) = 1 then (if ¬ (qX1_attacks F A x2 x3) = 0 then 1 else (if ¬ (qX1_kindOf (A 1 (Int32.toNatClampNeg x2))) = 6 then 0 else (if (qX1_castles F A x2 x3) = 0 then 0 else 1))) else (qX1_pawnGoes F A x2 x3)) else 0)
def qX1_isMove_j81 (F : Nat → Int32) (A : Nat → Nat → Int32) (x2 : Int32) (x3 : Int32) (x4 : Int32) (s0 : Int32) : Int32 := (if ¬ (qX1_sideOf (A 1 (Int32.toNatClampNeg x2))) = (F 2) then 0 else (if (qX1_sideOf (A 1 (Int32.toNatClampNeg x3))) = (F 2) then 0 else (if (qX1_kindOf (A 1 (Int32.toNatClampNeg x3))) = 6 then 0 else (if x4 ≤ 1 then (qX1_isMove_j142 F A x2 x3 0 s0) else (qX1_isMove_j142 F A x2 x3 1 s0)))))
def qX1_isMove_j73 (F : Nat → Int32) (A : Nat → Nat → Int32) (x2 : Int32) (x3 : Int32) (x4 : Int32) (s0 : Int32) (s1 : Int32) : Int32 := (if ¬ s1 = s0 then (qX1_isMove_j81 F A x2 x3 x4 0) else (qX1_isMove_j81 F A x2 x3 x4 1))
def qX1_isMove (F : Nat → Int32) (A : Nat → Nat → Int32) (p1 : Int32) : Int32 := (if p1 < 0 then 0 else (if 5 < (p1 / 4096) then 0 else (if (p1 / 4096) = 1 then 0 else (if ¬ (p1 - p1 / 64 * 64) = ((p1 / 64) - (p1 / 64) / 64 * 64) then (if ¬ (qX1_kindOf (A 1 (Int32.toNatClampNeg (p1 - p1 / 64 * 64)))) = 1 then (qX1_isMove_j81 F A (p1 - p1 / 64 * 64) ((p1 / 64) - (p1 / 64) / 64 * 64) (p1 / 4096) 0) else (if ¬ (F 2) = 0 then (qX1_isMove_j73 F A (p1 - p1 / 64 * 64) ((p1 / 64) - (p1 / 64) / 64 * 64) (p1 / 4096) 0 (((p1 / 64) - (p1 / 64) / 64 * 64) / 8)) else (qX1_isMove_j73 F A (p1 - p1 / 64 * 64) ((p1 / 64) - (p1 / 64) / 64 * 64) (p1 / 4096) 7 (((p1 / 64) - (p1 / 64) / 64 * 64) / 8)))) else 0))))
abbrev rmX1_isMove : Room := { frames := 4, cells := 0, slots := 0, locals := 99 }
theorem nX1_isMove : yX1_isMove.cls = RX1 ∧ yX1_isMove.cls ≠ "java/lang/invoke/MethodHandle" ∧ yX1_isMove.cls ≠ "java/lang/invoke/VarHandle" ∧ (parseMethodDescriptor yX1_isMove.desc).map (fun d => d.parameters.length) = some 1 := by decide +kernel
theorem in_X1_isMove : ∀ w ∈ wsX10, w ∈ wsX1_isMove := fun w h => by
  unfold wsX1_isMove
  exact List.mem_cons_of_mem _ (List.mem_append_right _ h)
theorem kX1_isMove_0 : Cond.fieldLink RX1 7 "BoardModel" "squares" "[I" ∈ wsX1_isMove := by decide +kernel
theorem kX1_isMove_1 : Cond.fieldLink RX1 34 "BoardModel" "side" "I" ∈ wsX1_isMove := by decide +kernel
set_option maxHeartbeats 4000000 in
set_option maxRecDepth 100000 in
theorem mX1_isMove (l : Launch) (D : va_G) (cI cB : ClassId) (o : Nat) (h : Nat → Nat) (F : Nat → Int32) (A : Nat → Nat → Int32) (p1 : Int32) (r0 : Int32) (hR : r0 = qX1_isMove F A p1) : cMi l yX1_isMove wsX1_isMove rmX1_isMove D [(cI, .int), (cB, .byte)] (wR cI cB o h F A) [.ref o, .int p1] r0 (wR cI cB o h F A) := by
  intro sz
  refine cMet_of (Qc := fun AA => cQi D [(cI, .int), (cB, .byte)] r0 (wR cI cB o h F A) AA) (cc := cX1_isMove) (maxL := 6) (ret := (some .boolean)) (by decide) rfl (Nat.le_of_ble_eq_true rfl) ?_ sz
  intro p e s m below meth c AA ls hx hb hr hts hown hml hlk hA hK hP hD hS hl
  have hown : s.vm.findClass RX1 = some m.cls := hown
  have hl : lv_has ls 6 [(0, .ref o), (1, .int p1)] := hl
  rw [qX1_isMove] at hR
  refine lv_iload_n hx hb dX1_isMove_0 rfl (lv_at hl 1 rfl) ?_
  refine lv_bipush (v := 64) hx hb dX1_isMove_1 (by decide) ?_
  refine lv_irem hx hb dX1_isMove_3 (by decide) ?_
  refine lv_topi (fun y2 ey2 => ?_)
  rw [← ey2] at hR
  refine lv_istore_n (lv' := [(2, .int y2), (0, .ref o), (1, .int p1)]) hx hb dX1_isMove_4 rfl hl (by decide) rfl (fun ls hl => ?_)
  refine lv_iload_n hx hb dX1_isMove_5 rfl (lv_at hl 2 rfl) ?_
  refine lv_bipush (v := 64) hx hb dX1_isMove_6 (by decide) ?_
  refine lv_idiv hx hb dX1_isMove_8 (by decide) ?_
  refine lv_bipush (v := 64) hx hb dX1_isMove_9 (by decide) ?_
  refine lv_irem hx hb dX1_isMove_11 (by decide) ?_
  refine lv_topi (fun y3 ey3 => ?_)
  rw [← ey3] at hR
  refine lv_istore_n (lv' := [(3, .int y3), (2, .int y2), (0, .ref o), (1, .int p1)]) hx hb dX1_isMove_12 rfl hl (by decide) rfl (fun ls hl => ?_)
  refine lv_iload_n hx hb dX1_isMove_13 rfl (lv_at hl 3 rfl) ?_
  refine lv_sipush (v := 4096) hx hb dX1_isMove_14 (by decide) ?_
  refine lv_idiv hx hb dX1_isMove_17 (by decide) ?_
  refine lv_topi (fun y4 ey4 => ?_)
  rw [← ey4] at hR
  refine lv_istore (lv' := [(4, .int y4), (3, .int y3), (2, .int y2), (0, .ref o), (1, .int p1)]) hx hb dX1_isMove_18 hl (by decide) rfl (fun ls hl => ?_)
  refine lv_iload_n hx hb dX1_isMove_20 rfl (lv_at hl 4 rfl) ?_
  refine lv_if_lt (tgt := 41) hx hb dX1_isMove_21 (by decide) (fun c21 => ?_) (fun c21 => ?_)
  · have hR := hR.trans (if_pos c21)
    refine lv_iconst (v := 0) hx hb dX1_isMove_41 (by decide) ?_
    exact cRz hx hb hr hlk hK hP hD hS (Or.inl rfl) hR.symm dX1_isMove_42
  · have hR := hR.trans (if_neg c21)
    refine lv_iload hx hb dX1_isMove_24 (lv_at hl 0 rfl) ?_
    refine lv_iconst (v := 5) hx hb dX1_isMove_26 (by decide) ?_
    refine lv_icmp_gt (tgt := 41) hx hb dX1_isMove_27 (by decide) (fun c27 => ?_) (fun c27 => ?_)
    · have hR := hR.trans (if_pos c27)
      refine lv_iconst (v := 0) hx hb dX1_isMove_41 (by decide) ?_
      exact cRz hx hb hr hlk hK hP hD hS (Or.inl rfl) hR.symm dX1_isMove_42
    · have hR := hR.trans (if_neg c27)
      refine lv_iload hx hb dX1_isMove_30 (lv_at hl 0 rfl) ?_
      refine lv_iconst (v := 1) hx hb dX1_isMove_32 (by decide) ?_
      refine lv_icmp_eq (tgt := 41) hx hb dX1_isMove_33 (by decide) (fun c33 => ?_) (fun c33 => ?_)
      · have hR := hR.trans (if_pos c33)
        refine lv_iconst (v := 0) hx hb dX1_isMove_41 (by decide) ?_
        exact cRz hx hb hr hlk hK hP hD hS (Or.inl rfl) hR.symm dX1_isMove_42
      · have hR := hR.trans (if_neg c33)
        refine lv_iload_n hx hb dX1_isMove_36 rfl (lv_at hl 2 rfl) ?_
        refine lv_iload_n hx hb dX1_isMove_37 rfl (lv_at hl 1 rfl) ?_
        refine lv_icmp_ne (tgt := 43) hx hb dX1_isMove_38 (by decide) (fun c38 => ?_) (fun c38 => ?_)
        · have hR := hR.trans (if_pos c38)
          have hy2 : vp_in y2 64 := by rw [ey2]; exact inRem c21
          have hy3 : vp_in y3 64 := by rw [ey3]; exact inRem2 c21
          refine lv_aload_n hx hb dX1_isMove_43 rfl (lv_at hl 3 rfl) ?_
          refine gR hx hb hts in_X1_isMove hown hK hP 1 (by decide) rfl kX1_isMove_0 dX1_isMove_44 ?_
          refine lv_iload_n hx hb dX1_isMove_47 rfl (lv_at hl 2 rfl) ?_
          refine va_iald (f := A 1) hx hb hK hP 1 0 rfl rfl hy2 dX1_isMove_48 ?_
          refine cSi ⟨hx, hb, hml, hown, hts⟩ (mX1_kindOf l D (A 1 (Int32.toNatClampNeg y2)) _ rfl) (va_cwS 1 hts gX1_isMove_X1_kindOf rfl rfl rfl nX1_kindOf ⟨Nat.le_of_ble_eq_true rfl, Nat.le_of_ble_eq_true rfl⟩) rfl hl.1 rfl (Nat.le_of_ble_eq_true rfl) dX1_isMove_49 ⟨Nat.zero_le _, Nat.zero_le _⟩ hK hP hS hA (fun H locs hP hS => ?_)
          refine lv_iconst (v := 1) hx hb dX1_isMove_52 (by decide) ?_
          have hj81 : ∀ (s81_0 : Int32) (H : Heap) (locs : List Loc) (ls : Array Slot), va_P D vwCl (wR cI cB o h F A) H → va_D AA (wR cI cB o h F A) → va_S AA s.heap H locs → lv_has ls 6 [(0, .ref o), (2, .int y2), (3, .int y3), (4, .int y4)] → r0 = qX1_isMove_j81 F A y2 y3 y4 s81_0 → W p l e rmX1_isMove s m [.ref o, .int p1].toArray below meth c H locs 0 0 (MQ below (cQi D [(cI, .int), (cB, .byte)] r0 (wR cI cB o h F A) AA) [.ref o, .int p1].toArray s 0 0 AA) (F0 m 81 ls [.int s81_0]) := by
            intro s81_0 H locs ls  hP hD hS hl hR
            rw [qX1_isMove_j81] at hR
            refine lv_istore (lv' := [(5, .int s81_0), (0, .ref o), (2, .int y2), (3, .int y3), (4, .int y4)]) hx hb dX1_isMove_81 hl (by decide) rfl (fun ls hl => ?_)
            refine lv_aload_n hx hb dX1_isMove_83 rfl (lv_at hl 1 rfl) ?_
            refine gR hx hb hts in_X1_isMove hown hK hP 1 (by decide) rfl kX1_isMove_0 dX1_isMove_84 ?_
            refine lv_iload_n hx hb dX1_isMove_87 rfl (lv_at hl 2 rfl) ?_
            refine va_iald (f := A 1) hx hb hK hP 1 0 rfl rfl hy2 dX1_isMove_88 ?_
            refine cSi ⟨hx, hb, hml, hown, hts⟩ (mX1_sideOf l D (A 1 (Int32.toNatClampNeg y2)) _ rfl) (va_cwS 1 hts gX1_isMove_X1_sideOf rfl rfl rfl nX1_sideOf ⟨Nat.le_of_ble_eq_true rfl, Nat.le_of_ble_eq_true rfl⟩) rfl hl.1 rfl (Nat.le_of_ble_eq_true rfl) dX1_isMove_89 ⟨Nat.zero_le _, Nat.zero_le _⟩ hK hP hS hA (fun H locs hP hS => ?_)
            refine lv_aload_n hx hb dX1_isMove_92 rfl (lv_at hl 1 rfl) ?_
            refine gR hx hb hts in_X1_isMove hown hK hP 2 (by decide) rfl kX1_isMove_1 dX1_isMove_93 ?_
            refine lv_icmp_ne (tgt := 145) hx hb dX1_isMove_96 (by decide) (fun c96 => ?_) (fun c96 => ?_)
            · have hR := hR.trans (if_pos c96)
              refine lv_iconst (v := 0) hx hb dX1_isMove_145 (by decide) ?_
              exact cRz hx hb hr hlk hK hP hD hS (Or.inl rfl) hR.symm dX1_isMove_146
            · have hR := hR.trans (if_neg (fun z => z c96))
              refine lv_aload_n hx hb dX1_isMove_99 rfl (lv_at hl 1 rfl) ?_
              refine gR hx hb hts in_X1_isMove hown hK hP 1 (by decide) rfl kX1_isMove_0 dX1_isMove_100 ?_
              refine lv_iload_n hx hb dX1_isMove_103 rfl (lv_at hl 3 rfl) ?_
              refine va_iald (f := A 1) hx hb hK hP 1 0 rfl rfl hy3 dX1_isMove_104 ?_
              refine cSi ⟨hx, hb, hml, hown, hts⟩ (mX1_sideOf l D (A 1 (Int32.toNatClampNeg y3)) _ rfl) (va_cwS 1 hts gX1_isMove_X1_sideOf rfl rfl rfl nX1_sideOf ⟨Nat.le_of_ble_eq_true rfl, Nat.le_of_ble_eq_true rfl⟩) rfl hl.1 rfl (Nat.le_of_ble_eq_true rfl) dX1_isMove_105 ⟨Nat.zero_le _, Nat.zero_le _⟩ hK hP hS hA (fun H locs hP hS => ?_)
              refine lv_aload_n hx hb dX1_isMove_108 rfl (lv_at hl 1 rfl) ?_
              refine gR hx hb hts in_X1_isMove hown hK hP 2 (by decide) rfl kX1_isMove_1 dX1_isMove_109 ?_
              refine lv_icmp_eq (tgt := 145) hx hb dX1_isMove_112 (by decide) (fun c112 => ?_) (fun c112 => ?_)
              · have hR := hR.trans (if_pos c112)
                refine lv_iconst (v := 0) hx hb dX1_isMove_145 (by decide) ?_
                exact cRz hx hb hr hlk hK hP hD hS (Or.inl rfl) hR.symm dX1_isMove_146
              · have hR := hR.trans (if_neg c112)
                refine lv_aload_n hx hb dX1_isMove_115 rfl (lv_at hl 1 rfl) ?_
                refine gR hx hb hts in_X1_isMove hown hK hP 1 (by decide) rfl kX1_isMove_0 dX1_isMove_116 ?_
                refine lv_iload_n hx hb dX1_isMove_119 rfl (lv_at hl 3 rfl) ?_
                refine va_iald (f := A 1) hx hb hK hP 1 0 rfl rfl hy3 dX1_isMove_120 ?_
                refine cSi ⟨hx, hb, hml, hown, hts⟩ (mX1_kindOf l D (A 1 (Int32.toNatClampNeg y3)) _ rfl) (va_cwS 1 hts gX1_isMove_X1_kindOf rfl rfl rfl nX1_kindOf ⟨Nat.le_of_ble_eq_true rfl, Nat.le_of_ble_eq_true rfl⟩) rfl hl.1 rfl (Nat.le_of_ble_eq_true rfl) dX1_isMove_121 ⟨Nat.zero_le _, Nat.zero_le _⟩ hK hP hS hA (fun H locs hP hS => ?_)
                refine lv_bipush (v := 6) hx hb dX1_isMove_124 (by decide) ?_
                refine lv_icmp_eq (tgt := 145) hx hb dX1_isMove_126 (by decide) (fun c126 => ?_) (fun c126 => ?_)
                · have hR := hR.trans (if_pos c126)
                  refine lv_iconst (v := 0) hx hb dX1_isMove_145 (by decide) ?_
                  exact cRz hx hb hr hlk hK hP hD hS (Or.inl rfl) hR.symm dX1_isMove_146
                · have hR := hR.trans (if_neg c126)
                  refine lv_iload hx hb dX1_isMove_129 (lv_at hl 0 rfl) ?_
                  refine lv_iload hx hb dX1_isMove_131 (lv_at hl 4 rfl) ?_
                  refine lv_iconst (v := 1) hx hb dX1_isMove_133 (by decide) ?_
                  have hj142 : ∀ (s142_0 : Int32) (H : Heap) (locs : List Loc) (ls : Array Slot), va_P D vwCl (wR cI cB o h F A) H → va_D AA (wR cI cB o h F A) → va_S AA s.heap H locs → lv_has ls 6 [(0, .ref o), (2, .int y2), (3, .int y3)] → r0 = qX1_isMove_j142 F A y2 y3 s142_0 s81_0 → W p l e rmX1_isMove s m [.ref o, .int p1].toArray below meth c H locs 0 0 (MQ below (cQi D [(cI, .int), (cB, .byte)] r0 (wR cI cB o h F A) AA) [.ref o, .int p1].toArray s 0 0 AA) (F0 m 142 ls [.int s142_0, .int s81_0]) := by
                    intro s142_0 H locs ls  hP hD hS hl hR
                    rw [qX1_isMove_j142] at hR
                    refine lv_icmp_eq (tgt := 147) hx hb dX1_isMove_142 (by decide) (fun c142 => ?_) (fun c142 => ?_)
                    · have hR := hR.trans (if_pos c142)
                      refine lv_aload_n hx hb dX1_isMove_147 rfl (lv_at hl 0 rfl) ?_
                      refine gR hx hb hts in_X1_isMove hown hK hP 1 (by decide) rfl kX1_isMove_0 dX1_isMove_148 ?_
                      refine lv_iload_n hx hb dX1_isMove_151 rfl (lv_at hl 1 rfl) ?_
                      refine va_iald (f := A 1) hx hb hK hP 1 0 rfl rfl hy2 dX1_isMove_152 ?_
                      refine cSi ⟨hx, hb, hml, hown, hts⟩ (mX1_kindOf l D (A 1 (Int32.toNatClampNeg y2)) _ rfl) (va_cwS 1 hts gX1_isMove_X1_kindOf rfl rfl rfl nX1_kindOf ⟨Nat.le_of_ble_eq_true rfl, Nat.le_of_ble_eq_true rfl⟩) rfl hl.1 rfl (Nat.le_of_ble_eq_true rfl) dX1_isMove_153 ⟨Nat.zero_le _, Nat.zero_le _⟩ hK hP hS hA (fun H locs hP hS => ?_)
                      refine lv_iconst (v := 1) hx hb dX1_isMove_156 (by decide) ?_
                      refine lv_icmp_ne (tgt := 167) hx hb dX1_isMove_157 (by decide) (fun c157 => ?_) (fun c157 => ?_)
                      · have hR := hR.trans (if_pos c157)
                        refine lv_aload_n hx hb dX1_isMove_167 rfl (lv_at hl 0 rfl) ?_
                        refine lv_iload_n hx hb dX1_isMove_168 rfl (lv_at hl 1 rfl) ?_
                        refine lv_iload_n hx hb dX1_isMove_169 rfl (lv_at hl 2 rfl) ?_
                        refine cVi ⟨hx, hb, hml, hown, hts⟩ (mX1_attacks l D cI cB o h F A y2 y3 hy2 hy3 _ rfl) (cwV 2 hts gX1_isMove_X1_attacks rfl rfl rfl nX1_attacks ⟨Nat.le_of_ble_eq_true rfl, Nat.le_of_ble_eq_true rfl⟩) (va_recv hK hP (ci := 1) (q0 := 0) rfl rfl) rfl hl.1 rfl (Nat.le_of_ble_eq_true rfl) dX1_isMove_170 ⟨Nat.zero_le _, Nat.zero_le _⟩ hK hP hD hS hA (fun H locs hP hD hS => ?_)
                        refine lv_if_ne (tgt := 199) hx hb dX1_isMove_173 (by decide) (fun c173 => ?_) (fun c173 => ?_)
                        · have hR := hR.trans (if_pos c173)
                          refine lv_iconst (v := 1) hx hb dX1_isMove_199 (by decide) ?_
                          refine lv_goto (tgt := 204) hx hb dX1_isMove_200 (by decide) ?_
                          exact cRz hx hb hr hlk hK hP hD hS (Or.inr rfl) hR.symm dX1_isMove_204
                        · have hR := hR.trans (if_neg (fun z => z c173))
                          refine lv_aload_n hx hb dX1_isMove_176 rfl (lv_at hl 0 rfl) ?_
                          refine gR hx hb hts in_X1_isMove hown hK hP 1 (by decide) rfl kX1_isMove_0 dX1_isMove_177 ?_
                          refine lv_iload_n hx hb dX1_isMove_180 rfl (lv_at hl 1 rfl) ?_
                          refine va_iald (f := A 1) hx hb hK hP 1 0 rfl rfl hy2 dX1_isMove_181 ?_
                          refine cSi ⟨hx, hb, hml, hown, hts⟩ (mX1_kindOf l D (A 1 (Int32.toNatClampNeg y2)) _ rfl) (va_cwS 1 hts gX1_isMove_X1_kindOf rfl rfl rfl nX1_kindOf ⟨Nat.le_of_ble_eq_true rfl, Nat.le_of_ble_eq_true rfl⟩) rfl hl.1 rfl (Nat.le_of_ble_eq_true rfl) dX1_isMove_182 ⟨Nat.zero_le _, Nat.zero_le _⟩ hK hP hS hA (fun H locs hP hS => ?_)
                          refine lv_bipush (v := 6) hx hb dX1_isMove_185 (by decide) ?_
                          refine lv_icmp_ne (tgt := 203) hx hb dX1_isMove_187 (by decide) (fun c187 => ?_) (fun c187 => ?_)
                          · have hR := hR.trans (if_pos c187)
                            refine lv_iconst (v := 0) hx hb dX1_isMove_203 (by decide) ?_
                            exact cRz hx hb hr hlk hK hP hD hS (Or.inl rfl) hR.symm dX1_isMove_204
                          · have hR := hR.trans (if_neg (fun z => z c187))
                            refine lv_aload_n hx hb dX1_isMove_190 rfl (lv_at hl 0 rfl) ?_
                            refine lv_iload_n hx hb dX1_isMove_191 rfl (lv_at hl 1 rfl) ?_
                            refine lv_iload_n hx hb dX1_isMove_192 rfl (lv_at hl 2 rfl) ?_
                            refine cVi ⟨hx, hb, hml, hown, hts⟩ (mX1_castles l D cI cB o h F A y2 y3 _ rfl) (cwV 2 hts gX1_isMove_X1_castles rfl rfl rfl nX1_castles ⟨Nat.le_of_ble_eq_true rfl, Nat.le_of_ble_eq_true rfl⟩) (va_recv hK hP (ci := 1) (q0 := 0) rfl rfl) rfl hl.1 rfl (Nat.le_of_ble_eq_true rfl) dX1_isMove_193 ⟨Nat.zero_le _, Nat.zero_le _⟩ hK hP hD hS hA (fun H locs hP hD hS => ?_)
                            refine lv_if_eq (tgt := 203) hx hb dX1_isMove_196 (by decide) (fun c196 => ?_) (fun c196 => ?_)
                            · have hR := hR.trans (if_pos c196)
                              refine lv_iconst (v := 0) hx hb dX1_isMove_203 (by decide) ?_
                              exact cRz hx hb hr hlk hK hP hD hS (Or.inl rfl) hR.symm dX1_isMove_204
                            · have hR := hR.trans (if_neg c196)
                              refine lv_iconst (v := 1) hx hb dX1_isMove_199 (by decide) ?_
                              refine lv_goto (tgt := 204) hx hb dX1_isMove_200 (by decide) ?_
                              exact cRz hx hb hr hlk hK hP hD hS (Or.inr rfl) hR.symm dX1_isMove_204
                      · have hR := hR.trans (if_neg (fun z => z c157))
                        refine lv_aload_n hx hb dX1_isMove_160 rfl (lv_at hl 0 rfl) ?_
                        refine lv_iload_n hx hb dX1_isMove_161 rfl (lv_at hl 1 rfl) ?_
                        refine lv_iload_n hx hb dX1_isMove_162 rfl (lv_at hl 2 rfl) ?_
                        refine cVi ⟨hx, hb, hml, hown, hts⟩ (mX1_pawnGoes l D cI cB o h F A y2 y3 hy2 hy3 _ rfl) (cwV 2 hts gX1_isMove_X1_pawnGoes rfl rfl rfl nX1_pawnGoes ⟨Nat.le_of_ble_eq_true rfl, Nat.le_of_ble_eq_true rfl⟩) (va_recv hK hP (ci := 1) (q0 := 0) rfl rfl) rfl hl.1 rfl (Nat.le_of_ble_eq_true rfl) dX1_isMove_163 ⟨Nat.zero_le _, Nat.zero_le _⟩ hK hP hD hS hA (fun H locs hP hD hS => ?_)
                        exact cRz hx hb hr hlk hK hP hD hS (bX1_pawnGoes F A y2 y3) hR.symm dX1_isMove_166
                    · have hR := hR.trans (if_neg c142)
                      refine lv_iconst (v := 0) hx hb dX1_isMove_145 (by decide) ?_
                      exact cRz hx hb hr hlk hK hP hD hS (Or.inl rfl) hR.symm dX1_isMove_146
                  refine lv_icmp_le (tgt := 141) hx hb dX1_isMove_134 (by decide) (fun c134 => ?_) (fun c134 => ?_)
                  · have hR := hR.trans (if_pos c134)
                    refine lv_iconst (v := 0) hx hb dX1_isMove_141 (by decide) ?_
                    exact hj142 0 _ _ ls hP hD hS (lv_sub hl [1, 2, 3] rfl) hR
                  · have hR := hR.trans (if_neg c134)
                    refine lv_iconst (v := 1) hx hb dX1_isMove_137 (by decide) ?_
                    refine lv_goto (tgt := 142) hx hb dX1_isMove_138 (by decide) ?_
                    exact hj142 1 _ _ ls hP hD hS (lv_sub hl [1, 2, 3] rfl) hR
          refine lv_icmp_ne (tgt := 80) hx hb dX1_isMove_53 (by decide) (fun c53 => ?_) (fun c53 => ?_)
          · have hR := hR.trans (if_pos c53)
            refine lv_iconst (v := 0) hx hb dX1_isMove_80 (by decide) ?_
            exact hj81 0 _ _ ls hP hD hS (lv_sub hl [3, 2, 1, 0] rfl) hR
          · have hR := hR.trans (if_neg (fun z => z c53))
            refine lv_iload_n hx hb dX1_isMove_56 rfl (lv_at hl 1 rfl) ?_
            refine lv_bipush (v := 8) hx hb dX1_isMove_57 (by decide) ?_
            refine lv_idiv hx hb dX1_isMove_59 (by decide) ?_
            refine lv_aload_n hx hb dX1_isMove_60 rfl (lv_at hl 3 rfl) ?_
            refine gR hx hb hts in_X1_isMove hown hK hP 2 (by decide) rfl kX1_isMove_1 dX1_isMove_61 ?_
            have hj73 : ∀ (s73_0 : Int32) (H : Heap) (locs : List Loc) (ls : Array Slot), va_P D vwCl (wR cI cB o h F A) H → va_D AA (wR cI cB o h F A) → va_S AA s.heap H locs → lv_has ls 6 [(0, .ref o), (2, .int y2), (3, .int y3), (4, .int y4)] → r0 = qX1_isMove_j73 F A y2 y3 y4 s73_0 (y3 / 8) → W p l e rmX1_isMove s m [.ref o, .int p1].toArray below meth c H locs 0 0 (MQ below (cQi D [(cI, .int), (cB, .byte)] r0 (wR cI cB o h F A) AA) [.ref o, .int p1].toArray s 0 0 AA) (F0 m 73 ls [.int s73_0, .int (y3 / 8)]) := by
              intro s73_0 H locs ls  hP hD hS hl hR
              rw [qX1_isMove_j73] at hR
              refine lv_icmp_ne (tgt := 80) hx hb dX1_isMove_73 (by decide) (fun c73 => ?_) (fun c73 => ?_)
              · have hR := hR.trans (if_pos c73)
                refine lv_iconst (v := 0) hx hb dX1_isMove_80 (by decide) ?_
                exact hj81 0 _ _ ls hP hD hS (lv_sub hl [0, 1, 2, 3] rfl) hR
              · have hR := hR.trans (if_neg (fun z => z c73))
                refine lv_iconst (v := 1) hx hb dX1_isMove_76 (by decide) ?_
                refine lv_goto (tgt := 81) hx hb dX1_isMove_77 (by decide) ?_
                exact hj81 1 _ _ ls hP hD hS (lv_sub hl [0, 1, 2, 3] rfl) hR
            refine lv_if_ne (tgt := 72) hx hb dX1_isMove_64 (by decide) (fun c64 => ?_) (fun c64 => ?_)
            · have hR := hR.trans (if_pos c64)
              refine lv_iconst (v := 0) hx hb dX1_isMove_72 (by decide) ?_
              exact hj73 0 _ _ ls hP hD hS (lv_sub hl [3, 2, 1, 0] rfl) hR
            · have hR := hR.trans (if_neg (fun z => z c64))
              refine lv_bipush (v := 7) hx hb dX1_isMove_67 (by decide) ?_
              refine lv_goto (tgt := 73) hx hb dX1_isMove_69 (by decide) ?_
              exact hj73 7 _ _ ls hP hD hS (lv_sub hl [3, 2, 1, 0] rfl) hR
        · have hR := hR.trans (if_neg (fun z => z c38))
          refine lv_iconst (v := 0) hx hb dX1_isMove_41 (by decide) ?_
          exact cRz hx hb hr hlk hK hP hD hS (Or.inl rfl) hR.symm dX1_isMove_42
theorem bX1_isMove (F : Nat → Int32) (A : Nat → Nat → Int32) (a : Int32) : qX1_isMove F A a = 0 ∨ qX1_isMove F A a = 1 := by
  simp only [qX1_isMove, qX1_isMove_j73, qX1_isMove_j81, qX1_isMove_j142]
  repeat' (first | with_reducible refine b_ite ?_ ?_ | with_reducible exact bX1_pawnGoes _ _ _ _ | exact Or.inl rfl | exact Or.inr rfl)
