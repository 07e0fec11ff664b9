def qX1_fits (F : Nat → Int32) (A : Nat → Nat → Int32) (p1 : Int32) : Int32 × tFA := ((qX1_isMove (uf F 0 0) A p1), (uf F 0 0), A)
abbrev rmX1_fits : Room := { frames := 5, cells := 0, slots := 0, locals := 124 }
theorem nX1_fits : yX1_fits.cls = RX1 ∧ yX1_fits.cls ≠ "java/lang/invoke/MethodHandle" ∧ yX1_fits.cls ≠ "java/lang/invoke/VarHandle" ∧ (parseMethodDescriptor yX1_fits.desc).map (fun d => d.parameters.length) = some 1 := by decide +kernel
theorem in_X1_fits : ∀ w ∈ wsX10, w ∈ wsX1_fits := fun w h => by
  unfold wsX1_fits
  exact List.mem_cons_of_mem _ (List.mem_append_right _ h)
theorem kX1_fits_0 : Cond.fieldLink RX1 31 "BoardModel" "thrown" "I" ∈ wsX1_fits := by decide +kernel
set_option maxHeartbeats 4000000 in
set_option maxRecDepth 100000 in
theorem mX1_fits (l : Launch) (D : va_G) (cI cB : ClassId) (o : Nat) (h : Nat → Nat) (F : Nat → Int32) (A : Nat → Nat → Int32) (p1 : Int32) (r0 : Int32 × tFA) (hR : r0 = qX1_fits F A p1) : cMi l yX1_fits wsX1_fits rmX1_fits D [(cI, .int), (cB, .byte)] (wR cI cB o h F A) [.ref o, .int p1] r0.1 (wR cI cB o h r0.2.1 r0.2.2) := by
  intro sz
  refine cMet_of (Qc := fun AA => cQi D [(cI, .int), (cB, .byte)] r0.1 (wR cI cB o h r0.2.1 r0.2.2) AA) (cc := cX1_fits) (maxL := 2) (ret := (some .boolean)) (by decide) rfl (Nat.le_of_ble_eq_true rfl) ?_ sz
  intro p e s m below meth c AA ls hx hb hr hts hown hml hlk hA hK hP hD hS hl
  have hown : s.vm.findClass RX1 = some m.cls := hown
  have hl : lv_has ls 2 [(0, .ref o), (1, .int p1)] := hl
  rw [qX1_fits] at hR
  refine lv_aload_n hx hb dX1_fits_0 rfl (lv_at hl 0 rfl) ?_
  refine lv_iconst (v := 0) hx hb dX1_fits_1 (by decide) ?_
  refine pR0 hx hb hts in_X1_fits hown hK hP hD hS kX1_fits_0 dX1_fits_2 (fun H locs hP hD hS => ?_)
  refine lv_aload_n hx hb dX1_fits_5 rfl (lv_at hl 0 rfl) ?_
  refine lv_iload_n hx hb dX1_fits_6 rfl (lv_at hl 1 rfl) ?_
  refine cVi ⟨hx, hb, hml, hown, hts⟩ (mX1_isMove l D cI cB o h (uf F 0 0) A p1 _ rfl) (cwV 1 hts gX1_fits_X1_isMove rfl rfl rfl nX1_isMove ⟨Nat.le_of_ble_eq_true rfl, Nat.le_of_ble_eq_true rfl⟩) (va_recv hK hP (ci := 1) (q0 := 0) rfl rfl) rfl hl.1 rfl (Nat.le_of_ble_eq_true rfl) dX1_fits_7 ⟨Nat.zero_le _, Nat.zero_le _⟩ hK hP hD hS hA (fun H locs hP hD hS => ?_)
  subst hR
  exact cRz hx hb hr hlk hK hP hD hS (bX1_isMove (uf F 0 0) A p1) rfl dX1_fits_10
def qX1_keep_w2 (F : Nat → Int32) (x1 : Int32) : Nat → Nat → (Nat → Nat → Int32) → tFA
  | 0, n, A => ((uf F 7 ((F 7) + 1)), (ua (ua (ua (ua (ua (ua A 10 (Int32.toNatClampNeg (5 * (F 7))) (F 2)) 10 (Int32.toNatClampNeg ((5 * (F 7)) + 1)) (F 3)) 10 (Int32.toNatClampNeg ((5 * (F 7)) + 2)) (F 4)) 10 (Int32.toNatClampNeg ((5 * (F 7)) + 3)) (F 5)) 10 (Int32.toNatClampNeg ((5 * (F 7)) + 4)) (F 6)) 8 (Int32.toNatClampNeg (F 7)) x1))
  | k + 1, n, A => (qX1_keep_w2 F x1 k (n + 1) (ua A 9 (Int32.toNatClampNeg ((64 * (F 7)) + (nI n))) (vp_nar .byte (Int8.toInt32 (Int32.toInt8 (A 1 (Int32.toNatClampNeg (nI n))))))))
def qX1_keep (F : Nat → Int32) (A : Nat → Nat → Int32) (p1 : Int32) : tFA := (qX1_keep_w2 F p1 64 0 A)
abbrev rmX1_keep : Room := { frames := 0, cells := 0, slots := 0, locals := 0 }
theorem nX1_keep : yX1_keep.cls = RX1 ∧ yX1_keep.cls ≠ "java/lang/invoke/MethodHandle" ∧ yX1_keep.cls ≠ "java/lang/invoke/VarHandle" ∧ (parseMethodDescriptor yX1_keep.desc).map (fun d => d.parameters.length) = some 1 := by decide +kernel
theorem in_X1_keep : ∀ w ∈ wsX10, w ∈ wsX1_keep := fun w h => by
  unfold wsX1_keep
  exact List.mem_cons_of_mem _ (List.mem_append_right _ h)
theorem kX1_keep_0 : Cond.fieldLink RX1 28 "BoardModel" "states" "[I" ∈ wsX1_keep := by decide +kernel
theorem kX1_keep_1 : Cond.fieldLink RX1 43 "BoardModel" "made" "I" ∈ wsX1_keep := by decide +kernel
theorem kX1_keep_2 : Cond.fieldLink RX1 34 "BoardModel" "side" "I" ∈ wsX1_keep := by decide +kernel
theorem kX1_keep_3 : Cond.fieldLink RX1 37 "BoardModel" "rights" "I" ∈ wsX1_keep := by decide +kernel
theorem kX1_keep_4 : Cond.fieldLink RX1 13 "BoardModel" "passing" "I" ∈ wsX1_keep := by decide +kernel
theorem kX1_keep_5 : Cond.fieldLink RX1 40 "BoardModel" "half" "I" ∈ wsX1_keep := by decide +kernel
theorem kX1_keep_6 : Cond.fieldLink RX1 17 "BoardModel" "full" "I" ∈ wsX1_keep := by decide +kernel
theorem kX1_keep_7 : Cond.fieldLink RX1 20 "BoardModel" "moves" "[I" ∈ wsX1_keep := by decide +kernel
theorem kX1_keep_8 : Cond.fieldLink RX1 24 "BoardModel" "kept" "[B" ∈ wsX1_keep := by decide +kernel
theorem kX1_keep_9 : Cond.fieldLink RX1 7 "BoardModel" "squares" "[I" ∈ wsX1_keep := by decide +kernel
set_option maxHeartbeats 4000000 in
set_option maxRecDepth 100000 in
theorem mX1_keep (l : Launch) (D : va_G) (cI cB : ClassId) (o : Nat) (h : Nat → Nat) (F : Nat → Int32) (A : Nat → Nat → Int32) (p1 : Int32) (hm : ∃ k : Nat, k < 600 ∧ F 7 = nI k) (r0 : tFA) (hR : r0 = qX1_keep F A p1) : cMv l yX1_keep wsX1_keep rmX1_keep D [(cI, .int), (cB, .byte)] (wR cI cB o h F A) [.ref o, .int p1] (wR cI cB o h r0.1 r0.2) := by
  intro sz
  refine cMet_of (Qc := fun AA => cQv D [(cI, .int), (cB, .byte)] (wR cI cB o h r0.1 r0.2) AA) (cc := cX1_keep) (maxL := 3) (ret := none) (by decide) rfl (Nat.le_of_ble_eq_true rfl) ?_ sz
  intro p e s m below meth c AA ls hx hb hr hts hown hml hlk hA hK hP hD hS hl
  have hown : s.vm.findClass RX1 = some m.cls := hown
  have hl : lv_has ls 3 [(0, .ref o), (1, .int p1)] := hl
  rw [qX1_keep] at hR
  refine lv_iconst (v := 0) hx hb dX1_keep_0 (by decide) ?_
  refine lv_istore_n (lv' := [(2, .int 0), (0, .ref o), (1, .int p1)]) hx hb dX1_keep_1 rfl hl (by decide) rfl (fun ls hl => ?_)
  have hw2 : ∀ (k n2 : Nat) (A2 : Nat → Nat → Int32) (H : Heap) (locs : List Loc) (ls : Array Slot), n2 + k = 64 → va_P D vwCl (wR cI cB o h F A2) H → va_D AA (wR cI cB o h F A2) → va_S AA s.heap H locs → lv_has ls 3 [(0, .ref o), (1, .int p1), (2, .int (nI n2))] → r0 = qX1_keep_w2 F p1 k n2 A2 → W p l e rmX1_keep s m [.ref o, .int p1].toArray below meth c H locs 0 0 (MQ below (cQv D [(cI, .int), (cB, .byte)] (wR cI cB o h r0.1 r0.2) AA) [.ref o, .int p1].toArray s 0 0 AA) (F0 m 2 ls []) := by
    intro k
    induction k with
    | zero =>
      intro n2 A2 H locs ls hn  hP hD hS hl hR
      rw [qX1_keep_w2] at hR
      refine lv_iload_n hx hb dX1_keep_2 rfl (lv_at hl 2 rfl) ?_
      refine lv_bipush (v := 64) hx hb dX1_keep_3 (by decide) ?_
      refine lv_icmp_ge (tgt := 35) hx hb dX1_keep_5 (by decide) (fun c5 => ?_) (fun c5 => ?_)
      · skip
        refine lv_aload_n hx hb dX1_keep_35 rfl (lv_at hl 0 rfl) ?_
        refine gR hx hb hts in_X1_keep hown hK hP 10 (by decide) rfl kX1_keep_0 dX1_keep_36 ?_
        refine lv_iconst (v := 5) hx hb dX1_keep_39 (by decide) ?_
        refine lv_aload_n hx hb dX1_keep_40 rfl (lv_at hl 0 rfl) ?_
        refine gR hx hb hts in_X1_keep hown hK hP 7 (by decide) rfl kX1_keep_1 dX1_keep_41 ?_
        refine lv_imul hx hb dX1_keep_44 ?_
        refine lv_aload_n hx hb dX1_keep_45 rfl (lv_at hl 0 rfl) ?_
        refine gR hx hb hts in_X1_keep hown hK hP 2 (by decide) rfl kX1_keep_2 dX1_keep_46 ?_
        refine sR10 hx hb hK hP hD hS (inSt0 hm) dX1_keep_49 (fun H locs hP hD hS => ?_)
        refine lv_aload_n hx hb dX1_keep_50 rfl (lv_at hl 0 rfl) ?_
        refine gR hx hb hts in_X1_keep hown hK hP 10 (by decide) rfl kX1_keep_0 dX1_keep_51 ?_
        refine lv_iconst (v := 5) hx hb dX1_keep_54 (by decide) ?_
        refine lv_aload_n hx hb dX1_keep_55 rfl (lv_at hl 0 rfl) ?_
        refine gR hx hb hts in_X1_keep hown hK hP 7 (by decide) rfl kX1_keep_1 dX1_keep_56 ?_
        refine lv_imul hx hb dX1_keep_59 ?_
        refine lv_iconst (v := 1) hx hb dX1_keep_60 (by decide) ?_
        refine lv_iadd hx hb dX1_keep_61 ?_
        refine lv_aload_n hx hb dX1_keep_62 rfl (lv_at hl 0 rfl) ?_
        refine gR hx hb hts in_X1_keep hown hK hP 3 (by decide) rfl kX1_keep_3 dX1_keep_63 ?_
        refine sR10 hx hb hK hP hD hS (inSt hm 1 (by decide) rfl) dX1_keep_66 (fun H locs hP hD hS => ?_)
        refine lv_aload_n hx hb dX1_keep_67 rfl (lv_at hl 0 rfl) ?_
        refine gR hx hb hts in_X1_keep hown hK hP 10 (by decide) rfl kX1_keep_0 dX1_keep_68 ?_
        refine lv_iconst (v := 5) hx hb dX1_keep_71 (by decide) ?_
        refine lv_aload_n hx hb dX1_keep_72 rfl (lv_at hl 0 rfl) ?_
        refine gR hx hb hts in_X1_keep hown hK hP 7 (by decide) rfl kX1_keep_1 dX1_keep_73 ?_
        refine lv_imul hx hb dX1_keep_76 ?_
        refine lv_iconst (v := 2) hx hb dX1_keep_77 (by decide) ?_
        refine lv_iadd hx hb dX1_keep_78 ?_
        refine lv_aload_n hx hb dX1_keep_79 rfl (lv_at hl 0 rfl) ?_
        refine gR hx hb hts in_X1_keep hown hK hP 4 (by decide) rfl kX1_keep_4 dX1_keep_80 ?_
        refine sR10 hx hb hK hP hD hS (inSt hm 2 (by decide) rfl) dX1_keep_83 (fun H locs hP hD hS => ?_)
        refine lv_aload_n hx hb dX1_keep_84 rfl (lv_at hl 0 rfl) ?_
        refine gR hx hb hts in_X1_keep hown hK hP 10 (by decide) rfl kX1_keep_0 dX1_keep_85 ?_
        refine lv_iconst (v := 5) hx hb dX1_keep_88 (by decide) ?_
        refine lv_aload_n hx hb dX1_keep_89 rfl (lv_at hl 0 rfl) ?_
        refine gR hx hb hts in_X1_keep hown hK hP 7 (by decide) rfl kX1_keep_1 dX1_keep_90 ?_
        refine lv_imul hx hb dX1_keep_93 ?_
        refine lv_iconst (v := 3) hx hb dX1_keep_94 (by decide) ?_
        refine lv_iadd hx hb dX1_keep_95 ?_
        refine lv_aload_n hx hb dX1_keep_96 rfl (lv_at hl 0 rfl) ?_
        refine gR hx hb hts in_X1_keep hown hK hP 5 (by decide) rfl kX1_keep_5 dX1_keep_97 ?_
        refine sR10 hx hb hK hP hD hS (inSt hm 3 (by decide) rfl) dX1_keep_100 (fun H locs hP hD hS => ?_)
        refine lv_aload_n hx hb dX1_keep_101 rfl (lv_at hl 0 rfl) ?_
        refine gR hx hb hts in_X1_keep hown hK hP 10 (by decide) rfl kX1_keep_0 dX1_keep_102 ?_
        refine lv_iconst (v := 5) hx hb dX1_keep_105 (by decide) ?_
        refine lv_aload_n hx hb dX1_keep_106 rfl (lv_at hl 0 rfl) ?_
        refine gR hx hb hts in_X1_keep hown hK hP 7 (by decide) rfl kX1_keep_1 dX1_keep_107 ?_
        refine lv_imul hx hb dX1_keep_110 ?_
        refine lv_iconst (v := 4) hx hb dX1_keep_111 (by decide) ?_
        refine lv_iadd hx hb dX1_keep_112 ?_
        refine lv_aload_n hx hb dX1_keep_113 rfl (lv_at hl 0 rfl) ?_
        refine gR hx hb hts in_X1_keep hown hK hP 6 (by decide) rfl kX1_keep_6 dX1_keep_114 ?_
        refine sR10 hx hb hK hP hD hS (inSt hm 4 (by decide) rfl) dX1_keep_117 (fun H locs hP hD hS => ?_)
        refine lv_aload_n hx hb dX1_keep_118 rfl (lv_at hl 0 rfl) ?_
        refine gR hx hb hts in_X1_keep hown hK hP 8 (by decide) rfl kX1_keep_7 dX1_keep_119 ?_
        refine lv_aload_n hx hb dX1_keep_122 rfl (lv_at hl 0 rfl) ?_
        refine gR hx hb hts in_X1_keep hown hK hP 7 (by decide) rfl kX1_keep_1 dX1_keep_123 ?_
        refine lv_iload_n hx hb dX1_keep_126 rfl (lv_at hl 1 rfl) ?_
        refine sR8 hx hb hK hP hD hS (inMd hm) dX1_keep_127 (fun H locs hP hD hS => ?_)
        refine lv_aload_n hx hb dX1_keep_128 rfl (lv_at hl 0 rfl) ?_
        refine lv_dup hx hb dX1_keep_129 rfl ?_
        refine gR hx hb hts in_X1_keep hown hK hP 7 (by decide) rfl kX1_keep_1 dX1_keep_130 ?_
        refine lv_iconst (v := 1) hx hb dX1_keep_133 (by decide) ?_
        refine lv_iadd hx hb dX1_keep_134 ?_
        refine pR7 hx hb hts in_X1_keep hown hK hP hD hS kX1_keep_1 dX1_keep_135 (fun H locs hP hD hS => ?_)
        subst hR
        exact cRv hx hb hr hlk hK hP hD hS dX1_keep_138
      · exact absurd (nI_le (a := 64) (b := n2) (by omega) (by omega)) c5
    | succ k ih =>
      intro n2 A2 H locs ls hn  hP hD hS hl hR
      rw [qX1_keep_w2] at hR
      refine lv_iload_n hx hb dX1_keep_2 rfl (lv_at hl 2 rfl) ?_
      refine lv_bipush (v := 64) hx hb dX1_keep_3 (by decide) ?_
      refine lv_icmp_ge (tgt := 35) hx hb dX1_keep_5 (by decide) (fun c5 => ?_) (fun c5 => ?_)
      · exact absurd c5 (nI_ge (a := n2) (b := 64) (by omega) (by omega))
      · skip
        refine lv_aload_n hx hb dX1_keep_8 rfl (lv_at hl 0 rfl) ?_
        refine gR hx hb hts in_X1_keep hown hK hP 9 (by decide) rfl kX1_keep_8 dX1_keep_9 ?_
        refine lv_bipush (v := 64) hx hb dX1_keep_12 (by decide) ?_
        refine lv_aload_n hx hb dX1_keep_14 rfl (lv_at hl 0 rfl) ?_
        refine gR hx hb hts in_X1_keep hown hK hP 7 (by decide) rfl kX1_keep_1 dX1_keep_15 ?_
        refine lv_imul hx hb dX1_keep_18 ?_
        refine lv_iload_n hx hb dX1_keep_19 rfl (lv_at hl 2 rfl) ?_
        refine lv_iadd hx hb dX1_keep_20 ?_
        refine lv_aload_n hx hb dX1_keep_21 rfl (lv_at hl 0 rfl) ?_
        refine gR hx hb hts in_X1_keep hown hK hP 1 (by decide) rfl kX1_keep_9 dX1_keep_22 ?_
        refine lv_iload_n hx hb dX1_keep_25 rfl (lv_at hl 2 rfl) ?_
        refine va_iald (f := A2 1) hx hb hK hP 1 0 rfl rfl (vp_in_nI (by omega) (by decide)) dX1_keep_26 ?_
        refine lv_i2b hx hb dX1_keep_27 rfl ?_
        refine sR9 hx hb hK hP hD hS (inKept hm (by omega)) dX1_keep_28 (fun H locs hP hD hS => ?_)
        refine lv_iinc (v := (nI (n2 + 1))) (lv' := [(2, .int (nI (n2 + 1))), (0, .ref o), (1, .int p1)]) hx hb dX1_keep_29 hl (k := 2) rfl (nI_1 _) (by decide) rfl (fun ls hl => ?_)
        refine lv_goto (tgt := 2) hx hb dX1_keep_32 (by decide) ?_
        exact ih (n2 + 1) (ua A2 9 (Int32.toNatClampNeg ((64 * (F 7)) + (nI n2))) (vp_nar .byte (Int8.toInt32 (Int32.toInt8 (A2 1 (Int32.toNatClampNeg (nI n2))))))) _ _ ls (by omega) hP hD hS (lv_sub hl [1, 2, 0] rfl) hR
  exact hw2 64 0 A _ _ ls (by omega) hP hD hS (lv_sub hl [1, 2, 0] rfl) hR
def qX1_pawnAttacks_w5 (F : Nat → Int32) (A : Nat → Nat → Int32) (x1 : Int32) (x2 : Int32) : Nat → Nat → (Int32) → Int32
  | 0, n, x3 => x3
  | k + 1, n, x3 => (if ¬ x3 = 0 then (qX1_pawnAttacks_w5 F A x1 x2 k (n + 1) 1) else (if ¬ (A 1 (Int32.toNatClampNeg (nI n))) = (1 + (6 * x2)) then (qX1_pawnAttacks_w5 F A x1 x2 k (n + 1) 0) else (if (qX1_attacks F A (nI n) x1) = 0 then (qX1_pawnAttacks_w5 F A x1 x2 k (n + 1) 0) else (qX1_pawnAttacks_w5 F A x1 x2 k (n + 1) 1))))
def qX1_pawnAttacks (F : Nat → Int32) (A : Nat → Nat → Int32) (p1 : Int32) (p2 : Int32) : Int32 := (qX1_pawnAttacks_w5 F A p1 p2 64 0 0)
abbrev rmX1_pawnAttacks : Room := { frames := 2, cells := 0, slots := 0, locals := 53 }
theorem nX1_pawnAttacks : yX1_pawnAttacks.cls = RX1 ∧ yX1_pawnAttacks.cls ≠ "java/lang/invoke/MethodHandle" ∧ yX1_pawnAttacks.cls ≠ "java/lang/invoke/VarHandle" ∧ (parseMethodDescriptor yX1_pawnAttacks.desc).map (fun d => d.parameters.length) = some 2 := by decide +kernel
theorem in_X1_pawnAttacks : ∀ w ∈ wsX10, w ∈ wsX1_pawnAttacks := fun w h => by
  unfold wsX1_pawnAttacks
  exact List.mem_cons_of_mem _ (List.mem_append_right _ h)
theorem kX1_pawnAttacks_0 : Cond.fieldLink RX1 7 "BoardModel" "squares" "[I" ∈ wsX1_pawnAttacks := by decide +kernel
set_option maxHeartbeats 4000000 in
set_option maxRecDepth 100000 in
theorem mX1_pawnAttacks (l : Launch) (D : va_G) (cI cB : ClassId) (o : Nat) (h : Nat → Nat) (F : Nat → Int32) (A : Nat → Nat → Int32) (p1 : Int32) (p2 : Int32) (h1 : vp_in p1 64) (r0 : Int32) (hR : r0 = qX1_pawnAttacks F A p1 p2) : cMi l yX1_pawnAttacks wsX1_pawnAttacks rmX1_pawnAttacks D [(cI, .int), (cB, .byte)] (wR cI cB o h F A) [.ref o, .int p1, .int p2] r0 (wR cI cB o h F A) := by
  intro sz
  refine cMet_of (Qc := fun AA => cQi D [(cI, .int), (cB, .byte)] r0 (wR cI cB o h F A) AA) (cc := cX1_pawnAttacks) (maxL := 5) (ret := (some .boolean)) (by decide) rfl (Nat.le_of_ble_eq_true rfl) ?_ sz
  intro p e s m below meth c AA ls hx hb hr hts hown hml hlk hA hK hP hD hS hl
  have hown : s.vm.findClass RX1 = some m.cls := hown
  have hl : lv_has ls 5 [(0, .ref o), (1, .int p1), (2, .int p2)] := hl
  rw [qX1_pawnAttacks] at hR
  refine lv_iconst (v := 0) hx hb dX1_pawnAttacks_0 (by decide) ?_
  refine lv_istore_n (lv' := [(3, .int 0), (0, .ref o), (1, .int p1), (2, .int p2)]) hx hb dX1_pawnAttacks_1 rfl hl (by decide) rfl (fun ls hl => ?_)
  refine lv_iconst (v := 0) hx hb dX1_pawnAttacks_2 (by decide) ?_
  refine lv_istore (lv' := [(4, .int 0), (3, .int 0), (0, .ref o), (1, .int p1), (2, .int p2)]) hx hb dX1_pawnAttacks_3 hl (by decide) rfl (fun ls hl => ?_)
  have hw5 : ∀ (k n5 : Nat) (v5_3 : Int32) (H : Heap) (locs : List Loc) (ls : Array Slot), n5 + k = 64 → (v5_3 = 0 ∨ v5_3 = 1) → va_P D vwCl (wR cI cB o h F A) H → va_D AA (wR cI cB o h F A) → va_S AA s.heap H locs → lv_has ls 5 [(0, .ref o), (1, .int p1), (2, .int p2), (3, .int v5_3), (4, .int (nI n5))] → r0 = qX1_pawnAttacks_w5 F A p1 p2 k n5 v5_3 → W p l e rmX1_pawnAttacks s m [.ref o, .int p1, .int p2].toArray below meth c H locs 0 0 (MQ below (cQi D [(cI, .int), (cB, .byte)] r0 (wR cI cB o h F A) AA) [.ref o, .int p1, .int p2].toArray s 0 0 AA) (F0 m 5 ls []) := by
    intro k
    induction k with
    | zero =>
      intro n5 v5_3 H locs ls hn hb5_3 hP hD hS hl hR
      rw [qX1_pawnAttacks_w5] at hR
      refine lv_iload hx hb dX1_pawnAttacks_5 (lv_at hl 4 rfl) ?_
      refine lv_bipush (v := 64) hx hb dX1_pawnAttacks_7 (by decide) ?_
      refine lv_icmp_ge (tgt := 54) hx hb dX1_pawnAttacks_9 (by decide) (fun c9 => ?_) (fun c9 => ?_)
      · skip
        refine lv_iload_n hx hb dX1_pawnAttacks_54 rfl (lv_at hl 3 rfl) ?_
        exact cRz hx hb hr hlk hK hP hD hS hb5_3 hR.symm dX1_pawnAttacks_55
      · exact absurd (nI_le (a := 64) (b := n5) (by omega) (by omega)) c9
    | succ k ih =>
      intro n5 v5_3 H locs ls hn hb5_3 hP hD hS hl hR
      rw [qX1_pawnAttacks_w5] at hR
      refine lv_iload hx hb dX1_pawnAttacks_5 (lv_at hl 4 rfl) ?_
      refine lv_bipush (v := 64) hx hb dX1_pawnAttacks_7 (by decide) ?_
      refine lv_icmp_ge (tgt := 54) hx hb dX1_pawnAttacks_9 (by decide) (fun c9 => ?_) (fun c9 => ?_)
      · exact absurd c9 (nI_ge (a := n5) (b := 64) (by omega) (by omega))
      · skip
        refine lv_iload_n hx hb dX1_pawnAttacks_12 rfl (lv_at hl 3 rfl) ?_
        refine lv_if_ne (tgt := 42) hx hb dX1_pawnAttacks_13 (by decide) (fun c13 => ?_) (fun c13 => ?_)
        · have hR := hR.trans (if_pos c13)
          refine lv_iconst (v := 1) hx hb dX1_pawnAttacks_42 (by decide) ?_
          refine lv_goto (tgt := 47) hx hb dX1_pawnAttacks_43 (by decide) ?_
          refine lv_istore_n (lv' := [(3, .int 1), (0, .ref o), (1, .int p1), (2, .int p2), (4, .int (nI n5))]) hx hb dX1_pawnAttacks_47 rfl hl (by decide) rfl (fun ls hl => ?_)
          refine lv_iinc (v := (nI (n5 + 1))) (lv' := [(4, .int (nI (n5 + 1))), (3, .int 1), (0, .ref o), (1, .int p1), (2, .int p2)]) hx hb dX1_pawnAttacks_48 hl (k := 4) rfl (nI_1 _) (by decide) rfl (fun ls hl => ?_)
          refine lv_goto (tgt := 5) hx hb dX1_pawnAttacks_51 (by decide) ?_
          exact ih (n5 + 1) 1 _ _ ls (by omega) (Or.inr rfl) hP hD hS (lv_sub hl [2, 3, 4, 1, 0] rfl) hR
        · have hR := hR.trans (if_neg (fun z => z c13))
          refine lv_aload_n hx hb dX1_pawnAttacks_16 rfl (lv_at hl 0 rfl) ?_
          refine gR hx hb hts in_X1_pawnAttacks hown hK hP 1 (by decide) rfl kX1_pawnAttacks_0 dX1_pawnAttacks_17 ?_
          refine lv_iload hx hb dX1_pawnAttacks_20 (lv_at hl 4 rfl) ?_
          refine va_iald (f := A 1) hx hb hK hP 1 0 rfl rfl (vp_in_nI (by omega) (by decide)) dX1_pawnAttacks_22 ?_
          refine lv_iconst (v := 1) hx hb dX1_pawnAttacks_23 (by decide) ?_
          refine lv_bipush (v := 6) hx hb dX1_pawnAttacks_24 (by decide) ?_
          refine lv_iload_n hx hb dX1_pawnAttacks_26 rfl (lv_at hl 2 rfl) ?_
          refine lv_imul hx hb dX1_pawnAttacks_27 ?_
          refine lv_iadd hx hb dX1_pawnAttacks_28 ?_
          refine lv_icmp_ne (tgt := 46) hx hb dX1_pawnAttacks_29 (by decide) (fun c29 => ?_) (fun c29 => ?_)
          · have hR := hR.trans (if_pos c29)
            refine lv_iconst (v := 0) hx hb dX1_pawnAttacks_46 (by decide) ?_
            refine lv_istore_n (lv' := [(3, .int 0), (0, .ref o), (1, .int p1), (2, .int p2), (4, .int (nI n5))]) hx hb dX1_pawnAttacks_47 rfl hl (by decide) rfl (fun ls hl => ?_)
            refine lv_iinc (v := (nI (n5 + 1))) (lv' := [(4, .int (nI (n5 + 1))), (3, .int 0), (0, .ref o), (1, .int p1), (2, .int p2)]) hx hb dX1_pawnAttacks_48 hl (k := 4) rfl (nI_1 _) (by decide) rfl (fun ls hl => ?_)
            refine lv_goto (tgt := 5) hx hb dX1_pawnAttacks_51 (by decide) ?_
            exact ih (n5 + 1) 0 _ _ ls (by omega) (Or.inl rfl) hP hD hS (lv_sub hl [2, 3, 4, 1, 0] rfl) hR
          · have hR := hR.trans (if_neg (fun z => z c29))
            refine lv_aload_n hx hb dX1_pawnAttacks_32 rfl (lv_at hl 0 rfl) ?_
            refine lv_iload hx hb dX1_pawnAttacks_33 (lv_at hl 4 rfl) ?_
            refine lv_iload_n hx hb dX1_pawnAttacks_35 rfl (lv_at hl 1 rfl) ?_
            refine cVi ⟨hx, hb, hml, hown, hts⟩ (mX1_attacks l D cI cB o h F A (nI n5) p1 (vp_in_nI (by omega) (by decide)) h1 _ rfl) (cwV 2 hts gX1_pawnAttacks_X1_attacks rfl rfl rfl nX1_attacks ⟨Nat.le_of_ble_eq_true rfl, Nat.le_of_ble_eq_true rfl⟩) (va_recv hK hP (ci := 1) (q0 := 0) rfl rfl) rfl hl.1 rfl (Nat.le_of_ble_eq_true rfl) dX1_pawnAttacks_36 ⟨Nat.zero_le _, Nat.zero_le _⟩ hK hP hD hS hA (fun H locs hP hD hS => ?_)
            refine lv_if_eq (tgt := 46) hx hb dX1_pawnAttacks_39 (by decide) (fun c39 => ?_) (fun c39 => ?_)
            · have hR := hR.trans (if_pos c39)
              refine lv_iconst (v := 0) hx hb dX1_pawnAttacks_46 (by decide) ?_
              refine lv_istore_n (lv' := [(3, .int 0), (0, .ref o), (1, .int p1), (2, .int p2), (4, .int (nI n5))]) hx hb dX1_pawnAttacks_47 rfl hl (by decide) rfl (fun ls hl => ?_)
              refine lv_iinc (v := (nI (n5 + 1))) (lv' := [(4, .int (nI (n5 + 1))), (3, .int 0), (0, .ref o), (1, .int p1), (2, .int p2)]) hx hb dX1_pawnAttacks_48 hl (k := 4) rfl (nI_1 _) (by decide) rfl (fun ls hl => ?_)
              refine lv_goto (tgt := 5) hx hb dX1_pawnAttacks_51 (by decide) ?_
              exact ih (n5 + 1) 0 _ _ ls (by omega) (Or.inl rfl) hP hD hS (lv_sub hl [2, 3, 4, 1, 0] rfl) hR
            · have hR := hR.trans (if_neg c39)
              refine lv_iconst (v := 1) hx hb dX1_pawnAttacks_42 (by decide) ?_
              refine lv_goto (tgt := 47) hx hb dX1_pawnAttacks_43 (by decide) ?_
              refine lv_istore_n (lv' := [(3, .int 1), (0, .ref o), (1, .int p1), (2, .int p2), (4, .int (nI n5))]) hx hb dX1_pawnAttacks_47 rfl hl (by decide) rfl (fun ls hl => ?_)
              refine lv_iinc (v := (nI (n5 + 1))) (lv' := [(4, .int (nI (n5 + 1))), (3, .int 1), (0, .ref o), (1, .int p1), (2, .int p2)]) hx hb dX1_pawnAttacks_48 hl (k := 4) rfl (nI_1 _) (by decide) rfl (fun ls hl => ?_)
              refine lv_goto (tgt := 5) hx hb dX1_pawnAttacks_51 (by decide) ?_
              exact ih (n5 + 1) 1 _ _ ls (by omega) (Or.inr rfl) hP hD hS (lv_sub hl [2, 3, 4, 1, 0] rfl) hR
  exact hw5 64 0 0 _ _ ls (by omega) (Or.inl rfl) hP hD hS (lv_sub hl [2, 3, 4, 1, 0] rfl) hR
def qX1_unmake_w37 (F : Nat → Int32) : Nat → Nat → (Nat → Nat → Int32) → Int32 × tFA
  | 0, n, A => ((A 8 (Int32.toNatClampNeg (F 7))), (uf (uf (uf (uf (uf F 2 (A 10 (Int32.toNatClampNeg (5 * (F 7))))) 3 (A 10 (Int32.toNatClampNeg ((5 * (F 7)) + 1)))) 4 (A 10 (Int32.toNatClampNeg ((5 * (F 7)) + 2)))) 5 (A 10 (Int32.toNatClampNeg ((5 * (F 7)) + 3)))) 6 (A 10 (Int32.toNatClampNeg ((5 * (F 7)) + 4)))), A)
  | k + 1, n, A => (qX1_unmake_w37 F k (n + 1) (ua A 1 (Int32.toNatClampNeg (nI n)) (A 9 (Int32.toNatClampNeg ((64 * (F 7)) + (nI n))))))
def qX1_unmake_j13 (F : Nat → Int32) (A : Nat → Nat → Int32) (s0 : Int32) : Int32 × tFA := (if s0 ≤ 0 then (qX1_unmake_w37 (uf (uf F 0 s0) 7 ((F 7) - 1)) 64 0 A) else (0, (uf F 0 s0), A))
def qX1_unmake (F : Nat → Int32) (A : Nat → Nat → Int32)  : Int32 × tFA := (if ¬ (F 7) = 0 then (qX1_unmake_j13 F A 0) else (qX1_unmake_j13 F A 1))
abbrev rmX1_unmake : Room := { frames := 0, cells := 0, slots := 0, locals := 0 }
theorem nX1_unmake : yX1_unmake.cls = RX1 ∧ yX1_unmake.cls ≠ "java/lang/invoke/MethodHandle" ∧ yX1_unmake.cls ≠ "java/lang/invoke/VarHandle" ∧ (parseMethodDescriptor yX1_unmake.desc).map (fun d => d.parameters.length) = some 0 := by decide +kernel
theorem in_X1_unmake : ∀ w ∈ wsX10, w ∈ wsX1_unmake := fun w h => by
  unfold wsX1_unmake
  exact List.mem_cons_of_mem _ (List.mem_append_right _ h)
theorem kX1_unmake_0 : Cond.fieldLink RX1 43 "BoardModel" "made" "I" ∈ wsX1_unmake := by decide +kernel
theorem kX1_unmake_1 : Cond.fieldLink RX1 31 "BoardModel" "thrown" "I" ∈ wsX1_unmake := by decide +kernel
theorem kX1_unmake_2 : Cond.fieldLink RX1 28 "BoardModel" "states" "[I" ∈ wsX1_unmake := by decide +kernel
theorem kX1_unmake_3 : Cond.fieldLink RX1 34 "BoardModel" "side" "I" ∈ wsX1_unmake := by decide +kernel
theorem kX1_unmake_4 : Cond.fieldLink RX1 37 "BoardModel" "rights" "I" ∈ wsX1_unmake := by decide +kernel
theorem kX1_unmake_5 : Cond.fieldLink RX1 13 "BoardModel" "passing" "I" ∈ wsX1_unmake := by decide +kernel
theorem kX1_unmake_6 : Cond.fieldLink RX1 40 "BoardModel" "half" "I" ∈ wsX1_unmake := by decide +kernel
theorem kX1_unmake_7 : Cond.fieldLink RX1 17 "BoardModel" "full" "I" ∈ wsX1_unmake := by decide +kernel
theorem kX1_unmake_8 : Cond.fieldLink RX1 20 "BoardModel" "moves" "[I" ∈ wsX1_unmake := by decide +kernel
theorem kX1_unmake_9 : Cond.fieldLink RX1 7 "BoardModel" "squares" "[I" ∈ wsX1_unmake := by decide +kernel
theorem kX1_unmake_10 : Cond.fieldLink RX1 24 "BoardModel" "kept" "[B" ∈ wsX1_unmake := by decide +kernel
set_option maxHeartbeats 4000000 in
set_option maxRecDepth 100000 in
theorem mX1_unmake (l : Launch) (D : va_G) (cI cB : ClassId) (o : Nat) (h : Nat → Nat) (F : Nat → Int32) (A : Nat → Nat → Int32)  (hm : ∃ k : Nat, k ≤ 600 ∧ F 7 = nI k) (r0 : Int32 × tFA) (hR : r0 = qX1_unmake F A) : cMi l yX1_unmake wsX1_unmake rmX1_unmake D [(cI, .int), (cB, .byte)] (wR cI cB o h F A) [.ref o] r0.1 (wR cI cB o h r0.2.1 r0.2.2) := by
  intro sz
  refine cMet_of (Qc := fun AA => cQi D [(cI, .int), (cB, .byte)] r0.1 (wR cI cB o h r0.2.1 r0.2.2) AA) (cc := cX1_unmake) (maxL := 2) (ret := (some .int)) (by decide) rfl (Nat.le_of_ble_eq_true rfl) ?_ sz
  intro p e s m below meth c AA ls hx hb hr hts hown hml hlk hA hK hP hD hS hl
  have hown : s.vm.findClass RX1 = some m.cls := hown
  have hl : lv_has ls 2 [(0, .ref o)] := hl
  rw [qX1_unmake] at hR
  refine lv_aload_n hx hb dX1_unmake_0 rfl (lv_at hl 0 rfl) ?_
  refine lv_aload_n hx hb dX1_unmake_1 rfl (lv_at hl 0 rfl) ?_
  refine gR hx hb hts in_X1_unmake hown hK hP 7 (by decide) rfl kX1_unmake_0 dX1_unmake_2 ?_
  have hj13 : ∀ (s13_0 : Int32) (H : Heap) (locs : List Loc) (ls : Array Slot), ((s13_0 = 1 ∧ F 7 = 0) ∨ (s13_0 = 0 ∧ ¬ F 7 = 0)) → va_P D vwCl (wR cI cB o h F A) H → va_D AA (wR cI cB o h F A) → va_S AA s.heap H locs → lv_has ls 2 [(0, .ref o)] → r0 = qX1_unmake_j13 F A s13_0 → W p l e rmX1_unmake s m [.ref o].toArray below meth c H locs 0 0 (MQ below (cQi D [(cI, .int), (cB, .byte)] r0.1 (wR cI cB o h r0.2.1 r0.2.2) AA) [.ref o].toArray s 0 0 AA) (F0 m 13 ls [.int s13_0, .ref o]) := by
    intro s13_0 H locs ls h13 hP hD hS hl hR
    rw [qX1_unmake_j13] at hR
    refine pR0 hx hb hts in_X1_unmake hown hK hP hD hS kX1_unmake_1 dX1_unmake_13 (fun H locs hP hD hS => ?_)
    refine lv_aload_n hx hb dX1_unmake_16 rfl (lv_at hl 0 rfl) ?_
    refine gR hx hb hts in_X1_unmake hown hK hP 0 (by decide) rfl kX1_unmake_1 dX1_unmake_17 ?_
    refine lv_if_le (tgt := 25) hx hb dX1_unmake_20 (by decide) (fun c20 => ?_) (fun c20 => ?_)
    · have hR := hR.trans (if_pos c20)
      have hmd : ∃ k : Nat, k < 600 ∧ F 7 - 1 = nI k := mdPred hm h13 c20
      refine lv_aload_n hx hb dX1_unmake_25 rfl (lv_at hl 0 rfl) ?_
      refine lv_dup hx hb dX1_unmake_26 rfl ?_
      refine gR hx hb hts in_X1_unmake hown hK hP 7 (by decide) rfl kX1_unmake_0 dX1_unmake_27 ?_
      refine lv_iconst (v := 1) hx hb dX1_unmake_30 (by decide) ?_
      refine lv_isub hx hb dX1_unmake_31 ?_
      refine pR7 hx hb hts in_X1_unmake hown hK hP hD hS kX1_unmake_0 dX1_unmake_32 (fun H locs hP hD hS => ?_)
      refine lv_iconst (v := 0) hx hb dX1_unmake_35 (by decide) ?_
      refine lv_istore_n (lv' := [(1, .int 0), (0, .ref o)]) hx hb dX1_unmake_36 rfl hl (by decide) rfl (fun ls hl => ?_)
      have hw37 : ∀ (k n37 : Nat) (A37 : Nat → Nat → Int32) (H : Heap) (locs : List Loc) (ls : Array Slot), n37 + k = 64 → va_P D vwCl (wR cI cB o h (uf (uf F 0 s13_0) 7 ((F 7) - 1)) A37) H → va_D AA (wR cI cB o h (uf (uf F 0 s13_0) 7 ((F 7) - 1)) A37) → va_S AA s.heap H locs → lv_has ls 2 [(0, .ref o), (1, .int (nI n37))] → r0 = qX1_unmake_w37 (uf (uf F 0 s13_0) 7 ((F 7) - 1)) k n37 A37 → W p l e rmX1_unmake s m [.ref o].toArray below meth c H locs 0 0 (MQ below (cQi D [(cI, .int), (cB, .byte)] r0.1 (wR cI cB o h r0.2.1 r0.2.2) AA) [.ref o].toArray s 0 0 AA) (F0 m 37 ls []) := by
        intro k
        induction k with
        | zero =>
          intro n37 A37 H locs ls hn  hP hD hS hl hR
          rw [qX1_unmake_w37] at hR
          refine lv_iload_n hx hb dX1_unmake_37 rfl (lv_at hl 1 rfl) ?_
          refine lv_bipush (v := 64) hx hb dX1_unmake_38 (by decide) ?_
          refine lv_icmp_ge (tgt := 69) hx hb dX1_unmake_40 (by decide) (fun c40 => ?_) (fun c40 => ?_)
          · skip
            refine lv_aload_n hx hb dX1_unmake_69 rfl (lv_at hl 0 rfl) ?_
            refine lv_aload_n hx hb dX1_unmake_70 rfl (lv_at hl 0 rfl) ?_
            refine gR hx hb hts in_X1_unmake hown hK hP 10 (by decide) rfl kX1_unmake_2 dX1_unmake_71 ?_
            refine lv_iconst (v := 5) hx hb dX1_unmake_74 (by decide) ?_
            refine lv_aload_n hx hb dX1_unmake_75 rfl (lv_at hl 0 rfl) ?_
            refine gR hx hb hts in_X1_unmake hown hK hP 7 (by decide) rfl kX1_unmake_0 dX1_unmake_76 ?_
            refine lv_imul hx hb dX1_unmake_79 ?_
            refine va_iald (f := A37 10) hx hb hK hP 4 0 rfl rfl (inSt0 hmd) dX1_unmake_80 ?_
            refine pR2 hx hb hts in_X1_unmake hown hK hP hD hS kX1_unmake_3 dX1_unmake_81 (fun H locs hP hD hS => ?_)
            refine lv_aload_n hx hb dX1_unmake_84 rfl (lv_at hl 0 rfl) ?_
            refine lv_aload_n hx hb dX1_unmake_85 rfl (lv_at hl 0 rfl) ?_
            refine gR hx hb hts in_X1_unmake hown hK hP 10 (by decide) rfl kX1_unmake_2 dX1_unmake_86 ?_
            refine lv_iconst (v := 5) hx hb dX1_unmake_89 (by decide) ?_
            refine lv_aload_n hx hb dX1_unmake_90 rfl (lv_at hl 0 rfl) ?_
            refine gR hx hb hts in_X1_unmake hown hK hP 7 (by decide) rfl kX1_unmake_0 dX1_unmake_91 ?_
            refine lv_imul hx hb dX1_unmake_94 ?_
            refine lv_iconst (v := 1) hx hb dX1_unmake_95 (by decide) ?_
            refine lv_iadd hx hb dX1_unmake_96 ?_
            refine va_iald (f := A37 10) hx hb hK hP 4 0 rfl rfl (inSt hmd 1 (by decide) rfl) dX1_unmake_97 ?_
            refine pR3 hx hb hts in_X1_unmake hown hK hP hD hS kX1_unmake_4 dX1_unmake_98 (fun H locs hP hD hS => ?_)
            refine lv_aload_n hx hb dX1_unmake_101 rfl (lv_at hl 0 rfl) ?_
            refine lv_aload_n hx hb dX1_unmake_102 rfl (lv_at hl 0 rfl) ?_
            refine gR hx hb hts in_X1_unmake hown hK hP 10 (by decide) rfl kX1_unmake_2 dX1_unmake_103 ?_
            refine lv_iconst (v := 5) hx hb dX1_unmake_106 (by decide) ?_
            refine lv_aload_n hx hb dX1_unmake_107 rfl (lv_at hl 0 rfl) ?_
            refine gR hx hb hts in_X1_unmake hown hK hP 7 (by decide) rfl kX1_unmake_0 dX1_unmake_108 ?_
            refine lv_imul hx hb dX1_unmake_111 ?_
            refine lv_iconst (v := 2) hx hb dX1_unmake_112 (by decide) ?_
            refine lv_iadd hx hb dX1_unmake_113 ?_
            refine va_iald (f := A37 10) hx hb hK hP 4 0 rfl rfl (inSt hmd 2 (by decide) rfl) dX1_unmake_114 ?_
            refine pR4 hx hb hts in_X1_unmake hown hK hP hD hS kX1_unmake_5 dX1_unmake_115 (fun H locs hP hD hS => ?_)
            refine lv_aload_n hx hb dX1_unmake_118 rfl (lv_at hl 0 rfl) ?_
            refine lv_aload_n hx hb dX1_unmake_119 rfl (lv_at hl 0 rfl) ?_
            refine gR hx hb hts in_X1_unmake hown hK hP 10 (by decide) rfl kX1_unmake_2 dX1_unmake_120 ?_
            refine lv_iconst (v := 5) hx hb dX1_unmake_123 (by decide) ?_
            refine lv_aload_n hx hb dX1_unmake_124 rfl (lv_at hl 0 rfl) ?_
            refine gR hx hb hts in_X1_unmake hown hK hP 7 (by decide) rfl kX1_unmake_0 dX1_unmake_125 ?_
            refine lv_imul hx hb dX1_unmake_128 ?_
            refine lv_iconst (v := 3) hx hb dX1_unmake_129 (by decide) ?_
            refine lv_iadd hx hb dX1_unmake_130 ?_
            refine va_iald (f := A37 10) hx hb hK hP 4 0 rfl rfl (inSt hmd 3 (by decide) rfl) dX1_unmake_131 ?_
            refine pR5 hx hb hts in_X1_unmake hown hK hP hD hS kX1_unmake_6 dX1_unmake_132 (fun H locs hP hD hS => ?_)
            refine lv_aload_n hx hb dX1_unmake_135 rfl (lv_at hl 0 rfl) ?_
            refine lv_aload_n hx hb dX1_unmake_136 rfl (lv_at hl 0 rfl) ?_
            refine gR hx hb hts in_X1_unmake hown hK hP 10 (by decide) rfl kX1_unmake_2 dX1_unmake_137 ?_
            refine lv_iconst (v := 5) hx hb dX1_unmake_140 (by decide) ?_
            refine lv_aload_n hx hb dX1_unmake_141 rfl (lv_at hl 0 rfl) ?_
            refine gR hx hb hts in_X1_unmake hown hK hP 7 (by decide) rfl kX1_unmake_0 dX1_unmake_142 ?_
            refine lv_imul hx hb dX1_unmake_145 ?_
            refine lv_iconst (v := 4) hx hb dX1_unmake_146 (by decide) ?_
            refine lv_iadd hx hb dX1_unmake_147 ?_
            refine va_iald (f := A37 10) hx hb hK hP 4 0 rfl rfl (inSt hmd 4 (by decide) rfl) dX1_unmake_148 ?_
            refine pR6 hx hb hts in_X1_unmake hown hK hP hD hS kX1_unmake_7 dX1_unmake_149 (fun H locs hP hD hS => ?_)
            refine lv_aload_n hx hb dX1_unmake_152 rfl (lv_at hl 0 rfl) ?_
            refine gR hx hb hts in_X1_unmake hown hK hP 8 (by decide) rfl kX1_unmake_8 dX1_unmake_153 ?_
            refine lv_aload_n hx hb dX1_unmake_156 rfl (lv_at hl 0 rfl) ?_
            refine gR hx hb hts in_X1_unmake hown hK hP 7 (by decide) rfl kX1_unmake_0 dX1_unmake_157 ?_
            refine va_iald (f := A37 8) hx hb hK hP 2 0 rfl rfl (inMd hmd) dX1_unmake_160 ?_
            subst hR
            exact cRi hx hb hr hlk hK hP hD hS rfl dX1_unmake_161
          · exact absurd (nI_le (a := 64) (b := n37) (by omega) (by omega)) c40
        | succ k ih =>
          intro n37 A37 H locs ls hn  hP hD hS hl hR
          rw [qX1_unmake_w37] at hR
          refine lv_iload_n hx hb dX1_unmake_37 rfl (lv_at hl 1 rfl) ?_
          refine lv_bipush (v := 64) hx hb dX1_unmake_38 (by decide) ?_
          refine lv_icmp_ge (tgt := 69) hx hb dX1_unmake_40 (by decide) (fun c40 => ?_) (fun c40 => ?_)
          · exact absurd c40 (nI_ge (a := n37) (b := 64) (by omega) (by omega))
          · skip
            refine lv_aload_n hx hb dX1_unmake_43 rfl (lv_at hl 0 rfl) ?_
            refine gR hx hb hts in_X1_unmake hown hK hP 1 (by decide) rfl kX1_unmake_9 dX1_unmake_44 ?_
            refine lv_iload_n hx hb dX1_unmake_47 rfl (lv_at hl 1 rfl) ?_
            refine lv_aload_n hx hb dX1_unmake_48 rfl (lv_at hl 0 rfl) ?_
            refine gR hx hb hts in_X1_unmake hown hK hP 9 (by decide) rfl kX1_unmake_10 dX1_unmake_49 ?_
            refine lv_bipush (v := 64) hx hb dX1_unmake_52 (by decide) ?_
            refine lv_aload_n hx hb dX1_unmake_54 rfl (lv_at hl 0 rfl) ?_
            refine gR hx hb hts in_X1_unmake hown hK hP 7 (by decide) rfl kX1_unmake_0 dX1_unmake_55 ?_
            refine lv_imul hx hb dX1_unmake_58 ?_
            refine lv_iload_n hx hb dX1_unmake_59 rfl (lv_at hl 1 rfl) ?_
            refine lv_iadd hx hb dX1_unmake_60 ?_
            refine va_bald (f := A37 9) hx hb hK hP 3 1 rfl rfl (inKept hmd (by omega)) dX1_unmake_61 ?_
            refine sR1 hx hb hK hP hD hS (vp_in_nI (by omega) (by decide)) dX1_unmake_62 (fun H locs hP hD hS => ?_)
            refine lv_iinc (v := (nI (n37 + 1))) (lv' := [(1, .int (nI (n37 + 1))), (0, .ref o)]) hx hb dX1_unmake_63 hl (k := 1) rfl (nI_1 _) (by decide) rfl (fun ls hl => ?_)
            refine lv_goto (tgt := 37) hx hb dX1_unmake_66 (by decide) ?_
            exact ih (n37 + 1) (ua A37 1 (Int32.toNatClampNeg (nI n37)) (A37 9 (Int32.toNatClampNeg ((64 * ((F 7) - 1)) + (nI n37))))) _ _ ls (by omega) hP hD hS (lv_sub hl [1, 0] rfl) hR
      exact hw37 64 0 A _ _ ls (by omega) hP hD hS (lv_sub hl [1, 0] rfl) hR
    · have hR := hR.trans (if_neg c20)
      refine lv_iconst (v := 0) hx hb dX1_unmake_23 (by decide) ?_
      subst hR
      exact cRi hx hb hr hlk hK hP hD hS rfl dX1_unmake_24
  refine lv_if_ne (tgt := 12) hx hb dX1_unmake_5 (by decide) (fun c5 => ?_) (fun c5 => ?_)
  · have hR := hR.trans (if_pos c5)
    refine lv_iconst (v := 0) hx hb dX1_unmake_12 (by decide) ?_
    exact hj13 0 _ _ ls (by first | exact Or.inl ⟨rfl, c5⟩ | exact Or.inr ⟨rfl, c5⟩) hP hD hS (lv_sub hl [0] rfl) hR
  · have hR := hR.trans (if_neg (fun z => z c5))
    refine lv_iconst (v := 1) hx hb dX1_unmake_8 (by decide) ?_
    refine lv_goto (tgt := 13) hx hb dX1_unmake_9 (by decide) ?_
    exact hj13 1 _ _ ls (by first | exact Or.inl ⟨rfl, c5⟩ | exact Or.inr ⟨rfl, c5⟩) hP hD hS (lv_sub hl [0] rfl) hR
def qX1_at_j13 (F : Nat → Int32) (A : Nat → Nat → Int32) (x1 : Int32) (s0 : Int32) : Int32 × tFA := (if s0 ≤ 0 then ((A 1 (Int32.toNatClampNeg x1)), (uf F 0 s0), A) else (0, (uf F 0 s0), A))
def qX1_at (F : Nat → Int32) (A : Nat → Nat → Int32) (p1 : Int32) : Int32 × tFA := (if (qX1_isSquare p1) = 0 then (qX1_at_j13 F A p1 1) else (qX1_at_j13 F A p1 0))
abbrev rmX1_at : Room := { frames := 1, cells := 0, slots := 0, locals := 20 }
theorem nX1_at : yX1_at.cls = RX1 ∧ yX1_at.cls ≠ "java/lang/invoke/MethodHandle" ∧ yX1_at.cls ≠ "java/lang/invoke/VarHandle" ∧ (parseMethodDescriptor yX1_at.desc).map (fun d => d.parameters.length) = some 1 := by decide +kernel
theorem in_X1_at : ∀ w ∈ wsX10, w ∈ wsX1_at := fun w h => by
  unfold wsX1_at
  exact List.mem_cons_of_mem _ (List.mem_append_right _ h)
theorem kX1_at_0 : Cond.fieldLink RX1 31 "BoardModel" "thrown" "I" ∈ wsX1_at := by decide +kernel
theorem kX1_at_1 : Cond.fieldLink RX1 7 "BoardModel" "squares" "[I" ∈ wsX1_at := by decide +kernel
set_option maxHeartbeats 4000000 in
set_option maxRecDepth 100000 in
theorem mX1_at (l : Launch) (D : va_G) (cI cB : ClassId) (o : Nat) (h : Nat → Nat) (F : Nat → Int32) (A : Nat → Nat → Int32) (p1 : Int32) (r0 : Int32 × tFA) (hR : r0 = qX1_at F A p1) : cMi l yX1_at wsX1_at rmX1_at D [(cI, .int), (cB, .byte)] (wR cI cB o h F A) [.ref o, .int p1] r0.1 (wR cI cB o h r0.2.1 r0.2.2) := by
  intro sz
  refine cMet_of (Qc := fun AA => cQi D [(cI, .int), (cB, .byte)] r0.1 (wR cI cB o h r0.2.1 r0.2.2) AA) (cc := cX1_at) (maxL := 2) (ret := (some .int)) (by decide) rfl (Nat.le_of_ble_eq_true rfl) ?_ sz
  intro p e s m below meth c AA ls hx hb hr hts hown hml hlk hA hK hP hD hS hl
  have hown : s.vm.findClass RX1 = some m.cls := hown
  have hl : lv_has ls 2 [(0, .ref o), (1, .int p1)] := hl
  rw [qX1_at] at hR
  refine lv_aload_n hx hb dX1_at_0 rfl (lv_at hl 0 rfl) ?_
  refine lv_iload_n hx hb dX1_at_1 rfl (lv_at hl 1 rfl) ?_
  refine cSi ⟨hx, hb, hml, hown, hts⟩ (mX1_isSquare l D p1 _ rfl) (va_cwS 1 hts gX1_at_X1_isSquare rfl rfl rfl nX1_isSquare ⟨Nat.le_of_ble_eq_true rfl, Nat.le_of_ble_eq_true rfl⟩) rfl hl.1 rfl (Nat.le_of_ble_eq_true rfl) dX1_at_2 ⟨Nat.zero_le _, Nat.zero_le _⟩ hK hP hS hA (fun H locs hP hS => ?_)
  have hj13 : ∀ (s13_0 : Int32) (H : Heap) (locs : List Loc) (ls : Array Slot), (s13_0 ≤ 0 → vp_in p1 64) → va_P D vwCl (wR cI cB o h F A) H → va_D AA (wR cI cB o h F A) → va_S AA s.heap H locs → lv_has ls 2 [(0, .ref o), (1, .int p1)] → r0 = qX1_at_j13 F A p1 s13_0 → W p l e rmX1_at s m [.ref o, .int p1].toArray below meth c H locs 0 0 (MQ below (cQi D [(cI, .int), (cB, .byte)] r0.1 (wR cI cB o h r0.2.1 r0.2.2) AA) [.ref o, .int p1].toArray s 0 0 AA) (F0 m 13 ls [.int s13_0, .ref o]) := by
    intro s13_0 H locs ls h13 hP hD hS hl hR
    rw [qX1_at_j13] at hR
    refine pR0 hx hb hts in_X1_at hown hK hP hD hS kX1_at_0 dX1_at_13 (fun H locs hP hD hS => ?_)
    refine lv_aload_n hx hb dX1_at_16 rfl (lv_at hl 0 rfl) ?_
    refine gR hx hb hts in_X1_at hown hK hP 0 (by decide) rfl kX1_at_0 dX1_at_17 ?_
    refine lv_if_le (tgt := 27) hx hb dX1_at_20 (by decide) (fun c20 => ?_) (fun c20 => ?_)
    · have hR := hR.trans (if_pos c20)
      refine lv_aload_n hx hb dX1_at_27 rfl (lv_at hl 0 rfl) ?_
      refine gR hx hb hts in_X1_at hown hK hP 1 (by decide) rfl kX1_at_1 dX1_at_28 ?_
      refine lv_iload_n hx hb dX1_at_31 rfl (lv_at hl 1 rfl) ?_
      refine va_iald (f := A 1) hx hb hK hP 1 0 rfl rfl (h13 c20) dX1_at_32 ?_
      subst hR
      exact cRi hx hb hr hlk hK hP hD hS rfl dX1_at_33
    · have hR := hR.trans (if_neg c20)
      refine lv_iconst (v := 0) hx hb dX1_at_23 (by decide) ?_
      refine lv_goto (tgt := 33) hx hb dX1_at_24 (by decide) ?_
      subst hR
      exact cRi hx hb hr hlk hK hP hD hS rfl dX1_at_33
  refine lv_if_eq (tgt := 12) hx hb dX1_at_5 (by decide) (fun c5 => ?_) (fun c5 => ?_)
  · have hR := hR.trans (if_pos c5)
    refine lv_iconst (v := 1) hx hb dX1_at_12 (by decide) ?_
    exact hj13 1 _ _ ls ((by first | (intro z; exact absurd z (by decide)) | (intro _; exact inSq1 c5))) hP hD hS (lv_sub hl [0, 1] rfl) hR
  · have hR := hR.trans (if_neg c5)
    refine lv_iconst (v := 0) hx hb dX1_at_8 (by decide) ?_
    refine lv_goto (tgt := 13) hx hb dX1_at_9 (by decide) ?_
    exact hj13 0 _ _ ls ((by first | (intro z; exact absurd z (by decide)) | (intro _; exact inSq1 c5))) hP hD hS (lv_sub hl [0, 1] rfl) hR
def qX1_where_w10 (F : Nat → Int32) (A : Nat → Nat → Int32) (x1 : Int32) : Nat → Nat → (Int64) → Int64 × tFA
  | 0, n, x2 => (x2, F, A)
  | k + 1, n, x2 => (if ¬ (A 1 (Int32.toNatClampNeg (nI n))) = x1 then (qX1_where_w10 F A x1 k (n + 1) x2) else (qX1_where_w10 F A x1 k (n + 1) (x2 ||| (1 <<< (Int32.toInt64 (nI n) &&& 63)))))
def qX1_where (F : Nat → Int32) (A : Nat → Nat → Int32) (p1 : Int32) : Int64 × tFA := (qX1_where_w10 (uf F 0 0) A p1 64 0 0)
abbrev rmX1_where : Room := { frames := 0, cells := 0, slots := 0, locals := 0 }
theorem nX1_where : yX1_where.cls = RX1 ∧ yX1_where.cls ≠ "java/lang/invoke/MethodHandle" ∧ yX1_where.cls ≠ "java/lang/invoke/VarHandle" ∧ (parseMethodDescriptor yX1_where.desc).map (fun d => d.parameters.length) = some 1 := by decide +kernel
theorem in_X1_where : ∀ w ∈ wsX10, w ∈ wsX1_where := fun w h => by
  unfold wsX1_where
  exact List.mem_cons_of_mem _ (List.mem_append_right _ h)
theorem kX1_where_0 : Cond.fieldLink RX1 31 "BoardModel" "thrown" "I" ∈ wsX1_where := by decide +kernel
theorem kX1_where_1 : Cond.fieldLink RX1 7 "BoardModel" "squares" "[I" ∈ wsX1_where := by decide +kernel
set_option maxHeartbeats 4000000 in
set_option maxRecDepth 100000 in
theorem mX1_where (l : Launch) (D : va_G) (cI cB : ClassId) (o : Nat) (h : Nat → Nat) (F : Nat → Int32) (A : Nat → Nat → Int32) (p1 : Int32) (r0 : Int64 × tFA) (hR : r0 = qX1_where F A p1) : cMl l yX1_where wsX1_where rmX1_where D [(cI, .int), (cB, .byte)] (wR cI cB o h F A) [.ref o, .int p1] r0.1 (wR cI cB o h r0.2.1 r0.2.2) := by
  intro sz
  refine cMet_of (Qc := fun AA => cQl D [(cI, .int), (cB, .byte)] r0.1 (wR cI cB o h r0.2.1 r0.2.2) AA) (cc := cX1_where) (maxL := 5) (ret := (some .long)) (by decide) rfl (Nat.le_of_ble_eq_true rfl) ?_ sz
  intro p e s m below meth c AA ls hx hb hr hts hown hml hlk hA hK hP hD hS hl
  have hown : s.vm.findClass RX1 = some m.cls := hown
  have hl : lv_has ls 5 [(0, .ref o), (1, .int p1)] := hl
  rw [qX1_where] at hR
  refine lv_aload_n hx hb dX1_where_0 rfl (lv_at hl 0 rfl) ?_
  refine lv_iconst (v := 0) hx hb dX1_where_1 (by decide) ?_
  refine pR0 hx hb hts in_X1_where hown hK hP hD hS kX1_where_0 dX1_where_2 (fun H locs hP hD hS => ?_)
  refine lv_lconst (v := 0) hx hb dX1_where_5 (by decide) ?_
  refine lv_lstore_n (lv' := [(2, .long 0), (0, .ref o), (1, .int p1)]) hx hb dX1_where_6 rfl hl (by decide) rfl (fun ls hl => ?_)
  refine lv_iconst (v := 0) hx hb dX1_where_7 (by decide) ?_
  refine lv_istore (lv' := [(4, .int 0), (2, .long 0), (0, .ref o), (1, .int p1)]) hx hb dX1_where_8 hl (by decide) rfl (fun ls hl => ?_)
  have hw10 : ∀ (k n10 : Nat) (v10_2 : Int64) (H : Heap) (locs : List Loc) (ls : Array Slot), n10 + k = 64 → va_P D vwCl (wR cI cB o h (uf F 0 0) A) H → va_D AA (wR cI cB o h (uf F 0 0) A) → va_S AA s.heap H locs → lv_has ls 5 [(0, .ref o), (1, .int p1), (2, .long v10_2), (4, .int (nI n10))] → r0 = qX1_where_w10 (uf F 0 0) A p1 k n10 v10_2 → W p l e rmX1_where s m [.ref o, .int p1].toArray below meth c H locs 0 0 (MQ below (cQl D [(cI, .int), (cB, .byte)] r0.1 (wR cI cB o h r0.2.1 r0.2.2) AA) [.ref o, .int p1].toArray s 0 0 AA) (F0 m 10 ls []) := by
    intro k
    induction k with
    | zero =>
      intro n10 v10_2 H locs ls hn  hP hD hS hl hR
      rw [qX1_where_w10] at hR
      refine lv_iload hx hb dX1_where_10 (lv_at hl 3 rfl) ?_
      refine lv_bipush (v := 64) hx hb dX1_where_12 (by decide) ?_
      refine lv_icmp_ge (tgt := 45) hx hb dX1_where_14 (by decide) (fun c14 => ?_) (fun c14 => ?_)
      · skip
        refine lv_lload_n hx hb dX1_where_45 rfl (lv_at hl 2 rfl) ?_
        subst hR
        exact cRl hx hb hr hlk hK hP hD hS rfl dX1_where_46
      · exact absurd (nI_le (a := 64) (b := n10) (by omega) (by omega)) c14
    | succ k ih =>
      intro n10 v10_2 H locs ls hn  hP hD hS hl hR
      rw [qX1_where_w10] at hR
      refine lv_iload hx hb dX1_where_10 (lv_at hl 3 rfl) ?_
      refine lv_bipush (v := 64) hx hb dX1_where_12 (by decide) ?_
      refine lv_icmp_ge (tgt := 45) hx hb dX1_where_14 (by decide) (fun c14 => ?_) (fun c14 => ?_)
      · exact absurd c14 (nI_ge (a := n10) (b := 64) (by omega) (by omega))
      · skip
        refine lv_aload_n hx hb dX1_where_17 rfl (lv_at hl 0 rfl) ?_
        refine gR hx hb hts in_X1_where hown hK hP 1 (by decide) rfl kX1_where_1 dX1_where_18 ?_
        refine lv_iload hx hb dX1_where_21 (lv_at hl 3 rfl) ?_
        refine va_iald (f := A 1) hx hb hK hP 1 0 rfl rfl (vp_in_nI (by omega) (by decide)) dX1_where_23 ?_
        refine lv_iload_n hx hb dX1_where_24 rfl (lv_at hl 1 rfl) ?_
        refine lv_icmp_ne (tgt := 37) hx hb dX1_where_25 (by decide) (fun c25 => ?_) (fun c25 => ?_)
        · have hR := hR.trans (if_pos c25)
          refine lv_lload_n hx hb dX1_where_37 rfl (lv_at hl 2 rfl) ?_
          refine lv_lstore_n (lv' := [(2, .long v10_2), (0, .ref o), (1, .int p1), (4, .int (nI n10))]) hx hb dX1_where_38 rfl hl (by decide) rfl (fun ls hl => ?_)
          refine lv_iinc (v := (nI (n10 + 1))) (lv' := [(4, .int (nI (n10 + 1))), (2, .long v10_2), (0, .ref o), (1, .int p1)]) hx hb dX1_where_39 hl (k := 3) rfl (nI_1 _) (by decide) rfl (fun ls hl => ?_)
          refine lv_goto (tgt := 10) hx hb dX1_where_42 (by decide) ?_
          exact ih (n10 + 1) v10_2 _ _ ls (by omega) hP hD hS (lv_sub hl [2, 3, 1, 0] rfl) hR
        · have hR := hR.trans (if_neg (fun z => z c25))
          refine lv_lload_n hx hb dX1_where_28 rfl (lv_at hl 2 rfl) ?_
          refine lv_lconst (v := 1) hx hb dX1_where_29 (by decide) ?_
          refine lv_iload hx hb dX1_where_30 (lv_at hl 3 rfl) ?_
          refine lv_lshl hx hb dX1_where_32 rfl ?_
          refine lv_lor hx hb dX1_where_33 ?_
          refine lv_goto (tgt := 38) hx hb dX1_where_34 (by decide) ?_
          refine lv_lstore_n (lv' := [(2, .long (v10_2 ||| (1 <<< (Int32.toInt64 (nI n10) &&& 63)))), (0, .ref o), (1, .int p1), (4, .int (nI n10))]) hx hb dX1_where_38 rfl hl (by decide) rfl (fun ls hl => ?_)
          refine lv_iinc (v := (nI (n10 + 1))) (lv' := [(4, .int (nI (n10 + 1))), (2, .long (v10_2 ||| (1 <<< (Int32.toInt64 (nI n10) &&& 63)))), (0, .ref o), (1, .int p1)]) hx hb dX1_where_39 hl (k := 3) rfl (nI_1 _) (by decide) rfl (fun ls hl => ?_)
          refine lv_goto (tgt := 10) hx hb dX1_where_42 (by decide) ?_
          exact ih (n10 + 1) (v10_2 ||| (1 <<< (Int32.toInt64 (nI n10) &&& 63))) _ _ ls (by omega) hP hD hS (lv_sub hl [2, 3, 1, 0] rfl) hR
  exact hw10 64 0 0 _ _ ls (by omega) hP hD hS (lv_sub hl [2, 3, 1, 0] rfl) hR
def qX1_key_w33 (F : Nat → Int32) (A : Nat → Nat → Int32) : Nat → Nat → (Int64) → Int64 × tFA
  | 0, n, x1 => (if ¬ (F 2) = 1 then (x1, F, A) else ((x1 ^^^ (qX1_mixed 2000)), F, A))
  | k + 1, n, x1 => (if (A 1 (Int32.toNatClampNeg (nI n))) ≤ 0 then (qX1_key_w33 F A k (n + 1) x1) else (qX1_key_w33 F A k (n + 1) (x1 ^^^ (qX1_mixed ((64 * (Int32.toInt64 (A 1 (Int32.toNatClampNeg (nI n))))) + (Int32.toInt64 (nI n)))))))
def qX1_key (F : Nat → Int32) (A : Nat → Nat → Int32)  : Int64 × tFA := (qX1_key_w33 (uf F 0 0) A 64 0 ((qX1_mixed (900 + (Int32.toInt64 (F 3)))) ^^^ (qX1_mixed (1000 + (Int32.toInt64 (F 4))))))
abbrev rmX1_key : Room := { frames := 1, cells := 0, slots := 0, locals := 23 }
theorem nX1_key : yX1_key.cls = RX1 ∧ yX1_key.cls ≠ "java/lang/invoke/MethodHandle" ∧ yX1_key.cls ≠ "java/lang/invoke/VarHandle" ∧ (parseMethodDescriptor yX1_key.desc).map (fun d => d.parameters.length) = some 0 := by decide +kernel
theorem in_X1_key : ∀ w ∈ wsX10, w ∈ wsX1_key := fun w h => by
  unfold wsX1_key
  exact List.mem_cons_of_mem _ (List.mem_append_right _ h)
theorem kX1_key_0 : Cond.fieldLink RX1 31 "BoardModel" "thrown" "I" ∈ wsX1_key := by decide +kernel
theorem kX1_key_1 : Cond.constantLong RX1 109 (900) ∈ wsX1_key := by decide +kernel
theorem kX1_key_2 : Cond.fieldLink RX1 37 "BoardModel" "rights" "I" ∈ wsX1_key := by decide +kernel
theorem kX1_key_3 : Cond.constantLong RX1 115 (1000) ∈ wsX1_key := by decide +kernel
theorem kX1_key_4 : Cond.fieldLink RX1 13 "BoardModel" "passing" "I" ∈ wsX1_key := by decide +kernel
theorem kX1_key_5 : Cond.fieldLink RX1 34 "BoardModel" "side" "I" ∈ wsX1_key := by decide +kernel
theorem kX1_key_6 : Cond.constantLong RX1 119 (2000) ∈ wsX1_key := by decide +kernel
theorem kX1_key_7 : Cond.fieldLink RX1 7 "BoardModel" "squares" "[I" ∈ wsX1_key := by decide +kernel
theorem kX1_key_8 : Cond.constantLong RX1 117 (64) ∈ wsX1_key := by decide +kernel
set_option maxHeartbeats 4000000 in
set_option maxRecDepth 100000 in
theorem mX1_key (l : Launch) (D : va_G) (cI cB : ClassId) (o : Nat) (h : Nat → Nat) (F : Nat → Int32) (A : Nat → Nat → Int32)  (r0 : Int64 × tFA) (hR : r0 = qX1_key F A) : cMl l yX1_key wsX1_key rmX1_key D [(cI, .int), (cB, .byte)] (wR cI cB o h F A) [.ref o] r0.1 (wR cI cB o h r0.2.1 r0.2.2) := by
  intro sz
  refine cMet_of (Qc := fun AA => cQl D [(cI, .int), (cB, .byte)] r0.1 (wR cI cB o h r0.2.1 r0.2.2) AA) (cc := cX1_key) (maxL := 4) (ret := (some .long)) (by decide) rfl (Nat.le_of_ble_eq_true rfl) ?_ sz
  intro p e s m below meth c AA ls hx hb hr hts hown hml hlk hA hK hP hD hS hl
  have hown : s.vm.findClass RX1 = some m.cls := hown
  have hl : lv_has ls 4 [(0, .ref o)] := hl
  rw [qX1_key] at hR
  refine lv_aload_n hx hb dX1_key_0 rfl (lv_at hl 0 rfl) ?_
  refine lv_iconst (v := 0) hx hb dX1_key_1 (by decide) ?_
  refine pR0 hx hb hts in_X1_key hown hK hP hD hS kX1_key_0 dX1_key_2 (fun H locs hP hD hS => ?_)
  refine lv_ldc2 (v := 900) hx hb hown (hts _ kX1_key_1) dX1_key_5 ?_
  refine lv_aload_n hx hb dX1_key_8 rfl (lv_at hl 0 rfl) ?_
  refine gR hx hb hts in_X1_key hown hK hP 3 (by decide) rfl kX1_key_2 dX1_key_9 ?_
  refine lv_i2l hx hb dX1_key_12 rfl ?_
  refine lv_ladd hx hb dX1_key_13 ?_
  refine cSl ⟨hx, hb, hml, hown, hts⟩ (mX1_mixed l D (900 + (Int32.toInt64 (F 3))) _ rfl) (va_cwS 1 hts gX1_key_X1_mixed rfl rfl rfl nX1_mixed ⟨Nat.le_of_ble_eq_true rfl, Nat.le_of_ble_eq_true rfl⟩) rfl hl.1 rfl (Nat.le_of_ble_eq_true rfl) dX1_key_14 ⟨Nat.zero_le _, Nat.zero_le _⟩ hK hP hS hA (fun H locs hP hS => ?_)
  refine lv_ldc2 (v := 1000) hx hb hown (hts _ kX1_key_3) dX1_key_17 ?_
  refine lv_aload_n hx hb dX1_key_20 rfl (lv_at hl 0 rfl) ?_
  refine gR hx hb hts in_X1_key hown hK hP 4 (by decide) rfl kX1_key_4 dX1_key_21 ?_
  refine lv_i2l hx hb dX1_key_24 rfl ?_
  refine lv_ladd hx hb dX1_key_25 ?_
  refine cSl ⟨hx, hb, hml, hown, hts⟩ (mX1_mixed l D (1000 + (Int32.toInt64 (F 4))) _ rfl) (va_cwS 1 hts gX1_key_X1_mixed rfl rfl rfl nX1_mixed ⟨Nat.le_of_ble_eq_true rfl, Nat.le_of_ble_eq_true rfl⟩) rfl hl.1 rfl (Nat.le_of_ble_eq_true rfl) dX1_key_26 ⟨Nat.zero_le _, Nat.zero_le _⟩ hK hP hS hA (fun H locs hP hS => ?_)
  refine lv_lxor hx hb dX1_key_29 ?_
  refine lv_lstore_n (lv' := [(1, .long ((qX1_mixed (900 + (Int32.toInt64 (F 3)))) ^^^ (qX1_mixed (1000 + (Int32.toInt64 (F 4)))))), (0, .ref o)]) hx hb dX1_key_30 rfl hl (by decide) rfl (fun ls hl => ?_)
  refine lv_iconst (v := 0) hx hb dX1_key_31 (by decide) ?_
  refine lv_istore_n (lv' := [(3, .int 0), (1, .long ((qX1_mixed (900 + (Int32.toInt64 (F 3)))) ^^^ (qX1_mixed (1000 + (Int32.toInt64 (F 4)))))), (0, .ref o)]) hx hb dX1_key_32 rfl hl (by decide) rfl (fun ls hl => ?_)
  have hw33 : ∀ (k n33 : Nat) (v33_1 : Int64) (H : Heap) (locs : List Loc) (ls : Array Slot), n33 + k = 64 → va_P D vwCl (wR cI cB o h (uf F 0 0) A) H → va_D AA (wR cI cB o h (uf F 0 0) A) → va_S AA s.heap H locs → lv_has ls 4 [(0, .ref o), (1, .long v33_1), (3, .int (nI n33))] → r0 = qX1_key_w33 (uf F 0 0) A k n33 v33_1 → W p l e rmX1_key s m [.ref o].toArray below meth c H locs 0 0 (MQ below (cQl D [(cI, .int), (cB, .byte)] r0.1 (wR cI cB o h r0.2.1 r0.2.2) AA) [.ref o].toArray s 0 0 AA) (F0 m 33 ls []) := by
    intro k
    induction k with
    | zero =>
      intro n33 v33_1 H locs ls hn  hP hD hS hl hR
      rw [qX1_key_w33] at hR
      refine lv_iload_n hx hb dX1_key_33 rfl (lv_at hl 2 rfl) ?_
      refine lv_bipush (v := 64) hx hb dX1_key_34 (by decide) ?_
      refine lv_icmp_ge (tgt := 78) hx hb dX1_key_36 (by decide) (fun c36 => ?_) (fun c36 => ?_)
      · skip
        refine lv_aload_n hx hb dX1_key_78 rfl (lv_at hl 0 rfl) ?_
        refine gR hx hb hts in_X1_key hown hK hP 2 (by decide) rfl kX1_key_5 dX1_key_79 ?_
        refine lv_iconst (v := 1) hx hb dX1_key_82 (by decide) ?_
        refine lv_icmp_ne (tgt := 97) hx hb dX1_key_83 (by decide) (fun c83 => ?_) (fun c83 => ?_)
        · have hR := hR.trans (if_pos c83)
          refine lv_lload_n hx hb dX1_key_97 rfl (lv_at hl 1 rfl) ?_
          subst hR
          exact cRl hx hb hr hlk hK hP hD hS rfl dX1_key_98
        · have hR := hR.trans (if_neg (fun z => z c83))
          refine lv_lload_n hx hb dX1_key_86 rfl (lv_at hl 1 rfl) ?_
          refine lv_ldc2 (v := 2000) hx hb hown (hts _ kX1_key_6) dX1_key_87 ?_
          refine cSl ⟨hx, hb, hml, hown, hts⟩ (mX1_mixed l D 2000 _ rfl) (va_cwS 1 hts gX1_key_X1_mixed rfl rfl rfl nX1_mixed ⟨Nat.le_of_ble_eq_true rfl, Nat.le_of_ble_eq_true rfl⟩) rfl hl.1 rfl (Nat.le_of_ble_eq_true rfl) dX1_key_90 ⟨Nat.zero_le _, Nat.zero_le _⟩ hK hP hS hA (fun H locs hP hS => ?_)
          refine lv_lxor hx hb dX1_key_93 ?_
          refine lv_goto (tgt := 98) hx hb dX1_key_94 (by decide) ?_
          subst hR
          exact cRl hx hb hr hlk hK hP hD hS rfl dX1_key_98
      · exact absurd (nI_le (a := 64) (b := n33) (by omega) (by omega)) c36
    | succ k ih =>
      intro n33 v33_1 H locs ls hn  hP hD hS hl hR
      rw [qX1_key_w33] at hR
      refine lv_iload_n hx hb dX1_key_33 rfl (lv_at hl 2 rfl) ?_
      refine lv_bipush (v := 64) hx hb dX1_key_34 (by decide) ?_
      refine lv_icmp_ge (tgt := 78) hx hb dX1_key_36 (by decide) (fun c36 => ?_) (fun c36 => ?_)
      · exact absurd c36 (nI_ge (a := n33) (b := 64) (by omega) (by omega))
      · skip
        refine lv_aload_n hx hb dX1_key_39 rfl (lv_at hl 0 rfl) ?_
        refine gR hx hb hts in_X1_key hown hK hP 1 (by decide) rfl kX1_key_7 dX1_key_40 ?_
        refine lv_iload_n hx hb dX1_key_43 rfl (lv_at hl 2 rfl) ?_
        refine va_iald (f := A 1) hx hb hK hP 1 0 rfl rfl (vp_in_nI (by omega) (by decide)) dX1_key_44 ?_
        refine lv_if_le (tgt := 70) hx hb dX1_key_45 (by decide) (fun c45 => ?_) (fun c45 => ?_)
        · have hR := hR.trans (if_pos c45)
          refine lv_lload_n hx hb dX1_key_70 rfl (lv_at hl 1 rfl) ?_
          refine lv_lstore_n (lv' := [(1, .long v33_1), (0, .ref o), (3, .int (nI n33))]) hx hb dX1_key_71 rfl hl (by decide) rfl (fun ls hl => ?_)
          refine lv_iinc (v := (nI (n33 + 1))) (lv' := [(3, .int (nI (n33 + 1))), (1, .long v33_1), (0, .ref o)]) hx hb dX1_key_72 hl (k := 2) rfl (nI_1 _) (by decide) rfl (fun ls hl => ?_)
          refine lv_goto (tgt := 33) hx hb dX1_key_75 (by decide) ?_
          exact ih (n33 + 1) v33_1 _ _ ls (by omega) hP hD hS (lv_sub hl [2, 1, 0] rfl) hR
        · have hR := hR.trans (if_neg c45)
          refine lv_lload_n hx hb dX1_key_48 rfl (lv_at hl 1 rfl) ?_
          refine lv_ldc2 (v := 64) hx hb hown (hts _ kX1_key_8) dX1_key_49 ?_
          refine lv_aload_n hx hb dX1_key_52 rfl (lv_at hl 0 rfl) ?_
          refine gR hx hb hts in_X1_key hown hK hP 1 (by decide) rfl kX1_key_7 dX1_key_53 ?_
          refine lv_iload_n hx hb dX1_key_56 rfl (lv_at hl 2 rfl) ?_
          refine va_iald (f := A 1) hx hb hK hP 1 0 rfl rfl (vp_in_nI (by omega) (by decide)) dX1_key_57 ?_
          refine lv_i2l hx hb dX1_key_58 rfl ?_
          refine lv_lmul hx hb dX1_key_59 ?_
          refine lv_iload_n hx hb dX1_key_60 rfl (lv_at hl 2 rfl) ?_
          refine lv_i2l hx hb dX1_key_61 rfl ?_
          refine lv_ladd hx hb dX1_key_62 ?_
          refine cSl ⟨hx, hb, hml, hown, hts⟩ (mX1_mixed l D ((64 * (Int32.toInt64 (A 1 (Int32.toNatClampNeg (nI n33))))) + (Int32.toInt64 (nI n33))) _ rfl) (va_cwS 1 hts gX1_key_X1_mixed rfl rfl rfl nX1_mixed ⟨Nat.le_of_ble_eq_true rfl, Nat.le_of_ble_eq_true rfl⟩) rfl hl.1 rfl (Nat.le_of_ble_eq_true rfl) dX1_key_63 ⟨Nat.zero_le _, Nat.zero_le _⟩ hK hP hS hA (fun H locs hP hS => ?_)
          refine lv_lxor hx hb dX1_key_66 ?_
          refine lv_goto (tgt := 71) hx hb dX1_key_67 (by decide) ?_
          refine lv_lstore_n (lv' := [(1, .long (v33_1 ^^^ (qX1_mixed ((64 * (Int32.toInt64 (A 1 (Int32.toNatClampNeg (nI n33))))) + (Int32.toInt64 (nI n33)))))), (0, .ref o), (3, .int (nI n33))]) hx hb dX1_key_71 rfl hl (by decide) rfl (fun ls hl => ?_)
          refine lv_iinc (v := (nI (n33 + 1))) (lv' := [(3, .int (nI (n33 + 1))), (1, .long (v33_1 ^^^ (qX1_mixed ((64 * (Int32.toInt64 (A 1 (Int32.toNatClampNeg (nI n33))))) + (Int32.toInt64 (nI n33)))))), (0, .ref o)]) hx hb dX1_key_72 hl (k := 2) rfl (nI_1 _) (by decide) rfl (fun ls hl => ?_)
          refine lv_goto (tgt := 33) hx hb dX1_key_75 (by decide) ?_
          exact ih (n33 + 1) (v33_1 ^^^ (qX1_mixed ((64 * (Int32.toInt64 (A 1 (Int32.toNatClampNeg (nI n33))))) + (Int32.toInt64 (nI n33))))) _ _ ls (by omega) hP hD hS (lv_sub hl [2, 1, 0] rfl) hR
  exact hw33 64 0 ((qX1_mixed (900 + (Int32.toInt64 (F 3)))) ^^^ (qX1_mixed (1000 + (Int32.toInt64 (F 4))))) _ _ ls (by omega) hP hD hS (lv_sub hl [2, 1, 0] rfl) hR
def qX1_move (F : Nat → Int32) (A : Nat → Nat → Int32) (p1 : Int32) : Int32 × tFA := (if p1 < 0 then ((-1), (uf F 0 0), A) else (if p1 < (F 7) then ((A 8 (Int32.toNatClampNeg p1)), (uf F 0 0), A) else ((-1), (uf F 0 0), A)))
abbrev rmX1_move : Room := { frames := 0, cells := 0, slots := 0, locals := 0 }
theorem nX1_move : yX1_move.cls = RX1 ∧ yX1_move.cls ≠ "java/lang/invoke/MethodHandle" ∧ yX1_move.cls ≠ "java/lang/invoke/VarHandle" ∧ (parseMethodDescriptor yX1_move.desc).map (fun d => d.parameters.length) = some 1 := by decide +kernel
theorem in_X1_move : ∀ w ∈ wsX10, w ∈ wsX1_move := fun w h => by
  unfold wsX1_move
  exact List.mem_cons_of_mem _ (List.mem_append_right _ h)
theorem kX1_move_0 : Cond.fieldLink RX1 31 "BoardModel" "thrown" "I" ∈ wsX1_move := by decide +kernel
theorem kX1_move_1 : Cond.fieldLink RX1 43 "BoardModel" "made" "I" ∈ wsX1_move := by decide +kernel
theorem kX1_move_2 : Cond.fieldLink RX1 20 "BoardModel" "moves" "[I" ∈ wsX1_move := by decide +kernel
set_option maxHeartbeats 4000000 in
set_option maxRecDepth 100000 in
theorem mX1_move (l : Launch) (D : va_G) (cI cB : ClassId) (o : Nat) (h : Nat → Nat) (F : Nat → Int32) (A : Nat → Nat → Int32) (p1 : Int32) (hm : ∃ k : Nat, k ≤ 600 ∧ F 7 = nI k) (r0 : Int32 × tFA) (hR : r0 = qX1_move F A p1) : cMi l yX1_move wsX1_move rmX1_move D [(cI, .int), (cB, .byte)] (wR cI cB o h F A) [.ref o, .int p1] r0.1 (wR cI cB o h r0.2.1 r0.2.2) := by
  intro sz
  refine cMet_of (Qc := fun AA => cQi D [(cI, .int), (cB, .byte)] r0.1 (wR cI cB o h r0.2.1 r0.2.2) AA) (cc := cX1_move) (maxL := 2) (ret := (some .int)) (by decide) rfl (Nat.le_of_ble_eq_true rfl) ?_ sz
  intro p e s m below meth c AA ls hx hb hr hts hown hml hlk hA hK hP hD hS hl
  have hown : s.vm.findClass RX1 = some m.cls := hown
  have hl : lv_has ls 2 [(0, .ref o), (1, .int p1)] := hl
  rw [qX1_move] at hR
  refine lv_aload_n hx hb dX1_move_0 rfl (lv_at hl 0 rfl) ?_
  refine lv_iconst (v := 0) hx hb dX1_move_1 (by decide) ?_
  refine pR0 hx hb hts in_X1_move hown hK hP hD hS kX1_move_0 dX1_move_2 (fun H locs hP hD hS => ?_)
  refine lv_iload_n hx hb dX1_move_5 rfl (lv_at hl 1 rfl) ?_
  refine lv_if_lt (tgt := 17) hx hb dX1_move_6 (by decide) (fun c6 => ?_) (fun c6 => ?_)
  · have hR := hR.trans (if_pos c6)
    refine lv_iconst (v := (-1)) hx hb dX1_move_17 (by decide) ?_
    refine lv_goto (tgt := 27) hx hb dX1_move_18 (by decide) ?_
    subst hR
    exact cRi hx hb hr hlk hK hP hD hS rfl dX1_move_27
  · have hR := hR.trans (if_neg c6)
    refine lv_iload_n hx hb dX1_move_9 rfl (lv_at hl 1 rfl) ?_
    refine lv_aload_n hx hb dX1_move_10 rfl (lv_at hl 0 rfl) ?_
    refine gR hx hb hts in_X1_move hown hK hP 7 (by decide) rfl kX1_move_1 dX1_move_11 ?_
    refine lv_icmp_lt (tgt := 21) hx hb dX1_move_14 (by decide) (fun c14 => ?_) (fun c14 => ?_)
    · have hR := hR.trans (if_pos c14)
      refine lv_aload_n hx hb dX1_move_21 rfl (lv_at hl 0 rfl) ?_
      refine gR hx hb hts in_X1_move hown hK hP 8 (by decide) rfl kX1_move_2 dX1_move_22 ?_
      refine lv_iload_n hx hb dX1_move_25 rfl (lv_at hl 1 rfl) ?_
      refine va_iald (f := A 8) hx hb hK hP 2 0 rfl rfl (inMvL hm c6 c14) dX1_move_26 ?_
      subst hR
      exact cRi hx hb hr hlk hK hP hD hS rfl dX1_move_27
    · have hR := hR.trans (if_neg c14)
      refine lv_iconst (v := (-1)) hx hb dX1_move_17 (by decide) ?_
      refine lv_goto (tgt := 27) hx hb dX1_move_18 (by decide) ?_
      subst hR
      exact cRi hx hb hr hlk hK hP hD hS rfl dX1_move_27
def qX1_material_j87 (rec : Nat → (Int32) → Int32) (n : Nat) (F : Nat → Int32) (A : Nat → Nat → Int32) (x1 : Int32) (s0 : Int32) (s1 : Int32) : Int32 := (rec (n + 1) (s1 + s0))
def qX1_material_j36 (rec : Nat → (Int32) → Int32) (n : Nat) (F : Nat → Int32) (A : Nat → Nat → Int32) (x1 : Int32) (x2 : Int32) (s0 : Int32) : Int32 := (if ¬ s0 = 1 then (if s0 = 2 then (qX1_material_j87 rec n F A x1 3 x2) else (if ¬ s0 = 3 then (if ¬ s0 = 4 then (if ¬ s0 = 5 then (qX1_material_j87 rec n F A x1 0 x2) else (qX1_material_j87 rec n F A x1 9 x2)) else (qX1_material_j87 rec n F A x1 5 x2)) else (qX1_material_j87 rec n F A x1 3 x2))) else (qX1_material_j87 rec n F A x1 1 x2))
def qX1_material_w4 (F : Nat → Int32) (A : Nat → Nat → Int32) (x1 : Int32) : Nat → Nat → (Int32) → Int32
  | 0, n, x2 => x2
  | k + 1, n, x2 => (if ¬ (qX1_sideOf (A 1 (Int32.toNatClampNeg (nI n)))) = x1 then (qX1_material_j36 (qX1_material_w4 F A x1 k) n F A x1 x2 0) else (qX1_material_j36 (qX1_material_w4 F A x1 k) n F A x1 x2 (qX1_kindOf (A 1 (Int32.toNatClampNeg (nI n))))))
def qX1_material (F : Nat → Int32) (A : Nat → Nat → Int32) (p1 : Int32) : Int32 := (qX1_material_w4 F A p1 64 0 0)
abbrev rmX1_material : Room := { frames := 1, cells := 0, slots := 0, locals := 20 }
theorem nX1_material : yX1_material.cls = RX1 ∧ yX1_material.cls ≠ "java/lang/invoke/MethodHandle" ∧ yX1_material.cls ≠ "java/lang/invoke/VarHandle" ∧ (parseMethodDescriptor yX1_material.desc).map (fun d => d.parameters.length) = some 1 := by decide +kernel
theorem in_X1_material : ∀ w ∈ wsX10, w ∈ wsX1_material := fun w h => by
  unfold wsX1_material
  exact List.mem_cons_of_mem _ (List.mem_append_right _ h)
theorem kX1_material_0 : Cond.fieldLink RX1 7 "BoardModel" "squares" "[I" ∈ wsX1_material := by decide +kernel
set_option maxHeartbeats 4000000 in
set_option maxRecDepth 100000 in
theorem mX1_material (l : Launch) (D : va_G) (cI cB : ClassId) (o : Nat) (h : Nat → Nat) (F : Nat → Int32) (A : Nat → Nat → Int32) (p1 : Int32) (r0 : Int32) (hR : r0 = qX1_material F A p1) : cMi l yX1_material wsX1_material rmX1_material D [(cI, .int), (cB, .byte)] (wR cI cB o h F A) [.ref o, .int p1] r0 (wR cI cB o h F A) := by
  intro sz
  refine cMet_of (Qc := fun AA => cQi D [(cI, .int), (cB, .byte)] r0 (wR cI cB o h F A) AA) (cc := cX1_material) (maxL := 5) (ret := (some .int)) (by decide) rfl (Nat.le_of_ble_eq_true rfl) ?_ sz
  intro p e s m below meth c AA ls hx hb hr hts hown hml hlk hA hK hP hD hS hl
  have hown : s.vm.findClass RX1 = some m.cls := hown
  have hl : lv_has ls 5 [(0, .ref o), (1, .int p1)] := hl
  rw [qX1_material] at hR
  refine lv_iconst (v := 0) hx hb dX1_material_0 (by decide) ?_
  refine lv_istore_n (lv' := [(2, .int 0), (0, .ref o), (1, .int p1)]) hx hb dX1_material_1 rfl hl (by decide) rfl (fun ls hl => ?_)
  refine lv_iconst (v := 0) hx hb dX1_material_2 (by decide) ?_
  refine lv_istore_n (lv' := [(3, .int 0), (2, .int 0), (0, .ref o), (1, .int p1)]) hx hb dX1_material_3 rfl hl (by decide) rfl (fun ls hl => ?_)
  have hw4 : ∀ (k n4 : Nat) (v4_2 : Int32) (H : Heap) (locs : List Loc) (ls : Array Slot), n4 + k = 64 → va_P D vwCl (wR cI cB o h F A) H → va_D AA (wR cI cB o h F A) → va_S AA s.heap H locs → lv_has ls 5 [(0, .ref o), (1, .int p1), (2, .int v4_2), (3, .int (nI n4))] → r0 = qX1_material_w4 F A p1 k n4 v4_2 → W p l e rmX1_material s m [.ref o, .int p1].toArray below meth c H locs 0 0 (MQ below (cQi D [(cI, .int), (cB, .byte)] r0 (wR cI cB o h F A) AA) [.ref o, .int p1].toArray s 0 0 AA) (F0 m 4 ls []) := by
    intro k
    induction k with
    | zero =>
      intro n4 v4_2 H locs ls hn  hP hD hS hl hR
      rw [qX1_material_w4] at hR
      refine lv_iload_n hx hb dX1_material_4 rfl (lv_at hl 3 rfl) ?_
      refine lv_bipush (v := 64) hx hb dX1_material_5 (by decide) ?_
      refine lv_icmp_ge (tgt := 95) hx hb dX1_material_7 (by decide) (fun c7 => ?_) (fun c7 => ?_)
      · skip
        refine lv_iload_n hx hb dX1_material_95 rfl (lv_at hl 2 rfl) ?_
        exact cRi hx hb hr hlk hK hP hD hS hR.symm dX1_material_96
      · exact absurd (nI_le (a := 64) (b := n4) (by omega) (by omega)) c7
    | succ k ih =>
      intro n4 v4_2 H locs ls hn  hP hD hS hl hR
      rw [qX1_material_w4] at hR
      refine lv_iload_n hx hb dX1_material_4 rfl (lv_at hl 3 rfl) ?_
      refine lv_bipush (v := 64) hx hb dX1_material_5 (by decide) ?_
      refine lv_icmp_ge (tgt := 95) hx hb dX1_material_7 (by decide) (fun c7 => ?_) (fun c7 => ?_)
      · exact absurd c7 (nI_ge (a := n4) (b := 64) (by omega) (by omega))
      · skip
        refine lv_aload_n hx hb dX1_material_10 rfl (lv_at hl 0 rfl) ?_
        refine gR hx hb hts in_X1_material hown hK hP 1 (by decide) rfl kX1_material_0 dX1_material_11 ?_
        refine lv_iload_n hx hb dX1_material_14 rfl (lv_at hl 3 rfl) ?_
        refine va_iald (f := A 1) hx hb hK hP 1 0 rfl rfl (vp_in_nI (by omega) (by decide)) dX1_material_15 ?_
        refine cSi ⟨hx, hb, hml, hown, hts⟩ (mX1_sideOf l D (A 1 (Int32.toNatClampNeg (nI n4))) _ rfl) (va_cwS 1 hts gX1_material_X1_sideOf rfl rfl rfl nX1_sideOf ⟨Nat.le_of_ble_eq_true rfl, Nat.le_of_ble_eq_true rfl⟩) rfl hl.1 rfl (Nat.le_of_ble_eq_true rfl) dX1_material_16 ⟨Nat.zero_le _, Nat.zero_le _⟩ hK hP hS hA (fun H locs hP hS => ?_)
        refine lv_iload_n hx hb dX1_material_19 rfl (lv_at hl 1 rfl) ?_
        have hj36 : ∀ (s36_0 : Int32) (H : Heap) (locs : List Loc) (ls : Array Slot), va_P D vwCl (wR cI cB o h F A) H → va_D AA (wR cI cB o h F A) → va_S AA s.heap H locs → lv_has ls 5 [(0, .ref o), (1, .int p1), (2, .int v4_2), (3, .int (nI n4))] → r0 = qX1_material_j36 (qX1_material_w4 F A p1 k) n4 F A p1 v4_2 s36_0 → W p l e rmX1_material s m [.ref o, .int p1].toArray below meth c H locs 0 0 (MQ below (cQi D [(cI, .int), (cB, .byte)] r0 (wR cI cB o h F A) AA) [.ref o, .int p1].toArray s 0 0 AA) (F0 m 36 ls [.int s36_0]) := by
          intro s36_0 H locs ls  hP hD hS hl hR
          rw [qX1_material_j36] at hR
          refine lv_istore (lv' := [(4, .int s36_0), (0, .ref o), (1, .int p1), (2, .int v4_2), (3, .int (nI n4))]) hx hb dX1_material_36 hl (by decide) rfl (fun ls hl => ?_)
          refine lv_iload_n hx hb dX1_material_38 rfl (lv_at hl 3 rfl) ?_
          refine lv_iload hx hb dX1_material_39 (lv_at hl 0 rfl) ?_
          refine lv_iconst (v := 1) hx hb dX1_material_41 (by decide) ?_
          have hj87 : ∀ (s87_0 : Int32) (H : Heap) (locs : List Loc) (ls : Array Slot), va_P D vwCl (wR cI cB o h F A) H → va_D AA (wR cI cB o h F A) → va_S AA s.heap H locs → lv_has ls 5 [(0, .ref o), (1, .int p1), (3, .int (nI n4))] → r0 = qX1_material_j87 (qX1_material_w4 F A p1 k) n4 F A p1 s87_0 v4_2 → W p l e rmX1_material s m [.ref o, .int p1].toArray below meth c H locs 0 0 (MQ below (cQi D [(cI, .int), (cB, .byte)] r0 (wR cI cB o h F A) AA) [.ref o, .int p1].toArray s 0 0 AA) (F0 m 87 ls [.int s87_0, .int v4_2]) := by
            intro s87_0 H locs ls  hP hD hS hl hR
            rw [qX1_material_j87] at hR
            refine lv_iadd hx hb dX1_material_87 ?_
            refine lv_istore_n (lv' := [(2, .int (v4_2 + s87_0)), (0, .ref o), (1, .int p1), (3, .int (nI n4))]) hx hb dX1_material_88 rfl hl (by decide) rfl (fun ls hl => ?_)
            refine lv_iinc (v := (nI (n4 + 1))) (lv' := [(3, .int (nI (n4 + 1))), (2, .int (v4_2 + s87_0)), (0, .ref o), (1, .int p1)]) hx hb dX1_material_89 hl (k := 3) rfl (nI_1 _) (by decide) rfl (fun ls hl => ?_)
            refine lv_goto (tgt := 4) hx hb dX1_material_92 (by decide) ?_
            exact ih (n4 + 1) (v4_2 + s87_0) _ _ ls (by omega) hP hD hS (lv_sub hl [2, 3, 1, 0] rfl) hR
          refine lv_icmp_ne (tgt := 49) hx hb dX1_material_42 (by decide) (fun c42 => ?_) (fun c42 => ?_)
          · have hR := hR.trans (if_pos c42)
            refine lv_iload hx hb dX1_material_49 (lv_at hl 0 rfl) ?_
            refine lv_iconst (v := 2) hx hb dX1_material_51 (by decide) ?_
            refine lv_icmp_eq (tgt := 61) hx hb dX1_material_52 (by decide) (fun c52 => ?_) (fun c52 => ?_)
            · have hR := hR.trans (if_pos c52)
              refine lv_iconst (v := 3) hx hb dX1_material_61 (by decide) ?_
              refine lv_goto (tgt := 87) hx hb dX1_material_62 (by decide) ?_
              exact hj87 3 _ _ ls hP hD hS (lv_sub hl [1, 2, 4] rfl) hR
            · have hR := hR.trans (if_neg c52)
              refine lv_iload hx hb dX1_material_55 (lv_at hl 0 rfl) ?_
              refine lv_iconst (v := 3) hx hb dX1_material_57 (by decide) ?_
              refine lv_icmp_ne (tgt := 65) hx hb dX1_material_58 (by decide) (fun c58 => ?_) (fun c58 => ?_)
              · have hR := hR.trans (if_pos c58)
                refine lv_iload hx hb dX1_material_65 (lv_at hl 0 rfl) ?_
                refine lv_iconst (v := 4) hx hb dX1_material_67 (by decide) ?_
                refine lv_icmp_ne (tgt := 75) hx hb dX1_material_68 (by decide) (fun c68 => ?_) (fun c68 => ?_)
                · have hR := hR.trans (if_pos c68)
                  refine lv_iload hx hb dX1_material_75 (lv_at hl 0 rfl) ?_
                  refine lv_iconst (v := 5) hx hb dX1_material_77 (by decide) ?_
                  refine lv_icmp_ne (tgt := 86) hx hb dX1_material_78 (by decide) (fun c78 => ?_) (fun c78 => ?_)
                  · have hR := hR.trans (if_pos c78)
                    refine lv_iconst (v := 0) hx hb dX1_material_86 (by decide) ?_
                    exact hj87 0 _ _ ls hP hD hS (lv_sub hl [1, 2, 4] rfl) hR
                  · have hR := hR.trans (if_neg (fun z => z c78))
                    refine lv_bipush (v := 9) hx hb dX1_material_81 (by decide) ?_
                    refine lv_goto (tgt := 87) hx hb dX1_material_83 (by decide) ?_
                    exact hj87 9 _ _ ls hP hD hS (lv_sub hl [1, 2, 4] rfl) hR
                · have hR := hR.trans (if_neg (fun z => z c68))
                  refine lv_iconst (v := 5) hx hb dX1_material_71 (by decide) ?_
                  refine lv_goto (tgt := 87) hx hb dX1_material_72 (by decide) ?_
                  exact hj87 5 _ _ ls hP hD hS (lv_sub hl [1, 2, 4] rfl) hR
              · have hR := hR.trans (if_neg (fun z => z c58))
                refine lv_iconst (v := 3) hx hb dX1_material_61 (by decide) ?_
                refine lv_goto (tgt := 87) hx hb dX1_material_62 (by decide) ?_
                exact hj87 3 _ _ ls hP hD hS (lv_sub hl [1, 2, 4] rfl) hR
          · have hR := hR.trans (if_neg (fun z => z c42))
            refine lv_iconst (v := 1) hx hb dX1_material_45 (by decide) ?_
            refine lv_goto (tgt := 87) hx hb dX1_material_46 (by decide) ?_
            exact hj87 1 _ _ ls hP hD hS (lv_sub hl [1, 2, 4] rfl) hR
        refine lv_icmp_ne (tgt := 35) hx hb dX1_material_20 (by decide) (fun c20 => ?_) (fun c20 => ?_)
        · have hR := hR.trans (if_pos c20)
          refine lv_iconst (v := 0) hx hb dX1_material_35 (by decide) ?_
          exact hj36 0 _ _ ls hP hD hS (lv_sub hl [0, 1, 2, 3] rfl) hR
        · have hR := hR.trans (if_neg (fun z => z c20))
          refine lv_aload_n hx hb dX1_material_23 rfl (lv_at hl 0 rfl) ?_
          refine gR hx hb hts in_X1_material hown hK hP 1 (by decide) rfl kX1_material_0 dX1_material_24 ?_
          refine lv_iload_n hx hb dX1_material_27 rfl (lv_at hl 3 rfl) ?_
          refine va_iald (f := A 1) hx hb hK hP 1 0 rfl rfl (vp_in_nI (by omega) (by decide)) dX1_material_28 ?_
          refine cSi ⟨hx, hb, hml, hown, hts⟩ (mX1_kindOf l D (A 1 (Int32.toNatClampNeg (nI n4))) _ rfl) (va_cwS 1 hts gX1_material_X1_kindOf rfl rfl rfl nX1_kindOf ⟨Nat.le_of_ble_eq_true rfl, Nat.le_of_ble_eq_true rfl⟩) rfl hl.1 rfl (Nat.le_of_ble_eq_true rfl) dX1_material_29 ⟨Nat.zero_le _, Nat.zero_le _⟩ hK hP hS hA (fun H locs hP hS => ?_)
          refine lv_goto (tgt := 36) hx hb dX1_material_32 (by decide) ?_
          exact hj36 (qX1_kindOf (A 1 (Int32.toNatClampNeg (nI n4)))) _ _ ls hP hD hS (lv_sub hl [0, 1, 2, 3] rfl) hR
  exact hw4 64 0 0 _ _ ls (by omega) hP hD hS (lv_sub hl [2, 3, 1, 0] rfl) hR
def qX1_look (F : Nat → Int32) (A : Nat → Nat → Int32) (p1 : Int32) : Int32 × tFA := (if p1 = 0 then ((F 2), (uf F 0 0), A) else (if p1 = 1 then ((F 3), (uf F 0 0), A) else (if p1 = 2 then ((F 4), (uf F 0 0), A) else (if p1 = 3 then ((F 5), (uf F 0 0), A) else (if p1 = 4 then ((F 6), (uf F 0 0), A) else (if p1 = 5 then ((qX1_pieces (uf F 0 0) A), (uf F 0 0), A) else (if p1 = 6 then ((F 7), (uf F 0 0), A) else (if p1 = 7 then ((qX1_material (uf F 0 0) A (p1 - 7)), (uf F 0 0), A) else (if p1 = 8 then ((qX1_material (uf F 0 0) A (p1 - 7)), (uf F 0 0), A) else ((-1), (uf F 0 0), A))))))))))
abbrev rmX1_look : Room := { frames := 2, cells := 0, slots := 0, locals := 44 }
theorem nX1_look : yX1_look.cls = RX1 ∧ yX1_look.cls ≠ "java/lang/invoke/MethodHandle" ∧ yX1_look.cls ≠ "java/lang/invoke/VarHandle" ∧ (parseMethodDescriptor yX1_look.desc).map (fun d => d.parameters.length) = some 1 := by decide +kernel
theorem in_X1_look : ∀ w ∈ wsX10, w ∈ wsX1_look := fun w h => by
  unfold wsX1_look
  exact List.mem_cons_of_mem _ (List.mem_append_right _ h)
theorem kX1_look_0 : Cond.fieldLink RX1 31 "BoardModel" "thrown" "I" ∈ wsX1_look := by decide +kernel
theorem kX1_look_1 : Cond.fieldLink RX1 34 "BoardModel" "side" "I" ∈ wsX1_look := by decide +kernel
theorem kX1_look_2 : Cond.fieldLink RX1 37 "BoardModel" "rights" "I" ∈ wsX1_look := by decide +kernel
theorem kX1_look_3 : Cond.fieldLink RX1 13 "BoardModel" "passing" "I" ∈ wsX1_look := by decide +kernel
theorem kX1_look_4 : Cond.fieldLink RX1 40 "BoardModel" "half" "I" ∈ wsX1_look := by decide +kernel
theorem kX1_look_5 : Cond.fieldLink RX1 17 "BoardModel" "full" "I" ∈ wsX1_look := by decide +kernel
theorem kX1_look_6 : Cond.fieldLink RX1 43 "BoardModel" "made" "I" ∈ wsX1_look := by decide +kernel
set_option maxHeartbeats 4000000 in
set_option maxRecDepth 100000 in
theorem mX1_look (l : Launch) (D : va_G) (cI cB : ClassId) (o : Nat) (h : Nat → Nat) (F : Nat → Int32) (A : Nat → Nat → Int32) (p1 : Int32) (r0 : Int32 × tFA) (hR : r0 = qX1_look F A p1) : cMi l yX1_look wsX1_look rmX1_look D [(cI, .int), (cB, .byte)] (wR cI cB o h F A) [.ref o, .int p1] r0.1 (wR cI cB o h r0.2.1 r0.2.2) := by
  intro sz
  refine cMet_of (Qc := fun AA => cQi D [(cI, .int), (cB, .byte)] r0.1 (wR cI cB o h r0.2.1 r0.2.2) AA) (cc := cX1_look) (maxL := 2) (ret := (some .int)) (by decide) rfl (Nat.le_of_ble_eq_true rfl) ?_ sz
  intro p e s m below meth c AA ls hx hb hr hts hown hml hlk hA hK hP hD hS hl
  have hown : s.vm.findClass RX1 = some m.cls := hown
  have hl : lv_has ls 2 [(0, .ref o), (1, .int p1)] := hl
  rw [qX1_look] at hR
  refine lv_aload_n hx hb dX1_look_0 rfl (lv_at hl 0 rfl) ?_
  refine lv_iconst (v := 0) hx hb dX1_look_1 (by decide) ?_
  refine pR0 hx hb hts in_X1_look hown hK hP hD hS kX1_look_0 dX1_look_2 (fun H locs hP hD hS => ?_)
  refine lv_iload_n hx hb dX1_look_5 rfl (lv_at hl 1 rfl) ?_
  by_cases c6_0 : p1 = 0
  · refine lv_tableIn (off := 50) (tgt := 56) hx hb dX1_look_6 (by rw [c6_0]; decide) (by rw [c6_0]; decide) (by rw [c6_0]; rfl) (by decide) ?_
    have hR := hR.trans (if_pos c6_0)
    refine lv_aload_n hx hb dX1_look_56 rfl (lv_at hl 0 rfl) ?_
    refine gR hx hb hts in_X1_look hown hK hP 2 (by decide) rfl kX1_look_1 dX1_look_57 ?_
    subst hR
    exact cRi hx hb hr hlk hK hP hD hS rfl dX1_look_60
  have hR := hR.trans (if_neg c6_0)
  by_cases c6_1 : p1 = 1
  · refine lv_tableIn (off := 55) (tgt := 61) hx hb dX1_look_6 (by rw [c6_1]; decide) (by rw [c6_1]; decide) (by rw [c6_1]; rfl) (by decide) ?_
    have hR := hR.trans (if_pos c6_1)
    refine lv_aload_n hx hb dX1_look_61 rfl (lv_at hl 0 rfl) ?_
    refine gR hx hb hts in_X1_look hown hK hP 3 (by decide) rfl kX1_look_2 dX1_look_62 ?_
    subst hR
    exact cRi hx hb hr hlk hK hP hD hS rfl dX1_look_65
  have hR := hR.trans (if_neg c6_1)
  by_cases c6_2 : p1 = 2
  · refine lv_tableIn (off := 60) (tgt := 66) hx hb dX1_look_6 (by rw [c6_2]; decide) (by rw [c6_2]; decide) (by rw [c6_2]; rfl) (by decide) ?_
    have hR := hR.trans (if_pos c6_2)
    refine lv_aload_n hx hb dX1_look_66 rfl (lv_at hl 0 rfl) ?_
    refine gR hx hb hts in_X1_look hown hK hP 4 (by decide) rfl kX1_look_3 dX1_look_67 ?_
    subst hR
    exact cRi hx hb hr hlk hK hP hD hS rfl dX1_look_70
  have hR := hR.trans (if_neg c6_2)
  by_cases c6_3 : p1 = 3
  · refine lv_tableIn (off := 65) (tgt := 71) hx hb dX1_look_6 (by rw [c6_3]; decide) (by rw [c6_3]; decide) (by rw [c6_3]; rfl) (by decide) ?_
    have hR := hR.trans (if_pos c6_3)
    refine lv_aload_n hx hb dX1_look_71 rfl (lv_at hl 0 rfl) ?_
    refine gR hx hb hts in_X1_look hown hK hP 5 (by decide) rfl kX1_look_4 dX1_look_72 ?_
    subst hR
    exact cRi hx hb hr hlk hK hP hD hS rfl dX1_look_75
  have hR := hR.trans (if_neg c6_3)
  by_cases c6_4 : p1 = 4
  · refine lv_tableIn (off := 70) (tgt := 76) hx hb dX1_look_6 (by rw [c6_4]; decide) (by rw [c6_4]; decide) (by rw [c6_4]; rfl) (by decide) ?_
    have hR := hR.trans (if_pos c6_4)
    refine lv_aload_n hx hb dX1_look_76 rfl (lv_at hl 0 rfl) ?_
    refine gR hx hb hts in_X1_look hown hK hP 6 (by decide) rfl kX1_look_5 dX1_look_77 ?_
    subst hR
    exact cRi hx hb hr hlk hK hP hD hS rfl dX1_look_80
  have hR := hR.trans (if_neg c6_4)
  by_cases c6_5 : p1 = 5
  · refine lv_tableIn (off := 75) (tgt := 81) hx hb dX1_look_6 (by rw [c6_5]; decide) (by rw [c6_5]; decide) (by rw [c6_5]; rfl) (by decide) ?_
    have hR := hR.trans (if_pos c6_5)
    refine lv_aload_n hx hb dX1_look_81 rfl (lv_at hl 0 rfl) ?_
    refine cVi ⟨hx, hb, hml, hown, hts⟩ (mX1_pieces l D cI cB o h (uf F 0 0) A  _ rfl) (cwV 0 hts gX1_look_X1_pieces rfl rfl rfl nX1_pieces ⟨Nat.le_of_ble_eq_true rfl, Nat.le_of_ble_eq_true rfl⟩) (va_recv hK hP (ci := 1) (q0 := 0) rfl rfl) rfl hl.1 rfl (Nat.le_of_ble_eq_true rfl) dX1_look_82 ⟨Nat.zero_le _, Nat.zero_le _⟩ hK hP hD hS hA (fun H locs hP hD hS => ?_)
    subst hR
    exact cRi hx hb hr hlk hK hP hD hS rfl dX1_look_85
  have hR := hR.trans (if_neg c6_5)
  by_cases c6_6 : p1 = 6
  · refine lv_tableIn (off := 80) (tgt := 86) hx hb dX1_look_6 (by rw [c6_6]; decide) (by rw [c6_6]; decide) (by rw [c6_6]; rfl) (by decide) ?_
    have hR := hR.trans (if_pos c6_6)
    refine lv_aload_n hx hb dX1_look_86 rfl (lv_at hl 0 rfl) ?_
    refine gR hx hb hts in_X1_look hown hK hP 7 (by decide) rfl kX1_look_6 dX1_look_87 ?_
    subst hR
    exact cRi hx hb hr hlk hK hP hD hS rfl dX1_look_90
  have hR := hR.trans (if_neg c6_6)
  by_cases c6_7 : p1 = 7
  · refine lv_tableIn (off := 85) (tgt := 91) hx hb dX1_look_6 (by rw [c6_7]; decide) (by rw [c6_7]; decide) (by rw [c6_7]; rfl) (by decide) ?_
    have hR := hR.trans (if_pos c6_7)
    refine lv_aload_n hx hb dX1_look_91 rfl (lv_at hl 0 rfl) ?_
    refine lv_iload_n hx hb dX1_look_92 rfl (lv_at hl 1 rfl) ?_
    refine lv_bipush (v := 7) hx hb dX1_look_93 (by decide) ?_
    refine lv_isub hx hb dX1_look_95 ?_
    refine cVi ⟨hx, hb, hml, hown, hts⟩ (mX1_material l D cI cB o h (uf F 0 0) A (p1 - 7) _ rfl) (cwV 1 hts gX1_look_X1_material rfl rfl rfl nX1_material ⟨Nat.le_of_ble_eq_true rfl, Nat.le_of_ble_eq_true rfl⟩) (va_recv hK hP (ci := 1) (q0 := 0) rfl rfl) rfl hl.1 rfl (Nat.le_of_ble_eq_true rfl) dX1_look_96 ⟨Nat.zero_le _, Nat.zero_le _⟩ hK hP hD hS hA (fun H locs hP hD hS => ?_)
    subst hR
    exact cRi hx hb hr hlk hK hP hD hS rfl dX1_look_99
  have hR := hR.trans (if_neg c6_7)
  by_cases c6_8 : p1 = 8
  · refine lv_tableIn (off := 85) (tgt := 91) hx hb dX1_look_6 (by rw [c6_8]; decide) (by rw [c6_8]; decide) (by rw [c6_8]; rfl) (by decide) ?_
    have hR := hR.trans (if_pos c6_8)
    refine lv_aload_n hx hb dX1_look_91 rfl (lv_at hl 0 rfl) ?_
    refine lv_iload_n hx hb dX1_look_92 rfl (lv_at hl 1 rfl) ?_
    refine lv_bipush (v := 7) hx hb dX1_look_93 (by decide) ?_
    refine lv_isub hx hb dX1_look_95 ?_
    refine cVi ⟨hx, hb, hml, hown, hts⟩ (mX1_material l D cI cB o h (uf F 0 0) A (p1 - 7) _ rfl) (cwV 1 hts gX1_look_X1_material rfl rfl rfl nX1_material ⟨Nat.le_of_ble_eq_true rfl, Nat.le_of_ble_eq_true rfl⟩) (va_recv hK hP (ci := 1) (q0 := 0) rfl rfl) rfl hl.1 rfl (Nat.le_of_ble_eq_true rfl) dX1_look_96 ⟨Nat.zero_le _, Nat.zero_le _⟩ hK hP hD hS hA (fun H locs hP hD hS => ?_)
    subst hR
    exact cRi hx hb hr hlk hK hP hD hS rfl dX1_look_99
  have hR := hR.trans (if_neg c6_8)
  refine lv_tableOut (tgt := 100) hx hb dX1_look_6 (by have z0 := lv_neT (a := 0) c6_0 rfl; have z1 := lv_neT (a := 1) c6_1 rfl; have z2 := lv_neT (a := 2) c6_2 rfl; have z3 := lv_neT (a := 3) c6_3 rfl; have z4 := lv_neT (a := 4) c6_4 rfl; have z5 := lv_neT (a := 5) c6_5 rfl; have z6 := lv_neT (a := 6) c6_6 rfl; have z7 := lv_neT (a := 7) c6_7 rfl; have z8 := lv_neT (a := 8) c6_8 rfl; omega) (by decide) ?_
  refine lv_iconst (v := (-1)) hx hb dX1_look_100 (by decide) ?_
  subst hR
  exact cRi hx hb hr hlk hK hP hD hS rfl dX1_look_101
