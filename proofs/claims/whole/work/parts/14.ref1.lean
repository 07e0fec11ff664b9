theorem in8 {n : Nat} (j : Nat) (h : j + n < 64) : vp_in (nI j + nI n) 64 := by
  rw [nI_add]; exact vp_in_nI h (by decide)
def qX1_thrown (F : Nat → Int32) (A : Nat → Nat → Int32)  : Int32 := (F 0)
abbrev rmX1_thrown : Room := { frames := 0, cells := 0, slots := 0, locals := 0 }
theorem nX1_thrown : yX1_thrown.cls = RX1 ∧ yX1_thrown.cls ≠ "java/lang/invoke/MethodHandle" ∧ yX1_thrown.cls ≠ "java/lang/invoke/VarHandle" ∧ (parseMethodDescriptor yX1_thrown.desc).map (fun d => d.parameters.length) = some 0 := by decide +kernel
theorem in_X1_thrown : ∀ w ∈ wsX10, w ∈ wsX1_thrown := fun w h => by
  unfold wsX1_thrown
  exact List.mem_cons_of_mem _ (List.mem_append_right _ h)
theorem kX1_thrown_0 : Cond.fieldLink RX1 31 "BoardModel" "thrown" "I" ∈ wsX1_thrown := by decide +kernel
set_option maxHeartbeats 4000000 in
set_option maxRecDepth 100000 in
theorem mX1_thrown (l : Launch) (D : va_G) (cI cB : ClassId) (o : Nat) (h : Nat → Nat) (F : Nat → Int32) (A : Nat → Nat → Int32)  (r0 : Int32) (hR : r0 = qX1_thrown F A) : cMi l yX1_thrown wsX1_thrown rmX1_thrown D [(cI, .int), (cB, .byte)] (wR cI cB o h F A) [.ref o] r0 (wR cI cB o h F A) := by
  intro sz
  refine cMet_of (Qc := fun AA => cQi D [(cI, .int), (cB, .byte)] r0 (wR cI cB o h F A) AA) (cc := cX1_thrown) (maxL := 1) (ret := (some .int)) (by decide) rfl (Nat.le_of_ble_eq_true rfl) ?_ sz
  intro p e s m below meth c AA ls hx hb hr hts hown hml hlk hA hK hP hD hS hl
  have hown : s.vm.findClass RX1 = some m.cls := hown
  have hl : lv_has ls 1 [(0, .ref o)] := hl
  rw [qX1_thrown] at hR
  refine lv_aload_n hx hb dX1_thrown_0 rfl (lv_at hl 0 rfl) ?_
  refine gR hx hb hts in_X1_thrown hown hK hP 0 (by decide) rfl kX1_thrown_0 dX1_thrown_1 ?_
  exact cRi hx hb hr hlk hK hP hD hS hR.symm dX1_thrown_4
def qX1_clear_w7 (F : Nat → Int32) : Nat → Nat → (Nat → Nat → Int32) → tFA
  | 0, n, A => ((uf (uf (uf (uf (uf (uf F 2 0) 3 0) 4 (-1)) 5 0) 6 1) 7 0), A)
  | k + 1, n, A => (qX1_clear_w7 F k (n + 1) (ua A 1 (Int32.toNatClampNeg (nI n)) 0))
def qX1_clear (F : Nat → Int32) (A : Nat → Nat → Int32)  : tFA := (qX1_clear_w7 (uf F 0 0) 64 0 A)
abbrev rmX1_clear : Room := { frames := 0, cells := 0, slots := 0, locals := 0 }
theorem nX1_clear : yX1_clear.cls = RX1 ∧ yX1_clear.cls ≠ "java/lang/invoke/MethodHandle" ∧ yX1_clear.cls ≠ "java/lang/invoke/VarHandle" ∧ (parseMethodDescriptor yX1_clear.desc).map (fun d => d.parameters.length) = some 0 := by decide +kernel
theorem in_X1_clear : ∀ w ∈ wsX10, w ∈ wsX1_clear := fun w h => by
  unfold wsX1_clear
  exact List.mem_cons_of_mem _ (List.mem_append_right _ h)
theorem kX1_clear_0 : Cond.fieldLink RX1 31 "BoardModel" "thrown" "I" ∈ wsX1_clear := by decide +kernel
theorem kX1_clear_1 : Cond.fieldLink RX1 34 "BoardModel" "side" "I" ∈ wsX1_clear := by decide +kernel
theorem kX1_clear_2 : Cond.fieldLink RX1 37 "BoardModel" "rights" "I" ∈ wsX1_clear := by decide +kernel
theorem kX1_clear_3 : Cond.fieldLink RX1 13 "BoardModel" "passing" "I" ∈ wsX1_clear := by decide +kernel
theorem kX1_clear_4 : Cond.fieldLink RX1 40 "BoardModel" "half" "I" ∈ wsX1_clear := by decide +kernel
theorem kX1_clear_5 : Cond.fieldLink RX1 17 "BoardModel" "full" "I" ∈ wsX1_clear := by decide +kernel
theorem kX1_clear_6 : Cond.fieldLink RX1 43 "BoardModel" "made" "I" ∈ wsX1_clear := by decide +kernel
theorem kX1_clear_7 : Cond.fieldLink RX1 7 "BoardModel" "squares" "[I" ∈ wsX1_clear := by decide +kernel
set_option maxHeartbeats 4000000 in
set_option maxRecDepth 100000 in
theorem mX1_clear (l : Launch) (D : va_G) (cI cB : ClassId) (o : Nat) (h : Nat → Nat) (F : Nat → Int32) (A : Nat → Nat → Int32)  (r0 : tFA) (hR : r0 = qX1_clear F A) : cMv l yX1_clear wsX1_clear rmX1_clear D [(cI, .int), (cB, .byte)] (wR cI cB o h F A) [.ref o] (wR cI cB o h r0.1 r0.2) := by
  intro sz
  refine cMet_of (Qc := fun AA => cQv D [(cI, .int), (cB, .byte)] (wR cI cB o h r0.1 r0.2) AA) (cc := cX1_clear) (maxL := 2) (ret := none) (by decide) rfl (Nat.le_of_ble_eq_true rfl) ?_ sz
  intro p e s m below meth c AA ls hx hb hr hts hown hml hlk hA hK hP hD hS hl
  have hown : s.vm.findClass RX1 = some m.cls := hown
  have hl : lv_has ls 2 [(0, .ref o)] := hl
  rw [qX1_clear] at hR
  refine lv_aload_n hx hb dX1_clear_0 rfl (lv_at hl 0 rfl) ?_
  refine lv_iconst (v := 0) hx hb dX1_clear_1 (by decide) ?_
  refine pR0 hx hb hts in_X1_clear hown hK hP hD hS kX1_clear_0 dX1_clear_2 (fun H locs hP hD hS => ?_)
  refine lv_iconst (v := 0) hx hb dX1_clear_5 (by decide) ?_
  refine lv_istore_n (lv' := [(1, .int 0), (0, .ref o)]) hx hb dX1_clear_6 rfl hl (by decide) rfl (fun ls hl => ?_)
  have hw7 : ∀ (k n7 : Nat) (A7 : Nat → Nat → Int32) (H : Heap) (locs : List Loc) (ls : Array Slot), n7 + k = 64 → va_P D vwCl (wR cI cB o h (uf F 0 0) A7) H → va_D AA (wR cI cB o h (uf F 0 0) A7) → va_S AA s.heap H locs → lv_has ls 2 [(0, .ref o), (1, .int (nI n7))] → r0 = qX1_clear_w7 (uf F 0 0) k n7 A7 → W p l e rmX1_clear s m [.ref o].toArray below meth c H locs 0 0 (MQ below (cQv D [(cI, .int), (cB, .byte)] (wR cI cB o h r0.1 r0.2) AA) [.ref o].toArray s 0 0 AA) (F0 m 7 ls []) := by
    intro k
    induction k with
    | zero =>
      intro n7 A7 H locs ls hn  hP hD hS hl hR
      rw [qX1_clear_w7] at hR
      refine lv_iload_n hx hb dX1_clear_7 rfl (lv_at hl 1 rfl) ?_
      refine lv_bipush (v := 64) hx hb dX1_clear_8 (by decide) ?_
      refine lv_icmp_ge (tgt := 26) hx hb dX1_clear_10 (by decide) (fun c10 => ?_) (fun c10 => ?_)
      · skip
        refine lv_aload_n hx hb dX1_clear_26 rfl (lv_at hl 0 rfl) ?_
        refine lv_iconst (v := 0) hx hb dX1_clear_27 (by decide) ?_
        refine pR2 hx hb hts in_X1_clear hown hK hP hD hS kX1_clear_1 dX1_clear_28 (fun H locs hP hD hS => ?_)
        refine lv_aload_n hx hb dX1_clear_31 rfl (lv_at hl 0 rfl) ?_
        refine lv_iconst (v := 0) hx hb dX1_clear_32 (by decide) ?_
        refine pR3 hx hb hts in_X1_clear hown hK hP hD hS kX1_clear_2 dX1_clear_33 (fun H locs hP hD hS => ?_)
        refine lv_aload_n hx hb dX1_clear_36 rfl (lv_at hl 0 rfl) ?_
        refine lv_iconst (v := (-1)) hx hb dX1_clear_37 (by decide) ?_
        refine pR4 hx hb hts in_X1_clear hown hK hP hD hS kX1_clear_3 dX1_clear_38 (fun H locs hP hD hS => ?_)
        refine lv_aload_n hx hb dX1_clear_41 rfl (lv_at hl 0 rfl) ?_
        refine lv_iconst (v := 0) hx hb dX1_clear_42 (by decide) ?_
        refine pR5 hx hb hts in_X1_clear hown hK hP hD hS kX1_clear_4 dX1_clear_43 (fun H locs hP hD hS => ?_)
        refine lv_aload_n hx hb dX1_clear_46 rfl (lv_at hl 0 rfl) ?_
        refine lv_iconst (v := 1) hx hb dX1_clear_47 (by decide) ?_
        refine pR6 hx hb hts in_X1_clear hown hK hP hD hS kX1_clear_5 dX1_clear_48 (fun H locs hP hD hS => ?_)
        refine lv_aload_n hx hb dX1_clear_51 rfl (lv_at hl 0 rfl) ?_
        refine lv_iconst (v := 0) hx hb dX1_clear_52 (by decide) ?_
        refine pR7 hx hb hts in_X1_clear hown hK hP hD hS kX1_clear_6 dX1_clear_53 (fun H locs hP hD hS => ?_)
        subst hR
        exact cRv hx hb hr hlk hK hP hD hS dX1_clear_56
      · exact absurd (nI_le (a := 64) (b := n7) (by omega) (by omega)) c10
    | succ k ih =>
      intro n7 A7 H locs ls hn  hP hD hS hl hR
      rw [qX1_clear_w7] at hR
      refine lv_iload_n hx hb dX1_clear_7 rfl (lv_at hl 1 rfl) ?_
      refine lv_bipush (v := 64) hx hb dX1_clear_8 (by decide) ?_
      refine lv_icmp_ge (tgt := 26) hx hb dX1_clear_10 (by decide) (fun c10 => ?_) (fun c10 => ?_)
      · exact absurd c10 (nI_ge (a := n7) (b := 64) (by omega) (by omega))
      · skip
        refine lv_aload_n hx hb dX1_clear_13 rfl (lv_at hl 0 rfl) ?_
        refine gR hx hb hts in_X1_clear hown hK hP 1 (by decide) rfl kX1_clear_7 dX1_clear_14 ?_
        refine lv_iload_n hx hb dX1_clear_17 rfl (lv_at hl 1 rfl) ?_
        refine lv_iconst (v := 0) hx hb dX1_clear_18 (by decide) ?_
        refine sR1 hx hb hK hP hD hS (vp_in_nI (by omega) (by decide)) dX1_clear_19 (fun H locs hP hD hS => ?_)
        refine lv_iinc (v := (nI (n7 + 1))) (lv' := [(1, .int (nI (n7 + 1))), (0, .ref o)]) hx hb dX1_clear_20 hl (k := 1) rfl (nI_1 _) (by decide) rfl (fun ls hl => ?_)
        refine lv_goto (tgt := 7) hx hb dX1_clear_23 (by decide) ?_
        exact ih (n7 + 1) (ua A7 1 (Int32.toNatClampNeg (nI n7)) 0) _ _ ls (by omega) hP hD hS (lv_sub hl [1, 0] rfl) hR
  exact hw7 64 0 A _ _ ls (by omega) hP hD hS (lv_sub hl [1, 0] rfl) hR
def qX1_begin_w6 (F : Nat → Int32) : Nat → Nat → (Nat → Nat → Int32) → tFA
  | 0, n, A => ((uf F 3 15), A)
  | k + 1, n, A => (qX1_begin_w6 F k (n + 1) (ua (ua (ua (ua A 1 (Int32.toNatClampNeg (nI n)) (qX1_home (nI n))) 1 (Int32.toNatClampNeg (8 + (nI n))) 1) 1 (Int32.toNatClampNeg (48 + (nI n))) 7) 1 (Int32.toNatClampNeg (56 + (nI n))) (6 + (qX1_home (nI n)))))
def qX1_begin (F : Nat → Int32) (A : Nat → Nat → Int32)  : tFA := (qX1_begin_w6 ((qX1_clear F A).1) 8 0 ((qX1_clear F A).2))
abbrev rmX1_begin : Room := { frames := 1, cells := 0, slots := 0, locals := 21 }
theorem nX1_begin : yX1_begin.cls = RX1 ∧ yX1_begin.cls ≠ "java/lang/invoke/MethodHandle" ∧ yX1_begin.cls ≠ "java/lang/invoke/VarHandle" ∧ (parseMethodDescriptor yX1_begin.desc).map (fun d => d.parameters.length) = some 0 := by decide +kernel
theorem in_X1_begin : ∀ w ∈ wsX10, w ∈ wsX1_begin := fun w h => by
  unfold wsX1_begin
  exact List.mem_cons_of_mem _ (List.mem_append_right _ h)
theorem kX1_begin_0 : Cond.fieldLink RX1 37 "BoardModel" "rights" "I" ∈ wsX1_begin := by decide +kernel
theorem kX1_begin_1 : Cond.fieldLink RX1 7 "BoardModel" "squares" "[I" ∈ wsX1_begin := by decide +kernel
set_option maxHeartbeats 4000000 in
set_option maxRecDepth 100000 in
theorem mX1_begin (l : Launch) (D : va_G) (cI cB : ClassId) (o : Nat) (h : Nat → Nat) (F : Nat → Int32) (A : Nat → Nat → Int32)  (r0 : tFA) (hR : r0 = qX1_begin F A) : cMv l yX1_begin wsX1_begin rmX1_begin D [(cI, .int), (cB, .byte)] (wR cI cB o h F A) [.ref o] (wR cI cB o h r0.1 r0.2) := by
  intro sz
  refine cMet_of (Qc := fun AA => cQv D [(cI, .int), (cB, .byte)] (wR cI cB o h r0.1 r0.2) AA) (cc := cX1_begin) (maxL := 2) (ret := none) (by decide) rfl (Nat.le_of_ble_eq_true rfl) ?_ sz
  intro p e s m below meth c AA ls hx hb hr hts hown hml hlk hA hK hP hD hS hl
  have hown : s.vm.findClass RX1 = some m.cls := hown
  have hl : lv_has ls 2 [(0, .ref o)] := hl
  rw [qX1_begin] at hR
  refine lv_aload_n hx hb dX1_begin_0 rfl (lv_at hl 0 rfl) ?_
  refine cVv ⟨hx, hb, hml, hown, hts⟩ (mX1_clear l D cI cB o h F A  _ rfl) (cwV 0 hts gX1_begin_X1_clear rfl rfl rfl nX1_clear ⟨Nat.le_of_ble_eq_true rfl, Nat.le_of_ble_eq_true rfl⟩) (va_recv hK hP (ci := 1) (q0 := 0) rfl rfl) rfl hl.1 rfl (Nat.le_of_ble_eq_true rfl) dX1_begin_1 ⟨Nat.zero_le _, Nat.zero_le _⟩ hK hP hD hS hA (fun H locs hP hD hS => ?_)
  refine lv_iconst (v := 0) hx hb dX1_begin_4 (by decide) ?_
  refine lv_istore_n (lv' := [(1, .int 0), (0, .ref o)]) hx hb dX1_begin_5 rfl hl (by decide) rfl (fun ls hl => ?_)
  have hw6 : ∀ (k n6 : Nat) (A6 : Nat → Nat → Int32) (H : Heap) (locs : List Loc) (ls : Array Slot), n6 + k = 8 → va_P D vwCl (wR cI cB o h ((qX1_clear F A).1) A6) H → va_D AA (wR cI cB o h ((qX1_clear F A).1) A6) → va_S AA s.heap H locs → lv_has ls 2 [(0, .ref o), (1, .int (nI n6))] → r0 = qX1_begin_w6 ((qX1_clear F A).1) k n6 A6 → W p l e rmX1_begin s m [.ref o].toArray below meth c H locs 0 0 (MQ below (cQv D [(cI, .int), (cB, .byte)] (wR cI cB o h r0.1 r0.2) AA) [.ref o].toArray s 0 0 AA) (F0 m 6 ls []) := by
    intro k
    induction k with
    | zero =>
      intro n6 A6 H locs ls hn  hP hD hS hl hR
      rw [qX1_begin_w6] at hR
      refine lv_iload_n hx hb dX1_begin_6 rfl (lv_at hl 1 rfl) ?_
      refine lv_bipush (v := 8) hx hb dX1_begin_7 (by decide) ?_
      refine lv_icmp_ge (tgt := 65) hx hb dX1_begin_9 (by decide) (fun c9 => ?_) (fun c9 => ?_)
      · skip
        refine lv_aload_n hx hb dX1_begin_65 rfl (lv_at hl 0 rfl) ?_
        refine lv_bipush (v := 15) hx hb dX1_begin_66 (by decide) ?_
        refine pR3 hx hb hts in_X1_begin hown hK hP hD hS kX1_begin_0 dX1_begin_68 (fun H locs hP hD hS => ?_)
        subst hR
        exact cRv hx hb hr hlk hK hP hD hS dX1_begin_71
      · exact absurd (nI_le (a := 8) (b := n6) (by omega) (by omega)) c9
    | succ k ih =>
      intro n6 A6 H locs ls hn  hP hD hS hl hR
      rw [qX1_begin_w6] at hR
      refine lv_iload_n hx hb dX1_begin_6 rfl (lv_at hl 1 rfl) ?_
      refine lv_bipush (v := 8) hx hb dX1_begin_7 (by decide) ?_
      refine lv_icmp_ge (tgt := 65) hx hb dX1_begin_9 (by decide) (fun c9 => ?_) (fun c9 => ?_)
      · exact absurd c9 (nI_ge (a := n6) (b := 8) (by omega) (by omega))
      · skip
        refine lv_aload_n hx hb dX1_begin_12 rfl (lv_at hl 0 rfl) ?_
        refine gR hx hb hts in_X1_begin hown hK hP 1 (by decide) rfl kX1_begin_1 dX1_begin_13 ?_
        refine lv_iload_n hx hb dX1_begin_16 rfl (lv_at hl 1 rfl) ?_
        refine lv_iload_n hx hb dX1_begin_17 rfl (lv_at hl 1 rfl) ?_
        refine cSi ⟨hx, hb, hml, hown, hts⟩ (mX1_home l D (nI n6) _ rfl) (va_cwS 1 hts gX1_begin_X1_home rfl rfl rfl nX1_home ⟨Nat.le_of_ble_eq_true rfl, Nat.le_of_ble_eq_true rfl⟩) rfl hl.1 rfl (Nat.le_of_ble_eq_true rfl) dX1_begin_18 ⟨Nat.zero_le _, Nat.zero_le _⟩ hK hP hS hA (fun H locs hP hS => ?_)
        refine sR1 hx hb hK hP hD hS (vp_in_nI (by omega) (by decide)) dX1_begin_21 (fun H locs hP hD hS => ?_)
        refine lv_aload_n hx hb dX1_begin_22 rfl (lv_at hl 0 rfl) ?_
        refine gR hx hb hts in_X1_begin hown hK hP 1 (by decide) rfl kX1_begin_1 dX1_begin_23 ?_
        refine lv_bipush (v := 8) hx hb dX1_begin_26 (by decide) ?_
        refine lv_iload_n hx hb dX1_begin_28 rfl (lv_at hl 1 rfl) ?_
        refine lv_iadd hx hb dX1_begin_29 ?_
        refine lv_iconst (v := 1) hx hb dX1_begin_30 (by decide) ?_
        refine sR1 hx hb hK hP hD hS (in8 8 (by omega)) dX1_begin_31 (fun H locs hP hD hS => ?_)
        refine lv_aload_n hx hb dX1_begin_32 rfl (lv_at hl 0 rfl) ?_
        refine gR hx hb hts in_X1_begin hown hK hP 1 (by decide) rfl kX1_begin_1 dX1_begin_33 ?_
        refine lv_bipush (v := 48) hx hb dX1_begin_36 (by decide) ?_
        refine lv_iload_n hx hb dX1_begin_38 rfl (lv_at hl 1 rfl) ?_
        refine lv_iadd hx hb dX1_begin_39 ?_
        refine lv_bipush (v := 7) hx hb dX1_begin_40 (by decide) ?_
        refine sR1 hx hb hK hP hD hS (in8 48 (by omega)) dX1_begin_42 (fun H locs hP hD hS => ?_)
        refine lv_aload_n hx hb dX1_begin_43 rfl (lv_at hl 0 rfl) ?_
        refine gR hx hb hts in_X1_begin hown hK hP 1 (by decide) rfl kX1_begin_1 dX1_begin_44 ?_
        refine lv_bipush (v := 56) hx hb dX1_begin_47 (by decide) ?_
        refine lv_iload_n hx hb dX1_begin_49 rfl (lv_at hl 1 rfl) ?_
        refine lv_iadd hx hb dX1_begin_50 ?_
        refine lv_bipush (v := 6) hx hb dX1_begin_51 (by decide) ?_
        refine lv_iload_n hx hb dX1_begin_53 rfl (lv_at hl 1 rfl) ?_
        refine cSi ⟨hx, hb, hml, hown, hts⟩ (mX1_home l D (nI n6) _ rfl) (va_cwS 1 hts gX1_begin_X1_home rfl rfl rfl nX1_home ⟨Nat.le_of_ble_eq_true rfl, Nat.le_of_ble_eq_true rfl⟩) rfl hl.1 rfl (Nat.le_of_ble_eq_true rfl) dX1_begin_54 ⟨Nat.zero_le _, Nat.zero_le _⟩ hK hP hS hA (fun H locs hP hS => ?_)
        refine lv_iadd hx hb dX1_begin_57 ?_
        refine sR1 hx hb hK hP hD hS (in8 56 (by omega)) dX1_begin_58 (fun H locs hP hD hS => ?_)
        refine lv_iinc (v := (nI (n6 + 1))) (lv' := [(1, .int (nI (n6 + 1))), (0, .ref o)]) hx hb dX1_begin_59 hl (k := 1) rfl (nI_1 _) (by decide) rfl (fun ls hl => ?_)
        refine lv_goto (tgt := 6) hx hb dX1_begin_62 (by decide) ?_
        exact ih (n6 + 1) (ua (ua (ua (ua A6 1 (Int32.toNatClampNeg (nI n6)) (qX1_home (nI n6))) 1 (Int32.toNatClampNeg (8 + (nI n6))) 1) 1 (Int32.toNatClampNeg (48 + (nI n6))) 7) 1 (Int32.toNatClampNeg (56 + (nI n6))) (6 + (qX1_home (nI n6)))) _ _ ls (by omega) hP hD hS (lv_sub hl [1, 0] rfl) hR
  exact hw6 8 0 ((qX1_clear F A).2) _ _ ls (by omega) hP hD hS (lv_sub hl [1, 0] rfl) hR
def qX1_pieces_j25 (rec : Nat → (Int32) → Int32) (n : Nat) (F : Nat → Int32) (A : Nat → Nat → Int32) (s0 : Int32) (s1 : Int32) : Int32 := (rec (n + 1) (s1 + s0))
def qX1_pieces_w4 (F : Nat → Int32) (A : Nat → Nat → Int32) : Nat → Nat → (Int32) → Int32
  | 0, n, x1 => x1
  | k + 1, n, x1 => (if (A 1 (Int32.toNatClampNeg (nI n))) ≤ 0 then (qX1_pieces_j25 (qX1_pieces_w4 F A k) n F A 0 x1) else (qX1_pieces_j25 (qX1_pieces_w4 F A k) n F A 1 x1))
def qX1_pieces (F : Nat → Int32) (A : Nat → Nat → Int32)  : Int32 := (qX1_pieces_w4 F A 64 0 0)
abbrev rmX1_pieces : Room := { frames := 0, cells := 0, slots := 0, locals := 0 }
theorem nX1_pieces : yX1_pieces.cls = RX1 ∧ yX1_pieces.cls ≠ "java/lang/invoke/MethodHandle" ∧ yX1_pieces.cls ≠ "java/lang/invoke/VarHandle" ∧ (parseMethodDescriptor yX1_pieces.desc).map (fun d => d.parameters.length) = some 0 := by decide +kernel
theorem in_X1_pieces : ∀ w ∈ wsX10, w ∈ wsX1_pieces := fun w h => by
  unfold wsX1_pieces
  exact List.mem_cons_of_mem _ (List.mem_append_right _ h)
theorem kX1_pieces_0 : Cond.fieldLink RX1 7 "BoardModel" "squares" "[I" ∈ wsX1_pieces := by decide +kernel
set_option maxHeartbeats 4000000 in
set_option maxRecDepth 100000 in
theorem mX1_pieces (l : Launch) (D : va_G) (cI cB : ClassId) (o : Nat) (h : Nat → Nat) (F : Nat → Int32) (A : Nat → Nat → Int32)  (r0 : Int32) (hR : r0 = qX1_pieces F A) : cMi l yX1_pieces wsX1_pieces rmX1_pieces D [(cI, .int), (cB, .byte)] (wR cI cB o h F A) [.ref o] r0 (wR cI cB o h F A) := by
  intro sz
  refine cMet_of (Qc := fun AA => cQi D [(cI, .int), (cB, .byte)] r0 (wR cI cB o h F A) AA) (cc := cX1_pieces) (maxL := 3) (ret := (some .int)) (by decide) rfl (Nat.le_of_ble_eq_true rfl) ?_ sz
  intro p e s m below meth c AA ls hx hb hr hts hown hml hlk hA hK hP hD hS hl
  have hown : s.vm.findClass RX1 = some m.cls := hown
  have hl : lv_has ls 3 [(0, .ref o)] := hl
  rw [qX1_pieces] at hR
  refine lv_iconst (v := 0) hx hb dX1_pieces_0 (by decide) ?_
  refine lv_istore_n (lv' := [(1, .int 0), (0, .ref o)]) hx hb dX1_pieces_1 rfl hl (by decide) rfl (fun ls hl => ?_)
  refine lv_iconst (v := 0) hx hb dX1_pieces_2 (by decide) ?_
  refine lv_istore_n (lv' := [(2, .int 0), (1, .int 0), (0, .ref o)]) hx hb dX1_pieces_3 rfl hl (by decide) rfl (fun ls hl => ?_)
  have hw4 : ∀ (k n4 : Nat) (v4_1 : Int32) (H : Heap) (locs : List Loc) (ls : Array Slot), n4 + k = 64 → va_P D vwCl (wR cI cB o h F A) H → va_D AA (wR cI cB o h F A) → va_S AA s.heap H locs → lv_has ls 3 [(0, .ref o), (1, .int v4_1), (2, .int (nI n4))] → r0 = qX1_pieces_w4 F A k n4 v4_1 → W p l e rmX1_pieces s m [.ref o].toArray below meth c H locs 0 0 (MQ below (cQi D [(cI, .int), (cB, .byte)] r0 (wR cI cB o h F A) AA) [.ref o].toArray s 0 0 AA) (F0 m 4 ls []) := by
    intro k
    induction k with
    | zero =>
      intro n4 v4_1 H locs ls hn  hP hD hS hl hR
      rw [qX1_pieces_w4] at hR
      refine lv_iload_n hx hb dX1_pieces_4 rfl (lv_at hl 2 rfl) ?_
      refine lv_bipush (v := 64) hx hb dX1_pieces_5 (by decide) ?_
      refine lv_icmp_ge (tgt := 33) hx hb dX1_pieces_7 (by decide) (fun c7 => ?_) (fun c7 => ?_)
      · skip
        refine lv_iload_n hx hb dX1_pieces_33 rfl (lv_at hl 1 rfl) ?_
        exact cRi hx hb hr hlk hK hP hD hS hR.symm dX1_pieces_34
      · exact absurd (nI_le (a := 64) (b := n4) (by omega) (by omega)) c7
    | succ k ih =>
      intro n4 v4_1 H locs ls hn  hP hD hS hl hR
      rw [qX1_pieces_w4] at hR
      refine lv_iload_n hx hb dX1_pieces_4 rfl (lv_at hl 2 rfl) ?_
      refine lv_bipush (v := 64) hx hb dX1_pieces_5 (by decide) ?_
      refine lv_icmp_ge (tgt := 33) hx hb dX1_pieces_7 (by decide) (fun c7 => ?_) (fun c7 => ?_)
      · exact absurd c7 (nI_ge (a := n4) (b := 64) (by omega) (by omega))
      · skip
        refine lv_iload_n hx hb dX1_pieces_10 rfl (lv_at hl 1 rfl) ?_
        refine lv_aload_n hx hb dX1_pieces_11 rfl (lv_at hl 0 rfl) ?_
        refine gR hx hb hts in_X1_pieces hown hK hP 1 (by decide) rfl kX1_pieces_0 dX1_pieces_12 ?_
        refine lv_iload_n hx hb dX1_pieces_15 rfl (lv_at hl 2 rfl) ?_
        refine va_iald (f := A 1) hx hb hK hP 1 0 rfl rfl (vp_in_nI (by omega) (by decide)) dX1_pieces_16 ?_
        have hj25 : ∀ (s25_0 : Int32) (H : Heap) (locs : List Loc) (ls : Array Slot), va_P D vwCl (wR cI cB o h F A) H → va_D AA (wR cI cB o h F A) → va_S AA s.heap H locs → lv_has ls 3 [(0, .ref o), (2, .int (nI n4))] → r0 = qX1_pieces_j25 (qX1_pieces_w4 F A k) n4 F A s25_0 v4_1 → W p l e rmX1_pieces s m [.ref o].toArray below meth c H locs 0 0 (MQ below (cQi D [(cI, .int), (cB, .byte)] r0 (wR cI cB o h F A) AA) [.ref o].toArray s 0 0 AA) (F0 m 25 ls [.int s25_0, .int v4_1]) := by
          intro s25_0 H locs ls  hP hD hS hl hR
          rw [qX1_pieces_j25] at hR
          refine lv_iadd hx hb dX1_pieces_25 ?_
          refine lv_istore_n (lv' := [(1, .int (v4_1 + s25_0)), (0, .ref o), (2, .int (nI n4))]) hx hb dX1_pieces_26 rfl hl (by decide) rfl (fun ls hl => ?_)
          refine lv_iinc (v := (nI (n4 + 1))) (lv' := [(2, .int (nI (n4 + 1))), (1, .int (v4_1 + s25_0)), (0, .ref o)]) hx hb dX1_pieces_27 hl (k := 2) rfl (nI_1 _) (by decide) rfl (fun ls hl => ?_)
          refine lv_goto (tgt := 4) hx hb dX1_pieces_30 (by decide) ?_
          exact ih (n4 + 1) (v4_1 + s25_0) _ _ ls (by omega) hP hD hS (lv_sub hl [2, 1, 0] rfl) hR
        refine lv_if_le (tgt := 24) hx hb dX1_pieces_17 (by decide) (fun c17 => ?_) (fun c17 => ?_)
        · have hR := hR.trans (if_pos c17)
          refine lv_iconst (v := 0) hx hb dX1_pieces_24 (by decide) ?_
          exact hj25 0 _ _ ls hP hD hS (lv_sub hl [0, 2] rfl) hR
        · have hR := hR.trans (if_neg c17)
          refine lv_iconst (v := 1) hx hb dX1_pieces_20 (by decide) ?_
          refine lv_goto (tgt := 25) hx hb dX1_pieces_21 (by decide) ?_
          exact hj25 1 _ _ ls hP hD hS (lv_sub hl [0, 2] rfl) hR
  exact hw4 64 0 0 _ _ ls (by omega) hP hD hS (lv_sub hl [2, 1, 0] rfl) hR
def qX1_put_j66 (F : Nat → Int32) (A : Nat → Nat → Int32) (x1 : Int32) (x2 : Int32) (s0 : Int32) : tFA := (if s0 ≤ 0 then ((uf (uf F 0 s0) 7 0), (ua A 1 (Int32.toNatClampNeg x1) x2)) else ((uf F 0 s0), A))
def qX1_put_j27 (F : Nat → Int32) (A : Nat → Nat → Int32) (x1 : Int32) (x2 : Int32) (s0 : Int32) : tFA := (if s0 ≤ 0 then (if x2 ≤ 0 then (qX1_put_j66 (uf F 0 s0) A x1 x2 0) else (if ¬ (A 1 (Int32.toNatClampNeg x1)) = 0 then (qX1_put_j66 (uf F 0 s0) A x1 x2 0) else (if ¬ (qX1_pieces (uf F 0 s0) A) = 32 then (qX1_put_j66 (uf F 0 s0) A x1 x2 0) else (qX1_put_j66 (uf F 0 s0) A x1 x2 3)))) else ((uf F 0 s0), A))
def qX1_put (F : Nat → Int32) (A : Nat → Nat → Int32) (p1 : Int32) (p2 : Int32) : tFA := (if ¬ (qX1_isSquare p1) = 0 then (if p2 < 0 then (qX1_put_j27 F A p1 p2 2) else (if p2 ≤ 12 then (qX1_put_j27 F A p1 p2 0) else (qX1_put_j27 F A p1 p2 2))) else (qX1_put_j27 F A p1 p2 1))
abbrev rmX1_put : Room := { frames := 1, cells := 0, slots := 0, locals := 22 }
theorem nX1_put : yX1_put.cls = RX1 ∧ yX1_put.cls ≠ "java/lang/invoke/MethodHandle" ∧ yX1_put.cls ≠ "java/lang/invoke/VarHandle" ∧ (parseMethodDescriptor yX1_put.desc).map (fun d => d.parameters.length) = some 2 := by decide +kernel
theorem in_X1_put : ∀ w ∈ wsX10, w ∈ wsX1_put := fun w h => by
  unfold wsX1_put
  exact List.mem_cons_of_mem _ (List.mem_append_right _ h)
theorem kX1_put_0 : Cond.fieldLink RX1 31 "BoardModel" "thrown" "I" ∈ wsX1_put := by decide +kernel
theorem kX1_put_1 : Cond.fieldLink RX1 7 "BoardModel" "squares" "[I" ∈ wsX1_put := by decide +kernel
theorem kX1_put_2 : Cond.fieldLink RX1 43 "BoardModel" "made" "I" ∈ wsX1_put := by decide +kernel
set_option maxHeartbeats 4000000 in
set_option maxRecDepth 100000 in
theorem mX1_put (l : Launch) (D : va_G) (cI cB : ClassId) (o : Nat) (h : Nat → Nat) (F : Nat → Int32) (A : Nat → Nat → Int32) (p1 : Int32) (p2 : Int32) (r0 : tFA) (hR : r0 = qX1_put F A p1 p2) : cMv l yX1_put wsX1_put rmX1_put D [(cI, .int), (cB, .byte)] (wR cI cB o h F A) [.ref o, .int p1, .int p2] (wR cI cB o h r0.1 r0.2) := by
  intro sz
  refine cMet_of (Qc := fun AA => cQv D [(cI, .int), (cB, .byte)] (wR cI cB o h r0.1 r0.2) AA) (cc := cX1_put) (maxL := 3) (ret := none) (by decide) rfl (Nat.le_of_ble_eq_true rfl) ?_ sz
  intro p e s m below meth c AA ls hx hb hr hts hown hml hlk hA hK hP hD hS hl
  have hown : s.vm.findClass RX1 = some m.cls := hown
  have hl : lv_has ls 3 [(0, .ref o), (1, .int p1), (2, .int p2)] := hl
  rw [qX1_put] at hR
  refine lv_aload_n hx hb dX1_put_0 rfl (lv_at hl 0 rfl) ?_
  refine lv_iload_n hx hb dX1_put_1 rfl (lv_at hl 1 rfl) ?_
  refine cSi ⟨hx, hb, hml, hown, hts⟩ (mX1_isSquare l D p1 _ rfl) (va_cwS 1 hts gX1_put_X1_isSquare rfl rfl rfl nX1_isSquare ⟨Nat.le_of_ble_eq_true rfl, Nat.le_of_ble_eq_true rfl⟩) rfl hl.1 rfl (Nat.le_of_ble_eq_true rfl) dX1_put_2 ⟨Nat.zero_le _, Nat.zero_le _⟩ hK hP hS hA (fun H locs hP hS => ?_)
  have hj27 : ∀ (s27_0 : Int32) (H : Heap) (locs : List Loc) (ls : Array Slot), (s27_0 ≤ 0 → vp_in p1 64) → va_P D vwCl (wR cI cB o h F A) H → va_D AA (wR cI cB o h F A) → va_S AA s.heap H locs → lv_has ls 3 [(0, .ref o), (1, .int p1), (2, .int p2)] → r0 = qX1_put_j27 F A p1 p2 s27_0 → W p l e rmX1_put s m [.ref o, .int p1, .int p2].toArray below meth c H locs 0 0 (MQ below (cQv D [(cI, .int), (cB, .byte)] (wR cI cB o h r0.1 r0.2) AA) [.ref o, .int p1, .int p2].toArray s 0 0 AA) (F0 m 27 ls [.int s27_0, .ref o]) := by
    intro s27_0 H locs ls h27 hP hD hS hl hR
    rw [qX1_put_j27] at hR
    refine pR0 hx hb hts in_X1_put hown hK hP hD hS kX1_put_0 dX1_put_27 (fun H locs hP hD hS => ?_)
    refine lv_aload_n hx hb dX1_put_30 rfl (lv_at hl 0 rfl) ?_
    refine gR hx hb hts in_X1_put hown hK hP 0 (by decide) rfl kX1_put_0 dX1_put_31 ?_
    refine lv_if_le (tgt := 38) hx hb dX1_put_34 (by decide) (fun c34 => ?_) (fun c34 => ?_)
    · have hR := hR.trans (if_pos c34)
      refine lv_aload_n hx hb dX1_put_38 rfl (lv_at hl 0 rfl) ?_
      refine lv_iload_n hx hb dX1_put_39 rfl (lv_at hl 2 rfl) ?_
      have hj66 : ∀ (s66_0 : Int32) (H : Heap) (locs : List Loc) (ls : Array Slot), va_P D vwCl (wR cI cB o h (uf F 0 s27_0) A) H → va_D AA (wR cI cB o h (uf F 0 s27_0) A) → va_S AA s.heap H locs → lv_has ls 3 [(0, .ref o), (1, .int p1), (2, .int p2)] → r0 = qX1_put_j66 (uf F 0 s27_0) A p1 p2 s66_0 → W p l e rmX1_put s m [.ref o, .int p1, .int p2].toArray below meth c H locs 0 0 (MQ below (cQv D [(cI, .int), (cB, .byte)] (wR cI cB o h r0.1 r0.2) AA) [.ref o, .int p1, .int p2].toArray s 0 0 AA) (F0 m 66 ls [.int s66_0, .ref o]) := by
        intro s66_0 H locs ls  hP hD hS hl hR
        rw [qX1_put_j66] at hR
        refine pR0 hx hb hts in_X1_put hown hK hP hD hS kX1_put_0 dX1_put_66 (fun H locs hP hD hS => ?_)
        refine lv_aload_n hx hb dX1_put_69 rfl (lv_at hl 0 rfl) ?_
        refine gR hx hb hts in_X1_put hown hK hP 0 (by decide) rfl kX1_put_0 dX1_put_70 ?_
        refine lv_if_le (tgt := 77) hx hb dX1_put_73 (by decide) (fun c73 => ?_) (fun c73 => ?_)
        · have hR := hR.trans (if_pos c73)
          refine lv_aload_n hx hb dX1_put_77 rfl (lv_at hl 0 rfl) ?_
          refine gR hx hb hts in_X1_put hown hK hP 1 (by decide) rfl kX1_put_1 dX1_put_78 ?_
          refine lv_iload_n hx hb dX1_put_81 rfl (lv_at hl 1 rfl) ?_
          refine lv_iload_n hx hb dX1_put_82 rfl (lv_at hl 2 rfl) ?_
          refine sR1 hx hb hK hP hD hS (h27 c34) dX1_put_83 (fun H locs hP hD hS => ?_)
          refine lv_aload_n hx hb dX1_put_84 rfl (lv_at hl 0 rfl) ?_
          refine lv_iconst (v := 0) hx hb dX1_put_85 (by decide) ?_
          refine pR7 hx hb hts in_X1_put hown hK hP hD hS kX1_put_2 dX1_put_86 (fun H locs hP hD hS => ?_)
          subst hR
          exact cRv hx hb hr hlk hK hP hD hS dX1_put_89
        · have hR := hR.trans (if_neg c73)
          subst hR
          exact cRv hx hb hr hlk hK hP hD hS dX1_put_76
      refine lv_if_le (tgt := 65) hx hb dX1_put_40 (by decide) (fun c40 => ?_) (fun c40 => ?_)
      · have hR := hR.trans (if_pos c40)
        refine lv_iconst (v := 0) hx hb dX1_put_65 (by decide) ?_
        exact hj66 0 _ _ ls hP hD hS (lv_sub hl [0, 1, 2] rfl) hR
      · have hR := hR.trans (if_neg c40)
        refine lv_aload_n hx hb dX1_put_43 rfl (lv_at hl 0 rfl) ?_
        refine gR hx hb hts in_X1_put hown hK hP 1 (by decide) rfl kX1_put_1 dX1_put_44 ?_
        refine lv_iload_n hx hb dX1_put_47 rfl (lv_at hl 1 rfl) ?_
        refine va_iald (f := A 1) hx hb hK hP 1 0 rfl rfl (h27 c34) dX1_put_48 ?_
        refine lv_if_ne (tgt := 65) hx hb dX1_put_49 (by decide) (fun c49 => ?_) (fun c49 => ?_)
        · have hR := hR.trans (if_pos c49)
          refine lv_iconst (v := 0) hx hb dX1_put_65 (by decide) ?_
          exact hj66 0 _ _ ls hP hD hS (lv_sub hl [0, 1, 2] rfl) hR
        · have hR := hR.trans (if_neg (fun z => z c49))
          refine lv_aload_n hx hb dX1_put_52 rfl (lv_at hl 0 rfl) ?_
          refine cVi ⟨hx, hb, hml, hown, hts⟩ (mX1_pieces l D cI cB o h (uf F 0 s27_0) A  _ rfl) (cwV 0 hts gX1_put_X1_pieces rfl rfl rfl nX1_pieces ⟨Nat.le_of_ble_eq_true rfl, Nat.le_of_ble_eq_true rfl⟩) (va_recv hK hP (ci := 1) (q0 := 0) rfl rfl) rfl hl.1 rfl (Nat.le_of_ble_eq_true rfl) dX1_put_53 ⟨Nat.zero_le _, Nat.zero_le _⟩ hK hP hD hS hA (fun H locs hP hD hS => ?_)
          refine lv_bipush (v := 32) hx hb dX1_put_56 (by decide) ?_
          refine lv_icmp_ne (tgt := 65) hx hb dX1_put_58 (by decide) (fun c58 => ?_) (fun c58 => ?_)
          · have hR := hR.trans (if_pos c58)
            refine lv_iconst (v := 0) hx hb dX1_put_65 (by decide) ?_
            exact hj66 0 _ _ ls hP hD hS (lv_sub hl [0, 1, 2] rfl) hR
          · have hR := hR.trans (if_neg (fun z => z c58))
            refine lv_iconst (v := 3) hx hb dX1_put_61 (by decide) ?_
            refine lv_goto (tgt := 66) hx hb dX1_put_62 (by decide) ?_
            exact hj66 3 _ _ ls hP hD hS (lv_sub hl [0, 1, 2] rfl) hR
    · have hR := hR.trans (if_neg c34)
      subst hR
      exact cRv hx hb hr hlk hK hP hD hS dX1_put_37
  refine lv_if_ne (tgt := 12) hx hb dX1_put_5 (by decide) (fun c5 => ?_) (fun c5 => ?_)
  · have hR := hR.trans (if_pos c5)
    refine lv_iload_n hx hb dX1_put_12 rfl (lv_at hl 2 rfl) ?_
    refine lv_if_lt (tgt := 22) hx hb dX1_put_13 (by decide) (fun c13 => ?_) (fun c13 => ?_)
    · have hR := hR.trans (if_pos c13)
      refine lv_iconst (v := 2) hx hb dX1_put_22 (by decide) ?_
      refine lv_goto (tgt := 27) hx hb dX1_put_23 (by decide) ?_
      exact hj27 2 _ _ ls ((by first | (intro z; exact absurd z (by decide)) | (intro _; exact inSq1 c5))) hP hD hS (lv_sub hl [0, 1, 2] rfl) hR
    · have hR := hR.trans (if_neg c13)
      refine lv_iload_n hx hb dX1_put_16 rfl (lv_at hl 2 rfl) ?_
      refine lv_bipush (v := 12) hx hb dX1_put_17 (by decide) ?_
      refine lv_icmp_le (tgt := 26) hx hb dX1_put_19 (by decide) (fun c19 => ?_) (fun c19 => ?_)
      · have hR := hR.trans (if_pos c19)
        refine lv_iconst (v := 0) hx hb dX1_put_26 (by decide) ?_
        exact hj27 0 _ _ ls ((by first | (intro z; exact absurd z (by decide)) | (intro _; exact inSq1 c5))) hP hD hS (lv_sub hl [0, 1, 2] rfl) hR
      · have hR := hR.trans (if_neg c19)
        refine lv_iconst (v := 2) hx hb dX1_put_22 (by decide) ?_
        refine lv_goto (tgt := 27) hx hb dX1_put_23 (by decide) ?_
        exact hj27 2 _ _ ls ((by first | (intro z; exact absurd z (by decide)) | (intro _; exact inSq1 c5))) hP hD hS (lv_sub hl [0, 1, 2] rfl) hR
  · have hR := hR.trans (if_neg (fun z => z c5))
    refine lv_iconst (v := 1) hx hb dX1_put_8 (by decide) ?_
    refine lv_goto (tgt := 27) hx hb dX1_put_9 (by decide) ?_
    exact hj27 1 _ _ ls ((by first | (intro z; exact absurd z (by decide)) | (intro _; exact inSq1 c5))) hP hD hS (lv_sub hl [0, 1, 2] rfl) hR
def qX1_state_j36 (F : Nat → Int32) (A : Nat → Nat → Int32) (x1 : Int32) (x2 : Int32) (x3 : Int32) (s0 : Int32) : tFA := (if s0 ≤ 0 then ((uf (uf (uf (uf (uf F 0 s0) 2 x1) 3 x2) 4 x3) 7 0), A) else ((uf F 0 s0), A))
def qX1_state (F : Nat → Int32) (A : Nat → Nat → Int32) (p1 : Int32) (p2 : Int32) (p3 : Int32) : tFA := (if p1 < 0 then (qX1_state_j36 F A p1 p2 p3 1) else (if 1 < p1 then (qX1_state_j36 F A p1 p2 p3 1) else (if p2 < 0 then (qX1_state_j36 F A p1 p2 p3 1) else (if 15 < p2 then (qX1_state_j36 F A p1 p2 p3 1) else (if p3 < (-1) then (qX1_state_j36 F A p1 p2 p3 1) else (if p3 ≤ 63 then (qX1_state_j36 F A p1 p2 p3 0) else (qX1_state_j36 F A p1 p2 p3 1)))))))
abbrev rmX1_state : Room := { frames := 0, cells := 0, slots := 0, locals := 0 }
theorem nX1_state : yX1_state.cls = RX1 ∧ yX1_state.cls ≠ "java/lang/invoke/MethodHandle" ∧ yX1_state.cls ≠ "java/lang/invoke/VarHandle" ∧ (parseMethodDescriptor yX1_state.desc).map (fun d => d.parameters.length) = some 3 := by decide +kernel
theorem in_X1_state : ∀ w ∈ wsX10, w ∈ wsX1_state := fun w h => by
  unfold wsX1_state
  exact List.mem_cons_of_mem _ (List.mem_append_right _ h)
theorem kX1_state_0 : Cond.fieldLink RX1 31 "BoardModel" "thrown" "I" ∈ wsX1_state := by decide +kernel
theorem kX1_state_1 : Cond.fieldLink RX1 34 "BoardModel" "side" "I" ∈ wsX1_state := by decide +kernel
theorem kX1_state_2 : Cond.fieldLink RX1 37 "BoardModel" "rights" "I" ∈ wsX1_state := by decide +kernel
theorem kX1_state_3 : Cond.fieldLink RX1 13 "BoardModel" "passing" "I" ∈ wsX1_state := by decide +kernel
theorem kX1_state_4 : Cond.fieldLink RX1 43 "BoardModel" "made" "I" ∈ wsX1_state := by decide +kernel
set_option maxHeartbeats 4000000 in
set_option maxRecDepth 100000 in
theorem mX1_state (l : Launch) (D : va_G) (cI cB : ClassId) (o : Nat) (h : Nat → Nat) (F : Nat → Int32) (A : Nat → Nat → Int32) (p1 : Int32) (p2 : Int32) (p3 : Int32) (r0 : tFA) (hR : r0 = qX1_state F A p1 p2 p3) : cMv l yX1_state wsX1_state rmX1_state D [(cI, .int), (cB, .byte)] (wR cI cB o h F A) [.ref o, .int p1, .int p2, .int p3] (wR cI cB o h r0.1 r0.2) := by
  intro sz
  refine cMet_of (Qc := fun AA => cQv D [(cI, .int), (cB, .byte)] (wR cI cB o h r0.1 r0.2) AA) (cc := cX1_state) (maxL := 4) (ret := none) (by decide) rfl (Nat.le_of_ble_eq_true rfl) ?_ sz
  intro p e s m below meth c AA ls hx hb hr hts hown hml hlk hA hK hP hD hS hl
  have hown : s.vm.findClass RX1 = some m.cls := hown
  have hl : lv_has ls 4 [(0, .ref o), (1, .int p1), (2, .int p2), (3, .int p3)] := hl
  rw [qX1_state] at hR
  refine lv_aload_n hx hb dX1_state_0 rfl (lv_at hl 0 rfl) ?_
  refine lv_iload_n hx hb dX1_state_1 rfl (lv_at hl 1 rfl) ?_
  have hj36 : ∀ (s36_0 : Int32) (H : Heap) (locs : List Loc) (ls : Array Slot), va_P D vwCl (wR cI cB o h F A) H → va_D AA (wR cI cB o h F A) → va_S AA s.heap H locs → lv_has ls 4 [(0, .ref o), (1, .int p1), (2, .int p2), (3, .int p3)] → r0 = qX1_state_j36 F A p1 p2 p3 s36_0 → W p l e rmX1_state s m [.ref o, .int p1, .int p2, .int p3].toArray below meth c H locs 0 0 (MQ below (cQv D [(cI, .int), (cB, .byte)] (wR cI cB o h r0.1 r0.2) AA) [.ref o, .int p1, .int p2, .int p3].toArray s 0 0 AA) (F0 m 36 ls [.int s36_0, .ref o]) := by
    intro s36_0 H locs ls  hP hD hS hl hR
    rw [qX1_state_j36] at hR
    refine pR0 hx hb hts in_X1_state hown hK hP hD hS kX1_state_0 dX1_state_36 (fun H locs hP hD hS => ?_)
    refine lv_aload_n hx hb dX1_state_39 rfl (lv_at hl 0 rfl) ?_
    refine gR hx hb hts in_X1_state hown hK hP 0 (by decide) rfl kX1_state_0 dX1_state_40 ?_
    refine lv_if_le (tgt := 47) hx hb dX1_state_43 (by decide) (fun c43 => ?_) (fun c43 => ?_)
    · have hR := hR.trans (if_pos c43)
      refine lv_aload_n hx hb dX1_state_47 rfl (lv_at hl 0 rfl) ?_
      refine lv_iload_n hx hb dX1_state_48 rfl (lv_at hl 1 rfl) ?_
      refine pR2 hx hb hts in_X1_state hown hK hP hD hS kX1_state_1 dX1_state_49 (fun H locs hP hD hS => ?_)
      refine lv_aload_n hx hb dX1_state_52 rfl (lv_at hl 0 rfl) ?_
      refine lv_iload_n hx hb dX1_state_53 rfl (lv_at hl 2 rfl) ?_
      refine pR3 hx hb hts in_X1_state hown hK hP hD hS kX1_state_2 dX1_state_54 (fun H locs hP hD hS => ?_)
      refine lv_aload_n hx hb dX1_state_57 rfl (lv_at hl 0 rfl) ?_
      refine lv_iload_n hx hb dX1_state_58 rfl (lv_at hl 3 rfl) ?_
      refine pR4 hx hb hts in_X1_state hown hK hP hD hS kX1_state_3 dX1_state_59 (fun H locs hP hD hS => ?_)
      refine lv_aload_n hx hb dX1_state_62 rfl (lv_at hl 0 rfl) ?_
      refine lv_iconst (v := 0) hx hb dX1_state_63 (by decide) ?_
      refine pR7 hx hb hts in_X1_state hown hK hP hD hS kX1_state_4 dX1_state_64 (fun H locs hP hD hS => ?_)
      subst hR
      exact cRv hx hb hr hlk hK hP hD hS dX1_state_67
    · have hR := hR.trans (if_neg c43)
      subst hR
      exact cRv hx hb hr hlk hK hP hD hS dX1_state_46
  refine lv_if_lt (tgt := 31) hx hb dX1_state_2 (by decide) (fun c2 => ?_) (fun c2 => ?_)
  · have hR := hR.trans (if_pos c2)
    refine lv_iconst (v := 1) hx hb dX1_state_31 (by decide) ?_
    refine lv_goto (tgt := 36) hx hb dX1_state_32 (by decide) ?_
    exact hj36 1 _ _ ls hP hD hS (lv_sub hl [0, 1, 2, 3] rfl) hR
  · have hR := hR.trans (if_neg c2)
    refine lv_iload_n hx hb dX1_state_5 rfl (lv_at hl 1 rfl) ?_
    refine lv_iconst (v := 1) hx hb dX1_state_6 (by decide) ?_
    refine lv_icmp_gt (tgt := 31) hx hb dX1_state_7 (by decide) (fun c7 => ?_) (fun c7 => ?_)
    · have hR := hR.trans (if_pos c7)
      refine lv_iconst (v := 1) hx hb dX1_state_31 (by decide) ?_
      refine lv_goto (tgt := 36) hx hb dX1_state_32 (by decide) ?_
      exact hj36 1 _ _ ls hP hD hS (lv_sub hl [0, 1, 2, 3] rfl) hR
    · have hR := hR.trans (if_neg c7)
      refine lv_iload_n hx hb dX1_state_10 rfl (lv_at hl 2 rfl) ?_
      refine lv_if_lt (tgt := 31) hx hb dX1_state_11 (by decide) (fun c11 => ?_) (fun c11 => ?_)
      · have hR := hR.trans (if_pos c11)
        refine lv_iconst (v := 1) hx hb dX1_state_31 (by decide) ?_
        refine lv_goto (tgt := 36) hx hb dX1_state_32 (by decide) ?_
        exact hj36 1 _ _ ls hP hD hS (lv_sub hl [0, 1, 2, 3] rfl) hR
      · have hR := hR.trans (if_neg c11)
        refine lv_iload_n hx hb dX1_state_14 rfl (lv_at hl 2 rfl) ?_
        refine lv_bipush (v := 15) hx hb dX1_state_15 (by decide) ?_
        refine lv_icmp_gt (tgt := 31) hx hb dX1_state_17 (by decide) (fun c17 => ?_) (fun c17 => ?_)
        · have hR := hR.trans (if_pos c17)
          refine lv_iconst (v := 1) hx hb dX1_state_31 (by decide) ?_
          refine lv_goto (tgt := 36) hx hb dX1_state_32 (by decide) ?_
          exact hj36 1 _ _ ls hP hD hS (lv_sub hl [0, 1, 2, 3] rfl) hR
        · have hR := hR.trans (if_neg c17)
          refine lv_iload_n hx hb dX1_state_20 rfl (lv_at hl 3 rfl) ?_
          refine lv_iconst (v := (-1)) hx hb dX1_state_21 (by decide) ?_
          refine lv_icmp_lt (tgt := 31) hx hb dX1_state_22 (by decide) (fun c22 => ?_) (fun c22 => ?_)
          · have hR := hR.trans (if_pos c22)
            refine lv_iconst (v := 1) hx hb dX1_state_31 (by decide) ?_
            refine lv_goto (tgt := 36) hx hb dX1_state_32 (by decide) ?_
            exact hj36 1 _ _ ls hP hD hS (lv_sub hl [0, 1, 2, 3] rfl) hR
          · have hR := hR.trans (if_neg c22)
            refine lv_iload_n hx hb dX1_state_25 rfl (lv_at hl 3 rfl) ?_
            refine lv_bipush (v := 63) hx hb dX1_state_26 (by decide) ?_
            refine lv_icmp_le (tgt := 35) hx hb dX1_state_28 (by decide) (fun c28 => ?_) (fun c28 => ?_)
            · have hR := hR.trans (if_pos c28)
              refine lv_iconst (v := 0) hx hb dX1_state_35 (by decide) ?_
              exact hj36 0 _ _ ls hP hD hS (lv_sub hl [0, 1, 2, 3] rfl) hR
            · have hR := hR.trans (if_neg c28)
              refine lv_iconst (v := 1) hx hb dX1_state_31 (by decide) ?_
              refine lv_goto (tgt := 36) hx hb dX1_state_32 (by decide) ?_
              exact hj36 1 _ _ ls hP hD hS (lv_sub hl [0, 1, 2, 3] rfl) hR
def qX1_clocks_j29 (F : Nat → Int32) (A : Nat → Nat → Int32) (x1 : Int32) (x2 : Int32) (s0 : Int32) : tFA := (if s0 ≤ 0 then ((uf (uf (uf (uf F 0 s0) 5 x1) 6 x2) 7 0), A) else ((uf F 0 s0), A))
def qX1_clocks (F : Nat → Int32) (A : Nat → Nat → Int32) (p1 : Int32) (p2 : Int32) : tFA := (if p1 < 0 then (qX1_clocks_j29 F A p1 p2 1) else (if 9999 < p1 then (qX1_clocks_j29 F A p1 p2 1) else (if p2 < 1 then (qX1_clocks_j29 F A p1 p2 1) else (if p2 ≤ 9999 then (qX1_clocks_j29 F A p1 p2 0) else (qX1_clocks_j29 F A p1 p2 1)))))
abbrev rmX1_clocks : Room := { frames := 0, cells := 0, slots := 0, locals := 0 }
theorem nX1_clocks : yX1_clocks.cls = RX1 ∧ yX1_clocks.cls ≠ "java/lang/invoke/MethodHandle" ∧ yX1_clocks.cls ≠ "java/lang/invoke/VarHandle" ∧ (parseMethodDescriptor yX1_clocks.desc).map (fun d => d.parameters.length) = some 2 := by decide +kernel
theorem in_X1_clocks : ∀ w ∈ wsX10, w ∈ wsX1_clocks := fun w h => by
  unfold wsX1_clocks
  exact List.mem_cons_of_mem _ (List.mem_append_right _ h)
theorem kX1_clocks_0 : Cond.fieldLink RX1 31 "BoardModel" "thrown" "I" ∈ wsX1_clocks := by decide +kernel
theorem kX1_clocks_1 : Cond.fieldLink RX1 40 "BoardModel" "half" "I" ∈ wsX1_clocks := by decide +kernel
theorem kX1_clocks_2 : Cond.fieldLink RX1 17 "BoardModel" "full" "I" ∈ wsX1_clocks := by decide +kernel
theorem kX1_clocks_3 : Cond.fieldLink RX1 43 "BoardModel" "made" "I" ∈ wsX1_clocks := by decide +kernel
set_option maxHeartbeats 4000000 in
set_option maxRecDepth 100000 in
theorem mX1_clocks (l : Launch) (D : va_G) (cI cB : ClassId) (o : Nat) (h : Nat → Nat) (F : Nat → Int32) (A : Nat → Nat → Int32) (p1 : Int32) (p2 : Int32) (r0 : tFA) (hR : r0 = qX1_clocks F A p1 p2) : cMv l yX1_clocks wsX1_clocks rmX1_clocks D [(cI, .int), (cB, .byte)] (wR cI cB o h F A) [.ref o, .int p1, .int p2] (wR cI cB o h r0.1 r0.2) := by
  intro sz
  refine cMet_of (Qc := fun AA => cQv D [(cI, .int), (cB, .byte)] (wR cI cB o h r0.1 r0.2) AA) (cc := cX1_clocks) (maxL := 3) (ret := none) (by decide) rfl (Nat.le_of_ble_eq_true rfl) ?_ sz
  intro p e s m below meth c AA ls hx hb hr hts hown hml hlk hA hK hP hD hS hl
  have hown : s.vm.findClass RX1 = some m.cls := hown
  have hl : lv_has ls 3 [(0, .ref o), (1, .int p1), (2, .int p2)] := hl
  rw [qX1_clocks] at hR
  refine lv_aload_n hx hb dX1_clocks_0 rfl (lv_at hl 0 rfl) ?_
  refine lv_iload_n hx hb dX1_clocks_1 rfl (lv_at hl 1 rfl) ?_
  have hj29 : ∀ (s29_0 : Int32) (H : Heap) (locs : List Loc) (ls : Array Slot), va_P D vwCl (wR cI cB o h F A) H → va_D AA (wR cI cB o h F A) → va_S AA s.heap H locs → lv_has ls 3 [(0, .ref o), (1, .int p1), (2, .int p2)] → r0 = qX1_clocks_j29 F A p1 p2 s29_0 → W p l e rmX1_clocks s m [.ref o, .int p1, .int p2].toArray below meth c H locs 0 0 (MQ below (cQv D [(cI, .int), (cB, .byte)] (wR cI cB o h r0.1 r0.2) AA) [.ref o, .int p1, .int p2].toArray s 0 0 AA) (F0 m 29 ls [.int s29_0, .ref o]) := by
    intro s29_0 H locs ls  hP hD hS hl hR
    rw [qX1_clocks_j29] at hR
    refine pR0 hx hb hts in_X1_clocks hown hK hP hD hS kX1_clocks_0 dX1_clocks_29 (fun H locs hP hD hS => ?_)
    refine lv_aload_n hx hb dX1_clocks_32 rfl (lv_at hl 0 rfl) ?_
    refine gR hx hb hts in_X1_clocks hown hK hP 0 (by decide) rfl kX1_clocks_0 dX1_clocks_33 ?_
    refine lv_if_le (tgt := 40) hx hb dX1_clocks_36 (by decide) (fun c36 => ?_) (fun c36 => ?_)
    · have hR := hR.trans (if_pos c36)
      refine lv_aload_n hx hb dX1_clocks_40 rfl (lv_at hl 0 rfl) ?_
      refine lv_iload_n hx hb dX1_clocks_41 rfl (lv_at hl 1 rfl) ?_
      refine pR5 hx hb hts in_X1_clocks hown hK hP hD hS kX1_clocks_1 dX1_clocks_42 (fun H locs hP hD hS => ?_)
      refine lv_aload_n hx hb dX1_clocks_45 rfl (lv_at hl 0 rfl) ?_
      refine lv_iload_n hx hb dX1_clocks_46 rfl (lv_at hl 2 rfl) ?_
      refine pR6 hx hb hts in_X1_clocks hown hK hP hD hS kX1_clocks_2 dX1_clocks_47 (fun H locs hP hD hS => ?_)
      refine lv_aload_n hx hb dX1_clocks_50 rfl (lv_at hl 0 rfl) ?_
      refine lv_iconst (v := 0) hx hb dX1_clocks_51 (by decide) ?_
      refine pR7 hx hb hts in_X1_clocks hown hK hP hD hS kX1_clocks_3 dX1_clocks_52 (fun H locs hP hD hS => ?_)
      subst hR
      exact cRv hx hb hr hlk hK hP hD hS dX1_clocks_55
    · have hR := hR.trans (if_neg c36)
      subst hR
      exact cRv hx hb hr hlk hK hP hD hS dX1_clocks_39
  refine lv_if_lt (tgt := 24) hx hb dX1_clocks_2 (by decide) (fun c2 => ?_) (fun c2 => ?_)
  · have hR := hR.trans (if_pos c2)
    refine lv_iconst (v := 1) hx hb dX1_clocks_24 (by decide) ?_
    refine lv_goto (tgt := 29) hx hb dX1_clocks_25 (by decide) ?_
    exact hj29 1 _ _ ls hP hD hS (lv_sub hl [0, 1, 2] rfl) hR
  · have hR := hR.trans (if_neg c2)
    refine lv_iload_n hx hb dX1_clocks_5 rfl (lv_at hl 1 rfl) ?_
    refine lv_sipush (v := 9999) hx hb dX1_clocks_6 (by decide) ?_
    refine lv_icmp_gt (tgt := 24) hx hb dX1_clocks_9 (by decide) (fun c9 => ?_) (fun c9 => ?_)
    · have hR := hR.trans (if_pos c9)
      refine lv_iconst (v := 1) hx hb dX1_clocks_24 (by decide) ?_
      refine lv_goto (tgt := 29) hx hb dX1_clocks_25 (by decide) ?_
      exact hj29 1 _ _ ls hP hD hS (lv_sub hl [0, 1, 2] rfl) hR
    · have hR := hR.trans (if_neg c9)
      refine lv_iload_n hx hb dX1_clocks_12 rfl (lv_at hl 2 rfl) ?_
      refine lv_iconst (v := 1) hx hb dX1_clocks_13 (by decide) ?_
      refine lv_icmp_lt (tgt := 24) hx hb dX1_clocks_14 (by decide) (fun c14 => ?_) (fun c14 => ?_)
      · have hR := hR.trans (if_pos c14)
        refine lv_iconst (v := 1) hx hb dX1_clocks_24 (by decide) ?_
        refine lv_goto (tgt := 29) hx hb dX1_clocks_25 (by decide) ?_
        exact hj29 1 _ _ ls hP hD hS (lv_sub hl [0, 1, 2] rfl) hR
      · have hR := hR.trans (if_neg c14)
        refine lv_iload_n hx hb dX1_clocks_17 rfl (lv_at hl 2 rfl) ?_
        refine lv_sipush (v := 9999) hx hb dX1_clocks_18 (by decide) ?_
        refine lv_icmp_le (tgt := 28) hx hb dX1_clocks_21 (by decide) (fun c21 => ?_) (fun c21 => ?_)
        · have hR := hR.trans (if_pos c21)
          refine lv_iconst (v := 0) hx hb dX1_clocks_28 (by decide) ?_
          exact hj29 0 _ _ ls hP hD hS (lv_sub hl [0, 1, 2] rfl) hR
        · have hR := hR.trans (if_neg c21)
          refine lv_iconst (v := 1) hx hb dX1_clocks_24 (by decide) ?_
          refine lv_goto (tgt := 29) hx hb dX1_clocks_25 (by decide) ?_
          exact hj29 1 _ _ ls hP hD hS (lv_sub hl [0, 1, 2] rfl) hR
