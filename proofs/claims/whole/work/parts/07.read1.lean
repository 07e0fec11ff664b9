def qX0_isFree (F : Nat → Int32) (A : Nat → Nat → Int32) (p1 : Int32) : Int32 := (if (qX0_isSquare p1) = 0 then 0 else (if ¬ (A 0 (Int32.toNatClampNeg p1)) = 0 then 0 else 1))
abbrev rmX0_isFree : Room := { frames := 1, cells := 0, slots := 0, locals := 20 }
theorem nX0_isFree : yX0_isFree.cls = RX0 ∧ yX0_isFree.cls ≠ "java/lang/invoke/MethodHandle" ∧ yX0_isFree.cls ≠ "java/lang/invoke/VarHandle" ∧ (parseMethodDescriptor yX0_isFree.desc).map (fun d => d.parameters.length) = some 1 := by decide +kernel
theorem in_X0_isFree : ∀ w ∈ wsX00, w ∈ wsX0_isFree := fun w h => by
  unfold wsX0_isFree
  exact List.mem_cons_of_mem _ (List.mem_append_right _ h)
theorem kX0_isFree_0 : Cond.fieldLink RX0 9 "Board" "board" "[I" ∈ wsX0_isFree := by decide +kernel
set_option maxHeartbeats 4000000 in
set_option maxRecDepth 100000 in
theorem mX0_isFree (l : Launch) (D : va_G) (cI : ClassId) (o : Nat) (h : Nat → Nat) (F : Nat → Int32) (A : Nat → Nat → Int32) (p1 : Int32) (r0 : Int32) (hR : r0 = qX0_isFree F A p1) : cMi l yX0_isFree wsX0_isFree rmX0_isFree D [(cI, .int)] (wB cI o h F A) [.ref o, .int p1] r0 (wB cI o h F A) := by
  intro sz
  refine cMet_of (Qc := fun AA => cQi D [(cI, .int)] r0 (wB cI o h F A) AA) (cc := cX0_isFree) (maxL := 2) (ret := (some .boolean)) (by decide) rfl (Nat.le_of_ble_eq_true rfl) ?_ sz
  intro p e s m below meth c AA ls hx hb hr hts hown hml hlk hA hK hP hD hS hl
  have hown : s.vm.findClass RX0 = some m.cls := hown
  have hl : lv_has ls 2 [(0, .ref o), (1, .int p1)] := hl
  rw [qX0_isFree] at hR
  refine lv_iload_n hx hb dX0_isFree_0 rfl (lv_at hl 1 rfl) ?_
  refine cSi ⟨hx, hb, hml, hown, hts⟩ (mX0_isSquare l D p1 _ rfl) (va_cwS 1 hts gX0_isFree_X0_isSquare rfl rfl rfl nX0_isSquare ⟨Nat.le_of_ble_eq_true rfl, Nat.le_of_ble_eq_true rfl⟩) rfl hl.1 rfl (Nat.le_of_ble_eq_true rfl) dX0_isFree_1 ⟨Nat.zero_le _, Nat.zero_le _⟩ hK hP hS hA (fun H locs hP hS => ?_)
  refine lv_if_eq (tgt := 20) hx hb dX0_isFree_4 (by decide) (fun c4 => ?_) (fun c4 => ?_)
  · have hR := hR.trans (if_pos c4)
    refine lv_iconst (v := 0) hx hb dX0_isFree_20 (by decide) ?_
    exact cRz hx hb hr hlk hK hP hD hS (Or.inl rfl) hR.symm dX0_isFree_21
  · have hR := hR.trans (if_neg c4)
    refine lv_aload_n hx hb dX0_isFree_7 rfl (lv_at hl 0 rfl) ?_
    refine gB hx hb hts in_X0_isFree hown hK hP 0 (by decide) rfl kX0_isFree_0 dX0_isFree_8 ?_
    refine lv_iload_n hx hb dX0_isFree_11 rfl (lv_at hl 1 rfl) ?_
    refine va_iald (f := A 0) hx hb hK hP 1 0 rfl rfl (inSq c4) dX0_isFree_12 ?_
    refine lv_if_ne (tgt := 20) hx hb dX0_isFree_13 (by decide) (fun c13 => ?_) (fun c13 => ?_)
    · have hR := hR.trans (if_pos c13)
      refine lv_iconst (v := 0) hx hb dX0_isFree_20 (by decide) ?_
      exact cRz hx hb hr hlk hK hP hD hS (Or.inl rfl) hR.symm dX0_isFree_21
    · have hR := hR.trans (if_neg (fun z => z c13))
      refine lv_iconst (v := 1) hx hb dX0_isFree_16 (by decide) ?_
      refine lv_goto (tgt := 21) hx hb dX0_isFree_17 (by decide) ?_
      exact cRz hx hb hr hlk hK hP hD hS (Or.inr rfl) hR.symm dX0_isFree_21
def qX0_holds (F : Nat → Int32) (A : Nat → Nat → Int32) (p1 : Int32) (p2 : Int32) : Int32 := (if (qX0_isSquare p1) = 0 then 0 else (if ¬ (A 0 (Int32.toNatClampNeg p1)) = p2 then 0 else 1))
abbrev rmX0_holds : Room := { frames := 1, cells := 0, slots := 0, locals := 20 }
theorem nX0_holds : yX0_holds.cls = RX0 ∧ yX0_holds.cls ≠ "java/lang/invoke/MethodHandle" ∧ yX0_holds.cls ≠ "java/lang/invoke/VarHandle" ∧ (parseMethodDescriptor yX0_holds.desc).map (fun d => d.parameters.length) = some 2 := by decide +kernel
theorem in_X0_holds : ∀ w ∈ wsX00, w ∈ wsX0_holds := fun w h => by
  unfold wsX0_holds
  exact List.mem_cons_of_mem _ (List.mem_append_right _ h)
theorem kX0_holds_0 : Cond.fieldLink RX0 9 "Board" "board" "[I" ∈ wsX0_holds := by decide +kernel
set_option maxHeartbeats 4000000 in
set_option maxRecDepth 100000 in
theorem mX0_holds (l : Launch) (D : va_G) (cI : ClassId) (o : Nat) (h : Nat → Nat) (F : Nat → Int32) (A : Nat → Nat → Int32) (p1 : Int32) (p2 : Int32) (r0 : Int32) (hR : r0 = qX0_holds F A p1 p2) : cMi l yX0_holds wsX0_holds rmX0_holds D [(cI, .int)] (wB cI o h F A) [.ref o, .int p1, .int p2] r0 (wB cI o h F A) := by
  intro sz
  refine cMet_of (Qc := fun AA => cQi D [(cI, .int)] r0 (wB cI o h F A) AA) (cc := cX0_holds) (maxL := 3) (ret := (some .boolean)) (by decide) rfl (Nat.le_of_ble_eq_true rfl) ?_ sz
  intro p e s m below meth c AA ls hx hb hr hts hown hml hlk hA hK hP hD hS hl
  have hown : s.vm.findClass RX0 = some m.cls := hown
  have hl : lv_has ls 3 [(0, .ref o), (1, .int p1), (2, .int p2)] := hl
  rw [qX0_holds] at hR
  refine lv_iload_n hx hb dX0_holds_0 rfl (lv_at hl 1 rfl) ?_
  refine cSi ⟨hx, hb, hml, hown, hts⟩ (mX0_isSquare l D p1 _ rfl) (va_cwS 1 hts gX0_holds_X0_isSquare rfl rfl rfl nX0_isSquare ⟨Nat.le_of_ble_eq_true rfl, Nat.le_of_ble_eq_true rfl⟩) rfl hl.1 rfl (Nat.le_of_ble_eq_true rfl) dX0_holds_1 ⟨Nat.zero_le _, Nat.zero_le _⟩ hK hP hS hA (fun H locs hP hS => ?_)
  refine lv_if_eq (tgt := 21) hx hb dX0_holds_4 (by decide) (fun c4 => ?_) (fun c4 => ?_)
  · have hR := hR.trans (if_pos c4)
    refine lv_iconst (v := 0) hx hb dX0_holds_21 (by decide) ?_
    exact cRz hx hb hr hlk hK hP hD hS (Or.inl rfl) hR.symm dX0_holds_22
  · have hR := hR.trans (if_neg c4)
    refine lv_aload_n hx hb dX0_holds_7 rfl (lv_at hl 0 rfl) ?_
    refine gB hx hb hts in_X0_holds hown hK hP 0 (by decide) rfl kX0_holds_0 dX0_holds_8 ?_
    refine lv_iload_n hx hb dX0_holds_11 rfl (lv_at hl 1 rfl) ?_
    refine va_iald (f := A 0) hx hb hK hP 1 0 rfl rfl (inSq c4) dX0_holds_12 ?_
    refine lv_iload_n hx hb dX0_holds_13 rfl (lv_at hl 2 rfl) ?_
    refine lv_icmp_ne (tgt := 21) hx hb dX0_holds_14 (by decide) (fun c14 => ?_) (fun c14 => ?_)
    · have hR := hR.trans (if_pos c14)
      refine lv_iconst (v := 0) hx hb dX0_holds_21 (by decide) ?_
      exact cRz hx hb hr hlk hK hP hD hS (Or.inl rfl) hR.symm dX0_holds_22
    · have hR := hR.trans (if_neg (fun z => z c14))
      refine lv_iconst (v := 1) hx hb dX0_holds_17 (by decide) ?_
      refine lv_goto (tgt := 22) hx hb dX0_holds_18 (by decide) ?_
      exact cRz hx hb hr hlk hK hP hD hS (Or.inr rfl) hR.symm dX0_holds_22
def qX0_where_w5 (F : Nat → Int32) (A : Nat → Nat → Int32) (x1 : Int32) : Nat → Nat → (Int64) → Int64
  | 0, n, x2 => x2
  | k + 1, n, x2 => (if ¬ (A 0 (Int32.toNatClampNeg (nI n))) = x1 then (qX0_where_w5 F A x1 k (n + 1) x2) else (qX0_where_w5 F A x1 k (n + 1) (x2 ||| (1 <<< (Int32.toInt64 (nI n) &&& 63)))))
def qX0_where (F : Nat → Int32) (A : Nat → Nat → Int32) (p1 : Int32) : Int64 := (qX0_where_w5 F A p1 64 0 0)
abbrev rmX0_where : Room := { frames := 0, cells := 0, slots := 0, locals := 0 }
theorem nX0_where : yX0_where.cls = RX0 ∧ yX0_where.cls ≠ "java/lang/invoke/MethodHandle" ∧ yX0_where.cls ≠ "java/lang/invoke/VarHandle" ∧ (parseMethodDescriptor yX0_where.desc).map (fun d => d.parameters.length) = some 1 := by decide +kernel
theorem in_X0_where : ∀ w ∈ wsX00, w ∈ wsX0_where := fun w h => by
  unfold wsX0_where
  exact List.mem_cons_of_mem _ (List.mem_append_right _ h)
theorem kX0_where_0 : Cond.fieldLink RX0 9 "Board" "board" "[I" ∈ wsX0_where := by decide +kernel
set_option maxHeartbeats 4000000 in
set_option maxRecDepth 100000 in
theorem mX0_where (l : Launch) (D : va_G) (cI : ClassId) (o : Nat) (h : Nat → Nat) (F : Nat → Int32) (A : Nat → Nat → Int32) (p1 : Int32) (r0 : Int64) (hR : r0 = qX0_where F A p1) : cMl l yX0_where wsX0_where rmX0_where D [(cI, .int)] (wB cI o h F A) [.ref o, .int p1] r0 (wB cI o h F A) := by
  intro sz
  refine cMet_of (Qc := fun AA => cQl D [(cI, .int)] r0 (wB cI o h F A) AA) (cc := cX0_where) (maxL := 5) (ret := (some .long)) (by decide) rfl (Nat.le_of_ble_eq_true rfl) ?_ sz
  intro p e s m below meth c AA ls hx hb hr hts hown hml hlk hA hK hP hD hS hl
  have hown : s.vm.findClass RX0 = some m.cls := hown
  have hl : lv_has ls 5 [(0, .ref o), (1, .int p1)] := hl
  rw [qX0_where] at hR
  refine lv_lconst (v := 0) hx hb dX0_where_0 (by decide) ?_
  refine lv_lstore_n (lv' := [(2, .long 0), (0, .ref o), (1, .int p1)]) hx hb dX0_where_1 rfl hl (by decide) rfl (fun ls hl => ?_)
  refine lv_iconst (v := 0) hx hb dX0_where_2 (by decide) ?_
  refine lv_istore (lv' := [(4, .int 0), (2, .long 0), (0, .ref o), (1, .int p1)]) hx hb dX0_where_3 hl (by decide) rfl (fun ls hl => ?_)
  have hw5 : ∀ (k n5 : Nat) (v5_2 : Int64) (H : Heap) (locs : List Loc) (ls : Array Slot), n5 + k = 64 → va_P D vwCl (wB cI o h F A) H → va_D AA (wB cI o h F A) → va_S AA s.heap H locs → lv_has ls 5 [(0, .ref o), (1, .int p1), (2, .long v5_2), (4, .int (nI n5))] → r0 = qX0_where_w5 F A p1 k n5 v5_2 → W p l e rmX0_where s m [.ref o, .int p1].toArray below meth c H locs 0 0 (MQ below (cQl D [(cI, .int)] r0 (wB cI o h F A) AA) [.ref o, .int p1].toArray s 0 0 AA) (F0 m 5 ls []) := by
    intro k
    induction k with
    | zero =>
      intro n5 v5_2 H locs ls hn  hP hD hS hl hR
      rw [qX0_where_w5] at hR
      refine lv_iload hx hb dX0_where_5 (lv_at hl 3 rfl) ?_
      refine lv_bipush (v := 64) hx hb dX0_where_7 (by decide) ?_
      refine lv_icmp_ge (tgt := 36) hx hb dX0_where_9 (by decide) (fun c9 => ?_) (fun c9 => ?_)
      · skip
        refine lv_lload_n hx hb dX0_where_36 rfl (lv_at hl 2 rfl) ?_
        exact cRl hx hb hr hlk hK hP hD hS hR.symm dX0_where_37
      · exact absurd (nI_le (a := 64) (b := n5) (by omega) (by omega)) c9
    | succ k ih =>
      intro n5 v5_2 H locs ls hn  hP hD hS hl hR
      rw [qX0_where_w5] at hR
      refine lv_iload hx hb dX0_where_5 (lv_at hl 3 rfl) ?_
      refine lv_bipush (v := 64) hx hb dX0_where_7 (by decide) ?_
      refine lv_icmp_ge (tgt := 36) hx hb dX0_where_9 (by decide) (fun c9 => ?_) (fun c9 => ?_)
      · exact absurd c9 (nI_ge (a := n5) (b := 64) (by omega) (by omega))
      · skip
        refine lv_aload_n hx hb dX0_where_12 rfl (lv_at hl 0 rfl) ?_
        refine gB hx hb hts in_X0_where hown hK hP 0 (by decide) rfl kX0_where_0 dX0_where_13 ?_
        refine lv_iload hx hb dX0_where_16 (lv_at hl 3 rfl) ?_
        refine va_iald (f := A 0) hx hb hK hP 1 0 rfl rfl (vp_in_nI (by omega) (by decide)) dX0_where_18 ?_
        refine lv_iload_n hx hb dX0_where_19 rfl (lv_at hl 1 rfl) ?_
        refine lv_icmp_ne (tgt := 30) hx hb dX0_where_20 (by decide) (fun c20 => ?_) (fun c20 => ?_)
        · have hR := hR.trans (if_pos c20)
          refine lv_iinc (v := (nI (n5 + 1))) (lv' := [(4, .int (nI (n5 + 1))), (0, .ref o), (1, .int p1), (2, .long v5_2)]) hx hb dX0_where_30 hl (k := 3) rfl (nI_1 _) (by decide) rfl (fun ls hl => ?_)
          refine lv_goto (tgt := 5) hx hb dX0_where_33 (by decide) ?_
          exact ih (n5 + 1) v5_2 _ _ ls (by omega) hP hD hS (lv_sub hl [1, 2, 3, 0] rfl) hR
        · have hR := hR.trans (if_neg (fun z => z c20))
          refine lv_lload_n hx hb dX0_where_23 rfl (lv_at hl 2 rfl) ?_
          refine lv_lconst (v := 1) hx hb dX0_where_24 (by decide) ?_
          refine lv_iload hx hb dX0_where_25 (lv_at hl 3 rfl) ?_
          refine lv_lshl hx hb dX0_where_27 rfl ?_
          refine lv_lor hx hb dX0_where_28 ?_
          refine lv_lstore_n (lv' := [(2, .long (v5_2 ||| (1 <<< (Int32.toInt64 (nI n5) &&& 63)))), (0, .ref o), (1, .int p1), (4, .int (nI n5))]) hx hb dX0_where_29 rfl hl (by decide) rfl (fun ls hl => ?_)
          refine lv_iinc (v := (nI (n5 + 1))) (lv' := [(4, .int (nI (n5 + 1))), (2, .long (v5_2 ||| (1 <<< (Int32.toInt64 (nI n5) &&& 63)))), (0, .ref o), (1, .int p1)]) hx hb dX0_where_30 hl (k := 3) rfl (nI_1 _) (by decide) rfl (fun ls hl => ?_)
          refine lv_goto (tgt := 5) hx hb dX0_where_33 (by decide) ?_
          exact ih (n5 + 1) (v5_2 ||| (1 <<< (Int32.toInt64 (nI n5) &&& 63))) _ _ ls (by omega) hP hD hS (lv_sub hl [2, 3, 1, 0] rfl) hR
  exact hw5 64 0 0 _ _ ls (by omega) hP hD hS (lv_sub hl [2, 3, 1, 0] rfl) hR
def qX0_piecesOnBoard (F : Nat → Int32) (A : Nat → Nat → Int32)  : Int32 := (64 - (qJ13_bitCount_95d88 (qX0_where F A 0)))
abbrev rmX0_piecesOnBoard : Room := { frames := 1, cells := 0, slots := 0, locals := 24 }
theorem nX0_piecesOnBoard : yX0_piecesOnBoard.cls = RX0 ∧ yX0_piecesOnBoard.cls ≠ "java/lang/invoke/MethodHandle" ∧ yX0_piecesOnBoard.cls ≠ "java/lang/invoke/VarHandle" ∧ (parseMethodDescriptor yX0_piecesOnBoard.desc).map (fun d => d.parameters.length) = some 0 := by decide +kernel
set_option maxHeartbeats 4000000 in
set_option maxRecDepth 100000 in
theorem mX0_piecesOnBoard (l : Launch) (D : va_G) (cI : ClassId) (o : Nat) (h : Nat → Nat) (F : Nat → Int32) (A : Nat → Nat → Int32)  (r0 : Int32) (hR : r0 = qX0_piecesOnBoard F A) : cMi l yX0_piecesOnBoard wsX0_piecesOnBoard rmX0_piecesOnBoard D [(cI, .int)] (wB cI o h F A) [.ref o] r0 (wB cI o h F A) := by
  intro sz
  refine cMet_of (Qc := fun AA => cQi D [(cI, .int)] r0 (wB cI o h F A) AA) (cc := cX0_piecesOnBoard) (maxL := 1) (ret := (some .int)) (by decide) rfl (Nat.le_of_ble_eq_true rfl) ?_ sz
  intro p e s m below meth c AA ls hx hb hr hts hown hml hlk hA hK hP hD hS hl
  have hown : s.vm.findClass RX0 = some m.cls := hown
  have hl : lv_has ls 1 [(0, .ref o)] := hl
  rw [qX0_piecesOnBoard] at hR
  refine lv_bipush (v := 64) hx hb dX0_piecesOnBoard_0 (by decide) ?_
  refine lv_aload_n hx hb dX0_piecesOnBoard_2 rfl (lv_at hl 0 rfl) ?_
  refine lv_iconst (v := 0) hx hb dX0_piecesOnBoard_3 (by decide) ?_
  refine cVl ⟨hx, hb, hml, hown, hts⟩ (mX0_where l D cI o h F A 0 _ rfl) (cwV 1 hts gX0_piecesOnBoard_X0_where rfl rfl rfl nX0_where ⟨Nat.le_of_ble_eq_true rfl, Nat.le_of_ble_eq_true rfl⟩) (va_recv hK hP (ci := 0) (q0 := 0) rfl rfl) rfl hl.1 rfl (Nat.le_of_ble_eq_true rfl) dX0_piecesOnBoard_4 ⟨Nat.zero_le _, Nat.zero_le _⟩ hK hP hD hS hA (fun H locs hP hD hS => ?_)
  refine cSi ⟨hx, hb, hml, hown, hts⟩ (mJ13_bitCount_95d88 l D (qX0_where F A 0) _ rfl) (va_cwS 1 hts gX0_piecesOnBoard_J13_bitCount_95d88 rfl rfl rfl nJ13_bitCount_95d88 ⟨Nat.le_of_ble_eq_true rfl, Nat.le_of_ble_eq_true rfl⟩) rfl hl.1 rfl (Nat.le_of_ble_eq_true rfl) dX0_piecesOnBoard_7 ⟨Nat.zero_le _, Nat.zero_le _⟩ hK hP hS hA (fun H locs hP hS => ?_)
  refine lv_isub hx hb dX0_piecesOnBoard_10 ?_
  exact cRi hx hb hr hlk hK hP hD hS hR.symm dX0_piecesOnBoard_11
def qX0_material_w4 (F : Nat → Int32) (A : Nat → Nat → Int32) (x1 : Int32) : Nat → Nat → (Int32) → Int32
  | 0, n, x2 => x2
  | k + 1, n, x2 => (if ¬ (qX0_sideOf (A 0 (Int32.toNatClampNeg (nI n)))) = x1 then (qX0_material_w4 F A x1 k (n + 1) x2) else (qX0_material_w4 F A x1 k (n + 1) (x2 + (qX0_worthOf (qX0_typeOf (A 0 (Int32.toNatClampNeg (nI n))))))))
def qX0_material (F : Nat → Int32) (A : Nat → Nat → Int32) (p1 : Int32) : Int32 := (qX0_material_w4 F A p1 64 0 0)
abbrev rmX0_material : Room := { frames := 1, cells := 0, slots := 0, locals := 20 }
theorem nX0_material : yX0_material.cls = RX0 ∧ yX0_material.cls ≠ "java/lang/invoke/MethodHandle" ∧ yX0_material.cls ≠ "java/lang/invoke/VarHandle" ∧ (parseMethodDescriptor yX0_material.desc).map (fun d => d.parameters.length) = some 1 := by decide +kernel
theorem in_X0_material : ∀ w ∈ wsX00, w ∈ wsX0_material := fun w h => by
  unfold wsX0_material
  exact List.mem_cons_of_mem _ (List.mem_append_right _ h)
theorem kX0_material_0 : Cond.fieldLink RX0 9 "Board" "board" "[I" ∈ wsX0_material := by decide +kernel
set_option maxHeartbeats 4000000 in
set_option maxRecDepth 100000 in
theorem mX0_material (l : Launch) (D : va_G) (cI : ClassId) (o : Nat) (h : Nat → Nat) (F : Nat → Int32) (A : Nat → Nat → Int32) (p1 : Int32) (r0 : Int32) (hR : r0 = qX0_material F A p1) : cMi l yX0_material wsX0_material rmX0_material D [(cI, .int)] (wB cI o h F A) [.ref o, .int p1] r0 (wB cI o h F A) := by
  intro sz
  refine cMet_of (Qc := fun AA => cQi D [(cI, .int)] r0 (wB cI o h F A) AA) (cc := cX0_material) (maxL := 4) (ret := (some .int)) (by decide) rfl (Nat.le_of_ble_eq_true rfl) ?_ sz
  intro p e s m below meth c AA ls hx hb hr hts hown hml hlk hA hK hP hD hS hl
  have hown : s.vm.findClass RX0 = some m.cls := hown
  have hl : lv_has ls 4 [(0, .ref o), (1, .int p1)] := hl
  rw [qX0_material] at hR
  refine lv_iconst (v := 0) hx hb dX0_material_0 (by decide) ?_
  refine lv_istore_n (lv' := [(2, .int 0), (0, .ref o), (1, .int p1)]) hx hb dX0_material_1 rfl hl (by decide) rfl (fun ls hl => ?_)
  refine lv_iconst (v := 0) hx hb dX0_material_2 (by decide) ?_
  refine lv_istore_n (lv' := [(3, .int 0), (2, .int 0), (0, .ref o), (1, .int p1)]) hx hb dX0_material_3 rfl hl (by decide) rfl (fun ls hl => ?_)
  have hw4 : ∀ (k n4 : Nat) (v4_2 : Int32) (H : Heap) (locs : List Loc) (ls : Array Slot), n4 + k = 64 → va_P D vwCl (wB cI o h F A) H → va_D AA (wB cI o h F A) → va_S AA s.heap H locs → lv_has ls 4 [(0, .ref o), (1, .int p1), (2, .int v4_2), (3, .int (nI n4))] → r0 = qX0_material_w4 F A p1 k n4 v4_2 → W p l e rmX0_material s m [.ref o, .int p1].toArray below meth c H locs 0 0 (MQ below (cQi D [(cI, .int)] r0 (wB cI o h F A) AA) [.ref o, .int p1].toArray s 0 0 AA) (F0 m 4 ls []) := by
    intro k
    induction k with
    | zero =>
      intro n4 v4_2 H locs ls hn  hP hD hS hl hR
      rw [qX0_material_w4] at hR
      refine lv_iload_n hx hb dX0_material_4 rfl (lv_at hl 3 rfl) ?_
      refine lv_bipush (v := 64) hx hb dX0_material_5 (by decide) ?_
      refine lv_icmp_ge (tgt := 44) hx hb dX0_material_7 (by decide) (fun c7 => ?_) (fun c7 => ?_)
      · skip
        refine lv_iload_n hx hb dX0_material_44 rfl (lv_at hl 2 rfl) ?_
        exact cRi hx hb hr hlk hK hP hD hS hR.symm dX0_material_45
      · exact absurd (nI_le (a := 64) (b := n4) (by omega) (by omega)) c7
    | succ k ih =>
      intro n4 v4_2 H locs ls hn  hP hD hS hl hR
      rw [qX0_material_w4] at hR
      refine lv_iload_n hx hb dX0_material_4 rfl (lv_at hl 3 rfl) ?_
      refine lv_bipush (v := 64) hx hb dX0_material_5 (by decide) ?_
      refine lv_icmp_ge (tgt := 44) hx hb dX0_material_7 (by decide) (fun c7 => ?_) (fun c7 => ?_)
      · exact absurd c7 (nI_ge (a := n4) (b := 64) (by omega) (by omega))
      · skip
        refine lv_aload_n hx hb dX0_material_10 rfl (lv_at hl 0 rfl) ?_
        refine gB hx hb hts in_X0_material hown hK hP 0 (by decide) rfl kX0_material_0 dX0_material_11 ?_
        refine lv_iload_n hx hb dX0_material_14 rfl (lv_at hl 3 rfl) ?_
        refine va_iald (f := A 0) hx hb hK hP 1 0 rfl rfl (vp_in_nI (by omega) (by decide)) dX0_material_15 ?_
        refine cSi ⟨hx, hb, hml, hown, hts⟩ (mX0_sideOf l D (A 0 (Int32.toNatClampNeg (nI n4))) _ rfl) (va_cwS 1 hts gX0_material_X0_sideOf rfl rfl rfl nX0_sideOf ⟨Nat.le_of_ble_eq_true rfl, Nat.le_of_ble_eq_true rfl⟩) rfl hl.1 rfl (Nat.le_of_ble_eq_true rfl) dX0_material_16 ⟨Nat.zero_le _, Nat.zero_le _⟩ hK hP hS hA (fun H locs hP hS => ?_)
        refine lv_iload_n hx hb dX0_material_19 rfl (lv_at hl 1 rfl) ?_
        refine lv_icmp_ne (tgt := 38) hx hb dX0_material_20 (by decide) (fun c20 => ?_) (fun c20 => ?_)
        · have hR := hR.trans (if_pos c20)
          refine lv_iinc (v := (nI (n4 + 1))) (lv' := [(3, .int (nI (n4 + 1))), (0, .ref o), (1, .int p1), (2, .int v4_2)]) hx hb dX0_material_38 hl (k := 3) rfl (nI_1 _) (by decide) rfl (fun ls hl => ?_)
          refine lv_goto (tgt := 4) hx hb dX0_material_41 (by decide) ?_
          exact ih (n4 + 1) v4_2 _ _ ls (by omega) hP hD hS (lv_sub hl [1, 2, 3, 0] rfl) hR
        · have hR := hR.trans (if_neg (fun z => z c20))
          refine lv_iload_n hx hb dX0_material_23 rfl (lv_at hl 2 rfl) ?_
          refine lv_aload_n hx hb dX0_material_24 rfl (lv_at hl 0 rfl) ?_
          refine gB hx hb hts in_X0_material hown hK hP 0 (by decide) rfl kX0_material_0 dX0_material_25 ?_
          refine lv_iload_n hx hb dX0_material_28 rfl (lv_at hl 3 rfl) ?_
          refine va_iald (f := A 0) hx hb hK hP 1 0 rfl rfl (vp_in_nI (by omega) (by decide)) dX0_material_29 ?_
          refine cSi ⟨hx, hb, hml, hown, hts⟩ (mX0_typeOf l D (A 0 (Int32.toNatClampNeg (nI n4))) _ rfl) (va_cwS 1 hts gX0_material_X0_typeOf rfl rfl rfl nX0_typeOf ⟨Nat.le_of_ble_eq_true rfl, Nat.le_of_ble_eq_true rfl⟩) rfl hl.1 rfl (Nat.le_of_ble_eq_true rfl) dX0_material_30 ⟨Nat.zero_le _, Nat.zero_le _⟩ hK hP hS hA (fun H locs hP hS => ?_)
          refine cSi ⟨hx, hb, hml, hown, hts⟩ (mX0_worthOf l D (qX0_typeOf (A 0 (Int32.toNatClampNeg (nI n4)))) _ rfl) (va_cwS 1 hts gX0_material_X0_worthOf rfl rfl rfl nX0_worthOf ⟨Nat.le_of_ble_eq_true rfl, Nat.le_of_ble_eq_true rfl⟩) rfl hl.1 rfl (Nat.le_of_ble_eq_true rfl) dX0_material_33 ⟨Nat.zero_le _, Nat.zero_le _⟩ hK hP hS hA (fun H locs hP hS => ?_)
          refine lv_iadd hx hb dX0_material_36 ?_
          refine lv_istore_n (lv' := [(2, .int (v4_2 + (qX0_worthOf (qX0_typeOf (A 0 (Int32.toNatClampNeg (nI n4))))))), (0, .ref o), (1, .int p1), (3, .int (nI n4))]) hx hb dX0_material_37 rfl hl (by decide) rfl (fun ls hl => ?_)
          refine lv_iinc (v := (nI (n4 + 1))) (lv' := [(3, .int (nI (n4 + 1))), (2, .int (v4_2 + (qX0_worthOf (qX0_typeOf (A 0 (Int32.toNatClampNeg (nI n4))))))), (0, .ref o), (1, .int p1)]) hx hb dX0_material_38 hl (k := 3) rfl (nI_1 _) (by decide) rfl (fun ls hl => ?_)
          refine lv_goto (tgt := 4) hx hb dX0_material_41 (by decide) ?_
          exact ih (n4 + 1) (v4_2 + (qX0_worthOf (qX0_typeOf (A 0 (Int32.toNatClampNeg (nI n4)))))) _ _ ls (by omega) hP hD hS (lv_sub hl [2, 3, 1, 0] rfl) hR
  exact hw4 64 0 0 _ _ ls (by omega) hP hD hS (lv_sub hl [2, 3, 1, 0] rfl) hR
