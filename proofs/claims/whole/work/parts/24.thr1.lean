def qX0_put_j27 (F : Nat → Int32) (A : Nat → Nat → Int32) : Int32 × tFA := (2, F, A)
def qX0_put_j69 (F : Nat → Int32) (A : Nat → Nat → Int32) (x1 : Int32) (x2 : Int32) : Int32 × tFA := (0, (qX0_forgetMoves F (ua A 0 (Int32.toNatClampNeg x1) x2)).1, (qX0_forgetMoves F (ua A 0 (Int32.toNatClampNeg x1) x2)).2)
def qX0_put (F : Nat → Int32) (A : Nat → Nat → Int32) (p1 : Int32) (p2 : Int32) : Int32 × tFA := (if ¬ (qX0_isSquare p1) = 0 then (if p2 < 0 then (qX0_put_j27 F A) else (if p2 ≤ 12 then (if p2 = 0 then (qX0_put_j69 F A p1 p2) else (if ¬ (A 0 (Int32.toNatClampNeg p1)) = 0 then (qX0_put_j69 F A p1 p2) else (if (qX0_piecesOnBoard F A) < 32 then (qX0_put_j69 F A p1 p2) else (3, F, A)))) else (qX0_put_j27 F A))) else (1, F, A))
abbrev rmX0_put : Room := { frames := 6, cells := 1, slots := 6, locals := 90 }
theorem nX0_put : yX0_put.cls = RX0 ∧ yX0_put.cls ≠ "java/lang/invoke/MethodHandle" ∧ yX0_put.cls ≠ "java/lang/invoke/VarHandle" ∧ (parseMethodDescriptor yX0_put.desc).map (fun d => d.parameters.length) = some 2 := by decide +kernel
theorem in_X0_put : ∀ w ∈ wsX00, w ∈ wsX0_put := fun w h => by
  unfold wsX0_put
  exact List.mem_cons_of_mem _ (List.mem_append_left _ (List.mem_append_left _ (List.mem_append_left _ (List.mem_append_right _ h))))
theorem kX0_put_0 : Cond.fieldLink RX0 9 "Board" "board" "[I" ∈ wsX0_put := by decide +kernel
theorem kX0_put_1 : Cond.classLink RX0 56 "java/lang/IllegalArgumentException" ∈ wsX0_put := by decide +kernel
theorem kX0_put_2 : Cond.initialized "java/lang/IllegalArgumentException" ∈ wsX0_put := by decide +kernel
theorem kX0_put_3 : Cond.classLink RX0 65 "java/lang/IllegalStateException" ∈ wsX0_put := by decide +kernel
theorem kX0_put_4 : Cond.initialized "java/lang/IllegalStateException" ∈ wsX0_put := by decide +kernel
theorem kX0_put_5 : Cond.classLink RX0 49 "java/lang/IndexOutOfBoundsException" ∈ wsX0_put := by decide +kernel
theorem kX0_put_6 : Cond.initialized "java/lang/IndexOutOfBoundsException" ∈ wsX0_put := by decide +kernel
theorem xinX0_put_53 : ∀ w ∈ (vx_atS RX0 53 xIO xNames).filter goodWord, w ∈ wsX0_put := fun w h => by
  unfold wsX0_put
  exact List.mem_cons_of_mem _ (List.mem_append_left _ (List.mem_append_left _ (List.mem_append_right _ h)))
theorem xinX0_put_60 : ∀ w ∈ (vx_atS RX0 60 xIA xNames).filter goodWord, w ∈ wsX0_put := fun w h => by
  unfold wsX0_put
  exact List.mem_cons_of_mem _ (List.mem_append_left _ (List.mem_append_right _ h))
theorem xinX0_put_69 : ∀ w ∈ (vx_atS RX0 69 xIS xNames).filter goodWord, w ∈ wsX0_put := fun w h => by
  unfold wsX0_put
  exact List.mem_cons_of_mem _ (List.mem_append_right _ h)
set_option maxHeartbeats 4000000 in
set_option maxRecDepth 100000 in
theorem mX0_put (l : Launch) (D : va_G) (hst : l.stackTraces = false) (cI : ClassId) (o : Nat) (h : Nat → Nat) (F : Nat → Int32) (A : Nat → Nat → Int32) (p1 : Int32) (p2 : Int32) (r0 : Int32 × tFA) (hR : r0 = qX0_put F A p1 p2) : xMv l yX0_put wsX0_put rmX0_put D [(cI, .int)] (wB cI o h F A) [.ref o, .int p1, .int p2] r0.1 (wB cI o h r0.2.1 r0.2.2) := by
  intro sz
  refine xMet_of (Qc := fun AA => xQv D [(cI, .int)] r0.1 (wB cI o h r0.2.1 r0.2.2) AA) (XC := fun AA => xX D [(cI, .int)] r0.1 (wB cI o h F A) AA) (cc := cX0_put) (maxL := 3) (ret := none) (by decide) rfl (Nat.le_of_ble_eq_true rfl) ?_ sz
  intro p e s m below meth c AA ls hx hb hr hts hown hml hlk hA hK hP hD hS hl hno hE
  have hown : s.vm.findClass RX0 = some m.cls := hown
  have hl : lv_has ls 3 [(0, .ref o), (1, .int p1), (2, .int p2)] := hl
  rw [qX0_put] at hR
  refine lv_iload_n hx hb dX0_put_0 rfl (lv_at hl 1 rfl) ?_
  refine cSi ⟨hx, hb, hml, hown, hts⟩ (mX0_isSquare l D p1 _ rfl) (va_cwS 1 hts gX0_put_X0_isSquare rfl rfl rfl nX0_isSquare ⟨Nat.le_of_ble_eq_true rfl, Nat.le_of_ble_eq_true rfl⟩) rfl hl.1 rfl (Nat.le_of_ble_eq_true rfl) dX0_put_1 ⟨Nat.zero_le _, Nat.zero_le _⟩ hK hP hS hA (fun H locs hP hS => ?_)
  refine lv_if_ne (tgt := 17) hx hb dX0_put_4 (by decide) (fun c4 => ?_) (fun c4 => ?_)
  · have hR := hR.trans (if_pos c4)
    refine lv_iload_n hx hb dX0_put_17 rfl (lv_at hl 2 rfl) ?_
    have hj27 : ∀ (H : Heap) (locs : List Loc) (ls : Array Slot), va_P D vwCl (wB cI o h F A) H → va_D AA (wB cI o h F A) → va_S AA s.heap H locs → lv_has ls 3 [(0, .ref o)] → r0 = qX0_put_j27 F A → W p l e rmX0_put s m [.ref o, .int p1, .int p2].toArray below meth c H locs 0 0 (vx_MQ below (xQv D [(cI, .int)] r0.1 (wB cI o h r0.2.1 r0.2.2) AA) (xX D [(cI, .int)] r0.1 (wB cI o h F A) AA) [.ref o, .int p1, .int p2].toArray s 1 6 AA) (F0 m 27 ls []) := by
      intro  H locs ls  hP hD hS hl hR
      rw [qX0_put_j27] at hR
      subst hR
      exact xThrow (u := 2) (is := 58) (text := "no such piece") hx hb hst (by rw [hml]; exact hl.1.symm) hts hown hlk hno xTabIA kX0_put_1 kX0_put_2 xinX0_put_60 (by decide) hE dX0_put_27 dX0_put_30 dX0_put_31 dX0_put_33 dX0_put_36 (Nat.le_of_ble_eq_true rfl) (Nat.le_of_ble_eq_true rfl) (Nat.le_of_ble_eq_true rfl) (Nat.le_of_ble_eq_true rfl) hK hP hD hS (by decide) rfl
    refine lv_if_lt (tgt := 27) hx hb dX0_put_18 (by decide) (fun c18 => ?_) (fun c18 => ?_)
    · have hR := hR.trans (if_pos c18)
      exact hj27 _ _ ls hP hD hS (lv_sub hl [0] rfl) hR
    · have hR := hR.trans (if_neg c18)
      refine lv_iload_n hx hb dX0_put_21 rfl (lv_at hl 2 rfl) ?_
      refine lv_bipush (v := 12) hx hb dX0_put_22 (by decide) ?_
      refine lv_icmp_le (tgt := 37) hx hb dX0_put_24 (by decide) (fun c24 => ?_) (fun c24 => ?_)
      · have hR := hR.trans (if_pos c24)
        refine lv_iload_n hx hb dX0_put_37 rfl (lv_at hl 2 rfl) ?_
        have hj69 : ∀ (H : Heap) (locs : List Loc) (ls : Array Slot), va_P D vwCl (wB cI o h F A) H → va_D AA (wB cI o h F A) → va_S AA s.heap H locs → lv_has ls 3 [(0, .ref o), (1, .int p1), (2, .int p2)] → r0 = qX0_put_j69 F A p1 p2 → W p l e rmX0_put s m [.ref o, .int p1, .int p2].toArray below meth c H locs 0 0 (vx_MQ below (xQv D [(cI, .int)] r0.1 (wB cI o h r0.2.1 r0.2.2) AA) (xX D [(cI, .int)] r0.1 (wB cI o h F A) AA) [.ref o, .int p1, .int p2].toArray s 1 6 AA) (F0 m 69 ls []) := by
          intro  H locs ls  hP hD hS hl hR
          rw [qX0_put_j69] at hR
          refine lv_aload_n hx hb dX0_put_69 rfl (lv_at hl 0 rfl) ?_
          refine gB hx hb hts in_X0_put hown hK hP 0 (by decide) rfl kX0_put_0 dX0_put_70 ?_
          refine lv_iload_n hx hb dX0_put_73 rfl (lv_at hl 1 rfl) ?_
          refine lv_iload_n hx hb dX0_put_74 rfl (lv_at hl 2 rfl) ?_
          refine sB0 hx hb hK hP hD hS (inSq c4) dX0_put_75 (fun H locs hP hD hS => ?_)
          refine lv_aload_n hx hb dX0_put_76 rfl (lv_at hl 0 rfl) ?_
          refine cVv ⟨hx, hb, hml, hown, hts⟩ (mX0_forgetMoves l D cI o h F (ua A 0 (Int32.toNatClampNeg p1) p2)  _ rfl) (cwV 0 hts gX0_put_X0_forgetMoves rfl rfl rfl nX0_forgetMoves ⟨Nat.le_of_ble_eq_true rfl, Nat.le_of_ble_eq_true rfl⟩) (va_recv hK hP (ci := 0) (q0 := 0) rfl rfl) rfl hl.1 rfl (Nat.le_of_ble_eq_true rfl) dX0_put_77 ⟨Nat.zero_le _, Nat.zero_le _⟩ hK hP hD hS hA (fun H locs hP hD hS => ?_)
          subst hR
          exact xRv hx hb hr hlk hK hP hD hS rfl dX0_put_80
        refine lv_if_eq (tgt := 69) hx hb dX0_put_38 (by decide) (fun c38 => ?_) (fun c38 => ?_)
        · have hR := hR.trans (if_pos c38)
          exact hj69 _ _ ls hP hD hS (lv_sub hl [0, 1, 2] rfl) hR
        · have hR := hR.trans (if_neg c38)
          refine lv_aload_n hx hb dX0_put_41 rfl (lv_at hl 0 rfl) ?_
          refine gB hx hb hts in_X0_put hown hK hP 0 (by decide) rfl kX0_put_0 dX0_put_42 ?_
          refine lv_iload_n hx hb dX0_put_45 rfl (lv_at hl 1 rfl) ?_
          refine va_iald (f := A 0) hx hb hK hP 1 0 rfl rfl (inSq c4) dX0_put_46 ?_
          refine lv_if_ne (tgt := 69) hx hb dX0_put_47 (by decide) (fun c47 => ?_) (fun c47 => ?_)
          · have hR := hR.trans (if_pos c47)
            exact hj69 _ _ ls hP hD hS (lv_sub hl [0, 1, 2] rfl) hR
          · have hR := hR.trans (if_neg (fun z => z c47))
            refine lv_aload_n hx hb dX0_put_50 rfl (lv_at hl 0 rfl) ?_
            refine cVi ⟨hx, hb, hml, hown, hts⟩ (mX0_piecesOnBoard l D cI o h F A  _ rfl) (cwV 0 hts gX0_put_X0_piecesOnBoard rfl rfl rfl nX0_piecesOnBoard ⟨Nat.le_of_ble_eq_true rfl, Nat.le_of_ble_eq_true rfl⟩) (va_recv hK hP (ci := 0) (q0 := 0) rfl rfl) rfl hl.1 rfl (Nat.le_of_ble_eq_true rfl) dX0_put_51 ⟨Nat.zero_le _, Nat.zero_le _⟩ hK hP hD hS hA (fun H locs hP hD hS => ?_)
            refine lv_bipush (v := 32) hx hb dX0_put_54 (by decide) ?_
            refine lv_icmp_lt (tgt := 69) hx hb dX0_put_56 (by decide) (fun c56 => ?_) (fun c56 => ?_)
            · have hR := hR.trans (if_pos c56)
              exact hj69 _ _ ls hP hD hS (lv_sub hl [0, 1, 2] rfl) hR
            · have hR := hR.trans (if_neg c56)
              subst hR
              exact xThrow (u := 3) (is := 67) (text := "the board has 32 pieces") hx hb hst (by rw [hml]; exact hl.1.symm) hts hown hlk hno xTabIS kX0_put_3 kX0_put_4 xinX0_put_69 (by decide) hE dX0_put_59 dX0_put_62 dX0_put_63 dX0_put_65 dX0_put_68 (Nat.le_of_ble_eq_true rfl) (Nat.le_of_ble_eq_true rfl) (Nat.le_of_ble_eq_true rfl) (Nat.le_of_ble_eq_true rfl) hK hP hD hS (by decide) rfl
      · have hR := hR.trans (if_neg c24)
        exact hj27 _ _ ls hP hD hS (lv_sub hl [0] rfl) hR
  · have hR := hR.trans (if_neg (fun z => z c4))
    subst hR
    exact xThrow (u := 1) (is := 51) (text := "no such square") hx hb hst (by rw [hml]; exact hl.1.symm) hts hown hlk hno xTabIO kX0_put_5 kX0_put_6 xinX0_put_53 (by decide) hE dX0_put_7 dX0_put_10 dX0_put_11 dX0_put_13 dX0_put_16 (Nat.le_of_ble_eq_true rfl) (Nat.le_of_ble_eq_true rfl) (Nat.le_of_ble_eq_true rfl) (Nat.le_of_ble_eq_true rfl) hK hP hD hS (by decide) rfl
def qX0_state_j27 (F : Nat → Int32) (A : Nat → Nat → Int32) : Int32 × tFA := (2, F, A)
def qX0_state_j59 (F : Nat → Int32) (A : Nat → Nat → Int32) (x1 : Int32) (x2 : Int32) (x3 : Int32) : Int32 × tFA := (0, (qX0_forgetMoves (uf (uf (uf F 1 x1) 2 x2) 3 x3) A).1, (qX0_forgetMoves (uf (uf (uf F 1 x1) 2 x2) 3 x3) A).2)
def qX0_state (F : Nat → Int32) (A : Nat → Nat → Int32) (p1 : Int32) (p2 : Int32) (p3 : Int32) : Int32 × tFA := (if ¬ (qX0_isSide p1) = 0 then (if p2 < 0 then (qX0_state_j27 F A) else (if p2 ≤ 15 then (if p3 = (-1) then (qX0_state_j59 F A p1 p2 p3) else (if ¬ (qX0_isSquare p3) = 0 then (qX0_state_j59 F A p1 p2 p3) else (2, F, A))) else (qX0_state_j27 F A))) else (2, F, A))
abbrev rmX0_state : Room := { frames := 6, cells := 1, slots := 6, locals := 90 }
theorem nX0_state : yX0_state.cls = RX0 ∧ yX0_state.cls ≠ "java/lang/invoke/MethodHandle" ∧ yX0_state.cls ≠ "java/lang/invoke/VarHandle" ∧ (parseMethodDescriptor yX0_state.desc).map (fun d => d.parameters.length) = some 3 := by decide +kernel
theorem in_X0_state : ∀ w ∈ wsX00, w ∈ wsX0_state := fun w h => by
  unfold wsX0_state
  exact List.mem_cons_of_mem _ (List.mem_append_left _ (List.mem_append_right _ h))
theorem kX0_state_0 : Cond.fieldLink RX0 82 "Board" "side" "I" ∈ wsX0_state := by decide +kernel
theorem kX0_state_1 : Cond.fieldLink RX0 41 "Board" "rights" "I" ∈ wsX0_state := by decide +kernel
theorem kX0_state_2 : Cond.fieldLink RX0 85 "Board" "passing" "I" ∈ wsX0_state := by decide +kernel
theorem kX0_state_3 : Cond.classLink RX0 56 "java/lang/IllegalArgumentException" ∈ wsX0_state := by decide +kernel
theorem kX0_state_4 : Cond.initialized "java/lang/IllegalArgumentException" ∈ wsX0_state := by decide +kernel
theorem xinX0_state_60 : ∀ w ∈ (vx_atS RX0 60 xIA xNames).filter goodWord, w ∈ wsX0_state := fun w h => by
  unfold wsX0_state
  exact List.mem_cons_of_mem _ (List.mem_append_right _ h)
set_option maxHeartbeats 4000000 in
set_option maxRecDepth 100000 in
theorem mX0_state (l : Launch) (D : va_G) (hst : l.stackTraces = false) (cI : ClassId) (o : Nat) (h : Nat → Nat) (F : Nat → Int32) (A : Nat → Nat → Int32) (p1 : Int32) (p2 : Int32) (p3 : Int32) (r0 : Int32 × tFA) (hR : r0 = qX0_state F A p1 p2 p3) : xMv l yX0_state wsX0_state rmX0_state D [(cI, .int)] (wB cI o h F A) [.ref o, .int p1, .int p2, .int p3] r0.1 (wB cI o h r0.2.1 r0.2.2) := by
  intro sz
  refine xMet_of (Qc := fun AA => xQv D [(cI, .int)] r0.1 (wB cI o h r0.2.1 r0.2.2) AA) (XC := fun AA => xX D [(cI, .int)] r0.1 (wB cI o h F A) AA) (cc := cX0_state) (maxL := 4) (ret := none) (by decide) rfl (Nat.le_of_ble_eq_true rfl) ?_ sz
  intro p e s m below meth c AA ls hx hb hr hts hown hml hlk hA hK hP hD hS hl hno hE
  have hown : s.vm.findClass RX0 = some m.cls := hown
  have hl : lv_has ls 4 [(0, .ref o), (1, .int p1), (2, .int p2), (3, .int p3)] := hl
  rw [qX0_state] at hR
  refine lv_iload_n hx hb dX0_state_0 rfl (lv_at hl 1 rfl) ?_
  refine cSi ⟨hx, hb, hml, hown, hts⟩ (mX0_isSide l D p1 _ rfl) (va_cwS 1 hts gX0_state_X0_isSide rfl rfl rfl nX0_isSide ⟨Nat.le_of_ble_eq_true rfl, Nat.le_of_ble_eq_true rfl⟩) rfl hl.1 rfl (Nat.le_of_ble_eq_true rfl) dX0_state_1 ⟨Nat.zero_le _, Nat.zero_le _⟩ hK hP hS hA (fun H locs hP hS => ?_)
  refine lv_if_ne (tgt := 17) hx hb dX0_state_4 (by decide) (fun c4 => ?_) (fun c4 => ?_)
  · have hR := hR.trans (if_pos c4)
    refine lv_iload_n hx hb dX0_state_17 rfl (lv_at hl 2 rfl) ?_
    have hj27 : ∀ (H : Heap) (locs : List Loc) (ls : Array Slot), va_P D vwCl (wB cI o h F A) H → va_D AA (wB cI o h F A) → va_S AA s.heap H locs → lv_has ls 4 [(0, .ref o)] → r0 = qX0_state_j27 F A → W p l e rmX0_state s m [.ref o, .int p1, .int p2, .int p3].toArray below meth c H locs 0 0 (vx_MQ below (xQv D [(cI, .int)] r0.1 (wB cI o h r0.2.1 r0.2.2) AA) (xX D [(cI, .int)] r0.1 (wB cI o h F A) AA) [.ref o, .int p1, .int p2, .int p3].toArray s 1 6 AA) (F0 m 27 ls []) := by
      intro  H locs ls  hP hD hS hl hR
      rw [qX0_state_j27] at hR
      subst hR
      exact xThrow (u := 2) (is := 78) (text := "no such rights") hx hb hst (by rw [hml]; exact hl.1.symm) hts hown hlk hno xTabIA kX0_state_3 kX0_state_4 xinX0_state_60 (by decide) hE dX0_state_27 dX0_state_30 dX0_state_31 dX0_state_33 dX0_state_36 (Nat.le_of_ble_eq_true rfl) (Nat.le_of_ble_eq_true rfl) (Nat.le_of_ble_eq_true rfl) (Nat.le_of_ble_eq_true rfl) hK hP hD hS (by decide) rfl
    refine lv_if_lt (tgt := 27) hx hb dX0_state_18 (by decide) (fun c18 => ?_) (fun c18 => ?_)
    · have hR := hR.trans (if_pos c18)
      exact hj27 _ _ ls hP hD hS (lv_sub hl [0] rfl) hR
    · have hR := hR.trans (if_neg c18)
      refine lv_iload_n hx hb dX0_state_21 rfl (lv_at hl 2 rfl) ?_
      refine lv_bipush (v := 15) hx hb dX0_state_22 (by decide) ?_
      refine lv_icmp_le (tgt := 37) hx hb dX0_state_24 (by decide) (fun c24 => ?_) (fun c24 => ?_)
      · have hR := hR.trans (if_pos c24)
        refine lv_iload_n hx hb dX0_state_37 rfl (lv_at hl 3 rfl) ?_
        refine lv_iconst (v := (-1)) hx hb dX0_state_38 (by decide) ?_
        have hj59 : ∀ (H : Heap) (locs : List Loc) (ls : Array Slot), va_P D vwCl (wB cI o h F A) H → va_D AA (wB cI o h F A) → va_S AA s.heap H locs → lv_has ls 4 [(0, .ref o), (1, .int p1), (2, .int p2), (3, .int p3)] → r0 = qX0_state_j59 F A p1 p2 p3 → W p l e rmX0_state s m [.ref o, .int p1, .int p2, .int p3].toArray below meth c H locs 0 0 (vx_MQ below (xQv D [(cI, .int)] r0.1 (wB cI o h r0.2.1 r0.2.2) AA) (xX D [(cI, .int)] r0.1 (wB cI o h F A) AA) [.ref o, .int p1, .int p2, .int p3].toArray s 1 6 AA) (F0 m 59 ls []) := by
          intro  H locs ls  hP hD hS hl hR
          rw [qX0_state_j59] at hR
          refine lv_aload_n hx hb dX0_state_59 rfl (lv_at hl 0 rfl) ?_
          refine lv_iload_n hx hb dX0_state_60 rfl (lv_at hl 1 rfl) ?_
          refine pB1 hx hb hts in_X0_state hown hK hP hD hS kX0_state_0 dX0_state_61 (fun H locs hP hD hS => ?_)
          refine lv_aload_n hx hb dX0_state_64 rfl (lv_at hl 0 rfl) ?_
          refine lv_iload_n hx hb dX0_state_65 rfl (lv_at hl 2 rfl) ?_
          refine pB2 hx hb hts in_X0_state hown hK hP hD hS kX0_state_1 dX0_state_66 (fun H locs hP hD hS => ?_)
          refine lv_aload_n hx hb dX0_state_69 rfl (lv_at hl 0 rfl) ?_
          refine lv_iload_n hx hb dX0_state_70 rfl (lv_at hl 3 rfl) ?_
          refine pB3 hx hb hts in_X0_state hown hK hP hD hS kX0_state_2 dX0_state_71 (fun H locs hP hD hS => ?_)
          refine lv_aload_n hx hb dX0_state_74 rfl (lv_at hl 0 rfl) ?_
          refine cVv ⟨hx, hb, hml, hown, hts⟩ (mX0_forgetMoves l D cI o h (uf (uf (uf F 1 p1) 2 p2) 3 p3) A  _ rfl) (cwV 0 hts gX0_state_X0_forgetMoves rfl rfl rfl nX0_forgetMoves ⟨Nat.le_of_ble_eq_true rfl, Nat.le_of_ble_eq_true rfl⟩) (va_recv hK hP (ci := 0) (q0 := 0) rfl rfl) rfl hl.1 rfl (Nat.le_of_ble_eq_true rfl) dX0_state_75 ⟨Nat.zero_le _, Nat.zero_le _⟩ hK hP hD hS hA (fun H locs hP hD hS => ?_)
          subst hR
          exact xRv hx hb hr hlk hK hP hD hS rfl dX0_state_78
        refine lv_icmp_eq (tgt := 59) hx hb dX0_state_39 (by decide) (fun c39 => ?_) (fun c39 => ?_)
        · have hR := hR.trans (if_pos c39)
          exact hj59 _ _ ls hP hD hS (lv_sub hl [0, 1, 2, 3] rfl) hR
        · have hR := hR.trans (if_neg c39)
          refine lv_iload_n hx hb dX0_state_42 rfl (lv_at hl 3 rfl) ?_
          refine cSi ⟨hx, hb, hml, hown, hts⟩ (mX0_isSquare l D p3 _ rfl) (va_cwS 1 hts gX0_state_X0_isSquare rfl rfl rfl nX0_isSquare ⟨Nat.le_of_ble_eq_true rfl, Nat.le_of_ble_eq_true rfl⟩) rfl hl.1 rfl (Nat.le_of_ble_eq_true rfl) dX0_state_43 ⟨Nat.zero_le _, Nat.zero_le _⟩ hK hP hS hA (fun H locs hP hS => ?_)
          refine lv_if_ne (tgt := 59) hx hb dX0_state_46 (by decide) (fun c46 => ?_) (fun c46 => ?_)
          · have hR := hR.trans (if_pos c46)
            exact hj59 _ _ ls hP hD hS (lv_sub hl [0, 1, 2, 3] rfl) hR
          · have hR := hR.trans (if_neg (fun z => z c46))
            subst hR
            exact xThrow (u := 2) (is := 80) (text := "passing is neither a square nor NONE") hx hb hst (by rw [hml]; exact hl.1.symm) hts hown hlk hno xTabIA kX0_state_3 kX0_state_4 xinX0_state_60 (by decide) hE dX0_state_49 dX0_state_52 dX0_state_53 dX0_state_55 dX0_state_58 (Nat.le_of_ble_eq_true rfl) (Nat.le_of_ble_eq_true rfl) (Nat.le_of_ble_eq_true rfl) (Nat.le_of_ble_eq_true rfl) hK hP hD hS (by decide) rfl
      · have hR := hR.trans (if_neg c24)
        exact hj27 _ _ ls hP hD hS (lv_sub hl [0] rfl) hR
  · have hR := hR.trans (if_neg (fun z => z c4))
    subst hR
    exact xThrow (u := 2) (is := 76) (text := "no such side") hx hb hst (by rw [hml]; exact hl.1.symm) hts hown hlk hno xTabIA kX0_state_3 kX0_state_4 xinX0_state_60 (by decide) hE dX0_state_7 dX0_state_10 dX0_state_11 dX0_state_13 dX0_state_16 (Nat.le_of_ble_eq_true rfl) (Nat.le_of_ble_eq_true rfl) (Nat.le_of_ble_eq_true rfl) (Nat.le_of_ble_eq_true rfl) hK hP hD hS (by decide) rfl
def qX0_clocks_j11 (F : Nat → Int32) (A : Nat → Nat → Int32) : Int32 × tFA := (2, F, A)
def qX0_clocks_j33 (F : Nat → Int32) (A : Nat → Nat → Int32) : Int32 × tFA := (2, F, A)
def qX0_clocks (F : Nat → Int32) (A : Nat → Nat → Int32) (p1 : Int32) (p2 : Int32) : Int32 × tFA := (if p1 < 0 then (qX0_clocks_j11 F A) else (if p1 ≤ 9999 then (if p2 < 1 then (qX0_clocks_j33 F A) else (if p2 ≤ 9999 then (0, (qX0_forgetMoves (uf (uf F 4 p1) 5 p2) A).1, (qX0_forgetMoves (uf (uf F 4 p1) 5 p2) A).2) else (qX0_clocks_j33 F A))) else (qX0_clocks_j11 F A)))
abbrev rmX0_clocks : Room := { frames := 6, cells := 1, slots := 6, locals := 90 }
theorem nX0_clocks : yX0_clocks.cls = RX0 ∧ yX0_clocks.cls ≠ "java/lang/invoke/MethodHandle" ∧ yX0_clocks.cls ≠ "java/lang/invoke/VarHandle" ∧ (parseMethodDescriptor yX0_clocks.desc).map (fun d => d.parameters.length) = some 2 := by decide +kernel
theorem in_X0_clocks : ∀ w ∈ wsX00, w ∈ wsX0_clocks := fun w h => by
  unfold wsX0_clocks
  exact List.mem_cons_of_mem _ (List.mem_append_left _ (List.mem_append_right _ h))
theorem kX0_clocks_0 : Cond.fieldLink RX0 92 "Board" "half" "I" ∈ wsX0_clocks := by decide +kernel
theorem kX0_clocks_1 : Cond.fieldLink RX0 95 "Board" "full" "I" ∈ wsX0_clocks := by decide +kernel
theorem kX0_clocks_2 : Cond.classLink RX0 56 "java/lang/IllegalArgumentException" ∈ wsX0_clocks := by decide +kernel
theorem kX0_clocks_3 : Cond.initialized "java/lang/IllegalArgumentException" ∈ wsX0_clocks := by decide +kernel
theorem xinX0_clocks_60 : ∀ w ∈ (vx_atS RX0 60 xIA xNames).filter goodWord, w ∈ wsX0_clocks := fun w h => by
  unfold wsX0_clocks
  exact List.mem_cons_of_mem _ (List.mem_append_right _ h)
set_option maxHeartbeats 4000000 in
set_option maxRecDepth 100000 in
theorem mX0_clocks (l : Launch) (D : va_G) (hst : l.stackTraces = false) (cI : ClassId) (o : Nat) (h : Nat → Nat) (F : Nat → Int32) (A : Nat → Nat → Int32) (p1 : Int32) (p2 : Int32) (r0 : Int32 × tFA) (hR : r0 = qX0_clocks F A p1 p2) : xMv l yX0_clocks wsX0_clocks rmX0_clocks D [(cI, .int)] (wB cI o h F A) [.ref o, .int p1, .int p2] r0.1 (wB cI o h r0.2.1 r0.2.2) := by
  intro sz
  refine xMet_of (Qc := fun AA => xQv D [(cI, .int)] r0.1 (wB cI o h r0.2.1 r0.2.2) AA) (XC := fun AA => xX D [(cI, .int)] r0.1 (wB cI o h F A) AA) (cc := cX0_clocks) (maxL := 3) (ret := none) (by decide) rfl (Nat.le_of_ble_eq_true rfl) ?_ sz
  intro p e s m below meth c AA ls hx hb hr hts hown hml hlk hA hK hP hD hS hl hno hE
  have hown : s.vm.findClass RX0 = some m.cls := hown
  have hl : lv_has ls 3 [(0, .ref o), (1, .int p1), (2, .int p2)] := hl
  rw [qX0_clocks] at hR
  refine lv_iload_n hx hb dX0_clocks_0 rfl (lv_at hl 1 rfl) ?_
  have hj11 : ∀ (H : Heap) (locs : List Loc) (ls : Array Slot), va_P D vwCl (wB cI o h F A) H → va_D AA (wB cI o h F A) → va_S AA s.heap H locs → lv_has ls 3 [(0, .ref o)] → r0 = qX0_clocks_j11 F A → W p l e rmX0_clocks s m [.ref o, .int p1, .int p2].toArray below meth c H locs 0 0 (vx_MQ below (xQv D [(cI, .int)] r0.1 (wB cI o h r0.2.1 r0.2.2) AA) (xX D [(cI, .int)] r0.1 (wB cI o h F A) AA) [.ref o, .int p1, .int p2].toArray s 1 6 AA) (F0 m 11 ls []) := by
    intro  H locs ls  hP hD hS hl hR
    rw [qX0_clocks_j11] at hR
    subst hR
    exact xThrow (u := 2) (is := 88) (text := "half is not 0 .. 9999") hx hb hst (by rw [hml]; exact hl.1.symm) hts hown hlk hno xTabIA kX0_clocks_2 kX0_clocks_3 xinX0_clocks_60 (by decide) hE dX0_clocks_11 dX0_clocks_14 dX0_clocks_15 dX0_clocks_17 dX0_clocks_20 (Nat.le_of_ble_eq_true rfl) (Nat.le_of_ble_eq_true rfl) (Nat.le_of_ble_eq_true rfl) (Nat.le_of_ble_eq_true rfl) hK hP hD hS (by decide) rfl
  refine lv_if_lt (tgt := 11) hx hb dX0_clocks_1 (by decide) (fun c1 => ?_) (fun c1 => ?_)
  · have hR := hR.trans (if_pos c1)
    exact hj11 _ _ ls hP hD hS (lv_sub hl [0] rfl) hR
  · have hR := hR.trans (if_neg c1)
    refine lv_iload_n hx hb dX0_clocks_4 rfl (lv_at hl 1 rfl) ?_
    refine lv_sipush (v := 9999) hx hb dX0_clocks_5 (by decide) ?_
    refine lv_icmp_le (tgt := 21) hx hb dX0_clocks_8 (by decide) (fun c8 => ?_) (fun c8 => ?_)
    · have hR := hR.trans (if_pos c8)
      refine lv_iload_n hx hb dX0_clocks_21 rfl (lv_at hl 2 rfl) ?_
      refine lv_iconst (v := 1) hx hb dX0_clocks_22 (by decide) ?_
      have hj33 : ∀ (H : Heap) (locs : List Loc) (ls : Array Slot), va_P D vwCl (wB cI o h F A) H → va_D AA (wB cI o h F A) → va_S AA s.heap H locs → lv_has ls 3 [(0, .ref o)] → r0 = qX0_clocks_j33 F A → W p l e rmX0_clocks s m [.ref o, .int p1, .int p2].toArray below meth c H locs 0 0 (vx_MQ below (xQv D [(cI, .int)] r0.1 (wB cI o h r0.2.1 r0.2.2) AA) (xX D [(cI, .int)] r0.1 (wB cI o h F A) AA) [.ref o, .int p1, .int p2].toArray s 1 6 AA) (F0 m 33 ls []) := by
        intro  H locs ls  hP hD hS hl hR
        rw [qX0_clocks_j33] at hR
        subst hR
        exact xThrow (u := 2) (is := 90) (text := "full is not 1 .. 9999") hx hb hst (by rw [hml]; exact hl.1.symm) hts hown hlk hno xTabIA kX0_clocks_2 kX0_clocks_3 xinX0_clocks_60 (by decide) hE dX0_clocks_33 dX0_clocks_36 dX0_clocks_37 dX0_clocks_39 dX0_clocks_42 (Nat.le_of_ble_eq_true rfl) (Nat.le_of_ble_eq_true rfl) (Nat.le_of_ble_eq_true rfl) (Nat.le_of_ble_eq_true rfl) hK hP hD hS (by decide) rfl
      refine lv_icmp_lt (tgt := 33) hx hb dX0_clocks_23 (by decide) (fun c23 => ?_) (fun c23 => ?_)
      · have hR := hR.trans (if_pos c23)
        exact hj33 _ _ ls hP hD hS (lv_sub hl [0] rfl) hR
      · have hR := hR.trans (if_neg c23)
        refine lv_iload_n hx hb dX0_clocks_26 rfl (lv_at hl 2 rfl) ?_
        refine lv_sipush (v := 9999) hx hb dX0_clocks_27 (by decide) ?_
        refine lv_icmp_le (tgt := 43) hx hb dX0_clocks_30 (by decide) (fun c30 => ?_) (fun c30 => ?_)
        · have hR := hR.trans (if_pos c30)
          refine lv_aload_n hx hb dX0_clocks_43 rfl (lv_at hl 0 rfl) ?_
          refine lv_iload_n hx hb dX0_clocks_44 rfl (lv_at hl 1 rfl) ?_
          refine pB4 hx hb hts in_X0_clocks hown hK hP hD hS kX0_clocks_0 dX0_clocks_45 (fun H locs hP hD hS => ?_)
          refine lv_aload_n hx hb dX0_clocks_48 rfl (lv_at hl 0 rfl) ?_
          refine lv_iload_n hx hb dX0_clocks_49 rfl (lv_at hl 2 rfl) ?_
          refine pB5 hx hb hts in_X0_clocks hown hK hP hD hS kX0_clocks_1 dX0_clocks_50 (fun H locs hP hD hS => ?_)
          refine lv_aload_n hx hb dX0_clocks_53 rfl (lv_at hl 0 rfl) ?_
          refine cVv ⟨hx, hb, hml, hown, hts⟩ (mX0_forgetMoves l D cI o h (uf (uf F 4 p1) 5 p2) A  _ rfl) (cwV 0 hts gX0_clocks_X0_forgetMoves rfl rfl rfl nX0_forgetMoves ⟨Nat.le_of_ble_eq_true rfl, Nat.le_of_ble_eq_true rfl⟩) (va_recv hK hP (ci := 0) (q0 := 0) rfl rfl) rfl hl.1 rfl (Nat.le_of_ble_eq_true rfl) dX0_clocks_54 ⟨Nat.zero_le _, Nat.zero_le _⟩ hK hP hD hS hA (fun H locs hP hD hS => ?_)
          subst hR
          exact xRv hx hb hr hlk hK hP hD hS rfl dX0_clocks_57
        · have hR := hR.trans (if_neg c30)
          exact hj33 _ _ ls hP hD hS (lv_sub hl [0] rfl) hR
    · have hR := hR.trans (if_neg c8)
      exact hj11 _ _ ls hP hD hS (lv_sub hl [0] rfl) hR
def qX0_at (F : Nat → Int32) (A : Nat → Nat → Int32) (p1 : Int32) : Int32 × Int32 := (if ¬ (qX0_isSquare p1) = 0 then (0, (A 0 (Int32.toNatClampNeg p1))) else (1, 0))
abbrev rmX0_at : Room := { frames := 6, cells := 1, slots := 6, locals := 90 }
theorem nX0_at : yX0_at.cls = RX0 ∧ yX0_at.cls ≠ "java/lang/invoke/MethodHandle" ∧ yX0_at.cls ≠ "java/lang/invoke/VarHandle" ∧ (parseMethodDescriptor yX0_at.desc).map (fun d => d.parameters.length) = some 1 := by decide +kernel
theorem in_X0_at : ∀ w ∈ wsX00, w ∈ wsX0_at := fun w h => by
  unfold wsX0_at
  exact List.mem_cons_of_mem _ (List.mem_append_left _ (List.mem_append_right _ h))
theorem kX0_at_0 : Cond.fieldLink RX0 9 "Board" "board" "[I" ∈ wsX0_at := by decide +kernel
theorem kX0_at_1 : Cond.classLink RX0 49 "java/lang/IndexOutOfBoundsException" ∈ wsX0_at := by decide +kernel
theorem kX0_at_2 : Cond.initialized "java/lang/IndexOutOfBoundsException" ∈ wsX0_at := by decide +kernel
theorem xinX0_at_53 : ∀ w ∈ (vx_atS RX0 53 xIO xNames).filter goodWord, w ∈ wsX0_at := fun w h => by
  unfold wsX0_at
  exact List.mem_cons_of_mem _ (List.mem_append_right _ h)
set_option maxHeartbeats 4000000 in
set_option maxRecDepth 100000 in
theorem mX0_at (l : Launch) (D : va_G) (hst : l.stackTraces = false) (cI : ClassId) (o : Nat) (h : Nat → Nat) (F : Nat → Int32) (A : Nat → Nat → Int32) (p1 : Int32) (r0 : Int32 × Int32) (hR : r0 = qX0_at F A p1) : xMi l yX0_at wsX0_at rmX0_at D [(cI, .int)] (wB cI o h F A) [.ref o, .int p1] r0.1 r0.2 (wB cI o h F A) := by
  intro sz
  refine xMet_of (Qc := fun AA => xQi D [(cI, .int)] r0.1 r0.2 (wB cI o h F A) AA) (XC := fun AA => xX D [(cI, .int)] r0.1 (wB cI o h F A) AA) (cc := cX0_at) (maxL := 2) (ret := (some .int)) (by decide) rfl (Nat.le_of_ble_eq_true rfl) ?_ sz
  intro p e s m below meth c AA ls hx hb hr hts hown hml hlk hA hK hP hD hS hl hno hE
  have hown : s.vm.findClass RX0 = some m.cls := hown
  have hl : lv_has ls 2 [(0, .ref o), (1, .int p1)] := hl
  rw [qX0_at] at hR
  refine lv_iload_n hx hb dX0_at_0 rfl (lv_at hl 1 rfl) ?_
  refine cSi ⟨hx, hb, hml, hown, hts⟩ (mX0_isSquare l D p1 _ rfl) (va_cwS 1 hts gX0_at_X0_isSquare rfl rfl rfl nX0_isSquare ⟨Nat.le_of_ble_eq_true rfl, Nat.le_of_ble_eq_true rfl⟩) rfl hl.1 rfl (Nat.le_of_ble_eq_true rfl) dX0_at_1 ⟨Nat.zero_le _, Nat.zero_le _⟩ hK hP hS hA (fun H locs hP hS => ?_)
  refine lv_if_ne (tgt := 17) hx hb dX0_at_4 (by decide) (fun c4 => ?_) (fun c4 => ?_)
  · have hR := hR.trans (if_pos c4)
    refine lv_aload_n hx hb dX0_at_17 rfl (lv_at hl 0 rfl) ?_
    refine gB hx hb hts in_X0_at hown hK hP 0 (by decide) rfl kX0_at_0 dX0_at_18 ?_
    refine lv_iload_n hx hb dX0_at_21 rfl (lv_at hl 1 rfl) ?_
    refine va_iald (f := A 0) hx hb hK hP 1 0 rfl rfl (inSq c4) dX0_at_22 ?_
    subst hR
    exact xRi hx hb hr hlk hK hP hD hS ⟨rfl, rfl⟩ dX0_at_23
  · have hR := hR.trans (if_neg (fun z => z c4))
    subst hR
    exact xThrow (u := 1) (is := 51) (text := "no such square") hx hb hst (by rw [hml]; exact hl.1.symm) hts hown hlk hno xTabIO kX0_at_1 kX0_at_2 xinX0_at_53 (by decide) hE dX0_at_7 dX0_at_10 dX0_at_11 dX0_at_13 dX0_at_16 (Nat.le_of_ble_eq_true rfl) (Nat.le_of_ble_eq_true rfl) (Nat.le_of_ble_eq_true rfl) (Nat.le_of_ble_eq_true rfl) hK hP hD hS (by decide) rfl
def qX0_attackers_w39 (F : Nat → Int32) (A : Nat → Nat → Int32) (x1 : Int32) (x2 : Int32) : Nat → Nat → (Int64) → Int32 × Int64
  | 0, n, x3 => (0, x3)
  | k + 1, n, x3 => (if ¬ (qX0_sideOf (A 0 (Int32.toNatClampNeg (nI n)))) = x2 then (qX0_attackers_w39 F A x1 x2 k (n + 1) x3) else (if (qX0_attacks F A (nI n) x1) = 0 then (qX0_attackers_w39 F A x1 x2 k (n + 1) x3) else (qX0_attackers_w39 F A x1 x2 k (n + 1) (x3 ||| (1 <<< (Int32.toInt64 (nI n) &&& 63))))))
def qX0_attackers (F : Nat → Int32) (A : Nat → Nat → Int32) (p1 : Int32) (p2 : Int32) : Int32 × Int64 := (if ¬ (qX0_isSquare p1) = 0 then (if ¬ (qX0_isSide p2) = 0 then (qX0_attackers_w39 F A p1 p2 64 0 0) else (2, 0)) else (1, 0))
abbrev rmX0_attackers : Room := { frames := 6, cells := 1, slots := 6, locals := 95 }
theorem nX0_attackers : yX0_attackers.cls = RX0 ∧ yX0_attackers.cls ≠ "java/lang/invoke/MethodHandle" ∧ yX0_attackers.cls ≠ "java/lang/invoke/VarHandle" ∧ (parseMethodDescriptor yX0_attackers.desc).map (fun d => d.parameters.length) = some 2 := by decide +kernel
theorem in_X0_attackers : ∀ w ∈ wsX00, w ∈ wsX0_attackers := fun w h => by
  unfold wsX0_attackers
  exact List.mem_cons_of_mem _ (List.mem_append_left _ (List.mem_append_left _ (List.mem_append_right _ h)))
theorem kX0_attackers_0 : Cond.fieldLink RX0 9 "Board" "board" "[I" ∈ wsX0_attackers := by decide +kernel
theorem kX0_attackers_1 : Cond.classLink RX0 56 "java/lang/IllegalArgumentException" ∈ wsX0_attackers := by decide +kernel
theorem kX0_attackers_2 : Cond.initialized "java/lang/IllegalArgumentException" ∈ wsX0_attackers := by decide +kernel
theorem kX0_attackers_3 : Cond.classLink RX0 49 "java/lang/IndexOutOfBoundsException" ∈ wsX0_attackers := by decide +kernel
theorem kX0_attackers_4 : Cond.initialized "java/lang/IndexOutOfBoundsException" ∈ wsX0_attackers := by decide +kernel
theorem xinX0_attackers_53 : ∀ w ∈ (vx_atS RX0 53 xIO xNames).filter goodWord, w ∈ wsX0_attackers := fun w h => by
  unfold wsX0_attackers
  exact List.mem_cons_of_mem _ (List.mem_append_left _ (List.mem_append_right _ h))
theorem xinX0_attackers_60 : ∀ w ∈ (vx_atS RX0 60 xIA xNames).filter goodWord, w ∈ wsX0_attackers := fun w h => by
  unfold wsX0_attackers
  exact List.mem_cons_of_mem _ (List.mem_append_right _ h)
set_option maxHeartbeats 4000000 in
set_option maxRecDepth 100000 in
theorem mX0_attackers (l : Launch) (D : va_G) (hst : l.stackTraces = false) (cI : ClassId) (o : Nat) (h : Nat → Nat) (F : Nat → Int32) (A : Nat → Nat → Int32) (p1 : Int32) (p2 : Int32) (r0 : Int32 × Int64) (hR : r0 = qX0_attackers F A p1 p2) : xMl l yX0_attackers wsX0_attackers rmX0_attackers D [(cI, .int)] (wB cI o h F A) [.ref o, .int p1, .int p2] r0.1 r0.2 (wB cI o h F A) := by
  intro sz
  refine xMet_of (Qc := fun AA => xQl D [(cI, .int)] r0.1 r0.2 (wB cI o h F A) AA) (XC := fun AA => xX D [(cI, .int)] r0.1 (wB cI o h F A) AA) (cc := cX0_attackers) (maxL := 6) (ret := (some .long)) (by decide) rfl (Nat.le_of_ble_eq_true rfl) ?_ sz
  intro p e s m below meth c AA ls hx hb hr hts hown hml hlk hA hK hP hD hS hl hno hE
  have hown : s.vm.findClass RX0 = some m.cls := hown
  have hl : lv_has ls 6 [(0, .ref o), (1, .int p1), (2, .int p2)] := hl
  rw [qX0_attackers] at hR
  refine lv_iload_n hx hb dX0_attackers_0 rfl (lv_at hl 1 rfl) ?_
  refine cSi ⟨hx, hb, hml, hown, hts⟩ (mX0_isSquare l D p1 _ rfl) (va_cwS 1 hts gX0_attackers_X0_isSquare rfl rfl rfl nX0_isSquare ⟨Nat.le_of_ble_eq_true rfl, Nat.le_of_ble_eq_true rfl⟩) rfl hl.1 rfl (Nat.le_of_ble_eq_true rfl) dX0_attackers_1 ⟨Nat.zero_le _, Nat.zero_le _⟩ hK hP hS hA (fun H locs hP hS => ?_)
  refine lv_if_ne (tgt := 17) hx hb dX0_attackers_4 (by decide) (fun c4 => ?_) (fun c4 => ?_)
  · have hR := hR.trans (if_pos c4)
    refine lv_iload_n hx hb dX0_attackers_17 rfl (lv_at hl 2 rfl) ?_
    refine cSi ⟨hx, hb, hml, hown, hts⟩ (mX0_isSide l D p2 _ rfl) (va_cwS 1 hts gX0_attackers_X0_isSide rfl rfl rfl nX0_isSide ⟨Nat.le_of_ble_eq_true rfl, Nat.le_of_ble_eq_true rfl⟩) rfl hl.1 rfl (Nat.le_of_ble_eq_true rfl) dX0_attackers_18 ⟨Nat.zero_le _, Nat.zero_le _⟩ hK hP hS hA (fun H locs hP hS => ?_)
    refine lv_if_ne (tgt := 34) hx hb dX0_attackers_21 (by decide) (fun c21 => ?_) (fun c21 => ?_)
    · have hR := hR.trans (if_pos c21)
      refine lv_lconst (v := 0) hx hb dX0_attackers_34 (by decide) ?_
      refine lv_lstore_n (lv' := [(3, .long 0), (0, .ref o), (1, .int p1), (2, .int p2)]) hx hb dX0_attackers_35 rfl hl (by decide) rfl (fun ls hl => ?_)
      refine lv_iconst (v := 0) hx hb dX0_attackers_36 (by decide) ?_
      refine lv_istore (lv' := [(5, .int 0), (3, .long 0), (0, .ref o), (1, .int p1), (2, .int p2)]) hx hb dX0_attackers_37 hl (by decide) rfl (fun ls hl => ?_)
      have hw39 : ∀ (k n39 : Nat) (v39_3 : Int64) (H : Heap) (locs : List Loc) (ls : Array Slot), n39 + k = 64 → va_P D vwCl (wB cI o h F A) H → va_D AA (wB cI o h F A) → va_S AA s.heap H locs → lv_has ls 6 [(0, .ref o), (1, .int p1), (2, .int p2), (3, .long v39_3), (5, .int (nI n39))] → r0 = qX0_attackers_w39 F A p1 p2 k n39 v39_3 → W p l e rmX0_attackers s m [.ref o, .int p1, .int p2].toArray below meth c H locs 0 0 (vx_MQ below (xQl D [(cI, .int)] r0.1 r0.2 (wB cI o h F A) AA) (xX D [(cI, .int)] r0.1 (wB cI o h F A) AA) [.ref o, .int p1, .int p2].toArray s 1 6 AA) (F0 m 39 ls []) := by
        intro k
        induction k with
        | zero =>
          intro n39 v39_3 H locs ls hn  hP hD hS hl hR
          rw [qX0_attackers_w39] at hR
          refine lv_iload hx hb dX0_attackers_39 (lv_at hl 4 rfl) ?_
          refine lv_bipush (v := 64) hx hb dX0_attackers_41 (by decide) ?_
          refine lv_icmp_ge (tgt := 83) hx hb dX0_attackers_43 (by decide) (fun c43 => ?_) (fun c43 => ?_)
          · skip
            refine lv_lload_n hx hb dX0_attackers_83 rfl (lv_at hl 3 rfl) ?_
            subst hR
            exact xRl hx hb hr hlk hK hP hD hS ⟨rfl, rfl⟩ dX0_attackers_84
          · exact absurd (nI_le (a := 64) (b := n39) (by omega) (by omega)) c43
        | succ k ih =>
          intro n39 v39_3 H locs ls hn  hP hD hS hl hR
          rw [qX0_attackers_w39] at hR
          refine lv_iload hx hb dX0_attackers_39 (lv_at hl 4 rfl) ?_
          refine lv_bipush (v := 64) hx hb dX0_attackers_41 (by decide) ?_
          refine lv_icmp_ge (tgt := 83) hx hb dX0_attackers_43 (by decide) (fun c43 => ?_) (fun c43 => ?_)
          · exact absurd c43 (nI_ge (a := n39) (b := 64) (by omega) (by omega))
          · skip
            refine lv_aload_n hx hb dX0_attackers_46 rfl (lv_at hl 0 rfl) ?_
            refine gB hx hb hts in_X0_attackers hown hK hP 0 (by decide) rfl kX0_attackers_0 dX0_attackers_47 ?_
            refine lv_iload hx hb dX0_attackers_50 (lv_at hl 4 rfl) ?_
            refine va_iald (f := A 0) hx hb hK hP 1 0 rfl rfl (vp_in_nI (by omega) (by decide)) dX0_attackers_52 ?_
            refine cSi ⟨hx, hb, hml, hown, hts⟩ (mX0_sideOf l D (A 0 (Int32.toNatClampNeg (nI n39))) _ rfl) (va_cwS 1 hts gX0_attackers_X0_sideOf rfl rfl rfl nX0_sideOf ⟨Nat.le_of_ble_eq_true rfl, Nat.le_of_ble_eq_true rfl⟩) rfl hl.1 rfl (Nat.le_of_ble_eq_true rfl) dX0_attackers_53 ⟨Nat.zero_le _, Nat.zero_le _⟩ hK hP hS hA (fun H locs hP hS => ?_)
            refine lv_iload_n hx hb dX0_attackers_56 rfl (lv_at hl 2 rfl) ?_
            refine lv_icmp_ne (tgt := 77) hx hb dX0_attackers_57 (by decide) (fun c57 => ?_) (fun c57 => ?_)
            · have hR := hR.trans (if_pos c57)
              refine lv_iinc (v := (nI (n39 + 1))) (lv' := [(5, .int (nI (n39 + 1))), (0, .ref o), (1, .int p1), (2, .int p2), (3, .long v39_3)]) hx hb dX0_attackers_77 hl (k := 4) rfl (nI_1 _) (by decide) rfl (fun ls hl => ?_)
              refine lv_goto (tgt := 39) hx hb dX0_attackers_80 (by decide) ?_
              exact ih (n39 + 1) v39_3 _ _ ls (by omega) hP hD hS (lv_sub hl [1, 2, 3, 4, 0] rfl) hR
            · have hR := hR.trans (if_neg (fun z => z c57))
              refine lv_aload_n hx hb dX0_attackers_60 rfl (lv_at hl 0 rfl) ?_
              refine lv_iload hx hb dX0_attackers_61 (lv_at hl 4 rfl) ?_
              refine lv_iload_n hx hb dX0_attackers_63 rfl (lv_at hl 1 rfl) ?_
              refine cVi ⟨hx, hb, hml, hown, hts⟩ (mX0_attacks l D cI o h F A (nI n39) p1 (vp_in_nI (by omega) (by decide)) _ rfl) (cwV 2 hts gX0_attackers_X0_attacks rfl rfl rfl nX0_attacks ⟨Nat.le_of_ble_eq_true rfl, Nat.le_of_ble_eq_true rfl⟩) (va_recv hK hP (ci := 0) (q0 := 0) rfl rfl) rfl hl.1 rfl (Nat.le_of_ble_eq_true rfl) dX0_attackers_64 ⟨Nat.zero_le _, Nat.zero_le _⟩ hK hP hD hS hA (fun H locs hP hD hS => ?_)
              refine lv_if_eq (tgt := 77) hx hb dX0_attackers_67 (by decide) (fun c67 => ?_) (fun c67 => ?_)
              · have hR := hR.trans (if_pos c67)
                refine lv_iinc (v := (nI (n39 + 1))) (lv' := [(5, .int (nI (n39 + 1))), (0, .ref o), (1, .int p1), (2, .int p2), (3, .long v39_3)]) hx hb dX0_attackers_77 hl (k := 4) rfl (nI_1 _) (by decide) rfl (fun ls hl => ?_)
                refine lv_goto (tgt := 39) hx hb dX0_attackers_80 (by decide) ?_
                exact ih (n39 + 1) v39_3 _ _ ls (by omega) hP hD hS (lv_sub hl [1, 2, 3, 4, 0] rfl) hR
              · have hR := hR.trans (if_neg c67)
                refine lv_lload_n hx hb dX0_attackers_70 rfl (lv_at hl 3 rfl) ?_
                refine lv_lconst (v := 1) hx hb dX0_attackers_71 (by decide) ?_
                refine lv_iload hx hb dX0_attackers_72 (lv_at hl 4 rfl) ?_
                refine lv_lshl hx hb dX0_attackers_74 rfl ?_
                refine lv_lor hx hb dX0_attackers_75 ?_
                refine lv_lstore_n (lv' := [(3, .long (v39_3 ||| (1 <<< (Int32.toInt64 (nI n39) &&& 63)))), (0, .ref o), (1, .int p1), (2, .int p2), (5, .int (nI n39))]) hx hb dX0_attackers_76 rfl hl (by decide) rfl (fun ls hl => ?_)
                refine lv_iinc (v := (nI (n39 + 1))) (lv' := [(5, .int (nI (n39 + 1))), (3, .long (v39_3 ||| (1 <<< (Int32.toInt64 (nI n39) &&& 63)))), (0, .ref o), (1, .int p1), (2, .int p2)]) hx hb dX0_attackers_77 hl (k := 4) rfl (nI_1 _) (by decide) rfl (fun ls hl => ?_)
                refine lv_goto (tgt := 39) hx hb dX0_attackers_80 (by decide) ?_
                exact ih (n39 + 1) (v39_3 ||| (1 <<< (Int32.toInt64 (nI n39) &&& 63))) _ _ ls (by omega) hP hD hS (lv_sub hl [2, 3, 4, 1, 0] rfl) hR
      exact hw39 64 0 0 _ _ ls (by omega) hP hD hS (lv_sub hl [2, 3, 4, 1, 0] rfl) hR
    · have hR := hR.trans (if_neg (fun z => z c21))
      subst hR
      exact xThrow (u := 2) (is := 76) (text := "no such side") hx hb hst (by rw [hml]; exact hl.1.symm) hts hown hlk hno xTabIA kX0_attackers_1 kX0_attackers_2 xinX0_attackers_60 (by decide) hE dX0_attackers_24 dX0_attackers_27 dX0_attackers_28 dX0_attackers_30 dX0_attackers_33 (Nat.le_of_ble_eq_true rfl) (Nat.le_of_ble_eq_true rfl) (Nat.le_of_ble_eq_true rfl) (Nat.le_of_ble_eq_true rfl) hK hP hD hS (by decide) rfl
  · have hR := hR.trans (if_neg (fun z => z c4))
    subst hR
    exact xThrow (u := 1) (is := 51) (text := "no such square") hx hb hst (by rw [hml]; exact hl.1.symm) hts hown hlk hno xTabIO kX0_attackers_3 kX0_attackers_4 xinX0_attackers_53 (by decide) hE dX0_attackers_7 dX0_attackers_10 dX0_attackers_11 dX0_attackers_13 dX0_attackers_16 (Nat.le_of_ble_eq_true rfl) (Nat.le_of_ble_eq_true rfl) (Nat.le_of_ble_eq_true rfl) (Nat.le_of_ble_eq_true rfl) hK hP hD hS (by decide) rfl
def qX0_attackersN_w39 (F : Nat → Int32) (A : Nat → Nat → Int32) (x1 : Int32) (x2 : Int32) : Nat → Nat → (Int64) → Int64
  | 0, n, x3 => x3
  | k + 1, n, x3 => (if ¬ (qX0_sideOf (A 0 (Int32.toNatClampNeg (nI n)))) = x2 then (qX0_attackersN_w39 F A x1 x2 k (n + 1) x3) else (if (qX0_attacks F A (nI n) x1) = 0 then (qX0_attackersN_w39 F A x1 x2 k (n + 1) x3) else (qX0_attackersN_w39 F A x1 x2 k (n + 1) (x3 ||| (1 <<< (Int32.toInt64 (nI n) &&& 63))))))
def qX0_attackersN (F : Nat → Int32) (A : Nat → Nat → Int32) (p1 : Int32) (p2 : Int32) : Int64 := (if ¬ (qX0_isSquare p1) = 0 then (if ¬ (qX0_isSide p2) = 0 then (qX0_attackersN_w39 F A p1 p2 64 0 0) else 0) else 0)
abbrev rmX0_attackersN : Room := { frames := 4, cells := 0, slots := 0, locals := 95 }
theorem kX0_attackersN_0 : Cond.fieldLink RX0 9 "Board" "board" "[I" ∈ wsX0_attackers := by decide +kernel
set_option maxHeartbeats 4000000 in
set_option maxRecDepth 100000 in
theorem mX0_attackersN (l : Launch) (D : va_G) (cI : ClassId) (o : Nat) (h : Nat → Nat) (F : Nat → Int32) (A : Nat → Nat → Int32) (p1 : Int32) (p2 : Int32) (hsq : ¬ qX0_isSquare p1 = 0) (hsd : ¬ qX0_isSide p2 = 0) (r0 : Int64) (hR : r0 = qX0_attackersN F A p1 p2) : cMl l yX0_attackers wsX0_attackers rmX0_attackersN D [(cI, .int)] (wB cI o h F A) [.ref o, .int p1, .int p2] r0 (wB cI o h F A) := by
  intro sz
  refine cMet_of (Qc := fun AA => cQl D [(cI, .int)] r0 (wB cI o h F A) AA) (cc := cX0_attackers) (maxL := 6) (ret := (some .long)) (by decide) rfl (Nat.le_of_ble_eq_true rfl) ?_ sz
  intro p e s m below meth c AA ls hx hb hr hts hown hml hlk hA hK hP hD hS hl
  have hown : s.vm.findClass RX0 = some m.cls := hown
  have hl : lv_has ls 6 [(0, .ref o), (1, .int p1), (2, .int p2)] := hl
  rw [qX0_attackersN] at hR
  refine lv_iload_n hx hb dX0_attackers_0 rfl (lv_at hl 1 rfl) ?_
  refine cSi ⟨hx, hb, hml, hown, hts⟩ (mX0_isSquare l D p1 _ rfl) (va_cwS 1 hts gX0_attackers_X0_isSquare rfl rfl rfl nX0_isSquare ⟨Nat.le_of_ble_eq_true rfl, Nat.le_of_ble_eq_true rfl⟩) rfl hl.1 rfl (Nat.le_of_ble_eq_true rfl) dX0_attackers_1 ⟨Nat.zero_le _, Nat.zero_le _⟩ hK hP hS hA (fun H locs hP hS => ?_)
  refine lv_if_ne (tgt := 17) hx hb dX0_attackers_4 (by decide) (fun c4 => ?_) (fun c4 => ?_)
  · have hR := hR.trans (if_pos c4)
    refine lv_iload_n hx hb dX0_attackers_17 rfl (lv_at hl 2 rfl) ?_
    refine cSi ⟨hx, hb, hml, hown, hts⟩ (mX0_isSide l D p2 _ rfl) (va_cwS 1 hts gX0_attackers_X0_isSide rfl rfl rfl nX0_isSide ⟨Nat.le_of_ble_eq_true rfl, Nat.le_of_ble_eq_true rfl⟩) rfl hl.1 rfl (Nat.le_of_ble_eq_true rfl) dX0_attackers_18 ⟨Nat.zero_le _, Nat.zero_le _⟩ hK hP hS hA (fun H locs hP hS => ?_)
    refine lv_if_ne (tgt := 34) hx hb dX0_attackers_21 (by decide) (fun c21 => ?_) (fun c21 => ?_)
    · have hR := hR.trans (if_pos c21)
      refine lv_lconst (v := 0) hx hb dX0_attackers_34 (by decide) ?_
      refine lv_lstore_n (lv' := [(3, .long 0), (0, .ref o), (1, .int p1), (2, .int p2)]) hx hb dX0_attackers_35 rfl hl (by decide) rfl (fun ls hl => ?_)
      refine lv_iconst (v := 0) hx hb dX0_attackers_36 (by decide) ?_
      refine lv_istore (lv' := [(5, .int 0), (3, .long 0), (0, .ref o), (1, .int p1), (2, .int p2)]) hx hb dX0_attackers_37 hl (by decide) rfl (fun ls hl => ?_)
      have hw39 : ∀ (k n39 : Nat) (v39_3 : Int64) (H : Heap) (locs : List Loc) (ls : Array Slot), n39 + k = 64 → va_P D vwCl (wB cI o h F A) H → va_D AA (wB cI o h F A) → va_S AA s.heap H locs → lv_has ls 6 [(0, .ref o), (1, .int p1), (2, .int p2), (3, .long v39_3), (5, .int (nI n39))] → r0 = qX0_attackersN_w39 F A p1 p2 k n39 v39_3 → W p l e rmX0_attackersN s m [.ref o, .int p1, .int p2].toArray below meth c H locs 0 0 (MQ below (cQl D [(cI, .int)] r0 (wB cI o h F A) AA) [.ref o, .int p1, .int p2].toArray s 0 0 AA) (F0 m 39 ls []) := by
        intro k
        induction k with
        | zero =>
          intro n39 v39_3 H locs ls hn  hP hD hS hl hR
          rw [qX0_attackersN_w39] at hR
          refine lv_iload hx hb dX0_attackers_39 (lv_at hl 4 rfl) ?_
          refine lv_bipush (v := 64) hx hb dX0_attackers_41 (by decide) ?_
          refine lv_icmp_ge (tgt := 83) hx hb dX0_attackers_43 (by decide) (fun c43 => ?_) (fun c43 => ?_)
          · skip
            refine lv_lload_n hx hb dX0_attackers_83 rfl (lv_at hl 3 rfl) ?_
            exact cRl hx hb hr hlk hK hP hD hS hR.symm dX0_attackers_84
          · exact absurd (nI_le (a := 64) (b := n39) (by omega) (by omega)) c43
        | succ k ih =>
          intro n39 v39_3 H locs ls hn  hP hD hS hl hR
          rw [qX0_attackersN_w39] at hR
          refine lv_iload hx hb dX0_attackers_39 (lv_at hl 4 rfl) ?_
          refine lv_bipush (v := 64) hx hb dX0_attackers_41 (by decide) ?_
          refine lv_icmp_ge (tgt := 83) hx hb dX0_attackers_43 (by decide) (fun c43 => ?_) (fun c43 => ?_)
          · exact absurd c43 (nI_ge (a := n39) (b := 64) (by omega) (by omega))
          · skip
            refine lv_aload_n hx hb dX0_attackers_46 rfl (lv_at hl 0 rfl) ?_
            refine gB hx hb hts in_X0_attackers hown hK hP 0 (by decide) rfl kX0_attackersN_0 dX0_attackers_47 ?_
            refine lv_iload hx hb dX0_attackers_50 (lv_at hl 4 rfl) ?_
            refine va_iald (f := A 0) hx hb hK hP 1 0 rfl rfl (vp_in_nI (by omega) (by decide)) dX0_attackers_52 ?_
            refine cSi ⟨hx, hb, hml, hown, hts⟩ (mX0_sideOf l D (A 0 (Int32.toNatClampNeg (nI n39))) _ rfl) (va_cwS 1 hts gX0_attackers_X0_sideOf rfl rfl rfl nX0_sideOf ⟨Nat.le_of_ble_eq_true rfl, Nat.le_of_ble_eq_true rfl⟩) rfl hl.1 rfl (Nat.le_of_ble_eq_true rfl) dX0_attackers_53 ⟨Nat.zero_le _, Nat.zero_le _⟩ hK hP hS hA (fun H locs hP hS => ?_)
            refine lv_iload_n hx hb dX0_attackers_56 rfl (lv_at hl 2 rfl) ?_
            refine lv_icmp_ne (tgt := 77) hx hb dX0_attackers_57 (by decide) (fun c57 => ?_) (fun c57 => ?_)
            · have hR := hR.trans (if_pos c57)
              refine lv_iinc (v := (nI (n39 + 1))) (lv' := [(5, .int (nI (n39 + 1))), (0, .ref o), (1, .int p1), (2, .int p2), (3, .long v39_3)]) hx hb dX0_attackers_77 hl (k := 4) rfl (nI_1 _) (by decide) rfl (fun ls hl => ?_)
              refine lv_goto (tgt := 39) hx hb dX0_attackers_80 (by decide) ?_
              exact ih (n39 + 1) v39_3 _ _ ls (by omega) hP hD hS (lv_sub hl [1, 2, 3, 4, 0] rfl) hR
            · have hR := hR.trans (if_neg (fun z => z c57))
              refine lv_aload_n hx hb dX0_attackers_60 rfl (lv_at hl 0 rfl) ?_
              refine lv_iload hx hb dX0_attackers_61 (lv_at hl 4 rfl) ?_
              refine lv_iload_n hx hb dX0_attackers_63 rfl (lv_at hl 1 rfl) ?_
              refine cVi ⟨hx, hb, hml, hown, hts⟩ (mX0_attacks l D cI o h F A (nI n39) p1 (vp_in_nI (by omega) (by decide)) _ rfl) (cwV 2 hts gX0_attackers_X0_attacks rfl rfl rfl nX0_attacks ⟨Nat.le_of_ble_eq_true rfl, Nat.le_of_ble_eq_true rfl⟩) (va_recv hK hP (ci := 0) (q0 := 0) rfl rfl) rfl hl.1 rfl (Nat.le_of_ble_eq_true rfl) dX0_attackers_64 ⟨Nat.zero_le _, Nat.zero_le _⟩ hK hP hD hS hA (fun H locs hP hD hS => ?_)
              refine lv_if_eq (tgt := 77) hx hb dX0_attackers_67 (by decide) (fun c67 => ?_) (fun c67 => ?_)
              · have hR := hR.trans (if_pos c67)
                refine lv_iinc (v := (nI (n39 + 1))) (lv' := [(5, .int (nI (n39 + 1))), (0, .ref o), (1, .int p1), (2, .int p2), (3, .long v39_3)]) hx hb dX0_attackers_77 hl (k := 4) rfl (nI_1 _) (by decide) rfl (fun ls hl => ?_)
                refine lv_goto (tgt := 39) hx hb dX0_attackers_80 (by decide) ?_
                exact ih (n39 + 1) v39_3 _ _ ls (by omega) hP hD hS (lv_sub hl [1, 2, 3, 4, 0] rfl) hR
              · have hR := hR.trans (if_neg c67)
                refine lv_lload_n hx hb dX0_attackers_70 rfl (lv_at hl 3 rfl) ?_
                refine lv_lconst (v := 1) hx hb dX0_attackers_71 (by decide) ?_
                refine lv_iload hx hb dX0_attackers_72 (lv_at hl 4 rfl) ?_
                refine lv_lshl hx hb dX0_attackers_74 rfl ?_
                refine lv_lor hx hb dX0_attackers_75 ?_
                refine lv_lstore_n (lv' := [(3, .long (v39_3 ||| (1 <<< (Int32.toInt64 (nI n39) &&& 63)))), (0, .ref o), (1, .int p1), (2, .int p2), (5, .int (nI n39))]) hx hb dX0_attackers_76 rfl hl (by decide) rfl (fun ls hl => ?_)
                refine lv_iinc (v := (nI (n39 + 1))) (lv' := [(5, .int (nI (n39 + 1))), (3, .long (v39_3 ||| (1 <<< (Int32.toInt64 (nI n39) &&& 63)))), (0, .ref o), (1, .int p1), (2, .int p2)]) hx hb dX0_attackers_77 hl (k := 4) rfl (nI_1 _) (by decide) rfl (fun ls hl => ?_)
                refine lv_goto (tgt := 39) hx hb dX0_attackers_80 (by decide) ?_
                exact ih (n39 + 1) (v39_3 ||| (1 <<< (Int32.toInt64 (nI n39) &&& 63))) _ _ ls (by omega) hP hD hS (lv_sub hl [2, 3, 4, 1, 0] rfl) hR
      exact hw39 64 0 0 _ _ ls (by omega) hP hD hS (lv_sub hl [2, 3, 4, 1, 0] rfl) hR
    · have hR := hR.trans (if_neg (fun z => z c21))
      exact absurd c21 hsd
  · have hR := hR.trans (if_neg (fun z => z c4))
    exact absurd c4 hsq
def qX0_check_w11 (F : Nat → Int32) (A : Nat → Nat → Int32) (x1 : Int32) : Nat → Nat → Int32
  | 0, n => 0
  | k + 1, n => (if ¬ (A 0 (Int32.toNatClampNeg (nI n))) = (qX0_pieceOf 6 x1) then (qX0_check_w11 F A x1 k (n + 1)) else (if (lg_cmp (qX0_attackersN F A (nI n) (qX0_otherThan x1)) 0) = 0 then (qX0_check_w11 F A x1 k (n + 1)) else 1))
def qX0_check (F : Nat → Int32) (A : Nat → Nat → Int32) (p1 : Int32) : Int32 := (if ¬ (qX0_isSide p1) = 0 then (qX0_check_w11 F A p1 64 0) else 0)
abbrev rmX0_check : Room := { frames := 5, cells := 0, slots := 0, locals := 120 }
theorem nX0_check : yX0_check.cls = RX0 ∧ yX0_check.cls ≠ "java/lang/invoke/MethodHandle" ∧ yX0_check.cls ≠ "java/lang/invoke/VarHandle" ∧ (parseMethodDescriptor yX0_check.desc).map (fun d => d.parameters.length) = some 1 := by decide +kernel
theorem in_X0_check : ∀ w ∈ wsX00, w ∈ wsX0_check := fun w h => by
  unfold wsX0_check
  exact List.mem_cons_of_mem _ (List.mem_append_left _ (List.mem_append_left _ (List.mem_append_right _ h)))
theorem kX0_check_0 : Cond.fieldLink RX0 9 "Board" "board" "[I" ∈ wsX0_check := by decide +kernel
set_option maxHeartbeats 4000000 in
set_option maxRecDepth 100000 in
theorem mX0_check (l : Launch) (D : va_G) (cI : ClassId) (o : Nat) (h : Nat → Nat) (F : Nat → Int32) (A : Nat → Nat → Int32) (p1 : Int32) (r0 : Int32) (hR : r0 = qX0_check F A p1) : cMi l yX0_check wsX0_check rmX0_check D [(cI, .int)] (wB cI o h F A) [.ref o, .int p1] r0 (wB cI o h F A) := by
  intro sz
  refine cMet_of (Qc := fun AA => cQi D [(cI, .int)] r0 (wB cI o h F A) AA) (cc := cX0_check) (maxL := 3) (ret := (some .boolean)) (by decide) rfl (Nat.le_of_ble_eq_true rfl) ?_ sz
  intro p e s m below meth c AA ls hx hb hr hts hown hml hlk hA hK hP hD hS hl
  have hown : s.vm.findClass RX0 = some m.cls := hown
  have hl : lv_has ls 3 [(0, .ref o), (1, .int p1)] := hl
  rw [qX0_check] at hR
  refine lv_iload_n hx hb dX0_check_0 rfl (lv_at hl 1 rfl) ?_
  refine cSi ⟨hx, hb, hml, hown, hts⟩ (mX0_isSide l D p1 _ rfl) (va_cwS 1 hts gX0_check_X0_isSide rfl rfl rfl nX0_isSide ⟨Nat.le_of_ble_eq_true rfl, Nat.le_of_ble_eq_true rfl⟩) rfl hl.1 rfl (Nat.le_of_ble_eq_true rfl) dX0_check_1 ⟨Nat.zero_le _, Nat.zero_le _⟩ hK hP hS hA (fun H locs hP hS => ?_)
  refine lv_if_ne (tgt := 9) hx hb dX0_check_4 (by decide) (fun c4 => ?_) (fun c4 => ?_)
  · have hR := hR.trans (if_pos c4)
    refine lv_iconst (v := 0) hx hb dX0_check_9 (by decide) ?_
    refine lv_istore_n (lv' := [(2, .int 0), (0, .ref o), (1, .int p1)]) hx hb dX0_check_10 rfl hl (by decide) rfl (fun ls hl => ?_)
    have hw11 : ∀ (k n11 : Nat) (H : Heap) (locs : List Loc) (ls : Array Slot), n11 + k = 64 → va_P D vwCl (wB cI o h F A) H → va_D AA (wB cI o h F A) → va_S AA s.heap H locs → lv_has ls 3 [(0, .ref o), (1, .int p1), (2, .int (nI n11))] → r0 = qX0_check_w11 F A p1 k n11 → W p l e rmX0_check s m [.ref o, .int p1].toArray below meth c H locs 0 0 (MQ below (cQi D [(cI, .int)] r0 (wB cI o h F A) AA) [.ref o, .int p1].toArray s 0 0 AA) (F0 m 11 ls []) := by
      intro k
      induction k with
      | zero =>
        intro n11  H locs ls hn  hP hD hS hl hR
        rw [qX0_check_w11] at hR
        refine lv_iload_n hx hb dX0_check_11 rfl (lv_at hl 2 rfl) ?_
        refine lv_bipush (v := 64) hx hb dX0_check_12 (by decide) ?_
        refine lv_icmp_ge (tgt := 54) hx hb dX0_check_14 (by decide) (fun c14 => ?_) (fun c14 => ?_)
        · skip
          refine lv_iconst (v := 0) hx hb dX0_check_54 (by decide) ?_
          exact cRz hx hb hr hlk hK hP hD hS (Or.inl rfl) hR.symm dX0_check_55
        · exact absurd (nI_le (a := 64) (b := n11) (by omega) (by omega)) c14
      | succ k ih =>
        intro n11  H locs ls hn  hP hD hS hl hR
        rw [qX0_check_w11] at hR
        refine lv_iload_n hx hb dX0_check_11 rfl (lv_at hl 2 rfl) ?_
        refine lv_bipush (v := 64) hx hb dX0_check_12 (by decide) ?_
        refine lv_icmp_ge (tgt := 54) hx hb dX0_check_14 (by decide) (fun c14 => ?_) (fun c14 => ?_)
        · exact absurd c14 (nI_ge (a := n11) (b := 64) (by omega) (by omega))
        · skip
          refine lv_aload_n hx hb dX0_check_17 rfl (lv_at hl 0 rfl) ?_
          refine gB hx hb hts in_X0_check hown hK hP 0 (by decide) rfl kX0_check_0 dX0_check_18 ?_
          refine lv_iload_n hx hb dX0_check_21 rfl (lv_at hl 2 rfl) ?_
          refine va_iald (f := A 0) hx hb hK hP 1 0 rfl rfl (vp_in_nI (by omega) (by decide)) dX0_check_22 ?_
          refine lv_bipush (v := 6) hx hb dX0_check_23 (by decide) ?_
          refine lv_iload_n hx hb dX0_check_25 rfl (lv_at hl 1 rfl) ?_
          refine cSi ⟨hx, hb, hml, hown, hts⟩ (mX0_pieceOf l D 6 p1 _ rfl) (va_cwS 2 hts gX0_check_X0_pieceOf rfl rfl rfl nX0_pieceOf ⟨Nat.le_of_ble_eq_true rfl, Nat.le_of_ble_eq_true rfl⟩) rfl hl.1 rfl (Nat.le_of_ble_eq_true rfl) dX0_check_26 ⟨Nat.zero_le _, Nat.zero_le _⟩ hK hP hS hA (fun H locs hP hS => ?_)
          refine lv_icmp_ne (tgt := 48) hx hb dX0_check_29 (by decide) (fun c29 => ?_) (fun c29 => ?_)
          · have hR := hR.trans (if_pos c29)
            refine lv_iinc (v := (nI (n11 + 1))) (lv' := [(2, .int (nI (n11 + 1))), (0, .ref o), (1, .int p1)]) hx hb dX0_check_48 hl (k := 2) rfl (nI_1 _) (by decide) rfl (fun ls hl => ?_)
            refine lv_goto (tgt := 11) hx hb dX0_check_51 (by decide) ?_
            exact ih (n11 + 1) _ _ ls (by omega) hP hD hS (lv_sub hl [1, 2, 0] rfl) hR
          · have hR := hR.trans (if_neg (fun z => z c29))
            refine lv_aload_n hx hb dX0_check_32 rfl (lv_at hl 0 rfl) ?_
            refine lv_iload_n hx hb dX0_check_33 rfl (lv_at hl 2 rfl) ?_
            refine lv_iload_n hx hb dX0_check_34 rfl (lv_at hl 1 rfl) ?_
            refine cSi ⟨hx, hb, hml, hown, hts⟩ (mX0_otherThan l D p1 _ rfl) (va_cwS 1 hts gX0_check_X0_otherThan rfl rfl rfl nX0_otherThan ⟨Nat.le_of_ble_eq_true rfl, Nat.le_of_ble_eq_true rfl⟩) rfl hl.1 rfl (Nat.le_of_ble_eq_true rfl) dX0_check_35 ⟨Nat.zero_le _, Nat.zero_le _⟩ hK hP hS hA (fun H locs hP hS => ?_)
            refine cVl ⟨hx, hb, hml, hown, hts⟩ (mX0_attackersN l D cI o h F A (nI n11) (qX0_otherThan p1) (sqOf (by omega)) (sdOther c4) _ rfl) (cwV 2 hts gX0_check_X0_attackers rfl rfl rfl nX0_attackers ⟨Nat.le_of_ble_eq_true rfl, Nat.le_of_ble_eq_true rfl⟩) (va_recv hK hP (ci := 0) (q0 := 0) rfl rfl) rfl hl.1 rfl (Nat.le_of_ble_eq_true rfl) dX0_check_38 ⟨Nat.zero_le _, Nat.zero_le _⟩ hK hP hD hS hA (fun H locs hP hD hS => ?_)
            refine lv_lconst (v := 0) hx hb dX0_check_41 (by decide) ?_
            refine W.lcmp hx hb dX0_check_42 ?_
            refine lv_if_eq (tgt := 48) hx hb dX0_check_43 (by decide) (fun c43 => ?_) (fun c43 => ?_)
            · have hR := hR.trans (if_pos c43)
              refine lv_iinc (v := (nI (n11 + 1))) (lv' := [(2, .int (nI (n11 + 1))), (0, .ref o), (1, .int p1)]) hx hb dX0_check_48 hl (k := 2) rfl (nI_1 _) (by decide) rfl (fun ls hl => ?_)
              refine lv_goto (tgt := 11) hx hb dX0_check_51 (by decide) ?_
              exact ih (n11 + 1) _ _ ls (by omega) hP hD hS (lv_sub hl [1, 2, 0] rfl) hR
            · have hR := hR.trans (if_neg c43)
              refine lv_iconst (v := 1) hx hb dX0_check_46 (by decide) ?_
              exact cRz hx hb hr hlk hK hP hD hS (Or.inr rfl) hR.symm dX0_check_47
    exact hw11 64 0 _ _ ls (by omega) hP hD hS (lv_sub hl [1, 2, 0] rfl) hR
  · have hR := hR.trans (if_neg (fun z => z c4))
    refine lv_iconst (v := 0) hx hb dX0_check_7 (by decide) ?_
    exact cRz hx hb hr hlk hK hP hD hS (Or.inl rfl) hR.symm dX0_check_8
