theorem inMd {y : Int32} (hm : ∃ k : Nat, k < 600 ∧ y = nI k) : vp_in y 600 := by
  obtain ⟨k, hk, rfl⟩ := hm
  exact vp_in_nI hk (by decide)
def qX0_forgetMoves (F : Nat → Int32) (A : Nat → Nat → Int32)  : tFA := ((uf F 6 0), A)
abbrev rmX0_forgetMoves : Room := { frames := 0, cells := 0, slots := 0, locals := 0 }
theorem nX0_forgetMoves : yX0_forgetMoves.cls = RX0 ∧ yX0_forgetMoves.cls ≠ "java/lang/invoke/MethodHandle" ∧ yX0_forgetMoves.cls ≠ "java/lang/invoke/VarHandle" ∧ (parseMethodDescriptor yX0_forgetMoves.desc).map (fun d => d.parameters.length) = some 0 := by decide +kernel
theorem in_X0_forgetMoves : ∀ w ∈ wsX00, w ∈ wsX0_forgetMoves := fun w h => by
  unfold wsX0_forgetMoves
  exact List.mem_cons_of_mem _ (List.mem_append_right _ h)
theorem kX0_forgetMoves_0 : Cond.fieldLink RX0 127 "Board" "made" "I" ∈ wsX0_forgetMoves := by decide +kernel
set_option maxHeartbeats 4000000 in
set_option maxRecDepth 100000 in
theorem mX0_forgetMoves (l : Launch) (D : va_G) (cI : ClassId) (o : Nat) (h : Nat → Nat) (F : Nat → Int32) (A : Nat → Nat → Int32)  (r0 : tFA) (hR : r0 = qX0_forgetMoves F A) : cMv l yX0_forgetMoves wsX0_forgetMoves rmX0_forgetMoves D [(cI, .int)] (wB cI o h F A) [.ref o] (wB cI o h r0.1 r0.2) := by
  intro sz
  refine cMet_of (Qc := fun AA => cQv D [(cI, .int)] (wB cI o h r0.1 r0.2) AA) (cc := cX0_forgetMoves) (maxL := 1) (ret := none) (by decide) rfl (Nat.le_of_ble_eq_true rfl) ?_ sz
  intro p e s m below meth c AA ls hx hb hr hts hown hml hlk hA hK hP hD hS hl
  have hown : s.vm.findClass RX0 = some m.cls := hown
  have hl : lv_has ls 1 [(0, .ref o)] := hl
  rw [qX0_forgetMoves] at hR
  refine lv_aload_n hx hb dX0_forgetMoves_0 rfl (lv_at hl 0 rfl) ?_
  refine lv_iconst (v := 0) hx hb dX0_forgetMoves_1 (by decide) ?_
  refine pB6 hx hb hts in_X0_forgetMoves hown hK hP hD hS kX0_forgetMoves_0 dX0_forgetMoves_2 (fun H locs hP hD hS => ?_)
  subst hR
  exact cRv hx hb hr hlk hK hP hD hS dX0_forgetMoves_5
def qX0_setAllAsAtFirst_w2 (F : Nat → Int32) : Nat → Nat → (Nat → Nat → Int32) → tFA
  | 0, n, A => ((qX0_forgetMoves (uf (uf (uf (uf (uf F 1 0) 2 0) 3 (-1)) 4 0) 5 1) A).1, (qX0_forgetMoves (uf (uf (uf (uf (uf F 1 0) 2 0) 3 (-1)) 4 0) 5 1) A).2)
  | k + 1, n, A => (qX0_setAllAsAtFirst_w2 F k (n + 1) (ua A 0 (Int32.toNatClampNeg (nI n)) 0))
def qX0_setAllAsAtFirst (F : Nat → Int32) (A : Nat → Nat → Int32)  : tFA := (qX0_setAllAsAtFirst_w2 F 64 0 A)
abbrev rmX0_setAllAsAtFirst : Room := { frames := 1, cells := 0, slots := 0, locals := 20 }
theorem nX0_setAllAsAtFirst : yX0_setAllAsAtFirst.cls = RX0 ∧ yX0_setAllAsAtFirst.cls ≠ "java/lang/invoke/MethodHandle" ∧ yX0_setAllAsAtFirst.cls ≠ "java/lang/invoke/VarHandle" ∧ (parseMethodDescriptor yX0_setAllAsAtFirst.desc).map (fun d => d.parameters.length) = some 0 := by decide +kernel
theorem in_X0_setAllAsAtFirst : ∀ w ∈ wsX00, w ∈ wsX0_setAllAsAtFirst := fun w h => by
  unfold wsX0_setAllAsAtFirst
  exact List.mem_cons_of_mem _ (List.mem_append_right _ h)
theorem kX0_setAllAsAtFirst_0 : Cond.fieldLink RX0 82 "Board" "side" "I" ∈ wsX0_setAllAsAtFirst := by decide +kernel
theorem kX0_setAllAsAtFirst_1 : Cond.fieldLink RX0 41 "Board" "rights" "I" ∈ wsX0_setAllAsAtFirst := by decide +kernel
theorem kX0_setAllAsAtFirst_2 : Cond.fieldLink RX0 85 "Board" "passing" "I" ∈ wsX0_setAllAsAtFirst := by decide +kernel
theorem kX0_setAllAsAtFirst_3 : Cond.fieldLink RX0 92 "Board" "half" "I" ∈ wsX0_setAllAsAtFirst := by decide +kernel
theorem kX0_setAllAsAtFirst_4 : Cond.fieldLink RX0 95 "Board" "full" "I" ∈ wsX0_setAllAsAtFirst := by decide +kernel
theorem kX0_setAllAsAtFirst_5 : Cond.fieldLink RX0 9 "Board" "board" "[I" ∈ wsX0_setAllAsAtFirst := by decide +kernel
set_option maxHeartbeats 4000000 in
set_option maxRecDepth 100000 in
theorem mX0_setAllAsAtFirst (l : Launch) (D : va_G) (cI : ClassId) (o : Nat) (h : Nat → Nat) (F : Nat → Int32) (A : Nat → Nat → Int32)  (r0 : tFA) (hR : r0 = qX0_setAllAsAtFirst F A) : cMv l yX0_setAllAsAtFirst wsX0_setAllAsAtFirst rmX0_setAllAsAtFirst D [(cI, .int)] (wB cI o h F A) [.ref o] (wB cI o h r0.1 r0.2) := by
  intro sz
  refine cMet_of (Qc := fun AA => cQv D [(cI, .int)] (wB cI o h r0.1 r0.2) AA) (cc := cX0_setAllAsAtFirst) (maxL := 2) (ret := none) (by decide) rfl (Nat.le_of_ble_eq_true rfl) ?_ sz
  intro p e s m below meth c AA ls hx hb hr hts hown hml hlk hA hK hP hD hS hl
  have hown : s.vm.findClass RX0 = some m.cls := hown
  have hl : lv_has ls 2 [(0, .ref o)] := hl
  rw [qX0_setAllAsAtFirst] at hR
  refine lv_iconst (v := 0) hx hb dX0_setAllAsAtFirst_0 (by decide) ?_
  refine lv_istore_n (lv' := [(1, .int 0), (0, .ref o)]) hx hb dX0_setAllAsAtFirst_1 rfl hl (by decide) rfl (fun ls hl => ?_)
  have hw2 : ∀ (k n2 : Nat) (A2 : Nat → Nat → Int32) (H : Heap) (locs : List Loc) (ls : Array Slot), n2 + k = 64 → va_P D vwCl (wB cI o h F A2) H → va_D AA (wB cI o h F A2) → va_S AA s.heap H locs → lv_has ls 2 [(0, .ref o), (1, .int (nI n2))] → r0 = qX0_setAllAsAtFirst_w2 F k n2 A2 → W p l e rmX0_setAllAsAtFirst s m [.ref o].toArray below meth c H locs 0 0 (MQ below (cQv D [(cI, .int)] (wB cI o h r0.1 r0.2) AA) [.ref o].toArray s 0 0 AA) (F0 m 2 ls []) := by
    intro k
    induction k with
    | zero =>
      intro n2 A2 H locs ls hn  hP hD hS hl hR
      rw [qX0_setAllAsAtFirst_w2] at hR
      refine lv_iload_n hx hb dX0_setAllAsAtFirst_2 rfl (lv_at hl 1 rfl) ?_
      refine lv_bipush (v := 64) hx hb dX0_setAllAsAtFirst_3 (by decide) ?_
      refine lv_icmp_ge (tgt := 21) hx hb dX0_setAllAsAtFirst_5 (by decide) (fun c5 => ?_) (fun c5 => ?_)
      · skip
        refine lv_aload_n hx hb dX0_setAllAsAtFirst_21 rfl (lv_at hl 0 rfl) ?_
        refine lv_iconst (v := 0) hx hb dX0_setAllAsAtFirst_22 (by decide) ?_
        refine pB1 hx hb hts in_X0_setAllAsAtFirst hown hK hP hD hS kX0_setAllAsAtFirst_0 dX0_setAllAsAtFirst_23 (fun H locs hP hD hS => ?_)
        refine lv_aload_n hx hb dX0_setAllAsAtFirst_26 rfl (lv_at hl 0 rfl) ?_
        refine lv_iconst (v := 0) hx hb dX0_setAllAsAtFirst_27 (by decide) ?_
        refine pB2 hx hb hts in_X0_setAllAsAtFirst hown hK hP hD hS kX0_setAllAsAtFirst_1 dX0_setAllAsAtFirst_28 (fun H locs hP hD hS => ?_)
        refine lv_aload_n hx hb dX0_setAllAsAtFirst_31 rfl (lv_at hl 0 rfl) ?_
        refine lv_iconst (v := (-1)) hx hb dX0_setAllAsAtFirst_32 (by decide) ?_
        refine pB3 hx hb hts in_X0_setAllAsAtFirst hown hK hP hD hS kX0_setAllAsAtFirst_2 dX0_setAllAsAtFirst_33 (fun H locs hP hD hS => ?_)
        refine lv_aload_n hx hb dX0_setAllAsAtFirst_36 rfl (lv_at hl 0 rfl) ?_
        refine lv_iconst (v := 0) hx hb dX0_setAllAsAtFirst_37 (by decide) ?_
        refine pB4 hx hb hts in_X0_setAllAsAtFirst hown hK hP hD hS kX0_setAllAsAtFirst_3 dX0_setAllAsAtFirst_38 (fun H locs hP hD hS => ?_)
        refine lv_aload_n hx hb dX0_setAllAsAtFirst_41 rfl (lv_at hl 0 rfl) ?_
        refine lv_iconst (v := 1) hx hb dX0_setAllAsAtFirst_42 (by decide) ?_
        refine pB5 hx hb hts in_X0_setAllAsAtFirst hown hK hP hD hS kX0_setAllAsAtFirst_4 dX0_setAllAsAtFirst_43 (fun H locs hP hD hS => ?_)
        refine lv_aload_n hx hb dX0_setAllAsAtFirst_46 rfl (lv_at hl 0 rfl) ?_
        refine cVv ⟨hx, hb, hml, hown, hts⟩ (mX0_forgetMoves l D cI o h (uf (uf (uf (uf (uf F 1 0) 2 0) 3 (-1)) 4 0) 5 1) A2  _ rfl) (cwV 0 hts gX0_setAllAsAtFirst_X0_forgetMoves rfl rfl rfl nX0_forgetMoves ⟨Nat.le_of_ble_eq_true rfl, Nat.le_of_ble_eq_true rfl⟩) (va_recv hK hP (ci := 0) (q0 := 0) rfl rfl) rfl hl.1 rfl (Nat.le_of_ble_eq_true rfl) dX0_setAllAsAtFirst_47 ⟨Nat.zero_le _, Nat.zero_le _⟩ hK hP hD hS hA (fun H locs hP hD hS => ?_)
        subst hR
        exact cRv hx hb hr hlk hK hP hD hS dX0_setAllAsAtFirst_50
      · exact absurd (nI_le (a := 64) (b := n2) (by omega) (by omega)) c5
    | succ k ih =>
      intro n2 A2 H locs ls hn  hP hD hS hl hR
      rw [qX0_setAllAsAtFirst_w2] at hR
      refine lv_iload_n hx hb dX0_setAllAsAtFirst_2 rfl (lv_at hl 1 rfl) ?_
      refine lv_bipush (v := 64) hx hb dX0_setAllAsAtFirst_3 (by decide) ?_
      refine lv_icmp_ge (tgt := 21) hx hb dX0_setAllAsAtFirst_5 (by decide) (fun c5 => ?_) (fun c5 => ?_)
      · exact absurd c5 (nI_ge (a := n2) (b := 64) (by omega) (by omega))
      · skip
        refine lv_aload_n hx hb dX0_setAllAsAtFirst_8 rfl (lv_at hl 0 rfl) ?_
        refine gB hx hb hts in_X0_setAllAsAtFirst hown hK hP 0 (by decide) rfl kX0_setAllAsAtFirst_5 dX0_setAllAsAtFirst_9 ?_
        refine lv_iload_n hx hb dX0_setAllAsAtFirst_12 rfl (lv_at hl 1 rfl) ?_
        refine lv_iconst (v := 0) hx hb dX0_setAllAsAtFirst_13 (by decide) ?_
        refine sB0 hx hb hK hP hD hS (vp_in_nI (by omega) (by decide)) dX0_setAllAsAtFirst_14 (fun H locs hP hD hS => ?_)
        refine lv_iinc (v := (nI (n2 + 1))) (lv' := [(1, .int (nI (n2 + 1))), (0, .ref o)]) hx hb dX0_setAllAsAtFirst_15 hl (k := 1) rfl (nI_1 _) (by decide) rfl (fun ls hl => ?_)
        refine lv_goto (tgt := 2) hx hb dX0_setAllAsAtFirst_18 (by decide) ?_
        exact ih (n2 + 1) (ua A2 0 (Int32.toNatClampNeg (nI n2)) 0) _ _ ls (by omega) hP hD hS (lv_sub hl [1, 0] rfl) hR
  exact hw2 64 0 A _ _ ls (by omega) hP hD hS (lv_sub hl [1, 0] rfl) hR
def qX0_clear (F : Nat → Int32) (A : Nat → Nat → Int32)  : tFA := ((qX0_setAllAsAtFirst F A).1, (qX0_setAllAsAtFirst F A).2)
abbrev rmX0_clear : Room := { frames := 2, cells := 0, slots := 0, locals := 41 }
theorem nX0_clear : yX0_clear.cls = RX0 ∧ yX0_clear.cls ≠ "java/lang/invoke/MethodHandle" ∧ yX0_clear.cls ≠ "java/lang/invoke/VarHandle" ∧ (parseMethodDescriptor yX0_clear.desc).map (fun d => d.parameters.length) = some 0 := by decide +kernel
set_option maxHeartbeats 4000000 in
set_option maxRecDepth 100000 in
theorem mX0_clear (l : Launch) (D : va_G) (cI : ClassId) (o : Nat) (h : Nat → Nat) (F : Nat → Int32) (A : Nat → Nat → Int32)  (r0 : tFA) (hR : r0 = qX0_clear F A) : cMv l yX0_clear wsX0_clear rmX0_clear D [(cI, .int)] (wB cI o h F A) [.ref o] (wB cI o h r0.1 r0.2) := by
  intro sz
  refine cMet_of (Qc := fun AA => cQv D [(cI, .int)] (wB cI o h r0.1 r0.2) AA) (cc := cX0_clear) (maxL := 1) (ret := none) (by decide) rfl (Nat.le_of_ble_eq_true rfl) ?_ sz
  intro p e s m below meth c AA ls hx hb hr hts hown hml hlk hA hK hP hD hS hl
  have hown : s.vm.findClass RX0 = some m.cls := hown
  have hl : lv_has ls 1 [(0, .ref o)] := hl
  rw [qX0_clear] at hR
  refine lv_aload_n hx hb dX0_clear_0 rfl (lv_at hl 0 rfl) ?_
  refine cVv ⟨hx, hb, hml, hown, hts⟩ (mX0_setAllAsAtFirst l D cI o h F A  _ rfl) (cwV 0 hts gX0_clear_X0_setAllAsAtFirst rfl rfl rfl nX0_setAllAsAtFirst ⟨Nat.le_of_ble_eq_true rfl, Nat.le_of_ble_eq_true rfl⟩) (va_recv hK hP (ci := 0) (q0 := 0) rfl rfl) rfl hl.1 rfl (Nat.le_of_ble_eq_true rfl) dX0_clear_1 ⟨Nat.zero_le _, Nat.zero_le _⟩ hK hP hD hS hA (fun H locs hP hD hS => ?_)
  subst hR
  exact cRv hx hb hr hlk hK hP hD hS dX0_clear_4
def qX0_remember (F : Nat → Int32) (A : Nat → Nat → Int32) (p1 : Int32) (p2 : Int32) (p3 : Int32) : tFA := ((uf F 6 ((F 6) + 1)), (ua (ua (ua (ua (ua (ua A 7 (Int32.toNatClampNeg (F 6)) p1) 8 (Int32.toNatClampNeg (F 6)) p2) 9 (Int32.toNatClampNeg (F 6)) p3) 10 (Int32.toNatClampNeg (F 6)) (F 2)) 11 (Int32.toNatClampNeg (F 6)) (F 3)) 12 (Int32.toNatClampNeg (F 6)) (F 4)))
abbrev rmX0_remember : Room := { frames := 0, cells := 0, slots := 0, locals := 0 }
theorem nX0_remember : yX0_remember.cls = RX0 ∧ yX0_remember.cls ≠ "java/lang/invoke/MethodHandle" ∧ yX0_remember.cls ≠ "java/lang/invoke/VarHandle" ∧ (parseMethodDescriptor yX0_remember.desc).map (fun d => d.parameters.length) = some 3 := by decide +kernel
theorem in_X0_remember : ∀ w ∈ wsX00, w ∈ wsX0_remember := fun w h => by
  unfold wsX0_remember
  exact List.mem_cons_of_mem _ (List.mem_append_right _ h)
theorem kX0_remember_0 : Cond.fieldLink RX0 13 "Board" "moves" "[I" ∈ wsX0_remember := by decide +kernel
theorem kX0_remember_1 : Cond.fieldLink RX0 127 "Board" "made" "I" ∈ wsX0_remember := by decide +kernel
theorem kX0_remember_2 : Cond.fieldLink RX0 16 "Board" "takenPieces" "[I" ∈ wsX0_remember := by decide +kernel
theorem kX0_remember_3 : Cond.fieldLink RX0 19 "Board" "takenSquares" "[I" ∈ wsX0_remember := by decide +kernel
theorem kX0_remember_4 : Cond.fieldLink RX0 22 "Board" "rightsBefore" "[I" ∈ wsX0_remember := by decide +kernel
theorem kX0_remember_5 : Cond.fieldLink RX0 41 "Board" "rights" "I" ∈ wsX0_remember := by decide +kernel
theorem kX0_remember_6 : Cond.fieldLink RX0 25 "Board" "passingBefore" "[I" ∈ wsX0_remember := by decide +kernel
theorem kX0_remember_7 : Cond.fieldLink RX0 85 "Board" "passing" "I" ∈ wsX0_remember := by decide +kernel
theorem kX0_remember_8 : Cond.fieldLink RX0 28 "Board" "halfBefore" "[I" ∈ wsX0_remember := by decide +kernel
theorem kX0_remember_9 : Cond.fieldLink RX0 92 "Board" "half" "I" ∈ wsX0_remember := by decide +kernel
set_option maxHeartbeats 4000000 in
set_option maxRecDepth 100000 in
theorem mX0_remember (l : Launch) (D : va_G) (cI : ClassId) (o : Nat) (h : Nat → Nat) (F : Nat → Int32) (A : Nat → Nat → Int32) (p1 : Int32) (p2 : Int32) (p3 : Int32) (hm : ∃ k : Nat, k < 600 ∧ F 6 = nI k) (r0 : tFA) (hR : r0 = qX0_remember F A p1 p2 p3) : cMv l yX0_remember wsX0_remember rmX0_remember D [(cI, .int)] (wB cI o h F A) [.ref o, .int p1, .int p2, .int p3] (wB cI o h r0.1 r0.2) := by
  intro sz
  refine cMet_of (Qc := fun AA => cQv D [(cI, .int)] (wB cI o h r0.1 r0.2) AA) (cc := cX0_remember) (maxL := 4) (ret := none) (by decide) rfl (Nat.le_of_ble_eq_true rfl) ?_ sz
  intro p e s m below meth c AA ls hx hb hr hts hown hml hlk hA hK hP hD hS hl
  have hown : s.vm.findClass RX0 = some m.cls := hown
  have hl : lv_has ls 4 [(0, .ref o), (1, .int p1), (2, .int p2), (3, .int p3)] := hl
  rw [qX0_remember] at hR
  refine lv_aload_n hx hb dX0_remember_0 rfl (lv_at hl 0 rfl) ?_
  refine gB hx hb hts in_X0_remember hown hK hP 7 (by decide) rfl kX0_remember_0 dX0_remember_1 ?_
  refine lv_aload_n hx hb dX0_remember_4 rfl (lv_at hl 0 rfl) ?_
  refine gB hx hb hts in_X0_remember hown hK hP 6 (by decide) rfl kX0_remember_1 dX0_remember_5 ?_
  refine lv_iload_n hx hb dX0_remember_8 rfl (lv_at hl 1 rfl) ?_
  refine sB7 hx hb hK hP hD hS (inMd hm) dX0_remember_9 (fun H locs hP hD hS => ?_)
  refine lv_aload_n hx hb dX0_remember_10 rfl (lv_at hl 0 rfl) ?_
  refine gB hx hb hts in_X0_remember hown hK hP 8 (by decide) rfl kX0_remember_2 dX0_remember_11 ?_
  refine lv_aload_n hx hb dX0_remember_14 rfl (lv_at hl 0 rfl) ?_
  refine gB hx hb hts in_X0_remember hown hK hP 6 (by decide) rfl kX0_remember_1 dX0_remember_15 ?_
  refine lv_iload_n hx hb dX0_remember_18 rfl (lv_at hl 2 rfl) ?_
  refine sB8 hx hb hK hP hD hS (inMd hm) dX0_remember_19 (fun H locs hP hD hS => ?_)
  refine lv_aload_n hx hb dX0_remember_20 rfl (lv_at hl 0 rfl) ?_
  refine gB hx hb hts in_X0_remember hown hK hP 9 (by decide) rfl kX0_remember_3 dX0_remember_21 ?_
  refine lv_aload_n hx hb dX0_remember_24 rfl (lv_at hl 0 rfl) ?_
  refine gB hx hb hts in_X0_remember hown hK hP 6 (by decide) rfl kX0_remember_1 dX0_remember_25 ?_
  refine lv_iload_n hx hb dX0_remember_28 rfl (lv_at hl 3 rfl) ?_
  refine sB9 hx hb hK hP hD hS (inMd hm) dX0_remember_29 (fun H locs hP hD hS => ?_)
  refine lv_aload_n hx hb dX0_remember_30 rfl (lv_at hl 0 rfl) ?_
  refine gB hx hb hts in_X0_remember hown hK hP 10 (by decide) rfl kX0_remember_4 dX0_remember_31 ?_
  refine lv_aload_n hx hb dX0_remember_34 rfl (lv_at hl 0 rfl) ?_
  refine gB hx hb hts in_X0_remember hown hK hP 6 (by decide) rfl kX0_remember_1 dX0_remember_35 ?_
  refine lv_aload_n hx hb dX0_remember_38 rfl (lv_at hl 0 rfl) ?_
  refine gB hx hb hts in_X0_remember hown hK hP 2 (by decide) rfl kX0_remember_5 dX0_remember_39 ?_
  refine sB10 hx hb hK hP hD hS (inMd hm) dX0_remember_42 (fun H locs hP hD hS => ?_)
  refine lv_aload_n hx hb dX0_remember_43 rfl (lv_at hl 0 rfl) ?_
  refine gB hx hb hts in_X0_remember hown hK hP 11 (by decide) rfl kX0_remember_6 dX0_remember_44 ?_
  refine lv_aload_n hx hb dX0_remember_47 rfl (lv_at hl 0 rfl) ?_
  refine gB hx hb hts in_X0_remember hown hK hP 6 (by decide) rfl kX0_remember_1 dX0_remember_48 ?_
  refine lv_aload_n hx hb dX0_remember_51 rfl (lv_at hl 0 rfl) ?_
  refine gB hx hb hts in_X0_remember hown hK hP 3 (by decide) rfl kX0_remember_7 dX0_remember_52 ?_
  refine sB11 hx hb hK hP hD hS (inMd hm) dX0_remember_55 (fun H locs hP hD hS => ?_)
  refine lv_aload_n hx hb dX0_remember_56 rfl (lv_at hl 0 rfl) ?_
  refine gB hx hb hts in_X0_remember hown hK hP 12 (by decide) rfl kX0_remember_8 dX0_remember_57 ?_
  refine lv_aload_n hx hb dX0_remember_60 rfl (lv_at hl 0 rfl) ?_
  refine gB hx hb hts in_X0_remember hown hK hP 6 (by decide) rfl kX0_remember_1 dX0_remember_61 ?_
  refine lv_aload_n hx hb dX0_remember_64 rfl (lv_at hl 0 rfl) ?_
  refine gB hx hb hts in_X0_remember hown hK hP 4 (by decide) rfl kX0_remember_9 dX0_remember_65 ?_
  refine sB12 hx hb hK hP hD hS (inMd hm) dX0_remember_68 (fun H locs hP hD hS => ?_)
  refine lv_aload_n hx hb dX0_remember_69 rfl (lv_at hl 0 rfl) ?_
  refine lv_dup hx hb dX0_remember_70 rfl ?_
  refine gB hx hb hts in_X0_remember hown hK hP 6 (by decide) rfl kX0_remember_1 dX0_remember_71 ?_
  refine lv_iconst (v := 1) hx hb dX0_remember_74 (by decide) ?_
  refine lv_iadd hx hb dX0_remember_75 ?_
  refine pB6 hx hb hts in_X0_remember hown hK hP hD hS kX0_remember_1 dX0_remember_76 (fun H locs hP hD hS => ?_)
  subst hR
  exact cRv hx hb hr hlk hK hP hD hS dX0_remember_79
def qX0_shift (F : Nat → Int32) (A : Nat → Nat → Int32) (p1 : Int32) (p2 : Int32) : tFA := (if (qX0_isSquare p1) = 0 then (F, A) else (if (qX0_isSquare p2) = 0 then (F, A) else (F, (ua (ua A 0 (Int32.toNatClampNeg p2) (A 0 (Int32.toNatClampNeg p1))) 0 (Int32.toNatClampNeg p1) 0))))
abbrev rmX0_shift : Room := { frames := 1, cells := 0, slots := 0, locals := 20 }
theorem nX0_shift : yX0_shift.cls = RX0 ∧ yX0_shift.cls ≠ "java/lang/invoke/MethodHandle" ∧ yX0_shift.cls ≠ "java/lang/invoke/VarHandle" ∧ (parseMethodDescriptor yX0_shift.desc).map (fun d => d.parameters.length) = some 2 := by decide +kernel
theorem in_X0_shift : ∀ w ∈ wsX00, w ∈ wsX0_shift := fun w h => by
  unfold wsX0_shift
  exact List.mem_cons_of_mem _ (List.mem_append_right _ h)
theorem kX0_shift_0 : Cond.fieldLink RX0 9 "Board" "board" "[I" ∈ wsX0_shift := by decide +kernel
set_option maxHeartbeats 4000000 in
set_option maxRecDepth 100000 in
theorem mX0_shift (l : Launch) (D : va_G) (cI : ClassId) (o : Nat) (h : Nat → Nat) (F : Nat → Int32) (A : Nat → Nat → Int32) (p1 : Int32) (p2 : Int32) (r0 : tFA) (hR : r0 = qX0_shift F A p1 p2) : cMv l yX0_shift wsX0_shift rmX0_shift D [(cI, .int)] (wB cI o h F A) [.ref o, .int p1, .int p2] (wB cI o h r0.1 r0.2) := by
  intro sz
  refine cMet_of (Qc := fun AA => cQv D [(cI, .int)] (wB cI o h r0.1 r0.2) AA) (cc := cX0_shift) (maxL := 3) (ret := none) (by decide) rfl (Nat.le_of_ble_eq_true rfl) ?_ sz
  intro p e s m below meth c AA ls hx hb hr hts hown hml hlk hA hK hP hD hS hl
  have hown : s.vm.findClass RX0 = some m.cls := hown
  have hl : lv_has ls 3 [(0, .ref o), (1, .int p1), (2, .int p2)] := hl
  rw [qX0_shift] at hR
  refine lv_iload_n hx hb dX0_shift_0 rfl (lv_at hl 1 rfl) ?_
  refine cSi ⟨hx, hb, hml, hown, hts⟩ (mX0_isSquare l D p1 _ rfl) (va_cwS 1 hts gX0_shift_X0_isSquare rfl rfl rfl nX0_isSquare ⟨Nat.le_of_ble_eq_true rfl, Nat.le_of_ble_eq_true rfl⟩) rfl hl.1 rfl (Nat.le_of_ble_eq_true rfl) dX0_shift_1 ⟨Nat.zero_le _, Nat.zero_le _⟩ hK hP hS hA (fun H locs hP hS => ?_)
  refine lv_if_eq (tgt := 33) hx hb dX0_shift_4 (by decide) (fun c4 => ?_) (fun c4 => ?_)
  · have hR := hR.trans (if_pos c4)
    subst hR
    exact cRv hx hb hr hlk hK hP hD hS dX0_shift_33
  · have hR := hR.trans (if_neg c4)
    refine lv_iload_n hx hb dX0_shift_7 rfl (lv_at hl 2 rfl) ?_
    refine cSi ⟨hx, hb, hml, hown, hts⟩ (mX0_isSquare l D p2 _ rfl) (va_cwS 1 hts gX0_shift_X0_isSquare rfl rfl rfl nX0_isSquare ⟨Nat.le_of_ble_eq_true rfl, Nat.le_of_ble_eq_true rfl⟩) rfl hl.1 rfl (Nat.le_of_ble_eq_true rfl) dX0_shift_8 ⟨Nat.zero_le _, Nat.zero_le _⟩ hK hP hS hA (fun H locs hP hS => ?_)
    refine lv_if_eq (tgt := 33) hx hb dX0_shift_11 (by decide) (fun c11 => ?_) (fun c11 => ?_)
    · have hR := hR.trans (if_pos c11)
      subst hR
      exact cRv hx hb hr hlk hK hP hD hS dX0_shift_33
    · have hR := hR.trans (if_neg c11)
      refine lv_aload_n hx hb dX0_shift_14 rfl (lv_at hl 0 rfl) ?_
      refine gB hx hb hts in_X0_shift hown hK hP 0 (by decide) rfl kX0_shift_0 dX0_shift_15 ?_
      refine lv_iload_n hx hb dX0_shift_18 rfl (lv_at hl 2 rfl) ?_
      refine lv_aload_n hx hb dX0_shift_19 rfl (lv_at hl 0 rfl) ?_
      refine gB hx hb hts in_X0_shift hown hK hP 0 (by decide) rfl kX0_shift_0 dX0_shift_20 ?_
      refine lv_iload_n hx hb dX0_shift_23 rfl (lv_at hl 1 rfl) ?_
      refine va_iald (f := A 0) hx hb hK hP 1 0 rfl rfl (inSq c4) dX0_shift_24 ?_
      refine sB0 hx hb hK hP hD hS (inSq c11) dX0_shift_25 (fun H locs hP hD hS => ?_)
      refine lv_aload_n hx hb dX0_shift_26 rfl (lv_at hl 0 rfl) ?_
      refine gB hx hb hts in_X0_shift hown hK hP 0 (by decide) rfl kX0_shift_0 dX0_shift_27 ?_
      refine lv_iload_n hx hb dX0_shift_30 rfl (lv_at hl 1 rfl) ?_
      refine lv_iconst (v := 0) hx hb dX0_shift_31 (by decide) ?_
      refine sB0 hx hb hK hP hD hS (inSq c4) dX0_shift_32 (fun H locs hP hD hS => ?_)
      subst hR
      exact cRv hx hb hr hlk hK hP hD hS dX0_shift_33
def qX0_carryOver_j52 (F : Nat → Int32) (A : Nat → Nat → Int32) (x2 : Int32) (x3 : Int32) (x4 : Int32) (x5 : Int32) (x6 : Int32) : tFA := (if ¬ x5 = 0 then (F, (ua (ua (ua A 0 (Int32.toNatClampNeg x2) 0) 0 (Int32.toNatClampNeg x3) 0) 0 (Int32.toNatClampNeg x4) (qX0_pieceOf x5 (F 1)))) else (F, (ua (ua (ua A 0 (Int32.toNatClampNeg x2) 0) 0 (Int32.toNatClampNeg x3) 0) 0 (Int32.toNatClampNeg x4) x6)))
def qX0_carryOver (F : Nat → Int32) (A : Nat → Nat → Int32) (p1 : Int32) (p2 : Int32) : tFA := (if (qX0_isCastling (A 0 (Int32.toNatClampNeg (qX0_fromOf p1))) (qX0_fromOf p1) (qX0_toOf p1)) = 0 then (qX0_carryOver_j52 F A p2 (qX0_fromOf p1) (qX0_toOf p1) (qX0_kindOf p1) (A 0 (Int32.toNatClampNeg (qX0_fromOf p1)))) else (qX0_carryOver_j52 ((qX0_shift F A (qX0_cornerBeyond (qX0_fromOf p1) (qX0_toOf p1)) (((qX0_fromOf p1) + (qX0_toOf p1)) / 2)).1) ((qX0_shift F A (qX0_cornerBeyond (qX0_fromOf p1) (qX0_toOf p1)) (((qX0_fromOf p1) + (qX0_toOf p1)) / 2)).2) p2 (qX0_fromOf p1) (qX0_toOf p1) (qX0_kindOf p1) (A 0 (Int32.toNatClampNeg (qX0_fromOf p1)))))
abbrev rmX0_carryOver : Room := { frames := 3, cells := 0, slots := 0, locals := 64 }
theorem nX0_carryOver : yX0_carryOver.cls = RX0 ∧ yX0_carryOver.cls ≠ "java/lang/invoke/MethodHandle" ∧ yX0_carryOver.cls ≠ "java/lang/invoke/VarHandle" ∧ (parseMethodDescriptor yX0_carryOver.desc).map (fun d => d.parameters.length) = some 2 := by decide +kernel
theorem in_X0_carryOver : ∀ w ∈ wsX00, w ∈ wsX0_carryOver := fun w h => by
  unfold wsX0_carryOver
  exact List.mem_cons_of_mem _ (List.mem_append_right _ h)
theorem kX0_carryOver_0 : Cond.fieldLink RX0 9 "Board" "board" "[I" ∈ wsX0_carryOver := by decide +kernel
theorem kX0_carryOver_1 : Cond.fieldLink RX0 82 "Board" "side" "I" ∈ wsX0_carryOver := by decide +kernel
set_option maxHeartbeats 4000000 in
set_option maxRecDepth 100000 in
theorem mX0_carryOver (l : Launch) (D : va_G) (cI : ClassId) (o : Nat) (h : Nat → Nat) (F : Nat → Int32) (A : Nat → Nat → Int32) (p1 : Int32) (p2 : Int32) (h2 : vp_in p2 64) (r0 : tFA) (hR : r0 = qX0_carryOver F A p1 p2) : cMv l yX0_carryOver wsX0_carryOver rmX0_carryOver D [(cI, .int)] (wB cI o h F A) [.ref o, .int p1, .int p2] (wB cI o h r0.1 r0.2) := by
  intro sz
  refine cMet_of (Qc := fun AA => cQv D [(cI, .int)] (wB cI o h r0.1 r0.2) AA) (cc := cX0_carryOver) (maxL := 7) (ret := none) (by decide) rfl (Nat.le_of_ble_eq_true rfl) ?_ sz
  intro p e s m below meth c AA ls hx hb hr hts hown hml hlk hA hK hP hD hS hl
  have hown : s.vm.findClass RX0 = some m.cls := hown
  have hl : lv_has ls 7 [(0, .ref o), (1, .int p1), (2, .int p2)] := hl
  rw [qX0_carryOver] at hR
  refine lv_iload_n hx hb dX0_carryOver_0 rfl (lv_at hl 1 rfl) ?_
  refine cSi ⟨hx, hb, hml, hown, hts⟩ (mX0_fromOf l D p1 _ rfl) (va_cwS 1 hts gX0_carryOver_X0_fromOf rfl rfl rfl nX0_fromOf ⟨Nat.le_of_ble_eq_true rfl, Nat.le_of_ble_eq_true rfl⟩) rfl hl.1 rfl (Nat.le_of_ble_eq_true rfl) dX0_carryOver_1 ⟨Nat.zero_le _, Nat.zero_le _⟩ hK hP hS hA (fun H locs hP hS => ?_)
  refine lv_istore_n (lv' := [(3, .int (qX0_fromOf p1)), (0, .ref o), (1, .int p1), (2, .int p2)]) hx hb dX0_carryOver_4 rfl hl (by decide) rfl (fun ls hl => ?_)
  refine lv_iload_n hx hb dX0_carryOver_5 rfl (lv_at hl 2 rfl) ?_
  refine cSi ⟨hx, hb, hml, hown, hts⟩ (mX0_toOf l D p1 _ rfl) (va_cwS 1 hts gX0_carryOver_X0_toOf rfl rfl rfl nX0_toOf ⟨Nat.le_of_ble_eq_true rfl, Nat.le_of_ble_eq_true rfl⟩) rfl hl.1 rfl (Nat.le_of_ble_eq_true rfl) dX0_carryOver_6 ⟨Nat.zero_le _, Nat.zero_le _⟩ hK hP hS hA (fun H locs hP hS => ?_)
  refine lv_istore (lv' := [(4, .int (qX0_toOf p1)), (3, .int (qX0_fromOf p1)), (0, .ref o), (1, .int p1), (2, .int p2)]) hx hb dX0_carryOver_9 hl (by decide) rfl (fun ls hl => ?_)
  refine lv_iload_n hx hb dX0_carryOver_11 rfl (lv_at hl 3 rfl) ?_
  refine cSi ⟨hx, hb, hml, hown, hts⟩ (mX0_kindOf l D p1 _ rfl) (va_cwS 1 hts gX0_carryOver_X0_kindOf rfl rfl rfl nX0_kindOf ⟨Nat.le_of_ble_eq_true rfl, Nat.le_of_ble_eq_true rfl⟩) rfl hl.1 rfl (Nat.le_of_ble_eq_true rfl) dX0_carryOver_12 ⟨Nat.zero_le _, Nat.zero_le _⟩ hK hP hS hA (fun H locs hP hS => ?_)
  refine lv_istore (lv' := [(5, .int (qX0_kindOf p1)), (4, .int (qX0_toOf p1)), (3, .int (qX0_fromOf p1)), (0, .ref o), (1, .int p1), (2, .int p2)]) hx hb dX0_carryOver_15 hl (by decide) rfl (fun ls hl => ?_)
  refine lv_aload_n hx hb dX0_carryOver_17 rfl (lv_at hl 3 rfl) ?_
  refine gB hx hb hts in_X0_carryOver hown hK hP 0 (by decide) rfl kX0_carryOver_0 dX0_carryOver_18 ?_
  refine lv_iload_n hx hb dX0_carryOver_21 rfl (lv_at hl 2 rfl) ?_
  refine va_iald (f := A 0) hx hb hK hP 1 0 rfl rfl (in_from p1) dX0_carryOver_22 ?_
  refine lv_istore (lv' := [(6, .int (A 0 (Int32.toNatClampNeg (qX0_fromOf p1)))), (5, .int (qX0_kindOf p1)), (4, .int (qX0_toOf p1)), (3, .int (qX0_fromOf p1)), (0, .ref o), (1, .int p1), (2, .int p2)]) hx hb dX0_carryOver_23 hl (by decide) rfl (fun ls hl => ?_)
  refine lv_iload hx hb dX0_carryOver_25 (lv_at hl 0 rfl) ?_
  refine lv_iload_n hx hb dX0_carryOver_27 rfl (lv_at hl 3 rfl) ?_
  refine lv_iload hx hb dX0_carryOver_28 (lv_at hl 2 rfl) ?_
  refine cSi ⟨hx, hb, hml, hown, hts⟩ (mX0_isCastling l D (A 0 (Int32.toNatClampNeg (qX0_fromOf p1))) (qX0_fromOf p1) (qX0_toOf p1) _ rfl) (va_cwS 3 hts gX0_carryOver_X0_isCastling rfl rfl rfl nX0_isCastling ⟨Nat.le_of_ble_eq_true rfl, Nat.le_of_ble_eq_true rfl⟩) rfl hl.1 rfl (Nat.le_of_ble_eq_true rfl) dX0_carryOver_30 ⟨Nat.zero_le _, Nat.zero_le _⟩ hK hP hS hA (fun H locs hP hS => ?_)
  have hj52 : ∀ (F52 : Nat → Int32) (A52 : Nat → Nat → Int32) (H : Heap) (locs : List Loc) (ls : Array Slot), va_P D vwCl (wB cI o h F52 A52) H → va_D AA (wB cI o h F52 A52) → va_S AA s.heap H locs → lv_has ls 7 [(0, .ref o), (2, .int p2), (3, .int (qX0_fromOf p1)), (4, .int (qX0_toOf p1)), (5, .int (qX0_kindOf p1)), (6, .int (A 0 (Int32.toNatClampNeg (qX0_fromOf p1))))] → r0 = qX0_carryOver_j52 F52 A52 p2 (qX0_fromOf p1) (qX0_toOf p1) (qX0_kindOf p1) (A 0 (Int32.toNatClampNeg (qX0_fromOf p1))) → W p l e rmX0_carryOver s m [.ref o, .int p1, .int p2].toArray below meth c H locs 0 0 (MQ below (cQv D [(cI, .int)] (wB cI o h r0.1 r0.2) AA) [.ref o, .int p1, .int p2].toArray s 0 0 AA) (F0 m 52 ls []) := by
    intro F52 A52 H locs ls  hP hD hS hl hR
    rw [qX0_carryOver_j52] at hR
    refine lv_aload_n hx hb dX0_carryOver_52 rfl (lv_at hl 0 rfl) ?_
    refine gB hx hb hts in_X0_carryOver hown hK hP 0 (by decide) rfl kX0_carryOver_0 dX0_carryOver_53 ?_
    refine lv_iload_n hx hb dX0_carryOver_56 rfl (lv_at hl 1 rfl) ?_
    refine lv_iconst (v := 0) hx hb dX0_carryOver_57 (by decide) ?_
    refine sB0 hx hb hK hP hD hS h2 dX0_carryOver_58 (fun H locs hP hD hS => ?_)
    refine lv_aload_n hx hb dX0_carryOver_59 rfl (lv_at hl 0 rfl) ?_
    refine gB hx hb hts in_X0_carryOver hown hK hP 0 (by decide) rfl kX0_carryOver_0 dX0_carryOver_60 ?_
    refine lv_iload_n hx hb dX0_carryOver_63 rfl (lv_at hl 2 rfl) ?_
    refine lv_iconst (v := 0) hx hb dX0_carryOver_64 (by decide) ?_
    refine sB0 hx hb hK hP hD hS (in_from p1) dX0_carryOver_65 (fun H locs hP hD hS => ?_)
    refine lv_aload_n hx hb dX0_carryOver_66 rfl (lv_at hl 0 rfl) ?_
    refine gB hx hb hts in_X0_carryOver hown hK hP 0 (by decide) rfl kX0_carryOver_0 dX0_carryOver_67 ?_
    refine lv_iload hx hb dX0_carryOver_70 (lv_at hl 3 rfl) ?_
    refine lv_iload hx hb dX0_carryOver_72 (lv_at hl 4 rfl) ?_
    refine lv_if_ne (tgt := 82) hx hb dX0_carryOver_74 (by decide) (fun c74 => ?_) (fun c74 => ?_)
    · have hR := hR.trans (if_pos c74)
      refine lv_iload hx hb dX0_carryOver_82 (lv_at hl 4 rfl) ?_
      refine lv_aload_n hx hb dX0_carryOver_84 rfl (lv_at hl 0 rfl) ?_
      refine gB hx hb hts in_X0_carryOver hown hK hP 1 (by decide) rfl kX0_carryOver_1 dX0_carryOver_85 ?_
      refine cSi ⟨hx, hb, hml, hown, hts⟩ (mX0_pieceOf l D (qX0_kindOf p1) (F52 1) _ rfl) (va_cwS 2 hts gX0_carryOver_X0_pieceOf rfl rfl rfl nX0_pieceOf ⟨Nat.le_of_ble_eq_true rfl, Nat.le_of_ble_eq_true rfl⟩) rfl hl.1 rfl (Nat.le_of_ble_eq_true rfl) dX0_carryOver_88 ⟨Nat.zero_le _, Nat.zero_le _⟩ hK hP hS hA (fun H locs hP hS => ?_)
      refine sB0 hx hb hK hP hD hS (in_to p1) dX0_carryOver_91 (fun H locs hP hD hS => ?_)
      subst hR
      exact cRv hx hb hr hlk hK hP hD hS dX0_carryOver_92
    · have hR := hR.trans (if_neg (fun z => z c74))
      refine lv_iload hx hb dX0_carryOver_77 (lv_at hl 5 rfl) ?_
      refine lv_goto (tgt := 91) hx hb dX0_carryOver_79 (by decide) ?_
      refine sB0 hx hb hK hP hD hS (in_to p1) dX0_carryOver_91 (fun H locs hP hD hS => ?_)
      subst hR
      exact cRv hx hb hr hlk hK hP hD hS dX0_carryOver_92
  refine lv_if_eq (tgt := 52) hx hb dX0_carryOver_33 (by decide) (fun c33 => ?_) (fun c33 => ?_)
  · have hR := hR.trans (if_pos c33)
    exact hj52 F A _ _ ls hP hD hS (lv_sub hl [4, 6, 3, 2, 1, 0] rfl) hR
  · have hR := hR.trans (if_neg c33)
    refine lv_aload_n hx hb dX0_carryOver_36 rfl (lv_at hl 4 rfl) ?_
    refine lv_iload_n hx hb dX0_carryOver_37 rfl (lv_at hl 3 rfl) ?_
    refine lv_iload hx hb dX0_carryOver_38 (lv_at hl 2 rfl) ?_
    refine cSi ⟨hx, hb, hml, hown, hts⟩ (mX0_cornerBeyond l D (qX0_fromOf p1) (qX0_toOf p1) _ rfl) (va_cwS 2 hts gX0_carryOver_X0_cornerBeyond rfl rfl rfl nX0_cornerBeyond ⟨Nat.le_of_ble_eq_true rfl, Nat.le_of_ble_eq_true rfl⟩) rfl hl.1 rfl (Nat.le_of_ble_eq_true rfl) dX0_carryOver_40 ⟨Nat.zero_le _, Nat.zero_le _⟩ hK hP hS hA (fun H locs hP hS => ?_)
    refine lv_iload_n hx hb dX0_carryOver_43 rfl (lv_at hl 3 rfl) ?_
    refine lv_iload hx hb dX0_carryOver_44 (lv_at hl 2 rfl) ?_
    refine lv_iadd hx hb dX0_carryOver_46 ?_
    refine lv_iconst (v := 2) hx hb dX0_carryOver_47 (by decide) ?_
    refine lv_idiv hx hb dX0_carryOver_48 (by decide) ?_
    refine cVv ⟨hx, hb, hml, hown, hts⟩ (mX0_shift l D cI o h F A (qX0_cornerBeyond (qX0_fromOf p1) (qX0_toOf p1)) (((qX0_fromOf p1) + (qX0_toOf p1)) / 2) _ rfl) (cwV 2 hts gX0_carryOver_X0_shift rfl rfl rfl nX0_shift ⟨Nat.le_of_ble_eq_true rfl, Nat.le_of_ble_eq_true rfl⟩) (va_recv hK hP (ci := 0) (q0 := 0) rfl rfl) rfl hl.1 rfl (Nat.le_of_ble_eq_true rfl) dX0_carryOver_49 ⟨Nat.zero_le _, Nat.zero_le _⟩ hK hP hD hS hA (fun H locs hP hD hS => ?_)
    exact hj52 ((qX0_shift F A (qX0_cornerBeyond (qX0_fromOf p1) (qX0_toOf p1)) (((qX0_fromOf p1) + (qX0_toOf p1)) / 2)).1) ((qX0_shift F A (qX0_cornerBeyond (qX0_fromOf p1) (qX0_toOf p1)) (((qX0_fromOf p1) + (qX0_toOf p1)) / 2)).2) _ _ ls hP hD hS (lv_sub hl [4, 6, 3, 2, 1, 0] rfl) hR
def qX0_carryBack_j37 (F : Nat → Int32) (A : Nat → Nat → Int32) (x2 : Int32) (x3 : Int32) (x4 : Int32) (x5 : Int32) (s0 : Int32) : tFA := (if (qX0_isCastling s0 x4 x5) = 0 then (F, (ua (ua (ua A 0 (Int32.toNatClampNeg x5) 0) 0 (Int32.toNatClampNeg x3) x2) 0 (Int32.toNatClampNeg x4) s0)) else ((qX0_shift F (ua (ua (ua A 0 (Int32.toNatClampNeg x5) 0) 0 (Int32.toNatClampNeg x3) x2) 0 (Int32.toNatClampNeg x4) s0) ((x4 + x5) / 2) (qX0_cornerBeyond x4 x5)).1, (qX0_shift F (ua (ua (ua A 0 (Int32.toNatClampNeg x5) 0) 0 (Int32.toNatClampNeg x3) x2) 0 (Int32.toNatClampNeg x4) s0) ((x4 + x5) / 2) (qX0_cornerBeyond x4 x5)).2))
def qX0_carryBack (F : Nat → Int32) (A : Nat → Nat → Int32) (p1 : Int32) (p2 : Int32) (p3 : Int32) : tFA := (if ¬ (qX0_kindOf p1) = 0 then (qX0_carryBack_j37 F A p2 p3 (qX0_fromOf p1) (qX0_toOf p1) (qX0_pieceOf 1 (F 1))) else (qX0_carryBack_j37 F A p2 p3 (qX0_fromOf p1) (qX0_toOf p1) (A 0 (Int32.toNatClampNeg (qX0_toOf p1)))))
abbrev rmX0_carryBack : Room := { frames := 3, cells := 0, slots := 0, locals := 64 }
theorem nX0_carryBack : yX0_carryBack.cls = RX0 ∧ yX0_carryBack.cls ≠ "java/lang/invoke/MethodHandle" ∧ yX0_carryBack.cls ≠ "java/lang/invoke/VarHandle" ∧ (parseMethodDescriptor yX0_carryBack.desc).map (fun d => d.parameters.length) = some 3 := by decide +kernel
theorem in_X0_carryBack : ∀ w ∈ wsX00, w ∈ wsX0_carryBack := fun w h => by
  unfold wsX0_carryBack
  exact List.mem_cons_of_mem _ (List.mem_append_right _ h)
theorem kX0_carryBack_0 : Cond.fieldLink RX0 9 "Board" "board" "[I" ∈ wsX0_carryBack := by decide +kernel
theorem kX0_carryBack_1 : Cond.fieldLink RX0 82 "Board" "side" "I" ∈ wsX0_carryBack := by decide +kernel
set_option maxHeartbeats 4000000 in
set_option maxRecDepth 100000 in
theorem mX0_carryBack (l : Launch) (D : va_G) (cI : ClassId) (o : Nat) (h : Nat → Nat) (F : Nat → Int32) (A : Nat → Nat → Int32) (p1 : Int32) (p2 : Int32) (p3 : Int32) (h3 : vp_in p3 64) (r0 : tFA) (hR : r0 = qX0_carryBack F A p1 p2 p3) : cMv l yX0_carryBack wsX0_carryBack rmX0_carryBack D [(cI, .int)] (wB cI o h F A) [.ref o, .int p1, .int p2, .int p3] (wB cI o h r0.1 r0.2) := by
  intro sz
  refine cMet_of (Qc := fun AA => cQv D [(cI, .int)] (wB cI o h r0.1 r0.2) AA) (cc := cX0_carryBack) (maxL := 7) (ret := none) (by decide) rfl (Nat.le_of_ble_eq_true rfl) ?_ sz
  intro p e s m below meth c AA ls hx hb hr hts hown hml hlk hA hK hP hD hS hl
  have hown : s.vm.findClass RX0 = some m.cls := hown
  have hl : lv_has ls 7 [(0, .ref o), (1, .int p1), (2, .int p2), (3, .int p3)] := hl
  rw [qX0_carryBack] at hR
  refine lv_iload_n hx hb dX0_carryBack_0 rfl (lv_at hl 1 rfl) ?_
  refine cSi ⟨hx, hb, hml, hown, hts⟩ (mX0_fromOf l D p1 _ rfl) (va_cwS 1 hts gX0_carryBack_X0_fromOf rfl rfl rfl nX0_fromOf ⟨Nat.le_of_ble_eq_true rfl, Nat.le_of_ble_eq_true rfl⟩) rfl hl.1 rfl (Nat.le_of_ble_eq_true rfl) dX0_carryBack_1 ⟨Nat.zero_le _, Nat.zero_le _⟩ hK hP hS hA (fun H locs hP hS => ?_)
  refine lv_istore (lv' := [(4, .int (qX0_fromOf p1)), (0, .ref o), (1, .int p1), (2, .int p2), (3, .int p3)]) hx hb dX0_carryBack_4 hl (by decide) rfl (fun ls hl => ?_)
  refine lv_iload_n hx hb dX0_carryBack_6 rfl (lv_at hl 2 rfl) ?_
  refine cSi ⟨hx, hb, hml, hown, hts⟩ (mX0_toOf l D p1 _ rfl) (va_cwS 1 hts gX0_carryBack_X0_toOf rfl rfl rfl nX0_toOf ⟨Nat.le_of_ble_eq_true rfl, Nat.le_of_ble_eq_true rfl⟩) rfl hl.1 rfl (Nat.le_of_ble_eq_true rfl) dX0_carryBack_7 ⟨Nat.zero_le _, Nat.zero_le _⟩ hK hP hS hA (fun H locs hP hS => ?_)
  refine lv_istore (lv' := [(5, .int (qX0_toOf p1)), (4, .int (qX0_fromOf p1)), (0, .ref o), (1, .int p1), (2, .int p2), (3, .int p3)]) hx hb dX0_carryBack_10 hl (by decide) rfl (fun ls hl => ?_)
  refine lv_iload_n hx hb dX0_carryBack_12 rfl (lv_at hl 3 rfl) ?_
  refine cSi ⟨hx, hb, hml, hown, hts⟩ (mX0_kindOf l D p1 _ rfl) (va_cwS 1 hts gX0_carryBack_X0_kindOf rfl rfl rfl nX0_kindOf ⟨Nat.le_of_ble_eq_true rfl, Nat.le_of_ble_eq_true rfl⟩) rfl hl.1 rfl (Nat.le_of_ble_eq_true rfl) dX0_carryBack_13 ⟨Nat.zero_le _, Nat.zero_le _⟩ hK hP hS hA (fun H locs hP hS => ?_)
  have hj37 : ∀ (s37_0 : Int32) (H : Heap) (locs : List Loc) (ls : Array Slot), va_P D vwCl (wB cI o h F A) H → va_D AA (wB cI o h F A) → va_S AA s.heap H locs → lv_has ls 7 [(0, .ref o), (2, .int p2), (3, .int p3), (4, .int (qX0_fromOf p1)), (5, .int (qX0_toOf p1))] → r0 = qX0_carryBack_j37 F A p2 p3 (qX0_fromOf p1) (qX0_toOf p1) s37_0 → W p l e rmX0_carryBack s m [.ref o, .int p1, .int p2, .int p3].toArray below meth c H locs 0 0 (MQ below (cQv D [(cI, .int)] (wB cI o h r0.1 r0.2) AA) [.ref o, .int p1, .int p2, .int p3].toArray s 0 0 AA) (F0 m 37 ls [.int s37_0]) := by
    intro s37_0 H locs ls  hP hD hS hl hR
    rw [qX0_carryBack_j37] at hR
    refine lv_istore (lv' := [(6, .int s37_0), (0, .ref o), (2, .int p2), (3, .int p3), (4, .int (qX0_fromOf p1)), (5, .int (qX0_toOf p1))]) hx hb dX0_carryBack_37 hl (by decide) rfl (fun ls hl => ?_)
    refine lv_aload_n hx hb dX0_carryBack_39 rfl (lv_at hl 1 rfl) ?_
    refine gB hx hb hts in_X0_carryBack hown hK hP 0 (by decide) rfl kX0_carryBack_0 dX0_carryBack_40 ?_
    refine lv_iload hx hb dX0_carryBack_43 (lv_at hl 5 rfl) ?_
    refine lv_iconst (v := 0) hx hb dX0_carryBack_45 (by decide) ?_
    refine sB0 hx hb hK hP hD hS (in_to p1) dX0_carryBack_46 (fun H locs hP hD hS => ?_)
    refine lv_aload_n hx hb dX0_carryBack_47 rfl (lv_at hl 1 rfl) ?_
    refine gB hx hb hts in_X0_carryBack hown hK hP 0 (by decide) rfl kX0_carryBack_0 dX0_carryBack_48 ?_
    refine lv_iload_n hx hb dX0_carryBack_51 rfl (lv_at hl 3 rfl) ?_
    refine lv_iload_n hx hb dX0_carryBack_52 rfl (lv_at hl 2 rfl) ?_
    refine sB0 hx hb hK hP hD hS h3 dX0_carryBack_53 (fun H locs hP hD hS => ?_)
    refine lv_aload_n hx hb dX0_carryBack_54 rfl (lv_at hl 1 rfl) ?_
    refine gB hx hb hts in_X0_carryBack hown hK hP 0 (by decide) rfl kX0_carryBack_0 dX0_carryBack_55 ?_
    refine lv_iload hx hb dX0_carryBack_58 (lv_at hl 4 rfl) ?_
    refine lv_iload hx hb dX0_carryBack_60 (lv_at hl 0 rfl) ?_
    refine sB0 hx hb hK hP hD hS (in_from p1) dX0_carryBack_62 (fun H locs hP hD hS => ?_)
    refine lv_iload hx hb dX0_carryBack_63 (lv_at hl 0 rfl) ?_
    refine lv_iload hx hb dX0_carryBack_65 (lv_at hl 4 rfl) ?_
    refine lv_iload hx hb dX0_carryBack_67 (lv_at hl 5 rfl) ?_
    refine cSi ⟨hx, hb, hml, hown, hts⟩ (mX0_isCastling l D s37_0 (qX0_fromOf p1) (qX0_toOf p1) _ rfl) (va_cwS 3 hts gX0_carryBack_X0_isCastling rfl rfl rfl nX0_isCastling ⟨Nat.le_of_ble_eq_true rfl, Nat.le_of_ble_eq_true rfl⟩) rfl hl.1 rfl (Nat.le_of_ble_eq_true rfl) dX0_carryBack_69 ⟨Nat.zero_le _, Nat.zero_le _⟩ hK hP hS hA (fun H locs hP hS => ?_)
    refine lv_if_eq (tgt := 93) hx hb dX0_carryBack_72 (by decide) (fun c72 => ?_) (fun c72 => ?_)
    · have hR := hR.trans (if_pos c72)
      subst hR
      exact cRv hx hb hr hlk hK hP hD hS dX0_carryBack_93
    · have hR := hR.trans (if_neg c72)
      refine lv_aload_n hx hb dX0_carryBack_75 rfl (lv_at hl 1 rfl) ?_
      refine lv_iload hx hb dX0_carryBack_76 (lv_at hl 4 rfl) ?_
      refine lv_iload hx hb dX0_carryBack_78 (lv_at hl 5 rfl) ?_
      refine lv_iadd hx hb dX0_carryBack_80 ?_
      refine lv_iconst (v := 2) hx hb dX0_carryBack_81 (by decide) ?_
      refine lv_idiv hx hb dX0_carryBack_82 (by decide) ?_
      refine lv_iload hx hb dX0_carryBack_83 (lv_at hl 4 rfl) ?_
      refine lv_iload hx hb dX0_carryBack_85 (lv_at hl 5 rfl) ?_
      refine cSi ⟨hx, hb, hml, hown, hts⟩ (mX0_cornerBeyond l D (qX0_fromOf p1) (qX0_toOf p1) _ rfl) (va_cwS 2 hts gX0_carryBack_X0_cornerBeyond rfl rfl rfl nX0_cornerBeyond ⟨Nat.le_of_ble_eq_true rfl, Nat.le_of_ble_eq_true rfl⟩) rfl hl.1 rfl (Nat.le_of_ble_eq_true rfl) dX0_carryBack_87 ⟨Nat.zero_le _, Nat.zero_le _⟩ hK hP hS hA (fun H locs hP hS => ?_)
      refine cVv ⟨hx, hb, hml, hown, hts⟩ (mX0_shift l D cI o h F (ua (ua (ua A 0 (Int32.toNatClampNeg (qX0_toOf p1)) 0) 0 (Int32.toNatClampNeg p3) p2) 0 (Int32.toNatClampNeg (qX0_fromOf p1)) s37_0) (((qX0_fromOf p1) + (qX0_toOf p1)) / 2) (qX0_cornerBeyond (qX0_fromOf p1) (qX0_toOf p1)) _ rfl) (cwV 2 hts gX0_carryBack_X0_shift rfl rfl rfl nX0_shift ⟨Nat.le_of_ble_eq_true rfl, Nat.le_of_ble_eq_true rfl⟩) (va_recv hK hP (ci := 0) (q0 := 0) rfl rfl) rfl hl.1 rfl (Nat.le_of_ble_eq_true rfl) dX0_carryBack_90 ⟨Nat.zero_le _, Nat.zero_le _⟩ hK hP hD hS hA (fun H locs hP hD hS => ?_)
      subst hR
      exact cRv hx hb hr hlk hK hP hD hS dX0_carryBack_93
  refine lv_if_ne (tgt := 29) hx hb dX0_carryBack_16 (by decide) (fun c16 => ?_) (fun c16 => ?_)
  · have hR := hR.trans (if_pos c16)
    refine lv_iconst (v := 1) hx hb dX0_carryBack_29 (by decide) ?_
    refine lv_aload_n hx hb dX0_carryBack_30 rfl (lv_at hl 2 rfl) ?_
    refine gB hx hb hts in_X0_carryBack hown hK hP 1 (by decide) rfl kX0_carryBack_1 dX0_carryBack_31 ?_
    refine cSi ⟨hx, hb, hml, hown, hts⟩ (mX0_pieceOf l D 1 (F 1) _ rfl) (va_cwS 2 hts gX0_carryBack_X0_pieceOf rfl rfl rfl nX0_pieceOf ⟨Nat.le_of_ble_eq_true rfl, Nat.le_of_ble_eq_true rfl⟩) rfl hl.1 rfl (Nat.le_of_ble_eq_true rfl) dX0_carryBack_34 ⟨Nat.zero_le _, Nat.zero_le _⟩ hK hP hS hA (fun H locs hP hS => ?_)
    exact hj37 (qX0_pieceOf 1 (F 1)) _ _ ls hP hD hS (lv_sub hl [2, 4, 5, 1, 0] rfl) hR
  · have hR := hR.trans (if_neg (fun z => z c16))
    refine lv_aload_n hx hb dX0_carryBack_19 rfl (lv_at hl 2 rfl) ?_
    refine gB hx hb hts in_X0_carryBack hown hK hP 0 (by decide) rfl kX0_carryBack_0 dX0_carryBack_20 ?_
    refine lv_iload hx hb dX0_carryBack_23 (lv_at hl 0 rfl) ?_
    refine va_iald (f := A 0) hx hb hK hP 1 0 rfl rfl (in_to p1) dX0_carryBack_25 ?_
    refine lv_goto (tgt := 37) hx hb dX0_carryBack_26 (by decide) ?_
    exact hj37 (A 0 (Int32.toNatClampNeg (qX0_toOf p1))) _ _ ls hP hD hS (lv_sub hl [2, 4, 5, 1, 0] rfl) hR
