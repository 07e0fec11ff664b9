def qX1_isAttacked_w5 (F : Nat → Int32) (A : Nat → Nat → Int32) (x1 : Int32) (x2 : Int32) : Nat → Nat → (Int32) → Int32
  | 0, n, x3 => x3
  | k + 1, n, x3 => (if ¬ x3 = 0 then x3 else (if ¬ (qX1_sideOf (A 1 (Int32.toNatClampNeg (nI n)))) = x2 then (qX1_isAttacked_w5 F A x1 x2 k (n + 1) 0) else (if (qX1_attacks F A (nI n) x1) = 0 then (qX1_isAttacked_w5 F A x1 x2 k (n + 1) 0) else (qX1_isAttacked_w5 F A x1 x2 k (n + 1) 1))))
def qX1_isAttacked (F : Nat → Int32) (A : Nat → Nat → Int32) (p1 : Int32) (p2 : Int32) : Int32 := (qX1_isAttacked_w5 F A p1 p2 64 0 0)
abbrev rmX1_isAttacked : Room := { frames := 2, cells := 0, slots := 0, locals := 53 }
theorem nX1_isAttacked : yX1_isAttacked.cls = RX1 ∧ yX1_isAttacked.cls ≠ "java/lang/invoke/MethodHandle" ∧ yX1_isAttacked.cls ≠ "java/lang/invoke/VarHandle" ∧ (parseMethodDescriptor yX1_isAttacked.desc).map (fun d => d.parameters.length) = some 2 := by decide +kernel
theorem in_X1_isAttacked : ∀ w ∈ wsX10, w ∈ wsX1_isAttacked := fun w h => by
  unfold wsX1_isAttacked
  exact List.mem_cons_of_mem _ (List.mem_append_right _ h)
theorem kX1_isAttacked_0 : Cond.fieldLink RX1 7 "BoardModel" "squares" "[I" ∈ wsX1_isAttacked := by decide +kernel
set_option maxHeartbeats 4000000 in
set_option maxRecDepth 100000 in
theorem mX1_isAttacked (l : Launch) (D : va_G) (cI cB : ClassId) (o : Nat) (h : Nat → Nat) (F : Nat → Int32) (A : Nat → Nat → Int32) (p1 : Int32) (p2 : Int32) (h1 : vp_in p1 64) (r0 : Int32) (hR : r0 = qX1_isAttacked F A p1 p2) : cMi l yX1_isAttacked wsX1_isAttacked rmX1_isAttacked D [(cI, .int), (cB, .byte)] (wR cI cB o h F A) [.ref o, .int p1, .int p2] r0 (wR cI cB o h F A) := by
  intro sz
  refine cMet_of (Qc := fun AA => cQi D [(cI, .int), (cB, .byte)] r0 (wR cI cB o h F A) AA) (cc := cX1_isAttacked) (maxL := 5) (ret := (some .boolean)) (by decide) rfl (Nat.le_of_ble_eq_true rfl) ?_ sz
  intro p e s m below meth c AA ls hx hb hr hts hown hml hlk hA hK hP hD hS hl
  have hown : s.vm.findClass RX1 = some m.cls := hown
  have hl : lv_has ls 5 [(0, .ref o), (1, .int p1), (2, .int p2)] := hl
  rw [qX1_isAttacked] at hR
  refine lv_iconst (v := 0) hx hb dX1_isAttacked_0 (by decide) ?_
  refine lv_istore_n (lv' := [(3, .int 0), (0, .ref o), (1, .int p1), (2, .int p2)]) hx hb dX1_isAttacked_1 rfl hl (by decide) rfl (fun ls hl => ?_)
  refine lv_iconst (v := 0) hx hb dX1_isAttacked_2 (by decide) ?_
  refine lv_istore (lv' := [(4, .int 0), (3, .int 0), (0, .ref o), (1, .int p1), (2, .int p2)]) hx hb dX1_isAttacked_3 hl (by decide) rfl (fun ls hl => ?_)
  have hw5 : ∀ (k n5 : Nat) (v5_3 : Int32) (H : Heap) (locs : List Loc) (ls : Array Slot), n5 + k = 64 → (v5_3 = 0 ∨ v5_3 = 1) → va_P D vwCl (wR cI cB o h F A) H → va_D AA (wR cI cB o h F A) → va_S AA s.heap H locs → lv_has ls 5 [(0, .ref o), (1, .int p1), (2, .int p2), (3, .int v5_3), (4, .int (nI n5))] → r0 = qX1_isAttacked_w5 F A p1 p2 k n5 v5_3 → W p l e rmX1_isAttacked s m [.ref o, .int p1, .int p2].toArray below meth c H locs 0 0 (MQ below (cQi D [(cI, .int), (cB, .byte)] r0 (wR cI cB o h F A) AA) [.ref o, .int p1, .int p2].toArray s 0 0 AA) (F0 m 5 ls []) := by
    intro k
    induction k with
    | zero =>
      intro n5 v5_3 H locs ls hn hb5_3 hP hD hS hl hR
      rw [qX1_isAttacked_w5] at hR
      refine lv_iload hx hb dX1_isAttacked_5 (lv_at hl 4 rfl) ?_
      refine lv_bipush (v := 64) hx hb dX1_isAttacked_7 (by decide) ?_
      refine lv_icmp_ge (tgt := 52) hx hb dX1_isAttacked_9 (by decide) (fun c9 => ?_) (fun c9 => ?_)
      · skip
        refine lv_iload_n hx hb dX1_isAttacked_52 rfl (lv_at hl 3 rfl) ?_
        exact cRz hx hb hr hlk hK hP hD hS hb5_3 hR.symm dX1_isAttacked_53
      · exact absurd (nI_le (a := 64) (b := n5) (by omega) (by omega)) c9
    | succ k ih =>
      intro n5 v5_3 H locs ls hn hb5_3 hP hD hS hl hR
      rw [qX1_isAttacked_w5] at hR
      refine lv_iload hx hb dX1_isAttacked_5 (lv_at hl 4 rfl) ?_
      refine lv_bipush (v := 64) hx hb dX1_isAttacked_7 (by decide) ?_
      refine lv_icmp_ge (tgt := 52) hx hb dX1_isAttacked_9 (by decide) (fun c9 => ?_) (fun c9 => ?_)
      · exact absurd c9 (nI_ge (a := n5) (b := 64) (by omega) (by omega))
      · skip
        refine lv_iload_n hx hb dX1_isAttacked_12 rfl (lv_at hl 3 rfl) ?_
        refine lv_if_ne (tgt := 52) hx hb dX1_isAttacked_13 (by decide) (fun c13 => ?_) (fun c13 => ?_)
        · have hR := hR.trans (if_pos c13)
          refine lv_iload_n hx hb dX1_isAttacked_52 rfl (lv_at hl 3 rfl) ?_
          exact cRz hx hb hr hlk hK hP hD hS hb5_3 hR.symm dX1_isAttacked_53
        · have hR := hR.trans (if_neg (fun z => z c13))
          refine lv_aload_n hx hb dX1_isAttacked_16 rfl (lv_at hl 0 rfl) ?_
          refine gR hx hb hts in_X1_isAttacked hown hK hP 1 (by decide) rfl kX1_isAttacked_0 dX1_isAttacked_17 ?_
          refine lv_iload hx hb dX1_isAttacked_20 (lv_at hl 4 rfl) ?_
          refine va_iald (f := A 1) hx hb hK hP 1 0 rfl rfl (vp_in_nI (by omega) (by decide)) dX1_isAttacked_22 ?_
          refine cSi ⟨hx, hb, hml, hown, hts⟩ (mX1_sideOf l D (A 1 (Int32.toNatClampNeg (nI n5))) _ rfl) (va_cwS 1 hts gX1_isAttacked_X1_sideOf rfl rfl rfl nX1_sideOf ⟨Nat.le_of_ble_eq_true rfl, Nat.le_of_ble_eq_true rfl⟩) rfl hl.1 rfl (Nat.le_of_ble_eq_true rfl) dX1_isAttacked_23 ⟨Nat.zero_le _, Nat.zero_le _⟩ hK hP hS hA (fun H locs hP hS => ?_)
          refine lv_iload_n hx hb dX1_isAttacked_26 rfl (lv_at hl 2 rfl) ?_
          refine lv_icmp_ne (tgt := 44) hx hb dX1_isAttacked_27 (by decide) (fun c27 => ?_) (fun c27 => ?_)
          · have hR := hR.trans (if_pos c27)
            refine lv_iconst (v := 0) hx hb dX1_isAttacked_44 (by decide) ?_
            refine lv_istore_n (lv' := [(3, .int 0), (0, .ref o), (1, .int p1), (2, .int p2), (4, .int (nI n5))]) hx hb dX1_isAttacked_45 rfl hl (by decide) rfl (fun ls hl => ?_)
            refine lv_iinc (v := (nI (n5 + 1))) (lv' := [(4, .int (nI (n5 + 1))), (3, .int 0), (0, .ref o), (1, .int p1), (2, .int p2)]) hx hb dX1_isAttacked_46 hl (k := 4) rfl (nI_1 _) (by decide) rfl (fun ls hl => ?_)
            refine lv_goto (tgt := 5) hx hb dX1_isAttacked_49 (by decide) ?_
            exact ih (n5 + 1) 0 _ _ ls (by omega) (Or.inl rfl) hP hD hS (lv_sub hl [2, 3, 4, 1, 0] rfl) hR
          · have hR := hR.trans (if_neg (fun z => z c27))
            refine lv_aload_n hx hb dX1_isAttacked_30 rfl (lv_at hl 0 rfl) ?_
            refine lv_iload hx hb dX1_isAttacked_31 (lv_at hl 4 rfl) ?_
            refine lv_iload_n hx hb dX1_isAttacked_33 rfl (lv_at hl 1 rfl) ?_
            refine cVi ⟨hx, hb, hml, hown, hts⟩ (mX1_attacks l D cI cB o h F A (nI n5) p1 (vp_in_nI (by omega) (by decide)) h1 _ rfl) (cwV 2 hts gX1_isAttacked_X1_attacks rfl rfl rfl nX1_attacks ⟨Nat.le_of_ble_eq_true rfl, Nat.le_of_ble_eq_true rfl⟩) (va_recv hK hP (ci := 1) (q0 := 0) rfl rfl) rfl hl.1 rfl (Nat.le_of_ble_eq_true rfl) dX1_isAttacked_34 ⟨Nat.zero_le _, Nat.zero_le _⟩ hK hP hD hS hA (fun H locs hP hD hS => ?_)
            refine lv_if_eq (tgt := 44) hx hb dX1_isAttacked_37 (by decide) (fun c37 => ?_) (fun c37 => ?_)
            · have hR := hR.trans (if_pos c37)
              refine lv_iconst (v := 0) hx hb dX1_isAttacked_44 (by decide) ?_
              refine lv_istore_n (lv' := [(3, .int 0), (0, .ref o), (1, .int p1), (2, .int p2), (4, .int (nI n5))]) hx hb dX1_isAttacked_45 rfl hl (by decide) rfl (fun ls hl => ?_)
              refine lv_iinc (v := (nI (n5 + 1))) (lv' := [(4, .int (nI (n5 + 1))), (3, .int 0), (0, .ref o), (1, .int p1), (2, .int p2)]) hx hb dX1_isAttacked_46 hl (k := 4) rfl (nI_1 _) (by decide) rfl (fun ls hl => ?_)
              refine lv_goto (tgt := 5) hx hb dX1_isAttacked_49 (by decide) ?_
              exact ih (n5 + 1) 0 _ _ ls (by omega) (Or.inl rfl) hP hD hS (lv_sub hl [2, 3, 4, 1, 0] rfl) hR
            · have hR := hR.trans (if_neg c37)
              refine lv_iconst (v := 1) hx hb dX1_isAttacked_40 (by decide) ?_
              refine lv_goto (tgt := 45) hx hb dX1_isAttacked_41 (by decide) ?_
              refine lv_istore_n (lv' := [(3, .int 1), (0, .ref o), (1, .int p1), (2, .int p2), (4, .int (nI n5))]) hx hb dX1_isAttacked_45 rfl hl (by decide) rfl (fun ls hl => ?_)
              refine lv_iinc (v := (nI (n5 + 1))) (lv' := [(4, .int (nI (n5 + 1))), (3, .int 1), (0, .ref o), (1, .int p1), (2, .int p2)]) hx hb dX1_isAttacked_46 hl (k := 4) rfl (nI_1 _) (by decide) rfl (fun ls hl => ?_)
              refine lv_goto (tgt := 5) hx hb dX1_isAttacked_49 (by decide) ?_
              exact ih (n5 + 1) 1 _ _ ls (by omega) (Or.inr rfl) hP hD hS (lv_sub hl [2, 3, 4, 1, 0] rfl) hR
  exact hw5 64 0 0 _ _ ls (by omega) (Or.inl rfl) hP hD hS (lv_sub hl [2, 3, 4, 1, 0] rfl) hR
def qX1_attackers_w34 (F : Nat → Int32) (A : Nat → Nat → Int32) (x1 : Int32) (x2 : Int32) : Nat → Nat → (Int64) → Int64 × tFA
  | 0, n, x3 => (x3, F, A)
  | k + 1, n, x3 => (if ¬ (F 0) = 0 then (x3, F, A) else (if ¬ (qX1_sideOf (A 1 (Int32.toNatClampNeg (nI n)))) = x2 then (qX1_attackers_w34 F A x1 x2 k (n + 1) x3) else (if (qX1_attacks F A (nI n) x1) = 0 then (qX1_attackers_w34 F A x1 x2 k (n + 1) x3) else (qX1_attackers_w34 F A x1 x2 k (n + 1) (x3 ||| (1 <<< (Int32.toInt64 (nI n) &&& 63)))))))
def qX1_attackers_j26 (F : Nat → Int32) (A : Nat → Nat → Int32) (x1 : Int32) (x2 : Int32) (s0 : Int32) : Int64 × tFA := (qX1_attackers_w34 (uf F 0 s0) A x1 x2 64 0 0)
def qX1_attackers (F : Nat → Int32) (A : Nat → Nat → Int32) (p1 : Int32) (p2 : Int32) : Int64 × tFA := (if ¬ (qX1_isSquare p1) = 0 then (if p2 < 0 then (qX1_attackers_j26 F A p1 p2 2) else (if p2 ≤ 1 then (qX1_attackers_j26 F A p1 p2 0) else (qX1_attackers_j26 F A p1 p2 2))) else (qX1_attackers_j26 F A p1 p2 1))
abbrev rmX1_attackers : Room := { frames := 2, cells := 0, slots := 0, locals := 53 }
theorem nX1_attackers : yX1_attackers.cls = RX1 ∧ yX1_attackers.cls ≠ "java/lang/invoke/MethodHandle" ∧ yX1_attackers.cls ≠ "java/lang/invoke/VarHandle" ∧ (parseMethodDescriptor yX1_attackers.desc).map (fun d => d.parameters.length) = some 2 := by decide +kernel
theorem in_X1_attackers : ∀ w ∈ wsX10, w ∈ wsX1_attackers := fun w h => by
  unfold wsX1_attackers
  exact List.mem_cons_of_mem _ (List.mem_append_right _ h)
theorem kX1_attackers_0 : Cond.fieldLink RX1 31 "BoardModel" "thrown" "I" ∈ wsX1_attackers := by decide +kernel
theorem kX1_attackers_1 : Cond.fieldLink RX1 7 "BoardModel" "squares" "[I" ∈ wsX1_attackers := by decide +kernel
set_option maxHeartbeats 4000000 in
set_option maxRecDepth 100000 in
theorem mX1_attackers (l : Launch) (D : va_G) (cI cB : ClassId) (o : Nat) (h : Nat → Nat) (F : Nat → Int32) (A : Nat → Nat → Int32) (p1 : Int32) (p2 : Int32) (r0 : Int64 × tFA) (hR : r0 = qX1_attackers F A p1 p2) : cMl l yX1_attackers wsX1_attackers rmX1_attackers D [(cI, .int), (cB, .byte)] (wR cI cB o h F A) [.ref o, .int p1, .int p2] r0.1 (wR cI cB o h r0.2.1 r0.2.2) := by
  intro sz
  refine cMet_of (Qc := fun AA => cQl D [(cI, .int), (cB, .byte)] r0.1 (wR cI cB o h r0.2.1 r0.2.2) AA) (cc := cX1_attackers) (maxL := 6) (ret := (some .long)) (by decide) rfl (Nat.le_of_ble_eq_true rfl) ?_ sz
  intro p e s m below meth c AA ls hx hb hr hts hown hml hlk hA hK hP hD hS hl
  have hown : s.vm.findClass RX1 = some m.cls := hown
  have hl : lv_has ls 6 [(0, .ref o), (1, .int p1), (2, .int p2)] := hl
  rw [qX1_attackers] at hR
  refine lv_aload_n hx hb dX1_attackers_0 rfl (lv_at hl 0 rfl) ?_
  refine lv_iload_n hx hb dX1_attackers_1 rfl (lv_at hl 1 rfl) ?_
  refine cSi ⟨hx, hb, hml, hown, hts⟩ (mX1_isSquare l D p1 _ rfl) (va_cwS 1 hts gX1_attackers_X1_isSquare rfl rfl rfl nX1_isSquare ⟨Nat.le_of_ble_eq_true rfl, Nat.le_of_ble_eq_true rfl⟩) rfl hl.1 rfl (Nat.le_of_ble_eq_true rfl) dX1_attackers_2 ⟨Nat.zero_le _, Nat.zero_le _⟩ hK hP hS hA (fun H locs hP hS => ?_)
  have hj26 : ∀ (s26_0 : Int32) (H : Heap) (locs : List Loc) (ls : Array Slot), (s26_0 = 0 → vp_in p1 64) → va_P D vwCl (wR cI cB o h F A) H → va_D AA (wR cI cB o h F A) → va_S AA s.heap H locs → lv_has ls 6 [(0, .ref o), (1, .int p1), (2, .int p2)] → r0 = qX1_attackers_j26 F A p1 p2 s26_0 → W p l e rmX1_attackers s m [.ref o, .int p1, .int p2].toArray below meth c H locs 0 0 (MQ below (cQl D [(cI, .int), (cB, .byte)] r0.1 (wR cI cB o h r0.2.1 r0.2.2) AA) [.ref o, .int p1, .int p2].toArray s 0 0 AA) (F0 m 26 ls [.int s26_0, .ref o]) := by
    intro s26_0 H locs ls h26 hP hD hS hl hR
    rw [qX1_attackers_j26] at hR
    refine pR0 hx hb hts in_X1_attackers hown hK hP hD hS kX1_attackers_0 dX1_attackers_26 (fun H locs hP hD hS => ?_)
    refine lv_lconst (v := 0) hx hb dX1_attackers_29 (by decide) ?_
    refine lv_lstore_n (lv' := [(3, .long 0), (0, .ref o), (1, .int p1), (2, .int p2)]) hx hb dX1_attackers_30 rfl hl (by decide) rfl (fun ls hl => ?_)
    refine lv_iconst (v := 0) hx hb dX1_attackers_31 (by decide) ?_
    refine lv_istore (lv' := [(5, .int 0), (3, .long 0), (0, .ref o), (1, .int p1), (2, .int p2)]) hx hb dX1_attackers_32 hl (by decide) rfl (fun ls hl => ?_)
    have hw34 : ∀ (k n34 : Nat) (v34_3 : Int64) (H : Heap) (locs : List Loc) (ls : Array Slot), n34 + k = 64 → va_P D vwCl (wR cI cB o h (uf F 0 s26_0) A) H → va_D AA (wR cI cB o h (uf F 0 s26_0) A) → va_S AA s.heap H locs → lv_has ls 6 [(0, .ref o), (1, .int p1), (2, .int p2), (3, .long v34_3), (5, .int (nI n34))] → r0 = qX1_attackers_w34 (uf F 0 s26_0) A p1 p2 k n34 v34_3 → W p l e rmX1_attackers s m [.ref o, .int p1, .int p2].toArray below meth c H locs 0 0 (MQ below (cQl D [(cI, .int), (cB, .byte)] r0.1 (wR cI cB o h r0.2.1 r0.2.2) AA) [.ref o, .int p1, .int p2].toArray s 0 0 AA) (F0 m 34 ls []) := by
      intro k
      induction k with
      | zero =>
        intro n34 v34_3 H locs ls hn  hP hD hS hl hR
        rw [qX1_attackers_w34] at hR
        refine lv_iload hx hb dX1_attackers_34 (lv_at hl 4 rfl) ?_
        refine lv_bipush (v := 64) hx hb dX1_attackers_36 (by decide) ?_
        refine lv_icmp_ge (tgt := 89) hx hb dX1_attackers_38 (by decide) (fun c38 => ?_) (fun c38 => ?_)
        · skip
          refine lv_lload_n hx hb dX1_attackers_89 rfl (lv_at hl 3 rfl) ?_
          subst hR
          exact cRl hx hb hr hlk hK hP hD hS rfl dX1_attackers_90
        · exact absurd (nI_le (a := 64) (b := n34) (by omega) (by omega)) c38
      | succ k ih =>
        intro n34 v34_3 H locs ls hn  hP hD hS hl hR
        rw [qX1_attackers_w34] at hR
        refine lv_iload hx hb dX1_attackers_34 (lv_at hl 4 rfl) ?_
        refine lv_bipush (v := 64) hx hb dX1_attackers_36 (by decide) ?_
        refine lv_icmp_ge (tgt := 89) hx hb dX1_attackers_38 (by decide) (fun c38 => ?_) (fun c38 => ?_)
        · exact absurd c38 (nI_ge (a := n34) (b := 64) (by omega) (by omega))
        · skip
          refine lv_aload_n hx hb dX1_attackers_41 rfl (lv_at hl 0 rfl) ?_
          refine gR hx hb hts in_X1_attackers hown hK hP 0 (by decide) rfl kX1_attackers_0 dX1_attackers_42 ?_
          refine lv_if_ne (tgt := 89) hx hb dX1_attackers_45 (by decide) (fun c45 => ?_) (fun c45 => ?_)
          · have hR := hR.trans (if_pos c45)
            refine lv_lload_n hx hb dX1_attackers_89 rfl (lv_at hl 3 rfl) ?_
            subst hR
            exact cRl hx hb hr hlk hK hP hD hS rfl dX1_attackers_90
          · have hR := hR.trans (if_neg (fun z => z c45))
            refine lv_aload_n hx hb dX1_attackers_48 rfl (lv_at hl 0 rfl) ?_
            refine gR hx hb hts in_X1_attackers hown hK hP 1 (by decide) rfl kX1_attackers_1 dX1_attackers_49 ?_
            refine lv_iload hx hb dX1_attackers_52 (lv_at hl 4 rfl) ?_
            refine va_iald (f := A 1) hx hb hK hP 1 0 rfl rfl (vp_in_nI (by omega) (by decide)) dX1_attackers_54 ?_
            refine cSi ⟨hx, hb, hml, hown, hts⟩ (mX1_sideOf l D (A 1 (Int32.toNatClampNeg (nI n34))) _ rfl) (va_cwS 1 hts gX1_attackers_X1_sideOf rfl rfl rfl nX1_sideOf ⟨Nat.le_of_ble_eq_true rfl, Nat.le_of_ble_eq_true rfl⟩) rfl hl.1 rfl (Nat.le_of_ble_eq_true rfl) dX1_attackers_55 ⟨Nat.zero_le _, Nat.zero_le _⟩ hK hP hS hA (fun H locs hP hS => ?_)
            refine lv_iload_n hx hb dX1_attackers_58 rfl (lv_at hl 2 rfl) ?_
            refine lv_icmp_ne (tgt := 81) hx hb dX1_attackers_59 (by decide) (fun c59 => ?_) (fun c59 => ?_)
            · have hR := hR.trans (if_pos c59)
              refine lv_lload_n hx hb dX1_attackers_81 rfl (lv_at hl 3 rfl) ?_
              refine lv_lstore_n (lv' := [(3, .long v34_3), (0, .ref o), (1, .int p1), (2, .int p2), (5, .int (nI n34))]) hx hb dX1_attackers_82 rfl hl (by decide) rfl (fun ls hl => ?_)
              refine lv_iinc (v := (nI (n34 + 1))) (lv' := [(5, .int (nI (n34 + 1))), (3, .long v34_3), (0, .ref o), (1, .int p1), (2, .int p2)]) hx hb dX1_attackers_83 hl (k := 4) rfl (nI_1 _) (by decide) rfl (fun ls hl => ?_)
              refine lv_goto (tgt := 34) hx hb dX1_attackers_86 (by decide) ?_
              exact ih (n34 + 1) v34_3 _ _ ls (by omega) hP hD hS (lv_sub hl [2, 3, 4, 1, 0] rfl) hR
            · have hR := hR.trans (if_neg (fun z => z c59))
              refine lv_aload_n hx hb dX1_attackers_62 rfl (lv_at hl 0 rfl) ?_
              refine lv_iload hx hb dX1_attackers_63 (lv_at hl 4 rfl) ?_
              refine lv_iload_n hx hb dX1_attackers_65 rfl (lv_at hl 1 rfl) ?_
              refine cVi ⟨hx, hb, hml, hown, hts⟩ (mX1_attacks l D cI cB o h (uf F 0 s26_0) A (nI n34) p1 (vp_in_nI (by omega) (by decide)) (h26 c45) _ rfl) (cwV 2 hts gX1_attackers_X1_attacks rfl rfl rfl nX1_attacks ⟨Nat.le_of_ble_eq_true rfl, Nat.le_of_ble_eq_true rfl⟩) (va_recv hK hP (ci := 1) (q0 := 0) rfl rfl) rfl hl.1 rfl (Nat.le_of_ble_eq_true rfl) dX1_attackers_66 ⟨Nat.zero_le _, Nat.zero_le _⟩ hK hP hD hS hA (fun H locs hP hD hS => ?_)
              refine lv_if_eq (tgt := 81) hx hb dX1_attackers_69 (by decide) (fun c69 => ?_) (fun c69 => ?_)
              · have hR := hR.trans (if_pos c69)
                refine lv_lload_n hx hb dX1_attackers_81 rfl (lv_at hl 3 rfl) ?_
                refine lv_lstore_n (lv' := [(3, .long v34_3), (0, .ref o), (1, .int p1), (2, .int p2), (5, .int (nI n34))]) hx hb dX1_attackers_82 rfl hl (by decide) rfl (fun ls hl => ?_)
                refine lv_iinc (v := (nI (n34 + 1))) (lv' := [(5, .int (nI (n34 + 1))), (3, .long v34_3), (0, .ref o), (1, .int p1), (2, .int p2)]) hx hb dX1_attackers_83 hl (k := 4) rfl (nI_1 _) (by decide) rfl (fun ls hl => ?_)
                refine lv_goto (tgt := 34) hx hb dX1_attackers_86 (by decide) ?_
                exact ih (n34 + 1) v34_3 _ _ ls (by omega) hP hD hS (lv_sub hl [2, 3, 4, 1, 0] rfl) hR
              · have hR := hR.trans (if_neg c69)
                refine lv_lload_n hx hb dX1_attackers_72 rfl (lv_at hl 3 rfl) ?_
                refine lv_lconst (v := 1) hx hb dX1_attackers_73 (by decide) ?_
                refine lv_iload hx hb dX1_attackers_74 (lv_at hl 4 rfl) ?_
                refine lv_lshl hx hb dX1_attackers_76 rfl ?_
                refine lv_lor hx hb dX1_attackers_77 ?_
                refine lv_goto (tgt := 82) hx hb dX1_attackers_78 (by decide) ?_
                refine lv_lstore_n (lv' := [(3, .long (v34_3 ||| (1 <<< (Int32.toInt64 (nI n34) &&& 63)))), (0, .ref o), (1, .int p1), (2, .int p2), (5, .int (nI n34))]) hx hb dX1_attackers_82 rfl hl (by decide) rfl (fun ls hl => ?_)
                refine lv_iinc (v := (nI (n34 + 1))) (lv' := [(5, .int (nI (n34 + 1))), (3, .long (v34_3 ||| (1 <<< (Int32.toInt64 (nI n34) &&& 63)))), (0, .ref o), (1, .int p1), (2, .int p2)]) hx hb dX1_attackers_83 hl (k := 4) rfl (nI_1 _) (by decide) rfl (fun ls hl => ?_)
                refine lv_goto (tgt := 34) hx hb dX1_attackers_86 (by decide) ?_
                exact ih (n34 + 1) (v34_3 ||| (1 <<< (Int32.toInt64 (nI n34) &&& 63))) _ _ ls (by omega) hP hD hS (lv_sub hl [2, 3, 4, 1, 0] rfl) hR
    exact hw34 64 0 0 _ _ ls (by omega) hP hD hS (lv_sub hl [2, 3, 4, 1, 0] rfl) hR
  refine lv_if_ne (tgt := 12) hx hb dX1_attackers_5 (by decide) (fun c5 => ?_) (fun c5 => ?_)
  · have hR := hR.trans (if_pos c5)
    refine lv_iload_n hx hb dX1_attackers_12 rfl (lv_at hl 2 rfl) ?_
    refine lv_if_lt (tgt := 21) hx hb dX1_attackers_13 (by decide) (fun c13 => ?_) (fun c13 => ?_)
    · have hR := hR.trans (if_pos c13)
      refine lv_iconst (v := 2) hx hb dX1_attackers_21 (by decide) ?_
      refine lv_goto (tgt := 26) hx hb dX1_attackers_22 (by decide) ?_
      exact hj26 2 _ _ ls ((by first | (intro z; exact absurd z (by decide)) | (intro _; exact inSq1 c5))) hP hD hS (lv_sub hl [0, 1, 2] rfl) hR
    · have hR := hR.trans (if_neg c13)
      refine lv_iload_n hx hb dX1_attackers_16 rfl (lv_at hl 2 rfl) ?_
      refine lv_iconst (v := 1) hx hb dX1_attackers_17 (by decide) ?_
      refine lv_icmp_le (tgt := 25) hx hb dX1_attackers_18 (by decide) (fun c18 => ?_) (fun c18 => ?_)
      · have hR := hR.trans (if_pos c18)
        refine lv_iconst (v := 0) hx hb dX1_attackers_25 (by decide) ?_
        exact hj26 0 _ _ ls ((by first | (intro z; exact absurd z (by decide)) | (intro _; exact inSq1 c5))) hP hD hS (lv_sub hl [0, 1, 2] rfl) hR
      · have hR := hR.trans (if_neg c18)
        refine lv_iconst (v := 2) hx hb dX1_attackers_21 (by decide) ?_
        refine lv_goto (tgt := 26) hx hb dX1_attackers_22 (by decide) ?_
        exact hj26 2 _ _ ls ((by first | (intro z; exact absurd z (by decide)) | (intro _; exact inSq1 c5))) hP hD hS (lv_sub hl [0, 1, 2] rfl) hR
  · have hR := hR.trans (if_neg (fun z => z c5))
    refine lv_iconst (v := 1) hx hb dX1_attackers_8 (by decide) ?_
    refine lv_goto (tgt := 26) hx hb dX1_attackers_9 (by decide) ?_
    exact hj26 1 _ _ ls ((by first | (intro z; exact absurd z (by decide)) | (intro _; exact inSq1 c5))) hP hD hS (lv_sub hl [0, 1, 2] rfl) hR
def qX1_check_j24 (rec : Nat → (Int32) → Int32 × tFA) (n : Nat) (F : Nat → Int32) (A : Nat → Nat → Int32) (x1 : Int32) (x2 : Int32) : Int32 × tFA := (if ¬ x2 = 0 then (rec (n + 1) 1) else (if ¬ (A 1 (Int32.toNatClampNeg (nI n))) = (6 + (6 * x1)) then (rec (n + 1) 0) else (if (qX1_isAttacked F A (nI n) (1 - x1)) = 0 then (rec (n + 1) 0) else (rec (n + 1) 1))))
def qX1_check_w9 (F : Nat → Int32) (A : Nat → Nat → Int32) (x1 : Int32) : Nat → Nat → (Int32) → Int32 × tFA
  | 0, n, x2 => (x2, F, A)
  | k + 1, n, x2 => (if x1 = 0 then (qX1_check_j24 (qX1_check_w9 F A x1 k) n F A x1 x2) else (if ¬ x1 = 1 then (x2, F, A) else (qX1_check_j24 (qX1_check_w9 F A x1 k) n F A x1 x2)))
def qX1_check (F : Nat → Int32) (A : Nat → Nat → Int32) (p1 : Int32) : Int32 × tFA := (qX1_check_w9 (uf F 0 0) A p1 64 0 0)
abbrev rmX1_check : Room := { frames := 3, cells := 0, slots := 0, locals := 77 }
theorem nX1_check : yX1_check.cls = RX1 ∧ yX1_check.cls ≠ "java/lang/invoke/MethodHandle" ∧ yX1_check.cls ≠ "java/lang/invoke/VarHandle" ∧ (parseMethodDescriptor yX1_check.desc).map (fun d => d.parameters.length) = some 1 := by decide +kernel
theorem in_X1_check : ∀ w ∈ wsX10, w ∈ wsX1_check := fun w h => by
  unfold wsX1_check
  exact List.mem_cons_of_mem _ (List.mem_append_right _ h)
theorem kX1_check_0 : Cond.fieldLink RX1 31 "BoardModel" "thrown" "I" ∈ wsX1_check := by decide +kernel
theorem kX1_check_1 : Cond.fieldLink RX1 7 "BoardModel" "squares" "[I" ∈ wsX1_check := by decide +kernel
set_option maxHeartbeats 4000000 in
set_option maxRecDepth 100000 in
theorem mX1_check (l : Launch) (D : va_G) (cI cB : ClassId) (o : Nat) (h : Nat → Nat) (F : Nat → Int32) (A : Nat → Nat → Int32) (p1 : Int32) (r0 : Int32 × tFA) (hR : r0 = qX1_check F A p1) : cMi l yX1_check wsX1_check rmX1_check D [(cI, .int), (cB, .byte)] (wR cI cB o h F A) [.ref o, .int p1] r0.1 (wR cI cB o h r0.2.1 r0.2.2) := by
  intro sz
  refine cMet_of (Qc := fun AA => cQi D [(cI, .int), (cB, .byte)] r0.1 (wR cI cB o h r0.2.1 r0.2.2) AA) (cc := cX1_check) (maxL := 4) (ret := (some .boolean)) (by decide) rfl (Nat.le_of_ble_eq_true rfl) ?_ sz
  intro p e s m below meth c AA ls hx hb hr hts hown hml hlk hA hK hP hD hS hl
  have hown : s.vm.findClass RX1 = some m.cls := hown
  have hl : lv_has ls 4 [(0, .ref o), (1, .int p1)] := hl
  rw [qX1_check] at hR
  refine lv_aload_n hx hb dX1_check_0 rfl (lv_at hl 0 rfl) ?_
  refine lv_iconst (v := 0) hx hb dX1_check_1 (by decide) ?_
  refine pR0 hx hb hts in_X1_check hown hK hP hD hS kX1_check_0 dX1_check_2 (fun H locs hP hD hS => ?_)
  refine lv_iconst (v := 0) hx hb dX1_check_5 (by decide) ?_
  refine lv_istore_n (lv' := [(2, .int 0), (0, .ref o), (1, .int p1)]) hx hb dX1_check_6 rfl hl (by decide) rfl (fun ls hl => ?_)
  refine lv_iconst (v := 0) hx hb dX1_check_7 (by decide) ?_
  refine lv_istore_n (lv' := [(3, .int 0), (2, .int 0), (0, .ref o), (1, .int p1)]) hx hb dX1_check_8 rfl hl (by decide) rfl (fun ls hl => ?_)
  have hw9 : ∀ (k n9 : Nat) (v9_2 : Int32) (H : Heap) (locs : List Loc) (ls : Array Slot), n9 + k = 64 → (v9_2 = 0 ∨ v9_2 = 1) → va_P D vwCl (wR cI cB o h (uf F 0 0) A) H → va_D AA (wR cI cB o h (uf F 0 0) A) → va_S AA s.heap H locs → lv_has ls 4 [(0, .ref o), (1, .int p1), (2, .int v9_2), (3, .int (nI n9))] → r0 = qX1_check_w9 (uf F 0 0) A p1 k n9 v9_2 → W p l e rmX1_check s m [.ref o, .int p1].toArray below meth c H locs 0 0 (MQ below (cQi D [(cI, .int), (cB, .byte)] r0.1 (wR cI cB o h r0.2.1 r0.2.2) AA) [.ref o, .int p1].toArray s 0 0 AA) (F0 m 9 ls []) := by
    intro k
    induction k with
    | zero =>
      intro n9 v9_2 H locs ls hn hb9_2 hP hD hS hl hR
      rw [qX1_check_w9] at hR
      refine lv_iload_n hx hb dX1_check_9 rfl (lv_at hl 3 rfl) ?_
      refine lv_bipush (v := 64) hx hb dX1_check_10 (by decide) ?_
      refine lv_icmp_ge (tgt := 67) hx hb dX1_check_12 (by decide) (fun c12 => ?_) (fun c12 => ?_)
      · skip
        refine lv_iload_n hx hb dX1_check_67 rfl (lv_at hl 2 rfl) ?_
        subst hR
        exact cRz hx hb hr hlk hK hP hD hS hb9_2 rfl dX1_check_68
      · exact absurd (nI_le (a := 64) (b := n9) (by omega) (by omega)) c12
    | succ k ih =>
      intro n9 v9_2 H locs ls hn hb9_2 hP hD hS hl hR
      rw [qX1_check_w9] at hR
      refine lv_iload_n hx hb dX1_check_9 rfl (lv_at hl 3 rfl) ?_
      refine lv_bipush (v := 64) hx hb dX1_check_10 (by decide) ?_
      refine lv_icmp_ge (tgt := 67) hx hb dX1_check_12 (by decide) (fun c12 => ?_) (fun c12 => ?_)
      · exact absurd c12 (nI_ge (a := n9) (b := 64) (by omega) (by omega))
      · skip
        refine lv_iload_n hx hb dX1_check_15 rfl (lv_at hl 1 rfl) ?_
        have hj24 : ∀ (H : Heap) (locs : List Loc) (ls : Array Slot), va_P D vwCl (wR cI cB o h (uf F 0 0) A) H → va_D AA (wR cI cB o h (uf F 0 0) A) → va_S AA s.heap H locs → lv_has ls 4 [(0, .ref o), (1, .int p1), (2, .int v9_2), (3, .int (nI n9))] → r0 = qX1_check_j24 (qX1_check_w9 (uf F 0 0) A p1 k) n9 (uf F 0 0) A p1 v9_2 → W p l e rmX1_check s m [.ref o, .int p1].toArray below meth c H locs 0 0 (MQ below (cQi D [(cI, .int), (cB, .byte)] r0.1 (wR cI cB o h r0.2.1 r0.2.2) AA) [.ref o, .int p1].toArray s 0 0 AA) (F0 m 24 ls []) := by
          intro  H locs ls  hP hD hS hl hR
          rw [qX1_check_j24] at hR
          refine lv_iload_n hx hb dX1_check_24 rfl (lv_at hl 2 rfl) ?_
          refine lv_if_ne (tgt := 55) hx hb dX1_check_25 (by decide) (fun c25 => ?_) (fun c25 => ?_)
          · have hR := hR.trans (if_pos c25)
            refine lv_iconst (v := 1) hx hb dX1_check_55 (by decide) ?_
            refine lv_goto (tgt := 60) hx hb dX1_check_56 (by decide) ?_
            refine lv_istore_n (lv' := [(2, .int 1), (0, .ref o), (1, .int p1), (3, .int (nI n9))]) hx hb dX1_check_60 rfl hl (by decide) rfl (fun ls hl => ?_)
            refine lv_iinc (v := (nI (n9 + 1))) (lv' := [(3, .int (nI (n9 + 1))), (2, .int 1), (0, .ref o), (1, .int p1)]) hx hb dX1_check_61 hl (k := 3) rfl (nI_1 _) (by decide) rfl (fun ls hl => ?_)
            refine lv_goto (tgt := 9) hx hb dX1_check_64 (by decide) ?_
            exact ih (n9 + 1) 1 _ _ ls (by omega) (Or.inr rfl) hP hD hS (lv_sub hl [2, 3, 1, 0] rfl) hR
          · have hR := hR.trans (if_neg (fun z => z c25))
            refine lv_aload_n hx hb dX1_check_28 rfl (lv_at hl 0 rfl) ?_
            refine gR hx hb hts in_X1_check hown hK hP 1 (by decide) rfl kX1_check_1 dX1_check_29 ?_
            refine lv_iload_n hx hb dX1_check_32 rfl (lv_at hl 3 rfl) ?_
            refine va_iald (f := A 1) hx hb hK hP 1 0 rfl rfl (vp_in_nI (by omega) (by decide)) dX1_check_33 ?_
            refine lv_bipush (v := 6) hx hb dX1_check_34 (by decide) ?_
            refine lv_bipush (v := 6) hx hb dX1_check_36 (by decide) ?_
            refine lv_iload_n hx hb dX1_check_38 rfl (lv_at hl 1 rfl) ?_
            refine lv_imul hx hb dX1_check_39 ?_
            refine lv_iadd hx hb dX1_check_40 ?_
            refine lv_icmp_ne (tgt := 59) hx hb dX1_check_41 (by decide) (fun c41 => ?_) (fun c41 => ?_)
            · have hR := hR.trans (if_pos c41)
              refine lv_iconst (v := 0) hx hb dX1_check_59 (by decide) ?_
              refine lv_istore_n (lv' := [(2, .int 0), (0, .ref o), (1, .int p1), (3, .int (nI n9))]) hx hb dX1_check_60 rfl hl (by decide) rfl (fun ls hl => ?_)
              refine lv_iinc (v := (nI (n9 + 1))) (lv' := [(3, .int (nI (n9 + 1))), (2, .int 0), (0, .ref o), (1, .int p1)]) hx hb dX1_check_61 hl (k := 3) rfl (nI_1 _) (by decide) rfl (fun ls hl => ?_)
              refine lv_goto (tgt := 9) hx hb dX1_check_64 (by decide) ?_
              exact ih (n9 + 1) 0 _ _ ls (by omega) (Or.inl rfl) hP hD hS (lv_sub hl [2, 3, 1, 0] rfl) hR
            · have hR := hR.trans (if_neg (fun z => z c41))
              refine lv_aload_n hx hb dX1_check_44 rfl (lv_at hl 0 rfl) ?_
              refine lv_iload_n hx hb dX1_check_45 rfl (lv_at hl 3 rfl) ?_
              refine lv_iconst (v := 1) hx hb dX1_check_46 (by decide) ?_
              refine lv_iload_n hx hb dX1_check_47 rfl (lv_at hl 1 rfl) ?_
              refine lv_isub hx hb dX1_check_48 ?_
              refine cVi ⟨hx, hb, hml, hown, hts⟩ (mX1_isAttacked l D cI cB o h (uf F 0 0) A (nI n9) (1 - p1) (vp_in_nI (by omega) (by decide)) _ rfl) (cwV 2 hts gX1_check_X1_isAttacked rfl rfl rfl nX1_isAttacked ⟨Nat.le_of_ble_eq_true rfl, Nat.le_of_ble_eq_true rfl⟩) (va_recv hK hP (ci := 1) (q0 := 0) rfl rfl) rfl hl.1 rfl (Nat.le_of_ble_eq_true rfl) dX1_check_49 ⟨Nat.zero_le _, Nat.zero_le _⟩ hK hP hD hS hA (fun H locs hP hD hS => ?_)
              refine lv_if_eq (tgt := 59) hx hb dX1_check_52 (by decide) (fun c52 => ?_) (fun c52 => ?_)
              · have hR := hR.trans (if_pos c52)
                refine lv_iconst (v := 0) hx hb dX1_check_59 (by decide) ?_
                refine lv_istore_n (lv' := [(2, .int 0), (0, .ref o), (1, .int p1), (3, .int (nI n9))]) hx hb dX1_check_60 rfl hl (by decide) rfl (fun ls hl => ?_)
                refine lv_iinc (v := (nI (n9 + 1))) (lv' := [(3, .int (nI (n9 + 1))), (2, .int 0), (0, .ref o), (1, .int p1)]) hx hb dX1_check_61 hl (k := 3) rfl (nI_1 _) (by decide) rfl (fun ls hl => ?_)
                refine lv_goto (tgt := 9) hx hb dX1_check_64 (by decide) ?_
                exact ih (n9 + 1) 0 _ _ ls (by omega) (Or.inl rfl) hP hD hS (lv_sub hl [2, 3, 1, 0] rfl) hR
              · have hR := hR.trans (if_neg c52)
                refine lv_iconst (v := 1) hx hb dX1_check_55 (by decide) ?_
                refine lv_goto (tgt := 60) hx hb dX1_check_56 (by decide) ?_
                refine lv_istore_n (lv' := [(2, .int 1), (0, .ref o), (1, .int p1), (3, .int (nI n9))]) hx hb dX1_check_60 rfl hl (by decide) rfl (fun ls hl => ?_)
                refine lv_iinc (v := (nI (n9 + 1))) (lv' := [(3, .int (nI (n9 + 1))), (2, .int 1), (0, .ref o), (1, .int p1)]) hx hb dX1_check_61 hl (k := 3) rfl (nI_1 _) (by decide) rfl (fun ls hl => ?_)
                refine lv_goto (tgt := 9) hx hb dX1_check_64 (by decide) ?_
                exact ih (n9 + 1) 1 _ _ ls (by omega) (Or.inr rfl) hP hD hS (lv_sub hl [2, 3, 1, 0] rfl) hR
        refine lv_if_eq (tgt := 24) hx hb dX1_check_16 (by decide) (fun c16 => ?_) (fun c16 => ?_)
        · have hR := hR.trans (if_pos c16)
          exact hj24 _ _ ls hP hD hS (lv_sub hl [0, 1, 2, 3] rfl) hR
        · have hR := hR.trans (if_neg c16)
          refine lv_iload_n hx hb dX1_check_19 rfl (lv_at hl 1 rfl) ?_
          refine lv_iconst (v := 1) hx hb dX1_check_20 (by decide) ?_
          refine lv_icmp_ne (tgt := 67) hx hb dX1_check_21 (by decide) (fun c21 => ?_) (fun c21 => ?_)
          · have hR := hR.trans (if_pos c21)
            refine lv_iload_n hx hb dX1_check_67 rfl (lv_at hl 2 rfl) ?_
            subst hR
            exact cRz hx hb hr hlk hK hP hD hS hb9_2 rfl dX1_check_68
          · have hR := hR.trans (if_neg (fun z => z c21))
            exact hj24 _ _ ls hP hD hS (lv_sub hl [0, 1, 2, 3] rfl) hR
  exact hw9 64 0 0 _ _ ls (by omega) (Or.inl rfl) hP hD hS (lv_sub hl [2, 3, 1, 0] rfl) hR
def qX1_castles_j74 (F : Nat → Int32) (A : Nat → Nat → Int32) (x1 : Int32) (x5 : Int32) (s0 : Int32) : Int32 := (if ((F 3) &&& x5) = 0 then 0 else (if ¬ (A 1 (Int32.toNatClampNeg s0)) = (4 + (6 * (F 2))) then 0 else (if (qX1_isFree F A x1 s0) = 0 then 0 else 1)))
def qX1_castles_j50 (F : Nat → Int32) (A : Nat → Nat → Int32) (x1 : Int32) (x3 : Int32) (x4 : Int32) (s0 : Int32) : Int32 := (if ¬ x4 = 2 then (qX1_castles_j74 F A x1 (s0 <<< ((2 * (F 2)) &&& 31)) (x3 - 4)) else (qX1_castles_j74 F A x1 (s0 <<< ((2 * (F 2)) &&& 31)) (x3 + 3)))
def qX1_castles_j39 (F : Nat → Int32) (A : Nat → Nat → Int32) (x1 : Int32) (x3 : Int32) (x4 : Int32) : Int32 := (if ¬ x4 = 2 then (qX1_castles_j50 F A x1 x3 x4 2) else (qX1_castles_j50 F A x1 x3 x4 1))
def qX1_castles_j13 (F : Nat → Int32) (A : Nat → Nat → Int32) (x1 : Int32) (x2 : Int32) (s0 : Int32) : Int32 := (if ¬ x1 = s0 then 0 else (if (x2 - x1) = 2 then (qX1_castles_j39 F A x1 s0 (x2 - x1)) else (if (x2 - x1) = (-2) then (qX1_castles_j39 F A x1 s0 (x2 - x1)) else 0)))
def qX1_castles (F : Nat → Int32) (A : Nat → Nat → Int32) (p1 : Int32) (p2 : Int32) : Int32 := (if ¬ (F 2) = 0 then (qX1_castles_j13 F A p1 p2 60) else (qX1_castles_j13 F A p1 p2 4))
abbrev rmX1_castles : Room := { frames := 1, cells := 0, slots := 0, locals := 26 }
theorem nX1_castles : yX1_castles.cls = RX1 ∧ yX1_castles.cls ≠ "java/lang/invoke/MethodHandle" ∧ yX1_castles.cls ≠ "java/lang/invoke/VarHandle" ∧ (parseMethodDescriptor yX1_castles.desc).map (fun d => d.parameters.length) = some 2 := by decide +kernel
theorem in_X1_castles : ∀ w ∈ wsX10, w ∈ wsX1_castles := fun w h => by
  unfold wsX1_castles
  exact List.mem_cons_of_mem _ (List.mem_append_right _ h)
theorem kX1_castles_0 : Cond.fieldLink RX1 34 "BoardModel" "side" "I" ∈ wsX1_castles := by decide +kernel
theorem kX1_castles_1 : Cond.fieldLink RX1 37 "BoardModel" "rights" "I" ∈ wsX1_castles := by decide +kernel
theorem kX1_castles_2 : Cond.fieldLink RX1 7 "BoardModel" "squares" "[I" ∈ wsX1_castles := by decide +kernel
set_option maxHeartbeats 4000000 in
set_option maxRecDepth 100000 in
theorem mX1_castles (l : Launch) (D : va_G) (cI cB : ClassId) (o : Nat) (h : Nat → Nat) (F : Nat → Int32) (A : Nat → Nat → Int32) (p1 : Int32) (p2 : Int32) (r0 : Int32) (hR : r0 = qX1_castles F A p1 p2) : cMi l yX1_castles wsX1_castles rmX1_castles D [(cI, .int), (cB, .byte)] (wR cI cB o h F A) [.ref o, .int p1, .int p2] r0 (wR cI cB o h F A) := by
  intro sz
  refine cMet_of (Qc := fun AA => cQi D [(cI, .int), (cB, .byte)] r0 (wR cI cB o h F A) AA) (cc := cX1_castles) (maxL := 7) (ret := (some .boolean)) (by decide) rfl (Nat.le_of_ble_eq_true rfl) ?_ sz
  intro p e s m below meth c AA ls hx hb hr hts hown hml hlk hA hK hP hD hS hl
  have hown : s.vm.findClass RX1 = some m.cls := hown
  have hl : lv_has ls 7 [(0, .ref o), (1, .int p1), (2, .int p2)] := hl
  rw [qX1_castles] at hR
  refine lv_aload_n hx hb dX1_castles_0 rfl (lv_at hl 0 rfl) ?_
  refine gR hx hb hts in_X1_castles hown hK hP 2 (by decide) rfl kX1_castles_0 dX1_castles_1 ?_
  have hj13 : ∀ (s13_0 : Int32) (H : Heap) (locs : List Loc) (ls : Array Slot), (s13_0 = 4 ∨ s13_0 = 60) → va_P D vwCl (wR cI cB o h F A) H → va_D AA (wR cI cB o h F A) → va_S AA s.heap H locs → lv_has ls 7 [(0, .ref o), (1, .int p1), (2, .int p2)] → r0 = qX1_castles_j13 F A p1 p2 s13_0 → W p l e rmX1_castles s m [.ref o, .int p1, .int p2].toArray below meth c H locs 0 0 (MQ below (cQi D [(cI, .int), (cB, .byte)] r0 (wR cI cB o h F A) AA) [.ref o, .int p1, .int p2].toArray s 0 0 AA) (F0 m 13 ls [.int s13_0]) := by
    intro s13_0 H locs ls h13 hP hD hS hl hR
    rw [qX1_castles_j13] at hR
    refine lv_istore_n (lv' := [(3, .int s13_0), (0, .ref o), (1, .int p1), (2, .int p2)]) hx hb dX1_castles_13 rfl hl (by decide) rfl (fun ls hl => ?_)
    refine lv_iload_n hx hb dX1_castles_14 rfl (lv_at hl 3 rfl) ?_
    refine lv_iload_n hx hb dX1_castles_15 rfl (lv_at hl 2 rfl) ?_
    refine lv_isub hx hb dX1_castles_16 ?_
    refine lv_istore (lv' := [(4, .int (p2 - p1)), (3, .int s13_0), (0, .ref o), (1, .int p1), (2, .int p2)]) hx hb dX1_castles_17 hl (by decide) rfl (fun ls hl => ?_)
    refine lv_iload_n hx hb dX1_castles_19 rfl (lv_at hl 3 rfl) ?_
    refine lv_iload_n hx hb dX1_castles_20 rfl (lv_at hl 1 rfl) ?_
    refine lv_icmp_ne (tgt := 37) hx hb dX1_castles_21 (by decide) (fun c21 => ?_) (fun c21 => ?_)
    · have hR := hR.trans (if_pos c21)
      refine lv_iconst (v := 0) hx hb dX1_castles_37 (by decide) ?_
      exact cRz hx hb hr hlk hK hP hD hS (Or.inl rfl) hR.symm dX1_castles_38
    · have hR := hR.trans (if_neg (fun z => z c21))
      refine lv_iload hx hb dX1_castles_24 (lv_at hl 0 rfl) ?_
      refine lv_iconst (v := 2) hx hb dX1_castles_26 (by decide) ?_
      have hj39 : ∀ (H : Heap) (locs : List Loc) (ls : Array Slot), va_P D vwCl (wR cI cB o h F A) H → va_D AA (wR cI cB o h F A) → va_S AA s.heap H locs → lv_has ls 7 [(0, .ref o), (1, .int p1), (3, .int s13_0), (4, .int (p2 - p1))] → r0 = qX1_castles_j39 F A p1 s13_0 (p2 - p1) → W p l e rmX1_castles s m [.ref o, .int p1, .int p2].toArray below meth c H locs 0 0 (MQ below (cQi D [(cI, .int), (cB, .byte)] r0 (wR cI cB o h F A) AA) [.ref o, .int p1, .int p2].toArray s 0 0 AA) (F0 m 39 ls []) := by
        intro  H locs ls  hP hD hS hl hR
        rw [qX1_castles_j39] at hR
        refine lv_iload hx hb dX1_castles_39 (lv_at hl 3 rfl) ?_
        refine lv_iconst (v := 2) hx hb dX1_castles_41 (by decide) ?_
        have hj50 : ∀ (s50_0 : Int32) (H : Heap) (locs : List Loc) (ls : Array Slot), va_P D vwCl (wR cI cB o h F A) H → va_D AA (wR cI cB o h F A) → va_S AA s.heap H locs → lv_has ls 7 [(0, .ref o), (1, .int p1), (3, .int s13_0), (4, .int (p2 - p1))] → r0 = qX1_castles_j50 F A p1 s13_0 (p2 - p1) s50_0 → W p l e rmX1_castles s m [.ref o, .int p1, .int p2].toArray below meth c H locs 0 0 (MQ below (cQi D [(cI, .int), (cB, .byte)] r0 (wR cI cB o h F A) AA) [.ref o, .int p1, .int p2].toArray s 0 0 AA) (F0 m 50 ls [.int s50_0]) := by
          intro s50_0 H locs ls  hP hD hS hl hR
          rw [qX1_castles_j50] at hR
          refine lv_iconst (v := 2) hx hb dX1_castles_50 (by decide) ?_
          refine lv_aload_n hx hb dX1_castles_51 rfl (lv_at hl 0 rfl) ?_
          refine gR hx hb hts in_X1_castles hown hK hP 2 (by decide) rfl kX1_castles_0 dX1_castles_52 ?_
          refine lv_imul hx hb dX1_castles_55 ?_
          refine lv_ishl hx hb dX1_castles_56 ?_
          refine lv_istore (lv' := [(5, .int (s50_0 <<< ((2 * (F 2)) &&& 31))), (0, .ref o), (1, .int p1), (3, .int s13_0), (4, .int (p2 - p1))]) hx hb dX1_castles_57 hl (by decide) rfl (fun ls hl => ?_)
          refine lv_iload hx hb dX1_castles_59 (lv_at hl 4 rfl) ?_
          refine lv_iconst (v := 2) hx hb dX1_castles_61 (by decide) ?_
          have hj74 : ∀ (s74_0 : Int32) (H : Heap) (locs : List Loc) (ls : Array Slot), (s74_0 = s13_0 + 3 ∨ s74_0 = s13_0 - 4) → va_P D vwCl (wR cI cB o h F A) H → va_D AA (wR cI cB o h F A) → va_S AA s.heap H locs → lv_has ls 7 [(0, .ref o), (1, .int p1), (5, .int (s50_0 <<< ((2 * (F 2)) &&& 31)))] → r0 = qX1_castles_j74 F A p1 (s50_0 <<< ((2 * (F 2)) &&& 31)) s74_0 → W p l e rmX1_castles s m [.ref o, .int p1, .int p2].toArray below meth c H locs 0 0 (MQ below (cQi D [(cI, .int), (cB, .byte)] r0 (wR cI cB o h F A) AA) [.ref o, .int p1, .int p2].toArray s 0 0 AA) (F0 m 74 ls [.int s74_0]) := by
            intro s74_0 H locs ls h74 hP hD hS hl hR
            rw [qX1_castles_j74] at hR
            refine lv_istore (lv' := [(6, .int s74_0), (0, .ref o), (1, .int p1), (5, .int (s50_0 <<< ((2 * (F 2)) &&& 31)))]) hx hb dX1_castles_74 hl (by decide) rfl (fun ls hl => ?_)
            refine lv_aload_n hx hb dX1_castles_76 rfl (lv_at hl 1 rfl) ?_
            refine gR hx hb hts in_X1_castles hown hK hP 3 (by decide) rfl kX1_castles_1 dX1_castles_77 ?_
            refine lv_iload hx hb dX1_castles_80 (lv_at hl 3 rfl) ?_
            refine lv_iand hx hb dX1_castles_82 ?_
            refine lv_if_eq (tgt := 119) hx hb dX1_castles_83 (by decide) (fun c83 => ?_) (fun c83 => ?_)
            · have hR := hR.trans (if_pos c83)
              refine lv_iconst (v := 0) hx hb dX1_castles_119 (by decide) ?_
              exact cRz hx hb hr hlk hK hP hD hS (Or.inl rfl) hR.symm dX1_castles_120
            · have hR := hR.trans (if_neg c83)
              refine lv_aload_n hx hb dX1_castles_86 rfl (lv_at hl 1 rfl) ?_
              refine gR hx hb hts in_X1_castles hown hK hP 1 (by decide) rfl kX1_castles_2 dX1_castles_87 ?_
              refine lv_iload hx hb dX1_castles_90 (lv_at hl 0 rfl) ?_
              refine va_iald (f := A 1) hx hb hK hP 1 0 rfl rfl (inCorner h13 h74) dX1_castles_92 ?_
              refine lv_iconst (v := 4) hx hb dX1_castles_93 (by decide) ?_
              refine lv_bipush (v := 6) hx hb dX1_castles_94 (by decide) ?_
              refine lv_aload_n hx hb dX1_castles_96 rfl (lv_at hl 1 rfl) ?_
              refine gR hx hb hts in_X1_castles hown hK hP 2 (by decide) rfl kX1_castles_0 dX1_castles_97 ?_
              refine lv_imul hx hb dX1_castles_100 ?_
              refine lv_iadd hx hb dX1_castles_101 ?_
              refine lv_icmp_ne (tgt := 119) hx hb dX1_castles_102 (by decide) (fun c102 => ?_) (fun c102 => ?_)
              · have hR := hR.trans (if_pos c102)
                refine lv_iconst (v := 0) hx hb dX1_castles_119 (by decide) ?_
                exact cRz hx hb hr hlk hK hP hD hS (Or.inl rfl) hR.symm dX1_castles_120
              · have hR := hR.trans (if_neg (fun z => z c102))
                refine lv_aload_n hx hb dX1_castles_105 rfl (lv_at hl 1 rfl) ?_
                refine lv_iload_n hx hb dX1_castles_106 rfl (lv_at hl 2 rfl) ?_
                refine lv_iload hx hb dX1_castles_107 (lv_at hl 0 rfl) ?_
                refine cVi ⟨hx, hb, hml, hown, hts⟩ (mX1_isFree l D cI cB o h F A p1 s74_0 (alCorner c21 h13 h74) _ rfl) (cwV 2 hts gX1_castles_X1_isFree rfl rfl rfl nX1_isFree ⟨Nat.le_of_ble_eq_true rfl, Nat.le_of_ble_eq_true rfl⟩) (va_recv hK hP (ci := 1) (q0 := 0) rfl rfl) rfl hl.1 rfl (Nat.le_of_ble_eq_true rfl) dX1_castles_109 ⟨Nat.zero_le _, Nat.zero_le _⟩ hK hP hD hS hA (fun H locs hP hD hS => ?_)
                refine lv_if_eq (tgt := 119) hx hb dX1_castles_112 (by decide) (fun c112 => ?_) (fun c112 => ?_)
                · have hR := hR.trans (if_pos c112)
                  refine lv_iconst (v := 0) hx hb dX1_castles_119 (by decide) ?_
                  exact cRz hx hb hr hlk hK hP hD hS (Or.inl rfl) hR.symm dX1_castles_120
                · have hR := hR.trans (if_neg c112)
                  refine lv_iconst (v := 1) hx hb dX1_castles_115 (by decide) ?_
                  refine lv_goto (tgt := 120) hx hb dX1_castles_116 (by decide) ?_
                  exact cRz hx hb hr hlk hK hP hD hS (Or.inr rfl) hR.symm dX1_castles_120
          refine lv_icmp_ne (tgt := 71) hx hb dX1_castles_62 (by decide) (fun c62 => ?_) (fun c62 => ?_)
          · have hR := hR.trans (if_pos c62)
            refine lv_iload_n hx hb dX1_castles_71 rfl (lv_at hl 3 rfl) ?_
            refine lv_iconst (v := 4) hx hb dX1_castles_72 (by decide) ?_
            refine lv_isub hx hb dX1_castles_73 ?_
            exact hj74 (s13_0 - 4) _ _ ls (by first | exact Or.inl rfl | exact Or.inr rfl) hP hD hS (lv_sub hl [1, 2, 0] rfl) hR
          · have hR := hR.trans (if_neg (fun z => z c62))
            refine lv_iload_n hx hb dX1_castles_65 rfl (lv_at hl 3 rfl) ?_
            refine lv_iconst (v := 3) hx hb dX1_castles_66 (by decide) ?_
            refine lv_iadd hx hb dX1_castles_67 ?_
            refine lv_goto (tgt := 74) hx hb dX1_castles_68 (by decide) ?_
            exact hj74 (s13_0 + 3) _ _ ls (by first | exact Or.inl rfl | exact Or.inr rfl) hP hD hS (lv_sub hl [1, 2, 0] rfl) hR
        refine lv_icmp_ne (tgt := 49) hx hb dX1_castles_42 (by decide) (fun c42 => ?_) (fun c42 => ?_)
        · have hR := hR.trans (if_pos c42)
          refine lv_iconst (v := 2) hx hb dX1_castles_49 (by decide) ?_
          exact hj50 2 _ _ ls hP hD hS (lv_sub hl [0, 1, 2, 3] rfl) hR
        · have hR := hR.trans (if_neg (fun z => z c42))
          refine lv_iconst (v := 1) hx hb dX1_castles_45 (by decide) ?_
          refine lv_goto (tgt := 50) hx hb dX1_castles_46 (by decide) ?_
          exact hj50 1 _ _ ls hP hD hS (lv_sub hl [0, 1, 2, 3] rfl) hR
      refine lv_icmp_eq (tgt := 39) hx hb dX1_castles_27 (by decide) (fun c27 => ?_) (fun c27 => ?_)
      · have hR := hR.trans (if_pos c27)
        exact hj39 _ _ ls hP hD hS (lv_sub hl [2, 3, 1, 0] rfl) hR
      · have hR := hR.trans (if_neg c27)
        refine lv_iload hx hb dX1_castles_30 (lv_at hl 0 rfl) ?_
        refine lv_bipush (v := (-2)) hx hb dX1_castles_32 (by decide) ?_
        refine lv_icmp_eq (tgt := 39) hx hb dX1_castles_34 (by decide) (fun c34 => ?_) (fun c34 => ?_)
        · have hR := hR.trans (if_pos c34)
          exact hj39 _ _ ls hP hD hS (lv_sub hl [2, 3, 1, 0] rfl) hR
        · have hR := hR.trans (if_neg c34)
          refine lv_iconst (v := 0) hx hb dX1_castles_37 (by decide) ?_
          exact cRz hx hb hr hlk hK hP hD hS (Or.inl rfl) hR.symm dX1_castles_38
  refine lv_if_ne (tgt := 11) hx hb dX1_castles_4 (by decide) (fun c4 => ?_) (fun c4 => ?_)
  · have hR := hR.trans (if_pos c4)
    refine lv_bipush (v := 60) hx hb dX1_castles_11 (by decide) ?_
    exact hj13 60 _ _ ls (by first | exact Or.inl rfl | exact Or.inr rfl) hP hD hS (lv_sub hl [0, 1, 2] rfl) hR
  · have hR := hR.trans (if_neg (fun z => z c4))
    refine lv_iconst (v := 4) hx hb dX1_castles_7 (by decide) ?_
    refine lv_goto (tgt := 13) hx hb dX1_castles_8 (by decide) ?_
    exact hj13 4 _ _ ls (by first | exact Or.inl rfl | exact Or.inr rfl) hP hD hS (lv_sub hl [0, 1, 2] rfl) hR
def qX1_takesPassing_j68 (F : Nat → Int32) (A : Nat → Nat → Int32) (s0 : Int32) : Int32 := (if ¬ (A 1 (Int32.toNatClampNeg s0)) = (7 - (6 * (F 2))) then 0 else 1)
def qX1_takesPassing_j18 (F : Nat → Int32) (A : Nat → Nat → Int32) (x1 : Int32) (x2 : Int32) (s0 : Int32) : Int32 := (if ¬ x2 = (F 4) then 0 else (if ¬ (A 1 (Int32.toNatClampNeg x2)) = 0 then 0 else (if (qX1_attacks F A x1 x2) = 0 then 0 else (if (qX1_isSquare s0) = 0 then 0 else (if (qX1_isSquare s0) = 0 then (qX1_takesPassing_j68 F A 0) else (qX1_takesPassing_j68 F A s0))))))
def qX1_takesPassing (F : Nat → Int32) (A : Nat → Nat → Int32) (p1 : Int32) (p2 : Int32) : Int32 := (if ¬ (F 2) = 0 then (qX1_takesPassing_j18 F A p1 p2 (p2 + 8)) else (qX1_takesPassing_j18 F A p1 p2 (p2 - 8)))
abbrev rmX1_takesPassing : Room := { frames := 2, cells := 0, slots := 0, locals := 53 }
theorem nX1_takesPassing : yX1_takesPassing.cls = RX1 ∧ yX1_takesPassing.cls ≠ "java/lang/invoke/MethodHandle" ∧ yX1_takesPassing.cls ≠ "java/lang/invoke/VarHandle" ∧ (parseMethodDescriptor yX1_takesPassing.desc).map (fun d => d.parameters.length) = some 2 := by decide +kernel
theorem in_X1_takesPassing : ∀ w ∈ wsX10, w ∈ wsX1_takesPassing := fun w h => by
  unfold wsX1_takesPassing
  exact List.mem_cons_of_mem _ (List.mem_append_right _ h)
theorem kX1_takesPassing_0 : Cond.fieldLink RX1 34 "BoardModel" "side" "I" ∈ wsX1_takesPassing := by decide +kernel
theorem kX1_takesPassing_1 : Cond.fieldLink RX1 13 "BoardModel" "passing" "I" ∈ wsX1_takesPassing := by decide +kernel
theorem kX1_takesPassing_2 : Cond.fieldLink RX1 7 "BoardModel" "squares" "[I" ∈ wsX1_takesPassing := by decide +kernel
set_option maxHeartbeats 4000000 in
set_option maxRecDepth 100000 in
theorem mX1_takesPassing (l : Launch) (D : va_G) (cI cB : ClassId) (o : Nat) (h : Nat → Nat) (F : Nat → Int32) (A : Nat → Nat → Int32) (p1 : Int32) (p2 : Int32) (h1 : vp_in p1 64) (h2 : vp_in p2 64) (r0 : Int32) (hR : r0 = qX1_takesPassing F A p1 p2) : cMi l yX1_takesPassing wsX1_takesPassing rmX1_takesPassing D [(cI, .int), (cB, .byte)] (wR cI cB o h F A) [.ref o, .int p1, .int p2] r0 (wR cI cB o h F A) := by
  intro sz
  refine cMet_of (Qc := fun AA => cQi D [(cI, .int), (cB, .byte)] r0 (wR cI cB o h F A) AA) (cc := cX1_takesPassing) (maxL := 4) (ret := (some .boolean)) (by decide) rfl (Nat.le_of_ble_eq_true rfl) ?_ sz
  intro p e s m below meth c AA ls hx hb hr hts hown hml hlk hA hK hP hD hS hl
  have hown : s.vm.findClass RX1 = some m.cls := hown
  have hl : lv_has ls 4 [(0, .ref o), (1, .int p1), (2, .int p2)] := hl
  rw [qX1_takesPassing] at hR
  refine lv_aload_n hx hb dX1_takesPassing_0 rfl (lv_at hl 0 rfl) ?_
  refine gR hx hb hts in_X1_takesPassing hown hK hP 2 (by decide) rfl kX1_takesPassing_0 dX1_takesPassing_1 ?_
  have hj18 : ∀ (s18_0 : Int32) (H : Heap) (locs : List Loc) (ls : Array Slot), va_P D vwCl (wR cI cB o h F A) H → va_D AA (wR cI cB o h F A) → va_S AA s.heap H locs → lv_has ls 4 [(0, .ref o), (1, .int p1), (2, .int p2)] → r0 = qX1_takesPassing_j18 F A p1 p2 s18_0 → W p l e rmX1_takesPassing s m [.ref o, .int p1, .int p2].toArray below meth c H locs 0 0 (MQ below (cQi D [(cI, .int), (cB, .byte)] r0 (wR cI cB o h F A) AA) [.ref o, .int p1, .int p2].toArray s 0 0 AA) (F0 m 18 ls [.int s18_0]) := by
    intro s18_0 H locs ls  hP hD hS hl hR
    rw [qX1_takesPassing_j18] at hR
    refine lv_istore_n (lv' := [(3, .int s18_0), (0, .ref o), (1, .int p1), (2, .int p2)]) hx hb dX1_takesPassing_18 rfl hl (by decide) rfl (fun ls hl => ?_)
    refine lv_iload_n hx hb dX1_takesPassing_19 rfl (lv_at hl 3 rfl) ?_
    refine lv_aload_n hx hb dX1_takesPassing_20 rfl (lv_at hl 1 rfl) ?_
    refine gR hx hb hts in_X1_takesPassing hown hK hP 4 (by decide) rfl kX1_takesPassing_1 dX1_takesPassing_21 ?_
    refine lv_icmp_ne (tgt := 86) hx hb dX1_takesPassing_24 (by decide) (fun c24 => ?_) (fun c24 => ?_)
    · have hR := hR.trans (if_pos c24)
      refine lv_iconst (v := 0) hx hb dX1_takesPassing_86 (by decide) ?_
      exact cRz hx hb hr hlk hK hP hD hS (Or.inl rfl) hR.symm dX1_takesPassing_87
    · have hR := hR.trans (if_neg (fun z => z c24))
      refine lv_aload_n hx hb dX1_takesPassing_27 rfl (lv_at hl 1 rfl) ?_
      refine gR hx hb hts in_X1_takesPassing hown hK hP 1 (by decide) rfl kX1_takesPassing_2 dX1_takesPassing_28 ?_
      refine lv_iload_n hx hb dX1_takesPassing_31 rfl (lv_at hl 3 rfl) ?_
      refine va_iald (f := A 1) hx hb hK hP 1 0 rfl rfl h2 dX1_takesPassing_32 ?_
      refine lv_if_ne (tgt := 86) hx hb dX1_takesPassing_33 (by decide) (fun c33 => ?_) (fun c33 => ?_)
      · have hR := hR.trans (if_pos c33)
        refine lv_iconst (v := 0) hx hb dX1_takesPassing_86 (by decide) ?_
        exact cRz hx hb hr hlk hK hP hD hS (Or.inl rfl) hR.symm dX1_takesPassing_87
      · have hR := hR.trans (if_neg (fun z => z c33))
        refine lv_aload_n hx hb dX1_takesPassing_36 rfl (lv_at hl 1 rfl) ?_
        refine lv_iload_n hx hb dX1_takesPassing_37 rfl (lv_at hl 2 rfl) ?_
        refine lv_iload_n hx hb dX1_takesPassing_38 rfl (lv_at hl 3 rfl) ?_
        refine cVi ⟨hx, hb, hml, hown, hts⟩ (mX1_attacks l D cI cB o h F A p1 p2 h1 h2 _ rfl) (cwV 2 hts gX1_takesPassing_X1_attacks rfl rfl rfl nX1_attacks ⟨Nat.le_of_ble_eq_true rfl, Nat.le_of_ble_eq_true rfl⟩) (va_recv hK hP (ci := 1) (q0 := 0) rfl rfl) rfl hl.1 rfl (Nat.le_of_ble_eq_true rfl) dX1_takesPassing_39 ⟨Nat.zero_le _, Nat.zero_le _⟩ hK hP hD hS hA (fun H locs hP hD hS => ?_)
        refine lv_if_eq (tgt := 86) hx hb dX1_takesPassing_42 (by decide) (fun c42 => ?_) (fun c42 => ?_)
        · have hR := hR.trans (if_pos c42)
          refine lv_iconst (v := 0) hx hb dX1_takesPassing_86 (by decide) ?_
          exact cRz hx hb hr hlk hK hP hD hS (Or.inl rfl) hR.symm dX1_takesPassing_87
        · have hR := hR.trans (if_neg c42)
          refine lv_iload_n hx hb dX1_takesPassing_45 rfl (lv_at hl 0 rfl) ?_
          refine cSi ⟨hx, hb, hml, hown, hts⟩ (mX1_isSquare l D s18_0 _ rfl) (va_cwS 1 hts gX1_takesPassing_X1_isSquare rfl rfl rfl nX1_isSquare ⟨Nat.le_of_ble_eq_true rfl, Nat.le_of_ble_eq_true rfl⟩) rfl hl.1 rfl (Nat.le_of_ble_eq_true rfl) dX1_takesPassing_46 ⟨Nat.zero_le _, Nat.zero_le _⟩ hK hP hS hA (fun H locs hP hS => ?_)
          refine lv_if_eq (tgt := 86) hx hb dX1_takesPassing_49 (by decide) (fun c49 => ?_) (fun c49 => ?_)
          · have hR := hR.trans (if_pos c49)
            refine lv_iconst (v := 0) hx hb dX1_takesPassing_86 (by decide) ?_
            exact cRz hx hb hr hlk hK hP hD hS (Or.inl rfl) hR.symm dX1_takesPassing_87
          · have hR := hR.trans (if_neg c49)
            refine lv_aload_n hx hb dX1_takesPassing_52 rfl (lv_at hl 1 rfl) ?_
            refine gR hx hb hts in_X1_takesPassing hown hK hP 1 (by decide) rfl kX1_takesPassing_2 dX1_takesPassing_53 ?_
            refine lv_iload_n hx hb dX1_takesPassing_56 rfl (lv_at hl 0 rfl) ?_
            refine cSi ⟨hx, hb, hml, hown, hts⟩ (mX1_isSquare l D s18_0 _ rfl) (va_cwS 1 hts gX1_takesPassing_X1_isSquare rfl rfl rfl nX1_isSquare ⟨Nat.le_of_ble_eq_true rfl, Nat.le_of_ble_eq_true rfl⟩) rfl hl.1 rfl (Nat.le_of_ble_eq_true rfl) dX1_takesPassing_57 ⟨Nat.zero_le _, Nat.zero_le _⟩ hK hP hS hA (fun H locs hP hS => ?_)
            have hj68 : ∀ (s68_0 : Int32) (H : Heap) (locs : List Loc) (ls : Array Slot), (vp_in s68_0 64) → va_P D vwCl (wR cI cB o h F A) H → va_D AA (wR cI cB o h F A) → va_S AA s.heap H locs → lv_has ls 4 [(0, .ref o)] → r0 = qX1_takesPassing_j68 F A s68_0 → W p l e rmX1_takesPassing s m [.ref o, .int p1, .int p2].toArray below meth c H locs 0 0 (MQ below (cQi D [(cI, .int), (cB, .byte)] r0 (wR cI cB o h F A) AA) [.ref o, .int p1, .int p2].toArray s 0 0 AA) (F0 m 68 ls [.int s68_0, .ref (h 1)]) := by
              intro s68_0 H locs ls h68 hP hD hS hl hR
              rw [qX1_takesPassing_j68] at hR
              refine va_iald (f := A 1) hx hb hK hP 1 0 rfl rfl h68 dX1_takesPassing_68 ?_
              refine lv_bipush (v := 7) hx hb dX1_takesPassing_69 (by decide) ?_
              refine lv_bipush (v := 6) hx hb dX1_takesPassing_71 (by decide) ?_
              refine lv_aload_n hx hb dX1_takesPassing_73 rfl (lv_at hl 0 rfl) ?_
              refine gR hx hb hts in_X1_takesPassing hown hK hP 2 (by decide) rfl kX1_takesPassing_0 dX1_takesPassing_74 ?_
              refine lv_imul hx hb dX1_takesPassing_77 ?_
              refine lv_isub hx hb dX1_takesPassing_78 ?_
              refine lv_icmp_ne (tgt := 86) hx hb dX1_takesPassing_79 (by decide) (fun c79 => ?_) (fun c79 => ?_)
              · have hR := hR.trans (if_pos c79)
                refine lv_iconst (v := 0) hx hb dX1_takesPassing_86 (by decide) ?_
                exact cRz hx hb hr hlk hK hP hD hS (Or.inl rfl) hR.symm dX1_takesPassing_87
              · have hR := hR.trans (if_neg (fun z => z c79))
                refine lv_iconst (v := 1) hx hb dX1_takesPassing_82 (by decide) ?_
                refine lv_goto (tgt := 87) hx hb dX1_takesPassing_83 (by decide) ?_
                exact cRz hx hb hr hlk hK hP hD hS (Or.inr rfl) hR.symm dX1_takesPassing_87
            refine lv_if_eq (tgt := 67) hx hb dX1_takesPassing_60 (by decide) (fun c60 => ?_) (fun c60 => ?_)
            · have hR := hR.trans (if_pos c60)
              refine lv_iconst (v := 0) hx hb dX1_takesPassing_67 (by decide) ?_
              exact hj68 0 _ _ ls (by first | exact inSq1 c60 | exact in0) hP hD hS (lv_sub hl [1] rfl) hR
            · have hR := hR.trans (if_neg c60)
              refine lv_iload_n hx hb dX1_takesPassing_63 rfl (lv_at hl 0 rfl) ?_
              refine lv_goto (tgt := 68) hx hb dX1_takesPassing_64 (by decide) ?_
              exact hj68 s18_0 _ _ ls (by first | exact inSq1 c60 | exact in0) hP hD hS (lv_sub hl [1] rfl) hR
  refine lv_if_ne (tgt := 14) hx hb dX1_takesPassing_4 (by decide) (fun c4 => ?_) (fun c4 => ?_)
  · have hR := hR.trans (if_pos c4)
    refine lv_iload_n hx hb dX1_takesPassing_14 rfl (lv_at hl 2 rfl) ?_
    refine lv_bipush (v := 8) hx hb dX1_takesPassing_15 (by decide) ?_
    refine lv_iadd hx hb dX1_takesPassing_17 ?_
    exact hj18 (p2 + 8) _ _ ls hP hD hS (lv_sub hl [0, 1, 2] rfl) hR
  · have hR := hR.trans (if_neg (fun z => z c4))
    refine lv_iload_n hx hb dX1_takesPassing_7 rfl (lv_at hl 2 rfl) ?_
    refine lv_bipush (v := 8) hx hb dX1_takesPassing_8 (by decide) ?_
    refine lv_isub hx hb dX1_takesPassing_10 ?_
    refine lv_goto (tgt := 18) hx hb dX1_takesPassing_11 (by decide) ?_
    exact hj18 (p2 - 8) _ _ ls hP hD hS (lv_sub hl [0, 1, 2] rfl) hR
def qX1_pawnGoes_j119 (F : Nat → Int32) (A : Nat → Nat → Int32) (x1 : Int32) (x2 : Int32) : Int32 := (if (qX1_takesPassing F A x1 x2) = 0 then 0 else 1)
def qX1_pawnGoes_j63 (F : Nat → Int32) (A : Nat → Nat → Int32) (x1 : Int32) (x2 : Int32) (x3 : Int32) (s0 : Int32) (s1 : Int32) : Int32 := (if ¬ s1 = s0 then 0 else (if ¬ (A 1 (Int32.toNatClampNeg (x1 + x3))) = 0 then 0 else (if ¬ (A 1 (Int32.toNatClampNeg x2)) = 0 then 0 else 1)))
def qX1_pawnGoes_j14 (F : Nat → Int32) (A : Nat → Nat → Int32) (x1 : Int32) (x2 : Int32) (s0 : Int32) : Int32 := (if ¬ x2 = (x1 + s0) then (if ¬ x2 = (x1 + (2 * s0)) then (if (qX1_attacks F A x1 x2) = 0 then (qX1_pawnGoes_j119 F A x1 x2) else (if (qX1_sideOf (A 1 (Int32.toNatClampNeg x2))) = (1 - (F 2)) then 1 else (qX1_pawnGoes_j119 F A x1 x2))) else (if ¬ (F 2) = 0 then (qX1_pawnGoes_j63 F A x1 x2 s0 6 (x1 / 8)) else (qX1_pawnGoes_j63 F A x1 x2 s0 1 (x1 / 8)))) else (if ¬ (A 1 (Int32.toNatClampNeg x2)) = 0 then 0 else 1))
def qX1_pawnGoes (F : Nat → Int32) (A : Nat → Nat → Int32) (p1 : Int32) (p2 : Int32) : Int32 := (if ¬ (F 2) = 0 then (qX1_pawnGoes_j14 F A p1 p2 (-8)) else (qX1_pawnGoes_j14 F A p1 p2 8))
abbrev rmX1_pawnGoes : Room := { frames := 3, cells := 0, slots := 0, locals := 76 }
theorem nX1_pawnGoes : yX1_pawnGoes.cls = RX1 ∧ yX1_pawnGoes.cls ≠ "java/lang/invoke/MethodHandle" ∧ yX1_pawnGoes.cls ≠ "java/lang/invoke/VarHandle" ∧ (parseMethodDescriptor yX1_pawnGoes.desc).map (fun d => d.parameters.length) = some 2 := by decide +kernel
theorem in_X1_pawnGoes : ∀ w ∈ wsX10, w ∈ wsX1_pawnGoes := fun w h => by
  unfold wsX1_pawnGoes
  exact List.mem_cons_of_mem _ (List.mem_append_right _ h)
theorem kX1_pawnGoes_0 : Cond.fieldLink RX1 34 "BoardModel" "side" "I" ∈ wsX1_pawnGoes := by decide +kernel
theorem kX1_pawnGoes_1 : Cond.fieldLink RX1 7 "BoardModel" "squares" "[I" ∈ wsX1_pawnGoes := by decide +kernel
set_option maxHeartbeats 4000000 in
set_option maxRecDepth 100000 in
theorem mX1_pawnGoes (l : Launch) (D : va_G) (cI cB : ClassId) (o : Nat) (h : Nat → Nat) (F : Nat → Int32) (A : Nat → Nat → Int32) (p1 : Int32) (p2 : Int32) (h1 : vp_in p1 64) (h2 : vp_in p2 64) (r0 : Int32) (hR : r0 = qX1_pawnGoes F A p1 p2) : cMi l yX1_pawnGoes wsX1_pawnGoes rmX1_pawnGoes D [(cI, .int), (cB, .byte)] (wR cI cB o h F A) [.ref o, .int p1, .int p2] r0 (wR cI cB o h F A) := by
  intro sz
  refine cMet_of (Qc := fun AA => cQi D [(cI, .int), (cB, .byte)] r0 (wR cI cB o h F A) AA) (cc := cX1_pawnGoes) (maxL := 4) (ret := (some .boolean)) (by decide) rfl (Nat.le_of_ble_eq_true rfl) ?_ sz
  intro p e s m below meth c AA ls hx hb hr hts hown hml hlk hA hK hP hD hS hl
  have hown : s.vm.findClass RX1 = some m.cls := hown
  have hl : lv_has ls 4 [(0, .ref o), (1, .int p1), (2, .int p2)] := hl
  rw [qX1_pawnGoes] at hR
  refine lv_aload_n hx hb dX1_pawnGoes_0 rfl (lv_at hl 0 rfl) ?_
  refine gR hx hb hts in_X1_pawnGoes hown hK hP 2 (by decide) rfl kX1_pawnGoes_0 dX1_pawnGoes_1 ?_
  have hj14 : ∀ (s14_0 : Int32) (H : Heap) (locs : List Loc) (ls : Array Slot), ((F 2 = 0 ∧ s14_0 = 8) ∨ (¬ F 2 = 0 ∧ s14_0 = -8)) → va_P D vwCl (wR cI cB o h F A) H → va_D AA (wR cI cB o h F A) → va_S AA s.heap H locs → lv_has ls 4 [(0, .ref o), (1, .int p1), (2, .int p2)] → r0 = qX1_pawnGoes_j14 F A p1 p2 s14_0 → W p l e rmX1_pawnGoes s m [.ref o, .int p1, .int p2].toArray below meth c H locs 0 0 (MQ below (cQi D [(cI, .int), (cB, .byte)] r0 (wR cI cB o h F A) AA) [.ref o, .int p1, .int p2].toArray s 0 0 AA) (F0 m 14 ls [.int s14_0]) := by
    intro s14_0 H locs ls h14 hP hD hS hl hR
    rw [qX1_pawnGoes_j14] at hR
    refine lv_istore_n (lv' := [(3, .int s14_0), (0, .ref o), (1, .int p1), (2, .int p2)]) hx hb dX1_pawnGoes_14 rfl hl (by decide) rfl (fun ls hl => ?_)
    refine lv_iload_n hx hb dX1_pawnGoes_15 rfl (lv_at hl 3 rfl) ?_
    refine lv_iload_n hx hb dX1_pawnGoes_16 rfl (lv_at hl 2 rfl) ?_
    refine lv_iload_n hx hb dX1_pawnGoes_17 rfl (lv_at hl 0 rfl) ?_
    refine lv_iadd hx hb dX1_pawnGoes_18 ?_
    refine lv_icmp_ne (tgt := 37) hx hb dX1_pawnGoes_19 (by decide) (fun c19 => ?_) (fun c19 => ?_)
    · have hR := hR.trans (if_pos c19)
      refine lv_iload_n hx hb dX1_pawnGoes_37 rfl (lv_at hl 3 rfl) ?_
      refine lv_iload_n hx hb dX1_pawnGoes_38 rfl (lv_at hl 2 rfl) ?_
      refine lv_iconst (v := 2) hx hb dX1_pawnGoes_39 (by decide) ?_
      refine lv_iload_n hx hb dX1_pawnGoes_40 rfl (lv_at hl 0 rfl) ?_
      refine lv_imul hx hb dX1_pawnGoes_41 ?_
      refine lv_iadd hx hb dX1_pawnGoes_42 ?_
      refine lv_icmp_ne (tgt := 92) hx hb dX1_pawnGoes_43 (by decide) (fun c43 => ?_) (fun c43 => ?_)
      · have hR := hR.trans (if_pos c43)
        refine lv_aload_n hx hb dX1_pawnGoes_92 rfl (lv_at hl 1 rfl) ?_
        refine lv_iload_n hx hb dX1_pawnGoes_93 rfl (lv_at hl 2 rfl) ?_
        refine lv_iload_n hx hb dX1_pawnGoes_94 rfl (lv_at hl 3 rfl) ?_
        refine cVi ⟨hx, hb, hml, hown, hts⟩ (mX1_attacks l D cI cB o h F A p1 p2 h1 h2 _ rfl) (cwV 2 hts gX1_pawnGoes_X1_attacks rfl rfl rfl nX1_attacks ⟨Nat.le_of_ble_eq_true rfl, Nat.le_of_ble_eq_true rfl⟩) (va_recv hK hP (ci := 1) (q0 := 0) rfl rfl) rfl hl.1 rfl (Nat.le_of_ble_eq_true rfl) dX1_pawnGoes_95 ⟨Nat.zero_le _, Nat.zero_le _⟩ hK hP hD hS hA (fun H locs hP hD hS => ?_)
        have hj119 : ∀ (H : Heap) (locs : List Loc) (ls : Array Slot), va_P D vwCl (wR cI cB o h F A) H → va_D AA (wR cI cB o h F A) → va_S AA s.heap H locs → lv_has ls 4 [(0, .ref o), (1, .int p1), (2, .int p2)] → r0 = qX1_pawnGoes_j119 F A p1 p2 → W p l e rmX1_pawnGoes s m [.ref o, .int p1, .int p2].toArray below meth c H locs 0 0 (MQ below (cQi D [(cI, .int), (cB, .byte)] r0 (wR cI cB o h F A) AA) [.ref o, .int p1, .int p2].toArray s 0 0 AA) (F0 m 119 ls []) := by
          intro  H locs ls  hP hD hS hl hR
          rw [qX1_pawnGoes_j119] at hR
          refine lv_aload_n hx hb dX1_pawnGoes_119 rfl (lv_at hl 0 rfl) ?_
          refine lv_iload_n hx hb dX1_pawnGoes_120 rfl (lv_at hl 1 rfl) ?_
          refine lv_iload_n hx hb dX1_pawnGoes_121 rfl (lv_at hl 2 rfl) ?_
          refine cVi ⟨hx, hb, hml, hown, hts⟩ (mX1_takesPassing l D cI cB o h F A p1 p2 h1 h2 _ rfl) (cwV 2 hts gX1_pawnGoes_X1_takesPassing rfl rfl rfl nX1_takesPassing ⟨Nat.le_of_ble_eq_true rfl, Nat.le_of_ble_eq_true rfl⟩) (va_recv hK hP (ci := 1) (q0 := 0) rfl rfl) rfl hl.1 rfl (Nat.le_of_ble_eq_true rfl) dX1_pawnGoes_122 ⟨Nat.zero_le _, Nat.zero_le _⟩ hK hP hD hS hA (fun H locs hP hD hS => ?_)
          refine lv_if_eq (tgt := 132) hx hb dX1_pawnGoes_125 (by decide) (fun c125 => ?_) (fun c125 => ?_)
          · have hR := hR.trans (if_pos c125)
            refine lv_iconst (v := 0) hx hb dX1_pawnGoes_132 (by decide) ?_
            exact cRz hx hb hr hlk hK hP hD hS (Or.inl rfl) hR.symm dX1_pawnGoes_133
          · have hR := hR.trans (if_neg c125)
            refine lv_iconst (v := 1) hx hb dX1_pawnGoes_128 (by decide) ?_
            refine lv_goto (tgt := 133) hx hb dX1_pawnGoes_129 (by decide) ?_
            exact cRz hx hb hr hlk hK hP hD hS (Or.inr rfl) hR.symm dX1_pawnGoes_133
        refine lv_if_eq (tgt := 119) hx hb dX1_pawnGoes_98 (by decide) (fun c98 => ?_) (fun c98 => ?_)
        · have hR := hR.trans (if_pos c98)
          exact hj119 _ _ ls hP hD hS (lv_sub hl [1, 2, 3] rfl) hR
        · have hR := hR.trans (if_neg c98)
          refine lv_aload_n hx hb dX1_pawnGoes_101 rfl (lv_at hl 1 rfl) ?_
          refine gR hx hb hts in_X1_pawnGoes hown hK hP 1 (by decide) rfl kX1_pawnGoes_1 dX1_pawnGoes_102 ?_
          refine lv_iload_n hx hb dX1_pawnGoes_105 rfl (lv_at hl 3 rfl) ?_
          refine va_iald (f := A 1) hx hb hK hP 1 0 rfl rfl h2 dX1_pawnGoes_106 ?_
          refine cSi ⟨hx, hb, hml, hown, hts⟩ (mX1_sideOf l D (A 1 (Int32.toNatClampNeg p2)) _ rfl) (va_cwS 1 hts gX1_pawnGoes_X1_sideOf rfl rfl rfl nX1_sideOf ⟨Nat.le_of_ble_eq_true rfl, Nat.le_of_ble_eq_true rfl⟩) rfl hl.1 rfl (Nat.le_of_ble_eq_true rfl) dX1_pawnGoes_107 ⟨Nat.zero_le _, Nat.zero_le _⟩ hK hP hS hA (fun H locs hP hS => ?_)
          refine lv_iconst (v := 1) hx hb dX1_pawnGoes_110 (by decide) ?_
          refine lv_aload_n hx hb dX1_pawnGoes_111 rfl (lv_at hl 1 rfl) ?_
          refine gR hx hb hts in_X1_pawnGoes hown hK hP 2 (by decide) rfl kX1_pawnGoes_0 dX1_pawnGoes_112 ?_
          refine lv_isub hx hb dX1_pawnGoes_115 ?_
          refine lv_icmp_eq (tgt := 128) hx hb dX1_pawnGoes_116 (by decide) (fun c116 => ?_) (fun c116 => ?_)
          · have hR := hR.trans (if_pos c116)
            refine lv_iconst (v := 1) hx hb dX1_pawnGoes_128 (by decide) ?_
            refine lv_goto (tgt := 133) hx hb dX1_pawnGoes_129 (by decide) ?_
            exact cRz hx hb hr hlk hK hP hD hS (Or.inr rfl) hR.symm dX1_pawnGoes_133
          · have hR := hR.trans (if_neg c116)
            exact hj119 _ _ ls hP hD hS (lv_sub hl [1, 2, 3] rfl) hR
      · have hR := hR.trans (if_neg (fun z => z c43))
        refine lv_iload_n hx hb dX1_pawnGoes_46 rfl (lv_at hl 2 rfl) ?_
        refine lv_bipush (v := 8) hx hb dX1_pawnGoes_47 (by decide) ?_
        refine lv_idiv hx hb dX1_pawnGoes_49 (by decide) ?_
        refine lv_aload_n hx hb dX1_pawnGoes_50 rfl (lv_at hl 1 rfl) ?_
        refine gR hx hb hts in_X1_pawnGoes hown hK hP 2 (by decide) rfl kX1_pawnGoes_0 dX1_pawnGoes_51 ?_
        have hj63 : ∀ (s63_0 : Int32) (H : Heap) (locs : List Loc) (ls : Array Slot), ((F 2 = 0 ∧ s63_0 = 1) ∨ (¬ F 2 = 0 ∧ s63_0 = 6)) → va_P D vwCl (wR cI cB o h F A) H → va_D AA (wR cI cB o h F A) → va_S AA s.heap H locs → lv_has ls 4 [(0, .ref o), (1, .int p1), (2, .int p2), (3, .int s14_0)] → r0 = qX1_pawnGoes_j63 F A p1 p2 s14_0 s63_0 (p1 / 8) → W p l e rmX1_pawnGoes s m [.ref o, .int p1, .int p2].toArray below meth c H locs 0 0 (MQ below (cQi D [(cI, .int), (cB, .byte)] r0 (wR cI cB o h F A) AA) [.ref o, .int p1, .int p2].toArray s 0 0 AA) (F0 m 63 ls [.int s63_0, .int (p1 / 8)]) := by
          intro s63_0 H locs ls h63 hP hD hS hl hR
          rw [qX1_pawnGoes_j63] at hR
          refine lv_icmp_ne (tgt := 90) hx hb dX1_pawnGoes_63 (by decide) (fun c63 => ?_) (fun c63 => ?_)
          · have hR := hR.trans (if_pos c63)
            refine lv_iconst (v := 0) hx hb dX1_pawnGoes_90 (by decide) ?_
            exact cRz hx hb hr hlk hK hP hD hS (Or.inl rfl) hR.symm dX1_pawnGoes_91
          · have hR := hR.trans (if_neg (fun z => z c63))
            refine lv_aload_n hx hb dX1_pawnGoes_66 rfl (lv_at hl 0 rfl) ?_
            refine gR hx hb hts in_X1_pawnGoes hown hK hP 1 (by decide) rfl kX1_pawnGoes_1 dX1_pawnGoes_67 ?_
            refine lv_iload_n hx hb dX1_pawnGoes_70 rfl (lv_at hl 1 rfl) ?_
            refine lv_iload_n hx hb dX1_pawnGoes_71 rfl (lv_at hl 3 rfl) ?_
            refine lv_iadd hx hb dX1_pawnGoes_72 ?_
            refine va_iald (f := A 1) hx hb hK hP 1 0 rfl rfl (inOn h1 h14 h63 c63) dX1_pawnGoes_73 ?_
            refine lv_if_ne (tgt := 90) hx hb dX1_pawnGoes_74 (by decide) (fun c74 => ?_) (fun c74 => ?_)
            · have hR := hR.trans (if_pos c74)
              refine lv_iconst (v := 0) hx hb dX1_pawnGoes_90 (by decide) ?_
              exact cRz hx hb hr hlk hK hP hD hS (Or.inl rfl) hR.symm dX1_pawnGoes_91
            · have hR := hR.trans (if_neg (fun z => z c74))
              refine lv_aload_n hx hb dX1_pawnGoes_77 rfl (lv_at hl 0 rfl) ?_
              refine gR hx hb hts in_X1_pawnGoes hown hK hP 1 (by decide) rfl kX1_pawnGoes_1 dX1_pawnGoes_78 ?_
              refine lv_iload_n hx hb dX1_pawnGoes_81 rfl (lv_at hl 2 rfl) ?_
              refine va_iald (f := A 1) hx hb hK hP 1 0 rfl rfl h2 dX1_pawnGoes_82 ?_
              refine lv_if_ne (tgt := 90) hx hb dX1_pawnGoes_83 (by decide) (fun c83 => ?_) (fun c83 => ?_)
              · have hR := hR.trans (if_pos c83)
                refine lv_iconst (v := 0) hx hb dX1_pawnGoes_90 (by decide) ?_
                exact cRz hx hb hr hlk hK hP hD hS (Or.inl rfl) hR.symm dX1_pawnGoes_91
              · have hR := hR.trans (if_neg (fun z => z c83))
                refine lv_iconst (v := 1) hx hb dX1_pawnGoes_86 (by decide) ?_
                refine lv_goto (tgt := 91) hx hb dX1_pawnGoes_87 (by decide) ?_
                exact cRz hx hb hr hlk hK hP hD hS (Or.inr rfl) hR.symm dX1_pawnGoes_91
        refine lv_if_ne (tgt := 61) hx hb dX1_pawnGoes_54 (by decide) (fun c54 => ?_) (fun c54 => ?_)
        · have hR := hR.trans (if_pos c54)
          refine lv_bipush (v := 6) hx hb dX1_pawnGoes_61 (by decide) ?_
          exact hj63 6 _ _ ls (by first | exact Or.inl ⟨c54, rfl⟩ | exact Or.inr ⟨c54, rfl⟩) hP hD hS (lv_sub hl [1, 2, 3, 0] rfl) hR
        · have hR := hR.trans (if_neg (fun z => z c54))
          refine lv_iconst (v := 1) hx hb dX1_pawnGoes_57 (by decide) ?_
          refine lv_goto (tgt := 63) hx hb dX1_pawnGoes_58 (by decide) ?_
          exact hj63 1 _ _ ls (by first | exact Or.inl ⟨c54, rfl⟩ | exact Or.inr ⟨c54, rfl⟩) hP hD hS (lv_sub hl [1, 2, 3, 0] rfl) hR
    · have hR := hR.trans (if_neg (fun z => z c19))
      refine lv_aload_n hx hb dX1_pawnGoes_22 rfl (lv_at hl 1 rfl) ?_
      refine gR hx hb hts in_X1_pawnGoes hown hK hP 1 (by decide) rfl kX1_pawnGoes_1 dX1_pawnGoes_23 ?_
      refine lv_iload_n hx hb dX1_pawnGoes_26 rfl (lv_at hl 3 rfl) ?_
      refine va_iald (f := A 1) hx hb hK hP 1 0 rfl rfl h2 dX1_pawnGoes_27 ?_
      refine lv_if_ne (tgt := 35) hx hb dX1_pawnGoes_28 (by decide) (fun c28 => ?_) (fun c28 => ?_)
      · have hR := hR.trans (if_pos c28)
        refine lv_iconst (v := 0) hx hb dX1_pawnGoes_35 (by decide) ?_
        exact cRz hx hb hr hlk hK hP hD hS (Or.inl rfl) hR.symm dX1_pawnGoes_36
      · have hR := hR.trans (if_neg (fun z => z c28))
        refine lv_iconst (v := 1) hx hb dX1_pawnGoes_31 (by decide) ?_
        refine lv_goto (tgt := 36) hx hb dX1_pawnGoes_32 (by decide) ?_
        exact cRz hx hb hr hlk hK hP hD hS (Or.inr rfl) hR.symm dX1_pawnGoes_36
  refine lv_if_ne (tgt := 12) hx hb dX1_pawnGoes_4 (by decide) (fun c4 => ?_) (fun c4 => ?_)
  · have hR := hR.trans (if_pos c4)
    refine lv_bipush (v := (-8)) hx hb dX1_pawnGoes_12 (by decide) ?_
    exact hj14 (-8) _ _ ls (by first | exact Or.inl ⟨c4, rfl⟩ | exact Or.inr ⟨c4, rfl⟩) hP hD hS (lv_sub hl [0, 1, 2] rfl) hR
  · have hR := hR.trans (if_neg (fun z => z c4))
    refine lv_bipush (v := 8) hx hb dX1_pawnGoes_7 (by decide) ?_
    refine lv_goto (tgt := 14) hx hb dX1_pawnGoes_9 (by decide) ?_
    exact hj14 8 _ _ ls (by first | exact Or.inl ⟨c4, rfl⟩ | exact Or.inr ⟨c4, rfl⟩) hP hD hS (lv_sub hl [0, 1, 2] rfl) hR
theorem bX1_pawnGoes (F : Nat → Int32) (A : Nat → Nat → Int32) (a b : Int32) : qX1_pawnGoes F A a b = 0 ∨ qX1_pawnGoes F A a b = 1 := by
  simp only [qX1_pawnGoes, qX1_pawnGoes_j14, qX1_pawnGoes_j63, qX1_pawnGoes_j119]
  repeat' (first | with_reducible refine b_ite ?_ ?_ | exact Or.inl rfl | exact Or.inr rfl)
