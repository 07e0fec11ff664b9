def qX1_isFree_j105 (rec : Nat → (Int32) → (Int32) → Int32) (n : Nat) (F : Nat → Int32) (A : Nat → Nat → Int32) (x2 : Int32) (x3 : Int32) (x4 : Int32) (x6 : Int32) (s0 : Int32) : Int32 := (rec (n + 1) s0 (x6 + ((8 * x4) + x3)))
def qX1_isFree_w79 (F : Nat → Int32) (A : Nat → Nat → Int32) (x2 : Int32) (x3 : Int32) (x4 : Int32) : Nat → Nat → (Int32) → (Int32) → Int32
  | 0, n, x5, x6 => x5
  | k + 1, n, x5, x6 => (if x5 = 0 then (qX1_isFree_j105 (qX1_isFree_w79 F A x2 x3 x4 k) n F A x2 x3 x4 x6 0) else (if ¬ (A 1 (Int32.toNatClampNeg x6)) = 0 then (qX1_isFree_j105 (qX1_isFree_w79 F A x2 x3 x4 k) n F A x2 x3 x4 x6 0) else (qX1_isFree_j105 (qX1_isFree_w79 F A x2 x3 x4 k) n F A x2 x3 x4 x6 1)))
def qX1_isFree_j63 (F : Nat → Int32) (A : Nat → Nat → Int32) (x1 : Int32) (x2 : Int32) (x3 : Int32) (s0 : Int32) : Int32 := (qX1_isFree_w79 F A x2 x3 s0 (stI x1 x2) 0 1 ((x1 + (8 * s0)) + x3))
def qX1_isFree_j31 (F : Nat → Int32) (A : Nat → Nat → Int32) (x1 : Int32) (x2 : Int32) (s0 : Int32) : Int32 := (if (x2 / 8) ≤ (x1 / 8) then (if (x1 / 8) ≤ (x2 / 8) then (qX1_isFree_j63 F A x1 x2 s0 0) else (qX1_isFree_j63 F A x1 x2 s0 (-1))) else (qX1_isFree_j63 F A x1 x2 s0 1))
def qX1_isFree (F : Nat → Int32) (A : Nat → Nat → Int32) (p1 : Int32) (p2 : Int32) : Int32 := (if (p2 - p2 / 8 * 8) ≤ (p1 - p1 / 8 * 8) then (if (p1 - p1 / 8 * 8) ≤ (p2 - p2 / 8 * 8) then (qX1_isFree_j31 F A p1 p2 0) else (qX1_isFree_j31 F A p1 p2 (-1))) else (qX1_isFree_j31 F A p1 p2 1))
abbrev rmX1_isFree : Room := { frames := 0, cells := 0, slots := 0, locals := 0 }
theorem nX1_isFree : yX1_isFree.cls = RX1 ∧ yX1_isFree.cls ≠ "java/lang/invoke/MethodHandle" ∧ yX1_isFree.cls ≠ "java/lang/invoke/VarHandle" ∧ (parseMethodDescriptor yX1_isFree.desc).map (fun d => d.parameters.length) = some 2 := by decide +kernel
theorem in_X1_isFree : ∀ w ∈ wsX10, w ∈ wsX1_isFree := fun w h => by
  unfold wsX1_isFree
  exact List.mem_cons_of_mem _ (List.mem_append_right _ h)
theorem kX1_isFree_0 : Cond.fieldLink RX1 7 "BoardModel" "squares" "[I" ∈ wsX1_isFree := by decide +kernel
set_option maxHeartbeats 4000000 in
set_option maxRecDepth 100000 in
theorem mX1_isFree (l : Launch) (D : va_G) (cI cB : ClassId) (o : Nat) (h : Nat → Nat) (F : Nat → Int32) (A : Nat → Nat → Int32) (p1 : Int32) (p2 : Int32) (hab : ∃ a b : Nat, a < 64 ∧ b < 64 ∧ alN a b = true ∧ p1 = nI a ∧ p2 = nI b) (r0 : Int32) (hR : r0 = qX1_isFree F A p1 p2) : cMi l yX1_isFree wsX1_isFree rmX1_isFree D [(cI, .int), (cB, .byte)] (wR cI cB o h F A) [.ref o, .int p1, .int p2] r0 (wR cI cB o h F A) := by
  intro sz
  refine cMet_of (Qc := fun AA => cQi D [(cI, .int), (cB, .byte)] r0 (wR cI cB o h F A) AA) (cc := cX1_isFree) (maxL := 7) (ret := (some .boolean)) (by decide) rfl (Nat.le_of_ble_eq_true rfl) ?_ sz
  intro p e s m below meth c AA ls hx hb hr hts hown hml hlk hA hK hP hD hS hl
  have hown : s.vm.findClass RX1 = some m.cls := hown
  have hl : lv_has ls 7 [(0, .ref o), (1, .int p1), (2, .int p2)] := hl
  rw [qX1_isFree] at hR
  obtain ⟨a, b, ha, hb0, hal, e1, e2⟩ := hab
  have hst : stI p1 p2 = stN a b - 1 := by rw [e1, e2]; exact geoI ha hb0
  refine lv_iload_n hx hb dX1_isFree_0 rfl (lv_at hl 2 rfl) ?_
  refine lv_bipush (v := 8) hx hb dX1_isFree_1 (by decide) ?_
  refine lv_irem hx hb dX1_isFree_3 (by decide) ?_
  refine lv_iload_n hx hb dX1_isFree_4 rfl (lv_at hl 1 rfl) ?_
  refine lv_bipush (v := 8) hx hb dX1_isFree_5 (by decide) ?_
  refine lv_irem hx hb dX1_isFree_7 (by decide) ?_
  have hj31 : ∀ (s31_0 : Int32) (H : Heap) (locs : List Loc) (ls : Array Slot), (s31_0 = dfS (p2 - p2 / 8 * 8) (p1 - p1 / 8 * 8)) → va_P D vwCl (wR cI cB o h F A) H → va_D AA (wR cI cB o h F A) → va_S AA s.heap H locs → lv_has ls 7 [(0, .ref o), (1, .int p1), (2, .int p2)] → r0 = qX1_isFree_j31 F A p1 p2 s31_0 → W p l e rmX1_isFree s m [.ref o, .int p1, .int p2].toArray below meth c H locs 0 0 (MQ below (cQi D [(cI, .int), (cB, .byte)] r0 (wR cI cB o h F A) AA) [.ref o, .int p1, .int p2].toArray s 0 0 AA) (F0 m 31 ls [.int s31_0]) := by
    intro s31_0 H locs ls h31 hP hD hS hl hR
    rw [qX1_isFree_j31] at hR
    refine lv_istore_n (lv' := [(3, .int s31_0), (0, .ref o), (1, .int p1), (2, .int p2)]) hx hb dX1_isFree_31 rfl hl (by decide) rfl (fun ls hl => ?_)
    refine lv_iload_n hx hb dX1_isFree_32 rfl (lv_at hl 3 rfl) ?_
    refine lv_bipush (v := 8) hx hb dX1_isFree_33 (by decide) ?_
    refine lv_idiv hx hb dX1_isFree_35 (by decide) ?_
    refine lv_iload_n hx hb dX1_isFree_36 rfl (lv_at hl 2 rfl) ?_
    refine lv_bipush (v := 8) hx hb dX1_isFree_37 (by decide) ?_
    refine lv_idiv hx hb dX1_isFree_39 (by decide) ?_
    have hj63 : ∀ (s63_0 : Int32) (H : Heap) (locs : List Loc) (ls : Array Slot), (s63_0 = dfS (p2 / 8) (p1 / 8)) → va_P D vwCl (wR cI cB o h F A) H → va_D AA (wR cI cB o h F A) → va_S AA s.heap H locs → lv_has ls 7 [(0, .ref o), (1, .int p1), (2, .int p2), (3, .int s31_0)] → r0 = qX1_isFree_j63 F A p1 p2 s31_0 s63_0 → W p l e rmX1_isFree s m [.ref o, .int p1, .int p2].toArray below meth c H locs 0 0 (MQ below (cQi D [(cI, .int), (cB, .byte)] r0 (wR cI cB o h F A) AA) [.ref o, .int p1, .int p2].toArray s 0 0 AA) (F0 m 63 ls [.int s63_0]) := by
      intro s63_0 H locs ls h63 hP hD hS hl hR
      rw [qX1_isFree_j63] at hR
      refine lv_istore (lv' := [(4, .int s63_0), (0, .ref o), (1, .int p1), (2, .int p2), (3, .int s31_0)]) hx hb dX1_isFree_63 hl (by decide) rfl (fun ls hl => ?_)
      refine lv_iconst (v := 1) hx hb dX1_isFree_65 (by decide) ?_
      refine lv_istore (lv' := [(5, .int 1), (4, .int s63_0), (0, .ref o), (1, .int p1), (2, .int p2), (3, .int s31_0)]) hx hb dX1_isFree_66 hl (by decide) rfl (fun ls hl => ?_)
      refine lv_iload_n hx hb dX1_isFree_68 rfl (lv_at hl 3 rfl) ?_
      refine lv_bipush (v := 8) hx hb dX1_isFree_69 (by decide) ?_
      refine lv_iload hx hb dX1_isFree_71 (lv_at hl 1 rfl) ?_
      refine lv_imul hx hb dX1_isFree_73 ?_
      refine lv_iadd hx hb dX1_isFree_74 ?_
      refine lv_iload_n hx hb dX1_isFree_75 rfl (lv_at hl 5 rfl) ?_
      refine lv_iadd hx hb dX1_isFree_76 ?_
      refine lv_istore (lv' := [(6, .int ((p1 + (8 * s63_0)) + s31_0)), (5, .int 1), (4, .int s63_0), (0, .ref o), (1, .int p1), (2, .int p2), (3, .int s31_0)]) hx hb dX1_isFree_77 hl (by decide) rfl (fun ls hl => ?_)
      have hw79 : ∀ (k n79 : Nat) (v79_5 : Int32) (v79_6 : Int32) (H : Heap) (locs : List Loc) (ls : Array Slot), n79 + k = stI p1 p2 → (v79_5 = 0 ∨ v79_5 = 1) → (v79_6 = nI (lnN a b n79)) → va_P D vwCl (wR cI cB o h F A) H → va_D AA (wR cI cB o h F A) → va_S AA s.heap H locs → lv_has ls 7 [(0, .ref o), (2, .int p2), (3, .int s31_0), (4, .int s63_0), (5, .int v79_5), (6, .int v79_6)] → r0 = qX1_isFree_w79 F A p2 s31_0 s63_0 k n79 v79_5 v79_6 → W p l e rmX1_isFree s m [.ref o, .int p1, .int p2].toArray below meth c H locs 0 0 (MQ below (cQi D [(cI, .int), (cB, .byte)] r0 (wR cI cB o h F A) AA) [.ref o, .int p1, .int p2].toArray s 0 0 AA) (F0 m 79 ls []) := by
        intro k
        induction k with
        | zero =>
          intro n79 v79_5 v79_6 H locs ls hn hb79_5 h79 hP hD hS hl hR
          rw [qX1_isFree_w79] at hR
          refine lv_iload hx hb dX1_isFree_79 (lv_at hl 5 rfl) ?_
          refine lv_iload_n hx hb dX1_isFree_81 rfl (lv_at hl 1 rfl) ?_
          refine lv_icmp_eq (tgt := 122) hx hb dX1_isFree_82 (by decide) (fun c82 => ?_) (fun c82 => ?_)
          · skip
            refine lv_iload hx hb dX1_isFree_122 (lv_at hl 4 rfl) ?_
            exact cRz hx hb hr hlk hK hP hD hS hb79_5 hR.symm dX1_isFree_124
          · exact absurd (show v79_6 = p2 by rw [h79, e2, show n79 = stN a b - 1 by omega]; exact congrArg nI (geo1 a ha b hb0 hal).2.1) c82
        | succ k ih =>
          intro n79 v79_5 v79_6 H locs ls hn hb79_5 h79 hP hD hS hl hR
          rw [qX1_isFree_w79] at hR
          refine lv_iload hx hb dX1_isFree_79 (lv_at hl 5 rfl) ?_
          refine lv_iload_n hx hb dX1_isFree_81 rfl (lv_at hl 1 rfl) ?_
          refine lv_icmp_eq (tgt := 122) hx hb dX1_isFree_82 (by decide) (fun c82 => ?_) (fun c82 => ?_)
          · exact absurd c82 (fun z => (geo2 a ha b hb0 hal n79 (by omega)).2.1 ((nI_eq (by have := (geo2 a ha b hb0 hal n79 (by omega)).2.2; omega) (by omega)).mp (by rw [← h79, ← e2]; exact z)))
          · skip
            refine lv_iload hx hb dX1_isFree_85 (lv_at hl 4 rfl) ?_
            have hj105 : ∀ (s105_0 : Int32) (H : Heap) (locs : List Loc) (ls : Array Slot), (s105_0 = 0 ∨ s105_0 = 1) → va_P D vwCl (wR cI cB o h F A) H → va_D AA (wR cI cB o h F A) → va_S AA s.heap H locs → lv_has ls 7 [(0, .ref o), (2, .int p2), (3, .int s31_0), (4, .int s63_0), (6, .int v79_6)] → r0 = qX1_isFree_j105 (qX1_isFree_w79 F A p2 s31_0 s63_0 k) n79 F A p2 s31_0 s63_0 v79_6 s105_0 → W p l e rmX1_isFree s m [.ref o, .int p1, .int p2].toArray below meth c H locs 0 0 (MQ below (cQi D [(cI, .int), (cB, .byte)] r0 (wR cI cB o h F A) AA) [.ref o, .int p1, .int p2].toArray s 0 0 AA) (F0 m 105 ls [.int s105_0]) := by
              intro s105_0 H locs ls h105 hP hD hS hl hR
              rw [qX1_isFree_j105] at hR
              refine lv_istore (lv' := [(5, .int s105_0), (0, .ref o), (2, .int p2), (3, .int s31_0), (4, .int s63_0), (6, .int v79_6)]) hx hb dX1_isFree_105 hl (by decide) rfl (fun ls hl => ?_)
              refine lv_iload hx hb dX1_isFree_107 (lv_at hl 5 rfl) ?_
              refine lv_bipush (v := 8) hx hb dX1_isFree_109 (by decide) ?_
              refine lv_iload hx hb dX1_isFree_111 (lv_at hl 4 rfl) ?_
              refine lv_imul hx hb dX1_isFree_113 ?_
              refine lv_iload_n hx hb dX1_isFree_114 rfl (lv_at hl 3 rfl) ?_
              refine lv_iadd hx hb dX1_isFree_115 ?_
              refine lv_iadd hx hb dX1_isFree_116 ?_
              refine lv_istore (lv' := [(6, .int (v79_6 + ((8 * s63_0) + s31_0))), (5, .int s105_0), (0, .ref o), (2, .int p2), (3, .int s31_0), (4, .int s63_0)]) hx hb dX1_isFree_117 hl (by decide) rfl (fun ls hl => ?_)
              refine lv_goto (tgt := 79) hx hb dX1_isFree_119 (by decide) ?_
              exact ih (n79 + 1) s105_0 (v79_6 + ((8 * s63_0) + s31_0)) _ _ ls (by omega) h105 (by first | (rw [h63, h31, e1, e2]; exact (geo1 a ha b hb0 hal).1) | (rw [h79, h63, h31, e1, e2]; exact (geo2 a ha b hb0 hal _ (by omega)).1)) hP hD hS (lv_sub hl [2, 3, 4, 5, 1, 0] rfl) hR
            refine lv_if_eq (tgt := 104) hx hb dX1_isFree_87 (by decide) (fun c87 => ?_) (fun c87 => ?_)
            · have hR := hR.trans (if_pos c87)
              refine lv_iconst (v := 0) hx hb dX1_isFree_104 (by decide) ?_
              exact hj105 0 _ _ ls (by first | exact Or.inl rfl | exact Or.inr rfl) hP hD hS (lv_sub hl [0, 1, 2, 3, 5] rfl) hR
            · have hR := hR.trans (if_neg c87)
              refine lv_aload_n hx hb dX1_isFree_90 rfl (lv_at hl 0 rfl) ?_
              refine gR hx hb hts in_X1_isFree hown hK hP 1 (by decide) rfl kX1_isFree_0 dX1_isFree_91 ?_
              refine lv_iload hx hb dX1_isFree_94 (lv_at hl 5 rfl) ?_
              refine va_iald (f := A 1) hx hb hK hP 1 0 rfl rfl (by rw [h79]; exact vp_in_nI (geo2 a ha b hb0 hal n79 (by omega)).2.2 (by decide)) dX1_isFree_96 ?_
              refine lv_if_ne (tgt := 104) hx hb dX1_isFree_97 (by decide) (fun c97 => ?_) (fun c97 => ?_)
              · have hR := hR.trans (if_pos c97)
                refine lv_iconst (v := 0) hx hb dX1_isFree_104 (by decide) ?_
                exact hj105 0 _ _ ls (by first | exact Or.inl rfl | exact Or.inr rfl) hP hD hS (lv_sub hl [0, 1, 2, 3, 5] rfl) hR
              · have hR := hR.trans (if_neg (fun z => z c97))
                refine lv_iconst (v := 1) hx hb dX1_isFree_100 (by decide) ?_
                refine lv_goto (tgt := 105) hx hb dX1_isFree_101 (by decide) ?_
                exact hj105 1 _ _ ls (by first | exact Or.inl rfl | exact Or.inr rfl) hP hD hS (lv_sub hl [0, 1, 2, 3, 5] rfl) hR
      exact hw79 (stI p1 p2) 0 1 ((p1 + (8 * s63_0)) + s31_0) _ _ ls (by omega) (Or.inr rfl) (by first | (rw [h63, h31, e1, e2]; exact (geo1 a ha b hb0 hal).1) | (rw [h79, h63, h31, e1, e2]; exact (geo2 a ha b hb0 hal _ (by omega)).1)) hP hD hS (lv_sub hl [3, 5, 6, 2, 1, 0] rfl) hR
    refine lv_icmp_le (tgt := 47) hx hb dX1_isFree_40 (by decide) (fun c40 => ?_) (fun c40 => ?_)
    · have hR := hR.trans (if_pos c40)
      refine lv_iload_n hx hb dX1_isFree_47 rfl (lv_at hl 3 rfl) ?_
      refine lv_bipush (v := 8) hx hb dX1_isFree_48 (by decide) ?_
      refine lv_idiv hx hb dX1_isFree_50 (by decide) ?_
      refine lv_iload_n hx hb dX1_isFree_51 rfl (lv_at hl 2 rfl) ?_
      refine lv_bipush (v := 8) hx hb dX1_isFree_52 (by decide) ?_
      refine lv_idiv hx hb dX1_isFree_54 (by decide) ?_
      refine lv_icmp_ge (tgt := 62) hx hb dX1_isFree_55 (by decide) (fun c55 => ?_) (fun c55 => ?_)
      · have hR := hR.trans (if_pos c55)
        refine lv_iconst (v := 0) hx hb dX1_isFree_62 (by decide) ?_
        exact hj63 0 _ _ ls (by unfold dfS; first | rw [if_neg c40] | rw [if_pos c40, if_pos c55] | rw [if_pos c40, if_neg c55]) hP hD hS (lv_sub hl [1, 2, 3, 0] rfl) hR
      · have hR := hR.trans (if_neg c55)
        refine lv_iconst (v := (-1)) hx hb dX1_isFree_58 (by decide) ?_
        refine lv_goto (tgt := 63) hx hb dX1_isFree_59 (by decide) ?_
        exact hj63 (-1) _ _ ls (by unfold dfS; first | rw [if_neg c40] | rw [if_pos c40, if_pos c55] | rw [if_pos c40, if_neg c55]) hP hD hS (lv_sub hl [1, 2, 3, 0] rfl) hR
    · have hR := hR.trans (if_neg c40)
      refine lv_iconst (v := 1) hx hb dX1_isFree_43 (by decide) ?_
      refine lv_goto (tgt := 63) hx hb dX1_isFree_44 (by decide) ?_
      exact hj63 1 _ _ ls (by unfold dfS; first | rw [if_neg c40] | rw [if_pos c40, if_pos c55] | rw [if_pos c40, if_neg c55]) hP hD hS (lv_sub hl [1, 2, 3, 0] rfl) hR
  refine lv_icmp_le (tgt := 15) hx hb dX1_isFree_8 (by decide) (fun c8 => ?_) (fun c8 => ?_)
  · have hR := hR.trans (if_pos c8)
    refine lv_iload_n hx hb dX1_isFree_15 rfl (lv_at hl 2 rfl) ?_
    refine lv_bipush (v := 8) hx hb dX1_isFree_16 (by decide) ?_
    refine lv_irem hx hb dX1_isFree_18 (by decide) ?_
    refine lv_iload_n hx hb dX1_isFree_19 rfl (lv_at hl 1 rfl) ?_
    refine lv_bipush (v := 8) hx hb dX1_isFree_20 (by decide) ?_
    refine lv_irem hx hb dX1_isFree_22 (by decide) ?_
    refine lv_icmp_ge (tgt := 30) hx hb dX1_isFree_23 (by decide) (fun c23 => ?_) (fun c23 => ?_)
    · have hR := hR.trans (if_pos c23)
      refine lv_iconst (v := 0) hx hb dX1_isFree_30 (by decide) ?_
      exact hj31 0 _ _ ls (by unfold dfS; first | rw [if_neg c8] | rw [if_pos c8, if_pos c23] | rw [if_pos c8, if_neg c23]) hP hD hS (lv_sub hl [0, 1, 2] rfl) hR
    · have hR := hR.trans (if_neg c23)
      refine lv_iconst (v := (-1)) hx hb dX1_isFree_26 (by decide) ?_
      refine lv_goto (tgt := 31) hx hb dX1_isFree_27 (by decide) ?_
      exact hj31 (-1) _ _ ls (by unfold dfS; first | rw [if_neg c8] | rw [if_pos c8, if_pos c23] | rw [if_pos c8, if_neg c23]) hP hD hS (lv_sub hl [0, 1, 2] rfl) hR
  · have hR := hR.trans (if_neg c8)
    refine lv_iconst (v := 1) hx hb dX1_isFree_11 (by decide) ?_
    refine lv_goto (tgt := 31) hx hb dX1_isFree_12 (by decide) ?_
    exact hj31 1 _ _ ls (by unfold dfS; first | rw [if_neg c8] | rw [if_pos c8, if_pos c23] | rw [if_pos c8, if_neg c23]) hP hD hS (lv_sub hl [0, 1, 2] rfl) hR
def qX1_attacks_j84 (F : Nat → Int32) (A : Nat → Nat → Int32) (s0 : Int32) (s1 : Int32) : Int32 := (if ¬ s1 = s0 then 0 else 1)
def qX1_attacks_j110 (F : Nat → Int32) (A : Nat → Nat → Int32) (x4 : Int32) (x5 : Int32) : Int32 := (if ¬ x4 = 2 then 0 else (if ¬ x5 = 1 then 0 else 1))
def qX1_attacks_j203 (F : Nat → Int32) (A : Nat → Nat → Int32) (x1 : Int32) (x2 : Int32) : Int32 := (if (qX1_isFree F A x1 x2) = 0 then 0 else 1)
def qX1_attacks_j193 (F : Nat → Int32) (A : Nat → Nat → Int32) (x1 : Int32) (x2 : Int32) (x3 : Int32) (x7 : Int32) : Int32 := (if x7 = 0 then 0 else (if x3 = 4 then 0 else (qX1_attacks_j203 F A x1 x2)))
def qX1_attacks_j181 (F : Nat → Int32) (A : Nat → Nat → Int32) (x1 : Int32) (x2 : Int32) (x3 : Int32) (x6 : Int32) (s0 : Int32) : Int32 := (if x6 = 0 then (qX1_attacks_j193 F A x1 x2 x3 s0) else (if ¬ x3 = 3 then (qX1_attacks_j203 F A x1 x2) else (qX1_attacks_j193 F A x1 x2 x3 s0)))
def qX1_attacks_j167 (F : Nat → Int32) (A : Nat → Nat → Int32) (x1 : Int32) (x2 : Int32) (x3 : Int32) (x4 : Int32) (x5 : Int32) (s0 : Int32) : Int32 := (if ¬ x4 = x5 then (qX1_attacks_j181 F A x1 x2 x3 s0 0) else (qX1_attacks_j181 F A x1 x2 x3 s0 1))
def qX1_attacks (F : Nat → Int32) (A : Nat → Nat → Int32) (p1 : Int32) (p2 : Int32) : Int32 := (if (qX1_kindOf (A 1 (Int32.toNatClampNeg p1))) = 0 then 0 else (if ¬ p1 = p2 then (if ¬ (qX1_kindOf (A 1 (Int32.toNatClampNeg p1))) = 1 then (if ¬ (qX1_kindOf (A 1 (Int32.toNatClampNeg p1))) = 2 then (if ¬ (qX1_kindOf (A 1 (Int32.toNatClampNeg p1))) = 6 then (if (qX1_apart (p1 - p1 / 8 * 8) (p2 - p2 / 8 * 8)) = 0 then (qX1_attacks_j167 F A p1 p2 (qX1_kindOf (A 1 (Int32.toNatClampNeg p1))) (qX1_apart (p1 - p1 / 8 * 8) (p2 - p2 / 8 * 8)) (qX1_apart (p1 / 8) (p2 / 8)) 1) else (if ¬ (qX1_apart (p1 / 8) (p2 / 8)) = 0 then (qX1_attacks_j167 F A p1 p2 (qX1_kindOf (A 1 (Int32.toNatClampNeg p1))) (qX1_apart (p1 - p1 / 8 * 8) (p2 - p2 / 8 * 8)) (qX1_apart (p1 / 8) (p2 / 8)) 0) else (qX1_attacks_j167 F A p1 p2 (qX1_kindOf (A 1 (Int32.toNatClampNeg p1))) (qX1_apart (p1 - p1 / 8 * 8) (p2 - p2 / 8 * 8)) (qX1_apart (p1 / 8) (p2 / 8)) 1))) else (if 2 ≤ (qX1_apart (p1 - p1 / 8 * 8) (p2 - p2 / 8 * 8)) then 0 else (if 2 ≤ (qX1_apart (p1 / 8) (p2 / 8)) then 0 else 1))) else (if ¬ (qX1_apart (p1 - p1 / 8 * 8) (p2 - p2 / 8 * 8)) = 1 then (qX1_attacks_j110 F A (qX1_apart (p1 - p1 / 8 * 8) (p2 - p2 / 8 * 8)) (qX1_apart (p1 / 8) (p2 / 8))) else (if (qX1_apart (p1 / 8) (p2 / 8)) = 2 then 1 else (qX1_attacks_j110 F A (qX1_apart (p1 - p1 / 8 * 8) (p2 - p2 / 8 * 8)) (qX1_apart (p1 / 8) (p2 / 8)))))) else (if ¬ (qX1_apart (p1 - p1 / 8 * 8) (p2 - p2 / 8 * 8)) = 1 then 0 else (if ¬ (qX1_sideOf (A 1 (Int32.toNatClampNeg p1))) = 0 then (qX1_attacks_j84 F A (-1) ((p2 / 8) - (p1 / 8))) else (qX1_attacks_j84 F A 1 ((p2 / 8) - (p1 / 8)))))) else 0))
abbrev rmX1_attacks : Room := { frames := 1, cells := 0, slots := 0, locals := 26 }
theorem nX1_attacks : yX1_attacks.cls = RX1 ∧ yX1_attacks.cls ≠ "java/lang/invoke/MethodHandle" ∧ yX1_attacks.cls ≠ "java/lang/invoke/VarHandle" ∧ (parseMethodDescriptor yX1_attacks.desc).map (fun d => d.parameters.length) = some 2 := by decide +kernel
theorem in_X1_attacks : ∀ w ∈ wsX10, w ∈ wsX1_attacks := fun w h => by
  unfold wsX1_attacks
  exact List.mem_cons_of_mem _ (List.mem_append_right _ h)
theorem kX1_attacks_0 : Cond.fieldLink RX1 7 "BoardModel" "squares" "[I" ∈ wsX1_attacks := by decide +kernel
set_option maxHeartbeats 4000000 in
set_option maxRecDepth 100000 in
theorem mX1_attacks (l : Launch) (D : va_G) (cI cB : ClassId) (o : Nat) (h : Nat → Nat) (F : Nat → Int32) (A : Nat → Nat → Int32) (p1 : Int32) (p2 : Int32) (h1 : vp_in p1 64) (h2 : vp_in p2 64) (r0 : Int32) (hR : r0 = qX1_attacks F A p1 p2) : cMi l yX1_attacks wsX1_attacks rmX1_attacks D [(cI, .int), (cB, .byte)] (wR cI cB o h F A) [.ref o, .int p1, .int p2] r0 (wR cI cB o h F A) := by
  intro sz
  refine cMet_of (Qc := fun AA => cQi D [(cI, .int), (cB, .byte)] r0 (wR cI cB o h F A) AA) (cc := cX1_attacks) (maxL := 8) (ret := (some .boolean)) (by decide) rfl (Nat.le_of_ble_eq_true rfl) ?_ sz
  intro p e s m below meth c AA ls hx hb hr hts hown hml hlk hA hK hP hD hS hl
  have hown : s.vm.findClass RX1 = some m.cls := hown
  have hl : lv_has ls 8 [(0, .ref o), (1, .int p1), (2, .int p2)] := hl
  rw [qX1_attacks] at hR
  refine lv_aload_n hx hb dX1_attacks_0 rfl (lv_at hl 0 rfl) ?_
  refine gR hx hb hts in_X1_attacks hown hK hP 1 (by decide) rfl kX1_attacks_0 dX1_attacks_1 ?_
  refine lv_iload_n hx hb dX1_attacks_4 rfl (lv_at hl 1 rfl) ?_
  refine va_iald (f := A 1) hx hb hK hP 1 0 rfl rfl h1 dX1_attacks_5 ?_
  refine cSi ⟨hx, hb, hml, hown, hts⟩ (mX1_kindOf l D (A 1 (Int32.toNatClampNeg p1)) _ rfl) (va_cwS 1 hts gX1_attacks_X1_kindOf rfl rfl rfl nX1_kindOf ⟨Nat.le_of_ble_eq_true rfl, Nat.le_of_ble_eq_true rfl⟩) rfl hl.1 rfl (Nat.le_of_ble_eq_true rfl) dX1_attacks_6 ⟨Nat.zero_le _, Nat.zero_le _⟩ hK hP hS hA (fun H locs hP hS => ?_)
  refine lv_istore_n (lv' := [(3, .int (qX1_kindOf (A 1 (Int32.toNatClampNeg p1)))), (0, .ref o), (1, .int p1), (2, .int p2)]) hx hb dX1_attacks_9 rfl hl (by decide) rfl (fun ls hl => ?_)
  refine lv_iload_n hx hb dX1_attacks_10 rfl (lv_at hl 2 rfl) ?_
  refine lv_bipush (v := 8) hx hb dX1_attacks_11 (by decide) ?_
  refine lv_irem hx hb dX1_attacks_13 (by decide) ?_
  refine lv_iload_n hx hb dX1_attacks_14 rfl (lv_at hl 3 rfl) ?_
  refine lv_bipush (v := 8) hx hb dX1_attacks_15 (by decide) ?_
  refine lv_irem hx hb dX1_attacks_17 (by decide) ?_
  refine cSi ⟨hx, hb, hml, hown, hts⟩ (mX1_apart l D (p1 - p1 / 8 * 8) (p2 - p2 / 8 * 8) _ rfl) (va_cwS 2 hts gX1_attacks_X1_apart rfl rfl rfl nX1_apart ⟨Nat.le_of_ble_eq_true rfl, Nat.le_of_ble_eq_true rfl⟩) rfl hl.1 rfl (Nat.le_of_ble_eq_true rfl) dX1_attacks_18 ⟨Nat.zero_le _, Nat.zero_le _⟩ hK hP hS hA (fun H locs hP hS => ?_)
  refine lv_istore (lv' := [(4, .int (qX1_apart (p1 - p1 / 8 * 8) (p2 - p2 / 8 * 8))), (3, .int (qX1_kindOf (A 1 (Int32.toNatClampNeg p1)))), (0, .ref o), (1, .int p1), (2, .int p2)]) hx hb dX1_attacks_21 hl (by decide) rfl (fun ls hl => ?_)
  refine lv_iload_n hx hb dX1_attacks_23 rfl (lv_at hl 3 rfl) ?_
  refine lv_bipush (v := 8) hx hb dX1_attacks_24 (by decide) ?_
  refine lv_idiv hx hb dX1_attacks_26 (by decide) ?_
  refine lv_iload_n hx hb dX1_attacks_27 rfl (lv_at hl 4 rfl) ?_
  refine lv_bipush (v := 8) hx hb dX1_attacks_28 (by decide) ?_
  refine lv_idiv hx hb dX1_attacks_30 (by decide) ?_
  refine cSi ⟨hx, hb, hml, hown, hts⟩ (mX1_apart l D (p1 / 8) (p2 / 8) _ rfl) (va_cwS 2 hts gX1_attacks_X1_apart rfl rfl rfl nX1_apart ⟨Nat.le_of_ble_eq_true rfl, Nat.le_of_ble_eq_true rfl⟩) rfl hl.1 rfl (Nat.le_of_ble_eq_true rfl) dX1_attacks_31 ⟨Nat.zero_le _, Nat.zero_le _⟩ hK hP hS hA (fun H locs hP hS => ?_)
  refine lv_istore (lv' := [(5, .int (qX1_apart (p1 / 8) (p2 / 8))), (4, .int (qX1_apart (p1 - p1 / 8 * 8) (p2 - p2 / 8 * 8))), (3, .int (qX1_kindOf (A 1 (Int32.toNatClampNeg p1)))), (0, .ref o), (1, .int p1), (2, .int p2)]) hx hb dX1_attacks_34 hl (by decide) rfl (fun ls hl => ?_)
  refine lv_iload_n hx hb dX1_attacks_36 rfl (lv_at hl 2 rfl) ?_
  refine lv_if_eq (tgt := 45) hx hb dX1_attacks_37 (by decide) (fun c37 => ?_) (fun c37 => ?_)
  · have hR := hR.trans (if_pos c37)
    refine lv_iconst (v := 0) hx hb dX1_attacks_45 (by decide) ?_
    exact cRz hx hb hr hlk hK hP hD hS (Or.inl rfl) hR.symm dX1_attacks_46
  · have hR := hR.trans (if_neg c37)
    refine lv_iload_n hx hb dX1_attacks_40 rfl (lv_at hl 4 rfl) ?_
    refine lv_iload_n hx hb dX1_attacks_41 rfl (lv_at hl 5 rfl) ?_
    refine lv_icmp_ne (tgt := 47) hx hb dX1_attacks_42 (by decide) (fun c42 => ?_) (fun c42 => ?_)
    · have hR := hR.trans (if_pos c42)
      refine lv_iload_n hx hb dX1_attacks_47 rfl (lv_at hl 2 rfl) ?_
      refine lv_iconst (v := 1) hx hb dX1_attacks_48 (by decide) ?_
      refine lv_icmp_ne (tgt := 93) hx hb dX1_attacks_49 (by decide) (fun c49 => ?_) (fun c49 => ?_)
      · have hR := hR.trans (if_pos c49)
        refine lv_iload_n hx hb dX1_attacks_93 rfl (lv_at hl 2 rfl) ?_
        refine lv_iconst (v := 2) hx hb dX1_attacks_94 (by decide) ?_
        refine lv_icmp_ne (tgt := 128) hx hb dX1_attacks_95 (by decide) (fun c95 => ?_) (fun c95 => ?_)
        · have hR := hR.trans (if_pos c95)
          refine lv_iload_n hx hb dX1_attacks_128 rfl (lv_at hl 2 rfl) ?_
          refine lv_bipush (v := 6) hx hb dX1_attacks_129 (by decide) ?_
          refine lv_icmp_ne (tgt := 152) hx hb dX1_attacks_131 (by decide) (fun c131 => ?_) (fun c131 => ?_)
          · have hR := hR.trans (if_pos c131)
            refine lv_iload hx hb dX1_attacks_152 (lv_at hl 1 rfl) ?_
            have hj167 : ∀ (s167_0 : Int32) (H : Heap) (locs : List Loc) (ls : Array Slot), (s167_0 = 0 ∨ ((qX1_apart (p1 - p1 / 8 * 8) (p2 - p2 / 8 * 8)) = 0 ∨ (qX1_apart (p1 / 8) (p2 / 8)) = 0)) → va_P D vwCl (wR cI cB o h F A) H → va_D AA (wR cI cB o h F A) → va_S AA s.heap H locs → lv_has ls 8 [(0, .ref o), (1, .int p1), (2, .int p2), (3, .int (qX1_kindOf (A 1 (Int32.toNatClampNeg p1)))), (4, .int (qX1_apart (p1 - p1 / 8 * 8) (p2 - p2 / 8 * 8))), (5, .int (qX1_apart (p1 / 8) (p2 / 8)))] → r0 = qX1_attacks_j167 F A p1 p2 (qX1_kindOf (A 1 (Int32.toNatClampNeg p1))) (qX1_apart (p1 - p1 / 8 * 8) (p2 - p2 / 8 * 8)) (qX1_apart (p1 / 8) (p2 / 8)) s167_0 → W p l e rmX1_attacks s m [.ref o, .int p1, .int p2].toArray below meth c H locs 0 0 (MQ below (cQi D [(cI, .int), (cB, .byte)] r0 (wR cI cB o h F A) AA) [.ref o, .int p1, .int p2].toArray s 0 0 AA) (F0 m 167 ls [.int s167_0]) := by
              intro s167_0 H locs ls h167 hP hD hS hl hR
              rw [qX1_attacks_j167] at hR
              refine lv_istore (lv' := [(6, .int s167_0), (0, .ref o), (1, .int p1), (2, .int p2), (3, .int (qX1_kindOf (A 1 (Int32.toNatClampNeg p1)))), (4, .int (qX1_apart (p1 - p1 / 8 * 8) (p2 - p2 / 8 * 8))), (5, .int (qX1_apart (p1 / 8) (p2 / 8)))]) hx hb dX1_attacks_167 hl (by decide) rfl (fun ls hl => ?_)
              refine lv_iload hx hb dX1_attacks_169 (lv_at hl 5 rfl) ?_
              refine lv_iload hx hb dX1_attacks_171 (lv_at hl 6 rfl) ?_
              have hj181 : ∀ (s181_0 : Int32) (H : Heap) (locs : List Loc) (ls : Array Slot), (s181_0 = 0 ∨ (qX1_apart (p1 - p1 / 8 * 8) (p2 - p2 / 8 * 8)) = (qX1_apart (p1 / 8) (p2 / 8))) → va_P D vwCl (wR cI cB o h F A) H → va_D AA (wR cI cB o h F A) → va_S AA s.heap H locs → lv_has ls 8 [(0, .ref o), (1, .int p1), (2, .int p2), (3, .int (qX1_kindOf (A 1 (Int32.toNatClampNeg p1)))), (6, .int s167_0)] → r0 = qX1_attacks_j181 F A p1 p2 (qX1_kindOf (A 1 (Int32.toNatClampNeg p1))) s167_0 s181_0 → W p l e rmX1_attacks s m [.ref o, .int p1, .int p2].toArray below meth c H locs 0 0 (MQ below (cQi D [(cI, .int), (cB, .byte)] r0 (wR cI cB o h F A) AA) [.ref o, .int p1, .int p2].toArray s 0 0 AA) (F0 m 181 ls [.int s181_0]) := by
                intro s181_0 H locs ls h181 hP hD hS hl hR
                rw [qX1_attacks_j181] at hR
                refine lv_istore (lv' := [(7, .int s181_0), (0, .ref o), (1, .int p1), (2, .int p2), (3, .int (qX1_kindOf (A 1 (Int32.toNatClampNeg p1)))), (6, .int s167_0)]) hx hb dX1_attacks_181 hl (by decide) rfl (fun ls hl => ?_)
                refine lv_iload hx hb dX1_attacks_183 (lv_at hl 5 rfl) ?_
                have hj203 : ∀ (H : Heap) (locs : List Loc) (ls : Array Slot), (((qX1_apart (p1 - p1 / 8 * 8) (p2 - p2 / 8 * 8)) = 0 ∨ (qX1_apart (p1 / 8) (p2 / 8)) = 0) ∨ (qX1_apart (p1 - p1 / 8 * 8) (p2 - p2 / 8 * 8)) = (qX1_apart (p1 / 8) (p2 / 8))) → va_P D vwCl (wR cI cB o h F A) H → va_D AA (wR cI cB o h F A) → va_S AA s.heap H locs → lv_has ls 8 [(0, .ref o), (1, .int p1), (2, .int p2)] → r0 = qX1_attacks_j203 F A p1 p2 → W p l e rmX1_attacks s m [.ref o, .int p1, .int p2].toArray below meth c H locs 0 0 (MQ below (cQi D [(cI, .int), (cB, .byte)] r0 (wR cI cB o h F A) AA) [.ref o, .int p1, .int p2].toArray s 0 0 AA) (F0 m 203 ls []) := by
                  intro  H locs ls hal hP hD hS hl hR
                  rw [qX1_attacks_j203] at hR
                  refine lv_aload_n hx hb dX1_attacks_203 rfl (lv_at hl 0 rfl) ?_
                  refine lv_iload_n hx hb dX1_attacks_204 rfl (lv_at hl 1 rfl) ?_
                  refine lv_iload_n hx hb dX1_attacks_205 rfl (lv_at hl 2 rfl) ?_
                  refine cVi ⟨hx, hb, hml, hown, hts⟩ (mX1_isFree l D cI cB o h F A p1 p2 (alOf h1 h2 c42 hal) _ rfl) (cwV 2 hts gX1_attacks_X1_isFree rfl rfl rfl nX1_isFree ⟨Nat.le_of_ble_eq_true rfl, Nat.le_of_ble_eq_true rfl⟩) (va_recv hK hP (ci := 1) (q0 := 0) rfl rfl) rfl hl.1 rfl (Nat.le_of_ble_eq_true rfl) dX1_attacks_206 ⟨Nat.zero_le _, Nat.zero_le _⟩ hK hP hD hS hA (fun H locs hP hD hS => ?_)
                  refine lv_if_eq (tgt := 216) hx hb dX1_attacks_209 (by decide) (fun c209 => ?_) (fun c209 => ?_)
                  · have hR := hR.trans (if_pos c209)
                    refine lv_iconst (v := 0) hx hb dX1_attacks_216 (by decide) ?_
                    exact cRz hx hb hr hlk hK hP hD hS (Or.inl rfl) hR.symm dX1_attacks_217
                  · have hR := hR.trans (if_neg c209)
                    refine lv_iconst (v := 1) hx hb dX1_attacks_212 (by decide) ?_
                    refine lv_goto (tgt := 217) hx hb dX1_attacks_213 (by decide) ?_
                    exact cRz hx hb hr hlk hK hP hD hS (Or.inr rfl) hR.symm dX1_attacks_217
                have hj193 : ∀ (H : Heap) (locs : List Loc) (ls : Array Slot), va_P D vwCl (wR cI cB o h F A) H → va_D AA (wR cI cB o h F A) → va_S AA s.heap H locs → lv_has ls 8 [(0, .ref o), (1, .int p1), (2, .int p2), (3, .int (qX1_kindOf (A 1 (Int32.toNatClampNeg p1)))), (7, .int s181_0)] → r0 = qX1_attacks_j193 F A p1 p2 (qX1_kindOf (A 1 (Int32.toNatClampNeg p1))) s181_0 → W p l e rmX1_attacks s m [.ref o, .int p1, .int p2].toArray below meth c H locs 0 0 (MQ below (cQi D [(cI, .int), (cB, .byte)] r0 (wR cI cB o h F A) AA) [.ref o, .int p1, .int p2].toArray s 0 0 AA) (F0 m 193 ls []) := by
                  intro  H locs ls  hP hD hS hl hR
                  rw [qX1_attacks_j193] at hR
                  refine lv_iload hx hb dX1_attacks_193 (lv_at hl 4 rfl) ?_
                  refine lv_if_eq (tgt := 216) hx hb dX1_attacks_195 (by decide) (fun c195 => ?_) (fun c195 => ?_)
                  · have hR := hR.trans (if_pos c195)
                    refine lv_iconst (v := 0) hx hb dX1_attacks_216 (by decide) ?_
                    exact cRz hx hb hr hlk hK hP hD hS (Or.inl rfl) hR.symm dX1_attacks_217
                  · have hR := hR.trans (if_neg c195)
                    refine lv_iload_n hx hb dX1_attacks_198 rfl (lv_at hl 3 rfl) ?_
                    refine lv_iconst (v := 4) hx hb dX1_attacks_199 (by decide) ?_
                    refine lv_icmp_eq (tgt := 216) hx hb dX1_attacks_200 (by decide) (fun c200 => ?_) (fun c200 => ?_)
                    · have hR := hR.trans (if_pos c200)
                      refine lv_iconst (v := 0) hx hb dX1_attacks_216 (by decide) ?_
                      exact cRz hx hb hr hlk hK hP hD hS (Or.inl rfl) hR.symm dX1_attacks_217
                    · have hR := hR.trans (if_neg c200)
                      exact hj203 _ _ ls (by first | exact Or.inl (h167.resolve_left c185) | exact Or.inr (h181.resolve_left c195)) hP hD hS (lv_sub hl [0, 1, 2] rfl) hR
                refine lv_if_eq (tgt := 193) hx hb dX1_attacks_185 (by decide) (fun c185 => ?_) (fun c185 => ?_)
                · have hR := hR.trans (if_pos c185)
                  exact hj193 _ _ ls hP hD hS (lv_sub hl [1, 2, 3, 4, 0] rfl) hR
                · have hR := hR.trans (if_neg c185)
                  refine lv_iload_n hx hb dX1_attacks_188 rfl (lv_at hl 4 rfl) ?_
                  refine lv_iconst (v := 3) hx hb dX1_attacks_189 (by decide) ?_
                  refine lv_icmp_ne (tgt := 203) hx hb dX1_attacks_190 (by decide) (fun c190 => ?_) (fun c190 => ?_)
                  · have hR := hR.trans (if_pos c190)
                    exact hj203 _ _ ls (by first | exact Or.inl (h167.resolve_left c185) | exact Or.inr (h181.resolve_left c195)) hP hD hS (lv_sub hl [1, 2, 3] rfl) hR
                  · have hR := hR.trans (if_neg (fun z => z c190))
                    exact hj193 _ _ ls hP hD hS (lv_sub hl [1, 2, 3, 4, 0] rfl) hR
              refine lv_icmp_ne (tgt := 180) hx hb dX1_attacks_173 (by decide) (fun c173 => ?_) (fun c173 => ?_)
              · have hR := hR.trans (if_pos c173)
                refine lv_iconst (v := 0) hx hb dX1_attacks_180 (by decide) ?_
                exact hj181 0 _ _ ls (by first | exact Or.inl rfl | exact Or.inr c173) hP hD hS (lv_sub hl [1, 2, 3, 4, 0] rfl) hR
              · have hR := hR.trans (if_neg (fun z => z c173))
                refine lv_iconst (v := 1) hx hb dX1_attacks_176 (by decide) ?_
                refine lv_goto (tgt := 181) hx hb dX1_attacks_177 (by decide) ?_
                exact hj181 1 _ _ ls (by first | exact Or.inl rfl | exact Or.inr c173) hP hD hS (lv_sub hl [1, 2, 3, 4, 0] rfl) hR
            refine lv_if_eq (tgt := 162) hx hb dX1_attacks_154 (by decide) (fun c154 => ?_) (fun c154 => ?_)
            · have hR := hR.trans (if_pos c154)
              refine lv_iconst (v := 1) hx hb dX1_attacks_162 (by decide) ?_
              refine lv_goto (tgt := 167) hx hb dX1_attacks_163 (by decide) ?_
              exact hj167 1 _ _ ls (by first | exact Or.inl rfl | exact Or.inr (Or.inl c154) | exact Or.inr (Or.inr c159)) hP hD hS (lv_sub hl [3, 4, 5, 2, 1, 0] rfl) hR
            · have hR := hR.trans (if_neg c154)
              refine lv_iload hx hb dX1_attacks_157 (lv_at hl 0 rfl) ?_
              refine lv_if_ne (tgt := 166) hx hb dX1_attacks_159 (by decide) (fun c159 => ?_) (fun c159 => ?_)
              · have hR := hR.trans (if_pos c159)
                refine lv_iconst (v := 0) hx hb dX1_attacks_166 (by decide) ?_
                exact hj167 0 _ _ ls (by first | exact Or.inl rfl | exact Or.inr (Or.inl c154) | exact Or.inr (Or.inr c159)) hP hD hS (lv_sub hl [3, 4, 5, 2, 1, 0] rfl) hR
              · have hR := hR.trans (if_neg (fun z => z c159))
                refine lv_iconst (v := 1) hx hb dX1_attacks_162 (by decide) ?_
                refine lv_goto (tgt := 167) hx hb dX1_attacks_163 (by decide) ?_
                exact hj167 1 _ _ ls (by first | exact Or.inl rfl | exact Or.inr (Or.inl c154) | exact Or.inr (Or.inr c159)) hP hD hS (lv_sub hl [3, 4, 5, 2, 1, 0] rfl) hR
          · have hR := hR.trans (if_neg (fun z => z c131))
            refine lv_iload hx hb dX1_attacks_134 (lv_at hl 1 rfl) ?_
            refine lv_iconst (v := 2) hx hb dX1_attacks_136 (by decide) ?_
            refine lv_icmp_ge (tgt := 150) hx hb dX1_attacks_137 (by decide) (fun c137 => ?_) (fun c137 => ?_)
            · have hR := hR.trans (if_pos c137)
              refine lv_iconst (v := 0) hx hb dX1_attacks_150 (by decide) ?_
              exact cRz hx hb hr hlk hK hP hD hS (Or.inl rfl) hR.symm dX1_attacks_151
            · have hR := hR.trans (if_neg c137)
              refine lv_iload hx hb dX1_attacks_140 (lv_at hl 0 rfl) ?_
              refine lv_iconst (v := 2) hx hb dX1_attacks_142 (by decide) ?_
              refine lv_icmp_ge (tgt := 150) hx hb dX1_attacks_143 (by decide) (fun c143 => ?_) (fun c143 => ?_)
              · have hR := hR.trans (if_pos c143)
                refine lv_iconst (v := 0) hx hb dX1_attacks_150 (by decide) ?_
                exact cRz hx hb hr hlk hK hP hD hS (Or.inl rfl) hR.symm dX1_attacks_151
              · have hR := hR.trans (if_neg c143)
                refine lv_iconst (v := 1) hx hb dX1_attacks_146 (by decide) ?_
                refine lv_goto (tgt := 151) hx hb dX1_attacks_147 (by decide) ?_
                exact cRz hx hb hr hlk hK hP hD hS (Or.inr rfl) hR.symm dX1_attacks_151
        · have hR := hR.trans (if_neg (fun z => z c95))
          refine lv_iload hx hb dX1_attacks_98 (lv_at hl 1 rfl) ?_
          refine lv_iconst (v := 1) hx hb dX1_attacks_100 (by decide) ?_
          have hj110 : ∀ (H : Heap) (locs : List Loc) (ls : Array Slot), va_P D vwCl (wR cI cB o h F A) H → va_D AA (wR cI cB o h F A) → va_S AA s.heap H locs → lv_has ls 8 [(0, .ref o), (4, .int (qX1_apart (p1 - p1 / 8 * 8) (p2 - p2 / 8 * 8))), (5, .int (qX1_apart (p1 / 8) (p2 / 8)))] → r0 = qX1_attacks_j110 F A (qX1_apart (p1 - p1 / 8 * 8) (p2 - p2 / 8 * 8)) (qX1_apart (p1 / 8) (p2 / 8)) → W p l e rmX1_attacks s m [.ref o, .int p1, .int p2].toArray below meth c H locs 0 0 (MQ below (cQi D [(cI, .int), (cB, .byte)] r0 (wR cI cB o h F A) AA) [.ref o, .int p1, .int p2].toArray s 0 0 AA) (F0 m 110 ls []) := by
            intro  H locs ls  hP hD hS hl hR
            rw [qX1_attacks_j110] at hR
            refine lv_iload hx hb dX1_attacks_110 (lv_at hl 1 rfl) ?_
            refine lv_iconst (v := 2) hx hb dX1_attacks_112 (by decide) ?_
            refine lv_icmp_ne (tgt := 126) hx hb dX1_attacks_113 (by decide) (fun c113 => ?_) (fun c113 => ?_)
            · have hR := hR.trans (if_pos c113)
              refine lv_iconst (v := 0) hx hb dX1_attacks_126 (by decide) ?_
              exact cRz hx hb hr hlk hK hP hD hS (Or.inl rfl) hR.symm dX1_attacks_127
            · have hR := hR.trans (if_neg (fun z => z c113))
              refine lv_iload hx hb dX1_attacks_116 (lv_at hl 2 rfl) ?_
              refine lv_iconst (v := 1) hx hb dX1_attacks_118 (by decide) ?_
              refine lv_icmp_ne (tgt := 126) hx hb dX1_attacks_119 (by decide) (fun c119 => ?_) (fun c119 => ?_)
              · have hR := hR.trans (if_pos c119)
                refine lv_iconst (v := 0) hx hb dX1_attacks_126 (by decide) ?_
                exact cRz hx hb hr hlk hK hP hD hS (Or.inl rfl) hR.symm dX1_attacks_127
              · have hR := hR.trans (if_neg (fun z => z c119))
                refine lv_iconst (v := 1) hx hb dX1_attacks_122 (by decide) ?_
                refine lv_goto (tgt := 127) hx hb dX1_attacks_123 (by decide) ?_
                exact cRz hx hb hr hlk hK hP hD hS (Or.inr rfl) hR.symm dX1_attacks_127
          refine lv_icmp_ne (tgt := 110) hx hb dX1_attacks_101 (by decide) (fun c101 => ?_) (fun c101 => ?_)
          · have hR := hR.trans (if_pos c101)
            exact hj110 _ _ ls hP hD hS (lv_sub hl [3, 1, 0] rfl) hR
          · have hR := hR.trans (if_neg (fun z => z c101))
            refine lv_iload hx hb dX1_attacks_104 (lv_at hl 0 rfl) ?_
            refine lv_iconst (v := 2) hx hb dX1_attacks_106 (by decide) ?_
            refine lv_icmp_eq (tgt := 122) hx hb dX1_attacks_107 (by decide) (fun c107 => ?_) (fun c107 => ?_)
            · have hR := hR.trans (if_pos c107)
              refine lv_iconst (v := 1) hx hb dX1_attacks_122 (by decide) ?_
              refine lv_goto (tgt := 127) hx hb dX1_attacks_123 (by decide) ?_
              exact cRz hx hb hr hlk hK hP hD hS (Or.inr rfl) hR.symm dX1_attacks_127
            · have hR := hR.trans (if_neg c107)
              exact hj110 _ _ ls hP hD hS (lv_sub hl [3, 1, 0] rfl) hR
      · have hR := hR.trans (if_neg (fun z => z c49))
        refine lv_iload hx hb dX1_attacks_52 (lv_at hl 1 rfl) ?_
        refine lv_iconst (v := 1) hx hb dX1_attacks_54 (by decide) ?_
        refine lv_icmp_ne (tgt := 91) hx hb dX1_attacks_55 (by decide) (fun c55 => ?_) (fun c55 => ?_)
        · have hR := hR.trans (if_pos c55)
          refine lv_iconst (v := 0) hx hb dX1_attacks_91 (by decide) ?_
          exact cRz hx hb hr hlk hK hP hD hS (Or.inl rfl) hR.symm dX1_attacks_92
        · have hR := hR.trans (if_neg (fun z => z c55))
          refine lv_iload_n hx hb dX1_attacks_58 rfl (lv_at hl 5 rfl) ?_
          refine lv_bipush (v := 8) hx hb dX1_attacks_59 (by decide) ?_
          refine lv_idiv hx hb dX1_attacks_61 (by decide) ?_
          refine lv_iload_n hx hb dX1_attacks_62 rfl (lv_at hl 4 rfl) ?_
          refine lv_bipush (v := 8) hx hb dX1_attacks_63 (by decide) ?_
          refine lv_idiv hx hb dX1_attacks_65 (by decide) ?_
          refine lv_isub hx hb dX1_attacks_66 ?_
          refine lv_aload_n hx hb dX1_attacks_67 rfl (lv_at hl 3 rfl) ?_
          refine gR hx hb hts in_X1_attacks hown hK hP 1 (by decide) rfl kX1_attacks_0 dX1_attacks_68 ?_
          refine lv_iload_n hx hb dX1_attacks_71 rfl (lv_at hl 4 rfl) ?_
          refine va_iald (f := A 1) hx hb hK hP 1 0 rfl rfl h1 dX1_attacks_72 ?_
          refine cSi ⟨hx, hb, hml, hown, hts⟩ (mX1_sideOf l D (A 1 (Int32.toNatClampNeg p1)) _ rfl) (va_cwS 1 hts gX1_attacks_X1_sideOf rfl rfl rfl nX1_sideOf ⟨Nat.le_of_ble_eq_true rfl, Nat.le_of_ble_eq_true rfl⟩) rfl hl.1 rfl (Nat.le_of_ble_eq_true rfl) dX1_attacks_73 ⟨Nat.zero_le _, Nat.zero_le _⟩ hK hP hS hA (fun H locs hP hS => ?_)
          have hj84 : ∀ (s84_0 : Int32) (H : Heap) (locs : List Loc) (ls : Array Slot), va_P D vwCl (wR cI cB o h F A) H → va_D AA (wR cI cB o h F A) → va_S AA s.heap H locs → lv_has ls 8 [(0, .ref o)] → r0 = qX1_attacks_j84 F A s84_0 ((p2 / 8) - (p1 / 8)) → W p l e rmX1_attacks s m [.ref o, .int p1, .int p2].toArray below meth c H locs 0 0 (MQ below (cQi D [(cI, .int), (cB, .byte)] r0 (wR cI cB o h F A) AA) [.ref o, .int p1, .int p2].toArray s 0 0 AA) (F0 m 84 ls [.int s84_0, .int ((p2 / 8) - (p1 / 8))]) := by
            intro s84_0 H locs ls  hP hD hS hl hR
            rw [qX1_attacks_j84] at hR
            refine lv_icmp_ne (tgt := 91) hx hb dX1_attacks_84 (by decide) (fun c84 => ?_) (fun c84 => ?_)
            · have hR := hR.trans (if_pos c84)
              refine lv_iconst (v := 0) hx hb dX1_attacks_91 (by decide) ?_
              exact cRz hx hb hr hlk hK hP hD hS (Or.inl rfl) hR.symm dX1_attacks_92
            · have hR := hR.trans (if_neg (fun z => z c84))
              refine lv_iconst (v := 1) hx hb dX1_attacks_87 (by decide) ?_
              refine lv_goto (tgt := 92) hx hb dX1_attacks_88 (by decide) ?_
              exact cRz hx hb hr hlk hK hP hD hS (Or.inr rfl) hR.symm dX1_attacks_92
          refine lv_if_ne (tgt := 83) hx hb dX1_attacks_76 (by decide) (fun c76 => ?_) (fun c76 => ?_)
          · have hR := hR.trans (if_pos c76)
            refine lv_iconst (v := (-1)) hx hb dX1_attacks_83 (by decide) ?_
            exact hj84 (-1) _ _ ls hP hD hS (lv_sub hl [3] rfl) hR
          · have hR := hR.trans (if_neg (fun z => z c76))
            refine lv_iconst (v := 1) hx hb dX1_attacks_79 (by decide) ?_
            refine lv_goto (tgt := 84) hx hb dX1_attacks_80 (by decide) ?_
            exact hj84 1 _ _ ls hP hD hS (lv_sub hl [3] rfl) hR
    · have hR := hR.trans (if_neg (fun z => z c42))
      refine lv_iconst (v := 0) hx hb dX1_attacks_45 (by decide) ?_
      exact cRz hx hb hr hlk hK hP hD hS (Or.inl rfl) hR.symm dX1_attacks_46
