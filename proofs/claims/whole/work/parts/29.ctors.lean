abbrev rmX0_init : Room := { frames := 2, cells := 7, slots := 3664, locals := 41 }
theorem nX0_init : yX0_init.cls ≠ "java/lang/invoke/MethodHandle" ∧ yX0_init.cls ≠ "java/lang/invoke/VarHandle" ∧ (parseMethodDescriptor yX0_init.desc).map (fun d => d.parameters.length) = some 0 := by decide +kernel
theorem in_X0_init : ∀ w ∈ wsX00, w ∈ wsX0_init := fun w h => by
  unfold wsX0_init
  exact List.mem_cons_of_mem _ (List.mem_append_right _ h)
theorem kX0_init_0 : Cond.methodLink RX0 1 objectInit ∈ wsX0_init := by decide +kernel
theorem kX0_init_1 : Cond.instanceMethod objectInit ∈ wsX0_init := by decide +kernel
theorem kX0_init_2 : Cond.code objectInit ⟨#[0xb1]⟩ 1 none ∈ wsX0_init := by decide +kernel
theorem kX0_init_3 : Cond.arrayClass .int ∈ wsX0_init := by decide +kernel
theorem kX0_init_4 : Cond.fieldLink RX0 9 "Board" "board" "[I" ∈ wsX0_init := by decide +kernel
theorem kX0_init_5 : Cond.fieldLink RX0 13 "Board" "moves" "[I" ∈ wsX0_init := by decide +kernel
theorem kX0_init_6 : Cond.fieldLink RX0 16 "Board" "takenPieces" "[I" ∈ wsX0_init := by decide +kernel
theorem kX0_init_7 : Cond.fieldLink RX0 19 "Board" "takenSquares" "[I" ∈ wsX0_init := by decide +kernel
theorem kX0_init_8 : Cond.fieldLink RX0 22 "Board" "rightsBefore" "[I" ∈ wsX0_init := by decide +kernel
theorem kX0_init_9 : Cond.fieldLink RX0 25 "Board" "passingBefore" "[I" ∈ wsX0_init := by decide +kernel
theorem kX0_init_10 : Cond.fieldLink RX0 28 "Board" "halfBefore" "[I" ∈ wsX0_init := by decide +kernel
abbrev w0X0 (o : Nat) : va_W := [(o, .inr (0, [.null, .int 0, .int 0, .int 0, .int 0, .int 0, .int 0, .null, .null, .null, .null, .null, .null]))]
def iF0 : Nat → Int32 := (qX0_setAllAsAtFirst (fun _ => 0) (fun _ _ => 0)).1
def iA0 : Nat → Nat → Int32 := (qX0_setAllAsAtFirst (fun _ => 0) (fun _ _ => 0)).2
set_option maxHeartbeats 4000000 in
set_option maxRecDepth 100000 in
theorem mX0_init (l : Launch) (D : va_G) (o sz : Nat) : Met l yX0_init wsX0_init rmX0_init (cPre D [] (w0X0 o) [.ref o] sz) (va_Qv (fun (_ : ClassId × (Nat → Nat)) => True) (fun u t => cEnd D [(u.1, .int)] (wB u.1 o u.2 iF0 iA0) (va_A (w0X0 o) sz) t) (va_A (w0X0 o) sz)) 7 3664 (va_A (w0X0 o) sz) := by
  refine Met.ofW (cc := cX0_init) (maxL := 1) (ret := none) (by decide) rfl ?_
  intro p e s m args below meth c s₁ B hml hv
  obtain ⟨rfl, hsz, hP, hK, hD0⟩ := hv
  have hx := B.exec
  have hb := B.bytes
  have hr := B.returns
  have hts := atoms_spec (ws := wsX0_init) B.pre
  have hown : s.vm.findClass RX0 = some m.cls := findClass_of_methodNamed B.named
  have hlk := B.notSynchronized
  have hin : meth.name = "<init>" := (name_of_methodNamed B.named B.method).1
  subst hsz
  have hD := hD0.self (sz := s.heap.size)
  generalize hAe : va_A (w0X0 o) s.heap.size = AA at hD ⊢
  have hA : ∀ q : Nat, s.heap.size ≤ q → AA q := fun q h => by rw [← hAe]; exact Or.inr h
  have hS : va_S AA s.heap s.heap [] := va_S.rf
  have hl := lv_entry ([.ref o]) (n := 1) (Nat.le_of_ble_eq_true rfl)
  rw [lg_entry_eq]
  generalize (lg_sl ([.ref o]) ++ List.replicate (1 - (lg_sl ([.ref o])).length) Slot.unset).toArray = ls at hl ⊢
  have hl : lv_has ls 1 [(0, .ref o)] := hl
  refine lv_aload_n hx hb dX0_init_0 rfl (lv_at hl 0 rfl) ?_
  refine W.objInit hx hb hown (hts _ kX0_init_0) (hts _ kX0_init_1) (hts _ kX0_init_2) rfl (by rw [hml]; exact hl.1) rfl dX0_init_1 (Nat.le_of_ble_eq_true rfl) (Nat.le_of_ble_eq_true rfl) ?_
  refine W.eq (g2 := F0 m 4 ls []) rfl ?_
  refine lv_aload_n hx hb dX0_init_4 rfl (lv_at hl 0 rfl) ?_
  refine lv_bipush (v := 64) hx hb dX0_init_5 (by decide) ?_
  refine va_newa (atype := .int) (a0 := (64, .inl (fun _ => 0))) (N' := 64) (ty := .int) hx hb (hts (Cond.arrayClass .int) kX0_init_3) rfl hK hP hD hS hA (fun _ => rfl) (by decide) (by decide) (by decide) (Nat.le_of_ble_eq_true rfl) (Nat.le_of_ble_eq_true rfl) dX0_init_7 (fun q0 c0 H hK hP hD hS => ?_)
  refine W.widen (k := 1) (n := 64) (Nat.le_of_ble_eq_true rfl) (Nat.le_of_ble_eq_true rfl) ?_
  have hK : va_K D vwCl [(c0, .int)] s := hK
  have hP : va_P D vwCl [(o, .inr (0, [.null, .int 0, .int 0, .int 0, .int 0, .int 0, .int 0, .null, .null, .null, .null, .null, .null])), (q0, .inl (c0, 64, .inl (fun _ => 0)))] H := hP
  have hD : va_D AA [(o, .inr (0, [.null, .int 0, .int 0, .int 0, .int 0, .int 0, .int 0, .null, .null, .null, .null, .null, .null])), (q0, .inl (c0, 64, .inl (fun _ => 0)))] := hD
  refine va_putF (D := D) (ci := 0) (v := .ref q0) (ty := (.array .int)) (C := RX0) (T := TX0) (N := 13) hx hb hts in_X0_init tyX0 tyX0_ok nmX0 hown hK hP hD hS 0 rfl rfl 0 (by decide) (hts _ kX0_init_4) (fun _ h9 => h9) rfl hin rfl (by decide +kernel) rfl rfl (Nat.le_of_ble_eq_true rfl) dX0_init_9 (fun H locs hP hD hS => ?_)
  have hP : va_P D vwCl [(o, .inr (0, [.ref q0, .int 0, .int 0, .int 0, .int 0, .int 0, .int 0, .null, .null, .null, .null, .null, .null])), (q0, .inl (c0, 64, .inl (fun _ => 0)))] H := hP
  have hD : va_D AA [(o, .inr (0, [.ref q0, .int 0, .int 0, .int 0, .int 0, .int 0, .int 0, .null, .null, .null, .null, .null, .null])), (q0, .inl (c0, 64, .inl (fun _ => 0)))] := hD
  refine lv_aload_n hx hb dX0_init_12 rfl (lv_at hl 0 rfl) ?_
  refine lv_sipush (v := 600) hx hb dX0_init_13 (by decide) ?_
  refine va_newa (atype := .int) (a0 := (600, .inl (fun _ => 0))) (N' := 600) (ty := .int) hx hb (hts (Cond.arrayClass .int) kX0_init_3) rfl hK hP hD hS hA (fun _ => rfl) (by decide) (by decide) (by decide) (Nat.le_of_ble_eq_true rfl) (Nat.le_of_ble_eq_true rfl) dX0_init_16 (fun q1 c1 H hK hP hD hS => ?_)
  refine W.widen (k := 2) (n := 664) (Nat.le_of_ble_eq_true rfl) (Nat.le_of_ble_eq_true rfl) ?_
  have ec1 : c0 = c1 := Option.some.inj (((hK.2 0 _ rfl).2 : _ = _).symm.trans (hK.2 1 _ rfl).2)
  subst ec1
  have hK := hK.sub (tys' := [(c0, .int)]) [0] rfl
  have hK : va_K D vwCl [(c0, .int)] s := hK
  have hP : va_P D vwCl [(o, .inr (0, [.ref q0, .int 0, .int 0, .int 0, .int 0, .int 0, .int 0, .null, .null, .null, .null, .null, .null])), (q0, .inl (c0, 64, .inl (fun _ => 0))), (q1, .inl (c0, 600, .inl (fun _ => 0)))] H := hP
  have hD : va_D AA [(o, .inr (0, [.ref q0, .int 0, .int 0, .int 0, .int 0, .int 0, .int 0, .null, .null, .null, .null, .null, .null])), (q0, .inl (c0, 64, .inl (fun _ => 0))), (q1, .inl (c0, 600, .inl (fun _ => 0)))] := hD
  refine va_putF (D := D) (ci := 0) (v := .ref q1) (ty := (.array .int)) (C := RX0) (T := TX0) (N := 13) hx hb hts in_X0_init tyX0 tyX0_ok nmX0 hown hK hP hD hS 0 rfl rfl 7 (by decide) (hts _ kX0_init_5) (fun _ h9 => h9) rfl hin rfl (by decide +kernel) rfl rfl (Nat.le_of_ble_eq_true rfl) dX0_init_18 (fun H locs hP hD hS => ?_)
  have hP : va_P D vwCl [(o, .inr (0, [.ref q0, .int 0, .int 0, .int 0, .int 0, .int 0, .int 0, .ref q1, .null, .null, .null, .null, .null])), (q0, .inl (c0, 64, .inl (fun _ => 0))), (q1, .inl (c0, 600, .inl (fun _ => 0)))] H := hP
  have hD : va_D AA [(o, .inr (0, [.ref q0, .int 0, .int 0, .int 0, .int 0, .int 0, .int 0, .ref q1, .null, .null, .null, .null, .null])), (q0, .inl (c0, 64, .inl (fun _ => 0))), (q1, .inl (c0, 600, .inl (fun _ => 0)))] := hD
  refine lv_aload_n hx hb dX0_init_21 rfl (lv_at hl 0 rfl) ?_
  refine lv_sipush (v := 600) hx hb dX0_init_22 (by decide) ?_
  refine va_newa (atype := .int) (a0 := (600, .inl (fun _ => 0))) (N' := 600) (ty := .int) hx hb (hts (Cond.arrayClass .int) kX0_init_3) rfl hK hP hD hS hA (fun _ => rfl) (by decide) (by decide) (by decide) (Nat.le_of_ble_eq_true rfl) (Nat.le_of_ble_eq_true rfl) dX0_init_25 (fun q2 c2 H hK hP hD hS => ?_)
  refine W.widen (k := 3) (n := 1264) (Nat.le_of_ble_eq_true rfl) (Nat.le_of_ble_eq_true rfl) ?_
  have ec2 : c0 = c2 := Option.some.inj (((hK.2 0 _ rfl).2 : _ = _).symm.trans (hK.2 1 _ rfl).2)
  subst ec2
  have hK := hK.sub (tys' := [(c0, .int)]) [0] rfl
  have hK : va_K D vwCl [(c0, .int)] s := hK
  have hP : va_P D vwCl [(o, .inr (0, [.ref q0, .int 0, .int 0, .int 0, .int 0, .int 0, .int 0, .ref q1, .null, .null, .null, .null, .null])), (q0, .inl (c0, 64, .inl (fun _ => 0))), (q1, .inl (c0, 600, .inl (fun _ => 0))), (q2, .inl (c0, 600, .inl (fun _ => 0)))] H := hP
  have hD : va_D AA [(o, .inr (0, [.ref q0, .int 0, .int 0, .int 0, .int 0, .int 0, .int 0, .ref q1, .null, .null, .null, .null, .null])), (q0, .inl (c0, 64, .inl (fun _ => 0))), (q1, .inl (c0, 600, .inl (fun _ => 0))), (q2, .inl (c0, 600, .inl (fun _ => 0)))] := hD
  refine va_putF (D := D) (ci := 0) (v := .ref q2) (ty := (.array .int)) (C := RX0) (T := TX0) (N := 13) hx hb hts in_X0_init tyX0 tyX0_ok nmX0 hown hK hP hD hS 0 rfl rfl 8 (by decide) (hts _ kX0_init_6) (fun _ h9 => h9) rfl hin rfl (by decide +kernel) rfl rfl (Nat.le_of_ble_eq_true rfl) dX0_init_27 (fun H locs hP hD hS => ?_)
  have hP : va_P D vwCl [(o, .inr (0, [.ref q0, .int 0, .int 0, .int 0, .int 0, .int 0, .int 0, .ref q1, .ref q2, .null, .null, .null, .null])), (q0, .inl (c0, 64, .inl (fun _ => 0))), (q1, .inl (c0, 600, .inl (fun _ => 0))), (q2, .inl (c0, 600, .inl (fun _ => 0)))] H := hP
  have hD : va_D AA [(o, .inr (0, [.ref q0, .int 0, .int 0, .int 0, .int 0, .int 0, .int 0, .ref q1, .ref q2, .null, .null, .null, .null])), (q0, .inl (c0, 64, .inl (fun _ => 0))), (q1, .inl (c0, 600, .inl (fun _ => 0))), (q2, .inl (c0, 600, .inl (fun _ => 0)))] := hD
  refine lv_aload_n hx hb dX0_init_30 rfl (lv_at hl 0 rfl) ?_
  refine lv_sipush (v := 600) hx hb dX0_init_31 (by decide) ?_
  refine va_newa (atype := .int) (a0 := (600, .inl (fun _ => 0))) (N' := 600) (ty := .int) hx hb (hts (Cond.arrayClass .int) kX0_init_3) rfl hK hP hD hS hA (fun _ => rfl) (by decide) (by decide) (by decide) (Nat.le_of_ble_eq_true rfl) (Nat.le_of_ble_eq_true rfl) dX0_init_34 (fun q3 c3 H hK hP hD hS => ?_)
  refine W.widen (k := 4) (n := 1864) (Nat.le_of_ble_eq_true rfl) (Nat.le_of_ble_eq_true rfl) ?_
  have ec3 : c0 = c3 := Option.some.inj (((hK.2 0 _ rfl).2 : _ = _).symm.trans (hK.2 1 _ rfl).2)
  subst ec3
  have hK := hK.sub (tys' := [(c0, .int)]) [0] rfl
  have hK : va_K D vwCl [(c0, .int)] s := hK
  have hP : va_P D vwCl [(o, .inr (0, [.ref q0, .int 0, .int 0, .int 0, .int 0, .int 0, .int 0, .ref q1, .ref q2, .null, .null, .null, .null])), (q0, .inl (c0, 64, .inl (fun _ => 0))), (q1, .inl (c0, 600, .inl (fun _ => 0))), (q2, .inl (c0, 600, .inl (fun _ => 0))), (q3, .inl (c0, 600, .inl (fun _ => 0)))] H := hP
  have hD : va_D AA [(o, .inr (0, [.ref q0, .int 0, .int 0, .int 0, .int 0, .int 0, .int 0, .ref q1, .ref q2, .null, .null, .null, .null])), (q0, .inl (c0, 64, .inl (fun _ => 0))), (q1, .inl (c0, 600, .inl (fun _ => 0))), (q2, .inl (c0, 600, .inl (fun _ => 0))), (q3, .inl (c0, 600, .inl (fun _ => 0)))] := hD
  refine va_putF (D := D) (ci := 0) (v := .ref q3) (ty := (.array .int)) (C := RX0) (T := TX0) (N := 13) hx hb hts in_X0_init tyX0 tyX0_ok nmX0 hown hK hP hD hS 0 rfl rfl 9 (by decide) (hts _ kX0_init_7) (fun _ h9 => h9) rfl hin rfl (by decide +kernel) rfl rfl (Nat.le_of_ble_eq_true rfl) dX0_init_36 (fun H locs hP hD hS => ?_)
  have hP : va_P D vwCl [(o, .inr (0, [.ref q0, .int 0, .int 0, .int 0, .int 0, .int 0, .int 0, .ref q1, .ref q2, .ref q3, .null, .null, .null])), (q0, .inl (c0, 64, .inl (fun _ => 0))), (q1, .inl (c0, 600, .inl (fun _ => 0))), (q2, .inl (c0, 600, .inl (fun _ => 0))), (q3, .inl (c0, 600, .inl (fun _ => 0)))] H := hP
  have hD : va_D AA [(o, .inr (0, [.ref q0, .int 0, .int 0, .int 0, .int 0, .int 0, .int 0, .ref q1, .ref q2, .ref q3, .null, .null, .null])), (q0, .inl (c0, 64, .inl (fun _ => 0))), (q1, .inl (c0, 600, .inl (fun _ => 0))), (q2, .inl (c0, 600, .inl (fun _ => 0))), (q3, .inl (c0, 600, .inl (fun _ => 0)))] := hD
  refine lv_aload_n hx hb dX0_init_39 rfl (lv_at hl 0 rfl) ?_
  refine lv_sipush (v := 600) hx hb dX0_init_40 (by decide) ?_
  refine va_newa (atype := .int) (a0 := (600, .inl (fun _ => 0))) (N' := 600) (ty := .int) hx hb (hts (Cond.arrayClass .int) kX0_init_3) rfl hK hP hD hS hA (fun _ => rfl) (by decide) (by decide) (by decide) (Nat.le_of_ble_eq_true rfl) (Nat.le_of_ble_eq_true rfl) dX0_init_43 (fun q4 c4 H hK hP hD hS => ?_)
  refine W.widen (k := 5) (n := 2464) (Nat.le_of_ble_eq_true rfl) (Nat.le_of_ble_eq_true rfl) ?_
  have ec4 : c0 = c4 := Option.some.inj (((hK.2 0 _ rfl).2 : _ = _).symm.trans (hK.2 1 _ rfl).2)
  subst ec4
  have hK := hK.sub (tys' := [(c0, .int)]) [0] rfl
  have hK : va_K D vwCl [(c0, .int)] s := hK
  have hP : va_P D vwCl [(o, .inr (0, [.ref q0, .int 0, .int 0, .int 0, .int 0, .int 0, .int 0, .ref q1, .ref q2, .ref q3, .null, .null, .null])), (q0, .inl (c0, 64, .inl (fun _ => 0))), (q1, .inl (c0, 600, .inl (fun _ => 0))), (q2, .inl (c0, 600, .inl (fun _ => 0))), (q3, .inl (c0, 600, .inl (fun _ => 0))), (q4, .inl (c0, 600, .inl (fun _ => 0)))] H := hP
  have hD : va_D AA [(o, .inr (0, [.ref q0, .int 0, .int 0, .int 0, .int 0, .int 0, .int 0, .ref q1, .ref q2, .ref q3, .null, .null, .null])), (q0, .inl (c0, 64, .inl (fun _ => 0))), (q1, .inl (c0, 600, .inl (fun _ => 0))), (q2, .inl (c0, 600, .inl (fun _ => 0))), (q3, .inl (c0, 600, .inl (fun _ => 0))), (q4, .inl (c0, 600, .inl (fun _ => 0)))] := hD
  refine va_putF (D := D) (ci := 0) (v := .ref q4) (ty := (.array .int)) (C := RX0) (T := TX0) (N := 13) hx hb hts in_X0_init tyX0 tyX0_ok nmX0 hown hK hP hD hS 0 rfl rfl 10 (by decide) (hts _ kX0_init_8) (fun _ h9 => h9) rfl hin rfl (by decide +kernel) rfl rfl (Nat.le_of_ble_eq_true rfl) dX0_init_45 (fun H locs hP hD hS => ?_)
  have hP : va_P D vwCl [(o, .inr (0, [.ref q0, .int 0, .int 0, .int 0, .int 0, .int 0, .int 0, .ref q1, .ref q2, .ref q3, .ref q4, .null, .null])), (q0, .inl (c0, 64, .inl (fun _ => 0))), (q1, .inl (c0, 600, .inl (fun _ => 0))), (q2, .inl (c0, 600, .inl (fun _ => 0))), (q3, .inl (c0, 600, .inl (fun _ => 0))), (q4, .inl (c0, 600, .inl (fun _ => 0)))] H := hP
  have hD : va_D AA [(o, .inr (0, [.ref q0, .int 0, .int 0, .int 0, .int 0, .int 0, .int 0, .ref q1, .ref q2, .ref q3, .ref q4, .null, .null])), (q0, .inl (c0, 64, .inl (fun _ => 0))), (q1, .inl (c0, 600, .inl (fun _ => 0))), (q2, .inl (c0, 600, .inl (fun _ => 0))), (q3, .inl (c0, 600, .inl (fun _ => 0))), (q4, .inl (c0, 600, .inl (fun _ => 0)))] := hD
  refine lv_aload_n hx hb dX0_init_48 rfl (lv_at hl 0 rfl) ?_
  refine lv_sipush (v := 600) hx hb dX0_init_49 (by decide) ?_
  refine va_newa (atype := .int) (a0 := (600, .inl (fun _ => 0))) (N' := 600) (ty := .int) hx hb (hts (Cond.arrayClass .int) kX0_init_3) rfl hK hP hD hS hA (fun _ => rfl) (by decide) (by decide) (by decide) (Nat.le_of_ble_eq_true rfl) (Nat.le_of_ble_eq_true rfl) dX0_init_52 (fun q5 c5 H hK hP hD hS => ?_)
  refine W.widen (k := 6) (n := 3064) (Nat.le_of_ble_eq_true rfl) (Nat.le_of_ble_eq_true rfl) ?_
  have ec5 : c0 = c5 := Option.some.inj (((hK.2 0 _ rfl).2 : _ = _).symm.trans (hK.2 1 _ rfl).2)
  subst ec5
  have hK := hK.sub (tys' := [(c0, .int)]) [0] rfl
  have hK : va_K D vwCl [(c0, .int)] s := hK
  have hP : va_P D vwCl [(o, .inr (0, [.ref q0, .int 0, .int 0, .int 0, .int 0, .int 0, .int 0, .ref q1, .ref q2, .ref q3, .ref q4, .null, .null])), (q0, .inl (c0, 64, .inl (fun _ => 0))), (q1, .inl (c0, 600, .inl (fun _ => 0))), (q2, .inl (c0, 600, .inl (fun _ => 0))), (q3, .inl (c0, 600, .inl (fun _ => 0))), (q4, .inl (c0, 600, .inl (fun _ => 0))), (q5, .inl (c0, 600, .inl (fun _ => 0)))] H := hP
  have hD : va_D AA [(o, .inr (0, [.ref q0, .int 0, .int 0, .int 0, .int 0, .int 0, .int 0, .ref q1, .ref q2, .ref q3, .ref q4, .null, .null])), (q0, .inl (c0, 64, .inl (fun _ => 0))), (q1, .inl (c0, 600, .inl (fun _ => 0))), (q2, .inl (c0, 600, .inl (fun _ => 0))), (q3, .inl (c0, 600, .inl (fun _ => 0))), (q4, .inl (c0, 600, .inl (fun _ => 0))), (q5, .inl (c0, 600, .inl (fun _ => 0)))] := hD
  refine va_putF (D := D) (ci := 0) (v := .ref q5) (ty := (.array .int)) (C := RX0) (T := TX0) (N := 13) hx hb hts in_X0_init tyX0 tyX0_ok nmX0 hown hK hP hD hS 0 rfl rfl 11 (by decide) (hts _ kX0_init_9) (fun _ h9 => h9) rfl hin rfl (by decide +kernel) rfl rfl (Nat.le_of_ble_eq_true rfl) dX0_init_54 (fun H locs hP hD hS => ?_)
  have hP : va_P D vwCl [(o, .inr (0, [.ref q0, .int 0, .int 0, .int 0, .int 0, .int 0, .int 0, .ref q1, .ref q2, .ref q3, .ref q4, .ref q5, .null])), (q0, .inl (c0, 64, .inl (fun _ => 0))), (q1, .inl (c0, 600, .inl (fun _ => 0))), (q2, .inl (c0, 600, .inl (fun _ => 0))), (q3, .inl (c0, 600, .inl (fun _ => 0))), (q4, .inl (c0, 600, .inl (fun _ => 0))), (q5, .inl (c0, 600, .inl (fun _ => 0)))] H := hP
  have hD : va_D AA [(o, .inr (0, [.ref q0, .int 0, .int 0, .int 0, .int 0, .int 0, .int 0, .ref q1, .ref q2, .ref q3, .ref q4, .ref q5, .null])), (q0, .inl (c0, 64, .inl (fun _ => 0))), (q1, .inl (c0, 600, .inl (fun _ => 0))), (q2, .inl (c0, 600, .inl (fun _ => 0))), (q3, .inl (c0, 600, .inl (fun _ => 0))), (q4, .inl (c0, 600, .inl (fun _ => 0))), (q5, .inl (c0, 600, .inl (fun _ => 0)))] := hD
  refine lv_aload_n hx hb dX0_init_57 rfl (lv_at hl 0 rfl) ?_
  refine lv_sipush (v := 600) hx hb dX0_init_58 (by decide) ?_
  refine va_newa (atype := .int) (a0 := (600, .inl (fun _ => 0))) (N' := 600) (ty := .int) hx hb (hts (Cond.arrayClass .int) kX0_init_3) rfl hK hP hD hS hA (fun _ => rfl) (by decide) (by decide) (by decide) (Nat.le_of_ble_eq_true rfl) (Nat.le_of_ble_eq_true rfl) dX0_init_61 (fun q6 c6 H hK hP hD hS => ?_)
  refine W.widen (k := 7) (n := 3664) (Nat.le_of_ble_eq_true rfl) (Nat.le_of_ble_eq_true rfl) ?_
  have ec6 : c0 = c6 := Option.some.inj (((hK.2 0 _ rfl).2 : _ = _).symm.trans (hK.2 1 _ rfl).2)
  subst ec6
  have hK := hK.sub (tys' := [(c0, .int)]) [0] rfl
  have hK : va_K D vwCl [(c0, .int)] s := hK
  have hP : va_P D vwCl [(o, .inr (0, [.ref q0, .int 0, .int 0, .int 0, .int 0, .int 0, .int 0, .ref q1, .ref q2, .ref q3, .ref q4, .ref q5, .null])), (q0, .inl (c0, 64, .inl (fun _ => 0))), (q1, .inl (c0, 600, .inl (fun _ => 0))), (q2, .inl (c0, 600, .inl (fun _ => 0))), (q3, .inl (c0, 600, .inl (fun _ => 0))), (q4, .inl (c0, 600, .inl (fun _ => 0))), (q5, .inl (c0, 600, .inl (fun _ => 0))), (q6, .inl (c0, 600, .inl (fun _ => 0)))] H := hP
  have hD : va_D AA [(o, .inr (0, [.ref q0, .int 0, .int 0, .int 0, .int 0, .int 0, .int 0, .ref q1, .ref q2, .ref q3, .ref q4, .ref q5, .null])), (q0, .inl (c0, 64, .inl (fun _ => 0))), (q1, .inl (c0, 600, .inl (fun _ => 0))), (q2, .inl (c0, 600, .inl (fun _ => 0))), (q3, .inl (c0, 600, .inl (fun _ => 0))), (q4, .inl (c0, 600, .inl (fun _ => 0))), (q5, .inl (c0, 600, .inl (fun _ => 0))), (q6, .inl (c0, 600, .inl (fun _ => 0)))] := hD
  refine va_putF (D := D) (ci := 0) (v := .ref q6) (ty := (.array .int)) (C := RX0) (T := TX0) (N := 13) hx hb hts in_X0_init tyX0 tyX0_ok nmX0 hown hK hP hD hS 0 rfl rfl 12 (by decide) (hts _ kX0_init_10) (fun _ h9 => h9) rfl hin rfl (by decide +kernel) rfl rfl (Nat.le_of_ble_eq_true rfl) dX0_init_63 (fun H locs hP hD hS => ?_)
  have hP : va_P D vwCl [(o, .inr (0, [.ref q0, .int 0, .int 0, .int 0, .int 0, .int 0, .int 0, .ref q1, .ref q2, .ref q3, .ref q4, .ref q5, .ref q6])), (q0, .inl (c0, 64, .inl (fun _ => 0))), (q1, .inl (c0, 600, .inl (fun _ => 0))), (q2, .inl (c0, 600, .inl (fun _ => 0))), (q3, .inl (c0, 600, .inl (fun _ => 0))), (q4, .inl (c0, 600, .inl (fun _ => 0))), (q5, .inl (c0, 600, .inl (fun _ => 0))), (q6, .inl (c0, 600, .inl (fun _ => 0)))] H := hP
  have hD : va_D AA [(o, .inr (0, [.ref q0, .int 0, .int 0, .int 0, .int 0, .int 0, .int 0, .ref q1, .ref q2, .ref q3, .ref q4, .ref q5, .ref q6])), (q0, .inl (c0, 64, .inl (fun _ => 0))), (q1, .inl (c0, 600, .inl (fun _ => 0))), (q2, .inl (c0, 600, .inl (fun _ => 0))), (q3, .inl (c0, 600, .inl (fun _ => 0))), (q4, .inl (c0, 600, .inl (fun _ => 0))), (q5, .inl (c0, 600, .inl (fun _ => 0))), (q6, .inl (c0, 600, .inl (fun _ => 0)))] := hD
  refine lv_aload_n hx hb dX0_init_66 rfl (lv_at hl 0 rfl) ?_
  have hP : va_P D vwCl (wB c0 o (fun k => if k = 0 then q0 else (if k = 7 then q1 else (if k = 8 then q2 else (if k = 9 then q3 else (if k = 10 then q4 else (if k = 11 then q5 else (if k = 12 then q6 else 0))))))) (fun _ => 0) (fun _ _ => 0)) H := hP
  have hD : va_D AA (wB c0 o (fun k => if k = 0 then q0 else (if k = 7 then q1 else (if k = 8 then q2 else (if k = 9 then q3 else (if k = 10 then q4 else (if k = 11 then q5 else (if k = 12 then q6 else 0))))))) (fun _ => 0) (fun _ _ => 0)) := hD
  refine cVv ⟨hx, hb, hml, hown, hts⟩ (mX0_setAllAsAtFirst l D c0 o (fun k => if k = 0 then q0 else (if k = 7 then q1 else (if k = 8 then q2 else (if k = 9 then q3 else (if k = 10 then q4 else (if k = 11 then q5 else (if k = 12 then q6 else 0))))))) (fun _ => 0) (fun _ _ => 0) _ rfl) (cwV 0 hts gX0_init_X0_setAllAsAtFirst rfl rfl rfl nX0_setAllAsAtFirst ⟨Nat.le_of_ble_eq_true rfl, Nat.le_of_ble_eq_true rfl⟩) (va_recv hK hP (ci := 0) (q0 := 0) rfl rfl) rfl hl.1 rfl (Nat.le_of_ble_eq_true rfl) dX0_init_67 ⟨Nat.le_of_ble_eq_true rfl, Nat.le_of_ble_eq_true rfl⟩ hK hP hD hS hA (fun H locs hP hD hS => ?_)
  exact W.vret hx hb hr (fun t ht hW => ⟨⟨(c0, (fun k => if k = 0 then q0 else (if k = 7 then q1 else (if k = 8 then q2 else (if k = 9 then q3 else (if k = 10 then q4 else (if k = 11 then q5 else (if k = 12 then q6 else 0)))))))), rfl, trivial, by rw [ht]; exact hP, va_K.moved hW.alike hK, hD⟩, hS.F ht⟩) hS.2.2 dX0_init_70 hlk
abbrev rmX1_init : Room := { frames := 1, cells := 4, slots := 42064, locals := 20 }
theorem nX1_init : yX1_init.cls ≠ "java/lang/invoke/MethodHandle" ∧ yX1_init.cls ≠ "java/lang/invoke/VarHandle" ∧ (parseMethodDescriptor yX1_init.desc).map (fun d => d.parameters.length) = some 0 := by decide +kernel
theorem in_X1_init : ∀ w ∈ wsX10, w ∈ wsX1_init := fun w h => by
  unfold wsX1_init
  exact List.mem_cons_of_mem _ (List.mem_append_right _ h)
theorem kX1_init_0 : Cond.methodLink RX1 1 objectInit ∈ wsX1_init := by decide +kernel
theorem kX1_init_1 : Cond.instanceMethod objectInit ∈ wsX1_init := by decide +kernel
theorem kX1_init_2 : Cond.code objectInit ⟨#[0xb1]⟩ 1 none ∈ wsX1_init := by decide +kernel
theorem kX1_init_3 : Cond.arrayClass .int ∈ wsX1_init := by decide +kernel
theorem kX1_init_4 : Cond.fieldLink RX1 7 "BoardModel" "squares" "[I" ∈ wsX1_init := by decide +kernel
theorem kX1_init_5 : Cond.fieldLink RX1 13 "BoardModel" "passing" "I" ∈ wsX1_init := by decide +kernel
theorem kX1_init_6 : Cond.fieldLink RX1 17 "BoardModel" "full" "I" ∈ wsX1_init := by decide +kernel
theorem kX1_init_7 : Cond.fieldLink RX1 20 "BoardModel" "moves" "[I" ∈ wsX1_init := by decide +kernel
theorem kX1_init_8 : Cond.constant RX1 23 (38400) ∈ wsX1_init := by decide +kernel
theorem kX1_init_9 : Cond.arrayClass .byte ∈ wsX1_init := by decide +kernel
theorem kX1_init_10 : Cond.fieldLink RX1 24 "BoardModel" "kept" "[B" ∈ wsX1_init := by decide +kernel
theorem kX1_init_11 : Cond.fieldLink RX1 28 "BoardModel" "states" "[I" ∈ wsX1_init := by decide +kernel
abbrev w0X1 (o : Nat) : va_W := [(o, .inr (1, [.int 0, .null, .int 0, .int 0, .int 0, .int 0, .int 0, .int 0, .null, .null, .null]))]
def iF1 : Nat → Int32 := uf (uf (fun _ => 0) 4 (-1)) 6 1
def iA1 : Nat → Nat → Int32 := fun _ _ => 0
set_option maxHeartbeats 4000000 in
set_option maxRecDepth 100000 in
theorem mX1_init (l : Launch) (D : va_G) (o sz : Nat) : Met l yX1_init wsX1_init rmX1_init (cPre D [] (w0X1 o) [.ref o] sz) (va_Qv (fun (_ : ClassId × ClassId × (Nat → Nat)) => True) (fun u t => cEnd D [(u.1, .int), (u.2.1, .byte)] (wR u.1 u.2.1 o u.2.2 iF1 iA1) (va_A (w0X1 o) sz) t) (va_A (w0X1 o) sz)) 4 42064 (va_A (w0X1 o) sz) := by
  refine Met.ofW (cc := cX1_init) (maxL := 1) (ret := none) (by decide) rfl ?_
  intro p e s m args below meth c s₁ B hml hv
  obtain ⟨rfl, hsz, hP, hK, hD0⟩ := hv
  have hx := B.exec
  have hb := B.bytes
  have hr := B.returns
  have hts := atoms_spec (ws := wsX1_init) B.pre
  have hown : s.vm.findClass RX1 = some m.cls := findClass_of_methodNamed B.named
  have hlk := B.notSynchronized
  have hin : meth.name = "<init>" := (name_of_methodNamed B.named B.method).1
  subst hsz
  have hD := hD0.self (sz := s.heap.size)
  generalize hAe : va_A (w0X1 o) s.heap.size = AA at hD ⊢
  have hA : ∀ q : Nat, s.heap.size ≤ q → AA q := fun q h => by rw [← hAe]; exact Or.inr h
  have hS : va_S AA s.heap s.heap [] := va_S.rf
  have hl := lv_entry ([.ref o]) (n := 1) (Nat.le_of_ble_eq_true rfl)
  rw [lg_entry_eq]
  generalize (lg_sl ([.ref o]) ++ List.replicate (1 - (lg_sl ([.ref o])).length) Slot.unset).toArray = ls at hl ⊢
  have hl : lv_has ls 1 [(0, .ref o)] := hl
  refine lv_aload_n hx hb dX1_init_0 rfl (lv_at hl 0 rfl) ?_
  refine W.objInit hx hb hown (hts _ kX1_init_0) (hts _ kX1_init_1) (hts _ kX1_init_2) rfl (by rw [hml]; exact hl.1) rfl dX1_init_1 (Nat.le_of_ble_eq_true rfl) (Nat.le_of_ble_eq_true rfl) ?_
  refine W.eq (g2 := F0 m 4 ls []) rfl ?_
  refine lv_aload_n hx hb dX1_init_4 rfl (lv_at hl 0 rfl) ?_
  refine lv_bipush (v := 64) hx hb dX1_init_5 (by decide) ?_
  refine va_newa (atype := .int) (a0 := (64, .inl (fun _ => 0))) (N' := 64) (ty := .int) hx hb (hts (Cond.arrayClass .int) kX1_init_3) rfl hK hP hD hS hA (fun _ => rfl) (by decide) (by decide) (by decide) (Nat.le_of_ble_eq_true rfl) (Nat.le_of_ble_eq_true rfl) dX1_init_7 (fun q0 c0 H hK hP hD hS => ?_)
  refine W.widen (k := 1) (n := 64) (Nat.le_of_ble_eq_true rfl) (Nat.le_of_ble_eq_true rfl) ?_
  have hK : va_K D vwCl [(c0, .int)] s := hK
  have hP : va_P D vwCl [(o, .inr (1, [.int 0, .null, .int 0, .int 0, .int 0, .int 0, .int 0, .int 0, .null, .null, .null])), (q0, .inl (c0, 64, .inl (fun _ => 0)))] H := hP
  have hD : va_D AA [(o, .inr (1, [.int 0, .null, .int 0, .int 0, .int 0, .int 0, .int 0, .int 0, .null, .null, .null])), (q0, .inl (c0, 64, .inl (fun _ => 0)))] := hD
  refine va_putF (D := D) (ci := 1) (v := .ref q0) (ty := (.array .int)) (C := RX1) (T := TX1) (N := 11) hx hb hts in_X1_init tyX1 tyX1_ok nmX1 hown hK hP hD hS 0 rfl rfl 1 (by decide) (hts _ kX1_init_4) (fun _ h9 => h9) rfl hin rfl (by decide +kernel) rfl rfl (Nat.le_of_ble_eq_true rfl) dX1_init_9 (fun H locs hP hD hS => ?_)
  have hP : va_P D vwCl [(o, .inr (1, [.int 0, .ref q0, .int 0, .int 0, .int 0, .int 0, .int 0, .int 0, .null, .null, .null])), (q0, .inl (c0, 64, .inl (fun _ => 0)))] H := hP
  have hD : va_D AA [(o, .inr (1, [.int 0, .ref q0, .int 0, .int 0, .int 0, .int 0, .int 0, .int 0, .null, .null, .null])), (q0, .inl (c0, 64, .inl (fun _ => 0)))] := hD
  refine lv_aload_n hx hb dX1_init_12 rfl (lv_at hl 0 rfl) ?_
  refine lv_iconst (v := (-1)) hx hb dX1_init_13 (by decide) ?_
  refine va_put (D := D) (ci := 1) (v := .int (-1)) (ty := .int) (C := RX1) (T := TX1) (N := 11) hx hb hts in_X1_init tyX1 tyX1_ok nmX1 hown hK hP hD hS 0 rfl rfl 4 (by decide) (hts _ kX1_init_5) (fun _ h9 => h9) rfl (by decide +kernel) rfl rfl (Nat.le_of_ble_eq_true rfl) dX1_init_14 (fun H locs hP hD hS => ?_)
  have hP : va_P D vwCl [(o, .inr (1, [.int 0, .ref q0, .int 0, .int 0, .int (-1), .int 0, .int 0, .int 0, .null, .null, .null])), (q0, .inl (c0, 64, .inl (fun _ => 0)))] H := hP
  have hD : va_D AA [(o, .inr (1, [.int 0, .ref q0, .int 0, .int 0, .int (-1), .int 0, .int 0, .int 0, .null, .null, .null])), (q0, .inl (c0, 64, .inl (fun _ => 0)))] := hD
  refine lv_aload_n hx hb dX1_init_17 rfl (lv_at hl 0 rfl) ?_
  refine lv_iconst (v := 1) hx hb dX1_init_18 (by decide) ?_
  refine va_put (D := D) (ci := 1) (v := .int 1) (ty := .int) (C := RX1) (T := TX1) (N := 11) hx hb hts in_X1_init tyX1 tyX1_ok nmX1 hown hK hP hD hS 0 rfl rfl 6 (by decide) (hts _ kX1_init_6) (fun _ h9 => h9) rfl (by decide +kernel) rfl rfl (Nat.le_of_ble_eq_true rfl) dX1_init_19 (fun H locs hP hD hS => ?_)
  have hP : va_P D vwCl [(o, .inr (1, [.int 0, .ref q0, .int 0, .int 0, .int (-1), .int 0, .int 1, .int 0, .null, .null, .null])), (q0, .inl (c0, 64, .inl (fun _ => 0)))] H := hP
  have hD : va_D AA [(o, .inr (1, [.int 0, .ref q0, .int 0, .int 0, .int (-1), .int 0, .int 1, .int 0, .null, .null, .null])), (q0, .inl (c0, 64, .inl (fun _ => 0)))] := hD
  refine lv_aload_n hx hb dX1_init_22 rfl (lv_at hl 0 rfl) ?_
  refine lv_sipush (v := 600) hx hb dX1_init_23 (by decide) ?_
  refine va_newa (atype := .int) (a0 := (600, .inl (fun _ => 0))) (N' := 600) (ty := .int) hx hb (hts (Cond.arrayClass .int) kX1_init_3) rfl hK hP hD hS hA (fun _ => rfl) (by decide) (by decide) (by decide) (Nat.le_of_ble_eq_true rfl) (Nat.le_of_ble_eq_true rfl) dX1_init_26 (fun q1 c1 H hK hP hD hS => ?_)
  refine W.widen (k := 2) (n := 664) (Nat.le_of_ble_eq_true rfl) (Nat.le_of_ble_eq_true rfl) ?_
  have ec1 : c0 = c1 := Option.some.inj (((hK.2 0 _ rfl).2 : _ = _).symm.trans (hK.2 1 _ rfl).2)
  subst ec1
  have hK := hK.sub (tys' := [(c0, .int)]) [0] rfl
  have hK : va_K D vwCl [(c0, .int)] s := hK
  have hP : va_P D vwCl [(o, .inr (1, [.int 0, .ref q0, .int 0, .int 0, .int (-1), .int 0, .int 1, .int 0, .null, .null, .null])), (q0, .inl (c0, 64, .inl (fun _ => 0))), (q1, .inl (c0, 600, .inl (fun _ => 0)))] H := hP
  have hD : va_D AA [(o, .inr (1, [.int 0, .ref q0, .int 0, .int 0, .int (-1), .int 0, .int 1, .int 0, .null, .null, .null])), (q0, .inl (c0, 64, .inl (fun _ => 0))), (q1, .inl (c0, 600, .inl (fun _ => 0)))] := hD
  refine va_putF (D := D) (ci := 1) (v := .ref q1) (ty := (.array .int)) (C := RX1) (T := TX1) (N := 11) hx hb hts in_X1_init tyX1 tyX1_ok nmX1 hown hK hP hD hS 0 rfl rfl 8 (by decide) (hts _ kX1_init_7) (fun _ h9 => h9) rfl hin rfl (by decide +kernel) rfl rfl (Nat.le_of_ble_eq_true rfl) dX1_init_28 (fun H locs hP hD hS => ?_)
  have hP : va_P D vwCl [(o, .inr (1, [.int 0, .ref q0, .int 0, .int 0, .int (-1), .int 0, .int 1, .int 0, .ref q1, .null, .null])), (q0, .inl (c0, 64, .inl (fun _ => 0))), (q1, .inl (c0, 600, .inl (fun _ => 0)))] H := hP
  have hD : va_D AA [(o, .inr (1, [.int 0, .ref q0, .int 0, .int 0, .int (-1), .int 0, .int 1, .int 0, .ref q1, .null, .null])), (q0, .inl (c0, 64, .inl (fun _ => 0))), (q1, .inl (c0, 600, .inl (fun _ => 0)))] := hD
  refine lv_aload_n hx hb dX1_init_31 rfl (lv_at hl 0 rfl) ?_
  refine lv_ldc (v := 38400) hx hb hown (hts _ kX1_init_8) dX1_init_32 ?_
  refine va_newa (atype := .byte) (a0 := (38400, .inl (fun _ => 0))) (N' := 38400) (ty := .byte) hx hb (hts (Cond.arrayClass .byte) kX1_init_9) rfl hK hP hD hS hA (fun _ => rfl) (by decide) (by decide) (by decide) (Nat.le_of_ble_eq_true rfl) (Nat.le_of_ble_eq_true rfl) dX1_init_34 (fun q2 c2 H hK hP hD hS => ?_)
  refine W.widen (k := 3) (n := 39064) (Nat.le_of_ble_eq_true rfl) (Nat.le_of_ble_eq_true rfl) ?_
  have hK : va_K D vwCl [(c0, .int), (c2, .byte)] s := hK
  have hP : va_P D vwCl [(o, .inr (1, [.int 0, .ref q0, .int 0, .int 0, .int (-1), .int 0, .int 1, .int 0, .ref q1, .null, .null])), (q0, .inl (c0, 64, .inl (fun _ => 0))), (q1, .inl (c0, 600, .inl (fun _ => 0))), (q2, .inl (c2, 38400, .inl (fun _ => 0)))] H := hP
  have hD : va_D AA [(o, .inr (1, [.int 0, .ref q0, .int 0, .int 0, .int (-1), .int 0, .int 1, .int 0, .ref q1, .null, .null])), (q0, .inl (c0, 64, .inl (fun _ => 0))), (q1, .inl (c0, 600, .inl (fun _ => 0))), (q2, .inl (c2, 38400, .inl (fun _ => 0)))] := hD
  refine va_putF (D := D) (ci := 1) (v := .ref q2) (ty := (.array .byte)) (C := RX1) (T := TX1) (N := 11) hx hb hts in_X1_init tyX1 tyX1_ok nmX1 hown hK hP hD hS 0 rfl rfl 9 (by decide) (hts _ kX1_init_10) (fun _ h9 => h9) rfl hin rfl (by decide +kernel) rfl rfl (Nat.le_of_ble_eq_true rfl) dX1_init_36 (fun H locs hP hD hS => ?_)
  have hP : va_P D vwCl [(o, .inr (1, [.int 0, .ref q0, .int 0, .int 0, .int (-1), .int 0, .int 1, .int 0, .ref q1, .ref q2, .null])), (q0, .inl (c0, 64, .inl (fun _ => 0))), (q1, .inl (c0, 600, .inl (fun _ => 0))), (q2, .inl (c2, 38400, .inl (fun _ => 0)))] H := hP
  have hD : va_D AA [(o, .inr (1, [.int 0, .ref q0, .int 0, .int 0, .int (-1), .int 0, .int 1, .int 0, .ref q1, .ref q2, .null])), (q0, .inl (c0, 64, .inl (fun _ => 0))), (q1, .inl (c0, 600, .inl (fun _ => 0))), (q2, .inl (c2, 38400, .inl (fun _ => 0)))] := hD
  refine lv_aload_n hx hb dX1_init_39 rfl (lv_at hl 0 rfl) ?_
  refine lv_sipush (v := 3000) hx hb dX1_init_40 (by decide) ?_
  refine va_newa (atype := .int) (a0 := (3000, .inl (fun _ => 0))) (N' := 3000) (ty := .int) hx hb (hts (Cond.arrayClass .int) kX1_init_3) rfl hK hP hD hS hA (fun _ => rfl) (by decide) (by decide) (by decide) (Nat.le_of_ble_eq_true rfl) (Nat.le_of_ble_eq_true rfl) dX1_init_43 (fun q3 c3 H hK hP hD hS => ?_)
  refine W.widen (k := 4) (n := 42064) (Nat.le_of_ble_eq_true rfl) (Nat.le_of_ble_eq_true rfl) ?_
  have ec3 : c0 = c3 := Option.some.inj (((hK.2 0 _ rfl).2 : _ = _).symm.trans (hK.2 2 _ rfl).2)
  subst ec3
  have hK := hK.sub (tys' := [(c0, .int), (c2, .byte)]) [0, 1] rfl
  have hK : va_K D vwCl [(c0, .int), (c2, .byte)] s := hK
  have hP : va_P D vwCl [(o, .inr (1, [.int 0, .ref q0, .int 0, .int 0, .int (-1), .int 0, .int 1, .int 0, .ref q1, .ref q2, .null])), (q0, .inl (c0, 64, .inl (fun _ => 0))), (q1, .inl (c0, 600, .inl (fun _ => 0))), (q2, .inl (c2, 38400, .inl (fun _ => 0))), (q3, .inl (c0, 3000, .inl (fun _ => 0)))] H := hP
  have hD : va_D AA [(o, .inr (1, [.int 0, .ref q0, .int 0, .int 0, .int (-1), .int 0, .int 1, .int 0, .ref q1, .ref q2, .null])), (q0, .inl (c0, 64, .inl (fun _ => 0))), (q1, .inl (c0, 600, .inl (fun _ => 0))), (q2, .inl (c2, 38400, .inl (fun _ => 0))), (q3, .inl (c0, 3000, .inl (fun _ => 0)))] := hD
  refine va_putF (D := D) (ci := 1) (v := .ref q3) (ty := (.array .int)) (C := RX1) (T := TX1) (N := 11) hx hb hts in_X1_init tyX1 tyX1_ok nmX1 hown hK hP hD hS 0 rfl rfl 10 (by decide) (hts _ kX1_init_11) (fun _ h9 => h9) rfl hin rfl (by decide +kernel) rfl rfl (Nat.le_of_ble_eq_true rfl) dX1_init_45 (fun H locs hP hD hS => ?_)
  have hP : va_P D vwCl [(o, .inr (1, [.int 0, .ref q0, .int 0, .int 0, .int (-1), .int 0, .int 1, .int 0, .ref q1, .ref q2, .ref q3])), (q0, .inl (c0, 64, .inl (fun _ => 0))), (q1, .inl (c0, 600, .inl (fun _ => 0))), (q2, .inl (c2, 38400, .inl (fun _ => 0))), (q3, .inl (c0, 3000, .inl (fun _ => 0)))] H := hP
  have hD : va_D AA [(o, .inr (1, [.int 0, .ref q0, .int 0, .int 0, .int (-1), .int 0, .int 1, .int 0, .ref q1, .ref q2, .ref q3])), (q0, .inl (c0, 64, .inl (fun _ => 0))), (q1, .inl (c0, 600, .inl (fun _ => 0))), (q2, .inl (c2, 38400, .inl (fun _ => 0))), (q3, .inl (c0, 3000, .inl (fun _ => 0)))] := hD
  exact W.vret hx hb hr (fun t ht hW => ⟨⟨(c0, c2, (fun k => if k = 1 then q0 else (if k = 8 then q1 else (if k = 9 then q2 else (if k = 10 then q3 else 0))))), rfl, trivial, by rw [ht]; exact hP, va_K.moved hW.alike hK, hD⟩, hS.F ht⟩) hS.2.2 dX1_init_48 hlk
