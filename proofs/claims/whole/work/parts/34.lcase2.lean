set_option maxHeartbeats 4000000 in
set_option maxRecDepth 100000 in
theorem lc_at {p : Program} {l : Launch} {e : Env} {s : State} {m : MethodId} {below : List Frame} {meth : Method} {c : Code} {D : va_G} {cI cB cJ : ClassId} {o0 o1 ho b L i t : Nat} {h0 h1 : Nat → Nat} {xs : Nat → Int32} (hL : L ≤ 2048) (C0 : lw_At p s m meth c b L xs) (hst : l.stackTraces = false) (hE : xE (AL s) s s.heap) (hK : va_K D vwCl (LT cI cB cJ) s) (hi : i + 3 < L) (ht : t < 512) (Hp : pb_at) {B0 : Nat → Int32} {A0 : Nat → Nat → Int32} {F1 : Nat → Int32} {A1 : Nat → Nat → Int32} {fo : Nat → Int64} (hI : Inv B0 A0 F1 A1) (hnext : ∀ (B0 : Nat → Int32) (A0 : Nat → Nat → Int32) (F1 : Nat → Int32) (A1 : Nat → Nat → Int32) (fo : Nat → Int64) (H : Heap) (locs : List Loc) (ls : Array Slot), Inv B0 A0 F1 A1 → va_P D vwCl (LW cI cB cJ o0 h0 o1 h1 ho B0 A0 F1 A1 fo) H → va_D (AL s) (LW cI cB cJ o0 h0 o1 h1 ho B0 A0 F1 A1 fo) → va_S (AL s) s.heap H locs → lv_has ls 8 [(4, .int (nI i)), (0, .ref b), (1, .ref o0), (2, .ref o1), (3, .ref ho)] → W p l e room_1 s m #[Value.ref b] below meth c H locs (15 + t) (45759 + 6 * t) (lw_Z below #[Value.ref b] s) (F0 m 653 ls [])) {H : Heap} {locs : List Loc} {ls : Array Slot} (hP : va_P D vwCl (LW cI cB cJ o0 h0 o1 h1 ho B0 A0 F1 A1 fo) H) (hD : va_D (AL s) (LW cI cB cJ o0 h0 o1 h1 ho B0 A0 F1 A1 fo)) (hS : va_S (AL s) s.heap H locs) (hl : lv_has ls 8 [(4, .int (nI i)), (0, .ref b), (1, .ref o0), (2, .ref o1), (3, .ref ho)]) : W p l e room_1 s m #[Value.ref b] below meth c H locs (14 + t) (45753 + 6 * t) (lw_Z below #[Value.ref b] s) (F0 m 415 ls []) := by
  obtain ⟨hx, hb, hr, hml, hown, hts0, hX, hbl, hlk, hgv⟩ := C0
  have hown : s.vm.findClass RL = some m.cls := hown
  have hts : ∀ w ∈ wsL_law, w.before #[Value.ref b] s = true := fun w h => hts0 w (wsL_law_in w h)
  have hA : ∀ q : Nat, s.heap.size ≤ q → AL s q := fun _ h => h
  have hbA : ¬ AL s b := Nat.not_le.mpr hbl
  refine lv_aload_n hx hb dL_law_415 rfl (lv_at hl 2 rfl) ?_
  refine lv_aload_n hx hb dL_law_416 rfl (lv_at hl 1 rfl) ?_
  refine lv_iload hx hb dL_law_417 (lv_at hl 0 rfl) ?_
  refine lv_iconst (v := 1) hx hb dL_law_419 (by decide) ?_
  refine lv_iadd hx hb dL_law_420 ?_
  refine va_sld hx hb hX hbl hbA hS (in_sc (i := i) 1 (by omega) hL) dL_law_421 ?_
  refine lv_aload_n hx hb dL_law_422 rfl (lv_at hl 4 rfl) ?_
  have hz := mL_at l D cI cJ o0 h0 B0 A0 (xs (Int32.toNatClampNeg (nI i + 1))) ho fo (mX0_at l D hst cI o0 h0 B0 A0 (xs (Int32.toNatClampNeg (nI i + 1)))  _ rfl) (Hp B0 A0 F1 A1 (xs (Int32.toNatClampNeg (nI i + 1))) hI).1
  rw [wAfo2 (u := (qX0_at B0 A0 (xs (Int32.toNatClampNeg (nI i + 1)))).1)] at hz
  refine lHo (As := [.ref o0, .int (xs (Int32.toNatClampNeg (nI i + 1))), .ref ho]) (rest := []) ⟨hx, hb, hml, hown, hts⟩ hz (vx_cwSW 3 hts gL_law_L_at rfl rfl rfl nL_at ⟨Nat.le_of_ble_eq_true rfl, Nat.le_of_ble_eq_true rfl⟩) rfl hl.1 rfl (Nat.le_of_ble_eq_true rfl) dL_law_423 ⟨(show 14 + t + 1 ≤ 601024 by omega), (show 45753 + 6 * t + 6 ≤ 7293033 by omega)⟩ hK hP hD hS hA hE (fun H locs hP hD hS => ?_)
  refine lv_istore (lv' := [(5, .int (if (qX0_at B0 A0 (xs (Int32.toNatClampNeg (nI i + 1)))).1 = 0 then 0 else 1)), (4, .int (nI i)), (0, .ref b), (1, .ref o0), (2, .ref o1), (3, .ref ho)]) hx hb dL_law_426 hl (by decide) rfl (fun ls hl => ?_)
  refine lv_aload_n hx hb dL_law_428 rfl (lv_at hl 4 rfl) ?_
  refine lv_aload_n hx hb dL_law_429 rfl (lv_at hl 2 rfl) ?_
  refine lv_iload hx hb dL_law_430 (lv_at hl 1 rfl) ?_
  refine lv_iconst (v := 1) hx hb dL_law_432 (by decide) ?_
  refine lv_iadd hx hb dL_law_433 ?_
  refine va_sld hx hb hX hbl hbA hS (in_sc (i := i) 1 (by omega) hL) dL_law_434 ?_
  refine lRi (As := [.int (xs (Int32.toNatClampNeg (nI i + 1)))]) (rest := []) ⟨hx, hb, hml, hown, hts⟩ (mX1_at l D cI cB o1 h1 F1 A1 (xs (Int32.toNatClampNeg (nI i + 1)))  _ rfl) (cwV 1 hts gL_law_X1_at rfl rfl rfl nX1_at ⟨Nat.le_of_ble_eq_true rfl, Nat.le_of_ble_eq_true rfl⟩) rfl hl.1 rfl (Nat.le_of_ble_eq_true rfl) dL_law_435 ⟨(show 14 + t + 1 ≤ 601024 by omega), (show 45753 + 6 * t + 6 ≤ 7293033 by omega)⟩ hK hP hD hS hA (fun H locs hP hD hS => ?_)
  refine lv_istore (lv' := [(6, .int ((qX1_at F1 A1 (xs (Int32.toNatClampNeg (nI i + 1)))).1)), (5, .int (if (qX0_at B0 A0 (xs (Int32.toNatClampNeg (nI i + 1)))).1 = 0 then 0 else 1)), (4, .int (nI i)), (0, .ref b), (1, .ref o0), (2, .ref o1), (3, .ref ho)]) hx hb dL_law_438 hl (by decide) rfl (fun ls hl => ?_)
  refine lv_aload_n hx hb dL_law_440 rfl (lv_at hl 5 rfl) ?_
  refine lRi (As := []) (rest := []) ⟨hx, hb, hml, hown, hts⟩ (mX1_thrown l D cI cB o1 h1 ((qX1_at F1 A1 (xs (Int32.toNatClampNeg (nI i + 1)))).2.1) ((qX1_at F1 A1 (xs (Int32.toNatClampNeg (nI i + 1)))).2.2)   _ rfl) (cwV 0 hts gL_law_X1_thrown rfl rfl rfl nX1_thrown ⟨Nat.le_of_ble_eq_true rfl, Nat.le_of_ble_eq_true rfl⟩) rfl hl.1 rfl (Nat.le_of_ble_eq_true rfl) dL_law_441 ⟨(show 14 + t + 1 ≤ 601024 by omega), (show 45753 + 6 * t + 6 ≤ 7293033 by omega)⟩ hK hP hD hS hA (fun H locs hP hD hS => ?_)
  refine lv_iload hx hb dL_law_444 (lv_at hl 1 rfl) ?_
  refine lv_icmp_eq (tgt := 451) hx hb dL_law_446 (by decide) (fun c446 => ?_) (fun c446 => ?_)
  rotate_left
  · exact absurd (Hp B0 A0 F1 A1 (xs (Int32.toNatClampNeg (nI i + 1))) hI).2.1 c446
  refine lv_iload hx hb dL_law_451 (lv_at hl 1 rfl) ?_
  refine lv_if_ne (tgt := 468) hx hb dL_law_453 (by decide) (fun c453 => ?_) (fun c453 => ?_)
  · refine lv_goto (tgt := 653) hx hb dL_law_468 (by decide) ?_
    refine W.widen (k := 15 + t) (n := 45759 + 6 * t) (by omega) (by omega) ?_
    exact hnext B0 A0 ((qX1_at F1 A1 (xs (Int32.toNatClampNeg (nI i + 1)))).2.1) ((qX1_at F1 A1 (xs (Int32.toNatClampNeg (nI i + 1)))).2.2) (foB (qX0_at B0 A0 (xs (Int32.toNatClampNeg (nI i + 1)))).1 fo (Int32.toInt64 (qX0_at B0 A0 (xs (Int32.toNatClampNeg (nI i + 1)))).2)) _ _ ls (Hp B0 A0 F1 A1 (xs (Int32.toNatClampNeg (nI i + 1))) hI).2.2.2 hP hD hS (lv_sub hl [2, 3, 4, 5, 6] rfl)
  have hu0 : (qX0_at B0 A0 (xs (Int32.toNatClampNeg (nI i + 1)))).1 = 0 := un0 c453
  refine lv_aload_n hx hb dL_law_456 rfl (lv_at hl 6 rfl) ?_
  refine lv_iconst (v := 0) hx hb dL_law_457 (by decide) ?_
  refine va_lald (f := (foB (qX0_at B0 A0 (xs (Int32.toNatClampNeg (nI i + 1)))).1 fo (Int32.toInt64 (qX0_at B0 A0 (xs (Int32.toNatClampNeg (nI i + 1)))).2))) hx hb hK hP 0 2 rfl rfl (vp_in_nI (n := 0) (by decide) (by decide)) dL_law_458 ?_
  refine lv_iload hx hb dL_law_459 (lv_at hl 0 rfl) ?_
  refine lv_i2l hx hb dL_law_461 rfl ?_
  refine W.lcmp hx hb dL_law_462 ?_
  refine lv_if_eq (tgt := 468) hx hb dL_law_463 (by decide) (fun c463 => ?_) (fun c463 => ?_)
  rotate_left
  · exact absurd (lgc (by rw [foB, if_pos hu0]; exact (show vp_updL fo (Int32.toNatClampNeg 0) _ (Int32.toNatClampNeg 0) = _ from pk_uLs.trans (congrArg Int32.toInt64 ((Hp B0 A0 F1 A1 (xs (Int32.toNatClampNeg (nI i + 1))) hI).2.2.1 hu0))))) c463
  refine lv_goto (tgt := 653) hx hb dL_law_468 (by decide) ?_
  refine W.widen (k := 15 + t) (n := 45759 + 6 * t) (by omega) (by omega) ?_
  exact hnext B0 A0 ((qX1_at F1 A1 (xs (Int32.toNatClampNeg (nI i + 1)))).2.1) ((qX1_at F1 A1 (xs (Int32.toNatClampNeg (nI i + 1)))).2.2) (foB (qX0_at B0 A0 (xs (Int32.toNatClampNeg (nI i + 1)))).1 fo (Int32.toInt64 (qX0_at B0 A0 (xs (Int32.toNatClampNeg (nI i + 1)))).2)) _ _ ls (Hp B0 A0 F1 A1 (xs (Int32.toNatClampNeg (nI i + 1))) hI).2.2.2 hP hD hS (lv_sub hl [2, 3, 4, 5, 6] rfl)
set_option maxHeartbeats 4000000 in
set_option maxRecDepth 100000 in
theorem lc_where {p : Program} {l : Launch} {e : Env} {s : State} {m : MethodId} {below : List Frame} {meth : Method} {c : Code} {D : va_G} {cI cB cJ : ClassId} {o0 o1 ho b L i t : Nat} {h0 h1 : Nat → Nat} {xs : Nat → Int32} (hL : L ≤ 2048) (C0 : lw_At p s m meth c b L xs) (hst : l.stackTraces = false) (hE : xE (AL s) s s.heap) (hK : va_K D vwCl (LT cI cB cJ) s) (hi : i + 3 < L) (ht : t < 512) (Hp : pb_where) {B0 : Nat → Int32} {A0 : Nat → Nat → Int32} {F1 : Nat → Int32} {A1 : Nat → Nat → Int32} {fo : Nat → Int64} (hI : Inv B0 A0 F1 A1) (hnext : ∀ (B0 : Nat → Int32) (A0 : Nat → Nat → Int32) (F1 : Nat → Int32) (A1 : Nat → Nat → Int32) (fo : Nat → Int64) (H : Heap) (locs : List Loc) (ls : Array Slot), Inv B0 A0 F1 A1 → va_P D vwCl (LW cI cB cJ o0 h0 o1 h1 ho B0 A0 F1 A1 fo) H → va_D (AL s) (LW cI cB cJ o0 h0 o1 h1 ho B0 A0 F1 A1 fo) → va_S (AL s) s.heap H locs → lv_has ls 8 [(4, .int (nI i)), (0, .ref b), (1, .ref o0), (2, .ref o1), (3, .ref ho)] → W p l e room_1 s m #[Value.ref b] below meth c H locs (15 + t) (45759 + 6 * t) (lw_Z below #[Value.ref b] s) (F0 m 653 ls [])) {H : Heap} {locs : List Loc} {ls : Array Slot} (hP : va_P D vwCl (LW cI cB cJ o0 h0 o1 h1 ho B0 A0 F1 A1 fo) H) (hD : va_D (AL s) (LW cI cB cJ o0 h0 o1 h1 ho B0 A0 F1 A1 fo)) (hS : va_S (AL s) s.heap H locs) (hl : lv_has ls 8 [(4, .int (nI i)), (0, .ref b), (1, .ref o0), (2, .ref o1), (3, .ref ho)]) : W p l e room_1 s m #[Value.ref b] below meth c H locs (14 + t) (45753 + 6 * t) (lw_Z below #[Value.ref b] s) (F0 m 471 ls []) := by
  obtain ⟨hx, hb, hr, hml, hown, hts0, hX, hbl, hlk, hgv⟩ := C0
  have hown : s.vm.findClass RL = some m.cls := hown
  have hts : ∀ w ∈ wsL_law, w.before #[Value.ref b] s = true := fun w h => hts0 w (wsL_law_in w h)
  have hA : ∀ q : Nat, s.heap.size ≤ q → AL s q := fun _ h => h
  have hbA : ¬ AL s b := Nat.not_le.mpr hbl
  refine lv_aload_n hx hb dL_law_471 rfl (lv_at hl 2 rfl) ?_
  refine lv_aload_n hx hb dL_law_472 rfl (lv_at hl 1 rfl) ?_
  refine lv_iload hx hb dL_law_473 (lv_at hl 0 rfl) ?_
  refine lv_iconst (v := 1) hx hb dL_law_475 (by decide) ?_
  refine lv_iadd hx hb dL_law_476 ?_
  refine va_sld hx hb hX hbl hbA hS (in_sc (i := i) 1 (by omega) hL) dL_law_477 ?_
  refine lBl (As := [.int (xs (Int32.toNatClampNeg (nI i + 1)))]) (rest := []) ⟨hx, hb, hml, hown, hts⟩ (mX0_where l D cI o0 h0 B0 A0 (xs (Int32.toNatClampNeg (nI i + 1)))  _ rfl) (cwV 1 hts gL_law_X0_where rfl rfl rfl nX0_where ⟨Nat.le_of_ble_eq_true rfl, Nat.le_of_ble_eq_true rfl⟩) rfl hl.1 rfl (Nat.le_of_ble_eq_true rfl) dL_law_478 ⟨(show 14 + t ≤ 601024 by omega), (show 45753 + 6 * t ≤ 7293033 by omega)⟩ hK hP hD hS hA (fun H locs hP hD hS => ?_)
  refine lv_aload_n hx hb dL_law_481 rfl (lv_at hl 3 rfl) ?_
  refine lv_aload_n hx hb dL_law_482 rfl (lv_at hl 1 rfl) ?_
  refine lv_iload hx hb dL_law_483 (lv_at hl 0 rfl) ?_
  refine lv_iconst (v := 1) hx hb dL_law_485 (by decide) ?_
  refine lv_iadd hx hb dL_law_486 ?_
  refine va_sld hx hb hX hbl hbA hS (in_sc (i := i) 1 (by omega) hL) dL_law_487 ?_
  refine lRl (As := [.int (xs (Int32.toNatClampNeg (nI i + 1)))]) (rest := [.long (qX0_where B0 A0 (xs (Int32.toNatClampNeg (nI i + 1))))]) ⟨hx, hb, hml, hown, hts⟩ (mX1_where l D cI cB o1 h1 F1 A1 (xs (Int32.toNatClampNeg (nI i + 1)))  _ rfl) (cwV 1 hts gL_law_X1_where rfl rfl rfl nX1_where ⟨Nat.le_of_ble_eq_true rfl, Nat.le_of_ble_eq_true rfl⟩) rfl hl.1 rfl (Nat.le_of_ble_eq_true rfl) dL_law_488 ⟨(show 14 + t ≤ 601024 by omega), (show 45753 + 6 * t ≤ 7293033 by omega)⟩ hK hP hD hS hA (fun H locs hP hD hS => ?_)
  refine W.lcmp hx hb dL_law_491 ?_
  refine lv_if_eq (tgt := 653) hx hb dL_law_492 (by decide) (fun c492 => ?_) (fun c492 => ?_)
  rotate_left
  · exact absurd (lgc (Hp B0 A0 F1 A1 (xs (Int32.toNatClampNeg (nI i + 1))) hI).1) c492
  refine W.widen (k := 15 + t) (n := 45759 + 6 * t) (by omega) (by omega) ?_
  exact hnext B0 A0 ((qX1_where F1 A1 (xs (Int32.toNatClampNeg (nI i + 1)))).2.1) ((qX1_where F1 A1 (xs (Int32.toNatClampNeg (nI i + 1)))).2.2) fo _ _ ls (Hp B0 A0 F1 A1 (xs (Int32.toNatClampNeg (nI i + 1))) hI).2 hP hD hS (lv_sub hl [0, 1, 2, 3, 4] rfl)
set_option maxHeartbeats 4000000 in
set_option maxRecDepth 100000 in
theorem lc_attackers {p : Program} {l : Launch} {e : Env} {s : State} {m : MethodId} {below : List Frame} {meth : Method} {c : Code} {D : va_G} {cI cB cJ : ClassId} {o0 o1 ho b L i t : Nat} {h0 h1 : Nat → Nat} {xs : Nat → Int32} (hL : L ≤ 2048) (C0 : lw_At p s m meth c b L xs) (hst : l.stackTraces = false) (hE : xE (AL s) s s.heap) (hK : va_K D vwCl (LT cI cB cJ) s) (hi : i + 3 < L) (ht : t < 512) (Hp : pb_attackers) {B0 : Nat → Int32} {A0 : Nat → Nat → Int32} {F1 : Nat → Int32} {A1 : Nat → Nat → Int32} {fo : Nat → Int64} (hI : Inv B0 A0 F1 A1) (hnext : ∀ (B0 : Nat → Int32) (A0 : Nat → Nat → Int32) (F1 : Nat → Int32) (A1 : Nat → Nat → Int32) (fo : Nat → Int64) (H : Heap) (locs : List Loc) (ls : Array Slot), Inv B0 A0 F1 A1 → va_P D vwCl (LW cI cB cJ o0 h0 o1 h1 ho B0 A0 F1 A1 fo) H → va_D (AL s) (LW cI cB cJ o0 h0 o1 h1 ho B0 A0 F1 A1 fo) → va_S (AL s) s.heap H locs → lv_has ls 8 [(4, .int (nI i)), (0, .ref b), (1, .ref o0), (2, .ref o1), (3, .ref ho)] → W p l e room_1 s m #[Value.ref b] below meth c H locs (15 + t) (45759 + 6 * t) (lw_Z below #[Value.ref b] s) (F0 m 653 ls [])) {H : Heap} {locs : List Loc} {ls : Array Slot} (hP : va_P D vwCl (LW cI cB cJ o0 h0 o1 h1 ho B0 A0 F1 A1 fo) H) (hD : va_D (AL s) (LW cI cB cJ o0 h0 o1 h1 ho B0 A0 F1 A1 fo)) (hS : va_S (AL s) s.heap H locs) (hl : lv_has ls 8 [(4, .int (nI i)), (0, .ref b), (1, .ref o0), (2, .ref o1), (3, .ref ho)]) : W p l e room_1 s m #[Value.ref b] below meth c H locs (14 + t) (45753 + 6 * t) (lw_Z below #[Value.ref b] s) (F0 m 497 ls []) := by
  obtain ⟨hx, hb, hr, hml, hown, hts0, hX, hbl, hlk, hgv⟩ := C0
  have hown : s.vm.findClass RL = some m.cls := hown
  have hts : ∀ w ∈ wsL_law, w.before #[Value.ref b] s = true := fun w h => hts0 w (wsL_law_in w h)
  have hA : ∀ q : Nat, s.heap.size ≤ q → AL s q := fun _ h => h
  have hbA : ¬ AL s b := Nat.not_le.mpr hbl
  refine lv_aload_n hx hb dL_law_497 rfl (lv_at hl 2 rfl) ?_
  refine lv_aload_n hx hb dL_law_498 rfl (lv_at hl 1 rfl) ?_
  refine lv_iload hx hb dL_law_499 (lv_at hl 0 rfl) ?_
  refine lv_iconst (v := 1) hx hb dL_law_501 (by decide) ?_
  refine lv_iadd hx hb dL_law_502 ?_
  refine va_sld hx hb hX hbl hbA hS (in_sc (i := i) 1 (by omega) hL) dL_law_503 ?_
  refine lv_aload_n hx hb dL_law_504 rfl (lv_at hl 1 rfl) ?_
  refine lv_iload hx hb dL_law_505 (lv_at hl 0 rfl) ?_
  refine lv_iconst (v := 2) hx hb dL_law_507 (by decide) ?_
  refine lv_iadd hx hb dL_law_508 ?_
  refine va_sld hx hb hX hbl hbA hS (in_sc (i := i) 2 (by omega) hL) dL_law_509 ?_
  refine lv_aload_n hx hb dL_law_510 rfl (lv_at hl 4 rfl) ?_
  have hz := mL_attackers l D cI cJ o0 h0 B0 A0 (xs (Int32.toNatClampNeg (nI i + 1))) (xs (Int32.toNatClampNeg (nI i + 2))) ho fo (mX0_attackers l D hst cI o0 h0 B0 A0 (xs (Int32.toNatClampNeg (nI i + 1))) (xs (Int32.toNatClampNeg (nI i + 2)))  _ rfl) (Hp B0 A0 F1 A1 (xs (Int32.toNatClampNeg (nI i + 1))) (xs (Int32.toNatClampNeg (nI i + 2))) hI).1
  rw [wAfo2 (u := (qX0_attackers B0 A0 (xs (Int32.toNatClampNeg (nI i + 1))) (xs (Int32.toNatClampNeg (nI i + 2)))).1)] at hz
  refine lHo (As := [.ref o0, .int (xs (Int32.toNatClampNeg (nI i + 1))), .int (xs (Int32.toNatClampNeg (nI i + 2))), .ref ho]) (rest := []) ⟨hx, hb, hml, hown, hts⟩ hz (vx_cwSW 4 hts gL_law_L_attackers rfl rfl rfl nL_attackers ⟨Nat.le_of_ble_eq_true rfl, Nat.le_of_ble_eq_true rfl⟩) rfl hl.1 rfl (Nat.le_of_ble_eq_true rfl) dL_law_511 ⟨(show 14 + t + 1 ≤ 601024 by omega), (show 45753 + 6 * t + 6 ≤ 7293033 by omega)⟩ hK hP hD hS hA hE (fun H locs hP hD hS => ?_)
  refine lv_istore (lv' := [(5, .int (if (qX0_attackers B0 A0 (xs (Int32.toNatClampNeg (nI i + 1))) (xs (Int32.toNatClampNeg (nI i + 2)))).1 = 0 then 0 else (if (qX0_attackers B0 A0 (xs (Int32.toNatClampNeg (nI i + 1))) (xs (Int32.toNatClampNeg (nI i + 2)))).1 = 1 then 1 else 2))), (4, .int (nI i)), (0, .ref b), (1, .ref o0), (2, .ref o1), (3, .ref ho)]) hx hb dL_law_514 hl (by decide) rfl (fun ls hl => ?_)
  refine lv_aload_n hx hb dL_law_516 rfl (lv_at hl 4 rfl) ?_
  refine lv_aload_n hx hb dL_law_517 rfl (lv_at hl 2 rfl) ?_
  refine lv_iload hx hb dL_law_518 (lv_at hl 1 rfl) ?_
  refine lv_iconst (v := 1) hx hb dL_law_520 (by decide) ?_
  refine lv_iadd hx hb dL_law_521 ?_
  refine va_sld hx hb hX hbl hbA hS (in_sc (i := i) 1 (by omega) hL) dL_law_522 ?_
  refine lv_aload_n hx hb dL_law_523 rfl (lv_at hl 2 rfl) ?_
  refine lv_iload hx hb dL_law_524 (lv_at hl 1 rfl) ?_
  refine lv_iconst (v := 2) hx hb dL_law_526 (by decide) ?_
  refine lv_iadd hx hb dL_law_527 ?_
  refine va_sld hx hb hX hbl hbA hS (in_sc (i := i) 2 (by omega) hL) dL_law_528 ?_
  refine lRl (As := [.int (xs (Int32.toNatClampNeg (nI i + 1))), .int (xs (Int32.toNatClampNeg (nI i + 2)))]) (rest := []) ⟨hx, hb, hml, hown, hts⟩ (mX1_attackers l D cI cB o1 h1 F1 A1 (xs (Int32.toNatClampNeg (nI i + 1))) (xs (Int32.toNatClampNeg (nI i + 2)))  _ rfl) (cwV 2 hts gL_law_X1_attackers rfl rfl rfl nX1_attackers ⟨Nat.le_of_ble_eq_true rfl, Nat.le_of_ble_eq_true rfl⟩) rfl hl.1 rfl (Nat.le_of_ble_eq_true rfl) dL_law_529 ⟨(show 14 + t + 1 ≤ 601024 by omega), (show 45753 + 6 * t + 6 ≤ 7293033 by omega)⟩ hK hP hD hS hA (fun H locs hP hD hS => ?_)
  refine lv_lstore (lv' := [(6, .long ((qX1_attackers F1 A1 (xs (Int32.toNatClampNeg (nI i + 1))) (xs (Int32.toNatClampNeg (nI i + 2)))).1)), (5, .int (if (qX0_attackers B0 A0 (xs (Int32.toNatClampNeg (nI i + 1))) (xs (Int32.toNatClampNeg (nI i + 2)))).1 = 0 then 0 else (if (qX0_attackers B0 A0 (xs (Int32.toNatClampNeg (nI i + 1))) (xs (Int32.toNatClampNeg (nI i + 2)))).1 = 1 then 1 else 2))), (4, .int (nI i)), (0, .ref b), (1, .ref o0), (2, .ref o1), (3, .ref ho)]) hx hb dL_law_532 hl (by decide) rfl (fun ls hl => ?_)
  refine lv_aload_n hx hb dL_law_534 rfl (lv_at hl 5 rfl) ?_
  refine lRi (As := []) (rest := []) ⟨hx, hb, hml, hown, hts⟩ (mX1_thrown l D cI cB o1 h1 ((qX1_attackers F1 A1 (xs (Int32.toNatClampNeg (nI i + 1))) (xs (Int32.toNatClampNeg (nI i + 2)))).2.1) ((qX1_attackers F1 A1 (xs (Int32.toNatClampNeg (nI i + 1))) (xs (Int32.toNatClampNeg (nI i + 2)))).2.2)   _ rfl) (cwV 0 hts gL_law_X1_thrown rfl rfl rfl nX1_thrown ⟨Nat.le_of_ble_eq_true rfl, Nat.le_of_ble_eq_true rfl⟩) rfl hl.1 rfl (Nat.le_of_ble_eq_true rfl) dL_law_535 ⟨(show 14 + t + 1 ≤ 601024 by omega), (show 45753 + 6 * t + 6 ≤ 7293033 by omega)⟩ hK hP hD hS hA (fun H locs hP hD hS => ?_)
  refine lv_iload hx hb dL_law_538 (lv_at hl 1 rfl) ?_
  refine lv_icmp_eq (tgt := 545) hx hb dL_law_540 (by decide) (fun c540 => ?_) (fun c540 => ?_)
  rotate_left
  · exact absurd (Hp B0 A0 F1 A1 (xs (Int32.toNatClampNeg (nI i + 1))) (xs (Int32.toNatClampNeg (nI i + 2))) hI).2.1 c540
  refine lv_iload hx hb dL_law_545 (lv_at hl 1 rfl) ?_
  refine lv_if_ne (tgt := 561) hx hb dL_law_547 (by decide) (fun c547 => ?_) (fun c547 => ?_)
  · refine lv_goto (tgt := 653) hx hb dL_law_561 (by decide) ?_
    refine W.widen (k := 15 + t) (n := 45759 + 6 * t) (by omega) (by omega) ?_
    exact hnext B0 A0 ((qX1_attackers F1 A1 (xs (Int32.toNatClampNeg (nI i + 1))) (xs (Int32.toNatClampNeg (nI i + 2)))).2.1) ((qX1_attackers F1 A1 (xs (Int32.toNatClampNeg (nI i + 1))) (xs (Int32.toNatClampNeg (nI i + 2)))).2.2) (foB (qX0_attackers B0 A0 (xs (Int32.toNatClampNeg (nI i + 1))) (xs (Int32.toNatClampNeg (nI i + 2)))).1 fo (qX0_attackers B0 A0 (xs (Int32.toNatClampNeg (nI i + 1))) (xs (Int32.toNatClampNeg (nI i + 2)))).2) _ _ ls (Hp B0 A0 F1 A1 (xs (Int32.toNatClampNeg (nI i + 1))) (xs (Int32.toNatClampNeg (nI i + 2))) hI).2.2.2 hP hD hS (lv_sub hl [2, 3, 4, 5, 6] rfl)
  have hu0 : (qX0_attackers B0 A0 (xs (Int32.toNatClampNeg (nI i + 1))) (xs (Int32.toNatClampNeg (nI i + 2)))).1 = 0 := un0 c547
  refine lv_aload_n hx hb dL_law_550 rfl (lv_at hl 6 rfl) ?_
  refine lv_iconst (v := 0) hx hb dL_law_551 (by decide) ?_
  refine va_lald (f := (foB (qX0_attackers B0 A0 (xs (Int32.toNatClampNeg (nI i + 1))) (xs (Int32.toNatClampNeg (nI i + 2)))).1 fo (qX0_attackers B0 A0 (xs (Int32.toNatClampNeg (nI i + 1))) (xs (Int32.toNatClampNeg (nI i + 2)))).2)) hx hb hK hP 0 2 rfl rfl (vp_in_nI (n := 0) (by decide) (by decide)) dL_law_552 ?_
  refine lv_lload hx hb dL_law_553 (lv_at hl 0 rfl) ?_
  refine W.lcmp hx hb dL_law_555 ?_
  refine lv_if_eq (tgt := 561) hx hb dL_law_556 (by decide) (fun c556 => ?_) (fun c556 => ?_)
  rotate_left
  · exact absurd (lgc (by rw [foB, if_pos hu0]; exact (show vp_updL fo (Int32.toNatClampNeg 0) _ (Int32.toNatClampNeg 0) = _ from pk_uLs.trans ((Hp B0 A0 F1 A1 (xs (Int32.toNatClampNeg (nI i + 1))) (xs (Int32.toNatClampNeg (nI i + 2))) hI).2.2.1 hu0)))) c556
  refine lv_goto (tgt := 653) hx hb dL_law_561 (by decide) ?_
  refine W.widen (k := 15 + t) (n := 45759 + 6 * t) (by omega) (by omega) ?_
  exact hnext B0 A0 ((qX1_attackers F1 A1 (xs (Int32.toNatClampNeg (nI i + 1))) (xs (Int32.toNatClampNeg (nI i + 2)))).2.1) ((qX1_attackers F1 A1 (xs (Int32.toNatClampNeg (nI i + 1))) (xs (Int32.toNatClampNeg (nI i + 2)))).2.2) (foB (qX0_attackers B0 A0 (xs (Int32.toNatClampNeg (nI i + 1))) (xs (Int32.toNatClampNeg (nI i + 2)))).1 fo (qX0_attackers B0 A0 (xs (Int32.toNatClampNeg (nI i + 1))) (xs (Int32.toNatClampNeg (nI i + 2)))).2) _ _ ls (Hp B0 A0 F1 A1 (xs (Int32.toNatClampNeg (nI i + 1))) (xs (Int32.toNatClampNeg (nI i + 2))) hI).2.2.2 hP hD hS (lv_sub hl [2, 3, 4, 5, 6] rfl)
set_option maxHeartbeats 4000000 in
set_option maxRecDepth 100000 in
theorem lc_check {p : Program} {l : Launch} {e : Env} {s : State} {m : MethodId} {below : List Frame} {meth : Method} {c : Code} {D : va_G} {cI cB cJ : ClassId} {o0 o1 ho b L i t : Nat} {h0 h1 : Nat → Nat} {xs : Nat → Int32} (hL : L ≤ 2048) (C0 : lw_At p s m meth c b L xs) (hst : l.stackTraces = false) (hE : xE (AL s) s s.heap) (hK : va_K D vwCl (LT cI cB cJ) s) (hi : i + 3 < L) (ht : t < 512) (Hp : pb_check) {B0 : Nat → Int32} {A0 : Nat → Nat → Int32} {F1 : Nat → Int32} {A1 : Nat → Nat → Int32} {fo : Nat → Int64} (hI : Inv B0 A0 F1 A1) (hnext : ∀ (B0 : Nat → Int32) (A0 : Nat → Nat → Int32) (F1 : Nat → Int32) (A1 : Nat → Nat → Int32) (fo : Nat → Int64) (H : Heap) (locs : List Loc) (ls : Array Slot), Inv B0 A0 F1 A1 → va_P D vwCl (LW cI cB cJ o0 h0 o1 h1 ho B0 A0 F1 A1 fo) H → va_D (AL s) (LW cI cB cJ o0 h0 o1 h1 ho B0 A0 F1 A1 fo) → va_S (AL s) s.heap H locs → lv_has ls 8 [(4, .int (nI i)), (0, .ref b), (1, .ref o0), (2, .ref o1), (3, .ref ho)] → W p l e room_1 s m #[Value.ref b] below meth c H locs (15 + t) (45759 + 6 * t) (lw_Z below #[Value.ref b] s) (F0 m 653 ls [])) {H : Heap} {locs : List Loc} {ls : Array Slot} (hP : va_P D vwCl (LW cI cB cJ o0 h0 o1 h1 ho B0 A0 F1 A1 fo) H) (hD : va_D (AL s) (LW cI cB cJ o0 h0 o1 h1 ho B0 A0 F1 A1 fo)) (hS : va_S (AL s) s.heap H locs) (hl : lv_has ls 8 [(4, .int (nI i)), (0, .ref b), (1, .ref o0), (2, .ref o1), (3, .ref ho)]) : W p l e room_1 s m #[Value.ref b] below meth c H locs (14 + t) (45753 + 6 * t) (lw_Z below #[Value.ref b] s) (F0 m 564 ls []) := by
  obtain ⟨hx, hb, hr, hml, hown, hts0, hX, hbl, hlk, hgv⟩ := C0
  have hown : s.vm.findClass RL = some m.cls := hown
  have hts : ∀ w ∈ wsL_law, w.before #[Value.ref b] s = true := fun w h => hts0 w (wsL_law_in w h)
  have hA : ∀ q : Nat, s.heap.size ≤ q → AL s q := fun _ h => h
  have hbA : ¬ AL s b := Nat.not_le.mpr hbl
  refine lv_aload_n hx hb dL_law_564 rfl (lv_at hl 2 rfl) ?_
  refine lv_aload_n hx hb dL_law_565 rfl (lv_at hl 1 rfl) ?_
  refine lv_iload hx hb dL_law_566 (lv_at hl 0 rfl) ?_
  refine lv_iconst (v := 1) hx hb dL_law_568 (by decide) ?_
  refine lv_iadd hx hb dL_law_569 ?_
  refine va_sld hx hb hX hbl hbA hS (in_sc (i := i) 1 (by omega) hL) dL_law_570 ?_
  refine lBi (As := [.int (xs (Int32.toNatClampNeg (nI i + 1)))]) (rest := []) ⟨hx, hb, hml, hown, hts⟩ (mX0_check l D cI o0 h0 B0 A0 (xs (Int32.toNatClampNeg (nI i + 1)))  _ rfl) (cwV 1 hts gL_law_X0_check rfl rfl rfl nX0_check ⟨Nat.le_of_ble_eq_true rfl, Nat.le_of_ble_eq_true rfl⟩) rfl hl.1 rfl (Nat.le_of_ble_eq_true rfl) dL_law_571 ⟨(show 14 + t ≤ 601024 by omega), (show 45753 + 6 * t ≤ 7293033 by omega)⟩ hK hP hD hS hA (fun H locs hP hD hS => ?_)
  refine lv_aload_n hx hb dL_law_574 rfl (lv_at hl 3 rfl) ?_
  refine lv_aload_n hx hb dL_law_575 rfl (lv_at hl 1 rfl) ?_
  refine lv_iload hx hb dL_law_576 (lv_at hl 0 rfl) ?_
  refine lv_iconst (v := 1) hx hb dL_law_578 (by decide) ?_
  refine lv_iadd hx hb dL_law_579 ?_
  refine va_sld hx hb hX hbl hbA hS (in_sc (i := i) 1 (by omega) hL) dL_law_580 ?_
  refine lRi (As := [.int (xs (Int32.toNatClampNeg (nI i + 1)))]) (rest := [.int (qX0_check B0 A0 (xs (Int32.toNatClampNeg (nI i + 1))))]) ⟨hx, hb, hml, hown, hts⟩ (mX1_check l D cI cB o1 h1 F1 A1 (xs (Int32.toNatClampNeg (nI i + 1)))  _ rfl) (cwV 1 hts gL_law_X1_check rfl rfl rfl nX1_check ⟨Nat.le_of_ble_eq_true rfl, Nat.le_of_ble_eq_true rfl⟩) rfl hl.1 rfl (Nat.le_of_ble_eq_true rfl) dL_law_581 ⟨(show 14 + t ≤ 601024 by omega), (show 45753 + 6 * t ≤ 7293033 by omega)⟩ hK hP hD hS hA (fun H locs hP hD hS => ?_)
  refine lv_icmp_eq (tgt := 653) hx hb dL_law_584 (by decide) (fun c584 => ?_) (fun c584 => ?_)
  rotate_left
  · exact absurd (Hp B0 A0 F1 A1 (xs (Int32.toNatClampNeg (nI i + 1))) hI).1 c584
  refine W.widen (k := 15 + t) (n := 45759 + 6 * t) (by omega) (by omega) ?_
  exact hnext B0 A0 ((qX1_check F1 A1 (xs (Int32.toNatClampNeg (nI i + 1)))).2.1) ((qX1_check F1 A1 (xs (Int32.toNatClampNeg (nI i + 1)))).2.2) fo _ _ ls (Hp B0 A0 F1 A1 (xs (Int32.toNatClampNeg (nI i + 1))) hI).2 hP hD hS (lv_sub hl [0, 1, 2, 3, 4] rfl)
set_option maxHeartbeats 4000000 in
set_option maxRecDepth 100000 in
theorem lc_key {p : Program} {l : Launch} {e : Env} {s : State} {m : MethodId} {below : List Frame} {meth : Method} {c : Code} {D : va_G} {cI cB cJ : ClassId} {o0 o1 ho b L i t : Nat} {h0 h1 : Nat → Nat} {xs : Nat → Int32} (hL : L ≤ 2048) (C0 : lw_At p s m meth c b L xs) (hst : l.stackTraces = false) (hE : xE (AL s) s s.heap) (hK : va_K D vwCl (LT cI cB cJ) s) (hi : i + 3 < L) (ht : t < 512) (Hp : pb_key) {B0 : Nat → Int32} {A0 : Nat → Nat → Int32} {F1 : Nat → Int32} {A1 : Nat → Nat → Int32} {fo : Nat → Int64} (hI : Inv B0 A0 F1 A1) (hnext : ∀ (B0 : Nat → Int32) (A0 : Nat → Nat → Int32) (F1 : Nat → Int32) (A1 : Nat → Nat → Int32) (fo : Nat → Int64) (H : Heap) (locs : List Loc) (ls : Array Slot), Inv B0 A0 F1 A1 → va_P D vwCl (LW cI cB cJ o0 h0 o1 h1 ho B0 A0 F1 A1 fo) H → va_D (AL s) (LW cI cB cJ o0 h0 o1 h1 ho B0 A0 F1 A1 fo) → va_S (AL s) s.heap H locs → lv_has ls 8 [(4, .int (nI i)), (0, .ref b), (1, .ref o0), (2, .ref o1), (3, .ref ho)] → W p l e room_1 s m #[Value.ref b] below meth c H locs (15 + t) (45759 + 6 * t) (lw_Z below #[Value.ref b] s) (F0 m 653 ls [])) {H : Heap} {locs : List Loc} {ls : Array Slot} (hP : va_P D vwCl (LW cI cB cJ o0 h0 o1 h1 ho B0 A0 F1 A1 fo) H) (hD : va_D (AL s) (LW cI cB cJ o0 h0 o1 h1 ho B0 A0 F1 A1 fo)) (hS : va_S (AL s) s.heap H locs) (hl : lv_has ls 8 [(4, .int (nI i)), (0, .ref b), (1, .ref o0), (2, .ref o1), (3, .ref ho)]) : W p l e room_1 s m #[Value.ref b] below meth c H locs (14 + t) (45753 + 6 * t) (lw_Z below #[Value.ref b] s) (F0 m 589 ls []) := by
  obtain ⟨hx, hb, hr, hml, hown, hts0, hX, hbl, hlk, hgv⟩ := C0
  have hown : s.vm.findClass RL = some m.cls := hown
  have hts : ∀ w ∈ wsL_law, w.before #[Value.ref b] s = true := fun w h => hts0 w (wsL_law_in w h)
  have hA : ∀ q : Nat, s.heap.size ≤ q → AL s q := fun _ h => h
  have hbA : ¬ AL s b := Nat.not_le.mpr hbl
  refine lv_aload_n hx hb dL_law_589 rfl (lv_at hl 2 rfl) ?_
  refine lBl (As := []) (rest := []) ⟨hx, hb, hml, hown, hts⟩ (mX0_key l D cI o0 h0 B0 A0   _ rfl) (cwV 0 hts gL_law_X0_key rfl rfl rfl nX0_key ⟨Nat.le_of_ble_eq_true rfl, Nat.le_of_ble_eq_true rfl⟩) rfl hl.1 rfl (Nat.le_of_ble_eq_true rfl) dL_law_590 ⟨(show 14 + t ≤ 601024 by omega), (show 45753 + 6 * t ≤ 7293033 by omega)⟩ hK hP hD hS hA (fun H locs hP hD hS => ?_)
  refine lv_aload_n hx hb dL_law_593 rfl (lv_at hl 3 rfl) ?_
  refine lRl (As := []) (rest := [.long (qX0_key B0 A0)]) ⟨hx, hb, hml, hown, hts⟩ (mX1_key l D cI cB o1 h1 F1 A1   _ rfl) (cwV 0 hts gL_law_X1_key rfl rfl rfl nX1_key ⟨Nat.le_of_ble_eq_true rfl, Nat.le_of_ble_eq_true rfl⟩) rfl hl.1 rfl (Nat.le_of_ble_eq_true rfl) dL_law_594 ⟨(show 14 + t ≤ 601024 by omega), (show 45753 + 6 * t ≤ 7293033 by omega)⟩ hK hP hD hS hA (fun H locs hP hD hS => ?_)
  refine W.lcmp hx hb dL_law_597 ?_
  refine lv_if_eq (tgt := 653) hx hb dL_law_598 (by decide) (fun c598 => ?_) (fun c598 => ?_)
  rotate_left
  · exact absurd (lgc (Hp B0 A0 F1 A1 hI).1) c598
  refine W.widen (k := 15 + t) (n := 45759 + 6 * t) (by omega) (by omega) ?_
  exact hnext B0 A0 ((qX1_key F1 A1).2.1) ((qX1_key F1 A1).2.2) fo _ _ ls (Hp B0 A0 F1 A1 hI).2 hP hD hS (lv_sub hl [0, 1, 2, 3, 4] rfl)
set_option maxHeartbeats 4000000 in
set_option maxRecDepth 100000 in
theorem lc_move {p : Program} {l : Launch} {e : Env} {s : State} {m : MethodId} {below : List Frame} {meth : Method} {c : Code} {D : va_G} {cI cB cJ : ClassId} {o0 o1 ho b L i t : Nat} {h0 h1 : Nat → Nat} {xs : Nat → Int32} (hL : L ≤ 2048) (C0 : lw_At p s m meth c b L xs) (hst : l.stackTraces = false) (hE : xE (AL s) s s.heap) (hK : va_K D vwCl (LT cI cB cJ) s) (hi : i + 3 < L) (ht : t < 512) (Hp : pb_move) {B0 : Nat → Int32} {A0 : Nat → Nat → Int32} {F1 : Nat → Int32} {A1 : Nat → Nat → Int32} {fo : Nat → Int64} (hI : Inv B0 A0 F1 A1) (hnext : ∀ (B0 : Nat → Int32) (A0 : Nat → Nat → Int32) (F1 : Nat → Int32) (A1 : Nat → Nat → Int32) (fo : Nat → Int64) (H : Heap) (locs : List Loc) (ls : Array Slot), Inv B0 A0 F1 A1 → va_P D vwCl (LW cI cB cJ o0 h0 o1 h1 ho B0 A0 F1 A1 fo) H → va_D (AL s) (LW cI cB cJ o0 h0 o1 h1 ho B0 A0 F1 A1 fo) → va_S (AL s) s.heap H locs → lv_has ls 8 [(4, .int (nI i)), (0, .ref b), (1, .ref o0), (2, .ref o1), (3, .ref ho)] → W p l e room_1 s m #[Value.ref b] below meth c H locs (15 + t) (45759 + 6 * t) (lw_Z below #[Value.ref b] s) (F0 m 653 ls [])) {H : Heap} {locs : List Loc} {ls : Array Slot} (hP : va_P D vwCl (LW cI cB cJ o0 h0 o1 h1 ho B0 A0 F1 A1 fo) H) (hD : va_D (AL s) (LW cI cB cJ o0 h0 o1 h1 ho B0 A0 F1 A1 fo)) (hS : va_S (AL s) s.heap H locs) (hl : lv_has ls 8 [(4, .int (nI i)), (0, .ref b), (1, .ref o0), (2, .ref o1), (3, .ref ho)]) : W p l e room_1 s m #[Value.ref b] below meth c H locs (14 + t) (45753 + 6 * t) (lw_Z below #[Value.ref b] s) (F0 m 603 ls []) := by
  obtain ⟨hx, hb, hr, hml, hown, hts0, hX, hbl, hlk, hgv⟩ := C0
  have hown : s.vm.findClass RL = some m.cls := hown
  have hts : ∀ w ∈ wsL_law, w.before #[Value.ref b] s = true := fun w h => hts0 w (wsL_law_in w h)
  have hA : ∀ q : Nat, s.heap.size ≤ q → AL s q := fun _ h => h
  have hbA : ¬ AL s b := Nat.not_le.mpr hbl
  refine lv_aload_n hx hb dL_law_603 rfl (lv_at hl 2 rfl) ?_
  refine lv_aload_n hx hb dL_law_604 rfl (lv_at hl 1 rfl) ?_
  refine lv_iload hx hb dL_law_605 (lv_at hl 0 rfl) ?_
  refine lv_iconst (v := 1) hx hb dL_law_607 (by decide) ?_
  refine lv_iadd hx hb dL_law_608 ?_
  refine va_sld hx hb hX hbl hbA hS (in_sc (i := i) 1 (by omega) hL) dL_law_609 ?_
  refine lBi (As := [.int (xs (Int32.toNatClampNeg (nI i + 1)))]) (rest := []) ⟨hx, hb, hml, hown, hts⟩ (mX0_move l D cI o0 h0 B0 A0 (xs (Int32.toNatClampNeg (nI i + 1))) hI.m0 _ rfl) (cwV 1 hts gL_law_X0_move rfl rfl rfl nX0_move ⟨Nat.le_of_ble_eq_true rfl, Nat.le_of_ble_eq_true rfl⟩) rfl hl.1 rfl (Nat.le_of_ble_eq_true rfl) dL_law_610 ⟨(show 14 + t ≤ 601024 by omega), (show 45753 + 6 * t ≤ 7293033 by omega)⟩ hK hP hD hS hA (fun H locs hP hD hS => ?_)
  refine lv_aload_n hx hb dL_law_613 rfl (lv_at hl 3 rfl) ?_
  refine lv_aload_n hx hb dL_law_614 rfl (lv_at hl 1 rfl) ?_
  refine lv_iload hx hb dL_law_615 (lv_at hl 0 rfl) ?_
  refine lv_iconst (v := 1) hx hb dL_law_617 (by decide) ?_
  refine lv_iadd hx hb dL_law_618 ?_
  refine va_sld hx hb hX hbl hbA hS (in_sc (i := i) 1 (by omega) hL) dL_law_619 ?_
  refine lRi (As := [.int (xs (Int32.toNatClampNeg (nI i + 1)))]) (rest := [.int (qX0_move B0 A0 (xs (Int32.toNatClampNeg (nI i + 1))))]) ⟨hx, hb, hml, hown, hts⟩ (mX1_move l D cI cB o1 h1 F1 A1 (xs (Int32.toNatClampNeg (nI i + 1))) hI.m1 _ rfl) (cwV 1 hts gL_law_X1_move rfl rfl rfl nX1_move ⟨Nat.le_of_ble_eq_true rfl, Nat.le_of_ble_eq_true rfl⟩) rfl hl.1 rfl (Nat.le_of_ble_eq_true rfl) dL_law_620 ⟨(show 14 + t ≤ 601024 by omega), (show 45753 + 6 * t ≤ 7293033 by omega)⟩ hK hP hD hS hA (fun H locs hP hD hS => ?_)
  refine lv_icmp_eq (tgt := 653) hx hb dL_law_623 (by decide) (fun c623 => ?_) (fun c623 => ?_)
  rotate_left
  · exact absurd (Hp B0 A0 F1 A1 (xs (Int32.toNatClampNeg (nI i + 1))) hI).1 c623
  refine W.widen (k := 15 + t) (n := 45759 + 6 * t) (by omega) (by omega) ?_
  exact hnext B0 A0 ((qX1_move F1 A1 (xs (Int32.toNatClampNeg (nI i + 1)))).2.1) ((qX1_move F1 A1 (xs (Int32.toNatClampNeg (nI i + 1)))).2.2) fo _ _ ls (Hp B0 A0 F1 A1 (xs (Int32.toNatClampNeg (nI i + 1))) hI).2 hP hD hS (lv_sub hl [0, 1, 2, 3, 4] rfl)
set_option maxHeartbeats 4000000 in
set_option maxRecDepth 100000 in
theorem lc_look {p : Program} {l : Launch} {e : Env} {s : State} {m : MethodId} {below : List Frame} {meth : Method} {c : Code} {D : va_G} {cI cB cJ : ClassId} {o0 o1 ho b L i t : Nat} {h0 h1 : Nat → Nat} {xs : Nat → Int32} (hL : L ≤ 2048) (C0 : lw_At p s m meth c b L xs) (hst : l.stackTraces = false) (hE : xE (AL s) s s.heap) (hK : va_K D vwCl (LT cI cB cJ) s) (hi : i + 3 < L) (ht : t < 512) (Hp : pb_look) {B0 : Nat → Int32} {A0 : Nat → Nat → Int32} {F1 : Nat → Int32} {A1 : Nat → Nat → Int32} {fo : Nat → Int64} (hI : Inv B0 A0 F1 A1) (hnext : ∀ (B0 : Nat → Int32) (A0 : Nat → Nat → Int32) (F1 : Nat → Int32) (A1 : Nat → Nat → Int32) (fo : Nat → Int64) (H : Heap) (locs : List Loc) (ls : Array Slot), Inv B0 A0 F1 A1 → va_P D vwCl (LW cI cB cJ o0 h0 o1 h1 ho B0 A0 F1 A1 fo) H → va_D (AL s) (LW cI cB cJ o0 h0 o1 h1 ho B0 A0 F1 A1 fo) → va_S (AL s) s.heap H locs → lv_has ls 8 [(4, .int (nI i)), (0, .ref b), (1, .ref o0), (2, .ref o1), (3, .ref ho)] → W p l e room_1 s m #[Value.ref b] below meth c H locs (15 + t) (45759 + 6 * t) (lw_Z below #[Value.ref b] s) (F0 m 653 ls [])) {H : Heap} {locs : List Loc} {ls : Array Slot} (hP : va_P D vwCl (LW cI cB cJ o0 h0 o1 h1 ho B0 A0 F1 A1 fo) H) (hD : va_D (AL s) (LW cI cB cJ o0 h0 o1 h1 ho B0 A0 F1 A1 fo)) (hS : va_S (AL s) s.heap H locs) (hl : lv_has ls 8 [(4, .int (nI i)), (0, .ref b), (1, .ref o0), (2, .ref o1), (3, .ref ho)]) : W p l e room_1 s m #[Value.ref b] below meth c H locs (14 + t) (45753 + 6 * t) (lw_Z below #[Value.ref b] s) (F0 m 628 ls []) := by
  obtain ⟨hx, hb, hr, hml, hown, hts0, hX, hbl, hlk, hgv⟩ := C0
  have hown : s.vm.findClass RL = some m.cls := hown
  have hts : ∀ w ∈ wsL_law, w.before #[Value.ref b] s = true := fun w h => hts0 w (wsL_law_in w h)
  have hA : ∀ q : Nat, s.heap.size ≤ q → AL s q := fun _ h => h
  have hbA : ¬ AL s b := Nat.not_le.mpr hbl
  refine lv_aload_n hx hb dL_law_628 rfl (lv_at hl 2 rfl) ?_
  refine lv_aload_n hx hb dL_law_629 rfl (lv_at hl 1 rfl) ?_
  refine lv_iload hx hb dL_law_630 (lv_at hl 0 rfl) ?_
  refine lv_iconst (v := 1) hx hb dL_law_632 (by decide) ?_
  refine lv_iadd hx hb dL_law_633 ?_
  refine va_sld hx hb hX hbl hbA hS (in_sc (i := i) 1 (by omega) hL) dL_law_634 ?_
  refine lBi (As := [.int (xs (Int32.toNatClampNeg (nI i + 1)))]) (rest := []) ⟨hx, hb, hml, hown, hts⟩ (mX0_look l D cI o0 h0 B0 A0 (xs (Int32.toNatClampNeg (nI i + 1)))  _ rfl) (cwV 1 hts gL_law_X0_look rfl rfl rfl nX0_look ⟨Nat.le_of_ble_eq_true rfl, Nat.le_of_ble_eq_true rfl⟩) rfl hl.1 rfl (Nat.le_of_ble_eq_true rfl) dL_law_635 ⟨(show 14 + t ≤ 601024 by omega), (show 45753 + 6 * t ≤ 7293033 by omega)⟩ hK hP hD hS hA (fun H locs hP hD hS => ?_)
  refine lv_aload_n hx hb dL_law_638 rfl (lv_at hl 3 rfl) ?_
  refine lv_aload_n hx hb dL_law_639 rfl (lv_at hl 1 rfl) ?_
  refine lv_iload hx hb dL_law_640 (lv_at hl 0 rfl) ?_
  refine lv_iconst (v := 1) hx hb dL_law_642 (by decide) ?_
  refine lv_iadd hx hb dL_law_643 ?_
  refine va_sld hx hb hX hbl hbA hS (in_sc (i := i) 1 (by omega) hL) dL_law_644 ?_
  refine lRi (As := [.int (xs (Int32.toNatClampNeg (nI i + 1)))]) (rest := [.int (qX0_look B0 A0 (xs (Int32.toNatClampNeg (nI i + 1))))]) ⟨hx, hb, hml, hown, hts⟩ (mX1_look l D cI cB o1 h1 F1 A1 (xs (Int32.toNatClampNeg (nI i + 1)))  _ rfl) (cwV 1 hts gL_law_X1_look rfl rfl rfl nX1_look ⟨Nat.le_of_ble_eq_true rfl, Nat.le_of_ble_eq_true rfl⟩) rfl hl.1 rfl (Nat.le_of_ble_eq_true rfl) dL_law_645 ⟨(show 14 + t ≤ 601024 by omega), (show 45753 + 6 * t ≤ 7293033 by omega)⟩ hK hP hD hS hA (fun H locs hP hD hS => ?_)
  refine lv_icmp_eq (tgt := 653) hx hb dL_law_648 (by decide) (fun c648 => ?_) (fun c648 => ?_)
  rotate_left
  · exact absurd (Hp B0 A0 F1 A1 (xs (Int32.toNatClampNeg (nI i + 1))) hI).1 c648
  refine W.widen (k := 15 + t) (n := 45759 + 6 * t) (by omega) (by omega) ?_
  exact hnext B0 A0 ((qX1_look F1 A1 (xs (Int32.toNatClampNeg (nI i + 1)))).2.1) ((qX1_look F1 A1 (xs (Int32.toNatClampNeg (nI i + 1)))).2.2) fo _ _ ls (Hp B0 A0 F1 A1 (xs (Int32.toNatClampNeg (nI i + 1))) hI).2 hP hD hS (lv_sub hl [0, 1, 2, 3, 4] rfl)
