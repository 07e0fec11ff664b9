/-! Calls out of the law: the law's cells are its long[1], Board's, the reference's, in this order. -/
abbrev LW (cI cB cJ : ClassId) (o0 : Nat) (h0 : Nat → Nat) (o1 : Nat) (h1 : Nat → Nat) (ho : Nat) (B0 : Nat → Int32) (A0 : Nat → Nat → Int32) (F1 : Nat → Int32) (A1 : Nat → Nat → Int32) (fo : Nat → Int64) : va_W :=
  (ho, .inl (cJ, 1, .inr (.inl fo))) :: (wB cI o0 h0 B0 A0 ++ wR cI cB o1 h1 F1 A1)
abbrev LT (cI cB cJ : ClassId) : List (ClassId × FieldType) := [(cI, .int), (cB, .byte), (cJ, .long)]
abbrev AL (s : State) : Nat → Prop := fun q => s.heap.size ≤ q
section LC
variable {p : Program} {l : Launch} {e : Env} {R : Room} {s : State} {m : MethodId} {args : Array Value} {below : List Frame} {meth : Method} {c : Code} {H : Heap} {locs : List Loc} {cells slots : Nat} {Q : State → Prop} {cc bytes : ByteArray} {pc : Nat} {ls : Array Slot} {rest st0 As : List Value} {D : va_G} {A : Nat → Prop} {y : MethodName} {maxL nL n index : Nat} {ret : Option FieldType} {ws : List Cond} {rm : Room} {Ts : List Cond} {own : String} {cI cB cJ : ClassId} {o0 o1 ho : Nat} {h0 h1 : Nat → Nat} {B0 B0' F1 F1' : Nat → Int32} {A0 A0' A1 A1' : Nat → Nat → Int32} {fo fo' : Nat → Int64}
theorem lBi (S : CallFix p m c cc nL s args Ts own) {r : Int32} (hM : cMi l y ws rm D [(cI, .int)] (wB cI o0 h0 B0 A0) (.ref o0 :: As) r (wB cI o0 h0 B0' A0')) (cw : CallW R s args own RX0 index y bytes maxL ret ws rm 0 0 n) (hn : As.length = n) (hsize : ls.size = nL) (hst : st0 = As.reverse ++ .ref o0 :: rest) (hW : (rest.map fun v => v.category).sum ≤ 8) (hdg : decode cc pc = .ok (.invokevirtual index, 3)) (hc : cells ≤ R.cells ∧ slots ≤ R.slots)
    (hK : va_K D vwCl (LT cI cB cJ) s) (hP : va_P D vwCl (LW cI cB cJ o0 h0 o1 h1 ho B0 A0 F1 A1 fo) H) (hD : va_D A (LW cI cB cJ o0 h0 o1 h1 ho B0 A0 F1 A1 fo)) (hS : va_S A s.heap H locs) (hA : ∀ q, s.heap.size ≤ q → A q)
    (kk : ∀ (H1 : Heap) (locs1 : List Loc), va_P D vwCl (LW cI cB cJ o0 h0 o1 h1 ho B0' A0' F1 A1 fo) H1 → va_D A (LW cI cB cJ o0 h0 o1 h1 ho B0' A0' F1 A1 fo) → va_S A s.heap H1 locs1 → W p l e R s m args below meth c H1 locs1 cells slots Q (F0 m (pc + 3) ls (.int r :: rest))) : W p l e R s m args below meth c H locs cells slots Q (F0 m pc ls st0) := by
  have hFc := va_free (wc := (wB cI o0 h0 B0 A0)) hD hS hA [1, 2, 3, 4, 5, 6, 7, 8] rfl
  have hPc : va_P D vwCl (wB cI o0 h0 B0 A0) H := hP.sub [1, 2, 3, 4, 5, 6, 7, 8] rfl
  have hDc : va_D A (wB cI o0 h0 B0 A0) := hD.sub [1, 2, 3, 4, 5, 6, 7, 8] (by decide) rfl
  refine va_calli (va_runV (As := As) (rest := rest) (g := F0 m pc ls st0) S (hM H.size) cw ⟨cBlind, va_recv hK hP (ci := 0) (q0 := 1) rfl rfl, fun U hU hW => ⟨rfl, by rw [hU], by rw [hU]; exact hPc, va_K.moved hW.alike (hK.sub [0] rfl), hDc.weaken (fun _ _ _ _ => trivial)⟩⟩ rfl hn hsize hst (lv_room hW) hdg hc) hS (fun q _ h => hFc q h) hFc (fun r' u t H1 locs1 ht hvm hw hB hz1 hk1 hS1 => ?_)
  obtain ⟨hP1, -, hD1⟩ := hB
  rw [ht] at hP1
  subst hw
  obtain ⟨a1, a2⟩ := va_join (wr := ((ho, .inl (cJ, 1, .inr (.inl fo))) :: wR cI cB o1 h1 F1 A1)) hP hD [1, 2, 3, 4, 5, 6, 7, 8] [0, 9, 10, 11, 12, 13] rfl rfl (by decide) (by decide) hk1 hFc hP1 hD1
  exact kk H1 locs1 (a1.sub [0, 6, 7, 8, 9, 10, 11, 12, 13, 1, 2, 3, 4, 5] rfl) (a2.sub [0, 6, 7, 8, 9, 10, 11, 12, 13, 1, 2, 3, 4, 5] (by decide) rfl) hS1
theorem lBl (S : CallFix p m c cc nL s args Ts own) {r : Int64} (hM : cMl l y ws rm D [(cI, .int)] (wB cI o0 h0 B0 A0) (.ref o0 :: As) r (wB cI o0 h0 B0' A0')) (cw : CallW R s args own RX0 index y bytes maxL ret ws rm 0 0 n) (hn : As.length = n) (hsize : ls.size = nL) (hst : st0 = As.reverse ++ .ref o0 :: rest) (hW : (rest.map fun v => v.category).sum ≤ 8) (hdg : decode cc pc = .ok (.invokevirtual index, 3)) (hc : cells ≤ R.cells ∧ slots ≤ R.slots)
    (hK : va_K D vwCl (LT cI cB cJ) s) (hP : va_P D vwCl (LW cI cB cJ o0 h0 o1 h1 ho B0 A0 F1 A1 fo) H) (hD : va_D A (LW cI cB cJ o0 h0 o1 h1 ho B0 A0 F1 A1 fo)) (hS : va_S A s.heap H locs) (hA : ∀ q, s.heap.size ≤ q → A q)
    (kk : ∀ (H1 : Heap) (locs1 : List Loc), va_P D vwCl (LW cI cB cJ o0 h0 o1 h1 ho B0' A0' F1 A1 fo) H1 → va_D A (LW cI cB cJ o0 h0 o1 h1 ho B0' A0' F1 A1 fo) → va_S A s.heap H1 locs1 → W p l e R s m args below meth c H1 locs1 cells slots Q (F0 m (pc + 3) ls (.long r :: rest))) : W p l e R s m args below meth c H locs cells slots Q (F0 m pc ls st0) := by
  have hFc := va_free (wc := (wB cI o0 h0 B0 A0)) hD hS hA [1, 2, 3, 4, 5, 6, 7, 8] rfl
  have hPc : va_P D vwCl (wB cI o0 h0 B0 A0) H := hP.sub [1, 2, 3, 4, 5, 6, 7, 8] rfl
  have hDc : va_D A (wB cI o0 h0 B0 A0) := hD.sub [1, 2, 3, 4, 5, 6, 7, 8] (by decide) rfl
  refine va_calll (va_runV (As := As) (rest := rest) (g := F0 m pc ls st0) S (hM H.size) cw ⟨cBlind, va_recv hK hP (ci := 0) (q0 := 1) rfl rfl, fun U hU hW => ⟨rfl, by rw [hU], by rw [hU]; exact hPc, va_K.moved hW.alike (hK.sub [0] rfl), hDc.weaken (fun _ _ _ _ => trivial)⟩⟩ rfl hn hsize hst (lv_room hW) hdg hc) hS (fun q _ h => hFc q h) hFc (fun r' u t H1 locs1 ht hvm hw hB hz1 hk1 hS1 => ?_)
  obtain ⟨hP1, -, hD1⟩ := hB
  rw [ht] at hP1
  subst hw
  obtain ⟨a1, a2⟩ := va_join (wr := ((ho, .inl (cJ, 1, .inr (.inl fo))) :: wR cI cB o1 h1 F1 A1)) hP hD [1, 2, 3, 4, 5, 6, 7, 8] [0, 9, 10, 11, 12, 13] rfl rfl (by decide) (by decide) hk1 hFc hP1 hD1
  exact kk H1 locs1 (a1.sub [0, 6, 7, 8, 9, 10, 11, 12, 13, 1, 2, 3, 4, 5] rfl) (a2.sub [0, 6, 7, 8, 9, 10, 11, 12, 13, 1, 2, 3, 4, 5] (by decide) rfl) hS1
theorem lBv (S : CallFix p m c cc nL s args Ts own) (hM : cMv l y ws rm D [(cI, .int)] (wB cI o0 h0 B0 A0) (.ref o0 :: As) (wB cI o0 h0 B0' A0')) (cw : CallW R s args own RX0 index y bytes maxL ret ws rm 0 0 n) (hn : As.length = n) (hsize : ls.size = nL) (hst : st0 = As.reverse ++ .ref o0 :: rest) (hW : (rest.map fun v => v.category).sum ≤ 8) (hdg : decode cc pc = .ok (.invokevirtual index, 3)) (hc : cells ≤ R.cells ∧ slots ≤ R.slots)
    (hK : va_K D vwCl (LT cI cB cJ) s) (hP : va_P D vwCl (LW cI cB cJ o0 h0 o1 h1 ho B0 A0 F1 A1 fo) H) (hD : va_D A (LW cI cB cJ o0 h0 o1 h1 ho B0 A0 F1 A1 fo)) (hS : va_S A s.heap H locs) (hA : ∀ q, s.heap.size ≤ q → A q)
    (kk : ∀ (H1 : Heap) (locs1 : List Loc), va_P D vwCl (LW cI cB cJ o0 h0 o1 h1 ho B0' A0' F1 A1 fo) H1 → va_D A (LW cI cB cJ o0 h0 o1 h1 ho B0' A0' F1 A1 fo) → va_S A s.heap H1 locs1 → W p l e R s m args below meth c H1 locs1 cells slots Q (F0 m (pc + 3) ls rest)) : W p l e R s m args below meth c H locs cells slots Q (F0 m pc ls st0) := by
  have hFc := va_free (wc := (wB cI o0 h0 B0 A0)) hD hS hA [1, 2, 3, 4, 5, 6, 7, 8] rfl
  have hPc : va_P D vwCl (wB cI o0 h0 B0 A0) H := hP.sub [1, 2, 3, 4, 5, 6, 7, 8] rfl
  have hDc : va_D A (wB cI o0 h0 B0 A0) := hD.sub [1, 2, 3, 4, 5, 6, 7, 8] (by decide) rfl
  refine va_callv (va_runV (As := As) (rest := rest) (g := F0 m pc ls st0) S (hM H.size) cw ⟨cBlind, va_recv hK hP (ci := 0) (q0 := 1) rfl rfl, fun U hU hW => ⟨rfl, by rw [hU], by rw [hU]; exact hPc, va_K.moved hW.alike (hK.sub [0] rfl), hDc.weaken (fun _ _ _ _ => trivial)⟩⟩ rfl hn hsize hst (lv_room hW) hdg hc) hS (fun q _ h => hFc q h) hFc (fun u t H1 locs1 ht hvm hw hB hz1 hk1 hS1 => ?_)
  obtain ⟨hP1, -, hD1⟩ := hB
  rw [ht] at hP1
  obtain ⟨a1, a2⟩ := va_join (wr := ((ho, .inl (cJ, 1, .inr (.inl fo))) :: wR cI cB o1 h1 F1 A1)) hP hD [1, 2, 3, 4, 5, 6, 7, 8] [0, 9, 10, 11, 12, 13] rfl rfl (by decide) (by decide) hk1 hFc hP1 hD1
  exact kk H1 locs1 (a1.sub [0, 6, 7, 8, 9, 10, 11, 12, 13, 1, 2, 3, 4, 5] rfl) (a2.sub [0, 6, 7, 8, 9, 10, 11, 12, 13, 1, 2, 3, 4, 5] (by decide) rfl) hS1
theorem lBe (S : CallFix p m c cc nL s args Ts own) (hM : eMv l y ws rm D [(cI, .int)] (wB cI o0 h0 B0 A0) (.ref o0 :: As) (wB cI o0 h0 B0' A0')) (cw : CallW R s args own RX0 index y bytes maxL ret ws rm 0 0 n) (hn : As.length = n) (hsize : ls.size = nL) (hst : st0 = As.reverse ++ .ref o0 :: rest) (hW : (rest.map fun v => v.category).sum ≤ 8) (hdg : decode cc pc = .ok (.invokevirtual index, 3)) (hc : cells ≤ R.cells ∧ slots ≤ R.slots)
    (hK : va_K D vwCl (LT cI cB cJ) s) (hP : va_P D vwCl (LW cI cB cJ o0 h0 o1 h1 ho B0 A0 F1 A1 fo) H) (hD : va_D A (LW cI cB cJ o0 h0 o1 h1 ho B0 A0 F1 A1 fo)) (hS : va_S A s.heap H locs) (hA : ∀ q, s.heap.size ≤ q → A q) (hE : xE A s s.heap)
    (kk : ∀ (H1 : Heap) (locs1 : List Loc), va_P D vwCl (LW cI cB cJ o0 h0 o1 h1 ho B0' A0' F1 A1 fo) H1 → va_D A (LW cI cB cJ o0 h0 o1 h1 ho B0' A0' F1 A1 fo) → va_S A s.heap H1 locs1 → W p l e R s m args below meth c H1 locs1 cells slots Q (F0 m (pc + 3) ls rest)) : W p l e R s m args below meth c H locs cells slots Q (F0 m pc ls st0) := by
  have hFc := va_free (wc := (wB cI o0 h0 B0 A0)) hD hS hA [1, 2, 3, 4, 5, 6, 7, 8] rfl
  have hPc : va_P D vwCl (wB cI o0 h0 B0 A0) H := hP.sub [1, 2, 3, 4, 5, 6, 7, 8] rfl
  have hDc : va_D A (wB cI o0 h0 B0 A0) := hD.sub [1, 2, 3, 4, 5, 6, 7, 8] (by decide) rfl
  refine va_callv (va_runV (As := As) (rest := rest) (g := F0 m pc ls st0) S (hM H.size) cw ⟨xBlind, va_recv hK hP (ci := 0) (q0 := 1) rfl rfl, fun U hU hW => ⟨rfl, by rw [hU], by rw [hU]; exact hPc, va_K.moved hW.alike (hK.sub [0] rfl), hDc.weaken (fun _ _ _ _ => trivial), by rw [hU]; exact hE.at hS hFc hW⟩⟩ rfl hn hsize hst (lv_room hW) hdg hc) hS (fun q _ h => hFc q h) hFc (fun u t H1 locs1 ht hvm hw hB hz1 hk1 hS1 => ?_)
  obtain ⟨hP1, -, hD1⟩ := hB
  rw [ht] at hP1
  obtain ⟨a1, a2⟩ := va_join (wr := ((ho, .inl (cJ, 1, .inr (.inl fo))) :: wR cI cB o1 h1 F1 A1)) hP hD [1, 2, 3, 4, 5, 6, 7, 8] [0, 9, 10, 11, 12, 13] rfl rfl (by decide) (by decide) hk1 hFc hP1 hD1
  exact kk H1 locs1 (a1.sub [0, 6, 7, 8, 9, 10, 11, 12, 13, 1, 2, 3, 4, 5] rfl) (a2.sub [0, 6, 7, 8, 9, 10, 11, 12, 13, 1, 2, 3, 4, 5] (by decide) rfl) hS1
theorem lRi (S : CallFix p m c cc nL s args Ts own) {r : Int32} (hM : cMi l y ws rm D [(cI, .int), (cB, .byte)] (wR cI cB o1 h1 F1 A1) (.ref o1 :: As) r (wR cI cB o1 h1 F1' A1')) (cw : CallW R s args own RX1 index y bytes maxL ret ws rm 0 0 n) (hn : As.length = n) (hsize : ls.size = nL) (hst : st0 = As.reverse ++ .ref o1 :: rest) (hW : (rest.map fun v => v.category).sum ≤ 8) (hdg : decode cc pc = .ok (.invokevirtual index, 3)) (hc : cells ≤ R.cells ∧ slots ≤ R.slots)
    (hK : va_K D vwCl (LT cI cB cJ) s) (hP : va_P D vwCl (LW cI cB cJ o0 h0 o1 h1 ho B0 A0 F1 A1 fo) H) (hD : va_D A (LW cI cB cJ o0 h0 o1 h1 ho B0 A0 F1 A1 fo)) (hS : va_S A s.heap H locs) (hA : ∀ q, s.heap.size ≤ q → A q)
    (kk : ∀ (H1 : Heap) (locs1 : List Loc), va_P D vwCl (LW cI cB cJ o0 h0 o1 h1 ho B0 A0 F1' A1' fo) H1 → va_D A (LW cI cB cJ o0 h0 o1 h1 ho B0 A0 F1' A1' fo) → va_S A s.heap H1 locs1 → W p l e R s m args below meth c H1 locs1 cells slots Q (F0 m (pc + 3) ls (.int r :: rest))) : W p l e R s m args below meth c H locs cells slots Q (F0 m pc ls st0) := by
  have hFc := va_free (wc := (wR cI cB o1 h1 F1 A1)) hD hS hA [9, 10, 11, 12, 13] rfl
  have hPc : va_P D vwCl (wR cI cB o1 h1 F1 A1) H := hP.sub [9, 10, 11, 12, 13] rfl
  have hDc : va_D A (wR cI cB o1 h1 F1 A1) := hD.sub [9, 10, 11, 12, 13] (by decide) rfl
  refine va_calli (va_runV (As := As) (rest := rest) (g := F0 m pc ls st0) S (hM H.size) cw ⟨cBlind, va_recv hK hP (ci := 1) (q0 := 9) rfl rfl, fun U hU hW => ⟨rfl, by rw [hU], by rw [hU]; exact hPc, va_K.moved hW.alike (hK.sub [0, 1] rfl), hDc.weaken (fun _ _ _ _ => trivial)⟩⟩ rfl hn hsize hst (lv_room hW) hdg hc) hS (fun q _ h => hFc q h) hFc (fun r' u t H1 locs1 ht hvm hw hB hz1 hk1 hS1 => ?_)
  obtain ⟨hP1, -, hD1⟩ := hB
  rw [ht] at hP1
  subst hw
  obtain ⟨a1, a2⟩ := va_join (wr := ((ho, .inl (cJ, 1, .inr (.inl fo))) :: wB cI o0 h0 B0 A0)) hP hD [9, 10, 11, 12, 13] [0, 1, 2, 3, 4, 5, 6, 7, 8] rfl rfl (by decide) (by decide) hk1 hFc hP1 hD1
  exact kk H1 locs1 a1 a2 hS1
theorem lRl (S : CallFix p m c cc nL s args Ts own) {r : Int64} (hM : cMl l y ws rm D [(cI, .int), (cB, .byte)] (wR cI cB o1 h1 F1 A1) (.ref o1 :: As) r (wR cI cB o1 h1 F1' A1')) (cw : CallW R s args own RX1 index y bytes maxL ret ws rm 0 0 n) (hn : As.length = n) (hsize : ls.size = nL) (hst : st0 = As.reverse ++ .ref o1 :: rest) (hW : (rest.map fun v => v.category).sum ≤ 8) (hdg : decode cc pc = .ok (.invokevirtual index, 3)) (hc : cells ≤ R.cells ∧ slots ≤ R.slots)
    (hK : va_K D vwCl (LT cI cB cJ) s) (hP : va_P D vwCl (LW cI cB cJ o0 h0 o1 h1 ho B0 A0 F1 A1 fo) H) (hD : va_D A (LW cI cB cJ o0 h0 o1 h1 ho B0 A0 F1 A1 fo)) (hS : va_S A s.heap H locs) (hA : ∀ q, s.heap.size ≤ q → A q)
    (kk : ∀ (H1 : Heap) (locs1 : List Loc), va_P D vwCl (LW cI cB cJ o0 h0 o1 h1 ho B0 A0 F1' A1' fo) H1 → va_D A (LW cI cB cJ o0 h0 o1 h1 ho B0 A0 F1' A1' fo) → va_S A s.heap H1 locs1 → W p l e R s m args below meth c H1 locs1 cells slots Q (F0 m (pc + 3) ls (.long r :: rest))) : W p l e R s m args below meth c H locs cells slots Q (F0 m pc ls st0) := by
  have hFc := va_free (wc := (wR cI cB o1 h1 F1 A1)) hD hS hA [9, 10, 11, 12, 13] rfl
  have hPc : va_P D vwCl (wR cI cB o1 h1 F1 A1) H := hP.sub [9, 10, 11, 12, 13] rfl
  have hDc : va_D A (wR cI cB o1 h1 F1 A1) := hD.sub [9, 10, 11, 12, 13] (by decide) rfl
  refine va_calll (va_runV (As := As) (rest := rest) (g := F0 m pc ls st0) S (hM H.size) cw ⟨cBlind, va_recv hK hP (ci := 1) (q0 := 9) rfl rfl, fun U hU hW => ⟨rfl, by rw [hU], by rw [hU]; exact hPc, va_K.moved hW.alike (hK.sub [0, 1] rfl), hDc.weaken (fun _ _ _ _ => trivial)⟩⟩ rfl hn hsize hst (lv_room hW) hdg hc) hS (fun q _ h => hFc q h) hFc (fun r' u t H1 locs1 ht hvm hw hB hz1 hk1 hS1 => ?_)
  obtain ⟨hP1, -, hD1⟩ := hB
  rw [ht] at hP1
  subst hw
  obtain ⟨a1, a2⟩ := va_join (wr := ((ho, .inl (cJ, 1, .inr (.inl fo))) :: wB cI o0 h0 B0 A0)) hP hD [9, 10, 11, 12, 13] [0, 1, 2, 3, 4, 5, 6, 7, 8] rfl rfl (by decide) (by decide) hk1 hFc hP1 hD1
  exact kk H1 locs1 a1 a2 hS1
theorem lRv (S : CallFix p m c cc nL s args Ts own) (hM : cMv l y ws rm D [(cI, .int), (cB, .byte)] (wR cI cB o1 h1 F1 A1) (.ref o1 :: As) (wR cI cB o1 h1 F1' A1')) (cw : CallW R s args own RX1 index y bytes maxL ret ws rm 0 0 n) (hn : As.length = n) (hsize : ls.size = nL) (hst : st0 = As.reverse ++ .ref o1 :: rest) (hW : (rest.map fun v => v.category).sum ≤ 8) (hdg : decode cc pc = .ok (.invokevirtual index, 3)) (hc : cells ≤ R.cells ∧ slots ≤ R.slots)
    (hK : va_K D vwCl (LT cI cB cJ) s) (hP : va_P D vwCl (LW cI cB cJ o0 h0 o1 h1 ho B0 A0 F1 A1 fo) H) (hD : va_D A (LW cI cB cJ o0 h0 o1 h1 ho B0 A0 F1 A1 fo)) (hS : va_S A s.heap H locs) (hA : ∀ q, s.heap.size ≤ q → A q)
    (kk : ∀ (H1 : Heap) (locs1 : List Loc), va_P D vwCl (LW cI cB cJ o0 h0 o1 h1 ho B0 A0 F1' A1' fo) H1 → va_D A (LW cI cB cJ o0 h0 o1 h1 ho B0 A0 F1' A1' fo) → va_S A s.heap H1 locs1 → W p l e R s m args below meth c H1 locs1 cells slots Q (F0 m (pc + 3) ls rest)) : W p l e R s m args below meth c H locs cells slots Q (F0 m pc ls st0) := by
  have hFc := va_free (wc := (wR cI cB o1 h1 F1 A1)) hD hS hA [9, 10, 11, 12, 13] rfl
  have hPc : va_P D vwCl (wR cI cB o1 h1 F1 A1) H := hP.sub [9, 10, 11, 12, 13] rfl
  have hDc : va_D A (wR cI cB o1 h1 F1 A1) := hD.sub [9, 10, 11, 12, 13] (by decide) rfl
  refine va_callv (va_runV (As := As) (rest := rest) (g := F0 m pc ls st0) S (hM H.size) cw ⟨cBlind, va_recv hK hP (ci := 1) (q0 := 9) rfl rfl, fun U hU hW => ⟨rfl, by rw [hU], by rw [hU]; exact hPc, va_K.moved hW.alike (hK.sub [0, 1] rfl), hDc.weaken (fun _ _ _ _ => trivial)⟩⟩ rfl hn hsize hst (lv_room hW) hdg hc) hS (fun q _ h => hFc q h) hFc (fun u t H1 locs1 ht hvm hw hB hz1 hk1 hS1 => ?_)
  obtain ⟨hP1, -, hD1⟩ := hB
  rw [ht] at hP1
  obtain ⟨a1, a2⟩ := va_join (wr := ((ho, .inl (cJ, 1, .inr (.inl fo))) :: wB cI o0 h0 B0 A0)) hP hD [9, 10, 11, 12, 13] [0, 1, 2, 3, 4, 5, 6, 7, 8] rfl rfl (by decide) (by decide) hk1 hFc hP1 hD1
  exact kk H1 locs1 a1 a2 hS1
theorem lH {hh : List (Nat × Nat × Nat × Nat)} (S : CallFix p m c cc nL s args Ts own) {r : Int32} (hM : hMi l y ws rm D [(cI, .int)] (wB cI o0 h0 B0 A0) As r (wB cI o0 h0 B0' A0')) (cw : vx_CSW R s args own index y bytes maxL ret hh ws rm 1 6 n) (hn : As.length = n) (hsize : ls.size = nL) (hst : st0 = As.reverse ++ rest) (hW : (rest.map fun v => v.category).sum ≤ 8) (hdg : decode cc pc = .ok (.invokestatic index, 3)) (hc : cells + 1 ≤ R.cells ∧ slots + 6 ≤ R.slots)
    (hK : va_K D vwCl (LT cI cB cJ) s) (hP : va_P D vwCl (LW cI cB cJ o0 h0 o1 h1 ho B0 A0 F1 A1 fo) H) (hD : va_D A (LW cI cB cJ o0 h0 o1 h1 ho B0 A0 F1 A1 fo)) (hS : va_S A s.heap H locs) (hA : ∀ q, s.heap.size ≤ q → A q) (hE : xE A s s.heap)
    (kk : ∀ (H1 : Heap) (locs1 : List Loc), va_P D vwCl (LW cI cB cJ o0 h0 o1 h1 ho B0' A0' F1 A1 fo) H1 → va_D A (LW cI cB cJ o0 h0 o1 h1 ho B0' A0' F1 A1 fo) → va_S A s.heap H1 locs1 → W p l e R s m args below meth c H1 locs1 (cells + 1) (slots + 6) Q (F0 m (pc + 3) ls (.int r :: rest))) : W p l e R s m args below meth c H locs cells slots Q (F0 m pc ls st0) := by
  have hFc := va_free (wc := (wB cI o0 h0 B0 A0)) hD hS hA [1, 2, 3, 4, 5, 6, 7, 8] rfl
  have hPc : va_P D vwCl (wB cI o0 h0 B0 A0) H := hP.sub [1, 2, 3, 4, 5, 6, 7, 8] rfl
  have hDc : va_D A (wB cI o0 h0 B0 A0) := hD.sub [1, 2, 3, 4, 5, 6, 7, 8] (by decide) rfl
  refine va_calli (vx_runSW (As := As) (rest := rest) (g := F0 m pc ls st0) S (hM H.size) cw ⟨xBlind, fun U hU hW => ⟨rfl, by rw [hU], by rw [hU]; exact hPc, va_K.moved hW.alike (hK.sub [0] rfl), hDc.weaken (fun _ _ _ _ => trivial), by rw [hU]; exact hE.at hS hFc hW⟩⟩ rfl hn hsize hst (lv_room hW) hdg hc) hS (fun q _ h => hFc q h) hFc (fun r' u t H1 locs1 ht hvm hw hB hz1 hk1 hS1 => ?_)
  obtain ⟨hP1, -, hD1⟩ := hB
  rw [ht] at hP1
  subst hw
  obtain ⟨a1, a2⟩ := va_join (wr := ((ho, .inl (cJ, 1, .inr (.inl fo))) :: wR cI cB o1 h1 F1 A1)) hP hD [1, 2, 3, 4, 5, 6, 7, 8] [0, 9, 10, 11, 12, 13] rfl rfl (by decide) (by decide) hk1 hFc hP1 hD1
  exact kk H1 locs1 (a1.sub [0, 6, 7, 8, 9, 10, 11, 12, 13, 1, 2, 3, 4, 5] rfl) (a2.sub [0, 6, 7, 8, 9, 10, 11, 12, 13, 1, 2, 3, 4, 5] (by decide) rfl) hS1
theorem lHo {hh : List (Nat × Nat × Nat × Nat)} (S : CallFix p m c cc nL s args Ts own) {r : Int32} (hM : hMi l y ws rm D [(cI, .int), (cJ, .long)] ((ho, .inl (cJ, 1, .inr (.inl fo))) :: wB cI o0 h0 B0 A0) As r ((ho, .inl (cJ, 1, .inr (.inl fo'))) :: wB cI o0 h0 B0' A0')) (cw : vx_CSW R s args own index y bytes maxL ret hh ws rm 1 6 n) (hn : As.length = n) (hsize : ls.size = nL) (hst : st0 = As.reverse ++ rest) (hW : (rest.map fun v => v.category).sum ≤ 8) (hdg : decode cc pc = .ok (.invokestatic index, 3)) (hc : cells + 1 ≤ R.cells ∧ slots + 6 ≤ R.slots)
    (hK : va_K D vwCl (LT cI cB cJ) s) (hP : va_P D vwCl (LW cI cB cJ o0 h0 o1 h1 ho B0 A0 F1 A1 fo) H) (hD : va_D A (LW cI cB cJ o0 h0 o1 h1 ho B0 A0 F1 A1 fo)) (hS : va_S A s.heap H locs) (hA : ∀ q, s.heap.size ≤ q → A q) (hE : xE A s s.heap)
    (kk : ∀ (H1 : Heap) (locs1 : List Loc), va_P D vwCl (LW cI cB cJ o0 h0 o1 h1 ho B0' A0' F1 A1 fo') H1 → va_D A (LW cI cB cJ o0 h0 o1 h1 ho B0' A0' F1 A1 fo') → va_S A s.heap H1 locs1 → W p l e R s m args below meth c H1 locs1 (cells + 1) (slots + 6) Q (F0 m (pc + 3) ls (.int r :: rest))) : W p l e R s m args below meth c H locs cells slots Q (F0 m pc ls st0) := by
  have hFc := va_free (wc := ((ho, .inl (cJ, 1, .inr (.inl fo))) :: wB cI o0 h0 B0 A0)) hD hS hA [0, 1, 2, 3, 4, 5, 6, 7, 8] rfl
  have hPc : va_P D vwCl ((ho, .inl (cJ, 1, .inr (.inl fo))) :: wB cI o0 h0 B0 A0) H := hP.sub [0, 1, 2, 3, 4, 5, 6, 7, 8] rfl
  have hDc : va_D A ((ho, .inl (cJ, 1, .inr (.inl fo))) :: wB cI o0 h0 B0 A0) := hD.sub [0, 1, 2, 3, 4, 5, 6, 7, 8] (by decide) rfl
  refine va_calli (vx_runSW (As := As) (rest := rest) (g := F0 m pc ls st0) S (hM H.size) cw ⟨xBlind, fun U hU hW => ⟨rfl, by rw [hU], by rw [hU]; exact hPc, va_K.moved hW.alike (hK.sub [0, 2] rfl), hDc.weaken (fun _ _ _ _ => trivial), by rw [hU]; exact hE.at hS hFc hW⟩⟩ rfl hn hsize hst (lv_room hW) hdg hc) hS (fun q _ h => hFc q h) hFc (fun r' u t H1 locs1 ht hvm hw hB hz1 hk1 hS1 => ?_)
  obtain ⟨hP1, -, hD1⟩ := hB
  rw [ht] at hP1
  subst hw
  obtain ⟨a1, a2⟩ := va_join (wr := (wR cI cB o1 h1 F1 A1)) hP hD [0, 1, 2, 3, 4, 5, 6, 7, 8] [9, 10, 11, 12, 13] rfl rfl (by decide) (by decide) hk1 hFc hP1 hD1
  exact kk H1 locs1 (a1.sub [5, 6, 7, 8, 9, 10, 11, 12, 13, 0, 1, 2, 3, 4] rfl) (a2.sub [5, 6, 7, 8, 9, 10, 11, 12, 13, 0, 1, 2, 3, 4] (by decide) rfl) hS1
end LC
