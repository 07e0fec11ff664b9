set_option maxHeartbeats 4000000 in
set_option maxRecDepth 100000 in
theorem lc_clear {p : Program} {l : Launch} {e : Env} {s : State} {m : MethodId} {below : List Frame} {meth : Method} {c : Code} {D : va_G} {cI cB cJ : ClassId} {o0 o1 ho b L i t : Nat} {h0 h1 : Nat → Nat} {xs : Nat → Int32} (hL : L ≤ 2048) (C0 : lw_At p s m meth c b L xs) (hst : l.stackTraces = false) (hE : xE (AL s) s s.heap) (hK : va_K D vwCl (LT cI cB cJ) s) (hi : i + 3 < L) (ht : t < 512) (Hp : pb_clear) {B0 : Nat → Int32} {A0 : Nat → Nat → Int32} {F1 : Nat → Int32} {A1 : Nat → Nat → Int32} {fo : Nat → Int64} (hI : Inv B0 A0 F1 A1) (hnext : ∀ (B0 : Nat → Int32) (A0 : Nat → Nat → Int32) (F1 : Nat → Int32) (A1 : Nat → Nat → Int32) (fo : Nat → Int64) (H : Heap) (locs : List Loc) (ls : Array Slot), Inv B0 A0 F1 A1 → va_P D vwCl (LW cI cB cJ o0 h0 o1 h1 ho B0 A0 F1 A1 fo) H → va_D (AL s) (LW cI cB cJ o0 h0 o1 h1 ho B0 A0 F1 A1 fo) → va_S (AL s) s.heap H locs → lv_has ls 8 [(4, .int (nI i)), (0, .ref b), (1, .ref o0), (2, .ref o1), (3, .ref ho)] → W p l e room_1 s m #[Value.ref b] below meth c H locs (15 + t) (45759 + 6 * t) (lw_Z below #[Value.ref b] s) (F0 m 653 ls [])) {H : Heap} {locs : List Loc} {ls : Array Slot} (hP : va_P D vwCl (LW cI cB cJ o0 h0 o1 h1 ho B0 A0 F1 A1 fo) H) (hD : va_D (AL s) (LW cI cB cJ o0 h0 o1 h1 ho B0 A0 F1 A1 fo)) (hS : va_S (AL s) s.heap H locs) (hl : lv_has ls 8 [(4, .int (nI i)), (0, .ref b), (1, .ref o0), (2, .ref o1), (3, .ref ho)]) : W p l e room_1 s m #[Value.ref b] below meth c H locs (14 + t) (45753 + 6 * t) (lw_Z below #[Value.ref b] s) (F0 m 112 ls []) := by
  obtain ⟨hx, hb, hr, hml, hown, hts0, hX, hbl, hlk, hgv⟩ := C0
  have hown : s.vm.findClass RL = some m.cls := hown
  have hts : ∀ w ∈ wsL_law, w.before #[Value.ref b] s = true := fun w h => hts0 w (wsL_law_in w h)
  have hA : ∀ q : Nat, s.heap.size ≤ q → AL s q := fun _ h => h
  have hbA : ¬ AL s b := Nat.not_le.mpr hbl
  refine lv_aload_n hx hb dL_law_112 rfl (lv_at hl 2 rfl) ?_
  refine lBv (As := []) (rest := []) ⟨hx, hb, hml, hown, hts⟩ (mX0_clear l D cI o0 h0 B0 A0   _ rfl) (cwV 0 hts gL_law_X0_clear rfl rfl rfl nX0_clear ⟨Nat.le_of_ble_eq_true rfl, Nat.le_of_ble_eq_true rfl⟩) rfl hl.1 rfl (Nat.le_of_ble_eq_true rfl) dL_law_113 ⟨(show 14 + t ≤ 601024 by omega), (show 45753 + 6 * t ≤ 7293033 by omega)⟩ hK hP hD hS hA (fun H locs hP hD hS => ?_)
  refine lv_aload_n hx hb dL_law_116 rfl (lv_at hl 3 rfl) ?_
  refine lRv (As := []) (rest := []) ⟨hx, hb, hml, hown, hts⟩ (mX1_clear l D cI cB o1 h1 F1 A1   _ rfl) (cwV 0 hts gL_law_X1_clear rfl rfl rfl nX1_clear ⟨Nat.le_of_ble_eq_true rfl, Nat.le_of_ble_eq_true rfl⟩) rfl hl.1 rfl (Nat.le_of_ble_eq_true rfl) dL_law_117 ⟨(show 14 + t ≤ 601024 by omega), (show 45753 + 6 * t ≤ 7293033 by omega)⟩ hK hP hD hS hA (fun H locs hP hD hS => ?_)
  refine lv_goto (tgt := 653) hx hb dL_law_120 (by decide) ?_
  refine W.widen (k := 15 + t) (n := 45759 + 6 * t) (by omega) (by omega) ?_
  exact hnext ((qX0_clear B0 A0).1) ((qX0_clear B0 A0).2) ((qX1_clear F1 A1).1) ((qX1_clear F1 A1).2) fo _ _ ls (Hp B0 A0 F1 A1 hI) hP hD hS (lv_sub hl [0, 1, 2, 3, 4] rfl)
set_option maxHeartbeats 4000000 in
set_option maxRecDepth 100000 in
theorem lc_begin {p : Program} {l : Launch} {e : Env} {s : State} {m : MethodId} {below : List Frame} {meth : Method} {c : Code} {D : va_G} {cI cB cJ : ClassId} {o0 o1 ho b L i t : Nat} {h0 h1 : Nat → Nat} {xs : Nat → Int32} (hL : L ≤ 2048) (C0 : lw_At p s m meth c b L xs) (hst : l.stackTraces = false) (hE : xE (AL s) s s.heap) (hK : va_K D vwCl (LT cI cB cJ) s) (hi : i + 3 < L) (ht : t < 512) (Hp : pb_begin) {B0 : Nat → Int32} {A0 : Nat → Nat → Int32} {F1 : Nat → Int32} {A1 : Nat → Nat → Int32} {fo : Nat → Int64} (hI : Inv B0 A0 F1 A1) (hnext : ∀ (B0 : Nat → Int32) (A0 : Nat → Nat → Int32) (F1 : Nat → Int32) (A1 : Nat → Nat → Int32) (fo : Nat → Int64) (H : Heap) (locs : List Loc) (ls : Array Slot), Inv B0 A0 F1 A1 → va_P D vwCl (LW cI cB cJ o0 h0 o1 h1 ho B0 A0 F1 A1 fo) H → va_D (AL s) (LW cI cB cJ o0 h0 o1 h1 ho B0 A0 F1 A1 fo) → va_S (AL s) s.heap H locs → lv_has ls 8 [(4, .int (nI i)), (0, .ref b), (1, .ref o0), (2, .ref o1), (3, .ref ho)] → W p l e room_1 s m #[Value.ref b] below meth c H locs (15 + t) (45759 + 6 * t) (lw_Z below #[Value.ref b] s) (F0 m 653 ls [])) {H : Heap} {locs : List Loc} {ls : Array Slot} (hP : va_P D vwCl (LW cI cB cJ o0 h0 o1 h1 ho B0 A0 F1 A1 fo) H) (hD : va_D (AL s) (LW cI cB cJ o0 h0 o1 h1 ho B0 A0 F1 A1 fo)) (hS : va_S (AL s) s.heap H locs) (hl : lv_has ls 8 [(4, .int (nI i)), (0, .ref b), (1, .ref o0), (2, .ref o1), (3, .ref ho)]) : W p l e room_1 s m #[Value.ref b] below meth c H locs (14 + t) (45753 + 6 * t) (lw_Z below #[Value.ref b] s) (F0 m 123 ls []) := by
  obtain ⟨hx, hb, hr, hml, hown, hts0, hX, hbl, hlk, hgv⟩ := C0
  have hown : s.vm.findClass RL = some m.cls := hown
  have hts : ∀ w ∈ wsL_law, w.before #[Value.ref b] s = true := fun w h => hts0 w (wsL_law_in w h)
  have hA : ∀ q : Nat, s.heap.size ≤ q → AL s q := fun _ h => h
  have hbA : ¬ AL s b := Nat.not_le.mpr hbl
  refine lv_aload_n hx hb dL_law_123 rfl (lv_at hl 2 rfl) ?_
  refine lBe (As := []) (rest := []) ⟨hx, hb, hml, hown, hts⟩ (mX0_begin l D cI o0 h0 B0 A0   _ rfl) (cwV 0 hts gL_law_X0_begin rfl rfl rfl nX0_begin ⟨Nat.le_of_ble_eq_true rfl, Nat.le_of_ble_eq_true rfl⟩) rfl hl.1 rfl (Nat.le_of_ble_eq_true rfl) dL_law_124 ⟨(show 14 + t ≤ 601024 by omega), (show 45753 + 6 * t ≤ 7293033 by omega)⟩ hK hP hD hS hA hE (fun H locs hP hD hS => ?_)
  refine lv_aload_n hx hb dL_law_127 rfl (lv_at hl 3 rfl) ?_
  refine lRv (As := []) (rest := []) ⟨hx, hb, hml, hown, hts⟩ (mX1_begin l D cI cB o1 h1 F1 A1   _ rfl) (cwV 0 hts gL_law_X1_begin rfl rfl rfl nX1_begin ⟨Nat.le_of_ble_eq_true rfl, Nat.le_of_ble_eq_true rfl⟩) rfl hl.1 rfl (Nat.le_of_ble_eq_true rfl) dL_law_128 ⟨(show 14 + t ≤ 601024 by omega), (show 45753 + 6 * t ≤ 7293033 by omega)⟩ hK hP hD hS hA (fun H locs hP hD hS => ?_)
  refine lv_goto (tgt := 653) hx hb dL_law_131 (by decide) ?_
  refine W.widen (k := 15 + t) (n := 45759 + 6 * t) (by omega) (by omega) ?_
  exact hnext ((qX0_begin B0 A0).1) ((qX0_begin B0 A0).2) ((qX1_begin F1 A1).1) ((qX1_begin F1 A1).2) fo _ _ ls (Hp B0 A0 F1 A1 hI) hP hD hS (lv_sub hl [0, 1, 2, 3, 4] rfl)
set_option maxHeartbeats 4000000 in
set_option maxRecDepth 100000 in
theorem lc_put {p : Program} {l : Launch} {e : Env} {s : State} {m : MethodId} {below : List Frame} {meth : Method} {c : Code} {D : va_G} {cI cB cJ : ClassId} {o0 o1 ho b L i t : Nat} {h0 h1 : Nat → Nat} {xs : Nat → Int32} (hL : L ≤ 2048) (C0 : lw_At p s m meth c b L xs) (hst : l.stackTraces = false) (hE : xE (AL s) s s.heap) (hK : va_K D vwCl (LT cI cB cJ) s) (hi : i + 3 < L) (ht : t < 512) (Hp : pb_put) {B0 : Nat → Int32} {A0 : Nat → Nat → Int32} {F1 : Nat → Int32} {A1 : Nat → Nat → Int32} {fo : Nat → Int64} (hI : Inv B0 A0 F1 A1) (hnext : ∀ (B0 : Nat → Int32) (A0 : Nat → Nat → Int32) (F1 : Nat → Int32) (A1 : Nat → Nat → Int32) (fo : Nat → Int64) (H : Heap) (locs : List Loc) (ls : Array Slot), Inv B0 A0 F1 A1 → va_P D vwCl (LW cI cB cJ o0 h0 o1 h1 ho B0 A0 F1 A1 fo) H → va_D (AL s) (LW cI cB cJ o0 h0 o1 h1 ho B0 A0 F1 A1 fo) → va_S (AL s) s.heap H locs → lv_has ls 8 [(4, .int (nI i)), (0, .ref b), (1, .ref o0), (2, .ref o1), (3, .ref ho)] → W p l e room_1 s m #[Value.ref b] below meth c H locs (15 + t) (45759 + 6 * t) (lw_Z below #[Value.ref b] s) (F0 m 653 ls [])) {H : Heap} {locs : List Loc} {ls : Array Slot} (hP : va_P D vwCl (LW cI cB cJ o0 h0 o1 h1 ho B0 A0 F1 A1 fo) H) (hD : va_D (AL s) (LW cI cB cJ o0 h0 o1 h1 ho B0 A0 F1 A1 fo)) (hS : va_S (AL s) s.heap H locs) (hl : lv_has ls 8 [(4, .int (nI i)), (0, .ref b), (1, .ref o0), (2, .ref o1), (3, .ref ho)]) : W p l e room_1 s m #[Value.ref b] below meth c H locs (14 + t) (45753 + 6 * t) (lw_Z below #[Value.ref b] s) (F0 m 134 ls []) := by
  obtain ⟨hx, hb, hr, hml, hown, hts0, hX, hbl, hlk, hgv⟩ := C0
  have hown : s.vm.findClass RL = some m.cls := hown
  have hts : ∀ w ∈ wsL_law, w.before #[Value.ref b] s = true := fun w h => hts0 w (wsL_law_in w h)
  have hA : ∀ q : Nat, s.heap.size ≤ q → AL s q := fun _ h => h
  have hbA : ¬ AL s b := Nat.not_le.mpr hbl
  refine lv_aload_n hx hb dL_law_134 rfl (lv_at hl 2 rfl) ?_
  refine lv_aload_n hx hb dL_law_135 rfl (lv_at hl 1 rfl) ?_
  refine lv_iload hx hb dL_law_136 (lv_at hl 0 rfl) ?_
  refine lv_iconst (v := 1) hx hb dL_law_138 (by decide) ?_
  refine lv_iadd hx hb dL_law_139 ?_
  refine va_sld hx hb hX hbl hbA hS (in_sc (i := i) 1 (by omega) hL) dL_law_140 ?_
  refine lv_aload_n hx hb dL_law_141 rfl (lv_at hl 1 rfl) ?_
  refine lv_iload hx hb dL_law_142 (lv_at hl 0 rfl) ?_
  refine lv_iconst (v := 2) hx hb dL_law_144 (by decide) ?_
  refine lv_iadd hx hb dL_law_145 ?_
  refine va_sld hx hb hX hbl hbA hS (in_sc (i := i) 2 (by omega) hL) dL_law_146 ?_
  have hz := mL_put l D cI o0 h0 B0 A0 (xs (Int32.toNatClampNeg (nI i + 1))) (xs (Int32.toNatClampNeg (nI i + 2))) (mX0_put l D hst cI o0 h0 B0 A0 (xs (Int32.toNatClampNeg (nI i + 1))) (xs (Int32.toNatClampNeg (nI i + 2)))  _ rfl) (Hp B0 A0 F1 A1 (xs (Int32.toNatClampNeg (nI i + 1))) (xs (Int32.toNatClampNeg (nI i + 2))) hI).1
  rw [wAft (u := (qX0_put B0 A0 (xs (Int32.toNatClampNeg (nI i + 1))) (xs (Int32.toNatClampNeg (nI i + 2)))).1) (r := (qX0_put B0 A0 (xs (Int32.toNatClampNeg (nI i + 1))) (xs (Int32.toNatClampNeg (nI i + 2)))).2)] at hz
  refine lH (As := [.ref o0, .int (xs (Int32.toNatClampNeg (nI i + 1))), .int (xs (Int32.toNatClampNeg (nI i + 2)))]) (rest := []) ⟨hx, hb, hml, hown, hts⟩ hz (vx_cwSW 3 hts gL_law_L_put rfl rfl rfl nL_put ⟨Nat.le_of_ble_eq_true rfl, Nat.le_of_ble_eq_true rfl⟩) rfl hl.1 rfl (Nat.le_of_ble_eq_true rfl) dL_law_147 ⟨(show 14 + t + 1 ≤ 601024 by omega), (show 45753 + 6 * t + 6 ≤ 7293033 by omega)⟩ hK hP hD hS hA hE (fun H locs hP hD hS => ?_)
  refine lv_istore (lv' := [(5, .int (if (qX0_put B0 A0 (xs (Int32.toNatClampNeg (nI i + 1))) (xs (Int32.toNatClampNeg (nI i + 2)))).1 = 0 then 0 else (if (qX0_put B0 A0 (xs (Int32.toNatClampNeg (nI i + 1))) (xs (Int32.toNatClampNeg (nI i + 2)))).1 = 1 then 1 else (if (qX0_put B0 A0 (xs (Int32.toNatClampNeg (nI i + 1))) (xs (Int32.toNatClampNeg (nI i + 2)))).1 = 2 then 2 else 3)))), (4, .int (nI i)), (0, .ref b), (1, .ref o0), (2, .ref o1), (3, .ref ho)]) hx hb dL_law_150 hl (by decide) rfl (fun ls hl => ?_)
  refine lv_aload_n hx hb dL_law_152 rfl (lv_at hl 4 rfl) ?_
  refine lv_aload_n hx hb dL_law_153 rfl (lv_at hl 2 rfl) ?_
  refine lv_iload hx hb dL_law_154 (lv_at hl 1 rfl) ?_
  refine lv_iconst (v := 1) hx hb dL_law_156 (by decide) ?_
  refine lv_iadd hx hb dL_law_157 ?_
  refine va_sld hx hb hX hbl hbA hS (in_sc (i := i) 1 (by omega) hL) dL_law_158 ?_
  refine lv_aload_n hx hb dL_law_159 rfl (lv_at hl 2 rfl) ?_
  refine lv_iload hx hb dL_law_160 (lv_at hl 1 rfl) ?_
  refine lv_iconst (v := 2) hx hb dL_law_162 (by decide) ?_
  refine lv_iadd hx hb dL_law_163 ?_
  refine va_sld hx hb hX hbl hbA hS (in_sc (i := i) 2 (by omega) hL) dL_law_164 ?_
  refine lRv (As := [.int (xs (Int32.toNatClampNeg (nI i + 1))), .int (xs (Int32.toNatClampNeg (nI i + 2)))]) (rest := []) ⟨hx, hb, hml, hown, hts⟩ (mX1_put l D cI cB o1 h1 F1 A1 (xs (Int32.toNatClampNeg (nI i + 1))) (xs (Int32.toNatClampNeg (nI i + 2)))  _ rfl) (cwV 2 hts gL_law_X1_put rfl rfl rfl nX1_put ⟨Nat.le_of_ble_eq_true rfl, Nat.le_of_ble_eq_true rfl⟩) rfl hl.1 rfl (Nat.le_of_ble_eq_true rfl) dL_law_165 ⟨(show 14 + t + 1 ≤ 601024 by omega), (show 45753 + 6 * t + 6 ≤ 7293033 by omega)⟩ hK hP hD hS hA (fun H locs hP hD hS => ?_)
  refine lv_aload_n hx hb dL_law_168 rfl (lv_at hl 4 rfl) ?_
  refine lRi (As := []) (rest := []) ⟨hx, hb, hml, hown, hts⟩ (mX1_thrown l D cI cB o1 h1 ((qX1_put F1 A1 (xs (Int32.toNatClampNeg (nI i + 1))) (xs (Int32.toNatClampNeg (nI i + 2)))).1) ((qX1_put F1 A1 (xs (Int32.toNatClampNeg (nI i + 1))) (xs (Int32.toNatClampNeg (nI i + 2)))).2)   _ rfl) (cwV 0 hts gL_law_X1_thrown rfl rfl rfl nX1_thrown ⟨Nat.le_of_ble_eq_true rfl, Nat.le_of_ble_eq_true rfl⟩) rfl hl.1 rfl (Nat.le_of_ble_eq_true rfl) dL_law_169 ⟨(show 14 + t + 1 ≤ 601024 by omega), (show 45753 + 6 * t + 6 ≤ 7293033 by omega)⟩ hK hP hD hS hA (fun H locs hP hD hS => ?_)
  refine lv_iload hx hb dL_law_172 (lv_at hl 0 rfl) ?_
  refine lv_icmp_eq (tgt := 179) hx hb dL_law_174 (by decide) (fun c174 => ?_) (fun c174 => ?_)
  rotate_left
  · exact absurd (Hp B0 A0 F1 A1 (xs (Int32.toNatClampNeg (nI i + 1))) (xs (Int32.toNatClampNeg (nI i + 2))) hI).2.1 c174
  refine lv_goto (tgt := 653) hx hb dL_law_179 (by decide) ?_
  refine W.widen (k := 15 + t) (n := 45759 + 6 * t) (by omega) (by omega) ?_
  exact hnext ((aft (qX0_put B0 A0 (xs (Int32.toNatClampNeg (nI i + 1))) (xs (Int32.toNatClampNeg (nI i + 2)))).1 (qX0_put B0 A0 (xs (Int32.toNatClampNeg (nI i + 1))) (xs (Int32.toNatClampNeg (nI i + 2)))).2 B0 A0).1) ((aft (qX0_put B0 A0 (xs (Int32.toNatClampNeg (nI i + 1))) (xs (Int32.toNatClampNeg (nI i + 2)))).1 (qX0_put B0 A0 (xs (Int32.toNatClampNeg (nI i + 1))) (xs (Int32.toNatClampNeg (nI i + 2)))).2 B0 A0).2) ((qX1_put F1 A1 (xs (Int32.toNatClampNeg (nI i + 1))) (xs (Int32.toNatClampNeg (nI i + 2)))).1) ((qX1_put F1 A1 (xs (Int32.toNatClampNeg (nI i + 1))) (xs (Int32.toNatClampNeg (nI i + 2)))).2) fo _ _ ls (Hp B0 A0 F1 A1 (xs (Int32.toNatClampNeg (nI i + 1))) (xs (Int32.toNatClampNeg (nI i + 2))) hI).2.2 hP hD hS (lv_sub hl [1, 2, 3, 4, 5] rfl)
set_option maxHeartbeats 4000000 in
set_option maxRecDepth 100000 in
theorem lc_state {p : Program} {l : Launch} {e : Env} {s : State} {m : MethodId} {below : List Frame} {meth : Method} {c : Code} {D : va_G} {cI cB cJ : ClassId} {o0 o1 ho b L i t : Nat} {h0 h1 : Nat → Nat} {xs : Nat → Int32} (hL : L ≤ 2048) (C0 : lw_At p s m meth c b L xs) (hst : l.stackTraces = false) (hE : xE (AL s) s s.heap) (hK : va_K D vwCl (LT cI cB cJ) s) (hi : i + 3 < L) (ht : t < 512) (Hp : pb_state) {B0 : Nat → Int32} {A0 : Nat → Nat → Int32} {F1 : Nat → Int32} {A1 : Nat → Nat → Int32} {fo : Nat → Int64} (hI : Inv B0 A0 F1 A1) (hnext : ∀ (B0 : Nat → Int32) (A0 : Nat → Nat → Int32) (F1 : Nat → Int32) (A1 : Nat → Nat → Int32) (fo : Nat → Int64) (H : Heap) (locs : List Loc) (ls : Array Slot), Inv B0 A0 F1 A1 → va_P D vwCl (LW cI cB cJ o0 h0 o1 h1 ho B0 A0 F1 A1 fo) H → va_D (AL s) (LW cI cB cJ o0 h0 o1 h1 ho B0 A0 F1 A1 fo) → va_S (AL s) s.heap H locs → lv_has ls 8 [(4, .int (nI i)), (0, .ref b), (1, .ref o0), (2, .ref o1), (3, .ref ho)] → W p l e room_1 s m #[Value.ref b] below meth c H locs (15 + t) (45759 + 6 * t) (lw_Z below #[Value.ref b] s) (F0 m 653 ls [])) {H : Heap} {locs : List Loc} {ls : Array Slot} (hP : va_P D vwCl (LW cI cB cJ o0 h0 o1 h1 ho B0 A0 F1 A1 fo) H) (hD : va_D (AL s) (LW cI cB cJ o0 h0 o1 h1 ho B0 A0 F1 A1 fo)) (hS : va_S (AL s) s.heap H locs) (hl : lv_has ls 8 [(4, .int (nI i)), (0, .ref b), (1, .ref o0), (2, .ref o1), (3, .ref ho)]) : W p l e room_1 s m #[Value.ref b] below meth c H locs (14 + t) (45753 + 6 * t) (lw_Z below #[Value.ref b] s) (F0 m 182 ls []) := by
  obtain ⟨hx, hb, hr, hml, hown, hts0, hX, hbl, hlk, hgv⟩ := C0
  have hown : s.vm.findClass RL = some m.cls := hown
  have hts : ∀ w ∈ wsL_law, w.before #[Value.ref b] s = true := fun w h => hts0 w (wsL_law_in w h)
  have hA : ∀ q : Nat, s.heap.size ≤ q → AL s q := fun _ h => h
  have hbA : ¬ AL s b := Nat.not_le.mpr hbl
  refine lv_aload_n hx hb dL_law_182 rfl (lv_at hl 2 rfl) ?_
  refine lv_aload_n hx hb dL_law_183 rfl (lv_at hl 1 rfl) ?_
  refine lv_iload hx hb dL_law_184 (lv_at hl 0 rfl) ?_
  refine lv_iconst (v := 1) hx hb dL_law_186 (by decide) ?_
  refine lv_iadd hx hb dL_law_187 ?_
  refine va_sld hx hb hX hbl hbA hS (in_sc (i := i) 1 (by omega) hL) dL_law_188 ?_
  refine lv_aload_n hx hb dL_law_189 rfl (lv_at hl 1 rfl) ?_
  refine lv_iload hx hb dL_law_190 (lv_at hl 0 rfl) ?_
  refine lv_iconst (v := 2) hx hb dL_law_192 (by decide) ?_
  refine lv_iadd hx hb dL_law_193 ?_
  refine va_sld hx hb hX hbl hbA hS (in_sc (i := i) 2 (by omega) hL) dL_law_194 ?_
  refine lv_aload_n hx hb dL_law_195 rfl (lv_at hl 1 rfl) ?_
  refine lv_iload hx hb dL_law_196 (lv_at hl 0 rfl) ?_
  refine lv_iconst (v := 3) hx hb dL_law_198 (by decide) ?_
  refine lv_iadd hx hb dL_law_199 ?_
  refine va_sld hx hb hX hbl hbA hS (in_sc (i := i) 3 (by omega) hL) dL_law_200 ?_
  have hz := mL_state l D cI o0 h0 B0 A0 (xs (Int32.toNatClampNeg (nI i + 1))) (xs (Int32.toNatClampNeg (nI i + 2))) (xs (Int32.toNatClampNeg (nI i + 3))) (mX0_state l D hst cI o0 h0 B0 A0 (xs (Int32.toNatClampNeg (nI i + 1))) (xs (Int32.toNatClampNeg (nI i + 2))) (xs (Int32.toNatClampNeg (nI i + 3)))  _ rfl) (Hp B0 A0 F1 A1 (xs (Int32.toNatClampNeg (nI i + 1))) (xs (Int32.toNatClampNeg (nI i + 2))) (xs (Int32.toNatClampNeg (nI i + 3))) hI).1
  rw [wAft (u := (qX0_state B0 A0 (xs (Int32.toNatClampNeg (nI i + 1))) (xs (Int32.toNatClampNeg (nI i + 2))) (xs (Int32.toNatClampNeg (nI i + 3)))).1) (r := (qX0_state B0 A0 (xs (Int32.toNatClampNeg (nI i + 1))) (xs (Int32.toNatClampNeg (nI i + 2))) (xs (Int32.toNatClampNeg (nI i + 3)))).2)] at hz
  refine lH (As := [.ref o0, .int (xs (Int32.toNatClampNeg (nI i + 1))), .int (xs (Int32.toNatClampNeg (nI i + 2))), .int (xs (Int32.toNatClampNeg (nI i + 3)))]) (rest := []) ⟨hx, hb, hml, hown, hts⟩ hz (vx_cwSW 4 hts gL_law_L_state rfl rfl rfl nL_state ⟨Nat.le_of_ble_eq_true rfl, Nat.le_of_ble_eq_true rfl⟩) rfl hl.1 rfl (Nat.le_of_ble_eq_true rfl) dL_law_201 ⟨(show 14 + t + 1 ≤ 601024 by omega), (show 45753 + 6 * t + 6 ≤ 7293033 by omega)⟩ hK hP hD hS hA hE (fun H locs hP hD hS => ?_)
  refine lv_istore (lv' := [(5, .int (if (qX0_state B0 A0 (xs (Int32.toNatClampNeg (nI i + 1))) (xs (Int32.toNatClampNeg (nI i + 2))) (xs (Int32.toNatClampNeg (nI i + 3)))).1 = 0 then 0 else 1)), (4, .int (nI i)), (0, .ref b), (1, .ref o0), (2, .ref o1), (3, .ref ho)]) hx hb dL_law_204 hl (by decide) rfl (fun ls hl => ?_)
  refine lv_aload_n hx hb dL_law_206 rfl (lv_at hl 4 rfl) ?_
  refine lv_aload_n hx hb dL_law_207 rfl (lv_at hl 2 rfl) ?_
  refine lv_iload hx hb dL_law_208 (lv_at hl 1 rfl) ?_
  refine lv_iconst (v := 1) hx hb dL_law_210 (by decide) ?_
  refine lv_iadd hx hb dL_law_211 ?_
  refine va_sld hx hb hX hbl hbA hS (in_sc (i := i) 1 (by omega) hL) dL_law_212 ?_
  refine lv_aload_n hx hb dL_law_213 rfl (lv_at hl 2 rfl) ?_
  refine lv_iload hx hb dL_law_214 (lv_at hl 1 rfl) ?_
  refine lv_iconst (v := 2) hx hb dL_law_216 (by decide) ?_
  refine lv_iadd hx hb dL_law_217 ?_
  refine va_sld hx hb hX hbl hbA hS (in_sc (i := i) 2 (by omega) hL) dL_law_218 ?_
  refine lv_aload_n hx hb dL_law_219 rfl (lv_at hl 2 rfl) ?_
  refine lv_iload hx hb dL_law_220 (lv_at hl 1 rfl) ?_
  refine lv_iconst (v := 3) hx hb dL_law_222 (by decide) ?_
  refine lv_iadd hx hb dL_law_223 ?_
  refine va_sld hx hb hX hbl hbA hS (in_sc (i := i) 3 (by omega) hL) dL_law_224 ?_
  refine lRv (As := [.int (xs (Int32.toNatClampNeg (nI i + 1))), .int (xs (Int32.toNatClampNeg (nI i + 2))), .int (xs (Int32.toNatClampNeg (nI i + 3)))]) (rest := []) ⟨hx, hb, hml, hown, hts⟩ (mX1_state l D cI cB o1 h1 F1 A1 (xs (Int32.toNatClampNeg (nI i + 1))) (xs (Int32.toNatClampNeg (nI i + 2))) (xs (Int32.toNatClampNeg (nI i + 3)))  _ rfl) (cwV 3 hts gL_law_X1_state rfl rfl rfl nX1_state ⟨Nat.le_of_ble_eq_true rfl, Nat.le_of_ble_eq_true rfl⟩) rfl hl.1 rfl (Nat.le_of_ble_eq_true rfl) dL_law_225 ⟨(show 14 + t + 1 ≤ 601024 by omega), (show 45753 + 6 * t + 6 ≤ 7293033 by omega)⟩ hK hP hD hS hA (fun H locs hP hD hS => ?_)
  refine lv_aload_n hx hb dL_law_228 rfl (lv_at hl 4 rfl) ?_
  refine lRi (As := []) (rest := []) ⟨hx, hb, hml, hown, hts⟩ (mX1_thrown l D cI cB o1 h1 ((qX1_state F1 A1 (xs (Int32.toNatClampNeg (nI i + 1))) (xs (Int32.toNatClampNeg (nI i + 2))) (xs (Int32.toNatClampNeg (nI i + 3)))).1) ((qX1_state F1 A1 (xs (Int32.toNatClampNeg (nI i + 1))) (xs (Int32.toNatClampNeg (nI i + 2))) (xs (Int32.toNatClampNeg (nI i + 3)))).2)   _ rfl) (cwV 0 hts gL_law_X1_thrown rfl rfl rfl nX1_thrown ⟨Nat.le_of_ble_eq_true rfl, Nat.le_of_ble_eq_true rfl⟩) rfl hl.1 rfl (Nat.le_of_ble_eq_true rfl) dL_law_229 ⟨(show 14 + t + 1 ≤ 601024 by omega), (show 45753 + 6 * t + 6 ≤ 7293033 by omega)⟩ hK hP hD hS hA (fun H locs hP hD hS => ?_)
  refine lv_iload hx hb dL_law_232 (lv_at hl 0 rfl) ?_
  refine lv_icmp_eq (tgt := 239) hx hb dL_law_234 (by decide) (fun c234 => ?_) (fun c234 => ?_)
  rotate_left
  · exact absurd (Hp B0 A0 F1 A1 (xs (Int32.toNatClampNeg (nI i + 1))) (xs (Int32.toNatClampNeg (nI i + 2))) (xs (Int32.toNatClampNeg (nI i + 3))) hI).2.1 c234
  refine lv_goto (tgt := 653) hx hb dL_law_239 (by decide) ?_
  refine W.widen (k := 15 + t) (n := 45759 + 6 * t) (by omega) (by omega) ?_
  exact hnext ((aft (qX0_state B0 A0 (xs (Int32.toNatClampNeg (nI i + 1))) (xs (Int32.toNatClampNeg (nI i + 2))) (xs (Int32.toNatClampNeg (nI i + 3)))).1 (qX0_state B0 A0 (xs (Int32.toNatClampNeg (nI i + 1))) (xs (Int32.toNatClampNeg (nI i + 2))) (xs (Int32.toNatClampNeg (nI i + 3)))).2 B0 A0).1) ((aft (qX0_state B0 A0 (xs (Int32.toNatClampNeg (nI i + 1))) (xs (Int32.toNatClampNeg (nI i + 2))) (xs (Int32.toNatClampNeg (nI i + 3)))).1 (qX0_state B0 A0 (xs (Int32.toNatClampNeg (nI i + 1))) (xs (Int32.toNatClampNeg (nI i + 2))) (xs (Int32.toNatClampNeg (nI i + 3)))).2 B0 A0).2) ((qX1_state F1 A1 (xs (Int32.toNatClampNeg (nI i + 1))) (xs (Int32.toNatClampNeg (nI i + 2))) (xs (Int32.toNatClampNeg (nI i + 3)))).1) ((qX1_state F1 A1 (xs (Int32.toNatClampNeg (nI i + 1))) (xs (Int32.toNatClampNeg (nI i + 2))) (xs (Int32.toNatClampNeg (nI i + 3)))).2) fo _ _ ls (Hp B0 A0 F1 A1 (xs (Int32.toNatClampNeg (nI i + 1))) (xs (Int32.toNatClampNeg (nI i + 2))) (xs (Int32.toNatClampNeg (nI i + 3))) hI).2.2 hP hD hS (lv_sub hl [1, 2, 3, 4, 5] rfl)
set_option maxHeartbeats 4000000 in
set_option maxRecDepth 100000 in
theorem lc_clocks {p : Program} {l : Launch} {e : Env} {s : State} {m : MethodId} {below : List Frame} {meth : Method} {c : Code} {D : va_G} {cI cB cJ : ClassId} {o0 o1 ho b L i t : Nat} {h0 h1 : Nat → Nat} {xs : Nat → Int32} (hL : L ≤ 2048) (C0 : lw_At p s m meth c b L xs) (hst : l.stackTraces = false) (hE : xE (AL s) s s.heap) (hK : va_K D vwCl (LT cI cB cJ) s) (hi : i + 3 < L) (ht : t < 512) (Hp : pb_clocks) {B0 : Nat → Int32} {A0 : Nat → Nat → Int32} {F1 : Nat → Int32} {A1 : Nat → Nat → Int32} {fo : Nat → Int64} (hI : Inv B0 A0 F1 A1) (hnext : ∀ (B0 : Nat → Int32) (A0 : Nat → Nat → Int32) (F1 : Nat → Int32) (A1 : Nat → Nat → Int32) (fo : Nat → Int64) (H : Heap) (locs : List Loc) (ls : Array Slot), Inv B0 A0 F1 A1 → va_P D vwCl (LW cI cB cJ o0 h0 o1 h1 ho B0 A0 F1 A1 fo) H → va_D (AL s) (LW cI cB cJ o0 h0 o1 h1 ho B0 A0 F1 A1 fo) → va_S (AL s) s.heap H locs → lv_has ls 8 [(4, .int (nI i)), (0, .ref b), (1, .ref o0), (2, .ref o1), (3, .ref ho)] → W p l e room_1 s m #[Value.ref b] below meth c H locs (15 + t) (45759 + 6 * t) (lw_Z below #[Value.ref b] s) (F0 m 653 ls [])) {H : Heap} {locs : List Loc} {ls : Array Slot} (hP : va_P D vwCl (LW cI cB cJ o0 h0 o1 h1 ho B0 A0 F1 A1 fo) H) (hD : va_D (AL s) (LW cI cB cJ o0 h0 o1 h1 ho B0 A0 F1 A1 fo)) (hS : va_S (AL s) s.heap H locs) (hl : lv_has ls 8 [(4, .int (nI i)), (0, .ref b), (1, .ref o0), (2, .ref o1), (3, .ref ho)]) : W p l e room_1 s m #[Value.ref b] below meth c H locs (14 + t) (45753 + 6 * t) (lw_Z below #[Value.ref b] s) (F0 m 242 ls []) := by
  obtain ⟨hx, hb, hr, hml, hown, hts0, hX, hbl, hlk, hgv⟩ := C0
  have hown : s.vm.findClass RL = some m.cls := hown
  have hts : ∀ w ∈ wsL_law, w.before #[Value.ref b] s = true := fun w h => hts0 w (wsL_law_in w h)
  have hA : ∀ q : Nat, s.heap.size ≤ q → AL s q := fun _ h => h
  have hbA : ¬ AL s b := Nat.not_le.mpr hbl
  refine lv_aload_n hx hb dL_law_242 rfl (lv_at hl 2 rfl) ?_
  refine lv_aload_n hx hb dL_law_243 rfl (lv_at hl 1 rfl) ?_
  refine lv_iload hx hb dL_law_244 (lv_at hl 0 rfl) ?_
  refine lv_iconst (v := 1) hx hb dL_law_246 (by decide) ?_
  refine lv_iadd hx hb dL_law_247 ?_
  refine va_sld hx hb hX hbl hbA hS (in_sc (i := i) 1 (by omega) hL) dL_law_248 ?_
  refine lv_aload_n hx hb dL_law_249 rfl (lv_at hl 1 rfl) ?_
  refine lv_iload hx hb dL_law_250 (lv_at hl 0 rfl) ?_
  refine lv_iconst (v := 2) hx hb dL_law_252 (by decide) ?_
  refine lv_iadd hx hb dL_law_253 ?_
  refine va_sld hx hb hX hbl hbA hS (in_sc (i := i) 2 (by omega) hL) dL_law_254 ?_
  have hz := mL_clocks l D cI o0 h0 B0 A0 (xs (Int32.toNatClampNeg (nI i + 1))) (xs (Int32.toNatClampNeg (nI i + 2))) (mX0_clocks l D hst cI o0 h0 B0 A0 (xs (Int32.toNatClampNeg (nI i + 1))) (xs (Int32.toNatClampNeg (nI i + 2)))  _ rfl) (Hp B0 A0 F1 A1 (xs (Int32.toNatClampNeg (nI i + 1))) (xs (Int32.toNatClampNeg (nI i + 2))) hI).1
  rw [wAft (u := (qX0_clocks B0 A0 (xs (Int32.toNatClampNeg (nI i + 1))) (xs (Int32.toNatClampNeg (nI i + 2)))).1) (r := (qX0_clocks B0 A0 (xs (Int32.toNatClampNeg (nI i + 1))) (xs (Int32.toNatClampNeg (nI i + 2)))).2)] at hz
  refine lH (As := [.ref o0, .int (xs (Int32.toNatClampNeg (nI i + 1))), .int (xs (Int32.toNatClampNeg (nI i + 2)))]) (rest := []) ⟨hx, hb, hml, hown, hts⟩ hz (vx_cwSW 3 hts gL_law_L_clocks rfl rfl rfl nL_clocks ⟨Nat.le_of_ble_eq_true rfl, Nat.le_of_ble_eq_true rfl⟩) rfl hl.1 rfl (Nat.le_of_ble_eq_true rfl) dL_law_255 ⟨(show 14 + t + 1 ≤ 601024 by omega), (show 45753 + 6 * t + 6 ≤ 7293033 by omega)⟩ hK hP hD hS hA hE (fun H locs hP hD hS => ?_)
  refine lv_istore (lv' := [(5, .int (if (qX0_clocks B0 A0 (xs (Int32.toNatClampNeg (nI i + 1))) (xs (Int32.toNatClampNeg (nI i + 2)))).1 = 0 then 0 else 1)), (4, .int (nI i)), (0, .ref b), (1, .ref o0), (2, .ref o1), (3, .ref ho)]) hx hb dL_law_258 hl (by decide) rfl (fun ls hl => ?_)
  refine lv_aload_n hx hb dL_law_260 rfl (lv_at hl 4 rfl) ?_
  refine lv_aload_n hx hb dL_law_261 rfl (lv_at hl 2 rfl) ?_
  refine lv_iload hx hb dL_law_262 (lv_at hl 1 rfl) ?_
  refine lv_iconst (v := 1) hx hb dL_law_264 (by decide) ?_
  refine lv_iadd hx hb dL_law_265 ?_
  refine va_sld hx hb hX hbl hbA hS (in_sc (i := i) 1 (by omega) hL) dL_law_266 ?_
  refine lv_aload_n hx hb dL_law_267 rfl (lv_at hl 2 rfl) ?_
  refine lv_iload hx hb dL_law_268 (lv_at hl 1 rfl) ?_
  refine lv_iconst (v := 2) hx hb dL_law_270 (by decide) ?_
  refine lv_iadd hx hb dL_law_271 ?_
  refine va_sld hx hb hX hbl hbA hS (in_sc (i := i) 2 (by omega) hL) dL_law_272 ?_
  refine lRv (As := [.int (xs (Int32.toNatClampNeg (nI i + 1))), .int (xs (Int32.toNatClampNeg (nI i + 2)))]) (rest := []) ⟨hx, hb, hml, hown, hts⟩ (mX1_clocks l D cI cB o1 h1 F1 A1 (xs (Int32.toNatClampNeg (nI i + 1))) (xs (Int32.toNatClampNeg (nI i + 2)))  _ rfl) (cwV 2 hts gL_law_X1_clocks rfl rfl rfl nX1_clocks ⟨Nat.le_of_ble_eq_true rfl, Nat.le_of_ble_eq_true rfl⟩) rfl hl.1 rfl (Nat.le_of_ble_eq_true rfl) dL_law_273 ⟨(show 14 + t + 1 ≤ 601024 by omega), (show 45753 + 6 * t + 6 ≤ 7293033 by omega)⟩ hK hP hD hS hA (fun H locs hP hD hS => ?_)
  refine lv_aload_n hx hb dL_law_276 rfl (lv_at hl 4 rfl) ?_
  refine lRi (As := []) (rest := []) ⟨hx, hb, hml, hown, hts⟩ (mX1_thrown l D cI cB o1 h1 ((qX1_clocks F1 A1 (xs (Int32.toNatClampNeg (nI i + 1))) (xs (Int32.toNatClampNeg (nI i + 2)))).1) ((qX1_clocks F1 A1 (xs (Int32.toNatClampNeg (nI i + 1))) (xs (Int32.toNatClampNeg (nI i + 2)))).2)   _ rfl) (cwV 0 hts gL_law_X1_thrown rfl rfl rfl nX1_thrown ⟨Nat.le_of_ble_eq_true rfl, Nat.le_of_ble_eq_true rfl⟩) rfl hl.1 rfl (Nat.le_of_ble_eq_true rfl) dL_law_277 ⟨(show 14 + t + 1 ≤ 601024 by omega), (show 45753 + 6 * t + 6 ≤ 7293033 by omega)⟩ hK hP hD hS hA (fun H locs hP hD hS => ?_)
  refine lv_iload hx hb dL_law_280 (lv_at hl 0 rfl) ?_
  refine lv_icmp_eq (tgt := 287) hx hb dL_law_282 (by decide) (fun c282 => ?_) (fun c282 => ?_)
  rotate_left
  · exact absurd (Hp B0 A0 F1 A1 (xs (Int32.toNatClampNeg (nI i + 1))) (xs (Int32.toNatClampNeg (nI i + 2))) hI).2.1 c282
  refine lv_goto (tgt := 653) hx hb dL_law_287 (by decide) ?_
  refine W.widen (k := 15 + t) (n := 45759 + 6 * t) (by omega) (by omega) ?_
  exact hnext ((aft (qX0_clocks B0 A0 (xs (Int32.toNatClampNeg (nI i + 1))) (xs (Int32.toNatClampNeg (nI i + 2)))).1 (qX0_clocks B0 A0 (xs (Int32.toNatClampNeg (nI i + 1))) (xs (Int32.toNatClampNeg (nI i + 2)))).2 B0 A0).1) ((aft (qX0_clocks B0 A0 (xs (Int32.toNatClampNeg (nI i + 1))) (xs (Int32.toNatClampNeg (nI i + 2)))).1 (qX0_clocks B0 A0 (xs (Int32.toNatClampNeg (nI i + 1))) (xs (Int32.toNatClampNeg (nI i + 2)))).2 B0 A0).2) ((qX1_clocks F1 A1 (xs (Int32.toNatClampNeg (nI i + 1))) (xs (Int32.toNatClampNeg (nI i + 2)))).1) ((qX1_clocks F1 A1 (xs (Int32.toNatClampNeg (nI i + 1))) (xs (Int32.toNatClampNeg (nI i + 2)))).2) fo _ _ ls (Hp B0 A0 F1 A1 (xs (Int32.toNatClampNeg (nI i + 1))) (xs (Int32.toNatClampNeg (nI i + 2))) hI).2.2 hP hD hS (lv_sub hl [1, 2, 3, 4, 5] rfl)
set_option maxHeartbeats 4000000 in
set_option maxRecDepth 100000 in
theorem lc_fits {p : Program} {l : Launch} {e : Env} {s : State} {m : MethodId} {below : List Frame} {meth : Method} {c : Code} {D : va_G} {cI cB cJ : ClassId} {o0 o1 ho b L i t : Nat} {h0 h1 : Nat → Nat} {xs : Nat → Int32} (hL : L ≤ 2048) (C0 : lw_At p s m meth c b L xs) (hst : l.stackTraces = false) (hE : xE (AL s) s s.heap) (hK : va_K D vwCl (LT cI cB cJ) s) (hi : i + 3 < L) (ht : t < 512) (Hp : pb_fits) {B0 : Nat → Int32} {A0 : Nat → Nat → Int32} {F1 : Nat → Int32} {A1 : Nat → Nat → Int32} {fo : Nat → Int64} (hI : Inv B0 A0 F1 A1) (hnext : ∀ (B0 : Nat → Int32) (A0 : Nat → Nat → Int32) (F1 : Nat → Int32) (A1 : Nat → Nat → Int32) (fo : Nat → Int64) (H : Heap) (locs : List Loc) (ls : Array Slot), Inv B0 A0 F1 A1 → va_P D vwCl (LW cI cB cJ o0 h0 o1 h1 ho B0 A0 F1 A1 fo) H → va_D (AL s) (LW cI cB cJ o0 h0 o1 h1 ho B0 A0 F1 A1 fo) → va_S (AL s) s.heap H locs → lv_has ls 8 [(4, .int (nI i)), (0, .ref b), (1, .ref o0), (2, .ref o1), (3, .ref ho)] → W p l e room_1 s m #[Value.ref b] below meth c H locs (15 + t) (45759 + 6 * t) (lw_Z below #[Value.ref b] s) (F0 m 653 ls [])) {H : Heap} {locs : List Loc} {ls : Array Slot} (hP : va_P D vwCl (LW cI cB cJ o0 h0 o1 h1 ho B0 A0 F1 A1 fo) H) (hD : va_D (AL s) (LW cI cB cJ o0 h0 o1 h1 ho B0 A0 F1 A1 fo)) (hS : va_S (AL s) s.heap H locs) (hl : lv_has ls 8 [(4, .int (nI i)), (0, .ref b), (1, .ref o0), (2, .ref o1), (3, .ref ho)]) : W p l e room_1 s m #[Value.ref b] below meth c H locs (14 + t) (45753 + 6 * t) (lw_Z below #[Value.ref b] s) (F0 m 290 ls []) := by
  obtain ⟨hx, hb, hr, hml, hown, hts0, hX, hbl, hlk, hgv⟩ := C0
  have hown : s.vm.findClass RL = some m.cls := hown
  have hts : ∀ w ∈ wsL_law, w.before #[Value.ref b] s = true := fun w h => hts0 w (wsL_law_in w h)
  have hA : ∀ q : Nat, s.heap.size ≤ q → AL s q := fun _ h => h
  have hbA : ¬ AL s b := Nat.not_le.mpr hbl
  refine lv_aload_n hx hb dL_law_290 rfl (lv_at hl 2 rfl) ?_
  refine lv_aload_n hx hb dL_law_291 rfl (lv_at hl 1 rfl) ?_
  refine lv_iload hx hb dL_law_292 (lv_at hl 0 rfl) ?_
  refine lv_iconst (v := 1) hx hb dL_law_294 (by decide) ?_
  refine lv_iadd hx hb dL_law_295 ?_
  refine va_sld hx hb hX hbl hbA hS (in_sc (i := i) 1 (by omega) hL) dL_law_296 ?_
  refine lBi (As := [.int (xs (Int32.toNatClampNeg (nI i + 1)))]) (rest := []) ⟨hx, hb, hml, hown, hts⟩ (mX0_fits l D cI o0 h0 B0 A0 (xs (Int32.toNatClampNeg (nI i + 1)))  _ rfl) (cwV 1 hts gL_law_X0_fits rfl rfl rfl nX0_fits ⟨Nat.le_of_ble_eq_true rfl, Nat.le_of_ble_eq_true rfl⟩) rfl hl.1 rfl (Nat.le_of_ble_eq_true rfl) dL_law_297 ⟨(show 14 + t ≤ 601024 by omega), (show 45753 + 6 * t ≤ 7293033 by omega)⟩ hK hP hD hS hA (fun H locs hP hD hS => ?_)
  refine lv_aload_n hx hb dL_law_300 rfl (lv_at hl 3 rfl) ?_
  refine lv_aload_n hx hb dL_law_301 rfl (lv_at hl 1 rfl) ?_
  refine lv_iload hx hb dL_law_302 (lv_at hl 0 rfl) ?_
  refine lv_iconst (v := 1) hx hb dL_law_304 (by decide) ?_
  refine lv_iadd hx hb dL_law_305 ?_
  refine va_sld hx hb hX hbl hbA hS (in_sc (i := i) 1 (by omega) hL) dL_law_306 ?_
  refine lRi (As := [.int (xs (Int32.toNatClampNeg (nI i + 1)))]) (rest := [.int (qX0_fits B0 A0 (xs (Int32.toNatClampNeg (nI i + 1))))]) ⟨hx, hb, hml, hown, hts⟩ (mX1_fits l D cI cB o1 h1 F1 A1 (xs (Int32.toNatClampNeg (nI i + 1)))  _ rfl) (cwV 1 hts gL_law_X1_fits rfl rfl rfl nX1_fits ⟨Nat.le_of_ble_eq_true rfl, Nat.le_of_ble_eq_true rfl⟩) rfl hl.1 rfl (Nat.le_of_ble_eq_true rfl) dL_law_307 ⟨(show 14 + t ≤ 601024 by omega), (show 45753 + 6 * t ≤ 7293033 by omega)⟩ hK hP hD hS hA (fun H locs hP hD hS => ?_)
  refine lv_icmp_eq (tgt := 653) hx hb dL_law_310 (by decide) (fun c310 => ?_) (fun c310 => ?_)
  rotate_left
  · exact absurd (Hp B0 A0 F1 A1 (xs (Int32.toNatClampNeg (nI i + 1))) hI).1 c310
  refine W.widen (k := 15 + t) (n := 45759 + 6 * t) (by omega) (by omega) ?_
  exact hnext B0 A0 ((qX1_fits F1 A1 (xs (Int32.toNatClampNeg (nI i + 1)))).2.1) ((qX1_fits F1 A1 (xs (Int32.toNatClampNeg (nI i + 1)))).2.2) fo _ _ ls (Hp B0 A0 F1 A1 (xs (Int32.toNatClampNeg (nI i + 1))) hI).2 hP hD hS (lv_sub hl [0, 1, 2, 3, 4] rfl)
set_option maxHeartbeats 4000000 in
set_option maxRecDepth 100000 in
theorem lc_make {p : Program} {l : Launch} {e : Env} {s : State} {m : MethodId} {below : List Frame} {meth : Method} {c : Code} {D : va_G} {cI cB cJ : ClassId} {o0 o1 ho b L i t : Nat} {h0 h1 : Nat → Nat} {xs : Nat → Int32} (hL : L ≤ 2048) (C0 : lw_At p s m meth c b L xs) (hst : l.stackTraces = false) (hE : xE (AL s) s s.heap) (hK : va_K D vwCl (LT cI cB cJ) s) (hi : i + 3 < L) (ht : t < 512) (Hp : pb_make) {B0 : Nat → Int32} {A0 : Nat → Nat → Int32} {F1 : Nat → Int32} {A1 : Nat → Nat → Int32} {fo : Nat → Int64} (hI : Inv B0 A0 F1 A1) (hnext : ∀ (B0 : Nat → Int32) (A0 : Nat → Nat → Int32) (F1 : Nat → Int32) (A1 : Nat → Nat → Int32) (fo : Nat → Int64) (H : Heap) (locs : List Loc) (ls : Array Slot), Inv B0 A0 F1 A1 → va_P D vwCl (LW cI cB cJ o0 h0 o1 h1 ho B0 A0 F1 A1 fo) H → va_D (AL s) (LW cI cB cJ o0 h0 o1 h1 ho B0 A0 F1 A1 fo) → va_S (AL s) s.heap H locs → lv_has ls 8 [(4, .int (nI i)), (0, .ref b), (1, .ref o0), (2, .ref o1), (3, .ref ho)] → W p l e room_1 s m #[Value.ref b] below meth c H locs (15 + t) (45759 + 6 * t) (lw_Z below #[Value.ref b] s) (F0 m 653 ls [])) {H : Heap} {locs : List Loc} {ls : Array Slot} (hP : va_P D vwCl (LW cI cB cJ o0 h0 o1 h1 ho B0 A0 F1 A1 fo) H) (hD : va_D (AL s) (LW cI cB cJ o0 h0 o1 h1 ho B0 A0 F1 A1 fo)) (hS : va_S (AL s) s.heap H locs) (hl : lv_has ls 8 [(4, .int (nI i)), (0, .ref b), (1, .ref o0), (2, .ref o1), (3, .ref ho)]) : W p l e room_1 s m #[Value.ref b] below meth c H locs (14 + t) (45753 + 6 * t) (lw_Z below #[Value.ref b] s) (F0 m 315 ls []) := by
  obtain ⟨hx, hb, hr, hml, hown, hts0, hX, hbl, hlk, hgv⟩ := C0
  have hown : s.vm.findClass RL = some m.cls := hown
  have hts : ∀ w ∈ wsL_law, w.before #[Value.ref b] s = true := fun w h => hts0 w (wsL_law_in w h)
  have hA : ∀ q : Nat, s.heap.size ≤ q → AL s q := fun _ h => h
  have hbA : ¬ AL s b := Nat.not_le.mpr hbl
  refine lv_aload_n hx hb dL_law_315 rfl (lv_at hl 2 rfl) ?_
  refine lv_aload_n hx hb dL_law_316 rfl (lv_at hl 1 rfl) ?_
  refine lv_iload hx hb dL_law_317 (lv_at hl 0 rfl) ?_
  refine lv_iconst (v := 1) hx hb dL_law_319 (by decide) ?_
  refine lv_iadd hx hb dL_law_320 ?_
  refine va_sld hx hb hX hbl hbA hS (in_sc (i := i) 1 (by omega) hL) dL_law_321 ?_
  refine lv_aload_n hx hb dL_law_322 rfl (lv_at hl 4 rfl) ?_
  have hz := mL_make l D cI cJ o0 h0 B0 A0 (xs (Int32.toNatClampNeg (nI i + 1))) ho fo (mX0_make l D hst cI o0 h0 B0 A0 (xs (Int32.toNatClampNeg (nI i + 1))) hI.m0 _ rfl) (Hp B0 A0 F1 A1 (xs (Int32.toNatClampNeg (nI i + 1))) hI).1
  rw [wAfo (u := (qX0_make B0 A0 (xs (Int32.toNatClampNeg (nI i + 1)))).1) (r := (qX0_make B0 A0 (xs (Int32.toNatClampNeg (nI i + 1)))).2.2)] at hz
  refine lHo (As := [.ref o0, .int (xs (Int32.toNatClampNeg (nI i + 1))), .ref ho]) (rest := []) ⟨hx, hb, hml, hown, hts⟩ hz (vx_cwSW 3 hts gL_law_L_make rfl rfl rfl nL_make ⟨Nat.le_of_ble_eq_true rfl, Nat.le_of_ble_eq_true rfl⟩) rfl hl.1 rfl (Nat.le_of_ble_eq_true rfl) dL_law_323 ⟨(show 14 + t + 1 ≤ 601024 by omega), (show 45753 + 6 * t + 6 ≤ 7293033 by omega)⟩ hK hP hD hS hA hE (fun H locs hP hD hS => ?_)
  refine lv_istore (lv' := [(5, .int (if (qX0_make B0 A0 (xs (Int32.toNatClampNeg (nI i + 1)))).1 = 0 then 0 else (if (qX0_make B0 A0 (xs (Int32.toNatClampNeg (nI i + 1)))).1 = 2 then 1 else 2))), (4, .int (nI i)), (0, .ref b), (1, .ref o0), (2, .ref o1), (3, .ref ho)]) hx hb dL_law_326 hl (by decide) rfl (fun ls hl => ?_)
  refine lv_aload_n hx hb dL_law_328 rfl (lv_at hl 4 rfl) ?_
  refine lv_aload_n hx hb dL_law_329 rfl (lv_at hl 2 rfl) ?_
  refine lv_iload hx hb dL_law_330 (lv_at hl 1 rfl) ?_
  refine lv_iconst (v := 1) hx hb dL_law_332 (by decide) ?_
  refine lv_iadd hx hb dL_law_333 ?_
  refine va_sld hx hb hX hbl hbA hS (in_sc (i := i) 1 (by omega) hL) dL_law_334 ?_
  refine lRi (As := [.int (xs (Int32.toNatClampNeg (nI i + 1)))]) (rest := []) ⟨hx, hb, hml, hown, hts⟩ (mX1_make l D cI cB o1 h1 F1 A1 (xs (Int32.toNatClampNeg (nI i + 1))) hI.m1 _ rfl) (cwV 1 hts gL_law_X1_make rfl rfl rfl nX1_make ⟨Nat.le_of_ble_eq_true rfl, Nat.le_of_ble_eq_true rfl⟩) rfl hl.1 rfl (Nat.le_of_ble_eq_true rfl) dL_law_335 ⟨(show 14 + t + 1 ≤ 601024 by omega), (show 45753 + 6 * t + 6 ≤ 7293033 by omega)⟩ hK hP hD hS hA (fun H locs hP hD hS => ?_)
  refine lv_istore (lv' := [(6, .int ((qX1_make F1 A1 (xs (Int32.toNatClampNeg (nI i + 1)))).1)), (5, .int (if (qX0_make B0 A0 (xs (Int32.toNatClampNeg (nI i + 1)))).1 = 0 then 0 else (if (qX0_make B0 A0 (xs (Int32.toNatClampNeg (nI i + 1)))).1 = 2 then 1 else 2))), (4, .int (nI i)), (0, .ref b), (1, .ref o0), (2, .ref o1), (3, .ref ho)]) hx hb dL_law_338 hl (by decide) rfl (fun ls hl => ?_)
  refine lv_aload_n hx hb dL_law_340 rfl (lv_at hl 5 rfl) ?_
  refine lRi (As := []) (rest := []) ⟨hx, hb, hml, hown, hts⟩ (mX1_thrown l D cI cB o1 h1 ((qX1_make F1 A1 (xs (Int32.toNatClampNeg (nI i + 1)))).2.1) ((qX1_make F1 A1 (xs (Int32.toNatClampNeg (nI i + 1)))).2.2)   _ rfl) (cwV 0 hts gL_law_X1_thrown rfl rfl rfl nX1_thrown ⟨Nat.le_of_ble_eq_true rfl, Nat.le_of_ble_eq_true rfl⟩) rfl hl.1 rfl (Nat.le_of_ble_eq_true rfl) dL_law_341 ⟨(show 14 + t + 1 ≤ 601024 by omega), (show 45753 + 6 * t + 6 ≤ 7293033 by omega)⟩ hK hP hD hS hA (fun H locs hP hD hS => ?_)
  refine lv_iload hx hb dL_law_344 (lv_at hl 1 rfl) ?_
  refine lv_icmp_eq (tgt := 351) hx hb dL_law_346 (by decide) (fun c346 => ?_) (fun c346 => ?_)
  rotate_left
  · exact absurd (Hp B0 A0 F1 A1 (xs (Int32.toNatClampNeg (nI i + 1))) hI).2.1 c346
  refine lv_iload hx hb dL_law_351 (lv_at hl 1 rfl) ?_
  refine lv_if_ne (tgt := 368) hx hb dL_law_353 (by decide) (fun c353 => ?_) (fun c353 => ?_)
  · refine lv_goto (tgt := 653) hx hb dL_law_368 (by decide) ?_
    refine W.widen (k := 15 + t) (n := 45759 + 6 * t) (by omega) (by omega) ?_
    exact hnext ((aft (qX0_make B0 A0 (xs (Int32.toNatClampNeg (nI i + 1)))).1 (qX0_make B0 A0 (xs (Int32.toNatClampNeg (nI i + 1)))).2.2 B0 A0).1) ((aft (qX0_make B0 A0 (xs (Int32.toNatClampNeg (nI i + 1)))).1 (qX0_make B0 A0 (xs (Int32.toNatClampNeg (nI i + 1)))).2.2 B0 A0).2) ((qX1_make F1 A1 (xs (Int32.toNatClampNeg (nI i + 1)))).2.1) ((qX1_make F1 A1 (xs (Int32.toNatClampNeg (nI i + 1)))).2.2) (foB (qX0_make B0 A0 (xs (Int32.toNatClampNeg (nI i + 1)))).1 fo (Int32.toInt64 (qX0_make B0 A0 (xs (Int32.toNatClampNeg (nI i + 1)))).2.1)) _ _ ls (Hp B0 A0 F1 A1 (xs (Int32.toNatClampNeg (nI i + 1))) hI).2.2.2 hP hD hS (lv_sub hl [2, 3, 4, 5, 6] rfl)
  have hu0 : (qX0_make B0 A0 (xs (Int32.toNatClampNeg (nI i + 1)))).1 = 0 := un0 c353
  refine lv_aload_n hx hb dL_law_356 rfl (lv_at hl 6 rfl) ?_
  refine lv_iconst (v := 0) hx hb dL_law_357 (by decide) ?_
  refine va_lald (f := (foB (qX0_make B0 A0 (xs (Int32.toNatClampNeg (nI i + 1)))).1 fo (Int32.toInt64 (qX0_make B0 A0 (xs (Int32.toNatClampNeg (nI i + 1)))).2.1))) hx hb hK hP 0 2 rfl rfl (vp_in_nI (n := 0) (by decide) (by decide)) dL_law_358 ?_
  refine lv_iload hx hb dL_law_359 (lv_at hl 0 rfl) ?_
  refine lv_i2l hx hb dL_law_361 rfl ?_
  refine W.lcmp hx hb dL_law_362 ?_
  refine lv_if_eq (tgt := 368) hx hb dL_law_363 (by decide) (fun c363 => ?_) (fun c363 => ?_)
  rotate_left
  · exact absurd (lgc (by rw [foB, if_pos hu0]; exact (show vp_updL fo (Int32.toNatClampNeg 0) _ (Int32.toNatClampNeg 0) = _ from pk_uLs.trans (congrArg Int32.toInt64 ((Hp B0 A0 F1 A1 (xs (Int32.toNatClampNeg (nI i + 1))) hI).2.2.1 hu0))))) c363
  refine lv_goto (tgt := 653) hx hb dL_law_368 (by decide) ?_
  refine W.widen (k := 15 + t) (n := 45759 + 6 * t) (by omega) (by omega) ?_
  exact hnext ((aft (qX0_make B0 A0 (xs (Int32.toNatClampNeg (nI i + 1)))).1 (qX0_make B0 A0 (xs (Int32.toNatClampNeg (nI i + 1)))).2.2 B0 A0).1) ((aft (qX0_make B0 A0 (xs (Int32.toNatClampNeg (nI i + 1)))).1 (qX0_make B0 A0 (xs (Int32.toNatClampNeg (nI i + 1)))).2.2 B0 A0).2) ((qX1_make F1 A1 (xs (Int32.toNatClampNeg (nI i + 1)))).2.1) ((qX1_make F1 A1 (xs (Int32.toNatClampNeg (nI i + 1)))).2.2) (foB (qX0_make B0 A0 (xs (Int32.toNatClampNeg (nI i + 1)))).1 fo (Int32.toInt64 (qX0_make B0 A0 (xs (Int32.toNatClampNeg (nI i + 1)))).2.1)) _ _ ls (Hp B0 A0 F1 A1 (xs (Int32.toNatClampNeg (nI i + 1))) hI).2.2.2 hP hD hS (lv_sub hl [2, 3, 4, 5, 6] rfl)
set_option maxHeartbeats 4000000 in
set_option maxRecDepth 100000 in
theorem lc_unmake {p : Program} {l : Launch} {e : Env} {s : State} {m : MethodId} {below : List Frame} {meth : Method} {c : Code} {D : va_G} {cI cB cJ : ClassId} {o0 o1 ho b L i t : Nat} {h0 h1 : Nat → Nat} {xs : Nat → Int32} (hL : L ≤ 2048) (C0 : lw_At p s m meth c b L xs) (hst : l.stackTraces = false) (hE : xE (AL s) s s.heap) (hK : va_K D vwCl (LT cI cB cJ) s) (hi : i + 3 < L) (ht : t < 512) (Hp : pb_unmake) {B0 : Nat → Int32} {A0 : Nat → Nat → Int32} {F1 : Nat → Int32} {A1 : Nat → Nat → Int32} {fo : Nat → Int64} (hI : Inv B0 A0 F1 A1) (hnext : ∀ (B0 : Nat → Int32) (A0 : Nat → Nat → Int32) (F1 : Nat → Int32) (A1 : Nat → Nat → Int32) (fo : Nat → Int64) (H : Heap) (locs : List Loc) (ls : Array Slot), Inv B0 A0 F1 A1 → va_P D vwCl (LW cI cB cJ o0 h0 o1 h1 ho B0 A0 F1 A1 fo) H → va_D (AL s) (LW cI cB cJ o0 h0 o1 h1 ho B0 A0 F1 A1 fo) → va_S (AL s) s.heap H locs → lv_has ls 8 [(4, .int (nI i)), (0, .ref b), (1, .ref o0), (2, .ref o1), (3, .ref ho)] → W p l e room_1 s m #[Value.ref b] below meth c H locs (15 + t) (45759 + 6 * t) (lw_Z below #[Value.ref b] s) (F0 m 653 ls [])) {H : Heap} {locs : List Loc} {ls : Array Slot} (hP : va_P D vwCl (LW cI cB cJ o0 h0 o1 h1 ho B0 A0 F1 A1 fo) H) (hD : va_D (AL s) (LW cI cB cJ o0 h0 o1 h1 ho B0 A0 F1 A1 fo)) (hS : va_S (AL s) s.heap H locs) (hl : lv_has ls 8 [(4, .int (nI i)), (0, .ref b), (1, .ref o0), (2, .ref o1), (3, .ref ho)]) : W p l e room_1 s m #[Value.ref b] below meth c H locs (14 + t) (45753 + 6 * t) (lw_Z below #[Value.ref b] s) (F0 m 371 ls []) := by
  obtain ⟨hx, hb, hr, hml, hown, hts0, hX, hbl, hlk, hgv⟩ := C0
  have hown : s.vm.findClass RL = some m.cls := hown
  have hts : ∀ w ∈ wsL_law, w.before #[Value.ref b] s = true := fun w h => hts0 w (wsL_law_in w h)
  have hA : ∀ q : Nat, s.heap.size ≤ q → AL s q := fun _ h => h
  have hbA : ¬ AL s b := Nat.not_le.mpr hbl
  refine lv_aload_n hx hb dL_law_371 rfl (lv_at hl 2 rfl) ?_
  refine lv_aload_n hx hb dL_law_372 rfl (lv_at hl 4 rfl) ?_
  have hz := mL_unmake l D cI cJ o0 h0 B0 A0  ho fo (mX0_unmake l D hst cI o0 h0 B0 A0  hI.m0 hI.q _ rfl) (Hp B0 A0 F1 A1 hI).1
  rw [wAfo (u := (qX0_unmake B0 A0).1) (r := (qX0_unmake B0 A0).2.2)] at hz
  refine lHo (As := [.ref o0, .ref ho]) (rest := []) ⟨hx, hb, hml, hown, hts⟩ hz (vx_cwSW 2 hts gL_law_L_unmake rfl rfl rfl nL_unmake ⟨Nat.le_of_ble_eq_true rfl, Nat.le_of_ble_eq_true rfl⟩) rfl hl.1 rfl (Nat.le_of_ble_eq_true rfl) dL_law_373 ⟨(show 14 + t + 1 ≤ 601024 by omega), (show 45753 + 6 * t + 6 ≤ 7293033 by omega)⟩ hK hP hD hS hA hE (fun H locs hP hD hS => ?_)
  refine lv_istore (lv' := [(5, .int (if (qX0_unmake B0 A0).1 = 0 then 0 else 1)), (4, .int (nI i)), (0, .ref b), (1, .ref o0), (2, .ref o1), (3, .ref ho)]) hx hb dL_law_376 hl (by decide) rfl (fun ls hl => ?_)
  refine lv_aload_n hx hb dL_law_378 rfl (lv_at hl 4 rfl) ?_
  refine lRi (As := []) (rest := []) ⟨hx, hb, hml, hown, hts⟩ (mX1_unmake l D cI cB o1 h1 F1 A1  hI.m1 _ rfl) (cwV 0 hts gL_law_X1_unmake rfl rfl rfl nX1_unmake ⟨Nat.le_of_ble_eq_true rfl, Nat.le_of_ble_eq_true rfl⟩) rfl hl.1 rfl (Nat.le_of_ble_eq_true rfl) dL_law_379 ⟨(show 14 + t + 1 ≤ 601024 by omega), (show 45753 + 6 * t + 6 ≤ 7293033 by omega)⟩ hK hP hD hS hA (fun H locs hP hD hS => ?_)
  refine lv_istore (lv' := [(6, .int ((qX1_unmake F1 A1).1)), (5, .int (if (qX0_unmake B0 A0).1 = 0 then 0 else 1)), (4, .int (nI i)), (0, .ref b), (1, .ref o0), (2, .ref o1), (3, .ref ho)]) hx hb dL_law_382 hl (by decide) rfl (fun ls hl => ?_)
  refine lv_aload_n hx hb dL_law_384 rfl (lv_at hl 5 rfl) ?_
  refine lRi (As := []) (rest := []) ⟨hx, hb, hml, hown, hts⟩ (mX1_thrown l D cI cB o1 h1 ((qX1_unmake F1 A1).2.1) ((qX1_unmake F1 A1).2.2)   _ rfl) (cwV 0 hts gL_law_X1_thrown rfl rfl rfl nX1_thrown ⟨Nat.le_of_ble_eq_true rfl, Nat.le_of_ble_eq_true rfl⟩) rfl hl.1 rfl (Nat.le_of_ble_eq_true rfl) dL_law_385 ⟨(show 14 + t + 1 ≤ 601024 by omega), (show 45753 + 6 * t + 6 ≤ 7293033 by omega)⟩ hK hP hD hS hA (fun H locs hP hD hS => ?_)
  refine lv_iload hx hb dL_law_388 (lv_at hl 1 rfl) ?_
  refine lv_icmp_eq (tgt := 395) hx hb dL_law_390 (by decide) (fun c390 => ?_) (fun c390 => ?_)
  rotate_left
  · exact absurd (Hp B0 A0 F1 A1 hI).2.1 c390
  refine lv_iload hx hb dL_law_395 (lv_at hl 1 rfl) ?_
  refine lv_if_ne (tgt := 412) hx hb dL_law_397 (by decide) (fun c397 => ?_) (fun c397 => ?_)
  · refine lv_goto (tgt := 653) hx hb dL_law_412 (by decide) ?_
    refine W.widen (k := 15 + t) (n := 45759 + 6 * t) (by omega) (by omega) ?_
    exact hnext ((aft (qX0_unmake B0 A0).1 (qX0_unmake B0 A0).2.2 B0 A0).1) ((aft (qX0_unmake B0 A0).1 (qX0_unmake B0 A0).2.2 B0 A0).2) ((qX1_unmake F1 A1).2.1) ((qX1_unmake F1 A1).2.2) (foB (qX0_unmake B0 A0).1 fo (Int32.toInt64 (qX0_unmake B0 A0).2.1)) _ _ ls (Hp B0 A0 F1 A1 hI).2.2.2 hP hD hS (lv_sub hl [2, 3, 4, 5, 6] rfl)
  have hu0 : (qX0_unmake B0 A0).1 = 0 := un0 c397
  refine lv_aload_n hx hb dL_law_400 rfl (lv_at hl 6 rfl) ?_
  refine lv_iconst (v := 0) hx hb dL_law_401 (by decide) ?_
  refine va_lald (f := (foB (qX0_unmake B0 A0).1 fo (Int32.toInt64 (qX0_unmake B0 A0).2.1))) hx hb hK hP 0 2 rfl rfl (vp_in_nI (n := 0) (by decide) (by decide)) dL_law_402 ?_
  refine lv_iload hx hb dL_law_403 (lv_at hl 0 rfl) ?_
  refine lv_i2l hx hb dL_law_405 rfl ?_
  refine W.lcmp hx hb dL_law_406 ?_
  refine lv_if_eq (tgt := 412) hx hb dL_law_407 (by decide) (fun c407 => ?_) (fun c407 => ?_)
  rotate_left
  · exact absurd (lgc (by rw [foB, if_pos hu0]; exact (show vp_updL fo (Int32.toNatClampNeg 0) _ (Int32.toNatClampNeg 0) = _ from pk_uLs.trans (congrArg Int32.toInt64 ((Hp B0 A0 F1 A1 hI).2.2.1 hu0))))) c407
  refine lv_goto (tgt := 653) hx hb dL_law_412 (by decide) ?_
  refine W.widen (k := 15 + t) (n := 45759 + 6 * t) (by omega) (by omega) ?_
  exact hnext ((aft (qX0_unmake B0 A0).1 (qX0_unmake B0 A0).2.2 B0 A0).1) ((aft (qX0_unmake B0 A0).1 (qX0_unmake B0 A0).2.2 B0 A0).2) ((qX1_unmake F1 A1).2.1) ((qX1_unmake F1 A1).2.2) (foB (qX0_unmake B0 A0).1 fo (Int32.toInt64 (qX0_unmake B0 A0).2.1)) _ _ ls (Hp B0 A0 F1 A1 hI).2.2.2 hP hD hS (lv_sub hl [2, 3, 4, 5, 6] rfl)
