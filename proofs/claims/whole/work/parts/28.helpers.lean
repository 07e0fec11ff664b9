abbrev rmL_put : Room := { frames := 7, cells := 1, slots := 6, locals := 112 }
theorem nL_put : yL_put.cls ≠ "java/lang/invoke/MethodHandle" ∧ yL_put.cls ≠ "java/lang/invoke/VarHandle" ∧ (parseMethodDescriptor yL_put.desc).map (fun d => d.parameters.length) = some 3 := by decide +kernel
theorem kL_put_0 : Cond.classLink RL 13 "java/lang/IndexOutOfBoundsException" ∈ wsL_put := by decide +kernel
theorem kL_put_1 : Cond.classLink RL 15 "java/lang/IllegalArgumentException" ∈ wsL_put := by decide +kernel
theorem kL_put_2 : Cond.classLink RL 17 "java/lang/IllegalStateException" ∈ wsL_put := by decide +kernel
set_option maxHeartbeats 4000000 in
set_option maxRecDepth 100000 in
theorem mL_put (l : Launch) (D : va_G) (cI : ClassId) (o : Nat) (h : Nat → Nat) (F : Nat → Int32) (A : Nat → Nat → Int32) (p1 : Int32) (p2 : Int32) {u : Int32} {wc : va_W} (hM : xMv l yX0_put wsX0_put rmX0_put D [(cI, .int)] (wB cI o h F A) [.ref o, .int p1, .int p2] u wc) (hu : u = 0 ∨ u = 1 ∨ u = 2 ∨ u = 3) : hMi l yL_put wsL_put rmL_put D [(cI, .int)] (wB cI o h F A) [.ref o, .int p1, .int p2] (if u = 0 then 0 else (if u = 1 then 1 else (if u = 2 then 2 else 3))) (if u = 0 then wc else (wB cI o h F A)) := by
  intro sz
  refine hMet_of (Qc := fun AA => cQi D [(cI, .int)] (if u = 0 then 0 else (if u = 1 then 1 else (if u = 2 then 2 else 3))) (if u = 0 then wc else (wB cI o h F A)) AA) (cc := cL_put) (maxL := 4) (ret := some .int) (hh := [(0, 6, 9, 13), (0, 6, 12, 15), (0, 6, 15, 17)]) (by decide) rfl (Nat.le_of_ble_eq_true rfl) ?_ sz
  intro p e s m below meth c AA ls hx hb hr hts hown hml hlk hA hK hP hD hS hl htab hE
  have hown : s.vm.findClass RL = some m.cls := hown
  have hl : lv_has ls 4 [(0, .ref o), (1, .int p1), (2, .int p2)] := hl
  refine lv_aload_n hx hb dL_put_0 rfl (lv_at hl 0 rfl) ?_
  refine lv_iload_n hx hb dL_put_1 rfl (lv_at hl 1 rfl) ?_
  refine lv_iload_n hx hb dL_put_2 rfl (lv_at hl 2 rfl) ?_
  refine hCv (wr := []) (As := [.int p1, .int p2]) (rest := []) ⟨hx, hb, hml, hown, hts⟩ hM (cwV 2 hts gL_put_X0_put rfl rfl rfl nX0_put ⟨Nat.le_of_ble_eq_true rfl, Nat.le_of_ble_eq_true rfl⟩) [0, 1, 2, 3, 4, 5, 6, 7] [] rfl rfl (by decide) (by decide) (by decide) (va_recv hK hP (ci := 0) (q0 := 0) rfl rfl) rfl hl.1 rfl (Nat.le_of_ble_eq_true rfl) dL_put_3 ⟨Nat.le_of_ble_eq_true rfl, Nat.le_of_ble_eq_true rfl⟩ hK hP hD hS hA hE (fun hu0 ce q9 H locs hP hD hS hce hcv hcl => ?_) (fun hu0 H locs hP hD hS => ?_)
  · rcases hu with z | rfl | rfl | rfl
    · exact absurd z hu0
    · refine kc_catch (E := xIO) (name := xIO) hown [] ⟨0, 6, 9, 13⟩ [⟨0, 6, 12, 15⟩, ⟨0, 6, 15, 17⟩] (htab.trans rfl) (fun z hz => absurd hz List.not_mem_nil) (by decide) (by decide) (hts _ kL_put_0) ((hE.2.2.2.2.1 xIO (by decide)).use rfl) hce hcv hcl ?_
      refine lv_astore_n (lv' := [(3, .ref q9), (0, .ref o), (1, .int p1), (2, .int p2)]) hx hb dL_put_9 rfl hl (by decide) rfl (fun ls hl => ?_)
      refine lv_iconst (v := 1) hx hb dL_put_10 (by decide) ?_
      exact hRi hx hb hr hlk hK (by rw [if_neg hu0]; exact hP) (by rw [if_neg hu0]; exact hD) hS (by decide) dL_put_11
    · refine kc_catch (E := xIA) (name := xIA) hown [⟨0, 6, 9, 13⟩] ⟨0, 6, 12, 15⟩ [⟨0, 6, 15, 17⟩] (htab.trans rfl) (fun z hz => by
        simp only [List.mem_cons, List.not_mem_nil, or_false] at hz
        rcases hz with rfl
        · exact Or.inr ⟨by decide, xIO, hts _ kL_put_0, hE.2.2.2.2.2.1 (xIA, xIO) (by decide)⟩) (by decide) (by decide) (hts _ kL_put_1) ((hE.2.2.2.2.1 xIA (by decide)).use rfl) hce hcv hcl ?_
      refine lv_astore_n (lv' := [(3, .ref q9), (0, .ref o), (1, .int p1), (2, .int p2)]) hx hb dL_put_12 rfl hl (by decide) rfl (fun ls hl => ?_)
      refine lv_iconst (v := 2) hx hb dL_put_13 (by decide) ?_
      exact hRi hx hb hr hlk hK (by rw [if_neg hu0]; exact hP) (by rw [if_neg hu0]; exact hD) hS (by decide) dL_put_14
    · refine kc_catch (E := xIS) (name := xIS) hown [⟨0, 6, 9, 13⟩, ⟨0, 6, 12, 15⟩] ⟨0, 6, 15, 17⟩ [] (htab.trans rfl) (fun z hz => by
        simp only [List.mem_cons, List.not_mem_nil, or_false] at hz
        rcases hz with rfl | rfl
        · exact Or.inr ⟨by decide, xIO, hts _ kL_put_0, hE.2.2.2.2.2.1 (xIS, xIO) (by decide)⟩
        · exact Or.inr ⟨by decide, xIA, hts _ kL_put_1, hE.2.2.2.2.2.1 (xIS, xIA) (by decide)⟩) (by decide) (by decide) (hts _ kL_put_2) ((hE.2.2.2.2.1 xIS (by decide)).use rfl) hce hcv hcl ?_
      refine lv_astore_n (lv' := [(3, .ref q9), (0, .ref o), (1, .int p1), (2, .int p2)]) hx hb dL_put_15 rfl hl (by decide) rfl (fun ls hl => ?_)
      refine lv_iconst (v := 3) hx hb dL_put_16 (by decide) ?_
      exact hRi hx hb hr hlk hK (by rw [if_neg hu0]; exact hP) (by rw [if_neg hu0]; exact hD) hS (by decide) dL_put_17
  · refine lv_goto (tgt := 18) hx hb dL_put_6 (by decide) ?_
    refine lv_iconst (v := 0) hx hb dL_put_18 (by decide) ?_
    exact hRi hx hb hr hlk hK (by rw [if_pos hu0]; exact hP) (by rw [if_pos hu0]; exact hD) hS (by rw [if_pos hu0]) dL_put_19
abbrev rmL_state : Room := { frames := 7, cells := 1, slots := 6, locals := 113 }
theorem nL_state : yL_state.cls ≠ "java/lang/invoke/MethodHandle" ∧ yL_state.cls ≠ "java/lang/invoke/VarHandle" ∧ (parseMethodDescriptor yL_state.desc).map (fun d => d.parameters.length) = some 4 := by decide +kernel
theorem kL_state_0 : Cond.classLink RL 15 "java/lang/IllegalArgumentException" ∈ wsL_state := by decide +kernel
set_option maxHeartbeats 4000000 in
set_option maxRecDepth 100000 in
theorem mL_state (l : Launch) (D : va_G) (cI : ClassId) (o : Nat) (h : Nat → Nat) (F : Nat → Int32) (A : Nat → Nat → Int32) (p1 : Int32) (p2 : Int32) (p3 : Int32) {u : Int32} {wc : va_W} (hM : xMv l yX0_state wsX0_state rmX0_state D [(cI, .int)] (wB cI o h F A) [.ref o, .int p1, .int p2, .int p3] u wc) (hu : u = 0 ∨ u = 2) : hMi l yL_state wsL_state rmL_state D [(cI, .int)] (wB cI o h F A) [.ref o, .int p1, .int p2, .int p3] (if u = 0 then 0 else 1) (if u = 0 then wc else (wB cI o h F A)) := by
  intro sz
  refine hMet_of (Qc := fun AA => cQi D [(cI, .int)] (if u = 0 then 0 else 1) (if u = 0 then wc else (wB cI o h F A)) AA) (cc := cL_state) (maxL := 5) (ret := some .int) (hh := [(0, 7, 10, 15)]) (by decide) rfl (Nat.le_of_ble_eq_true rfl) ?_ sz
  intro p e s m below meth c AA ls hx hb hr hts hown hml hlk hA hK hP hD hS hl htab hE
  have hown : s.vm.findClass RL = some m.cls := hown
  have hl : lv_has ls 5 [(0, .ref o), (1, .int p1), (2, .int p2), (3, .int p3)] := hl
  refine lv_aload_n hx hb dL_state_0 rfl (lv_at hl 0 rfl) ?_
  refine lv_iload_n hx hb dL_state_1 rfl (lv_at hl 1 rfl) ?_
  refine lv_iload_n hx hb dL_state_2 rfl (lv_at hl 2 rfl) ?_
  refine lv_iload_n hx hb dL_state_3 rfl (lv_at hl 3 rfl) ?_
  refine hCv (wr := []) (As := [.int p1, .int p2, .int p3]) (rest := []) ⟨hx, hb, hml, hown, hts⟩ hM (cwV 3 hts gL_state_X0_state rfl rfl rfl nX0_state ⟨Nat.le_of_ble_eq_true rfl, Nat.le_of_ble_eq_true rfl⟩) [0, 1, 2, 3, 4, 5, 6, 7] [] rfl rfl (by decide) (by decide) (by decide) (va_recv hK hP (ci := 0) (q0 := 0) rfl rfl) rfl hl.1 rfl (Nat.le_of_ble_eq_true rfl) dL_state_4 ⟨Nat.le_of_ble_eq_true rfl, Nat.le_of_ble_eq_true rfl⟩ hK hP hD hS hA hE (fun hu0 ce q9 H locs hP hD hS hce hcv hcl => ?_) (fun hu0 H locs hP hD hS => ?_)
  · rcases hu with z | rfl
    · exact absurd z hu0
    · refine kc_catch (E := xIA) (name := xIA) hown [] ⟨0, 7, 10, 15⟩ [] (htab.trans rfl) (fun z hz => absurd hz List.not_mem_nil) (by decide) (by decide) (hts _ kL_state_0) ((hE.2.2.2.2.1 xIA (by decide)).use rfl) hce hcv hcl ?_
      refine lv_astore (lv' := [(4, .ref q9), (0, .ref o), (1, .int p1), (2, .int p2), (3, .int p3)]) hx hb dL_state_10 hl (by decide) rfl (fun ls hl => ?_)
      refine lv_iconst (v := 1) hx hb dL_state_12 (by decide) ?_
      exact hRi hx hb hr hlk hK (by rw [if_neg hu0]; exact hP) (by rw [if_neg hu0]; exact hD) hS (by decide) dL_state_13
  · refine lv_goto (tgt := 14) hx hb dL_state_7 (by decide) ?_
    refine lv_iconst (v := 0) hx hb dL_state_14 (by decide) ?_
    exact hRi hx hb hr hlk hK (by rw [if_pos hu0]; exact hP) (by rw [if_pos hu0]; exact hD) hS (by rw [if_pos hu0]) dL_state_15
abbrev rmL_clocks : Room := { frames := 7, cells := 1, slots := 6, locals := 112 }
theorem nL_clocks : yL_clocks.cls ≠ "java/lang/invoke/MethodHandle" ∧ yL_clocks.cls ≠ "java/lang/invoke/VarHandle" ∧ (parseMethodDescriptor yL_clocks.desc).map (fun d => d.parameters.length) = some 3 := by decide +kernel
theorem kL_clocks_0 : Cond.classLink RL 15 "java/lang/IllegalArgumentException" ∈ wsL_clocks := by decide +kernel
set_option maxHeartbeats 4000000 in
set_option maxRecDepth 100000 in
theorem mL_clocks (l : Launch) (D : va_G) (cI : ClassId) (o : Nat) (h : Nat → Nat) (F : Nat → Int32) (A : Nat → Nat → Int32) (p1 : Int32) (p2 : Int32) {u : Int32} {wc : va_W} (hM : xMv l yX0_clocks wsX0_clocks rmX0_clocks D [(cI, .int)] (wB cI o h F A) [.ref o, .int p1, .int p2] u wc) (hu : u = 0 ∨ u = 2) : hMi l yL_clocks wsL_clocks rmL_clocks D [(cI, .int)] (wB cI o h F A) [.ref o, .int p1, .int p2] (if u = 0 then 0 else 1) (if u = 0 then wc else (wB cI o h F A)) := by
  intro sz
  refine hMet_of (Qc := fun AA => cQi D [(cI, .int)] (if u = 0 then 0 else 1) (if u = 0 then wc else (wB cI o h F A)) AA) (cc := cL_clocks) (maxL := 4) (ret := some .int) (hh := [(0, 6, 9, 15)]) (by decide) rfl (Nat.le_of_ble_eq_true rfl) ?_ sz
  intro p e s m below meth c AA ls hx hb hr hts hown hml hlk hA hK hP hD hS hl htab hE
  have hown : s.vm.findClass RL = some m.cls := hown
  have hl : lv_has ls 4 [(0, .ref o), (1, .int p1), (2, .int p2)] := hl
  refine lv_aload_n hx hb dL_clocks_0 rfl (lv_at hl 0 rfl) ?_
  refine lv_iload_n hx hb dL_clocks_1 rfl (lv_at hl 1 rfl) ?_
  refine lv_iload_n hx hb dL_clocks_2 rfl (lv_at hl 2 rfl) ?_
  refine hCv (wr := []) (As := [.int p1, .int p2]) (rest := []) ⟨hx, hb, hml, hown, hts⟩ hM (cwV 2 hts gL_clocks_X0_clocks rfl rfl rfl nX0_clocks ⟨Nat.le_of_ble_eq_true rfl, Nat.le_of_ble_eq_true rfl⟩) [0, 1, 2, 3, 4, 5, 6, 7] [] rfl rfl (by decide) (by decide) (by decide) (va_recv hK hP (ci := 0) (q0 := 0) rfl rfl) rfl hl.1 rfl (Nat.le_of_ble_eq_true rfl) dL_clocks_3 ⟨Nat.le_of_ble_eq_true rfl, Nat.le_of_ble_eq_true rfl⟩ hK hP hD hS hA hE (fun hu0 ce q9 H locs hP hD hS hce hcv hcl => ?_) (fun hu0 H locs hP hD hS => ?_)
  · rcases hu with z | rfl
    · exact absurd z hu0
    · refine kc_catch (E := xIA) (name := xIA) hown [] ⟨0, 6, 9, 15⟩ [] (htab.trans rfl) (fun z hz => absurd hz List.not_mem_nil) (by decide) (by decide) (hts _ kL_clocks_0) ((hE.2.2.2.2.1 xIA (by decide)).use rfl) hce hcv hcl ?_
      refine lv_astore_n (lv' := [(3, .ref q9), (0, .ref o), (1, .int p1), (2, .int p2)]) hx hb dL_clocks_9 rfl hl (by decide) rfl (fun ls hl => ?_)
      refine lv_iconst (v := 1) hx hb dL_clocks_10 (by decide) ?_
      exact hRi hx hb hr hlk hK (by rw [if_neg hu0]; exact hP) (by rw [if_neg hu0]; exact hD) hS (by decide) dL_clocks_11
  · refine lv_goto (tgt := 12) hx hb dL_clocks_6 (by decide) ?_
    refine lv_iconst (v := 0) hx hb dL_clocks_12 (by decide) ?_
    exact hRi hx hb hr hlk hK (by rw [if_pos hu0]; exact hP) (by rw [if_pos hu0]; exact hD) hS (by rw [if_pos hu0]) dL_clocks_13
abbrev rmL_make : Room := { frames := 7, cells := 1, slots := 6, locals := 166 }
theorem nL_make : yL_make.cls ≠ "java/lang/invoke/MethodHandle" ∧ yL_make.cls ≠ "java/lang/invoke/VarHandle" ∧ (parseMethodDescriptor yL_make.desc).map (fun d => d.parameters.length) = some 3 := by decide +kernel
theorem kL_make_0 : Cond.classLink RL 15 "java/lang/IllegalArgumentException" ∈ wsL_make := by decide +kernel
theorem kL_make_1 : Cond.classLink RL 17 "java/lang/IllegalStateException" ∈ wsL_make := by decide +kernel
set_option maxHeartbeats 4000000 in
set_option maxRecDepth 100000 in
theorem mL_make (l : Launch) (D : va_G) (cI : ClassId) (cJ : ClassId) (o : Nat) (h : Nat → Nat) (F : Nat → Int32) (A : Nat → Nat → Int32) (p1 : Int32) (ho : Nat) (fo : Nat → Int64) {u : Int32} {r : Int32} {wc : va_W} (hM : xMi l yX0_make wsX0_make rmX0_make D [(cI, .int)] (wB cI o h F A) [.ref o, .int p1] u r wc) (hu : u = 0 ∨ u = 2 ∨ u = 3) : hMi l yL_make wsL_make rmL_make D [(cI, .int), (cJ, .long)] ((ho, .inl (cJ, 1, .inr (.inl fo))) :: (wB cI o h F A)) [.ref o, .int p1, .ref ho] (if u = 0 then 0 else (if u = 2 then 1 else 2)) (if u = 0 then ((ho, .inl (cJ, 1, .inr (.inl (vp_updL fo (Int32.toNatClampNeg 0) (Int32.toInt64 r))))) :: wc) else ((ho, .inl (cJ, 1, .inr (.inl fo))) :: (wB cI o h F A))) := by
  intro sz
  refine hMet_of (Qc := fun AA => cQi D [(cI, .int), (cJ, .long)] (if u = 0 then 0 else (if u = 2 then 1 else 2)) (if u = 0 then ((ho, .inl (cJ, 1, .inr (.inl (vp_updL fo (Int32.toNatClampNeg 0) (Int32.toInt64 r))))) :: wc) else ((ho, .inl (cJ, 1, .inr (.inl fo))) :: (wB cI o h F A))) AA) (cc := cL_make) (maxL := 4) (ret := some .int) (hh := [(0, 9, 12, 15), (0, 9, 15, 17)]) (by decide) rfl (Nat.le_of_ble_eq_true rfl) ?_ sz
  intro p e s m below meth c AA ls hx hb hr hts hown hml hlk hA hK hP hD hS hl htab hE
  have hown : s.vm.findClass RL = some m.cls := hown
  have hl : lv_has ls 4 [(0, .ref o), (1, .int p1), (2, .ref ho)] := hl
  refine lv_aload_n hx hb dL_make_0 rfl (lv_at hl 2 rfl) ?_
  refine lv_iconst (v := 0) hx hb dL_make_1 (by decide) ?_
  refine lv_aload_n hx hb dL_make_2 rfl (lv_at hl 0 rfl) ?_
  refine lv_iload_n hx hb dL_make_3 rfl (lv_at hl 1 rfl) ?_
  refine hCi (wr := [(ho, .inl (cJ, 1, .inr (.inl fo)))]) (As := [.int p1]) (rest := [.int 0, .ref ho]) ⟨hx, hb, hml, hown, hts⟩ hM (cwV 1 hts gL_make_X0_make rfl rfl rfl nX0_make ⟨Nat.le_of_ble_eq_true rfl, Nat.le_of_ble_eq_true rfl⟩) [1, 2, 3, 4, 5, 6, 7, 8] [0] rfl rfl (by decide) (by decide) (by decide) (va_recv hK hP (ci := 0) (q0 := 1) rfl rfl) rfl hl.1 rfl (Nat.le_of_ble_eq_true rfl) dL_make_4 ⟨Nat.le_of_ble_eq_true rfl, Nat.le_of_ble_eq_true rfl⟩ (hK.sub [0] rfl) hP hD hS hA hE (fun hu0 ce q9 H locs hP hD hS hce hcv hcl => ?_) (fun hu0 H locs hP hD hS => ?_)
  · rcases hu with z | rfl | rfl
    · exact absurd z hu0
    · refine kc_catch (E := xIA) (name := xIA) hown [] ⟨0, 9, 12, 15⟩ [⟨0, 9, 15, 17⟩] (htab.trans rfl) (fun z hz => absurd hz List.not_mem_nil) (by decide) (by decide) (hts _ kL_make_0) ((hE.2.2.2.2.1 xIA (by decide)).use rfl) hce hcv hcl ?_
      refine lv_astore_n (lv' := [(3, .ref q9), (0, .ref o), (1, .int p1), (2, .ref ho)]) hx hb dL_make_12 rfl hl (by decide) rfl (fun ls hl => ?_)
      refine lv_iconst (v := 1) hx hb dL_make_13 (by decide) ?_
      exact hRi hx hb hr hlk hK (by rw [if_neg hu0]; exact hP) (by rw [if_neg hu0]; exact hD) hS (by decide) dL_make_14
    · refine kc_catch (E := xIS) (name := xIS) hown [⟨0, 9, 12, 15⟩] ⟨0, 9, 15, 17⟩ [] (htab.trans rfl) (fun z hz => by
        simp only [List.mem_cons, List.not_mem_nil, or_false] at hz
        rcases hz with rfl
        · exact Or.inr ⟨by decide, xIA, hts _ kL_make_0, hE.2.2.2.2.2.1 (xIS, xIA) (by decide)⟩) (by decide) (by decide) (hts _ kL_make_1) ((hE.2.2.2.2.1 xIS (by decide)).use rfl) hce hcv hcl ?_
      refine lv_astore_n (lv' := [(3, .ref q9), (0, .ref o), (1, .int p1), (2, .ref ho)]) hx hb dL_make_15 rfl hl (by decide) rfl (fun ls hl => ?_)
      refine lv_iconst (v := 2) hx hb dL_make_16 (by decide) ?_
      exact hRi hx hb hr hlk hK (by rw [if_neg hu0]; exact hP) (by rw [if_neg hu0]; exact hD) hS (by decide) dL_make_17
  · refine lv_i2l hx hb dL_make_7 rfl ?_
    refine va_last (f := fo) hx hb hK hP hD hS 0 1 rfl rfl (vp_in_nI (n := 0) (by decide) (by decide)) dL_make_8 (fun H locs hP hD hS => ?_)
    refine lv_goto (tgt := 18) hx hb dL_make_9 (by decide) ?_
    refine lv_iconst (v := 0) hx hb dL_make_18 (by decide) ?_
    exact hRi hx hb hr hlk hK (by rw [if_pos hu0]; exact hP) (by rw [if_pos hu0]; exact hD) hS (by rw [if_pos hu0]) dL_make_19
abbrev rmL_unmake : Room := { frames := 7, cells := 1, slots := 6, locals := 111 }
theorem nL_unmake : yL_unmake.cls ≠ "java/lang/invoke/MethodHandle" ∧ yL_unmake.cls ≠ "java/lang/invoke/VarHandle" ∧ (parseMethodDescriptor yL_unmake.desc).map (fun d => d.parameters.length) = some 2 := by decide +kernel
theorem kL_unmake_0 : Cond.classLink RL 17 "java/lang/IllegalStateException" ∈ wsL_unmake := by decide +kernel
set_option maxHeartbeats 4000000 in
set_option maxRecDepth 100000 in
theorem mL_unmake (l : Launch) (D : va_G) (cI : ClassId) (cJ : ClassId) (o : Nat) (h : Nat → Nat) (F : Nat → Int32) (A : Nat → Nat → Int32)  (ho : Nat) (fo : Nat → Int64) {u : Int32} {r : Int32} {wc : va_W} (hM : xMi l yX0_unmake wsX0_unmake rmX0_unmake D [(cI, .int)] (wB cI o h F A) [.ref o] u r wc) (hu : u = 0 ∨ u = 3) : hMi l yL_unmake wsL_unmake rmL_unmake D [(cI, .int), (cJ, .long)] ((ho, .inl (cJ, 1, .inr (.inl fo))) :: (wB cI o h F A)) [.ref o, .ref ho] (if u = 0 then 0 else 1) (if u = 0 then ((ho, .inl (cJ, 1, .inr (.inl (vp_updL fo (Int32.toNatClampNeg 0) (Int32.toInt64 r))))) :: wc) else ((ho, .inl (cJ, 1, .inr (.inl fo))) :: (wB cI o h F A))) := by
  intro sz
  refine hMet_of (Qc := fun AA => cQi D [(cI, .int), (cJ, .long)] (if u = 0 then 0 else 1) (if u = 0 then ((ho, .inl (cJ, 1, .inr (.inl (vp_updL fo (Int32.toNatClampNeg 0) (Int32.toInt64 r))))) :: wc) else ((ho, .inl (cJ, 1, .inr (.inl fo))) :: (wB cI o h F A))) AA) (cc := cL_unmake) (maxL := 3) (ret := some .int) (hh := [(0, 8, 11, 17)]) (by decide) rfl (Nat.le_of_ble_eq_true rfl) ?_ sz
  intro p e s m below meth c AA ls hx hb hr hts hown hml hlk hA hK hP hD hS hl htab hE
  have hown : s.vm.findClass RL = some m.cls := hown
  have hl : lv_has ls 3 [(0, .ref o), (1, .ref ho)] := hl
  refine lv_aload_n hx hb dL_unmake_0 rfl (lv_at hl 1 rfl) ?_
  refine lv_iconst (v := 0) hx hb dL_unmake_1 (by decide) ?_
  refine lv_aload_n hx hb dL_unmake_2 rfl (lv_at hl 0 rfl) ?_
  refine hCi (wr := [(ho, .inl (cJ, 1, .inr (.inl fo)))]) (As := []) (rest := [.int 0, .ref ho]) ⟨hx, hb, hml, hown, hts⟩ hM (cwV 0 hts gL_unmake_X0_unmake rfl rfl rfl nX0_unmake ⟨Nat.le_of_ble_eq_true rfl, Nat.le_of_ble_eq_true rfl⟩) [1, 2, 3, 4, 5, 6, 7, 8] [0] rfl rfl (by decide) (by decide) (by decide) (va_recv hK hP (ci := 0) (q0 := 1) rfl rfl) rfl hl.1 rfl (Nat.le_of_ble_eq_true rfl) dL_unmake_3 ⟨Nat.le_of_ble_eq_true rfl, Nat.le_of_ble_eq_true rfl⟩ (hK.sub [0] rfl) hP hD hS hA hE (fun hu0 ce q9 H locs hP hD hS hce hcv hcl => ?_) (fun hu0 H locs hP hD hS => ?_)
  · rcases hu with z | rfl
    · exact absurd z hu0
    · refine kc_catch (E := xIS) (name := xIS) hown [] ⟨0, 8, 11, 17⟩ [] (htab.trans rfl) (fun z hz => absurd hz List.not_mem_nil) (by decide) (by decide) (hts _ kL_unmake_0) ((hE.2.2.2.2.1 xIS (by decide)).use rfl) hce hcv hcl ?_
      refine lv_astore_n (lv' := [(2, .ref q9), (0, .ref o), (1, .ref ho)]) hx hb dL_unmake_11 rfl hl (by decide) rfl (fun ls hl => ?_)
      refine lv_iconst (v := 1) hx hb dL_unmake_12 (by decide) ?_
      exact hRi hx hb hr hlk hK (by rw [if_neg hu0]; exact hP) (by rw [if_neg hu0]; exact hD) hS (by decide) dL_unmake_13
  · refine lv_i2l hx hb dL_unmake_6 rfl ?_
    refine va_last (f := fo) hx hb hK hP hD hS 0 1 rfl rfl (vp_in_nI (n := 0) (by decide) (by decide)) dL_unmake_7 (fun H locs hP hD hS => ?_)
    refine lv_goto (tgt := 14) hx hb dL_unmake_8 (by decide) ?_
    refine lv_iconst (v := 0) hx hb dL_unmake_14 (by decide) ?_
    exact hRi hx hb hr hlk hK (by rw [if_pos hu0]; exact hP) (by rw [if_pos hu0]; exact hD) hS (by rw [if_pos hu0]) dL_unmake_15
abbrev rmL_at : Room := { frames := 7, cells := 1, slots := 6, locals := 111 }
theorem nL_at : yL_at.cls ≠ "java/lang/invoke/MethodHandle" ∧ yL_at.cls ≠ "java/lang/invoke/VarHandle" ∧ (parseMethodDescriptor yL_at.desc).map (fun d => d.parameters.length) = some 3 := by decide +kernel
theorem kL_at_0 : Cond.classLink RL 13 "java/lang/IndexOutOfBoundsException" ∈ wsL_at := by decide +kernel
set_option maxHeartbeats 4000000 in
set_option maxRecDepth 100000 in
theorem mL_at (l : Launch) (D : va_G) (cI : ClassId) (cJ : ClassId) (o : Nat) (h : Nat → Nat) (F : Nat → Int32) (A : Nat → Nat → Int32) (p1 : Int32) (ho : Nat) (fo : Nat → Int64) {u : Int32} {r : Int32} {wc : va_W} (hM : xMi l yX0_at wsX0_at rmX0_at D [(cI, .int)] (wB cI o h F A) [.ref o, .int p1] u r wc) (hu : u = 0 ∨ u = 1) : hMi l yL_at wsL_at rmL_at D [(cI, .int), (cJ, .long)] ((ho, .inl (cJ, 1, .inr (.inl fo))) :: (wB cI o h F A)) [.ref o, .int p1, .ref ho] (if u = 0 then 0 else 1) (if u = 0 then ((ho, .inl (cJ, 1, .inr (.inl (vp_updL fo (Int32.toNatClampNeg 0) (Int32.toInt64 r))))) :: wc) else ((ho, .inl (cJ, 1, .inr (.inl fo))) :: (wB cI o h F A))) := by
  intro sz
  refine hMet_of (Qc := fun AA => cQi D [(cI, .int), (cJ, .long)] (if u = 0 then 0 else 1) (if u = 0 then ((ho, .inl (cJ, 1, .inr (.inl (vp_updL fo (Int32.toNatClampNeg 0) (Int32.toInt64 r))))) :: wc) else ((ho, .inl (cJ, 1, .inr (.inl fo))) :: (wB cI o h F A))) AA) (cc := cL_at) (maxL := 4) (ret := some .int) (hh := [(0, 9, 12, 13)]) (by decide) rfl (Nat.le_of_ble_eq_true rfl) ?_ sz
  intro p e s m below meth c AA ls hx hb hr hts hown hml hlk hA hK hP hD hS hl htab hE
  have hown : s.vm.findClass RL = some m.cls := hown
  have hl : lv_has ls 4 [(0, .ref o), (1, .int p1), (2, .ref ho)] := hl
  refine lv_aload_n hx hb dL_at_0 rfl (lv_at hl 2 rfl) ?_
  refine lv_iconst (v := 0) hx hb dL_at_1 (by decide) ?_
  refine lv_aload_n hx hb dL_at_2 rfl (lv_at hl 0 rfl) ?_
  refine lv_iload_n hx hb dL_at_3 rfl (lv_at hl 1 rfl) ?_
  refine hCi (wr := [(ho, .inl (cJ, 1, .inr (.inl fo)))]) (As := [.int p1]) (rest := [.int 0, .ref ho]) ⟨hx, hb, hml, hown, hts⟩ hM (cwV 1 hts gL_at_X0_at rfl rfl rfl nX0_at ⟨Nat.le_of_ble_eq_true rfl, Nat.le_of_ble_eq_true rfl⟩) [1, 2, 3, 4, 5, 6, 7, 8] [0] rfl rfl (by decide) (by decide) (by decide) (va_recv hK hP (ci := 0) (q0 := 1) rfl rfl) rfl hl.1 rfl (Nat.le_of_ble_eq_true rfl) dL_at_4 ⟨Nat.le_of_ble_eq_true rfl, Nat.le_of_ble_eq_true rfl⟩ (hK.sub [0] rfl) hP hD hS hA hE (fun hu0 ce q9 H locs hP hD hS hce hcv hcl => ?_) (fun hu0 H locs hP hD hS => ?_)
  · rcases hu with z | rfl
    · exact absurd z hu0
    · refine kc_catch (E := xIO) (name := xIO) hown [] ⟨0, 9, 12, 13⟩ [] (htab.trans rfl) (fun z hz => absurd hz List.not_mem_nil) (by decide) (by decide) (hts _ kL_at_0) ((hE.2.2.2.2.1 xIO (by decide)).use rfl) hce hcv hcl ?_
      refine lv_astore_n (lv' := [(3, .ref q9), (0, .ref o), (1, .int p1), (2, .ref ho)]) hx hb dL_at_12 rfl hl (by decide) rfl (fun ls hl => ?_)
      refine lv_iconst (v := 1) hx hb dL_at_13 (by decide) ?_
      exact hRi hx hb hr hlk hK (by rw [if_neg hu0]; exact hP) (by rw [if_neg hu0]; exact hD) hS (by decide) dL_at_14
  · refine lv_i2l hx hb dL_at_7 rfl ?_
    refine va_last (f := fo) hx hb hK hP hD hS 0 1 rfl rfl (vp_in_nI (n := 0) (by decide) (by decide)) dL_at_8 (fun H locs hP hD hS => ?_)
    refine lv_goto (tgt := 15) hx hb dL_at_9 (by decide) ?_
    refine lv_iconst (v := 0) hx hb dL_at_15 (by decide) ?_
    exact hRi hx hb hr hlk hK (by rw [if_pos hu0]; exact hP) (by rw [if_pos hu0]; exact hD) hS (by rw [if_pos hu0]) dL_at_16
abbrev rmL_attackers : Room := { frames := 7, cells := 1, slots := 6, locals := 120 }
theorem nL_attackers : yL_attackers.cls ≠ "java/lang/invoke/MethodHandle" ∧ yL_attackers.cls ≠ "java/lang/invoke/VarHandle" ∧ (parseMethodDescriptor yL_attackers.desc).map (fun d => d.parameters.length) = some 4 := by decide +kernel
theorem kL_attackers_0 : Cond.classLink RL 13 "java/lang/IndexOutOfBoundsException" ∈ wsL_attackers := by decide +kernel
theorem kL_attackers_1 : Cond.classLink RL 15 "java/lang/IllegalArgumentException" ∈ wsL_attackers := by decide +kernel
set_option maxHeartbeats 4000000 in
set_option maxRecDepth 100000 in
theorem mL_attackers (l : Launch) (D : va_G) (cI : ClassId) (cJ : ClassId) (o : Nat) (h : Nat → Nat) (F : Nat → Int32) (A : Nat → Nat → Int32) (p1 : Int32) (p2 : Int32) (ho : Nat) (fo : Nat → Int64) {u : Int32} {r : Int64} {wc : va_W} (hM : xMl l yX0_attackers wsX0_attackers rmX0_attackers D [(cI, .int)] (wB cI o h F A) [.ref o, .int p1, .int p2] u r wc) (hu : u = 0 ∨ u = 1 ∨ u = 2) : hMi l yL_attackers wsL_attackers rmL_attackers D [(cI, .int), (cJ, .long)] ((ho, .inl (cJ, 1, .inr (.inl fo))) :: (wB cI o h F A)) [.ref o, .int p1, .int p2, .ref ho] (if u = 0 then 0 else (if u = 1 then 1 else 2)) (if u = 0 then ((ho, .inl (cJ, 1, .inr (.inl (vp_updL fo (Int32.toNatClampNeg 0) r)))) :: wc) else ((ho, .inl (cJ, 1, .inr (.inl fo))) :: (wB cI o h F A))) := by
  intro sz
  refine hMet_of (Qc := fun AA => cQi D [(cI, .int), (cJ, .long)] (if u = 0 then 0 else (if u = 1 then 1 else 2)) (if u = 0 then ((ho, .inl (cJ, 1, .inr (.inl (vp_updL fo (Int32.toNatClampNeg 0) r)))) :: wc) else ((ho, .inl (cJ, 1, .inr (.inl fo))) :: (wB cI o h F A))) AA) (cc := cL_attackers) (maxL := 5) (ret := some .int) (hh := [(0, 9, 12, 13), (0, 9, 16, 15)]) (by decide) rfl (Nat.le_of_ble_eq_true rfl) ?_ sz
  intro p e s m below meth c AA ls hx hb hr hts hown hml hlk hA hK hP hD hS hl htab hE
  have hown : s.vm.findClass RL = some m.cls := hown
  have hl : lv_has ls 5 [(0, .ref o), (1, .int p1), (2, .int p2), (3, .ref ho)] := hl
  refine lv_aload_n hx hb dL_attackers_0 rfl (lv_at hl 3 rfl) ?_
  refine lv_iconst (v := 0) hx hb dL_attackers_1 (by decide) ?_
  refine lv_aload_n hx hb dL_attackers_2 rfl (lv_at hl 0 rfl) ?_
  refine lv_iload_n hx hb dL_attackers_3 rfl (lv_at hl 1 rfl) ?_
  refine lv_iload_n hx hb dL_attackers_4 rfl (lv_at hl 2 rfl) ?_
  refine hCl (wr := [(ho, .inl (cJ, 1, .inr (.inl fo)))]) (As := [.int p1, .int p2]) (rest := [.int 0, .ref ho]) ⟨hx, hb, hml, hown, hts⟩ hM (cwV 2 hts gL_attackers_X0_attackers rfl rfl rfl nX0_attackers ⟨Nat.le_of_ble_eq_true rfl, Nat.le_of_ble_eq_true rfl⟩) [1, 2, 3, 4, 5, 6, 7, 8] [0] rfl rfl (by decide) (by decide) (by decide) (va_recv hK hP (ci := 0) (q0 := 1) rfl rfl) rfl hl.1 rfl (Nat.le_of_ble_eq_true rfl) dL_attackers_5 ⟨Nat.le_of_ble_eq_true rfl, Nat.le_of_ble_eq_true rfl⟩ (hK.sub [0] rfl) hP hD hS hA hE (fun hu0 ce q9 H locs hP hD hS hce hcv hcl => ?_) (fun hu0 H locs hP hD hS => ?_)
  · rcases hu with z | rfl | rfl
    · exact absurd z hu0
    · refine kc_catch (E := xIO) (name := xIO) hown [] ⟨0, 9, 12, 13⟩ [⟨0, 9, 16, 15⟩] (htab.trans rfl) (fun z hz => absurd hz List.not_mem_nil) (by decide) (by decide) (hts _ kL_attackers_0) ((hE.2.2.2.2.1 xIO (by decide)).use rfl) hce hcv hcl ?_
      refine lv_astore (lv' := [(4, .ref q9), (0, .ref o), (1, .int p1), (2, .int p2), (3, .ref ho)]) hx hb dL_attackers_12 hl (by decide) rfl (fun ls hl => ?_)
      refine lv_iconst (v := 1) hx hb dL_attackers_14 (by decide) ?_
      exact hRi hx hb hr hlk hK (by rw [if_neg hu0]; exact hP) (by rw [if_neg hu0]; exact hD) hS (by decide) dL_attackers_15
    · refine kc_catch (E := xIA) (name := xIA) hown [⟨0, 9, 12, 13⟩] ⟨0, 9, 16, 15⟩ [] (htab.trans rfl) (fun z hz => by
        simp only [List.mem_cons, List.not_mem_nil, or_false] at hz
        rcases hz with rfl
        · exact Or.inr ⟨by decide, xIO, hts _ kL_attackers_0, hE.2.2.2.2.2.1 (xIA, xIO) (by decide)⟩) (by decide) (by decide) (hts _ kL_attackers_1) ((hE.2.2.2.2.1 xIA (by decide)).use rfl) hce hcv hcl ?_
      refine lv_astore (lv' := [(4, .ref q9), (0, .ref o), (1, .int p1), (2, .int p2), (3, .ref ho)]) hx hb dL_attackers_16 hl (by decide) rfl (fun ls hl => ?_)
      refine lv_iconst (v := 2) hx hb dL_attackers_18 (by decide) ?_
      exact hRi hx hb hr hlk hK (by rw [if_neg hu0]; exact hP) (by rw [if_neg hu0]; exact hD) hS (by decide) dL_attackers_19
  · refine va_last (f := fo) hx hb hK hP hD hS 0 1 rfl rfl (vp_in_nI (n := 0) (by decide) (by decide)) dL_attackers_8 (fun H locs hP hD hS => ?_)
    refine lv_goto (tgt := 20) hx hb dL_attackers_9 (by decide) ?_
    refine lv_iconst (v := 0) hx hb dL_attackers_20 (by decide) ?_
    exact hRi hx hb hr hlk hK (by rw [if_pos hu0]; exact hP) (by rw [if_pos hu0]; exact hD) hS (by rw [if_pos hu0]) dL_attackers_21
