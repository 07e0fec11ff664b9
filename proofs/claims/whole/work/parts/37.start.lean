theorem tw_m0 : Cond.methodLink RL 41 yX0_init ∈ wsL_law := List.mem_append_left _ (List.mem_append_left _ (List.mem_append_left _ (List.mem_append_left _ (List.mem_append_left _ (List.mem_append_left _ (List.mem_append_left _ (by decide +kernel)))))))
theorem tw_m0i : Cond.instanceMethod yX0_init ∈ wsL_law := List.mem_append_left _ (List.mem_append_left _ (List.mem_append_left _ (List.mem_append_left _ (List.mem_append_left _ (List.mem_append_left _ (List.mem_append_left _ (by decide +kernel)))))))
theorem tw_m1 : Cond.methodLink RL 44 yX1_init ∈ wsL_law := List.mem_append_left _ (List.mem_append_left _ (List.mem_append_left _ (List.mem_append_left _ (List.mem_append_left _ (List.mem_append_left _ (List.mem_append_right _ (List.mem_append_left _ (by decide +kernel))))))))
theorem tw_m1i : Cond.instanceMethod yX1_init ∈ wsL_law := List.mem_append_left _ (List.mem_append_left _ (List.mem_append_left _ (List.mem_append_left _ (List.mem_append_left _ (List.mem_append_left _ (List.mem_append_right _ (List.mem_append_left _ (by decide +kernel))))))))
set_option maxHeartbeats 4000000 in
set_option maxRecDepth 100000 in
theorem start_open {p : Program} {e : Env} {s : State} {m : MethodId} {below : List Frame} {meth : Method} {c : Code} (l : Launch) {b L : Nat} {xs : Nat → Int32} (hL : L ≤ 2048) (C0 : lw_At p s m meth c b L xs) (hst : l.stackTraces = false) (H_init : pb_init) (H_clear : pb_clear) (H_begin : pb_begin) (H_put : pb_put) (H_state : pb_state) (H_clocks : pb_clocks) (H_fits : pb_fits) (H_make : pb_make) (H_unmake : pb_unmake) (H_at : pb_at) (H_where : pb_where) (H_attackers : pb_attackers) (H_check : pb_check) (H_key : pb_key) (H_move : pb_move) (H_look : pb_look) : W p l e room_1 s m #[Value.ref b] below meth c s.heap [] 0 0 (lw_Z below #[Value.ref b] s) (entryFrame m ([Value.ref b] : List Value).toArray 8) := by
  obtain ⟨hx, hb, hr, hml, hown, hts, hX, hbl, hlk, hgv⟩ := id C0
  have hown : s.vm.findClass RL = some m.cls := hown
  have htl : ∀ w ∈ wsL_law, w.before #[Value.ref b] s = true := fun w h => hts w (wsL_law_in w h)
  have hE := xE_start hts hgv
  have hA : ∀ q : Nat, s.heap.size ≤ q → AL s q := fun _ h => h
  obtain ⟨k0, iS0, hKn0⟩ := u_known (C := RX0) (T := TX0) (N := 13) (n := 13) hts inX0 (hts _ tw_n0)
  obtain ⟨k1, iS1, hKn1⟩ := u_known (C := RX1) (T := TX1) (N := 11) (n := 11) hts inX1 (hts _ tw_n1)
  obtain ⟨D, hKc⟩ : ∃ D : va_G, ∀ (k : Nat) (q : vw_C), vwCl[k]? = some q → u_Kn s q.1 q.2.1 q.2.2 (D.1 k) (D.2 k) := by
    refine ⟨(fun k => if k = 0 then k0 else k1, fun k => if k = 0 then iS0 else iS1), ?_⟩
    intro k q hq
    match k, hq with
    | 0, hq => cases hq; exact hKn0
    | 1, hq => cases hq; exact hKn1
    | k + 2, hq => simp [vwCl] at hq
  have hS : va_S (AL s) s.heap s.heap [] := va_S.rf
  have hK : va_K D vwCl [] s := ⟨hKc, fun k q h => by simp at h⟩
  have hP : va_P D vwCl [] s.heap := cPnil
  have hD : va_D (AL s) [] := cNil
  have hl := lv_entry ([.ref b]) (n := 8) (Nat.le_of_ble_eq_true rfl)
  rw [lg_entry_eq]
  generalize (lg_sl ([.ref b]) ++ List.replicate (8 - (lg_sl ([.ref b])).length) Slot.unset).toArray = ls at hl ⊢
  have hl : lv_has ls 8 [(0, .ref b)] := hl
  refine va_new (ci := 0) (fs := [.null, .int 0, .int 0, .int 0, .int 0, .int 0, .int 0, .null, .null, .null, .null, .null, .null]) (C := RX0) (T := TX0) (N := 13) hx hb hts inX0 tyX0 tyX0_ok hown (hts _ tw_c0) (hts _ tw_n0) (hts _ tw_i0) hK hP hD hS hA rfl (fun j hj => by
    match j, hj with
    | 0, _ => rfl | 1, _ => rfl | 2, _ => rfl | 3, _ => rfl | 4, _ => rfl | 5, _ => rfl | 6, _ => rfl | 7, _ => rfl | 8, _ => rfl | 9, _ => rfl | 10, _ => rfl | 11, _ => rfl | 12, _ => rfl) (Nat.le_of_ble_eq_true rfl) (Nat.le_of_ble_eq_true rfl) dL_law_0 (fun o0 H hP hD hS => ?_)
  have hP : va_P D vwCl (w0X0 o0) H := hP
  have hD : va_D (AL s) (w0X0 o0) := hD
  refine W.widen (k := 1) (n := 13) (Nat.le_of_ble_eq_true rfl) (Nat.le_of_ble_eq_true rfl) ?_
  refine lv_dup hx hb dL_law_3 rfl ?_
  have hFc := va_free (wc := w0X0 o0) hD hS hA [0] rfl
  refine va_callv (va_runI (As := []) (rest := [.ref o0]) ⟨hx, hb, hml, hown, htl⟩ (mX0_init l D o0 H.size) (cwI 0 htl gL_law_X0_init rfl rfl rfl (hts _ tw_i0) (htl _ tw_m0) (htl _ tw_m0i) rfl nX0_init ⟨Nat.le_of_ble_eq_true rfl, Nat.le_of_ble_eq_true rfl⟩) ⟨cBlind, fun U hU hW => ⟨rfl, by rw [hU], by rw [hU]; exact hP, va_K.moved hW.alike hK, hD.weaken (fun _ _ _ _ => trivial)⟩⟩ rfl rfl hl.1 rfl (lv_room (Nat.le_of_ble_eq_true rfl)) dL_law_4 ⟨Nat.le_of_ble_eq_true rfl, Nat.le_of_ble_eq_true rfl⟩) hS (fun q _ h => hFc q h) hFc (fun u t H1 locs ht hvm hw hB hz1 hk1 hS => ?_)
  obtain ⟨cI, h0⟩ := u
  obtain ⟨hP1, hK1, hD1⟩ := hB
  rw [ht] at hP1
  have hK := va_K.moved hvm.symm hK1
  have hP : va_P D vwCl (wB cI o0 h0 iF0 iA0) H1 := hP1
  have hD : va_D (AL s) (wB cI o0 h0 iF0 iA0) := hD1.weaken (fun _ q _ h => hFc q.1 h)
  have hK : va_K D vwCl [(cI, .int)] s := hK
  generalize H1 = H at hP hS ⊢
  refine W.widen (k := 8) (n := 3677) (Nat.le_of_ble_eq_true rfl) (Nat.le_of_ble_eq_true rfl) ?_
  refine lv_astore_n (lv' := [(1, .ref o0), (0, .ref b)]) hx hb dL_law_7 rfl hl (by decide) rfl (fun ls hl => ?_)
  refine va_new (ci := 1) (fs := [.int 0, .null, .int 0, .int 0, .int 0, .int 0, .int 0, .int 0, .null, .null, .null]) (C := RX1) (T := TX1) (N := 11) hx hb hts inX1 tyX1 tyX1_ok hown (hts _ tw_c1) (hts _ tw_n1) (hts _ tw_i1) hK hP hD hS hA rfl (fun j hj => by
    match j, hj with
    | 0, _ => rfl | 1, _ => rfl | 2, _ => rfl | 3, _ => rfl | 4, _ => rfl | 5, _ => rfl | 6, _ => rfl | 7, _ => rfl | 8, _ => rfl | 9, _ => rfl | 10, _ => rfl) (Nat.le_of_ble_eq_true rfl) (Nat.le_of_ble_eq_true rfl) dL_law_8 (fun o1 H hP hD hS => ?_)
  have hP : va_P D vwCl (wB cI o0 h0 iF0 iA0 ++ w0X1 o1) H := hP
  have hD : va_D (AL s) (wB cI o0 h0 iF0 iA0 ++ w0X1 o1) := hD
  refine W.widen (k := 9) (n := 3688) (Nat.le_of_ble_eq_true rfl) (Nat.le_of_ble_eq_true rfl) ?_
  refine lv_dup hx hb dL_law_11 rfl ?_
  have hFc := va_free (wc := w0X1 o1) hD hS hA [8] rfl
  have hPc : va_P D vwCl (w0X1 o1) H := hP.sub [8] rfl
  have hDc : va_D (AL s) (w0X1 o1) := hD.sub [8] (by decide) rfl
  refine va_callv (va_runI (As := []) (rest := [.ref o1]) ⟨hx, hb, hml, hown, htl⟩ (mX1_init l D o1 H.size) (cwI 0 htl gL_law_X1_init rfl rfl rfl (hts _ tw_i1) (htl _ tw_m1) (htl _ tw_m1i) rfl nX1_init ⟨Nat.le_of_ble_eq_true rfl, Nat.le_of_ble_eq_true rfl⟩) ⟨cBlind, fun U hU hW => ⟨rfl, by rw [hU], by rw [hU]; exact hPc, va_K.moved hW.alike (hK.sub [] rfl), hDc.weaken (fun _ _ _ _ => trivial)⟩⟩ rfl rfl hl.1 rfl (lv_room (Nat.le_of_ble_eq_true rfl)) dL_law_12 ⟨Nat.le_of_ble_eq_true rfl, Nat.le_of_ble_eq_true rfl⟩) hS (fun q _ h => hFc q h) hFc (fun u t H1 locs ht hvm hw hB hz1 hk1 hS => ?_)
  obtain ⟨cI2, cB, h1⟩ := u
  obtain ⟨hP1, hK2, hD1⟩ := hB
  rw [ht] at hP1
  have hK2 := va_K.moved hvm.symm hK2
  have hK2 : va_K D vwCl [(cI2, .int), (cB, .byte)] s := hK2
  have hP1 : va_P D vwCl (wR cI2 cB o1 h1 iF1 iA1) H1 := hP1
  have hD1 : va_D (va_A (w0X1 o1) H.size) (wR cI2 cB o1 h1 iF1 iA1) := hD1
  obtain ⟨hP, hD⟩ := va_join (wr := wB cI o0 h0 iF0 iA0) hP hD [8] [0, 1, 2, 3, 4, 5, 6, 7] rfl rfl (by decide) (by decide) hk1 hFc hP1 hD1
  have eI : cI2 = cI := Option.some.inj (((hK2.2 0 _ rfl).2 : _ = _).symm.trans (hK.2 0 _ rfl).2)
  subst eI
  have hK : va_K D vwCl [(cI2, .int), (cB, .byte)] s := hK2
  generalize H1 = H at hP hS ⊢
  refine W.widen (k := 13) (n := 45752) (Nat.le_of_ble_eq_true rfl) (Nat.le_of_ble_eq_true rfl) ?_
  refine lv_astore_n (lv' := [(2, .ref o1), (1, .ref o0), (0, .ref b)]) hx hb dL_law_15 rfl hl (by decide) rfl (fun ls hl => ?_)
  refine lv_iconst (v := 1) hx hb dL_law_16 (by decide) ?_
  refine va_newa (atype := .long) (a0 := (1, .inr (.inl (fun _ => 0)))) (N' := 1) (ty := .long) hx hb (hts (Cond.arrayClass .long) tw_aJ) rfl hK hP hD hS hA (fun _ => rfl) (by decide) (by decide) (by decide) (Nat.le_of_ble_eq_true rfl) (Nat.le_of_ble_eq_true rfl) dL_law_17 (fun ho cJ H hK hP hD hS => ?_)
  have hK : va_K D vwCl (LT cI2 cB cJ) s := hK
  have hP : va_P D vwCl (LW cI2 cB cJ o0 h0 o1 h1 ho iF0 iA0 iF1 iA1 (fun _ => 0)) H := hP.sub [13, 0, 1, 2, 3, 4, 5, 6, 7, 8, 9, 10, 11, 12] rfl
  have hD : va_D (AL s) (LW cI2 cB cJ o0 h0 o1 h1 ho iF0 iA0 iF1 iA1 (fun _ => 0)) := hD.sub [13, 0, 1, 2, 3, 4, 5, 6, 7, 8, 9, 10, 11, 12] (by decide) rfl
  refine W.widen (k := 14 + 0) (n := 45753 + 6 * 0) (Nat.le_of_ble_eq_true rfl) (Nat.le_of_ble_eq_true rfl) ?_
  refine lv_astore_n (lv' := [(3, .ref ho), (2, .ref o1), (1, .ref o0), (0, .ref b)]) hx hb dL_law_19 rfl hl (by decide) rfl (fun ls hl => ?_)
  refine lv_iconst (v := 0) hx hb dL_law_20 (by decide) ?_
  refine lv_istore (lv' := [(4, .int (nI 0)), (3, .ref ho), (2, .ref o1), (1, .ref o0), (0, .ref b)]) hx hb dL_law_21 hl (by decide) rfl (fun ls hl => ?_)
  exact law_loop hL C0 hst hE hK H_clear H_begin H_put H_state H_clocks H_fits H_make H_unmake H_at H_where H_attackers H_check H_key H_move H_look L 0 0 rfl (by decide) (by omega) iF0 iA0 iF1 iA1 (fun _ => 0) H _ ls H_init hP hD hS (lv_sub hl [0, 4, 3, 2, 1] rfl)
