theorem lt4 {L i : Nat} (hL : L ≤ 2048) (hi : i ≤ 8192) : (Int32.ofNat L - 4 < nI i) ↔ L < i + 4 := by
  have e : (Int32.ofNat L - 4 : Int32).toInt = (L : Int) - 4 := pk_sub_toInt (a := L) (b := 4) (by omega) (by decide)
  rw [Int32.lt_iff_toInt_lt, e, nI_toInt (by omega)]
  omega
theorem lw_ret {p : Program} {l : Launch} {e : Env} {s : State} {m : MethodId} {below : List Frame} {meth : Method} {c : Code} {b : Nat} (hx : p.tables.exec = Jvm.exec) (hb : c.code = code) (hr : meth.sig.returnType = ret) (hlocks : meth.locks = false) {pc : Nat} {H : Heap} {ls : Array Slot} (hdg : decode code pc = .ok (.ireturn, 1)) : W p l e room_1 s m #[Value.ref b] below meth c H [] 601024 7293033 (lw_Z below #[Value.ref b] s) (F0 m pc ls [.int 1]) := by
  intro T hT X
  obtain ⟨fs, hret, hrun, hended, hW, hframe⟩ := X.leave (v := some (.int 1)) (hlocks := hlocks) (fun h => by rw [hr] at h; cases h)
  have hmeth' : T.vm.method? m = some meth := X.method'
  refine ⟨T.setFrames fs, ?_, .returned (some (.int 1)), hrun, hended, rfl, ⟨_, rfl⟩, hW, hframe⟩
  jvm_step X.here [X.here.top, hx, hb, hdg, hmeth', hr, ret, narrow_b1]
  (try refine ⟨rfl, ?_⟩); (try refine ⟨rfl, ?_⟩)
  first | (intro acts; rw [hret _ acts rfl rfl rfl]) | rw [hret _ _ rfl rfl rfl]
  exact Steps.refl _
set_option maxHeartbeats 4000000 in
set_option maxRecDepth 100000 in
theorem law_loop {p : Program} {l : Launch} {e : Env} {s : State} {m : MethodId} {below : List Frame} {meth : Method} {c : Code} {D : va_G} {cI cB cJ : ClassId} {o0 o1 ho b L : Nat} {h0 h1 : Nat → Nat} {xs : Nat → Int32} (hL : L ≤ 2048) (C0 : lw_At p s m meth c b L xs) (hst : l.stackTraces = false) (hE : xE (AL s) s s.heap) (hK : va_K D vwCl (LT cI cB cJ) s) (H_clear : pb_clear) (H_begin : pb_begin) (H_put : pb_put) (H_state : pb_state) (H_clocks : pb_clocks) (H_fits : pb_fits) (H_make : pb_make) (H_unmake : pb_unmake) (H_at : pb_at) (H_where : pb_where) (H_attackers : pb_attackers) (H_check : pb_check) (H_key : pb_key) (H_move : pb_move) (H_look : pb_look) :
    ∀ (n i t : Nat), i = 4 * t → i ≤ 4096 → L ≤ i + 4 * n → ∀ (B0 : Nat → Int32) (A0 : Nat → Nat → Int32) (F1 : Nat → Int32) (A1 : Nat → Nat → Int32) (fo : Nat → Int64) (H : Heap) (locs : List Loc) (ls : Array Slot), Inv B0 A0 F1 A1 → va_P D vwCl (LW cI cB cJ o0 h0 o1 h1 ho B0 A0 F1 A1 fo) H → va_D (AL s) (LW cI cB cJ o0 h0 o1 h1 ho B0 A0 F1 A1 fo) → va_S (AL s) s.heap H locs → lv_has ls 8 [(4, .int (nI i)), (0, .ref b), (1, .ref o0), (2, .ref o1), (3, .ref ho)] → W p l e room_1 s m #[Value.ref b] below meth c H locs (14 + t) (45753 + 6 * t) (lw_Z below #[Value.ref b] s) (F0 m 23 ls []) := by
  obtain ⟨hx, hb, hr, hml, hown, hts, hX, hbl, hlk, hgv⟩ := id C0
  have hbA : ¬ AL s b := Nat.not_le.mpr hbl
  intro n
  induction n with
  | zero =>
    intro i t hit hi4 hLi B0 A0 F1 A1 fo H locs ls hI hP hD hS hl
    refine lv_iload hx hb dL_law_23 (lv_at hl 0 rfl) ?_
    refine lv_aload_n hx hb dL_law_25 rfl (lv_at hl 1 rfl) ?_
    refine va_slen hx hb hX hbl hbA hS dL_law_26 ?_
    refine lv_iconst (v := 4) hx hb dL_law_27 (by decide) ?_
    refine lv_isub hx hb dL_law_28 ?_
    refine lv_icmp_gt (tgt := 659) hx hb dL_law_29 (by decide) (fun c29 => ?_) (fun c29 => ?_)
    · refine lv_iconst (v := 1) hx hb dL_law_659 (by decide) ?_
      have ht : t ≤ 1024 := by omega
      refine va_forget (fun q hq => hS.2.2 q hq) ?_
      refine W.widen (k := 601024) (n := 7293033) (by omega) (by omega) ?_
      exact lw_ret hx hb hr hlk dL_law_660
    · exact absurd ((lt4 hL (by omega)).mpr (by omega)) c29
  | succ n ih =>
    intro i t hit hi4 hLi B0 A0 F1 A1 fo H locs ls hI hP hD hS hl
    refine lv_iload hx hb dL_law_23 (lv_at hl 0 rfl) ?_
    refine lv_aload_n hx hb dL_law_25 rfl (lv_at hl 1 rfl) ?_
    refine va_slen hx hb hX hbl hbA hS dL_law_26 ?_
    refine lv_iconst (v := 4) hx hb dL_law_27 (by decide) ?_
    refine lv_isub hx hb dL_law_28 ?_
    refine lv_icmp_gt (tgt := 659) hx hb dL_law_29 (by decide) (fun c29 => ?_) (fun c29 => ?_)
    · refine lv_iconst (v := 1) hx hb dL_law_659 (by decide) ?_
      have ht : t ≤ 1024 := by omega
      refine va_forget (fun q hq => hS.2.2 q hq) ?_
      refine W.widen (k := 601024) (n := 7293033) (by omega) (by omega) ?_
      exact lw_ret hx hb hr hlk dL_law_660
    · have hlt : i + 3 < L := by
        rcases Nat.lt_or_ge (i + 3) L with z | z
        · exact z
        · exact absurd ((lt4 hL (by omega)).mpr (by omega)) c29
      have ht : t < 512 := by omega
      have hnext : ∀ (B0 : Nat → Int32) (A0 : Nat → Nat → Int32) (F1 : Nat → Int32) (A1 : Nat → Nat → Int32) (fo : Nat → Int64) (H : Heap) (locs : List Loc) (ls : Array Slot), Inv B0 A0 F1 A1 → va_P D vwCl (LW cI cB cJ o0 h0 o1 h1 ho B0 A0 F1 A1 fo) H → va_D (AL s) (LW cI cB cJ o0 h0 o1 h1 ho B0 A0 F1 A1 fo) → va_S (AL s) s.heap H locs → lv_has ls 8 [(4, .int (nI i)), (0, .ref b), (1, .ref o0), (2, .ref o1), (3, .ref ho)] → W p l e room_1 s m #[Value.ref b] below meth c H locs (15 + t) (45759 + 6 * t) (lw_Z below #[Value.ref b] s) (F0 m 653 ls []) := by
        intro B0 A0 F1 A1 fo H locs ls hI hP hD hS hl
        refine lv_iinc (v := nI (i + 4)) (lv' := [(4, .int (nI (i + 4))), (0, .ref b), (1, .ref o0), (2, .ref o1), (3, .ref ho)]) hx hb dL_law_653 hl (k := 0) rfl (nI_add i 4) (by decide) rfl (fun ls hl => ?_)
        refine lv_goto (tgt := 23) hx hb dL_law_656 (by decide) ?_
        refine W.widen (k := 14 + (t + 1)) (n := 45753 + 6 * (t + 1)) (by omega) (by omega) ?_
        exact ih (i + 4) (t + 1) (by omega) (by omega) (by omega) B0 A0 F1 A1 fo H locs ls hI hP hD hS hl
      refine lv_aload_n hx hb dL_law_32 rfl (lv_at hl 1 rfl) ?_
      refine lv_iload hx hb dL_law_33 (lv_at hl 0 rfl) ?_
      refine va_sld hx hb hX hbl hbA hS (vp_in_nI (by omega) (by omega)) dL_law_35 ?_
      refine lv_bipush (v := 15) hx hb dL_law_36 (by decide) ?_
      refine lv_iand hx hb dL_law_38 ?_
      refine lv_topi (fun x ex => ?_)
      by_cases c_0 : x = 0
      · refine lv_tableIn (off := 73) (tgt := 112) hx hb dL_law_39 (by rw [c_0]; decide) (by rw [c_0]; decide) (by rw [c_0]; rfl) (by decide) ?_
        exact lc_clear hL C0 hst hE hK hlt ht H_clear hI hnext hP hD hS hl
      by_cases c_1 : x = 1
      · refine lv_tableIn (off := 84) (tgt := 123) hx hb dL_law_39 (by rw [c_1]; decide) (by rw [c_1]; decide) (by rw [c_1]; rfl) (by decide) ?_
        exact lc_begin hL C0 hst hE hK hlt ht H_begin hI hnext hP hD hS hl
      by_cases c_2 : x = 2
      · refine lv_tableIn (off := 95) (tgt := 134) hx hb dL_law_39 (by rw [c_2]; decide) (by rw [c_2]; decide) (by rw [c_2]; rfl) (by decide) ?_
        exact lc_put hL C0 hst hE hK hlt ht H_put hI hnext hP hD hS hl
      by_cases c_3 : x = 3
      · refine lv_tableIn (off := 143) (tgt := 182) hx hb dL_law_39 (by rw [c_3]; decide) (by rw [c_3]; decide) (by rw [c_3]; rfl) (by decide) ?_
        exact lc_state hL C0 hst hE hK hlt ht H_state hI hnext hP hD hS hl
      by_cases c_4 : x = 4
      · refine lv_tableIn (off := 203) (tgt := 242) hx hb dL_law_39 (by rw [c_4]; decide) (by rw [c_4]; decide) (by rw [c_4]; rfl) (by decide) ?_
        exact lc_clocks hL C0 hst hE hK hlt ht H_clocks hI hnext hP hD hS hl
      by_cases c_5 : x = 5
      · refine lv_tableIn (off := 251) (tgt := 290) hx hb dL_law_39 (by rw [c_5]; decide) (by rw [c_5]; decide) (by rw [c_5]; rfl) (by decide) ?_
        exact lc_fits hL C0 hst hE hK hlt ht H_fits hI hnext hP hD hS hl
      by_cases c_6 : x = 6
      · refine lv_tableIn (off := 276) (tgt := 315) hx hb dL_law_39 (by rw [c_6]; decide) (by rw [c_6]; decide) (by rw [c_6]; rfl) (by decide) ?_
        exact lc_make hL C0 hst hE hK hlt ht H_make hI hnext hP hD hS hl
      by_cases c_7 : x = 7
      · refine lv_tableIn (off := 332) (tgt := 371) hx hb dL_law_39 (by rw [c_7]; decide) (by rw [c_7]; decide) (by rw [c_7]; rfl) (by decide) ?_
        exact lc_unmake hL C0 hst hE hK hlt ht H_unmake hI hnext hP hD hS hl
      by_cases c_8 : x = 8
      · refine lv_tableIn (off := 376) (tgt := 415) hx hb dL_law_39 (by rw [c_8]; decide) (by rw [c_8]; decide) (by rw [c_8]; rfl) (by decide) ?_
        exact lc_at hL C0 hst hE hK hlt ht H_at hI hnext hP hD hS hl
      by_cases c_9 : x = 9
      · refine lv_tableIn (off := 432) (tgt := 471) hx hb dL_law_39 (by rw [c_9]; decide) (by rw [c_9]; decide) (by rw [c_9]; rfl) (by decide) ?_
        exact lc_where hL C0 hst hE hK hlt ht H_where hI hnext hP hD hS hl
      by_cases c_10 : x = 10
      · refine lv_tableIn (off := 458) (tgt := 497) hx hb dL_law_39 (by rw [c_10]; decide) (by rw [c_10]; decide) (by rw [c_10]; rfl) (by decide) ?_
        exact lc_attackers hL C0 hst hE hK hlt ht H_attackers hI hnext hP hD hS hl
      by_cases c_11 : x = 11
      · refine lv_tableIn (off := 525) (tgt := 564) hx hb dL_law_39 (by rw [c_11]; decide) (by rw [c_11]; decide) (by rw [c_11]; rfl) (by decide) ?_
        exact lc_check hL C0 hst hE hK hlt ht H_check hI hnext hP hD hS hl
      by_cases c_12 : x = 12
      · refine lv_tableIn (off := 550) (tgt := 589) hx hb dL_law_39 (by rw [c_12]; decide) (by rw [c_12]; decide) (by rw [c_12]; rfl) (by decide) ?_
        exact lc_key hL C0 hst hE hK hlt ht H_key hI hnext hP hD hS hl
      by_cases c_13 : x = 13
      · refine lv_tableIn (off := 564) (tgt := 603) hx hb dL_law_39 (by rw [c_13]; decide) (by rw [c_13]; decide) (by rw [c_13]; rfl) (by decide) ?_
        exact lc_move hL C0 hst hE hK hlt ht H_move hI hnext hP hD hS hl
      by_cases c_14 : x = 14
      · refine lv_tableIn (off := 589) (tgt := 628) hx hb dL_law_39 (by rw [c_14]; decide) (by rw [c_14]; decide) (by rw [c_14]; rfl) (by decide) ?_
        exact lc_look hL C0 hst hE hK hlt ht H_look hI hnext hP hD hS hl
      refine lv_tableOut (tgt := 653) hx hb dL_law_39 (by have z0 := lv_neT (a := 0) c_0 rfl; have z1 := lv_neT (a := 1) c_1 rfl; have z2 := lv_neT (a := 2) c_2 rfl; have z3 := lv_neT (a := 3) c_3 rfl; have z4 := lv_neT (a := 4) c_4 rfl; have z5 := lv_neT (a := 5) c_5 rfl; have z6 := lv_neT (a := 6) c_6 rfl; have z7 := lv_neT (a := 7) c_7 rfl; have z8 := lv_neT (a := 8) c_8 rfl; have z9 := lv_neT (a := 9) c_9 rfl; have z10 := lv_neT (a := 10) c_10 rfl; have z11 := lv_neT (a := 11) c_11 rfl; have z12 := lv_neT (a := 12) c_12 rfl; have z13 := lv_neT (a := 13) c_13 rfl; have z14 := lv_neT (a := 14) c_14 rfl; omega) (by decide) ?_
      refine W.widen (k := 15 + t) (n := 45759 + 6 * t) (by omega) (by omega) ?_
      exact hnext B0 A0 F1 A1 fo H locs ls hI hP hD hS hl
