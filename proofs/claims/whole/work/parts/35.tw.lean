theorem tw_lU : Cond.laysStatic Bundle.tN "UNASSIGNED_STACK" Bundle.steD ∈ lw_tbl := List.mem_of_getElem? (i := 263) (by decide +kernel)
theorem tw_lN : Cond.laysStatic Bundle.tN "SUPPRESSED_SENTINEL" Bundle.listD ∈ lw_tbl := List.mem_of_getElem? (i := 265) (by decide +kernel)
theorem tw_lF : Cond.laysStatic RX0 "FIRST_RANK" "[I" ∈ lw_tbl := List.mem_of_getElem? (i := 110) (by decide +kernel)
theorem tw_iT : Cond.initialized Bundle.tN ∈ lw_tbl := List.mem_of_getElem? (i := 35) (by decide +kernel)
theorem tw_i0 : Cond.initialized RX0 ∈ lw_tbl := List.mem_of_getElem? (i := 33) (by decide +kernel)
theorem tw_i1 : Cond.initialized RX1 ∈ lw_tbl := List.mem_of_getElem? (i := 34) (by decide +kernel)
theorem tw_n0 : Cond.instantiable RX0 13 ∈ lw_tbl := List.mem_of_getElem? (i := 45) (by decide +kernel)
theorem tw_n1 : Cond.instantiable RX1 11 ∈ lw_tbl := List.mem_of_getElem? (i := 462) (by decide +kernel)
theorem tw_c0 : Cond.classLink RL 8 RX0 ∈ lw_tbl := List.mem_of_getElem? (i := 44) (by decide +kernel)
theorem tw_c1 : Cond.classLink RL 42 RX1 ∈ lw_tbl := List.mem_of_getElem? (i := 461) (by decide +kernel)
theorem tw_aJ : Cond.arrayClass .long ∈ lw_tbl := List.mem_of_getElem? (i := 639) (by decide +kernel)
theorem tw_dRuntimeException : Cond.declares (xInit "java/lang/RuntimeException") ∈ lw_tbl := List.mem_of_getElem? (i := 240) (by decide +kernel)
theorem tw_dException : Cond.declares (xInit "java/lang/Exception") ∈ lw_tbl := List.mem_of_getElem? (i := 242) (by decide +kernel)
theorem tw_dThrowable : Cond.declares (xInit "java/lang/Throwable") ∈ lw_tbl := List.mem_of_getElem? (i := 244) (by decide +kernel)
theorem tw_kxIO : Cond.castable xIO xIO ∈ lw_tbl := List.mem_of_getElem? (i := 238) (by decide +kernel)
theorem tw_kxIA : Cond.castable xIA xIA ∈ lw_tbl := List.mem_of_getElem? (i := 306) (by decide +kernel)
theorem tw_kxIS : Cond.castable xIS xIS ∈ lw_tbl := List.mem_of_getElem? (i := 370) (by decide +kernel)
theorem tw_s51 : Cond.stringRef RX0 51 "no such square" ∈ lw_tbl := List.mem_of_getElem? (i := 277) (by decide +kernel)
theorem tw_s76 : Cond.stringRef RX0 76 "no such side" ∈ lw_tbl := List.mem_of_getElem? (i := 313) (by decide +kernel)
theorem tw_s58 : Cond.stringRef RX0 58 "no such piece" ∈ lw_tbl := List.mem_of_getElem? (i := 367) (by decide +kernel)
theorem tw_s67 : Cond.stringRef RX0 67 "the board has 32 pieces" ∈ lw_tbl := List.mem_of_getElem? (i := 377) (by decide +kernel)
theorem tw_s78 : Cond.stringRef RX0 78 "no such rights" ∈ lw_tbl := List.mem_of_getElem? (i := 391) (by decide +kernel)
theorem tw_s80 : Cond.stringRef RX0 80 "passing is neither a square nor NONE" ∈ lw_tbl := List.mem_of_getElem? (i := 392) (by decide +kernel)
theorem tw_s88 : Cond.stringRef RX0 88 "half is not 0 .. 9999" ∈ lw_tbl := List.mem_of_getElem? (i := 400) (by decide +kernel)
theorem tw_s90 : Cond.stringRef RX0 90 "full is not 1 .. 9999" ∈ lw_tbl := List.mem_of_getElem? (i := 401) (by decide +kernel)
theorem tw_s125 : Cond.stringRef RX0 125 "no move of the position" ∈ lw_tbl := List.mem_of_getElem? (i := 410) (by decide +kernel)
theorem tw_s130 : Cond.stringRef RX0 130 "600 moves can be taken back" ∈ lw_tbl := List.mem_of_getElem? (i := 411) (by decide +kernel)
theorem tw_s155 : Cond.stringRef RX0 155 "no move can be taken back" ∈ lw_tbl := List.mem_of_getElem? (i := 445) (by decide +kernel)
set_option maxRecDepth 100000 in
theorem xE_start {s : State} {b : Nat} (hts : ∀ w ∈ lw_tbl, w.before #[Value.ref b] s = true) (hgv : (Jvm.Cond.and given_1 narrow_1).before #[Value.ref b] s = true) : xE (AL s) s s.heap := by
  have hs := flat_of_before _ hgv
  have hA : ∀ a : Nat, a < s.heap.size → ¬ AL s a := fun a h => Nat.not_le.mpr h
  have hstr : ∀ (k : Nat) (tx : String), (Cond.stringRef RX0 k tx).before #[Value.ref b] s = true → (Cond.exactly (.string RX0 k) "java/lang/String").before #[Value.ref b] s = true → ∃ sa : Nat, vk_R RX0 k tx sa s := by
    intro k tx h1 h2
    obtain ⟨a, c, cA, kA, q1, -⟩ := Cond.exactly_spec (args := #[Value.ref b]) (first := s) (o := none) (s := s) (idx := []) (t := .string RX0 k) (cls := "java/lang/String") h2
    exact ⟨a, vk_R.of h1 q1⟩
  refine ⟨vx_Zqof (hts _ tw_lU) (hts _ tw_iT) (hs _ (by decide +kernel)) hA, vx_Zqof (hts _ tw_lN) (hts _ tw_iT) (hs _ (by decide +kernel)) hA, ?_, ?_, ?_, ?_, ?_⟩
  · intro q hq
    simp only [xStr, List.mem_cons, List.not_mem_nil, or_false] at hq
    rcases hq with rfl | rfl | rfl | rfl | rfl | rfl | rfl | rfl | rfl | rfl | rfl
    · exact hstr 51 _ (hts _ tw_s51) (hs _ (by decide +kernel))
    · exact hstr 58 _ (hts _ tw_s58) (hs _ (by decide +kernel))
    · exact hstr 67 _ (hts _ tw_s67) (hs _ (by decide +kernel))
    · exact hstr 76 _ (hts _ tw_s76) (hs _ (by decide +kernel))
    · exact hstr 78 _ (hts _ tw_s78) (hs _ (by decide +kernel))
    · exact hstr 80 _ (hts _ tw_s80) (hs _ (by decide +kernel))
    · exact hstr 88 _ (hts _ tw_s88) (hs _ (by decide +kernel))
    · exact hstr 90 _ (hts _ tw_s90) (hs _ (by decide +kernel))
    · exact hstr 125 _ (hts _ tw_s125) (hs _ (by decide +kernel))
    · exact hstr 130 _ (hts _ tw_s130) (hs _ (by decide +kernel))
    · exact hstr 155 _ (hts _ tw_s155) (hs _ (by decide +kernel))
  · intro X hX
    simp only [xSup, List.mem_cons, List.not_mem_nil, or_false] at hX
    rcases hX with rfl | rfl | rfl
    · exact va_Nw.of rfl (hts _ tw_dRuntimeException)
    · exact va_Nw.of rfl (hts _ tw_dException)
    · exact va_Nw.of rfl (hts _ tw_dThrowable)
  · intro X hX
    simp only [xEx, List.mem_cons, List.not_mem_nil, or_false] at hX
    rcases hX with rfl | rfl | rfl
    · exact va_Nw.of rfl (hts _ tw_kxIO)
    · exact va_Nw.of rfl (hts _ tw_kxIA)
    · exact va_Nw.of rfl (hts _ tw_kxIS)
  · intro q hq
    simp only [xNo, List.mem_cons, List.not_mem_nil, or_false] at hq
    rcases hq with rfl | rfl | rfl | rfl | rfl | rfl
    · exact va_Nc.of (hs _ (by decide +kernel))
    · exact va_Nc.of (hs _ (by decide +kernel))
    · exact va_Nc.of (hs _ (by decide +kernel))
    · exact va_Nc.of (hs _ (by decide +kernel))
    · exact va_Nc.of (hs _ (by decide +kernel))
    · exact va_Nc.of (hs _ (by decide +kernel))
  · have harr : (Cond.arrayOf (.static RX0 "FIRST_RANK" "[I") .int).before #[Value.ref b] s = true := hs _ (by decide +kernel)
    have hlen : (Cond.eq (.length (.static RX0 "FIRST_RANK" "[I")) (.int 8)).before #[Value.ref b] s = true := hs _ (by decide +kernel)
    have e0 : (Cond.eq (.elem (.static RX0 "FIRST_RANK" "[I") (.int 0)) (.int 4)).before #[Value.ref b] s = true := hs _ (by decide +kernel)
    have e1 : (Cond.eq (.elem (.static RX0 "FIRST_RANK" "[I") (.int 1)) (.int 2)).before #[Value.ref b] s = true := hs _ (by decide +kernel)
    have e2 : (Cond.eq (.elem (.static RX0 "FIRST_RANK" "[I") (.int 2)) (.int 3)).before #[Value.ref b] s = true := hs _ (by decide +kernel)
    have e3 : (Cond.eq (.elem (.static RX0 "FIRST_RANK" "[I") (.int 3)) (.int 5)).before #[Value.ref b] s = true := hs _ (by decide +kernel)
    have e4 : (Cond.eq (.elem (.static RX0 "FIRST_RANK" "[I") (.int 4)) (.int 6)).before #[Value.ref b] s = true := hs _ (by decide +kernel)
    have e5 : (Cond.eq (.elem (.static RX0 "FIRST_RANK" "[I") (.int 5)) (.int 3)).before #[Value.ref b] s = true := hs _ (by decide +kernel)
    have e6 : (Cond.eq (.elem (.static RX0 "FIRST_RANK" "[I") (.int 6)) (.int 2)).before #[Value.ref b] s = true := hs _ (by decide +kernel)
    have e7 : (Cond.eq (.elem (.static RX0 "FIRST_RANK" "[I") (.int 7)) (.int 4)).before #[Value.ref b] s = true := hs _ (by decide +kernel)
    obtain ⟨t, ht, hT⟩ := va_Tof (N := 8) (f := xRank) (A := AL s) (by decide) harr (va_eqt hlen) (fun j hj => by
      match j, hj with
      | 0, _ => exact va_eqt e0
      | 1, _ => exact va_eqt e1
      | 2, _ => exact va_eqt e2
      | 3, _ => exact va_eqt e3
      | 4, _ => exact va_eqt e4
      | 5, _ => exact va_eqt e5
      | 6, _ => exact va_eqt e6
      | 7, _ => exact va_eqt e7
      | j + 8, hj => exact absurd hj (by omega)) hA
    exact ⟨t, va_Zref (hts _ tw_lF) (hts _ tw_i0) ht hA, hT⟩
