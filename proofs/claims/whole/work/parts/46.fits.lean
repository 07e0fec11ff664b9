/-! What is a move of the position: the same on both sides. -/
set_option maxRecDepth 100000 in
theorem pwz : ∀ f, f < 64 → ∀ t, t < 64 → (nI t = nI f + 8 → qX0_pawnAttacks 0 (nI f) (nI t) = 0) ∧ (nI t = nI f + 2 * 8 → qX0_pawnAttacks 0 (nI f) (nI t) = 0) ∧ (nI t = nI f + (-8) → qX0_pawnAttacks 1 (nI f) (nI t) = 0) ∧ (nI t = nI f + 2 * (-8) → qX0_pawnAttacks 1 (nI f) (nI t) = 0) := by decide +kernel
theorem rk8 : ∀ f, f < 64 → qX0_rankOf (nI f) = nI f / 8 ∧ (nI f / 8 = 1 → ¬ qX0_isSquare (nI f + 8) = 0) ∧ (nI f / 8 = 6 → ¬ qX0_isSquare (nI f + (-8)) = 0) := by decide +kernel
theorem isf0 {F : Nat → Int32} {A : Nat → Nat → Int32} {x : Int32} (h : qX0_isSquare x = 0) : qX0_isFree F A x = 0 := by
  unfold qX0_isFree; rw [if_pos h]
theorem att_pw {F0 : Nat → Int32} {A0 : Nat → Nat → Int32} {a b : Nat} (h1 : qX0_typeOf (A0 0 a) = 1) (ha : a < 64) (hab : ¬ nI a = nI b) : qX0_attacks F0 A0 (nI a) (nI b) = qX0_pawnAttacks (qX0_sideOf (A0 0 a)) (nI a) (nI b) := by
  unfold qX0_attacks qX0_attacks_j57 qX0_attacks_j71
  rw [nI_clamp (by omega), if_pos hab, h1]
  simp only [eq_self_iff_true, if_true, ite_self]
theorem pawn_g {F0 F1 : Nat → Int32} {A0 A1 : Nat → Nat → Int32} (hbd : A0 0 = A1 1) (hv : ∀ j : Nat, ∃ q : Nat, q ≤ 12 ∧ A1 1 j = nI q) {f t : Nat} (hf : f < 64) (ht : t < 64) (hft : ¬ nI f = nI t) {s d c : Int32} (hs0 : F0 1 = s) (hs1 : F1 2 = s) (e3 : F0 3 = F1 4) (hk : qX1_kindOf (A1 1 f) = 1) (hsd : qX1_sideOf (A1 1 f) = s)
    (hon : 8 * qX0_onward s = d) (hdd : d + d = 2 * d) (hz1 : nI t = nI f + d → qX0_pawnAttacks s (nI f) (nI t) = 0) (hz2 : nI t = nI f + 2 * d → qX0_pawnAttacks s (nI f) (nI t) = 0) (hsec : qX0_secondRankOf s = c) (hrk : qX0_rankOf (nI f) = nI f / 8) (hsq : nI f / 8 = c → ¬ qX0_isSquare (nI f + d) = 0)
    (hP : qX0_pieceOf 1 (qX0_otherThan s) = 7 - 6 * s)
    (hT : qX1_takesPassing F1 A1 (nI f) (nI t) = qX1_takesPassing_j18 F1 A1 (nI f) (nI t) (nI t - d))
    (hG : qX1_pawnGoes F1 A1 (nI f) (nI t) = (if ¬ nI t = nI f + d then (if ¬ nI t = nI f + 2 * d then (if (qX1_attacks F1 A1 (nI f) (nI t)) = 0 then (qX1_pawnGoes_j119 F1 A1 (nI f) (nI t)) else (if (qX1_sideOf (A1 1 (Int32.toNatClampNeg (nI t)))) = (1 - (F1 2)) then 1 else (qX1_pawnGoes_j119 F1 A1 (nI f) (nI t)))) else (qX1_pawnGoes_j63 F1 A1 (nI f) (nI t) d c (nI f / 8))) else (if ¬ (A1 1 (Int32.toNatClampNeg (nI t))) = 0 then 0 else 1))) :
    (if ¬ (qX0_pawnSteps F0 A0 (nI f) (nI t)) = 0 then (1 : Int32) else (if (qX0_pawnTakes F0 A0 (nI f) (nI t)) = 0 then 0 else 1)) = qX1_pawnGoes F1 A1 (nI f) (nI t) := by
  have hat : qX1_attacks F1 A1 (nI f) (nI t) = qX0_pawnAttacks s (nI f) (nI t) := by
    rw [← att_eq (F0 := F0) hbd hv hf ht, att_pw (by rw [ty_eq hbd hv]; exact hk) hf hft, sd_eq hbd hv, hsd]
  have n0 : ¬ ¬ (0 : Int32) = 0 := fun z => z rfl
  have n1 : ¬ (1 : Int32) = 0 := by decide
  rw [hG]
  unfold qX0_pawnSteps qX0_pawnSteps_j66 qX0_pawnTakes
  rw [hs0, hon, isf ht, hbd, nI_clamp (by omega), hrk, hsec]
  by_cases cA : nI t = nI f + d
  · have ncA : ¬ ¬ nI t = nI f + d := fun z => z cA
    rw [if_neg ncA, ← cA, isf ht, hbd, hz1 cA]
    by_cases c1 : A1 1 t = 0
    · have nc1 : ¬ ¬ A1 1 t = 0 := fun z => z c1
      rw [if_pos c1, if_neg n1, if_pos n1, if_neg nc1]
      simp only [if_true, ite_self]
      rw [if_pos n1]
    · rw [if_neg c1, if_pos rfl, if_neg n0, if_pos rfl, if_pos rfl, if_pos c1]
  rw [if_pos cA]
  by_cases cB : nI t = nI f + 2 * d
  · have ncB : ¬ ¬ nI t = nI f + 2 * d := fun z => z cB
    have eB : nI f + d + d = nI t := by rw [Int32.add_assoc, hdd, cB]
    rw [if_neg ncB, hz2 cB, eB]
    unfold qX1_pawnGoes_j63
    rw [nI_clamp (by omega)]
    by_cases c2 : nI f / 8 = c
    · have nc2 : ¬ ¬ nI f / 8 = c := fun z => z c2
      obtain ⟨g, hg, eg⟩ := in_cases (inSq (hsq c2))
      rw [if_neg nc2, if_neg nc2, eg, isf hg, hbd, nI_clamp (by omega)]
      rw [eg] at cA
      have ntt : ¬ ¬ nI t = nI t := fun z => z rfl
      by_cases c3 : A1 1 g = 0
      · have nc3 : ¬ ¬ A1 1 g = 0 := fun z => z c3
        rw [if_pos c3, if_neg n1, if_neg nc3]
        by_cases c4 : A1 1 t = 0
        · have nc4 : ¬ ¬ A1 1 t = 0 := fun z => z c4
          rw [if_pos c4, if_pos n1, if_neg ntt, if_neg cA, if_neg n1, if_pos n1, if_neg nc4]
        · rw [if_neg c4, if_neg n0, if_neg n0, if_pos rfl, if_pos rfl, if_pos c4]
      · rw [if_neg c3, if_pos rfl, if_neg n0, if_pos rfl, if_pos rfl, if_pos c3]
    · rw [if_pos c2, if_pos c2, if_neg cA, if_pos rfl, ite_self, ite_self, if_neg n0, if_pos rfl, if_pos rfl]
  rw [if_pos cB]
  have ncC : ¬ nI t = nI f + d + d := by rw [Int32.add_assoc, hdd]; exact cB
  rw [if_pos ncC, if_neg cA, if_pos rfl, ite_self, ite_self, ite_self, if_neg n0, hat]
  unfold qX1_pawnGoes_j119
  rw [hT]
  unfold qX1_takesPassing_j18 qX0_canBeTakenInPassing qX1_takesPassing_j68
  have hst := sd_eq hbd hv t
  rw [hbd] at hst
  rw [nI_clamp (by omega), hat, isf ht, hbd, hst, hs1, e3]
  have eb : qX0_squareBehind F0 A0 (nI t) = nI t - d := by unfold qX0_squareBehind; rw [hs0, hon]
  rw [hs0, eb, hP]
  have eo : qX0_otherThan s = 1 - s := rfl
  rw [eo]
  have esq : qX1_isSquare (nI t - d) = qX0_isSquare (nI t - d) := rfl
  unfold qX0_holds
  rw [esq, hbd]
  by_cases c5 : qX0_pawnAttacks s (nI f) (nI t) = 0
  · rw [if_pos c5, if_pos rfl, if_pos c5, if_pos c5]
    simp only [ite_self, if_true]
  rw [if_neg c5, if_neg c5, if_neg c5]
  by_cases c6 : qX1_sideOf (A1 1 t) = 1 - s
  · rw [if_pos c6, if_neg n1, if_pos c6]
  rw [if_neg c6, if_neg c6]
  by_cases c7 : nI t = F1 4
  · have nc7 : ¬ ¬ nI t = F1 4 := fun z => z c7
    rw [if_neg nc7, if_neg nc7]
    by_cases c8 : A1 1 t = 0
    · have nc8 : ¬ ¬ A1 1 t = 0 := fun z => z c8
      rw [if_pos c8, if_neg n1, if_neg nc8]
      by_cases c9 : qX0_isSquare (nI t - d) = 0
      · rw [if_pos c9, if_pos rfl, if_pos rfl, if_pos c9, if_pos rfl]
      · rw [if_neg c9, if_neg c9, if_neg c9]
        split <;> rfl
    · rw [if_neg c8, if_pos rfl, if_pos c8]
      rfl
  · rw [if_pos c7, if_pos c7]
    rfl
theorem pawn_eq {F0 F1 : Nat → Int32} {A0 A1 : Nat → Nat → Int32} (hbd : A0 0 = A1 1) (hv : ∀ j : Nat, ∃ q : Nat, q ≤ 12 ∧ A1 1 j = nI q) {f t : Nat} (hf : f < 64) (ht : t < 64) (hft : ¬ nI f = nI t) (e1 : F0 1 = F1 2) (e3 : F0 3 = F1 4) (v3 : F1 2 = 0 ∨ F1 2 = 1) (hk : qX1_kindOf (A1 1 f) = 1) (hsd : qX1_sideOf (A1 1 f) = F1 2) :
    (if ¬ (qX0_pawnSteps F0 A0 (nI f) (nI t)) = 0 then (1 : Int32) else (if (qX0_pawnTakes F0 A0 (nI f) (nI t)) = 0 then 0 else 1)) = qX1_pawnGoes F1 A1 (nI f) (nI t) := by
  obtain ⟨z1, z2, z3, z4⟩ := pwz f hf t ht
  obtain ⟨r1, r2, r3⟩ := rk8 f hf
  rcases v3 with h | h
  · have nh : ¬ ¬ F1 2 = 0 := fun z => z h
    refine pawn_g (s := 0) (d := 8) (c := 1) hbd hv hf ht hft (e1.trans h) h e3 hk (hsd.trans h) (by decide) (by decide) z1 z2 (by decide) r1 r2 (by decide) ?_ ?_
    · unfold qX1_takesPassing; rw [if_neg nh]
    · unfold qX1_pawnGoes qX1_pawnGoes_j14; rw [if_neg nh, if_neg nh]
  · have nh : ¬ F1 2 = 0 := by rw [h]; decide
    refine pawn_g (s := 1) (d := -8) (c := 6) hbd hv hf ht hft (e1.trans h) h e3 hk (hsd.trans h) (by decide) (by decide) z3 z4 (by decide) r1 r3 (by decide) ?_ ?_
    · unfold qX1_takesPassing; rw [if_pos nh, Int32.sub_eq_add_neg]; rfl
    · unfold qX1_pawnGoes qX1_pawnGoes_j14; rw [if_pos nh, if_pos nh]
theorem two_t : ∀ t, t < 64 → (¬ qX0_isTwoFilesAway 4 (nI t) = 0 → t = 6 ∨ t = 2) ∧ (¬ qX0_isTwoFilesAway 60 (nI t) = 0 → t = 62 ∨ t = 58) ∧ (nI t - 4 = 2 → t = 6) ∧ (nI t - 4 = -2 → t = 2) ∧ (nI t - 60 = 2 → t = 62) ∧ (nI t - 60 = -2 → t = 58) := by decide +kernel
/-- one corner: the king's square h, the rook's r, the right's bit -/
theorem cas_1 {F0 F1 : Nat → Int32} {A0 A1 : Nat → Nat → Int32} (hbd : A0 0 = A1 1) (e2 : F0 2 = F1 3) {h r : Nat} {s bit : Int32} (hs0 : F0 1 = s) (hs1 : F1 2 = s) (hh : h < 64) (hr : r < 64) (hal : alN h r = true) (hb : qX0_rightOfCorner (nI r) = bit) :
    (if ((F0 2) &&& (qX0_rightOfCorner (nI r))) = 0 then (0 : Int32) else (if (qX0_holds F0 A0 (nI r) (qX0_pieceOf 4 (F0 1))) = 0 then 0 else (if (qX0_isOpen F0 A0 (nI h) (nI r)) = 0 then 0 else 1))) = qX1_castles_j74 F1 A1 (nI h) bit (nI r) := by
  unfold qX1_castles_j74 qX0_holds
  have ep : qX0_pieceOf 4 s = 4 + 6 * s := rfl
  rw [hb, e2, hs0, hs1, ep, if_neg (sqOf hr), nI_clamp (by omega), hbd, of_eq (F1 := F1) hbd hh hr hal]
  by_cases c1 : F1 3 &&& bit = 0
  · rw [if_pos c1, if_pos c1]
  · rw [if_neg c1, if_neg c1]
    by_cases c2 : A1 1 r = 4 + 6 * s
    · have nc2 : ¬ ¬ A1 1 r = 4 + 6 * s := fun z => z c2
      rw [if_neg nc2, if_neg nc2, if_neg (show ¬ (1 : Int32) = 0 by decide)]
    · rw [if_pos c2, if_pos c2, if_pos rfl]
theorem cas_eq {F0 F1 : Nat → Int32} {A0 A1 : Nat → Nat → Int32} (hbd : A0 0 = A1 1) (e1 : F0 1 = F1 2) (e2 : F0 2 = F1 3) (v3 : F1 2 = 0 ∨ F1 2 = 1) {f t : Nat} (hf : f < 64) (ht : t < 64) : qX0_castles F0 A0 (nI f) (nI t) = qX1_castles F1 A1 (nI f) (nI t) := by
  obtain ⟨t1, t2, t3, t4, t5, t6⟩ := two_t t ht
  rcases v3 with h | h
  · have nh : ¬ ¬ F1 2 = 0 := fun z => z h
    have h0 : F0 1 = 0 := e1.trans h
    unfold qX0_castles qX1_castles qX1_castles_j13
    rw [if_neg nh, h0, show qX0_homeOfKing 0 = 4 by decide]
    by_cases c1 : nI f = 4
    · have nc1 : ¬ ¬ nI f = 4 := fun z => z c1
      rw [if_neg nc1, if_neg nc1, c1]
      by_cases c2 : t = 6
      · subst c2
        rw [if_pos (show ¬ qX0_isTwoFilesAway 4 (nI 6) = 0 by decide), if_pos (show nI 6 - 4 = 2 by decide)]
        have := cas_1 (F0 := F0) (F1 := F1) (h := 4) (r := 7) (bit := 1) hbd e2 h0 h (by decide) (by decide) (by decide) (by decide)
        unfold qX1_castles_j39 qX1_castles_j50
        rw [show nI 6 - 4 = 2 by decide, if_neg (show ¬ ¬ (2 : Int32) = 2 by decide), if_neg (show ¬ ¬ (2 : Int32) = 2 by decide), h, show (1 : Int32) <<< ((2 * (0 : Int32)) &&& 31) = 1 by decide, show (4 : Int32) + 3 = nI 7 by decide, show qX0_cornerBeyond 4 (nI 6) = nI 7 by decide]
        rw [h0] at this; exact this
      · by_cases c3 : t = 2
        · subst c3
          rw [if_pos (show ¬ qX0_isTwoFilesAway 4 (nI 2) = 0 by decide), if_neg (show ¬ nI 2 - 4 = 2 by decide), if_pos (show nI 2 - 4 = -2 by decide)]
          have := cas_1 (F0 := F0) (F1 := F1) (h := 4) (r := 0) (bit := 2) hbd e2 h0 h (by decide) (by decide) (by decide) (by decide)
          unfold qX1_castles_j39 qX1_castles_j50
          rw [show nI 2 - 4 = -2 by decide, if_pos (show ¬ (-2 : Int32) = 2 by decide), if_pos (show ¬ (-2 : Int32) = 2 by decide), h, show (2 : Int32) <<< ((2 * (0 : Int32)) &&& 31) = 2 by decide, show (4 : Int32) - 4 = nI 0 by decide, show qX0_cornerBeyond 4 (nI 2) = nI 0 by decide]
          rw [h0] at this; exact this
        · have n2 : ¬ ¬ qX0_isTwoFilesAway 4 (nI t) = 0 := fun z => (t1 z).elim c2 c3
          rw [if_neg n2, if_neg (fun z => c2 (t3 z)), if_neg (fun z => c3 (t4 z))]
    · rw [if_pos c1, if_pos c1]
  · have nh : ¬ F1 2 = 0 := by rw [h]; decide
    have h0 : F0 1 = 1 := e1.trans h
    unfold qX0_castles qX1_castles qX1_castles_j13
    rw [if_pos nh, h0, show qX0_homeOfKing 1 = 60 by decide]
    by_cases c1 : nI f = 60
    · have nc1 : ¬ ¬ nI f = 60 := fun z => z c1
      rw [if_neg nc1, if_neg nc1, c1]
      by_cases c2 : t = 62
      · subst c2
        rw [if_pos (show ¬ qX0_isTwoFilesAway 60 (nI 62) = 0 by decide), if_pos (show nI 62 - 60 = 2 by decide)]
        have := cas_1 (F0 := F0) (F1 := F1) (h := 60) (r := 63) (bit := 4) hbd e2 h0 h (by decide) (by decide) (by decide) (by decide)
        unfold qX1_castles_j39 qX1_castles_j50
        rw [show nI 62 - 60 = 2 by decide, if_neg (show ¬ ¬ (2 : Int32) = 2 by decide), if_neg (show ¬ ¬ (2 : Int32) = 2 by decide), h, show (1 : Int32) <<< ((2 * (1 : Int32)) &&& 31) = 4 by decide, show (60 : Int32) + 3 = nI 63 by decide, show qX0_cornerBeyond 60 (nI 62) = nI 63 by decide]
        rw [h0] at this; exact this
      · by_cases c3 : t = 58
        · subst c3
          rw [if_pos (show ¬ qX0_isTwoFilesAway 60 (nI 58) = 0 by decide), if_neg (show ¬ nI 58 - 60 = 2 by decide), if_pos (show nI 58 - 60 = -2 by decide)]
          have := cas_1 (F0 := F0) (F1 := F1) (h := 60) (r := 56) (bit := 8) hbd e2 h0 h (by decide) (by decide) (by decide) (by decide)
          unfold qX1_castles_j39 qX1_castles_j50
          rw [show nI 58 - 60 = -2 by decide, if_pos (show ¬ (-2 : Int32) = 2 by decide), if_pos (show ¬ (-2 : Int32) = 2 by decide), h, show (2 : Int32) <<< ((2 * (1 : Int32)) &&& 31) = 8 by decide, show (60 : Int32) - 4 = nI 56 by decide, show qX0_cornerBeyond 60 (nI 58) = nI 56 by decide]
          rw [h0] at this; exact this
        · have n2 : ¬ ¬ qX0_isTwoFilesAway 60 (nI t) = 0 := fun z => (t2 z).elim c2 c3
          rw [if_neg n2, if_neg (fun z => c2 (t5 z)), if_neg (fun z => c3 (t6 z))]
    · rw [if_pos c1, if_pos c1]
/-- the parts of a move -/
theorem mv_parts {m : Nat} (hm : m < 2 ^ 31) : qX0_fromOf (nI m) = nI (m % 64) ∧ qX0_toOf (nI m) = nI (m / 64 % 64) ∧ qX0_kindOf (nI m) = nI (m / 4096) ∧ nI m - nI m / 64 * 64 = nI (m % 64) ∧ nI m / 64 - nI m / 64 / 64 * 64 = nI (m / 64 % 64) ∧ nI m / 4096 = nI (m / 4096) := by
  have d1 : nI m / 64 = nI (m / 64) := pk_div (d := 64) hm (by decide) (by decide)
  have r2 : nI (m / 64) - nI (m / 64) / 64 * 64 = nI (m / 64 % 64) := pk_rem (a := m / 64) (d := 64) (by omega) (by decide) (by decide)
  refine ⟨?_, ?_, ?_, pk_rem (d := 64) hm (by decide) (by decide), ?_, pk_div (d := 4096) hm (by decide) (by decide)⟩
  · exact pk_andN (by omega) 6 (by decide)
  · unfold qX0_toOf
    rw [pk_shrN hm (6 &&& 31) 6 (by decide)]
    exact pk_andN (by omega) 6 (by decide)
  · exact pk_shrN hm (12 &&& 31) 12 (by decide)
  · rw [d1]; exact r2
theorem rk_t : ∀ t, t < 64 → qX0_rankOf (nI t) = nI t / 8 := fun t h => (rk8 t h).1
theorem ite01 {v : Int32} (h : v = 0 ∨ v = 1) : (if v = 0 then (0 : Int32) else 1) = v := by
  rcases h with rfl | rfl
  · rfl
  · rfl
theorem pg01 {F : Nat → Int32} {A : Nat → Nat → Int32} {a b : Int32} : qX1_pawnGoes F A a b = 0 ∨ qX1_pawnGoes F A a b = 1 := by
  unfold qX1_pawnGoes qX1_pawnGoes_j14 qX1_pawnGoes_j119 qX1_pawnGoes_j63
  repeat' (first | with_reducible exact Or.inl rfl | with_reducible exact Or.inr rfl | with_reducible refine b_ite ?_ ?_)
/-- where the piece goes, given that it is the mover's and the other square isn't -/
theorem goes_eq {F0 F1 : Nat → Int32} {A0 A1 : Nat → Nat → Int32} (hbd : A0 0 = A1 1) (hv : ∀ j : Nat, ∃ q : Nat, q ≤ 12 ∧ A1 1 j = nI q) {f t : Nat} (hf : f < 64) (ht : t < 64) (hft : ¬ nI f = nI t) (e1 : F0 1 = F1 2) (e2 : F0 2 = F1 3) (e3 : F0 3 = F1 4) (v3 : F1 2 = 0 ∨ F1 2 = 1) (hsd : qX1_sideOf (A1 1 f) = F1 2) :
    (if qX0_goes F0 A0 (nI f) (nI t) = 0 then (0 : Int32) else 1) = (if ¬ (qX1_kindOf (A1 1 f)) = 1 then (if ¬ (qX1_attacks F1 A1 (nI f) (nI t)) = 0 then 1 else (if ¬ (qX1_kindOf (A1 1 f)) = 6 then 0 else (if (qX1_castles F1 A1 (nI f) (nI t)) = 0 then 0 else 1))) else (qX1_pawnGoes F1 A1 (nI f) (nI t))) := by
  unfold qX0_goes
  have hty := ty_eq hbd hv f
  rw [nI_clamp (by omega), hty, att_eq (F1 := F1) hbd hv hf ht, cas_eq (F1 := F1) hbd e1 e2 v3 hf ht]
  by_cases c1 : qX1_kindOf (A1 1 f) = 1
  · have nc1 : ¬ ¬ qX1_kindOf (A1 1 f) = 1 := fun z => z c1
    rw [if_pos c1, if_neg nc1, pawn_eq hbd hv hf ht hft e1 e3 v3 c1 hsd]
    exact ite01 pg01
  · rw [if_neg c1, if_pos c1]
    by_cases c2 : qX1_kindOf (A1 1 f) = 6
    · have nc2 : ¬ ¬ qX1_kindOf (A1 1 f) = 6 := fun z => z c2
      rw [if_pos c2, if_neg nc2]
      by_cases c3 : qX1_attacks F1 A1 (nI f) (nI t) = 0
      · have nc3 : ¬ ¬ qX1_attacks F1 A1 (nI f) (nI t) = 0 := fun z => z c3
        rw [if_neg nc3]
        split <;> rfl
      · rw [if_pos c3]; rfl
    · rw [if_neg c2, if_pos c2]
      by_cases c3 : qX1_attacks F1 A1 (nI f) (nI t) = 0
      · have nc3 : ¬ ¬ qX1_attacks F1 A1 (nI f) (nI t) = 0 := fun z => z c3
        rw [if_pos c3, if_neg nc3]
      · rw [if_neg c3, if_pos c3]
