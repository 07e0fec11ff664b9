/-! What Board does to its squares, by a function of the squares alone. -/
def shB (bd : Nat → Int32) (a b : Int32) : Nat → Int32 := if qX0_isSquare a = 0 then bd else (if qX0_isSquare b = 0 then bd else upd (upd bd (Int32.toNatClampNeg b) (bd (Int32.toNatClampNeg a))) (Int32.toNatClampNeg a) 0)
theorem sh_F {F : Nat → Int32} {A : Nat → Nat → Int32} {a b : Int32} : (qX0_shift F A a b).1 = F := by
  unfold qX0_shift
  by_cases c1 : qX0_isSquare a = 0
  · rw [if_pos c1]
  · rw [if_neg c1]
    by_cases c2 : qX0_isSquare b = 0
    · rw [if_pos c2]
    · rw [if_neg c2]
theorem sh_n {F : Nat → Int32} {A : Nat → Nat → Int32} {a b : Int32} {r : Nat} (hr : ¬ r = 0) : (qX0_shift F A a b).2 r = A r := by
  unfold qX0_shift
  by_cases c1 : qX0_isSquare a = 0
  · rw [if_pos c1]
  · rw [if_neg c1]
    by_cases c2 : qX0_isSquare b = 0
    · rw [if_pos c2]
    · rw [if_neg c2]; show ua _ 0 _ _ r = _; rw [ua_n hr, ua_n hr]
theorem sh_0 {F : Nat → Int32} {A : Nat → Nat → Int32} {a b : Int32} : (qX0_shift F A a b).2 0 = shB (A 0) a b := by
  unfold qX0_shift shB
  by_cases c1 : qX0_isSquare a = 0
  · rw [if_pos c1, if_pos c1]
  · rw [if_neg c1, if_neg c1]
    by_cases c2 : qX0_isSquare b = 0
    · rw [if_pos c2, if_pos c2]
    · rw [if_neg c2, if_neg c2]; show ua _ 0 _ _ 0 = _; rw [ua_s, ua_s]
def cb37 (bd : Nat → Int32) (x2 x3 x4 x5 s0 : Int32) : Nat → Int32 :=
  if (qX0_isCastling s0 x4 x5) = 0 then upd (upd (upd bd (Int32.toNatClampNeg x5) 0) (Int32.toNatClampNeg x3) x2) (Int32.toNatClampNeg x4) s0 else shB (upd (upd (upd bd (Int32.toNatClampNeg x5) 0) (Int32.toNatClampNeg x3) x2) (Int32.toNatClampNeg x4) s0) ((x4 + x5) / 2) (qX0_cornerBeyond x4 x5)
theorem cb37_s {F : Nat → Int32} {A : Nat → Nat → Int32} {x2 x3 x4 x5 s0 : Int32} : (qX0_carryBack_j37 F A x2 x3 x4 x5 s0).1 = F ∧ (∀ r : Nat, ¬ r = 0 → (qX0_carryBack_j37 F A x2 x3 x4 x5 s0).2 r = A r) ∧ (qX0_carryBack_j37 F A x2 x3 x4 x5 s0).2 0 = cb37 (A 0) x2 x3 x4 x5 s0 := by
  unfold qX0_carryBack_j37 cb37
  by_cases c : qX0_isCastling s0 x4 x5 = 0
  · rw [if_pos c, if_pos c]
    refine ⟨rfl, fun r hr => ?_, ?_⟩
    · show ua _ 0 _ _ r = _
      rw [ua_n hr, ua_n hr, ua_n hr]
    · show ua _ 0 _ _ 0 = _
      rw [ua_s, ua_s, ua_s]
  · rw [if_neg c, if_neg c]
    refine ⟨sh_F, fun r hr => ?_, ?_⟩
    · show (qX0_shift _ _ _ _).2 r = _
      rw [sh_n hr, ua_n hr, ua_n hr, ua_n hr]
    · show (qX0_shift _ _ _ _).2 0 = _
      rw [sh_0, ua_s, ua_s, ua_s]
theorem cb_s {F : Nat → Int32} {A : Nat → Nat → Int32} {m t q : Int32} : (qX0_carryBack F A m t q).1 = F ∧ (∀ r : Nat, ¬ r = 0 → (qX0_carryBack F A m t q).2 r = A r) ∧ (qX0_carryBack F A m t q).2 0 = cb37 (A 0) t q (qX0_fromOf m) (qX0_toOf m) (if ¬ qX0_kindOf m = 0 then qX0_pieceOf 1 (F 1) else A 0 (Int32.toNatClampNeg (qX0_toOf m))) := by
  unfold qX0_carryBack
  by_cases c : ¬ qX0_kindOf m = 0
  · rw [if_pos c, if_pos c]; exact cb37_s
  · rw [if_neg c, if_neg c]; exact cb37_s
theorem cbB_eq {sd : Int32} {bd : Nat → Int32} {m t q : Int32} : cbB sd bd m t q = cb37 bd t q (qX0_fromOf m) (qX0_toOf m) (if ¬ qX0_kindOf m = 0 then qX0_pieceOf 1 sd else bd (Int32.toNatClampNeg (qX0_toOf m))) := cb_s.2.2
theorem cb_0 {F : Nat → Int32} {A : Nat → Nat → Int32} {m t q : Int32} : (qX0_carryBack F A m t q).2 0 = cbB (F 1) (A 0) m t q := by
  rw [cbB_eq]; exact cb_s.2.2
/-! unmake -/
theorem un_w {F : Nat → Int32} {kk : Nat} (hk : kk < 600) (h7 : F 7 = nI kk) : ∀ (k n : Nat) (A : Nat → Nat → Int32), n + k = 64 → (qX1_unmake_w37 F k n A).1 = A 8 kk ∧ (qX1_unmake_w37 F k n A).2.1 = uf (uf (uf (uf (uf F 2 (A 10 (5 * kk))) 3 (A 10 (5 * kk + 1))) 4 (A 10 (5 * kk + 2))) 5 (A 10 (5 * kk + 3))) 6 (A 10 (5 * kk + 4)) ∧ (∀ r : Nat, ¬ r = 1 → (qX1_unmake_w37 F k n A).2.2 r = A r) ∧ ∀ j : Nat, (qX1_unmake_w37 F k n A).2.2 1 j = if n ≤ j ∧ j < 64 then A 9 (64 * kk + j) else A 1 j := by
  intro k
  induction k with
  | zero =>
    intro n A hn
    rw [qX1_unmake_w37, h7, show (5 : Int32) = nI 5 from rfl, pk_mul, show (1 : Int32) = nI 1 from rfl, show (2 : Int32) = nI 2 from rfl, show (3 : Int32) = nI 3 from rfl, show (4 : Int32) = nI 4 from rfl, nI_add, nI_add, nI_add, nI_add, nI_clamp (by omega), nI_clamp (by omega), nI_clamp (by omega), nI_clamp (by omega), nI_clamp (by omega), nI_clamp (by omega)]
    exact ⟨rfl, rfl, fun _ _ => rfl, fun j => by rw [if_neg (by omega)]⟩
  | succ k ih =>
    intro n A hn
    rw [qX1_unmake_w37, h7, show (64 : Int32) = nI 64 from rfl, pk_mul, nI_add, nI_clamp (by omega), nI_clamp (by omega)]
    obtain ⟨i1, i2, i3, i4⟩ := ih (n + 1) (ua A 1 n (A 9 (64 * kk + n))) (by omega)
    rw [ua_n (by decide)] at i1 i2
    refine ⟨i1, i2, fun r hr => by rw [i3 r hr, ua_n hr], fun j => ?_⟩
    rw [i4, ua_n (by decide), ua_s]
    by_cases z : j = n
    · subst z
      rw [if_neg (by omega), if_pos (by omega)]; exact pk_us
    · by_cases z2 : n + 1 ≤ j ∧ j < 64
      · rw [if_pos z2, if_pos (by omega)]
      · rw [if_neg z2, if_neg (by omega)]; exact pk_un z
theorem Lev.cong {A0 A0' A1 A1' : Nat → Nat → Int32} {k : Nat} {bd : Nat → Int32} {sd fl : Int32} (h0 : ∀ r : Nat, ¬ r = 0 → A0' r k = A0 r k) (h8 : A1' 8 k = A1 8 k) (hs : sB A1' k = sB A1 k) (h10 : ∀ j : Nat, j < 5 → A1' 10 (5 * k + j) = A1 10 (5 * k + j)) (h : Lev A0 A1 k bd sd fl) : Lev A0' A1' k bd sd fl := by
  unfold Lev at h ⊢
  have z := h10 0 (by decide)
  rw [Nat.add_zero] at z
  rw [h0 7 (by decide), h0 8 (by decide), h0 9 (by decide), h0 10 (by decide), h0 11 (by decide), h0 12 (by decide), h8, hs, z, h10 1 (by decide), h10 2 (by decide), h10 3 (by decide), h10 4 (by decide)]
  exact h
theorem p_unmake : pb_unmake := by
  intro F0 A0 F1 A1 h
  obtain ⟨md, h1, h2, h3, hb, e1, e2, e3, e4, e5, hvd, hl⟩ := id h
  obtain ⟨v1, v2, v3, v4, v5, v6⟩ := hvd
  cases md with
  | zero =>
    have c0 : ¬ 0 < F0 6 := by rw [h2]; decide
    have c1 : ¬ ¬ F1 7 = 0 := fun z => z h3
    unfold qX0_unmake qX1_unmake qX1_unmake_j13
    rw [if_neg c0, if_neg c1]
    exact ⟨Or.inr rfl, rfl, fun z => ((show ¬ (3 : Int32) = 0 by decide) z).elim, h.thr 1⟩
  | succ k =>
    have c0 : 0 < F0 6 := by rw [h2]; exact nI_lt (a := 0) (by omega) (by omega)
    have c1 : ¬ F1 7 = 0 := by rw [h3]; exact nI_ne0 (by omega) (by omega)
    obtain ⟨l1, l2, l3, l4, l5, l6, l7, l8, l9⟩ := hl k (by omega)
    rw [if_pos rfl] at l7 l8 l9
    rw [if_pos rfl] at l8
    have hd0 : F0 6 - 1 = nI k := by rw [h2]; exact nI_pred k
    have hd1 : F1 7 - 1 = nI k := by rw [h3]; exact nI_pred k
    obtain ⟨u1, u2, u3, u4⟩ := un_w (F := uf (uf F1 0 0) 7 (F1 7 - 1)) (kk := k) (by omega) hd1 64 0 A1 rfl
    have eX1 : qX1_unmake F1 A1 = qX1_unmake_w37 (uf (uf F1 0 0) 7 (F1 7 - 1)) 64 0 A1 := by
      unfold qX1_unmake qX1_unmake_j13
      rw [if_pos c1, if_pos (show (0 : Int32) ≤ 0 by decide)]
    rw [← eX1] at u1 u2 u3 u4
    have eX0 : qX0_unmake F0 A0 = qX0_unmake_j109 (uf (uf (uf (uf (uf F0 6 (nI k)) 2 (A0 10 k)) 3 (A0 11 k)) 4 (A0 12 k)) 1 (qX0_otherThan (F0 1))) A0 (A0 7 k) (if (1 - F1 2) = 1 then F1 6 - 1 else F1 6) := by
      unfold qX0_unmake
      rw [if_pos c0, hd0, nI_clamp (by omega), show qX0_otherThan (F0 1) = 1 - F1 2 by rw [← e1]; rfl, ← e5]
      by_cases z : 1 - F1 2 = 1
      · have nz : ¬ ¬ 1 - F1 2 = 1 := fun y => y z
        rw [if_neg nz, if_pos z]
      · rw [if_pos z, if_neg z]
    have es : qX0_otherThan (F0 1) = 1 - F1 2 := by rw [← e1]; rfl
    rw [eX0, l8, es, l7]
    unfold qX0_unmake_j109
    generalize hFF : (uf (uf (uf (uf (uf F0 6 (nI k)) 2 (A0 10 k)) 3 (A0 11 k)) 4 (A0 12 k)) 1 (A1 10 (5 * k))) = FF
    have q6 : FF 6 = nI k := by rw [← hFF]; rfl
    have q1 : FF 1 = A1 10 (5 * k) := by rw [← hFF]; rfl
    have q2 : FF 2 = A0 10 k := by rw [← hFF]; rfl
    have q3 : FF 3 = A0 11 k := by rw [← hFF]; rfl
    have q4 : FF 4 = A0 12 k := by rw [← hFF]; rfl
    rw [q6, nI_clamp (by omega)]
    obtain ⟨b1, b2, -⟩ := cb_s (F := uf FF 5 (A1 10 (5 * k + 4))) (A := A0) (m := A0 7 k) (t := A0 8 k) (q := A0 9 k)
    have b3 := cb_0 (F := uf FF 5 (A1 10 (5 * k + 4))) (A := A0) (m := A0 7 k) (t := A0 8 k) (q := A0 9 k)
    have q1' : (uf FF 5 (A1 10 (5 * k + 4))) 1 = A1 10 (5 * k) := q1
    rw [q1', hb, l9] at b3
    generalize qX0_carryBack (uf FF 5 (A1 10 (5 * k + 4))) A0 (A0 7 k) (A0 8 k) (A0 9 k) = C at b1 b2 b3 ⊢
    have hbd' : (qX1_unmake F1 A1).2.2 1 = sB A1 k := by
      funext j
      rw [u4]
      unfold sB
      by_cases z : j < 64
      · rw [if_pos (by omega), if_pos z]
      · rw [if_neg (by omega), if_neg z]; exact v2 j (by omega)
    refine ⟨Or.inl rfl, ?_, fun _ => ?_, ?_⟩
    · unfold qX1_thrown; rw [u2]; rfl
    · rw [u1]; exact l1
    · show Inv C.1 C.2 _ _
      have hsB : ∀ i : Nat, sB (qX1_unmake F1 A1).2.2 i = sB A1 i := by
        intro i; unfold sB; rw [u3 9 (by decide)]
      refine ⟨k, by omega, ?_, ?_, ?_, ?_, ?_, ?_, ?_, ?_, ?_, ?_⟩
      · rw [b1]; exact q6
      · rw [u2]; exact hd1
      · rw [b3, hbd']
      · rw [b1, u2]; exact q1
      · rw [b1, u2]; exact q2.trans l4
      · rw [b1, u2]; exact q3.trans l5
      · rw [b1, u2]; exact q4.trans l6
      · rw [b1, u2]; rfl
      · rw [hbd', u2]; exact l3
      · intro i hi
        have hi2 := hl i (by omega)
        rw [if_neg (by omega), if_neg (by omega), if_neg (by omega)] at hi2
        have g1 : (if i + 1 = k then (qX1_unmake F1 A1).2.2 1 else sB (qX1_unmake F1 A1).2.2 (i + 1)) = sB A1 (i + 1) := by
          by_cases z : i + 1 = k
          · rw [if_pos z, hbd', z]
          · rw [if_neg z, hsB]
        have g2 : (if i + 1 = k then (qX1_unmake F1 A1).2.1 2 else (qX1_unmake F1 A1).2.2 10 (5 * (i + 1))) = A1 10 (5 * (i + 1)) := by
          by_cases z : i + 1 = k
          · rw [if_pos z, u2, z]; rfl
          · rw [if_neg z, u3 10 (by decide)]
        have g3 : (if i + 1 = k then (qX1_unmake F1 A1).2.1 6 else (qX1_unmake F1 A1).2.2 10 (5 * (i + 1) + 4)) = A1 10 (5 * (i + 1) + 4) := by
          by_cases z : i + 1 = k
          · rw [if_pos z, u2, z]; rfl
          · rw [if_neg z, u3 10 (by decide)]
        rw [g1, g2, g3]
        exact hi2.cong (fun r hr => by rw [b2 r hr]) (by rw [u3 8 (by decide)]) (hsB i) (fun j _ => by rw [u3 10 (by decide)])
