/-! What follows from a move's being one of the position. -/
def onD (s : Int32) : Int32 := 8 * qX0_onward s
theorem tp_18 {F1 : Nat → Int32} {A1 : Nat → Nat → Int32} {a b : Int32} (v3 : F1 2 = 0 ∨ F1 2 = 1) : qX1_takesPassing F1 A1 a b = qX1_takesPassing_j18 F1 A1 a b (b - onD (F1 2)) := by
  unfold qX1_takesPassing
  rcases v3 with h | h
  · have nh : ¬ ¬ F1 2 = 0 := fun z => z h
    rw [if_neg nh, h]; rfl
  · have nh : ¬ F1 2 = 0 := by rw [h]; decide
    rw [if_pos nh, h, Int32.sub_eq_add_neg]; rfl
theorem pc_7 {s : Int32} (h : s = 0 ∨ s = 1) : qX0_pieceOf 1 (qX0_otherThan s) = 7 - 6 * s := by
  rcases h with rfl | rfl <;> decide
/-- taking in passing, on both sides: of a pawn of the mover -/
theorem tp_eq {F0 F1 : Nat → Int32} {A0 A1 : Nat → Nat → Int32} (hbd : A0 0 = A1 1) (hv : ∀ j : Nat, ∃ q : Nat, q ≤ 12 ∧ A1 1 j = nI q) {f t : Nat} (hf : f < 64) (ht : t < 64) (hft : ¬ nI f = nI t) (e1 : F0 1 = F1 2) (e3 : F0 3 = F1 4) (v3 : F1 2 = 0 ∨ F1 2 = 1) (hk : qX1_kindOf (A1 1 f) = 1) (hsd : qX1_sideOf (A1 1 f) = F1 2) :
    (if qX0_pawnAttacks (F0 1) (nI f) (nI t) = 0 then (0 : Int32) else qX0_canBeTakenInPassing F0 A0 (nI t)) = qX1_takesPassing F1 A1 (nI f) (nI t) := by
  have hat : qX1_attacks F1 A1 (nI f) (nI t) = qX0_pawnAttacks (F1 2) (nI f) (nI t) := by
    rw [← att_eq (F0 := F0) hbd hv hf ht, att_pw (by rw [ty_eq hbd hv]; exact hk) hf hft, sd_eq hbd hv, hsd]
  rw [tp_18 v3]
  unfold qX1_takesPassing_j18 qX0_canBeTakenInPassing qX1_takesPassing_j68 qX0_holds
  have eb : qX0_squareBehind F0 A0 (nI t) = nI t - onD (F1 2) := by unfold qX0_squareBehind onD; rw [e1]
  have esq : qX1_isSquare (nI t - onD (F1 2)) = qX0_isSquare (nI t - onD (F1 2)) := rfl
  have n1 : ¬ (1 : Int32) = 0 := by decide
  rw [nI_clamp (by omega), hat, isf ht, eb, e1, pc_7 v3, esq, e3, hbd]
  by_cases c7 : nI t = F1 4
  · have nc7 : ¬ ¬ nI t = F1 4 := fun z => z c7
    rw [if_neg nc7, if_neg nc7]
    by_cases c8 : A1 1 t = 0
    · have nc8 : ¬ ¬ A1 1 t = 0 := fun z => z c8
      rw [if_pos c8, if_neg n1, if_neg nc8]
      by_cases c5 : qX0_pawnAttacks (F1 2) (nI f) (nI t) = 0
      · rw [if_pos c5, if_pos c5]
      · rw [if_neg c5, if_neg c5]
        by_cases c9 : qX0_isSquare (nI t - onD (F1 2)) = 0
        · rw [if_pos c9, if_pos rfl, if_pos c9]
        · rw [if_neg c9, if_neg c9, if_neg c9]
          by_cases c10 : ¬ A1 1 (Int32.toNatClampNeg (nI t - onD (F1 2))) = 7 - 6 * F1 2
          · rw [if_pos c10, if_pos rfl]
          · rw [if_neg c10, if_neg n1]
    · rw [if_neg c8, if_pos rfl, if_pos c8, ite_self]
  · rw [if_pos c7, if_pos c7, ite_self]
/-- what a taking in passing needs -/
theorem tp_f {F1 : Nat → Int32} {A1 : Nat → Nat → Int32} {f t : Nat} (ht : t < 64) (v3 : F1 2 = 0 ∨ F1 2 = 1) (h : ¬ qX1_takesPassing F1 A1 (nI f) (nI t) = 0) : A1 1 t = 0 ∧ ∃ b : Nat, b < 64 ∧ nI t - onD (F1 2) = nI b ∧ A1 1 b = 7 - 6 * F1 2 := by
  rw [tp_18 v3] at h
  unfold qX1_takesPassing_j18 qX1_takesPassing_j68 at h
  rw [nI_clamp (by omega)] at h
  by_cases c7 : nI t = F1 4
  · have nc7 : ¬ ¬ nI t = F1 4 := fun z => z c7
    rw [if_neg nc7] at h
    by_cases c8 : A1 1 t = 0
    · have nc8 : ¬ ¬ A1 1 t = 0 := fun z => z c8
      rw [if_neg nc8] at h
      by_cases c5 : qX1_attacks F1 A1 (nI f) (nI t) = 0
      · rw [if_pos c5] at h; exact absurd rfl h
      · rw [if_neg c5] at h
        by_cases c9 : qX1_isSquare (nI t - onD (F1 2)) = 0
        · rw [if_pos c9] at h; exact absurd rfl h
        · rw [if_neg c9, if_neg c9] at h
          obtain ⟨b, hb, eb⟩ := in_cases (inSq1 c9)
          rw [eb, nI_clamp (by omega)] at h
          by_cases c10 : A1 1 b = 7 - 6 * F1 2
          · exact ⟨c8, b, hb, eb, c10⟩
          · rw [if_pos c10] at h; exact absurd rfl h
    · rw [if_pos c8] at h; exact absurd rfl h
  · rw [if_pos c7] at h; exact absurd rfl h
/-- a pawn's ways -/
theorem pg_f {F1 : Nat → Int32} {A1 : Nat → Nat → Int32} {f t : Nat} (v3 : F1 2 = 0 ∨ F1 2 = 1) (h : ¬ qX1_pawnGoes F1 A1 (nI f) (nI t) = 0) : nI t = nI f + onD (F1 2) ∨ (nI t = nI f + 2 * onD (F1 2) ∧ nI f / 8 = qX0_secondRankOf (F1 2)) ∨ ¬ qX1_attacks F1 A1 (nI f) (nI t) = 0 := by
  have key : ∀ (d c : Int32), ¬ (if ¬ nI t = nI f + d then (if ¬ nI t = nI f + 2 * d then (if (qX1_attacks F1 A1 (nI f) (nI t)) = 0 then (qX1_pawnGoes_j119 F1 A1 (nI f) (nI t)) else (if (qX1_sideOf (A1 1 (Int32.toNatClampNeg (nI t)))) = (1 - (F1 2)) then 1 else (qX1_pawnGoes_j119 F1 A1 (nI f) (nI t)))) else (qX1_pawnGoes_j63 F1 A1 (nI f) (nI t) d c (nI f / 8))) else (if ¬ (A1 1 (Int32.toNatClampNeg (nI t))) = 0 then 0 else 1)) = 0 → nI t = nI f + d ∨ (nI t = nI f + 2 * d ∧ nI f / 8 = c) ∨ ¬ qX1_attacks F1 A1 (nI f) (nI t) = 0 := by
    intro d c h
    by_cases cA : nI t = nI f + d
    · exact Or.inl cA
    rw [if_pos cA] at h
    by_cases cB : nI t = nI f + 2 * d
    · have ncB : ¬ ¬ nI t = nI f + 2 * d := fun z => z cB
      rw [if_neg ncB] at h
      unfold qX1_pawnGoes_j63 at h
      by_cases c2 : nI f / 8 = c
      · exact Or.inr (Or.inl ⟨cB, c2⟩)
      · rw [if_pos c2] at h; exact absurd rfl h
    rw [if_pos cB] at h
    by_cases c3 : qX1_attacks F1 A1 (nI f) (nI t) = 0
    · exfalso
      rw [if_pos c3] at h
      unfold qX1_pawnGoes_j119 at h
      by_cases c4 : qX1_takesPassing F1 A1 (nI f) (nI t) = 0
      · rw [if_pos c4] at h; exact absurd rfl h
      · apply c4
        rw [tp_18 v3]
        unfold qX1_takesPassing_j18
        rw [if_pos c3]
        simp only [ite_self]
    · exact Or.inr (Or.inr c3)
  unfold qX1_pawnGoes qX1_pawnGoes_j14 at h
  rcases v3 with s | s
  · have nh : ¬ ¬ F1 2 = 0 := fun z => z s
    rw [if_neg nh, if_neg nh] at h
    rw [s] at h ⊢
    have := key 8 1
    rw [s] at this
    exact this h
  · have nh : ¬ F1 2 = 0 := by rw [s]; decide
    rw [if_pos nh, if_pos nh] at h
    rw [s] at h ⊢
    have := key (-8) 6
    rw [s] at this
    exact this h
/-- a king that castles -/
theorem cas_f {F1 : Nat → Int32} {A1 : Nat → Nat → Int32} {f t : Nat} (hf : f < 64) (ht : t < 64) (v3 : F1 2 = 0 ∨ F1 2 = 1) (h : ¬ qX1_castles F1 A1 (nI f) (nI t) = 0) :
    ∃ c g : Nat, (f = 4 ∧ ((t = 6 ∧ c = 7 ∧ g = 5) ∨ (t = 2 ∧ c = 0 ∧ g = 3)) ∨ f = 60 ∧ ((t = 62 ∧ c = 63 ∧ g = 61) ∨ (t = 58 ∧ c = 56 ∧ g = 59))) ∧ A1 1 g = 0 ∧ A1 1 t = 0 := by
  obtain ⟨t1, t2, t3, t4, t5, t6⟩ := two_t t ht
  have fin : ∀ (x5 : Int32) (r : Nat), r < 64 → alN f r = true → ¬ qX1_castles_j74 F1 A1 (nI f) x5 (nI r) = 0 → ¬ opn (A1 1) f r (stN f r - 1) 0 = 0 := by
    intro x5 r hr hal h
    unfold qX1_castles_j74 at h
    refine ne_ite h (fun _ h => absurd rfl h) (fun _ h => ne_ite h (fun _ h => absurd rfl h) (fun _ h => ne_ite h (fun _ h => absurd rfl h) (fun z _ => ?_)))
    rw [fr_eq hf hr hal] at z
    exact z
  have op2 : ∀ (bd : Nat → Int32) (a b k n : Nat), ¬ opn bd a b (k + 2) n = 0 → bd (lnN a b n) = 0 ∧ bd (lnN a b (n + 1)) = 0 := by
    intro bd a b k n h
    rw [opn] at h
    by_cases c1 : bd (lnN a b n) = 0
    · rw [if_pos c1, opn] at h
      by_cases c2 : bd (lnN a b (n + 1)) = 0
      · exact ⟨c1, c2⟩
      · rw [if_neg c2] at h; exact absurd rfl h
    · rw [if_neg c1] at h; exact absurd rfl h
  obtain ⟨a1, a2⟩ := casIn h
  unfold qX1_castles qX1_castles_j13 at h
  rcases v3 with s | s
  · have nh : ¬ ¬ F1 2 = 0 := fun z => z s
    rw [if_neg nh] at h
    by_cases c1 : nI f = 4
    · have nc1 : ¬ ¬ nI f = 4 := fun z => z c1
      have ef : f = 4 := (nI_eq (b := 4) (by omega) (by decide)).mp c1
      rw [if_neg nc1, c1] at h
      subst ef
      by_cases c2 : t = 6
      · subst c2
        rw [if_pos (show nI 6 - 4 = 2 by decide)] at h
        unfold qX1_castles_j39 qX1_castles_j50 at h
        rw [show nI 6 - 4 = 2 by decide, if_neg (show ¬ ¬ (2 : Int32) = 2 by decide), if_neg (show ¬ ¬ (2 : Int32) = 2 by decide)] at h
        have := op2 _ _ _ _ _ (fin _ 7 (by decide) (by decide) h)
        exact ⟨7, 5, Or.inl ⟨rfl, Or.inl ⟨rfl, rfl, rfl⟩⟩, this.1, this.2⟩
      · have c3 : t = 2 := by
          rw [c1] at a2
          rcases a2 with a2 | a2
          · exact absurd (t3 a2) c2
          · exact t4 a2
        subst c3
        rw [if_neg (show ¬ nI 2 - 4 = 2 by decide), if_pos (show nI 2 - 4 = -2 by decide)] at h
        unfold qX1_castles_j39 qX1_castles_j50 at h
        rw [show nI 2 - 4 = -2 by decide, if_pos (show ¬ (-2 : Int32) = 2 by decide), if_pos (show ¬ (-2 : Int32) = 2 by decide)] at h
        have := op2 _ _ _ _ _ (fin _ 0 (by decide) (by decide) h)
        exact ⟨0, 3, Or.inl ⟨rfl, Or.inr ⟨rfl, rfl, rfl⟩⟩, this.1, this.2⟩
    · rw [if_pos c1] at h; exact absurd rfl h
  · have nh : ¬ F1 2 = 0 := by rw [s]; decide
    rw [if_pos nh] at h
    by_cases c1 : nI f = 60
    · have nc1 : ¬ ¬ nI f = 60 := fun z => z c1
      have ef : f = 60 := (nI_eq (b := 60) (by omega) (by decide)).mp c1
      rw [if_neg nc1, c1] at h
      subst ef
      by_cases c2 : t = 62
      · subst c2
        rw [if_pos (show nI 62 - 60 = 2 by decide)] at h
        unfold qX1_castles_j39 qX1_castles_j50 at h
        rw [show nI 62 - 60 = 2 by decide, if_neg (show ¬ ¬ (2 : Int32) = 2 by decide), if_neg (show ¬ ¬ (2 : Int32) = 2 by decide)] at h
        have := op2 _ _ _ _ _ (fin _ 63 (by decide) (by decide) h)
        exact ⟨63, 61, Or.inr ⟨rfl, Or.inl ⟨rfl, rfl, rfl⟩⟩, this.1, this.2⟩
      · have c3 : t = 58 := by
          rw [c1] at a2
          rcases a2 with a2 | a2
          · exact absurd (t5 a2) c2
          · exact t6 a2
        subst c3
        rw [if_neg (show ¬ nI 58 - 60 = 2 by decide), if_pos (show nI 58 - 60 = -2 by decide)] at h
        unfold qX1_castles_j39 qX1_castles_j50 at h
        rw [show nI 58 - 60 = -2 by decide, if_pos (show ¬ (-2 : Int32) = 2 by decide), if_pos (show ¬ (-2 : Int32) = 2 by decide)] at h
        have := op2 _ _ _ _ _ (fin _ 56 (by decide) (by decide) h)
        exact ⟨56, 59, Or.inr ⟨rfl, Or.inr ⟨rfl, rfl, rfl⟩⟩, this.1, this.2⟩
    · rw [if_pos c1] at h; exact absurd rfl h
/-- all that a move of the position is -/
def MvF (F1 : Nat → Int32) (A1 : Nat → Nat → Int32) (f t kd : Nat) : Prop :=
  qX1_sideOf (A1 1 f) = F1 2 ∧ (¬ qX1_sideOf (A1 1 t) = F1 2) ∧ ((kd = 0 ∧ lastF (qX1_kindOf (A1 1 f)) (nI t / 8) (F1 2) = 0) ∨ (2 ≤ kd ∧ kd ≤ 5 ∧ lastF (qX1_kindOf (A1 1 f)) (nI t / 8) (F1 2) = 1)) ∧
  ¬ (if ¬ (qX1_kindOf (A1 1 f)) = 1 then (if ¬ (qX1_attacks F1 A1 (nI f) (nI t)) = 0 then 1 else (if ¬ (qX1_kindOf (A1 1 f)) = 6 then 0 else (if (qX1_castles F1 A1 (nI f) (nI t)) = 0 then 0 else 1))) else (qX1_pawnGoes F1 A1 (nI f) (nI t))) = 0
theorem mv_f {F1 : Nat → Int32} {A1 : Nat → Nat → Int32} (v3 : F1 2 = 0 ∨ F1 2 = 1) {a : Int32} (h : ¬ qX1_isMove F1 A1 a = 0) : ∃ m : Nat, m < 2 ^ 31 ∧ a = nI m ∧ MvF F1 A1 (m % 64) (m / 64 % 64) (m / 4096) := by
  have c0 := (mvIn h).1
  obtain ⟨m, hm, rfl⟩ := nI_of c0
  refine ⟨m, hm, rfl, ?_⟩
  obtain ⟨p1, p2, p3, p4, p5, p6⟩ := mv_parts hm
  have hf : m % 64 < 64 := Nat.mod_lt _ (by decide)
  have ht : m / 64 % 64 < 64 := Nat.mod_lt _ (by decide)
  have hkd : m / 4096 < 2 ^ 31 := by omega
  unfold qX1_isMove at h
  rw [if_neg c0, p4, p5, p6, mv_l v3, nI_clamp (by omega)] at h
  generalize m % 64 = f at hf h ⊢
  generalize m / 64 % 64 = t at ht h ⊢
  generalize m / 4096 = kd at hkd h ⊢
  have k1 : (5 : Int32) < nI kd ↔ 5 < kd := nI_ltI (a := 5) (by decide) hkd
  have k2 : nI kd = 1 ↔ kd = 1 := nI_eq (b := 1) hkd (by decide)
  have k3 : nI kd ≤ 1 ↔ kd ≤ 1 := nI_leI (b := 1) hkd (by decide)
  unfold qX1_isMove_j81 qX1_isMove_j142 at h
  rw [nI_clamp (by omega), nI_clamp (by omega)] at h
  refine ne_ite h (fun _ h => absurd rfl h) (fun z1 h => ne_ite h (fun _ h => absurd rfl h) (fun z2 h => ne_ite h (fun _ h => ?_) (fun _ h => absurd rfl h)))
  refine ne_ite h (fun _ h => absurd rfl h) (fun y1 h => ne_ite h (fun _ h => absurd rfl h) (fun y2 h => ne_ite h (fun _ h => absurd rfl h) (fun y3 h => ?_)))
  rw [k1] at z1; rw [k2] at z2
  have y1 := Decidable.not_not.mp y1
  refine ne_ite h (fun y4 h => ne_ite h (fun y5 h => ?_) (fun _ h => absurd rfl h)) (fun y4 h => ne_ite h (fun y5 h => ?_) (fun _ h => absurd rfl h))
  · rw [k3] at y4
    exact ⟨y1, y2, Or.inl ⟨by omega, y5⟩, h⟩
  · rw [k3] at y4
    exact ⟨y1, y2, Or.inr ⟨by omega, by omega, y5⟩, h⟩
