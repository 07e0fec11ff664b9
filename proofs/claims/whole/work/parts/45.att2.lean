theorem att_eq {F0 F1 : Nat → Int32} {A0 A1 : Nat → Nat → Int32} (hbd : A0 0 = A1 1) (hv : ∀ j : Nat, ∃ q : Nat, q ≤ 12 ∧ A1 1 j = nI q) {a b : Nat} (ha : a < 64) (hb : b < 64) : qX0_attacks F0 A0 (nI a) (nI b) = qX1_attacks F1 A1 (nI a) (nI b) := by
  by_cases hab : nI a = nI b
  · have nab : ¬ ¬ nI a = nI b := fun z => z hab
    unfold qX0_attacks qX1_attacks
    rw [if_neg nab, if_neg nab]
    split <;> rfl
  have hof : (nI (afN a b) = 0 ∨ nI (arN a b) = 0) ∨ nI (afN a b) = nI (arN a b) → qX0_isOpen F0 A0 (nI a) (nI b) = qX1_isFree F1 A1 (nI a) (nI b) := by
    intro hal
    obtain ⟨e1, e2, -, -⟩ := apN a ha b hb
    rw [← e1, ← e2] at hal
    obtain ⟨a', b', ha', hb', hal', z1, z2⟩ := alOf (vp_in_nI ha (by decide)) (vp_in_nI hb (by decide)) hab hal
    have y1 : a = a' := (nI_eq (by omega) (by omega)).mp z1
    have y2 : b = b' := (nI_eq (by omega) (by omega)).mp z2
    subst y1; subst y2
    exact of_eq hbd ha hb hal'
  obtain ⟨e1, e2, l1, l2⟩ := apN a ha b hb
  obtain ⟨g1, g2⟩ := ab0 a ha b hb
  obtain ⟨p1, p2⟩ := pw0 a ha b hb
  obtain ⟨k1, k2⟩ := kn_t _ l1 _ l2
  obtain ⟨q, hq, eq⟩ := hv a
  obtain ⟨f1, f2, -⟩ := pc_facts q hq
  have hty := ty_cases q (by omega)
  unfold qX0_attacks qX1_attacks qX0_attacks_j57 qX1_attacks_j167
  rw [nI_clamp (by omega), hbd, eq, if_pos hab, if_pos hab, g1, g2, e1, e2]
  unfold qX0_attacks_j71 qX0_attacks_j191
  rw [f1, f2]
  generalize qX1_kindOf (nI q) = t at hty ⊢
  generalize qX1_sideOf (nI q) = sd at hty ⊢
  generalize nI (afN a b) = W at *
  generalize nI (arN a b) = H at *
  generalize qX0_isOpen F0 A0 (nI a) (nI b) = O at *
  rcases hty with ⟨-, rfl, -⟩ | ⟨-, hs, rfl | rfl | rfl | rfl | rfl | rfl⟩
  · simp (config := { decide := true }) only [if_true, if_false, ite_self]
  · rcases hs with rfl | rfl
    · rw [p1]; simp (config := { decide := true }) only [if_true, if_false, ite_self, qX1_attacks_j84, not_true, not_false_iff]
    · rw [p2]; simp (config := { decide := true }) only [if_true, if_false, ite_self, qX1_attacks_j84, not_true, not_false_iff]
  · simp (config := { decide := true }) only [if_true, if_false, ite_self, qX1_attacks_j110, not_true, not_false_iff]
    exact k1
  · unfold qX1_attacks_j181 qX1_attacks_j193 qX1_attacks_j203
    by_cases c1 : W = 0 <;> by_cases c2 : H = 0 <;> by_cases c3 : W = H <;> simp_all
  · unfold qX1_attacks_j181 qX1_attacks_j193 qX1_attacks_j203
    by_cases c1 : W = 0 <;> by_cases c2 : H = 0 <;> by_cases c3 : W = H <;> simp_all
  · unfold qX1_attacks_j181 qX1_attacks_j193 qX1_attacks_j203
    by_cases c1 : W = 0 <;> by_cases c2 : H = 0 <;> by_cases c3 : W = H <;> simp_all
  · simp (config := { decide := true }) only [if_true, if_false, ite_self, not_true, not_false_iff]
    exact k2
theorem sd_eq {A0 A1 : Nat → Nat → Int32} (hbd : A0 0 = A1 1) (hv : ∀ j : Nat, ∃ q : Nat, q ≤ 12 ∧ A1 1 j = nI q) (j : Nat) : qX0_sideOf (A0 0 j) = qX1_sideOf (A1 1 j) := by
  obtain ⟨q, hq, e⟩ := hv j
  rw [hbd, e]; exact (pc_facts q hq).2.1
theorem ty_eq {A0 A1 : Nat → Nat → Int32} (hbd : A0 0 = A1 1) (hv : ∀ j : Nat, ∃ q : Nat, q ≤ 12 ∧ A1 1 j = nI q) (j : Nat) : qX0_typeOf (A0 0 j) = qX1_kindOf (A1 1 j) := by
  obtain ⟨q, hq, e⟩ := hv j
  rw [hbd, e]; exact (pc_facts q hq).1
theorem at_w {F0 F1 : Nat → Int32} {A0 A1 : Nat → Nat → Int32} {b : Nat} {x2 : Int32} (hbd : A0 0 = A1 1) (hv : ∀ j : Nat, ∃ q : Nat, q ≤ 12 ∧ A1 1 j = nI q) (hb : b < 64) (h0 : F1 0 = 0) : ∀ (k n : Nat) (acc : Int64), n + k = 64 → qX1_attackers_w34 F1 A1 (nI b) x2 k n acc = ((qX0_attackers_w39 F0 A0 (nI b) x2 k n acc).2, F1, A1) ∧ (qX0_attackers_w39 F0 A0 (nI b) x2 k n acc).1 = 0 := by
  intro k
  induction k with
  | zero => intro n acc _; exact ⟨rfl, rfl⟩
  | succ k ih =>
    intro n acc hn
    have n0 : ¬ ¬ F1 0 = 0 := fun z => z h0
    rw [qX1_attackers_w34, qX0_attackers_w39, if_neg n0, sd_eq hbd hv, att_eq (F1 := F1) hbd hv (by omega) hb]
    by_cases c : ¬ qX1_sideOf (A1 1 (Int32.toNatClampNeg (nI n))) = x2
    · rw [if_pos c, if_pos c]; exact ih _ _ (by omega)
    · rw [if_neg c, if_neg c]
      by_cases c2 : qX1_attacks F1 A1 (nI n) (nI b) = 0
      · rw [if_pos c2, if_pos c2]; exact ih _ _ (by omega)
      · rw [if_neg c2, if_neg c2]; exact ih _ _ (by omega)
theorem p_attackers : pb_attackers := by
  intro F0 A0 F1 A1 a b h
  obtain ⟨v1, v2, v3, v4, v5, v6⟩ := id h.vd
  have t1 := h.thr 1
  have t2 := h.thr 2
  have t0 := h.thr 0
  have hsq : qX1_isSquare a = qX0_isSquare a := rfl
  unfold qX0_attackers qX1_attackers
  rw [hsq]
  by_cases c1 : qX0_isSquare a = 0
  · have nc1 : ¬ ¬ qX0_isSquare a = 0 := fun z => z c1
    rw [if_neg nc1, if_neg nc1]
    exact ⟨Or.inr (Or.inl rfl), rfl, fun z => absurd z (by decide), t1⟩
  rw [if_pos c1, if_pos c1]
  have no : ((((2 : Int32), (0 : Int64)) : Int32 × Int64).1 = 0 ∨ (((2 : Int32), (0 : Int64)) : Int32 × Int64).1 = 1 ∨ (((2 : Int32), (0 : Int64)) : Int32 × Int64).1 = 2) ∧ qX1_thrown (qX1_attackers_j26 F1 A1 a b 2).2.1 (qX1_attackers_j26 F1 A1 a b 2).2.2 = (if (((2 : Int32), (0 : Int64)) : Int32 × Int64).1 = 0 then 0 else (if (((2 : Int32), (0 : Int64)) : Int32 × Int64).1 = 1 then 1 else 2)) ∧ ((((2 : Int32), (0 : Int64)) : Int32 × Int64).1 = 0 → (((2 : Int32), (0 : Int64)) : Int32 × Int64).2 = (qX1_attackers_j26 F1 A1 a b 2).1) ∧ Inv F0 A0 (qX1_attackers_j26 F1 A1 a b 2).2.1 (qX1_attackers_j26 F1 A1 a b 2).2.2 :=
    ⟨Or.inr (Or.inr rfl), rfl, fun z => absurd z (by decide), t2⟩
  by_cases c2 : qX0_isSide b = 0
  · have nc2 : ¬ ¬ qX0_isSide b = 0 := fun z => z c2
    rw [if_neg nc2]
    by_cases d1 : b < 0
    · rw [if_pos d1]; exact no
    rw [if_neg d1]
    by_cases d2 : b ≤ 1
    · exfalso
      obtain ⟨r, hr, rfl⟩ := i_rng (n := 1) d1 d2 (by decide)
      rcases (show r = 0 ∨ r = 1 by omega) with rfl | rfl
      · exact absurd c2 (by decide)
      · exact absurd c2 (by decide)
    · rw [if_neg d2]; exact no
  rw [if_pos c2]
  have w1 := sdCases c2
  rw [if_neg (show ¬ b < 0 by rcases w1 with rfl | rfl <;> decide), if_pos (show b ≤ 1 by rcases w1 with rfl | rfl <;> decide)]
  obtain ⟨i, hi, rfl⟩ := in_cases (inSq c1)
  obtain ⟨z1, z2⟩ := at_w (F0 := F0) (F1 := uf F1 0 0) (x2 := b) h.bd v1 hi rfl 64 0 0 rfl
  unfold qX1_attackers_j26
  rw [z1, z2]
  exact ⟨Or.inl rfl, rfl, fun _ => rfl, t0⟩
theorem or_ne {acc : Int64} {n : Nat} (h : n < 64) : ¬ (acc ||| ((1 : Int64) <<< (Int32.toInt64 (nI n) &&& 63))) = 0 := by
  intro z
  have e : tn (acc ||| ((1 : Int64) <<< (Int32.toInt64 (nI n) &&& 63))) = 0 := by rw [z]; decide
  rw [tn_or, bit_n n h] at e
  have h1 : 2 ^ n ≤ tn acc ||| 2 ^ n := Nat.right_le_or
  have h2 : 0 < 2 ^ n := Nat.two_pow_pos n
  omega
theorem ia_1 {F : Nat → Int32} {A : Nat → Nat → Int32} {x1 x2 : Int32} : ∀ k n : Nat, qX1_isAttacked_w5 F A x1 x2 k n 1 = 1 := by
  intro k n
  cases k with
  | zero => rfl
  | succ k => rw [qX1_isAttacked_w5, if_pos (show ¬ (1 : Int32) = 0 by decide)]
theorem an_w {F0 F1 : Nat → Int32} {A0 A1 : Nat → Nat → Int32} {b : Nat} {x2 : Int32} (hbd : A0 0 = A1 1) (hv : ∀ j : Nat, ∃ q : Nat, q ≤ 12 ∧ A1 1 j = nI q) (hb : b < 64) : ∀ (k n : Nat) (acc : Int64), n + k = 64 → (qX0_attackersN_w39 F0 A0 (nI b) x2 k n acc = 0 ↔ (acc = 0 ∧ qX1_isAttacked_w5 F1 A1 (nI b) x2 k n 0 = 0)) := by
  intro k
  induction k with
  | zero => intro n acc _; exact ⟨fun z => ⟨z, rfl⟩, fun z => z.1⟩
  | succ k ih =>
    intro n acc hn
    have n0 : ¬ ¬ (0 : Int32) = 0 := fun z => z rfl
    rw [qX0_attackersN_w39, qX1_isAttacked_w5, if_neg n0, sd_eq hbd hv, att_eq (F1 := F1) hbd hv (by omega) hb]
    by_cases c : ¬ qX1_sideOf (A1 1 (Int32.toNatClampNeg (nI n))) = x2
    · rw [if_pos c, if_pos c]; exact ih _ _ (by omega)
    · rw [if_neg c, if_neg c]
      by_cases c2 : qX1_attacks F1 A1 (nI n) (nI b) = 0
      · rw [if_pos c2, if_pos c2]; exact ih _ _ (by omega)
      · rw [if_neg c2, if_neg c2, ia_1]
        constructor
        · intro z; exact absurd ((ih _ _ (by omega)).mp z).1 (or_ne (by omega))
        · intro z; exact absurd z.2 (by decide)
theorem ck_1 {F : Nat → Int32} {A : Nat → Nat → Int32} {x1 : Int32} (h1 : x1 = 0 ∨ x1 = 1) : ∀ k n : Nat, qX1_check_w9 F A x1 k n 1 = (1, F, A) := by
  intro k
  induction k with
  | zero => intro n; rfl
  | succ k ih =>
    intro n
    rw [qX1_check_w9]
    unfold qX1_check_j24
    rw [if_pos (show ¬ (1 : Int32) = 0 by decide), ih]
    rcases h1 with rfl | rfl
    · rw [if_pos rfl]
    · rw [if_neg (show ¬ (1 : Int32) = 0 by decide), if_neg (show ¬ ¬ (1 : Int32) = 1 by decide)]
theorem ck_w {F0 F1 : Nat → Int32} {A0 A1 : Nat → Nat → Int32} {x1 : Int32} (hbd : A0 0 = A1 1) (hv : ∀ j : Nat, ∃ q : Nat, q ≤ 12 ∧ A1 1 j = nI q) (h1 : ¬ qX0_isSide x1 = 0) : ∀ (k n : Nat), n + k = 64 → qX1_check_w9 F1 A1 x1 k n 0 = (qX0_check_w11 F0 A0 x1 k n, F1, A1) := by
  intro k
  induction k with
  | zero => intro n _; rfl
  | succ k ih =>
    intro n hn
    have e : qX1_check_w9 F1 A1 x1 (k + 1) n 0 = qX1_check_j24 (qX1_check_w9 F1 A1 x1 k) n F1 A1 x1 0 := by
      rw [qX1_check_w9]
      rcases sdCases h1 with rfl | rfl
      · rw [if_pos rfl]
      · rw [if_neg (show ¬ (1 : Int32) = 0 by decide), if_neg (show ¬ ¬ (1 : Int32) = 1 by decide)]
    rw [e, qX0_check_w11]
    unfold qX1_check_j24
    have n0 : ¬ ¬ (0 : Int32) = 0 := fun z => z rfl
    rw [if_neg n0, hbd, ih _ (by omega), ck_1 (sdCases h1)]
    have e6 : qX0_pieceOf 6 x1 = 6 + 6 * x1 := rfl
    rw [e6]
    by_cases c : ¬ A1 1 (Int32.toNatClampNeg (nI n)) = 6 + 6 * x1
    · rw [if_pos c, if_pos c]
    · rw [if_neg c, if_neg c]
      have q1 : qX0_attackersN F0 A0 (nI n) (qX0_otherThan x1) = qX0_attackersN_w39 F0 A0 (nI n) (qX0_otherThan x1) 64 0 0 := by
        unfold qX0_attackersN
        rw [if_pos (sqOf (by omega)), if_pos (sdOther h1)]
      have q2 := an_w (F0 := F0) (F1 := F1) (x2 := 1 - x1) hbd hv (b := n) (by omega) 64 0 0 rfl
      have q3 : qX0_otherThan x1 = 1 - x1 := rfl
      rw [q1, q3]
      by_cases c2 : qX1_isAttacked F1 A1 (nI n) (1 - x1) = 0
      · rw [if_pos c2, if_pos ((lg_cmp_eq _ _).mpr (q2.mpr ⟨rfl, c2⟩))]
      · rw [if_neg c2, if_neg (fun z => c2 (q2.mp ((lg_cmp_eq _ _).mp z)).2)]
theorem p_check : pb_check := by
  intro F0 A0 F1 A1 a h
  obtain ⟨v1, v2, v3, v4, v5, v6⟩ := id h.vd
  have t0 := h.thr 0
  unfold qX0_check qX1_check
  by_cases c1 : qX0_isSide a = 0
  · have nc1 : ¬ ¬ qX0_isSide a = 0 := fun z => z c1
    have na : ¬ a = 0 := fun z => absurd c1 (by rw [z]; decide)
    have nb : ¬ a = 1 := fun z => absurd c1 (by rw [z]; decide)
    rw [if_neg nc1, qX1_check_w9, if_neg na, if_pos nb]
    exact ⟨rfl, t0⟩
  · rw [if_pos c1, ck_w (F0 := F0) h.bd v1 c1 64 0 rfl]
    exact ⟨rfl, t0⟩
