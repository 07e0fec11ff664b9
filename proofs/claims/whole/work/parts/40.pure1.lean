/-! The two sides answer alike: what only reads, one square after the other. -/
theorem Inv.bd {F0 A0 F1 A1} (h : Inv F0 A0 F1 A1) : A0 0 = A1 1 := by
  obtain ⟨md, -, -, -, h, -⟩ := h; exact h
theorem Inv.vd {F0 A0 F1 A1} (h : Inv F0 A0 F1 A1) : Vd (A1 1) (F1 2) (F1 3) (F1 4) := by
  obtain ⟨md, -, -, -, -, -, -, -, -, -, h, -⟩ := h; exact h
theorem Inv.e1 {F0 A0 F1 A1} (h : Inv F0 A0 F1 A1) : F0 1 = F1 2 ∧ F0 2 = F1 3 ∧ F0 3 = F1 4 ∧ F0 4 = F1 5 ∧ F0 5 = F1 6 ∧ F0 6 = F1 7 := by
  obtain ⟨md, -, a, b, -, h1, h2, h3, h4, h5, -⟩ := h; exact ⟨h1, h2, h3, h4, h5, a.trans b.symm⟩
theorem Inv.thr {F0 A0 F1 A1} (v : Int32) (h : Inv F0 A0 F1 A1) : Inv F0 A0 (uf F1 0 v) A1 := by
  obtain ⟨md, h⟩ := h; exact ⟨md, h⟩
theorem Inv.zero {F0 A0 F1 A1} (h6 : F0 6 = 0) (h7 : F1 7 = 0) (hb : A0 0 = A1 1) (h1 : F0 1 = F1 2) (h2 : F0 2 = F1 3) (h3 : F0 3 = F1 4) (h4 : F0 4 = F1 5) (h5 : F0 5 = F1 6) (hv : Vd (A1 1) (F1 2) (F1 3) (F1 4)) : Inv F0 A0 F1 A1 :=
  ⟨0, by omega, h6, h7, hb, h1, h2, h3, h4, h5, hv, fun k hk => absurd hk (Nat.not_lt_zero k)⟩
theorem where_w {F0 F1 : Nat → Int32} {A0 A1 : Nat → Nat → Int32} {x : Int32} (hb : A0 0 = A1 1) : ∀ (k n : Nat) (acc : Int64), qX1_where_w10 F1 A1 x k n acc = (qX0_where_w5 F0 A0 x k n acc, F1, A1) := by
  intro k
  induction k with
  | zero => intro n acc; rfl
  | succ k ih =>
    intro n acc
    rw [qX1_where_w10, qX0_where_w5, hb, ih, ih]
    split <;> rfl
theorem p_where : pb_where := by
  intro F0 A0 F1 A1 a h
  unfold qX1_where qX0_where
  rw [where_w (F0 := F0) h.bd]
  exact ⟨rfl, h.thr 0⟩
theorem p_move : pb_move := by
  intro F0 A0 F1 A1 a h
  obtain ⟨md, h1, h2, h3, h4⟩ := id h
  unfold qX1_move qX0_move
  by_cases c1 : a < 0
  · rw [if_pos c1, if_pos c1]; exact ⟨rfl, h.thr 0⟩
  · rw [if_neg c1, if_neg c1]
    by_cases c2 : F0 6 ≤ a
    · have c3 : ¬ a < F1 7 := by
        rw [h3]; rw [h2] at c2
        rw [Int32.le_iff_toInt_le] at c2; rw [Int32.lt_iff_toInt_lt]; omega
      rw [if_pos c2, if_neg c3]; exact ⟨rfl, h.thr 0⟩
    · have c3 : a < F1 7 := by
        rw [h3]; rw [h2] at c2
        rw [Int32.le_iff_toInt_le] at c2; rw [Int32.lt_iff_toInt_lt]; omega
      rw [if_neg c2, if_pos c3]
      refine ⟨?_, h.thr 0⟩
      obtain ⟨j, hj, rfl⟩ := nI_of c1
      rw [nI_clamp hj]
      have hjm : j < md := by
        rw [h3] at c3
        exact (nI_ltI hj (by omega)).mp c3
      exact (h4.2.2.2.2.2.2.2 j hjm).1
theorem p_at : pb_at := by
  intro F0 A0 F1 A1 a h
  have e : qX1_isSquare a = qX0_isSquare a := rfl
  unfold qX1_at qX0_at qX1_at_j13
  rw [e]
  by_cases c1 : qX0_isSquare a = 0
  · rw [if_pos c1, if_neg (fun z => z c1)]
    exact ⟨Or.inr rfl, rfl, fun z => absurd z (by decide), h.thr 1⟩
  · rw [if_neg c1, if_pos c1]
    refine ⟨Or.inl rfl, rfl, fun _ => ?_, h.thr 0⟩
    show A0 0 _ = A1 1 _
    rw [h.bd]
theorem mix_eq (x : Int64) : qX0_mixed x = qX1_mixed x := rfl
theorem key_x {F : Nat → Int32} {A : Nat → Nat → Int32} (M : Int64) : ∀ (k n : Nat) (acc : Int64), qX0_key_w45 F A k n (acc ^^^ M) = qX0_key_w45 F A k n acc ^^^ M := by
  intro k
  induction k with
  | zero => intro n acc; rfl
  | succ k ih =>
    intro n acc
    rw [qX0_key_w45, qX0_key_w45]
    by_cases c : A 0 (Int32.toNatClampNeg (nI n)) = 0
    · rw [if_pos c, if_pos c]; exact ih _ _
    · rw [if_neg c, if_neg c, ← ih]
      congr 1
      rw [Int64.xor_assoc, Int64.xor_assoc, Int64.xor_comm M]
theorem nI_le0 {q : Nat} (h : q ≤ 12) : nI q ≤ 0 ↔ nI q = 0 := by
  constructor
  · intro z
    have : q ≤ 0 := (nI_leI (by omega) (by decide)).mp (z : nI q ≤ nI 0)
    have e : q = 0 := by omega
    subst e; rfl
  · intro z; rw [z]; decide
theorem key_w {F0 F1 : Nat → Int32} {A0 A1 : Nat → Nat → Int32} (hb : A0 0 = A1 1) (hv : ∀ j : Nat, ∃ q : Nat, q ≤ 12 ∧ A1 1 j = nI q) : ∀ (k n : Nat) (acc : Int64), n + k = 64 → qX1_key_w33 F1 A1 k n acc = (if ¬ F1 2 = 1 then (qX0_key_w45 F0 A0 k n acc, F1, A1) else (qX0_key_w45 F0 A0 k n acc ^^^ qX1_mixed 2000, F1, A1)) := by
  intro k
  induction k with
  | zero => intro n acc _; rfl
  | succ k ih =>
    intro n acc hn
    rw [qX1_key_w33, qX0_key_w45, hb]
    obtain ⟨q, hq, e⟩ := hv (Int32.toNatClampNeg (nI n))
    rw [e]
    by_cases c : nI q = 0
    · rw [if_pos ((nI_le0 hq).mpr c), if_pos c, ih _ _ (by omega)]
    · rw [if_neg (fun z => c ((nI_le0 hq).mp z)), if_neg c, ih _ _ (by omega)]
      have e1 : Int32.toInt64 ((64 * nI q) + nI n) = (64 * Int32.toInt64 (nI q)) + Int32.toInt64 (nI n) := by
        rw [show (64 : Int32) = nI 64 from rfl, pk_mul, nI_add, nI_l (by omega), nI_l (by omega), nI_l (by omega), show (64 : Int64) = lN 64 from rfl, lN_mul, lN_add]
      rw [e1, mix_eq]
theorem key_0 {rt ps : Int32} (h1 : ∃ r : Nat, r ≤ 15 ∧ rt = nI r) (h2 : ps = -1 ∨ ∃ q : Nat, q < 64 ∧ ps = nI q) : Int32.toInt64 (900 + rt) = 900 + Int32.toInt64 rt ∧ Int32.toInt64 (1000 + ps) = 1000 + Int32.toInt64 ps := by
  refine ⟨?_, ?_⟩
  · obtain ⟨r, hr, rfl⟩ := h1
    rw [show (900 : Int32) = nI 900 from rfl, nI_add, nI_l (by omega), nI_l (by omega), show (900 : Int64) = lN 900 from rfl, lN_add]
  · rcases h2 with rfl | ⟨q, hq, rfl⟩
    · decide
    · rw [show (1000 : Int32) = nI 1000 from rfl, nI_add, nI_l (by omega), nI_l (by omega), show (1000 : Int64) = lN 1000 from rfl, lN_add]
theorem p_key : pb_key := by
  intro F0 A0 F1 A1 h
  obtain ⟨v1, v2, v3, v4, v5, v6⟩ := h.vd
  obtain ⟨e1, e2, e3, -⟩ := h.e1
  obtain ⟨k1, k2⟩ := key_0 v4 v5
  unfold qX1_key qX0_key qX0_key_j43
  rw [key_w (F0 := F0) h.bd v1 _ _ _ rfl, e1, e2, e3, k1, k2, mix_eq, mix_eq, mix_eq, key_x]
  have e9 : (uf F1 0 0) 2 = F1 2 := rfl
  rw [e9]
  by_cases c : ¬ F1 2 = 1
  · rw [if_pos c, if_pos c]; exact ⟨rfl, h.thr 0⟩
  · rw [if_neg c, if_neg c, key_x, key_x]; exact ⟨rfl, h.thr 0⟩
def wtI (s0 : Int32) : Int32 := if s0 = 1 then 1 else if s0 = 2 then 3 else if s0 = 3 then 3 else if s0 = 4 then 5 else if s0 = 5 then 9 else 0
theorem mat_j {rec : Nat → Int32 → Int32} {n : Nat} {F : Nat → Int32} {A : Nat → Nat → Int32} {x1 x2 s0 : Int32} : qX1_material_j36 rec n F A x1 x2 s0 = rec (n + 1) (x2 + wtI s0) := by
  unfold qX1_material_j36 qX1_material_j87 wtI
  by_cases c1 : s0 = 1
  · rw [if_neg (fun z => z c1), if_pos c1]
  · rw [if_pos c1, if_neg c1]
    by_cases c2 : s0 = 2
    · rw [if_pos c2, if_pos c2]
    · rw [if_neg c2, if_neg c2]
      by_cases c3 : s0 = 3
      · rw [if_neg (fun z => z c3), if_pos c3]
      · rw [if_pos c3, if_neg c3]
        by_cases c4 : s0 = 4
        · rw [if_neg (fun z => z c4), if_pos c4]
        · rw [if_pos c4, if_neg c4]
          by_cases c5 : s0 = 5
          · rw [if_neg (fun z => z c5), if_pos c5]
          · rw [if_pos c5, if_neg c5]
theorem pc_facts : ∀ q, q ≤ 12 → qX0_typeOf (nI q) = qX1_kindOf (nI q) ∧ qX0_sideOf (nI q) = qX1_sideOf (nI q) ∧ wtI (qX1_kindOf (nI q)) = qX0_worthOf (qX0_typeOf (nI q)) := by
  intro q hq
  have key : ∀ q, q < 13 → qX0_typeOf (nI q) = qX1_kindOf (nI q) ∧ qX0_sideOf (nI q) = qX1_sideOf (nI q) ∧ wtI (qX1_kindOf (nI q)) = qX0_worthOf (qX0_typeOf (nI q)) := by decide +kernel
  exact key q (by omega)
theorem mat_w {F0 F1 : Nat → Int32} {A0 A1 : Nat → Nat → Int32} {x : Int32} (hb : A0 0 = A1 1) (hv : ∀ j : Nat, ∃ q : Nat, q ≤ 12 ∧ A1 1 j = nI q) : ∀ (k n : Nat) (acc : Int32), qX0_material_w4 F0 A0 x k n acc = qX1_material_w4 F1 A1 x k n acc := by
  intro k
  induction k with
  | zero => intro n acc; rfl
  | succ k ih =>
    intro n acc
    rw [qX0_material_w4, qX1_material_w4, hb, mat_j, mat_j]
    obtain ⟨q, hq, e⟩ := hv (Int32.toNatClampNeg (nI n))
    obtain ⟨f1, f2, f3⟩ := pc_facts q hq
    rw [e, f2, f3, ih, ih]
    by_cases c : ¬ qX1_sideOf (nI q) = x
    · rw [if_pos c, if_pos c, show wtI 0 = 0 by decide, Int32.add_zero]
    · rw [if_neg c, if_neg c]
theorem mat_eq {F0 F1 : Nat → Int32} {A0 A1 : Nat → Nat → Int32} {x : Int32} (hb : A0 0 = A1 1) (hv : ∀ j : Nat, ∃ q : Nat, q ≤ 12 ∧ A1 1 j = nI q) : qX0_material F0 A0 x = qX1_material F1 A1 x := mat_w hb hv _ _ _
