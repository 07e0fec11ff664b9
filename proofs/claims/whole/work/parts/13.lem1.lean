theorem inSq1 {x : Int32} (h : ¬ qX1_isSquare x = 0) : vp_in x 64 := inSq h
theorem in_cases {x : Int32} (h : vp_in x 64) : ∃ j : Nat, j < 64 ∧ x = nI j := vp_in_of h (by decide)
theorem in0 : vp_in (0 : Int32) 64 := vp_in_nI (n := 0) (by decide) (by decide)
/-- apart of files, of ranks -/
theorem apN : ∀ a, a < 64 → ∀ b, b < 64 → qX1_apart (nI a - nI a / 8 * 8) (nI b - nI b / 8 * 8) = nI (afN a b) ∧ qX1_apart (nI a / 8) (nI b / 8) = nI (arN a b) ∧ afN a b < 8 ∧ arN a b < 8 := by decide +kernel
theorem alOf {x y : Int32} (h1 : vp_in x 64) (h2 : vp_in y 64) (hne : ¬ x = y) (hal : (qX1_apart (x - x / 8 * 8) (y - y / 8 * 8) = 0 ∨ qX1_apart (x / 8) (y / 8) = 0) ∨ qX1_apart (x - x / 8 * 8) (y - y / 8 * 8) = qX1_apart (x / 8) (y / 8)) : ∃ a b : Nat, a < 64 ∧ b < 64 ∧ alN a b = true ∧ x = nI a ∧ y = nI b := by
  obtain ⟨a, ha, rfl⟩ := in_cases h1
  obtain ⟨b, hb, rfl⟩ := in_cases h2
  obtain ⟨e1, e2, l1, l2⟩ := apN a ha b hb
  rw [e1, e2] at hal
  refine ⟨a, b, ha, hb, ?_, rfl, rfl⟩
  have hab : ¬ a = b := fun z => hne (by rw [z])
  have h3 : afN a b = 0 ∨ arN a b = 0 ∨ afN a b = arN a b := by
    rcases hal with (h | h) | h
    · exact Or.inl ((nI_eq (by omega) (by decide)).mp (h : nI (afN a b) = nI 0))
    · exact Or.inr (Or.inl ((nI_eq (by omega) (by decide)).mp (h : nI (arN a b) = nI 0)))
    · exact Or.inr (Or.inr ((nI_eq (by omega) (by omega)).mp h))
  unfold alN
  rw [Bool.and_eq_true, Bool.or_eq_true, Bool.or_eq_true]
  refine ⟨?_, ?_⟩
  · cases hq : Nat.beq a b with
    | true => exact absurd (Nat.eq_of_beq_eq_true hq) hab
    | false => rfl
  · have bt : ∀ x y : Nat, x = y → Nat.beq x y = true := fun x y z => by subst z; exact Nat.beq_refl x
    rcases h3 with h | h | h
    · exact Or.inl (Or.inl (bt _ _ h))
    · exact Or.inl (Or.inr (bt _ _ h))
    · exact Or.inr (bt _ _ h)
theorem inCorner {x y : Int32} (h1 : x = 4 ∨ x = 60) (h2 : y = x + 3 ∨ y = x - 4) : vp_in y 64 := by
  rcases h1 with rfl | rfl <;> rcases h2 with rfl | rfl
  · exact vp_in_nI (n := 7) (by decide) (by decide)
  · exact vp_in_nI (n := 0) (by decide) (by decide)
  · exact vp_in_nI (n := 63) (by decide) (by decide)
  · exact vp_in_nI (n := 56) (by decide) (by decide)
theorem alCorner {z x y : Int32} (h0 : z = x) (h1 : x = 4 ∨ x = 60) (h2 : y = x + 3 ∨ y = x - 4) : ∃ a b : Nat, a < 64 ∧ b < 64 ∧ alN a b = true ∧ z = nI a ∧ y = nI b := by
  subst h0
  rcases h1 with rfl | rfl <;> rcases h2 with rfl | rfl
  · exact ⟨4, 7, by decide, by decide, by decide, by decide, by decide⟩
  · exact ⟨4, 0, by decide, by decide, by decide, by decide, by decide⟩
  · exact ⟨60, 63, by decide, by decide, by decide, by decide, by decide⟩
  · exact ⟨60, 56, by decide, by decide, by decide, by decide, by decide⟩
theorem rank8 : ∀ a, a < 64 → (nI a / 8 = 1 → a + 8 < 64) ∧ (nI a / 8 = 6 → 8 ≤ a) := by decide +kernel
theorem inOn {x v w s : Int32} (h1 : vp_in x 64) (h2 : (s = 0 ∧ v = 8) ∨ (¬ s = 0 ∧ v = -8)) (h3 : (s = 0 ∧ w = 1) ∨ (¬ s = 0 ∧ w = 6)) (h4 : x / 8 = w) : vp_in (x + v) 64 := by
  obtain ⟨a, ha, rfl⟩ := in_cases h1
  rcases h2 with ⟨z, rfl⟩ | ⟨z, rfl⟩ <;> rcases h3 with ⟨z', rfl⟩ | ⟨z', rfl⟩
  · have := (rank8 a ha).1 h4
    exact (show vp_in (nI a + nI 8) 64 by rw [nI_add]; exact vp_in_nI this (by decide))
  · exact absurd z z'
  · exact absurd z' z
  · have h8 := (rank8 a ha).2 h4
    have e : nI a + (-8) = nI (a - 8) := by
      have := pk_sub h8
      rw [← this, Int32.sub_eq_add_neg]; rfl
    rw [e]; exact vp_in_nI (by omega) (by decide)
theorem inRem {x : Int32} (h : ¬ x < 0) : vp_in (x - x / 64 * 64) 64 := by
  obtain ⟨j, hj, rfl⟩ := nI_of h
  have := pk_rem (a := j) (d := 64) hj (by decide) (by decide)
  rw [show (64 : Int32) = nI 64 from rfl, this]
  exact vp_in_nI (Nat.mod_lt _ (by decide)) (by decide)
theorem inRem2 {x : Int32} (h : ¬ x < 0) : vp_in (x / 64 - x / 64 / 64 * 64) 64 := by
  obtain ⟨j, hj, rfl⟩ := nI_of h
  have e := pk_div (a := j) (d := 64) hj (by decide) (by decide)
  rw [show (64 : Int32) = nI 64 from rfl, e]
  have := pk_rem (a := j / 64) (d := 64) (by omega) (by decide) (by decide)
  rw [this]
  exact vp_in_nI (Nat.mod_lt _ (by decide)) (by decide)
theorem inKept {x : Int32} {n : Nat} (hm : ∃ k : Nat, k < 600 ∧ x = nI k) (hn : n < 64) : vp_in (64 * x + nI n) 38400 := by
  obtain ⟨k, hk, rfl⟩ := hm
  rw [show (64 : Int32) = nI 64 from rfl, pk_mul, nI_add]
  exact vp_in_nI (by omega) (by decide)
theorem inSt0 {x : Int32} (hm : ∃ k : Nat, k < 600 ∧ x = nI k) : vp_in (5 * x) 3000 := by
  obtain ⟨k, hk, rfl⟩ := hm
  rw [show (5 : Int32) = nI 5 from rfl, pk_mul]
  exact vp_in_nI (by omega) (by decide)
theorem inSt {x v : Int32} (hm : ∃ k : Nat, k < 600 ∧ x = nI k) (j : Nat) (hj : j < 5) (hv : v = nI j) : vp_in (5 * x + v) 3000 := by
  obtain ⟨k, hk, rfl⟩ := hm
  rw [show (5 : Int32) = nI 5 from rfl, pk_mul, hv, nI_add]
  exact vp_in_nI (by omega) (by decide)
theorem inMvL {x y : Int32} (hm : ∃ k : Nat, k ≤ 600 ∧ y = nI k) (h1 : ¬ x < 0) (h2 : x < y) : vp_in x 600 :=
  inMv hm h1 (fun z => by rw [Int32.le_iff_toInt_le] at z; rw [Int32.lt_iff_toInt_lt] at h2; omega)
theorem mdPred {v x : Int32} (hm : ∃ k : Nat, k ≤ 600 ∧ x = nI k) (h : (v = 1 ∧ x = 0) ∨ (v = 0 ∧ ¬ x = 0)) (hc : v ≤ 0) : ∃ k : Nat, k < 600 ∧ x - 1 = nI k := by
  rcases h with ⟨rfl, -⟩ | ⟨-, h⟩
  · exact absurd hc (by decide)
  · obtain ⟨k, hk, rfl⟩ := hm
    cases k with
    | zero => exact absurd rfl h
    | succ k => exact ⟨k, by omega, nI_pred k⟩
