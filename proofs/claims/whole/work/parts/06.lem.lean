theorem inSq {x : Int32} (h : ¬ qX0_isSquare x = 0) : vp_in x 64 := by
  unfold qX0_isSquare at h
  by_cases h1 : x < 0
  · rw [if_pos h1] at h; exact absurd rfl h
  · rw [if_neg h1] at h
    by_cases h2 : 64 ≤ x
    · rw [if_pos h2] at h; exact absurd rfl h
    · rw [Int32.lt_iff_toInt_lt, Int32.toInt_zero] at h1
      rw [Int32.le_iff_toInt_le] at h2
      have e : (64 : Int32).toInt = 64 := by decide
      rw [e] at h2
      exact vp_in_iff.mpr ⟨by omega, by omega⟩
theorem in_from (x : Int32) : vp_in (qX0_fromOf x) 64 := pk_andIn x 6 (by decide) (by decide)
theorem in_to (x : Int32) : vp_in (qX0_toOf x) 64 := pk_andIn _ 6 (by decide) (by decide)
theorem cl_lt (x : Int32) : Int32.toNatClampNeg x < 2147483648 := by
  have h := Int32.toInt_lt x
  unfold Int32.toNatClampNeg
  omega
theorem cl_le {x : Int32} {n : Nat} (h : Int32.toNatClampNeg x ≤ n) (hn : n < 2147483648) : x ≤ nI n := by
  rw [Int32.le_iff_toInt_le, nI_toInt (by omega)]
  unfold Int32.toNatClampNeg at h
  omega
theorem cl_nle {x : Int32} {n : Nat} (h : n < Int32.toNatClampNeg x) : ¬ x ≤ nI n := by
  have h2 := Int32.toInt_lt x
  unfold Int32.toNatClampNeg at h
  rw [Int32.le_iff_toInt_le, nI_toInt (by omega)]
  omega
theorem inMv {x y : Int32} (hm : ∃ k : Nat, k ≤ 600 ∧ y = nI k) (h1 : ¬ x < 0) (h2 : ¬ y ≤ x) : vp_in x 600 := by
  obtain ⟨k, hk, rfl⟩ := hm
  rw [Int32.lt_iff_toInt_lt, Int32.toInt_zero] at h1
  rw [Int32.le_iff_toInt_le, nI_toInt (by omega)] at h2
  exact vp_in_iff.mpr ⟨by omega, by omega⟩
theorem b_ite {c : Prop} {d : Decidable c} {x y : Int32} (hx : x = 0 ∨ x = 1) (hy : y = 0 ∨ y = 1) : (@ite _ c d x y) = 0 ∨ (@ite _ c d x y) = 1 := by
  by_cases h : c
  · rw [if_pos h]; exact hx
  · rw [if_neg h]; exact hy
theorem bX0_pawnAttacks (a b c : Int32) : qX0_pawnAttacks a b c = 0 ∨ qX0_pawnAttacks a b c = 1 := by
  unfold qX0_pawnAttacks
  (repeat' split) <;> first | exact Or.inl rfl | exact Or.inr rfl
