theorem ne_ite {c : Prop} {d : Decidable c} {x y : Int32} {P : Prop} (h : ¬ (@ite _ c d x y) = 0) (f : c → ¬ x = 0 → P) (g : ¬ c → ¬ y = 0 → P) : P := by
  by_cases hc : c
  · rw [if_pos hc] at h; exact f hc h
  · rw [if_neg hc] at h; exact g hc h
theorem keep_w {F : Nat → Int32} {x1 : Int32} : ∀ (k n : Nat) (A : Nat → Nat → Int32), (qX1_keep_w2 F x1 k n A).1 = uf F 7 (F 7 + 1) := by
  intro k
  induction k with
  | zero => intro n A; rfl
  | succ k ih => intro n A; rw [qX1_keep_w2]; exact ih _ _
theorem keep_fst {F : Nat → Int32} {A : Nat → Nat → Int32} {x : Int32} : (qX1_keep F A x).1 = uf F 7 (F 7 + 1) := by
  unfold qX1_keep; exact keep_w _ _ _
theorem keep_2 {F : Nat → Int32} {A : Nat → Nat → Int32} {x : Int32} : (qX1_keep F A x).1 2 = F 2 := by
  rw [keep_fst]; rfl
theorem free_wF {F F' : Nat → Int32} {A : Nat → Nat → Int32} {x2 x3 x4 : Int32} : ∀ (k n : Nat) (x5 x6 : Int32), qX1_isFree_w79 F A x2 x3 x4 k n x5 x6 = qX1_isFree_w79 F' A x2 x3 x4 k n x5 x6 := by
  intro k
  induction k with
  | zero => intro n x5 x6; rfl
  | succ k ih => intro n x5 x6; simp only [qX1_isFree_w79, qX1_isFree_j105, ih]
theorem free_F {F F' : Nat → Int32} {A : Nat → Nat → Int32} {a b : Int32} : qX1_isFree F A a b = qX1_isFree F' A a b := by
  simp only [qX1_isFree, qX1_isFree_j31, qX1_isFree_j63, free_wF (F := F) (F' := F')]
theorem att_F {F F' : Nat → Int32} {A : Nat → Nat → Int32} {a b : Int32} : qX1_attacks F A a b = qX1_attacks F' A a b := by
  simp only [qX1_attacks, qX1_attacks_j167, qX1_attacks_j181, qX1_attacks_j193, qX1_attacks_j203, qX1_attacks_j110, qX1_attacks_j84, free_F (F := F) (F' := F')]
theorem mvIn {F : Nat → Int32} {A : Nat → Nat → Int32} {x : Int32} (h : ¬ qX1_isMove F A x = 0) : ¬ x < 0 ∧ ∃ s0 s1 : Int32, ¬ qX1_isMove_j142 F A (x - x / 64 * 64) (x / 64 - x / 64 / 64 * 64) s0 s1 = 0 := by
  simp only [qX1_isMove, qX1_isMove_j73, qX1_isMove_j81] at h
  by_cases h0 : x < 0
  · rw [if_pos h0] at h; exact absurd rfl h
  · refine ⟨h0, ?_⟩
    rw [if_neg h0] at h
    repeat' (first | with_reducible exact absurd rfl h | with_reducible exact ⟨_, _, h⟩ | (with_reducible refine ne_ite h (fun _ h => ?_) (fun _ h => ?_)))
theorem casIn {F : Nat → Int32} {A : Nat → Nat → Int32} {a b : Int32} (h : ¬ qX1_castles F A a b = 0) : (a = 4 ∨ a = 60) ∧ (b - a = 2 ∨ b - a = -2) := by
  have key : ∀ s0 : Int32, ¬ qX1_castles_j13 F A a b s0 = 0 → a = s0 ∧ (b - a = 2 ∨ b - a = -2) := by
    intro s0 h
    unfold qX1_castles_j13 at h
    by_cases h1 : a = s0
    · refine ⟨h1, ?_⟩
      rw [if_neg (fun z => z h1)] at h
      by_cases h2 : b - a = 2
      · exact Or.inl h2
      · rw [if_neg h2] at h
        by_cases h3 : b - a = -2
        · exact Or.inr h3
        · rw [if_neg h3] at h; exact absurd rfl h
    · rw [if_pos h1] at h; exact absurd rfl h
  unfold qX1_castles at h
  by_cases h1 : F 2 = 0
  · rw [if_neg (fun z => z h1)] at h
    exact ⟨Or.inl (key _ h).1, (key _ h).2⟩
  · rw [if_pos h1] at h
    exact ⟨Or.inr (key _ h).1, (key _ h).2⟩
theorem rookIn {F F' : Nat → Int32} {A : Nat → Nat → Int32} {x y2 y3 p : Int32} (h : ¬ qX1_isMove F A x = 0) (e2 : y2 = x - x / 64 * 64) (e3 : y3 = x / 64 - x / 64 / 64 * 64) (e5 : p = A 1 (Int32.toNatClampNeg y2)) (hc : qX1_kindOf p = 6 ∧ qX1_attacks F' A y2 y3 = 0) : (y2 = 4 ∨ y2 = 60) ∧ (y3 - y2 = 2 ∨ y3 - y2 = -2) := by
  obtain ⟨-, s0, s1, h⟩ := mvIn h
  rw [← e2, ← e3] at h
  unfold qX1_isMove_j142 at h
  obtain ⟨hk, ha⟩ := hc
  rw [e5] at hk
  by_cases h1 : s1 = s0
  · rw [if_pos h1, if_pos (show ¬ qX1_kindOf (A 1 (Int32.toNatClampNeg y2)) = 1 by rw [hk]; decide), if_neg (fun z => z (by rw [att_F (F' := F')]; exact ha)), if_neg (fun z => z hk)] at h
    by_cases h2 : qX1_castles F A y2 y3 = 0
    · rw [if_pos h2] at h; exact absurd rfl h
    · exact casIn h2
  · rw [if_neg h1] at h; exact absurd rfl h
theorem inRook {y2 y3 v : Int32} (h : (y2 = 4 ∨ y2 = 60) ∧ (y3 - y2 = 2 ∨ y3 - y2 = -2)) (h2 : v = y2 + 3 ∨ v = y2 - 4) : vp_in v 64 := inCorner h.1 h2
theorem mdLt {x : Int32} (hm : ∃ k : Nat, k ≤ 600 ∧ x = nI k) (h : ¬ x = 600) : ∃ k : Nat, k < 600 ∧ x = nI k := by
  obtain ⟨k, hk, rfl⟩ := hm
  refine ⟨k, ?_, rfl⟩
  rcases Nat.lt_or_ge k 600 with q | q
  · exact q
  · exact absurd (by rw [show k = 600 by omega]; rfl) h
theorem mid_ok : ∀ a, a < 64 → ∀ b, b < 64 → (nI a + nI b) / 2 = nI ((a + b) / 2) := by decide +kernel
theorem inMid {x y : Int32} (h1 : vp_in x 64) (h2 : vp_in y 64) : vp_in ((x + y) / 2) 64 := by
  obtain ⟨a, ha, rfl⟩ := in_cases h1
  obtain ⟨b, hb, rfl⟩ := in_cases h2
  rw [mid_ok a ha b hb]
  exact vp_in_nI (by omega) (by decide)
theorem inBeh {F : Nat → Int32} {A : Nat → Nat → Int32} {a b v : Int32} (h : ¬ qX1_takesPassing F A a b = 0) (hv : (F 2 = 0 ∧ v = b - 8) ∨ (¬ F 2 = 0 ∧ v = b + 8)) : vp_in v 64 := by
  have key : ¬ qX1_takesPassing_j18 F A a b v = 0 := by
    unfold qX1_takesPassing at h
    rcases hv with ⟨z, rfl⟩ | ⟨z, rfl⟩
    · rw [if_neg (fun q => q z)] at h; exact h
    · rw [if_pos z] at h; exact h
  unfold qX1_takesPassing_j18 at key
  by_cases h1 : b = F 4
  · rw [if_neg (fun q => q h1)] at key
    by_cases h2 : A 1 (Int32.toNatClampNeg b) = 0
    · rw [if_neg (fun q => q h2)] at key
      by_cases h3 : qX1_attacks F A a b = 0
      · rw [if_pos h3] at key; exact absurd rfl key
      · rw [if_neg h3] at key
        by_cases h4 : qX1_isSquare v = 0
        · rw [if_pos h4] at key; exact absurd rfl key
        · exact inSq1 h4
    · rw [if_pos h2] at key; exact absurd rfl key
  · rw [if_pos h1] at key; exact absurd rfl key
