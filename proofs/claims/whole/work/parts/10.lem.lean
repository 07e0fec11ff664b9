theorem inTaken {F : Nat → Int32} {A : Nat → Nat → Int32} {a b : Int32} (hb : vp_in b 64) : vp_in (qX0_squareTaken F A a b) 64 := by
  have key : ∀ v : Int32, vp_in (qX0_squareTaken_j30 F A b v) 64 := by
    intro v
    unfold qX0_squareTaken_j30
    by_cases h1 : v = 0
    · rw [if_pos h1]; exact hb
    · rw [if_neg h1]
      by_cases h2 : qX0_canBeTakenInPassing F A b = 0
      · rw [if_pos h2]; exact hb
      · rw [if_neg h2]
        unfold qX0_canBeTakenInPassing at h2
        by_cases h3 : ¬ b = F 3
        · rw [if_pos h3] at h2; exact absurd rfl h2
        · rw [if_neg h3] at h2
          by_cases h4 : qX0_isFree F A b = 0
          · rw [if_pos h4] at h2; exact absurd rfl h2
          · rw [if_neg h4] at h2
            by_cases h5 : qX0_holds F A (qX0_squareBehind F A b) (qX0_pieceOf 1 (qX0_otherThan (F 1))) = 0
            · rw [if_pos h5] at h2; exact absurd rfl h2
            · unfold qX0_holds at h5
              by_cases h6 : qX0_isSquare (qX0_squareBehind F A b) = 0
              · rw [if_pos h6] at h5; exact absurd rfl h5
              · exact inSq h6
  unfold qX0_squareTaken
  (repeat' split) <;> exact key _
