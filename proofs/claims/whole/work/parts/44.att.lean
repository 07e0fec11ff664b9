/-! The two sides' attacks: the same for every pair of squares. -/
set_option maxRecDepth 100000 in
theorem geo3 : ∀ a, a < 64 → ∀ b, b < 64 → alN a b = true → Int32.toNatClampNeg (mxI (abI (qX0_fileOf (nI b) - qX0_fileOf (nI a))) (abI (qX0_rankOf (nI b) - qX0_rankOf (nI a)))) = stN a b ∧ ∀ n, n < stN a b - 1 → nI a + nI (n + 1) * (qJ6_compare_7cf53 (qX0_fileOf (nI b) - qX0_fileOf (nI a)) 0 + 8 * qJ6_compare_7cf53 (qX0_rankOf (nI b) - qX0_rankOf (nI a)) 0) = nI (lnN a b n) := by decide +kernel
set_option maxRecDepth 100000 in
theorem ab0 : ∀ a, a < 64 → ∀ b, b < 64 → abI (qX0_fileOf (nI b) - qX0_fileOf (nI a)) = nI (afN a b) ∧ abI (qX0_rankOf (nI b) - qX0_rankOf (nI a)) = nI (arN a b) := by decide +kernel
set_option maxRecDepth 100000 in
theorem pw0 : ∀ a, a < 64 → ∀ b, b < 64 → qX0_pawnAttacks 0 (nI a) (nI b) = (if ¬ nI (afN a b) = 1 then 0 else (if ¬ ((nI b / 8) - (nI a / 8)) = 1 then 0 else 1)) ∧ qX0_pawnAttacks 1 (nI a) (nI b) = (if ¬ nI (afN a b) = 1 then 0 else (if ¬ ((nI b / 8) - (nI a / 8)) = -1 then 0 else 1)) := by decide +kernel
theorem ite3 {α : Type} {c d : Prop} {i : Decidable c} {j : Decidable d} (f : Int32 → α) : (@ite _ c i (@ite _ d j (f 0) (f (-1))) (f 1)) = f (@ite _ c i (@ite _ d j 0 (-1)) 1) := by
  by_cases hc : c
  · rw [if_pos hc, if_pos hc]
    by_cases hd : d
    · rw [if_pos hd, if_pos hd]
    · rw [if_neg hd, if_neg hd]
  · rw [if_neg hc, if_neg hc]
/-- whether the squares on the way from a to b are empty, k of them from the one behind n + 1 steps -/
def opn (bd : Nat → Int32) (a b : Nat) : Nat → Nat → Int32
  | 0, _ => 1
  | k + 1, n => if bd (lnN a b n) = 0 then opn bd a b k (n + 1) else 0
theorem fr_0 {F : Nat → Int32} {A : Nat → Nat → Int32} {x2 x3 x4 : Int32} : ∀ (k n : Nat) (x6 : Int32), qX1_isFree_w79 F A x2 x3 x4 k n 0 x6 = 0 := by
  intro k
  induction k with
  | zero => intro n x6; rfl
  | succ k ih => intro n x6; rw [qX1_isFree_w79, if_pos rfl]; exact ih _ _
theorem fr_w {F : Nat → Int32} {A : Nat → Nat → Int32} {a b : Nat} (ha : a < 64) (hb : b < 64) (hal : alN a b = true) : ∀ (k n : Nat), n + k = stN a b - 1 → qX1_isFree_w79 F A (nI b) (dfS (nI b - nI b / 8 * 8) (nI a - nI a / 8 * 8)) (dfS (nI b / 8) (nI a / 8)) k n 1 (nI (lnN a b n)) = opn (A 1) a b k n := by
  intro k
  induction k with
  | zero => intro n hn; rfl
  | succ k ih =>
    intro n hn
    obtain ⟨g1, g2, g3⟩ := geo2 a ha b hb hal n (by omega)
    rw [qX1_isFree_w79, opn, if_neg (show ¬ (1 : Int32) = 0 by decide), nI_clamp (by omega)]
    unfold qX1_isFree_j105
    by_cases c : A 1 (lnN a b n) = 0
    · have nc : ¬ ¬ A 1 (lnN a b n) = 0 := fun z => z c
      rw [if_neg nc, if_pos c, g1]; exact ih _ (by omega)
    · rw [if_pos c, if_neg c]; exact fr_0 _ _ _
theorem fr_eq {F : Nat → Int32} {A : Nat → Nat → Int32} {a b : Nat} (ha : a < 64) (hb : b < 64) (hal : alN a b = true) : qX1_isFree F A (nI a) (nI b) = opn (A 1) a b (stN a b - 1) 0 := by
  have e1 : qX1_isFree F A (nI a) (nI b) = qX1_isFree_j31 F A (nI a) (nI b) (dfS (nI b - nI b / 8 * 8) (nI a - nI a / 8 * 8)) := by
    unfold qX1_isFree dfS; exact ite3 (fun z => qX1_isFree_j31 F A (nI a) (nI b) z)
  have e2 : ∀ z : Int32, qX1_isFree_j31 F A (nI a) (nI b) z = qX1_isFree_j63 F A (nI a) (nI b) z (dfS (nI b / 8) (nI a / 8)) := by
    intro z
    unfold qX1_isFree_j31 dfS; exact ite3 (fun y => qX1_isFree_j63 F A (nI a) (nI b) z y)
  rw [e1, e2]
  unfold qX1_isFree_j63
  rw [(geo1 a ha b hb hal).1, geoI ha hb]
  exact fr_w ha hb hal _ _ (by omega)
theorem isf {F : Nat → Int32} {A : Nat → Nat → Int32} {n : Nat} (h : n < 64) : qX0_isFree F A (nI n) = if A 0 n = 0 then 1 else 0 := by
  unfold qX0_isFree
  rw [if_neg (sqOf h), nI_clamp (by omega)]
  by_cases c : A 0 n = 0
  · have nc : ¬ ¬ A 0 n = 0 := fun z => z c
    rw [if_neg nc, if_pos c]
  · rw [if_pos c, if_neg c]
theorem op_w {F : Nat → Int32} {A : Nat → Nat → Int32} {a b : Nat} {x5 x6 : Int32} (hg : ∀ n, n < stN a b - 1 → nI a + nI (n + 1) * x5 = nI (lnN a b n)) (h64 : ∀ n, n < stN a b - 1 → lnN a b n < 64) : ∀ (k n : Nat), n + k = stN a b - 1 → qX0_isOpen_w55 F A (nI a) x5 x6 k (n + 1) = opn (A 0) a b k n := by
  intro k
  induction k with
  | zero => intro n hn; rfl
  | succ k ih =>
    intro n hn
    rw [qX0_isOpen_w55, opn, hg n (by omega), isf (h64 n (by omega))]
    by_cases c : A 0 (lnN a b n) = 0
    · rw [if_pos c, if_pos (show ¬ (1 : Int32) = 0 by decide), if_pos c]; exact ih _ (by omega)
    · have n0 : ¬ ¬ (0 : Int32) = 0 := fun z => z rfl
      rw [if_neg c, if_neg n0, if_neg c]
theorem op_eq {F : Nat → Int32} {A : Nat → Nat → Int32} {a b : Nat} (ha : a < 64) (hb : b < 64) (hal : alN a b = true) : qX0_isOpen F A (nI a) (nI b) = opn (A 0) a b (stN a b - 1) 0 := by
  obtain ⟨g1, g2⟩ := geo3 a ha b hb hal
  unfold qX0_isOpen
  rw [g1]
  exact op_w g2 (fun n hn => (geo2 a ha b hb hal n hn).2.2) _ 0 (by omega)
theorem of_eq {F0 F1 : Nat → Int32} {A0 A1 : Nat → Nat → Int32} {a b : Nat} (hbd : A0 0 = A1 1) (ha : a < 64) (hb : b < 64) (hal : alN a b = true) : qX0_isOpen F0 A0 (nI a) (nI b) = qX1_isFree F1 A1 (nI a) (nI b) := by
  rw [op_eq ha hb hal, fr_eq ha hb hal, hbd]
theorem kn_t : ∀ w, w < 8 → ∀ h, h < 8 → (if ¬ (nI w * nI h) = 2 then (0 : Int32) else 1) = (if ¬ nI w = 1 then (if ¬ nI w = 2 then 0 else (if ¬ nI h = 1 then 0 else 1)) else (if nI h = 2 then 1 else (if ¬ nI w = 2 then 0 else (if ¬ nI h = 1 then 0 else 1)))) ∧ (if 1 < nI w then (0 : Int32) else (if 1 < nI h then 0 else 1)) = (if 2 ≤ nI w then 0 else (if 2 ≤ nI h then 0 else 1)) := by decide +kernel
theorem ty_cases : ∀ q, q < 13 → (q = 0 ∧ qX1_kindOf (nI q) = 0 ∧ qX1_sideOf (nI q) = -1) ∨ (¬ q = 0 ∧ (qX1_sideOf (nI q) = 0 ∨ qX1_sideOf (nI q) = 1) ∧ (qX1_kindOf (nI q) = 1 ∨ qX1_kindOf (nI q) = 2 ∨ qX1_kindOf (nI q) = 3 ∨ qX1_kindOf (nI q) = 4 ∨ qX1_kindOf (nI q) = 5 ∨ qX1_kindOf (nI q) = 6)) := by decide +kernel
