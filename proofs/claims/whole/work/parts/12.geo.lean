/-! The lines of the board, by numbers: squares a, b of 0 .. 63; how far apart by files and ranks; the squares on the way. -/
def afN (a b : Nat) : Nat := if a % 8 < b % 8 then b % 8 - a % 8 else a % 8 - b % 8
def arN (a b : Nat) : Nat := if a / 8 < b / 8 then b / 8 - a / 8 else a / 8 - b / 8
def alN (a b : Nat) : Bool := !(Nat.beq a b) && (Nat.beq (afN a b) 0 || Nat.beq (arN a b) 0 || Nat.beq (afN a b) (arN a b))
def stN (a b : Nat) : Nat := if afN a b < arN a b then arN a b else afN a b
/-- the square behind n + 1 steps from a to b -/
def lnN (a b n : Nat) : Nat :=
  let u := a + 9 * (n + 1)
  let v := if a / 8 < b / 8 then u + 8 * (n + 1) else if b / 8 < a / 8 then u - 8 * (n + 1) else u
  let w := if a % 8 < b % 8 then v + (n + 1) else if b % 8 < a % 8 then v - (n + 1) else v
  w - 9 * (n + 1)
def dfS (x y : Int32) : Int32 := if x ≤ y then (if y ≤ x then 0 else (-1)) else 1
def stI (x y : Int32) : Nat := stN (Int32.toNatClampNeg x) (Int32.toNatClampNeg y) - 1
set_option maxRecDepth 100000 in
theorem geo1 : ∀ a, a < 64 → ∀ b, b < 64 → alN a b = true → ((nI a + (8 * dfS (nI b / 8) (nI a / 8))) + dfS (nI b - nI b / 8 * 8) (nI a - nI a / 8 * 8)) = nI (lnN a b 0) ∧ lnN a b (stN a b - 1) = b ∧ 0 < stN a b ∧ stN a b < 8 := by decide +kernel
set_option maxRecDepth 100000 in
theorem geo2 : ∀ a, a < 64 → ∀ b, b < 64 → alN a b = true → ∀ n, n < stN a b - 1 → nI (lnN a b n) + ((8 * dfS (nI b / 8) (nI a / 8)) + dfS (nI b - nI b / 8 * 8) (nI a - nI a / 8 * 8)) = nI (lnN a b (n + 1)) ∧ ¬ lnN a b n = b ∧ lnN a b n < 64 := by decide +kernel
theorem geoI {a b : Nat} (ha : a < 64) (hb : b < 64) : stI (nI a) (nI b) = stN a b - 1 := by
  unfold stI; rw [nI_clamp (by omega), nI_clamp (by omega)]
