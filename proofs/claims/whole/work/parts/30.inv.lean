/-! What ties the class's cells to the reference's: the same position now; for each move that can be taken back the same move, and the class's row for it takes the position behind the move back to the one that the reference has kept. -/
/-- how many of the first n squares have a piece -/
def cnt (bd : Nat → Int32) : Nat → Nat
  | 0 => 0
  | n + 1 => cnt bd n + (if bd n = 0 then 0 else 1)
def Vd (bd : Nat → Int32) (sd rt ps : Int32) : Prop := (∀ j : Nat, ∃ q : Nat, q ≤ 12 ∧ bd j = nI q) ∧ (∀ j : Nat, 64 ≤ j → bd j = 0) ∧ (sd = 0 ∨ sd = 1) ∧ (∃ r : Nat, r ≤ 15 ∧ rt = nI r) ∧ (ps = -1 ∨ ∃ q : Nat, q < 64 ∧ ps = nI q) ∧ cnt bd 64 ≤ 32
/-- the board that is kept at k -/
def sB (A1 : Nat → Nat → Int32) (k : Nat) : Nat → Int32 := fun j => if j < 64 then A1 9 (64 * k + j) else 0
/-- the board behind a move taken back -/
def cbB (sd : Int32) (bd : Nat → Int32) (m t q : Int32) : Nat → Int32 := (qX0_carryBack (fun _ => sd) (fun _ => bd) m t q).2 0
def Lev (A0 A1 : Nat → Nat → Int32) (k : Nat) (bdN : Nat → Int32) (sdN flN : Int32) : Prop :=
  A0 7 k = A1 8 k ∧ vp_in (A0 9 k) 64 ∧ Vd (sB A1 k) (A1 10 (5 * k)) (A1 10 (5 * k + 1)) (A1 10 (5 * k + 2)) ∧ A0 10 k = A1 10 (5 * k + 1) ∧ A0 11 k = A1 10 (5 * k + 2) ∧ A0 12 k = A1 10 (5 * k + 3) ∧
    1 - sdN = A1 10 (5 * k) ∧ (if 1 - sdN = 1 then flN - 1 else flN) = A1 10 (5 * k + 4) ∧ cbB (A1 10 (5 * k)) bdN (A0 7 k) (A0 8 k) (A0 9 k) = sB A1 k
def Inv (F0 : Nat → Int32) (A0 : Nat → Nat → Int32) (F1 : Nat → Int32) (A1 : Nat → Nat → Int32) : Prop :=
  ∃ md : Nat, md ≤ 600 ∧ F0 6 = nI md ∧ F1 7 = nI md ∧ A0 0 = A1 1 ∧ F0 1 = F1 2 ∧ F0 2 = F1 3 ∧ F0 3 = F1 4 ∧ F0 4 = F1 5 ∧ F0 5 = F1 6 ∧ Vd (A1 1) (F1 2) (F1 3) (F1 4) ∧
    ∀ k : Nat, k < md → Lev A0 A1 k (if k + 1 = md then A1 1 else sB A1 (k + 1)) (if k + 1 = md then F1 2 else A1 10 (5 * (k + 1))) (if k + 1 = md then F1 6 else A1 10 (5 * (k + 1) + 4))
theorem Inv.m0 {F0 A0 F1 A1} (h : Inv F0 A0 F1 A1) : ∃ k : Nat, k ≤ 600 ∧ F0 6 = nI k := by
  obtain ⟨md, h1, h2, -⟩ := h; exact ⟨md, h1, h2⟩
theorem Inv.m1 {F0 A0 F1 A1} (h : Inv F0 A0 F1 A1) : ∃ k : Nat, k ≤ 600 ∧ F1 7 = nI k := by
  obtain ⟨md, h1, -, h2, -⟩ := h; exact ⟨md, h1, h2⟩
theorem Inv.q {F0 A0 F1 A1} (h : Inv F0 A0 F1 A1) : ∀ k : Nat, k < 600 → F0 6 = nI (k + 1) → vp_in (A0 9 k) 64 := by
  obtain ⟨md, h1, h2, -, -, -, -, -, -, -, -, h3⟩ := h
  intro k hk6 hk
  rw [h2] at hk
  have e : md = k + 1 := (nI_eq (by omega) (by omega)).mp hk
  exact (h3 k (by omega)).2.1
abbrev tBI : Type := (Nat → Int32) → (Nat → Nat → Int32) → (Nat → Int32) → (Nat → Nat → Int32) → Prop
/-- the world behind a call that may have thrown -/
def aft (u : Int32) (r : tFA) (F : Nat → Int32) (A : Nat → Nat → Int32) : tFA := if u = 0 then r else (F, A)
def foB (u : Int32) (fo : Nat → Int64) (x : Int64) : Nat → Int64 := if u = 0 then vp_updL fo (Int32.toNatClampNeg 0) x else fo
def pb_init : Prop := Inv iF0 iA0 iF1 iA1
def pb_clear : Prop := ∀ F0 A0 F1 A1, Inv F0 A0 F1 A1 → Inv (qX0_clear F0 A0).1 (qX0_clear F0 A0).2 (qX1_clear F1 A1).1 (qX1_clear F1 A1).2
def pb_begin : Prop := ∀ F0 A0 F1 A1, Inv F0 A0 F1 A1 → Inv (qX0_begin F0 A0).1 (qX0_begin F0 A0).2 (qX1_begin F1 A1).1 (qX1_begin F1 A1).2
def pb_put : Prop := ∀ F0 A0 F1 A1 a b, Inv F0 A0 F1 A1 → ((qX0_put F0 A0 a b).1 = 0 ∨ (qX0_put F0 A0 a b).1 = 1 ∨ (qX0_put F0 A0 a b).1 = 2 ∨ (qX0_put F0 A0 a b).1 = 3) ∧ qX1_thrown (qX1_put F1 A1 a b).1 (qX1_put F1 A1 a b).2 = (if (qX0_put F0 A0 a b).1 = 0 then 0 else (if (qX0_put F0 A0 a b).1 = 1 then 1 else (if (qX0_put F0 A0 a b).1 = 2 then 2 else 3))) ∧ Inv (aft (qX0_put F0 A0 a b).1 (qX0_put F0 A0 a b).2 F0 A0).1 (aft (qX0_put F0 A0 a b).1 (qX0_put F0 A0 a b).2 F0 A0).2 (qX1_put F1 A1 a b).1 (qX1_put F1 A1 a b).2
def pb_state : Prop := ∀ F0 A0 F1 A1 a b c, Inv F0 A0 F1 A1 → ((qX0_state F0 A0 a b c).1 = 0 ∨ (qX0_state F0 A0 a b c).1 = 2) ∧ qX1_thrown (qX1_state F1 A1 a b c).1 (qX1_state F1 A1 a b c).2 = (if (qX0_state F0 A0 a b c).1 = 0 then 0 else 1) ∧ Inv (aft (qX0_state F0 A0 a b c).1 (qX0_state F0 A0 a b c).2 F0 A0).1 (aft (qX0_state F0 A0 a b c).1 (qX0_state F0 A0 a b c).2 F0 A0).2 (qX1_state F1 A1 a b c).1 (qX1_state F1 A1 a b c).2
def pb_clocks : Prop := ∀ F0 A0 F1 A1 a b, Inv F0 A0 F1 A1 → ((qX0_clocks F0 A0 a b).1 = 0 ∨ (qX0_clocks F0 A0 a b).1 = 2) ∧ qX1_thrown (qX1_clocks F1 A1 a b).1 (qX1_clocks F1 A1 a b).2 = (if (qX0_clocks F0 A0 a b).1 = 0 then 0 else 1) ∧ Inv (aft (qX0_clocks F0 A0 a b).1 (qX0_clocks F0 A0 a b).2 F0 A0).1 (aft (qX0_clocks F0 A0 a b).1 (qX0_clocks F0 A0 a b).2 F0 A0).2 (qX1_clocks F1 A1 a b).1 (qX1_clocks F1 A1 a b).2
def pb_fits : Prop := ∀ F0 A0 F1 A1 a, Inv F0 A0 F1 A1 → qX0_fits F0 A0 a = (qX1_fits F1 A1 a).1 ∧ Inv F0 A0 (qX1_fits F1 A1 a).2.1 (qX1_fits F1 A1 a).2.2
def pb_make : Prop := ∀ F0 A0 F1 A1 a, Inv F0 A0 F1 A1 → ((qX0_make F0 A0 a).1 = 0 ∨ (qX0_make F0 A0 a).1 = 2 ∨ (qX0_make F0 A0 a).1 = 3) ∧ qX1_thrown (qX1_make F1 A1 a).2.1 (qX1_make F1 A1 a).2.2 = (if (qX0_make F0 A0 a).1 = 0 then 0 else (if (qX0_make F0 A0 a).1 = 2 then 1 else 2)) ∧ ((qX0_make F0 A0 a).1 = 0 → (qX0_make F0 A0 a).2.1 = (qX1_make F1 A1 a).1) ∧ Inv (aft (qX0_make F0 A0 a).1 (qX0_make F0 A0 a).2.2 F0 A0).1 (aft (qX0_make F0 A0 a).1 (qX0_make F0 A0 a).2.2 F0 A0).2 (qX1_make F1 A1 a).2.1 (qX1_make F1 A1 a).2.2
def pb_unmake : Prop := ∀ F0 A0 F1 A1, Inv F0 A0 F1 A1 → ((qX0_unmake F0 A0).1 = 0 ∨ (qX0_unmake F0 A0).1 = 3) ∧ qX1_thrown (qX1_unmake F1 A1).2.1 (qX1_unmake F1 A1).2.2 = (if (qX0_unmake F0 A0).1 = 0 then 0 else 1) ∧ ((qX0_unmake F0 A0).1 = 0 → (qX0_unmake F0 A0).2.1 = (qX1_unmake F1 A1).1) ∧ Inv (aft (qX0_unmake F0 A0).1 (qX0_unmake F0 A0).2.2 F0 A0).1 (aft (qX0_unmake F0 A0).1 (qX0_unmake F0 A0).2.2 F0 A0).2 (qX1_unmake F1 A1).2.1 (qX1_unmake F1 A1).2.2
def pb_at : Prop := ∀ F0 A0 F1 A1 a, Inv F0 A0 F1 A1 → ((qX0_at F0 A0 a).1 = 0 ∨ (qX0_at F0 A0 a).1 = 1) ∧ qX1_thrown (qX1_at F1 A1 a).2.1 (qX1_at F1 A1 a).2.2 = (if (qX0_at F0 A0 a).1 = 0 then 0 else 1) ∧ ((qX0_at F0 A0 a).1 = 0 → (qX0_at F0 A0 a).2 = (qX1_at F1 A1 a).1) ∧ Inv F0 A0 (qX1_at F1 A1 a).2.1 (qX1_at F1 A1 a).2.2
def pb_where : Prop := ∀ F0 A0 F1 A1 a, Inv F0 A0 F1 A1 → qX0_where F0 A0 a = (qX1_where F1 A1 a).1 ∧ Inv F0 A0 (qX1_where F1 A1 a).2.1 (qX1_where F1 A1 a).2.2
def pb_attackers : Prop := ∀ F0 A0 F1 A1 a b, Inv F0 A0 F1 A1 → ((qX0_attackers F0 A0 a b).1 = 0 ∨ (qX0_attackers F0 A0 a b).1 = 1 ∨ (qX0_attackers F0 A0 a b).1 = 2) ∧ qX1_thrown (qX1_attackers F1 A1 a b).2.1 (qX1_attackers F1 A1 a b).2.2 = (if (qX0_attackers F0 A0 a b).1 = 0 then 0 else (if (qX0_attackers F0 A0 a b).1 = 1 then 1 else 2)) ∧ ((qX0_attackers F0 A0 a b).1 = 0 → (qX0_attackers F0 A0 a b).2 = (qX1_attackers F1 A1 a b).1) ∧ Inv F0 A0 (qX1_attackers F1 A1 a b).2.1 (qX1_attackers F1 A1 a b).2.2
def pb_check : Prop := ∀ F0 A0 F1 A1 a, Inv F0 A0 F1 A1 → qX0_check F0 A0 a = (qX1_check F1 A1 a).1 ∧ Inv F0 A0 (qX1_check F1 A1 a).2.1 (qX1_check F1 A1 a).2.2
def pb_key : Prop := ∀ F0 A0 F1 A1, Inv F0 A0 F1 A1 → qX0_key F0 A0 = (qX1_key F1 A1).1 ∧ Inv F0 A0 (qX1_key F1 A1).2.1 (qX1_key F1 A1).2.2
def pb_move : Prop := ∀ F0 A0 F1 A1 a, Inv F0 A0 F1 A1 → qX0_move F0 A0 a = (qX1_move F1 A1 a).1 ∧ Inv F0 A0 (qX1_move F1 A1 a).2.1 (qX1_move F1 A1 a).2.2
def pb_look : Prop := ∀ F0 A0 F1 A1 a, Inv F0 A0 F1 A1 → qX0_look F0 A0 a = (qX1_look F1 A1 a).1 ∧ Inv F0 A0 (qX1_look F1 A1 a).2.1 (qX1_look F1 A1 a).2.2
