/-! How many bits of a long are set: the JDK's sums of pairs, of nibbles, of bytes, over the word as a row of bytes. -/
def pk8 : List Nat → Nat
  | [] => 0
  | b :: l => b + 256 * pk8 l
def mk8 (m : Nat) : List Nat → Nat
  | [] => 0
  | _ :: l => m + 256 * mk8 m l
theorem and_p {a m X M : Nat} (ha : a < 256) (hm : m < 256) : (a + 256 * X) &&& (m + 256 * M) = (a &&& m) + 256 * (X &&& M) := by
  have h1 : a < 2 ^ 8 := ha
  have h2 : m < 2 ^ 8 := hm
  have h3 : a &&& m < 2 ^ 8 := Nat.and_lt_two_pow a h2
  rw [show (256 : Nat) = 2 ^ 8 from rfl, Nat.add_comm a, Nat.add_comm m, Nat.add_comm (a &&& m)]
  apply Nat.eq_of_testBit_eq
  intro i
  rw [Nat.testBit_and, Nat.testBit_two_pow_mul_add _ h1, Nat.testBit_two_pow_mul_add _ h2, Nat.testBit_two_pow_mul_add _ h3]
  by_cases c : i < 8
  · rw [if_pos c, if_pos c, if_pos c, Nat.testBit_and]
  · rw [if_neg c, if_neg c, if_neg c, Nat.testBit_and]
def f1 (b : Nat) : Nat := (b / 2) &&& 85
def f2 (b : Nat) : Nat := (b / 4) &&& 51
def s1 (b : Nat) : Nat := b - f1 b
def s2 (b : Nat) : Nat := (b &&& 51) + f2 b
def s3 (b : Nat) : Nat := (b + b / 16) &&& 15
theorem f1_t : ∀ b, b < 256 → ∀ t, t < 2 → ((b / 2 + 128 * t) &&& 85) = f1 b ∧ f1 b ≤ b ∧ s1 b < 256 := by decide +kernel
theorem f2_t : ∀ b, b < 256 → ∀ t, t < 4 → ((b / 4 + 64 * t) &&& 51) = f2 b ∧ s2 b < 256 := by decide +kernel
theorem f3_t : ∀ b, b < 69 → ∀ t, t < 5 → ((b + b / 16 + 16 * t) &&& 15) = s3 b := by decide +kernel
theorem an1 (l : List Nat) (h : ∀ b ∈ l, b < 256) : (pk8 l / 2) &&& mk8 85 l = pk8 (l.map f1) := by
  induction l with
  | nil => rfl
  | cons b l ih =>
    have hb := h b List.mem_cons_self
    have ih := ih (fun x hx => h x (List.mem_cons_of_mem _ hx))
    show ((b + 256 * pk8 l) / 2) &&& (85 + 256 * mk8 85 l) = f1 b + 256 * pk8 (l.map f1)
    have e : (b + 256 * pk8 l) / 2 = (b / 2 + 128 * (pk8 l % 2)) + 256 * (pk8 l / 2) := by omega
    rw [e, and_p (by omega) (by decide), ih, (f1_t b hb _ (Nat.mod_lt _ (by decide))).1]
theorem an2 (l : List Nat) (h : ∀ b ∈ l, b < 256) : (pk8 l / 4) &&& mk8 51 l = pk8 (l.map f2) := by
  induction l with
  | nil => rfl
  | cons b l ih =>
    have hb := h b List.mem_cons_self
    have ih := ih (fun x hx => h x (List.mem_cons_of_mem _ hx))
    show ((b + 256 * pk8 l) / 4) &&& (51 + 256 * mk8 51 l) = f2 b + 256 * pk8 (l.map f2)
    have e : (b + 256 * pk8 l) / 4 = (b / 4 + 64 * (pk8 l % 4)) + 256 * (pk8 l / 4) := by omega
    rw [e, and_p (by omega) (by decide), ih, (f2_t b hb _ (Nat.mod_lt _ (by decide))).1]
theorem an3 (l : List Nat) (h : ∀ b ∈ l, b < 256) : pk8 l &&& mk8 51 l = pk8 (l.map (fun b => b &&& 51)) := by
  induction l with
  | nil => rfl
  | cons b l ih =>
    have hb := h b List.mem_cons_self
    have ih := ih (fun x hx => h x (List.mem_cons_of_mem _ hx))
    show (b + 256 * pk8 l) &&& (51 + 256 * mk8 51 l) = (b &&& 51) + 256 * pk8 (l.map (fun b => b &&& 51))
    rw [and_p hb (by decide), ih]
theorem sb1 (l : List Nat) (h : ∀ b ∈ l, b < 256) : pk8 (l.map f1) ≤ pk8 l ∧ pk8 l - pk8 (l.map f1) = pk8 (l.map s1) := by
  induction l with
  | nil => exact ⟨Nat.le_refl _, rfl⟩
  | cons b l ih =>
    have hb := h b List.mem_cons_self
    obtain ⟨i1, i2⟩ := ih (fun x hx => h x (List.mem_cons_of_mem _ hx))
    have e := (f1_t b hb 0 (by decide)).2.1
    show f1 b + 256 * pk8 (l.map f1) ≤ b + 256 * pk8 l ∧ (b + 256 * pk8 l) - (f1 b + 256 * pk8 (l.map f1)) = (b - f1 b) + 256 * pk8 (l.map s1)
    omega
theorem ad2 (l : List Nat) : pk8 (l.map (fun b => b &&& 51)) + pk8 (l.map f2) = pk8 (l.map s2) := by
  induction l with
  | nil => rfl
  | cons b l ih =>
    show ((b &&& 51) + 256 * pk8 (l.map (fun b => b &&& 51))) + (f2 b + 256 * pk8 (l.map f2)) = ((b &&& 51) + f2 b) + 256 * pk8 (l.map s2)
    omega
theorem md16 (l : List Nat) (h : ∀ b ∈ l, b % 16 < 5) : pk8 l % 16 < 5 := by
  cases l with
  | nil => decide
  | cons b l =>
    have hb := h b List.mem_cons_self
    show (b + 256 * pk8 l) % 16 < 5
    omega
theorem an4 (l : List Nat) (h : ∀ b ∈ l, b < 69) (h2 : ∀ b ∈ l, b % 16 < 5) : (pk8 l + pk8 l / 16) &&& mk8 15 l = pk8 (l.map s3) := by
  induction l with
  | nil => rfl
  | cons b l ih =>
    have hb := h b List.mem_cons_self
    have ih := ih (fun x hx => h x (List.mem_cons_of_mem _ hx)) (fun x hx => h2 x (List.mem_cons_of_mem _ hx))
    have hm := md16 l (fun x hx => h2 x (List.mem_cons_of_mem _ hx))
    show ((b + 256 * pk8 l) + (b + 256 * pk8 l) / 16) &&& (15 + 256 * mk8 15 l) = s3 b + 256 * pk8 (l.map s3)
    have e : (b + 256 * pk8 l) + (b + 256 * pk8 l) / 16 = (b + b / 16 + 16 * (pk8 l % 16)) + 256 * (pk8 l + pk8 l / 16) := by omega
    rw [e, and_p (by omega) (by decide), ih, f3_t b hb _ hm]
def pcN : Nat → Nat → Nat
  | 0, _ => 0
  | k + 1, X => X % 2 + pcN k (X / 2)
theorem tb : ∀ b, b < 256 → s1 b < 256 ∧ s2 (s1 b) < 69 ∧ s2 (s1 b) % 16 < 5 ∧ s3 (s2 (s1 b)) = pcN 8 b ∧ pcN 8 b < 9 := by decide +kernel
def by8 (X : Nat) : List Nat := [X % 256, X / 256 % 256, X / 65536 % 256, X / 16777216 % 256, X / 4294967296 % 256, X / 1099511627776 % 256, X / 281474976710656 % 256, X / 72057594037927936 % 256]
theorem by8_pk {X : Nat} (h : X < 2 ^ 64) : pk8 (by8 X) = X := by
  show X % 256 + 256 * (X / 256 % 256 + 256 * (X / 65536 % 256 + 256 * (X / 16777216 % 256 + 256 * (X / 4294967296 % 256 + 256 * (X / 1099511627776 % 256 + 256 * (X / 281474976710656 % 256 + 256 * (X / 72057594037927936 % 256 + 256 * 0))))))) = X
  omega
theorem by8_lt {X : Nat} : ∀ b ∈ by8 X, b < 256 := by
  intro b hb
  simp only [by8, List.mem_cons, List.not_mem_nil, or_false] at hb
  rcases hb with rfl | rfl | rfl | rfl | rfl | rfl | rfl | rfl <;> omega
theorem dv8 (B a q : Nat) (h : a < B) : (a + B * q) / B = q := by
  rw [Nat.add_mul_div_left _ _ (by omega), Nat.div_eq_of_lt h, Nat.zero_add]
theorem fin8 {w0 w1 w2 w3 w4 w5 w6 w7 W : Nat} (h0 : w0 < 9) (h1 : w1 < 9) (h2 : w2 < 9) (h3 : w3 < 9) (h4 : w4 < 9) (h5 : w5 < 9) (h6 : w6 < 9) (h7 : w7 < 9) (hW : W = w0 + 256 * (w1 + 256 * (w2 + 256 * (w3 + 256 * (w4 + 256 * (w5 + 256 * (w6 + 256 * (w7 + 256 * 0)))))))) :
    ((W + W / 256) + (W + W / 256) / 65536 + ((W + W / 256) + (W + W / 256) / 65536) / 4294967296) % 128 = w0 + w1 + w2 + w3 + w4 + w5 + w6 + w7 ∧ (W + W / 256) + (W + W / 256) / 65536 + ((W + W / 256) + (W + W / 256) / 65536) / 4294967296 < 2 ^ 63 := by
  subst hW
  rw [dv8 256 w0 _ (by omega)]
  have e2 : ∀ R : Nat, R = w1 + 256 * (w2 + 256 * (w3 + 256 * (w4 + 256 * (w5 + 256 * (w6 + 256 * (w7 + 256 * 0)))))) → (w0 + 256 * R) + R = ((w0 + w1) + 256 * (w1 + w2)) + 65536 * ((w2 + w3) + 256 * ((w3 + w4) + 256 * ((w4 + w5) + 256 * ((w5 + w6) + 256 * ((w6 + w7) + 256 * w7))))) := by
    intro R hR; omega
  rw [e2 _ rfl, dv8 65536 _ _ (by omega)]
  have e3 : ((w0 + w1) + 256 * (w1 + w2)) + 65536 * ((w2 + w3) + 256 * ((w3 + w4) + 256 * ((w4 + w5) + 256 * ((w5 + w6) + 256 * ((w6 + w7) + 256 * w7))))) + ((w2 + w3) + 256 * ((w3 + w4) + 256 * ((w4 + w5) + 256 * ((w5 + w6) + 256 * ((w6 + w7) + 256 * w7))))) = ((w0 + w1 + w2 + w3) + 256 * ((w1 + w2 + w3 + w4) + 256 * ((w2 + w3 + w4 + w5) + 256 * (w3 + w4 + w5 + w6)))) + 4294967296 * ((w4 + w5 + w6 + w7) + 256 * ((w5 + w6 + w7) + 256 * ((w6 + w7) + 256 * w7))) := by omega
  rw [e3, dv8 4294967296 _ _ (by omega)]
  have e4 : ((w0 + w1 + w2 + w3) + 256 * ((w1 + w2 + w3 + w4) + 256 * ((w2 + w3 + w4 + w5) + 256 * (w3 + w4 + w5 + w6)))) + 4294967296 * ((w4 + w5 + w6 + w7) + 256 * ((w5 + w6 + w7) + 256 * ((w6 + w7) + 256 * w7))) + ((w4 + w5 + w6 + w7) + 256 * ((w5 + w6 + w7) + 256 * ((w6 + w7) + 256 * w7))) = (w0 + w1 + w2 + w3 + w4 + w5 + w6 + w7) + 128 * (2 * (((w1 + w2 + w3 + w4) + 256 * ((w2 + w3 + w4 + w5) + 256 * (w3 + w4 + w5 + w6))) + 16777216 * ((w4 + w5 + w6 + w7) + 256 * ((w5 + w6 + w7) + 256 * ((w6 + w7) + 256 * w7))) + ((w5 + w6 + w7) + 256 * ((w6 + w7) + 256 * w7)))) := by omega
  rw [e4, Nat.add_mul_mod_self_left, Nat.mod_eq_of_lt (by omega)]
  exact ⟨rfl, by omega⟩
theorem pc_sp (k X : Nat) : pcN (k + 8) X = pcN 8 (X % 256) + pcN k (X / 256) := by
  show X % 2 + (X / 2 % 2 + (X / 2 / 2 % 2 + (X / 2 / 2 / 2 % 2 + (X / 2 / 2 / 2 / 2 % 2 + (X / 2 / 2 / 2 / 2 / 2 % 2 + (X / 2 / 2 / 2 / 2 / 2 / 2 % 2 + (X / 2 / 2 / 2 / 2 / 2 / 2 / 2 % 2 + pcN k (X / 2 / 2 / 2 / 2 / 2 / 2 / 2 / 2)))))))) = (X % 256 % 2 + (X % 256 / 2 % 2 + (X % 256 / 2 / 2 % 2 + (X % 256 / 2 / 2 / 2 % 2 + (X % 256 / 2 / 2 / 2 / 2 % 2 + (X % 256 / 2 / 2 / 2 / 2 / 2 % 2 + (X % 256 / 2 / 2 / 2 / 2 / 2 / 2 % 2 + (X % 256 / 2 / 2 / 2 / 2 / 2 / 2 / 2 % 2 + 0)))))))) + pcN k (X / 256)
  rw [show X / 2 / 2 / 2 / 2 / 2 / 2 / 2 / 2 = X / 256 by omega]
  omega
theorem pc_64 {X : Nat} (h : X < 2 ^ 64) : pcN 64 X = pcN 8 (X % 256) + pcN 8 (X / 256 % 256) + pcN 8 (X / 65536 % 256) + pcN 8 (X / 16777216 % 256) + pcN 8 (X / 4294967296 % 256) + pcN 8 (X / 1099511627776 % 256) + pcN 8 (X / 281474976710656 % 256) + pcN 8 (X / 72057594037927936 % 256) := by
  rw [pc_sp 56, pc_sp 48, pc_sp 40, pc_sp 32, pc_sp 24, pc_sp 16, pc_sp 8]
  rw [Nat.div_div_eq_div_mul, Nat.div_div_eq_div_mul, Nat.div_div_eq_div_mul, Nat.div_div_eq_div_mul, Nat.div_div_eq_div_mul, Nat.div_div_eq_div_mul]
  rw [show X / 72057594037927936 % 256 = X / 72057594037927936 by omega]
  simp only [Nat.add_assoc]
theorem mk_map (m : Nat) (f : Nat → Nat) (l : List Nat) : mk8 m (l.map f) = mk8 m l := by
  induction l with
  | nil => rfl
  | cons b l ih => show m + 256 * mk8 m (l.map f) = m + 256 * mk8 m l; rw [ih]
theorem mk_by (m X : Nat) : mk8 m (by8 X) = m * 72340172838076673 := by
  unfold by8
  simp only [mk8]
  omega
/-- the sums, by numbers -/
theorem bcN {X : Nat} (h : X < 2 ^ 64) :
    let x1 := X - ((X / 2) &&& 6148914691236517205)
    let x2 := (x1 &&& 3689348814741910323) + ((x1 / 4) &&& 3689348814741910323)
    let x3 := (x2 + x2 / 16) &&& 1085102592571150095
    let x4 := x3 + x3 / 256
    let x5 := x4 + x4 / 65536
    let x6 := x5 + x5 / 4294967296
    (X / 2) &&& 6148914691236517205 ≤ X ∧ x2 + x2 / 16 < 2 ^ 64 ∧ x2 < 2 ^ 64 ∧ x6 < 2 ^ 63 ∧ x6 % 128 = pcN 64 X := by
  have hl := by8_lt (X := X)
  have hp := by8_pk h
  have e1 := an1 (by8 X) hl
  rw [hp] at e1
  obtain ⟨e2, e3⟩ := sb1 (by8 X) hl
  rw [hp] at e2 e3
  have l1 : ∀ b ∈ (by8 X).map s1, b < 256 := by
    intro b hb
    obtain ⟨a, ha, rfl⟩ := List.mem_map.mp hb
    exact (tb a (hl a ha)).1
  have l2 : ∀ b ∈ ((by8 X).map s1).map s2, b < 69 := by
    intro b hb
    obtain ⟨a, ha, rfl⟩ := List.mem_map.mp hb
    obtain ⟨c, hc, rfl⟩ := List.mem_map.mp ha
    exact (tb c (hl c hc)).2.1
  have l3 : ∀ b ∈ ((by8 X).map s1).map s2, b % 16 < 5 := by
    intro b hb
    obtain ⟨a, ha, rfl⟩ := List.mem_map.mp hb
    obtain ⟨c, hc, rfl⟩ := List.mem_map.mp ha
    exact (tb c (hl c hc)).2.2.1
  have e4 := an3 ((by8 X).map s1) l1
  have e5 := an2 ((by8 X).map s1) l1
  have e6 := ad2 ((by8 X).map s1)
  have e7 := an4 (((by8 X).map s1).map s2) l2 l3
  have m1 : mk8 85 (by8 X) = 6148914691236517205 := by rw [mk_by]
  have m2 : mk8 51 ((by8 X).map s1) = 3689348814741910323 := by rw [mk_map, mk_by]
  have m3 : mk8 15 (((by8 X).map s1).map s2) = 1085102592571150095 := by rw [mk_map, mk_map, mk_by]
  have m4 : mk8 1 (((by8 X).map s1).map s2) = 72340172838076673 := by rw [mk_map, mk_map, mk_by]
  rw [m1] at e1; rw [m2] at e4 e5; rw [m3] at e7
  intro x1 x2 x3 x4 x5 x6
  have g1 : x1 = pk8 ((by8 X).map s1) := by show X - _ = _; rw [e1]; exact e3
  have g2 : x2 = pk8 (((by8 X).map s1).map s2) := by show (x1 &&& _) + ((x1 / 4) &&& _) = _; rw [g1, e4, e5]; exact e6
  have g3 : x3 = pk8 ((((by8 X).map s1).map s2).map s3) := by show (x2 + x2 / 16) &&& _ = _; rw [g2]; exact e7
  have t0 : ∀ a : Nat, s3 (s2 (s1 (a % 256))) = pcN 8 (a % 256) ∧ pcN 8 (a % 256) < 9 := fun a => (tb (a % 256) (Nat.mod_lt _ (by decide))).2.2.2
  have g4 : x3 = pcN 8 (X % 256) + 256 * (pcN 8 (X / 256 % 256) + 256 * (pcN 8 (X / 65536 % 256) + 256 * (pcN 8 (X / 16777216 % 256) + 256 * (pcN 8 (X / 4294967296 % 256) + 256 * (pcN 8 (X / 1099511627776 % 256) + 256 * (pcN 8 (X / 281474976710656 % 256) + 256 * (pcN 8 (X / 72057594037927936 % 256) + 256 * 0))))))) := by
    rw [g3, ← (t0 X).1, ← (t0 (X / 256)).1, ← (t0 (X / 65536)).1, ← (t0 (X / 16777216)).1, ← (t0 (X / 4294967296)).1, ← (t0 (X / 1099511627776)).1, ← (t0 (X / 281474976710656)).1, ← (t0 (X / 72057594037927936)).1]
    simp only [by8, List.map_cons, List.map_nil, pk8]
  obtain ⟨k1, k2⟩ := fin8 (t0 X).2 (t0 (X / 256)).2 (t0 (X / 65536)).2 (t0 (X / 16777216)).2 (t0 (X / 4294967296)).2 (t0 (X / 1099511627776)).2 (t0 (X / 281474976710656)).2 (t0 (X / 72057594037927936)).2 g4
  have b2 : x2 ≤ 68 * 72340172838076673 := by
    have key : ∀ l : List Nat, (∀ b ∈ l, b < 69) → pk8 l ≤ 68 * mk8 1 l := by
      intro l hl
      induction l with
      | nil => exact Nat.le_refl _
      | cons b l ih =>
        have hb := hl b List.mem_cons_self
        have := ih (fun x hx => hl x (List.mem_cons_of_mem _ hx))
        show b + 256 * pk8 l ≤ 68 * (1 + 256 * mk8 1 l)
        omega
    rw [g2, ← m4]; exact key _ l2
  refine ⟨by rw [e1]; exact e2, by omega, by omega, k2, ?_⟩
  rw [pc_64 h]; exact k1
abbrev tn (x : Int64) : Nat := x.toBitVec.toNat
theorem tn_lt (x : Int64) : tn x < 2 ^ 64 := x.toBitVec.isLt
theorem tn_and (x y : Int64) : tn (x &&& y) = tn x &&& tn y := by
  show (x &&& y).toBitVec.toNat = _; rw [Int64.toBitVec_and, BitVec.toNat_and]
theorem tn_or (x y : Int64) : tn (x ||| y) = tn x ||| tn y := by
  show (x ||| y).toBitVec.toNat = _; rw [Int64.toBitVec_or, BitVec.toNat_or]
theorem tn_add (x y : Int64) (h : tn x + tn y < 2 ^ 64) : tn (x + y) = tn x + tn y := by
  show (x + y).toBitVec.toNat = _; rw [Int64.toBitVec_add, BitVec.toNat_add]; exact Nat.mod_eq_of_lt h
theorem tn_sub (x y : Int64) (h : tn y ≤ tn x) : tn (x - y) = tn x - tn y := by
  show (x - y).toBitVec.toNat = _; rw [Int64.toBitVec_sub, BitVec.toNat_sub]
  have := tn_lt x
  show (2 ^ 64 - tn y + tn x) % 2 ^ 64 = _
  omega
theorem tn_lsr (x : Int64) (y : Int32) (k : Nat) (hy : (y.toInt64.toUInt64 &&& Int64.toUInt64 63).toBitVec.toNat % 64 = k) : tn (lsr x y) = tn x / 2 ^ k := by
  unfold lsr
  show ((x.toUInt64 >>> (y.toInt64.toUInt64 &&& Int64.toUInt64 63)).toInt64).toBitVec.toNat = _
  show (x.toUInt64 >>> (y.toInt64.toUInt64 &&& Int64.toUInt64 63)).toNat = _
  rw [UInt64.toNat_shiftRight, Nat.shiftRight_eq_div_pow]
  show x.toBitVec.toNat / 2 ^ ((y.toInt64.toUInt64 &&& Int64.toUInt64 63).toBitVec.toNat % 64) = _
  rw [hy]
theorem bc_eq (x : Int64) : qJ13_bitCount_95d88 x = nI (pcN 64 (tn x)) := by
  obtain ⟨h1, h2, h3, h4, h5⟩ := bcN (tn_lt x)
  unfold qJ13_bitCount_95d88
  have k1 : tn (6148914691236517205 : Int64) = 6148914691236517205 := by decide
  have k2 : tn (3689348814741910323 : Int64) = 3689348814741910323 := by decide
  have k3 : tn (1085102592571150095 : Int64) = 1085102592571150095 := by decide
  have a1 : tn (x - ((lsr x 1) &&& 6148914691236517205)) = tn x - ((tn x / 2) &&& 6148914691236517205) := by
    have e : tn ((lsr x 1) &&& 6148914691236517205) = (tn x / 2) &&& 6148914691236517205 := by rw [tn_and, tn_lsr x 1 1 (by decide), k1]
    rw [tn_sub _ _ (by rw [e]; exact h1), e]
  generalize (x - ((lsr x 1) &&& 6148914691236517205)) = y1 at a1 ⊢
  have a2 : tn ((y1 &&& 3689348814741910323) + ((lsr y1 2) &&& 3689348814741910323)) = (tn y1 &&& 3689348814741910323) + ((tn y1 / 4) &&& 3689348814741910323) := by
    have e1 : tn (y1 &&& 3689348814741910323) = tn y1 &&& 3689348814741910323 := by rw [tn_and, k2]
    have e2 : tn ((lsr y1 2) &&& 3689348814741910323) = (tn y1 / 4) &&& 3689348814741910323 := by rw [tn_and, tn_lsr y1 2 2 (by decide), k2]
    rw [tn_add _ _ (by rw [e1, e2, a1]; exact h3), e1, e2]
  generalize ((y1 &&& 3689348814741910323) + ((lsr y1 2) &&& 3689348814741910323)) = y2 at a2 ⊢
  rw [a1] at a2
  have a3 : tn ((y2 + (lsr y2 4)) &&& 1085102592571150095) = (tn y2 + tn y2 / 16) &&& 1085102592571150095 := by
    have e : tn (lsr y2 4) = tn y2 / 16 := tn_lsr y2 4 4 (by decide)
    rw [tn_and, tn_add _ _ (by rw [e, a2]; exact h2), e, k3]
  generalize ((y2 + (lsr y2 4)) &&& 1085102592571150095) = y3 at a3 ⊢
  rw [a2] at a3
  rw [← a3] at h4 h5
  have a4 : tn (y3 + lsr y3 8) = tn y3 + tn y3 / 256 := by
    have e : tn (lsr y3 8) = tn y3 / 256 := tn_lsr y3 8 8 (by decide)
    rw [tn_add _ _ (by rw [e]; omega), e]
  generalize y3 + lsr y3 8 = y4 at a4 ⊢
  rw [← a4] at h4 h5
  have a5 : tn (y4 + lsr y4 16) = tn y4 + tn y4 / 65536 := by
    have e : tn (lsr y4 16) = tn y4 / 65536 := tn_lsr y4 16 16 (by decide)
    rw [tn_add _ _ (by rw [e]; omega), e]
  generalize y4 + lsr y4 16 = y5 at a5 ⊢
  rw [← a5] at h4 h5
  have a6 : tn (y5 + lsr y5 32) = tn y5 + tn y5 / 4294967296 := by
    have e : tn (lsr y5 32) = tn y5 / 4294967296 := tn_lsr y5 32 32 (by decide)
    rw [tn_add _ _ (by rw [e]; omega), e]
  generalize y5 + lsr y5 32 = y6 at a6 ⊢
  rw [← a6] at h4 h5
  rw [pk_and _ 7 (by decide)]
  have e7 : (Int64.toInt32 y6).toBitVec.toNat = tn y6 % 2 ^ 32 := by
    show (Int64.toInt32 y6).toBitVec.toNat = y6.toBitVec.toNat % 2 ^ 32
    rw [Int64.toBitVec_toInt32, BitVec.signExtend_eq_setWidth_of_le _ (by decide), BitVec.toNat_setWidth]
  rw [e7, ← h5]
  exact congrArg nI (by omega)
/-! the bits of a row of squares -/
theorem bit_n : ∀ n, n < 64 → tn ((1 : Int64) <<< (Int32.toInt64 (nI n) &&& 63)) = 2 ^ n := by decide +kernel
theorem pc_0 : ∀ k : Nat, pcN k 0 = 0 := by
  intro k
  induction k with
  | zero => rfl
  | succ k ih => show 0 % 2 + pcN k (0 / 2) = 0; rw [show 0 / 2 = 0 from rfl, ih]
theorem pc_add : ∀ (n K X : Nat), n < K → X < 2 ^ n → pcN K (X + 2 ^ n) = pcN K X + 1 := by
  intro n
  induction n with
  | zero =>
    intro K X hK hX
    have e : X = 0 := by omega
    subst e
    cases K with
    | zero => omega
    | succ K =>
      show (0 + 1) % 2 + pcN K ((0 + 1) / 2) = 0 % 2 + pcN K (0 / 2) + 1
      rw [show (0 + 1) / 2 = 0 from rfl, pc_0]
  | succ n ih =>
    intro K X hK hX
    cases K with
    | zero => omega
    | succ K =>
      have e := ih K (X / 2) (by omega) (by omega)
      show (X + 2 ^ (n + 1)) % 2 + pcN K ((X + 2 ^ (n + 1)) / 2) = X % 2 + pcN K (X / 2) + 1
      rw [show (X + 2 ^ (n + 1)) / 2 = X / 2 + 2 ^ n by omega, e]
      omega
theorem or_bit {X n : Nat} (h : X < 2 ^ n) : X ||| 2 ^ n = X + 2 ^ n := by
  have e := Nat.two_pow_add_eq_or_of_lt h 1
  rw [Nat.mul_one] at e
  rw [Nat.or_comm, ← e, Nat.add_comm]
theorem wh_w {F : Nat → Int32} {A : Nat → Nat → Int32} : ∀ (k n : Nat) (acc : Int64), n + k = 64 → tn acc < 2 ^ n → pcN 64 (tn acc) + cnt (A 0) n = n → pcN 64 (tn (qX0_where_w5 F A 0 k n acc)) + cnt (A 0) 64 = 64 := by
  intro k
  induction k with
  | zero => intro n acc hn h1 h2; rw [qX0_where_w5]; rw [show n = 64 by omega] at h2; exact h2
  | succ k ih =>
    intro n acc hn h1 h2
    rw [qX0_where_w5, nI_clamp (by omega)]
    have hp : 2 ^ (n + 1) = 2 * 2 ^ n := by rw [Nat.pow_succ]; omega
    by_cases c : A 0 n = 0
    · rw [if_neg (fun z => z c)]
      have e : tn (acc ||| ((1 : Int64) <<< (Int32.toInt64 (nI n) &&& 63))) = tn acc + 2 ^ n := by rw [tn_or, bit_n n (by omega), or_bit h1]
      refine ih (n + 1) _ (by omega) (by rw [e]; omega) ?_
      rw [e, pc_add n 64 _ (by omega) h1, cnt, if_pos c]
      omega
    · rw [if_pos c]
      refine ih (n + 1) _ (by omega) (by omega) ?_
      rw [cnt, if_neg c]; omega
theorem pob {F : Nat → Int32} {A : Nat → Nat → Int32} : qX0_piecesOnBoard F A = nI (cnt (A 0) 64) := by
  have h := wh_w (F := F) (A := A) 64 0 0 rfl (by decide) (by show pcN 64 (tn 0) + 0 = 0; decide)
  unfold qX0_piecesOnBoard qX0_where
  rw [bc_eq, show (64 : Int32) = nI 64 from rfl, pk_sub (by omega)]
  exact congrArg nI (by omega)
