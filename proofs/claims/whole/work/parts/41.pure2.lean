/-! What sets a position up: clear, begin, state, clocks; how many pieces there are. -/
theorem ua_s {A : Nat → Nat → Int32} {k i : Nat} {x : Int32} : ua A k i x k = upd (A k) i x := by
  unfold ua va_up; rw [if_pos rfl]
theorem ua_n {A : Nat → Nat → Int32} {k i j : Nat} {x : Int32} (h : ¬ j = k) : ua A k i x j = A j := by
  unfold ua va_up; rw [if_neg h]
theorem set0_w {F : Nat → Int32} : ∀ (k n : Nat) (A : Nat → Nat → Int32), n + k = 64 → (qX0_setAllAsAtFirst_w2 F k n A).1 = uf (uf (uf (uf (uf (uf F 1 0) 2 0) 3 (-1)) 4 0) 5 1) 6 0 ∧ ∀ j : Nat, (qX0_setAllAsAtFirst_w2 F k n A).2 0 j = if n ≤ j ∧ j < 64 then 0 else A 0 j := by
  intro k
  induction k with
  | zero => intro n A hn; exact ⟨rfl, fun j => by rw [if_neg (by omega)]; rfl⟩
  | succ k ih =>
    intro n A hn
    rw [qX0_setAllAsAtFirst_w2]
    obtain ⟨a, b⟩ := ih (n + 1) (ua A 0 (Int32.toNatClampNeg (nI n)) 0) (by omega)
    refine ⟨a, fun j => ?_⟩
    rw [b, nI_clamp (by omega), ua_s]
    by_cases z : j = n
    · subst z
      rw [if_neg (by omega), if_pos (by omega)]; exact pk_us
    · by_cases z2 : n + 1 ≤ j ∧ j < 64
      · rw [if_pos z2, if_pos (by omega)]
      · rw [if_neg z2, if_neg (by omega)]; exact pk_un z
theorem clr1_w {F : Nat → Int32} : ∀ (k n : Nat) (A : Nat → Nat → Int32), n + k = 64 → (qX1_clear_w7 F k n A).1 = uf (uf (uf (uf (uf (uf F 2 0) 3 0) 4 (-1)) 5 0) 6 1) 7 0 ∧ ∀ j : Nat, (qX1_clear_w7 F k n A).2 1 j = if n ≤ j ∧ j < 64 then 0 else A 1 j := by
  intro k
  induction k with
  | zero => intro n A hn; exact ⟨rfl, fun j => by rw [if_neg (by omega)]; rfl⟩
  | succ k ih =>
    intro n A hn
    rw [qX1_clear_w7]
    obtain ⟨a, b⟩ := ih (n + 1) (ua A 1 (Int32.toNatClampNeg (nI n)) 0) (by omega)
    refine ⟨a, fun j => ?_⟩
    rw [b, nI_clamp (by omega), ua_s]
    by_cases z : j = n
    · subst z
      rw [if_neg (by omega), if_pos (by omega)]; exact pk_us
    · by_cases z2 : n + 1 ≤ j ∧ j < 64
      · rw [if_pos z2, if_pos (by omega)]
      · rw [if_neg z2, if_neg (by omega)]; exact pk_un z
theorem set0_z {F : Nat → Int32} {A : Nat → Nat → Int32} (h : ∀ j : Nat, 64 ≤ j → A 0 j = 0) : (qX0_setAllAsAtFirst F A).1 = uf (uf (uf (uf (uf (uf F 1 0) 2 0) 3 (-1)) 4 0) 5 1) 6 0 ∧ (qX0_setAllAsAtFirst F A).2 0 = fun _ => 0 := by
  obtain ⟨a, b⟩ := set0_w (F := F) 64 0 A rfl
  refine ⟨a, funext fun j => ?_⟩
  unfold qX0_setAllAsAtFirst
  rw [b]
  by_cases z : 0 ≤ j ∧ j < 64
  · rw [if_pos z]
  · rw [if_neg z]; exact h j (by omega)
theorem clr1_z {F : Nat → Int32} {A : Nat → Nat → Int32} (h : ∀ j : Nat, 64 ≤ j → A 1 j = 0) : (qX1_clear F A).1 = uf (uf (uf (uf (uf (uf (uf F 0 0) 2 0) 3 0) 4 (-1)) 5 0) 6 1) 7 0 ∧ (qX1_clear F A).2 1 = fun _ => 0 := by
  obtain ⟨a, b⟩ := clr1_w (F := uf F 0 0) 64 0 A rfl
  refine ⟨a, funext fun j => ?_⟩
  unfold qX1_clear
  rw [b]
  by_cases z : 0 ≤ j ∧ j < 64
  · rw [if_pos z]
  · rw [if_neg z]; exact h j (by omega)
theorem cnt_z : ∀ n : Nat, cnt (fun _ => 0) n = 0 := by
  intro n
  induction n with
  | zero => rfl
  | succ n ih => rw [cnt, ih, if_pos rfl]
theorem vd_z : Vd (fun _ => 0) 0 0 (-1) :=
  ⟨fun _ => ⟨0, by decide, rfl⟩, fun _ _ => rfl, Or.inl rfl, ⟨0, by decide, rfl⟩, Or.inl rfl, by rw [cnt_z]; decide⟩
theorem p_init : pb_init := by
  obtain ⟨a, b⟩ := set0_z (F := fun _ => 0) (A := fun _ _ => 0) (fun _ _ => rfl)
  have a' : iF0 = _ := a
  have b' : iA0 0 = _ := b
  refine Inv.zero ?_ rfl ?_ ?_ ?_ ?_ ?_ ?_ vd_z
  · rw [a']; rfl
  · rw [b']; rfl
  all_goals (rw [a']; rfl)
theorem p_clear : pb_clear := by
  intro F0 A0 F1 A1 h
  obtain ⟨v1, v2, -⟩ := h.vd
  obtain ⟨a, b⟩ := set0_z (F := F0) (A := A0) (fun j hj => by rw [h.bd]; exact v2 j hj)
  obtain ⟨a1, b1⟩ := clr1_z (F := F1) (A := A1) v2
  have a' : (qX0_clear F0 A0).1 = _ := a
  have b' : (qX0_clear F0 A0).2 0 = _ := b
  refine Inv.zero ?_ ?_ ?_ ?_ ?_ ?_ ?_ ?_ ?_
  · rw [a']; rfl
  · rw [a1]; rfl
  · rw [b', b1]
  · rw [a', a1]; rfl
  · rw [a', a1]; rfl
  · rw [a', a1]; rfl
  · rw [a', a1]; rfl
  · rw [a', a1]; rfl
  · rw [a1, b1]; exact vd_z
theorem bg_pc : ∀ n, n < 8 → qX0_pieceOf (rkF n) 0 = qX1_home (nI n) ∧ qX0_pieceOf 1 0 = 1 ∧ qX0_pieceOf 1 1 = 7 ∧ qX0_pieceOf (rkF n) 1 = 6 + qX1_home (nI n) := by decide +kernel
theorem bg_w {F F' : Nat → Int32} : ∀ (k n : Nat) (A0 A1 : Nat → Nat → Int32), n + k = 8 → A0 0 = A1 1 → (qX0_begin_w6 F k n A0).1 = uf F 2 15 ∧ (qX1_begin_w6 F' k n A1).1 = uf F' 3 15 ∧ (qX0_begin_w6 F k n A0).2 0 = (qX1_begin_w6 F' k n A1).2 1 := by
  intro k
  induction k with
  | zero => intro n A0 A1 hn h; exact ⟨rfl, rfl, h⟩
  | succ k ih =>
    intro n A0 A1 hn h
    rw [qX0_begin_w6, qX1_begin_w6]
    refine ih (n + 1) _ _ (by omega) ?_
    obtain ⟨e1, e2, e3, e4⟩ := bg_pc n (by omega)
    rw [ua_s, ua_s, ua_s, ua_s, ua_s, ua_s, ua_s, ua_s, h, nI_clamp (by omega), e1, e2, e3, e4]
theorem bg_c {F F' : Nat → Int32} : ∀ (k n : Nat) (A A1 : Nat → Nat → Int32), A 1 = A1 1 → (qX1_begin_w6 F k n A).2 1 = (qX1_begin_w6 F' k n A1).2 1 := by
  intro k
  induction k with
  | zero => intro n A A1 h; exact h
  | succ k ih =>
    intro n A A1 h
    rw [qX1_begin_w6, qX1_begin_w6]
    refine ih (n + 1) _ _ ?_
    rw [ua_s, ua_s, ua_s, ua_s, ua_s, ua_s, ua_s, ua_s, h]
theorem bg_o {F : Nat → Int32} {j : Nat} (hj : 64 ≤ j) : ∀ (k n : Nat) (A : Nat → Nat → Int32), n + k = 8 → (qX1_begin_w6 F k n A).2 1 j = A 1 j := by
  intro k
  induction k with
  | zero => intro n A _; rfl
  | succ k ih =>
    intro n A hn
    rw [qX1_begin_w6, ih (n + 1) _ (by omega), ua_s, ua_s, ua_s, ua_s, show (8 : Int32) = nI 8 from rfl, show (48 : Int32) = nI 48 from rfl, show (56 : Int32) = nI 56 from rfl, nI_add, nI_add, nI_add, nI_clamp (by omega), nI_clamp (by omega), nI_clamp (by omega), nI_clamp (by omega), pk_un (by omega), pk_un (by omega), pk_un (by omega), pk_un (by omega)]
def bg : Nat → Int32 := (qX1_begin_w6 (fun _ => 0) 8 0 (fun _ _ => 0)).2 1
set_option maxRecDepth 100000 in
theorem bg_1 : ∀ j, j < 64 → Int32.toNatClampNeg (bg j) ≤ 12 ∧ bg j = nI (Int32.toNatClampNeg (bg j)) := by decide +kernel
set_option maxRecDepth 100000 in
theorem bg_2 : cnt bg 64 ≤ 32 := by decide +kernel
theorem bg_3 (j : Nat) (hj : 64 ≤ j) : bg j = 0 := by unfold bg; rw [bg_o hj 8 0 _ rfl]
theorem vd_bg : Vd bg 0 15 (-1) := by
  refine ⟨fun j => ?_, bg_3, Or.inl rfl, ⟨15, by decide, rfl⟩, Or.inl rfl, bg_2⟩
  by_cases z : j < 64
  · exact ⟨_, (bg_1 j z).1, (bg_1 j z).2⟩
  · exact ⟨0, by decide, bg_3 j (by omega)⟩
theorem p_begin : pb_begin := by
  intro F0 A0 F1 A1 h
  obtain ⟨v1, v2, -⟩ := h.vd
  obtain ⟨a, b⟩ := set0_z (F := F0) (A := A0) (fun j hj => by rw [h.bd]; exact v2 j hj)
  obtain ⟨a1, b1⟩ := clr1_z (F := F1) (A := A1) v2
  obtain ⟨c1, c2, c3⟩ := bg_w (F := (qX0_setAllAsAtFirst F0 A0).1) (F' := (qX1_clear F1 A1).1) 8 0 (qX0_setAllAsAtFirst F0 A0).2 (qX1_clear F1 A1).2 rfl (by rw [b, b1])
  have c4 := bg_c (F := (qX1_clear F1 A1).1) (F' := fun _ => 0) 8 0 (qX1_clear F1 A1).2 (fun _ _ => 0) (by rw [b1])
  have d1 : (qX0_begin F0 A0).1 = _ := c1
  have d2 : (qX1_begin F1 A1).1 = _ := c2
  have d3 : (qX0_begin F0 A0).2 0 = (qX1_begin F1 A1).2 1 := c3
  have d4 : (qX1_begin F1 A1).2 1 = bg := c4
  rw [a] at d1; rw [a1] at d2
  refine Inv.zero ?_ ?_ d3 ?_ ?_ ?_ ?_ ?_ ?_
  · rw [d1]; rfl
  · rw [d2]; rfl
  · rw [d1, d2]; rfl
  · rw [d1, d2]; rfl
  · rw [d1, d2]; rfl
  · rw [d1, d2]; rfl
  · rw [d1, d2]; rfl
  · rw [d2, d4]; exact vd_bg
theorem i_rng {x : Int32} {n : Nat} (h0 : ¬ x < 0) (h : x ≤ nI n) (hn : n < 2 ^ 31) : ∃ r : Nat, r ≤ n ∧ x = nI r := nI_of2 (nI_toInt hn) h0 h
theorem i_nle {x y : Int32} : ¬ x ≤ y ↔ y < x := by
  rw [Int32.le_iff_toInt_le, Int32.lt_iff_toInt_lt]; omega
theorem i_le {x y : Int32} (h : ¬ y < x) : x ≤ y := by
  rw [Int32.lt_iff_toInt_lt] at h; rw [Int32.le_iff_toInt_le]; omega
theorem p_clocks : pb_clocks := by
  intro F0 A0 F1 A1 a b h
  have hthr := h.thr 1
  obtain ⟨v1, v2, v3, v4, v5, v6⟩ := h.vd
  obtain ⟨e1, e2, e3, e4, e5, e6⟩ := h.e1
  have no : ((2 : Int32) = 0 ∨ (2 : Int32) = 2) ∧ qX1_thrown (qX1_clocks_j29 F1 A1 a b 1).1 (qX1_clocks_j29 F1 A1 a b 1).2 = (if (2 : Int32) = 0 then 0 else 1) ∧ Inv (aft 2 (F0, A0) F0 A0).1 (aft 2 (F0, A0) F0 A0).2 (qX1_clocks_j29 F1 A1 a b 1).1 (qX1_clocks_j29 F1 A1 a b 1).2 := by
    exact ⟨Or.inr rfl, rfl, hthr⟩
  unfold qX0_clocks qX1_clocks qX0_clocks_j11 qX0_clocks_j33
  by_cases c1 : a < 0
  · rw [if_pos c1, if_pos c1]; exact no
  rw [if_neg c1, if_neg c1]
  by_cases c2 : a ≤ 9999
  · rw [if_pos c2, if_neg (show ¬ 9999 < a from fun z => absurd c2 (i_nle.mpr z))]
    by_cases c3 : b < 1
    · rw [if_pos c3, if_pos c3]; exact no
    rw [if_neg c3, if_neg c3]
    by_cases c4 : b ≤ 9999
    · rw [if_pos c4, if_pos c4]
      refine ⟨Or.inl rfl, rfl, ?_⟩
      exact Inv.zero (F0 := uf (uf (uf F0 4 a) 5 b) 6 0) (A0 := A0) (F1 := uf (uf (uf (uf F1 0 0) 5 a) 6 b) 7 0) (A1 := A1) rfl rfl h.bd e1 e2 e3 rfl rfl ⟨v1, v2, v3, v4, v5, v6⟩
    · rw [if_neg c4, if_neg c4]; exact no
  · rw [if_neg c2, if_pos (i_nle.mp c2)]; exact no
theorem p_state : pb_state := by
  intro F0 A0 F1 A1 a b c h
  have hthr := h.thr 1
  obtain ⟨v1, v2, v3, v4, v5, v6⟩ := h.vd
  obtain ⟨e1, e2, e3, e4, e5, e6⟩ := h.e1
  have no : ((2 : Int32) = 0 ∨ (2 : Int32) = 2) ∧ qX1_thrown (qX1_state_j36 F1 A1 a b c 1).1 (qX1_state_j36 F1 A1 a b c 1).2 = (if (2 : Int32) = 0 then 0 else 1) ∧ Inv (aft 2 (F0, A0) F0 A0).1 (aft 2 (F0, A0) F0 A0).2 (qX1_state_j36 F1 A1 a b c 1).1 (qX1_state_j36 F1 A1 a b c 1).2 := by
    exact ⟨Or.inr rfl, rfl, hthr⟩
  have yes : (a = 0 ∨ a = 1) → (∃ r : Nat, r ≤ 15 ∧ b = nI r) → (c = -1 ∨ ∃ q : Nat, q < 64 ∧ c = nI q) → ((0 : Int32) = 0 ∨ (0 : Int32) = 2) ∧ qX1_thrown (qX1_state_j36 F1 A1 a b c 0).1 (qX1_state_j36 F1 A1 a b c 0).2 = (if (0 : Int32) = 0 then 0 else 1) ∧ Inv (aft 0 (qX0_state_j59 F0 A0 a b c).2 F0 A0).1 (aft 0 (qX0_state_j59 F0 A0 a b c).2 F0 A0).2 (qX1_state_j36 F1 A1 a b c 0).1 (qX1_state_j36 F1 A1 a b c 0).2 := by
    intro w1 w2 w3
    refine ⟨Or.inl rfl, rfl, ?_⟩
    exact Inv.zero (F0 := uf (uf (uf (uf F0 1 a) 2 b) 3 c) 6 0) (A0 := A0) (F1 := uf (uf (uf (uf (uf F1 0 0) 2 a) 3 b) 4 c) 7 0) (A1 := A1) rfl rfl h.bd rfl rfl rfl e4 e5 ⟨v1, v2, w1, w2, w3, v6⟩
  unfold qX0_state qX1_state qX0_state_j27
  by_cases c1 : qX0_isSide a = 0
  · rw [if_neg (fun z => z c1)]
    by_cases d1 : a < 0
    · rw [if_pos d1]; exact no
    rw [if_neg d1]
    by_cases d2 : 1 < a
    · rw [if_pos d2]; exact no
    exfalso
    obtain ⟨r, hr, rfl⟩ := i_rng (n := 1) d1 (i_le d2) (by decide)
    rcases (show r = 0 ∨ r = 1 by omega) with rfl | rfl
    · exact absurd c1 (by decide)
    · exact absurd c1 (by decide)
  rw [if_pos c1]
  have w1 := sdCases c1
  rw [if_neg (show ¬ a < 0 by rcases w1 with rfl | rfl <;> decide), if_neg (show ¬ 1 < a by rcases w1 with rfl | rfl <;> decide)]
  by_cases c2 : b < 0
  · rw [if_pos c2, if_pos c2]; exact no
  rw [if_neg c2, if_neg c2]
  by_cases c3 : b ≤ 15
  · rw [if_pos c3, if_neg (show ¬ 15 < b from fun z => absurd c3 (i_nle.mpr z))]
    have w2 := i_rng (n := 15) c2 c3 (by decide)
    by_cases c4 : c = -1
    · rw [if_pos c4, if_neg (show ¬ c < -1 by rw [c4]; decide), if_pos (show c ≤ 63 by rw [c4]; decide)]
      exact yes w1 w2 (Or.inl c4)
    rw [if_neg c4]
    by_cases c5 : qX0_isSquare c = 0
    · rw [if_neg (fun z => z c5)]
      by_cases d1 : c < -1
      · rw [if_pos d1]; exact no
      rw [if_neg d1]
      by_cases d2 : c ≤ 63
      · exfalso
        by_cases d3 : c < 0
        · apply c4
          apply Int32.toInt_inj.mp
          rw [Int32.lt_iff_toInt_lt] at d1 d3
          have z1 : (-1 : Int32).toInt = -1 := by decide
          have z2 : (0 : Int32).toInt = 0 := by decide
          rw [z1] at d1 ⊢; rw [z2] at d3
          omega
        · obtain ⟨r, hr, rfl⟩ := i_rng (n := 63) d3 d2 (by decide)
          exact absurd c5 (sqOf (by omega))
      · rw [if_neg d2]; exact no
    · rw [if_pos c5]
      obtain ⟨q, hq, rfl⟩ := in_cases (inSq c5)
      rw [if_neg (show ¬ nI q < -1 by
        rw [Int32.lt_iff_toInt_lt, nI_toInt (by omega)]
        have z1 : (-1 : Int32).toInt = -1 := by decide
        rw [z1]; omega), if_pos (show nI q ≤ 63 from nI_le (b := 63) (by omega) (by decide))]
      exact yes w1 w2 (Or.inr ⟨q, hq, rfl⟩)
  · rw [if_neg c3, if_pos (i_nle.mp c3)]; exact no
/-! counting -/
def w1 (x : Int32) : Nat := if x = 0 then 0 else 1
theorem cnt_upd {bd : Nat → Int32} {i : Nat} {x : Int32} : ∀ n : Nat, cnt (upd bd i x) n + (if i < n then w1 (bd i) else 0) = cnt bd n + (if i < n then w1 x else 0) := by
  intro n
  induction n with
  | zero => rfl
  | succ n ih =>
    rw [cnt, cnt]
    by_cases z : n = i
    · subst z
      rw [if_neg (show ¬ n < n by omega), if_neg (show ¬ n < n by omega)] at ih
      rw [pk_us, if_pos (show n < n + 1 by omega), if_pos (show n < n + 1 by omega)]
      unfold w1
      omega
    · rw [pk_un z]
      by_cases z2 : i < n
      · rw [if_pos z2, if_pos z2] at ih
        rw [if_pos (show i < n + 1 by omega), if_pos (show i < n + 1 by omega)]
        omega
      · rw [if_neg z2, if_neg z2] at ih
        rw [if_neg (show ¬ i < n + 1 by omega), if_neg (show ¬ i < n + 1 by omega)]
        omega
theorem cnt_u {bd : Nat → Int32} {i : Nat} {x : Int32} (h : i < 64) : cnt (upd bd i x) 64 + w1 (bd i) = cnt bd 64 + w1 x := by
  have := cnt_upd (bd := bd) (i := i) (x := x) 64
  rw [if_pos h, if_pos h] at this
  exact this
theorem cnt_le {bd : Nat → Int32} : ∀ n : Nat, cnt bd n ≤ n := by
  intro n
  induction n with
  | zero => exact Nat.le_refl _
  | succ n ih => rw [cnt]; split <;> omega
theorem pcs_w {F : Nat → Int32} {A : Nat → Nat → Int32} (hv : ∀ j : Nat, ∃ q : Nat, q ≤ 12 ∧ A 1 j = nI q) : ∀ (k n : Nat), n + k = 64 → qX1_pieces_w4 F A k n (nI (cnt (A 1) n)) = nI (cnt (A 1) 64) := by
  intro k
  induction k with
  | zero => intro n hn; rw [qX1_pieces_w4, show n = 64 by omega]
  | succ k ih =>
    intro n hn
    have e := ih (n + 1) (by omega)
    rw [cnt] at e
    rw [qX1_pieces_w4]
    unfold qX1_pieces_j25
    rw [nI_clamp (by omega)]
    obtain ⟨q, hq, eq⟩ := hv n
    by_cases c : A 1 n = 0
    · rw [if_pos (show A 1 n ≤ 0 by rw [c]; decide), Int32.add_zero]
      rw [if_pos c] at e; exact e
    · rw [if_neg (show ¬ A 1 n ≤ 0 from fun z => c (by rw [eq] at z ⊢; exact (nI_le0 hq).mp z)), nI_1]
      rw [if_neg c] at e; exact e
theorem pcs_eq {F : Nat → Int32} {A : Nat → Nat → Int32} (hv : ∀ j : Nat, ∃ q : Nat, q ≤ 12 ∧ A 1 j = nI q) : qX1_pieces F A = nI (cnt (A 1) 64) := pcs_w hv 64 0 rfl
