/-! make: Board's side; the squares, rights and passing behind the move are the same. -/
theorem co_s {F : Nat → Int32} {A : Nat → Nat → Int32} {m tq : Int32} : (qX0_carryOver F A m tq).1 = F ∧ (∀ r : Nat, ¬ r = 0 → (qX0_carryOver F A m tq).2 r = A r) ∧ (qX0_carryOver F A m tq).2 0 = bdP (if qX0_isCastling (A 0 (Int32.toNatClampNeg (qX0_fromOf m))) (qX0_fromOf m) (qX0_toOf m) = 0 then A 0 else shB (A 0) (qX0_cornerBeyond (qX0_fromOf m) (qX0_toOf m)) ((qX0_fromOf m + qX0_toOf m) / 2)) (Int32.toNatClampNeg tq) (Int32.toNatClampNeg (qX0_fromOf m)) (Int32.toNatClampNeg (qX0_toOf m)) (if ¬ qX0_kindOf m = 0 then qX0_pieceOf (qX0_kindOf m) (F 1) else A 0 (Int32.toNatClampNeg (qX0_fromOf m))) := by
  have key : ∀ (F : Nat → Int32) (A : Nat → Nat → Int32) (x2 x3 x4 x5 x6 : Int32), (qX0_carryOver_j52 F A x2 x3 x4 x5 x6).1 = F ∧ (∀ r : Nat, ¬ r = 0 → (qX0_carryOver_j52 F A x2 x3 x4 x5 x6).2 r = A r) ∧ (qX0_carryOver_j52 F A x2 x3 x4 x5 x6).2 0 = bdP (A 0) (Int32.toNatClampNeg x2) (Int32.toNatClampNeg x3) (Int32.toNatClampNeg x4) (if ¬ x5 = 0 then qX0_pieceOf x5 (F 1) else x6) := by
    intro F A x2 x3 x4 x5 x6
    unfold qX0_carryOver_j52 bdP
    by_cases c : ¬ x5 = 0
    · rw [if_pos c, if_pos c]
      refine ⟨rfl, fun r hr => ?_, ?_⟩
      · dsimp only; rw [ua_n hr, ua_n hr, ua_n hr]
      · dsimp only; rw [ua_s, ua_s, ua_s]
    · rw [if_neg c, if_neg c]
      refine ⟨rfl, fun r hr => ?_, ?_⟩
      · dsimp only; rw [ua_n hr, ua_n hr, ua_n hr]
      · dsimp only; rw [ua_s, ua_s, ua_s]
  unfold qX0_carryOver
  by_cases c : qX0_isCastling (A 0 (Int32.toNatClampNeg (qX0_fromOf m))) (qX0_fromOf m) (qX0_toOf m) = 0
  · rw [if_pos c, if_pos c]; exact key _ _ _ _ _ _ _
  · rw [if_neg c, if_neg c]
    obtain ⟨k1, k2, k3⟩ := key (qX0_shift F A (qX0_cornerBeyond (qX0_fromOf m) (qX0_toOf m)) ((qX0_fromOf m + qX0_toOf m) / 2)).1 (qX0_shift F A (qX0_cornerBeyond (qX0_fromOf m) (qX0_toOf m)) ((qX0_fromOf m + qX0_toOf m) / 2)).2 tq (qX0_fromOf m) (qX0_toOf m) (qX0_kindOf m) (A 0 (Int32.toNatClampNeg (qX0_fromOf m)))
    refine ⟨k1.trans sh_F, fun r hr => (k2 r hr).trans (sh_n hr), ?_⟩
    rw [k3, sh_0, sh_F]
theorem mk0 {F : Nat → Int32} {A : Nat → Nat → Int32} {m tq : Int32} {C : tFA} (hfit : ¬ qX0_fits F A m = 0) (h6 : F 6 < 600) (htq : qX0_squareTaken F A (qX0_fromOf m) (qX0_toOf m) = tq) (hC : qX0_carryOver (qX0_remember F A m (A 0 (Int32.toNatClampNeg tq)) tq).1 (qX0_remember F A m (A 0 (Int32.toNatClampNeg tq)) tq).2 m tq = C) :
    ∃ FF : Nat → Int32, qX0_make F A m = (0, A 0 (Int32.toNatClampNeg tq), FF, C.2) ∧ FF 1 = 1 - F 1 ∧ FF 2 = (F 2 &&& ((((qX0_rightsOfKing (A 0 (Int32.toNatClampNeg (qX0_fromOf m)))) ||| (qX0_rightOfCorner (qX0_fromOf m))) ||| (qX0_rightOfCorner (qX0_toOf m))) ^^^ (-1))) ∧ (∃ F' : Nat → Int32, F' 1 = F 1 ∧ FF 3 = qX0_passingBehind F' C.2 (qX0_fromOf m) (qX0_toOf m)) ∧ FF 4 = (if qX0_typeOf (A 0 (Int32.toNatClampNeg (qX0_fromOf m))) = 1 then 0 else (if A 0 (Int32.toNatClampNeg tq) = 0 then F 4 + 1 else 0)) ∧ FF 5 = (if ¬ F 1 = 1 then F 5 else F 5 + 1) ∧ FF 6 = F 6 + 1 := by
  have c1 : C.1 = uf F 6 (F 6 + 1) := by rw [← hC]; exact co_s.1
  unfold qX0_make
  rw [if_pos hfit, if_pos h6, htq, hC]
  generalize hX : (uf (uf C.1 2 (C.1 2 &&& ((((qX0_rightsOfKing (A 0 (Int32.toNatClampNeg (qX0_fromOf m)))) ||| (qX0_rightOfCorner (qX0_fromOf m))) ||| (qX0_rightOfCorner (qX0_toOf m))) ^^^ (-1)))) 3 (qX0_passingBehind (uf C.1 2 (C.1 2 &&& ((((qX0_rightsOfKing (A 0 (Int32.toNatClampNeg (qX0_fromOf m)))) ||| (qX0_rightOfCorner (qX0_fromOf m))) ||| (qX0_rightOfCorner (qX0_toOf m))) ^^^ (-1)))) C.2 (qX0_fromOf m) (qX0_toOf m))) = X
  have x1 : X 1 = F 1 := by rw [← hX, c1]; rfl
  have x2 : X 2 = (F 2 &&& ((((qX0_rightsOfKing (A 0 (Int32.toNatClampNeg (qX0_fromOf m)))) ||| (qX0_rightOfCorner (qX0_fromOf m))) ||| (qX0_rightOfCorner (qX0_toOf m))) ^^^ (-1))) := by rw [← hX, c1]; rfl
  have x3 : ∃ F' : Nat → Int32, F' 1 = F 1 ∧ X 3 = qX0_passingBehind F' C.2 (qX0_fromOf m) (qX0_toOf m) := by
    refine ⟨(uf C.1 2 (C.1 2 &&& ((((qX0_rightsOfKing (A 0 (Int32.toNatClampNeg (qX0_fromOf m)))) ||| (qX0_rightOfCorner (qX0_fromOf m))) ||| (qX0_rightOfCorner (qX0_toOf m))) ^^^ (-1)))), ?_, ?_⟩
    · rw [c1]; rfl
    · rw [← hX]; rfl
  have x5 : X 5 = F 5 := by rw [← hX, c1]; rfl
  have x6 : X 6 = F 6 + 1 := by rw [← hX, c1]; rfl
  have c4 : C.1 4 = F 4 := by rw [c1]; rfl
  rw [c4]
  have e1 : (if (qX0_typeOf (A 0 (Int32.toNatClampNeg (qX0_fromOf m)))) = 1 then (qX0_make_j150 X C.2 (A 0 (Int32.toNatClampNeg tq)) 0) else (if (A 0 (Int32.toNatClampNeg tq)) = 0 then (qX0_make_j150 X C.2 (A 0 (Int32.toNatClampNeg tq)) (F 4 + 1)) else (qX0_make_j150 X C.2 (A 0 (Int32.toNatClampNeg tq)) 0))) = qX0_make_j150 X C.2 (A 0 (Int32.toNatClampNeg tq)) (if qX0_typeOf (A 0 (Int32.toNatClampNeg (qX0_fromOf m))) = 1 then 0 else (if A 0 (Int32.toNatClampNeg tq) = 0 then F 4 + 1 else 0)) := by
    by_cases a1 : (qX0_typeOf (A 0 (Int32.toNatClampNeg (qX0_fromOf m)))) = 1
    · rw [if_pos a1, if_pos a1]
    · rw [if_neg a1, if_neg a1]
      by_cases a2 : A 0 (Int32.toNatClampNeg tq) = 0
      · rw [if_pos a2, if_pos a2]
      · rw [if_neg a2, if_neg a2]
  rw [e1]
  generalize (if qX0_typeOf (A 0 (Int32.toNatClampNeg (qX0_fromOf m))) = 1 then (0 : Int32) else (if A 0 (Int32.toNatClampNeg tq) = 0 then F 4 + 1 else 0)) = hf
  unfold qX0_make_j150 qX0_make_j175
  rw [x1, x5]
  by_cases a : ¬ F 1 = 1
  · rw [if_pos a, if_pos a]
    refine ⟨_, rfl, ?_, x2, x3, rfl, rfl, x6⟩
    show qX0_otherThan (X 1) = _; rw [x1]; rfl
  · rw [if_neg a, if_neg a]
    refine ⟨_, rfl, ?_, x2, x3, rfl, rfl, x6⟩
    show qX0_otherThan (X 1) = _; rw [x1]; rfl
/-! rights -/
theorem cor_t : ∀ f, f < 64 → qX0_rightOfCorner (nI f) = qX1_corner (nI f) ∧ Int32.toNatClampNeg (qX1_corner (nI f)) < 9 ∧ qX1_corner (nI f) = nI (Int32.toNatClampNeg (qX1_corner (nI f))) := by decide +kernel
set_option maxRecDepth 100000 in
theorem rt_t0 : ∀ r, r < 16 → ∀ a, a < 9 → ∀ b, b < 9 → (nI r &&& ((((0 : Int32) ||| nI a) ||| nI b) ^^^ (-1))) = ((nI r &&& (nI a ^^^ (-1))) &&& (nI b ^^^ (-1))) ∧ (Int32.toNatClampNeg (nI r &&& ((((0 : Int32) ||| nI a) ||| nI b) ^^^ (-1))) ≤ 15 ∧ (nI r &&& ((((0 : Int32) ||| nI a) ||| nI b) ^^^ (-1))) = nI (Int32.toNatClampNeg (nI r &&& ((((0 : Int32) ||| nI a) ||| nI b) ^^^ (-1))))) := by decide +kernel
set_option maxRecDepth 100000 in
theorem rt_t1 : ∀ r, r < 16 → ∀ a, a < 9 → ∀ b, b < 9 → (nI r &&& ((((3 : Int32) ||| nI a) ||| nI b) ^^^ (-1))) = (((nI r &&& (((3 : Int32) <<< ((2 * (0 : Int32)) &&& 31)) ^^^ (-1))) &&& (nI a ^^^ (-1))) &&& (nI b ^^^ (-1))) ∧ (Int32.toNatClampNeg (nI r &&& ((((3 : Int32) ||| nI a) ||| nI b) ^^^ (-1))) ≤ 15 ∧ (nI r &&& ((((3 : Int32) ||| nI a) ||| nI b) ^^^ (-1))) = nI (Int32.toNatClampNeg (nI r &&& ((((3 : Int32) ||| nI a) ||| nI b) ^^^ (-1))))) := by decide +kernel
set_option maxRecDepth 100000 in
theorem rt_t2 : ∀ r, r < 16 → ∀ a, a < 9 → ∀ b, b < 9 → (nI r &&& ((((12 : Int32) ||| nI a) ||| nI b) ^^^ (-1))) = (((nI r &&& (((3 : Int32) <<< ((2 * (1 : Int32)) &&& 31)) ^^^ (-1))) &&& (nI a ^^^ (-1))) &&& (nI b ^^^ (-1))) ∧ (Int32.toNatClampNeg (nI r &&& ((((12 : Int32) ||| nI a) ||| nI b) ^^^ (-1))) ≤ 15 ∧ (nI r &&& ((((12 : Int32) ||| nI a) ||| nI b) ^^^ (-1))) = nI (Int32.toNatClampNeg (nI r &&& ((((12 : Int32) ||| nI a) ||| nI b) ^^^ (-1))))) := by decide +kernel
theorem rt_eq {p rt sd : Int32} {f t : Nat} (hp : ∃ q : Nat, q ≤ 12 ∧ p = nI q) (hsd : qX1_sideOf p = sd) (v3 : sd = 0 ∨ sd = 1) (v4 : ∃ r : Nat, r ≤ 15 ∧ rt = nI r) (hf : f < 64) (ht : t < 64) : (rt &&& ((((qX0_rightsOfKing p) ||| (qX0_rightOfCorner (nI f))) ||| (qX0_rightOfCorner (nI t))) ^^^ (-1))) = rtB (qX1_kindOf p) rt sd (qX1_corner (nI f)) (qX1_corner (nI t)) ∧ ∃ r : Nat, r ≤ 15 ∧ rtB (qX1_kindOf p) rt sd (qX1_corner (nI f)) (qX1_corner (nI t)) = nI r := by
  obtain ⟨q, hq, rfl⟩ := hp
  obtain ⟨r, hr, rfl⟩ := v4
  obtain ⟨f1, f2, -⟩ := pc_facts q hq
  obtain ⟨a1, a2, a3⟩ := cor_t f hf
  obtain ⟨b1, b2, b3⟩ := cor_t t ht
  unfold qX0_rightsOfKing rtB
  rw [f1, f2, a1, b1, a3, b3, hsd]
  obtain ⟨z1, z4⟩ := rt_t0 r (by omega) _ a2 _ b2
  obtain ⟨z2, z5⟩ := rt_t1 r (by omega) _ a2 _ b2
  obtain ⟨z3, z6⟩ := rt_t2 r (by omega) _ a2 _ b2
  by_cases c : qX1_kindOf (nI q) = 6
  · have nc : ¬ ¬ qX1_kindOf (nI q) = 6 := fun z => z c
    rw [if_pos c, if_neg nc]
    rcases v3 with rfl | rfl
    · rw [if_neg (show ¬ ¬ (0 : Int32) = 0 by decide)]
      exact ⟨z2, _, z5.1, z2.symm.trans z5.2⟩
    · rw [if_pos (show ¬ (1 : Int32) = 0 by decide)]
      exact ⟨z3, _, z6.1, z3.symm.trans z6.2⟩
  · rw [if_neg c, if_pos c]
    exact ⟨z1, _, z4.1, z1.symm.trans z4.2⟩
/-! passing -/
theorem pa_1 {F : Nat → Int32} {A : Nat → Nat → Int32} {x1 x2 : Int32} : ∀ k n : Nat, qX1_pawnAttacks_w5 F A x1 x2 k n 1 = 1 := by
  intro k
  induction k with
  | zero => intro n; rfl
  | succ k ih => intro n; rw [qX1_pawnAttacks_w5, if_pos (show ¬ (1 : Int32) = 0 by decide)]; exact ih _
theorem pp_t : ∀ n, n < 64 → qX0_pawnAttacks 0 (nI n) (nI n) = 0 ∧ qX0_pawnAttacks 1 (nI n) (nI n) = 0 := by decide +kernel
theorem pw_f {x : Int32} (h : x = 0 ∨ x = 1) : qX0_typeOf (1 + 6 * x) = 1 ∧ qX0_sideOf (1 + 6 * x) = x := by
  rcases h with rfl | rfl <;> decide
theorem pa_w {F0 F1 : Nat → Int32} {A0 A1 : Nat → Nat → Int32} (hbd : A0 0 = A1 1) (hv : ∀ j : Nat, ∃ q : Nat, q ≤ 12 ∧ A1 1 j = nI q) {g : Nat} (hg : g < 64) {x4 : Int32} (h4 : x4 = 0 ∨ x4 = 1) : ∀ (k n : Nat), n + k = 64 → qX0_passingBehind_w44 F0 A0 (nI g) x4 k n = (if qX1_pawnAttacks_w5 F1 A1 (nI g) x4 k n 0 = 0 then -1 else nI g) := by
  intro k
  induction k with
  | zero => intro n _; rfl
  | succ k ih =>
    intro n hn
    have n0 : ¬ ¬ (0 : Int32) = 0 := fun z => z rfl
    have ep : qX0_pieceOf 1 x4 = 1 + 6 * x4 := rfl
    rw [qX0_passingBehind_w44, qX1_pawnAttacks_w5, if_neg n0, nI_clamp (by omega), hbd, ep, pa_1]
    by_cases c : A1 1 n = 1 + 6 * x4
    · have nc : ¬ ¬ A1 1 n = 1 + 6 * x4 := fun z => z c
      rw [if_neg nc, if_neg nc]
      have e : qX1_attacks F1 A1 (nI n) (nI g) = qX0_pawnAttacks x4 (nI n) (nI g) := by
        rw [← att_eq (F0 := F0) hbd hv (by omega) hg]
        obtain ⟨w1, w2⟩ := pw_f h4
        by_cases z : nI n = nI g
        · have nz : ¬ ¬ nI n = nI g := fun y => y z
          unfold qX0_attacks
          rw [if_neg nz, ← z]
          rcases h4 with rfl | rfl
          · exact (pp_t n (by omega)).1.symm
          · exact (pp_t n (by omega)).2.symm
        · rw [att_pw (by rw [hbd, c]; exact w1) (by omega) z, hbd, c, w2]
      rw [e]
      by_cases c2 : qX0_pawnAttacks x4 (nI n) (nI g) = 0
      · rw [if_pos c2, if_pos c2]; exact ih _ (by omega)
      · rw [if_neg c2, if_neg c2, if_neg (show ¬ (1 : Int32) = 0 by decide)]
    · rw [if_pos c, if_pos c]; exact ih _ (by omega)
set_option maxRecDepth 100000 in
theorem pg_t0 : ∀ f, f < 64 → ∀ t, t < 64 → (nI t = nI f + onD 0 ∨ (nI t = nI f + 2 * onD 0 ∧ nI f / 8 = qX0_secondRankOf 0) ∨ ¬ qX0_pawnAttacks 0 (nI f) (nI t) = 0) → (abI (nI t - nI f) = 16 ↔ qX1_apart (nI f / 8) (nI t / 8) = 2) ∧ (qX1_apart (nI f / 8) (nI t / 8) = 2 → ¬ nI t / 8 = qX0_lastRankOf 0) := by decide +kernel
set_option maxRecDepth 100000 in
theorem pg_t1 : ∀ f, f < 64 → ∀ t, t < 64 → (nI t = nI f + onD 1 ∨ (nI t = nI f + 2 * onD 1 ∧ nI f / 8 = qX0_secondRankOf 1) ∨ ¬ qX0_pawnAttacks 1 (nI f) (nI t) = 0) → (abI (nI t - nI f) = 16 ↔ qX1_apart (nI f / 8) (nI t / 8) = 2) ∧ (qX1_apart (nI f / 8) (nI t / 8) = 2 → ¬ nI t / 8 = qX0_lastRankOf 1) := by decide +kernel
theorem kd_t : ∀ k, k < 6 → 2 ≤ k → ¬ qX0_typeOf (nI k + 6 * 0) = 1 ∧ ¬ qX0_typeOf (nI k + 6 * 1) = 1 ∧ (nI k + 6 * 0 = nI k) ∧ (nI k + 6 * 1 = nI (k + 6)) := by decide +kernel
theorem ps_eq {F0 F' : Nat → Int32} {A0 A' : Nat → Nat → Int32} {p v sd pw : Int32} {f t kd : Nat} (hf : f < 64) (ht : t < 64) (hbd : A0 0 = A' 1) (hv : ∀ j : Nat, ∃ q : Nat, q ≤ 12 ∧ A' 1 j = nI q) (hs0 : F0 1 = sd) (v3 : sd = 0 ∨ sd = 1) (hp : ∃ q : Nat, q ≤ 12 ∧ p = nI q) (hpw : (if ¬ qX1_kindOf p = 1 then (0 : Int32) else 1) = pw) (hNt : A' 1 t = v) (hvv : v = (if kd = 0 then p else nI kd + 6 * sd)) (hkd : (kd = 0 ∧ lastF (qX1_kindOf p) (nI t / 8) sd = 0) ∨ (2 ≤ kd ∧ kd ≤ 5 ∧ lastF (qX1_kindOf p) (nI t / 8) sd = 1))
    (hpg : qX1_kindOf p = 1 → nI t = nI f + onD sd ∨ (nI t = nI f + 2 * onD sd ∧ nI f / 8 = qX0_secondRankOf sd) ∨ ¬ qX0_pawnAttacks sd (nI f) (nI t) = 0) :
    qX0_passingBehind F0 A0 (nI f) (nI t) = (if pw = 0 then -1 else (if ¬ (qX1_apart (nI f / 8) (nI t / 8)) = 2 then -1 else (if qX1_pawnAttacks F' A' ((nI f + nI t) / 2) (1 - sd) = 0 then -1 else (nI f + nI t) / 2))) := by
  obtain ⟨q, hq, eq⟩ := hp
  have f1 := (pc_facts q hq).1
  rw [← eq] at f1
  unfold qX0_passingBehind
  rw [nI_clamp (by omega), hbd, hNt, hs0]
  by_cases c1 : qX1_kindOf p = 1
  · have nc1 : ¬ ¬ qX1_kindOf p = 1 := fun z => z c1
    rw [if_neg nc1] at hpw
    rw [← hpw, if_neg (show ¬ (1 : Int32) = 0 by decide)]
    have geo : (abI (nI t - nI f) = 16 ↔ qX1_apart (nI f / 8) (nI t / 8) = 2) ∧ (qX1_apart (nI f / 8) (nI t / 8) = 2 → ¬ nI t / 8 = qX0_lastRankOf sd) := by
      have := hpg c1
      rcases v3 with rfl | rfl
      · exact pg_t0 f hf t ht this
      · exact pg_t1 f hf t ht this
    rcases hkd with ⟨k0, -⟩ | ⟨k2, k5, kl⟩
    · rw [if_pos k0] at hvv
      have nt : ¬ ¬ qX0_typeOf p = 1 := fun z => z (f1.trans c1)
      rw [hvv, if_neg nt]
      by_cases c2 : qX1_apart (nI f / 8) (nI t / 8) = 2
      · have nc2 : ¬ ¬ qX1_apart (nI f / 8) (nI t / 8) = 2 := fun z => z c2
        rw [if_neg nc2, if_pos (geo.1.mpr c2), mid_ok f hf t ht]
        exact pa_w (F1 := F') hbd hv (by omega) (show (1 - sd = 0 ∨ 1 - sd = 1) by rcases v3 with rfl | rfl; exact Or.inr (by decide); exact Or.inl (by decide)) 64 0 rfl
      · rw [if_pos c2, if_neg (fun z => c2 (geo.1.mp z))]
    · rw [if_neg (by omega)] at hvv
      obtain ⟨w1, w2, -, -⟩ := kd_t kd (by omega) k2
      have nt : ¬ qX0_typeOf v = 1 := by
        rw [hvv]; rcases v3 with rfl | rfl
        · exact w1
        · exact w2
      rw [if_pos nt]
      have ha : ¬ qX1_apart (nI f / 8) (nI t / 8) = 2 := by
        intro z
        have := geo.2 z
        unfold lastF at kl
        rw [if_neg nc1, if_pos this] at kl
        exact absurd kl (by decide)
      rw [if_pos ha]
  · rw [if_pos c1] at hpw
    rw [← hpw, if_pos rfl]
    have k0 : kd = 0 := by
      rcases hkd with ⟨k0, -⟩ | ⟨-, -, kl⟩
      · exact k0
      · unfold lastF at kl
        rw [if_pos c1] at kl
        exact absurd kl (by decide)
    rw [if_pos k0] at hvv
    rw [hvv, if_pos (show ¬ qX0_typeOf p = 1 by rw [f1]; exact c1)]
