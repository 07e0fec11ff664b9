/-! make: all together. -/
theorem uf00 (F : Nat → Int32) : uf (uf F 0 0) 0 0 = uf F 0 0 := by
  funext j
  unfold uf upd
  by_cases z : j = 0
  · rw [if_pos z, if_pos z]
  · rw [if_neg z, if_neg z]
theorem mk_pos {F0 G : Nat → Int32} {A0 A1 : Nat → Nat → Int32} {m f t kd : Nat} {K : tFA} (hbd : A0 0 = A1 1) (hv : Pv (A1 1)) (hz : ∀ j : Nat, 64 ≤ j → A1 1 j = 0) (hcn : cnt (A1 1) 64 ≤ 32) (e1 : F0 1 = G 2) (e3 : F0 3 = G 4) (v3 : G 2 = 0 ∨ G 2 = 1) (g0 : G 0 = 0) (hM : MvF G A1 f t kd) (hf : f < 64) (ht : t < 64) (hkd : kd < 2 ^ 31)
    (ef : nI m - nI m / 64 * 64 = nI f) (et : (nI m / 64) - (nI m / 64) / 64 * 64 = nI t) (ek : nI m / 4096 = nI kd) (hK : qX1_keep G A1 (nI m) = K) (hK1 : K.2 1 = A1 1) :
    ∃ (tq : Nat) (AA : Nat → Nat → Int32), tq < 64 ∧ qX0_squareTaken F0 A0 (nI f) (nI t) = nI tq ∧
      qX1_make_j28 G A1 (nI m) 0 = qX1_make_j275 K.1 AA (nI f) (nI t) (A1 1 f) (if ¬ qX1_kindOf (A1 1 f) = 1 then (0 : Int32) else 1) (A1 1 tq) ∧ (∀ r : Nat, ¬ r = 1 → AA r = K.2 r) ∧
      bdP (if qX0_isCastling (A1 1 f) (nI f) (nI t) = 0 then A1 1 else shB (A1 1) (qX0_cornerBeyond (nI f) (nI t)) ((nI f + nI t) / 2)) tq f t (if ¬ nI kd = 0 then qX0_pieceOf (nI kd) (G 2) else A1 1 f) = AA 1 ∧
      Pv (AA 1) ∧ (∀ j : Nat, 64 ≤ j → AA 1 j = 0) ∧ cnt (AA 1) 64 ≤ 32 ∧ AA 1 t = (if kd = 0 then A1 1 f else nI kd + 6 * G 2) ∧
      cb37 (AA 1) (A1 1 tq) (nI tq) (nI f) (nI t) (if ¬ nI kd = 0 then qX0_pieceOf 1 (G 2) else AA 1 t) = A1 1 := by
  obtain ⟨s1, s2, hk5, hg⟩ := hM
  have hft : ¬ nI f = nI t := fun z => s2 (by
    have := (nI_eq (by omega) (by omega)).mp z
    rw [← this]; exact s1)
  have hft' : ¬ f = t := fun z => hft (by rw [z])
  have h0 : ¬ A1 1 f = 0 := by
    intro z
    rw [z] at s1
    rcases v3 with h | h
    · rw [h] at s1; exact absurd s1 (by decide)
    · rw [h] at s1; exact absurd s1 (by decide)
  generalize hpw : (if ¬ qX1_kindOf (A1 1 f) = 1 then (0 : Int32) else 1) = pw
  obtain ⟨cs, hcs⟩ : ∃ cs : Int32, (if ¬ qX1_kindOf (A1 1 f) = 6 then (0 : Int32) else (if ¬ qX1_attacks G A1 (nI f) (nI t) = 0 then 0 else 1)) = cs := ⟨_, rfl⟩
  obtain ⟨ep, hep⟩ : ∃ ep : Int32, (if pw = 0 then (0 : Int32) else (if qX1_takesPassing G A1 (nI f) (nI t) = 0 then 0 else 1)) = ep := ⟨_, rfl⟩
  have hbeh : (if ¬ G 2 = 0 then nI t + 8 else nI t - 8) = nI t - onD (G 2) := by
    rcases v3 with h | h
    · have nh : ¬ ¬ G 2 = 0 := fun z => z h
      rw [if_neg nh, h]; rfl
    · have nh : ¬ G 2 = 0 := by rw [h]; decide
      rw [if_pos nh, h, Int32.sub_eq_add_neg]; rfl
  have hep2 : ¬ ep = 0 → qX1_kindOf (A1 1 f) = 1 ∧ ¬ qX1_takesPassing G A1 (nI f) (nI t) = 0 := by
    intro z
    rw [← hep] at z
    refine ne_ite z (fun _ h => absurd rfl h) (fun y h => ne_ite h (fun _ h => absurd rfl h) (fun y2 _ => ⟨?_, y2⟩))
    rw [← hpw] at y
    exact ne_ite y (fun _ h => absurd rfl h) (fun y3 _ => Decidable.not_not.mp y3)
  obtain ⟨tq, hq, etq, hqf, hqt, hqe⟩ : ∃ tq : Nat, tq < 64 ∧ (if ep = 0 then nI t else nI t - onD (G 2)) = nI tq ∧ (¬ tq = f) ∧ (tq = t ∨ A1 1 t = 0) ∧ (¬ qX1_kindOf (A1 1 f) = 1 → tq = t) := by
    by_cases c : ep = 0
    · exact ⟨t, ht, by rw [if_pos c], fun z => hft' z.symm, Or.inl rfl, fun _ => rfl⟩
    · obtain ⟨k1, k2⟩ := hep2 c
      obtain ⟨y1, b, hb, eb, y2⟩ := tp_f ht v3 k2
      refine ⟨b, hb, by rw [if_neg c]; exact eb, fun z => ?_, Or.inr y1, fun z => absurd k1 z⟩
      rw [z] at y2
      rw [y2] at s1
      exact sd_7 v3 s1
  have hTQ : qX0_squareTaken F0 A0 (nI f) (nI t) = nI tq := by
    rw [← etq]
    unfold qX0_squareTaken qX0_squareTaken_j30
    rw [nI_clamp (by omega), ty_eq hbd hv]
    by_cases c1 : qX1_kindOf (A1 1 f) = 1
    · have nc1 : ¬ ¬ qX1_kindOf (A1 1 f) = 1 := fun z => z c1
      have hpw1 : pw = 1 := by rw [← hpw, if_neg nc1]
      have tpe := tp_eq (F0 := F0) hbd hv hf ht hft e1 e3 v3 c1 s1
      rw [if_neg nc1]
      have hep1 : (if qX1_takesPassing G A1 (nI f) (nI t) = 0 then (0 : Int32) else 1) = ep := by
        rw [← hep, hpw1, if_neg (show ¬ (1 : Int32) = 0 by decide)]
      by_cases c2 : qX0_pawnAttacks (F0 1) (nI f) (nI t) = 0
      · rw [if_pos c2] at tpe
        rw [← tpe, if_pos rfl] at hep1
        rw [if_pos c2, if_pos rfl, if_pos hep1.symm]
      · rw [if_neg c2] at tpe
        rw [if_neg c2, if_neg (show ¬ (1 : Int32) = 0 by decide), tpe]
        by_cases c3 : qX1_takesPassing G A1 (nI f) (nI t) = 0
        · rw [if_pos c3] at hep1
          rw [if_pos c3, if_pos hep1.symm]
        · rw [if_neg c3] at hep1
          rw [if_neg c3, if_neg (show ¬ ep = 0 by rw [← hep1]; decide)]
          unfold qX0_squareBehind onD
          rw [e1]
    · have hpw0 : pw = 0 := by rw [← hpw, if_pos c1]
      have hep0 : ep = 0 := by rw [← hep, if_pos hpw0]
      rw [if_pos c1, if_pos rfl, if_pos hep0]
  have eG : uf G 0 0 = G := by
    funext j
    unfold uf upd
    by_cases z : j = 0
    · rw [if_pos z, z, g0]
    · rw [if_neg z]
  have e28 := mk_28 (F := G) (A := A1) (x1 := nI m) (kd := kd) hf ht ef et ek hpw hcs hep hbeh g0
  rw [eG, hK, etq, hK1, nI_clamp (by omega)] at e28
  have etk : (if ep = 0 then A1 1 t else A1 1 (Int32.toNatClampNeg (nI t - onD (G 2)))) = A1 1 tq := by
    by_cases c : ep = 0
    · rw [if_pos c] at etq ⊢
      rw [(nI_eq (by omega) (by omega)).mp etq]
    · rw [if_neg c] at etq ⊢
      rw [etq, nI_clamp (by omega)]
  rw [etk] at e28
  have kd0 : nI kd = 0 ↔ kd = 0 := nI_eq (b := 0) hkd (by decide)
  have kdl : nI kd ≤ 0 ↔ kd = 0 := by
    have := nI_leI (b := 0) hkd (by decide)
    constructor
    · intro z; have := this.mp z; omega
    · intro z; exact this.mpr (by omega)
  have ev : (if nI kd ≤ 0 then A1 1 f else nI kd + 6 * G 2) = (if kd = 0 then A1 1 f else nI kd + 6 * G 2) := by
    by_cases c : kd = 0
    · rw [if_pos (kdl.mpr c), if_pos c]
    · rw [if_neg (fun z => c (kdl.mp z)), if_neg c]
  have ev0 : (if ¬ nI kd = 0 then qX0_pieceOf (nI kd) (G 2) else A1 1 f) = (if kd = 0 then A1 1 f else nI kd + 6 * G 2) := by
    by_cases c : kd = 0
    · have nc : ¬ ¬ nI kd = 0 := fun z => z (kd0.mpr c)
      rw [if_neg nc, if_pos c]
    · rw [if_pos (fun z => c (kd0.mp z)), if_neg c]; rfl
  rw [ev, mk_228 hf ht] at e28
  rw [ev0]
  have hvv : ∃ q : Nat, q ≤ 12 ∧ (if kd = 0 then A1 1 f else nI kd + 6 * G 2) = nI q := by
    rcases hk5 with ⟨k0, -⟩ | ⟨k2, k5, -⟩
    · rw [if_pos k0]; exact hv f
    · rw [if_neg (by omega)]
      obtain ⟨-, -, w1, w2⟩ := kd_t kd (by omega) k2
      rcases v3 with h | h
      · rw [h]; exact ⟨kd, by omega, w1⟩
      · rw [h]; exact ⟨kd + 6, by omega, w2⟩
  obtain ⟨q, hq12, eq⟩ := hv f
  have hs0 : ∀ NB : Nat → Int32, NB t = (if kd = 0 then A1 1 f else nI kd + 6 * G 2) → (if ¬ nI kd = 0 then qX0_pieceOf 1 (G 2) else NB t) = A1 1 f := by
    intro NB hN
    by_cases c : kd = 0
    · have nc : ¬ ¬ nI kd = 0 := fun z => z (kd0.mpr c)
      rw [if_neg nc, hN, if_pos c]
    · rw [if_pos (fun z => c (kd0.mp z))]
      have hk1 : qX1_kindOf (A1 1 f) = 1 := by
        rcases hk5 with ⟨k0, -⟩ | ⟨-, -, kl⟩
        · exact absurd k0 c
        · unfold lastF at kl
          by_cases z : qX1_kindOf (A1 1 f) = 1
          · exact z
          · rw [if_pos z] at kl; exact absurd kl (by decide)
      rw [eq] at hk1 s1 ⊢
      obtain ⟨w1, w2⟩ := pawn_p q (by omega) hk1
      rcases v3 with h | h
      · rw [h] at s1 ⊢; exact (w1 s1).symm
      · rw [h] at s1 ⊢; exact (w2 s1).symm
  have tyf := ty_eq hbd hv f
  rw [hbd] at tyf
  by_cases cc : cs = 0
  · -- no rook moves
    have hnc : qX0_isCastling (A1 1 f) (nI f) (nI t) = 0 := by
      unfold qX0_isCastling
      rw [tyf]
      by_cases c6 : qX1_kindOf (A1 1 f) = 6
      · have nc6 : ¬ ¬ qX1_kindOf (A1 1 f) = 6 := fun z => z c6
        rw [if_neg nc6]
        by_cases ca : qX1_attacks G A1 (nI f) (nI t) = 0
        · have nca : ¬ ¬ qX1_attacks G A1 (nI f) (nI t) = 0 := fun z => z ca
          rw [if_neg nc6, if_neg nca, cc] at hcs
          exact absurd hcs (by decide)
        · have : qX0_isTwoFilesAway (nI f) (nI t) = 0 := by
            refine Decidable.byContradiction fun z => ca (att_k hf ht c6 hft (two_f f hf t ht z))
          rw [if_pos this]
      · rw [if_pos c6]
    rw [if_pos cc] at e28
    obtain ⟨n1, n2, n3, n4, n5⟩ := nb_A (v := (if kd = 0 then A1 1 f else nI kd + 6 * G 2)) hf ht hq hft' hqf hqt hv hz hcn h0 hvv hnc
    have hA : (ua (ua (ua K.2 1 tq 0) 1 f 0) 1 t (if kd = 0 then A1 1 f else nI kd + 6 * G 2)) 1 = bdP (A1 1) tq f t (if kd = 0 then A1 1 f else nI kd + 6 * G 2) := by
      rw [ua_s, ua_s, ua_s, hK1]; rfl
    refine ⟨tq, _, hq, hTQ, e28, fun r hr => by rw [ua_n hr, ua_n hr, ua_n hr], ?_, ?_, ?_, ?_, ?_, ?_⟩
    · rw [if_pos hnc, hA]
    · rw [hA]; exact n1
    · rw [hA]; exact n2
    · rw [hA]; exact n3
    · rw [hA]; exact n4
    · rw [hA, hs0 _ n4]; exact n5
  · -- castling
    have hc6 : qX1_kindOf (A1 1 f) = 6 ∧ qX1_attacks G A1 (nI f) (nI t) = 0 := by
      rw [← hcs] at cc
      refine ne_ite cc (fun _ h => absurd rfl h) (fun y h => ne_ite h (fun _ h => absurd rfl h) (fun y2 _ => ⟨Decidable.not_not.mp y, Decidable.not_not.mp y2⟩))
    obtain ⟨c6, ca⟩ := hc6
    have nk1 : ¬ qX1_kindOf (A1 1 f) = 1 := by rw [c6]; decide
    have nc6 : ¬ ¬ qX1_kindOf (A1 1 f) = 6 := fun z => z c6
    have nca : ¬ ¬ qX1_attacks G A1 (nI f) (nI t) = 0 := fun z => z ca
    have hcastle : ¬ qX1_castles G A1 (nI f) (nI t) = 0 := by
      rw [if_pos nk1, if_neg nca, if_neg nc6] at hg
      exact ne_ite hg (fun _ h => absurd rfl h) (fun y _ => y)
    obtain ⟨c, g, hd, bg0, bt0⟩ := cas_f hf ht v3 hcastle
    obtain ⟨⟨c64, g64, d1, d2, d3, d4, d5, d6⟩, hcor, hmid, hrk, htwo⟩ := cas_g hd
    have k0 : kd = 0 := by
      rcases hk5 with ⟨k0, -⟩ | ⟨-, -, kl⟩
      · exact k0
      · unfold lastF at kl
        rw [if_pos nk1] at kl; exact absurd kl (by decide)
    have eqt := hqe nk1
    subst eqt
    have hcas : ¬ qX0_isCastling (A1 1 f) (nI f) (nI tq) = 0 := by
      unfold qX0_isCastling
      rw [tyf, if_neg nc6, if_neg htwo]; decide
    rw [if_neg cc, hrk, hmid, nI_clamp (by omega), nI_clamp (by omega)] at e28
    obtain ⟨n0, n1, n2, n3, n4, n5, n6⟩ := nb_B hf ht c64 g64 d1 d2 d3 d4 d5 d6 bg0 bt0 hv hz hcn h0 hcor hmid hcas
    rw [if_pos k0] at e28 hs0 ⊢
    have hA1 : (ua (ua (ua K.2 1 tq 0) 1 f 0) 1 tq (A1 1 f)) 1 = bdP (A1 1) tq f tq (A1 1 f) := by
      rw [ua_s, ua_s, ua_s, hK1]; rfl
    have hA : (ua (ua (ua (ua (ua K.2 1 tq 0) 1 f 0) 1 tq (A1 1 f)) 1 g ((ua (ua (ua K.2 1 tq 0) 1 f 0) 1 tq (A1 1 f)) 1 c)) 1 c 0) 1 = bdP (bdC (A1 1) g c) tq f tq (A1 1 f) := by
      rw [ua_s, ua_s, hA1]; exact n1
    refine ⟨tq, _, hq, hTQ, e28, fun r hr => by rw [ua_n hr, ua_n hr, ua_n hr, ua_n hr, ua_n hr], ?_, ?_, ?_, ?_, ?_, ?_⟩
    · rw [if_neg hcas, hcor, hmid, n0, hA]
    · rw [hA]; exact n2
    · rw [hA]; exact n3
    · rw [hA]; exact n4
    · rw [hA]; exact n5
    · rw [hA, hs0 _ n5]; exact n6
