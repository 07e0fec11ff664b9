theorem p_make : pb_make := by
  intro F0 A0 F1 A1 a h
  obtain ⟨md, h1, h2, h3, hb, e1, e2, e3, e4, e5, hvd, hl⟩ := id h
  obtain ⟨v1, v2, v3, v4, v5, v6⟩ := id hvd
  have hfe := fits_eq (F0 := F0) (F1 := F1) hb v1 e1 e2 e3 v3 a
  have hfg := fits_eq (F0 := F0) (F1 := uf F1 0 0) hb v1 e1 e2 e3 v3 a
  have t1 := h.thr 1
  have t2 := h.thr 2
  by_cases cM : qX1_isMove F1 A1 a = 0
  · have nf : ¬ ¬ qX0_fits F0 A0 a = 0 := fun z => z (hfe.trans cM)
    have nM : ¬ ¬ qX1_isMove F1 A1 a = 0 := fun z => z cM
    have x0 : qX0_make F0 A0 a = (2, 0, F0, A0) := by unfold qX0_make; rw [if_neg nf]
    have x1 : qX1_make F1 A1 a = (0, uf F1 0 1, A1) := by
      unfold qX1_make qX1_make_j28; rw [if_neg nM, if_neg (show ¬ (1 : Int32) ≤ 0 by decide)]
    rw [x0, x1]
    exact ⟨Or.inr (Or.inl rfl), rfl, fun z => ((show ¬ (2 : Int32) = 0 by decide) z).elim, t1⟩
  have hfit : ¬ qX0_fits F0 A0 a = 0 := by rw [hfe]; exact cM
  by_cases c6 : md = 600
  · have n6 : ¬ F0 6 < 600 := by rw [h2, c6]; decide
    have n7 : ¬ ¬ F1 7 = 600 := fun z => z (by rw [h3, c6]; rfl)
    have x0 : qX0_make F0 A0 a = (3, 0, F0, A0) := by unfold qX0_make; rw [if_pos hfit, if_neg n6]
    have x1 : qX1_make F1 A1 a = (0, uf F1 0 2, A1) := by
      unfold qX1_make qX1_make_j28; rw [if_pos cM, if_neg n7, if_neg (show ¬ (2 : Int32) ≤ 0 by decide)]
    rw [x0, x1]
    exact ⟨Or.inr (Or.inr rfl), rfl, fun z => ((show ¬ (3 : Int32) = 0 by decide) z).elim, t2⟩
  have hmd : md < 600 := by omega
  have l6 : F0 6 < 600 := by rw [h2]; exact nI_lt (b := 600) hmd (by decide)
  have n7 : ¬ F1 7 = 600 := by rw [h3]; exact fun z => c6 ((nI_eq (b := 600) (by omega) (by decide)).mp z)
  have cG : ¬ qX1_isMove (uf F1 0 0) A1 a = 0 := by rw [← hfg]; exact hfit
  generalize hGe : uf F1 0 0 = G at hfg cG
  have g0 : G 0 = 0 := by rw [← hGe]; rfl
  have g2 : G 2 = F1 2 := by rw [← hGe]; rfl
  have g3 : G 3 = F1 3 := by rw [← hGe]; rfl
  have g4 : G 4 = F1 4 := by rw [← hGe]; rfl
  have g5 : G 5 = F1 5 := by rw [← hGe]; rfl
  have g6 : G 6 = F1 6 := by rw [← hGe]; rfl
  have g7 : G 7 = nI md := by rw [← hGe]; exact h3
  have w3 : G 2 = 0 ∨ G 2 = 1 := by rw [g2]; exact v3
  obtain ⟨m, hm, rfl, hMv⟩ := mv_f w3 cG
  obtain ⟨p1, p2, p3, p4, p5, p6⟩ := mv_parts hm
  have hf : m % 64 < 64 := Nat.mod_lt _ (by decide)
  have ht : m / 64 % 64 < 64 := Nat.mod_lt _ (by decide)
  have hkd : m / 4096 < 2 ^ 31 := by omega
  generalize m % 64 = f at *
  generalize m / 64 % 64 = t at *
  generalize m / 4096 = kd at *
  obtain ⟨kw1, kw8, kw9, kw10⟩ := kp_w (F := G) (x1 := nI m) hmd g7 64 0 A1 v1 rfl
  have kF : (qX1_keep G A1 (nI m)).1 = uf G 7 (G 7 + 1) := keep_fst
  obtain ⟨K, hK⟩ : ∃ K : tFA, qX1_keep G A1 (nI m) = K := ⟨_, rfl⟩
  have hK' : qX1_keep_w2 G (nI m) 64 0 A1 = K := hK
  rw [hK'] at kw1 kw8 kw9 kw10
  rw [hK] at kF
  obtain ⟨tq, AA, hq, hTQ, e28, hAr, hB, n1, n2, n3, n4, n5⟩ := mk_pos (F0 := F0) hb v1 v2 v6 (e1.trans g2.symm) (e3.trans g4.symm) w3 g0 hMv hf ht hkd p4 p5 p6 hK kw1
  obtain ⟨FF, xX, y0, y2, y3, ⟨F', y4', y4⟩, y5, y6, y7⟩ := mk_275 (F := K.1) (A := AA) (f := nI f) (t := nI t) (p := A1 1 f) (pw := (if ¬ qX1_kindOf (A1 1 f) = 1 then (0 : Int32) else 1)) (tk := A1 1 tq)
  rw [xX] at e28
  have x1 : qX1_make F1 A1 (nI m) = (A1 1 tq, FF, AA) := by
    have : qX1_make_j28 F1 A1 (nI m) 0 = qX1_make_j28 G A1 (nI m) 0 := by
      unfold qX1_make_j28
      rw [← hGe, uf00]
    unfold qX1_make
    rw [if_pos cM, if_pos n7, this, e28]
  obtain ⟨C, hC⟩ : ∃ C : tFA, qX0_carryOver (qX0_remember F0 A0 (nI m) (A0 0 (Int32.toNatClampNeg (nI tq))) (nI tq)).1 (qX0_remember F0 A0 (nI m) (A0 0 (Int32.toNatClampNeg (nI tq))) (nI tq)).2 (nI m) (nI tq) = C := ⟨_, rfl⟩
  have hTQ' : qX0_squareTaken F0 A0 (qX0_fromOf (nI m)) (qX0_toOf (nI m)) = nI tq := by rw [p1, p2]; exact hTQ
  obtain ⟨HH, x0, z1, z2, ⟨H', z3', z3⟩, z4, z5, z6⟩ := mk0 hfit l6 hTQ' hC
  obtain ⟨q1, q2, q3⟩ := co_s (F := (qX0_remember F0 A0 (nI m) (A0 0 (Int32.toNatClampNeg (nI tq))) (nI tq)).1) (A := (qX0_remember F0 A0 (nI m) (A0 0 (Int32.toNatClampNeg (nI tq))) (nI tq)).2) (m := nI m) (tq := nI tq)
  rw [hC] at q1 q2 q3
  rw [nI_clamp (by omega), hb] at x0
  rw [nI_clamp (by omega), hb] at q1 q2 q3
  obtain ⟨r1, r0, r7, r8, r9, r10, r11, r12⟩ := rem_s (F := F0) (A := A0) (p1 := nI m) (p2 := A1 1 tq) (p3 := nI tq) hmd h2
  rw [p1, p2, p3] at q3
  rw [p1, p2] at z2 z3
  rw [p1] at z4
  rw [nI_clamp (by omega), nI_clamp (by omega)] at q3
  rw [r0, r1, hb, show (uf F0 6 (F0 6 + 1)) 1 = G 2 by rw [g2]; exact e1, hB] at q3
  rw [nI_clamp (by omega), hb] at z2 z4
  rw [nI_clamp (by omega)] at z4
  have kf2 : K.1 2 = F1 2 := by rw [kF]; exact g2
  have kf3 : K.1 3 = F1 3 := by rw [kF]; exact g3
  have kf5 : K.1 5 = F1 5 := by rw [kF]; exact g5
  have kf6 : K.1 6 = F1 6 := by rw [kF]; exact g6
  have kf7 : K.1 7 = nI (md + 1) := by rw [kF]; show G 7 + 1 = _; rw [g7, nI_1]
  rw [kf2] at y2 y4 y6
  rw [kf2, kf3] at y3
  rw [kf5] at y5
  rw [kf6] at y6
  rw [kf7] at y7
  obtain ⟨s1, s2, hk5, hg⟩ := hMv
  rw [g2] at s1 s2 hk5
  rw [g2] at n4
  obtain ⟨rt1, rt2⟩ := rt_eq (v1 f) s1 v3 v4 hf ht
  have hft : ¬ nI f = nI t := fun z => s2 (by
    have := (nI_eq (by omega) (by omega)).mp z
    rw [← this]; exact s1)
  have hpg : qX1_kindOf (A1 1 f) = 1 → nI t = nI f + onD (F1 2) ∨ (nI t = nI f + 2 * onD (F1 2) ∧ nI f / 8 = qX0_secondRankOf (F1 2)) ∨ ¬ qX0_pawnAttacks (F1 2) (nI f) (nI t) = 0 := by
    intro hk
    have nk : ¬ ¬ qX1_kindOf (A1 1 f) = 1 := fun z => z hk
    rw [if_neg nk] at hg
    have := pg_f w3 hg
    rw [g2] at this
    rcases this with w | w | w
    · exact Or.inl w
    · exact Or.inr (Or.inl w)
    · refine Or.inr (Or.inr ?_)
      have hat : qX1_attacks G A1 (nI f) (nI t) = qX0_pawnAttacks (F1 2) (nI f) (nI t) := by
        rw [← att_eq (F0 := F0) hb v1 hf ht, att_pw (by rw [ty_eq hb v1]; exact hk) hf hft, sd_eq hb v1, s1]
      rw [← hat]; exact w
  have hps := ps_eq (F0 := H') (F' := F') (A0 := C.2) (A' := AA) hf ht q3 n1 (z3'.trans e1) v3 (v1 f) rfl n4 rfl hk5 hpg
  have hpE : HH 3 = FF 4 := by rw [z3, hps, y4]
  have hpV : FF 4 = -1 ∨ ∃ q : Nat, q < 64 ∧ FF 4 = nI q := by
    rw [y4, mid_ok f hf t ht]
    by_cases a1 : (if ¬ qX1_kindOf (A1 1 f) = 1 then (0 : Int32) else 1) = 0
    · rw [if_pos a1]; exact Or.inl rfl
    rw [if_neg a1]
    by_cases a2 : ¬ qX1_apart (nI f / 8) (nI t / 8) = 2
    · rw [if_pos a2]; exact Or.inl rfl
    rw [if_neg a2]
    by_cases a3 : qX1_pawnAttacks F' AA (nI ((f + t) / 2)) (1 - F1 2) = 0
    · rw [if_pos a3]; exact Or.inl rfl
    rw [if_neg a3]
    exact Or.inr ⟨_, by omega, rfl⟩
  have tyf := ty_eq hb v1 f
  rw [hb] at tyf
  have hhf : HH 4 = FF 5 := by
    rw [z4, y5, tyf, e4]
    by_cases a1 : qX1_kindOf (A1 1 f) = 1
    · have na1 : ¬ ¬ qX1_kindOf (A1 1 f) = 1 := fun z => z a1
      rw [if_pos a1, if_neg na1, if_pos (show ¬ (1 : Int32) = 0 by decide)]
    · rw [if_neg a1, if_pos a1, if_neg (show ¬ ¬ (0 : Int32) = 0 by decide)]
      obtain ⟨q, hq12, eqq⟩ := v1 tq
      rw [eqq]
      by_cases a2 : nI q = 0
      · rw [if_pos a2, if_pos ((nI_le0 hq12).mpr a2)]
      · rw [if_neg a2, if_neg (fun z => a2 ((nI_le0 hq12).mp z))]
  have hfl : HH 5 = FF 6 := by
    rw [z5, y6, e5, e1]
    rcases v3 with w | w
    · rw [w, if_pos (show ¬ (0 : Int32) = 1 by decide), Int32.add_zero]
    · rw [w, if_neg (show ¬ ¬ (1 : Int32) = 1 by decide)]
  have hS : sB AA md = A1 1 := by
    funext j
    unfold sB
    by_cases w : j < 64
    · rw [if_pos w, hAr 9 (by decide), kw9, if_pos (by omega), show 64 * md + j - 64 * md = j by omega]
    · rw [if_neg w]; exact (v2 j (by omega)).symm
  have hSk : ∀ i : Nat, i < md → sB AA i = sB A1 i := by
    intro i hi
    funext j
    unfold sB
    by_cases w : j < 64
    · rw [if_pos w, if_pos w, hAr 9 (by decide), kw9, if_neg (by omega)]
    · rw [if_neg w, if_neg w]
  have hT0 : AA 10 (5 * md) = F1 2 := by
    rw [hAr 10 (by decide), kw10, pk_un (by omega), pk_un (by omega), pk_un (by omega), pk_un (by omega), pk_us]; exact g2
  have hT1 : AA 10 (5 * md + 1) = F1 3 := by
    rw [hAr 10 (by decide), kw10, pk_un (by omega), pk_un (by omega), pk_un (by omega), pk_us]; exact g3
  have hT2 : AA 10 (5 * md + 2) = F1 4 := by
    rw [hAr 10 (by decide), kw10, pk_un (by omega), pk_un (by omega), pk_us]; exact g4
  have hT3 : AA 10 (5 * md + 3) = F1 5 := by
    rw [hAr 10 (by decide), kw10, pk_un (by omega), pk_us]; exact g5
  have hT4 : AA 10 (5 * md + 4) = F1 6 := by
    rw [hAr 10 (by decide), kw10, pk_us]; exact g6
  have hTk : ∀ i : Nat, i < 5 * md → AA 10 i = A1 10 i := by
    intro i hi
    rw [hAr 10 (by decide), kw10, pk_un (by omega), pk_un (by omega), pk_un (by omega), pk_un (by omega), pk_un (by omega)]
  have c7 : C.2 7 = upd (A0 7) md (nI m) := (q2 7 (by decide)).trans r7
  have c8 : C.2 8 = upd (A0 8) md (A1 1 tq) := (q2 8 (by decide)).trans r8
  have c9 : C.2 9 = upd (A0 9) md (nI tq) := (q2 9 (by decide)).trans r9
  have c10 : C.2 10 = upd (A0 10) md (F0 2) := (q2 10 (by decide)).trans r10
  have c11 : C.2 11 = upd (A0 11) md (F0 3) := (q2 11 (by decide)).trans r11
  have c12 : C.2 12 = upd (A0 12) md (F0 4) := (q2 12 (by decide)).trans r12
  rw [x0, x1]
  refine ⟨Or.inl rfl, ?_, fun _ => rfl, ?_⟩
  · show FF 0 = 0
    rw [y0, kF]; exact g0
  · show Inv HH C.2 FF AA
    refine ⟨md + 1, by omega, ?_, y7, q3, ?_, ?_, hpE, hhf, hfl, ?_, ?_⟩
    · rw [z6, h2, nI_1]
    · rw [z1, y2, e1]
    · rw [z2, y3, e2]; exact rt1
    · refine ⟨n1, n2, ?_, ?_, hpV, n3⟩
      · rw [y2]; rcases v3 with w | w
        · rw [w]; exact Or.inr (by decide)
        · rw [w]; exact Or.inl (by decide)
      · rw [y3]; exact rt2
    · intro k hk
      by_cases ck : k = md
      · subst ck
        rw [if_pos rfl, if_pos rfl, if_pos rfl]
        unfold Lev
        rw [hS, hT0, hT1, hT2, hT3, hT4, c7, c8, c9, c10, c11, c12, pk_us, pk_us, pk_us, pk_us, pk_us, pk_us]
        have a8 : AA 8 k = nI m := by rw [hAr 8 (by decide), kw8, pk_us]
        rw [a8]
        refine ⟨rfl, vp_in_nI hq (by decide), hvd, e2, e3, e4, ?_, ?_, ?_⟩
        · rw [y2]; rcases v3 with w | w <;> rw [w] <;> decide
        · rw [y2, y6]; rcases v3 with w | w
          · rw [w, if_neg (show ¬ (1 - (1 - (0 : Int32))) = 1 by decide), Int32.add_zero]
          · rw [w, if_pos (show (1 - (1 - (1 : Int32))) = 1 by decide), Int32.add_sub_cancel]
        · rw [cbB_eq, p1, p2, p3, nI_clamp (by omega), ← g2]; exact n5
      · have hk2 : k < md := by omega
        rw [if_neg (by omega), if_neg (by omega), if_neg (by omega)]
        have old := hl k hk2
        have o1 : (if k + 1 = md then A1 1 else sB A1 (k + 1)) = sB AA (k + 1) := by
          by_cases w : k + 1 = md
          · rw [if_pos w, w, hS]
          · rw [if_neg w, hSk (k + 1) (by omega)]
        have o2 : (if k + 1 = md then F1 2 else A1 10 (5 * (k + 1))) = AA 10 (5 * (k + 1)) := by
          by_cases w : k + 1 = md
          · rw [if_pos w, w, hT0]
          · rw [if_neg w, hTk _ (by omega)]
        have o3 : (if k + 1 = md then F1 6 else A1 10 (5 * (k + 1) + 4)) = AA 10 (5 * (k + 1) + 4) := by
          by_cases w : k + 1 = md
          · rw [if_pos w, w, hT4]
          · rw [if_neg w, hTk _ (by omega)]
        rw [o1, o2, o3] at old
        refine old.cong2 ?_ ?_ ?_ ?_ ?_ ?_ ?_ (hSk k hk2) (fun j hj => hTk _ (by omega))
        · rw [c7, pk_un ck]
        · rw [c8, pk_un ck]
        · rw [c9, pk_un ck]
        · rw [c10, pk_un ck]
        · rw [c11, pk_un ck]
        · rw [c12, pk_un ck]
        · rw [hAr 8 (by decide), kw8, pk_un ck]
