/-! put and look -/
theorem vd_upd {bd : Nat → Int32} {sd rt ps : Int32} {i q : Nat} (h : Vd bd sd rt ps) (hi : i < 64) (hq : q ≤ 12) (hc : cnt (upd bd i (nI q)) 64 ≤ 32) : Vd (upd bd i (nI q)) sd rt ps := by
  obtain ⟨v1, v2, v3, v4, v5, v6⟩ := h
  refine ⟨fun j => ?_, fun j hj => ?_, v3, v4, v5, hc⟩
  · by_cases z : j = i
    · subst z; exact ⟨q, hq, pk_us⟩
    · rw [pk_un z]; exact v1 j
  · rw [pk_un (by omega)]; exact v2 j hj
theorem p_put : pb_put := by
  intro F0 A0 F1 A1 a b h
  obtain ⟨v1, v2, v3, v4, v5, v6⟩ := id h.vd
  obtain ⟨e1, e2, e3, e4, e5, e6⟩ := h.e1
  have t1 := h.thr 1
  have t2 := h.thr 2
  have t3 := h.thr 3
  have hsq : qX1_isSquare a = qX0_isSquare a := rfl
  unfold qX0_put qX1_put qX0_put_j27
  rw [hsq]
  by_cases c1 : qX0_isSquare a = 0
  · rw [if_neg (fun z => z c1), if_neg (fun z => z c1)]
    exact ⟨Or.inr (Or.inl rfl), rfl, t1⟩
  rw [if_pos c1, if_pos c1]
  by_cases c2 : b < 0
  · rw [if_pos c2, if_pos c2]
    exact ⟨Or.inr (Or.inr (Or.inl rfl)), rfl, t2⟩
  rw [if_neg c2, if_neg c2]
  by_cases c3 : ¬ b ≤ 12
  · rw [if_neg c3, if_neg c3]
    exact ⟨Or.inr (Or.inr (Or.inl rfl)), rfl, t2⟩
  have c3 := Decidable.not_not.mp c3
  rw [if_pos c3, if_pos c3]
  obtain ⟨q, hq, rfl⟩ := i_rng (n := 12) c2 c3 (by decide)
  obtain ⟨i, hi, rfl⟩ := in_cases (inSq c1)
  have key : cnt (upd (A1 1) i (nI q)) 64 ≤ 32 → ((qX0_put_j69 F0 A0 (nI i) (nI q)).1 = 0 ∨ (qX0_put_j69 F0 A0 (nI i) (nI q)).1 = 1 ∨ (qX0_put_j69 F0 A0 (nI i) (nI q)).1 = 2 ∨ (qX0_put_j69 F0 A0 (nI i) (nI q)).1 = 3) ∧ qX1_thrown (qX1_put_j66 (uf F1 0 0) A1 (nI i) (nI q) 0).1 (qX1_put_j66 (uf F1 0 0) A1 (nI i) (nI q) 0).2 = (if (qX0_put_j69 F0 A0 (nI i) (nI q)).1 = 0 then 0 else (if (qX0_put_j69 F0 A0 (nI i) (nI q)).1 = 1 then 1 else (if (qX0_put_j69 F0 A0 (nI i) (nI q)).1 = 2 then 2 else 3))) ∧ Inv (aft (qX0_put_j69 F0 A0 (nI i) (nI q)).1 (qX0_put_j69 F0 A0 (nI i) (nI q)).2 F0 A0).1 (aft (qX0_put_j69 F0 A0 (nI i) (nI q)).1 (qX0_put_j69 F0 A0 (nI i) (nI q)).2 F0 A0).2 (qX1_put_j66 (uf F1 0 0) A1 (nI i) (nI q) 0).1 (qX1_put_j66 (uf F1 0 0) A1 (nI i) (nI q) 0).2 := by
    intro hc
    refine ⟨Or.inl rfl, rfl, ?_⟩
    refine Inv.zero (F0 := uf F0 6 0) (A0 := ua A0 0 (Int32.toNatClampNeg (nI i)) (nI q)) (F1 := uf (uf (uf F1 0 0) 0 0) 7 0) (A1 := ua A1 1 (Int32.toNatClampNeg (nI i)) (nI q)) rfl rfl ?_ e1 e2 e3 e4 e5 ?_
    · rw [ua_s, ua_s, h.bd]
    · rw [ua_s, nI_clamp (by omega)]
      exact vd_upd h.vd hi hq hc
  have hcu := cnt_u (bd := A1 1) (x := nI q) hi
  have hw : ∀ x : Int32, w1 x ≤ 1 := fun x => by unfold w1; split <;> decide
  have hwq := hw (nI q)
  unfold qX1_put_j27
  rw [if_pos (show (0 : Int32) ≤ 0 by decide), nI_clamp (by omega), h.bd]
  by_cases c4 : nI q = 0
  · rw [if_pos c4, if_pos ((nI_le0 hq).mpr c4)]
    refine key ?_
    have : w1 (nI q) = 0 := by unfold w1; rw [if_pos c4]
    omega
  rw [if_neg c4, if_neg (fun z => c4 ((nI_le0 hq).mp z))]
  by_cases c5 : A1 1 i = 0
  · have nc5 : ¬ ¬ A1 1 i = 0 := fun z => z c5
    rw [if_neg nc5, if_neg nc5, pob, h.bd, pcs_eq v1]
    by_cases c6 : cnt (A1 1) 64 = 32
    · rw [c6, if_neg (show ¬ nI 32 < 32 by decide), if_neg (show ¬ ¬ nI 32 = 32 from fun z => z rfl)]
      exact ⟨Or.inr (Or.inr (Or.inr rfl)), rfl, t3⟩
    · rw [if_pos (show nI (cnt (A1 1) 64) < 32 from nI_lt (b := 32) (by omega) (by decide)), if_pos (show ¬ nI (cnt (A1 1) 64) = 32 from fun z => c6 ((nI_eq (b := 32) (by omega) (by decide)).mp z))]
      refine key ?_
      omega
  · rw [if_pos c5, if_pos c5]
    refine key ?_
    have : w1 (A1 1 i) = 1 := by unfold w1; rw [if_neg c5]
    omega
theorem p_look : pb_look := by
  intro F0 A0 F1 A1 a h
  obtain ⟨v1, v2, v3, v4, v5, v6⟩ := id h.vd
  obtain ⟨e1, e2, e3, e4, e5, e6⟩ := h.e1
  have t0 := h.thr 0
  unfold qX0_look qX1_look
  by_cases c0 : a = 0
  · rw [if_pos c0, if_pos c0]; exact ⟨e1, t0⟩
  rw [if_neg c0, if_neg c0]
  by_cases c1 : a = 1
  · rw [if_pos c1, if_pos c1]; exact ⟨e2, t0⟩
  rw [if_neg c1, if_neg c1]
  by_cases c2 : a = 2
  · rw [if_pos c2, if_pos c2]; exact ⟨e3, t0⟩
  rw [if_neg c2, if_neg c2]
  by_cases c3 : a = 3
  · rw [if_pos c3, if_pos c3]; exact ⟨e4, t0⟩
  rw [if_neg c3, if_neg c3]
  by_cases c4 : a = 4
  · rw [if_pos c4, if_pos c4]; exact ⟨e5, t0⟩
  rw [if_neg c4, if_neg c4]
  by_cases c5 : a = 5
  · rw [if_pos c5, if_pos c5]
    refine ⟨?_, t0⟩
    rw [pob, h.bd]; exact (pcs_eq v1).symm
  rw [if_neg c5, if_neg c5]
  by_cases c6 : a = 6
  · rw [if_pos c6, if_pos c6]; exact ⟨e6, t0⟩
  rw [if_neg c6, if_neg c6]
  by_cases c7 : a = 7
  · rw [if_pos c7, if_pos c7, c7, show (7 : Int32) - 7 = 0 from rfl]
    exact ⟨mat_eq h.bd v1, t0⟩
  rw [if_neg c7, if_neg c7]
  by_cases c8 : a = 8
  · rw [if_pos c8, if_pos c8, c8, show (8 : Int32) - 7 = 1 from rfl]
    exact ⟨mat_eq h.bd v1, t0⟩
  rw [if_neg c8, if_neg c8]
  exact ⟨rfl, t0⟩
