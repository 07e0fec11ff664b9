/-- whether a pawn comes to its last rank -/
def lastF (kd rk sd : Int32) : Int32 := if ¬ kd = 1 then 0 else (if ¬ rk = qX0_lastRankOf sd then 0 else 1)
theorem lastF01 {a b c : Int32} : lastF a b c = 0 ∨ lastF a b c = 1 := by
  unfold lastF
  exact b_ite (Or.inl rfl) (b_ite (Or.inl rfl) (Or.inr rfl))
theorem bec_eq {x y z : Int32} {p : Int32} (hx : qX0_typeOf p = x) (hs : qX0_sideOf p = y) {t : Nat} (ht : t < 64) : qX0_becomesWhatItMay p (nI t) z = qX0_becomesWhatItMay_j27 z (lastF x (nI t / 8) y) := by
  unfold qX0_becomesWhatItMay lastF
  rw [hx, hs, rk_t t ht]
  by_cases c : ¬ x = 1
  · rw [if_pos c, if_pos c]
  · rw [if_neg c, if_neg c]
    by_cases c2 : ¬ nI t / 8 = qX0_lastRankOf y
    · rw [if_pos c2, if_pos c2]
    · rw [if_neg c2, if_neg c2]
theorem mv_l {F1 : Nat → Int32} {A1 : Nat → Nat → Int32} {f t kd : Nat} {x : Int32} (v3 : F1 2 = 0 ∨ F1 2 = 1) : (if ¬ x = 1 then (qX1_isMove_j81 F1 A1 (nI f) (nI t) (nI kd) 0) else (if ¬ (F1 2) = 0 then (qX1_isMove_j73 F1 A1 (nI f) (nI t) (nI kd) 0 (nI t / 8)) else (qX1_isMove_j73 F1 A1 (nI f) (nI t) (nI kd) 7 (nI t / 8)))) = qX1_isMove_j81 F1 A1 (nI f) (nI t) (nI kd) (lastF x (nI t / 8) (F1 2)) := by
  unfold lastF
  by_cases c : ¬ x = 1
  · rw [if_pos c, if_pos c]
  · rw [if_neg c, if_neg c]
    unfold qX1_isMove_j73
    rcases v3 with h | h
    · have nh : ¬ ¬ F1 2 = 0 := fun z => z h
      rw [if_neg nh, h, show qX0_lastRankOf 0 = 7 by decide]
      by_cases c2 : ¬ nI t / 8 = 7
      · rw [if_pos c2, if_pos c2]
      · rw [if_neg c2, if_neg c2]
    · have nh : ¬ F1 2 = 0 := by rw [h]; decide
      rw [if_pos nh, h, show qX0_lastRankOf 1 = 0 by decide]
      by_cases c2 : ¬ nI t / 8 = 0
      · rw [if_pos c2, if_pos c2]
      · rw [if_neg c2, if_neg c2]
/-- the kind asked for and the last rank: both sides alike -/
theorem kd_eq {kd : Nat} {L G : Int32} (hkd : kd < 2 ^ 31) (hL : L = 0 ∨ L = 1) : (if qX0_becomesWhatItMay_j27 (nI kd) L = 0 then (0 : Int32) else G) = (if 5 < nI kd then 0 else (if nI kd = 1 then 0 else (if nI kd ≤ 1 then (if L = 0 then G else 0) else (if L = 1 then G else 0)))) := by
  unfold qX0_becomesWhatItMay_j27
  have k1 : (5 : Int32) < nI kd ↔ 5 < kd := nI_ltI (a := 5) (by decide) hkd
  have k2 : nI kd = 1 ↔ kd = 1 := nI_eq (b := 1) hkd (by decide)
  have k3 : nI kd ≤ 1 ↔ kd ≤ 1 := nI_leI (b := 1) hkd (by decide)
  have k4 : nI kd = 0 ↔ kd = 0 := nI_eq (b := 0) hkd (by decide)
  have k5 : nI kd < 2 ↔ kd < 2 := nI_ltI (b := 2) hkd (by decide)
  simp only [k1, k2, k3, k4, k5]
  rcases hL with rfl | rfl
  · rw [if_pos rfl]
    by_cases c0 : kd = 0
    · subst c0; rfl
    · rw [if_pos c0, if_pos rfl]
      by_cases c1 : 5 < kd
      · rw [if_pos c1]
      · rw [if_neg c1]
        by_cases c2 : kd = 1
        · rw [if_pos c2]
        · rw [if_neg c2, if_neg (show ¬ kd ≤ 1 by omega), if_neg (show ¬ (0 : Int32) = 1 by decide)]
  · rw [if_neg (show ¬ (1 : Int32) = 0 by decide)]
    by_cases c1 : 5 < kd
    · rw [if_pos c1, if_neg (show ¬ kd < 2 by omega), if_pos c1, if_pos rfl]
    · rw [if_neg c1]
      by_cases c2 : kd < 2
      · rw [if_pos c2, if_pos rfl]
        by_cases c3 : kd = 1
        · rw [if_pos c3, ite_self]
        · rw [if_neg c3, if_pos (show kd ≤ 1 by omega), if_neg (show ¬ (1 : Int32) = 0 by decide), ite_self]
      · rw [if_neg c2, if_neg c1, if_neg (show ¬ (1 : Int32) = 0 by decide), if_neg (show ¬ kd = 1 by omega), if_neg (show ¬ kd ≤ 1 by omega), if_pos rfl]
theorem fits_eq {F0 F1 : Nat → Int32} {A0 A1 : Nat → Nat → Int32} (hbd : A0 0 = A1 1) (hv : ∀ j : Nat, ∃ q : Nat, q ≤ 12 ∧ A1 1 j = nI q) (e1 : F0 1 = F1 2) (e2 : F0 2 = F1 3) (e3 : F0 3 = F1 4) (v3 : F1 2 = 0 ∨ F1 2 = 1) (a : Int32) : qX0_fits F0 A0 a = qX1_isMove F1 A1 a := by
  by_cases c0 : a < 0
  · unfold qX0_fits qX1_isMove
    rw [if_pos c0, if_neg (show ¬ 0 ≤ a by rw [i_nle]; exact c0)]
  obtain ⟨m, hm, rfl⟩ := nI_of c0
  obtain ⟨p1, p2, p3, p4, p5, p6⟩ := mv_parts hm
  unfold qX0_fits qX1_isMove
  rw [if_neg c0, if_pos (i_le c0), p1, p2, p3, p4, p5, p6]
  have hf : m % 64 < 64 := Nat.mod_lt _ (by decide)
  have ht : m / 64 % 64 < 64 := Nat.mod_lt _ (by decide)
  have hkd : m / 4096 < 2 ^ 31 := by omega
  generalize m % 64 = f at hf ⊢
  generalize m / 64 % 64 = t at ht ⊢
  generalize m / 4096 = kd at hkd ⊢
  rw [mv_l v3, nI_clamp (by omega), nI_clamp (by omega)]
  unfold qX1_isMove_j81 qX1_isMove_j142
  rw [nI_clamp (by omega), nI_clamp (by omega), sd_eq hbd hv, sd_eq hbd hv, ty_eq hbd hv, e1]
  by_cases s1 : ¬ qX1_sideOf (A1 1 f) = F1 2
  · rw [if_pos s1, if_pos s1]; simp only [ite_self]
  rw [if_neg s1, if_neg s1]
  have s1 := Decidable.not_not.mp s1
  by_cases s2 : qX1_sideOf (A1 1 t) = F1 2
  · rw [if_pos s2, if_pos s2]; simp only [ite_self]
  rw [if_neg s2, if_neg s2]
  by_cases s3 : qX1_kindOf (A1 1 t) = 6
  · rw [if_pos s3, if_pos s3]; simp only [ite_self]
  rw [if_neg s3, if_neg s3]
  have hft : ¬ nI f = nI t := fun z => s2 (by
    have := (nI_eq (by omega) (by omega)).mp z
    rw [← this]; exact s1)
  rw [if_pos hft, bec_eq (ty_eq hbd hv f) ((sd_eq hbd hv f).trans s1) ht, goes_eq (F1 := F1) hbd hv hf ht hft e1 e2 e3 v3 s1, kd_eq hkd lastF01]
theorem p_fits : pb_fits := by
  intro F0 A0 F1 A1 a h
  obtain ⟨v1, v2, v3, v4, v5, v6⟩ := id h.vd
  obtain ⟨e1, e2, e3, e4, e5, e6⟩ := h.e1
  exact ⟨fits_eq (F1 := uf F1 0 0) h.bd v1 e1 e2 e3 v3 a, h.thr 0⟩
