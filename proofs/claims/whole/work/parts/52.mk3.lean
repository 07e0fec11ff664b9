/-! make: the squares behind the move, and back. -/
def Pv (bd : Nat → Int32) : Prop := ∀ j : Nat, ∃ q : Nat, q ≤ 12 ∧ bd j = nI q
theorem pv_u {bd : Nat → Int32} {i : Nat} {x : Int32} (h : Pv bd) (hx : ∃ q : Nat, q ≤ 12 ∧ x = nI q) : Pv (upd bd i x) := by
  intro j
  by_cases z : j = i
  · subst z; rw [pk_us]; exact hx
  · rw [pk_un z]; exact h j
theorem z_u {bd : Nat → Int32} {i : Nat} {x : Int32} (h : ∀ j : Nat, 64 ≤ j → bd j = 0) (hi : i < 64) : ∀ j : Nat, 64 ≤ j → upd bd i x j = 0 := by
  intro j hj
  rw [pk_un (by omega)]; exact h j hj
theorem pv_0 : ∃ q : Nat, q ≤ 12 ∧ (0 : Int32) = nI q := ⟨0, by decide, rfl⟩
theorem w1_le (x : Int32) : w1 x ≤ 1 := by unfold w1; split <;> decide
theorem w1_0 : w1 0 = 0 := rfl
theorem w1_n {x : Int32} (h : ¬ x = 0) : w1 x = 1 := by unfold w1; rw [if_neg h]
theorem cnt_P {bd : Nat → Int32} {tq f t : Nat} {v : Int32} (hq : tq < 64) (hf : f < 64) (ht : t < 64) (hqf : ¬ tq = f) (h0 : ¬ bd f = 0) : cnt (bdP bd tq f t v) 64 ≤ cnt bd 64 := by
  unfold bdP
  have c1 := cnt_u (bd := bd) (i := tq) (x := 0) hq
  have c2 := cnt_u (bd := upd bd tq 0) (i := f) (x := 0) hf
  have c3 := cnt_u (bd := upd (upd bd tq 0) f 0) (i := t) (x := v) ht
  rw [pk_un (fun z => hqf z.symm), w1_n h0] at c2
  rw [w1_0] at c1 c2
  have := w1_le v
  omega
theorem cnt_C {bd : Nat → Int32} {g c : Nat} (hg : g < 64) (hc : c < 64) (hgc : ¬ g = c) : cnt (bdC bd g c) 64 ≤ cnt bd 64 := by
  unfold bdC
  have c1 := cnt_u (bd := bd) (i := g) (x := bd c) hg
  have c2 := cnt_u (bd := upd bd g (bd c)) (i := c) (x := 0) hc
  rw [pk_un (fun z => hgc z.symm), w1_0] at c2
  omega
theorem nb_A {bd : Nat → Int32} {f t tq : Nat} {v : Int32} (hf : f < 64) (ht : t < 64) (hq : tq < 64) (hft : ¬ f = t) (hqf : ¬ tq = f) (hqt : tq = t ∨ bd t = 0) (hp : Pv bd) (hz : ∀ j : Nat, 64 ≤ j → bd j = 0) (hc : cnt bd 64 ≤ 32) (h0 : ¬ bd f = 0) (hv : ∃ q : Nat, q ≤ 12 ∧ v = nI q) (hcas : qX0_isCastling (bd f) (nI f) (nI t) = 0) :
    Pv (bdP bd tq f t v) ∧ (∀ j : Nat, 64 ≤ j → bdP bd tq f t v j = 0) ∧ cnt (bdP bd tq f t v) 64 ≤ 32 ∧ bdP bd tq f t v t = v ∧ cb37 (bdP bd tq f t v) (bd tq) (nI tq) (nI f) (nI t) (bd f) = bd := by
  refine ⟨pv_u (pv_u (pv_u hp pv_0) pv_0) hv, z_u (z_u (z_u hz hq) hf) ht, Nat.le_trans (cnt_P hq hf ht hqf h0) hc, pk_us, ?_⟩
  unfold cb37
  rw [if_pos hcas, nI_clamp (by omega), nI_clamp (by omega), nI_clamp (by omega)]
  funext j
  by_cases c1 : j = f
  · subst c1; exact pk_us
  rw [pk_un c1]
  by_cases c2 : j = tq
  · subst c2; exact pk_us
  rw [pk_un c2]
  by_cases c3 : j = t
  · subst c3
    rw [pk_us]
    rcases hqt with z | z
    · exact absurd z.symm c2
    · exact z.symm
  unfold bdP
  rw [pk_un c3, pk_un c3, pk_un c1, pk_un c2]
theorem nb_B {bd : Nat → Int32} {f t c g : Nat} (hf : f < 64) (ht : t < 64) (hc : c < 64) (hg : g < 64) (d1 : ¬ f = t) (d2 : ¬ f = c) (d3 : ¬ f = g) (d4 : ¬ t = c) (d5 : ¬ t = g) (d6 : ¬ g = c) (bg0 : bd g = 0) (bt0 : bd t = 0) (hp : Pv bd) (hz : ∀ j : Nat, 64 ≤ j → bd j = 0) (hcn : cnt bd 64 ≤ 32) (h0 : ¬ bd f = 0) (hcor : qX0_cornerBeyond (nI f) (nI t) = nI c) (hmid : (nI f + nI t) / 2 = nI g) (hcas : ¬ qX0_isCastling (bd f) (nI f) (nI t) = 0) :
    shB bd (nI c) (nI g) = bdC bd g c ∧ bdC (bdP bd t f t (bd f)) g c = bdP (bdC bd g c) t f t (bd f) ∧ Pv (bdP (bdC bd g c) t f t (bd f)) ∧ (∀ j : Nat, 64 ≤ j → bdP (bdC bd g c) t f t (bd f) j = 0) ∧ cnt (bdP (bdC bd g c) t f t (bd f)) 64 ≤ 32 ∧ bdP (bdC bd g c) t f t (bd f) t = bd f ∧ cb37 (bdP (bdC bd g c) t f t (bd f)) (bd t) (nI t) (nI f) (nI t) (bd f) = bd := by
  have eC : bdC bd g c f = bd f := by unfold bdC; rw [pk_un d2, pk_un d3]
  refine ⟨?_, ?_, pv_u (pv_u (pv_u (pv_u (pv_u hp (hp c)) pv_0) pv_0) pv_0) (hp f), z_u (z_u (z_u (z_u (z_u hz hg) hc) ht) hf) ht, Nat.le_trans (cnt_P ht hf ht (fun z => d1 z.symm) (by rw [eC]; exact h0)) (Nat.le_trans (cnt_C hg hc d6) hcn), pk_us, ?_⟩
  · unfold shB bdC
    rw [if_neg (sqOf hc), if_neg (sqOf hg), nI_clamp (by omega), nI_clamp (by omega)]
  · have e3 : bdP bd t f t (bd f) c = bd c := by unfold bdP; rw [pk_un (fun z => d4 z.symm), pk_un (fun z => d2 z.symm), pk_un (fun z => d4 z.symm)]
    funext j
    unfold bdC
    rw [e3]
    unfold bdP
    by_cases c1 : j = c
    · subst c1
      rw [pk_us, pk_un (fun z => d4 z.symm), pk_un (fun z => d2 z.symm), pk_un (fun z => d4 z.symm), pk_us]
    rw [pk_un c1]
    by_cases c2 : j = g
    · subst c2
      rw [pk_us, pk_un (fun z => d5 z.symm), pk_un (fun z => d3 z.symm), pk_un (fun z => d5 z.symm), pk_un c1, pk_us]
    rw [pk_un c2]
    by_cases c3 : j = t
    · subst c3; rw [pk_us, pk_us]
    rw [pk_un c3, pk_un c3]
    by_cases c4 : j = f
    · subst c4; rw [pk_us, pk_us]
    rw [pk_un c4, pk_un c4, pk_un c3, pk_un c3, pk_un c1, pk_un c2]
  · unfold cb37 shB
    rw [if_neg hcas, hmid, hcor, if_neg (sqOf hg), if_neg (sqOf hc), nI_clamp (by omega), nI_clamp (by omega), nI_clamp (by omega), nI_clamp (by omega)]
    have e4 : upd (upd (upd (bdP (bdC bd g c) t f t (bd f)) t 0) t (bd t)) f (bd f) g = bd c := by
      unfold bdP bdC
      rw [pk_un (fun z => d3 z.symm), pk_un (fun z => d5 z.symm), pk_un (fun z => d5 z.symm), pk_un (fun z => d5 z.symm), pk_un (fun z => d3 z.symm), pk_un (fun z => d5 z.symm), pk_un d6, pk_us]
    rw [e4]
    funext j
    by_cases c1 : j = g
    · subst c1; rw [pk_us, bg0]
    rw [pk_un c1]
    by_cases c2 : j = c
    · subst c2; exact pk_us
    rw [pk_un c2]
    by_cases c3 : j = f
    · subst c3; exact pk_us
    rw [pk_un c3]
    by_cases c4 : j = t
    · subst c4; exact pk_us
    rw [pk_un c4, pk_un c4]
    unfold bdP bdC
    rw [pk_un c4, pk_un c3, pk_un c4, pk_un c2, pk_un c1]
theorem cas_g {f t c g : Nat} (h : f = 4 ∧ ((t = 6 ∧ c = 7 ∧ g = 5) ∨ (t = 2 ∧ c = 0 ∧ g = 3)) ∨ f = 60 ∧ ((t = 62 ∧ c = 63 ∧ g = 61) ∨ (t = 58 ∧ c = 56 ∧ g = 59))) :
    (c < 64 ∧ g < 64 ∧ ¬ f = t ∧ ¬ f = c ∧ ¬ f = g ∧ ¬ t = c ∧ ¬ t = g ∧ ¬ g = c) ∧ qX0_cornerBeyond (nI f) (nI t) = nI c ∧ (nI f + nI t) / 2 = nI g ∧ (if nI t ≤ nI f then nI f - 4 else nI f + 3) = nI c ∧ ¬ qX0_isTwoFilesAway (nI f) (nI t) = 0 := by
  rcases h with ⟨rfl, ⟨rfl, rfl, rfl⟩ | ⟨rfl, rfl, rfl⟩⟩ | ⟨rfl, ⟨rfl, rfl, rfl⟩ | ⟨rfl, rfl, rfl⟩⟩ <;> exact ⟨by decide, by decide, by decide, by decide, by decide⟩
set_option maxRecDepth 100000 in
theorem two_f : ∀ f, f < 64 → ∀ t, t < 64 → ¬ qX0_isTwoFilesAway (nI f) (nI t) = 0 → 2 ≤ nI (afN f t) := by decide +kernel
theorem att_k {F : Nat → Int32} {A : Nat → Nat → Int32} {f t : Nat} (hf : f < 64) (ht : t < 64) (hk : qX1_kindOf (A 1 f) = 6) (hft : ¬ nI f = nI t) (h : 2 ≤ nI (afN f t)) : qX1_attacks F A (nI f) (nI t) = 0 := by
  unfold qX1_attacks
  obtain ⟨e1, -, -, -⟩ := apN f hf t ht
  rw [nI_clamp (by omega), hk, if_neg (show ¬ (6 : Int32) = 0 by decide), if_pos hft, if_pos (show ¬ (6 : Int32) = 1 by decide), if_pos (show ¬ (6 : Int32) = 2 by decide), if_neg (show ¬ ¬ (6 : Int32) = 6 by decide), e1, if_pos h]
theorem pawn_p : ∀ q, q < 13 → qX1_kindOf (nI q) = 1 → (qX1_sideOf (nI q) = 0 → nI q = qX0_pieceOf 1 0) ∧ (qX1_sideOf (nI q) = 1 → nI q = qX0_pieceOf 1 1) := by decide +kernel
theorem sd_7 {s : Int32} (h : s = 0 ∨ s = 1) : ¬ qX1_sideOf (7 - 6 * s) = s := by
  rcases h with rfl | rfl <;> decide
theorem rem_s {F : Nat → Int32} {A : Nat → Nat → Int32} {p1 p2 p3 : Int32} {md : Nat} (hmd : md < 600) (h6 : F 6 = nI md) : (qX0_remember F A p1 p2 p3).1 = uf F 6 (F 6 + 1) ∧ (qX0_remember F A p1 p2 p3).2 0 = A 0 ∧ (qX0_remember F A p1 p2 p3).2 7 = upd (A 7) md p1 ∧ (qX0_remember F A p1 p2 p3).2 8 = upd (A 8) md p2 ∧ (qX0_remember F A p1 p2 p3).2 9 = upd (A 9) md p3 ∧ (qX0_remember F A p1 p2 p3).2 10 = upd (A 10) md (F 2) ∧ (qX0_remember F A p1 p2 p3).2 11 = upd (A 11) md (F 3) ∧ (qX0_remember F A p1 p2 p3).2 12 = upd (A 12) md (F 4) := by
  unfold qX0_remember
  rw [h6, nI_clamp (by omega)]
  refine ⟨rfl, ?_, ?_, ?_, ?_, ?_, ?_, ?_⟩ <;> dsimp only
  · rw [ua_n (by decide), ua_n (by decide), ua_n (by decide), ua_n (by decide), ua_n (by decide), ua_n (by decide)]
  · rw [ua_n (by decide), ua_n (by decide), ua_n (by decide), ua_n (by decide), ua_n (by decide), ua_s]
  · rw [ua_n (by decide), ua_n (by decide), ua_n (by decide), ua_n (by decide), ua_s, ua_n (by decide)]
  · rw [ua_n (by decide), ua_n (by decide), ua_n (by decide), ua_s, ua_n (by decide), ua_n (by decide)]
  · rw [ua_n (by decide), ua_n (by decide), ua_s, ua_n (by decide), ua_n (by decide), ua_n (by decide)]
  · rw [ua_n (by decide), ua_s, ua_n (by decide), ua_n (by decide), ua_n (by decide), ua_n (by decide)]
  · rw [ua_s, ua_n (by decide), ua_n (by decide), ua_n (by decide), ua_n (by decide), ua_n (by decide)]
theorem Lev.cong2 {A0 A0' A1 A1' : Nat → Nat → Int32} {k : Nat} {bd : Nat → Int32} {sd fl : Int32} (h7 : A0' 7 k = A0 7 k) (h8' : A0' 8 k = A0 8 k) (h9 : A0' 9 k = A0 9 k) (ha : A0' 10 k = A0 10 k) (hb : A0' 11 k = A0 11 k) (hc : A0' 12 k = A0 12 k) (h8 : A1' 8 k = A1 8 k) (hs : sB A1' k = sB A1 k) (h10 : ∀ j : Nat, j < 5 → A1' 10 (5 * k + j) = A1 10 (5 * k + j)) (h : Lev A0 A1 k bd sd fl) : Lev A0' A1' k bd sd fl := by
  unfold Lev at h ⊢
  have z := h10 0 (by decide)
  rw [Nat.add_zero] at z
  rw [h7, h8', h9, ha, hb, hc, h8, hs, z, h10 1 (by decide), h10 2 (by decide), h10 3 (by decide), h10 4 (by decide)]
  exact h
