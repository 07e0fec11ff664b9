def rkF (i : Nat) : Int32 := ([4, 2, 3, 5, 6, 3, 2, 4] : List Int32).getD i 0
theorem sqOf {n : Nat} (h : n < 64) : ¬ qX0_isSquare (nI n) = 0 := by
  unfold qX0_isSquare
  rw [if_neg (nI_pos (by omega)), if_neg (show ¬ (64 : Int32) ≤ nI n from nI_ge (b := 64) h (by decide))]
  decide
theorem sdCases {x : Int32} (h : ¬ qX0_isSide x = 0) : x = 0 ∨ x = 1 := by
  unfold qX0_isSide at h
  by_cases h1 : x = 0
  · exact Or.inl h1
  · rw [if_neg h1] at h
    by_cases h2 : x = 1
    · exact Or.inr h2
    · rw [if_pos h2] at h; exact absurd rfl h
theorem sdOther {x : Int32} (h : ¬ qX0_isSide x = 0) : ¬ qX0_isSide (qX0_otherThan x) = 0 := by
  rcases sdCases h with rfl | rfl <;> decide
theorem mdPos {x : Int32} (hm : ∃ k : Nat, k ≤ 600 ∧ x = nI k) (h : 0 < x) : ∃ k : Nat, k < 600 ∧ x = nI (k + 1) := by
  obtain ⟨k, hk, rfl⟩ := hm
  cases k with
  | zero => exact absurd h (by decide)
  | succ k => exact ⟨k, by omega, rfl⟩
theorem mdLt2 {x : Int32} (hm : ∃ k : Nat, k ≤ 600 ∧ x = nI k) (h : x < 600) : ∃ k : Nat, k < 600 ∧ x = nI k := by
  obtain ⟨k, hk, rfl⟩ := hm
  refine ⟨k, ?_, rfl⟩
  exact (nI_ltI (by omega) (by decide)).mp (h : nI k < nI 600)
section XB
variable {p : Program} {l : Launch} {e : Env} {R : Room} {s : State} {m : MethodId} {args : Array Value} {below : List Frame} {meth : Method} {c : Code} {H : Heap} {locs : List Loc} {cc : ByteArray} {pc : Nat} {ls : Array Slot} {D : va_G} {tys : List (ClassId × FieldType)} {A0 : Nat → Prop} {XC : String → State → State → Prop} {cI : ClassId} {o : Nat} {h : Nat → Nat} {F : Nat → Int32} {A : Nat → Nat → Int32}
theorem xRiB {r0 : Int32 × Int32 × tFA} {v : Int32} (hx : p.tables.exec = Jvm.exec) (hb : c.code = cc) (hr : meth.sig.returnType = some .int) (hlk : meth.locks = false) (hK : va_K D vwCl tys s) (hP : va_P D vwCl (wB cI o h F A) H) (hD : va_D A0 (wB cI o h F A)) (hS : va_S A0 s.heap H locs) (hR : r0 = (0, v, F, A)) (hdg : decode cc pc = .ok (.ireturn, 1)) :
    W p l e R s m args below meth c H locs 0 0 (vx_MQ below (xQi D tys r0.1 r0.2.1 (wB cI o h r0.2.2.1 r0.2.2.2) A0) XC args s 1 6 A0) (F0 m pc ls [.int v]) := by
  subst hR
  exact xRi hx hb hr hlk hK hP hD hS ⟨rfl, rfl⟩ hdg
theorem xRvB {r0 : Int32 × tFA} (hx : p.tables.exec = Jvm.exec) (hb : c.code = cc) (hr : meth.sig.returnType = none) (hlk : meth.locks = false) (hK : va_K D vwCl tys s) (hP : va_P D vwCl (wB cI o h F A) H) (hD : va_D A0 (wB cI o h F A)) (hS : va_S A0 s.heap H locs) (hR : r0 = (0, F, A)) (hdg : decode cc pc = .ok (.return_, 1)) :
    W p l e R s m args below meth c H locs 0 0 (vx_MQ below (xQv D tys r0.1 (wB cI o h r0.2.1 r0.2.2) A0) XC args s 1 6 A0) (F0 m pc ls []) := by
  subst hR
  exact xRv hx hb hr hlk hK hP hD hS rfl hdg
end XB
