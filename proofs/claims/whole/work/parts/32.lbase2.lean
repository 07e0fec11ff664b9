def R_law : String := "BoardLaw"
def lw_P (b : Addr) (xs : List Int32) (args : Array Value) (s : State) : Prop := args = #[.ref b] ∧ s.IntsAt b xs ∧ xs.length ≤ 2048 ∧ (Jvm.Cond.and given_1 narrow_1).before args s = true
def lw_Q (_ : Array Value) (s : State) (o : Outcome) (t : State) : Prop := o = .returned (some (.int 1)) ∧ Framed s o t [] 601024 7293033
def lw_Z (below : List Frame) (a : Array Value) (s : State) : State → Prop := fun t => ∃ o, t.status = .running ∧ Ended t below o ∧ lw_Q a s o t
def lw_At (p : Program) (s : State) (m : MethodId) (meth : Method) (c : Code) (b L : Nat) (xs : Nat → Int32) : Prop :=
  p.tables.exec = Jvm.exec ∧ c.code = code ∧ meth.sig.returnType = ret ∧ c.maxLocals = 8 ∧ s.vm.findClass R_law = some m.cls ∧ (∀ w ∈ lw_tbl, w.before #[Value.ref b] s = true) ∧ va_X b L xs s s.heap ∧ b < s.heap.size ∧ meth.locks = false ∧ (Jvm.Cond.and given_1 narrow_1).before #[Value.ref b] s = true
theorem in_sc {i L : Nat} (j : Nat) (h : i + j < L) (hL : L ≤ 2048) {x : Int32} (hx : x = nI i + nI j := by rfl) : vp_in x L := by
  rw [hx, nI_add]; exact vp_in_nI h (by omega)
theorem wAft {cI : ClassId} {o : Nat} {h : Nat → Nat} {u : Int32} {r : tFA} {F : Nat → Int32} {A : Nat → Nat → Int32} : (if u = 0 then wB cI o h r.1 r.2 else wB cI o h F A) = wB cI o h (aft u r F A).1 (aft u r F A).2 := by
  unfold aft
  by_cases z : u = 0
  · rw [if_pos z, if_pos z]
  · rw [if_neg z, if_neg z]
theorem wAfo {cI cJ : ClassId} {o ho : Nat} {h : Nat → Nat} {u : Int32} {r : tFA} {F : Nat → Int32} {A : Nat → Nat → Int32} {fo : Nat → Int64} {x : Int64} : (if u = 0 then (((ho, .inl (cJ, 1, .inr (.inl (vp_updL fo (Int32.toNatClampNeg 0) x)))) : Nat × va_E) :: wB cI o h r.1 r.2) else ((ho, .inl (cJ, 1, .inr (.inl fo))) :: wB cI o h F A)) = (ho, .inl (cJ, 1, .inr (.inl (foB u fo x)))) :: wB cI o h (aft u r F A).1 (aft u r F A).2 := by
  unfold aft foB
  by_cases z : u = 0
  · rw [if_pos z, if_pos z, if_pos z]
  · rw [if_neg z, if_neg z, if_neg z]
theorem wAfo2 {cI cJ : ClassId} {o ho : Nat} {h : Nat → Nat} {u : Int32} {F : Nat → Int32} {A : Nat → Nat → Int32} {fo : Nat → Int64} {x : Int64} : (if u = 0 then (((ho, .inl (cJ, 1, .inr (.inl (vp_updL fo (Int32.toNatClampNeg 0) x)))) : Nat × va_E) :: wB cI o h F A) else ((ho, .inl (cJ, 1, .inr (.inl fo))) :: wB cI o h F A)) = (ho, .inl (cJ, 1, .inr (.inl (foB u fo x)))) :: wB cI o h F A := by
  unfold foB
  by_cases z : u = 0
  · rw [if_pos z, if_pos z]
  · rw [if_neg z, if_neg z]
theorem un0 {u k : Int32} (h : (if u = 0 then 0 else k) = 0) (hk : ¬ k = 0 := by (first | decide | (split <;> decide))) : u = 0 := by
  by_cases z : u = 0
  · exact z
  · rw [if_neg z] at h; exact absurd h hk
theorem lgc {x y : Int64} (h : x = y) : lg_cmp x y = 0 := (lg_cmp_eq x y).mpr h
