/-! Methods that may throw: what they stand on (statics of Throwable, texts, words of the tables), their contracts, the throw itself. -/
def xIO : String := "java/lang/IndexOutOfBoundsException"
def xIA : String := "java/lang/IllegalArgumentException"
def xIS : String := "java/lang/IllegalStateException"
def xNames : List String := ["java/lang/RuntimeException", "java/lang/Exception"]
def xStr : List (Nat × String) := [(51, "no such square"), (58, "no such piece"), (67, "the board has 32 pieces"), (76, "no such side"), (78, "no such rights"), (80, "passing is neither a square nor NONE"), (88, "half is not 0 .. 9999"), (90, "full is not 1 .. 9999"), (125, "no move of the position"), (130, "600 moves can be taken back"), (155, "no move can be taken back")]
def xInit (X : String) : MethodName := ⟨X, "<init>", "(Ljava/lang/String;)V"⟩
def xSup : List String := ["java/lang/RuntimeException", "java/lang/Exception", "java/lang/Throwable"]
def xEx : List String := [xIO, xIA, xIS]
def xNo : List (String × String) := [(xIA, xIO), (xIA, xIS), (xIS, xIO), (xIS, xIA), (xIO, xIA), (xIO, xIS)]
def xRank : Nat → Value := fun j => .int (([4, 2, 3, 5, 6, 3, 2, 4] : List Int32).getD j 0)
def xE (A : Nat → Prop) (U : State) (H : Heap) : Prop :=
  vx_Zq Bundle.tN "UNASSIGNED_STACK" Bundle.steD A U H ∧ vx_Zq Bundle.tN "SUPPRESSED_SENTINEL" Bundle.listD A U H ∧ (∀ q ∈ xStr, ∃ sa : Nat, vk_R RX0 q.1 q.2 sa U) ∧ (∀ X ∈ xSup, va_Nw (.declares (xInit X)) U) ∧ (∀ X ∈ xEx, va_Nw (.castable X X) U) ∧ (∀ q ∈ xNo, va_Nc q.1 q.2 U) ∧
    ∃ tF : Nat, va_Z RX0 "FIRST_RANK" "[I" (.ref tF) A U H ∧ va_T .int tF 8 xRank A U H
theorem xE.moved {A : Nat → Prop} {s U : State} {H : Heap} (hW : s.WarmedH U.vm) (h : xE A s H) : xE A U H := by
  obtain ⟨h1, h2, h3, h4, h5, h6, t, h7, h8⟩ := h
  exact ⟨h1.moved hW.alike, h2.moved hW.alike, fun q hq => (h3 q hq).imp (fun _ z => z.warm hW), fun X hX => (h4 X hX).warmD hW, fun X hX => (h5 X hX).warmC hW, fun q hq => (h6 q hq).moved hW.alike, t, h7.moved hW.alike, h8.moved hW.alike⟩
theorem xE.same {A : Nat → Prop} {s U : State} {H : Heap} (hv : U.vm = s.vm) (h : xE A s H) : xE A U H := by
  have al : s.vm.Alike U.vm := by rw [hv]; exact Vm.Alike.refl _
  obtain ⟨h1, h2, h3, h4, h5, h6, t, h7, h8⟩ := h
  exact ⟨h1.moved al, h2.moved al, fun q hq => (h3 q hq).imp (fun _ z => z.same hv), fun X hX => (h4 X hX).same rfl hv.symm, fun X hX => (h5 X hX).same rfl hv.symm, fun q hq => (h6 q hq).moved al, t, h7.moved al, h8.moved al⟩
theorem xE.kept {A : Nat → Prop} {U : State} {H H1 : Heap} (h : xE A U H) (hq : ∀ a : Nat, a < H.size → ¬ A a → H1[a]? = H[a]?) : xE A U H1 := by
  obtain ⟨h1, h2, h3, h4, h5, h6, t, h7, h8⟩ := h
  exact ⟨h1.kept hq, h2.kept hq, h3, h4, h5, h6, t, h7.kept hq, h8.kept hq⟩
theorem xE.narrow {A B : Nat → Prop} {U : State} {H : Heap} (h : xE A U H) (hAB : ∀ q, B q → A q) : xE B U H := by
  obtain ⟨h1, h2, h3, h4, h5, h6, t, h7, h8⟩ := h
  exact ⟨h1.narrow hAB, h2.narrow hAB, h3, h4, h5, h6, t, h7.narrow hAB, h8.narrow hAB⟩
theorem xE.at {A0 B : Nat → Prop} {s U : State} {H : Heap} {locs : List Loc} (h : xE A0 s s.heap) (hS : va_S A0 s.heap H locs) (hB : ∀ q, B q → A0 q) (hW : s.WarmedH U.vm) : xE B U H :=
  ((h.kept (fun a ha hn => hS.2.1 a ha hn)).narrow hB).moved hW
def exN (k : Int32) : String := if k = 1 then xIO else if k = 2 then xIA else xIS
abbrev xPre (D : va_G) (tys : List (ClassId × FieldType)) (wc : va_W) (as : List Value) (sz : Nat) : Array Value → State → Prop :=
  va_Pc as (fun U => U.heap.size = sz ∧ va_P D vwCl wc U.heap ∧ va_K D vwCl tys U ∧ va_D (fun _ => True) wc ∧ xE (va_A wc sz) U U.heap)
abbrev xX (D : va_G) (tys : List (ClassId × FieldType)) (u : Int32) (wc : va_W) (A : Nat → Prop) : String → State → State → Prop :=
  vx_X (fun (_ : Unit) => ¬ u = 0) (fun E _ t => E = exN u ∧ cEnd D tys wc A t) A
abbrev xQi (D : va_G) (tys : List (ClassId × FieldType)) (u r : Int32) (wc' : va_W) (A : Nat → Prop) : Array Value → State → Outcome → State → Prop :=
  va_Qi (fun r' (_ : Unit) => u = 0 ∧ r' = r) (fun _ t => cEnd D tys wc' A t) A
abbrev xQl (D : va_G) (tys : List (ClassId × FieldType)) (u : Int32) (r : Int64) (wc' : va_W) (A : Nat → Prop) : Array Value → State → Outcome → State → Prop :=
  va_Ql (fun r' (_ : Unit) => u = 0 ∧ r' = r) (fun _ t => cEnd D tys wc' A t) A
abbrev xQv (D : va_G) (tys : List (ClassId × FieldType)) (u : Int32) (wc' : va_W) (A : Nat → Prop) : Array Value → State → Outcome → State → Prop :=
  va_Qv (fun (_ : Unit) => u = 0) (fun _ t => cEnd D tys wc' A t) A
/-- a method that may throw: u = 0 and the answer r, or the exception of kind u, the cells as they were -/
def xMi (l : Launch) (y : MethodName) (ws : List Cond) (rm : Room) (D : va_G) (tys : List (ClassId × FieldType)) (wc : va_W) (as : List Value) (u r : Int32) (wc' : va_W) : Prop :=
  ∀ sz : Nat, vx_Met l y ws rm (xPre D tys wc as sz) (xQi D tys u r wc' (va_A wc sz)) (xX D tys u wc (va_A wc sz)) 1 6 (va_A wc sz)
def xMl (l : Launch) (y : MethodName) (ws : List Cond) (rm : Room) (D : va_G) (tys : List (ClassId × FieldType)) (wc : va_W) (as : List Value) (u : Int32) (r : Int64) (wc' : va_W) : Prop :=
  ∀ sz : Nat, vx_Met l y ws rm (xPre D tys wc as sz) (xQl D tys u r wc' (va_A wc sz)) (xX D tys u wc (va_A wc sz)) 1 6 (va_A wc sz)
def xMv (l : Launch) (y : MethodName) (ws : List Cond) (rm : Room) (D : va_G) (tys : List (ClassId × FieldType)) (wc : va_W) (as : List Value) (u : Int32) (wc' : va_W) : Prop :=
  ∀ sz : Nat, vx_Met l y ws rm (xPre D tys wc as sz) (xQv D tys u wc' (va_A wc sz)) (xX D tys u wc (va_A wc sz)) 1 6 (va_A wc sz)
def xBody (l : Launch) (y : MethodName) (ws : List Cond) (rm : Room) (D : va_G) (tys : List (ClassId × FieldType)) (wc : va_W) (as : List Value) (cc : ByteArray) (maxL : Nat) (ret : Option FieldType) (Qc : (Nat → Prop) → Array Value → State → Outcome → State → Prop) (XC : (Nat → Prop) → String → State → State → Prop) : Prop :=
  ∀ (p : Program) (e : Env) (s : State) (m : MethodId) (below : List Frame) (meth : Method) (c : Code) (A : Nat → Prop) (ls : Array Slot), p.tables.exec = Jvm.exec → c.code = cc → meth.sig.returnType = ret → (∀ w ∈ ws, w.before as.toArray s = true) → s.vm.findClass y.cls = some m.cls → c.maxLocals = maxL → meth.locks = false → (∀ q : Nat, s.heap.size ≤ q → A q) → va_K D vwCl tys s → va_P D vwCl wc s.heap → va_D A wc → va_S A s.heap s.heap [] → lv_has ls maxL (lv_args 0 as) → (∀ x ∈ c.exceptionTable.toList, False) → xE A s s.heap →
    W p l e rm s m as.toArray below meth c s.heap [] 0 0 (vx_MQ below (Qc A) (XC A) as.toArray s 1 6 A) (F0 m 0 ls [])
theorem xMet_of {l : Launch} {y : MethodName} {ws ws' : List Cond} {rm : Room} {D : va_G} {tys : List (ClassId × FieldType)} {wc : va_W} {as : List Value} {cc : ByteArray} {maxL : Nat} {ret : Option FieldType} {Qc : (Nat → Prop) → Array Value → State → Outcome → State → Prop} {XC : (Nat → Prop) → String → State → State → Prop}
    (hy : plainName y.cls = true) (hw : ws = Cond.code y cc maxL ret :: ws') (hlen : (lg_sl as).length ≤ maxL) (body : xBody l y ws rm D tys wc as cc maxL ret Qc XC) (sz : Nat) : vx_Met l y ws rm (xPre D tys wc as sz) (Qc (va_A wc sz)) (XC (va_A wc sz)) 1 6 (va_A wc sz) := by
  refine vx_ofW (cc := cc) (maxL := maxL) (ret := ret) hy hw ?_
  intro p e s m args below meth c s₁ B hml hno hv
  obtain ⟨rfl, hsz, hP, hK, hD0, hE⟩ := hv
  have hD := hD0.self (sz := s.heap.size)
  subst hsz
  rw [lg_entry_eq]
  exact body p e s m below meth c (va_A wc s.heap.size) _ B.exec B.bytes B.returns (atoms_spec (ws := ws) B.pre) (findClass_of_methodNamed B.named) hml B.notSynchronized (fun q h => Or.inr h) hK hP hD va_S.rf (lv_entry as hlen) hno hE
/-- an ordinary method (it throws nothing) that stands on the same -/
def eBody (l : Launch) (y : MethodName) (ws : List Cond) (rm : Room) (D : va_G) (tys : List (ClassId × FieldType)) (wc : va_W) (as : List Value) (cc : ByteArray) (maxL : Nat) (ret : Option FieldType) (Qc : (Nat → Prop) → Array Value → State → Outcome → State → Prop) : Prop :=
  ∀ (p : Program) (e : Env) (s : State) (m : MethodId) (below : List Frame) (meth : Method) (c : Code) (A : Nat → Prop) (ls : Array Slot), p.tables.exec = Jvm.exec → c.code = cc → meth.sig.returnType = ret → (∀ w ∈ ws, w.before as.toArray s = true) → s.vm.findClass y.cls = some m.cls → c.maxLocals = maxL → meth.locks = false → (∀ q : Nat, s.heap.size ≤ q → A q) → va_K D vwCl tys s → va_P D vwCl wc s.heap → va_D A wc → va_S A s.heap s.heap [] → lv_has ls maxL (lv_args 0 as) → xE A s s.heap →
    W p l e rm s m as.toArray below meth c s.heap [] 0 0 (MQ below (Qc A) as.toArray s 0 0 A) (F0 m 0 ls [])
def eMv (l : Launch) (y : MethodName) (ws : List Cond) (rm : Room) (D : va_G) (tys : List (ClassId × FieldType)) (wc : va_W) (as : List Value) (wc' : va_W) : Prop :=
  ∀ sz : Nat, Met l y ws rm (xPre D tys wc as sz) (cQv D tys wc' (va_A wc sz)) 0 0 (va_A wc sz)
theorem eMet_of {l : Launch} {y : MethodName} {ws ws' : List Cond} {rm : Room} {D : va_G} {tys : List (ClassId × FieldType)} {wc : va_W} {as : List Value} {cc : ByteArray} {maxL : Nat} {ret : Option FieldType} {Qc : (Nat → Prop) → Array Value → State → Outcome → State → Prop}
    (hy : plainName y.cls = true) (hw : ws = Cond.code y cc maxL ret :: ws') (hlen : (lg_sl as).length ≤ maxL) (body : eBody l y ws rm D tys wc as cc maxL ret Qc) (sz : Nat) : Met l y ws rm (xPre D tys wc as sz) (Qc (va_A wc sz)) 0 0 (va_A wc sz) := by
  refine Met.ofW (cc := cc) (maxL := maxL) (ret := ret) hy hw ?_
  intro p e s m args below meth c s₁ B hml hv
  obtain ⟨rfl, hsz, hP, hK, hD0, hE⟩ := hv
  have hD := hD0.self (sz := s.heap.size)
  subst hsz
  rw [lg_entry_eq]
  exact body p e s m below meth c (va_A wc s.heap.size) _ B.exec B.bytes B.returns (atoms_spec (ws := ws) B.pre) (findClass_of_methodNamed B.named) hml B.notSynchronized (fun q h => Or.inr h) hK hP hD va_S.rf (lv_entry as hlen) hE
theorem xBlind {D : va_G} {tys : List (ClassId × FieldType)} {wc : va_W} {as : List Value} {sz : Nat} : FrameBlind (xPre D tys wc as sz) := fun a U g mk q => by
  obtain ⟨q0, q1, qP, qK, qD, qE⟩ := q
  exact ⟨q0, q1, qP, va_K.moved (u := U) (U := U.calling g mk a) (Vm.Alike.refl U.vm) qK, qD, qE.same rfl⟩
section XR
variable {p : Program} {l : Launch} {e : Env} {R : Room} {s : State} {m : MethodId} {args : Array Value} {below : List Frame} {meth : Method} {c : Code} {H : Heap} {locs : List Loc} {cc : ByteArray} {pc : Nat} {ls : Array Slot} {rest : List Value} {D : va_G} {tys : List (ClassId × FieldType)} {wc wc' : va_W} {A : Nat → Prop} {XC : String → State → State → Prop}
theorem xRi (hx : p.tables.exec = Jvm.exec) (hb : c.code = cc) (hr : meth.sig.returnType = some .int) (hlk : meth.locks = false) (hK : va_K D vwCl tys s) (hP : va_P D vwCl wc' H) (hD : va_D A wc') (hS : va_S A s.heap H locs) {u v r : Int32} (hv : u = 0 ∧ v = r) (hdg : decode cc pc = .ok (.ireturn, 1)) :
    W p l e R s m args below meth c H locs 0 0 (vx_MQ below (xQi D tys u r wc' A) XC args s 1 6 A) (F0 m pc ls [.int v]) :=
  vx_ret (W.widen (k := 1) (n := 6) (by decide) (by decide) (W.iret hx hb hr (fun t ht hW => ⟨⟨v, (), rfl, hv, by rw [ht]; exact hP, va_K.moved hW.alike hK, hD⟩, hS.F ht⟩) hS.2.2 hdg hlk))
theorem xRl (hx : p.tables.exec = Jvm.exec) (hb : c.code = cc) (hr : meth.sig.returnType = some .long) (hlk : meth.locks = false) (hK : va_K D vwCl tys s) (hP : va_P D vwCl wc' H) (hD : va_D A wc') (hS : va_S A s.heap H locs) {u : Int32} {v r : Int64} (hv : u = 0 ∧ v = r) (hdg : decode cc pc = .ok (.lreturn, 1)) :
    W p l e R s m args below meth c H locs 0 0 (vx_MQ below (xQl D tys u r wc' A) XC args s 1 6 A) (F0 m pc ls [.long v]) :=
  vx_ret (W.widen (k := 1) (n := 6) (by decide) (by decide) (W.lret hx hb hr (fun t ht hW => ⟨⟨v, (), rfl, hv, by rw [ht]; exact hP, va_K.moved hW.alike hK, hD⟩, hS.F ht⟩) hS.2.2 hdg hlk))
theorem xRv (hx : p.tables.exec = Jvm.exec) (hb : c.code = cc) (hr : meth.sig.returnType = none) (hlk : meth.locks = false) (hK : va_K D vwCl tys s) (hP : va_P D vwCl wc' H) (hD : va_D A wc') (hS : va_S A s.heap H locs) {u : Int32} (hv : u = 0) (hdg : decode cc pc = .ok (.return_, 1)) :
    W p l e R s m args below meth c H locs 0 0 (vx_MQ below (xQv D tys u wc' A) XC args s 1 6 A) (F0 m pc ls []) :=
  vx_ret (W.widen (k := 1) (n := 6) (by decide) (by decide) (W.vret hx hb hr (fun t ht hW => ⟨⟨(), rfl, hv, by rw [ht]; exact hP, va_K.moved hW.alike hK, hD⟩, hS.F ht⟩) hS.2.2 hdg hlk))
def xBad (cls : String) : List Cond := [.declares (xInit "java/lang/RuntimeException"), .declares (xInit "java/lang/Exception"), .declares (xInit "java/lang/Throwable"), .castable cls cls]
/-- what the tables decide of a throw of cls in Board: ik the class's entry, ic its constructor's -/
def xTab (ik ic : Nat) (cls : String) : Prop := Bundle.fit cls = true ∧ (∀ n ∈ xNames, Bundle.fit n = true) ∧ (∀ w ∈ (vx_atS RX0 ic cls xNames).filter (fun w => !goodWord w), w ∈ xBad cls) ∧ (∀ w ∈ Cond.classLink RX0 ik cls :: Cond.initialized cls :: vx_atS RX0 ic cls xNames, vx_ot w = true) ∧ cls ∈ xEx
set_option maxRecDepth 20000 in
theorem xTabIO : xTab 49 53 xIO := ⟨by decide +kernel, by decide +kernel, by decide +kernel, by decide +kernel, by decide +kernel⟩
set_option maxRecDepth 20000 in
theorem xTabIA : xTab 56 60 xIA := ⟨by decide +kernel, by decide +kernel, by decide +kernel, by decide +kernel, by decide +kernel⟩
set_option maxRecDepth 20000 in
theorem xTabIS : xTab 65 69 xIS := ⟨by decide +kernel, by decide +kernel, by decide +kernel, by decide +kernel, by decide +kernel⟩
theorem xThrow {Qc : Array Value → State → Outcome → State → Prop} {Ts : List Cond} {ik is ic : Nat} {cls text : String} {u : Int32} (hx : p.tables.exec = Jvm.exec) (hb : c.code = cc) (hl : l.stackTraces = false) (hml : c.maxLocals = ls.size) (hts : ∀ w ∈ Ts, w.before args s = true) (hown : s.vm.findClass RX0 = some m.cls) (hlk : meth.locks = false) (hno : ∀ x ∈ c.exceptionTable.toList, False) (hT : xTab ik ic cls)
    (hk : Cond.classLink RX0 ik cls ∈ Ts) (hini : Cond.initialized cls ∈ Ts) (hg : ∀ w ∈ (vx_atS RX0 ic cls xNames).filter goodWord, w ∈ Ts) (hstr : (is, text) ∈ xStr) (hE : xE A s s.heap)
    (d0 : decode cc pc = .ok (.new ik, 3)) (d3 : decode cc (pc + 3) = .ok (.dup, 1)) (d4 : decode cc (pc + 4) = .ok (.ldc is, 2)) (d6 : decode cc (pc + 6) = .ok (.invokespecial ic, 3)) (d9 : decode cc (pc + 9) = .ok (.athrow, 1))
    (hfr : 5 < R.frames) (hlo : (rest.map fun v => v.category).sum + 82 ≤ R.locals) (hce : 1 ≤ R.cells) (hsl : 6 ≤ R.slots) (hK : va_K D vwCl tys s) (hP : va_P D vwCl wc H) (hD : va_D A wc) (hS : va_S A s.heap H locs) (hu : ¬ u = 0) (hcn : cls = exN u) :
    W p l e R s m args below meth c H locs 0 0 (vx_MQ below Qc (xX D tys u wc A) args s 1 6 A) (F0 m pc ls rest) := by
  obtain ⟨h1, h2, h3, h4, h5, h6, -⟩ := hE
  obtain ⟨t1, t2, t3, t4, t5⟩ := hT
  obtain ⟨sa, hsa⟩ := h3 _ hstr
  refine vx_throwS (names := xNames) (A := A) hx hb hl hown t1 t2 (hts _ hk) (hts _ hini) hsa (vx_hat (fun w hw => hts w (hg w hw)) t3 ?_) t4 h1 h2 hS hml.symm d0 d3 d4 d6 d9 (fun x hx => (hno x hx).elim) hfr hlo (by rw [Nat.zero_add]; exact hce) (by rw [Nat.zero_add]; exact hsl) hlk ?_ hS.2.2 (by decide) (by decide)
  · intro w hw
    have e3 : ∀ X ∈ xSup, (Cond.declares (xInit X)).before args s = true := fun X hX => (h4 X hX).use rfl
    simp only [xBad, List.mem_cons, List.not_mem_nil, or_false] at hw
    rcases hw with rfl | rfl | rfl | rfl
    · exact e3 _ (by decide)
    · exact e3 _ (by decide)
    · exact e3 _ (by decide)
    · exact (h5 _ t5).use rfl
  · intro t hvm hz hk
    refine ⟨(), hu, ⟨hcn, hP.kept (fun k q h => hk q.1 (vx_lt hP h)), va_K.moved hvm hK, hD⟩, Nat.le_trans hS.1 hz, fun q h1 h2 => ?_⟩
    rw [hk q (Nat.lt_of_lt_of_le h1 hS.1)]
    exact hS.2.1 q h1 h2
end XR
